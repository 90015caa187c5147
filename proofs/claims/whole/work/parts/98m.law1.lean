/-! THE LAW: its small methods, which catch what the class throws -/
theorem hnd_y {i pc x s e h c : Nat} {ls : AL} {r : List (Nat × Nat × Nat × Nat)} {k : Fin 4} (hr : s ≤ pc ∧ pc < e) (hc : am_lk (am_xT (mOc i)) c = some x) (hd : decode (mB i) h = .ok (.astore_n k, 1)) (hk : (k : Nat) < ls.length) (hp : am_pre ls k = true) : am_hnd i pc x ls ((s, (e, (h, c))) :: r) = some (h + 1, ls.set k none) := by
  unfold am_hnd
  rw [if_pos hr, hc]
  dsimp only
  rw [if_pos rfl, hd]
  exact if_pos ⟨hk, hp⟩
theorem hnd_y2 {i pc x s e h c k : Nat} {ls : AL} {r : List (Nat × Nat × Nat × Nat)} (hr : s ≤ pc ∧ pc < e) (hc : am_lk (am_xT (mOc i)) c = some x) (hd : decode (mB i) h = .ok (.astore k, 2)) (hk : k < ls.length) (hp : am_pre ls k = true) : am_hnd i pc x ls ((s, (e, (h, c))) :: r) = some (h + 2, ls.set k none) := by
  unfold am_hnd
  rw [if_pos hr, hc]
  dsimp only
  rw [if_pos rfl, hd]
  exact if_pos ⟨hk, hp⟩
theorem hnd_n {i pc x x' s e h c : Nat} {ls : AL} {r : List (Nat × Nat × Nat × Nat)} (hr : s ≤ pc ∧ pc < e) (hc : am_lk (am_xT (mOc i)) c = some x') (hx : ¬ x' = x) : am_hnd i pc x ls ((s, (e, (h, c))) :: r) = am_hnd i pc x ls r := by
  rw [am_hnd, if_pos hr, hc]
  dsimp only
  rw [if_neg hx]
theorem hk_go {i pc x pc' : Nat} {ls ls' : AL} {P : Nat → AL → Prop} {N : Prop} {hd : Nat × Nat × Nat × Nat} {tl : List (Nat × Nat × Nat × Nat)} (h1 : mH i = hd :: tl) (h2 : am_hnd i pc x ls (hd :: tl) = some (pc', ls')) : am_hk i pc ls x P N = P pc' ls' := by
  unfold am_hk
  rw [h1]
  dsimp only
  rw [h2]
/-- how a call of the class ends, for a wrapper -/
def LawP (codes : Nat → Option Int) (O : Nat) (Q : (Option AV ⊕ Nat) → AS → Prop) : (Option AV ⊕ Nat) → AS → Prop := kR (fun v τ => ∃ w f, v = some (vI w) ∧ τ.1 O = some (oL 1 f) ∧ Q (.inl (some (vI 0))) (am_st τ O (oL 1 (upL f 0 (Int32.ofInt w).toInt64)))) (fun e τ => ∃ k, codes e = some k ∧ Q (.inl (some (vI k))) τ)
def LwW (G : Nat → Nat) (B O : Nat) (codes : Nat → Option Int) (jL : Nat) (asL : List AV) (jC : Nat) (asC : List AV) : Prop := ∀ (σ : AS) (Q : (Option AV ⊕ Nat) → AS → Prop), CpC σ B → CW G jC asC σ (LawP codes O Q) → CW G jL asL σ Q
section LAW
variable {G : Nat → Nat} {B O : Nat}
def cd_room : Nat → Option Int := fun e => if e = 0 then some 1 else if e = 1 then some 2 else none
theorem L_room {p0 p1 p2 p3 : Int} (hG : G 0 ≤ O) : LwW G B O cd_room k_Law_room [vR B, vI p0, vI p1, vI p2, vI p3, vR O] k_Cp_room [vR B, vI p0, vI p1, vI p2, vI p3] := by
  intro σ Q hB h
  have hB' : σ.1 B = _ := hB
  simp only [c_Law_room, e_Law_room_0, e_Law_room_2, e_Law_room_3, e_Law_room_4, e_Law_room_5, e_Law_room_6, e_Law_room_7, e_Law_room_9, kR_l, kR_r, kP_0, kP_i, kP_r, kP_n, kP_s, kP_o, kLen_I, kLen_L, kLen_R, kLdI_0, kLdI_1, kLdI_2, kLdI_3, kStI_0, kStI_1, kLdL_e, kStL_e, kLdR_e, kStR_e, kFld_e, kNth_0, kNth_s, kPut_e, fit_I, fit_Z, fit_B, fit_C, fit_A, fit_O, Option.toList_some, Option.toList_none, List.cons_append, List.nil_append, true_and, and_true, List.set_cons_zero, List.set_cons_succ, st_same, Int.toNat_natCast, Int.cast_ofNat_Int, Nat.zero_add, Nat.reduceAdd, kRcv_1, kRcv_2, kRcv_3, kRcv_0, kRcv_4, kRcv_5, hB']
  refine CW.mono h (fun r τ hr => ?_)
  rcases r with v | e
  · obtain ⟨w, f, rfl, hO, hq⟩ := hr
    simp only [e_Law_room_12, e_Law_room_13, e_Law_room_14, e_Law_room_19, e_Law_room_20, e_Law_room_23, e_Law_room_24, e_Law_room_25, e_Law_room_26, kR_l, kR_r, kP_0, kP_i, kP_r, kP_n, kP_s, kP_o, kLen_I, kLen_L, kLen_R, kLdI_0, kLdI_1, kLdI_2, kLdI_3, kStI_0, kStI_1, kLdL_e, kStL_e, kLdR_e, kStR_e, kFld_e, kNth_0, kNth_s, kPut_e, fit_I, fit_Z, fit_B, fit_C, fit_A, fit_O, Option.toList_some, Option.toList_none, List.cons_append, List.nil_append, true_and, and_true, List.set_cons_zero, List.set_cons_succ, st_same, Int.toNat_natCast, Int.cast_ofNat_Int, Nat.zero_add, Nat.reduceAdd, kRcv_1, kRcv_2, kRcv_3, kRcv_0, kRcv_4, kRcv_5, hO, Int.reduceToNat]
    refine ⟨⟨hG, by omega, by omega, by omega⟩, ?_⟩
    first | exact hq | exact ⟨trivial, hq⟩ | exact ⟨by simp, hq⟩
  · obtain ⟨k, hk, hq⟩ := hr
    show am_hk k_Law_room 9 [some (vR B), some (vI p0), some (vI p1), some (vI p2), some (vI p3), some (vR O), none] e (fun pc' ls' => WP G k_Law_room pc' ls' [] τ Q) (Q (.inr e) τ)
    have hmh : mH k_Law_room = [(0, (14, (17, 13))), (0, (14, (21, 15)))] := by decide +kernel
    unfold cd_room at hk
    by_cases c0 : e = 0
    · subst c0
      have ek : k = 1 := by simpa using hk.symm
      subst ek
      rw [hk_go (pc' := 19) (ls' := [some (vR B), some (vI p0), some (vI p1), some (vI p2), some (vI p3), some (vR O), none]) hmh (hnd_y2 (k := 6) (by decide) (by decide +kernel) (by decide +kernel) (by simp) rfl)]
      simp only [e_Law_room_19, e_Law_room_20, kR_l, kR_r, kP_0, kP_i, kP_r, kP_n, kP_s, kP_o, kLen_I, kLen_L, kLen_R, kLdI_0, kLdI_1, kLdI_2, kLdI_3, kStI_0, kStI_1, kLdL_e, kStL_e, kLdR_e, kStR_e, kFld_e, kNth_0, kNth_s, kPut_e, fit_I, fit_Z, fit_B, fit_C, fit_A, fit_O, Option.toList_some, Option.toList_none, List.cons_append, List.nil_append, true_and, and_true, List.set_cons_zero, List.set_cons_succ, st_same, Int.toNat_natCast, Int.cast_ofNat_Int, Nat.zero_add, Nat.reduceAdd, kRcv_1, kRcv_2, kRcv_3, kRcv_0, kRcv_4, kRcv_5]
      first | exact hq | exact ⟨trivial, hq⟩ | exact ⟨by simp, hq⟩
    by_cases c1 : e = 1
    · subst c1
      have ek : k = 2 := by simpa using hk.symm
      subst ek
      rw [hk_go (pc' := 23) (ls' := [some (vR B), some (vI p0), some (vI p1), some (vI p2), some (vI p3), some (vR O), none]) hmh ((hnd_n (by decide) (show am_lk (am_xT (mOc k_Law_room)) 13 = some 0 by decide +kernel) (by decide)).trans (hnd_y2 (k := 6) (by decide) (by decide +kernel) (by decide +kernel) (by simp) rfl))]
      simp only [e_Law_room_23, e_Law_room_24, kR_l, kR_r, kP_0, kP_i, kP_r, kP_n, kP_s, kP_o, kLen_I, kLen_L, kLen_R, kLdI_0, kLdI_1, kLdI_2, kLdI_3, kStI_0, kStI_1, kLdL_e, kStL_e, kLdR_e, kStR_e, kFld_e, kNth_0, kNth_s, kPut_e, fit_I, fit_Z, fit_B, fit_C, fit_A, fit_O, Option.toList_some, Option.toList_none, List.cons_append, List.nil_append, true_and, and_true, List.set_cons_zero, List.set_cons_succ, st_same, Int.toNat_natCast, Int.cast_ofNat_Int, Nat.zero_add, Nat.reduceAdd, kRcv_1, kRcv_2, kRcv_3, kRcv_0, kRcv_4, kRcv_5]
      first | exact hq | exact ⟨trivial, hq⟩ | exact ⟨by simp, hq⟩
    simp only [c0, c1, if_false] at hk
    cases hk
def cd_give : Nat → Option Int := fun e => if e = 2 then some 1 else none
theorem L_give {p0 : Int} (hG : G 0 ≤ O) : LwW G B O cd_give k_Law_give [vR B, vI p0, vR O] k_Cp_give [vR B, vI p0] := by
  intro σ Q hB h
  have hB' : σ.1 B = _ := hB
  simp only [c_Law_give, e_Law_give_0, e_Law_give_1, e_Law_give_2, e_Law_give_3, e_Law_give_4, kR_l, kR_r, kP_0, kP_i, kP_r, kP_n, kP_s, kP_o, kLen_I, kLen_L, kLen_R, kLdI_0, kLdI_1, kLdI_2, kLdI_3, kStI_0, kStI_1, kLdL_e, kStL_e, kLdR_e, kStR_e, kFld_e, kNth_0, kNth_s, kPut_e, fit_I, fit_Z, fit_B, fit_C, fit_A, fit_O, Option.toList_some, Option.toList_none, List.cons_append, List.nil_append, true_and, and_true, List.set_cons_zero, List.set_cons_succ, st_same, Int.toNat_natCast, Int.cast_ofNat_Int, Nat.zero_add, Nat.reduceAdd, kRcv_1, kRcv_2, kRcv_3, kRcv_0, kRcv_4, kRcv_5, hB']
  refine CW.mono h (fun r τ hr => ?_)
  rcases r with v | e
  · obtain ⟨w, f, rfl, hO, hq⟩ := hr
    simp only [e_Law_give_7, e_Law_give_8, e_Law_give_9, e_Law_give_13, e_Law_give_14, e_Law_give_15, e_Law_give_16, kR_l, kR_r, kP_0, kP_i, kP_r, kP_n, kP_s, kP_o, kLen_I, kLen_L, kLen_R, kLdI_0, kLdI_1, kLdI_2, kLdI_3, kStI_0, kStI_1, kLdL_e, kStL_e, kLdR_e, kStR_e, kFld_e, kNth_0, kNth_s, kPut_e, fit_I, fit_Z, fit_B, fit_C, fit_A, fit_O, Option.toList_some, Option.toList_none, List.cons_append, List.nil_append, true_and, and_true, List.set_cons_zero, List.set_cons_succ, st_same, Int.toNat_natCast, Int.cast_ofNat_Int, Nat.zero_add, Nat.reduceAdd, kRcv_1, kRcv_2, kRcv_3, kRcv_0, kRcv_4, kRcv_5, hO, Int.reduceToNat]
    refine ⟨⟨hG, by omega, by omega, by omega⟩, ?_⟩
    first | exact hq | exact ⟨trivial, hq⟩ | exact ⟨by simp, hq⟩
  · obtain ⟨k, hk, hq⟩ := hr
    show am_hk k_Law_give 4 [some (vR B), some (vI p0), some (vR O), none] e (fun pc' ls' => WP G k_Law_give pc' ls' [] τ Q) (Q (.inr e) τ)
    have hmh : mH k_Law_give = [(0, (9, (12, 21)))] := by decide +kernel
    unfold cd_give at hk
    by_cases c0 : e = 2
    · subst c0
      have ek : k = 1 := by simpa using hk.symm
      subst ek
      rw [hk_go (pc' := 13) (ls' := [some (vR B), some (vI p0), some (vR O), none]) hmh (hnd_y (k := 3) (by decide) (by decide +kernel) (by decide +kernel) (by simp) rfl)]
      simp only [e_Law_give_13, e_Law_give_14, kR_l, kR_r, kP_0, kP_i, kP_r, kP_n, kP_s, kP_o, kLen_I, kLen_L, kLen_R, kLdI_0, kLdI_1, kLdI_2, kLdI_3, kStI_0, kStI_1, kLdL_e, kStL_e, kLdR_e, kStR_e, kFld_e, kNth_0, kNth_s, kPut_e, fit_I, fit_Z, fit_B, fit_C, fit_A, fit_O, Option.toList_some, Option.toList_none, List.cons_append, List.nil_append, true_and, and_true, List.set_cons_zero, List.set_cons_succ, st_same, Int.toNat_natCast, Int.cast_ofNat_Int, Nat.zero_add, Nat.reduceAdd, kRcv_1, kRcv_2, kRcv_3, kRcv_0, kRcv_4, kRcv_5]
      first | exact hq | exact ⟨trivial, hq⟩ | exact ⟨by simp, hq⟩
    simp only [c0, if_false] at hk
    cases hk
def cd_walk : Nat → Option Int := fun e => if e = 2 then some 1 else if e = 0 then some 2 else none
theorem L_walk {p0 p1 p2 : Int} (hG : G 0 ≤ O) : LwW G B O cd_walk k_Law_walk [vR B, vI p0, vI p1, vI p2, vR O] k_Cp_walk [vR B, vI p0, vI p1, vI p2] := by
  intro σ Q hB h
  have hB' : σ.1 B = _ := hB
  simp only [c_Law_walk, e_Law_walk_0, e_Law_walk_2, e_Law_walk_3, e_Law_walk_4, e_Law_walk_5, e_Law_walk_6, e_Law_walk_7, kR_l, kR_r, kP_0, kP_i, kP_r, kP_n, kP_s, kP_o, kLen_I, kLen_L, kLen_R, kLdI_0, kLdI_1, kLdI_2, kLdI_3, kStI_0, kStI_1, kLdL_e, kStL_e, kLdR_e, kStR_e, kFld_e, kNth_0, kNth_s, kPut_e, fit_I, fit_Z, fit_B, fit_C, fit_A, fit_O, Option.toList_some, Option.toList_none, List.cons_append, List.nil_append, true_and, and_true, List.set_cons_zero, List.set_cons_succ, st_same, Int.toNat_natCast, Int.cast_ofNat_Int, Nat.zero_add, Nat.reduceAdd, kRcv_1, kRcv_2, kRcv_3, kRcv_0, kRcv_4, kRcv_5, hB']
  refine CW.mono h (fun r τ hr => ?_)
  rcases r with v | e
  · obtain ⟨w, f, rfl, hO, hq⟩ := hr
    simp only [e_Law_walk_10, e_Law_walk_11, e_Law_walk_12, e_Law_walk_17, e_Law_walk_18, e_Law_walk_21, e_Law_walk_22, e_Law_walk_23, e_Law_walk_24, kR_l, kR_r, kP_0, kP_i, kP_r, kP_n, kP_s, kP_o, kLen_I, kLen_L, kLen_R, kLdI_0, kLdI_1, kLdI_2, kLdI_3, kStI_0, kStI_1, kLdL_e, kStL_e, kLdR_e, kStR_e, kFld_e, kNth_0, kNth_s, kPut_e, fit_I, fit_Z, fit_B, fit_C, fit_A, fit_O, Option.toList_some, Option.toList_none, List.cons_append, List.nil_append, true_and, and_true, List.set_cons_zero, List.set_cons_succ, st_same, Int.toNat_natCast, Int.cast_ofNat_Int, Nat.zero_add, Nat.reduceAdd, kRcv_1, kRcv_2, kRcv_3, kRcv_0, kRcv_4, kRcv_5, hO, Int.reduceToNat]
    refine ⟨⟨hG, by omega, by omega, by omega⟩, ?_⟩
    first | exact hq | exact ⟨trivial, hq⟩ | exact ⟨by simp, hq⟩
  · obtain ⟨k, hk, hq⟩ := hr
    show am_hk k_Law_walk 7 [some (vR B), some (vI p0), some (vI p1), some (vI p2), some (vR O), none] e (fun pc' ls' => WP G k_Law_walk pc' ls' [] τ Q) (Q (.inr e) τ)
    have hmh : mH k_Law_walk = [(0, (12, (15, 21))), (0, (12, (19, 13)))] := by decide +kernel
    unfold cd_walk at hk
    by_cases c0 : e = 2
    · subst c0
      have ek : k = 1 := by simpa using hk.symm
      subst ek
      rw [hk_go (pc' := 17) (ls' := [some (vR B), some (vI p0), some (vI p1), some (vI p2), some (vR O), none]) hmh (hnd_y2 (k := 5) (by decide) (by decide +kernel) (by decide +kernel) (by simp) rfl)]
      simp only [e_Law_walk_17, e_Law_walk_18, kR_l, kR_r, kP_0, kP_i, kP_r, kP_n, kP_s, kP_o, kLen_I, kLen_L, kLen_R, kLdI_0, kLdI_1, kLdI_2, kLdI_3, kStI_0, kStI_1, kLdL_e, kStL_e, kLdR_e, kStR_e, kFld_e, kNth_0, kNth_s, kPut_e, fit_I, fit_Z, fit_B, fit_C, fit_A, fit_O, Option.toList_some, Option.toList_none, List.cons_append, List.nil_append, true_and, and_true, List.set_cons_zero, List.set_cons_succ, st_same, Int.toNat_natCast, Int.cast_ofNat_Int, Nat.zero_add, Nat.reduceAdd, kRcv_1, kRcv_2, kRcv_3, kRcv_0, kRcv_4, kRcv_5]
      first | exact hq | exact ⟨trivial, hq⟩ | exact ⟨by simp, hq⟩
    by_cases c1 : e = 0
    · subst c1
      have ek : k = 2 := by simpa using hk.symm
      subst ek
      rw [hk_go (pc' := 21) (ls' := [some (vR B), some (vI p0), some (vI p1), some (vI p2), some (vR O), none]) hmh ((hnd_n (by decide) (show am_lk (am_xT (mOc k_Law_walk)) 21 = some 2 by decide +kernel) (by decide)).trans (hnd_y2 (k := 5) (by decide) (by decide +kernel) (by decide +kernel) (by simp) rfl))]
      simp only [e_Law_walk_21, e_Law_walk_22, kR_l, kR_r, kP_0, kP_i, kP_r, kP_n, kP_s, kP_o, kLen_I, kLen_L, kLen_R, kLdI_0, kLdI_1, kLdI_2, kLdI_3, kStI_0, kStI_1, kLdL_e, kStL_e, kLdR_e, kStR_e, kFld_e, kNth_0, kNth_s, kPut_e, fit_I, fit_Z, fit_B, fit_C, fit_A, fit_O, Option.toList_some, Option.toList_none, List.cons_append, List.nil_append, true_and, and_true, List.set_cons_zero, List.set_cons_succ, st_same, Int.toNat_natCast, Int.cast_ofNat_Int, Nat.zero_add, Nat.reduceAdd, kRcv_1, kRcv_2, kRcv_3, kRcv_0, kRcv_4, kRcv_5]
      first | exact hq | exact ⟨trivial, hq⟩ | exact ⟨by simp, hq⟩
    simp only [c0, c1, if_false] at hk
    cases hk
def cd_dig : Nat → Option Int := fun e => if e = 0 then some 1 else if e = 1 then some 2 else none
theorem L_dig {p0 p1 : Int} (hG : G 0 ≤ O) : LwW G B O cd_dig k_Law_dig [vR B, vI p0, vI p1, vR O] k_Cp_dig [vR B, vI p0, vI p1] := by
  intro σ Q hB h
  have hB' : σ.1 B = _ := hB
  simp only [c_Law_dig, e_Law_dig_0, e_Law_dig_1, e_Law_dig_2, e_Law_dig_3, e_Law_dig_4, e_Law_dig_5, kR_l, kR_r, kP_0, kP_i, kP_r, kP_n, kP_s, kP_o, kLen_I, kLen_L, kLen_R, kLdI_0, kLdI_1, kLdI_2, kLdI_3, kStI_0, kStI_1, kLdL_e, kStL_e, kLdR_e, kStR_e, kFld_e, kNth_0, kNth_s, kPut_e, fit_I, fit_Z, fit_B, fit_C, fit_A, fit_O, Option.toList_some, Option.toList_none, List.cons_append, List.nil_append, true_and, and_true, List.set_cons_zero, List.set_cons_succ, st_same, Int.toNat_natCast, Int.cast_ofNat_Int, Nat.zero_add, Nat.reduceAdd, kRcv_1, kRcv_2, kRcv_3, kRcv_0, kRcv_4, kRcv_5, hB']
  refine CW.mono h (fun r τ hr => ?_)
  rcases r with v | e
  · obtain ⟨w, f, rfl, hO, hq⟩ := hr
    simp only [e_Law_dig_8, e_Law_dig_9, e_Law_dig_10, e_Law_dig_15, e_Law_dig_16, e_Law_dig_19, e_Law_dig_20, e_Law_dig_21, e_Law_dig_22, kR_l, kR_r, kP_0, kP_i, kP_r, kP_n, kP_s, kP_o, kLen_I, kLen_L, kLen_R, kLdI_0, kLdI_1, kLdI_2, kLdI_3, kStI_0, kStI_1, kLdL_e, kStL_e, kLdR_e, kStR_e, kFld_e, kNth_0, kNth_s, kPut_e, fit_I, fit_Z, fit_B, fit_C, fit_A, fit_O, Option.toList_some, Option.toList_none, List.cons_append, List.nil_append, true_and, and_true, List.set_cons_zero, List.set_cons_succ, st_same, Int.toNat_natCast, Int.cast_ofNat_Int, Nat.zero_add, Nat.reduceAdd, kRcv_1, kRcv_2, kRcv_3, kRcv_0, kRcv_4, kRcv_5, hO, Int.reduceToNat]
    refine ⟨⟨hG, by omega, by omega, by omega⟩, ?_⟩
    first | exact hq | exact ⟨trivial, hq⟩ | exact ⟨by simp, hq⟩
  · obtain ⟨k, hk, hq⟩ := hr
    show am_hk k_Law_dig 5 [some (vR B), some (vI p0), some (vI p1), some (vR O), none] e (fun pc' ls' => WP G k_Law_dig pc' ls' [] τ Q) (Q (.inr e) τ)
    have hmh : mH k_Law_dig = [(0, (10, (13, 13))), (0, (10, (17, 15)))] := by decide +kernel
    unfold cd_dig at hk
    by_cases c0 : e = 0
    · subst c0
      have ek : k = 1 := by simpa using hk.symm
      subst ek
      rw [hk_go (pc' := 15) (ls' := [some (vR B), some (vI p0), some (vI p1), some (vR O), none]) hmh (hnd_y2 (k := 4) (by decide) (by decide +kernel) (by decide +kernel) (by simp) rfl)]
      simp only [e_Law_dig_15, e_Law_dig_16, kR_l, kR_r, kP_0, kP_i, kP_r, kP_n, kP_s, kP_o, kLen_I, kLen_L, kLen_R, kLdI_0, kLdI_1, kLdI_2, kLdI_3, kStI_0, kStI_1, kLdL_e, kStL_e, kLdR_e, kStR_e, kFld_e, kNth_0, kNth_s, kPut_e, fit_I, fit_Z, fit_B, fit_C, fit_A, fit_O, Option.toList_some, Option.toList_none, List.cons_append, List.nil_append, true_and, and_true, List.set_cons_zero, List.set_cons_succ, st_same, Int.toNat_natCast, Int.cast_ofNat_Int, Nat.zero_add, Nat.reduceAdd, kRcv_1, kRcv_2, kRcv_3, kRcv_0, kRcv_4, kRcv_5]
      first | exact hq | exact ⟨trivial, hq⟩ | exact ⟨by simp, hq⟩
    by_cases c1 : e = 1
    · subst c1
      have ek : k = 2 := by simpa using hk.symm
      subst ek
      rw [hk_go (pc' := 19) (ls' := [some (vR B), some (vI p0), some (vI p1), some (vR O), none]) hmh ((hnd_n (by decide) (show am_lk (am_xT (mOc k_Law_dig)) 13 = some 0 by decide +kernel) (by decide)).trans (hnd_y2 (k := 4) (by decide) (by decide +kernel) (by decide +kernel) (by simp) rfl))]
      simp only [e_Law_dig_19, e_Law_dig_20, kR_l, kR_r, kP_0, kP_i, kP_r, kP_n, kP_s, kP_o, kLen_I, kLen_L, kLen_R, kLdI_0, kLdI_1, kLdI_2, kLdI_3, kStI_0, kStI_1, kLdL_e, kStL_e, kLdR_e, kStR_e, kFld_e, kNth_0, kNth_s, kPut_e, fit_I, fit_Z, fit_B, fit_C, fit_A, fit_O, Option.toList_some, Option.toList_none, List.cons_append, List.nil_append, true_and, and_true, List.set_cons_zero, List.set_cons_succ, st_same, Int.toNat_natCast, Int.cast_ofNat_Int, Nat.zero_add, Nat.reduceAdd, kRcv_1, kRcv_2, kRcv_3, kRcv_0, kRcv_4, kRcv_5]
      first | exact hq | exact ⟨trivial, hq⟩ | exact ⟨by simp, hq⟩
    simp only [c0, c1, if_false] at hk
    cases hk
def cd_carve : Nat → Option Int := fun e => if e = 2 then some 1 else if e = 0 then some 2 else if e = 1 then some 3 else none
theorem L_carve {p0 p1 : Int} (hG : G 0 ≤ O) : LwW G B O cd_carve k_Law_carve [vR B, vI p0, vI p1, vR O] k_Cp_carve [vR B, vI p0, vI p1] := by
  intro σ Q hB h
  have hB' : σ.1 B = _ := hB
  simp only [c_Law_carve, e_Law_carve_0, e_Law_carve_1, e_Law_carve_2, e_Law_carve_3, e_Law_carve_4, e_Law_carve_5, kR_l, kR_r, kP_0, kP_i, kP_r, kP_n, kP_s, kP_o, kLen_I, kLen_L, kLen_R, kLdI_0, kLdI_1, kLdI_2, kLdI_3, kStI_0, kStI_1, kLdL_e, kStL_e, kLdR_e, kStR_e, kFld_e, kNth_0, kNth_s, kPut_e, fit_I, fit_Z, fit_B, fit_C, fit_A, fit_O, Option.toList_some, Option.toList_none, List.cons_append, List.nil_append, true_and, and_true, List.set_cons_zero, List.set_cons_succ, st_same, Int.toNat_natCast, Int.cast_ofNat_Int, Nat.zero_add, Nat.reduceAdd, kRcv_1, kRcv_2, kRcv_3, kRcv_0, kRcv_4, kRcv_5, hB']
  refine CW.mono h (fun r τ hr => ?_)
  rcases r with v | e
  · obtain ⟨w, f, rfl, hO, hq⟩ := hr
    simp only [e_Law_carve_8, e_Law_carve_9, e_Law_carve_10, e_Law_carve_15, e_Law_carve_16, e_Law_carve_19, e_Law_carve_20, e_Law_carve_23, e_Law_carve_24, e_Law_carve_25, e_Law_carve_26, kR_l, kR_r, kP_0, kP_i, kP_r, kP_n, kP_s, kP_o, kLen_I, kLen_L, kLen_R, kLdI_0, kLdI_1, kLdI_2, kLdI_3, kStI_0, kStI_1, kLdL_e, kStL_e, kLdR_e, kStR_e, kFld_e, kNth_0, kNth_s, kPut_e, fit_I, fit_Z, fit_B, fit_C, fit_A, fit_O, Option.toList_some, Option.toList_none, List.cons_append, List.nil_append, true_and, and_true, List.set_cons_zero, List.set_cons_succ, st_same, Int.toNat_natCast, Int.cast_ofNat_Int, Nat.zero_add, Nat.reduceAdd, kRcv_1, kRcv_2, kRcv_3, kRcv_0, kRcv_4, kRcv_5, hO, Int.reduceToNat]
    refine ⟨⟨hG, by omega, by omega, by omega⟩, ?_⟩
    first | exact hq | exact ⟨trivial, hq⟩ | exact ⟨by simp, hq⟩
  · obtain ⟨k, hk, hq⟩ := hr
    show am_hk k_Law_carve 5 [some (vR B), some (vI p0), some (vI p1), some (vR O), none] e (fun pc' ls' => WP G k_Law_carve pc' ls' [] τ Q) (Q (.inr e) τ)
    have hmh : mH k_Law_carve = [(0, (10, (13, 21))), (0, (10, (17, 13))), (0, (10, (21, 15)))] := by decide +kernel
    unfold cd_carve at hk
    by_cases c0 : e = 2
    · subst c0
      have ek : k = 1 := by simpa using hk.symm
      subst ek
      rw [hk_go (pc' := 15) (ls' := [some (vR B), some (vI p0), some (vI p1), some (vR O), none]) hmh (hnd_y2 (k := 4) (by decide) (by decide +kernel) (by decide +kernel) (by simp) rfl)]
      simp only [e_Law_carve_15, e_Law_carve_16, kR_l, kR_r, kP_0, kP_i, kP_r, kP_n, kP_s, kP_o, kLen_I, kLen_L, kLen_R, kLdI_0, kLdI_1, kLdI_2, kLdI_3, kStI_0, kStI_1, kLdL_e, kStL_e, kLdR_e, kStR_e, kFld_e, kNth_0, kNth_s, kPut_e, fit_I, fit_Z, fit_B, fit_C, fit_A, fit_O, Option.toList_some, Option.toList_none, List.cons_append, List.nil_append, true_and, and_true, List.set_cons_zero, List.set_cons_succ, st_same, Int.toNat_natCast, Int.cast_ofNat_Int, Nat.zero_add, Nat.reduceAdd, kRcv_1, kRcv_2, kRcv_3, kRcv_0, kRcv_4, kRcv_5]
      first | exact hq | exact ⟨trivial, hq⟩ | exact ⟨by simp, hq⟩
    by_cases c1 : e = 0
    · subst c1
      have ek : k = 2 := by simpa using hk.symm
      subst ek
      rw [hk_go (pc' := 19) (ls' := [some (vR B), some (vI p0), some (vI p1), some (vR O), none]) hmh ((hnd_n (by decide) (show am_lk (am_xT (mOc k_Law_carve)) 21 = some 2 by decide +kernel) (by decide)).trans (hnd_y2 (k := 4) (by decide) (by decide +kernel) (by decide +kernel) (by simp) rfl))]
      simp only [e_Law_carve_19, e_Law_carve_20, kR_l, kR_r, kP_0, kP_i, kP_r, kP_n, kP_s, kP_o, kLen_I, kLen_L, kLen_R, kLdI_0, kLdI_1, kLdI_2, kLdI_3, kStI_0, kStI_1, kLdL_e, kStL_e, kLdR_e, kStR_e, kFld_e, kNth_0, kNth_s, kPut_e, fit_I, fit_Z, fit_B, fit_C, fit_A, fit_O, Option.toList_some, Option.toList_none, List.cons_append, List.nil_append, true_and, and_true, List.set_cons_zero, List.set_cons_succ, st_same, Int.toNat_natCast, Int.cast_ofNat_Int, Nat.zero_add, Nat.reduceAdd, kRcv_1, kRcv_2, kRcv_3, kRcv_0, kRcv_4, kRcv_5]
      first | exact hq | exact ⟨trivial, hq⟩ | exact ⟨by simp, hq⟩
    by_cases c2 : e = 1
    · subst c2
      have ek : k = 3 := by simpa using hk.symm
      subst ek
      rw [hk_go (pc' := 23) (ls' := [some (vR B), some (vI p0), some (vI p1), some (vR O), none]) hmh ((hnd_n (by decide) (show am_lk (am_xT (mOc k_Law_carve)) 21 = some 2 by decide +kernel) (by decide)).trans ((hnd_n (by decide) (show am_lk (am_xT (mOc k_Law_carve)) 13 = some 0 by decide +kernel) (by decide)).trans (hnd_y2 (k := 4) (by decide) (by decide +kernel) (by decide +kernel) (by simp) rfl)))]
      simp only [e_Law_carve_23, e_Law_carve_24, kR_l, kR_r, kP_0, kP_i, kP_r, kP_n, kP_s, kP_o, kLen_I, kLen_L, kLen_R, kLdI_0, kLdI_1, kLdI_2, kLdI_3, kStI_0, kStI_1, kLdL_e, kStL_e, kLdR_e, kStR_e, kFld_e, kNth_0, kNth_s, kPut_e, fit_I, fit_Z, fit_B, fit_C, fit_A, fit_O, Option.toList_some, Option.toList_none, List.cons_append, List.nil_append, true_and, and_true, List.set_cons_zero, List.set_cons_succ, st_same, Int.toNat_natCast, Int.cast_ofNat_Int, Nat.zero_add, Nat.reduceAdd, kRcv_1, kRcv_2, kRcv_3, kRcv_0, kRcv_4, kRcv_5]
      first | exact hq | exact ⟨trivial, hq⟩ | exact ⟨by simp, hq⟩
    simp only [c0, c1, c2, if_false] at hk
    cases hk
def cd_set : Nat → Option Int := fun e => if e = 0 then some 1 else none
theorem L_set {p0 : Int} (hG : G 0 ≤ O) : LwW G B O cd_set k_Law_set [vR B, vI p0, vR O] k_Cp_set [vR B, vI p0] := by
  intro σ Q hB h
  have hB' : σ.1 B = _ := hB
  simp only [c_Law_set, e_Law_set_0, e_Law_set_1, e_Law_set_2, e_Law_set_3, e_Law_set_4, kR_l, kR_r, kP_0, kP_i, kP_r, kP_n, kP_s, kP_o, kLen_I, kLen_L, kLen_R, kLdI_0, kLdI_1, kLdI_2, kLdI_3, kStI_0, kStI_1, kLdL_e, kStL_e, kLdR_e, kStR_e, kFld_e, kNth_0, kNth_s, kPut_e, fit_I, fit_Z, fit_B, fit_C, fit_A, fit_O, Option.toList_some, Option.toList_none, List.cons_append, List.nil_append, true_and, and_true, List.set_cons_zero, List.set_cons_succ, st_same, Int.toNat_natCast, Int.cast_ofNat_Int, Nat.zero_add, Nat.reduceAdd, kRcv_1, kRcv_2, kRcv_3, kRcv_0, kRcv_4, kRcv_5, hB']
  refine CW.mono h (fun r τ hr => ?_)
  rcases r with v | e
  · obtain ⟨w, f, rfl, hO, hq⟩ := hr
    simp only [e_Law_set_7, e_Law_set_8, e_Law_set_9, e_Law_set_13, e_Law_set_14, e_Law_set_15, e_Law_set_16, kR_l, kR_r, kP_0, kP_i, kP_r, kP_n, kP_s, kP_o, kLen_I, kLen_L, kLen_R, kLdI_0, kLdI_1, kLdI_2, kLdI_3, kStI_0, kStI_1, kLdL_e, kStL_e, kLdR_e, kStR_e, kFld_e, kNth_0, kNth_s, kPut_e, fit_I, fit_Z, fit_B, fit_C, fit_A, fit_O, Option.toList_some, Option.toList_none, List.cons_append, List.nil_append, true_and, and_true, List.set_cons_zero, List.set_cons_succ, st_same, Int.toNat_natCast, Int.cast_ofNat_Int, Nat.zero_add, Nat.reduceAdd, kRcv_1, kRcv_2, kRcv_3, kRcv_0, kRcv_4, kRcv_5, hO, Int.reduceToNat]
    refine ⟨⟨hG, by omega, by omega, by omega⟩, ?_⟩
    first | exact hq | exact ⟨trivial, hq⟩ | exact ⟨by simp, hq⟩
  · obtain ⟨k, hk, hq⟩ := hr
    show am_hk k_Law_set 4 [some (vR B), some (vI p0), some (vR O), none] e (fun pc' ls' => WP G k_Law_set pc' ls' [] τ Q) (Q (.inr e) τ)
    have hmh : mH k_Law_set = [(0, (9, (12, 13)))] := by decide +kernel
    unfold cd_set at hk
    by_cases c0 : e = 0
    · subst c0
      have ek : k = 1 := by simpa using hk.symm
      subst ek
      rw [hk_go (pc' := 13) (ls' := [some (vR B), some (vI p0), some (vR O), none]) hmh (hnd_y (k := 3) (by decide) (by decide +kernel) (by decide +kernel) (by simp) rfl)]
      simp only [e_Law_set_13, e_Law_set_14, kR_l, kR_r, kP_0, kP_i, kP_r, kP_n, kP_s, kP_o, kLen_I, kLen_L, kLen_R, kLdI_0, kLdI_1, kLdI_2, kLdI_3, kStI_0, kStI_1, kLdL_e, kStL_e, kLdR_e, kStR_e, kFld_e, kNth_0, kNth_s, kPut_e, fit_I, fit_Z, fit_B, fit_C, fit_A, fit_O, Option.toList_some, Option.toList_none, List.cons_append, List.nil_append, true_and, and_true, List.set_cons_zero, List.set_cons_succ, st_same, Int.toNat_natCast, Int.cast_ofNat_Int, Nat.zero_add, Nat.reduceAdd, kRcv_1, kRcv_2, kRcv_3, kRcv_0, kRcv_4, kRcv_5]
      first | exact hq | exact ⟨trivial, hq⟩ | exact ⟨by simp, hq⟩
    simp only [c0, if_false] at hk
    cases hk
def cd_append : Nat → Option Int := fun e => if e = 0 then some 1 else if e = 1 then some 2 else none
theorem L_append {p0 : Int} (hG : G 0 ≤ O) : LwW G B O cd_append k_Law_append [vR B, vI p0, vR O] k_Cp_append [vR B, vI p0] := by
  intro σ Q hB h
  have hB' : σ.1 B = _ := hB
  simp only [c_Law_append, e_Law_append_0, e_Law_append_1, e_Law_append_2, e_Law_append_3, e_Law_append_4, kR_l, kR_r, kP_0, kP_i, kP_r, kP_n, kP_s, kP_o, kLen_I, kLen_L, kLen_R, kLdI_0, kLdI_1, kLdI_2, kLdI_3, kStI_0, kStI_1, kLdL_e, kStL_e, kLdR_e, kStR_e, kFld_e, kNth_0, kNth_s, kPut_e, fit_I, fit_Z, fit_B, fit_C, fit_A, fit_O, Option.toList_some, Option.toList_none, List.cons_append, List.nil_append, true_and, and_true, List.set_cons_zero, List.set_cons_succ, st_same, Int.toNat_natCast, Int.cast_ofNat_Int, Nat.zero_add, Nat.reduceAdd, kRcv_1, kRcv_2, kRcv_3, kRcv_0, kRcv_4, kRcv_5, hB']
  refine CW.mono h (fun r τ hr => ?_)
  rcases r with v | e
  · obtain ⟨w, f, rfl, hO, hq⟩ := hr
    simp only [e_Law_append_7, e_Law_append_8, e_Law_append_9, e_Law_append_13, e_Law_append_14, e_Law_append_16, e_Law_append_17, e_Law_append_18, e_Law_append_19, kR_l, kR_r, kP_0, kP_i, kP_r, kP_n, kP_s, kP_o, kLen_I, kLen_L, kLen_R, kLdI_0, kLdI_1, kLdI_2, kLdI_3, kStI_0, kStI_1, kLdL_e, kStL_e, kLdR_e, kStR_e, kFld_e, kNth_0, kNth_s, kPut_e, fit_I, fit_Z, fit_B, fit_C, fit_A, fit_O, Option.toList_some, Option.toList_none, List.cons_append, List.nil_append, true_and, and_true, List.set_cons_zero, List.set_cons_succ, st_same, Int.toNat_natCast, Int.cast_ofNat_Int, Nat.zero_add, Nat.reduceAdd, kRcv_1, kRcv_2, kRcv_3, kRcv_0, kRcv_4, kRcv_5, hO, Int.reduceToNat]
    refine ⟨⟨hG, by omega, by omega, by omega⟩, ?_⟩
    first | exact hq | exact ⟨trivial, hq⟩ | exact ⟨by simp, hq⟩
  · obtain ⟨k, hk, hq⟩ := hr
    show am_hk k_Law_append 4 [some (vR B), some (vI p0), some (vR O), none] e (fun pc' ls' => WP G k_Law_append pc' ls' [] τ Q) (Q (.inr e) τ)
    have hmh : mH k_Law_append = [(0, (9, (12, 13))), (0, (9, (15, 15)))] := by decide +kernel
    unfold cd_append at hk
    by_cases c0 : e = 0
    · subst c0
      have ek : k = 1 := by simpa using hk.symm
      subst ek
      rw [hk_go (pc' := 13) (ls' := [some (vR B), some (vI p0), some (vR O), none]) hmh (hnd_y (k := 3) (by decide) (by decide +kernel) (by decide +kernel) (by simp) rfl)]
      simp only [e_Law_append_13, e_Law_append_14, kR_l, kR_r, kP_0, kP_i, kP_r, kP_n, kP_s, kP_o, kLen_I, kLen_L, kLen_R, kLdI_0, kLdI_1, kLdI_2, kLdI_3, kStI_0, kStI_1, kLdL_e, kStL_e, kLdR_e, kStR_e, kFld_e, kNth_0, kNth_s, kPut_e, fit_I, fit_Z, fit_B, fit_C, fit_A, fit_O, Option.toList_some, Option.toList_none, List.cons_append, List.nil_append, true_and, and_true, List.set_cons_zero, List.set_cons_succ, st_same, Int.toNat_natCast, Int.cast_ofNat_Int, Nat.zero_add, Nat.reduceAdd, kRcv_1, kRcv_2, kRcv_3, kRcv_0, kRcv_4, kRcv_5]
      first | exact hq | exact ⟨trivial, hq⟩ | exact ⟨by simp, hq⟩
    by_cases c1 : e = 1
    · subst c1
      have ek : k = 2 := by simpa using hk.symm
      subst ek
      rw [hk_go (pc' := 16) (ls' := [some (vR B), some (vI p0), some (vR O), none]) hmh ((hnd_n (by decide) (show am_lk (am_xT (mOc k_Law_append)) 13 = some 0 by decide +kernel) (by decide)).trans (hnd_y (k := 3) (by decide) (by decide +kernel) (by decide +kernel) (by simp) rfl))]
      simp only [e_Law_append_16, e_Law_append_17, kR_l, kR_r, kP_0, kP_i, kP_r, kP_n, kP_s, kP_o, kLen_I, kLen_L, kLen_R, kLdI_0, kLdI_1, kLdI_2, kLdI_3, kStI_0, kStI_1, kLdL_e, kStL_e, kLdR_e, kStR_e, kFld_e, kNth_0, kNth_s, kPut_e, fit_I, fit_Z, fit_B, fit_C, fit_A, fit_O, Option.toList_some, Option.toList_none, List.cons_append, List.nil_append, true_and, and_true, List.set_cons_zero, List.set_cons_succ, st_same, Int.toNat_natCast, Int.cast_ofNat_Int, Nat.zero_add, Nat.reduceAdd, kRcv_1, kRcv_2, kRcv_3, kRcv_0, kRcv_4, kRcv_5]
      first | exact hq | exact ⟨trivial, hq⟩ | exact ⟨by simp, hq⟩
    simp only [c0, c1, if_false] at hk
    cases hk
def cd_run : Nat → Option Int := fun e => if e = 0 then some 1 else none
theorem L_run (hG : G 0 ≤ O) : LwW G B O cd_run k_Law_run [vR B, vR O] k_Cp_run [vR B] := by
  intro σ Q hB h
  have hB' : σ.1 B = _ := hB
  simp only [c_Law_run, e_Law_run_0, e_Law_run_1, e_Law_run_2, e_Law_run_3, kR_l, kR_r, kP_0, kP_i, kP_r, kP_n, kP_s, kP_o, kLen_I, kLen_L, kLen_R, kLdI_0, kLdI_1, kLdI_2, kLdI_3, kStI_0, kStI_1, kLdL_e, kStL_e, kLdR_e, kStR_e, kFld_e, kNth_0, kNth_s, kPut_e, fit_I, fit_Z, fit_B, fit_C, fit_A, fit_O, Option.toList_some, Option.toList_none, List.cons_append, List.nil_append, true_and, and_true, List.set_cons_zero, List.set_cons_succ, st_same, Int.toNat_natCast, Int.cast_ofNat_Int, Nat.zero_add, Nat.reduceAdd, kRcv_1, kRcv_2, kRcv_3, kRcv_0, kRcv_4, kRcv_5, hB']
  refine CW.mono h (fun r τ hr => ?_)
  rcases r with v | e
  · obtain ⟨w, f, rfl, hO, hq⟩ := hr
    simp only [e_Law_run_6, e_Law_run_7, e_Law_run_8, e_Law_run_12, e_Law_run_13, e_Law_run_14, e_Law_run_15, kR_l, kR_r, kP_0, kP_i, kP_r, kP_n, kP_s, kP_o, kLen_I, kLen_L, kLen_R, kLdI_0, kLdI_1, kLdI_2, kLdI_3, kStI_0, kStI_1, kLdL_e, kStL_e, kLdR_e, kStR_e, kFld_e, kNth_0, kNth_s, kPut_e, fit_I, fit_Z, fit_B, fit_C, fit_A, fit_O, Option.toList_some, Option.toList_none, List.cons_append, List.nil_append, true_and, and_true, List.set_cons_zero, List.set_cons_succ, st_same, Int.toNat_natCast, Int.cast_ofNat_Int, Nat.zero_add, Nat.reduceAdd, kRcv_1, kRcv_2, kRcv_3, kRcv_0, kRcv_4, kRcv_5, hO, Int.reduceToNat]
    refine ⟨⟨hG, by omega, by omega, by omega⟩, ?_⟩
    first | exact hq | exact ⟨trivial, hq⟩ | exact ⟨by simp, hq⟩
  · obtain ⟨k, hk, hq⟩ := hr
    show am_hk k_Law_run 3 [some (vR B), some (vR O), none] e (fun pc' ls' => WP G k_Law_run pc' ls' [] τ Q) (Q (.inr e) τ)
    have hmh : mH k_Law_run = [(0, (8, (11, 13)))] := by decide +kernel
    unfold cd_run at hk
    by_cases c0 : e = 0
    · subst c0
      have ek : k = 1 := by simpa using hk.symm
      subst ek
      rw [hk_go (pc' := 12) (ls' := [some (vR B), some (vR O), none]) hmh (hnd_y (k := 2) (by decide) (by decide +kernel) (by decide +kernel) (by simp) rfl)]
      simp only [e_Law_run_12, e_Law_run_13, kR_l, kR_r, kP_0, kP_i, kP_r, kP_n, kP_s, kP_o, kLen_I, kLen_L, kLen_R, kLdI_0, kLdI_1, kLdI_2, kLdI_3, kStI_0, kStI_1, kLdL_e, kStL_e, kLdR_e, kStR_e, kFld_e, kNth_0, kNth_s, kPut_e, fit_I, fit_Z, fit_B, fit_C, fit_A, fit_O, Option.toList_some, Option.toList_none, List.cons_append, List.nil_append, true_and, and_true, List.set_cons_zero, List.set_cons_succ, st_same, Int.toNat_natCast, Int.cast_ofNat_Int, Nat.zero_add, Nat.reduceAdd, kRcv_1, kRcv_2, kRcv_3, kRcv_0, kRcv_4, kRcv_5]
      first | exact hq | exact ⟨trivial, hq⟩ | exact ⟨by simp, hq⟩
    simp only [c0, if_false] at hk
    cases hk
def cd_undo : Nat → Option Int := fun e => if e = 1 then some 1 else none
theorem L_undo (hG : G 0 ≤ O) : LwW G B O cd_undo k_Law_undo [vR B, vR O] k_Cp_undo [vR B] := by
  intro σ Q hB h
  have hB' : σ.1 B = _ := hB
  simp only [c_Law_undo, e_Law_undo_0, e_Law_undo_1, e_Law_undo_2, e_Law_undo_3, kR_l, kR_r, kP_0, kP_i, kP_r, kP_n, kP_s, kP_o, kLen_I, kLen_L, kLen_R, kLdI_0, kLdI_1, kLdI_2, kLdI_3, kStI_0, kStI_1, kLdL_e, kStL_e, kLdR_e, kStR_e, kFld_e, kNth_0, kNth_s, kPut_e, fit_I, fit_Z, fit_B, fit_C, fit_A, fit_O, Option.toList_some, Option.toList_none, List.cons_append, List.nil_append, true_and, and_true, List.set_cons_zero, List.set_cons_succ, st_same, Int.toNat_natCast, Int.cast_ofNat_Int, Nat.zero_add, Nat.reduceAdd, kRcv_1, kRcv_2, kRcv_3, kRcv_0, kRcv_4, kRcv_5, hB']
  refine CW.mono h (fun r τ hr => ?_)
  rcases r with v | e
  · obtain ⟨w, f, rfl, hO, hq⟩ := hr
    simp only [e_Law_undo_6, e_Law_undo_7, e_Law_undo_8, e_Law_undo_12, e_Law_undo_13, e_Law_undo_14, e_Law_undo_15, kR_l, kR_r, kP_0, kP_i, kP_r, kP_n, kP_s, kP_o, kLen_I, kLen_L, kLen_R, kLdI_0, kLdI_1, kLdI_2, kLdI_3, kStI_0, kStI_1, kLdL_e, kStL_e, kLdR_e, kStR_e, kFld_e, kNth_0, kNth_s, kPut_e, fit_I, fit_Z, fit_B, fit_C, fit_A, fit_O, Option.toList_some, Option.toList_none, List.cons_append, List.nil_append, true_and, and_true, List.set_cons_zero, List.set_cons_succ, st_same, Int.toNat_natCast, Int.cast_ofNat_Int, Nat.zero_add, Nat.reduceAdd, kRcv_1, kRcv_2, kRcv_3, kRcv_0, kRcv_4, kRcv_5, hO, Int.reduceToNat]
    refine ⟨⟨hG, by omega, by omega, by omega⟩, ?_⟩
    first | exact hq | exact ⟨trivial, hq⟩ | exact ⟨by simp, hq⟩
  · obtain ⟨k, hk, hq⟩ := hr
    show am_hk k_Law_undo 3 [some (vR B), some (vR O), none] e (fun pc' ls' => WP G k_Law_undo pc' ls' [] τ Q) (Q (.inr e) τ)
    have hmh : mH k_Law_undo = [(0, (8, (11, 15)))] := by decide +kernel
    unfold cd_undo at hk
    by_cases c0 : e = 1
    · subst c0
      have ek : k = 1 := by simpa using hk.symm
      subst ek
      rw [hk_go (pc' := 12) (ls' := [some (vR B), some (vR O), none]) hmh (hnd_y (k := 2) (by decide) (by decide +kernel) (by decide +kernel) (by simp) rfl)]
      simp only [e_Law_undo_12, e_Law_undo_13, kR_l, kR_r, kP_0, kP_i, kP_r, kP_n, kP_s, kP_o, kLen_I, kLen_L, kLen_R, kLdI_0, kLdI_1, kLdI_2, kLdI_3, kStI_0, kStI_1, kLdL_e, kStL_e, kLdR_e, kStR_e, kFld_e, kNth_0, kNth_s, kPut_e, fit_I, fit_Z, fit_B, fit_C, fit_A, fit_O, Option.toList_some, Option.toList_none, List.cons_append, List.nil_append, true_and, and_true, List.set_cons_zero, List.set_cons_succ, st_same, Int.toNat_natCast, Int.cast_ofNat_Int, Nat.zero_add, Nat.reduceAdd, kRcv_1, kRcv_2, kRcv_3, kRcv_0, kRcv_4, kRcv_5]
      first | exact hq | exact ⟨trivial, hq⟩ | exact ⟨by simp, hq⟩
    simp only [c0, if_false] at hk
    cases hk
def cd_square : Nat → Option Int := fun e => if e = 0 then some 1 else none
theorem L_square {p0 p1 p2 : Int} (hG : G 0 ≤ O) : LwW G B O cd_square k_Law_square [vR B, vI p0, vI p1, vI p2, vR O] k_Cp_square [vR B, vI p0, vI p1, vI p2] := by
  intro σ Q hB h
  have hB' : σ.1 B = _ := hB
  simp only [c_Law_square, e_Law_square_0, e_Law_square_2, e_Law_square_3, e_Law_square_4, e_Law_square_5, e_Law_square_6, e_Law_square_7, kR_l, kR_r, kP_0, kP_i, kP_r, kP_n, kP_s, kP_o, kLen_I, kLen_L, kLen_R, kLdI_0, kLdI_1, kLdI_2, kLdI_3, kStI_0, kStI_1, kLdL_e, kStL_e, kLdR_e, kStR_e, kFld_e, kNth_0, kNth_s, kPut_e, fit_I, fit_Z, fit_B, fit_C, fit_A, fit_O, Option.toList_some, Option.toList_none, List.cons_append, List.nil_append, true_and, and_true, List.set_cons_zero, List.set_cons_succ, st_same, Int.toNat_natCast, Int.cast_ofNat_Int, Nat.zero_add, Nat.reduceAdd, kRcv_1, kRcv_2, kRcv_3, kRcv_0, kRcv_4, kRcv_5, hB']
  refine CW.mono h (fun r τ hr => ?_)
  rcases r with v | e
  · obtain ⟨w, f, rfl, hO, hq⟩ := hr
    simp only [e_Law_square_10, e_Law_square_11, e_Law_square_12, e_Law_square_17, e_Law_square_18, e_Law_square_19, e_Law_square_20, kR_l, kR_r, kP_0, kP_i, kP_r, kP_n, kP_s, kP_o, kLen_I, kLen_L, kLen_R, kLdI_0, kLdI_1, kLdI_2, kLdI_3, kStI_0, kStI_1, kLdL_e, kStL_e, kLdR_e, kStR_e, kFld_e, kNth_0, kNth_s, kPut_e, fit_I, fit_Z, fit_B, fit_C, fit_A, fit_O, Option.toList_some, Option.toList_none, List.cons_append, List.nil_append, true_and, and_true, List.set_cons_zero, List.set_cons_succ, st_same, Int.toNat_natCast, Int.cast_ofNat_Int, Nat.zero_add, Nat.reduceAdd, kRcv_1, kRcv_2, kRcv_3, kRcv_0, kRcv_4, kRcv_5, hO, Int.reduceToNat]
    refine ⟨⟨hG, by omega, by omega, by omega⟩, ?_⟩
    first | exact hq | exact ⟨trivial, hq⟩ | exact ⟨by simp, hq⟩
  · obtain ⟨k, hk, hq⟩ := hr
    show am_hk k_Law_square 7 [some (vR B), some (vI p0), some (vI p1), some (vI p2), some (vR O), none] e (fun pc' ls' => WP G k_Law_square pc' ls' [] τ Q) (Q (.inr e) τ)
    have hmh : mH k_Law_square = [(0, (12, (15, 13)))] := by decide +kernel
    unfold cd_square at hk
    by_cases c0 : e = 0
    · subst c0
      have ek : k = 1 := by simpa using hk.symm
      subst ek
      rw [hk_go (pc' := 17) (ls' := [some (vR B), some (vI p0), some (vI p1), some (vI p2), some (vR O), none]) hmh (hnd_y2 (k := 5) (by decide) (by decide +kernel) (by decide +kernel) (by simp) rfl)]
      simp only [e_Law_square_17, e_Law_square_18, kR_l, kR_r, kP_0, kP_i, kP_r, kP_n, kP_s, kP_o, kLen_I, kLen_L, kLen_R, kLdI_0, kLdI_1, kLdI_2, kLdI_3, kStI_0, kStI_1, kLdL_e, kStL_e, kLdR_e, kStR_e, kFld_e, kNth_0, kNth_s, kPut_e, fit_I, fit_Z, fit_B, fit_C, fit_A, fit_O, Option.toList_some, Option.toList_none, List.cons_append, List.nil_append, true_and, and_true, List.set_cons_zero, List.set_cons_succ, st_same, Int.toNat_natCast, Int.cast_ofNat_Int, Nat.zero_add, Nat.reduceAdd, kRcv_1, kRcv_2, kRcv_3, kRcv_0, kRcv_4, kRcv_5]
      first | exact hq | exact ⟨trivial, hq⟩ | exact ⟨by simp, hq⟩
    simp only [c0, if_false] at hk
    cases hk
def cd_chamber : Nat → Option Int := fun e => if e = 2 then some 1 else if e = 0 then some 2 else none
theorem L_chamber {p0 p1 : Int} (hG : G 0 ≤ O) : LwW G B O cd_chamber k_Law_chamber [vR B, vI p0, vI p1, vR O] k_Cp_chamber [vR B, vI p0, vI p1] := by
  intro σ Q hB h
  have hB' : σ.1 B = _ := hB
  simp only [c_Law_chamber, e_Law_chamber_0, e_Law_chamber_1, e_Law_chamber_2, e_Law_chamber_3, e_Law_chamber_4, e_Law_chamber_5, kR_l, kR_r, kP_0, kP_i, kP_r, kP_n, kP_s, kP_o, kLen_I, kLen_L, kLen_R, kLdI_0, kLdI_1, kLdI_2, kLdI_3, kStI_0, kStI_1, kLdL_e, kStL_e, kLdR_e, kStR_e, kFld_e, kNth_0, kNth_s, kPut_e, fit_I, fit_Z, fit_B, fit_C, fit_A, fit_O, Option.toList_some, Option.toList_none, List.cons_append, List.nil_append, true_and, and_true, List.set_cons_zero, List.set_cons_succ, st_same, Int.toNat_natCast, Int.cast_ofNat_Int, Nat.zero_add, Nat.reduceAdd, kRcv_1, kRcv_2, kRcv_3, kRcv_0, kRcv_4, kRcv_5, hB']
  refine CW.mono h (fun r τ hr => ?_)
  rcases r with v | e
  · obtain ⟨w, f, rfl, hO, hq⟩ := hr
    simp only [e_Law_chamber_8, e_Law_chamber_9, e_Law_chamber_10, e_Law_chamber_15, e_Law_chamber_16, e_Law_chamber_19, e_Law_chamber_20, e_Law_chamber_21, e_Law_chamber_22, kR_l, kR_r, kP_0, kP_i, kP_r, kP_n, kP_s, kP_o, kLen_I, kLen_L, kLen_R, kLdI_0, kLdI_1, kLdI_2, kLdI_3, kStI_0, kStI_1, kLdL_e, kStL_e, kLdR_e, kStR_e, kFld_e, kNth_0, kNth_s, kPut_e, fit_I, fit_Z, fit_B, fit_C, fit_A, fit_O, Option.toList_some, Option.toList_none, List.cons_append, List.nil_append, true_and, and_true, List.set_cons_zero, List.set_cons_succ, st_same, Int.toNat_natCast, Int.cast_ofNat_Int, Nat.zero_add, Nat.reduceAdd, kRcv_1, kRcv_2, kRcv_3, kRcv_0, kRcv_4, kRcv_5, hO, Int.reduceToNat]
    refine ⟨⟨hG, by omega, by omega, by omega⟩, ?_⟩
    first | exact hq | exact ⟨trivial, hq⟩ | exact ⟨by simp, hq⟩
  · obtain ⟨k, hk, hq⟩ := hr
    show am_hk k_Law_chamber 5 [some (vR B), some (vI p0), some (vI p1), some (vR O), none] e (fun pc' ls' => WP G k_Law_chamber pc' ls' [] τ Q) (Q (.inr e) τ)
    have hmh : mH k_Law_chamber = [(0, (10, (13, 21))), (0, (10, (17, 13)))] := by decide +kernel
    unfold cd_chamber at hk
    by_cases c0 : e = 2
    · subst c0
      have ek : k = 1 := by simpa using hk.symm
      subst ek
      rw [hk_go (pc' := 15) (ls' := [some (vR B), some (vI p0), some (vI p1), some (vR O), none]) hmh (hnd_y2 (k := 4) (by decide) (by decide +kernel) (by decide +kernel) (by simp) rfl)]
      simp only [e_Law_chamber_15, e_Law_chamber_16, kR_l, kR_r, kP_0, kP_i, kP_r, kP_n, kP_s, kP_o, kLen_I, kLen_L, kLen_R, kLdI_0, kLdI_1, kLdI_2, kLdI_3, kStI_0, kStI_1, kLdL_e, kStL_e, kLdR_e, kStR_e, kFld_e, kNth_0, kNth_s, kPut_e, fit_I, fit_Z, fit_B, fit_C, fit_A, fit_O, Option.toList_some, Option.toList_none, List.cons_append, List.nil_append, true_and, and_true, List.set_cons_zero, List.set_cons_succ, st_same, Int.toNat_natCast, Int.cast_ofNat_Int, Nat.zero_add, Nat.reduceAdd, kRcv_1, kRcv_2, kRcv_3, kRcv_0, kRcv_4, kRcv_5]
      first | exact hq | exact ⟨trivial, hq⟩ | exact ⟨by simp, hq⟩
    by_cases c1 : e = 0
    · subst c1
      have ek : k = 2 := by simpa using hk.symm
      subst ek
      rw [hk_go (pc' := 19) (ls' := [some (vR B), some (vI p0), some (vI p1), some (vR O), none]) hmh ((hnd_n (by decide) (show am_lk (am_xT (mOc k_Law_chamber)) 21 = some 2 by decide +kernel) (by decide)).trans (hnd_y2 (k := 4) (by decide) (by decide +kernel) (by decide +kernel) (by simp) rfl))]
      simp only [e_Law_chamber_19, e_Law_chamber_20, kR_l, kR_r, kP_0, kP_i, kP_r, kP_n, kP_s, kP_o, kLen_I, kLen_L, kLen_R, kLdI_0, kLdI_1, kLdI_2, kLdI_3, kStI_0, kStI_1, kLdL_e, kStL_e, kLdR_e, kStR_e, kFld_e, kNth_0, kNth_s, kPut_e, fit_I, fit_Z, fit_B, fit_C, fit_A, fit_O, Option.toList_some, Option.toList_none, List.cons_append, List.nil_append, true_and, and_true, List.set_cons_zero, List.set_cons_succ, st_same, Int.toNat_natCast, Int.cast_ofNat_Int, Nat.zero_add, Nat.reduceAdd, kRcv_1, kRcv_2, kRcv_3, kRcv_0, kRcv_4, kRcv_5]
      first | exact hq | exact ⟨trivial, hq⟩ | exact ⟨by simp, hq⟩
    simp only [c0, c1, if_false] at hk
    cases hk
def cd_way : Nat → Option Int := fun e => if e = 2 then some 1 else if e = 0 then some 2 else none
theorem L_way {p0 p1 p2 : Int} (hG : G 0 ≤ O) : LwW G B O cd_way k_Law_way [vR B, vI p0, vI p1, vI p2, vR O] k_Cp_way [vR B, vI p0, vI p1, vI p2] := by
  intro σ Q hB h
  have hB' : σ.1 B = _ := hB
  simp only [c_Law_way, e_Law_way_0, e_Law_way_2, e_Law_way_3, e_Law_way_4, e_Law_way_5, e_Law_way_6, e_Law_way_7, kR_l, kR_r, kP_0, kP_i, kP_r, kP_n, kP_s, kP_o, kLen_I, kLen_L, kLen_R, kLdI_0, kLdI_1, kLdI_2, kLdI_3, kStI_0, kStI_1, kLdL_e, kStL_e, kLdR_e, kStR_e, kFld_e, kNth_0, kNth_s, kPut_e, fit_I, fit_Z, fit_B, fit_C, fit_A, fit_O, Option.toList_some, Option.toList_none, List.cons_append, List.nil_append, true_and, and_true, List.set_cons_zero, List.set_cons_succ, st_same, Int.toNat_natCast, Int.cast_ofNat_Int, Nat.zero_add, Nat.reduceAdd, kRcv_1, kRcv_2, kRcv_3, kRcv_0, kRcv_4, kRcv_5, hB']
  refine CW.mono h (fun r τ hr => ?_)
  rcases r with v | e
  · obtain ⟨w, f, rfl, hO, hq⟩ := hr
    simp only [e_Law_way_10, e_Law_way_11, e_Law_way_12, e_Law_way_17, e_Law_way_18, e_Law_way_21, e_Law_way_22, e_Law_way_23, e_Law_way_24, kR_l, kR_r, kP_0, kP_i, kP_r, kP_n, kP_s, kP_o, kLen_I, kLen_L, kLen_R, kLdI_0, kLdI_1, kLdI_2, kLdI_3, kStI_0, kStI_1, kLdL_e, kStL_e, kLdR_e, kStR_e, kFld_e, kNth_0, kNth_s, kPut_e, fit_I, fit_Z, fit_B, fit_C, fit_A, fit_O, Option.toList_some, Option.toList_none, List.cons_append, List.nil_append, true_and, and_true, List.set_cons_zero, List.set_cons_succ, st_same, Int.toNat_natCast, Int.cast_ofNat_Int, Nat.zero_add, Nat.reduceAdd, kRcv_1, kRcv_2, kRcv_3, kRcv_0, kRcv_4, kRcv_5, hO, Int.reduceToNat]
    refine ⟨⟨hG, by omega, by omega, by omega⟩, ?_⟩
    first | exact hq | exact ⟨trivial, hq⟩ | exact ⟨by simp, hq⟩
  · obtain ⟨k, hk, hq⟩ := hr
    show am_hk k_Law_way 7 [some (vR B), some (vI p0), some (vI p1), some (vI p2), some (vR O), none] e (fun pc' ls' => WP G k_Law_way pc' ls' [] τ Q) (Q (.inr e) τ)
    have hmh : mH k_Law_way = [(0, (12, (15, 21))), (0, (12, (19, 13)))] := by decide +kernel
    unfold cd_way at hk
    by_cases c0 : e = 2
    · subst c0
      have ek : k = 1 := by simpa using hk.symm
      subst ek
      rw [hk_go (pc' := 17) (ls' := [some (vR B), some (vI p0), some (vI p1), some (vI p2), some (vR O), none]) hmh (hnd_y2 (k := 5) (by decide) (by decide +kernel) (by decide +kernel) (by simp) rfl)]
      simp only [e_Law_way_17, e_Law_way_18, kR_l, kR_r, kP_0, kP_i, kP_r, kP_n, kP_s, kP_o, kLen_I, kLen_L, kLen_R, kLdI_0, kLdI_1, kLdI_2, kLdI_3, kStI_0, kStI_1, kLdL_e, kStL_e, kLdR_e, kStR_e, kFld_e, kNth_0, kNth_s, kPut_e, fit_I, fit_Z, fit_B, fit_C, fit_A, fit_O, Option.toList_some, Option.toList_none, List.cons_append, List.nil_append, true_and, and_true, List.set_cons_zero, List.set_cons_succ, st_same, Int.toNat_natCast, Int.cast_ofNat_Int, Nat.zero_add, Nat.reduceAdd, kRcv_1, kRcv_2, kRcv_3, kRcv_0, kRcv_4, kRcv_5]
      first | exact hq | exact ⟨trivial, hq⟩ | exact ⟨by simp, hq⟩
    by_cases c1 : e = 0
    · subst c1
      have ek : k = 2 := by simpa using hk.symm
      subst ek
      rw [hk_go (pc' := 21) (ls' := [some (vR B), some (vI p0), some (vI p1), some (vI p2), some (vR O), none]) hmh ((hnd_n (by decide) (show am_lk (am_xT (mOc k_Law_way)) 21 = some 2 by decide +kernel) (by decide)).trans (hnd_y2 (k := 5) (by decide) (by decide +kernel) (by decide +kernel) (by simp) rfl))]
      simp only [e_Law_way_21, e_Law_way_22, kR_l, kR_r, kP_0, kP_i, kP_r, kP_n, kP_s, kP_o, kLen_I, kLen_L, kLen_R, kLdI_0, kLdI_1, kLdI_2, kLdI_3, kStI_0, kStI_1, kLdL_e, kStL_e, kLdR_e, kStR_e, kFld_e, kNth_0, kNth_s, kPut_e, fit_I, fit_Z, fit_B, fit_C, fit_A, fit_O, Option.toList_some, Option.toList_none, List.cons_append, List.nil_append, true_and, and_true, List.set_cons_zero, List.set_cons_succ, st_same, Int.toNat_natCast, Int.cast_ofNat_Int, Nat.zero_add, Nat.reduceAdd, kRcv_1, kRcv_2, kRcv_3, kRcv_0, kRcv_4, kRcv_5]
      first | exact hq | exact ⟨trivial, hq⟩ | exact ⟨by simp, hq⟩
    simp only [c0, c1, if_false] at hk
    cases hk
def cd_count : Nat → Option Int := fun e => if e = 0 then some 1 else none
theorem L_count {p0 : Int} (hG : G 0 ≤ O) : LwW G B O cd_count k_Law_count [vR B, vI p0, vR O] k_Cp_count [vR B, vI p0] := by
  intro σ Q hB h
  have hB' : σ.1 B = _ := hB
  simp only [c_Law_count, e_Law_count_0, e_Law_count_1, e_Law_count_2, e_Law_count_3, e_Law_count_4, kR_l, kR_r, kP_0, kP_i, kP_r, kP_n, kP_s, kP_o, kLen_I, kLen_L, kLen_R, kLdI_0, kLdI_1, kLdI_2, kLdI_3, kStI_0, kStI_1, kLdL_e, kStL_e, kLdR_e, kStR_e, kFld_e, kNth_0, kNth_s, kPut_e, fit_I, fit_Z, fit_B, fit_C, fit_A, fit_O, Option.toList_some, Option.toList_none, List.cons_append, List.nil_append, true_and, and_true, List.set_cons_zero, List.set_cons_succ, st_same, Int.toNat_natCast, Int.cast_ofNat_Int, Nat.zero_add, Nat.reduceAdd, kRcv_1, kRcv_2, kRcv_3, kRcv_0, kRcv_4, kRcv_5, hB']
  refine CW.mono h (fun r τ hr => ?_)
  rcases r with v | e
  · obtain ⟨w, f, rfl, hO, hq⟩ := hr
    simp only [e_Law_count_7, e_Law_count_8, e_Law_count_9, e_Law_count_13, e_Law_count_14, e_Law_count_15, e_Law_count_16, kR_l, kR_r, kP_0, kP_i, kP_r, kP_n, kP_s, kP_o, kLen_I, kLen_L, kLen_R, kLdI_0, kLdI_1, kLdI_2, kLdI_3, kStI_0, kStI_1, kLdL_e, kStL_e, kLdR_e, kStR_e, kFld_e, kNth_0, kNth_s, kPut_e, fit_I, fit_Z, fit_B, fit_C, fit_A, fit_O, Option.toList_some, Option.toList_none, List.cons_append, List.nil_append, true_and, and_true, List.set_cons_zero, List.set_cons_succ, st_same, Int.toNat_natCast, Int.cast_ofNat_Int, Nat.zero_add, Nat.reduceAdd, kRcv_1, kRcv_2, kRcv_3, kRcv_0, kRcv_4, kRcv_5, hO, Int.reduceToNat]
    refine ⟨⟨hG, by omega, by omega, by omega⟩, ?_⟩
    first | exact hq | exact ⟨trivial, hq⟩ | exact ⟨by simp, hq⟩
  · obtain ⟨k, hk, hq⟩ := hr
    show am_hk k_Law_count 4 [some (vR B), some (vI p0), some (vR O), none] e (fun pc' ls' => WP G k_Law_count pc' ls' [] τ Q) (Q (.inr e) τ)
    have hmh : mH k_Law_count = [(0, (9, (12, 13)))] := by decide +kernel
    unfold cd_count at hk
    by_cases c0 : e = 0
    · subst c0
      have ek : k = 1 := by simpa using hk.symm
      subst ek
      rw [hk_go (pc' := 13) (ls' := [some (vR B), some (vI p0), some (vR O), none]) hmh (hnd_y (k := 3) (by decide) (by decide +kernel) (by decide +kernel) (by simp) rfl)]
      simp only [e_Law_count_13, e_Law_count_14, kR_l, kR_r, kP_0, kP_i, kP_r, kP_n, kP_s, kP_o, kLen_I, kLen_L, kLen_R, kLdI_0, kLdI_1, kLdI_2, kLdI_3, kStI_0, kStI_1, kLdL_e, kStL_e, kLdR_e, kStR_e, kFld_e, kNth_0, kNth_s, kPut_e, fit_I, fit_Z, fit_B, fit_C, fit_A, fit_O, Option.toList_some, Option.toList_none, List.cons_append, List.nil_append, true_and, and_true, List.set_cons_zero, List.set_cons_succ, st_same, Int.toNat_natCast, Int.cast_ofNat_Int, Nat.zero_add, Nat.reduceAdd, kRcv_1, kRcv_2, kRcv_3, kRcv_0, kRcv_4, kRcv_5]
      first | exact hq | exact ⟨trivial, hq⟩ | exact ⟨by simp, hq⟩
    simp only [c0, if_false] at hk
    cases hk
def cd_ifDug : Nat → Option Int := fun e => if e = 0 then some 1 else none
theorem L_ifDug {p0 p1 p2 : Int} (hG : G 0 ≤ O) : LwW G B O cd_ifDug k_Law_ifDug [vR B, vI p0, vI p1, vI p2, vR O] k_Cp_ifDug [vR B, vI p0, vI p1, vI p2] := by
  intro σ Q hB h
  have hB' : σ.1 B = _ := hB
  simp only [c_Law_ifDug, e_Law_ifDug_0, e_Law_ifDug_2, e_Law_ifDug_3, e_Law_ifDug_4, e_Law_ifDug_5, e_Law_ifDug_6, e_Law_ifDug_7, kR_l, kR_r, kP_0, kP_i, kP_r, kP_n, kP_s, kP_o, kLen_I, kLen_L, kLen_R, kLdI_0, kLdI_1, kLdI_2, kLdI_3, kStI_0, kStI_1, kLdL_e, kStL_e, kLdR_e, kStR_e, kFld_e, kNth_0, kNth_s, kPut_e, fit_I, fit_Z, fit_B, fit_C, fit_A, fit_O, Option.toList_some, Option.toList_none, List.cons_append, List.nil_append, true_and, and_true, List.set_cons_zero, List.set_cons_succ, st_same, Int.toNat_natCast, Int.cast_ofNat_Int, Nat.zero_add, Nat.reduceAdd, kRcv_1, kRcv_2, kRcv_3, kRcv_0, kRcv_4, kRcv_5, hB']
  refine CW.mono h (fun r τ hr => ?_)
  rcases r with v | e
  · obtain ⟨w, f, rfl, hO, hq⟩ := hr
    simp only [e_Law_ifDug_10, e_Law_ifDug_11, e_Law_ifDug_12, e_Law_ifDug_17, e_Law_ifDug_18, e_Law_ifDug_19, e_Law_ifDug_20, kR_l, kR_r, kP_0, kP_i, kP_r, kP_n, kP_s, kP_o, kLen_I, kLen_L, kLen_R, kLdI_0, kLdI_1, kLdI_2, kLdI_3, kStI_0, kStI_1, kLdL_e, kStL_e, kLdR_e, kStR_e, kFld_e, kNth_0, kNth_s, kPut_e, fit_I, fit_Z, fit_B, fit_C, fit_A, fit_O, Option.toList_some, Option.toList_none, List.cons_append, List.nil_append, true_and, and_true, List.set_cons_zero, List.set_cons_succ, st_same, Int.toNat_natCast, Int.cast_ofNat_Int, Nat.zero_add, Nat.reduceAdd, kRcv_1, kRcv_2, kRcv_3, kRcv_0, kRcv_4, kRcv_5, hO, Int.reduceToNat]
    refine ⟨⟨hG, by omega, by omega, by omega⟩, ?_⟩
    first | exact hq | exact ⟨trivial, hq⟩ | exact ⟨by simp, hq⟩
  · obtain ⟨k, hk, hq⟩ := hr
    show am_hk k_Law_ifDug 7 [some (vR B), some (vI p0), some (vI p1), some (vI p2), some (vR O), none] e (fun pc' ls' => WP G k_Law_ifDug pc' ls' [] τ Q) (Q (.inr e) τ)
    have hmh : mH k_Law_ifDug = [(0, (12, (15, 13)))] := by decide +kernel
    unfold cd_ifDug at hk
    by_cases c0 : e = 0
    · subst c0
      have ek : k = 1 := by simpa using hk.symm
      subst ek
      rw [hk_go (pc' := 17) (ls' := [some (vR B), some (vI p0), some (vI p1), some (vI p2), some (vR O), none]) hmh (hnd_y2 (k := 5) (by decide) (by decide +kernel) (by decide +kernel) (by simp) rfl)]
      simp only [e_Law_ifDug_17, e_Law_ifDug_18, kR_l, kR_r, kP_0, kP_i, kP_r, kP_n, kP_s, kP_o, kLen_I, kLen_L, kLen_R, kLdI_0, kLdI_1, kLdI_2, kLdI_3, kStI_0, kStI_1, kLdL_e, kStL_e, kLdR_e, kStR_e, kFld_e, kNth_0, kNth_s, kPut_e, fit_I, fit_Z, fit_B, fit_C, fit_A, fit_O, Option.toList_some, Option.toList_none, List.cons_append, List.nil_append, true_and, and_true, List.set_cons_zero, List.set_cons_succ, st_same, Int.toNat_natCast, Int.cast_ofNat_Int, Nat.zero_add, Nat.reduceAdd, kRcv_1, kRcv_2, kRcv_3, kRcv_0, kRcv_4, kRcv_5]
      first | exact hq | exact ⟨trivial, hq⟩ | exact ⟨by simp, hq⟩
    simp only [c0, if_false] at hk
    cases hk
def cd_ifGiven : Nat → Option Int := fun e => if e = 2 then some 1 else none
theorem L_ifGiven {p0 : Int} (hG : G 0 ≤ O) : LwW G B O cd_ifGiven k_Law_ifGiven [vR B, vI p0, vR O] k_Cp_ifGiven [vR B, vI p0] := by
  intro σ Q hB h
  have hB' : σ.1 B = _ := hB
  simp only [c_Law_ifGiven, e_Law_ifGiven_0, e_Law_ifGiven_1, e_Law_ifGiven_2, e_Law_ifGiven_3, e_Law_ifGiven_4, kR_l, kR_r, kP_0, kP_i, kP_r, kP_n, kP_s, kP_o, kLen_I, kLen_L, kLen_R, kLdI_0, kLdI_1, kLdI_2, kLdI_3, kStI_0, kStI_1, kLdL_e, kStL_e, kLdR_e, kStR_e, kFld_e, kNth_0, kNth_s, kPut_e, fit_I, fit_Z, fit_B, fit_C, fit_A, fit_O, Option.toList_some, Option.toList_none, List.cons_append, List.nil_append, true_and, and_true, List.set_cons_zero, List.set_cons_succ, st_same, Int.toNat_natCast, Int.cast_ofNat_Int, Nat.zero_add, Nat.reduceAdd, kRcv_1, kRcv_2, kRcv_3, kRcv_0, kRcv_4, kRcv_5, hB']
  refine CW.mono h (fun r τ hr => ?_)
  rcases r with v | e
  · obtain ⟨w, f, rfl, hO, hq⟩ := hr
    simp only [e_Law_ifGiven_7, e_Law_ifGiven_8, e_Law_ifGiven_9, e_Law_ifGiven_13, e_Law_ifGiven_14, e_Law_ifGiven_15, e_Law_ifGiven_16, kR_l, kR_r, kP_0, kP_i, kP_r, kP_n, kP_s, kP_o, kLen_I, kLen_L, kLen_R, kLdI_0, kLdI_1, kLdI_2, kLdI_3, kStI_0, kStI_1, kLdL_e, kStL_e, kLdR_e, kStR_e, kFld_e, kNth_0, kNth_s, kPut_e, fit_I, fit_Z, fit_B, fit_C, fit_A, fit_O, Option.toList_some, Option.toList_none, List.cons_append, List.nil_append, true_and, and_true, List.set_cons_zero, List.set_cons_succ, st_same, Int.toNat_natCast, Int.cast_ofNat_Int, Nat.zero_add, Nat.reduceAdd, kRcv_1, kRcv_2, kRcv_3, kRcv_0, kRcv_4, kRcv_5, hO, Int.reduceToNat]
    refine ⟨⟨hG, by omega, by omega, by omega⟩, ?_⟩
    first | exact hq | exact ⟨trivial, hq⟩ | exact ⟨by simp, hq⟩
  · obtain ⟨k, hk, hq⟩ := hr
    show am_hk k_Law_ifGiven 4 [some (vR B), some (vI p0), some (vR O), none] e (fun pc' ls' => WP G k_Law_ifGiven pc' ls' [] τ Q) (Q (.inr e) τ)
    have hmh : mH k_Law_ifGiven = [(0, (9, (12, 21)))] := by decide +kernel
    unfold cd_ifGiven at hk
    by_cases c0 : e = 2
    · subst c0
      have ek : k = 1 := by simpa using hk.symm
      subst ek
      rw [hk_go (pc' := 13) (ls' := [some (vR B), some (vI p0), some (vR O), none]) hmh (hnd_y (k := 3) (by decide) (by decide +kernel) (by decide +kernel) (by simp) rfl)]
      simp only [e_Law_ifGiven_13, e_Law_ifGiven_14, kR_l, kR_r, kP_0, kP_i, kP_r, kP_n, kP_s, kP_o, kLen_I, kLen_L, kLen_R, kLdI_0, kLdI_1, kLdI_2, kLdI_3, kStI_0, kStI_1, kLdL_e, kStL_e, kLdR_e, kStR_e, kFld_e, kNth_0, kNth_s, kPut_e, fit_I, fit_Z, fit_B, fit_C, fit_A, fit_O, Option.toList_some, Option.toList_none, List.cons_append, List.nil_append, true_and, and_true, List.set_cons_zero, List.set_cons_succ, st_same, Int.toNat_natCast, Int.cast_ofNat_Int, Nat.zero_add, Nat.reduceAdd, kRcv_1, kRcv_2, kRcv_3, kRcv_0, kRcv_4, kRcv_5]
      first | exact hq | exact ⟨trivial, hq⟩ | exact ⟨by simp, hq⟩
    simp only [c0, if_false] at hk
    cases hk
end LAW
