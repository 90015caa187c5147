/-! THE CLASS'S WAYS: the spreading comes to its end; its start -/
section SP2
variable {G : Nat → Nat} {σ : AS} {Q : (Option AV ⊕ Nat) → AS → Prop} {W b : Nat} {s f fp : Nat → Int} {r : Int} {m : Nat → Int} {A : Nat → Nat → Int}
theorem sp_loop {m0 : Nat → Int} {A0 : Nat → Nat → Int} (hG : G 0 ≤ W) (hb1 : 1 ≤ b) (hb3 : b ≤ 3) (hf : SolM s b r f) (hE : EqS fp s) (hs : SOK s) (hMe : MeA fp b A0) (m11 : m0 11 = (b : Nat))
    (hQ : ∀ (m' : Nat → Int) (A' : Nat → Nat → Int), KeepS m0 m' A0 A' → (∀ p, p < 192 → A' 4 p = dT f p) → Q (.inl none) (setWy σ W m' A')) :
    ∀ (n t : Nat) (j : Int) (B H T : Nat) (m : Nat → Int) (A : Nat → Nat → Int) (z2 z3 z4 z5 : Option AV), KeepS m0 m A0 A → QW s b f (fun _ _ => False) j B m A H T → 0 ≤ j → (200 - j) * 193 + ((B - H : Nat) : Int) ≤ n → t + n ≤ 900000 → WP G k_Ways_spread 2 [some (vR W), some (vI (t : Nat)), z2, z3, z4, z5] [] (setWy σ W m A) Q := by
  intro n
  induction n with
  | zero =>
    intro t j B H T m A z2 z3 z4 z5 hK hW hj hm ht
    obtain ⟨m6, m7, hI⟩ := hW
    have h8 : ∀ p, p < 192 → f p = 1 → A 4 p ≤ 1 := fun p hp e => by
      have h1 := (hI.2.2.2.2.2.2.1 p hp (by omega)).1 (by rw [e]; show (1 : Int) % 1000 ≤ _; omega)
      have e2 : dT f p = 1 := by
        unfold dT
        rw [e]
        decide
      omega
    by_cases c : H < T
    · have := hI.j_lt hf c
      exfalso
      have hm' : (200 - j) * 193 + ((B - H : Nat) : Int) ≤ 0 := hm
      omega
    · have hHT := hI.1.1
      have hq := hQ m A hK (hI.fin hb3 hf (by omega) h8)
      rw [e_Ways_spread_2]
      simp only [e_Ways_spread_3, e_Ways_spread_5, e_Ways_spread_8, e_Ways_spread_9, e_Ways_spread_12, e_Ways_spread_182, kR_l, kR_r, kP_0, kP_i, kP_r, kP_n, kP_s, kP_o, kLen_I, kLen_L, kLen_R, kLdI_0, kLdI_1, kLdI_2, kLdI_3, kStI_0, kStI_1, kLdL_e, kStL_e, kLdR_e, kStR_e, kFld_e, kNth_0, kNth_s, kPut_e, fit_I, fit_Z, fit_B, fit_C, fit_A, fit_O, Option.toList_some, Option.toList_none, List.cons_append, List.nil_append, true_and, and_true, List.set_cons_zero, List.set_cons_succ, st_same, Int.toNat_natCast, Int.cast_ofNat_Int, Nat.zero_add, Nat.reduceAdd, kRcv_1, kRcv_2, kRcv_3, kRcv_0, kRcv_4, kRcv_5, setWy_set, Wyo, Wya1, Wyw1, Wya2, Wyw2, Wya3, Wyw3, Wya4, Wyw4, Wya5, Wyw5, Wya6, Wyw6, Wya7, Wyw7, Wya8, Wyw8, Wyp6, Wyp7, Wyp10, Wyp11, Wyp12, Wyp13, Wyp14, Wyp15]
      refine ⟨⟨by unfold inR; omega, by unfold inR; omega⟩, fun z => absurd z (by omega), fun _ => ⟨by unfold inR; omega, fun _ => hq, fun z => absurd z (by omega)⟩⟩
  | succ n ih =>
    intro t j B H T m A z2 z3 z4 z5 hK hW hj hm ht
    obtain ⟨m6, m7, hI⟩ := hW
    have h8 : ∀ p, p < 192 → f p = 1 → A 4 p ≤ 1 := fun p hp e => by
      have h1 := (hI.2.2.2.2.2.2.1 p hp (by omega)).1 (by rw [e]; show (1 : Int) % 1000 ≤ _; omega)
      have e2 : dT f p = 1 := by
        unfold dT
        rw [e]
        decide
      omega
    by_cases c : H < T
    · -- the phase
      have hph : ∃ (j' : Int) (B' : Nat), 0 ≤ j' ∧ (200 - j') * 193 + ((B' - H : Nat) : Int) ≤ ((n + 1 : Nat) : Int) ∧ H < B' ∧ QI s b f (fun _ _ => False) j' B' (A 4) (A 6) (A 5) H T := by
        by_cases e : H = B
        · have hr := hI.room.1
          exact ⟨j + 1, T, by omega, by omega, c, hI.phase hb3 hf e h8⟩
        · have := hI.1.2.1
          exact ⟨j, B, hj, hm, by omega, hI⟩
      obtain ⟨j', B', hj', hm', hHB, hI'⟩ := hph
      obtain ⟨p, hp, hKp, hUp, hFp, hpl, hI2⟩ := hI'.take hHB
      have a2 := hI'.2.1 p hp
      have hfp := dT_inf (f := f) (p := p) (by omega)
      have hd := dT_fin hf hp hfp
      have hroom := hI.room.1
      rw [e_Ways_spread_2]
      simp only [e_Ways_spread_3, e_Ways_spread_5, e_Ways_spread_8, e_Ways_spread_9, e_Ways_spread_12, e_Ways_spread_15, e_Ways_spread_16, kR_l, kR_r, kP_0, kP_i, kP_r, kP_n, kP_s, kP_o, kLen_I, kLen_L, kLen_R, kLdI_0, kLdI_1, kLdI_2, kLdI_3, kStI_0, kStI_1, kLdL_e, kStL_e, kLdR_e, kStR_e, kFld_e, kNth_0, kNth_s, kPut_e, fit_I, fit_Z, fit_B, fit_C, fit_A, fit_O, Option.toList_some, Option.toList_none, List.cons_append, List.nil_append, true_and, and_true, List.set_cons_zero, List.set_cons_succ, st_same, Int.toNat_natCast, Int.cast_ofNat_Int, Nat.zero_add, Nat.reduceAdd, kRcv_1, kRcv_2, kRcv_3, kRcv_0, kRcv_4, kRcv_5, setWy_set, Wyo, Wya1, Wyw1, Wya2, Wyw2, Wya3, Wyw3, Wya4, Wyw4, Wya5, Wyw5, Wya6, Wyw6, Wya7, Wyw7, Wya8, Wyw8, Wyp6, Wyp7, Wyp10, Wyp11, Wyp12, Wyp13, Wyp14, Wyp15]
      refine ⟨⟨by unfold inR; omega, by unfold inR; omega⟩, fun z => absurd z (by omega), fun _ => ⟨by unfold inR; omega, fun z => absurd z (by omega), fun _ => ?_⟩⟩
      rw [s_take (hd := H % 192) (sz := T - H) (p := p) hG m6 m7 (by omega) hroom hKp hp]
      simp only [e_Ways_spread_19, e_Ways_spread_20, e_Ways_spread_21, e_Ways_spread_23, e_Ways_spread_24, e_Ways_spread_25, e_Ways_spread_26, e_Ways_spread_28, e_Ways_spread_29, e_Ways_spread_31, e_Ways_spread_32, e_Ways_spread_35, e_Ways_spread_36, kR_l, kR_r, kP_0, kP_i, kP_r, kP_n, kP_s, kP_o, kLen_I, kLen_L, kLen_R, kLdI_0, kLdI_1, kLdI_2, kLdI_3, kStI_0, kStI_1, kLdL_e, kStL_e, kLdR_e, kStR_e, kFld_e, kNth_0, kNth_s, kPut_e, fit_I, fit_Z, fit_B, fit_C, fit_A, fit_O, Option.toList_some, Option.toList_none, List.cons_append, List.nil_append, true_and, and_true, List.set_cons_zero, List.set_cons_succ, st_same, Int.toNat_natCast, Int.cast_ofNat_Int, Nat.zero_add, Nat.reduceAdd, kRcv_1, kRcv_2, kRcv_3, kRcv_0, kRcv_4, kRcv_5, setWy_set, Wyo, Wya1, Wyw1, Wya2, Wyw2, Wya3, Wyw3, Wya4, Wyw4, Wya5, Wyw5, Wya6, Wyw6, Wya7, Wyw7, Wya8, Wyw8, Wyp6, Wyp7, Wyp10, Wyp11, Wyp12, Wyp13, Wyp14, Wyp15, pm16, pd16]
      refine ⟨⟨by omega, by omega, by omega, by omega⟩, ⟨by omega, by omega, by omega, by omega⟩, ?_⟩
      rw [s_Cp_at (Wya4 σ W _ _) (Or.inl rfl) (by omega) (by unfold inR; omega), if_pos (by omega), Int.toNat_natCast]
      simp only [e_Ways_spread_39, e_Ways_spread_40, e_Ways_spread_41, kR_l, kR_r, kP_0, kP_i, kP_r, kP_n, kP_s, kP_o, kLen_I, kLen_L, kLen_R, kLdI_0, kLdI_1, kLdI_2, kLdI_3, kStI_0, kStI_1, kLdL_e, kStL_e, kLdR_e, kStR_e, kFld_e, kNth_0, kNth_s, kPut_e, fit_I, fit_Z, fit_B, fit_C, fit_A, fit_O, Option.toList_some, Option.toList_none, List.cons_append, List.nil_append, true_and, and_true, List.set_cons_zero, List.set_cons_succ, st_same, Int.toNat_natCast, Int.cast_ofNat_Int, Nat.zero_add, Nat.reduceAdd, kRcv_1, kRcv_2, kRcv_3, kRcv_0, kRcv_4, kRcv_5]
      have e4 : upA A 6 (upI (A 6) p 0) 4 p = A 4 p := rfl
      rw [e4]
      refine sp_turn (j := j') (B := B') (H := H + 1) (T := T) (m0 := m0) (A0 := A0) hG hb1 hb3 hf hE hs hMe m11 hp (by omega) hfp a2.1 hpl ⟨⟨fun k a b => by rw [upI_at, if_neg b, upI_at, if_neg a, hK.1 k a b], fun k a b c => by rw [upA_at, if_neg c, hK.2 k a b c]⟩, ⟨?_, ?_, ?_⟩, rfl⟩ (fun m' A' T' hT' => ?_)
      · show (((H % 192 + 1) % 192 : Nat) : Int) = (((H + 1) % 192 : Nat) : Int)
        omega
      · show ((T - H : Nat) : Int) - 1 = ((T - (H + 1) : Nat) : Int)
        omega
      · exact hI2.edge (fun u d q _ _ _ z => Or.inl ⟨z.elim False.elim id, trivial⟩)
      · have nx := ih (t + 1) j' B' (H + 1) T' m' A' (some (vI (p : Nat))) (some (vI ((p % 16 : Nat) : Int))) (some (vI ((p / 16 : Nat) : Int))) (some (vI (A 4 p + 1))) hT'.1 ⟨hT'.2.1.1, hT'.2.1.2.1, hT'.2.1.2.2.edge (fun u d q _ hd _ z => absurd z.2 (by omega))⟩ hj' (by omega) (by omega)
        simp only [e_Ways_spread_176, e_Ways_spread_179, kR_l, kR_r, kP_0, kP_i, kP_r, kP_n, kP_s, kP_o, kLen_I, kLen_L, kLen_R, kLdI_0, kLdI_1, kLdI_2, kLdI_3, kStI_0, kStI_1, kLdL_e, kStL_e, kLdR_e, kStR_e, kFld_e, kNth_0, kNth_s, kPut_e, fit_I, fit_Z, fit_B, fit_C, fit_A, fit_O, Option.toList_some, Option.toList_none, List.cons_append, List.nil_append, true_and, and_true, List.set_cons_zero, List.set_cons_succ, st_same, Int.toNat_natCast, Int.cast_ofNat_Int, Nat.zero_add, Nat.reduceAdd, kRcv_1, kRcv_2, kRcv_3, kRcv_0, kRcv_4, kRcv_5]
        exact nx
    · have hHT := hI.1.1
      have hq := hQ m A hK (hI.fin hb3 hf (by omega) h8)
      rw [e_Ways_spread_2]
      simp only [e_Ways_spread_3, e_Ways_spread_5, e_Ways_spread_8, e_Ways_spread_9, e_Ways_spread_12, e_Ways_spread_182, kR_l, kR_r, kP_0, kP_i, kP_r, kP_n, kP_s, kP_o, kLen_I, kLen_L, kLen_R, kLdI_0, kLdI_1, kLdI_2, kLdI_3, kStI_0, kStI_1, kLdL_e, kStL_e, kLdR_e, kStR_e, kFld_e, kNth_0, kNth_s, kPut_e, fit_I, fit_Z, fit_B, fit_C, fit_A, fit_O, Option.toList_some, Option.toList_none, List.cons_append, List.nil_append, true_and, and_true, List.set_cons_zero, List.set_cons_succ, st_same, Int.toNat_natCast, Int.cast_ofNat_Int, Nat.zero_add, Nat.reduceAdd, kRcv_1, kRcv_2, kRcv_3, kRcv_0, kRcv_4, kRcv_5, setWy_set, Wyo, Wya1, Wyw1, Wya2, Wyw2, Wya3, Wyw3, Wya4, Wyw4, Wya5, Wyw5, Wya6, Wyw6, Wya7, Wyw7, Wya8, Wyw8, Wyp6, Wyp7, Wyp10, Wyp11, Wyp12, Wyp13, Wyp14, Wyp15]
      refine ⟨⟨by unfold inR; omega, by unfold inR; omega⟩, fun z => absurd z (by omega), fun _ => ⟨by unfold inR; omega, fun _ => hq, fun z => absurd z (by omega)⟩⟩
theorem s_spread {m0 : Nat → Int} {A0 : Nat → Nat → Int} {T : Nat} (hG : G 0 ≤ W) (hb1 : 1 ≤ b) (hb3 : b ≤ 3) (hf : SolM s b r f) (hE : EqS fp s) (hs : SOK s) (hMe : MeA fp b A0) (m11 : m0 11 = (b : Nat)) (hW : QW s b f (fun _ _ => False) 0 T m0 A0 0 T)
    (hQ : ∀ (m' : Nat → Int) (A' : Nat → Nat → Int), KeepS m0 m' A0 A' → (∀ p, p < 192 → A' 4 p = dT f p) → Q (.inl none) (setWy σ W m' A')) :
    CW G k_Ways_spread [vR W] (setWy σ W m0 A0) Q := by
  have hr := hW.2.2.room.1
  simp only [c_Ways_spread, e_Ways_spread_0, e_Ways_spread_1, kR_l, kR_r, kP_0, kP_i, kP_r, kP_n, kP_s, kP_o, kLen_I, kLen_L, kLen_R, kLdI_0, kLdI_1, kLdI_2, kLdI_3, kStI_0, kStI_1, kLdL_e, kStL_e, kLdR_e, kStR_e, kFld_e, kNth_0, kNth_s, kPut_e, fit_I, fit_Z, fit_B, fit_C, fit_A, fit_O, Option.toList_some, Option.toList_none, List.cons_append, List.nil_append, true_and, and_true, List.set_cons_zero, List.set_cons_succ, st_same, Int.toNat_natCast, Int.cast_ofNat_Int, Nat.zero_add, Nat.reduceAdd, kRcv_1, kRcv_2, kRcv_3, kRcv_0, kRcv_4, kRcv_5]
  exact sp_loop hG hb1 hb3 hf hE hs hMe m11 hQ 40000 0 0 T 0 T m0 A0 none none none none (KeepS.refl _ _) hW (by omega) (by omega) (by omega)
/-- the start -/
theorem QI_0 {F U K : Nat → Int} (hf : SolM s b r f) (hF : ∀ p, p < 192 → F p = 16777216) (hU : ∀ p, p < 192 → U p = 0) : QI s b f (fun _ _ => False) (-1) 0 F U K 0 0 := by
  refine ⟨⟨Nat.le_refl _, Nat.le_refl _, Nat.le_refl _, by rw [sum_zero 192 hU]; rfl⟩, fun p hp => ?_, fun i _ h => absurd h (by omega), fun i i' _ h1 h2 => absurd h2 (by omega), fun p hp h => ?_, fun u d q hu _ hF' => ?_, fun p hp hfp => ?_, fun i p _ h => absurd h (by omega)⟩
  · rw [hF p hp, hU p hp]
    refine ⟨?_, Int.le_refl _, fun h => absurd h (by omega), Or.inl rfl, fun h => absurd h (by omega)⟩
    by_cases c : f p < 1000000
    · have := (dT_fin hf hp c).2.2.2.2
      omega
    · have e : dT f p = 16777216 := if_neg c
      omega
  · rw [hU p hp] at h
    omega
  · rw [hF u hu] at hF'
    omega
  · have := (dT_fin hf hp hfp).2.1
    exact ⟨fun h => absurd h (by omega), fun h => absurd h (by omega)⟩
theorem s_start {L T R B : Int} (hG : G 0 ≤ W) (hb1 : 1 ≤ b) (hb3 : b ≤ 3) (hf : SolM s b r f) (hE : EqS fp s) (hs : SOK s) (hMe : MeA fp b A) (m11 : m 11 = (b : Nat)) (hBx : BxR s r L T R B) (m12 : m 12 = L) (m13 : m 13 = T) (m14 : m 14 = R) (m15 : m 15 = B)
    (hQ : ∀ (m' : Nat → Int) (A' : Nat → Nat → Int) (t : Nat), KeepS m m' A A' → QW s b f (fun _ _ => False) 0 t m' A' 0 t → Q (.inl none) (setWy σ W m' A')) :
    CW G k_Ways_startWhereLooked [vR W] (setWy σ W m A) Q := by
  have hSt := hMe.St hE hs hb1 hb3
  have hbx := hBx.1
  simp only [c_Ways_startWhereLooked, e_Ways_startWhereLooked_0, e_Ways_startWhereLooked_1, e_Ways_startWhereLooked_4, e_Ways_startWhereLooked_6, kR_l, kR_r, kP_0, kP_i, kP_r, kP_n, kP_s, kP_o, kLen_I, kLen_L, kLen_R, kLdI_0, kLdI_1, kLdI_2, kLdI_3, kStI_0, kStI_1, kLdL_e, kStL_e, kLdR_e, kStR_e, kFld_e, kNth_0, kNth_s, kPut_e, fit_I, fit_Z, fit_B, fit_C, fit_A, fit_O, Option.toList_some, Option.toList_none, List.cons_append, List.nil_append, true_and, and_true, List.set_cons_zero, List.set_cons_succ, st_same, Int.toNat_natCast, Int.cast_ofNat_Int, Nat.zero_add, Nat.reduceAdd, kRcv_1, kRcv_2, kRcv_3, kRcv_0, kRcv_4, kRcv_5, setWy_set, Wyo, Wya1, Wyw1, Wya2, Wyw2, Wya3, Wyw3, Wya4, Wyw4, Wya5, Wyw5, Wya6, Wyw6, Wya7, Wyw7, Wya8, Wyw8, Wyp6, Wyp7, Wyp10, Wyp11, Wyp12, Wyp13, Wyp14, Wyp15]
  rw [s_Arrays_fill (Wya4 σ W m A) (by omega) (by omega)]
  simp only [e_Ways_startWhereLooked_9, e_Ways_startWhereLooked_10, e_Ways_startWhereLooked_13, kR_l, kR_r, kP_0, kP_i, kP_r, kP_n, kP_s, kP_o, kLen_I, kLen_L, kLen_R, kLdI_0, kLdI_1, kLdI_2, kLdI_3, kStI_0, kStI_1, kLdL_e, kStL_e, kLdR_e, kStR_e, kFld_e, kNth_0, kNth_s, kPut_e, fit_I, fit_Z, fit_B, fit_C, fit_A, fit_O, Option.toList_some, Option.toList_none, List.cons_append, List.nil_append, true_and, and_true, List.set_cons_zero, List.set_cons_succ, st_same, Int.toNat_natCast, Int.cast_ofNat_Int, Nat.zero_add, Nat.reduceAdd, kRcv_1, kRcv_2, kRcv_3, kRcv_0, kRcv_4, kRcv_5, setWy_set, Wyo, Wya1, Wyw1, Wya2, Wyw2, Wya3, Wyw3, Wya4, Wyw4, Wya5, Wyw5, Wya6, Wyw6, Wya7, Wyw7, Wya8, Wyw8, Wyp6, Wyp7, Wyp10, Wyp11, Wyp12, Wyp13, Wyp14, Wyp15]
  rw [s_Cp_clearMarks (Wya6 σ W m _) (by omega) (by omega)]
  simp only [e_Ways_startWhereLooked_16, e_Ways_startWhereLooked_17, e_Ways_startWhereLooked_18, e_Ways_startWhereLooked_21, e_Ways_startWhereLooked_22, e_Ways_startWhereLooked_23, e_Ways_startWhereLooked_26, e_Ways_startWhereLooked_27, kR_l, kR_r, kP_0, kP_i, kP_r, kP_n, kP_s, kP_o, kLen_I, kLen_L, kLen_R, kLdI_0, kLdI_1, kLdI_2, kLdI_3, kStI_0, kStI_1, kLdL_e, kStL_e, kLdR_e, kStR_e, kFld_e, kNth_0, kNth_s, kPut_e, fit_I, fit_Z, fit_B, fit_C, fit_A, fit_O, Option.toList_some, Option.toList_none, List.cons_append, List.nil_append, true_and, and_true, List.set_cons_zero, List.set_cons_succ, st_same, Int.toNat_natCast, Int.cast_ofNat_Int, Nat.zero_add, Nat.reduceAdd, kRcv_1, kRcv_2, kRcv_3, kRcv_0, kRcv_4, kRcv_5, setWy_set, Wyo, Wya1, Wyw1, Wya2, Wyw2, Wya3, Wyw3, Wya4, Wyw4, Wya5, Wyw5, Wya6, Wyw6, Wya7, Wyw7, Wya8, Wyw8, Wyp6, Wyp7, Wyp10, Wyp11, Wyp12, Wyp13, Wyp14, Wyp15, List.length_cons, List.length_nil]
  refine ⟨⟨by omega, by omega⟩, ⟨by omega, by omega⟩, ?_⟩
  have key := upS (fun i (S : (Nat → Int) × (Nat → Nat → Int)) => WP G k_Ways_startWhereLooked 28 [some (vR W), some (vI (i : Nat))] [] (setWy σ W S.1 S.2) Q) (fun i S => KeepS m S.1 A S.2 ∧ (∃ t, QW s b f (fun _ _ => False) (-1) 0 S.1 S.2 0 t) ∧ ∀ p, p < i → f p = 1 → S.2 4 p ≤ 1) (n := 192) ?_ ?_
  · refine key (upI (upI m 6 0) 7 0, upA (upA A 4 (fun j => if j < 192 then 16777216 else A 4 j)) 6 (fun j => if j < 192 then 0 else upA A 4 (fun j => if j < 192 then 16777216 else A 4 j) 6 j)) ⟨⟨fun k a b => by dsimp only; rw [upI_at, if_neg b, upI_at, if_neg a], fun k a b c => by dsimp only; rw [upA_at, if_neg c, upA_at, if_neg a]⟩, ⟨0, ⟨rfl, rfl, QI_0 hf (fun p hp => ?_) (fun p hp => ?_)⟩⟩, fun p h => absurd h (by omega)⟩
    · exact if_pos hp
    · exact if_pos hp
  · rintro i ⟨m', A'⟩ hi ⟨hK, ⟨t, hW⟩, h8⟩ ih
    dsimp only at hK hW h8 ih
    have hSt' : StA s b A' := fun x hx => by
      rw [hK.2 3 (by decide) (by decide) (by decide)]
      exact hSt x hx
    obtain ⟨h3, hpl⟩ := hSt' i hi
    have q := fun k (a : k ≠ 6) (b : k ≠ 7) => hK.1 k a b
    have same := fun (hn : f i ≠ 1) => ih (m', A') ⟨hK, ⟨t, hW⟩, fun p hp e => by
      by_cases c : p = i
      · rw [c] at e
        exact absurd e hn
      · exact h8 p (by omega) e⟩
    dsimp only at same
    rw [e_Ways_startWhereLooked_28]
    simp only [e_Ways_startWhereLooked_29, e_Ways_startWhereLooked_32, e_Ways_startWhereLooked_35, e_Ways_startWhereLooked_36, e_Ways_startWhereLooked_37, kR_l, kR_r, kP_0, kP_i, kP_r, kP_n, kP_s, kP_o, kLen_I, kLen_L, kLen_R, kLdI_0, kLdI_1, kLdI_2, kLdI_3, kStI_0, kStI_1, kLdL_e, kStL_e, kLdR_e, kStR_e, kFld_e, kNth_0, kNth_s, kPut_e, fit_I, fit_Z, fit_B, fit_C, fit_A, fit_O, Option.toList_some, Option.toList_none, List.cons_append, List.nil_append, true_and, and_true, List.set_cons_zero, List.set_cons_succ, st_same, Int.toNat_natCast, Int.cast_ofNat_Int, Nat.zero_add, Nat.reduceAdd, kRcv_1, kRcv_2, kRcv_3, kRcv_0, kRcv_4, kRcv_5, setWy_set, Wyo, Wya1, Wyw1, Wya2, Wyw2, Wya3, Wyw3, Wya4, Wyw4, Wya5, Wyw5, Wya6, Wyw6, Wya7, Wyw7, Wya8, Wyw8, Wyp6, Wyp7, Wyp10, Wyp11, Wyp12, Wyp13, Wyp14, Wyp15, s_canStand hi h3]
    refine ⟨⟨by unfold inR; omega, by unfold inR; omega⟩, fun z => absurd z (by omega), fun _ => ?_⟩
    by_cases c1 : A' 3 i < 4096
    · have hp := hpl.mp c1
      have hat := at_iff hb1 hBx hp
      rw [b01_t c1]
      simp only [e_Ways_startWhereLooked_40, e_Ways_startWhereLooked_43, e_Ways_startWhereLooked_44, e_Ways_startWhereLooked_45, kR_l, kR_r, kP_0, kP_i, kP_r, kP_n, kP_s, kP_o, kLen_I, kLen_L, kLen_R, kLdI_0, kLdI_1, kLdI_2, kLdI_3, kStI_0, kStI_1, kLdL_e, kStL_e, kLdR_e, kStR_e, kFld_e, kNth_0, kNth_s, kPut_e, fit_I, fit_Z, fit_B, fit_C, fit_A, fit_O, Option.toList_some, Option.toList_none, List.cons_append, List.nil_append, true_and, and_true, List.set_cons_zero, List.set_cons_succ, st_same, Int.toNat_natCast, Int.cast_ofNat_Int, Nat.zero_add, Nat.reduceAdd, kRcv_1, kRcv_2, kRcv_3, kRcv_0, kRcv_4, kRcv_5, setWy_set, Wyo, Wya1, Wyw1, Wya2, Wyw2, Wya3, Wyw3, Wya4, Wyw4, Wya5, Wyw5, Wya6, Wyw6, Wya7, Wyw7, Wya8, Wyw8, Wyp6, Wyp7, Wyp10, Wyp11, Wyp12, Wyp13, Wyp14, Wyp15]
      refine ⟨by unfold inR; omega, (fun h => by first | exact absurd h (by omega) | exact absurd trivial h | (exfalso; simp_all; done)), fun _ => ?_⟩
      have iac := fun (v : Int) h1 h0 Q => s_isAtChamber (G := G) (σ := σ) (Q := Q) (W := W) (b := b) (m := m') (A := A') (p := i) (v := v) (L := L) (T := T) (R := R) (B := B) (by rw [q 11 (by decide) (by decide)]; exact m11) hb3 hi (by rw [q 12 (by decide) (by decide)]; exact m12) (by rw [q 13 (by decide) (by decide)]; exact m13) (by rw [q 14 (by decide) (by decide)]; exact m14) (by rw [q 15 (by decide) (by decide)]; exact m15) (by omega) (by omega) (by omega) (by omega) h1 h0
      by_cases c2 : icC b L T R B i
      · have hf1 : f i = 1 := (hf.2.1 i hi).mpr ⟨hp, atB_1 (hat.mp c2)⟩
        have ed : dT f i = 1 := by
          unfold dT
          rw [hf1]
          decide
        rw [iac 1 (fun _ => rfl) (fun z => absurd c2 z)]
        simp only [e_Ways_startWhereLooked_48, e_Ways_startWhereLooked_51, e_Ways_startWhereLooked_52, e_Ways_startWhereLooked_53, e_Ways_startWhereLooked_54, kR_l, kR_r, kP_0, kP_i, kP_r, kP_n, kP_s, kP_o, kLen_I, kLen_L, kLen_R, kLdI_0, kLdI_1, kLdI_2, kLdI_3, kStI_0, kStI_1, kLdL_e, kStL_e, kLdR_e, kStR_e, kFld_e, kNth_0, kNth_s, kPut_e, fit_I, fit_Z, fit_B, fit_C, fit_A, fit_O, Option.toList_some, Option.toList_none, List.cons_append, List.nil_append, true_and, and_true, List.set_cons_zero, List.set_cons_succ, st_same, Int.toNat_natCast, Int.cast_ofNat_Int, Nat.zero_add, Nat.reduceAdd, kRcv_1, kRcv_2, kRcv_3, kRcv_0, kRcv_4, kRcv_5, setWy_set, Wyo, Wya1, Wyw1, Wya2, Wyw2, Wya3, Wyw3, Wya4, Wyw4, Wya5, Wyw5, Wya6, Wyw6, Wya7, Wyw7, Wya8, Wyw8, Wyp6, Wyp7, Wyp10, Wyp11, Wyp12, Wyp13, Wyp14, Wyp15]
        refine ⟨by unfold inR; omega, (fun h => by first | exact absurd h (by omega) | exact absurd trivial h | (exfalso; simp_all; done)), fun _ => ?_⟩
        refine s_reachQ hG hW hSt' hi (by omega) (fun _ => by omega) (by unfold inR; omega) (fun m2 A2 t2 k1 k2 k3 k4 k5 => ?_)
        have nx := ih (m2, A2) ⟨hK.trans k1, ⟨t2, k2⟩, fun p hpp e => by
          dsimp only
          by_cases c : p = i
          · rw [c]; exact k3 hp
          · rw [k4 p c]; exact h8 p (by omega) e⟩
        simp only [e_Ways_startWhereLooked_57, e_Ways_startWhereLooked_60, kR_l, kR_r, kP_0, kP_i, kP_r, kP_n, kP_s, kP_o, kLen_I, kLen_L, kLen_R, kLdI_0, kLdI_1, kLdI_2, kLdI_3, kStI_0, kStI_1, kLdL_e, kStL_e, kLdR_e, kStR_e, kFld_e, kNth_0, kNth_s, kPut_e, fit_I, fit_Z, fit_B, fit_C, fit_A, fit_O, Option.toList_some, Option.toList_none, List.cons_append, List.nil_append, true_and, and_true, List.set_cons_zero, List.set_cons_succ, st_same, Int.toNat_natCast, Int.cast_ofNat_Int, Nat.zero_add, Nat.reduceAdd, kRcv_1, kRcv_2, kRcv_3, kRcv_0, kRcv_4, kRcv_5]
        exact nx
      · have hf1 : f i ≠ 1 := fun e => c2 (hat.mpr (atB_of ((hf.2.1 i hi).mp e).2))
        rw [iac 0 (fun z => absurd z c2) (fun _ => rfl)]
        simp only [e_Ways_startWhereLooked_48, e_Ways_startWhereLooked_57, e_Ways_startWhereLooked_60, kR_l, kR_r, kP_0, kP_i, kP_r, kP_n, kP_s, kP_o, kLen_I, kLen_L, kLen_R, kLdI_0, kLdI_1, kLdI_2, kLdI_3, kStI_0, kStI_1, kLdL_e, kStL_e, kLdR_e, kStR_e, kFld_e, kNth_0, kNth_s, kPut_e, fit_I, fit_Z, fit_B, fit_C, fit_A, fit_O, Option.toList_some, Option.toList_none, List.cons_append, List.nil_append, true_and, and_true, List.set_cons_zero, List.set_cons_succ, st_same, Int.toNat_natCast, Int.cast_ofNat_Int, Nat.zero_add, Nat.reduceAdd, kRcv_1, kRcv_2, kRcv_3, kRcv_0, kRcv_4, kRcv_5]
        have nx := same hf1
        clear ih same
        all_goals ((repeat' (first | with_reducible refine And.intro ?_ ?_ | intro _)) <;> first | with_reducible assumption | exact True.intro | with_reducible exact nx | omega | (simp only [inR] at *; omega) | exact nx | with_reducible rfl | rfl | (simp; done) | (exfalso; simp_all; done) | skip)
    · have hf1 : f i ≠ 1 := fun e => c1 (hpl.mpr ((hf.2.1 i hi).mp e).1)
      rw [b01_f c1]
      simp only [e_Ways_startWhereLooked_40, e_Ways_startWhereLooked_57, e_Ways_startWhereLooked_60, kR_l, kR_r, kP_0, kP_i, kP_r, kP_n, kP_s, kP_o, kLen_I, kLen_L, kLen_R, kLdI_0, kLdI_1, kLdI_2, kLdI_3, kStI_0, kStI_1, kLdL_e, kStL_e, kLdR_e, kStR_e, kFld_e, kNth_0, kNth_s, kPut_e, fit_I, fit_Z, fit_B, fit_C, fit_A, fit_O, Option.toList_some, Option.toList_none, List.cons_append, List.nil_append, true_and, and_true, List.set_cons_zero, List.set_cons_succ, st_same, Int.toNat_natCast, Int.cast_ofNat_Int, Nat.zero_add, Nat.reduceAdd, kRcv_1, kRcv_2, kRcv_3, kRcv_0, kRcv_4, kRcv_5]
      have nx := same hf1
      clear ih same
      all_goals ((repeat' (first | with_reducible refine And.intro ?_ ?_ | intro _)) <;> first | with_reducible assumption | exact True.intro | with_reducible exact nx | omega | (simp only [inR] at *; omega) | exact nx | with_reducible rfl | rfl | (simp; done) | (exfalso; simp_all; done) | skip)
  · rintro ⟨m', A'⟩ ⟨hK, ⟨t, hW⟩, h8⟩
    dsimp only at hK hW h8
    have hI := hW.2.2.phase hb3 hf rfl (fun p hp e => h8 p hp e)
    have hq := hQ m' A' t hK ⟨hW.1, hW.2.1, hI⟩
    rw [e_Ways_startWhereLooked_28]
    simp only [e_Ways_startWhereLooked_29, e_Ways_startWhereLooked_32, e_Ways_startWhereLooked_63, kR_l, kR_r, kP_0, kP_i, kP_r, kP_n, kP_s, kP_o, kLen_I, kLen_L, kLen_R, kLdI_0, kLdI_1, kLdI_2, kLdI_3, kStI_0, kStI_1, kLdL_e, kStL_e, kLdR_e, kStR_e, kFld_e, kNth_0, kNth_s, kPut_e, fit_I, fit_Z, fit_B, fit_C, fit_A, fit_O, Option.toList_some, Option.toList_none, List.cons_append, List.nil_append, true_and, and_true, List.set_cons_zero, List.set_cons_succ, st_same, Int.toNat_natCast, Int.cast_ofNat_Int, Nat.zero_add, Nat.reduceAdd, kRcv_1, kRcv_2, kRcv_3, kRcv_0, kRcv_4, kRcv_5]
    refine ⟨⟨by unfold inR; omega, by unfold inR; omega⟩, fun _ => hq, fun z => absurd (by omega) z⟩
end SP2
