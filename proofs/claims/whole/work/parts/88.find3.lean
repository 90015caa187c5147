/-! THE CLASS'S WAYS: follow, find -/
section FND3
variable {G : Nat → Nat} {σ : AS} {Q : (Option AV ⊕ Nat) → AS → Prop} {P W b : Nat} {s f fp g h : Nat → Int} {r c : Int} {m : Nat → Int} {A : Nat → Nat → Int}
theorem s_follow {p0 N : Nat} (hG : G 0 ≤ W) (hb1 : 1 ≤ b) (hb3 : b ≤ 3) (hf : SolM s b r f) (hE : EqS fp s) (hs : SOK s) (hMe : MeA fp b A) (h4 : ∀ p, p < 192 → A 4 p = dT f p) (m11 : m 11 = (b : Nat)) (m10 : m 10 = 0) (hp0 : p0 < 192) (hfp : f p0 < 1000000) (hN : f p0 % 1000 = (N : Nat)) :
    CW G k_Ways_follow [vR W, vI (p0 : Nat)] (setWy σ W m A) Q = Q (.inl none) (setWy σ W (upI m 10 (N : Nat)) (upA A 8 (fun j => if j < N then ptM s b f (p0 : Nat) j else A 8 j))) := by
  refine CW.det' fun R hR => ?_
  have hm := Sol_mod' hf hp0 hfp
  have hPF := Sol_PF hb1 hb3 hf
  have hpt := fun k hk => ptM_ok hb1 hPF hp0 hfp hN k hk
  have hF4 : ∀ k, k < 192 → 0 ≤ A 4 k ∧ A 4 k ≤ 16777216 := fun k hk => by
    rw [h4 k hk]
    by_cases c : f k < 1000000
    · have := dT_fin hf hk c
      omega
    · have e : dT f k = 16777216 := if_neg c
      omega
  have hw : ∀ k, k < 192 → (0 ≤ A 1 k ∧ A 1 k ≤ 4096) ∧ 0 ≤ A 2 k ∧ A 2 k ≤ 4096 := fun k hk => by
    rw [(hMe k hk).1, (hMe k hk).2.1]
    exact ⟨rkV_bd fp b k hb3 (by omega), rkV_bd fp b k (by omega) hb3⟩
  have nP : ∀ (m' : Nat → Int) (F : Nat → Int) (q : Nat) (Q : (Option AV ⊕ Nat) → AS → Prop), m' 11 = (b : Nat) → q < 192 → f q < 1000000 → CW G k_Ways_nextPlace [vR W, vI (q : Nat)] (setWy σ W m' (upA A 8 F)) Q = Q (.inl (some (vI (if f q = 1 then -1 else folM s b f q 4)))) (setWy σ W m' (upA A 8 F)) := fun m' F q Q hm' hq hfq => by
    rw [s_nextPlace (b := b) (A := upA A 8 F) hm' hb1 hb3 hq hF4 hw, npC_eq (A := upA A 8 F) hb1 hb3 hf hE hs hMe h4 hq hfq]
  simp only [c_Ways_follow, e_Ways_follow_0, e_Ways_follow_1, kR_l, kR_r, kP_0, kP_i, kP_r, kP_n, kP_s, kP_o, kLen_I, kLen_L, kLen_R, kLdI_0, kLdI_1, kLdI_2, kLdI_3, kStI_0, kStI_1, kLdL_e, kStL_e, kLdR_e, kStR_e, kFld_e, kNth_0, kNth_s, kPut_e, fit_I, fit_Z, fit_B, fit_C, fit_A, fit_O, Option.toList_some, Option.toList_none, List.cons_append, List.nil_append, true_and, and_true, List.set_cons_zero, List.set_cons_succ, st_same, Int.toNat_natCast, Int.cast_ofNat_Int, Nat.zero_add, Nat.reduceAdd, kRcv_1, kRcv_2, kRcv_3, kRcv_0, kRcv_4, kRcv_5]
  have key := up (fun k => k ≤ N → WP G k_Ways_follow 2 [some (vR W), some (vI (p0 : Nat)), some (vI (if k = N then -1 else ptM s b f (p0 : Nat) k))] [] (setWy σ W (upI m 10 (k : Nat)) (upA A 8 (fun j => if j < k then ptM s b f (p0 : Nat) j else A 8 j))) R) (n := N) ?_ ?_
  · have k0 := key (by omega)
    have e10 : upI m 10 ((0 : Nat) : Int) = m := by
      funext j
      rw [upI_at]
      split
      · rename_i e
        rw [e, m10]
        rfl
      · rfl
    rw [upl_0, upA_self, e10, if_neg (by omega)] at k0
    exact k0
  · intro k hk ih hkN
    have ih' := ih (by omega)
    obtain ⟨q, hq, q1, q2, q3⟩ := hpt k hk
    have hmq := Sol_mod' hf q1 q2
    have e8 : upI (fun j => if j < k then ptM s b f (p0 : Nat) j else A 8 j) k q = fun j => if j < k + 1 then ptM s b f (p0 : Nat) j else A 8 j := by
      rw [← hq, upl_s (ptM s b f (p0 : Nat)) (A 8) k]
    have eA : ∀ F G' : Nat → Int, upA (upA A 8 F) 8 G' = upA A 8 G' := fun F G' => upA_upA A 8 F G'
    rw [if_neg (show ¬ k = N by omega), hq]
    rw [e_Ways_follow_2]
    simp only [e_Ways_follow_3, e_Ways_follow_4, e_Ways_follow_7, e_Ways_follow_8, e_Ways_follow_11, e_Ways_follow_14, e_Ways_follow_17, e_Ways_follow_18, e_Ways_follow_21, e_Ways_follow_22, e_Ways_follow_25, e_Ways_follow_26, kR_l, kR_r, kP_0, kP_i, kP_r, kP_n, kP_s, kP_o, kLen_I, kLen_L, kLen_R, kLdI_0, kLdI_1, kLdI_2, kLdI_3, kStI_0, kStI_1, kLdL_e, kStL_e, kLdR_e, kStR_e, kFld_e, kNth_0, kNth_s, kPut_e, fit_I, fit_Z, fit_B, fit_C, fit_A, fit_O, Option.toList_some, Option.toList_none, List.cons_append, List.nil_append, true_and, and_true, List.set_cons_zero, List.set_cons_succ, st_same, Int.toNat_natCast, Int.cast_ofNat_Int, Nat.zero_add, Nat.reduceAdd, kRcv_1, kRcv_2, kRcv_3, kRcv_0, kRcv_4, kRcv_5, setWy_set, Wyo, Wya1, Wyw1, Wya2, Wyw2, Wya3, Wyw3, Wya4, Wyw4, Wya5, Wyw5, Wya6, Wyw6, Wya7, Wyw7, Wya8, Wyw8, Wyp6, Wyp7, Wyp10, Wyp11, Wyp12, Wyp13, Wyp14, Wyp15, upI_eq]
    refine ⟨⟨by unfold inR; omega, by unfold inR; omega⟩, fun z => absurd z (by omega), fun _ => ⟨⟨by unfold inR; omega, by unfold inR; omega⟩, fun z => absurd z (by omega), fun _ => ?_⟩⟩
    rw [s_Cp_put' (Wya8 σ W _ _) (by omega) (by omega) (by omega) (by omega), Int.toNat_natCast]
    simp only [e_Ways_follow_29, e_Ways_follow_30, e_Ways_follow_31, e_Ways_follow_34, e_Ways_follow_35, e_Ways_follow_36, e_Ways_follow_39, e_Ways_follow_40, e_Ways_follow_41, kR_l, kR_r, kP_0, kP_i, kP_r, kP_n, kP_s, kP_o, kLen_I, kLen_L, kLen_R, kLdI_0, kLdI_1, kLdI_2, kLdI_3, kStI_0, kStI_1, kLdL_e, kStL_e, kLdR_e, kStR_e, kFld_e, kNth_0, kNth_s, kPut_e, fit_I, fit_Z, fit_B, fit_C, fit_A, fit_O, Option.toList_some, Option.toList_none, List.cons_append, List.nil_append, true_and, and_true, List.set_cons_zero, List.set_cons_succ, st_same, Int.toNat_natCast, Int.cast_ofNat_Int, Nat.zero_add, Nat.reduceAdd, kRcv_1, kRcv_2, kRcv_3, kRcv_0, kRcv_4, kRcv_5, setWy_set, Wyo, Wya1, Wyw1, Wya2, Wyw2, Wya3, Wyw3, Wya4, Wyw4, Wya5, Wyw5, Wya6, Wyw6, Wya7, Wyw7, Wya8, Wyw8, Wyp6, Wyp7, Wyp10, Wyp11, Wyp12, Wyp13, Wyp14, Wyp15, List.length_cons, List.length_nil, upI_eq, upI_upI, upA_upA, upA_at, if_true, e8]
    refine ⟨⟨by omega, by omega⟩, ?_⟩
    rw [show ((k : Int) + 1) = ((k + 1 : Nat) : Int) by omega, nP (upI m 10 ((k + 1 : Nat) : Int)) _ q _ m11 q1 q2]
    simp only [e_Ways_follow_44, e_Ways_follow_45, kR_l, kR_r, kP_0, kP_i, kP_r, kP_n, kP_s, kP_o, kLen_I, kLen_L, kLen_R, kLdI_0, kLdI_1, kLdI_2, kLdI_3, kStI_0, kStI_1, kLdL_e, kStL_e, kLdR_e, kStR_e, kFld_e, kNth_0, kNth_s, kPut_e, fit_I, fit_Z, fit_B, fit_C, fit_A, fit_O, Option.toList_some, Option.toList_none, List.cons_append, List.nil_append, true_and, and_true, List.set_cons_zero, List.set_cons_succ, st_same, Int.toNat_natCast, Int.cast_ofNat_Int, Nat.zero_add, Nat.reduceAdd, kRcv_1, kRcv_2, kRcv_3, kRcv_0, kRcv_4, kRcv_5]
    have ev : (if f q = 1 then -1 else folM s b f q 4) = if k + 1 = N then -1 else ptM s b f (p0 : Nat) (k + 1) := by
      by_cases c1 : f q = 1
      · rw [if_pos c1, if_pos]
        rw [c1] at q3
        have : (1 : Int) % 1000 = 1 := rfl
        omega
      · rw [if_neg c1, if_neg (fun e => c1 (hmq.2.2 (by omega)))]
        unfold ptM
        rw [hq, Int.toNat_natCast]
    rw [ev]
    exact ih'
  · intro hkN
    rw [if_pos rfl]
    rw [e_Ways_follow_2]
    simp only [e_Ways_follow_3, e_Ways_follow_4, e_Ways_follow_48, kR_l, kR_r, kP_0, kP_i, kP_r, kP_n, kP_s, kP_o, kLen_I, kLen_L, kLen_R, kLdI_0, kLdI_1, kLdI_2, kLdI_3, kStI_0, kStI_1, kLdL_e, kStL_e, kLdR_e, kStR_e, kFld_e, kNth_0, kNth_s, kPut_e, fit_I, fit_Z, fit_B, fit_C, fit_A, fit_O, Option.toList_some, Option.toList_none, List.cons_append, List.nil_append, true_and, and_true, List.set_cons_zero, List.set_cons_succ, st_same, Int.toNat_natCast, Int.cast_ofNat_Int, Nat.zero_add, Nat.reduceAdd, kRcv_1, kRcv_2, kRcv_3, kRcv_0, kRcv_4, kRcv_5]
    refine ⟨⟨by unfold inR; omega, by unfold inR; omega⟩, fun _ => hR, (fun h => by first | exact absurd h (by omega) | exact absurd trivial h | (exfalso; simp_all; done))⟩
theorem bdM_max {s : Nat → Int} {one other : Nat} {w : Int} (e : w = wkM s one other) (hw : 0 ≤ wkM s one other ∧ wkM s one other ≤ 3) : (if (1 : Int) < w then w else 1) = (bdM s one other : Nat) := by
  unfold bdM
  rw [e]
  split <;> split <;> omega
theorem msA_Me (fp : Nat → Int) (b : Nat) (A : Nat → Nat → Int) : MeA fp b (msA fp b A) := fun k hk => ⟨if_pos hk, if_pos hk, if_pos hk⟩
/-- what a search needs of the plan -/
def PlW (s fp g h : Nat → Int) : Prop := SqOK fp ∧ EqS fp s ∧ SOK s ∧ WkOK s ∧ (∀ a b, a < 6 → b < 6 → wdAt h a b = wkM s a b) ∧ ∀ r : Nat, r < 6 → thM s (r : Nat) = 1 → BxR s (r : Nat) (bxAt g (r : Nat) 0) (bxAt g (r : Nat) 1) (bxAt g (r : Nat) 0 + bxAt g (r : Nat) 2) (bxAt g (r : Nat) 1 + bxAt g (r : Nat) 3)
def rsF (s : Nat → Int) (one other : Nat) : Int := if isW s one other = 1 then cW s one other else -1
theorem s_find {one other : Nat} (hP : ∀ m A, PlanC (setWy σ W m A) P fp g h c) (hG : G 0 ≤ W) (hR : PlW s fp g h) (ho : one < 6) (ho2 : other < 6) (ht1 : thM s (one : Nat) = 1) (ht2 : thM s (other : Nat) = 1)
    (hQ : ∀ (m' : Nat → Int) (A' : Nat → Nat → Int), m' 11 = (bdM s one other : Nat) → m' 10 = (nW s one other : Nat) → (∀ k, k < nW s one other → A' 8 k = pW s one other k) → A' 7 = A 7 → Q (.inl (some (vI (rsF s one other)))) (setWy σ W m' A')) :
    CW G k_Ways_find [vR W, vR P, vI (one : Nat), vI (other : Nat)] (setWy σ W m A) Q := by
  obtain ⟨hfp, hE, hs, hWk, hwd, hbox⟩ := hR
  have hwk := hWk one other ho ho2
  have hb := bdM_bd hwk
  have hf := fW_sol hwk
  have hbm := bdM_max (hwd one other ho ho2) hwk
  have hB1 := hbox one ho ht1
  have hB2 := hbox other ho2 ht2
  have hbsb := bsM4_bd (s := s) (b := bdM s one other) hb.2 (one := (one : Nat)) (f := fW s one other) (rsM_bd hb.2 _ (fun k => ⟨Int.le_refl _, by decide⟩) (fun k => ⟨Int.le_refl _, by decide⟩)).1 192
  have hbso := bsM4_ok (s := s) (b := bdM s one other) (one := (one : Nat)) (f := fW s one other) 192
  have hwr := hwd one other ho ho2
  unfold rsF isW cW at hQ
  unfold nW pW at hQ
  unfold bW at hQ
  generalize hbb : bdM s one other = b at *
  generalize hff : fW s one other = f at *
  simp only [c_Ways_find, e_Ways_find_0, e_Ways_find_1, e_Ways_find_2, e_Ways_find_3, e_Ways_find_4, e_Ways_find_5, kR_l, kR_r, kP_0, kP_i, kP_r, kP_n, kP_s, kP_o, kLen_I, kLen_L, kLen_R, kLdI_0, kLdI_1, kLdI_2, kLdI_3, kStI_0, kStI_1, kLdL_e, kStL_e, kLdR_e, kStR_e, kFld_e, kNth_0, kNth_s, kPut_e, fit_I, fit_Z, fit_B, fit_C, fit_A, fit_O, Option.toList_some, Option.toList_none, List.cons_append, List.nil_append, true_and, and_true, List.set_cons_zero, List.set_cons_succ, st_same, Int.toNat_natCast, Int.cast_ofNat_Int, Nat.zero_add, Nat.reduceAdd, kRcv_1, kRcv_2, kRcv_3, kRcv_0, kRcv_4, kRcv_5, (hP m A).1, kRcv_1]
  rw [s_Plan_widthBetween (hP m A) ho ho2]
  simp only [e_Ways_find_8, e_Ways_find_11, e_Ways_find_14, e_Ways_find_15, e_Ways_find_16, kR_l, kR_r, kP_0, kP_i, kP_r, kP_n, kP_s, kP_o, kLen_I, kLen_L, kLen_R, kLdI_0, kLdI_1, kLdI_2, kLdI_3, kStI_0, kStI_1, kLdL_e, kStL_e, kLdR_e, kStR_e, kFld_e, kNth_0, kNth_s, kPut_e, fit_I, fit_Z, fit_B, fit_C, fit_A, fit_O, Option.toList_some, Option.toList_none, List.cons_append, List.nil_append, true_and, and_true, List.set_cons_zero, List.set_cons_succ, st_same, Int.toNat_natCast, Int.cast_ofNat_Int, Nat.zero_add, Nat.reduceAdd, kRcv_1, kRcv_2, kRcv_3, kRcv_0, kRcv_4, kRcv_5, setWy_set, Wyo, Wya1, Wyw1, Wya2, Wyw2, Wya3, Wyw3, Wya4, Wyw4, Wya5, Wyw5, Wya6, Wyw6, Wya7, Wyw7, Wya8, Wyw8, Wyp6, Wyp7, Wyp10, Wyp11, Wyp12, Wyp13, Wyp14, Wyp15, List.length_cons, List.length_nil, hbm]
  refine ⟨⟨by unfold inR; omega, by unfold inR; omega⟩, ⟨by omega, by omega⟩, ?_⟩
  rw [s_measure hP hfp hG (show upI m 11 (b : Nat) 11 = (b : Nat) from upI_eq _ _ _) hb.1 hb.2]
  simp only [e_Ways_find_19, e_Ways_find_20, e_Ways_find_21, e_Ways_find_22, kR_l, kR_r, kP_0, kP_i, kP_r, kP_n, kP_s, kP_o, kLen_I, kLen_L, kLen_R, kLdI_0, kLdI_1, kLdI_2, kLdI_3, kStI_0, kStI_1, kLdL_e, kStL_e, kLdR_e, kStR_e, kFld_e, kNth_0, kNth_s, kPut_e, fit_I, fit_Z, fit_B, fit_C, fit_A, fit_O, Option.toList_some, Option.toList_none, List.cons_append, List.nil_append, true_and, and_true, List.set_cons_zero, List.set_cons_succ, st_same, Int.toNat_natCast, Int.cast_ofNat_Int, Nat.zero_add, Nat.reduceAdd, kRcv_1, kRcv_2, kRcv_3, kRcv_0, kRcv_4, kRcv_5, setWy_set, Wyo, Wya1, Wyw1, Wya2, Wyw2, Wya3, Wyw3, Wya4, Wyw4, Wya5, Wyw5, Wya6, Wyw6, Wya7, Wyw7, Wya8, Wyw8, Wyp6, Wyp7, Wyp10, Wyp11, Wyp12, Wyp13, Wyp14, Wyp15]
  rw [s_lookAt hP hG (by unfold inR; omega)]
  simp only [e_Ways_find_25, e_Ways_find_26, kR_l, kR_r, kP_0, kP_i, kP_r, kP_n, kP_s, kP_o, kLen_I, kLen_L, kLen_R, kLdI_0, kLdI_1, kLdI_2, kLdI_3, kStI_0, kStI_1, kLdL_e, kStL_e, kLdR_e, kStR_e, kFld_e, kNth_0, kNth_s, kPut_e, fit_I, fit_Z, fit_B, fit_C, fit_A, fit_O, Option.toList_some, Option.toList_none, List.cons_append, List.nil_append, true_and, and_true, List.set_cons_zero, List.set_cons_succ, st_same, Int.toNat_natCast, Int.cast_ofNat_Int, Nat.zero_add, Nat.reduceAdd, kRcv_1, kRcv_2, kRcv_3, kRcv_0, kRcv_4, kRcv_5, setWy_set, Wyo, Wya1, Wyw1, Wya2, Wyw2, Wya3, Wyw3, Wya4, Wyw4, Wya5, Wyw5, Wya6, Wyw6, Wya7, Wyw7, Wya8, Wyw8, Wyp6, Wyp7, Wyp10, Wyp11, Wyp12, Wyp13, Wyp14, Wyp15]
  have hMe := msA_Me fp b A
  refine s_start (r := (other : Nat)) (f := f) hG hb.1 hb.2 hf hE hs hMe (show lkM (upI m 11 (b : Nat)) g (other : Nat) 11 = (b : Nat) from upI_eq m 11 _) hB2 rfl rfl rfl rfl (fun m3 A3 t k1 k2 => ?_)
  simp only [e_Ways_find_29, e_Ways_find_30, kR_l, kR_r, kP_0, kP_i, kP_r, kP_n, kP_s, kP_o, kLen_I, kLen_L, kLen_R, kLdI_0, kLdI_1, kLdI_2, kLdI_3, kStI_0, kStI_1, kLdL_e, kStL_e, kLdR_e, kStR_e, kFld_e, kNth_0, kNth_s, kPut_e, fit_I, fit_Z, fit_B, fit_C, fit_A, fit_O, Option.toList_some, Option.toList_none, List.cons_append, List.nil_append, true_and, and_true, List.set_cons_zero, List.set_cons_succ, st_same, Int.toNat_natCast, Int.cast_ofNat_Int, Nat.zero_add, Nat.reduceAdd, kRcv_1, kRcv_2, kRcv_3, kRcv_0, kRcv_4, kRcv_5, setWy_set, Wyo, Wya1, Wyw1, Wya2, Wyw2, Wya3, Wyw3, Wya4, Wyw4, Wya5, Wyw5, Wya6, Wyw6, Wya7, Wyw7, Wya8, Wyw8, Wyp6, Wyp7, Wyp10, Wyp11, Wyp12, Wyp13, Wyp14, Wyp15]
  have hMe3 : MeA fp b A3 := fun k hk => by
    rw [k1.2 1 (by decide) (by decide) (by decide), k1.2 2 (by decide) (by decide) (by decide), k1.2 3 (by decide) (by decide) (by decide)]
    exact hMe k hk
  have m3b : m3 11 = (b : Nat) := by rw [k1.1 11 (by decide) (by decide)]; exact upI_eq m 11 _
  refine s_spread hG hb.1 hb.2 hf hE hs hMe3 m3b k2 (fun m4 A4 k3 h4 => ?_)
  simp only [e_Ways_find_33, e_Ways_find_34, e_Ways_find_35, e_Ways_find_36, kR_l, kR_r, kP_0, kP_i, kP_r, kP_n, kP_s, kP_o, kLen_I, kLen_L, kLen_R, kLdI_0, kLdI_1, kLdI_2, kLdI_3, kStI_0, kStI_1, kLdL_e, kStL_e, kLdR_e, kStR_e, kFld_e, kNth_0, kNth_s, kPut_e, fit_I, fit_Z, fit_B, fit_C, fit_A, fit_O, Option.toList_some, Option.toList_none, List.cons_append, List.nil_append, true_and, and_true, List.set_cons_zero, List.set_cons_succ, st_same, Int.toNat_natCast, Int.cast_ofNat_Int, Nat.zero_add, Nat.reduceAdd, kRcv_1, kRcv_2, kRcv_3, kRcv_0, kRcv_4, kRcv_5, setWy_set, Wyo, Wya1, Wyw1, Wya2, Wyw2, Wya3, Wyw3, Wya4, Wyw4, Wya5, Wyw5, Wya6, Wyw6, Wya7, Wyw7, Wya8, Wyw8, Wyp6, Wyp7, Wyp10, Wyp11, Wyp12, Wyp13, Wyp14, Wyp15]
  rw [s_lookAt hP hG (by unfold inR; omega)]
  simp only [e_Ways_find_39, e_Ways_find_40, e_Ways_find_41, e_Ways_find_44, e_Ways_find_45, kR_l, kR_r, kP_0, kP_i, kP_r, kP_n, kP_s, kP_o, kLen_I, kLen_L, kLen_R, kLdI_0, kLdI_1, kLdI_2, kLdI_3, kStI_0, kStI_1, kLdL_e, kStL_e, kLdR_e, kStR_e, kFld_e, kNth_0, kNth_s, kPut_e, fit_I, fit_Z, fit_B, fit_C, fit_A, fit_O, Option.toList_some, Option.toList_none, List.cons_append, List.nil_append, true_and, and_true, List.set_cons_zero, List.set_cons_succ, st_same, Int.toNat_natCast, Int.cast_ofNat_Int, Nat.zero_add, Nat.reduceAdd, kRcv_1, kRcv_2, kRcv_3, kRcv_0, kRcv_4, kRcv_5, setWy_set, Wyo, Wya1, Wyw1, Wya2, Wyw2, Wya3, Wyw3, Wya4, Wyw4, Wya5, Wyw5, Wya6, Wyw6, Wya7, Wyw7, Wya8, Wyw8, Wyp6, Wyp7, Wyp10, Wyp11, Wyp12, Wyp13, Wyp14, Wyp15, List.length_cons, List.length_nil]
  have hMe4 : MeA fp b A4 := fun k hk => by
    rw [k3.2 1 (by decide) (by decide) (by decide), k3.2 2 (by decide) (by decide) (by decide), k3.2 3 (by decide) (by decide) (by decide)]
    exact hMe3 k hk
  have m4b : m4 11 = (b : Nat) := by rw [k3.1 11 (by decide) (by decide), m3b]
  have e7 : A4 7 = A 7 := by rw [k3.2 7 (by decide) (by decide) (by decide), k1.2 7 (by decide) (by decide) (by decide)]; rfl
  refine ⟨⟨by omega, by omega⟩, ?_⟩
  rw [s_best (m := upI (lkM m4 g (one : Nat)) 10 0) hb.1 hb.2 hf hE hs hMe4 (show upI (lkM m4 g (one : Nat)) 10 0 11 = (b : Nat) from m4b) hB1 rfl rfl rfl rfl h4]
  generalize bsM4 s b (one : Nat) f 192 = B at *
  simp only [e_Ways_find_48, e_Ways_find_50, e_Ways_find_52, e_Ways_find_53, kR_l, kR_r, kP_0, kP_i, kP_r, kP_n, kP_s, kP_o, kLen_I, kLen_L, kLen_R, kLdI_0, kLdI_1, kLdI_2, kLdI_3, kStI_0, kStI_1, kLdL_e, kStL_e, kLdR_e, kStR_e, kFld_e, kNth_0, kNth_s, kPut_e, fit_I, fit_Z, fit_B, fit_C, fit_A, fit_O, Option.toList_some, Option.toList_none, List.cons_append, List.nil_append, true_and, and_true, List.set_cons_zero, List.set_cons_succ, st_same, Int.toNat_natCast, Int.cast_ofNat_Int, Nat.zero_add, Nat.reduceAdd, kRcv_1, kRcv_2, kRcv_3, kRcv_0, kRcv_4, kRcv_5]
  refine ⟨⟨by unfold inR; omega, by unfold inR; omega⟩, fun hne => ?_, fun he => ?_⟩
  · rw [if_neg hne, if_neg hne] at hQ
    obtain ⟨g1, g2, g3⟩ := hbso hne
    obtain ⟨p0, hp0⟩ : ∃ p0 : Nat, B.1 = p0 := ⟨B.1.toNat, by omega⟩
    rw [hp0, Int.toNat_natCast] at g1 g3
    have hp192 : p0 < 192 := by omega
    have hmod := Sol_mod' hf hp192 g1
    have hcost := Sol_cost hb.1 hb.2 hf hp192 g1
    have hrk := rk0_bd s hb.2 p0
    have ed := dT_fin hf hp192 g1
    have hf1 := (hf.1 p0 hp192).2.1
    have hpl := (hf.1 p0 hp192).2.2 g1
    have hq := hQ (upI (upI (lkM m4 g (one : Nat)) 10 0) 10 ((f p0 % 1000).toNat : Nat)) (upA A4 8 (fun j => if j < (f p0 % 1000).toNat then ptM s b f (p0 : Nat) j else A4 8 j)) (by show m4 11 = _; exact m4b) (by rw [hp0, Int.toNat_natCast, upI_eq]) (fun k hk => by
      rw [hp0, Int.toNat_natCast] at hk
      show (if k < (f p0 % 1000).toNat then ptM s b f (p0 : Nat) k else A4 8 k) = _
      rw [if_pos hk, hp0]) e7
    rw [if_pos rfl, g3] at hq
    rw [hp0]
    simp only [e_Ways_find_58, e_Ways_find_59, e_Ways_find_61, kR_l, kR_r, kP_0, kP_i, kP_r, kP_n, kP_s, kP_o, kLen_I, kLen_L, kLen_R, kLdI_0, kLdI_1, kLdI_2, kLdI_3, kStI_0, kStI_1, kLdL_e, kStL_e, kLdR_e, kStR_e, kFld_e, kNth_0, kNth_s, kPut_e, fit_I, fit_Z, fit_B, fit_C, fit_A, fit_O, Option.toList_some, Option.toList_none, List.cons_append, List.nil_append, true_and, and_true, List.set_cons_zero, List.set_cons_succ, st_same, Int.toNat_natCast, Int.cast_ofNat_Int, Nat.zero_add, Nat.reduceAdd, kRcv_1, kRcv_2, kRcv_3, kRcv_0, kRcv_4, kRcv_5, setWy_set, Wyo, Wya1, Wyw1, Wya2, Wyw2, Wya3, Wyw3, Wya4, Wyw4, Wya5, Wyw5, Wya6, Wyw6, Wya7, Wyw7, Wya8, Wyw8, Wyp6, Wyp7, Wyp10, Wyp11, Wyp12, Wyp13, Wyp14, Wyp15]
    rw [s_follow (m := upI (lkM m4 g (one : Nat)) 10 0) (N := (f p0 % 1000).toNat) hG hb.1 hb.2 hf hE hs hMe4 h4 (show upI (lkM m4 g (one : Nat)) 10 0 11 = (b : Nat) from m4b) (upI_eq _ _ _) hp192 g1 (by omega)]
    simp only [e_Ways_find_64, e_Ways_find_65, e_Ways_find_67, kR_l, kR_r, kP_0, kP_i, kP_r, kP_n, kP_s, kP_o, kLen_I, kLen_L, kLen_R, kLdI_0, kLdI_1, kLdI_2, kLdI_3, kStI_0, kStI_1, kLdL_e, kStL_e, kLdR_e, kStR_e, kFld_e, kNth_0, kNth_s, kPut_e, fit_I, fit_Z, fit_B, fit_C, fit_A, fit_O, Option.toList_some, Option.toList_none, List.cons_append, List.nil_append, true_and, and_true, List.set_cons_zero, List.set_cons_succ, st_same, Int.toNat_natCast, Int.cast_ofNat_Int, Nat.zero_add, Nat.reduceAdd, kRcv_1, kRcv_2, kRcv_3, kRcv_0, kRcv_4, kRcv_5, setWy_set, Wyo, Wya1, Wyw1, Wya2, Wyw2, Wya3, Wyw3, Wya4, Wyw4, Wya5, Wyw5, Wya6, Wyw6, Wya7, Wyw7, Wya8, Wyw8, Wyp6, Wyp7, Wyp10, Wyp11, Wyp12, Wyp13, Wyp14, Wyp15]
    rw [s_lengthFrom hp192]
    have e3 : upA A4 8 (fun j => if j < (f p0 % 1000).toNat then ptM s b f (p0 : Nat) j else A4 8 j) 3 p0 = rk0 s b p0 := by
      show A4 3 p0 = _
      rw [(hMe4 p0 hp192).2.2, stV_pl hE hs hb.1 hb.2 hpl]
    have e4 : upA A4 8 (fun j => if j < (f p0 % 1000).toNat then ptM s b f (p0 : Nat) j else A4 8 j) 4 p0 = dT f p0 := h4 p0 hp192
    rw [e3, e4]
    simp only [e_Ways_find_70, e_Ways_find_73, e_Ways_find_74, kR_l, kR_r, kP_0, kP_i, kP_r, kP_n, kP_s, kP_o, kLen_I, kLen_L, kLen_R, kLdI_0, kLdI_1, kLdI_2, kLdI_3, kStI_0, kStI_1, kLdL_e, kStL_e, kLdR_e, kStR_e, kFld_e, kNth_0, kNth_s, kPut_e, fit_I, fit_Z, fit_B, fit_C, fit_A, fit_O, Option.toList_some, Option.toList_none, List.cons_append, List.nil_append, true_and, and_true, List.set_cons_zero, List.set_cons_succ, st_same, Int.toNat_natCast, Int.cast_ofNat_Int, Nat.zero_add, Nat.reduceAdd, kRcv_1, kRcv_2, kRcv_3, kRcv_0, kRcv_4, kRcv_5]
    rw [show (256 * rk0 s b p0 + dT f p0) / 256 = (f p0 + 1000 * rk0 s b p0) / 1000 by omega]
    refine ⟨⟨by omega, by omega, by omega, by omega⟩, ?_⟩
    exact hq
  · have he' : B.1 = -1 := Classical.byContradiction he
    rw [if_pos he', if_pos he', if_neg (by decide)] at hQ
    have hq := hQ (upI (lkM m4 g (one : Nat)) 10 0) A4 m4b rfl (fun k hk => absurd hk (by omega)) e7
    simp only [e_Ways_find_56, e_Ways_find_57, kR_l, kR_r, kP_0, kP_i, kP_r, kP_n, kP_s, kP_o, kLen_I, kLen_L, kLen_R, kLdI_0, kLdI_1, kLdI_2, kLdI_3, kStI_0, kStI_1, kLdL_e, kStL_e, kLdR_e, kStR_e, kFld_e, kNth_0, kNth_s, kPut_e, fit_I, fit_Z, fit_B, fit_C, fit_A, fit_O, Option.toList_some, Option.toList_none, List.cons_append, List.nil_append, true_and, and_true, List.set_cons_zero, List.set_cons_succ, st_same, Int.toNat_natCast, Int.cast_ofNat_Int, Nat.zero_add, Nat.reduceAdd, kRcv_1, kRcv_2, kRcv_3, kRcv_0, kRcv_4, kRcv_5]
    exact hq
end FND3
