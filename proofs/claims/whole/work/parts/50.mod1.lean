/-! THE REFERENCE: what its small methods answer -/
def SOK (s : Nat → Int) : Prop := ∀ k, -2 ≤ s k ∧ s k ≤ 16
def whM (s : Nat → Int) (x y : Int) : Int := if 0 ≤ x ∧ x ≤ 15 ∧ 0 ≤ y ∧ y ≤ 11 then s (16 * y + x).toNat else 99
theorem whM_bd {s : Nat → Int} (h : SOK s) (x y : Int) : -2 ≤ whM s x y ∧ whM s x y ≤ 99 := by
  unfold whM
  split
  · have := h (16 * y + x).toNat
    omega
  · omega
def inB (v lo hi : Int) : Int := if lo ≤ v ∧ v ≤ hi then 1 else 0
theorem inB_t {v lo hi : Int} (h : lo ≤ v ∧ v ≤ hi) : inB v lo hi = 1 := if_pos h
theorem inB_f {v lo hi : Int} (h : ¬ (lo ≤ v ∧ v ≤ hi)) : inB v lo hi = 0 := if_neg h
theorem inB_bd (v lo hi : Int) : 0 ≤ inB v lo hi ∧ inB v lo hi ≤ 1 := by
  unfold inB
  split <;> omega
def thM (s : Nat → Int) (r : Int) : Int := if 0 ≤ r ∧ r ≤ 5 ∧ 0 < s (194 + 4 * r).toNat then 1 else 0
theorem thM_bd (s : Nat → Int) (r : Int) : 0 ≤ thM s r ∧ thM s r ≤ 1 := by
  unfold thM
  split <;> omega
def wkM (s : Nat → Int) (a b : Nat) : Int := s (216 + 6 * a + b)
/-- a part of one array into another -/
def cpF (f : Nat → Int) (fa : Nat) (t : Nat → Int) (ta n : Nat) : Nat → Int := fun j => if ta ≤ j ∧ j < ta + n then f (fa + (j - ta)) else t j
section MD1
variable {G : Nat → Nat} {σ : AS} {Q : (Option AV ⊕ Nat) → AS → Prop} {a : Nat} {s : Nat → Int}
theorem s_Model_in {v lo hi : Int} (h1 : inR v) (h2 : inR lo) (h3 : inR hi) : CW G k_Model_in [vI v, vI lo, vI hi] σ Q = Q (.inl (some (vI (inB v lo hi)))) σ := by
  refine CW.det' fun R hR => ?_
  simp only [c_Model_in, e_Model_in_0, e_Model_in_1, e_Model_in_2, e_Model_in_5, e_Model_in_6, e_Model_in_7, e_Model_in_10, e_Model_in_11, e_Model_in_14, e_Model_in_15, kR_l, kR_r, kP_0, kP_i, kP_r, kP_n, kP_s, kP_o, kLen_I, kLen_L, kLen_R, kLdI_0, kLdI_1, kLdI_2, kLdI_3, kStI_0, kStI_1, kLdL_e, kStL_e, kLdR_e, kStR_e, kFld_e, kNth_0, kNth_s, kPut_e, fit_I, fit_Z, fit_B, fit_C, fit_A, fit_O, Option.toList_some, Option.toList_none, List.cons_append, List.nil_append, true_and, and_true, List.set_cons_zero, List.set_cons_succ, st_same, Int.toNat_natCast, Int.cast_ofNat_Int, Nat.zero_add, Nat.reduceAdd, kRcv_1, kRcv_2, kRcv_3, kRcv_0, kRcv_4, kRcv_5]
  by_cases h : lo ≤ v ∧ v ≤ hi
  · rw [inB_t h] at hR
    all_goals ((repeat' (first | with_reducible refine And.intro ?_ ?_ | intro _)) <;> first | assumption | exact True.intro | omega | (simp only [inR] at *; omega) | with_reducible rfl | rfl | (simp; done) | (exfalso; simp_all; done) | skip)
  · rw [inB_f h] at hR
    all_goals ((repeat' (first | with_reducible refine And.intro ?_ ?_ | intro _)) <;> first | assumption | exact True.intro | omega | (simp only [inR] at *; omega) | with_reducible rfl | rfl | (simp; done) | (exfalso; simp_all; done) | skip)
theorem s_Model_isSquare {x y : Int} (h1 : inR x) (h2 : inR y) : CW G k_Model_isSquare [vI x, vI y] σ Q = Q (.inl (some (vI (if 0 ≤ x ∧ x ≤ 15 ∧ 0 ≤ y ∧ y ≤ 11 then 1 else 0)))) σ := by
  refine CW.det' fun R hR => ?_
  simp (disch := first | assumption | omega | (unfold inR; omega)) only [c_Model_isSquare, e_Model_isSquare_0, e_Model_isSquare_1, e_Model_isSquare_2, e_Model_isSquare_4, e_Model_isSquare_7, e_Model_isSquare_10, e_Model_isSquare_11, e_Model_isSquare_12, e_Model_isSquare_14, e_Model_isSquare_17, e_Model_isSquare_20, e_Model_isSquare_21, e_Model_isSquare_24, e_Model_isSquare_25, kR_l, kR_r, kP_0, kP_i, kP_r, kP_n, kP_s, kP_o, kLen_I, kLen_L, kLen_R, kLdI_0, kLdI_1, kLdI_2, kLdI_3, kStI_0, kStI_1, kLdL_e, kStL_e, kLdR_e, kStR_e, kFld_e, kNth_0, kNth_s, kPut_e, fit_I, fit_Z, fit_B, fit_C, fit_A, fit_O, Option.toList_some, Option.toList_none, List.cons_append, List.nil_append, true_and, and_true, List.set_cons_zero, List.set_cons_succ, st_same, Int.toNat_natCast, Int.cast_ofNat_Int, Nat.zero_add, Nat.reduceAdd, kRcv_1, kRcv_2, kRcv_3, kRcv_0, kRcv_4, kRcv_5, s_Model_in]
  have b1 := inB_bd x 0 15
  have b2 := inB_bd y 0 11
  by_cases h : 0 ≤ x ∧ x ≤ 15 ∧ 0 ≤ y ∧ y ≤ 11
  · rw [if_pos h] at hR
    rw [inB_t (show 0 ≤ x ∧ x ≤ 15 by omega), inB_t (show 0 ≤ y ∧ y ≤ 11 by omega)]
    all_goals ((repeat' (first | with_reducible refine And.intro ?_ ?_ | intro _)) <;> first | assumption | exact True.intro | omega | (simp only [inR] at *; omega) | with_reducible rfl | rfl | (simp; done) | (exfalso; simp_all; done) | skip)
  · rw [if_neg h] at hR
    by_cases e : 0 ≤ x ∧ x ≤ 15
    · rw [inB_t e, inB_f (show ¬ (0 ≤ y ∧ y ≤ 11) by omega)]
      all_goals ((repeat' (first | with_reducible refine And.intro ?_ ?_ | intro _)) <;> first | assumption | exact True.intro | omega | (simp only [inR] at *; omega) | with_reducible rfl | rfl | (simp; done) | (exfalso; simp_all; done) | skip)
    · rw [inB_f e]
      all_goals ((repeat' (first | with_reducible refine And.intro ?_ ?_ | intro _)) <;> first | assumption | exact True.intro | omega | (simp only [inR] at *; omega) | with_reducible rfl | rfl | (simp; done) | (exfalso; simp_all; done) | skip)
theorem s_Model_of {r w : Nat} (ha : σ.1 a = some (oI 0 253 s)) (hr : r < 6) (hw : w < 4) : CW G k_Model_of [vR a, vI (r : Nat), vI (w : Nat)] σ Q = Q (.inl (some (vI (s (192 + 4 * r + w))))) σ := by
  refine CW.det' fun R hR => ?_
  simp only [c_Model_of, e_Model_of_0, e_Model_of_1, e_Model_of_4, e_Model_of_5, e_Model_of_6, e_Model_of_7, e_Model_of_8, e_Model_of_9, e_Model_of_10, e_Model_of_11, kR_l, kR_r, kP_0, kP_i, kP_r, kP_n, kP_s, kP_o, kLen_I, kLen_L, kLen_R, kLdI_0, kLdI_1, kLdI_2, kLdI_3, kStI_0, kStI_1, kLdL_e, kStL_e, kLdR_e, kStR_e, kFld_e, kNth_0, kNth_s, kPut_e, fit_I, fit_Z, fit_B, fit_C, fit_A, fit_O, Option.toList_some, Option.toList_none, List.cons_append, List.nil_append, true_and, and_true, List.set_cons_zero, List.set_cons_succ, st_same, Int.toNat_natCast, Int.cast_ofNat_Int, Nat.zero_add, Nat.reduceAdd, kRcv_1, kRcv_2, kRcv_3, kRcv_0, kRcv_4, kRcv_5, ha]
  rw [show (192 + 4 * (r : Int) + w).toNat = 192 + 4 * r + w by omega]
  all_goals ((repeat' (first | with_reducible refine And.intro ?_ ?_ | intro _)) <;> first | assumption | exact True.intro | omega | (simp only [inR] at *; omega) | with_reducible rfl | rfl | (simp; done) | (exfalso; simp_all; done) | skip)
theorem s_Model_walks {r w : Nat} (ha : σ.1 a = some (oI 0 253 s)) (hr : r < 6) (hw : w < 6) : CW G k_Model_walks [vR a, vI (r : Nat), vI (w : Nat)] σ Q = Q (.inl (some (vI (wkM s r w)))) σ := by
  refine CW.det' fun R hR => ?_
  simp only [c_Model_walks, e_Model_walks_0, e_Model_walks_1, e_Model_walks_4, e_Model_walks_6, e_Model_walks_7, e_Model_walks_8, e_Model_walks_9, e_Model_walks_10, e_Model_walks_11, e_Model_walks_12, kR_l, kR_r, kP_0, kP_i, kP_r, kP_n, kP_s, kP_o, kLen_I, kLen_L, kLen_R, kLdI_0, kLdI_1, kLdI_2, kLdI_3, kStI_0, kStI_1, kLdL_e, kStL_e, kLdR_e, kStR_e, kFld_e, kNth_0, kNth_s, kPut_e, fit_I, fit_Z, fit_B, fit_C, fit_A, fit_O, Option.toList_some, Option.toList_none, List.cons_append, List.nil_append, true_and, and_true, List.set_cons_zero, List.set_cons_succ, st_same, Int.toNat_natCast, Int.cast_ofNat_Int, Nat.zero_add, Nat.reduceAdd, kRcv_1, kRcv_2, kRcv_3, kRcv_0, kRcv_4, kRcv_5, ha]
  rw [show (216 + 6 * (r : Int) + w).toNat = 216 + 6 * r + w by omega]
  all_goals ((repeat' (first | with_reducible refine And.intro ?_ ?_ | intro _)) <;> first | assumption | exact True.intro | omega | (simp only [inR] at *; omega) | with_reducible rfl | rfl | (simp; done) | (exfalso; simp_all; done) | skip)
theorem s_Model_isThere {r : Int} (ha : σ.1 a = some (oI 0 253 s)) (hs : SOK s) (hr : inR r) : CW G k_Model_isThere [vR a, vI r] σ Q = Q (.inl (some (vI (thM s r)))) σ := by
  refine CW.det' fun R hR => ?_
  simp (disch := first | assumption | omega | (unfold inR; omega)) only [c_Model_isThere, e_Model_isThere_0, e_Model_isThere_1, e_Model_isThere_2, e_Model_isThere_3, e_Model_isThere_6, e_Model_isThere_9, e_Model_isThere_10, e_Model_isThere_11, e_Model_isThere_12, e_Model_isThere_15, e_Model_isThere_18, e_Model_isThere_19, e_Model_isThere_22, e_Model_isThere_23, kR_l, kR_r, kP_0, kP_i, kP_r, kP_n, kP_s, kP_o, kLen_I, kLen_L, kLen_R, kLdI_0, kLdI_1, kLdI_2, kLdI_3, kStI_0, kStI_1, kLdL_e, kStL_e, kLdR_e, kStR_e, kFld_e, kNth_0, kNth_s, kPut_e, fit_I, fit_Z, fit_B, fit_C, fit_A, fit_O, Option.toList_some, Option.toList_none, List.cons_append, List.nil_append, true_and, and_true, List.set_cons_zero, List.set_cons_succ, st_same, Int.toNat_natCast, Int.cast_ofNat_Int, Nat.zero_add, Nat.reduceAdd, kRcv_1, kRcv_2, kRcv_3, kRcv_0, kRcv_4, kRcv_5, s_Model_in]
  by_cases e : 0 ≤ r ∧ r ≤ 5
  · obtain ⟨n, rfl⟩ : ∃ n : Nat, r = n := ⟨r.toNat, by omega⟩
    have hb := hs (192 + 4 * n + 2)
    have e2 : (2 : Int) = ((2 : Nat) : Int) := rfl
    rw [inB_t e]
    rw [e2, s_Model_of ha (by omega) (by omega)]
    simp only [e_Model_isThere_0, e_Model_isThere_1, e_Model_isThere_2, e_Model_isThere_3, e_Model_isThere_6, e_Model_isThere_9, e_Model_isThere_10, e_Model_isThere_11, e_Model_isThere_12, e_Model_isThere_15, e_Model_isThere_18, e_Model_isThere_19, e_Model_isThere_22, e_Model_isThere_23, kR_l, kR_r, kP_0, kP_i, kP_r, kP_n, kP_s, kP_o, kLen_I, kLen_L, kLen_R, kLdI_0, kLdI_1, kLdI_2, kLdI_3, kStI_0, kStI_1, kLdL_e, kStL_e, kLdR_e, kStR_e, kFld_e, kNth_0, kNth_s, kPut_e, fit_I, fit_Z, fit_B, fit_C, fit_A, fit_O, Option.toList_some, Option.toList_none, List.cons_append, List.nil_append, true_and, and_true, List.set_cons_zero, List.set_cons_succ, st_same, Int.toNat_natCast, Int.cast_ofNat_Int, Nat.zero_add, Nat.reduceAdd, kRcv_1, kRcv_2, kRcv_3, kRcv_0, kRcv_4, kRcv_5]
    unfold thM at hR
    rw [show (194 + 4 * (n : Int)).toNat = 192 + 4 * n + 2 by omega] at hR
    by_cases h : 0 < s (192 + 4 * n + 2)
    · rw [if_pos (by omega)] at hR
      all_goals ((repeat' (first | with_reducible refine And.intro ?_ ?_ | intro _)) <;> first | assumption | exact True.intro | omega | (simp only [inR] at *; omega) | with_reducible rfl | rfl | (simp; done) | (exfalso; simp_all; done) | skip)
    · rw [if_neg (by omega)] at hR
      all_goals ((repeat' (first | with_reducible refine And.intro ?_ ?_ | intro _)) <;> first | assumption | exact True.intro | omega | (simp only [inR] at *; omega) | with_reducible rfl | rfl | (simp; done) | (exfalso; simp_all; done) | skip)
  · rw [inB_f e]
    unfold thM at hR
    rw [if_neg (by omega)] at hR
    all_goals ((repeat' (first | with_reducible refine And.intro ?_ ?_ | intro _)) <;> first | assumption | exact True.intro | omega | (simp only [inR] at *; omega) | with_reducible rfl | rfl | (simp; done) | (exfalso; simp_all; done) | skip)
theorem s_Model_what {x y : Int} (ha : σ.1 a = some (oI 0 253 s)) (h1 : inR x) (h2 : inR y) : CW G k_Model_what [vR a, vI x, vI y] σ Q = Q (.inl (some (vI (whM s x y)))) σ := by
  refine CW.det' fun R hR => ?_
  simp (disch := first | assumption | omega | (unfold inR; omega)) only [c_Model_what, e_Model_what_0, e_Model_what_1, e_Model_what_2, e_Model_what_5, e_Model_what_8, e_Model_what_9, e_Model_what_11, e_Model_what_12, e_Model_what_13, e_Model_what_14, e_Model_what_15, e_Model_what_16, e_Model_what_19, e_Model_what_21, kR_l, kR_r, kP_0, kP_i, kP_r, kP_n, kP_s, kP_o, kLen_I, kLen_L, kLen_R, kLdI_0, kLdI_1, kLdI_2, kLdI_3, kStI_0, kStI_1, kLdL_e, kStL_e, kLdR_e, kStR_e, kFld_e, kNth_0, kNth_s, kPut_e, fit_I, fit_Z, fit_B, fit_C, fit_A, fit_O, Option.toList_some, Option.toList_none, List.cons_append, List.nil_append, true_and, and_true, List.set_cons_zero, List.set_cons_succ, st_same, Int.toNat_natCast, Int.cast_ofNat_Int, Nat.zero_add, Nat.reduceAdd, kRcv_1, kRcv_2, kRcv_3, kRcv_0, kRcv_4, kRcv_5, s_Model_isSquare, ha]
  unfold whM at hR
  by_cases h : 0 ≤ x ∧ x ≤ 15 ∧ 0 ≤ y ∧ y ≤ 11
  · rw [if_pos h] at hR ⊢
    all_goals ((repeat' (first | with_reducible refine And.intro ?_ ?_ | intro _)) <;> first | assumption | exact True.intro | omega | (simp only [inR] at *; omega) | with_reducible rfl | rfl | (simp; done) | (exfalso; simp_all; done) | skip)
  · rw [if_neg h] at hR ⊢
    all_goals ((repeat' (first | with_reducible refine And.intro ?_ ?_ | intro _)) <;> first | assumption | exact True.intro | omega | (simp only [inR] at *; omega) | with_reducible rfl | rfl | (simp; done) | (exfalso; simp_all; done) | skip)
theorem s_Model_copies {b n m fa ta : Nat} {f t : Nat → Int} (ha : σ.1 a = some (oI 0 n f)) (hb : σ.1 b = some (oI 0 m t)) (hab : a ≠ b) (hG : G 0 ≤ b) (hn : fa + 253 ≤ n) (hm : ta + 253 ≤ m) (hn2 : n < 100000) (hm2 : m < 100000) : CW G k_Model_copies [vR a, vI (fa : Nat), vR b, vI (ta : Nat)] σ Q = Q (.inl none) (am_st σ b (oI 0 m (cpF f fa t ta 253))) := by
  refine CW.det' fun R hR => ?_
  simp only [c_Model_copies, e_Model_copies_0, e_Model_copies_1, e_Model_copies_5, e_Model_copies_8, e_Model_copies_11, e_Model_copies_12, e_Model_copies_13, e_Model_copies_15, e_Model_copies_16, e_Model_copies_17, e_Model_copies_18, e_Model_copies_20, e_Model_copies_21, e_Model_copies_22, e_Model_copies_23, e_Model_copies_26, e_Model_copies_29, kR_l, kR_r, kP_0, kP_i, kP_r, kP_n, kP_s, kP_o, kLen_I, kLen_L, kLen_R, kLdI_0, kLdI_1, kLdI_2, kLdI_3, kStI_0, kStI_1, kLdL_e, kStL_e, kLdR_e, kStR_e, kFld_e, kNth_0, kNth_s, kPut_e, fit_I, fit_Z, fit_B, fit_C, fit_A, fit_O, Option.toList_some, Option.toList_none, List.cons_append, List.nil_append, true_and, and_true, List.set_cons_zero, List.set_cons_succ, st_same, Int.toNat_natCast, Int.cast_ofNat_Int, Nat.zero_add, Nat.reduceAdd, kRcv_1, kRcv_2, kRcv_3, kRcv_0, kRcv_4, kRcv_5]
  have key := up (fun i => WP G k_Model_copies 3 [some (vR a), some (vI (fa : Nat)), some (vR b), some (vI (ta : Nat)), some (vI (i : Nat))] [] (am_st σ b (oI 0 m (cpF f fa t ta i))) R) (n := 253) ?_ ?_
  · have e : am_st σ b (oI 0 m (cpF f fa t ta 0)) = σ := st_id σ b _ (by
      rw [hb]
      congr 3
      funext j
      unfold cpF
      rw [if_neg (by omega)])
    simp only [e] at key
    all_goals ((repeat' (first | with_reducible refine And.intro ?_ ?_ | intro _)) <;> first | assumption | exact True.intro | exact key | omega | (simp only [inR] at *; omega) | with_reducible rfl | rfl | (simp; done) | (exfalso; simp_all; done) | skip)
  · intro i hi ih
    have e : upI (cpF f fa t ta i) ((ta : Int) + i).toNat (f ((fa : Int) + i).toNat) = cpF f fa t ta (i + 1) := by
      funext j
      simp only [upI_at]
      unfold cpF
      by_cases h1 : j = ((ta : Int) + i).toNat
      · rw [if_pos h1, if_pos (by omega)]
        congr 1
        omega
      · rw [if_neg h1]
        by_cases h2 : ta ≤ j ∧ j < ta + i
        · rw [if_pos h2, if_pos (by omega)]
        · rw [if_neg h2, if_neg (by omega)]
    rw [e_Model_copies_3]
    simp only [e_Model_copies_0, e_Model_copies_1, e_Model_copies_5, e_Model_copies_8, e_Model_copies_11, e_Model_copies_12, e_Model_copies_13, e_Model_copies_15, e_Model_copies_16, e_Model_copies_17, e_Model_copies_18, e_Model_copies_20, e_Model_copies_21, e_Model_copies_22, e_Model_copies_23, e_Model_copies_26, e_Model_copies_29, kR_l, kR_r, kP_0, kP_i, kP_r, kP_n, kP_s, kP_o, kLen_I, kLen_L, kLen_R, kLdI_0, kLdI_1, kLdI_2, kLdI_3, kStI_0, kStI_1, kLdL_e, kStL_e, kLdR_e, kStR_e, kFld_e, kNth_0, kNth_s, kPut_e, fit_I, fit_Z, fit_B, fit_C, fit_A, fit_O, Option.toList_some, Option.toList_none, List.cons_append, List.nil_append, true_and, and_true, List.set_cons_zero, List.set_cons_succ, st_same, Int.toNat_natCast, Int.cast_ofNat_Int, Nat.zero_add, Nat.reduceAdd, kRcv_1, kRcv_2, kRcv_3, kRcv_0, kRcv_4, kRcv_5, st_hp, if_true, if_neg hab, ha, e]
    all_goals ((repeat' (first | with_reducible refine And.intro ?_ ?_ | intro _)) <;> first | assumption | exact True.intro | exact ih | omega | (simp only [inR] at *; omega) | with_reducible rfl | rfl | (simp; done) | (exfalso; simp_all; done) | skip)
  · rw [e_Model_copies_3]
    simp only [e_Model_copies_0, e_Model_copies_1, e_Model_copies_5, e_Model_copies_8, e_Model_copies_11, e_Model_copies_12, e_Model_copies_13, e_Model_copies_15, e_Model_copies_16, e_Model_copies_17, e_Model_copies_18, e_Model_copies_20, e_Model_copies_21, e_Model_copies_22, e_Model_copies_23, e_Model_copies_26, e_Model_copies_29, kR_l, kR_r, kP_0, kP_i, kP_r, kP_n, kP_s, kP_o, kLen_I, kLen_L, kLen_R, kLdI_0, kLdI_1, kLdI_2, kLdI_3, kStI_0, kStI_1, kLdL_e, kStL_e, kLdR_e, kStR_e, kFld_e, kNth_0, kNth_s, kPut_e, fit_I, fit_Z, fit_B, fit_C, fit_A, fit_O, Option.toList_some, Option.toList_none, List.cons_append, List.nil_append, true_and, and_true, List.set_cons_zero, List.set_cons_succ, st_same, Int.toNat_natCast, Int.cast_ofNat_Int, Nat.zero_add, Nat.reduceAdd, kRcv_1, kRcv_2, kRcv_3, kRcv_0, kRcv_4, kRcv_5]
    all_goals ((repeat' (first | with_reducible refine And.intro ?_ ?_ | intro _)) <;> first | assumption | exact True.intro | omega | (simp only [inR] at *; omega) | with_reducible rfl | rfl | (simp; done) | (exfalso; simp_all; done) | skip)
theorem s_Model_toggles {p : Nat} (ha : σ.1 a = some (oI 0 253 s)) (hs : SOK s) (hG : G 0 ≤ a) (hp : p < 192) : CW G k_Model_toggles [vR a, vI (p : Nat)] σ Q = Q (.inl none) (am_st σ a (oI 0 253 (upI s p (if s p = -1 then -2 else -1)))) := by
  refine CW.det' fun R hR => ?_
  have hb := hs p
  simp only [c_Model_toggles, e_Model_toggles_0, e_Model_toggles_1, e_Model_toggles_2, e_Model_toggles_3, e_Model_toggles_4, e_Model_toggles_5, e_Model_toggles_6, e_Model_toggles_9, e_Model_toggles_11, e_Model_toggles_14, e_Model_toggles_15, e_Model_toggles_16, kR_l, kR_r, kP_0, kP_i, kP_r, kP_n, kP_s, kP_o, kLen_I, kLen_L, kLen_R, kLdI_0, kLdI_1, kLdI_2, kLdI_3, kStI_0, kStI_1, kLdL_e, kStL_e, kLdR_e, kStR_e, kFld_e, kNth_0, kNth_s, kPut_e, fit_I, fit_Z, fit_B, fit_C, fit_A, fit_O, Option.toList_some, Option.toList_none, List.cons_append, List.nil_append, true_and, and_true, List.set_cons_zero, List.set_cons_succ, st_same, Int.toNat_natCast, Int.cast_ofNat_Int, Nat.zero_add, Nat.reduceAdd, kRcv_1, kRcv_2, kRcv_3, kRcv_0, kRcv_4, kRcv_5, ha]
  by_cases h : s p = -1
  · rw [if_pos h] at hR
    all_goals ((repeat' (first | with_reducible refine And.intro ?_ ?_ | intro _)) <;> first | assumption | exact True.intro | omega | (simp only [inR] at *; omega) | with_reducible rfl | rfl | (simp; done) | (exfalso; simp_all; done) | skip)
  · rw [if_neg h] at hR
    all_goals ((repeat' (first | with_reducible refine And.intro ?_ ?_ | intro _)) <;> first | assumption | exact True.intro | omega | (simp only [inR] at *; omega) | with_reducible rfl | rfl | (simp; done) | (exfalso; simp_all; done) | skip)
theorem s_Model_isBeside {x y r : Int} {b : Int} (ha : σ.1 a = some (oI 0 253 s)) (hs : SOK s) (h1 : -100 ≤ x ∧ x ≤ 100) (h2 : -100 ≤ y ∧ y ≤ 100) (hr : inR r) (hb1 : (whM s (x - 1) y = r ∨ whM s (x + 1) y = r ∨ whM s x (y - 1) = r ∨ whM s x (y + 1) = r) → b = 1) (hb0 : ¬ (whM s (x - 1) y = r ∨ whM s (x + 1) y = r ∨ whM s x (y - 1) = r ∨ whM s x (y + 1) = r) → b = 0) : CW G k_Model_isBeside [vR a, vI x, vI y, vI r] σ Q = Q (.inl (some (vI b))) σ := by
  refine CW.det' fun R hR => ?_
  have b1 := whM_bd hs (x - 1) y
  have b2 := whM_bd hs (x + 1) y
  have b3 := whM_bd hs x (y - 1)
  have b4 := whM_bd hs x (y + 1)
  simp (disch := first | assumption | omega | (unfold inR; omega)) only [c_Model_isBeside, e_Model_isBeside_0, e_Model_isBeside_1, e_Model_isBeside_2, e_Model_isBeside_3, e_Model_isBeside_4, e_Model_isBeside_5, e_Model_isBeside_8, e_Model_isBeside_9, e_Model_isBeside_12, e_Model_isBeside_13, e_Model_isBeside_14, e_Model_isBeside_15, e_Model_isBeside_16, e_Model_isBeside_17, e_Model_isBeside_20, e_Model_isBeside_21, e_Model_isBeside_24, e_Model_isBeside_25, e_Model_isBeside_26, e_Model_isBeside_27, e_Model_isBeside_28, e_Model_isBeside_29, e_Model_isBeside_32, e_Model_isBeside_33, e_Model_isBeside_36, e_Model_isBeside_37, e_Model_isBeside_38, e_Model_isBeside_39, e_Model_isBeside_40, e_Model_isBeside_41, e_Model_isBeside_44, e_Model_isBeside_45, e_Model_isBeside_48, e_Model_isBeside_49, e_Model_isBeside_52, e_Model_isBeside_53, kR_l, kR_r, kP_0, kP_i, kP_r, kP_n, kP_s, kP_o, kLen_I, kLen_L, kLen_R, kLdI_0, kLdI_1, kLdI_2, kLdI_3, kStI_0, kStI_1, kLdL_e, kStL_e, kLdR_e, kStR_e, kFld_e, kNth_0, kNth_s, kPut_e, fit_I, fit_Z, fit_B, fit_C, fit_A, fit_O, Option.toList_some, Option.toList_none, List.cons_append, List.nil_append, true_and, and_true, List.set_cons_zero, List.set_cons_succ, st_same, Int.toNat_natCast, Int.cast_ofNat_Int, Nat.zero_add, Nat.reduceAdd, kRcv_1, kRcv_2, kRcv_3, kRcv_0, kRcv_4, kRcv_5, s_Model_what ha]
  by_cases h : whM s (x - 1) y = r ∨ whM s (x + 1) y = r ∨ whM s x (y - 1) = r ∨ whM s x (y + 1) = r
  · rw [hb1 h] at hR
    all_goals ((repeat' (first | with_reducible refine And.intro ?_ ?_ | intro _)) <;> first | assumption | exact True.intro | omega | (simp only [inR] at *; omega) | with_reducible rfl | rfl | (simp; done) | (exfalso; simp_all; done) | skip)
  · rw [hb0 h] at hR
    all_goals ((repeat' (first | with_reducible refine And.intro ?_ ?_ | intro _)) <;> first | assumption | exact True.intro | omega | (simp only [inR] at *; omega) | with_reducible rfl | rfl | (simp; done) | (exfalso; simp_all; done) | skip)
end MD1
