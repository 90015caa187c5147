/-! THE PLAN'S METHODS -/
def PlanC (σ : AS) (P : Nat) (f g h : Nat → Int) (c : Int) : Prop := σ.1 P = some (oC 1 [vR (P + 1), vR (P + 2), vR (P + 3), vI c]) ∧ σ.1 (P + 1) = some (oI 0 192 f) ∧ σ.1 (P + 2) = some (oI 0 24 g) ∧ σ.1 (P + 3) = some (oI 0 36 h)
def sqAt (f : Nat → Int) (x y : Int) : Int := if 0 ≤ x ∧ x < 16 ∧ 0 ≤ y ∧ y < 12 then f (16 * y + x).toNat else -3
def bxAt (g : Nat → Int) (r w : Int) : Int := if 0 ≤ r ∧ r < 6 ∧ 0 ≤ w ∧ w < 4 then g (4 * r + w).toNat else 0
def SqOK (f : Nat → Int) : Prop := ∀ k, -2 ≤ f k ∧ f k ≤ 5
def BxOK (g : Nat → Int) : Prop := ∀ k, 0 ≤ g k ∧ g k ≤ 16
def WdOK (h : Nat → Int) : Prop := ∀ k, 0 ≤ h k ∧ h k ≤ 3
theorem sqAt_in {f : Nat → Int} {x y : Int} (h : 0 ≤ x ∧ x < 16 ∧ 0 ≤ y ∧ y < 12) : sqAt f x y = f (16 * y + x).toNat := if_pos h
theorem sqAt_out {f : Nat → Int} {x y : Int} (h : ¬ (0 ≤ x ∧ x < 16 ∧ 0 ≤ y ∧ y < 12)) : sqAt f x y = -3 := if_neg h
theorem sqAt_bd {f : Nat → Int} (hf : SqOK f) (x y : Int) : -3 ≤ sqAt f x y ∧ sqAt f x y ≤ 5 := by
  unfold sqAt
  split
  · have := hf (16 * y + x).toNat
    omega
  · omega
theorem bxAt_bd {g : Nat → Int} (hg : BxOK g) (r w : Int) : 0 ≤ bxAt g r w ∧ bxAt g r w ≤ 16 := by
  unfold bxAt
  split
  · exact hg _
  · omega
section PL2
variable {G : Nat → Nat} {σ : AS} {Q : (Option AV ⊕ Nat) → AS → Prop} {P : Nat} {f g h : Nat → Int} {c : Int}
theorem s_Cp_put {a n : Nat} {j v : Int} {f : Nat → Int} (h : σ.1 a = some (oI 0 n f)) (hG : G 0 ≤ a) (hn : n < 100000) (hj : inR j) : CW G k_Cp_put [vR a, vI j, vI v] σ Q = Q (.inl none) (am_st σ a (oI 0 n (if 0 ≤ j ∧ j < n then upI f j.toNat v else f))) := by
  apply CW.det
  simp only [c_Cp_put, e_Cp_put_0, e_Cp_put_1, e_Cp_put_4, e_Cp_put_5, e_Cp_put_6, e_Cp_put_7, e_Cp_put_10, e_Cp_put_11, e_Cp_put_12, e_Cp_put_13, e_Cp_put_14, kR_l, kR_r, kP_0, kP_i, kP_r, kP_n, kP_s, kP_o, kLen_I, kLen_L, kLen_R, kLdI_0, kLdI_1, kLdI_2, kLdI_3, kStI_0, kStI_1, kLdL_e, kStL_e, kLdR_e, kStR_e, kFld_e, kNth_0, kNth_s, kPut_e, fit_I, fit_Z, fit_B, fit_C, fit_A, fit_O, Option.toList_some, Option.toList_none, List.cons_append, List.nil_append, true_and, and_true, List.set_cons_zero, List.set_cons_succ, st_same, Int.toNat_natCast, Int.cast_ofNat_Int, Nat.zero_add, Nat.reduceAdd, kRcv_1, kRcv_2, kRcv_3, kRcv_0, kRcv_4, kRcv_5, h]
  by_cases hc : 0 ≤ j ∧ j < n
  · simp only [if_pos hc]
    all_goals ((repeat' (first | with_reducible refine And.intro ?_ ?_ | intro _)) <;> first | assumption | exact True.intro | omega | (simp only [inR] at *; omega) | with_reducible rfl | rfl | (simp; done) | (exfalso; simp_all; done) | skip)
  · simp only [if_neg hc, st_id σ a _ h]
    all_goals ((repeat' (first | with_reducible refine And.intro ?_ ?_ | intro _)) <;> first | assumption | exact True.intro | omega | (simp only [inR] at *; omega) | with_reducible rfl | rfl | (simp; done) | (exfalso; simp_all; done) | skip)
theorem s_Cp_put' {a n : Nat} {j v : Int} {f : Nat → Int} (h : σ.1 a = some (oI 0 n f)) (hG : G 0 ≤ a) (hn : n < 100000) (h0 : 0 ≤ j) (h1 : j < n) : CW G k_Cp_put [vR a, vI j, vI v] σ Q = Q (.inl none) (am_st σ a (oI 0 n (upI f j.toNat v))) := by
  rw [s_Cp_put h hG hn (by unfold inR; omega), if_pos ⟨h0, h1⟩]
theorem s_Cp_clearMarks {a n : Nat} {f : Nat → Int} (h : σ.1 a = some (oI 1 n f)) (hG : G 0 ≤ a) (hn : n < 100000) : CW G k_Cp_clearMarks [vR a] σ Q = Q (.inl none) (am_st σ a (oI 1 n (fun j => if j < n then 0 else f j))) := by
  apply CW.det
  simp only [c_Cp_clearMarks, e_Cp_clearMarks_0, e_Cp_clearMarks_1, e_Cp_clearMarks_3, e_Cp_clearMarks_4, e_Cp_clearMarks_5, e_Cp_clearMarks_8, e_Cp_clearMarks_9, e_Cp_clearMarks_10, e_Cp_clearMarks_11, e_Cp_clearMarks_12, e_Cp_clearMarks_15, e_Cp_clearMarks_18, kR_l, kR_r, kP_0, kP_i, kP_r, kP_n, kP_s, kP_o, kLen_I, kLen_L, kLen_R, kLdI_0, kLdI_1, kLdI_2, kLdI_3, kStI_0, kStI_1, kLdL_e, kStL_e, kLdR_e, kStR_e, kFld_e, kNth_0, kNth_s, kPut_e, fit_I, fit_Z, fit_B, fit_C, fit_A, fit_O, Option.toList_some, Option.toList_none, List.cons_append, List.nil_append, true_and, and_true, List.set_cons_zero, List.set_cons_succ, st_same, Int.toNat_natCast, Int.cast_ofNat_Int, Nat.zero_add, Nat.reduceAdd, kRcv_1, kRcv_2, kRcv_3, kRcv_0, kRcv_4, kRcv_5, h]
  have key := up (fun i => WP G k_Cp_clearMarks 2 [some (vR a), some (vI (i : Nat))] [] (am_st σ a (oI 1 n (fun j => if j < i then 0 else f j))) (fun r s => r = .inl none ∧ s = am_st σ a (oI 1 n (fun j => if j < n then 0 else f j)))) (n := n) ?_ ?_
  · have e : am_st σ a (oI 1 n (fun j => if j < 0 then 0 else f j)) = σ := st_id σ a _ (by simpa using h)
    simp only [e] at key
    exact key
  · intro i hi ih
    rw [e_Cp_clearMarks_2]
    simp only [e_Cp_clearMarks_0, e_Cp_clearMarks_1, e_Cp_clearMarks_3, e_Cp_clearMarks_4, e_Cp_clearMarks_5, e_Cp_clearMarks_8, e_Cp_clearMarks_9, e_Cp_clearMarks_10, e_Cp_clearMarks_11, e_Cp_clearMarks_12, e_Cp_clearMarks_15, e_Cp_clearMarks_18, kR_l, kR_r, kP_0, kP_i, kP_r, kP_n, kP_s, kP_o, kLen_I, kLen_L, kLen_R, kLdI_0, kLdI_1, kLdI_2, kLdI_3, kStI_0, kStI_1, kLdL_e, kStL_e, kLdR_e, kStR_e, kFld_e, kNth_0, kNth_s, kPut_e, fit_I, fit_Z, fit_B, fit_C, fit_A, fit_O, Option.toList_some, Option.toList_none, List.cons_append, List.nil_append, true_and, and_true, List.set_cons_zero, List.set_cons_succ, st_same, Int.toNat_natCast, Int.cast_ofNat_Int, Nat.zero_add, Nat.reduceAdd, kRcv_1, kRcv_2, kRcv_3, kRcv_0, kRcv_4, kRcv_5, st_hp, if_true]
    have e : upI (fun j => if j < i then 0 else f j) i 0 = fun j => if j < i + 1 then 0 else f j := by
      funext j
      simp only [upI_at]
      by_cases h1 : j = i
      · simp [h1]
      · by_cases h2 : j < i
        · simp [h1, h2]; omega
        · simp [h1, h2]; omega
    rw [e]
    all_goals ((repeat' (first | with_reducible refine And.intro ?_ ?_ | intro _)) <;> first | assumption | exact True.intro | exact ih | omega | (simp only [inR] at *; omega) | with_reducible rfl | rfl | (simp; done) | (exfalso; simp_all; done) | skip)
  · rw [e_Cp_clearMarks_2]
    simp only [e_Cp_clearMarks_0, e_Cp_clearMarks_1, e_Cp_clearMarks_3, e_Cp_clearMarks_4, e_Cp_clearMarks_5, e_Cp_clearMarks_8, e_Cp_clearMarks_9, e_Cp_clearMarks_10, e_Cp_clearMarks_11, e_Cp_clearMarks_12, e_Cp_clearMarks_15, e_Cp_clearMarks_18, kR_l, kR_r, kP_0, kP_i, kP_r, kP_n, kP_s, kP_o, kLen_I, kLen_L, kLen_R, kLdI_0, kLdI_1, kLdI_2, kLdI_3, kStI_0, kStI_1, kLdL_e, kStL_e, kLdR_e, kStR_e, kFld_e, kNth_0, kNth_s, kPut_e, fit_I, fit_Z, fit_B, fit_C, fit_A, fit_O, Option.toList_some, Option.toList_none, List.cons_append, List.nil_append, true_and, and_true, List.set_cons_zero, List.set_cons_succ, st_same, Int.toNat_natCast, Int.cast_ofNat_Int, Nat.zero_add, Nat.reduceAdd, kRcv_1, kRcv_2, kRcv_3, kRcv_0, kRcv_4, kRcv_5, st_hp, if_true]
    all_goals ((repeat' (first | with_reducible refine And.intro ?_ ?_ | intro _)) <;> first | assumption | exact True.intro | omega | (simp only [inR] at *; omega) | with_reducible rfl | rfl | (simp; done) | (exfalso; simp_all; done) | skip)
theorem s_Cp_copyRow {a b n : Nat} {f k : Nat → Int} (h : σ.1 a = some (oI 0 n f)) (h2 : σ.1 b = some (oI 0 n k)) (hab : a ≠ b) (hG : G 0 ≤ b) (hn : n < 100000) : CW G k_Cp_copyRow [vR a, vR b] σ Q = Q (.inl none) (am_st σ b (oI 0 n (fun j => if j < n then f j else k j))) := by
  apply CW.det
  simp only [c_Cp_copyRow, e_Cp_copyRow_0, e_Cp_copyRow_1, e_Cp_copyRow_3, e_Cp_copyRow_4, e_Cp_copyRow_5, e_Cp_copyRow_8, e_Cp_copyRow_9, e_Cp_copyRow_10, e_Cp_copyRow_11, e_Cp_copyRow_14, e_Cp_copyRow_15, e_Cp_copyRow_16, e_Cp_copyRow_17, e_Cp_copyRow_18, e_Cp_copyRow_19, e_Cp_copyRow_20, e_Cp_copyRow_23, e_Cp_copyRow_26, kR_l, kR_r, kP_0, kP_i, kP_r, kP_n, kP_s, kP_o, kLen_I, kLen_L, kLen_R, kLdI_0, kLdI_1, kLdI_2, kLdI_3, kStI_0, kStI_1, kLdL_e, kStL_e, kLdR_e, kStR_e, kFld_e, kNth_0, kNth_s, kPut_e, fit_I, fit_Z, fit_B, fit_C, fit_A, fit_O, Option.toList_some, Option.toList_none, List.cons_append, List.nil_append, true_and, and_true, List.set_cons_zero, List.set_cons_succ, st_same, Int.toNat_natCast, Int.cast_ofNat_Int, Nat.zero_add, Nat.reduceAdd, kRcv_1, kRcv_2, kRcv_3, kRcv_0, kRcv_4, kRcv_5, h]
  have key := up (fun i => WP G k_Cp_copyRow 2 [some (vR a), some (vR b), some (vI (i : Nat))] [] (am_st σ b (oI 0 n (fun j => if j < i then f j else k j))) (fun r s => r = .inl none ∧ s = am_st σ b (oI 0 n (fun j => if j < n then f j else k j)))) (n := n) ?_ ?_
  · have e : am_st σ b (oI 0 n (fun j => if j < 0 then f j else k j)) = σ := st_id σ b _ (by simpa using h2)
    simp only [e] at key
    exact key
  · intro i hi ih
    rw [e_Cp_copyRow_2]
    simp only [e_Cp_copyRow_0, e_Cp_copyRow_1, e_Cp_copyRow_3, e_Cp_copyRow_4, e_Cp_copyRow_5, e_Cp_copyRow_8, e_Cp_copyRow_9, e_Cp_copyRow_10, e_Cp_copyRow_11, e_Cp_copyRow_14, e_Cp_copyRow_15, e_Cp_copyRow_16, e_Cp_copyRow_17, e_Cp_copyRow_18, e_Cp_copyRow_19, e_Cp_copyRow_20, e_Cp_copyRow_23, e_Cp_copyRow_26, kR_l, kR_r, kP_0, kP_i, kP_r, kP_n, kP_s, kP_o, kLen_I, kLen_L, kLen_R, kLdI_0, kLdI_1, kLdI_2, kLdI_3, kStI_0, kStI_1, kLdL_e, kStL_e, kLdR_e, kStR_e, kFld_e, kNth_0, kNth_s, kPut_e, fit_I, fit_Z, fit_B, fit_C, fit_A, fit_O, Option.toList_some, Option.toList_none, List.cons_append, List.nil_append, true_and, and_true, List.set_cons_zero, List.set_cons_succ, st_same, Int.toNat_natCast, Int.cast_ofNat_Int, Nat.zero_add, Nat.reduceAdd, kRcv_1, kRcv_2, kRcv_3, kRcv_0, kRcv_4, kRcv_5, st_hp, if_true, if_neg hab, h]
    have e : upI (fun j => if j < i then f j else k j) i (f i) = fun j => if j < i + 1 then f j else k j := by
      funext j
      simp only [upI_at]
      by_cases h1 : j = i
      · simp [h1]
      · by_cases h2 : j < i
        · simp [h1, h2]; omega
        · simp [h1, h2]; omega
    rw [e]
    all_goals ((repeat' (first | with_reducible refine And.intro ?_ ?_ | intro _)) <;> first | assumption | exact True.intro | exact ih | omega | (simp only [inR] at *; omega) | with_reducible rfl | rfl | (simp; done) | (exfalso; simp_all; done) | skip)
  · rw [e_Cp_copyRow_2]
    simp only [e_Cp_copyRow_0, e_Cp_copyRow_1, e_Cp_copyRow_3, e_Cp_copyRow_4, e_Cp_copyRow_5, e_Cp_copyRow_8, e_Cp_copyRow_9, e_Cp_copyRow_10, e_Cp_copyRow_11, e_Cp_copyRow_14, e_Cp_copyRow_15, e_Cp_copyRow_16, e_Cp_copyRow_17, e_Cp_copyRow_18, e_Cp_copyRow_19, e_Cp_copyRow_20, e_Cp_copyRow_23, e_Cp_copyRow_26, kR_l, kR_r, kP_0, kP_i, kP_r, kP_n, kP_s, kP_o, kLen_I, kLen_L, kLen_R, kLdI_0, kLdI_1, kLdI_2, kLdI_3, kStI_0, kStI_1, kLdL_e, kStL_e, kLdR_e, kStR_e, kFld_e, kNth_0, kNth_s, kPut_e, fit_I, fit_Z, fit_B, fit_C, fit_A, fit_O, Option.toList_some, Option.toList_none, List.cons_append, List.nil_append, true_and, and_true, List.set_cons_zero, List.set_cons_succ, st_same, Int.toNat_natCast, Int.cast_ofNat_Int, Nat.zero_add, Nat.reduceAdd, kRcv_1, kRcv_2, kRcv_3, kRcv_0, kRcv_4, kRcv_5, st_hp, if_true, if_neg hab, h]
    all_goals ((repeat' (first | with_reducible refine And.intro ?_ ?_ | intro _)) <;> first | assumption | exact True.intro | omega | (simp only [inR] at *; omega) | with_reducible rfl | rfl | (simp; done) | (exfalso; simp_all; done) | skip)
theorem s_Plan_squareAt {x y : Int} (hP : PlanC σ P f g h c) (hx : inR x) (hy : inR y) : CW G k_Plan_squareAt [vR P, vI x, vI y] σ Q = Q (.inl (some (vI (sqAt f x y)))) σ := by
  apply CW.det
  obtain ⟨h1, h2, h3, h4⟩ := hP
  simp only [c_Plan_squareAt, e_Plan_squareAt_0, e_Plan_squareAt_1, e_Plan_squareAt_4, e_Plan_squareAt_5, e_Plan_squareAt_7, e_Plan_squareAt_10, e_Plan_squareAt_11, e_Plan_squareAt_14, e_Plan_squareAt_15, e_Plan_squareAt_17, e_Plan_squareAt_20, e_Plan_squareAt_22, e_Plan_squareAt_23, e_Plan_squareAt_24, e_Plan_squareAt_26, e_Plan_squareAt_27, e_Plan_squareAt_28, e_Plan_squareAt_29, e_Plan_squareAt_30, e_Plan_squareAt_31, e_Plan_squareAt_34, e_Plan_squareAt_35, e_Plan_squareAt_36, e_Plan_squareAt_39, e_Plan_squareAt_40, e_Plan_squareAt_43, e_Plan_squareAt_44, e_Plan_squareAt_47, e_Plan_squareAt_48, e_Plan_squareAt_49, e_Plan_squareAt_52, e_Plan_squareAt_54, kR_l, kR_r, kP_0, kP_i, kP_r, kP_n, kP_s, kP_o, kLen_I, kLen_L, kLen_R, kLdI_0, kLdI_1, kLdI_2, kLdI_3, kStI_0, kStI_1, kLdL_e, kStL_e, kLdR_e, kStR_e, kFld_e, kNth_0, kNth_s, kPut_e, fit_I, fit_Z, fit_B, fit_C, fit_A, fit_O, Option.toList_some, Option.toList_none, List.cons_append, List.nil_append, true_and, and_true, List.set_cons_zero, List.set_cons_succ, st_same, Int.toNat_natCast, Int.cast_ofNat_Int, Nat.zero_add, Nat.reduceAdd, kRcv_1, kRcv_2, kRcv_3, kRcv_0, kRcv_4, kRcv_5, h1, h2]
  by_cases hc : 0 ≤ x ∧ x < 16 ∧ 0 ≤ y ∧ y < 12
  · simp only [sqAt_in hc, show y * 16 + x = 16 * y + x by omega]
    all_goals ((repeat' (first | with_reducible refine And.intro ?_ ?_ | intro _)) <;> first | assumption | exact True.intro | omega | (simp only [inR] at *; omega) | with_reducible rfl | rfl | (simp; done) | (exfalso; simp_all; done) | skip)
  · simp only [sqAt_out hc]
    all_goals ((repeat' (first | with_reducible refine And.intro ?_ ?_ | intro _)) <;> first | assumption | exact True.intro | omega | (simp only [inR] at *; omega) | with_reducible rfl | rfl | (simp; done) | (exfalso; simp_all; done) | skip)
theorem s_Plan_box {x y : Int} (hP : PlanC σ P f g h c) (hx : inR x) (hy : inR y) : CW G k_Plan_box [vR P, vI x, vI y] σ Q = Q (.inl (some (vI (bxAt g x y)))) σ := by
  apply CW.det
  obtain ⟨h1, h2, h3, h4⟩ := hP
  simp only [c_Plan_box, e_Plan_box_0, e_Plan_box_1, e_Plan_box_4, e_Plan_box_5, e_Plan_box_7, e_Plan_box_10, e_Plan_box_11, e_Plan_box_14, e_Plan_box_15, e_Plan_box_16, e_Plan_box_19, e_Plan_box_20, e_Plan_box_21, e_Plan_box_22, e_Plan_box_23, e_Plan_box_24, e_Plan_box_25, e_Plan_box_26, e_Plan_box_27, e_Plan_box_28, e_Plan_box_31, e_Plan_box_32, e_Plan_box_33, e_Plan_box_36, e_Plan_box_37, e_Plan_box_40, e_Plan_box_41, e_Plan_box_44, e_Plan_box_45, e_Plan_box_46, e_Plan_box_49, e_Plan_box_50, kR_l, kR_r, kP_0, kP_i, kP_r, kP_n, kP_s, kP_o, kLen_I, kLen_L, kLen_R, kLdI_0, kLdI_1, kLdI_2, kLdI_3, kStI_0, kStI_1, kLdL_e, kStL_e, kLdR_e, kStR_e, kFld_e, kNth_0, kNth_s, kPut_e, fit_I, fit_Z, fit_B, fit_C, fit_A, fit_O, Option.toList_some, Option.toList_none, List.cons_append, List.nil_append, true_and, and_true, List.set_cons_zero, List.set_cons_succ, st_same, Int.toNat_natCast, Int.cast_ofNat_Int, Nat.zero_add, Nat.reduceAdd, kRcv_1, kRcv_2, kRcv_3, kRcv_0, kRcv_4, kRcv_5, h1, h3]
  by_cases hc : 0 ≤ x ∧ x < 6 ∧ 0 ≤ y ∧ y < 4
  · simp only [bxAt, if_pos hc, show x * 4 + y = 4 * x + y by omega]
    all_goals ((repeat' (first | with_reducible refine And.intro ?_ ?_ | intro _)) <;> first | assumption | exact True.intro | omega | (simp only [inR] at *; omega) | with_reducible rfl | rfl | (simp; done) | (exfalso; simp_all; done) | skip)
  · simp only [bxAt, if_neg hc]
    all_goals ((repeat' (first | with_reducible refine And.intro ?_ ?_ | intro _)) <;> first | assumption | exact True.intro | omega | (simp only [inR] at *; omega) | with_reducible rfl | rfl | (simp; done) | (exfalso; simp_all; done) | skip)
theorem s_Plan_changeSquare {x y v : Int} (hP : PlanC σ P f g h c) (hG : G 0 ≤ P) (hx : inR x) (hy : inR y) : CW G k_Plan_changeSquare [vR P, vI x, vI y, vI v] σ Q = Q (.inl none) (am_st σ (P + 1) (oI 0 192 (if 0 ≤ x ∧ x < 16 ∧ 0 ≤ y ∧ y < 12 then upI f (16 * y + x).toNat v else f))) := by
  apply CW.det
  obtain ⟨h1, h2, h3, h4⟩ := hP
  simp only [c_Plan_changeSquare, e_Plan_changeSquare_0, e_Plan_changeSquare_1, e_Plan_changeSquare_4, e_Plan_changeSquare_5, e_Plan_changeSquare_7, e_Plan_changeSquare_10, e_Plan_changeSquare_11, e_Plan_changeSquare_14, e_Plan_changeSquare_15, e_Plan_changeSquare_17, e_Plan_changeSquare_20, e_Plan_changeSquare_21, e_Plan_changeSquare_24, e_Plan_changeSquare_25, e_Plan_changeSquare_27, e_Plan_changeSquare_28, e_Plan_changeSquare_29, e_Plan_changeSquare_30, e_Plan_changeSquare_31, e_Plan_changeSquare_34, kR_l, kR_r, kP_0, kP_i, kP_r, kP_n, kP_s, kP_o, kLen_I, kLen_L, kLen_R, kLdI_0, kLdI_1, kLdI_2, kLdI_3, kStI_0, kStI_1, kLdL_e, kStL_e, kLdR_e, kStR_e, kFld_e, kNth_0, kNth_s, kPut_e, fit_I, fit_Z, fit_B, fit_C, fit_A, fit_O, Option.toList_some, Option.toList_none, List.cons_append, List.nil_append, true_and, and_true, List.set_cons_zero, List.set_cons_succ, st_same, Int.toNat_natCast, Int.cast_ofNat_Int, Nat.zero_add, Nat.reduceAdd, kRcv_1, kRcv_2, kRcv_3, kRcv_0, kRcv_4, kRcv_5, h1]
  by_cases hc : 0 ≤ x ∧ x < 16 ∧ 0 ≤ y ∧ y < 12
  · rw [s_Cp_put' h2 (by omega) (by omega) (by omega) (by omega)]
    simp only [e_Plan_changeSquare_0, e_Plan_changeSquare_1, e_Plan_changeSquare_4, e_Plan_changeSquare_5, e_Plan_changeSquare_7, e_Plan_changeSquare_10, e_Plan_changeSquare_11, e_Plan_changeSquare_14, e_Plan_changeSquare_15, e_Plan_changeSquare_17, e_Plan_changeSquare_20, e_Plan_changeSquare_21, e_Plan_changeSquare_24, e_Plan_changeSquare_25, e_Plan_changeSquare_27, e_Plan_changeSquare_28, e_Plan_changeSquare_29, e_Plan_changeSquare_30, e_Plan_changeSquare_31, e_Plan_changeSquare_34, kR_l, kR_r, kP_0, kP_i, kP_r, kP_n, kP_s, kP_o, kLen_I, kLen_L, kLen_R, kLdI_0, kLdI_1, kLdI_2, kLdI_3, kStI_0, kStI_1, kLdL_e, kStL_e, kLdR_e, kStR_e, kFld_e, kNth_0, kNth_s, kPut_e, fit_I, fit_Z, fit_B, fit_C, fit_A, fit_O, Option.toList_some, Option.toList_none, List.cons_append, List.nil_append, true_and, and_true, List.set_cons_zero, List.set_cons_succ, st_same, Int.toNat_natCast, Int.cast_ofNat_Int, Nat.zero_add, Nat.reduceAdd, kRcv_1, kRcv_2, kRcv_3, kRcv_0, kRcv_4, kRcv_5, if_pos hc, show y * 16 + x = 16 * y + x by omega]
    all_goals ((repeat' (first | with_reducible refine And.intro ?_ ?_ | intro _)) <;> first | assumption | exact True.intro | omega | (simp only [inR] at *; omega) | with_reducible rfl | rfl | (simp; done) | (exfalso; simp_all; done) | skip)
  · simp only [if_neg hc, st_id σ (P + 1) _ h2]
    all_goals ((repeat' (first | with_reducible refine And.intro ?_ ?_ | intro _)) <;> first | assumption | exact True.intro | omega | (simp only [inR] at *; omega) | with_reducible rfl | rfl | (simp; done) | (exfalso; simp_all; done) | skip)
end PL2
