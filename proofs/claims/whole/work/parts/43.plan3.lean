/-! THE PLAN'S METHODS, doors -/
def sx (d : Nat) : Int := ([1, -1, 0, 0] : List Int).getD d 0
def sy (d : Nat) : Int := ([0, 0, 1, -1] : List Int).getD d 0
def SD (G : Nat → Nat) (σ : AS) : Prop := σ.1 (G 2) = some (oI 2 4 sx) ∧ σ.1 (G 3) = some (oI 2 4 sy)
theorem sx_bd (d : Nat) : -1 ≤ sx d ∧ sx d ≤ 1 := by
  rcases (show d = 0 ∨ d = 1 ∨ d = 2 ∨ d = 3 ∨ 4 ≤ d by omega) with rfl | rfl | rfl | rfl | h
  · decide
  · decide
  · decide
  · decide
  · have : sx d = 0 := by simp [sx, List.getD_eq_getElem?_getD, List.getElem?_eq_none (l := [1, -1, 0, 0]) (i := d) h]
    omega
theorem sy_bd (d : Nat) : -1 ≤ sy d ∧ sy d ≤ 1 := by
  rcases (show d = 0 ∨ d = 1 ∨ d = 2 ∨ d = 3 ∨ 4 ≤ d by omega) with rfl | rfl | rfl | rfl | h
  · decide
  · decide
  · decide
  · decide
  · have : sy d = 0 := by simp [sy, List.getD_eq_getElem?_getD, List.getElem?_eq_none (l := [0, 0, 1, -1]) (i := d) h]
    omega
/-- by how many sides a chamber lies there -/
def cs (f : Nat → Int) (x y : Int) : Int := sumTo (fun d => b01 (0 ≤ sqAt f (x + sx d) (y + sy d))) 4
def ds (f : Nat → Int) (x y : Int) : Int := if sqAt f x y = -1 then cs f x y else 0
theorem cs_bd (f : Nat → Int) (x y : Int) : 0 ≤ cs f x y ∧ cs f x y ≤ 4 := cnt_bd (c := fun d => 0 ≤ sqAt f (x + sx d) (y + sy d)) 4
theorem ds_bd (f : Nat → Int) (x y : Int) : 0 ≤ ds f x y ∧ ds f x y ≤ 4 := by
  have := cs_bd f x y
  unfold ds
  split <;> omega
def isDr (f : Nat → Int) (r x y : Int) (d : Nat) : Int := b01 (sqAt f x y = -1 ∧ sqAt f (x - sx d) (y - sy d) = r)
/-- going straight away -/
def fcd (f : Nat → Int) (r x y dx dy : Int) : Nat → Nat → Int
  | 0, _ => 0
  | n + 1, k => if sqAt f (x + ((k : Int) + 1) * dx) (y + ((k : Int) + 1) * dy) = -1 then fcd f r x y dx dy n (k + 1) else b01 (0 ≤ sqAt f (x + ((k : Int) + 1) * dx) (y + ((k : Int) + 1) * dy) ∧ sqAt f (x + ((k : Int) + 1) * dx) (y + ((k : Int) + 1) * dy) ≠ r)
theorem fcd_bd (f : Nat → Int) (r x y dx dy : Int) : ∀ n k, 0 ≤ fcd f r x y dx dy n k ∧ fcd f r x y dx dy n k ≤ 1
  | 0, _ => by simp [fcd]
  | n + 1, k => by
    unfold fcd
    split
    · exact fcd_bd f r x y dx dy n (k + 1)
    · exact b01_bd _
section PL4
variable {G : Nat → Nat} {σ : AS} {Q : (Option AV ⊕ Nat) → AS → Prop} {P : Nat} {f g h : Nat → Int} {c : Int}
theorem s_sx {d : Nat} (hS : SD G σ) (hd : d < 4) : CW G k_Cp_at [vR (G 2), vI (d : Nat)] σ Q = Q (.inl (some (vI (sx d)))) σ := by
  rw [s_Cp_at hS.1 (Or.inr rfl) (by omega) (by unfold inR; omega), if_pos (by omega)]
  rfl
theorem s_sy {d : Nat} (hS : SD G σ) (hd : d < 4) : CW G k_Cp_at [vR (G 3), vI (d : Nat)] σ Q = Q (.inl (some (vI (sy d)))) σ := by
  rw [s_Cp_at hS.2 (Or.inr rfl) (by omega) (by unfold inR; omega), if_pos (by omega)]
  rfl
theorem s_Plan_chamberSides {x y : Int} (hS : SD G σ) (hP : PlanC σ P f g h c) (hf : SqOK f) (hx : -100 ≤ x ∧ x ≤ 100) (hy : -100 ≤ y ∧ y ≤ 100) : CW G k_Plan_chamberSides [vR P, vI x, vI y] σ Q = Q (.inl (some (vI (cs f x y)))) σ := by
  apply CW.det
  simp only [c_Plan_chamberSides, e_Plan_chamberSides_0, e_Plan_chamberSides_1, e_Plan_chamberSides_2, e_Plan_chamberSides_3, e_Plan_chamberSides_7, e_Plan_chamberSides_8, e_Plan_chamberSides_11, e_Plan_chamberSides_12, e_Plan_chamberSides_13, e_Plan_chamberSides_16, e_Plan_chamberSides_18, e_Plan_chamberSides_21, e_Plan_chamberSides_22, e_Plan_chamberSides_23, e_Plan_chamberSides_26, e_Plan_chamberSides_28, e_Plan_chamberSides_31, e_Plan_chamberSides_32, e_Plan_chamberSides_35, e_Plan_chamberSides_38, e_Plan_chamberSides_41, e_Plan_chamberSides_44, e_Plan_chamberSides_47, e_Plan_chamberSides_48, kR_l, kR_r, kP_0, kP_i, kP_r, kP_n, kP_s, kP_o, kLen_I, kLen_L, kLen_R, kLdI_0, kLdI_1, kLdI_2, kLdI_3, kStI_0, kStI_1, kLdL_e, kStL_e, kLdR_e, kStR_e, kFld_e, kNth_0, kNth_s, kPut_e, fit_I, fit_Z, fit_B, fit_C, fit_A, fit_O, Option.toList_some, Option.toList_none, List.cons_append, List.nil_append, true_and, and_true, List.set_cons_zero, List.set_cons_succ, st_same, Int.toNat_natCast, Int.cast_ofNat_Int, Nat.zero_add, Nat.reduceAdd, kRcv_1, kRcv_2, kRcv_3, kRcv_0, kRcv_4, kRcv_5]
  refine up (fun i => WP G k_Plan_chamberSides 5 [some (vR P), some (vI x), some (vI y), some (vI (sumTo (fun d => b01 (0 ≤ sqAt f (x + sx d) (y + sy d))) i)), some (vI (i : Nat))] [] σ _) (n := 4) ?_ ?_
  · intro i hi ih
    have b1 := sx_bd i
    have b2 := sy_bd i
    have b3 := sqAt_bd hf (x + sx i) (y + sy i)
    rw [e_Plan_chamberSides_5]
    simp (disch := first | assumption | omega | (unfold inR; omega)) only [e_Plan_chamberSides_0, e_Plan_chamberSides_1, e_Plan_chamberSides_2, e_Plan_chamberSides_3, e_Plan_chamberSides_7, e_Plan_chamberSides_8, e_Plan_chamberSides_11, e_Plan_chamberSides_12, e_Plan_chamberSides_13, e_Plan_chamberSides_16, e_Plan_chamberSides_18, e_Plan_chamberSides_21, e_Plan_chamberSides_22, e_Plan_chamberSides_23, e_Plan_chamberSides_26, e_Plan_chamberSides_28, e_Plan_chamberSides_31, e_Plan_chamberSides_32, e_Plan_chamberSides_35, e_Plan_chamberSides_38, e_Plan_chamberSides_41, e_Plan_chamberSides_44, e_Plan_chamberSides_47, e_Plan_chamberSides_48, kR_l, kR_r, kP_0, kP_i, kP_r, kP_n, kP_s, kP_o, kLen_I, kLen_L, kLen_R, kLdI_0, kLdI_1, kLdI_2, kLdI_3, kStI_0, kStI_1, kLdL_e, kStL_e, kLdR_e, kStR_e, kFld_e, kNth_0, kNth_s, kPut_e, fit_I, fit_Z, fit_B, fit_C, fit_A, fit_O, Option.toList_some, Option.toList_none, List.cons_append, List.nil_append, true_and, and_true, List.set_cons_zero, List.set_cons_succ, st_same, Int.toNat_natCast, Int.cast_ofNat_Int, Nat.zero_add, Nat.reduceAdd, kRcv_1, kRcv_2, kRcv_3, kRcv_0, kRcv_4, kRcv_5, hP.1, s_sx hS, s_sy hS, s_Plan_squareAt hP]
    by_cases hc : 0 ≤ sqAt f (x + sx i) (y + sy i)
    · have hb := b01_t hc
      simp only [sum_s _ i, hb] at ih
      all_goals ((repeat' (first | with_reducible refine And.intro ?_ ?_ | intro _)) <;> first | assumption | exact True.intro | exact ih | omega | (simp only [inR] at *; omega) | with_reducible rfl | rfl | (simp; done) | (exfalso; simp_all; done) | skip)
    · have hb := b01_f hc
      simp only [sum_s _ i, hb, Int.add_zero] at ih
      all_goals ((repeat' (first | with_reducible refine And.intro ?_ ?_ | intro _)) <;> first | assumption | exact True.intro | exact ih | omega | (simp only [inR] at *; omega) | with_reducible rfl | rfl | (simp; done) | (exfalso; simp_all; done) | skip)
  · rw [e_Plan_chamberSides_5]
    simp (disch := first | assumption | omega | (unfold inR; omega)) only [e_Plan_chamberSides_0, e_Plan_chamberSides_1, e_Plan_chamberSides_2, e_Plan_chamberSides_3, e_Plan_chamberSides_7, e_Plan_chamberSides_8, e_Plan_chamberSides_11, e_Plan_chamberSides_12, e_Plan_chamberSides_13, e_Plan_chamberSides_16, e_Plan_chamberSides_18, e_Plan_chamberSides_21, e_Plan_chamberSides_22, e_Plan_chamberSides_23, e_Plan_chamberSides_26, e_Plan_chamberSides_28, e_Plan_chamberSides_31, e_Plan_chamberSides_32, e_Plan_chamberSides_35, e_Plan_chamberSides_38, e_Plan_chamberSides_41, e_Plan_chamberSides_44, e_Plan_chamberSides_47, e_Plan_chamberSides_48, kR_l, kR_r, kP_0, kP_i, kP_r, kP_n, kP_s, kP_o, kLen_I, kLen_L, kLen_R, kLdI_0, kLdI_1, kLdI_2, kLdI_3, kStI_0, kStI_1, kLdL_e, kStL_e, kLdR_e, kStR_e, kFld_e, kNth_0, kNth_s, kPut_e, fit_I, fit_Z, fit_B, fit_C, fit_A, fit_O, Option.toList_some, Option.toList_none, List.cons_append, List.nil_append, true_and, and_true, List.set_cons_zero, List.set_cons_succ, st_same, Int.toNat_natCast, Int.cast_ofNat_Int, Nat.zero_add, Nat.reduceAdd, kRcv_1, kRcv_2, kRcv_3, kRcv_0, kRcv_4, kRcv_5, hP.1]
    all_goals ((repeat' (first | with_reducible refine And.intro ?_ ?_ | intro _)) <;> first | assumption | exact True.intro | omega | (simp only [inR] at *; omega) | with_reducible rfl | rfl | (simp; done) | (exfalso; simp_all; done) | skip)
theorem s_Plan_doorSides {x y : Int} (hS : SD G σ) (hP : PlanC σ P f g h c) (hf : SqOK f) (hx : -100 ≤ x ∧ x ≤ 100) (hy : -100 ≤ y ∧ y ≤ 100) : CW G k_Plan_doorSides [vR P, vI x, vI y] σ Q = Q (.inl (some (vI (ds f x y)))) σ := by
  apply CW.det
  have b3 := sqAt_bd hf x y
  simp (disch := first | assumption | omega | (unfold inR; omega)) only [c_Plan_doorSides, e_Plan_doorSides_0, e_Plan_doorSides_1, e_Plan_doorSides_2, e_Plan_doorSides_3, e_Plan_doorSides_6, e_Plan_doorSides_7, e_Plan_doorSides_10, e_Plan_doorSides_11, e_Plan_doorSides_12, e_Plan_doorSides_13, e_Plan_doorSides_16, e_Plan_doorSides_19, e_Plan_doorSides_20, kR_l, kR_r, kP_0, kP_i, kP_r, kP_n, kP_s, kP_o, kLen_I, kLen_L, kLen_R, kLdI_0, kLdI_1, kLdI_2, kLdI_3, kStI_0, kStI_1, kLdL_e, kStL_e, kLdR_e, kStR_e, kFld_e, kNth_0, kNth_s, kPut_e, fit_I, fit_Z, fit_B, fit_C, fit_A, fit_O, Option.toList_some, Option.toList_none, List.cons_append, List.nil_append, true_and, and_true, List.set_cons_zero, List.set_cons_succ, st_same, Int.toNat_natCast, Int.cast_ofNat_Int, Nat.zero_add, Nat.reduceAdd, kRcv_1, kRcv_2, kRcv_3, kRcv_0, kRcv_4, kRcv_5, hP.1, s_Plan_squareAt hP, s_Plan_chamberSides hS hP hf hx hy]
  by_cases hc : sqAt f x y = -1
  · simp only [ds, if_pos hc]
    all_goals ((repeat' (first | with_reducible refine And.intro ?_ ?_ | intro _)) <;> first | assumption | exact True.intro | omega | (simp only [inR] at *; omega) | with_reducible rfl | rfl | (simp; done) | (exfalso; simp_all; done) | skip)
  · simp only [ds, if_neg hc]
    all_goals ((repeat' (first | with_reducible refine And.intro ?_ ?_ | intro _)) <;> first | assumption | exact True.intro | omega | (simp only [inR] at *; omega) | with_reducible rfl | rfl | (simp; done) | (exfalso; simp_all; done) | skip)
theorem s_Plan_isDoor {r x y : Int} {d : Nat} (hS : SD G σ) (hP : PlanC σ P f g h c) (hf : SqOK f) (hr : inR r) (hx : -100 ≤ x ∧ x ≤ 100) (hy : -100 ≤ y ∧ y ≤ 100) (hd : d < 4) : CW G k_Plan_isDoor [vR P, vI r, vI x, vI y, vI (d : Nat)] σ Q = Q (.inl (some (vI (isDr f r x y d)))) σ := by
  apply CW.det
  have b0 := sqAt_bd hf x y
  have b1 := sx_bd d
  have b2 := sy_bd d
  have b3 := sqAt_bd hf (x - sx d) (y - sy d)
  simp (disch := first | assumption | omega | (unfold inR; omega)) only [c_Plan_isDoor, e_Plan_isDoor_0, e_Plan_isDoor_1, e_Plan_isDoor_2, e_Plan_isDoor_3, e_Plan_isDoor_6, e_Plan_isDoor_7, e_Plan_isDoor_10, e_Plan_isDoor_11, e_Plan_isDoor_12, e_Plan_isDoor_15, e_Plan_isDoor_17, e_Plan_isDoor_20, e_Plan_isDoor_21, e_Plan_isDoor_22, e_Plan_isDoor_25, e_Plan_isDoor_27, e_Plan_isDoor_30, e_Plan_isDoor_31, e_Plan_isDoor_34, e_Plan_isDoor_35, e_Plan_isDoor_38, e_Plan_isDoor_39, e_Plan_isDoor_42, e_Plan_isDoor_43, kR_l, kR_r, kP_0, kP_i, kP_r, kP_n, kP_s, kP_o, kLen_I, kLen_L, kLen_R, kLdI_0, kLdI_1, kLdI_2, kLdI_3, kStI_0, kStI_1, kLdL_e, kStL_e, kLdR_e, kStR_e, kFld_e, kNth_0, kNth_s, kPut_e, fit_I, fit_Z, fit_B, fit_C, fit_A, fit_O, Option.toList_some, Option.toList_none, List.cons_append, List.nil_append, true_and, and_true, List.set_cons_zero, List.set_cons_succ, st_same, Int.toNat_natCast, Int.cast_ofNat_Int, Nat.zero_add, Nat.reduceAdd, kRcv_1, kRcv_2, kRcv_3, kRcv_0, kRcv_4, kRcv_5, hP.1, s_sx hS, s_sy hS, s_Plan_squareAt hP]
  unfold isDr
  by_cases hc : sqAt f x y = -1 ∧ sqAt f (x - sx d) (y - sy d) = r
  · simp only [b01_t hc]
    all_goals ((repeat' (first | with_reducible refine And.intro ?_ ?_ | intro _)) <;> first | assumption | exact True.intro | omega | (simp only [inR] at *; omega) | with_reducible rfl | rfl | (simp; done) | (exfalso; simp_all; done) | skip)
  · simp only [b01_f hc]
    all_goals ((repeat' (first | with_reducible refine And.intro ?_ ?_ | intro _)) <;> first | assumption | exact True.intro | omega | (simp only [inR] at *; omega) | with_reducible rfl | rfl | (simp; done) | (exfalso; simp_all; done) | skip)
theorem s_Plan_isFaced {r x y : Int} {d n : Nat} (hS : SD G σ) (hP : PlanC σ P f g h c) (hf : SqOK f) (hr : inR r) (hx : -100 ≤ x ∧ x ≤ 100) (hy : -100 ≤ y ∧ y ≤ 100) (hd : d < 4) (hc : c = (n : Nat)) (hn : n < 100) : CW G k_Plan_isFaced [vR P, vI r, vI x, vI y, vI (d : Nat)] σ Q = Q (.inl (some (vI (fcd f r x y (sx d) (sy d) (n + 1) 0)))) σ := by
  apply CW.det
  have b1 := sx_bd d
  have b2 := sy_bd d
  simp (disch := first | assumption | omega | (unfold inR; omega)) only [c_Plan_isFaced, e_Plan_isFaced_0, e_Plan_isFaced_3, e_Plan_isFaced_5, e_Plan_isFaced_8, e_Plan_isFaced_10, e_Plan_isFaced_13, e_Plan_isFaced_15, e_Plan_isFaced_18, e_Plan_isFaced_20, e_Plan_isFaced_21, e_Plan_isFaced_25, e_Plan_isFaced_26, e_Plan_isFaced_29, e_Plan_isFaced_32, e_Plan_isFaced_33, e_Plan_isFaced_34, e_Plan_isFaced_36, e_Plan_isFaced_37, e_Plan_isFaced_38, e_Plan_isFaced_40, e_Plan_isFaced_41, e_Plan_isFaced_42, e_Plan_isFaced_43, e_Plan_isFaced_45, e_Plan_isFaced_46, e_Plan_isFaced_47, e_Plan_isFaced_49, e_Plan_isFaced_50, e_Plan_isFaced_51, e_Plan_isFaced_54, e_Plan_isFaced_56, e_Plan_isFaced_58, e_Plan_isFaced_59, e_Plan_isFaced_62, e_Plan_isFaced_64, e_Plan_isFaced_67, e_Plan_isFaced_69, e_Plan_isFaced_70, e_Plan_isFaced_73, e_Plan_isFaced_74, e_Plan_isFaced_77, e_Plan_isFaced_78, e_Plan_isFaced_79, e_Plan_isFaced_82, e_Plan_isFaced_85, e_Plan_isFaced_86, kR_l, kR_r, kP_0, kP_i, kP_r, kP_n, kP_s, kP_o, kLen_I, kLen_L, kLen_R, kLdI_0, kLdI_1, kLdI_2, kLdI_3, kStI_0, kStI_1, kLdL_e, kStL_e, kLdR_e, kStR_e, kFld_e, kNth_0, kNth_s, kPut_e, fit_I, fit_Z, fit_B, fit_C, fit_A, fit_O, Option.toList_some, Option.toList_none, List.cons_append, List.nil_append, true_and, and_true, List.set_cons_zero, List.set_cons_succ, st_same, Int.toNat_natCast, Int.cast_ofNat_Int, Nat.zero_add, Nat.reduceAdd, kRcv_1, kRcv_2, kRcv_3, kRcv_0, kRcv_4, kRcv_5, hP.1, s_sx hS, s_sy hS]
  have key : ∀ k i, k + i = n + 1 → WP G k_Plan_isFaced 23 [some (vR P), some (vI r), some (vI x), some (vI y), some (vI (d : Nat)), some (vI (sx d)), some (vI (sy d)), some (vI (i : Nat)), none] [] σ (fun r9 s => r9 = .inl (some (vI (fcd f r x y (sx d) (sy d) k i))) ∧ s = σ) ∧ ∀ w : Int, WP G k_Plan_isFaced 23 [some (vR P), some (vI r), some (vI x), some (vI y), some (vI (d : Nat)), some (vI (sx d)), some (vI (sy d)), some (vI (i : Nat)), some (vI w)] [] σ (fun r9 s => r9 = .inl (some (vI (fcd f r x y (sx d) (sy d) k i))) ∧ s = σ) := by
    intro k
    induction k with
    | zero =>
      intro i hi
      constructor
      · rw [e_Plan_isFaced_23]
        simp only [e_Plan_isFaced_0, e_Plan_isFaced_3, e_Plan_isFaced_5, e_Plan_isFaced_8, e_Plan_isFaced_10, e_Plan_isFaced_13, e_Plan_isFaced_15, e_Plan_isFaced_18, e_Plan_isFaced_20, e_Plan_isFaced_21, e_Plan_isFaced_25, e_Plan_isFaced_26, e_Plan_isFaced_29, e_Plan_isFaced_32, e_Plan_isFaced_33, e_Plan_isFaced_34, e_Plan_isFaced_36, e_Plan_isFaced_37, e_Plan_isFaced_38, e_Plan_isFaced_40, e_Plan_isFaced_41, e_Plan_isFaced_42, e_Plan_isFaced_43, e_Plan_isFaced_45, e_Plan_isFaced_46, e_Plan_isFaced_47, e_Plan_isFaced_49, e_Plan_isFaced_50, e_Plan_isFaced_51, e_Plan_isFaced_54, e_Plan_isFaced_56, e_Plan_isFaced_58, e_Plan_isFaced_59, e_Plan_isFaced_62, e_Plan_isFaced_64, e_Plan_isFaced_67, e_Plan_isFaced_69, e_Plan_isFaced_70, e_Plan_isFaced_73, e_Plan_isFaced_74, e_Plan_isFaced_77, e_Plan_isFaced_78, e_Plan_isFaced_79, e_Plan_isFaced_82, e_Plan_isFaced_85, e_Plan_isFaced_86, kR_l, kR_r, kP_0, kP_i, kP_r, kP_n, kP_s, kP_o, kLen_I, kLen_L, kLen_R, kLdI_0, kLdI_1, kLdI_2, kLdI_3, kStI_0, kStI_1, kLdL_e, kStL_e, kLdR_e, kStR_e, kFld_e, kNth_0, kNth_s, kPut_e, fit_I, fit_Z, fit_B, fit_C, fit_A, fit_O, Option.toList_some, Option.toList_none, List.cons_append, List.nil_append, true_and, and_true, List.set_cons_zero, List.set_cons_succ, st_same, Int.toNat_natCast, Int.cast_ofNat_Int, Nat.zero_add, Nat.reduceAdd, kRcv_1, kRcv_2, kRcv_3, kRcv_0, kRcv_4, kRcv_5, hP.1, hc]
        all_goals ((repeat' (first | with_reducible refine And.intro ?_ ?_ | intro _)) <;> first | assumption | exact True.intro | omega | (simp only [inR] at *; omega) | with_reducible rfl | rfl | (simp; done) | (exfalso; simp_all; done) | skip)
      · intro w
        rw [e_Plan_isFaced_23]
        simp only [e_Plan_isFaced_0, e_Plan_isFaced_3, e_Plan_isFaced_5, e_Plan_isFaced_8, e_Plan_isFaced_10, e_Plan_isFaced_13, e_Plan_isFaced_15, e_Plan_isFaced_18, e_Plan_isFaced_20, e_Plan_isFaced_21, e_Plan_isFaced_25, e_Plan_isFaced_26, e_Plan_isFaced_29, e_Plan_isFaced_32, e_Plan_isFaced_33, e_Plan_isFaced_34, e_Plan_isFaced_36, e_Plan_isFaced_37, e_Plan_isFaced_38, e_Plan_isFaced_40, e_Plan_isFaced_41, e_Plan_isFaced_42, e_Plan_isFaced_43, e_Plan_isFaced_45, e_Plan_isFaced_46, e_Plan_isFaced_47, e_Plan_isFaced_49, e_Plan_isFaced_50, e_Plan_isFaced_51, e_Plan_isFaced_54, e_Plan_isFaced_56, e_Plan_isFaced_58, e_Plan_isFaced_59, e_Plan_isFaced_62, e_Plan_isFaced_64, e_Plan_isFaced_67, e_Plan_isFaced_69, e_Plan_isFaced_70, e_Plan_isFaced_73, e_Plan_isFaced_74, e_Plan_isFaced_77, e_Plan_isFaced_78, e_Plan_isFaced_79, e_Plan_isFaced_82, e_Plan_isFaced_85, e_Plan_isFaced_86, kR_l, kR_r, kP_0, kP_i, kP_r, kP_n, kP_s, kP_o, kLen_I, kLen_L, kLen_R, kLdI_0, kLdI_1, kLdI_2, kLdI_3, kStI_0, kStI_1, kLdL_e, kStL_e, kLdR_e, kStR_e, kFld_e, kNth_0, kNth_s, kPut_e, fit_I, fit_Z, fit_B, fit_C, fit_A, fit_O, Option.toList_some, Option.toList_none, List.cons_append, List.nil_append, true_and, and_true, List.set_cons_zero, List.set_cons_succ, st_same, Int.toNat_natCast, Int.cast_ofNat_Int, Nat.zero_add, Nat.reduceAdd, kRcv_1, kRcv_2, kRcv_3, kRcv_0, kRcv_4, kRcv_5, hP.1, hc]
        all_goals ((repeat' (first | with_reducible refine And.intro ?_ ?_ | intro _)) <;> first | assumption | exact True.intro | omega | (simp only [inR] at *; omega) | with_reducible rfl | rfl | (simp; done) | (exfalso; simp_all; done) | skip)
    | succ k ihk =>
      intro i hi
      have ih := (ihk (i + 1) (by omega)).2
      have hm1 : -200 ≤ ((i : Int) + 1) * sx d ∧ ((i : Int) + 1) * sx d ≤ 200 := by
        rcases (show sx d = -1 ∨ sx d = 0 ∨ sx d = 1 by omega) with e | e | e <;> rw [e] <;> omega
      have hm2 : -200 ≤ ((i : Int) + 1) * sy d ∧ ((i : Int) + 1) * sy d ≤ 200 := by
        rcases (show sy d = -1 ∨ sy d = 0 ∨ sy d = 1 by omega) with e | e | e <;> rw [e] <;> omega
      have b3 := sqAt_bd hf (x + ((i : Int) + 1) * sx d) (y + ((i : Int) + 1) * sy d)
      constructor
      · rw [e_Plan_isFaced_23]
        simp (disch := first | assumption | omega | (unfold inR; omega)) only [e_Plan_isFaced_0, e_Plan_isFaced_3, e_Plan_isFaced_5, e_Plan_isFaced_8, e_Plan_isFaced_10, e_Plan_isFaced_13, e_Plan_isFaced_15, e_Plan_isFaced_18, e_Plan_isFaced_20, e_Plan_isFaced_21, e_Plan_isFaced_25, e_Plan_isFaced_26, e_Plan_isFaced_29, e_Plan_isFaced_32, e_Plan_isFaced_33, e_Plan_isFaced_34, e_Plan_isFaced_36, e_Plan_isFaced_37, e_Plan_isFaced_38, e_Plan_isFaced_40, e_Plan_isFaced_41, e_Plan_isFaced_42, e_Plan_isFaced_43, e_Plan_isFaced_45, e_Plan_isFaced_46, e_Plan_isFaced_47, e_Plan_isFaced_49, e_Plan_isFaced_50, e_Plan_isFaced_51, e_Plan_isFaced_54, e_Plan_isFaced_56, e_Plan_isFaced_58, e_Plan_isFaced_59, e_Plan_isFaced_62, e_Plan_isFaced_64, e_Plan_isFaced_67, e_Plan_isFaced_69, e_Plan_isFaced_70, e_Plan_isFaced_73, e_Plan_isFaced_74, e_Plan_isFaced_77, e_Plan_isFaced_78, e_Plan_isFaced_79, e_Plan_isFaced_82, e_Plan_isFaced_85, e_Plan_isFaced_86, kR_l, kR_r, kP_0, kP_i, kP_r, kP_n, kP_s, kP_o, kLen_I, kLen_L, kLen_R, kLdI_0, kLdI_1, kLdI_2, kLdI_3, kStI_0, kStI_1, kLdL_e, kStL_e, kLdR_e, kStR_e, kFld_e, kNth_0, kNth_s, kPut_e, fit_I, fit_Z, fit_B, fit_C, fit_A, fit_O, Option.toList_some, Option.toList_none, List.cons_append, List.nil_append, true_and, and_true, List.set_cons_zero, List.set_cons_succ, st_same, Int.toNat_natCast, Int.cast_ofNat_Int, Nat.zero_add, Nat.reduceAdd, kRcv_1, kRcv_2, kRcv_3, kRcv_0, kRcv_4, kRcv_5, hP.1, hc, s_Plan_squareAt hP]
        unfold fcd
        by_cases h1 : sqAt f (x + ((i : Int) + 1) * sx d) (y + ((i : Int) + 1) * sy d) = -1
        · simp only [if_pos h1]
          all_goals ((repeat' (first | with_reducible refine And.intro ?_ ?_ | intro _)) <;> first | assumption | exact True.intro | exact ih _ | omega | (simp only [inR] at *; omega) | with_reducible rfl | rfl | (simp; done) | (exfalso; simp_all; done) | skip)
        · simp only [if_neg h1]
          by_cases h2 : 0 ≤ sqAt f (x + ((i : Int) + 1) * sx d) (y + ((i : Int) + 1) * sy d) ∧ sqAt f (x + ((i : Int) + 1) * sx d) (y + ((i : Int) + 1) * sy d) ≠ r
          · simp only [b01_t h2]
            all_goals ((repeat' (first | with_reducible refine And.intro ?_ ?_ | intro _)) <;> first | assumption | exact True.intro | omega | (simp only [inR] at *; omega) | with_reducible rfl | rfl | (simp; done) | (exfalso; simp_all; done) | skip)
          · simp only [b01_f h2]
            all_goals ((repeat' (first | with_reducible refine And.intro ?_ ?_ | intro _)) <;> first | assumption | exact True.intro | omega | (simp only [inR] at *; omega) | with_reducible rfl | rfl | (simp; done) | (exfalso; simp_all; done) | skip)
      · intro w
        rw [e_Plan_isFaced_23]
        simp (disch := first | assumption | omega | (unfold inR; omega)) only [e_Plan_isFaced_0, e_Plan_isFaced_3, e_Plan_isFaced_5, e_Plan_isFaced_8, e_Plan_isFaced_10, e_Plan_isFaced_13, e_Plan_isFaced_15, e_Plan_isFaced_18, e_Plan_isFaced_20, e_Plan_isFaced_21, e_Plan_isFaced_25, e_Plan_isFaced_26, e_Plan_isFaced_29, e_Plan_isFaced_32, e_Plan_isFaced_33, e_Plan_isFaced_34, e_Plan_isFaced_36, e_Plan_isFaced_37, e_Plan_isFaced_38, e_Plan_isFaced_40, e_Plan_isFaced_41, e_Plan_isFaced_42, e_Plan_isFaced_43, e_Plan_isFaced_45, e_Plan_isFaced_46, e_Plan_isFaced_47, e_Plan_isFaced_49, e_Plan_isFaced_50, e_Plan_isFaced_51, e_Plan_isFaced_54, e_Plan_isFaced_56, e_Plan_isFaced_58, e_Plan_isFaced_59, e_Plan_isFaced_62, e_Plan_isFaced_64, e_Plan_isFaced_67, e_Plan_isFaced_69, e_Plan_isFaced_70, e_Plan_isFaced_73, e_Plan_isFaced_74, e_Plan_isFaced_77, e_Plan_isFaced_78, e_Plan_isFaced_79, e_Plan_isFaced_82, e_Plan_isFaced_85, e_Plan_isFaced_86, kR_l, kR_r, kP_0, kP_i, kP_r, kP_n, kP_s, kP_o, kLen_I, kLen_L, kLen_R, kLdI_0, kLdI_1, kLdI_2, kLdI_3, kStI_0, kStI_1, kLdL_e, kStL_e, kLdR_e, kStR_e, kFld_e, kNth_0, kNth_s, kPut_e, fit_I, fit_Z, fit_B, fit_C, fit_A, fit_O, Option.toList_some, Option.toList_none, List.cons_append, List.nil_append, true_and, and_true, List.set_cons_zero, List.set_cons_succ, st_same, Int.toNat_natCast, Int.cast_ofNat_Int, Nat.zero_add, Nat.reduceAdd, kRcv_1, kRcv_2, kRcv_3, kRcv_0, kRcv_4, kRcv_5, hP.1, hc, s_Plan_squareAt hP]
        unfold fcd
        by_cases h1 : sqAt f (x + ((i : Int) + 1) * sx d) (y + ((i : Int) + 1) * sy d) = -1
        · simp only [if_pos h1]
          all_goals ((repeat' (first | with_reducible refine And.intro ?_ ?_ | intro _)) <;> first | assumption | exact True.intro | exact ih _ | omega | (simp only [inR] at *; omega) | with_reducible rfl | rfl | (simp; done) | (exfalso; simp_all; done) | skip)
        · simp only [if_neg h1]
          by_cases h2 : 0 ≤ sqAt f (x + ((i : Int) + 1) * sx d) (y + ((i : Int) + 1) * sy d) ∧ sqAt f (x + ((i : Int) + 1) * sx d) (y + ((i : Int) + 1) * sy d) ≠ r
          · simp only [b01_t h2]
            all_goals ((repeat' (first | with_reducible refine And.intro ?_ ?_ | intro _)) <;> first | assumption | exact True.intro | omega | (simp only [inR] at *; omega) | with_reducible rfl | rfl | (simp; done) | (exfalso; simp_all; done) | skip)
          · simp only [b01_f h2]
            all_goals ((repeat' (first | with_reducible refine And.intro ?_ ?_ | intro _)) <;> first | assumption | exact True.intro | omega | (simp only [inR] at *; omega) | with_reducible rfl | rfl | (simp; done) | (exfalso; simp_all; done) | skip)
  exact (key (n + 1) 0 (by omega)).1
end PL4
