/-! THE PLAN AS A WHOLE -/
theorem as_ext {σ τ : AS} (h : ∀ a, σ.1 a = τ.1 a) (h2 : σ.2 = τ.2) : σ = τ := Prod.ext (funext h) h2
def setP (σ : AS) (P : Nat) (f g h : Nat → Int) (c : Int) : AS := am_st (am_st (am_st (am_st σ (P + 1) (oI 0 192 f)) (P + 2) (oI 0 24 g)) (P + 3) (oI 0 36 h)) P (plCell P c)
theorem setP_at (σ : AS) (P : Nat) (f g h : Nat → Int) (c : Int) (a : Nat) : (setP σ P f g h c).1 a = if a = P then some (plCell P c) else if a = P + 3 then some (oI 0 36 h) else if a = P + 2 then some (oI 0 24 g) else if a = P + 1 then some (oI 0 192 f) else σ.1 a := rfl
theorem setP_2 (σ : AS) (P : Nat) (f g h : Nat → Int) (c : Int) : (setP σ P f g h c).2 = σ.2 := rfl
theorem setP_C (σ : AS) (P : Nat) (f g h : Nat → Int) (c : Int) : PlanC (setP σ P f g h c) P f g h c := by
  refine ⟨?_, ?_, ?_, ?_⟩ <;> rw [setP_at] <;> simp [plCell]
theorem setP_out {σ : AS} {P : Nat} {f g h : Nat → Int} {c : Int} {a : Nat} (ha : a < P ∨ P + 4 ≤ a) : (setP σ P f g h c).1 a = σ.1 a := by
  rw [setP_at, if_neg (by omega), if_neg (by omega), if_neg (by omega), if_neg (by omega)]
theorem setP_eq {σ τ : AS} {P : Nat} {f g h : Nat → Int} {c : Int} (hP : PlanC τ P f g h c) (ho : ∀ a, a < P ∨ P + 4 ≤ a → τ.1 a = σ.1 a) (h2 : τ.2 = σ.2) : τ = setP σ P f g h c := by
  obtain ⟨h1, h3, h4, h5⟩ := hP
  refine as_ext (fun a => ?_) h2
  rw [setP_at]
  split
  · rename_i e; rw [e, h1]; rfl
  · split
    · rename_i e; rw [e, h5]
    · split
      · rename_i e; rw [e, h4]
      · split
        · rename_i e; rw [e, h3]
        · exact ho a (by omega)
theorem setP_setP (σ : AS) (P : Nat) (f g h f' g' h' : Nat → Int) (c c' : Int) : setP (setP σ P f g h c) P f' g' h' c' = setP σ P f' g' h' c' := setP_eq (setP_C _ _ _ _ _ _) (fun a ha => by rw [setP_out ha, setP_out ha]) rfl
theorem setP_id {σ : AS} {P : Nat} {f g h : Nat → Int} {c : Int} (hP : PlanC σ P f g h c) : setP σ P f g h c = σ := (setP_eq hP (fun _ _ => rfl) rfl).symm
theorem setP_sq {σ : AS} {P : Nat} {f g h : Nat → Int} {c : Int} (hP : PlanC σ P f g h c) (f' : Nat → Int) : am_st σ (P + 1) (oI 0 192 f') = setP σ P f' g h c := setP_eq (hP.sq f') (fun a ha => by rw [st_hp, if_neg (by omega)]) rfl
theorem setP_bx {σ : AS} {P : Nat} {f g h : Nat → Int} {c : Int} (hP : PlanC σ P f g h c) (g' : Nat → Int) : am_st σ (P + 2) (oI 0 24 g') = setP σ P f g' h c := setP_eq (hP.bx g') (fun a ha => by rw [st_hp, if_neg (by omega)]) rfl
theorem setP_wd {σ : AS} {P : Nat} {f g h : Nat → Int} {c : Int} (hP : PlanC σ P f g h c) (h' : Nat → Int) : am_st σ (P + 3) (oI 0 36 h') = setP σ P f g h' c := setP_eq (hP.wd h') (fun a ha => by rw [st_hp, if_neg (by omega)]) rfl
theorem setP_fa {σ : AS} {P : Nat} {f g h : Nat → Int} {c : Int} (hP : PlanC σ P f g h c) (c' : Int) : am_st σ P (plCell P c') = setP σ P f g h c' := setP_eq (hP.fa c') (fun a ha => by rw [st_hp, if_neg (by omega)]) rfl
def Can (f : Nat → Int) (n : Nat) : Prop := ∀ k, n ≤ k → f k = 0
theorem Can.copy {f g : Nat → Int} {n : Nat} (hf : Can f n) (hg : Can g n) : (fun j => if j < n then f j else g j) = f := by
  funext j
  split
  · rfl
  · rw [hf j (by omega), hg j (by omega)]
theorem Can.cov {f : Nat → Int} (hf : Can f 192) (l t c w j i : Int) : Can (covF f l t c w j i) 192 := by
  intro k hk
  unfold covF
  rw [if_neg (by omega)]
  exact hf k hk
theorem Can.up {f : Nat → Int} {n : Nat} (hf : Can f n) {k : Nat} (hk : k < n) (v : Int) : Can (upI f k v) n := by
  intro j hj
  rw [upI_at, if_neg (by omega)]
  exact hf j hj
/-- a chamber's numbers, nought -/
def noBox (g : Nat → Int) (r : Nat) : Nat → Int := fun k => if k / 4 = r then 0 else g k
def noWalk (h : Nat → Int) (r : Nat) : Nat → Int := fun k => if k < 36 ∧ (k / 6 = r ∨ k % 6 = r) then 0 else h k
def newBox (g : Nat → Int) (r : Nat) (x y c w : Int) : Nat → Int := upI (upI (upI (upI g (4 * r) x) (4 * r + 1) y) (4 * r + 2) c) (4 * r + 3) w
section PL7
variable {G : Nat → Nat} {σ : AS} {Q : (Option AV ⊕ Nat) → AS → Prop} {P : Nat} {f g h : Nat → Int} {c : Int}
theorem s_Plan_copyFrom {P' : Nat} {f' g' h' : Nat → Int} {c' : Int} (hP : PlanC σ P f g h c) (hP' : PlanC σ P' f' g' h' c') (hd : P + 4 ≤ P' ∨ P' + 4 ≤ P) (hG : G 0 ≤ P) (k1 : Can f 192) (k2 : Can g 24) (k3 : Can h 36) (k1' : Can f' 192) (k2' : Can g' 24) (k3' : Can h' 36) : CW G k_Plan_copyFrom [vR P, vR P'] σ Q = Q (.inl none) (setP σ P f' g' h' c') := by
  refine CW.det' fun R hR => ?_
  have q1 := hP.sq f'
  have q1' : PlanC (am_st σ (P + 1) (oI 0 192 f')) P' f' g' h' c' := hP'.away (fun a h1 h2 => by rw [st_hp, if_neg (by omega)])
  have q2 := q1.bx g'
  have q2' : PlanC (am_st (am_st σ (P + 1) (oI 0 192 f')) (P + 2) (oI 0 24 g')) P' f' g' h' c' := q1'.away (fun a h1 h2 => by rw [st_hp, if_neg (by omega)])
  have q3 := q2.wd h'
  have q3' : PlanC (am_st (am_st (am_st σ (P + 1) (oI 0 192 f')) (P + 2) (oI 0 24 g')) (P + 3) (oI 0 36 h')) P' f' g' h' c' := q2'.away (fun a h1 h2 => by rw [st_hp, if_neg (by omega)])
  simp only [c_Plan_copyFrom, e_Plan_copyFrom_0, e_Plan_copyFrom_1, e_Plan_copyFrom_4, e_Plan_copyFrom_5, e_Plan_copyFrom_8, e_Plan_copyFrom_11, e_Plan_copyFrom_12, e_Plan_copyFrom_15, e_Plan_copyFrom_16, e_Plan_copyFrom_19, e_Plan_copyFrom_22, e_Plan_copyFrom_23, e_Plan_copyFrom_26, e_Plan_copyFrom_27, e_Plan_copyFrom_30, e_Plan_copyFrom_33, e_Plan_copyFrom_34, e_Plan_copyFrom_35, e_Plan_copyFrom_38, e_Plan_copyFrom_41, kR_l, kR_r, kP_0, kP_i, kP_r, kP_n, kP_s, kP_o, kLen_I, kLen_L, kLen_R, kLdI_0, kLdI_1, kLdI_2, kLdI_3, kStI_0, kStI_1, kLdL_e, kStL_e, kLdR_e, kStR_e, kFld_e, kNth_0, kNth_s, kPut_e, fit_I, fit_Z, fit_B, fit_C, fit_A, fit_O, Option.toList_some, Option.toList_none, List.cons_append, List.nil_append, true_and, and_true, List.set_cons_zero, List.set_cons_succ, st_same, Int.toNat_natCast, Int.cast_ofNat_Int, Nat.zero_add, Nat.reduceAdd, kRcv_1, kRcv_2, kRcv_3, kRcv_0, kRcv_4, kRcv_5, hP.1, hP'.1]
  rw [s_Cp_copyRow hP'.2.1 hP.2.1 (by omega) (by omega) (by omega), k1'.copy k1]
  simp only [e_Plan_copyFrom_0, e_Plan_copyFrom_1, e_Plan_copyFrom_4, e_Plan_copyFrom_5, e_Plan_copyFrom_8, e_Plan_copyFrom_11, e_Plan_copyFrom_12, e_Plan_copyFrom_15, e_Plan_copyFrom_16, e_Plan_copyFrom_19, e_Plan_copyFrom_22, e_Plan_copyFrom_23, e_Plan_copyFrom_26, e_Plan_copyFrom_27, e_Plan_copyFrom_30, e_Plan_copyFrom_33, e_Plan_copyFrom_34, e_Plan_copyFrom_35, e_Plan_copyFrom_38, e_Plan_copyFrom_41, kR_l, kR_r, kP_0, kP_i, kP_r, kP_n, kP_s, kP_o, kLen_I, kLen_L, kLen_R, kLdI_0, kLdI_1, kLdI_2, kLdI_3, kStI_0, kStI_1, kLdL_e, kStL_e, kLdR_e, kStR_e, kFld_e, kNth_0, kNth_s, kPut_e, fit_I, fit_Z, fit_B, fit_C, fit_A, fit_O, Option.toList_some, Option.toList_none, List.cons_append, List.nil_append, true_and, and_true, List.set_cons_zero, List.set_cons_succ, st_same, Int.toNat_natCast, Int.cast_ofNat_Int, Nat.zero_add, Nat.reduceAdd, kRcv_1, kRcv_2, kRcv_3, kRcv_0, kRcv_4, kRcv_5, q1.1, q1'.1]
  rw [s_Cp_copyRow q1'.2.2.1 q1.2.2.1 (by omega) (by omega) (by omega), k2'.copy k2]
  simp only [e_Plan_copyFrom_0, e_Plan_copyFrom_1, e_Plan_copyFrom_4, e_Plan_copyFrom_5, e_Plan_copyFrom_8, e_Plan_copyFrom_11, e_Plan_copyFrom_12, e_Plan_copyFrom_15, e_Plan_copyFrom_16, e_Plan_copyFrom_19, e_Plan_copyFrom_22, e_Plan_copyFrom_23, e_Plan_copyFrom_26, e_Plan_copyFrom_27, e_Plan_copyFrom_30, e_Plan_copyFrom_33, e_Plan_copyFrom_34, e_Plan_copyFrom_35, e_Plan_copyFrom_38, e_Plan_copyFrom_41, kR_l, kR_r, kP_0, kP_i, kP_r, kP_n, kP_s, kP_o, kLen_I, kLen_L, kLen_R, kLdI_0, kLdI_1, kLdI_2, kLdI_3, kStI_0, kStI_1, kLdL_e, kStL_e, kLdR_e, kStR_e, kFld_e, kNth_0, kNth_s, kPut_e, fit_I, fit_Z, fit_B, fit_C, fit_A, fit_O, Option.toList_some, Option.toList_none, List.cons_append, List.nil_append, true_and, and_true, List.set_cons_zero, List.set_cons_succ, st_same, Int.toNat_natCast, Int.cast_ofNat_Int, Nat.zero_add, Nat.reduceAdd, kRcv_1, kRcv_2, kRcv_3, kRcv_0, kRcv_4, kRcv_5, q2.1, q2'.1]
  rw [s_Cp_copyRow q2'.2.2.2 q2.2.2.2 (by omega) (by omega) (by omega), k3'.copy k3]
  simp only [e_Plan_copyFrom_0, e_Plan_copyFrom_1, e_Plan_copyFrom_4, e_Plan_copyFrom_5, e_Plan_copyFrom_8, e_Plan_copyFrom_11, e_Plan_copyFrom_12, e_Plan_copyFrom_15, e_Plan_copyFrom_16, e_Plan_copyFrom_19, e_Plan_copyFrom_22, e_Plan_copyFrom_23, e_Plan_copyFrom_26, e_Plan_copyFrom_27, e_Plan_copyFrom_30, e_Plan_copyFrom_33, e_Plan_copyFrom_34, e_Plan_copyFrom_35, e_Plan_copyFrom_38, e_Plan_copyFrom_41, kR_l, kR_r, kP_0, kP_i, kP_r, kP_n, kP_s, kP_o, kLen_I, kLen_L, kLen_R, kLdI_0, kLdI_1, kLdI_2, kLdI_3, kStI_0, kStI_1, kLdL_e, kStL_e, kLdR_e, kStR_e, kFld_e, kNth_0, kNth_s, kPut_e, fit_I, fit_Z, fit_B, fit_C, fit_A, fit_O, Option.toList_some, Option.toList_none, List.cons_append, List.nil_append, true_and, and_true, List.set_cons_zero, List.set_cons_succ, st_same, Int.toNat_natCast, Int.cast_ofNat_Int, Nat.zero_add, Nat.reduceAdd, kRcv_1, kRcv_2, kRcv_3, kRcv_0, kRcv_4, kRcv_5, q3.1, q3'.1, List.length_cons, List.length_nil]
  all_goals ((repeat' (first | with_reducible refine And.intro ?_ ?_ | intro _)) <;> first | assumption | exact True.intro | omega | (simp only [inR] at *; omega) | with_reducible rfl | rfl | (simp; done) | (exfalso; simp_all; done) | skip)
theorem s_Arrays_fill {a n : Nat} {v : Int} {f : Nat → Int} (h : σ.1 a = some (oI 0 n f)) (hG : G 0 ≤ a) (hn : n < 100000) : CW G k_Arrays_fill [vR a, vI v] σ Q = Q (.inl none) (am_st σ a (oI 0 n (fun j => if j < n then v else f j))) := by
  refine CW.det' fun R hR => ?_
  simp only [c_Arrays_fill, e_Arrays_fill_0, e_Arrays_fill_1, e_Arrays_fill_2, e_Arrays_fill_3, e_Arrays_fill_4, e_Arrays_fill_6, e_Arrays_fill_7, e_Arrays_fill_10, e_Arrays_fill_11, e_Arrays_fill_12, e_Arrays_fill_13, e_Arrays_fill_14, e_Arrays_fill_17, e_Arrays_fill_20, kR_l, kR_r, kP_0, kP_i, kP_r, kP_n, kP_s, kP_o, kLen_I, kLen_L, kLen_R, kLdI_0, kLdI_1, kLdI_2, kLdI_3, kStI_0, kStI_1, kLdL_e, kStL_e, kLdR_e, kStR_e, kFld_e, kNth_0, kNth_s, kPut_e, fit_I, fit_Z, fit_B, fit_C, fit_A, fit_O, Option.toList_some, Option.toList_none, List.cons_append, List.nil_append, true_and, and_true, List.set_cons_zero, List.set_cons_succ, st_same, Int.toNat_natCast, Int.cast_ofNat_Int, Nat.zero_add, Nat.reduceAdd, kRcv_1, kRcv_2, kRcv_3, kRcv_0, kRcv_4, kRcv_5, h]
  have key := up (fun i => WP G k_Arrays_fill 5 [some (vR a), some (vI v), some (vI (i : Nat)), some (vI (n : Nat))] [] (am_st σ a (oI 0 n (fun j => if j < i then v else f j))) R) (n := n) ?_ ?_
  · have e : am_st σ a (oI 0 n (fun j => if j < 0 then v else f j)) = σ := st_id σ a _ (by simpa using h)
    simp only [e] at key
    all_goals ((repeat' (first | with_reducible refine And.intro ?_ ?_ | intro _)) <;> first | assumption | exact True.intro | exact key | omega | (simp only [inR] at *; omega) | with_reducible rfl | rfl | (simp; done) | (exfalso; simp_all; done) | skip)
  · intro i hi ih
    have e : upI (fun j => if j < i then v else f j) i v = fun j => if j < i + 1 then v else f j := by
      funext j
      simp only [upI_at]
      by_cases h1 : j = i
      · simp [h1]
      · by_cases h2 : j < i
        · simp [h1, h2]; omega
        · simp [h1, h2]; omega
    rw [e_Arrays_fill_5]
    simp only [e_Arrays_fill_0, e_Arrays_fill_1, e_Arrays_fill_2, e_Arrays_fill_3, e_Arrays_fill_4, e_Arrays_fill_6, e_Arrays_fill_7, e_Arrays_fill_10, e_Arrays_fill_11, e_Arrays_fill_12, e_Arrays_fill_13, e_Arrays_fill_14, e_Arrays_fill_17, e_Arrays_fill_20, kR_l, kR_r, kP_0, kP_i, kP_r, kP_n, kP_s, kP_o, kLen_I, kLen_L, kLen_R, kLdI_0, kLdI_1, kLdI_2, kLdI_3, kStI_0, kStI_1, kLdL_e, kStL_e, kLdR_e, kStR_e, kFld_e, kNth_0, kNth_s, kPut_e, fit_I, fit_Z, fit_B, fit_C, fit_A, fit_O, Option.toList_some, Option.toList_none, List.cons_append, List.nil_append, true_and, and_true, List.set_cons_zero, List.set_cons_succ, st_same, Int.toNat_natCast, Int.cast_ofNat_Int, Nat.zero_add, Nat.reduceAdd, kRcv_1, kRcv_2, kRcv_3, kRcv_0, kRcv_4, kRcv_5, st_hp, if_true, e]
    all_goals ((repeat' (first | with_reducible refine And.intro ?_ ?_ | intro _)) <;> first | assumption | exact True.intro | exact ih | omega | (simp only [inR] at *; omega) | with_reducible rfl | rfl | (simp; done) | (exfalso; simp_all; done) | skip)
  · rw [e_Arrays_fill_5]
    simp only [e_Arrays_fill_0, e_Arrays_fill_1, e_Arrays_fill_2, e_Arrays_fill_3, e_Arrays_fill_4, e_Arrays_fill_6, e_Arrays_fill_7, e_Arrays_fill_10, e_Arrays_fill_11, e_Arrays_fill_12, e_Arrays_fill_13, e_Arrays_fill_14, e_Arrays_fill_17, e_Arrays_fill_20, kR_l, kR_r, kP_0, kP_i, kP_r, kP_n, kP_s, kP_o, kLen_I, kLen_L, kLen_R, kLdI_0, kLdI_1, kLdI_2, kLdI_3, kStI_0, kStI_1, kLdL_e, kStL_e, kLdR_e, kStR_e, kFld_e, kNth_0, kNth_s, kPut_e, fit_I, fit_Z, fit_B, fit_C, fit_A, fit_O, Option.toList_some, Option.toList_none, List.cons_append, List.nil_append, true_and, and_true, List.set_cons_zero, List.set_cons_succ, st_same, Int.toNat_natCast, Int.cast_ofNat_Int, Nat.zero_add, Nat.reduceAdd, kRcv_1, kRcv_2, kRcv_3, kRcv_0, kRcv_4, kRcv_5]
    all_goals ((repeat' (first | with_reducible refine And.intro ?_ ?_ | intro _)) <;> first | assumption | exact True.intro | omega | (simp only [inR] at *; omega) | with_reducible rfl | rfl | (simp; done) | (exfalso; simp_all; done) | skip)
theorem s_Plan_addChamber {r : Nat} {x y cl rw : Int} (hP : PlanC σ P f g h c) (hg : BxOK g) (hG : G 0 ≤ P) (hr : r < 6) (hx : 0 ≤ x ∧ 0 ≤ cl ∧ x + cl ≤ 16) (hy : 0 ≤ y ∧ 0 ≤ rw ∧ y + rw ≤ 12) : CW G k_Plan_addChamber [vR P, vI (r : Nat), vI x, vI y, vI cl, vI rw] σ Q = Q (.inl none) (setP σ P (covF f x y cl r rw 0) (newBox g r x y cl rw) h c) := by
  refine CW.det' fun R hR => ?_
  simp only [c_Plan_addChamber, e_Plan_addChamber_0, e_Plan_addChamber_1, e_Plan_addChamber_4, e_Plan_addChamber_5, e_Plan_addChamber_6, e_Plan_addChamber_7, e_Plan_addChamber_8, e_Plan_addChamber_9, e_Plan_addChamber_10, e_Plan_addChamber_13, e_Plan_addChamber_14, e_Plan_addChamber_17, e_Plan_addChamber_18, e_Plan_addChamber_19, e_Plan_addChamber_20, e_Plan_addChamber_21, e_Plan_addChamber_22, e_Plan_addChamber_23, e_Plan_addChamber_26, e_Plan_addChamber_27, e_Plan_addChamber_30, e_Plan_addChamber_31, e_Plan_addChamber_32, e_Plan_addChamber_33, e_Plan_addChamber_34, e_Plan_addChamber_35, e_Plan_addChamber_37, e_Plan_addChamber_40, e_Plan_addChamber_41, e_Plan_addChamber_44, e_Plan_addChamber_45, e_Plan_addChamber_46, e_Plan_addChamber_47, e_Plan_addChamber_48, e_Plan_addChamber_49, e_Plan_addChamber_51, e_Plan_addChamber_54, e_Plan_addChamber_55, e_Plan_addChamber_56, e_Plan_addChamber_57, e_Plan_addChamber_60, kR_l, kR_r, kP_0, kP_i, kP_r, kP_n, kP_s, kP_o, kLen_I, kLen_L, kLen_R, kLdI_0, kLdI_1, kLdI_2, kLdI_3, kStI_0, kStI_1, kLdL_e, kStL_e, kLdR_e, kStR_e, kFld_e, kNth_0, kNth_s, kPut_e, fit_I, fit_Z, fit_B, fit_C, fit_A, fit_O, Option.toList_some, Option.toList_none, List.cons_append, List.nil_append, true_and, and_true, List.set_cons_zero, List.set_cons_succ, st_same, Int.toNat_natCast, Int.cast_ofNat_Int, Nat.zero_add, Nat.reduceAdd, kRcv_1, kRcv_2, kRcv_3, kRcv_0, kRcv_4, kRcv_5, hP.1]
  rw [s_Cp_put' hP.2.2.1 (by omega) (by omega) (by omega) (by omega), show ((r : Int) * 4 + 0).toNat = 4 * r by omega]
  simp only [e_Plan_addChamber_0, e_Plan_addChamber_1, e_Plan_addChamber_4, e_Plan_addChamber_5, e_Plan_addChamber_6, e_Plan_addChamber_7, e_Plan_addChamber_8, e_Plan_addChamber_9, e_Plan_addChamber_10, e_Plan_addChamber_13, e_Plan_addChamber_14, e_Plan_addChamber_17, e_Plan_addChamber_18, e_Plan_addChamber_19, e_Plan_addChamber_20, e_Plan_addChamber_21, e_Plan_addChamber_22, e_Plan_addChamber_23, e_Plan_addChamber_26, e_Plan_addChamber_27, e_Plan_addChamber_30, e_Plan_addChamber_31, e_Plan_addChamber_32, e_Plan_addChamber_33, e_Plan_addChamber_34, e_Plan_addChamber_35, e_Plan_addChamber_37, e_Plan_addChamber_40, e_Plan_addChamber_41, e_Plan_addChamber_44, e_Plan_addChamber_45, e_Plan_addChamber_46, e_Plan_addChamber_47, e_Plan_addChamber_48, e_Plan_addChamber_49, e_Plan_addChamber_51, e_Plan_addChamber_54, e_Plan_addChamber_55, e_Plan_addChamber_56, e_Plan_addChamber_57, e_Plan_addChamber_60, kR_l, kR_r, kP_0, kP_i, kP_r, kP_n, kP_s, kP_o, kLen_I, kLen_L, kLen_R, kLdI_0, kLdI_1, kLdI_2, kLdI_3, kStI_0, kStI_1, kLdL_e, kStL_e, kLdR_e, kStR_e, kFld_e, kNth_0, kNth_s, kPut_e, fit_I, fit_Z, fit_B, fit_C, fit_A, fit_O, Option.toList_some, Option.toList_none, List.cons_append, List.nil_append, true_and, and_true, List.set_cons_zero, List.set_cons_succ, st_same, Int.toNat_natCast, Int.cast_ofNat_Int, Nat.zero_add, Nat.reduceAdd, kRcv_1, kRcv_2, kRcv_3, kRcv_0, kRcv_4, kRcv_5, (hP.bx _).1]
  rw [s_Cp_put' (hP.bx _).2.2.1 (by omega) (by omega) (by omega) (by omega), show ((r : Int) * 4 + 1).toNat = 4 * r + 1 by omega]
  simp only [e_Plan_addChamber_0, e_Plan_addChamber_1, e_Plan_addChamber_4, e_Plan_addChamber_5, e_Plan_addChamber_6, e_Plan_addChamber_7, e_Plan_addChamber_8, e_Plan_addChamber_9, e_Plan_addChamber_10, e_Plan_addChamber_13, e_Plan_addChamber_14, e_Plan_addChamber_17, e_Plan_addChamber_18, e_Plan_addChamber_19, e_Plan_addChamber_20, e_Plan_addChamber_21, e_Plan_addChamber_22, e_Plan_addChamber_23, e_Plan_addChamber_26, e_Plan_addChamber_27, e_Plan_addChamber_30, e_Plan_addChamber_31, e_Plan_addChamber_32, e_Plan_addChamber_33, e_Plan_addChamber_34, e_Plan_addChamber_35, e_Plan_addChamber_37, e_Plan_addChamber_40, e_Plan_addChamber_41, e_Plan_addChamber_44, e_Plan_addChamber_45, e_Plan_addChamber_46, e_Plan_addChamber_47, e_Plan_addChamber_48, e_Plan_addChamber_49, e_Plan_addChamber_51, e_Plan_addChamber_54, e_Plan_addChamber_55, e_Plan_addChamber_56, e_Plan_addChamber_57, e_Plan_addChamber_60, kR_l, kR_r, kP_0, kP_i, kP_r, kP_n, kP_s, kP_o, kLen_I, kLen_L, kLen_R, kLdI_0, kLdI_1, kLdI_2, kLdI_3, kStI_0, kStI_1, kLdL_e, kStL_e, kLdR_e, kStR_e, kFld_e, kNth_0, kNth_s, kPut_e, fit_I, fit_Z, fit_B, fit_C, fit_A, fit_O, Option.toList_some, Option.toList_none, List.cons_append, List.nil_append, true_and, and_true, List.set_cons_zero, List.set_cons_succ, st_same, Int.toNat_natCast, Int.cast_ofNat_Int, Nat.zero_add, Nat.reduceAdd, kRcv_1, kRcv_2, kRcv_3, kRcv_0, kRcv_4, kRcv_5, (hP.bx _).1]
  rw [s_Cp_put' (hP.bx _).2.2.1 (by omega) (by omega) (by omega) (by omega), show ((r : Int) * 4 + 2).toNat = 4 * r + 2 by omega]
  simp only [e_Plan_addChamber_0, e_Plan_addChamber_1, e_Plan_addChamber_4, e_Plan_addChamber_5, e_Plan_addChamber_6, e_Plan_addChamber_7, e_Plan_addChamber_8, e_Plan_addChamber_9, e_Plan_addChamber_10, e_Plan_addChamber_13, e_Plan_addChamber_14, e_Plan_addChamber_17, e_Plan_addChamber_18, e_Plan_addChamber_19, e_Plan_addChamber_20, e_Plan_addChamber_21, e_Plan_addChamber_22, e_Plan_addChamber_23, e_Plan_addChamber_26, e_Plan_addChamber_27, e_Plan_addChamber_30, e_Plan_addChamber_31, e_Plan_addChamber_32, e_Plan_addChamber_33, e_Plan_addChamber_34, e_Plan_addChamber_35, e_Plan_addChamber_37, e_Plan_addChamber_40, e_Plan_addChamber_41, e_Plan_addChamber_44, e_Plan_addChamber_45, e_Plan_addChamber_46, e_Plan_addChamber_47, e_Plan_addChamber_48, e_Plan_addChamber_49, e_Plan_addChamber_51, e_Plan_addChamber_54, e_Plan_addChamber_55, e_Plan_addChamber_56, e_Plan_addChamber_57, e_Plan_addChamber_60, kR_l, kR_r, kP_0, kP_i, kP_r, kP_n, kP_s, kP_o, kLen_I, kLen_L, kLen_R, kLdI_0, kLdI_1, kLdI_2, kLdI_3, kStI_0, kStI_1, kLdL_e, kStL_e, kLdR_e, kStR_e, kFld_e, kNth_0, kNth_s, kPut_e, fit_I, fit_Z, fit_B, fit_C, fit_A, fit_O, Option.toList_some, Option.toList_none, List.cons_append, List.nil_append, true_and, and_true, List.set_cons_zero, List.set_cons_succ, st_same, Int.toNat_natCast, Int.cast_ofNat_Int, Nat.zero_add, Nat.reduceAdd, kRcv_1, kRcv_2, kRcv_3, kRcv_0, kRcv_4, kRcv_5, (hP.bx _).1]
  rw [s_Cp_put' (hP.bx _).2.2.1 (by omega) (by omega) (by omega) (by omega), show ((r : Int) * 4 + 3).toNat = 4 * r + 3 by omega]
  simp only [e_Plan_addChamber_0, e_Plan_addChamber_1, e_Plan_addChamber_4, e_Plan_addChamber_5, e_Plan_addChamber_6, e_Plan_addChamber_7, e_Plan_addChamber_8, e_Plan_addChamber_9, e_Plan_addChamber_10, e_Plan_addChamber_13, e_Plan_addChamber_14, e_Plan_addChamber_17, e_Plan_addChamber_18, e_Plan_addChamber_19, e_Plan_addChamber_20, e_Plan_addChamber_21, e_Plan_addChamber_22, e_Plan_addChamber_23, e_Plan_addChamber_26, e_Plan_addChamber_27, e_Plan_addChamber_30, e_Plan_addChamber_31, e_Plan_addChamber_32, e_Plan_addChamber_33, e_Plan_addChamber_34, e_Plan_addChamber_35, e_Plan_addChamber_37, e_Plan_addChamber_40, e_Plan_addChamber_41, e_Plan_addChamber_44, e_Plan_addChamber_45, e_Plan_addChamber_46, e_Plan_addChamber_47, e_Plan_addChamber_48, e_Plan_addChamber_49, e_Plan_addChamber_51, e_Plan_addChamber_54, e_Plan_addChamber_55, e_Plan_addChamber_56, e_Plan_addChamber_57, e_Plan_addChamber_60, kR_l, kR_r, kP_0, kP_i, kP_r, kP_n, kP_s, kP_o, kLen_I, kLen_L, kLen_R, kLdI_0, kLdI_1, kLdI_2, kLdI_3, kStI_0, kStI_1, kLdL_e, kStL_e, kLdR_e, kStR_e, kFld_e, kNth_0, kNth_s, kPut_e, fit_I, fit_Z, fit_B, fit_C, fit_A, fit_O, Option.toList_some, Option.toList_none, List.cons_append, List.nil_append, true_and, and_true, List.set_cons_zero, List.set_cons_succ, st_same, Int.toNat_natCast, Int.cast_ofNat_Int, Nat.zero_add, Nat.reduceAdd, kRcv_1, kRcv_2, kRcv_3, kRcv_0, kRcv_4, kRcv_5, (hP.bx _).1]
  have hg' : BxOK (newBox g r x y cl rw) := by
    intro k
    have := hg k
    unfold newBox
    simp only [upI_at]
    split
    · omega
    · split
      · omega
      · split
        · omega
        · split <;> omega
  have e0 : bxAt (newBox g r x y cl rw) r 0 = x := by
    unfold bxAt newBox
    rw [if_pos (by omega), show ((4 * (r : Int)) + 0).toNat = 4 * r by omega]
    simp only [upI_at, if_true]
    rw [if_neg (by omega), if_neg (by omega), if_neg (by omega)]
  have e1 : bxAt (newBox g r x y cl rw) r 1 = y := by
    unfold bxAt newBox
    rw [if_pos (by omega), show ((4 * (r : Int)) + 1).toNat = 4 * r + 1 by omega]
    simp only [upI_at, if_true]
    rw [if_neg (by omega), if_neg (by omega)]
  have e2 : bxAt (newBox g r x y cl rw) r 2 = cl := by
    unfold bxAt newBox
    rw [if_pos (by omega), show ((4 * (r : Int)) + 2).toNat = 4 * r + 2 by omega]
    simp only [upI_at, if_true]
    rw [if_neg (by omega)]
  have e3 : bxAt (newBox g r x y cl rw) r 3 = rw := by
    unfold bxAt newBox
    rw [if_pos (by omega), show ((4 * (r : Int)) + 3).toNat = 4 * r + 3 by omega]
    simp only [upI_at, if_true]
  have hP2 : PlanC (am_st σ (P + 2) (oI 0 24 (newBox g r x y cl rw))) P f (newBox g r x y cl rw) h c := hP.bx _
  rw [show upI (upI (upI (upI g (4 * r) x) (4 * r + 1) y) (4 * r + 2) cl) (4 * r + 3) rw = newBox g r x y cl rw from rfl]
  rw [s_Plan_coverBox hP2 hg' hG (by unfold inR; omega) (by omega) (by omega), e0, e1, e2, e3, setP_sq hP2, setP_bx hP, setP_setP]
  simp only [e_Plan_addChamber_0, e_Plan_addChamber_1, e_Plan_addChamber_4, e_Plan_addChamber_5, e_Plan_addChamber_6, e_Plan_addChamber_7, e_Plan_addChamber_8, e_Plan_addChamber_9, e_Plan_addChamber_10, e_Plan_addChamber_13, e_Plan_addChamber_14, e_Plan_addChamber_17, e_Plan_addChamber_18, e_Plan_addChamber_19, e_Plan_addChamber_20, e_Plan_addChamber_21, e_Plan_addChamber_22, e_Plan_addChamber_23, e_Plan_addChamber_26, e_Plan_addChamber_27, e_Plan_addChamber_30, e_Plan_addChamber_31, e_Plan_addChamber_32, e_Plan_addChamber_33, e_Plan_addChamber_34, e_Plan_addChamber_35, e_Plan_addChamber_37, e_Plan_addChamber_40, e_Plan_addChamber_41, e_Plan_addChamber_44, e_Plan_addChamber_45, e_Plan_addChamber_46, e_Plan_addChamber_47, e_Plan_addChamber_48, e_Plan_addChamber_49, e_Plan_addChamber_51, e_Plan_addChamber_54, e_Plan_addChamber_55, e_Plan_addChamber_56, e_Plan_addChamber_57, e_Plan_addChamber_60, kR_l, kR_r, kP_0, kP_i, kP_r, kP_n, kP_s, kP_o, kLen_I, kLen_L, kLen_R, kLdI_0, kLdI_1, kLdI_2, kLdI_3, kStI_0, kStI_1, kLdL_e, kStL_e, kLdR_e, kStR_e, kFld_e, kNth_0, kNth_s, kPut_e, fit_I, fit_Z, fit_B, fit_C, fit_A, fit_O, Option.toList_some, Option.toList_none, List.cons_append, List.nil_append, true_and, and_true, List.set_cons_zero, List.set_cons_succ, st_same, Int.toNat_natCast, Int.cast_ofNat_Int, Nat.zero_add, Nat.reduceAdd, kRcv_1, kRcv_2, kRcv_3, kRcv_0, kRcv_4, kRcv_5]
  all_goals ((repeat' (first | with_reducible refine And.intro ?_ ?_ | intro _)) <;> first | assumption | exact True.intro | omega | (simp only [inR] at *; omega) | with_reducible rfl | rfl | (simp; done) | (exfalso; simp_all; done) | skip)
theorem s_Plan_giveUp {r : Nat} (hP : PlanC σ P f g h c) (hg : BxOK g) (hh : Can h 36) (hG : G 0 ≤ P) (hr : r < 6) (hx : bxAt g r 0 + bxAt g r 2 ≤ 16) (hy : bxAt g r 1 + bxAt g r 3 ≤ 12) : CW G k_Plan_giveUp [vR P, vI (r : Nat)] σ Q = Q (.inl (some (vI (bxAt g r 2 * bxAt g r 3)))) (setP σ P (covF f (bxAt g r 0) (bxAt g r 1) (bxAt g r 2) (-1) (bxAt g r 3) 0) (noBox g r) (noWalk h r) c) := by
  refine CW.det' fun R hR => ?_
  simp (disch := first | assumption | omega | (unfold inR; omega)) only [c_Plan_giveUp, e_Plan_giveUp_0, e_Plan_giveUp_1, e_Plan_giveUp_2, e_Plan_giveUp_3, e_Plan_giveUp_6, e_Plan_giveUp_7, e_Plan_giveUp_8, e_Plan_giveUp_9, e_Plan_giveUp_12, e_Plan_giveUp_13, e_Plan_giveUp_14, e_Plan_giveUp_15, e_Plan_giveUp_16, e_Plan_giveUp_17, e_Plan_giveUp_20, e_Plan_giveUp_21, e_Plan_giveUp_23, e_Plan_giveUp_24, e_Plan_giveUp_27, e_Plan_giveUp_28, e_Plan_giveUp_31, e_Plan_giveUp_32, e_Plan_giveUp_33, e_Plan_giveUp_34, e_Plan_giveUp_35, e_Plan_giveUp_36, e_Plan_giveUp_37, e_Plan_giveUp_40, e_Plan_giveUp_43, e_Plan_giveUp_46, e_Plan_giveUp_47, e_Plan_giveUp_49, e_Plan_giveUp_51, e_Plan_giveUp_54, e_Plan_giveUp_55, e_Plan_giveUp_56, e_Plan_giveUp_57, e_Plan_giveUp_58, e_Plan_giveUp_61, e_Plan_giveUp_64, e_Plan_giveUp_67, e_Plan_giveUp_68, kR_l, kR_r, kP_0, kP_i, kP_r, kP_n, kP_s, kP_o, kLen_I, kLen_L, kLen_R, kLdI_0, kLdI_1, kLdI_2, kLdI_3, kStI_0, kStI_1, kLdL_e, kStL_e, kLdR_e, kStR_e, kFld_e, kNth_0, kNth_s, kPut_e, fit_I, fit_Z, fit_B, fit_C, fit_A, fit_O, Option.toList_some, Option.toList_none, List.cons_append, List.nil_append, true_and, and_true, List.set_cons_zero, List.set_cons_succ, st_same, Int.toNat_natCast, Int.cast_ofNat_Int, Nat.zero_add, Nat.reduceAdd, kRcv_1, kRcv_2, kRcv_3, kRcv_0, kRcv_4, kRcv_5, hP.1, s_Plan_box hP, s_Plan_coverBox hP hg hG]
  generalize covF f (bxAt g r 0) (bxAt g r 1) (bxAt g r 2) (-1) (bxAt g r 3) 0 = f1 at *
  rw [setP_sq hP]
  have k1 := up (fun i => WP G k_Plan_giveUp 22 [some (vR P), some (vI (r : Nat)), some (vI (bxAt g r 2 * bxAt g r 3)), some (vI (i : Nat))] [] (setP σ P f1 (fun k => if 4 * r ≤ k ∧ k < 4 * r + i then 0 else g k) h c) R) (n := 4) ?_ ?_
  · have e : (fun k => if 4 * r ≤ k ∧ k < 4 * r + 0 then 0 else g k) = g := by
      funext k
      rw [if_neg (by omega)]
    simp only [e] at k1
    all_goals ((repeat' (first | with_reducible refine And.intro ?_ ?_ | intro _)) <;> first | assumption | exact True.intro | exact k1 | omega | (simp only [inR] at *; omega) | with_reducible rfl | rfl | (simp; done) | (exfalso; simp_all; done) | skip)
  · intro i hi ih
    have q := setP_C σ P f1 (fun k => if 4 * r ≤ k ∧ k < 4 * r + i then 0 else g k) h c
    have e : upI (fun k => if 4 * r ≤ k ∧ k < 4 * r + i then 0 else g k) ((r : Int) * 4 + i).toNat 0 = fun k => if 4 * r ≤ k ∧ k < 4 * r + (i + 1) then 0 else g k := by
      funext k
      simp only [upI_at]
      by_cases h1 : k = ((r : Int) * 4 + i).toNat
      · rw [if_pos h1, if_pos (by omega)]
      · rw [if_neg h1]
        by_cases h2 : 4 * r ≤ k ∧ k < 4 * r + i
        · rw [if_pos h2, if_pos (by omega)]
        · rw [if_neg h2, if_neg (by omega)]
    rw [e_Plan_giveUp_22]
    simp only [e_Plan_giveUp_0, e_Plan_giveUp_1, e_Plan_giveUp_2, e_Plan_giveUp_3, e_Plan_giveUp_6, e_Plan_giveUp_7, e_Plan_giveUp_8, e_Plan_giveUp_9, e_Plan_giveUp_12, e_Plan_giveUp_13, e_Plan_giveUp_14, e_Plan_giveUp_15, e_Plan_giveUp_16, e_Plan_giveUp_17, e_Plan_giveUp_20, e_Plan_giveUp_21, e_Plan_giveUp_23, e_Plan_giveUp_24, e_Plan_giveUp_27, e_Plan_giveUp_28, e_Plan_giveUp_31, e_Plan_giveUp_32, e_Plan_giveUp_33, e_Plan_giveUp_34, e_Plan_giveUp_35, e_Plan_giveUp_36, e_Plan_giveUp_37, e_Plan_giveUp_40, e_Plan_giveUp_43, e_Plan_giveUp_46, e_Plan_giveUp_47, e_Plan_giveUp_49, e_Plan_giveUp_51, e_Plan_giveUp_54, e_Plan_giveUp_55, e_Plan_giveUp_56, e_Plan_giveUp_57, e_Plan_giveUp_58, e_Plan_giveUp_61, e_Plan_giveUp_64, e_Plan_giveUp_67, e_Plan_giveUp_68, kR_l, kR_r, kP_0, kP_i, kP_r, kP_n, kP_s, kP_o, kLen_I, kLen_L, kLen_R, kLdI_0, kLdI_1, kLdI_2, kLdI_3, kStI_0, kStI_1, kLdL_e, kStL_e, kLdR_e, kStR_e, kFld_e, kNth_0, kNth_s, kPut_e, fit_I, fit_Z, fit_B, fit_C, fit_A, fit_O, Option.toList_some, Option.toList_none, List.cons_append, List.nil_append, true_and, and_true, List.set_cons_zero, List.set_cons_succ, st_same, Int.toNat_natCast, Int.cast_ofNat_Int, Nat.zero_add, Nat.reduceAdd, kRcv_1, kRcv_2, kRcv_3, kRcv_0, kRcv_4, kRcv_5, q.1]
    rw [s_Cp_put' q.2.2.1 (by omega) (by omega) (by omega) (by omega), setP_bx q, setP_setP, e]
    simp only [e_Plan_giveUp_0, e_Plan_giveUp_1, e_Plan_giveUp_2, e_Plan_giveUp_3, e_Plan_giveUp_6, e_Plan_giveUp_7, e_Plan_giveUp_8, e_Plan_giveUp_9, e_Plan_giveUp_12, e_Plan_giveUp_13, e_Plan_giveUp_14, e_Plan_giveUp_15, e_Plan_giveUp_16, e_Plan_giveUp_17, e_Plan_giveUp_20, e_Plan_giveUp_21, e_Plan_giveUp_23, e_Plan_giveUp_24, e_Plan_giveUp_27, e_Plan_giveUp_28, e_Plan_giveUp_31, e_Plan_giveUp_32, e_Plan_giveUp_33, e_Plan_giveUp_34, e_Plan_giveUp_35, e_Plan_giveUp_36, e_Plan_giveUp_37, e_Plan_giveUp_40, e_Plan_giveUp_43, e_Plan_giveUp_46, e_Plan_giveUp_47, e_Plan_giveUp_49, e_Plan_giveUp_51, e_Plan_giveUp_54, e_Plan_giveUp_55, e_Plan_giveUp_56, e_Plan_giveUp_57, e_Plan_giveUp_58, e_Plan_giveUp_61, e_Plan_giveUp_64, e_Plan_giveUp_67, e_Plan_giveUp_68, kR_l, kR_r, kP_0, kP_i, kP_r, kP_n, kP_s, kP_o, kLen_I, kLen_L, kLen_R, kLdI_0, kLdI_1, kLdI_2, kLdI_3, kStI_0, kStI_1, kLdL_e, kStL_e, kLdR_e, kStR_e, kFld_e, kNth_0, kNth_s, kPut_e, fit_I, fit_Z, fit_B, fit_C, fit_A, fit_O, Option.toList_some, Option.toList_none, List.cons_append, List.nil_append, true_and, and_true, List.set_cons_zero, List.set_cons_succ, st_same, Int.toNat_natCast, Int.cast_ofNat_Int, Nat.zero_add, Nat.reduceAdd, kRcv_1, kRcv_2, kRcv_3, kRcv_0, kRcv_4, kRcv_5]
    all_goals ((repeat' (first | with_reducible refine And.intro ?_ ?_ | intro _)) <;> first | assumption | exact True.intro | exact ih | omega | (simp only [inR] at *; omega) | with_reducible rfl | rfl | (simp; done) | (exfalso; simp_all; done) | skip)
  · have e : (fun k => if 4 * r ≤ k ∧ k < 4 * r + 4 then 0 else g k) = noBox g r := by
      funext k
      unfold noBox
      by_cases h2 : k / 4 = r
      · rw [if_pos h2, if_pos (by omega)]
      · rw [if_neg h2, if_neg (by omega)]
    rw [e]
    have k2 := up (fun i => WP G k_Plan_giveUp 48 [some (vR P), some (vI (r : Nat)), some (vI (bxAt g r 2 * bxAt g r 3)), some (vI (i : Nat))] [] (setP σ P f1 (noBox g r) (fun k => if k < 36 ∧ ((k / 6 = r ∧ k % 6 < i) ∨ (k % 6 = r ∧ k / 6 < i)) then 0 else h k) c) R) (n := 6) ?_ ?_
    · have e : (fun k => if k < 36 ∧ ((k / 6 = r ∧ k % 6 < 0) ∨ (k % 6 = r ∧ k / 6 < 0)) then 0 else h k) = h := by
        funext k
        rw [if_neg (by omega)]
      simp only [e] at k2
      rw [e_Plan_giveUp_22]
      simp only [e_Plan_giveUp_0, e_Plan_giveUp_1, e_Plan_giveUp_2, e_Plan_giveUp_3, e_Plan_giveUp_6, e_Plan_giveUp_7, e_Plan_giveUp_8, e_Plan_giveUp_9, e_Plan_giveUp_12, e_Plan_giveUp_13, e_Plan_giveUp_14, e_Plan_giveUp_15, e_Plan_giveUp_16, e_Plan_giveUp_17, e_Plan_giveUp_20, e_Plan_giveUp_21, e_Plan_giveUp_23, e_Plan_giveUp_24, e_Plan_giveUp_27, e_Plan_giveUp_28, e_Plan_giveUp_31, e_Plan_giveUp_32, e_Plan_giveUp_33, e_Plan_giveUp_34, e_Plan_giveUp_35, e_Plan_giveUp_36, e_Plan_giveUp_37, e_Plan_giveUp_40, e_Plan_giveUp_43, e_Plan_giveUp_46, e_Plan_giveUp_47, e_Plan_giveUp_49, e_Plan_giveUp_51, e_Plan_giveUp_54, e_Plan_giveUp_55, e_Plan_giveUp_56, e_Plan_giveUp_57, e_Plan_giveUp_58, e_Plan_giveUp_61, e_Plan_giveUp_64, e_Plan_giveUp_67, e_Plan_giveUp_68, kR_l, kR_r, kP_0, kP_i, kP_r, kP_n, kP_s, kP_o, kLen_I, kLen_L, kLen_R, kLdI_0, kLdI_1, kLdI_2, kLdI_3, kStI_0, kStI_1, kLdL_e, kStL_e, kLdR_e, kStR_e, kFld_e, kNth_0, kNth_s, kPut_e, fit_I, fit_Z, fit_B, fit_C, fit_A, fit_O, Option.toList_some, Option.toList_none, List.cons_append, List.nil_append, true_and, and_true, List.set_cons_zero, List.set_cons_succ, st_same, Int.toNat_natCast, Int.cast_ofNat_Int, Nat.zero_add, Nat.reduceAdd, kRcv_1, kRcv_2, kRcv_3, kRcv_0, kRcv_4, kRcv_5]
      all_goals ((repeat' (first | with_reducible refine And.intro ?_ ?_ | intro _)) <;> first | assumption | exact True.intro | exact k2 | omega | (simp only [inR] at *; omega) | with_reducible rfl | rfl | (simp; done) | (exfalso; simp_all; done) | skip)
    · intro i hi ih
      have q := setP_C σ P f1 (noBox g r) (fun k => if k < 36 ∧ ((k / 6 = r ∧ k % 6 < i) ∨ (k % 6 = r ∧ k / 6 < i)) then 0 else h k) c
      have e : upI (upI (fun k => if k < 36 ∧ ((k / 6 = r ∧ k % 6 < i) ∨ (k % 6 = r ∧ k / 6 < i)) then 0 else h k) (6 * r + i) 0) (6 * i + r) 0 = fun k => if k < 36 ∧ ((k / 6 = r ∧ k % 6 < i + 1) ∨ (k % 6 = r ∧ k / 6 < i + 1)) then 0 else h k := by
        funext k
        simp only [upI_at]
        by_cases h1 : k = 6 * i + r
        · rw [if_pos h1, if_pos (by omega)]
        · rw [if_neg h1]
          by_cases h3 : k = 6 * r + i
          · rw [if_pos h3, if_pos (by omega)]
          · rw [if_neg h3]
            by_cases h2 : k < 36 ∧ ((k / 6 = r ∧ k % 6 < i) ∨ (k % 6 = r ∧ k / 6 < i))
            · rw [if_pos h2, if_pos (by omega)]
            · rw [if_neg h2, if_neg (by omega)]
      rw [e_Plan_giveUp_48]
      simp only [e_Plan_giveUp_0, e_Plan_giveUp_1, e_Plan_giveUp_2, e_Plan_giveUp_3, e_Plan_giveUp_6, e_Plan_giveUp_7, e_Plan_giveUp_8, e_Plan_giveUp_9, e_Plan_giveUp_12, e_Plan_giveUp_13, e_Plan_giveUp_14, e_Plan_giveUp_15, e_Plan_giveUp_16, e_Plan_giveUp_17, e_Plan_giveUp_20, e_Plan_giveUp_21, e_Plan_giveUp_23, e_Plan_giveUp_24, e_Plan_giveUp_27, e_Plan_giveUp_28, e_Plan_giveUp_31, e_Plan_giveUp_32, e_Plan_giveUp_33, e_Plan_giveUp_34, e_Plan_giveUp_35, e_Plan_giveUp_36, e_Plan_giveUp_37, e_Plan_giveUp_40, e_Plan_giveUp_43, e_Plan_giveUp_46, e_Plan_giveUp_47, e_Plan_giveUp_49, e_Plan_giveUp_51, e_Plan_giveUp_54, e_Plan_giveUp_55, e_Plan_giveUp_56, e_Plan_giveUp_57, e_Plan_giveUp_58, e_Plan_giveUp_61, e_Plan_giveUp_64, e_Plan_giveUp_67, e_Plan_giveUp_68, kR_l, kR_r, kP_0, kP_i, kP_r, kP_n, kP_s, kP_o, kLen_I, kLen_L, kLen_R, kLdI_0, kLdI_1, kLdI_2, kLdI_3, kStI_0, kStI_1, kLdL_e, kStL_e, kLdR_e, kStR_e, kFld_e, kNth_0, kNth_s, kPut_e, fit_I, fit_Z, fit_B, fit_C, fit_A, fit_O, Option.toList_some, Option.toList_none, List.cons_append, List.nil_append, true_and, and_true, List.set_cons_zero, List.set_cons_succ, st_same, Int.toNat_natCast, Int.cast_ofNat_Int, Nat.zero_add, Nat.reduceAdd, kRcv_1, kRcv_2, kRcv_3, kRcv_0, kRcv_4, kRcv_5, q.1]
      rw [s_Plan_changeWidth q hG hr hi, setP_wd q, setP_setP, e]
      simp only [e_Plan_giveUp_0, e_Plan_giveUp_1, e_Plan_giveUp_2, e_Plan_giveUp_3, e_Plan_giveUp_6, e_Plan_giveUp_7, e_Plan_giveUp_8, e_Plan_giveUp_9, e_Plan_giveUp_12, e_Plan_giveUp_13, e_Plan_giveUp_14, e_Plan_giveUp_15, e_Plan_giveUp_16, e_Plan_giveUp_17, e_Plan_giveUp_20, e_Plan_giveUp_21, e_Plan_giveUp_23, e_Plan_giveUp_24, e_Plan_giveUp_27, e_Plan_giveUp_28, e_Plan_giveUp_31, e_Plan_giveUp_32, e_Plan_giveUp_33, e_Plan_giveUp_34, e_Plan_giveUp_35, e_Plan_giveUp_36, e_Plan_giveUp_37, e_Plan_giveUp_40, e_Plan_giveUp_43, e_Plan_giveUp_46, e_Plan_giveUp_47, e_Plan_giveUp_49, e_Plan_giveUp_51, e_Plan_giveUp_54, e_Plan_giveUp_55, e_Plan_giveUp_56, e_Plan_giveUp_57, e_Plan_giveUp_58, e_Plan_giveUp_61, e_Plan_giveUp_64, e_Plan_giveUp_67, e_Plan_giveUp_68, kR_l, kR_r, kP_0, kP_i, kP_r, kP_n, kP_s, kP_o, kLen_I, kLen_L, kLen_R, kLdI_0, kLdI_1, kLdI_2, kLdI_3, kStI_0, kStI_1, kLdL_e, kStL_e, kLdR_e, kStR_e, kFld_e, kNth_0, kNth_s, kPut_e, fit_I, fit_Z, fit_B, fit_C, fit_A, fit_O, Option.toList_some, Option.toList_none, List.cons_append, List.nil_append, true_and, and_true, List.set_cons_zero, List.set_cons_succ, st_same, Int.toNat_natCast, Int.cast_ofNat_Int, Nat.zero_add, Nat.reduceAdd, kRcv_1, kRcv_2, kRcv_3, kRcv_0, kRcv_4, kRcv_5]
      all_goals ((repeat' (first | with_reducible refine And.intro ?_ ?_ | intro _)) <;> first | assumption | exact True.intro | exact ih | omega | (simp only [inR] at *; omega) | with_reducible rfl | rfl | (simp; done) | (exfalso; simp_all; done) | skip)
    · have e : (fun k => if k < 36 ∧ ((k / 6 = r ∧ k % 6 < 6) ∨ (k % 6 = r ∧ k / 6 < 6)) then 0 else h k) = noWalk h r := by
        funext k
        unfold noWalk
        by_cases h2 : k < 36 ∧ (k / 6 = r ∨ k % 6 = r)
        · rw [if_pos h2, if_pos (by omega)]
        · rw [if_neg h2, if_neg (by omega)]
      rw [e]
      rw [e_Plan_giveUp_48]
      simp only [e_Plan_giveUp_0, e_Plan_giveUp_1, e_Plan_giveUp_2, e_Plan_giveUp_3, e_Plan_giveUp_6, e_Plan_giveUp_7, e_Plan_giveUp_8, e_Plan_giveUp_9, e_Plan_giveUp_12, e_Plan_giveUp_13, e_Plan_giveUp_14, e_Plan_giveUp_15, e_Plan_giveUp_16, e_Plan_giveUp_17, e_Plan_giveUp_20, e_Plan_giveUp_21, e_Plan_giveUp_23, e_Plan_giveUp_24, e_Plan_giveUp_27, e_Plan_giveUp_28, e_Plan_giveUp_31, e_Plan_giveUp_32, e_Plan_giveUp_33, e_Plan_giveUp_34, e_Plan_giveUp_35, e_Plan_giveUp_36, e_Plan_giveUp_37, e_Plan_giveUp_40, e_Plan_giveUp_43, e_Plan_giveUp_46, e_Plan_giveUp_47, e_Plan_giveUp_49, e_Plan_giveUp_51, e_Plan_giveUp_54, e_Plan_giveUp_55, e_Plan_giveUp_56, e_Plan_giveUp_57, e_Plan_giveUp_58, e_Plan_giveUp_61, e_Plan_giveUp_64, e_Plan_giveUp_67, e_Plan_giveUp_68, kR_l, kR_r, kP_0, kP_i, kP_r, kP_n, kP_s, kP_o, kLen_I, kLen_L, kLen_R, kLdI_0, kLdI_1, kLdI_2, kLdI_3, kStI_0, kStI_1, kLdL_e, kStL_e, kLdR_e, kStR_e, kFld_e, kNth_0, kNth_s, kPut_e, fit_I, fit_Z, fit_B, fit_C, fit_A, fit_O, Option.toList_some, Option.toList_none, List.cons_append, List.nil_append, true_and, and_true, List.set_cons_zero, List.set_cons_succ, st_same, Int.toNat_natCast, Int.cast_ofNat_Int, Nat.zero_add, Nat.reduceAdd, kRcv_1, kRcv_2, kRcv_3, kRcv_0, kRcv_4, kRcv_5]
      all_goals ((repeat' (first | with_reducible refine And.intro ?_ ?_ | intro _)) <;> first | assumption | exact True.intro | omega | (simp only [inR] at *; omega) | with_reducible rfl | rfl | (simp; done) | (exfalso; simp_all; done) | skip)
end PL7
