/-! THE CLASS'S METHODS: counts; what would be -/
section CP5
variable {G : Nat → Nat} {σ : AS} {Q : (Option AV ⊕ Nat) → AS → Prop} {B kp n : Nat} {s p t : Nat → Int}
theorem th_sum : sumTo (fun r => hasB (pG s) r) 6 = sumTo (fun r => thM s r) 6 := sum_eq 6 (fun r _ => hasB_th _)
theorem o_count1 {w : Int} (hw : inR w) (h : ¬ (0 ≤ w ∧ w ≤ 8)) : CW G k_Cp_count [vR B, vI w] σ Q = Q (.inr 0) (am_th σ) := by
  refine CW.det' fun R hR => ?_
  simp only [c_Cp_count, e_Cp_count_0, e_Cp_count_1, kR_l, kR_r, kP_0, kP_i, kP_r, kP_n, kP_s, kP_o, kLen_I, kLen_L, kLen_R, kLdI_0, kLdI_1, kLdI_2, kLdI_3, kStI_0, kStI_1, kLdL_e, kStL_e, kLdR_e, kStR_e, kFld_e, kNth_0, kNth_s, kPut_e, fit_I, fit_Z, fit_B, fit_C, fit_A, fit_O, Option.toList_some, Option.toList_none, List.cons_append, List.nil_append, true_and, and_true, List.set_cons_zero, List.set_cons_succ, st_same, Int.toNat_natCast, Int.cast_ofNat_Int, Nat.zero_add, Nat.reduceAdd, kRcv_1, kRcv_2, kRcv_3, kRcv_0, kRcv_4, kRcv_5]
  refine ⟨hw, ?_⟩
  rw [tw_d (by omega), show am_tgt 1 134 = 135 from by decide]
  simp only [e_Cp_count_135, kR_l, kR_r, kP_0, kP_i, kP_r, kP_n, kP_s, kP_o, kLen_I, kLen_L, kLen_R, kLdI_0, kLdI_1, kLdI_2, kLdI_3, kStI_0, kStI_1, kLdL_e, kStL_e, kLdR_e, kStR_e, kFld_e, kNth_0, kNth_s, kPut_e, fit_I, fit_Z, fit_B, fit_C, fit_A, fit_O, Option.toList_some, Option.toList_none, List.cons_append, List.nil_append, true_and, and_true, List.set_cons_zero, List.set_cons_succ, st_same, Int.toNat_natCast, Int.cast_ofNat_Int, Nat.zero_add, Nat.reduceAdd, kRcv_1, kRcv_2, kRcv_3, kRcv_0, kRcv_4, kRcv_5]
  exact hR
theorem o_count0 {w far : Nat} (hC : ClsI G σ B s kp p n t) (hI : GdI s kp p n t) (hG : G 0 ≤ B) (hfar : s 252 = (far : Nat)) (hw : w < 9)
    (hQ : ∀ σ' : AS, ClsI G σ' B s kp p n t → FrB B (B + 46) σ σ' → Q (.inl (some (vI (cnM s far kp w)))) σ') :
    CW G k_Cp_count [vR B, vI (w : Nat)] σ Q := by
  have hB : σ.1 B = _ := hC.1
  have hgd := hI.1.2.2.1
  have q0 := hQ σ hC (FrB.refl _ _ _)
  obtain ⟨m, A, hy⟩ := hC.2.2.2.2.2.1
  have hyr := WyI.obj hy
  obtain ⟨nx, -, -, hV, -⟩ := hC.2.2.2.1
  simp only [c_Cp_count, e_Cp_count_0, e_Cp_count_1, kR_l, kR_r, kP_0, kP_i, kP_r, kP_n, kP_s, kP_o, kLen_I, kLen_L, kLen_R, kLdI_0, kLdI_1, kLdI_2, kLdI_3, kStI_0, kStI_1, kLdL_e, kStL_e, kLdR_e, kStR_e, kFld_e, kNth_0, kNth_s, kPut_e, fit_I, fit_Z, fit_B, fit_C, fit_A, fit_O, Option.toList_some, Option.toList_none, List.cons_append, List.nil_append, true_and, and_true, List.set_cons_zero, List.set_cons_succ, st_same, Int.toNat_natCast, Int.cast_ofNat_Int, Nat.zero_add, Nat.reduceAdd, kRcv_1, kRcv_2, kRcv_3, kRcv_0, kRcv_4, kRcv_5]
  refine ⟨by unfold inR; omega, ?_⟩
  rcases (show w = 0 ∨ w = 1 ∨ w = 2 ∨ w = 3 ∨ w = 4 ∨ w = 5 ∨ w = 6 ∨ w = 7 ∨ w = 8 by omega) with rfl | rfl | rfl | rfl | rfl | rfl | rfl | rfl | rfl
  · have q1 : Q (.inl (some (vI (sumTo (fun r => thM s r) 6)))) σ := q0
    clear hQ q0
    rw [show am_tsw 1 134 0 8 [51, 59, 68, 78, 86, 98, 106, 114, 126] ((0 : Nat) : Int) = 52 from by decide]
    simp only [e_Cp_count_52, e_Cp_count_53, e_Cp_count_56, kR_l, kR_r, kP_0, kP_i, kP_r, kP_n, kP_s, kP_o, kLen_I, kLen_L, kLen_R, kLdI_0, kLdI_1, kLdI_2, kLdI_3, kStI_0, kStI_1, kLdL_e, kStL_e, kLdR_e, kStR_e, kFld_e, kNth_0, kNth_s, kPut_e, fit_I, fit_Z, fit_B, fit_C, fit_A, fit_O, Option.toList_some, Option.toList_none, List.cons_append, List.nil_append, true_and, and_true, List.set_cons_zero, List.set_cons_succ, st_same, Int.toNat_natCast, Int.cast_ofNat_Int, Nat.zero_add, Nat.reduceAdd, kRcv_1, kRcv_2, kRcv_3, kRcv_0, kRcv_4, kRcv_5, hB, hC.2.1.1]
    rw [s_Plan_chambers hC.2.1 hI.1.bx, th_sum]
    simp only [e_Cp_count_59, kR_l, kR_r, kP_0, kP_i, kP_r, kP_n, kP_s, kP_o, kLen_I, kLen_L, kLen_R, kLdI_0, kLdI_1, kLdI_2, kLdI_3, kStI_0, kStI_1, kLdL_e, kStL_e, kLdR_e, kStR_e, kFld_e, kNth_0, kNth_s, kPut_e, fit_I, fit_Z, fit_B, fit_C, fit_A, fit_O, Option.toList_some, Option.toList_none, List.cons_append, List.nil_append, true_and, and_true, List.set_cons_zero, List.set_cons_succ, st_same, Int.toNat_natCast, Int.cast_ofNat_Int, Nat.zero_add, Nat.reduceAdd, kRcv_1, kRcv_2, kRcv_3, kRcv_0, kRcv_4, kRcv_5]
    first | exact q1 | exact ⟨trivial, q1⟩ | exact ⟨by simp, q1⟩
  · have q1 : Q (.inl (some (vI (sqC s (-1))))) σ := q0
    clear hQ q0
    rw [show am_tsw 1 134 0 8 [51, 59, 68, 78, 86, 98, 106, 114, 126] ((1 : Nat) : Int) = 60 from by decide]
    simp only [e_Cp_count_60, e_Cp_count_61, e_Cp_count_64, e_Cp_count_65, kR_l, kR_r, kP_0, kP_i, kP_r, kP_n, kP_s, kP_o, kLen_I, kLen_L, kLen_R, kLdI_0, kLdI_1, kLdI_2, kLdI_3, kStI_0, kStI_1, kLdL_e, kStL_e, kLdR_e, kStR_e, kFld_e, kNth_0, kNth_s, kPut_e, fit_I, fit_Z, fit_B, fit_C, fit_A, fit_O, Option.toList_some, Option.toList_none, List.cons_append, List.nil_append, true_and, and_true, List.set_cons_zero, List.set_cons_succ, st_same, Int.toNat_natCast, Int.cast_ofNat_Int, Nat.zero_add, Nat.reduceAdd, kRcv_1, kRcv_2, kRcv_3, kRcv_0, kRcv_4, kRcv_5, hB, hC.2.1.1]
    rw [s_Plan_squaresThatAre hC.2.1 hI.1.sq (by unfold inR; omega), sq_cnt]
    simp only [e_Cp_count_68, kR_l, kR_r, kP_0, kP_i, kP_r, kP_n, kP_s, kP_o, kLen_I, kLen_L, kLen_R, kLdI_0, kLdI_1, kLdI_2, kLdI_3, kStI_0, kStI_1, kLdL_e, kStL_e, kLdR_e, kStR_e, kFld_e, kNth_0, kNth_s, kPut_e, fit_I, fit_Z, fit_B, fit_C, fit_A, fit_O, Option.toList_some, Option.toList_none, List.cons_append, List.nil_append, true_and, and_true, List.set_cons_zero, List.set_cons_succ, st_same, Int.toNat_natCast, Int.cast_ofNat_Int, Nat.zero_add, Nat.reduceAdd, kRcv_1, kRcv_2, kRcv_3, kRcv_0, kRcv_4, kRcv_5]
    first | exact q1 | exact ⟨trivial, q1⟩ | exact ⟨by simp, q1⟩
  · have q1 : Q (.inl (some (vI (sqC s (-2))))) σ := q0
    clear hQ q0
    rw [show am_tsw 1 134 0 8 [51, 59, 68, 78, 86, 98, 106, 114, 126] ((2 : Nat) : Int) = 69 from by decide]
    simp only [e_Cp_count_69, e_Cp_count_70, e_Cp_count_73, e_Cp_count_75, kR_l, kR_r, kP_0, kP_i, kP_r, kP_n, kP_s, kP_o, kLen_I, kLen_L, kLen_R, kLdI_0, kLdI_1, kLdI_2, kLdI_3, kStI_0, kStI_1, kLdL_e, kStL_e, kLdR_e, kStR_e, kFld_e, kNth_0, kNth_s, kPut_e, fit_I, fit_Z, fit_B, fit_C, fit_A, fit_O, Option.toList_some, Option.toList_none, List.cons_append, List.nil_append, true_and, and_true, List.set_cons_zero, List.set_cons_succ, st_same, Int.toNat_natCast, Int.cast_ofNat_Int, Nat.zero_add, Nat.reduceAdd, kRcv_1, kRcv_2, kRcv_3, kRcv_0, kRcv_4, kRcv_5, hB, hC.2.1.1]
    rw [s_Plan_squaresThatAre hC.2.1 hI.1.sq (by unfold inR; omega), sq_cnt]
    simp only [e_Cp_count_78, kR_l, kR_r, kP_0, kP_i, kP_r, kP_n, kP_s, kP_o, kLen_I, kLen_L, kLen_R, kLdI_0, kLdI_1, kLdI_2, kLdI_3, kStI_0, kStI_1, kLdL_e, kStL_e, kLdR_e, kStR_e, kFld_e, kNth_0, kNth_s, kPut_e, fit_I, fit_Z, fit_B, fit_C, fit_A, fit_O, Option.toList_some, Option.toList_none, List.cons_append, List.nil_append, true_and, and_true, List.set_cons_zero, List.set_cons_succ, st_same, Int.toNat_natCast, Int.cast_ofNat_Int, Nat.zero_add, Nat.reduceAdd, kRcv_1, kRcv_2, kRcv_3, kRcv_0, kRcv_4, kRcv_5]
    first | exact q1 | exact ⟨trivial, q1⟩ | exact ⟨by simp, q1⟩
  · have q1 : Q (.inl (some (vI (prM s 0)))) σ := q0
    clear hQ q0
    rw [show am_tsw 1 134 0 8 [51, 59, 68, 78, 86, 98, 106, 114, 126] ((3 : Nat) : Int) = 79 from by decide]
    simp only [e_Cp_count_79, e_Cp_count_80, e_Cp_count_83, kR_l, kR_r, kP_0, kP_i, kP_r, kP_n, kP_s, kP_o, kLen_I, kLen_L, kLen_R, kLdI_0, kLdI_1, kLdI_2, kLdI_3, kStI_0, kStI_1, kLdL_e, kStL_e, kLdR_e, kStR_e, kFld_e, kNth_0, kNth_s, kPut_e, fit_I, fit_Z, fit_B, fit_C, fit_A, fit_O, Option.toList_some, Option.toList_none, List.cons_append, List.nil_append, true_and, and_true, List.set_cons_zero, List.set_cons_succ, st_same, Int.toNat_natCast, Int.cast_ofNat_Int, Nat.zero_add, Nat.reduceAdd, kRcv_1, kRcv_2, kRcv_3, kRcv_0, kRcv_4, kRcv_5, hB, hC.2.1.1]
    rw [s_Plan_walkedPairs hC.2.1 hI.1.wd, pr_0]
    simp only [e_Cp_count_86, kR_l, kR_r, kP_0, kP_i, kP_r, kP_n, kP_s, kP_o, kLen_I, kLen_L, kLen_R, kLdI_0, kLdI_1, kLdI_2, kLdI_3, kStI_0, kStI_1, kLdL_e, kStL_e, kLdR_e, kStR_e, kFld_e, kNth_0, kNth_s, kPut_e, fit_I, fit_Z, fit_B, fit_C, fit_A, fit_O, Option.toList_some, Option.toList_none, List.cons_append, List.nil_append, true_and, and_true, List.set_cons_zero, List.set_cons_succ, st_same, Int.toNat_natCast, Int.cast_ofNat_Int, Nat.zero_add, Nat.reduceAdd, kRcv_1, kRcv_2, kRcv_3, kRcv_0, kRcv_4, kRcv_5]
    first | exact q1 | exact ⟨trivial, q1⟩ | exact ⟨by simp, q1⟩
  · have hQ1 : ∀ σ' : AS, ClsI G σ' B s kp p n t → FrB B (B + 46) σ σ' → Q (.inl (some (vI (prM s 1)))) σ' := hQ
    clear hQ q0
    rw [show am_tsw 1 134 0 8 [51, 59, 68, 78, 86, 98, 106, 114, 126] ((4 : Nat) : Int) = 87 from by decide]
    simp only [e_Cp_count_87, e_Cp_count_88, e_Cp_count_91, e_Cp_count_92, e_Cp_count_95, kR_l, kR_r, kP_0, kP_i, kP_r, kP_n, kP_s, kP_o, kLen_I, kLen_L, kLen_R, kLdI_0, kLdI_1, kLdI_2, kLdI_3, kStI_0, kStI_1, kLdL_e, kStL_e, kLdR_e, kStR_e, kFld_e, kNth_0, kNth_s, kPut_e, fit_I, fit_Z, fit_B, fit_C, fit_A, fit_O, Option.toList_some, Option.toList_none, List.cons_append, List.nil_append, true_and, and_true, List.set_cons_zero, List.set_cons_succ, st_same, Int.toNat_natCast, Int.cast_ofNat_Int, Nat.zero_add, Nat.reduceAdd, kRcv_1, kRcv_2, kRcv_3, kRcv_0, kRcv_4, kRcv_5, hB, hyr]
    refine way_id hy (w_closedPairs hC.2.1 (by omega) (by omega) hI.1 (fun m' A' => ?_))
    have q1 := hQ1 _ (hC.way hG m' A') ((setWy_fr _ _ _ _).wide (by omega) (by omega))
    clear hQ1
    simp only [e_Cp_count_98, kR_l, kR_r, kP_0, kP_i, kP_r, kP_n, kP_s, kP_o, kLen_I, kLen_L, kLen_R, kLdI_0, kLdI_1, kLdI_2, kLdI_3, kStI_0, kStI_1, kLdL_e, kStL_e, kLdR_e, kStR_e, kFld_e, kNth_0, kNth_s, kPut_e, fit_I, fit_Z, fit_B, fit_C, fit_A, fit_O, Option.toList_some, Option.toList_none, List.cons_append, List.nil_append, true_and, and_true, List.set_cons_zero, List.set_cons_succ, st_same, Int.toNat_natCast, Int.cast_ofNat_Int, Nat.zero_add, Nat.reduceAdd, kRcv_1, kRcv_2, kRcv_3, kRcv_0, kRcv_4, kRcv_5]
    first | exact q1 | exact ⟨trivial, q1⟩ | exact ⟨by simp, q1⟩
  · have q1 : Q (.inl (some (vI (alM s far 0)))) σ := q0
    clear hQ q0
    rw [show am_tsw 1 134 0 8 [51, 59, 68, 78, 86, 98, 106, 114, 126] ((5 : Nat) : Int) = 99 from by decide]
    simp only [e_Cp_count_99, e_Cp_count_100, e_Cp_count_103, kR_l, kR_r, kP_0, kP_i, kP_r, kP_n, kP_s, kP_o, kLen_I, kLen_L, kLen_R, kLdI_0, kLdI_1, kLdI_2, kLdI_3, kStI_0, kStI_1, kLdL_e, kStL_e, kLdR_e, kStR_e, kFld_e, kNth_0, kNth_s, kPut_e, fit_I, fit_Z, fit_B, fit_C, fit_A, fit_O, Option.toList_some, Option.toList_none, List.cons_append, List.nil_append, true_and, and_true, List.set_cons_zero, List.set_cons_succ, st_same, Int.toNat_natCast, Int.cast_ofNat_Int, Nat.zero_add, Nat.reduceAdd, kRcv_1, kRcv_2, kRcv_3, kRcv_0, kRcv_4, kRcv_5, hB, hC.2.1.1]
    rw [s_Plan_doors hC.2.2.2.2.2.2.1 hC.2.1 hI.1.sq, dsAll_eq hI.1 far]
    simp only [e_Cp_count_106, kR_l, kR_r, kP_0, kP_i, kP_r, kP_n, kP_s, kP_o, kLen_I, kLen_L, kLen_R, kLdI_0, kLdI_1, kLdI_2, kLdI_3, kStI_0, kStI_1, kLdL_e, kStL_e, kLdR_e, kStR_e, kFld_e, kNth_0, kNth_s, kPut_e, fit_I, fit_Z, fit_B, fit_C, fit_A, fit_O, Option.toList_some, Option.toList_none, List.cons_append, List.nil_append, true_and, and_true, List.set_cons_zero, List.set_cons_succ, st_same, Int.toNat_natCast, Int.cast_ofNat_Int, Nat.zero_add, Nat.reduceAdd, kRcv_1, kRcv_2, kRcv_3, kRcv_0, kRcv_4, kRcv_5]
    first | exact q1 | exact ⟨trivial, q1⟩ | exact ⟨by simp, q1⟩
  · have q1 : Q (.inl (some (vI (alM s far 1 / 2)))) σ := q0
    clear hQ q0
    rw [show am_tsw 1 134 0 8 [51, 59, 68, 78, 86, 98, 106, 114, 126] ((6 : Nat) : Int) = 107 from by decide]
    simp only [e_Cp_count_107, e_Cp_count_108, e_Cp_count_111, kR_l, kR_r, kP_0, kP_i, kP_r, kP_n, kP_s, kP_o, kLen_I, kLen_L, kLen_R, kLdI_0, kLdI_1, kLdI_2, kLdI_3, kStI_0, kStI_1, kLdL_e, kStL_e, kLdR_e, kStR_e, kFld_e, kNth_0, kNth_s, kPut_e, fit_I, fit_Z, fit_B, fit_C, fit_A, fit_O, Option.toList_some, Option.toList_none, List.cons_append, List.nil_append, true_and, and_true, List.set_cons_zero, List.set_cons_succ, st_same, Int.toNat_natCast, Int.cast_ofNat_Int, Nat.zero_add, Nat.reduceAdd, kRcv_1, kRcv_2, kRcv_3, kRcv_0, kRcv_4, kRcv_5, hB, hC.2.1.1]
    rw [s_Plan_facingPairs hC.2.2.2.2.2.2.1 hC.2.1 hI.1.sq hI.1.bx hfar (by omega), facing_eq hI.1 far]
    simp only [e_Cp_count_114, kR_l, kR_r, kP_0, kP_i, kP_r, kP_n, kP_s, kP_o, kLen_I, kLen_L, kLen_R, kLdI_0, kLdI_1, kLdI_2, kLdI_3, kStI_0, kStI_1, kLdL_e, kStL_e, kLdR_e, kStR_e, kFld_e, kNth_0, kNth_s, kPut_e, fit_I, fit_Z, fit_B, fit_C, fit_A, fit_O, Option.toList_some, Option.toList_none, List.cons_append, List.nil_append, true_and, and_true, List.set_cons_zero, List.set_cons_succ, st_same, Int.toNat_natCast, Int.cast_ofNat_Int, Nat.zero_add, Nat.reduceAdd, kRcv_1, kRcv_2, kRcv_3, kRcv_0, kRcv_4, kRcv_5]
    first | exact q1 | exact ⟨trivial, q1⟩ | exact ⟨by simp, q1⟩
  · have hQ1 : ∀ σ' : AS, ClsI G σ' B s kp p n t → FrB B (B + 46) σ σ' → Q (.inl (some (vI (prM s 2)))) σ' := hQ
    clear hQ q0
    rw [show am_tsw 1 134 0 8 [51, 59, 68, 78, 86, 98, 106, 114, 126] ((7 : Nat) : Int) = 115 from by decide]
    simp only [e_Cp_count_115, e_Cp_count_116, e_Cp_count_119, e_Cp_count_120, e_Cp_count_123, kR_l, kR_r, kP_0, kP_i, kP_r, kP_n, kP_s, kP_o, kLen_I, kLen_L, kLen_R, kLdI_0, kLdI_1, kLdI_2, kLdI_3, kStI_0, kStI_1, kLdL_e, kStL_e, kLdR_e, kStR_e, kFld_e, kNth_0, kNth_s, kPut_e, fit_I, fit_Z, fit_B, fit_C, fit_A, fit_O, Option.toList_some, Option.toList_none, List.cons_append, List.nil_append, true_and, and_true, List.set_cons_zero, List.set_cons_succ, st_same, Int.toNat_natCast, Int.cast_ofNat_Int, Nat.zero_add, Nat.reduceAdd, kRcv_1, kRcv_2, kRcv_3, kRcv_0, kRcv_4, kRcv_5, hB, hyr]
    refine way_id hy (w_missingCost hC.2.1 (by omega) (by omega) hI.1 (fun m' A' => ?_))
    have q1 := hQ1 _ (hC.way hG m' A') ((setWy_fr _ _ _ _).wide (by omega) (by omega))
    clear hQ1
    simp only [e_Cp_count_126, kR_l, kR_r, kP_0, kP_i, kP_r, kP_n, kP_s, kP_o, kLen_I, kLen_L, kLen_R, kLdI_0, kLdI_1, kLdI_2, kLdI_3, kStI_0, kStI_1, kLdL_e, kStL_e, kLdR_e, kStR_e, kFld_e, kNth_0, kNth_s, kPut_e, fit_I, fit_Z, fit_B, fit_C, fit_A, fit_O, Option.toList_some, Option.toList_none, List.cons_append, List.nil_append, true_and, and_true, List.set_cons_zero, List.set_cons_succ, st_same, Int.toNat_natCast, Int.cast_ofNat_Int, Nat.zero_add, Nat.reduceAdd, kRcv_1, kRcv_2, kRcv_3, kRcv_0, kRcv_4, kRcv_5]
    first | exact q1 | exact ⟨trivial, q1⟩ | exact ⟨by simp, q1⟩
  · have q1 : Q (.inl (some (vI (kp : Nat)))) σ := q0
    clear hQ q0
    rw [show am_tsw 1 134 0 8 [51, 59, 68, 78, 86, 98, 106, 114, 126] ((8 : Nat) : Int) = 127 from by decide]
    simp only [e_Cp_count_127, e_Cp_count_128, e_Cp_count_131, kR_l, kR_r, kP_0, kP_i, kP_r, kP_n, kP_s, kP_o, kLen_I, kLen_L, kLen_R, kLdI_0, kLdI_1, kLdI_2, kLdI_3, kStI_0, kStI_1, kLdL_e, kStL_e, kLdR_e, kStR_e, kFld_e, kNth_0, kNth_s, kPut_e, fit_I, fit_Z, fit_B, fit_C, fit_A, fit_O, Option.toList_some, Option.toList_none, List.cons_append, List.nil_append, true_and, and_true, List.set_cons_zero, List.set_cons_succ, st_same, Int.toNat_natCast, Int.cast_ofNat_Int, Nat.zero_add, Nat.reduceAdd, kRcv_1, kRcv_2, kRcv_3, kRcv_0, kRcv_4, kRcv_5, hB, hV]
    rw [s_Saved_size hV]
    simp only [e_Cp_count_134, kR_l, kR_r, kP_0, kP_i, kP_r, kP_n, kP_s, kP_o, kLen_I, kLen_L, kLen_R, kLdI_0, kLdI_1, kLdI_2, kLdI_3, kStI_0, kStI_1, kLdL_e, kStL_e, kLdR_e, kStR_e, kFld_e, kNth_0, kNth_s, kPut_e, fit_I, fit_Z, fit_B, fit_C, fit_A, fit_O, Option.toList_some, Option.toList_none, List.cons_append, List.nil_append, true_and, and_true, List.set_cons_zero, List.set_cons_succ, st_same, Int.toNat_natCast, Int.cast_ofNat_Int, Nat.zero_add, Nat.reduceAdd, kRcv_1, kRcv_2, kRcv_3, kRcv_0, kRcv_4, kRcv_5]
    first | exact q1 | exact ⟨trivial, q1⟩ | exact ⟨by simp, q1⟩
theorem o_ifDug1 {x y w : Int} (hx : inR x) (hy : inR y) (hw : inR w) (h : ¬ ((0 ≤ x ∧ x ≤ 15 ∧ 0 ≤ y ∧ y ≤ 11) ∧ 0 ≤ w ∧ w ≤ 2)) : CW G k_Cp_ifDug [vR B, vI x, vI y, vI w] σ Q = Q (.inr 0) (am_th σ) := by
  refine CW.det' fun R hR => ?_
  simp only [c_Cp_ifDug, e_Cp_ifDug_0, e_Cp_ifDug_1, e_Cp_ifDug_2, kR_l, kR_r, kP_0, kP_i, kP_r, kP_n, kP_s, kP_o, kLen_I, kLen_L, kLen_R, kLdI_0, kLdI_1, kLdI_2, kLdI_3, kStI_0, kStI_1, kLdL_e, kStL_e, kLdR_e, kStR_e, kFld_e, kNth_0, kNth_s, kPut_e, fit_I, fit_Z, fit_B, fit_C, fit_A, fit_O, Option.toList_some, Option.toList_none, List.cons_append, List.nil_append, true_and, and_true, List.set_cons_zero, List.set_cons_succ, st_same, Int.toNat_natCast, Int.cast_ofNat_Int, Nat.zero_add, Nat.reduceAdd, kRcv_1, kRcv_2, kRcv_3, kRcv_0, kRcv_4, kRcv_5]
  by_cases c : 0 ≤ x ∧ x ≤ 15 ∧ 0 ≤ y ∧ y ≤ 11
  · rw [q_Sq0 hx hy c]
    simp only [e_Cp_ifDug_5, e_Cp_ifDug_6, e_Cp_ifDug_9, e_Cp_ifDug_10, e_Cp_ifDug_11, e_Cp_ifDug_14, kR_l, kR_r, kP_0, kP_i, kP_r, kP_n, kP_s, kP_o, kLen_I, kLen_L, kLen_R, kLdI_0, kLdI_1, kLdI_2, kLdI_3, kStI_0, kStI_1, kLdL_e, kStL_e, kLdR_e, kStR_e, kFld_e, kNth_0, kNth_s, kPut_e, fit_I, fit_Z, fit_B, fit_C, fit_A, fit_O, Option.toList_some, Option.toList_none, List.cons_append, List.nil_append, true_and, and_true, List.set_cons_zero, List.set_cons_succ, st_same, Int.toNat_natCast, Int.cast_ofNat_Int, Nat.zero_add, Nat.reduceAdd, kRcv_1, kRcv_2, kRcv_3, kRcv_0, kRcv_4, kRcv_5]
    all_goals ((repeat' (first | with_reducible refine And.intro ?_ ?_ | intro _)) <;> first | with_reducible assumption | exact True.intro | with_reducible exact hR | omega | (simp only [inR] at *; omega) | exact hR | with_reducible rfl | rfl | (simp; done) | (exfalso; simp_all; done) | skip)
  · rw [q_Sq1 hx hy c]
    exact hR
/-- the plan copied to try on -/
theorem v_copy (hC : ClsI G σ B s kp p n t) (hG : G 0 ≤ B) : CW G k_Plan_copyFrom [vR (B + 5), vR (B + 1)] σ Q = Q (.inl none) (setPs σ (B + 5) s) := by
  obtain ⟨f, g, h, c, x1, x2, x3, x4⟩ := hC.2.2.1
  exact s_Plan_copyFrom x1 hC.2.1 (by omega) (by omega) x2 x3 x4 (pF_can s) (pG_can s) (pH_can s)
theorem o_ifDug0 {x y w far : Nat} (hC : ClsI G σ B s kp p n t) (hI : GdI s kp p n t) (hG : G 0 ≤ B) (hfar : s 252 = (far : Nat)) (hx : x < 16) (hy : y < 12) (hw : w < 3)
    (hQ : ∀ σ' : AS, ClsI G σ' B s kp p n t → FrB B (B + 46) σ σ' → Q (.inl (some (vI (dgbM s far (16 * y + x) w)))) σ') :
    CW G k_Cp_ifDug [vR B, vI (x : Nat), vI (y : Nat), vI (w : Nat)] σ Q := by
  have hB : σ.1 B = _ := hC.1
  have hgd := hI.1.2.2.1
  have hs := hI.1.2.2.2.2.1 (16 * y + x) (by omega)
  simp only [c_Cp_ifDug, e_Cp_ifDug_0, e_Cp_ifDug_1, e_Cp_ifDug_2, kR_l, kR_r, kP_0, kP_i, kP_r, kP_n, kP_s, kP_o, kLen_I, kLen_L, kLen_R, kLdI_0, kLdI_1, kLdI_2, kLdI_3, kStI_0, kStI_1, kLdL_e, kStL_e, kLdR_e, kStR_e, kFld_e, kNth_0, kNth_s, kPut_e, fit_I, fit_Z, fit_B, fit_C, fit_A, fit_O, Option.toList_some, Option.toList_none, List.cons_append, List.nil_append, true_and, and_true, List.set_cons_zero, List.set_cons_succ, st_same, Int.toNat_natCast, Int.cast_ofNat_Int, Nat.zero_add, Nat.reduceAdd, kRcv_1, kRcv_2, kRcv_3, kRcv_0, kRcv_4, kRcv_5]
  rw [q_Sq0 (by unfold inR; omega) (by unfold inR; omega) (by omega)]
  simp only [e_Cp_ifDug_5, e_Cp_ifDug_6, e_Cp_ifDug_9, e_Cp_ifDug_10, e_Cp_ifDug_11, e_Cp_ifDug_24, e_Cp_ifDug_25, e_Cp_ifDug_28, e_Cp_ifDug_29, e_Cp_ifDug_30, kR_l, kR_r, kP_0, kP_i, kP_r, kP_n, kP_s, kP_o, kLen_I, kLen_L, kLen_R, kLdI_0, kLdI_1, kLdI_2, kLdI_3, kStI_0, kStI_1, kLdL_e, kStL_e, kLdR_e, kStR_e, kFld_e, kNth_0, kNth_s, kPut_e, fit_I, fit_Z, fit_B, fit_C, fit_A, fit_O, Option.toList_some, Option.toList_none, List.cons_append, List.nil_append, true_and, and_true, List.set_cons_zero, List.set_cons_succ, st_same, Int.toNat_natCast, Int.cast_ofNat_Int, Nat.zero_add, Nat.reduceAdd, kRcv_1, kRcv_2, kRcv_3, kRcv_0, kRcv_4, kRcv_5, hB, hC.2.1.1]
  refine ⟨by unfold inR; omega, (fun h => by first | exact absurd h (by omega) | exact absurd trivial h | (exfalso; simp_all; done)), fun _ => ⟨⟨by unfold inR; omega, by unfold inR; omega⟩, fun _ => ?_, (fun h => by first | exact absurd h (by omega) | exact absurd trivial h | (exfalso; simp_all; done))⟩⟩
  rw [s_Plan_squareAt hC.2.1 (by unfold inR; omega) (by unfold inR; omega), xy_sq hx hy]
  unfold dgbM at hQ
  simp only [e_Cp_ifDug_33, kR_l, kR_r, kP_0, kP_i, kP_r, kP_n, kP_s, kP_o, kLen_I, kLen_L, kLen_R, kLdI_0, kLdI_1, kLdI_2, kLdI_3, kStI_0, kStI_1, kLdL_e, kStL_e, kLdR_e, kStR_e, kFld_e, kNth_0, kNth_s, kPut_e, fit_I, fit_Z, fit_B, fit_C, fit_A, fit_O, Option.toList_some, Option.toList_none, List.cons_append, List.nil_append, true_and, and_true, List.set_cons_zero, List.set_cons_succ, st_same, Int.toNat_natCast, Int.cast_ofNat_Int, Nat.zero_add, Nat.reduceAdd, kRcv_1, kRcv_2, kRcv_3, kRcv_0, kRcv_4, kRcv_5]
  refine ⟨by unfold inR; omega, fun c => ?_, fun c => ?_⟩
  · rw [if_neg (by omega)] at hQ
    have hp := tg_p (s := s) (p := 16 * y + x) (by omega)
    have hg' := hI.1.tg (p := 16 * y + x) (by omega) c
    simp only [e_Cp_ifDug_38, e_Cp_ifDug_39, e_Cp_ifDug_42, e_Cp_ifDug_43, e_Cp_ifDug_46, kR_l, kR_r, kP_0, kP_i, kP_r, kP_n, kP_s, kP_o, kLen_I, kLen_L, kLen_R, kLdI_0, kLdI_1, kLdI_2, kLdI_3, kStI_0, kStI_1, kLdL_e, kStL_e, kLdR_e, kStR_e, kFld_e, kNth_0, kNth_s, kPut_e, fit_I, fit_Z, fit_B, fit_C, fit_A, fit_O, Option.toList_some, Option.toList_none, List.cons_append, List.nil_append, true_and, and_true, List.set_cons_zero, List.set_cons_succ, st_same, Int.toNat_natCast, Int.cast_ofNat_Int, Nat.zero_add, Nat.reduceAdd, kRcv_1, kRcv_2, kRcv_3, kRcv_0, kRcv_4, kRcv_5, hB, hC.2.1.1]
    obtain ⟨f, g, h, c9, x1, x2⟩ := hC.2.2.1
    simp only [x1.1, kR_l, kR_r, kP_0, kP_i, kP_r, kP_n, kP_s, kP_o, kLen_I, kLen_L, kLen_R, kLdI_0, kLdI_1, kLdI_2, kLdI_3, kStI_0, kStI_1, kLdL_e, kStL_e, kLdR_e, kStR_e, kFld_e, kNth_0, kNth_s, kPut_e, fit_I, fit_Z, fit_B, fit_C, fit_A, fit_O, Option.toList_some, Option.toList_none, List.cons_append, List.nil_append, true_and, and_true, List.set_cons_zero, List.set_cons_succ, st_same, Int.toNat_natCast, Int.cast_ofNat_Int, Nat.zero_add, Nat.reduceAdd, kRcv_1, kRcv_2, kRcv_3, kRcv_0, kRcv_4, kRcv_5]
    rw [v_copy hC hG]
    have f1 := setPs_fr σ (B + 5) s
    have hT1 := setPs_is σ (B + 5) s
    have hC1 := hC.trial hG f1 hT1.x
    generalize setPs σ (B + 5) s = σ1 at *
    have hB1 : σ1.1 B = _ := hC1.1
    simp only [e_Cp_ifDug_49, e_Cp_ifDug_50, e_Cp_ifDug_53, e_Cp_ifDug_54, e_Cp_ifDug_55, kR_l, kR_r, kP_0, kP_i, kP_r, kP_n, kP_s, kP_o, kLen_I, kLen_L, kLen_R, kLdI_0, kLdI_1, kLdI_2, kLdI_3, kStI_0, kStI_1, kLdL_e, kStL_e, kLdR_e, kStR_e, kFld_e, kNth_0, kNth_s, kPut_e, fit_I, fit_Z, fit_B, fit_C, fit_A, fit_O, Option.toList_some, Option.toList_none, List.cons_append, List.nil_append, true_and, and_true, List.set_cons_zero, List.set_cons_succ, st_same, Int.toNat_natCast, Int.cast_ofNat_Int, Nat.zero_add, Nat.reduceAdd, kRcv_1, kRcv_2, kRcv_3, kRcv_0, kRcv_4, kRcv_5, hB1, hT1.1]
    rw [s_Plan_flip hT1 hI.1.sq (by omega) (by omega) (by omega), show (16 * ((y : Nat) : Int) + ((x : Nat) : Int)).toNat = 16 * y + x by omega, setP_sq hT1, hp.1, hp.2.1, hp.2.2.1, hp.2.2.2]
    have f2 := setPs_fr σ1 (B + 5) (tgS s (16 * y + x))
    have hT2 := setPs_is σ1 (B + 5) (tgS s (16 * y + x))
    have hC2 := hC1.trial hG f2 hT2.x
    show kR _ _ _ (setPs σ1 (B + 5) (tgS s (16 * y + x)))
    generalize setPs σ1 (B + 5) (tgS s (16 * y + x)) = σ2 at *
    have f12 : FrB B (B + 46) σ σ2 := (f1.wide (by omega) (by omega)).trans (f2.wide (by omega) (by omega))
    have hB2 : σ2.1 B = _ := hC2.1
    obtain ⟨m, A, hy⟩ := hC2.2.2.2.2.2.1
    have hyr := WyI.obj hy
    rcases (show w = 0 ∨ w = 1 ∨ w = 2 by omega) with rfl | rfl | rfl
    · have hQ1 : ∀ σ' : AS, ClsI G σ' B s kp p n t → FrB B (B + 46) σ σ' → Q (.inl (some (vI (prM (tgS s (16 * y + x)) 1)))) σ' := hQ
      clear hQ
      simp only [e_Cp_ifDug_58, e_Cp_ifDug_59, e_Cp_ifDug_62, e_Cp_ifDug_63, e_Cp_ifDug_66, e_Cp_ifDug_67, e_Cp_ifDug_70, kR_l, kR_r, kP_0, kP_i, kP_r, kP_n, kP_s, kP_o, kLen_I, kLen_L, kLen_R, kLdI_0, kLdI_1, kLdI_2, kLdI_3, kStI_0, kStI_1, kLdL_e, kStL_e, kLdR_e, kStR_e, kFld_e, kNth_0, kNth_s, kPut_e, fit_I, fit_Z, fit_B, fit_C, fit_A, fit_O, Option.toList_some, Option.toList_none, List.cons_append, List.nil_append, true_and, and_true, List.set_cons_zero, List.set_cons_succ, st_same, Int.toNat_natCast, Int.cast_ofNat_Int, Nat.zero_add, Nat.reduceAdd, kRcv_1, kRcv_2, kRcv_3, kRcv_0, kRcv_4, kRcv_5, hB2, hyr]
      refine ⟨by unfold inR; omega, (fun h => by first | exact absurd h (by omega) | exact absurd trivial h | (exfalso; simp_all; done)), fun _ => ?_⟩
      refine way_id hy (w_closedPairs hT2 (by omega) (by omega) hg' (fun m' A' => ?_))
      have q1 := hQ1 _ (hC2.way hG m' A') (f12.trans ((setWy_fr _ _ _ _).wide (by omega) (by omega)))
      clear hQ1
      simp only [e_Cp_ifDug_73, kR_l, kR_r, kP_0, kP_i, kP_r, kP_n, kP_s, kP_o, kLen_I, kLen_L, kLen_R, kLdI_0, kLdI_1, kLdI_2, kLdI_3, kStI_0, kStI_1, kLdL_e, kStL_e, kLdR_e, kStR_e, kFld_e, kNth_0, kNth_s, kPut_e, fit_I, fit_Z, fit_B, fit_C, fit_A, fit_O, Option.toList_some, Option.toList_none, List.cons_append, List.nil_append, true_and, and_true, List.set_cons_zero, List.set_cons_succ, st_same, Int.toNat_natCast, Int.cast_ofNat_Int, Nat.zero_add, Nat.reduceAdd, kRcv_1, kRcv_2, kRcv_3, kRcv_0, kRcv_4, kRcv_5]
      first | exact q1 | exact ⟨trivial, q1⟩ | exact ⟨by simp, q1⟩
    · have q1 : Q (.inl (some (vI (alM (tgS s (16 * y + x)) far 1 / 2)))) σ2 := hQ σ2 hC2 f12
      clear hQ
      simp only [e_Cp_ifDug_58, e_Cp_ifDug_59, e_Cp_ifDug_74, e_Cp_ifDug_75, e_Cp_ifDug_76, e_Cp_ifDug_79, e_Cp_ifDug_80, e_Cp_ifDug_83, kR_l, kR_r, kP_0, kP_i, kP_r, kP_n, kP_s, kP_o, kLen_I, kLen_L, kLen_R, kLdI_0, kLdI_1, kLdI_2, kLdI_3, kStI_0, kStI_1, kLdL_e, kStL_e, kLdR_e, kStR_e, kFld_e, kNth_0, kNth_s, kPut_e, fit_I, fit_Z, fit_B, fit_C, fit_A, fit_O, Option.toList_some, Option.toList_none, List.cons_append, List.nil_append, true_and, and_true, List.set_cons_zero, List.set_cons_succ, st_same, Int.toNat_natCast, Int.cast_ofNat_Int, Nat.zero_add, Nat.reduceAdd, kRcv_1, kRcv_2, kRcv_3, kRcv_0, kRcv_4, kRcv_5, hB2, hT2.1]
      refine ⟨by unfold inR; omega, fun _ => ⟨⟨by unfold inR; omega, by unfold inR; omega⟩, (fun h => by first | exact absurd h (by omega) | exact absurd trivial h | (exfalso; simp_all; done)), fun _ => ?_⟩, (fun h => by first | exact absurd h (by omega) | exact absurd trivial h | (exfalso; simp_all; done))⟩
      rw [s_Plan_facingPairs hC2.2.2.2.2.2.2.1 hT2 hg'.sq hg'.bx (by rw [← hp.2.2.2]; exact hfar) (by omega), facing_eq hg' far]
      simp only [e_Cp_ifDug_86, e_Cp_ifDug_100, kR_l, kR_r, kP_0, kP_i, kP_r, kP_n, kP_s, kP_o, kLen_I, kLen_L, kLen_R, kLdI_0, kLdI_1, kLdI_2, kLdI_3, kStI_0, kStI_1, kLdL_e, kStL_e, kLdR_e, kStR_e, kFld_e, kNth_0, kNth_s, kPut_e, fit_I, fit_Z, fit_B, fit_C, fit_A, fit_O, Option.toList_some, Option.toList_none, List.cons_append, List.nil_append, true_and, and_true, List.set_cons_zero, List.set_cons_succ, st_same, Int.toNat_natCast, Int.cast_ofNat_Int, Nat.zero_add, Nat.reduceAdd, kRcv_1, kRcv_2, kRcv_3, kRcv_0, kRcv_4, kRcv_5]
      first | exact q1 | exact ⟨trivial, q1⟩ | exact ⟨by simp, q1⟩
    · have hQ1 : ∀ σ' : AS, ClsI G σ' B s kp p n t → FrB B (B + 46) σ σ' → Q (.inl (some (vI (prM (tgS s (16 * y + x)) 2)))) σ' := hQ
      clear hQ
      simp only [e_Cp_ifDug_58, e_Cp_ifDug_59, e_Cp_ifDug_74, e_Cp_ifDug_75, e_Cp_ifDug_76, e_Cp_ifDug_89, e_Cp_ifDug_90, e_Cp_ifDug_93, e_Cp_ifDug_94, e_Cp_ifDug_97, kR_l, kR_r, kP_0, kP_i, kP_r, kP_n, kP_s, kP_o, kLen_I, kLen_L, kLen_R, kLdI_0, kLdI_1, kLdI_2, kLdI_3, kStI_0, kStI_1, kLdL_e, kStL_e, kLdR_e, kStR_e, kFld_e, kNth_0, kNth_s, kPut_e, fit_I, fit_Z, fit_B, fit_C, fit_A, fit_O, Option.toList_some, Option.toList_none, List.cons_append, List.nil_append, true_and, and_true, List.set_cons_zero, List.set_cons_succ, st_same, Int.toNat_natCast, Int.cast_ofNat_Int, Nat.zero_add, Nat.reduceAdd, kRcv_1, kRcv_2, kRcv_3, kRcv_0, kRcv_4, kRcv_5, hB2, hyr]
      refine ⟨by unfold inR; omega, fun _ => ⟨⟨by unfold inR; omega, by unfold inR; omega⟩, fun _ => ?_, (fun h => by first | exact absurd h (by omega) | exact absurd trivial h | (exfalso; simp_all; done))⟩, (fun h => by first | exact absurd h (by omega) | exact absurd trivial h | (exfalso; simp_all; done))⟩
      refine way_id hy (w_missingCost hT2 (by omega) (by omega) hg' (fun m' A' => ?_))
      have q1 := hQ1 _ (hC2.way hG m' A') (f12.trans ((setWy_fr _ _ _ _).wide (by omega) (by omega)))
      clear hQ1
      simp only [e_Cp_ifDug_100, kR_l, kR_r, kP_0, kP_i, kP_r, kP_n, kP_s, kP_o, kLen_I, kLen_L, kLen_R, kLdI_0, kLdI_1, kLdI_2, kLdI_3, kStI_0, kStI_1, kLdL_e, kStL_e, kLdR_e, kStR_e, kFld_e, kNth_0, kNth_s, kPut_e, fit_I, fit_Z, fit_B, fit_C, fit_A, fit_O, Option.toList_some, Option.toList_none, List.cons_append, List.nil_append, true_and, and_true, List.set_cons_zero, List.set_cons_succ, st_same, Int.toNat_natCast, Int.cast_ofNat_Int, Nat.zero_add, Nat.reduceAdd, kRcv_1, kRcv_2, kRcv_3, kRcv_0, kRcv_4, kRcv_5]
      first | exact q1 | exact ⟨trivial, q1⟩ | exact ⟨by simp, q1⟩
  · rw [if_pos (by omega)] at hQ
    have q0 := hQ σ hC (FrB.refl _ _ _)
    clear hQ
    simp only [e_Cp_ifDug_36, e_Cp_ifDug_37, kR_l, kR_r, kP_0, kP_i, kP_r, kP_n, kP_s, kP_o, kLen_I, kLen_L, kLen_R, kLdI_0, kLdI_1, kLdI_2, kLdI_3, kStI_0, kStI_1, kLdL_e, kStL_e, kLdR_e, kStR_e, kFld_e, kNth_0, kNth_s, kPut_e, fit_I, fit_Z, fit_B, fit_C, fit_A, fit_O, Option.toList_some, Option.toList_none, List.cons_append, List.nil_append, true_and, and_true, List.set_cons_zero, List.set_cons_succ, st_same, Int.toNat_natCast, Int.cast_ofNat_Int, Nat.zero_add, Nat.reduceAdd, kRcv_1, kRcv_2, kRcv_3, kRcv_0, kRcv_4, kRcv_5]
    first | exact q0 | exact ⟨trivial, q0⟩ | exact ⟨by simp, q0⟩
theorem o_ifGiven1 {r : Int} (hC : ClsI G σ B s kp p n t) (hI : GdI s kp p n t) (hr : inR r) (h : thM s r = 0) : CW G k_Cp_ifGiven [vR B, vI r] σ Q = Q (.inr 2) (am_th σ) := by
  refine CW.det' fun R hR => ?_
  have hB : σ.1 B = _ := hC.1
  simp only [c_Cp_ifGiven, e_Cp_ifGiven_0, e_Cp_ifGiven_1, e_Cp_ifGiven_2, kR_l, kR_r, kP_0, kP_i, kP_r, kP_n, kP_s, kP_o, kLen_I, kLen_L, kLen_R, kLdI_0, kLdI_1, kLdI_2, kLdI_3, kStI_0, kStI_1, kLdL_e, kStL_e, kLdR_e, kStR_e, kFld_e, kNth_0, kNth_s, kPut_e, fit_I, fit_Z, fit_B, fit_C, fit_A, fit_O, Option.toList_some, Option.toList_none, List.cons_append, List.nil_append, true_and, and_true, List.set_cons_zero, List.set_cons_succ, st_same, Int.toNat_natCast, Int.cast_ofNat_Int, Nat.zero_add, Nat.reduceAdd, kRcv_1, kRcv_2, kRcv_3, kRcv_0, kRcv_4, kRcv_5, hB]
  rw [q_Ch0 hC hI hr h]
  exact hR
theorem o_ifGiven0 {r : Nat} (hC : ClsI G σ B s kp p n t) (hI : GdI s kp p n t) (hG : G 0 ≤ B) (hr : r < 6) (h : thM s (r : Nat) = 1)
    (hQ : ∀ σ' : AS, ClsI G σ' B s kp p n t → FrB B (B + 46) σ σ' → Q (.inl (some (vI (prM (gvS s r) 2)))) σ') :
    CW G k_Cp_ifGiven [vR B, vI (r : Nat)] σ Q := by
  have hB : σ.1 B = _ := hC.1
  have hR := (th_R hr).mp h
  have hbx := hI.1.2.2.2.1 r hr hR
  have e0 : bxAt (pG s) (r : Nat) 0 = s (192 + 4 * r) := pG_at hr (show 0 < 4 by omega) hR
  have e1 : bxAt (pG s) (r : Nat) 1 = s (193 + 4 * r) := (pG_at hr (show 1 < 4 by omega) hR).trans (congrArg s (by omega))
  have e2 : bxAt (pG s) (r : Nat) 2 = s (194 + 4 * r) := (pG_at hr (show 2 < 4 by omega) hR).trans (congrArg s (by omega))
  have e3 : bxAt (pG s) (r : Nat) 3 = s (195 + 4 * r) := (pG_at hr (show 3 < 4 by omega) hR).trans (congrArg s (by omega))
  have gp := gv_p hI.1 hr hR
  simp only [c_Cp_ifGiven, e_Cp_ifGiven_0, e_Cp_ifGiven_1, e_Cp_ifGiven_2, kR_l, kR_r, kP_0, kP_i, kP_r, kP_n, kP_s, kP_o, kLen_I, kLen_L, kLen_R, kLdI_0, kLdI_1, kLdI_2, kLdI_3, kStI_0, kStI_1, kLdL_e, kStL_e, kLdR_e, kStR_e, kFld_e, kNth_0, kNth_s, kPut_e, fit_I, fit_Z, fit_B, fit_C, fit_A, fit_O, Option.toList_some, Option.toList_none, List.cons_append, List.nil_append, true_and, and_true, List.set_cons_zero, List.set_cons_succ, st_same, Int.toNat_natCast, Int.cast_ofNat_Int, Nat.zero_add, Nat.reduceAdd, kRcv_1, kRcv_2, kRcv_3, kRcv_0, kRcv_4, kRcv_5, hB]
  rw [q_Ch1 hC hI (by unfold inR; omega) h]
  obtain ⟨f, g, hh, c9, x1, x2⟩ := hC.2.2.1
  simp only [e_Cp_ifGiven_5, e_Cp_ifGiven_6, e_Cp_ifGiven_9, e_Cp_ifGiven_10, e_Cp_ifGiven_13, kR_l, kR_r, kP_0, kP_i, kP_r, kP_n, kP_s, kP_o, kLen_I, kLen_L, kLen_R, kLdI_0, kLdI_1, kLdI_2, kLdI_3, kStI_0, kStI_1, kLdL_e, kStL_e, kLdR_e, kStR_e, kFld_e, kNth_0, kNth_s, kPut_e, fit_I, fit_Z, fit_B, fit_C, fit_A, fit_O, Option.toList_some, Option.toList_none, List.cons_append, List.nil_append, true_and, and_true, List.set_cons_zero, List.set_cons_succ, st_same, Int.toNat_natCast, Int.cast_ofNat_Int, Nat.zero_add, Nat.reduceAdd, kRcv_1, kRcv_2, kRcv_3, kRcv_0, kRcv_4, kRcv_5, hB, x1.1]
  rw [v_copy hC hG]
  have f1 := setPs_fr σ (B + 5) s
  have hT1 := setPs_is σ (B + 5) s
  have hC1 := hC.trial hG f1 hT1.x
  generalize setPs σ (B + 5) s = σ1 at *
  have hB1 : σ1.1 B = _ := hC1.1
  simp only [e_Cp_ifGiven_16, e_Cp_ifGiven_17, e_Cp_ifGiven_20, e_Cp_ifGiven_21, kR_l, kR_r, kP_0, kP_i, kP_r, kP_n, kP_s, kP_o, kLen_I, kLen_L, kLen_R, kLdI_0, kLdI_1, kLdI_2, kLdI_3, kStI_0, kStI_1, kLdL_e, kStL_e, kLdR_e, kStR_e, kFld_e, kNth_0, kNth_s, kPut_e, fit_I, fit_Z, fit_B, fit_C, fit_A, fit_O, Option.toList_some, Option.toList_none, List.cons_append, List.nil_append, true_and, and_true, List.set_cons_zero, List.set_cons_succ, st_same, Int.toNat_natCast, Int.cast_ofNat_Int, Nat.zero_add, Nat.reduceAdd, kRcv_1, kRcv_2, kRcv_3, kRcv_0, kRcv_4, kRcv_5, hB1, hT1.1]
  rw [s_Plan_giveUp hT1 hI.1.bx (pH_can s) (by omega) hr (by omega) (by omega), gp.1, gp.2.1, gp.2.2.1, gp.2.2.2]
  have f2 := setPs_fr σ1 (B + 5) (gvS s r)
  have hT2 := setPs_is σ1 (B + 5) (gvS s r)
  have hC2 := hC1.trial hG f2 hT2.x
  show kR _ _ _ (setPs σ1 (B + 5) (gvS s r))
  generalize setPs σ1 (B + 5) (gvS s r) = σ2 at *
  have f12 : FrB B (B + 46) σ σ2 := (f1.wide (by omega) (by omega)).trans (f2.wide (by omega) (by omega))
  have hB2 : σ2.1 B = _ := hC2.1
  obtain ⟨m, A, hy⟩ := hC2.2.2.2.2.2.1
  have hyr := WyI.obj hy
  simp only [e_Cp_ifGiven_24, e_Cp_ifGiven_25, e_Cp_ifGiven_26, e_Cp_ifGiven_29, e_Cp_ifGiven_30, e_Cp_ifGiven_33, kR_l, kR_r, kP_0, kP_i, kP_r, kP_n, kP_s, kP_o, kLen_I, kLen_L, kLen_R, kLdI_0, kLdI_1, kLdI_2, kLdI_3, kStI_0, kStI_1, kLdL_e, kStL_e, kLdR_e, kStR_e, kFld_e, kNth_0, kNth_s, kPut_e, fit_I, fit_Z, fit_B, fit_C, fit_A, fit_O, Option.toList_some, Option.toList_none, List.cons_append, List.nil_append, true_and, and_true, List.set_cons_zero, List.set_cons_succ, st_same, Int.toNat_natCast, Int.cast_ofNat_Int, Nat.zero_add, Nat.reduceAdd, kRcv_1, kRcv_2, kRcv_3, kRcv_0, kRcv_4, kRcv_5, hB2, hyr]
  refine way_id hy (w_missingCost hT2 (by omega) (by omega) (hI.1.gv hr) (fun m' A' => ?_))
  have q1 := hQ _ (hC2.way hG m' A') (f12.trans ((setWy_fr _ _ _ _).wide (by omega) (by omega)))
  clear hQ
  simp only [e_Cp_ifGiven_36, kR_l, kR_r, kP_0, kP_i, kP_r, kP_n, kP_s, kP_o, kLen_I, kLen_L, kLen_R, kLdI_0, kLdI_1, kLdI_2, kLdI_3, kStI_0, kStI_1, kLdL_e, kStL_e, kLdR_e, kStR_e, kFld_e, kNth_0, kNth_s, kPut_e, fit_I, fit_Z, fit_B, fit_C, fit_A, fit_O, Option.toList_some, Option.toList_none, List.cons_append, List.nil_append, true_and, and_true, List.set_cons_zero, List.set_cons_succ, st_same, Int.toNat_natCast, Int.cast_ofNat_Int, Nat.zero_add, Nat.reduceAdd, kRcv_1, kRcv_2, kRcv_3, kRcv_0, kRcv_4, kRcv_5]
  first | exact q1 | exact ⟨trivial, q1⟩ | exact ⟨by simp, q1⟩
theorem o_allCost (hC : ClsI G σ B s kp p n t) (hI : GdI s kp p n t) (hG : G 0 ≤ B)
    (hQ : ∀ σ' : AS, ClsI G σ' B s kp p n t → FrB B (B + 46) σ σ' → Q (.inl (some (vI (caM 16 s).2.1))) σ') :
    CW G k_Cp_allCost [vR B] σ Q := by
  have hB : σ.1 B = _ := hC.1
  obtain ⟨f, g, hh, c9, x1, x2⟩ := hC.2.2.1
  simp only [c_Cp_allCost, e_Cp_allCost_0, e_Cp_allCost_1, e_Cp_allCost_4, e_Cp_allCost_5, e_Cp_allCost_8, kR_l, kR_r, kP_0, kP_i, kP_r, kP_n, kP_s, kP_o, kLen_I, kLen_L, kLen_R, kLdI_0, kLdI_1, kLdI_2, kLdI_3, kStI_0, kStI_1, kLdL_e, kStL_e, kLdR_e, kStR_e, kFld_e, kNth_0, kNth_s, kPut_e, fit_I, fit_Z, fit_B, fit_C, fit_A, fit_O, Option.toList_some, Option.toList_none, List.cons_append, List.nil_append, true_and, and_true, List.set_cons_zero, List.set_cons_succ, st_same, Int.toNat_natCast, Int.cast_ofNat_Int, Nat.zero_add, Nat.reduceAdd, kRcv_1, kRcv_2, kRcv_3, kRcv_0, kRcv_4, kRcv_5, hB, x1.1]
  rw [v_copy hC hG]
  have f1 := setPs_fr σ (B + 5) s
  have hT1 := setPs_is σ (B + 5) s
  have hC1 := hC.trial hG f1 hT1.x
  generalize setPs σ (B + 5) s = σ1 at *
  have hB1 : σ1.1 B = _ := hC1.1
  obtain ⟨m, A, hy⟩ := hC1.2.2.2.2.2.1
  have hyr := WyI.obj hy
  simp only [e_Cp_allCost_11, e_Cp_allCost_12, e_Cp_allCost_15, e_Cp_allCost_16, e_Cp_allCost_19, kR_l, kR_r, kP_0, kP_i, kP_r, kP_n, kP_s, kP_o, kLen_I, kLen_L, kLen_R, kLdI_0, kLdI_1, kLdI_2, kLdI_3, kStI_0, kStI_1, kLdL_e, kStL_e, kLdR_e, kStR_e, kFld_e, kNth_0, kNth_s, kPut_e, fit_I, fit_Z, fit_B, fit_C, fit_A, fit_O, Option.toList_some, Option.toList_none, List.cons_append, List.nil_append, true_and, and_true, List.set_cons_zero, List.set_cons_succ, st_same, Int.toNat_natCast, Int.cast_ofNat_Int, Nat.zero_add, Nat.reduceAdd, kRcv_1, kRcv_2, kRcv_3, kRcv_0, kRcv_4, kRcv_5, hB1, hyr]
  refine way_id hy (w_forAll hT1 (by omega) (by omega) hI.1 (fun m' A' => ?_))
  have f2 := setPs_fr σ1 (B + 5) (caM 16 s).2.2
  have hT2 := setPs_is σ1 (B + 5) (caM 16 s).2.2
  have hC2 := (hC1.trial hG f2 hT2.x).way hG m' A'
  have f3 := setWy_fr (setPs σ1 (B + 5) (caM 16 s).2.2) (B + 37) m' A'
  have hT3 := hT2.fr f3 (by omega)
  generalize setWy (setPs σ1 (B + 5) (caM 16 s).2.2) (B + 37) m' A' = σ2 at *
  have hB2 : σ2.1 B = _ := hC2.1
  have f12 : FrB B (B + 46) σ σ2 := ((f1.wide (by omega) (by omega)).trans (f2.wide (by omega) (by omega))).trans (f3.wide (by omega) (by omega))
  have q1 := hQ σ2 hC2 f12
  rw [← ca_cnt hI.1 16] at q1
  clear hQ
  simp only [e_Cp_allCost_22, e_Cp_allCost_23, e_Cp_allCost_24, e_Cp_allCost_27, e_Cp_allCost_28, kR_l, kR_r, kP_0, kP_i, kP_r, kP_n, kP_s, kP_o, kLen_I, kLen_L, kLen_R, kLdI_0, kLdI_1, kLdI_2, kLdI_3, kStI_0, kStI_1, kLdL_e, kStL_e, kLdR_e, kStR_e, kFld_e, kNth_0, kNth_s, kPut_e, fit_I, fit_Z, fit_B, fit_C, fit_A, fit_O, Option.toList_some, Option.toList_none, List.cons_append, List.nil_append, true_and, and_true, List.set_cons_zero, List.set_cons_succ, st_same, Int.toNat_natCast, Int.cast_ofNat_Int, Nat.zero_add, Nat.reduceAdd, kRcv_1, kRcv_2, kRcv_3, kRcv_0, kRcv_4, kRcv_5, hB2, hT3.1]
  rw [s_Plan_squaresThatAre hT3 (hI.1.ca 16).sq (by unfold inR; omega), sq_cnt]
  simp only [e_Cp_allCost_31, e_Cp_allCost_32, e_Cp_allCost_35, e_Cp_allCost_36, kR_l, kR_r, kP_0, kP_i, kP_r, kP_n, kP_s, kP_o, kLen_I, kLen_L, kLen_R, kLdI_0, kLdI_1, kLdI_2, kLdI_3, kStI_0, kStI_1, kLdL_e, kStL_e, kLdR_e, kStR_e, kFld_e, kNth_0, kNth_s, kPut_e, fit_I, fit_Z, fit_B, fit_C, fit_A, fit_O, Option.toList_some, Option.toList_none, List.cons_append, List.nil_append, true_and, and_true, List.set_cons_zero, List.set_cons_succ, st_same, Int.toNat_natCast, Int.cast_ofNat_Int, Nat.zero_add, Nat.reduceAdd, kRcv_1, kRcv_2, kRcv_3, kRcv_0, kRcv_4, kRcv_5, hB2, hC2.2.1.1]
  rw [s_Plan_squaresThatAre hC2.2.1 hI.1.sq (by unfold inR; omega), sq_cnt]
  simp only [e_Cp_allCost_39, e_Cp_allCost_40, kR_l, kR_r, kP_0, kP_i, kP_r, kP_n, kP_s, kP_o, kLen_I, kLen_L, kLen_R, kLdI_0, kLdI_1, kLdI_2, kLdI_3, kStI_0, kStI_1, kLdL_e, kStL_e, kLdR_e, kStR_e, kFld_e, kNth_0, kNth_s, kPut_e, fit_I, fit_Z, fit_B, fit_C, fit_A, fit_O, Option.toList_some, Option.toList_none, List.cons_append, List.nil_append, true_and, and_true, List.set_cons_zero, List.set_cons_succ, st_same, Int.toNat_natCast, Int.cast_ofNat_Int, Nat.zero_add, Nat.reduceAdd, kRcv_1, kRcv_2, kRcv_3, kRcv_0, kRcv_4, kRcv_5]
  first | exact q1 | exact ⟨trivial, q1⟩ | exact ⟨by simp, q1⟩
theorem o_openShare (hC : ClsI G σ B s kp p n t) (hI : GdI s kp p n t) (hG : G 0 ≤ B)
    (hQ : ∀ σ' : AS, ClsI G σ' B s kp p n t → FrB B (B + 46) σ σ' → Q (.inl (some (vD (shM s)))) σ') :
    CW G k_Cp_openShare [vR B] σ Q := by
  have hB : σ.1 B = _ := hC.1
  have b0 := prM_bd hI.1.wk 0 (Or.inl rfl)
  have b1 := prM_bd hI.1.wk 1 (Or.inr rfl)
  have bl := prM_le hI.1.wk
  simp only [c_Cp_openShare, e_Cp_openShare_0, e_Cp_openShare_1, e_Cp_openShare_4, kR_l, kR_r, kP_0, kP_i, kP_r, kP_n, kP_s, kP_o, kLen_I, kLen_L, kLen_R, kLdI_0, kLdI_1, kLdI_2, kLdI_3, kStI_0, kStI_1, kLdL_e, kStL_e, kLdR_e, kStR_e, kFld_e, kNth_0, kNth_s, kPut_e, fit_I, fit_Z, fit_B, fit_C, fit_A, fit_O, Option.toList_some, Option.toList_none, List.cons_append, List.nil_append, true_and, and_true, List.set_cons_zero, List.set_cons_succ, st_same, Int.toNat_natCast, Int.cast_ofNat_Int, Nat.zero_add, Nat.reduceAdd, kRcv_1, kRcv_2, kRcv_3, kRcv_0, kRcv_4, kRcv_5, hB, hC.2.1.1]
  rw [s_Plan_walkedPairs hC.2.1 hI.1.wd, pr_0]
  unfold shM at hQ
  simp only [e_Cp_openShare_7, e_Cp_openShare_8, e_Cp_openShare_9, kR_l, kR_r, kP_0, kP_i, kP_r, kP_n, kP_s, kP_o, kLen_I, kLen_L, kLen_R, kLdI_0, kLdI_1, kLdI_2, kLdI_3, kStI_0, kStI_1, kLdL_e, kStL_e, kLdR_e, kStR_e, kFld_e, kNth_0, kNth_s, kPut_e, fit_I, fit_Z, fit_B, fit_C, fit_A, fit_O, Option.toList_some, Option.toList_none, List.cons_append, List.nil_append, true_and, and_true, List.set_cons_zero, List.set_cons_succ, st_same, Int.toNat_natCast, Int.cast_ofNat_Int, Nat.zero_add, Nat.reduceAdd, kRcv_1, kRcv_2, kRcv_3, kRcv_0, kRcv_4, kRcv_5]
  refine ⟨by unfold inR; omega, fun c => ?_, fun c => ?_⟩
  · rw [if_neg (by omega)] at hQ
    obtain ⟨m, A, hy⟩ := hC.2.2.2.2.2.1
    have hyr := WyI.obj hy
    simp only [e_Cp_openShare_14, e_Cp_openShare_15, e_Cp_openShare_16, e_Cp_openShare_19, e_Cp_openShare_20, e_Cp_openShare_23, kR_l, kR_r, kP_0, kP_i, kP_r, kP_n, kP_s, kP_o, kLen_I, kLen_L, kLen_R, kLdI_0, kLdI_1, kLdI_2, kLdI_3, kStI_0, kStI_1, kLdL_e, kStL_e, kLdR_e, kStR_e, kFld_e, kNth_0, kNth_s, kPut_e, fit_I, fit_Z, fit_B, fit_C, fit_A, fit_O, Option.toList_some, Option.toList_none, List.cons_append, List.nil_append, true_and, and_true, List.set_cons_zero, List.set_cons_succ, st_same, Int.toNat_natCast, Int.cast_ofNat_Int, Nat.zero_add, Nat.reduceAdd, kRcv_1, kRcv_2, kRcv_3, kRcv_0, kRcv_4, kRcv_5, hB, hyr]
    refine way_id hy (w_closedPairs hC.2.1 (by omega) (by omega) hI.1 (fun m' A' => ?_))
    have q1 := hQ _ (hC.way hG m' A') ((setWy_fr _ _ _ _).wide (by omega) (by omega))
    simp only [e_Cp_openShare_26, e_Cp_openShare_27, e_Cp_openShare_28, e_Cp_openShare_29, e_Cp_openShare_30, e_Cp_openShare_31, kR_l, kR_r, kP_0, kP_i, kP_r, kP_n, kP_s, kP_o, kLen_I, kLen_L, kLen_R, kLdI_0, kLdI_1, kLdI_2, kLdI_3, kStI_0, kStI_1, kLdL_e, kStL_e, kLdR_e, kStR_e, kFld_e, kNth_0, kNth_s, kPut_e, fit_I, fit_Z, fit_B, fit_C, fit_A, fit_O, Option.toList_some, Option.toList_none, List.cons_append, List.nil_append, true_and, and_true, List.set_cons_zero, List.set_cons_succ, st_same, Int.toNat_natCast, Int.cast_ofNat_Int, Nat.zero_add, Nat.reduceAdd, kRcv_1, kRcv_2, kRcv_3, kRcv_0, kRcv_4, kRcv_5]
    refine ⟨?_, q1⟩
    have := shM_nn (prM s 0).toNat (by omega) (prM s 0 - prM s 1).toNat (by omega) (by omega)
    rw [show (((prM s 0).toNat : Nat) : Int) = prM s 0 by omega, show (((prM s 0 - prM s 1).toNat : Nat) : Int) = prM s 0 - prM s 1 by omega] at this
    exact this
  · rw [if_pos (by omega)] at hQ
    have q0 := hQ σ hC (FrB.refl _ _ _)
    simp only [e_Cp_openShare_12, e_Cp_openShare_13, kR_l, kR_r, kP_0, kP_i, kP_r, kP_n, kP_s, kP_o, kLen_I, kLen_L, kLen_R, kLdI_0, kLdI_1, kLdI_2, kLdI_3, kStI_0, kStI_1, kLdL_e, kStL_e, kLdR_e, kStR_e, kFld_e, kNth_0, kNth_s, kPut_e, fit_I, fit_Z, fit_B, fit_C, fit_A, fit_O, Option.toList_some, Option.toList_none, List.cons_append, List.nil_append, true_and, and_true, List.set_cons_zero, List.set_cons_succ, st_same, Int.toNat_natCast, Int.cast_ofNat_Int, Nat.zero_add, Nat.reduceAdd, kRcv_1, kRcv_2, kRcv_3, kRcv_0, kRcv_4, kRcv_5]
    exact q0
end CP5
