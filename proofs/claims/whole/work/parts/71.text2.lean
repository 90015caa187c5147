/-! THE REFERENCE: it reads its text -/
section TX2
variable {G : Nat → Nat} {σ : AS} {Q : (Option AV ⊕ Nat) → AS → Prop} {M : Nat} {m : Nat → Int} {A : Nat → Nat → Int}
theorem s_letter0 {k i n : Nat} {o : Int} (hG : G 0 ≤ M) (h7 : m 7 = (i : Nat)) (h5 : m 5 = (n : Nat)) (hn : n ≤ 60) (hi : i ≤ n) (ht : TxOK (A 4)) (ho : inR o) (h : ltA (cA (A 4) n) i = -1 ∨ ltA (cA (A 4) n) i = o) : CW G k_Model_isLetter [vR M, vI (k : Nat), vI o] (setMd σ M m A) Q = Q (.inl (some (vI 0))) (setMd σ M (upI m 8 (b01 (i < n))) A) := by
  refine CW.det' fun R hR => ?_
  have hb := ht i
  have r65 : inR 65 := by unfold inR; omega
  have e7 : (m 7).toNat = i := by omega
  simp (disch := first | assumption | omega | (unfold inR; omega)) only [c_Model_isLetter, e_Model_isLetter_0, e_Model_isLetter_1, e_Model_isLetter_4, e_Model_isLetter_5, e_Model_isLetter_8, e_Model_isLetter_11, e_Model_isLetter_12, e_Model_isLetter_15, e_Model_isLetter_16, e_Model_isLetter_19, e_Model_isLetter_20, e_Model_isLetter_22, e_Model_isLetter_24, e_Model_isLetter_27, e_Model_isLetter_30, e_Model_isLetter_31, e_Model_isLetter_34, e_Model_isLetter_35, e_Model_isLetter_38, e_Model_isLetter_39, e_Model_isLetter_41, e_Model_isLetter_42, e_Model_isLetter_43, e_Model_isLetter_46, e_Model_isLetter_47, e_Model_isLetter_50, kR_l, kR_r, kP_0, kP_i, kP_r, kP_n, kP_s, kP_o, kLen_I, kLen_L, kLen_R, kLdI_0, kLdI_1, kLdI_2, kLdI_3, kStI_0, kStI_1, kLdL_e, kStL_e, kLdR_e, kStR_e, kFld_e, kNth_0, kNth_s, kPut_e, fit_I, fit_Z, fit_B, fit_C, fit_A, fit_O, Option.toList_some, Option.toList_none, List.cons_append, List.nil_append, true_and, and_true, List.set_cons_zero, List.set_cons_succ, st_same, Int.toNat_natCast, Int.cast_ofNat_Int, Nat.zero_add, Nat.reduceAdd, kRcv_1, kRcv_2, kRcv_3, kRcv_0, kRcv_4, kRcv_5, setMd_set, Mdo, Mda1, Mdw1, Mda2, Mdw2, Mda3, Mdw3, Mda4, Mdw4, Mda5, Mdw5, Mda6, Mdw6, Mda7, Mdw7, Mda8, Mdw8, Mda9, Mdw9, Mda10, Mdw10, Mda11, Mdw11, Mdp3, Mdp5, Mdp6, Mdp7, Mdp8, Mdp10, Mdp16, Mdp17, Mdp18, s_Model_in, e7, s_stops hG h7 h5 hn hi]
  by_cases hin : i = n
  · all_goals ((repeat' (first | with_reducible refine And.intro ?_ ?_ | intro _)) <;> first | with_reducible assumption | exact True.intro | with_reducible exact hR | omega | (simp only [inR] at *; omega) | exact hR | with_reducible rfl | rfl | (simp; done) | (exfalso; simp_all; done) | skip)
  · unfold ltA cA at h
    rw [if_pos (show i < n by omega)] at h
    by_cases hl : 65 ≤ A 4 i ∧ A 4 i ≤ 70
    · rw [if_pos hl] at h
      rw [inB_t hl]
      all_goals ((repeat' (first | with_reducible refine And.intro ?_ ?_ | intro _)) <;> first | with_reducible assumption | exact True.intro | with_reducible exact hR | omega | (simp only [inR] at *; omega) | exact hR | with_reducible rfl | rfl | (simp; done) | (exfalso; simp_all; done) | skip)
    · rw [inB_f hl]
      all_goals ((repeat' (first | with_reducible refine And.intro ?_ ?_ | intro _)) <;> first | with_reducible assumption | exact True.intro | with_reducible exact hR | omega | (simp only [inR] at *; omega) | exact hR | with_reducible rfl | rfl | (simp; done) | (exfalso; simp_all; done) | skip)
theorem s_letter1 {k t i n : Nat} {o : Int} (hG : G 0 ≤ M) (h7 : m 7 = (i : Nat)) (h5 : m 5 = (n : Nat)) (hn : n ≤ 60) (hi : i ≤ n) (ht : TxOK (A 4)) (ho : inR o) (h10 : m 10 = (t : Nat)) (htt : t ≤ 12) (hk : k ≤ 1) (h : ltA (cA (A 4) n) i ≠ -1) (h2 : ltA (cA (A 4) n) i ≠ o) : CW G k_Model_isLetter [vR M, vI (k : Nat), vI o] (setMd σ M m A) Q = Q (.inl (some (vI 1))) (setMd σ M (upI m 7 ((i + 1 : Nat) : Int)) (upA A 5 (upI (A 5) (3 * t + k) (ltA (cA (A 4) n) i)))) := by
  refine CW.det' fun R hR => ?_
  have hb := ht i
  have hlt := ltA_lt h
  have e7 : (m 7).toNat = i := by omega
  have e10 : (3 * m 10 + (k : Int)).toNat = 3 * t + k := by omega
  have e : ((i + 1 : Nat) : Int) = m 7 + 1 := by omega
  rw [e] at hR
  unfold ltA cA at h h2 hR
  rw [if_pos hlt] at h h2 hR
  have hl : 65 ≤ A 4 i ∧ A 4 i ≤ 70 := Classical.byContradiction fun z => h (if_neg z)
  rw [if_pos hl] at h h2 hR
  simp (disch := first | assumption | omega | (unfold inR; omega)) only [c_Model_isLetter, e_Model_isLetter_0, e_Model_isLetter_1, e_Model_isLetter_4, e_Model_isLetter_5, e_Model_isLetter_8, e_Model_isLetter_11, e_Model_isLetter_12, e_Model_isLetter_15, e_Model_isLetter_16, e_Model_isLetter_19, e_Model_isLetter_20, e_Model_isLetter_22, e_Model_isLetter_24, e_Model_isLetter_27, e_Model_isLetter_30, e_Model_isLetter_31, e_Model_isLetter_34, e_Model_isLetter_35, e_Model_isLetter_38, e_Model_isLetter_39, e_Model_isLetter_41, e_Model_isLetter_42, e_Model_isLetter_43, e_Model_isLetter_51, e_Model_isLetter_52, e_Model_isLetter_55, e_Model_isLetter_56, e_Model_isLetter_57, e_Model_isLetter_60, e_Model_isLetter_61, e_Model_isLetter_62, e_Model_isLetter_63, e_Model_isLetter_64, e_Model_isLetter_67, e_Model_isLetter_68, e_Model_isLetter_71, e_Model_isLetter_72, e_Model_isLetter_74, e_Model_isLetter_75, e_Model_isLetter_76, e_Model_isLetter_77, e_Model_isLetter_78, e_Model_isLetter_81, e_Model_isLetter_82, e_Model_isLetter_83, e_Model_isLetter_86, e_Model_isLetter_87, kR_l, kR_r, kP_0, kP_i, kP_r, kP_n, kP_s, kP_o, kLen_I, kLen_L, kLen_R, kLdI_0, kLdI_1, kLdI_2, kLdI_3, kStI_0, kStI_1, kLdL_e, kStL_e, kLdR_e, kStR_e, kFld_e, kNth_0, kNth_s, kPut_e, fit_I, fit_Z, fit_B, fit_C, fit_A, fit_O, Option.toList_some, Option.toList_none, List.cons_append, List.nil_append, true_and, and_true, List.set_cons_zero, List.set_cons_succ, st_same, Int.toNat_natCast, Int.cast_ofNat_Int, Nat.zero_add, Nat.reduceAdd, kRcv_1, kRcv_2, kRcv_3, kRcv_0, kRcv_4, kRcv_5, setMd_set, Mdo, Mda1, Mdw1, Mda2, Mdw2, Mda3, Mdw3, Mda4, Mdw4, Mda5, Mdw5, Mda6, Mdw6, Mda7, Mdw7, Mda8, Mdw8, Mda9, Mdw9, Mda10, Mdw10, Mda11, Mdw11, Mdp3, Mdp5, Mdp6, Mdp7, Mdp8, Mdp10, Mdp16, Mdp17, Mdp18, List.length_cons, List.length_nil, s_Model_in, inB_t hl, e7, e10]
  all_goals ((repeat' (first | with_reducible refine And.intro ?_ ?_ | intro _)) <;> first | with_reducible assumption | exact True.intro | with_reducible exact hR | omega | (simp only [inR] at *; omega) | exact hR | with_reducible rfl | rfl | (simp; done) | (exfalso; simp_all; done) | skip)
/-- what an order's reading leaves -/
def OrQ (M n t i : Nat) (σ : AS) (m : Nat → Int) (A : Nat → Nat → Int) (e : Nat) (ok : Int) (Q : (Option AV ⊕ Nat) → AS → Prop) : Prop := ∀ (m' : Nat → Int) (A' : Nat → Nat → Int), (∀ k, k ≠ 7 → k ≠ 8 → m' k = m k) → (∀ k, k ≠ 5 → A' k = A k) → m' 7 = (e : Nat) → (ok = 0 → m' 8 = b01 (e < n)) → (ok = 1 → A' 5 (3 * t) = ltA (cA (A 4) n) i ∧ A' 5 (3 * t + 1) = ltA (cA (A 4) n) (i + 1) ∧ A' 5 (3 * t + 2) = if dB (cA (A 4) n (i + 3)) = 4 then -1 else dB (cA (A 4) n (i + 3))) → (∀ j, j < 3 * t → A' 5 j = A 5 j) → Q (.inl (some (vI ok))) (setMd σ M m' A')
theorem s_isOrder {i n t : Nat} (hG : G 0 ≤ M) (h7 : m 7 = (i : Nat)) (h5 : m 5 = (n : Nat)) (hn : n ≤ 60) (hi : i ≤ n) (ht : TxOK (A 4)) (h10 : m 10 = (t : Nat)) (htt : t ≤ 12)
    (hQ : OrQ M n t i σ m A (rdO (cA (A 4) n) i).1 (rdO (cA (A 4) n) i).2 Q) : CW G k_Model_isOrder [vR M] (setMd σ M m A) Q := by
  simp only [c_Model_isOrder, e_Model_isOrder_0, e_Model_isOrder_1, e_Model_isOrder_2, e_Model_isOrder_3, kR_l, kR_r, kP_0, kP_i, kP_r, kP_n, kP_s, kP_o, kLen_I, kLen_L, kLen_R, kLdI_0, kLdI_1, kLdI_2, kLdI_3, kStI_0, kStI_1, kLdL_e, kStL_e, kLdR_e, kStR_e, kFld_e, kNth_0, kNth_s, kPut_e, fit_I, fit_Z, fit_B, fit_C, fit_A, fit_O, Option.toList_some, Option.toList_none, List.cons_append, List.nil_append, true_and, and_true, List.set_cons_zero, List.set_cons_succ, st_same, Int.toNat_natCast, Int.cast_ofNat_Int, Nat.zero_add, Nat.reduceAdd, kRcv_1, kRcv_2, kRcv_3, kRcv_0, kRcv_4, kRcv_5, setMd_set, Mdo, Mda1, Mdw1, Mda2, Mdw2, Mda3, Mdw3, Mda4, Mdw4, Mda5, Mdw5, Mda6, Mdw6, Mda7, Mdw7, Mda8, Mdw8, Mda9, Mdw9, Mda10, Mdw10, Mda11, Mdw11, Mdp3, Mdp5, Mdp6, Mdp7, Mdp8, Mdp10, Mdp16, Mdp17, Mdp18]
  have L0 := fun Q => s_letter0 (G := G) (σ := σ) (Q := Q) (k := 0) (o := -1) hG h7 h5 hn hi ht (by unfold inR; omega)
  by_cases c0 : ltA (cA (A 4) n) i = -1
  · have er : rdO (cA (A 4) n) i = (i, 0) := by
      unfold rdO
      rw [if_pos c0]
    rw [er] at hQ
    have hq := hQ (upI m 8 (b01 (i < n))) A (fun k a b => by rw [upI_at, if_neg b]) (fun _ _ => rfl) h7 (fun _ => rfl) (fun h => absurd h (by show ¬ ((0 : Int) = 1); decide)) (fun _ _ => rfl)
    rw [show (vI 0 : AV) = vI ((0 : Nat) : Int) from rfl, L0 _ (Or.inl c0)]
    simp only [e_Model_isOrder_6, e_Model_isOrder_28, e_Model_isOrder_29, kR_l, kR_r, kP_0, kP_i, kP_r, kP_n, kP_s, kP_o, kLen_I, kLen_L, kLen_R, kLdI_0, kLdI_1, kLdI_2, kLdI_3, kStI_0, kStI_1, kLdL_e, kStL_e, kLdR_e, kStR_e, kFld_e, kNth_0, kNth_s, kPut_e, fit_I, fit_Z, fit_B, fit_C, fit_A, fit_O, Option.toList_some, Option.toList_none, List.cons_append, List.nil_append, true_and, and_true, List.set_cons_zero, List.set_cons_succ, st_same, Int.toNat_natCast, Int.cast_ofNat_Int, Nat.zero_add, Nat.reduceAdd, kRcv_1, kRcv_2, kRcv_3, kRcv_0, kRcv_4, kRcv_5]
    all_goals ((repeat' (first | with_reducible refine And.intro ?_ ?_ | intro _)) <;> first | with_reducible assumption | exact True.intro | with_reducible exact hq | omega | (simp only [inR] at *; omega) | exact hq | with_reducible rfl | rfl | (simp; done) | (exfalso; simp_all; done) | skip)
  · have l0 := ltA_lt c0
    rw [show (vI 0 : AV) = vI ((0 : Nat) : Int) from rfl, s_letter1 (k := 0) hG h7 h5 hn hi ht (by unfold inR; omega) h10 htt (by omega) c0 c0]
    have e1 : (3 * m 10).toNat = 3 * t := by omega
    simp only [e_Model_isOrder_6, e_Model_isOrder_9, e_Model_isOrder_10, e_Model_isOrder_11, e_Model_isOrder_12, e_Model_isOrder_15, e_Model_isOrder_16, e_Model_isOrder_17, e_Model_isOrder_20, e_Model_isOrder_21, e_Model_isOrder_22, kR_l, kR_r, kP_0, kP_i, kP_r, kP_n, kP_s, kP_o, kLen_I, kLen_L, kLen_R, kLdI_0, kLdI_1, kLdI_2, kLdI_3, kStI_0, kStI_1, kLdL_e, kStL_e, kLdR_e, kStR_e, kFld_e, kNth_0, kNth_s, kPut_e, fit_I, fit_Z, fit_B, fit_C, fit_A, fit_O, Option.toList_some, Option.toList_none, List.cons_append, List.nil_append, true_and, and_true, List.set_cons_zero, List.set_cons_succ, st_same, Int.toNat_natCast, Int.cast_ofNat_Int, Nat.zero_add, Nat.reduceAdd, kRcv_1, kRcv_2, kRcv_3, kRcv_0, kRcv_4, kRcv_5, setMd_set, Mdo, Mda1, Mdw1, Mda2, Mdw2, Mda3, Mdw3, Mda4, Mdw4, Mda5, Mdw5, Mda6, Mdw6, Mda7, Mdw7, Mda8, Mdw8, Mda9, Mdw9, Mda10, Mdw10, Mda11, Mdw11, Mdp3, Mdp5, Mdp6, Mdp7, Mdp8, Mdp10, Mdp16, Mdp17, Mdp18, Nat.add_zero, upI_at, reduceIte, Nat.reduceEqDiff, e1, upA_at]
    refine ⟨by unfold inR; omega, (fun h => by first | exact absurd h (by omega) | exact absurd trivial h | (exfalso; simp_all; done)), fun _ => ⟨⟨by omega, by omega, by omega⟩, ?_⟩⟩
    have lb := ltA_bd (cA (A 4) n) i
    generalize hl0 : ltA (cA (A 4) n) i = x0 at *
    have H7 : upI m 7 ((i + 1 : Nat) : Int) 7 = ((i + 1 : Nat) : Int) := rfl
    have H5 : upI m 7 ((i + 1 : Nat) : Int) 5 = (n : Nat) := h5
    have H10 : upI m 7 ((i + 1 : Nat) : Int) 10 = (t : Nat) := h10
    rw [show (vI 1 : AV) = vI ((1 : Nat) : Int) from rfl]
    by_cases c1 : ltA (cA (A 4) n) (i + 1) = -1 ∨ ltA (cA (A 4) n) (i + 1) = x0
    · have er : rdO (cA (A 4) n) i = (i + 1, 0) := by
        unfold rdO
        rw [if_neg (by rw [hl0]; exact c0), if_pos (by rw [hl0]; exact c1)]
      rw [er] at hQ
      have hq := hQ (upI (upI m 7 ((i + 1 : Nat) : Int)) 8 (b01 (i + 1 < n))) (upA A 5 (upI (A 5) (3 * t) x0)) (fun k a b => by rw [upI_at, if_neg b, upI_at, if_neg a]) (fun k a => by rw [upA_at, if_neg a]) rfl (fun _ => rfl) (fun h => absurd h (by show ¬ ((0 : Int) = 1); decide)) (fun j hj => by rw [upA_at, if_pos rfl, upI_at, if_neg (by omega)])
      rw [s_letter0 (m := upI m 7 ((i + 1 : Nat) : Int)) (i := i + 1) (A := upA A 5 (upI (A 5) (3 * t) x0)) hG H7 H5 hn (by omega) ht (by unfold inR; omega) c1]
      simp only [e_Model_isOrder_25, e_Model_isOrder_28, e_Model_isOrder_29, kR_l, kR_r, kP_0, kP_i, kP_r, kP_n, kP_s, kP_o, kLen_I, kLen_L, kLen_R, kLdI_0, kLdI_1, kLdI_2, kLdI_3, kStI_0, kStI_1, kLdL_e, kStL_e, kLdR_e, kStR_e, kFld_e, kNth_0, kNth_s, kPut_e, fit_I, fit_Z, fit_B, fit_C, fit_A, fit_O, Option.toList_some, Option.toList_none, List.cons_append, List.nil_append, true_and, and_true, List.set_cons_zero, List.set_cons_succ, st_same, Int.toNat_natCast, Int.cast_ofNat_Int, Nat.zero_add, Nat.reduceAdd, kRcv_1, kRcv_2, kRcv_3, kRcv_0, kRcv_4, kRcv_5]
      all_goals ((repeat' (first | with_reducible refine And.intro ?_ ?_ | intro _)) <;> first | with_reducible assumption | exact True.intro | with_reducible exact hq | omega | (simp only [inR] at *; omega) | exact hq | with_reducible rfl | rfl | (simp; done) | (exfalso; simp_all; done) | skip)
    · have l1 := ltA_lt (fun e => c1 (Or.inl e))
      rw [s_letter1 (m := upI m 7 ((i + 1 : Nat) : Int)) (i := i + 1) (A := upA A 5 (upI (A 5) (3 * t) x0)) hG H7 H5 hn (by omega) ht (by unfold inR; omega) H10 htt (by omega) (fun e => c1 (Or.inl e)) (fun e => c1 (Or.inr e))]
      have e2 : (3 * m 10 + 2).toNat = 3 * t + 2 := by omega
      simp only [e_Model_isOrder_25, e_Model_isOrder_28, e_Model_isOrder_29, e_Model_isOrder_30, e_Model_isOrder_31, e_Model_isOrder_34, e_Model_isOrder_35, e_Model_isOrder_36, e_Model_isOrder_39, e_Model_isOrder_40, e_Model_isOrder_41, e_Model_isOrder_42, e_Model_isOrder_43, e_Model_isOrder_44, e_Model_isOrder_45, e_Model_isOrder_47, kR_l, kR_r, kP_0, kP_i, kP_r, kP_n, kP_s, kP_o, kLen_I, kLen_L, kLen_R, kLdI_0, kLdI_1, kLdI_2, kLdI_3, kStI_0, kStI_1, kLdL_e, kStL_e, kLdR_e, kStR_e, kFld_e, kNth_0, kNth_s, kPut_e, fit_I, fit_Z, fit_B, fit_C, fit_A, fit_O, Option.toList_some, Option.toList_none, List.cons_append, List.nil_append, true_and, and_true, List.set_cons_zero, List.set_cons_succ, st_same, Int.toNat_natCast, Int.cast_ofNat_Int, Nat.zero_add, Nat.reduceAdd, kRcv_1, kRcv_2, kRcv_3, kRcv_0, kRcv_4, kRcv_5, setMd_set, Mdo, Mda1, Mdw1, Mda2, Mdw2, Mda3, Mdw3, Mda4, Mdw4, Mda5, Mdw5, Mda6, Mdw6, Mda7, Mdw7, Mda8, Mdw8, Mda9, Mdw9, Mda10, Mdw10, Mda11, Mdw11, Mdp3, Mdp5, Mdp6, Mdp7, Mdp8, Mdp10, Mdp16, Mdp17, Mdp18, upI_at, reduceIte, Nat.reduceEqDiff, e2, upA_at, upA_upA]
      refine ⟨by unfold inR; omega, fun _ => ⟨⟨by omega, by omega, by omega, by omega⟩, ?_⟩, (fun h => by first | exact absurd h (by omega) | exact absurd trivial h | (exfalso; simp_all; done))⟩
      generalize hm2 : upI (upI m 7 ((i + 1 : Nat) : Int)) 7 ((i + 1 + 1 : Nat) : Int) = m2
      have K7 : m2 7 = ((i + 2 : Nat) : Int) := by rw [← hm2]; rfl
      have K5 : m2 5 = (n : Nat) := by rw [← hm2]; exact h5
      have K10 : m2 10 = (t : Nat) := by rw [← hm2]; exact h10
      have Ko : ∀ k, k ≠ 7 → k ≠ 8 → m2 k = m k := fun k a b => by rw [← hm2]; simp only [upI_at, if_neg a]
      have G0 : ∀ v : Int, upI (upI (upI (A 5) (3 * t) x0) (3 * t + 1) (ltA (cA (A 4) n) (i + 1))) (3 * t + 2) v (3 * t) = x0 ∧ upI (upI (upI (A 5) (3 * t) x0) (3 * t + 1) (ltA (cA (A 4) n) (i + 1))) (3 * t + 2) v (3 * t + 1) = ltA (cA (A 4) n) (i + 1) ∧ upI (upI (upI (A 5) (3 * t) x0) (3 * t + 1) (ltA (cA (A 4) n) (i + 1))) (3 * t + 2) v (3 * t + 2) = v ∧ ∀ j, j < 3 * t → upI (upI (upI (A 5) (3 * t) x0) (3 * t + 1) (ltA (cA (A 4) n) (i + 1))) (3 * t + 2) v j = A 5 j := by
        intro v
        refine ⟨?_, ?_, ?_, fun j hj => ?_⟩
        · simp only [upI_at]
          rw [if_neg (by omega), if_neg (by omega), if_pos trivial]
        · simp only [upI_at]
          rw [if_neg (by omega), if_pos trivial]
        · simp only [upI_at, if_true]
        · simp only [upI_at]
          rw [if_neg (by omega), if_neg (by omega), if_neg (by omega)]
      have Gw : ∀ v w : Int, upI (upI (upI (upI (A 5) (3 * t) x0) (3 * t + 1) (ltA (cA (A 4) n) (i + 1))) (3 * t + 2) v) (3 * t + 2) w = upI (upI (upI (A 5) (3 * t) x0) (3 * t + 1) (ltA (cA (A 4) n) (i + 1))) (3 * t + 2) w := fun v w => upI_upI _ _ _ _
      generalize hF : upI (upI (upI (A 5) (3 * t) x0) (3 * t + 1) (ltA (cA (A 4) n) (i + 1))) (3 * t + 2) = F at *
      clear hm2 H7 H5 H10
      by_cases c2 : cA (A 4) n (i + 2) = 58
      · have l2 := cA_lt (t := A 4) (n := n) (i := i + 2) (by rw [c2]; decide)
        rw [s_sg1 (m := m2) (i := i + 2) (A := upA A 5 (F (-1))) hG K7 K5 hn (by omega) ht (by omega) c2]
        generalize hm3 : upI m2 7 ((i + 2 + 1 : Nat) : Int) = m3
        have P7 : m3 7 = ((i + 3 : Nat) : Int) := by rw [← hm3]; rfl
        have P5 : m3 5 = (n : Nat) := by rw [← hm3]; exact K5
        have P10 : m3 10 = (t : Nat) := by rw [← hm3]; exact K10
        have Po : ∀ k, k ≠ 7 → k ≠ 8 → m3 k = m k := fun k a b => by rw [← hm3, upI_at, if_neg a, Ko k a b]
        clear hm3 K7 K5 K10 Ko
        have hcb := cA_bd ht n (i + 3)
        have er : rdO (cA (A 4) n) i = (i + 3 + mtO (cA (A 4) n) (i + 3), if 0 < mtO (cA (A 4) n) (i + 3) ∧ mtO (cA (A 4) n) (i + 3) = wlN (dB (cA (A 4) n (i + 3))) then 1 else 0) := by
          unfold rdO
          rw [if_neg (by rw [hl0]; exact c0), if_neg (by rw [hl0]; exact c1), if_neg (by omega)]
        rw [er] at hQ
        have iA : ∀ (F' : Nat → Int) (sg : Int) (Q : (Option AV ⊕ Nat) → AS → Prop), 1 ≤ sg ∧ sg ≤ 126 → CW G k_Model_isAt [vR M, vI sg] (setMd σ M m3 (upA A 5 F')) Q = Q (.inl (some (vI (b01 (cA (A 4) n (i + 3) = sg))))) (setMd σ M m3 (upA A 5 F')) := fun F' sg Q hsg => s_isAt (A := upA A 5 F') P7 P5 hn (by omega) ht hsg
        have e3 : (3 * m3 10 + 2).toNat = 3 * t + 2 := by omega
        simp only [e_Model_isOrder_50, e_Model_isOrder_53, e_Model_isOrder_54, e_Model_isOrder_55, e_Model_isOrder_56, e_Model_isOrder_58, kR_l, kR_r, kP_0, kP_i, kP_r, kP_n, kP_s, kP_o, kLen_I, kLen_L, kLen_R, kLdI_0, kLdI_1, kLdI_2, kLdI_3, kStI_0, kStI_1, kLdL_e, kStL_e, kLdR_e, kStR_e, kFld_e, kNth_0, kNth_s, kPut_e, fit_I, fit_Z, fit_B, fit_C, fit_A, fit_O, Option.toList_some, Option.toList_none, List.cons_append, List.nil_append, true_and, and_true, List.set_cons_zero, List.set_cons_succ, st_same, Int.toNat_natCast, Int.cast_ofNat_Int, Nat.zero_add, Nat.reduceAdd, kRcv_1, kRcv_2, kRcv_3, kRcv_0, kRcv_4, kRcv_5, setMd_set, Mdo, Mda1, Mdw1, Mda2, Mdw2, Mda3, Mdw3, Mda4, Mdw4, Mda5, Mdw5, Mda6, Mdw6, Mda7, Mdw7, Mda8, Mdw8, Mda9, Mdw9, Mda10, Mdw10, Mda11, Mdw11, Mdp3, Mdp5, Mdp6, Mdp7, Mdp8, Mdp10, Mdp16, Mdp17, Mdp18, iA _ 33 _ (by omega)]
        refine ⟨by unfold inR; omega, fun _ => ?_, (fun h => by first | exact absurd h (by omega) | exact absurd trivial h | (exfalso; simp_all; done))⟩
        by_cases c33 : cA (A 4) n (i + 3) = 33
        · have hd : dB (cA (A 4) n (i + 3)) = 4 := by rw [c33]; decide
          have hm1 : mtO (cA (A 4) n) (i + 3) = 1 := by
            unfold mtO
            rw [hd]
            show (if cA (A 4) n (i + 3 + 0) = wlC 4 0 then _ else _) = 1
            rw [if_pos (by rw [Nat.add_zero, c33]; decide)]
            rfl
          rw [hm1, hd, if_pos (by decide)] at hQ
          have ev : ((i + 3 + 1 : Nat) : Int) = m3 7 + 1 := by omega
          have hq := hQ (upI m3 7 (m3 7 + 1)) (upA A 5 (F (-1))) (fun k a b => by rw [upI_at, if_neg a, Po k a b]) (fun k a => by rw [upA_at, if_neg a]) ev.symm (fun h => absurd h (by show ¬ ((1 : Int) = 0); decide)) (fun _ => by rw [hd, if_pos rfl]; exact ⟨by rw [hl0]; exact (G0 (-1)).1, (G0 (-1)).2.1, (G0 (-1)).2.2.1⟩) (fun j hj => (G0 (-1)).2.2.2 j hj)
          rw [b01_t c33]
          clear er
          simp only [e_Model_isOrder_61, e_Model_isOrder_64, e_Model_isOrder_65, e_Model_isOrder_66, e_Model_isOrder_69, e_Model_isOrder_70, e_Model_isOrder_71, e_Model_isOrder_74, e_Model_isOrder_75, kR_l, kR_r, kP_0, kP_i, kP_r, kP_n, kP_s, kP_o, kLen_I, kLen_L, kLen_R, kLdI_0, kLdI_1, kLdI_2, kLdI_3, kStI_0, kStI_1, kLdL_e, kStL_e, kLdR_e, kStR_e, kFld_e, kNth_0, kNth_s, kPut_e, fit_I, fit_Z, fit_B, fit_C, fit_A, fit_O, Option.toList_some, Option.toList_none, List.cons_append, List.nil_append, true_and, and_true, List.set_cons_zero, List.set_cons_succ, st_same, Int.toNat_natCast, Int.cast_ofNat_Int, Nat.zero_add, Nat.reduceAdd, kRcv_1, kRcv_2, kRcv_3, kRcv_0, kRcv_4, kRcv_5, setMd_set, Mdo, Mda1, Mdw1, Mda2, Mdw2, Mda3, Mdw3, Mda4, Mdw4, Mda5, Mdw5, Mda6, Mdw6, Mda7, Mdw7, Mda8, Mdw8, Mda9, Mdw9, Mda10, Mdw10, Mda11, Mdw11, Mdp3, Mdp5, Mdp6, Mdp7, Mdp8, Mdp10, Mdp16, Mdp17, Mdp18, List.length_cons, List.length_nil]
          all_goals ((repeat' (first | with_reducible refine And.intro ?_ ?_ | intro _)) <;> first | with_reducible assumption | exact True.intro | with_reducible exact hq | omega | (simp only [inR] at *; omega) | exact hq | with_reducible rfl | rfl | (simp; done) | (exfalso; simp_all; done) | skip)
        · rw [b01_f c33]
          simp only [e_Model_isOrder_61, e_Model_isOrder_76, e_Model_isOrder_77, e_Model_isOrder_79, kR_l, kR_r, kP_0, kP_i, kP_r, kP_n, kP_s, kP_o, kLen_I, kLen_L, kLen_R, kLdI_0, kLdI_1, kLdI_2, kLdI_3, kStI_0, kStI_1, kLdL_e, kStL_e, kLdR_e, kStR_e, kFld_e, kNth_0, kNth_s, kPut_e, fit_I, fit_Z, fit_B, fit_C, fit_A, fit_O, Option.toList_some, Option.toList_none, List.cons_append, List.nil_append, true_and, and_true, List.set_cons_zero, List.set_cons_succ, st_same, Int.toNat_natCast, Int.cast_ofNat_Int, Nat.zero_add, Nat.reduceAdd, kRcv_1, kRcv_2, kRcv_3, kRcv_0, kRcv_4, kRcv_5, setMd_set, Mdo, Mda1, Mdw1, Mda2, Mdw2, Mda3, Mdw3, Mda4, Mdw4, Mda5, Mdw5, Mda6, Mdw6, Mda7, Mdw7, Mda8, Mdw8, Mda9, Mdw9, Mda10, Mdw10, Mda11, Mdw11, Mdp3, Mdp5, Mdp6, Mdp7, Mdp8, Mdp10, Mdp16, Mdp17, Mdp18, iA _ 110 _ (by omega)]
          refine ⟨by unfold inR; omega, fun _ => ?_, (fun h => by first | exact absurd h (by omega) | exact absurd trivial h | (exfalso; simp_all; done))⟩
          have fin : ∀ (d : Int) (L mt : Nat), dB (cA (A 4) n (i + 3)) = d → d ≠ 4 → mtc (cA (A 4) n) (wlC d) (i + 3) L 0 = mtO (cA (A 4) n) (i + 3) → L = wlN d → 0 < L → WdQ M n σ m3 (upA A 5 (F d)) (i + 3 + mtc (cA (A 4) n) (wlC d) (i + 3) L 0) (if mtc (cA (A 4) n) (wlC d) (i + 3) L 0 = L then 1 else 0) Q := by
            intro d L mt hd hd4 hm hL hLp m' g1 g2 g3
            rw [hm] at g2 g3 ⊢
            rw [hd, ← hL] at hQ
            have e9 : (if 0 < mtO (cA (A 4) n) (i + 3) ∧ mtO (cA (A 4) n) (i + 3) = L then (1 : Int) else 0) = if mtO (cA (A 4) n) (i + 3) = L then 1 else 0 := by
              by_cases z : mtO (cA (A 4) n) (i + 3) = L
              · rw [if_pos z, if_pos ⟨by omega, z⟩]
              · rw [if_neg z, if_neg (fun y => z y.2)]
            rw [e9] at hQ
            exact hQ m' (upA A 5 (F d)) (fun k a b => by rw [g1 k a b, Po k a b]) (fun k a => by rw [upA_at, if_neg a]) g2 g3 (fun _ => by rw [hd, if_neg hd4]; exact ⟨by rw [hl0]; exact (G0 d).1, (G0 d).2.1, (G0 d).2.2.1⟩) (fun j hj => (G0 d).2.2.2 j hj)
          have z01 : ∀ (p : Prop) [Decidable p], (if p then (1 : Int) else 0) = 0 ∨ (if p then (1 : Int) else 0) = 1 := by
            intro p _
            split
            · exact Or.inr rfl
            · exact Or.inl rfl
          have t0 : am_tsw 132 66 0 2 [28, 41, 53] 0 = 160 := by decide
          have t1 : am_tsw 132 66 0 2 [28, 41, 53] 1 = 173 := by decide
          have t2 : am_tsw 132 66 0 2 [28, 41, 53] 2 = 185 := by decide
          have t3 : am_tsw 132 66 0 2 [28, 41, 53] 3 = 198 := by decide
          by_cases c110 : cA (A 4) n (i + 3) = 110
          · have hd : dB (cA (A 4) n (i + 3)) = 0 := by rw [c110]; decide
            rw [b01_t c110]
            clear er
            simp only [e_Model_isOrder_82, e_Model_isOrder_85, e_Model_isOrder_86, e_Model_isOrder_116, e_Model_isOrder_117, e_Model_isOrder_118, e_Model_isOrder_121, e_Model_isOrder_122, e_Model_isOrder_123, e_Model_isOrder_126, e_Model_isOrder_127, e_Model_isOrder_128, e_Model_isOrder_129, e_Model_isOrder_130, e_Model_isOrder_131, e_Model_isOrder_132, e_Model_isOrder_160, e_Model_isOrder_161, e_Model_isOrder_163, e_Model_isOrder_165, e_Model_isOrder_167, e_Model_isOrder_169, kR_l, kR_r, kP_0, kP_i, kP_r, kP_n, kP_s, kP_o, kLen_I, kLen_L, kLen_R, kLdI_0, kLdI_1, kLdI_2, kLdI_3, kStI_0, kStI_1, kLdL_e, kStL_e, kLdR_e, kStR_e, kFld_e, kNth_0, kNth_s, kPut_e, fit_I, fit_Z, fit_B, fit_C, fit_A, fit_O, Option.toList_some, Option.toList_none, List.cons_append, List.nil_append, true_and, and_true, List.set_cons_zero, List.set_cons_succ, st_same, Int.toNat_natCast, Int.cast_ofNat_Int, Nat.zero_add, Nat.reduceAdd, kRcv_1, kRcv_2, kRcv_3, kRcv_0, kRcv_4, kRcv_5, setMd_set, Mdo, Mda1, Mdw1, Mda2, Mdw2, Mda3, Mdw3, Mda4, Mdw4, Mda5, Mdw5, Mda6, Mdw6, Mda7, Mdw7, Mda8, Mdw8, Mda9, Mdw9, Mda10, Mdw10, Mda11, Mdw11, Mdp3, Mdp5, Mdp6, Mdp7, Mdp8, Mdp10, Mdp16, Mdp17, Mdp18, e3, upA_upA, upA_at, reduceIte, Gw, t0]
            all_goals ((repeat' (first | with_reducible refine And.intro ?_ ?_ | intro _)) <;> first | with_reducible assumption | exact True.intro | omega | (simp only [inR] at *; omega) | exact absurd True.intro (by with_reducible assumption) | (with_reducible show WP _ _ _ _ _ _ _) | (with_reducible show CW _ _ _ _ _) | with_reducible rfl | rfl | (simp; done) | (exfalso; simp_all; done) | skip)
            refine s_isWord (w := wlC 0) (L := 4) (i := i + 3) (A := upA A 5 (F 0)) hG P7 P5 hn (by omega) ht (by decide) (Or.inl ⟨rfl, rfl⟩) (fun m' g1 g2 g3 => ?_)
            simp only [e_Model_isOrder_172, kR_l, kR_r, kP_0, kP_i, kP_r, kP_n, kP_s, kP_o, kLen_I, kLen_L, kLen_R, kLdI_0, kLdI_1, kLdI_2, kLdI_3, kStI_0, kStI_1, kLdL_e, kStL_e, kLdR_e, kStR_e, kFld_e, kNth_0, kNth_s, kPut_e, fit_I, fit_Z, fit_B, fit_C, fit_A, fit_O, Option.toList_some, Option.toList_none, List.cons_append, List.nil_append, true_and, and_true, List.set_cons_zero, List.set_cons_succ, st_same, Int.toNat_natCast, Int.cast_ofNat_Int, Nat.zero_add, Nat.reduceAdd, kRcv_1, kRcv_2, kRcv_3, kRcv_0, kRcv_4, kRcv_5]
            exact ⟨z01 _, fin 0 4 0 hd (by decide) (by unfold mtO; rw [hd]; rfl) (by decide) (by decide) m' g1 g2 g3⟩
          · rw [b01_f c110]
            simp only [e_Model_isOrder_82, e_Model_isOrder_89, e_Model_isOrder_90, e_Model_isOrder_92, kR_l, kR_r, kP_0, kP_i, kP_r, kP_n, kP_s, kP_o, kLen_I, kLen_L, kLen_R, kLdI_0, kLdI_1, kLdI_2, kLdI_3, kStI_0, kStI_1, kLdL_e, kStL_e, kLdR_e, kStR_e, kFld_e, kNth_0, kNth_s, kPut_e, fit_I, fit_Z, fit_B, fit_C, fit_A, fit_O, Option.toList_some, Option.toList_none, List.cons_append, List.nil_append, true_and, and_true, List.set_cons_zero, List.set_cons_succ, st_same, Int.toNat_natCast, Int.cast_ofNat_Int, Nat.zero_add, Nat.reduceAdd, kRcv_1, kRcv_2, kRcv_3, kRcv_0, kRcv_4, kRcv_5, setMd_set, Mdo, Mda1, Mdw1, Mda2, Mdw2, Mda3, Mdw3, Mda4, Mdw4, Mda5, Mdw5, Mda6, Mdw6, Mda7, Mdw7, Mda8, Mdw8, Mda9, Mdw9, Mda10, Mdw10, Mda11, Mdw11, Mdp3, Mdp5, Mdp6, Mdp7, Mdp8, Mdp10, Mdp16, Mdp17, Mdp18, iA _ 111 _ (by omega)]
            refine ⟨by unfold inR; omega, fun _ => ?_, (fun h => by first | exact absurd h (by omega) | exact absurd trivial h | (exfalso; simp_all; done))⟩
            by_cases c111 : cA (A 4) n (i + 3) = 111
            · have hd : dB (cA (A 4) n (i + 3)) = 1 := by rw [c111]; decide
              rw [b01_t c111]
              clear er
              simp only [e_Model_isOrder_95, e_Model_isOrder_98, e_Model_isOrder_99, e_Model_isOrder_116, e_Model_isOrder_117, e_Model_isOrder_118, e_Model_isOrder_121, e_Model_isOrder_122, e_Model_isOrder_123, e_Model_isOrder_126, e_Model_isOrder_127, e_Model_isOrder_128, e_Model_isOrder_129, e_Model_isOrder_130, e_Model_isOrder_131, e_Model_isOrder_132, e_Model_isOrder_173, e_Model_isOrder_174, e_Model_isOrder_176, e_Model_isOrder_178, e_Model_isOrder_180, e_Model_isOrder_181, kR_l, kR_r, kP_0, kP_i, kP_r, kP_n, kP_s, kP_o, kLen_I, kLen_L, kLen_R, kLdI_0, kLdI_1, kLdI_2, kLdI_3, kStI_0, kStI_1, kLdL_e, kStL_e, kLdR_e, kStR_e, kFld_e, kNth_0, kNth_s, kPut_e, fit_I, fit_Z, fit_B, fit_C, fit_A, fit_O, Option.toList_some, Option.toList_none, List.cons_append, List.nil_append, true_and, and_true, List.set_cons_zero, List.set_cons_succ, st_same, Int.toNat_natCast, Int.cast_ofNat_Int, Nat.zero_add, Nat.reduceAdd, kRcv_1, kRcv_2, kRcv_3, kRcv_0, kRcv_4, kRcv_5, setMd_set, Mdo, Mda1, Mdw1, Mda2, Mdw2, Mda3, Mdw3, Mda4, Mdw4, Mda5, Mdw5, Mda6, Mdw6, Mda7, Mdw7, Mda8, Mdw8, Mda9, Mdw9, Mda10, Mdw10, Mda11, Mdw11, Mdp3, Mdp5, Mdp6, Mdp7, Mdp8, Mdp10, Mdp16, Mdp17, Mdp18, e3, upA_upA, upA_at, reduceIte, Gw, t1]
              all_goals ((repeat' (first | with_reducible refine And.intro ?_ ?_ | intro _)) <;> first | with_reducible assumption | exact True.intro | omega | (simp only [inR] at *; omega) | exact absurd True.intro (by with_reducible assumption) | (with_reducible show WP _ _ _ _ _ _ _) | (with_reducible show CW _ _ _ _ _) | with_reducible rfl | rfl | (simp; done) | (exfalso; simp_all; done) | skip)
              refine s_isWord (w := wlC 1) (L := 3) (i := i + 3) (A := upA A 5 (F 1)) hG P7 P5 hn (by omega) ht (by decide) (Or.inr ⟨rfl, rfl⟩) (fun m' g1 g2 g3 => ?_)
              simp only [e_Model_isOrder_184, kR_l, kR_r, kP_0, kP_i, kP_r, kP_n, kP_s, kP_o, kLen_I, kLen_L, kLen_R, kLdI_0, kLdI_1, kLdI_2, kLdI_3, kStI_0, kStI_1, kLdL_e, kStL_e, kLdR_e, kStR_e, kFld_e, kNth_0, kNth_s, kPut_e, fit_I, fit_Z, fit_B, fit_C, fit_A, fit_O, Option.toList_some, Option.toList_none, List.cons_append, List.nil_append, true_and, and_true, List.set_cons_zero, List.set_cons_succ, st_same, Int.toNat_natCast, Int.cast_ofNat_Int, Nat.zero_add, Nat.reduceAdd, kRcv_1, kRcv_2, kRcv_3, kRcv_0, kRcv_4, kRcv_5]
              exact ⟨z01 _, fin 1 3 0 hd (by decide) (by unfold mtO; rw [hd]; rfl) (by decide) (by decide) m' g1 g2 g3⟩
            · rw [b01_f c111]
              simp only [e_Model_isOrder_95, e_Model_isOrder_102, e_Model_isOrder_103, e_Model_isOrder_105, kR_l, kR_r, kP_0, kP_i, kP_r, kP_n, kP_s, kP_o, kLen_I, kLen_L, kLen_R, kLdI_0, kLdI_1, kLdI_2, kLdI_3, kStI_0, kStI_1, kLdL_e, kStL_e, kLdR_e, kStR_e, kFld_e, kNth_0, kNth_s, kPut_e, fit_I, fit_Z, fit_B, fit_C, fit_A, fit_O, Option.toList_some, Option.toList_none, List.cons_append, List.nil_append, true_and, and_true, List.set_cons_zero, List.set_cons_succ, st_same, Int.toNat_natCast, Int.cast_ofNat_Int, Nat.zero_add, Nat.reduceAdd, kRcv_1, kRcv_2, kRcv_3, kRcv_0, kRcv_4, kRcv_5, setMd_set, Mdo, Mda1, Mdw1, Mda2, Mdw2, Mda3, Mdw3, Mda4, Mdw4, Mda5, Mdw5, Mda6, Mdw6, Mda7, Mdw7, Mda8, Mdw8, Mda9, Mdw9, Mda10, Mdw10, Mda11, Mdw11, Mdp3, Mdp5, Mdp6, Mdp7, Mdp8, Mdp10, Mdp16, Mdp17, Mdp18, iA _ 112 _ (by omega)]
              refine ⟨by unfold inR; omega, fun _ => ?_, (fun h => by first | exact absurd h (by omega) | exact absurd trivial h | (exfalso; simp_all; done))⟩
              by_cases c112 : cA (A 4) n (i + 3) = 112
              · have hd : dB (cA (A 4) n (i + 3)) = 2 := by rw [c112]; decide
                rw [b01_t c112]
                clear er
                simp only [e_Model_isOrder_108, e_Model_isOrder_111, e_Model_isOrder_112, e_Model_isOrder_116, e_Model_isOrder_117, e_Model_isOrder_118, e_Model_isOrder_121, e_Model_isOrder_122, e_Model_isOrder_123, e_Model_isOrder_126, e_Model_isOrder_127, e_Model_isOrder_128, e_Model_isOrder_129, e_Model_isOrder_130, e_Model_isOrder_131, e_Model_isOrder_132, e_Model_isOrder_185, e_Model_isOrder_186, e_Model_isOrder_188, e_Model_isOrder_190, e_Model_isOrder_192, e_Model_isOrder_194, kR_l, kR_r, kP_0, kP_i, kP_r, kP_n, kP_s, kP_o, kLen_I, kLen_L, kLen_R, kLdI_0, kLdI_1, kLdI_2, kLdI_3, kStI_0, kStI_1, kLdL_e, kStL_e, kLdR_e, kStR_e, kFld_e, kNth_0, kNth_s, kPut_e, fit_I, fit_Z, fit_B, fit_C, fit_A, fit_O, Option.toList_some, Option.toList_none, List.cons_append, List.nil_append, true_and, and_true, List.set_cons_zero, List.set_cons_succ, st_same, Int.toNat_natCast, Int.cast_ofNat_Int, Nat.zero_add, Nat.reduceAdd, kRcv_1, kRcv_2, kRcv_3, kRcv_0, kRcv_4, kRcv_5, setMd_set, Mdo, Mda1, Mdw1, Mda2, Mdw2, Mda3, Mdw3, Mda4, Mdw4, Mda5, Mdw5, Mda6, Mdw6, Mda7, Mdw7, Mda8, Mdw8, Mda9, Mdw9, Mda10, Mdw10, Mda11, Mdw11, Mdp3, Mdp5, Mdp6, Mdp7, Mdp8, Mdp10, Mdp16, Mdp17, Mdp18, e3, upA_upA, upA_at, reduceIte, Gw, t2]
                all_goals ((repeat' (first | with_reducible refine And.intro ?_ ?_ | intro _)) <;> first | with_reducible assumption | exact True.intro | omega | (simp only [inR] at *; omega) | exact absurd True.intro (by with_reducible assumption) | (with_reducible show WP _ _ _ _ _ _ _) | (with_reducible show CW _ _ _ _ _) | with_reducible rfl | rfl | (simp; done) | (exfalso; simp_all; done) | skip)
                refine s_isWord (w := wlC 2) (L := 4) (i := i + 3) (A := upA A 5 (F 2)) hG P7 P5 hn (by omega) ht (by decide) (Or.inl ⟨rfl, rfl⟩) (fun m' g1 g2 g3 => ?_)
                simp only [e_Model_isOrder_197, kR_l, kR_r, kP_0, kP_i, kP_r, kP_n, kP_s, kP_o, kLen_I, kLen_L, kLen_R, kLdI_0, kLdI_1, kLdI_2, kLdI_3, kStI_0, kStI_1, kLdL_e, kStL_e, kLdR_e, kStR_e, kFld_e, kNth_0, kNth_s, kPut_e, fit_I, fit_Z, fit_B, fit_C, fit_A, fit_O, Option.toList_some, Option.toList_none, List.cons_append, List.nil_append, true_and, and_true, List.set_cons_zero, List.set_cons_succ, st_same, Int.toNat_natCast, Int.cast_ofNat_Int, Nat.zero_add, Nat.reduceAdd, kRcv_1, kRcv_2, kRcv_3, kRcv_0, kRcv_4, kRcv_5]
                exact ⟨z01 _, fin 2 4 0 hd (by decide) (by unfold mtO; rw [hd]; rfl) (by decide) (by decide) m' g1 g2 g3⟩
              · rw [b01_f c112]
                clear er
                simp only [e_Model_isOrder_108, e_Model_isOrder_115, e_Model_isOrder_116, e_Model_isOrder_117, e_Model_isOrder_118, e_Model_isOrder_121, e_Model_isOrder_122, e_Model_isOrder_123, e_Model_isOrder_126, e_Model_isOrder_127, e_Model_isOrder_128, e_Model_isOrder_129, e_Model_isOrder_130, e_Model_isOrder_131, e_Model_isOrder_132, e_Model_isOrder_198, e_Model_isOrder_199, e_Model_isOrder_201, e_Model_isOrder_203, e_Model_isOrder_205, e_Model_isOrder_207, kR_l, kR_r, kP_0, kP_i, kP_r, kP_n, kP_s, kP_o, kLen_I, kLen_L, kLen_R, kLdI_0, kLdI_1, kLdI_2, kLdI_3, kStI_0, kStI_1, kLdL_e, kStL_e, kLdR_e, kStR_e, kFld_e, kNth_0, kNth_s, kPut_e, fit_I, fit_Z, fit_B, fit_C, fit_A, fit_O, Option.toList_some, Option.toList_none, List.cons_append, List.nil_append, true_and, and_true, List.set_cons_zero, List.set_cons_succ, st_same, Int.toNat_natCast, Int.cast_ofNat_Int, Nat.zero_add, Nat.reduceAdd, kRcv_1, kRcv_2, kRcv_3, kRcv_0, kRcv_4, kRcv_5, setMd_set, Mdo, Mda1, Mdw1, Mda2, Mdw2, Mda3, Mdw3, Mda4, Mdw4, Mda5, Mdw5, Mda6, Mdw6, Mda7, Mdw7, Mda8, Mdw8, Mda9, Mdw9, Mda10, Mdw10, Mda11, Mdw11, Mdp3, Mdp5, Mdp6, Mdp7, Mdp8, Mdp10, Mdp16, Mdp17, Mdp18, e3, upA_upA, upA_at, reduceIte, Gw, t3]
                all_goals ((repeat' (first | with_reducible refine And.intro ?_ ?_ | intro _)) <;> first | with_reducible assumption | exact True.intro | omega | (simp only [inR] at *; omega) | exact absurd True.intro (by with_reducible assumption) | (with_reducible show WP _ _ _ _ _ _ _) | (with_reducible show CW _ _ _ _ _) | with_reducible rfl | rfl | (simp; done) | (exfalso; simp_all; done) | skip)
                refine s_isWord (w := wlC 3) (L := 4) (i := i + 3) (A := upA A 5 (F 3)) hG P7 P5 hn (by omega) ht (by decide) (Or.inl ⟨rfl, rfl⟩) (fun m' g1 g2 g3 => ?_)
                simp only [e_Model_isOrder_210, kR_l, kR_r, kP_0, kP_i, kP_r, kP_n, kP_s, kP_o, kLen_I, kLen_L, kLen_R, kLdI_0, kLdI_1, kLdI_2, kLdI_3, kStI_0, kStI_1, kLdL_e, kStL_e, kLdR_e, kStR_e, kFld_e, kNth_0, kNth_s, kPut_e, fit_I, fit_Z, fit_B, fit_C, fit_A, fit_O, Option.toList_some, Option.toList_none, List.cons_append, List.nil_append, true_and, and_true, List.set_cons_zero, List.set_cons_succ, st_same, Int.toNat_natCast, Int.cast_ofNat_Int, Nat.zero_add, Nat.reduceAdd, kRcv_1, kRcv_2, kRcv_3, kRcv_0, kRcv_4, kRcv_5]
                by_cases c99 : cA (A 4) n (i + 3) = 99
                · have hd : dB (cA (A 4) n (i + 3)) = 3 := by rw [c99]; decide
                  exact ⟨z01 _, fin 3 4 0 hd (by decide) (by unfold mtO; rw [hd]; rfl) (by decide) (by decide) m' g1 g2 g3⟩
                · have hd : dB (cA (A 4) n (i + 3)) = -1 := by
                    unfold dB
                    rw [if_neg c110, if_neg c111, if_neg c112, if_neg c99, if_neg c33]
                  have hm0 : mtO (cA (A 4) n) (i + 3) = 0 := by
                    unfold mtO
                    rw [hd]
                    rfl
                  have hm3 : mtc (cA (upA A 5 (F 3) 4) n) (wlC 3) (i + 3) 4 0 = 0 := by
                    show (if cA (A 4) n (i + 3 + 0) = wlC 3 0 then _ else 0) = 0
                    rw [if_neg (by rw [Nat.add_zero]; exact c99)]
                  rw [hm3] at g2 g3 ⊢
                  rw [hm0, if_neg (by omega)] at hQ
                  exact ⟨z01 _, hQ m' (upA A 5 (F 3)) (fun k a b => by rw [g1 k a b, Po k a b]) (fun k a => by rw [upA_at, if_neg a]) g2 g3 (fun h => absurd h (by show ¬ ((0 : Int) = 1); decide)) (fun j hj => (G0 3).2.2.2 j hj)⟩
      · have er : rdO (cA (A 4) n) i = (i + 2, 0) := by
          unfold rdO
          rw [if_neg (by rw [hl0]; exact c0), if_neg (by rw [hl0]; exact c1), if_pos c2]
        rw [er] at hQ
        have hq := hQ (upI m2 8 (b01 (i + 2 < n))) (upA A 5 (F (-1))) (fun k a b => by rw [upI_at, if_neg b, Ko k a b]) (fun k a => by rw [upA_at, if_neg a]) K7 (fun _ => rfl) (fun h => absurd h (by show ¬ ((0 : Int) = 1); decide)) (fun j hj => (G0 (-1)).2.2.2 j hj)
        rw [s_sg0 (m := m2) (i := i + 2) (A := upA A 5 (F (-1))) hG K7 K5 hn (by omega) ht (by omega) c2]
        simp only [e_Model_isOrder_50, e_Model_isOrder_53, e_Model_isOrder_54, kR_l, kR_r, kP_0, kP_i, kP_r, kP_n, kP_s, kP_o, kLen_I, kLen_L, kLen_R, kLdI_0, kLdI_1, kLdI_2, kLdI_3, kStI_0, kStI_1, kLdL_e, kStL_e, kLdR_e, kStR_e, kFld_e, kNth_0, kNth_s, kPut_e, fit_I, fit_Z, fit_B, fit_C, fit_A, fit_O, Option.toList_some, Option.toList_none, List.cons_append, List.nil_append, true_and, and_true, List.set_cons_zero, List.set_cons_succ, st_same, Int.toNat_natCast, Int.cast_ofNat_Int, Nat.zero_add, Nat.reduceAdd, kRcv_1, kRcv_2, kRcv_3, kRcv_0, kRcv_4, kRcv_5]
        all_goals ((repeat' (first | with_reducible refine And.intro ?_ ?_ | intro _)) <;> first | with_reducible assumption | exact True.intro | with_reducible exact hq | omega | (simp only [inR] at *; omega) | exact hq | with_reducible rfl | rfl | (simp; done) | (exfalso; simp_all; done) | skip)
end TX2
