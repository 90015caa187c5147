/-! THE CLASS'S METHODS: ways dug, filled; the buffer; undo; run -/
theorem st_idc {G : Nat → Nat} {σ : AS} {Q : (Option AV ⊕ Nat) → AS → Prop} {a k : Nat} {as : List AV} {o : AO} (h : σ.1 a = some o) (hk : CW G k as (am_st σ a o) Q) : CW G k as σ Q := by
  rw [st_id σ a o h] at hk
  exact hk
section CP2
variable {G : Nat → Nat} {σ : AS} {Q : (Option AV ⊕ Nat) → AS → Prop} {B kp n : Nat} {s p t : Nat → Int}
theorem WyI.obj {W : Nat} {m : Nat → Int} {A : Nat → Nat → Int} (h : IsWy σ W m A) (P : Prop) : kRcv (σ.1 W) 3 P = P := by
  rw [h.1]
  exact kRcv_e _ _ (by decide)
theorem o_carve1 {a b : Int} (hC : ClsI G σ B s kp p n t) (hI : GdI s kp p n t) (ha : inR a) (hb : inR b) (h : mayM s a b 1 = 1) : CW G k_Cp_carve [vR B, vI a, vI b] σ Q = Q (.inr 2) (am_th σ) := by
  refine CW.det' fun R hR => ?_
  have hB : σ.1 B = _ := hC.1
  simp only [c_Cp_carve, e_Cp_carve_0, e_Cp_carve_1, e_Cp_carve_2, e_Cp_carve_3, kR_l, kR_r, kP_0, kP_i, kP_r, kP_n, kP_s, kP_o, kLen_I, kLen_L, kLen_R, kLdI_0, kLdI_1, kLdI_2, kLdI_3, kStI_0, kStI_1, kLdL_e, kStL_e, kLdR_e, kStR_e, kFld_e, kNth_0, kNth_s, kPut_e, fit_I, fit_Z, fit_B, fit_C, fit_A, fit_O, Option.toList_some, Option.toList_none, List.cons_append, List.nil_append, true_and, and_true, List.set_cons_zero, List.set_cons_succ, st_same, Int.toNat_natCast, Int.cast_ofNat_Int, Nat.zero_add, Nat.reduceAdd, kRcv_1, kRcv_2, kRcv_3, kRcv_0, kRcv_4, kRcv_5, hB]
  rw [q_Two1 hC hI ha hb h]
  exact hR
theorem o_carve2 {a b : Int} (hC : ClsI G σ B s kp p n t) (hI : GdI s kp p n t) (ha : inR a) (hb : inR b) (h : mayM s a b 1 = 2) : CW G k_Cp_carve [vR B, vI a, vI b] σ Q = Q (.inr 0) (am_th σ) := by
  refine CW.det' fun R hR => ?_
  have hB : σ.1 B = _ := hC.1
  simp only [c_Cp_carve, e_Cp_carve_0, e_Cp_carve_1, e_Cp_carve_2, e_Cp_carve_3, kR_l, kR_r, kP_0, kP_i, kP_r, kP_n, kP_s, kP_o, kLen_I, kLen_L, kLen_R, kLdI_0, kLdI_1, kLdI_2, kLdI_3, kStI_0, kStI_1, kLdL_e, kStL_e, kLdR_e, kStR_e, kFld_e, kNth_0, kNth_s, kPut_e, fit_I, fit_Z, fit_B, fit_C, fit_A, fit_O, Option.toList_some, Option.toList_none, List.cons_append, List.nil_append, true_and, and_true, List.set_cons_zero, List.set_cons_succ, st_same, Int.toNat_natCast, Int.cast_ofNat_Int, Nat.zero_add, Nat.reduceAdd, kRcv_1, kRcv_2, kRcv_3, kRcv_0, kRcv_4, kRcv_5, hB]
  rw [q_Two2 hC hI ha hb h]
  exact hR
theorem o_carve3 {a b : Nat} (hC : ClsI G σ B s kp p n t) (hI : GdI s kp p n t) (hG : G 0 ≤ B) (ha : a < 6) (hb : b < 6) (h : mayM s (a : Nat) (b : Nat) 1 = 0) (hn : isW s a b = 0)
    (hQ : ∀ σ' : AS, ClsI G σ' B s kp p n t → FrB B (B + 46) σ σ' → Q (.inr 1) (am_th σ')) :
    CW G k_Cp_carve [vR B, vI (a : Nat), vI (b : Nat)] σ Q := by
  have hB : σ.1 B = _ := hC.1
  have hm := mayM_0 h
  obtain ⟨m, A, hy⟩ := hC.2.2.2.2.2.1
  have hyr := WyI.obj hy
  simp only [c_Cp_carve, e_Cp_carve_0, e_Cp_carve_1, e_Cp_carve_2, e_Cp_carve_3, kR_l, kR_r, kP_0, kP_i, kP_r, kP_n, kP_s, kP_o, kLen_I, kLen_L, kLen_R, kLdI_0, kLdI_1, kLdI_2, kLdI_3, kStI_0, kStI_1, kLdL_e, kStL_e, kLdR_e, kStR_e, kFld_e, kNth_0, kNth_s, kPut_e, fit_I, fit_Z, fit_B, fit_C, fit_A, fit_O, Option.toList_some, Option.toList_none, List.cons_append, List.nil_append, true_and, and_true, List.set_cons_zero, List.set_cons_succ, st_same, Int.toNat_natCast, Int.cast_ofNat_Int, Nat.zero_add, Nat.reduceAdd, kRcv_1, kRcv_2, kRcv_3, kRcv_0, kRcv_4, kRcv_5, hB]
  rw [q_Two0 hC hI (by unfold inR; omega) (by unfold inR; omega) h]
  simp only [e_Cp_carve_6, e_Cp_carve_7, e_Cp_carve_10, e_Cp_carve_11, e_Cp_carve_14, e_Cp_carve_15, e_Cp_carve_16, kR_l, kR_r, kP_0, kP_i, kP_r, kP_n, kP_s, kP_o, kLen_I, kLen_L, kLen_R, kLdI_0, kLdI_1, kLdI_2, kLdI_3, kStI_0, kStI_1, kLdL_e, kStL_e, kLdR_e, kStR_e, kFld_e, kNth_0, kNth_s, kPut_e, fit_I, fit_Z, fit_B, fit_C, fit_A, fit_O, Option.toList_some, Option.toList_none, List.cons_append, List.nil_append, true_and, and_true, List.set_cons_zero, List.set_cons_succ, st_same, Int.toNat_natCast, Int.cast_ofNat_Int, Nat.zero_add, Nat.reduceAdd, kRcv_1, kRcv_2, kRcv_3, kRcv_0, kRcv_4, kRcv_5, hB, hyr]
  refine way_id hy (w_find hC.2.1 (by omega) (by omega) hI.1 ha hb ((th_R ha).mp hm.1) ((th_R hb).mp hm.2.1) (fun m' A' _ _ _ _ => ?_))
  have hq := hQ (setWy σ (B + 37) m' A') (hC.way hG m' A') ((setWy_fr _ _ _ _).wide (by omega) (by omega))
  have er : rsF s a b = -1 := if_neg (by omega)
  clear hQ
  rw [er]
  simp only [e_Cp_carve_19, e_Cp_carve_20, e_Cp_carve_23, kR_l, kR_r, kP_0, kP_i, kP_r, kP_n, kP_s, kP_o, kLen_I, kLen_L, kLen_R, kLdI_0, kLdI_1, kLdI_2, kLdI_3, kStI_0, kStI_1, kLdL_e, kStL_e, kLdR_e, kStR_e, kFld_e, kNth_0, kNth_s, kPut_e, fit_I, fit_Z, fit_B, fit_C, fit_A, fit_O, Option.toList_some, Option.toList_none, List.cons_append, List.nil_append, true_and, and_true, List.set_cons_zero, List.set_cons_succ, st_same, Int.toNat_natCast, Int.cast_ofNat_Int, Nat.zero_add, Nat.reduceAdd, kRcv_1, kRcv_2, kRcv_3, kRcv_0, kRcv_4, kRcv_5]
  all_goals ((repeat' (first | with_reducible refine And.intro ?_ ?_ | intro _)) <;> first | with_reducible assumption | exact True.intro | with_reducible exact hq | omega | (simp only [inR] at *; omega) | exact hq | with_reducible rfl | rfl | (simp; done) | (exfalso; simp_all; done) | skip)
theorem o_carve0 {a b : Nat} (hC : ClsI G σ B s kp p n t) (hI : GdI s kp p n t) (hG : G 0 ≤ B) (ha : a < 6) (hb : b < 6) (h : mayM s (a : Nat) (b : Nat) 1 = 0) (hn : isW s a b = 1)
    (hQ : ∀ σ' : AS, ClsI G σ' B (dgP s a b).1 (svK kp) (svF s p kp) n t → FrB B (B + 46) σ σ' → Q (.inl (some (vI (dgP s a b).2))) σ') :
    CW G k_Cp_carve [vR B, vI (a : Nat), vI (b : Nat)] σ Q := by
  have hB : σ.1 B = _ := hC.1
  have hm := mayM_0 h
  obtain ⟨m, A, hy⟩ := hC.2.2.2.2.2.1
  have hyr := WyI.obj hy
  have hbd := rsF_bd hI.1 ha hb
  simp only [c_Cp_carve, e_Cp_carve_0, e_Cp_carve_1, e_Cp_carve_2, e_Cp_carve_3, kR_l, kR_r, kP_0, kP_i, kP_r, kP_n, kP_s, kP_o, kLen_I, kLen_L, kLen_R, kLdI_0, kLdI_1, kLdI_2, kLdI_3, kStI_0, kStI_1, kLdL_e, kStL_e, kLdR_e, kStR_e, kFld_e, kNth_0, kNth_s, kPut_e, fit_I, fit_Z, fit_B, fit_C, fit_A, fit_O, Option.toList_some, Option.toList_none, List.cons_append, List.nil_append, true_and, and_true, List.set_cons_zero, List.set_cons_succ, st_same, Int.toNat_natCast, Int.cast_ofNat_Int, Nat.zero_add, Nat.reduceAdd, kRcv_1, kRcv_2, kRcv_3, kRcv_0, kRcv_4, kRcv_5, hB]
  rw [q_Two0 hC hI (by unfold inR; omega) (by unfold inR; omega) h]
  simp only [e_Cp_carve_6, e_Cp_carve_7, e_Cp_carve_10, e_Cp_carve_11, e_Cp_carve_14, e_Cp_carve_15, e_Cp_carve_16, kR_l, kR_r, kP_0, kP_i, kP_r, kP_n, kP_s, kP_o, kLen_I, kLen_L, kLen_R, kLdI_0, kLdI_1, kLdI_2, kLdI_3, kStI_0, kStI_1, kLdL_e, kStL_e, kLdR_e, kStR_e, kFld_e, kNth_0, kNth_s, kPut_e, fit_I, fit_Z, fit_B, fit_C, fit_A, fit_O, Option.toList_some, Option.toList_none, List.cons_append, List.nil_append, true_and, and_true, List.set_cons_zero, List.set_cons_succ, st_same, Int.toNat_natCast, Int.cast_ofNat_Int, Nat.zero_add, Nat.reduceAdd, kRcv_1, kRcv_2, kRcv_3, kRcv_0, kRcv_4, kRcv_5, hB, hyr]
  refine way_id hy (w_find hC.2.1 (by omega) (by omega) hI.1 ha hb ((th_R ha).mp hm.1) ((th_R hb).mp hm.2.1) (fun m' A' q1 q2 q3 _ => ?_))
  have er : rsF s a b = cW s a b := if_pos hn
  have hC1 := hC.way hG m' A'
  have f1 := setWy_fr σ (B + 37) m' A'
  have hy1 := setWy_is σ (B + 37) m' A'
  generalize setWy σ (B + 37) m' A' = σ1 at *
  have hB1 : σ1.1 B = _ := hC1.1
  obtain ⟨nx, -, -, hV, -⟩ := hC1.2.2.2.1
  rw [er]
  simp only [e_Cp_carve_19, e_Cp_carve_20, e_Cp_carve_33, e_Cp_carve_34, e_Cp_carve_37, e_Cp_carve_38, e_Cp_carve_41, kR_l, kR_r, kP_0, kP_i, kP_r, kP_n, kP_s, kP_o, kLen_I, kLen_L, kLen_R, kLdI_0, kLdI_1, kLdI_2, kLdI_3, kStI_0, kStI_1, kLdL_e, kStL_e, kLdR_e, kStR_e, kFld_e, kNth_0, kNth_s, kPut_e, fit_I, fit_Z, fit_B, fit_C, fit_A, fit_O, Option.toList_some, Option.toList_none, List.cons_append, List.nil_append, true_and, and_true, List.set_cons_zero, List.set_cons_succ, st_same, Int.toNat_natCast, Int.cast_ofNat_Int, Nat.zero_add, Nat.reduceAdd, kRcv_1, kRcv_2, kRcv_3, kRcv_0, kRcv_4, kRcv_5, hB1, hV]
  refine ⟨⟨by unfold inR; omega, by unfold inR; omega⟩, fun _ => ?_, fun z => absurd (show ¬ cW s a b = -1 by omega) z⟩
  refine v_push hC1 hI hG (fun σ2 hC2 f2 => ?_)
  have hB2 : σ2.1 B = _ := hC2.1
  have hy2 := hy1.fr f2 (by omega)
  have hyr2 := WyI.obj hy2
  simp only [e_Cp_carve_44, e_Cp_carve_45, e_Cp_carve_48, e_Cp_carve_49, e_Cp_carve_52, kR_l, kR_r, kP_0, kP_i, kP_r, kP_n, kP_s, kP_o, kLen_I, kLen_L, kLen_R, kLdI_0, kLdI_1, kLdI_2, kLdI_3, kStI_0, kStI_1, kLdL_e, kStL_e, kLdR_e, kStR_e, kFld_e, kNth_0, kNth_s, kPut_e, fit_I, fit_Z, fit_B, fit_C, fit_A, fit_O, Option.toList_some, Option.toList_none, List.cons_append, List.nil_append, true_and, and_true, List.set_cons_zero, List.set_cons_succ, st_same, Int.toNat_natCast, Int.cast_ofNat_Int, Nat.zero_add, Nat.reduceAdd, kRcv_1, kRcv_2, kRcv_3, kRcv_0, kRcv_4, kRcv_5, hB2, hyr2]
  refine way_id hy2 (w_digFound hC2.2.1 (by omega) (by omega) hI.1 ha hb q1 q2 q3 (fun A2 => ?_))
  have f3 := setPs_fr σ2 (B + 1) (dgP s a b).1
  have f4 := setWy_fr (setPs σ2 (B + 1) (dgP s a b).1) (B + 37) m' A2
  have hq := hQ _ ((hC2.plan hG f3 (setPs_is _ _ _)).way hG m' A2) ((((f1.wide (by omega) (by omega)).trans (f2.wide (by omega) (by omega))).trans (f3.wide (by omega) (by omega))).trans (f4.wide (by omega) (by omega)))
  clear hQ
  simp only [e_Cp_carve_55, kR_l, kR_r, kP_0, kP_i, kP_r, kP_n, kP_s, kP_o, kLen_I, kLen_L, kLen_R, kLdI_0, kLdI_1, kLdI_2, kLdI_3, kStI_0, kStI_1, kLdL_e, kStL_e, kLdR_e, kStR_e, kFld_e, kNth_0, kNth_s, kPut_e, fit_I, fit_Z, fit_B, fit_C, fit_A, fit_O, Option.toList_some, Option.toList_none, List.cons_append, List.nil_append, true_and, and_true, List.set_cons_zero, List.set_cons_succ, st_same, Int.toNat_natCast, Int.cast_ofNat_Int, Nat.zero_add, Nat.reduceAdd, kRcv_1, kRcv_2, kRcv_3, kRcv_0, kRcv_4, kRcv_5]
  first | exact hq | exact ⟨trivial, hq⟩ | exact ⟨by simp, hq⟩
theorem o_carveAll (hC : ClsI G σ B s kp p n t) (hI : GdI s kp p n t) (hG : G 0 ≤ B)
    (hQ : ∀ σ' : AS, ClsI G σ' B (caM 16 s).2.2 (svK kp) (svF s p kp) n t → FrB B (B + 46) σ σ' → Q (.inl (some (vI (caM 16 s).1))) σ') :
    CW G k_Cp_carveAll [vR B] σ Q := by
  have hB : σ.1 B = _ := hC.1
  obtain ⟨nx, -, -, hV, -⟩ := hC.2.2.2.1
  simp only [c_Cp_carveAll, e_Cp_carveAll_0, e_Cp_carveAll_1, e_Cp_carveAll_4, e_Cp_carveAll_5, e_Cp_carveAll_8, kR_l, kR_r, kP_0, kP_i, kP_r, kP_n, kP_s, kP_o, kLen_I, kLen_L, kLen_R, kLdI_0, kLdI_1, kLdI_2, kLdI_3, kStI_0, kStI_1, kLdL_e, kStL_e, kLdR_e, kStR_e, kFld_e, kNth_0, kNth_s, kPut_e, fit_I, fit_Z, fit_B, fit_C, fit_A, fit_O, Option.toList_some, Option.toList_none, List.cons_append, List.nil_append, true_and, and_true, List.set_cons_zero, List.set_cons_succ, st_same, Int.toNat_natCast, Int.cast_ofNat_Int, Nat.zero_add, Nat.reduceAdd, kRcv_1, kRcv_2, kRcv_3, kRcv_0, kRcv_4, kRcv_5, hB, hV]
  refine v_push hC hI hG (fun σ1 hC1 f1 => ?_)
  have hB1 : σ1.1 B = _ := hC1.1
  obtain ⟨m, A, hy⟩ := hC1.2.2.2.2.2.1
  have hyr := WyI.obj hy
  simp only [e_Cp_carveAll_11, e_Cp_carveAll_12, e_Cp_carveAll_15, e_Cp_carveAll_16, e_Cp_carveAll_19, kR_l, kR_r, kP_0, kP_i, kP_r, kP_n, kP_s, kP_o, kLen_I, kLen_L, kLen_R, kLdI_0, kLdI_1, kLdI_2, kLdI_3, kStI_0, kStI_1, kLdL_e, kStL_e, kLdR_e, kStR_e, kFld_e, kNth_0, kNth_s, kPut_e, fit_I, fit_Z, fit_B, fit_C, fit_A, fit_O, Option.toList_some, Option.toList_none, List.cons_append, List.nil_append, true_and, and_true, List.set_cons_zero, List.set_cons_succ, st_same, Int.toNat_natCast, Int.cast_ofNat_Int, Nat.zero_add, Nat.reduceAdd, kRcv_1, kRcv_2, kRcv_3, kRcv_0, kRcv_4, kRcv_5, hB1, hyr]
  refine way_id hy (w_forAll hC1.2.1 (by omega) (by omega) hI.1 (fun m' A' => ?_))
  have f3 := setPs_fr σ1 (B + 1) (caM 16 s).2.2
  have f4 := setWy_fr (setPs σ1 (B + 1) (caM 16 s).2.2) (B + 37) m' A'
  have hq := hQ _ ((hC1.plan hG f3 (setPs_is _ _ _)).way hG m' A') (((f1.wide (by omega) (by omega)).trans (f3.wide (by omega) (by omega))).trans (f4.wide (by omega) (by omega)))
  clear hQ
  simp only [e_Cp_carveAll_22, kR_l, kR_r, kP_0, kP_i, kP_r, kP_n, kP_s, kP_o, kLen_I, kLen_L, kLen_R, kLdI_0, kLdI_1, kLdI_2, kLdI_3, kStI_0, kStI_1, kLdL_e, kStL_e, kLdR_e, kStR_e, kFld_e, kNth_0, kNth_s, kPut_e, fit_I, fit_Z, fit_B, fit_C, fit_A, fit_O, Option.toList_some, Option.toList_none, List.cons_append, List.nil_append, true_and, and_true, List.set_cons_zero, List.set_cons_succ, st_same, Int.toNat_natCast, Int.cast_ofNat_Int, Nat.zero_add, Nat.reduceAdd, kRcv_1, kRcv_2, kRcv_3, kRcv_0, kRcv_4, kRcv_5]
  first | exact hq | exact ⟨trivial, hq⟩ | exact ⟨by simp, hq⟩
theorem o_fillUp (hC : ClsI G σ B s kp p n t) (hI : GdI s kp p n t) (hG : G 0 ≤ B)
    (hQ : ∀ σ' : AS, ClsI G σ' B (flS s) (svK kp) (svF s p kp) n t → FrB B (B + 46) σ σ' → Q (.inl (some (vI (flN s)))) σ') :
    CW G k_Cp_fillUp [vR B] σ Q := by
  have hB : σ.1 B = _ := hC.1
  obtain ⟨nx, -, -, hV, -⟩ := hC.2.2.2.1
  simp only [c_Cp_fillUp, e_Cp_fillUp_0, e_Cp_fillUp_1, e_Cp_fillUp_4, e_Cp_fillUp_5, e_Cp_fillUp_8, kR_l, kR_r, kP_0, kP_i, kP_r, kP_n, kP_s, kP_o, kLen_I, kLen_L, kLen_R, kLdI_0, kLdI_1, kLdI_2, kLdI_3, kStI_0, kStI_1, kLdL_e, kStL_e, kLdR_e, kStR_e, kFld_e, kNth_0, kNth_s, kPut_e, fit_I, fit_Z, fit_B, fit_C, fit_A, fit_O, Option.toList_some, Option.toList_none, List.cons_append, List.nil_append, true_and, and_true, List.set_cons_zero, List.set_cons_succ, st_same, Int.toNat_natCast, Int.cast_ofNat_Int, Nat.zero_add, Nat.reduceAdd, kRcv_1, kRcv_2, kRcv_3, kRcv_0, kRcv_4, kRcv_5, hB, hV]
  refine v_push hC hI hG (fun σ1 hC1 f1 => ?_)
  have hB1 : σ1.1 B = _ := hC1.1
  obtain ⟨m, A, hy⟩ := hC1.2.2.2.2.2.1
  have hyr := WyI.obj hy
  simp only [e_Cp_fillUp_11, e_Cp_fillUp_12, e_Cp_fillUp_15, e_Cp_fillUp_16, e_Cp_fillUp_19, kR_l, kR_r, kP_0, kP_i, kP_r, kP_n, kP_s, kP_o, kLen_I, kLen_L, kLen_R, kLdI_0, kLdI_1, kLdI_2, kLdI_3, kStI_0, kStI_1, kLdL_e, kStL_e, kLdR_e, kStR_e, kFld_e, kNth_0, kNth_s, kPut_e, fit_I, fit_Z, fit_B, fit_C, fit_A, fit_O, Option.toList_some, Option.toList_none, List.cons_append, List.nil_append, true_and, and_true, List.set_cons_zero, List.set_cons_succ, st_same, Int.toNat_natCast, Int.cast_ofNat_Int, Nat.zero_add, Nat.reduceAdd, kRcv_1, kRcv_2, kRcv_3, kRcv_0, kRcv_4, kRcv_5, hB1, hyr]
  refine way_id hy (w_fillUnneeded hC1.2.1 (by omega) (by omega) hI.1 (fun m' A' => ?_))
  have f3 := setPs_fr σ1 (B + 1) (flS s)
  have f4 := setWy_fr (setPs σ1 (B + 1) (flS s)) (B + 37) m' A'
  have hq := hQ _ ((hC1.plan hG f3 (setPs_is _ _ _)).way hG m' A') (((f1.wide (by omega) (by omega)).trans (f3.wide (by omega) (by omega))).trans (f4.wide (by omega) (by omega)))
  clear hQ
  simp only [e_Cp_fillUp_22, kR_l, kR_r, kP_0, kP_i, kP_r, kP_n, kP_s, kP_o, kLen_I, kLen_L, kLen_R, kLdI_0, kLdI_1, kLdI_2, kLdI_3, kStI_0, kStI_1, kLdL_e, kStL_e, kLdR_e, kStR_e, kFld_e, kNth_0, kNth_s, kPut_e, fit_I, fit_Z, fit_B, fit_C, fit_A, fit_O, Option.toList_some, Option.toList_none, List.cons_append, List.nil_append, true_and, and_true, List.set_cons_zero, List.set_cons_succ, st_same, Int.toNat_natCast, Int.cast_ofNat_Int, Nat.zero_add, Nat.reduceAdd, kRcv_1, kRcv_2, kRcv_3, kRcv_0, kRcv_4, kRcv_5]
  first | exact hq | exact ⟨trivial, hq⟩ | exact ⟨by simp, hq⟩
theorem o_undo1 (hC : ClsI G σ B s kp p n t) (h : kp = 0) : CW G k_Cp_undo [vR B] σ Q = Q (.inr 1) (am_th σ) := by
  refine CW.det' fun R hR => ?_
  have hB : σ.1 B = _ := hC.1
  obtain ⟨nx, -, -, hV, -⟩ := hC.2.2.2.1
  subst h
  simp only [c_Cp_undo, e_Cp_undo_0, e_Cp_undo_1, e_Cp_undo_4, kR_l, kR_r, kP_0, kP_i, kP_r, kP_n, kP_s, kP_o, kLen_I, kLen_L, kLen_R, kLdI_0, kLdI_1, kLdI_2, kLdI_3, kStI_0, kStI_1, kLdL_e, kStL_e, kLdR_e, kStR_e, kFld_e, kNth_0, kNth_s, kPut_e, fit_I, fit_Z, fit_B, fit_C, fit_A, fit_O, Option.toList_some, Option.toList_none, List.cons_append, List.nil_append, true_and, and_true, List.set_cons_zero, List.set_cons_succ, st_same, Int.toNat_natCast, Int.cast_ofNat_Int, Nat.zero_add, Nat.reduceAdd, kRcv_1, kRcv_2, kRcv_3, kRcv_0, kRcv_4, kRcv_5, hB, hV]
  rw [s_Saved_size hV]
  simp only [e_Cp_undo_7, e_Cp_undo_10, kR_l, kR_r, kP_0, kP_i, kP_r, kP_n, kP_s, kP_o, kLen_I, kLen_L, kLen_R, kLdI_0, kLdI_1, kLdI_2, kLdI_3, kStI_0, kStI_1, kLdL_e, kStL_e, kLdR_e, kStR_e, kFld_e, kNth_0, kNth_s, kPut_e, fit_I, fit_Z, fit_B, fit_C, fit_A, fit_O, Option.toList_some, Option.toList_none, List.cons_append, List.nil_append, true_and, and_true, List.set_cons_zero, List.set_cons_succ, st_same, Int.toNat_natCast, Int.cast_ofNat_Int, Nat.zero_add, Nat.reduceAdd, kRcv_1, kRcv_2, kRcv_3, kRcv_0, kRcv_4, kRcv_5]
  all_goals ((repeat' (first | with_reducible refine And.intro ?_ ?_ | intro _)) <;> first | with_reducible assumption | exact True.intro | with_reducible exact hR | omega | (simp only [inR] at *; omega) | exact hR | with_reducible rfl | rfl | (simp; done) | (exfalso; simp_all; done) | skip)
theorem o_undo0 (hC : ClsI G σ B s kp p n t) (hI : GdI s kp p n t) (hG : G 0 ≤ B) (h : 0 < kp)
    (hQ : ∀ σ' : AS, ClsI G σ' B (pastS p (kp - 1)) (kp - 1) p n t → FrB B (B + 46) σ σ' → Q (.inl (some (vI ((kp : Int) - 1)))) σ') :
    CW G k_Cp_undo [vR B] σ Q := by
  have hB : σ.1 B = _ := hC.1
  obtain ⟨nx, -, -, hV, -⟩ := hC.2.2.2.1
  have hk6 := hI.2.1
  simp only [c_Cp_undo, e_Cp_undo_0, e_Cp_undo_1, e_Cp_undo_4, kR_l, kR_r, kP_0, kP_i, kP_r, kP_n, kP_s, kP_o, kLen_I, kLen_L, kLen_R, kLdI_0, kLdI_1, kLdI_2, kLdI_3, kStI_0, kStI_1, kLdL_e, kStL_e, kLdR_e, kStR_e, kFld_e, kNth_0, kNth_s, kPut_e, fit_I, fit_Z, fit_B, fit_C, fit_A, fit_O, Option.toList_some, Option.toList_none, List.cons_append, List.nil_append, true_and, and_true, List.set_cons_zero, List.set_cons_succ, st_same, Int.toNat_natCast, Int.cast_ofNat_Int, Nat.zero_add, Nat.reduceAdd, kRcv_1, kRcv_2, kRcv_3, kRcv_0, kRcv_4, kRcv_5, hB, hV]
  rw [s_Saved_size hV]
  simp only [e_Cp_undo_7, e_Cp_undo_20, e_Cp_undo_21, e_Cp_undo_24, e_Cp_undo_25, e_Cp_undo_28, kR_l, kR_r, kP_0, kP_i, kP_r, kP_n, kP_s, kP_o, kLen_I, kLen_L, kLen_R, kLdI_0, kLdI_1, kLdI_2, kLdI_3, kStI_0, kStI_1, kLdL_e, kStL_e, kLdR_e, kStR_e, kFld_e, kNth_0, kNth_s, kPut_e, fit_I, fit_Z, fit_B, fit_C, fit_A, fit_O, Option.toList_some, Option.toList_none, List.cons_append, List.nil_append, true_and, and_true, List.set_cons_zero, List.set_cons_succ, st_same, Int.toNat_natCast, Int.cast_ofNat_Int, Nat.zero_add, Nat.reduceAdd, kRcv_1, kRcv_2, kRcv_3, kRcv_0, kRcv_4, kRcv_5, hB, hV]
  refine ⟨by unfold inR; omega, fun _ => ?_, fun z => absurd (show ((kp : Nat) : Int) ≠ 0 by omega) z⟩
  refine s_popInto hC.2.2.2.1 h hC.2.1 (by omega) (by omega) (fun σ1 h1 h2 h3 h4 => ?_)
  have hC1 : ClsI G σ1 B (pastS p (kp - 1)) (kp - 1) p n t := by
    obtain ⟨c1, c2, c3, c4, ⟨⟨a, b, d, w, c5⟩, c5'⟩, ⟨m, A, c6⟩, c7⟩ := hC
    have h3' : ∀ a, (a < B + 1 ∨ B + 5 ≤ a) → a ≠ B + 9 → σ1.1 a = σ.1 a := fun a ha hne => h3 a (by omega) hne
    obtain ⟨f, g, hh, c, x1, x2⟩ := c3
    refine ⟨by unfold CpC at c1 ⊢; rw [h3' B (by omega) (by omega)]; exact c1, h2, ⟨f, g, hh, c, x1.away (fun a y1 y2 => h3' a (by omega) (by omega)), x2⟩, h1, ⟨⟨a, b, d, w, by rw [h3' _ (by omega) (by omega)]; exact c5⟩, by rw [h3' _ (by omega) (by omega)]; exact c5'⟩, ⟨m, A, by rw [h3' _ (by omega) (by omega)]; exact c6.1, fun i y1 y2 => by rw [h3' _ (by omega) (by omega)]; exact c6.2 i y1 y2⟩, ?_⟩
    exact ⟨⟨by rw [h3' _ (by have := c7.2.1; omega) (by have := c7.2.1; omega)]; exact c7.1.1, by rw [h3' _ (by have := c7.2.2.1; omega) (by have := c7.2.2.1; omega)]; exact c7.1.2⟩, c7.2.1, c7.2.2.1, c7.2.2.2.away (fun a ha => h3' a (by omega) (by omega))⟩
  have hq := hQ σ1 hC1 ⟨fun a ha => h3 a (by omega) (by omega), h4⟩
  clear hQ
  have hB1 : σ1.1 B = _ := hC1.1
  obtain ⟨nx1, -, -, hV1, -⟩ := hC1.2.2.2.1
  simp only [e_Cp_undo_31, e_Cp_undo_32, e_Cp_undo_35, kR_l, kR_r, kP_0, kP_i, kP_r, kP_n, kP_s, kP_o, kLen_I, kLen_L, kLen_R, kLdI_0, kLdI_1, kLdI_2, kLdI_3, kStI_0, kStI_1, kLdL_e, kStL_e, kLdR_e, kStR_e, kFld_e, kNth_0, kNth_s, kPut_e, fit_I, fit_Z, fit_B, fit_C, fit_A, fit_O, Option.toList_some, Option.toList_none, List.cons_append, List.nil_append, true_and, and_true, List.set_cons_zero, List.set_cons_succ, st_same, Int.toNat_natCast, Int.cast_ofNat_Int, Nat.zero_add, Nat.reduceAdd, kRcv_1, kRcv_2, kRcv_3, kRcv_0, kRcv_4, kRcv_5, hB1, hV1]
  rw [s_Saved_size hV1, show ((kp - 1 : Nat) : Int) = (kp : Int) - 1 by omega]
  simp only [e_Cp_undo_38, kR_l, kR_r, kP_0, kP_i, kP_r, kP_n, kP_s, kP_o, kLen_I, kLen_L, kLen_R, kLdI_0, kLdI_1, kLdI_2, kLdI_3, kStI_0, kStI_1, kLdL_e, kStL_e, kLdR_e, kStR_e, kFld_e, kNth_0, kNth_s, kPut_e, fit_I, fit_Z, fit_B, fit_C, fit_A, fit_O, Option.toList_some, Option.toList_none, List.cons_append, List.nil_append, true_and, and_true, List.set_cons_zero, List.set_cons_succ, st_same, Int.toNat_natCast, Int.cast_ofNat_Int, Nat.zero_add, Nat.reduceAdd, kRcv_1, kRcv_2, kRcv_3, kRcv_0, kRcv_4, kRcv_5]
  first | exact hq | exact ⟨trivial, hq⟩ | exact ⟨by simp, hq⟩
theorem s_len {O : Nat} {a b d w : Int} (h : σ.1 O = some (oOr O n a b d w)) : CW G k_Orders_length [vR O] σ Q = Q (.inl (some (vI (n : Nat)))) σ := by
  refine CW.det' fun R hR => ?_
  unfold oOr at h
  simp only [c_Orders_length, e_Orders_length_0, e_Orders_length_1, e_Orders_length_4, kR_l, kR_r, kP_0, kP_i, kP_r, kP_n, kP_s, kP_o, kLen_I, kLen_L, kLen_R, kLdI_0, kLdI_1, kLdI_2, kLdI_3, kStI_0, kStI_1, kLdL_e, kStL_e, kLdR_e, kStR_e, kFld_e, kNth_0, kNth_s, kPut_e, fit_I, fit_Z, fit_B, fit_C, fit_A, fit_O, Option.toList_some, Option.toList_none, List.cons_append, List.nil_append, true_and, and_true, List.set_cons_zero, List.set_cons_succ, st_same, Int.toNat_natCast, Int.cast_ofNat_Int, Nat.zero_add, Nat.reduceAdd, kRcv_1, kRcv_2, kRcv_3, kRcv_0, kRcv_4, kRcv_5, h]
  first | exact hR | exact ⟨trivial, hR⟩ | exact ⟨by simp, hR⟩
theorem s_one {O : Nat} {a b d w : Int} (h : σ.1 O = some (oOr O n a b d w)) : CW G k_Orders_one [vR O] σ Q = Q (.inl (some (vI a))) σ := by
  refine CW.det' fun R hR => ?_
  unfold oOr at h
  simp only [c_Orders_one, e_Orders_one_0, e_Orders_one_1, e_Orders_one_4, kR_l, kR_r, kP_0, kP_i, kP_r, kP_n, kP_s, kP_o, kLen_I, kLen_L, kLen_R, kLdI_0, kLdI_1, kLdI_2, kLdI_3, kStI_0, kStI_1, kLdL_e, kStL_e, kLdR_e, kStR_e, kFld_e, kNth_0, kNth_s, kPut_e, fit_I, fit_Z, fit_B, fit_C, fit_A, fit_O, Option.toList_some, Option.toList_none, List.cons_append, List.nil_append, true_and, and_true, List.set_cons_zero, List.set_cons_succ, st_same, Int.toNat_natCast, Int.cast_ofNat_Int, Nat.zero_add, Nat.reduceAdd, kRcv_1, kRcv_2, kRcv_3, kRcv_0, kRcv_4, kRcv_5, h]
  first | exact hR | exact ⟨trivial, hR⟩ | exact ⟨by simp, hR⟩
theorem s_other {O : Nat} {a b d w : Int} (h : σ.1 O = some (oOr O n a b d w)) : CW G k_Orders_other [vR O] σ Q = Q (.inl (some (vI b))) σ := by
  refine CW.det' fun R hR => ?_
  unfold oOr at h
  simp only [c_Orders_other, e_Orders_other_0, e_Orders_other_1, e_Orders_other_4, kR_l, kR_r, kP_0, kP_i, kP_r, kP_n, kP_s, kP_o, kLen_I, kLen_L, kLen_R, kLdI_0, kLdI_1, kLdI_2, kLdI_3, kStI_0, kStI_1, kLdL_e, kStL_e, kLdR_e, kStR_e, kFld_e, kNth_0, kNth_s, kPut_e, fit_I, fit_Z, fit_B, fit_C, fit_A, fit_O, Option.toList_some, Option.toList_none, List.cons_append, List.nil_append, true_and, and_true, List.set_cons_zero, List.set_cons_succ, st_same, Int.toNat_natCast, Int.cast_ofNat_Int, Nat.zero_add, Nat.reduceAdd, kRcv_1, kRcv_2, kRcv_3, kRcv_0, kRcv_4, kRcv_5, h]
  first | exact hR | exact ⟨trivial, hR⟩ | exact ⟨by simp, hR⟩
theorem s_deed {O : Nat} {a b d w : Int} (h : σ.1 O = some (oOr O n a b d w)) : CW G k_Orders_deed [vR O] σ Q = Q (.inl (some (vI d))) σ := by
  refine CW.det' fun R hR => ?_
  unfold oOr at h
  simp only [c_Orders_deed, e_Orders_deed_0, e_Orders_deed_1, e_Orders_deed_4, kR_l, kR_r, kP_0, kP_i, kP_r, kP_n, kP_s, kP_o, kLen_I, kLen_L, kLen_R, kLdI_0, kLdI_1, kLdI_2, kLdI_3, kStI_0, kStI_1, kLdL_e, kStL_e, kLdR_e, kStR_e, kFld_e, kNth_0, kNth_s, kPut_e, fit_I, fit_Z, fit_B, fit_C, fit_A, fit_O, Option.toList_some, Option.toList_none, List.cons_append, List.nil_append, true_and, and_true, List.set_cons_zero, List.set_cons_succ, st_same, Int.toNat_natCast, Int.cast_ofNat_Int, Nat.zero_add, Nat.reduceAdd, kRcv_1, kRcv_2, kRcv_3, kRcv_0, kRcv_4, kRcv_5, h]
  first | exact hR | exact ⟨trivial, hR⟩ | exact ⟨by simp, hR⟩
theorem s_clear {O : Nat} {a b d w : Int} (hG : G 0 ≤ O) (h : σ.1 O = some (oOr O n a b d w)) : CW G k_Orders_clear [vR O] σ Q = Q (.inl none) (am_st σ O (oOr O 0 a b d w)) := by
  refine CW.det' fun R hR => ?_
  unfold oOr at h
  have hR' : R (.inl none) (am_st σ O (oC 0 [vR (O + 1), vI 0, vI a, vI b, vI d, vI w])) := hR
  simp only [c_Orders_clear, e_Orders_clear_0, e_Orders_clear_1, e_Orders_clear_2, e_Orders_clear_5, kR_l, kR_r, kP_0, kP_i, kP_r, kP_n, kP_s, kP_o, kLen_I, kLen_L, kLen_R, kLdI_0, kLdI_1, kLdI_2, kLdI_3, kStI_0, kStI_1, kLdL_e, kStL_e, kLdR_e, kStR_e, kFld_e, kNth_0, kNth_s, kPut_e, fit_I, fit_Z, fit_B, fit_C, fit_A, fit_O, Option.toList_some, Option.toList_none, List.cons_append, List.nil_append, true_and, and_true, List.set_cons_zero, List.set_cons_succ, st_same, Int.toNat_natCast, Int.cast_ofNat_Int, Nat.zero_add, Nat.reduceAdd, kRcv_1, kRcv_2, kRcv_3, kRcv_0, kRcv_4, kRcv_5, h, List.length_cons, List.length_nil]
  all_goals ((repeat' (first | with_reducible refine And.intro ?_ ?_ | intro _)) <;> first | with_reducible assumption | exact True.intro | with_reducible exact hR' | omega | (simp only [inR] at *; omega) | exact hR' | with_reducible rfl | rfl | (simp; done) | (exfalso; simp_all; done) | skip)
theorem s_add {O : Nat} {a b d w c : Int} (hG : G 0 ≤ O) (h : σ.1 O = some (oOr O n a b d w)) (hc : σ.1 (O + 1) = some (oI 0 60 t)) (hn : n < 60) : CW G k_Orders_add [vR O, vI c] σ Q = Q (.inl none) (am_st (am_st σ (O + 1) (oI 0 60 (upI t n c))) O (oOr O (n + 1) a b d w)) := by
  refine CW.det' fun R hR => ?_
  unfold oOr at h
  have h1 : (am_st σ (O + 1) (oI 0 60 (upI t n c))).1 O = some (oC 0 [vR (O + 1), vI (n : Nat), vI a, vI b, vI d, vI w]) := by
    rw [st_hp, if_neg (by omega)]
    exact h
  have hR' : R (.inl none) (am_st (am_st σ (O + 1) (oI 0 60 (upI t n c))) O (oC 0 [vR (O + 1), vI ((n : Int) + 1), vI a, vI b, vI d, vI w])) := hR
  simp only [c_Orders_add, e_Orders_add_0, e_Orders_add_1, e_Orders_add_4, e_Orders_add_5, e_Orders_add_8, e_Orders_add_9, e_Orders_add_12, e_Orders_add_13, e_Orders_add_16, e_Orders_add_17, e_Orders_add_20, e_Orders_add_21, kR_l, kR_r, kP_0, kP_i, kP_r, kP_n, kP_s, kP_o, kLen_I, kLen_L, kLen_R, kLdI_0, kLdI_1, kLdI_2, kLdI_3, kStI_0, kStI_1, kLdL_e, kStL_e, kLdR_e, kStR_e, kFld_e, kNth_0, kNth_s, kPut_e, fit_I, fit_Z, fit_B, fit_C, fit_A, fit_O, Option.toList_some, Option.toList_none, List.cons_append, List.nil_append, true_and, and_true, List.set_cons_zero, List.set_cons_succ, st_same, Int.toNat_natCast, Int.cast_ofNat_Int, Nat.zero_add, Nat.reduceAdd, kRcv_1, kRcv_2, kRcv_3, kRcv_0, kRcv_4, kRcv_5, h, hc]
  refine ⟨⟨by unfold inR; omega, by unfold inR; omega⟩, (fun h => by first | exact absurd h (by omega) | exact absurd trivial h | (exfalso; simp_all; done)), fun _ => ?_⟩
  rw [s_Cp_put' hc (by omega) (by omega) (by omega) (by omega), Int.toNat_natCast]
  simp only [e_Orders_add_24, e_Orders_add_25, e_Orders_add_26, e_Orders_add_29, e_Orders_add_30, e_Orders_add_31, e_Orders_add_34, kR_l, kR_r, kP_0, kP_i, kP_r, kP_n, kP_s, kP_o, kLen_I, kLen_L, kLen_R, kLdI_0, kLdI_1, kLdI_2, kLdI_3, kStI_0, kStI_1, kLdL_e, kStL_e, kLdR_e, kStR_e, kFld_e, kNth_0, kNth_s, kPut_e, fit_I, fit_Z, fit_B, fit_C, fit_A, fit_O, Option.toList_some, Option.toList_none, List.cons_append, List.nil_append, true_and, and_true, List.set_cons_zero, List.set_cons_succ, st_same, Int.toNat_natCast, Int.cast_ofNat_Int, Nat.zero_add, Nat.reduceAdd, kRcv_1, kRcv_2, kRcv_3, kRcv_0, kRcv_4, kRcv_5, h1, List.length_cons, List.length_nil]
  all_goals ((repeat' (first | with_reducible refine And.intro ?_ ?_ | intro _)) <;> first | with_reducible assumption | exact True.intro | with_reducible exact hR' | omega | (simp only [inR] at *; omega) | exact hR' | with_reducible rfl | rfl | (simp; done) | (exfalso; simp_all; done) | skip)
theorem o_append1 {c : Int} (hc : inR c) (h : ¬ (33 ≤ c ∧ c ≤ 126)) : CW G k_Cp_append [vR B, vI c] σ Q = Q (.inr 0) (am_th σ) := by
  refine CW.det' fun R hR => ?_
  simp only [c_Cp_append, e_Cp_append_0, e_Cp_append_1, e_Cp_append_3, e_Cp_append_6, e_Cp_append_7, e_Cp_append_9, e_Cp_append_12, kR_l, kR_r, kP_0, kP_i, kP_r, kP_n, kP_s, kP_o, kLen_I, kLen_L, kLen_R, kLdI_0, kLdI_1, kLdI_2, kLdI_3, kStI_0, kStI_1, kLdL_e, kStL_e, kLdR_e, kStR_e, kFld_e, kNth_0, kNth_s, kPut_e, fit_I, fit_Z, fit_B, fit_C, fit_A, fit_O, Option.toList_some, Option.toList_none, List.cons_append, List.nil_append, true_and, and_true, List.set_cons_zero, List.set_cons_succ, st_same, Int.toNat_natCast, Int.cast_ofNat_Int, Nat.zero_add, Nat.reduceAdd, kRcv_1, kRcv_2, kRcv_3, kRcv_0, kRcv_4, kRcv_5]
  all_goals ((repeat' (first | with_reducible refine And.intro ?_ ?_ | intro _)) <;> first | with_reducible assumption | exact True.intro | with_reducible exact hR | omega | (simp only [inR] at *; omega) | exact hR | with_reducible rfl | rfl | (simp; done) | (exfalso; simp_all; done) | skip)
theorem o_append2 {c : Int} (hC : ClsI G σ B s kp p n t) (h : 33 ≤ c ∧ c ≤ 126) (hn : n = 60) : CW G k_Cp_append [vR B, vI c] σ Q = Q (.inr 1) (am_th σ) := by
  refine CW.det' fun R hR => ?_
  have hB : σ.1 B = _ := hC.1
  obtain ⟨⟨a, b, d, w, hO⟩, hc⟩ := hC.2.2.2.2.1
  have hr := oOr_rc (σ := σ) (O := B + 35) (n := n) (a := a) (b := b) (d := d) (w := w)
  rw [st_id σ _ _ hO] at hr
  subst hn
  simp only [c_Cp_append, e_Cp_append_0, e_Cp_append_1, e_Cp_append_3, e_Cp_append_6, e_Cp_append_7, e_Cp_append_9, e_Cp_append_22, e_Cp_append_23, e_Cp_append_26, kR_l, kR_r, kP_0, kP_i, kP_r, kP_n, kP_s, kP_o, kLen_I, kLen_L, kLen_R, kLdI_0, kLdI_1, kLdI_2, kLdI_3, kStI_0, kStI_1, kLdL_e, kStL_e, kLdR_e, kStR_e, kFld_e, kNth_0, kNth_s, kPut_e, fit_I, fit_Z, fit_B, fit_C, fit_A, fit_O, Option.toList_some, Option.toList_none, List.cons_append, List.nil_append, true_and, and_true, List.set_cons_zero, List.set_cons_succ, st_same, Int.toNat_natCast, Int.cast_ofNat_Int, Nat.zero_add, Nat.reduceAdd, kRcv_1, kRcv_2, kRcv_3, kRcv_0, kRcv_4, kRcv_5, hB, hr]
  refine ⟨⟨by unfold inR; omega, by unfold inR; omega⟩, (fun h => by first | exact absurd h (by omega) | exact absurd trivial h | (exfalso; simp_all; done)), fun _ => ⟨⟨by unfold inR; omega, by unfold inR; omega⟩, fun _ => ?_, (fun h => by first | exact absurd h (by omega) | exact absurd trivial h | (exfalso; simp_all; done))⟩⟩
  rw [s_len hO]
  simp only [e_Cp_append_29, e_Cp_append_31, e_Cp_append_34, kR_l, kR_r, kP_0, kP_i, kP_r, kP_n, kP_s, kP_o, kLen_I, kLen_L, kLen_R, kLdI_0, kLdI_1, kLdI_2, kLdI_3, kStI_0, kStI_1, kLdL_e, kStL_e, kLdR_e, kStR_e, kFld_e, kNth_0, kNth_s, kPut_e, fit_I, fit_Z, fit_B, fit_C, fit_A, fit_O, Option.toList_some, Option.toList_none, List.cons_append, List.nil_append, true_and, and_true, List.set_cons_zero, List.set_cons_succ, st_same, Int.toNat_natCast, Int.cast_ofNat_Int, Nat.zero_add, Nat.reduceAdd, kRcv_1, kRcv_2, kRcv_3, kRcv_0, kRcv_4, kRcv_5]
  all_goals ((repeat' (first | with_reducible refine And.intro ?_ ?_ | intro _)) <;> first | with_reducible assumption | exact True.intro | with_reducible exact hR | omega | (simp only [inR] at *; omega) | exact hR | with_reducible rfl | rfl | (simp; done) | (exfalso; simp_all; done) | skip)
theorem o_append0 {c : Int} (hC : ClsI G σ B s kp p n t) (hG : G 0 ≤ B) (h : 33 ≤ c ∧ c ≤ 126) (hn : n < 60)
    (hQ : ∀ σ' : AS, ClsI G σ' B s kp p (n + 1) (upI t n c) → FrB B (B + 46) σ σ' → Q (.inl (some (vI ((n : Int) + 1)))) σ') :
    CW G k_Cp_append [vR B, vI c] σ Q := by
  have hB : σ.1 B = _ := hC.1
  obtain ⟨⟨a, b, d, w, hO⟩, hc⟩ := hC.2.2.2.2.1
  have hr := oOr_rc (σ := σ) (O := B + 35) (n := n) (a := a) (b := b) (d := d) (w := w)
  rw [st_id σ _ _ hO] at hr
  simp only [c_Cp_append, e_Cp_append_0, e_Cp_append_1, e_Cp_append_3, e_Cp_append_6, e_Cp_append_7, e_Cp_append_9, e_Cp_append_22, e_Cp_append_23, e_Cp_append_26, kR_l, kR_r, kP_0, kP_i, kP_r, kP_n, kP_s, kP_o, kLen_I, kLen_L, kLen_R, kLdI_0, kLdI_1, kLdI_2, kLdI_3, kStI_0, kStI_1, kLdL_e, kStL_e, kLdR_e, kStR_e, kFld_e, kNth_0, kNth_s, kPut_e, fit_I, fit_Z, fit_B, fit_C, fit_A, fit_O, Option.toList_some, Option.toList_none, List.cons_append, List.nil_append, true_and, and_true, List.set_cons_zero, List.set_cons_succ, st_same, Int.toNat_natCast, Int.cast_ofNat_Int, Nat.zero_add, Nat.reduceAdd, kRcv_1, kRcv_2, kRcv_3, kRcv_0, kRcv_4, kRcv_5, hB, hr]
  refine ⟨⟨by unfold inR; omega, by unfold inR; omega⟩, (fun h => by first | exact absurd h (by omega) | exact absurd trivial h | (exfalso; simp_all; done)), fun _ => ⟨⟨by unfold inR; omega, by unfold inR; omega⟩, fun _ => ?_, (fun h => by first | exact absurd h (by omega) | exact absurd trivial h | (exfalso; simp_all; done))⟩⟩
  rw [s_len hO]
  simp only [e_Cp_append_29, e_Cp_append_31, e_Cp_append_44, e_Cp_append_45, e_Cp_append_48, e_Cp_append_49, kR_l, kR_r, kP_0, kP_i, kP_r, kP_n, kP_s, kP_o, kLen_I, kLen_L, kLen_R, kLdI_0, kLdI_1, kLdI_2, kLdI_3, kStI_0, kStI_1, kLdL_e, kStL_e, kLdR_e, kStR_e, kFld_e, kNth_0, kNth_s, kPut_e, fit_I, fit_Z, fit_B, fit_C, fit_A, fit_O, Option.toList_some, Option.toList_none, List.cons_append, List.nil_append, true_and, and_true, List.set_cons_zero, List.set_cons_succ, st_same, Int.toNat_natCast, Int.cast_ofNat_Int, Nat.zero_add, Nat.reduceAdd, kRcv_1, kRcv_2, kRcv_3, kRcv_0, kRcv_4, kRcv_5, hB, hr]
  refine ⟨⟨by unfold inR; omega, by unfold inR; omega⟩, fun _ => ?_, fun z => absurd (by omega) z⟩
  rw [s_add (by omega) hO hc hn]
  have f1 := st_fr σ (B + 35 + 1) (oI 0 60 (upI t n c))
  have f2 := st_fr (am_st σ (B + 35 + 1) (oI 0 60 (upI t n c))) (B + 35) (oOr (B + 35) (n + 1) a b d w)
  have f := (f1.wide (lo' := B + 35) (hi' := B + 37) (by omega) (by omega)).trans (f2.wide (by omega) (by omega))
  have hO1 : (am_st (am_st σ (B + 35 + 1) (oI 0 60 (upI t n c))) (B + 35) (oOr (B + 35) (n + 1) a b d w)).1 (B + 35) = some (oOr (B + 35) (n + 1) a b d w) := by rw [st_hp, if_pos rfl]
  have hc1 : (am_st (am_st σ (B + 35 + 1) (oI 0 60 (upI t n c))) (B + 35) (oOr (B + 35) (n + 1) a b d w)).1 (B + 35 + 1) = some (oI 0 60 (upI t n c)) := by rw [st_hp, if_neg (by omega), st_hp, if_pos rfl]
  have hC1 := hC.ord hG f ⟨⟨a, b, d, w, hO1⟩, hc1⟩
  have hq := hQ _ hC1 (f.wide (by omega) (by omega))
  clear hQ
  generalize am_st (am_st σ (B + 35 + 1) (oI 0 60 (upI t n c))) (B + 35) (oOr (B + 35) (n + 1) a b d w) = σ1 at *
  have hB1 : σ1.1 B = _ := hC1.1
  have hr1 := oOr_rc (σ := σ1) (O := B + 35) (n := n + 1) (a := a) (b := b) (d := d) (w := w)
  rw [st_id σ1 _ _ hO1] at hr1
  simp only [e_Cp_append_52, e_Cp_append_53, e_Cp_append_56, kR_l, kR_r, kP_0, kP_i, kP_r, kP_n, kP_s, kP_o, kLen_I, kLen_L, kLen_R, kLdI_0, kLdI_1, kLdI_2, kLdI_3, kStI_0, kStI_1, kLdL_e, kStL_e, kLdR_e, kStR_e, kFld_e, kNth_0, kNth_s, kPut_e, fit_I, fit_Z, fit_B, fit_C, fit_A, fit_O, Option.toList_some, Option.toList_none, List.cons_append, List.nil_append, true_and, and_true, List.set_cons_zero, List.set_cons_succ, st_same, Int.toNat_natCast, Int.cast_ofNat_Int, Nat.zero_add, Nat.reduceAdd, kRcv_1, kRcv_2, kRcv_3, kRcv_0, kRcv_4, kRcv_5, hB1, hr1]
  rw [s_len hO1, show ((n + 1 : Nat) : Int) = (n : Int) + 1 from rfl]
  simp only [e_Cp_append_59, kR_l, kR_r, kP_0, kP_i, kP_r, kP_n, kP_s, kP_o, kLen_I, kLen_L, kLen_R, kLdI_0, kLdI_1, kLdI_2, kLdI_3, kStI_0, kStI_1, kLdL_e, kStL_e, kLdR_e, kStR_e, kFld_e, kNth_0, kNth_s, kPut_e, fit_I, fit_Z, fit_B, fit_C, fit_A, fit_O, Option.toList_some, Option.toList_none, List.cons_append, List.nil_append, true_and, and_true, List.set_cons_zero, List.set_cons_succ, st_same, Int.toNat_natCast, Int.cast_ofNat_Int, Nat.zero_add, Nat.reduceAdd, kRcv_1, kRcv_2, kRcv_3, kRcv_0, kRcv_4, kRcv_5]
  first | exact hq | exact ⟨trivial, hq⟩ | exact ⟨by simp, hq⟩
theorem o_clearBuffer (hC : ClsI G σ B s kp p n t) (hG : G 0 ≤ B)
    (hQ : ∀ σ' : AS, ClsI G σ' B s kp p 0 t → FrB B (B + 46) σ σ' → Q (.inl (some (vI (n : Nat)))) σ') :
    CW G k_Cp_clearBuffer [vR B] σ Q := by
  have hB : σ.1 B = _ := hC.1
  obtain ⟨⟨a, b, d, w, hO⟩, hc⟩ := hC.2.2.2.2.1
  have hr := oOr_rc (σ := σ) (O := B + 35) (n := n) (a := a) (b := b) (d := d) (w := w)
  rw [st_id σ _ _ hO] at hr
  simp only [c_Cp_clearBuffer, e_Cp_clearBuffer_0, e_Cp_clearBuffer_1, e_Cp_clearBuffer_4, kR_l, kR_r, kP_0, kP_i, kP_r, kP_n, kP_s, kP_o, kLen_I, kLen_L, kLen_R, kLdI_0, kLdI_1, kLdI_2, kLdI_3, kStI_0, kStI_1, kLdL_e, kStL_e, kLdR_e, kStR_e, kFld_e, kNth_0, kNth_s, kPut_e, fit_I, fit_Z, fit_B, fit_C, fit_A, fit_O, Option.toList_some, Option.toList_none, List.cons_append, List.nil_append, true_and, and_true, List.set_cons_zero, List.set_cons_succ, st_same, Int.toNat_natCast, Int.cast_ofNat_Int, Nat.zero_add, Nat.reduceAdd, kRcv_1, kRcv_2, kRcv_3, kRcv_0, kRcv_4, kRcv_5, hB, hr]
  rw [s_len hO]
  simp only [e_Cp_clearBuffer_7, e_Cp_clearBuffer_8, e_Cp_clearBuffer_9, e_Cp_clearBuffer_12, kR_l, kR_r, kP_0, kP_i, kP_r, kP_n, kP_s, kP_o, kLen_I, kLen_L, kLen_R, kLdI_0, kLdI_1, kLdI_2, kLdI_3, kStI_0, kStI_1, kLdL_e, kStL_e, kLdR_e, kStR_e, kFld_e, kNth_0, kNth_s, kPut_e, fit_I, fit_Z, fit_B, fit_C, fit_A, fit_O, Option.toList_some, Option.toList_none, List.cons_append, List.nil_append, true_and, and_true, List.set_cons_zero, List.set_cons_succ, st_same, Int.toNat_natCast, Int.cast_ofNat_Int, Nat.zero_add, Nat.reduceAdd, kRcv_1, kRcv_2, kRcv_3, kRcv_0, kRcv_4, kRcv_5, hB, hr]
  rw [s_clear (by omega) hO]
  have f := (st_fr σ (B + 35) (oOr (B + 35) 0 a b d w)).wide (lo' := B + 35) (hi' := B + 37) (by omega) (by omega)
  have hC1 := hC.ord hG f (n' := 0) (t' := t) ⟨⟨a, b, d, w, by rw [st_hp, if_pos rfl]⟩, by rw [st_hp, if_neg (by omega)]; exact hc⟩
  have hq := hQ _ hC1 (f.wide (by omega) (by omega))
  clear hQ
  simp only [e_Cp_clearBuffer_15, e_Cp_clearBuffer_16, kR_l, kR_r, kP_0, kP_i, kP_r, kP_n, kP_s, kP_o, kLen_I, kLen_L, kLen_R, kLdI_0, kLdI_1, kLdI_2, kLdI_3, kStI_0, kStI_1, kLdL_e, kStL_e, kLdR_e, kStR_e, kFld_e, kNth_0, kNth_s, kPut_e, fit_I, fit_Z, fit_B, fit_C, fit_A, fit_O, Option.toList_some, Option.toList_none, List.cons_append, List.nil_append, true_and, and_true, List.set_cons_zero, List.set_cons_succ, st_same, Int.toNat_natCast, Int.cast_ofNat_Int, Nat.zero_add, Nat.reduceAdd, kRcv_1, kRcv_2, kRcv_3, kRcv_0, kRcv_4, kRcv_5]
  first | exact hq | exact ⟨trivial, hq⟩ | exact ⟨by simp, hq⟩
theorem o_firstError {kl : Nat} (hC : ClsI G σ B s kp p n t) (hI : GdI s kp p n t) (hG : G 0 ≤ B) (hkl : KpO (cA t n) kl)
    (hQ : ∀ σ' : AS, ClsI G σ' B s kp p n t → FrB B (B + 46) σ σ' → Q (.inl (some (vI (enO (cA t n) kl : Nat)))) σ') :
    CW G k_Cp_firstError [vR B] σ Q := by
  have hB : σ.1 B = _ := hC.1
  obtain ⟨⟨a, b, d, w, hO⟩, hc⟩ := hC.2.2.2.2.1
  have hr := oOr_rc (σ := σ) (O := B + 35) (n := n) (a := a) (b := b) (d := d) (w := w)
  rw [st_id σ _ _ hO] at hr
  simp only [c_Cp_firstError, e_Cp_firstError_0, e_Cp_firstError_1, e_Cp_firstError_4, kR_l, kR_r, kP_0, kP_i, kP_r, kP_n, kP_s, kP_o, kLen_I, kLen_L, kLen_R, kLdI_0, kLdI_1, kLdI_2, kLdI_3, kStI_0, kStI_1, kLdL_e, kStL_e, kLdR_e, kStR_e, kFld_e, kNth_0, kNth_s, kPut_e, fit_I, fit_Z, fit_B, fit_C, fit_A, fit_O, Option.toList_some, Option.toList_none, List.cons_append, List.nil_append, true_and, and_true, List.set_cons_zero, List.set_cons_succ, st_same, Int.toNat_natCast, Int.cast_ofNat_Int, Nat.zero_add, Nat.reduceAdd, kRcv_1, kRcv_2, kRcv_3, kRcv_0, kRcv_4, kRcv_5, hB, hr]
  refine st_idc hO (s_readable (by omega) hC.2.2.2.2.2.2.2.2.2 hc hI.2.2.2.1 hI.2.2.2.2 hkl (fun a' b' d' => ?_))
  have f := (st_fr σ (B + 35) (oOr (B + 35) n a' b' d' (rdO (cA t n) (stO (cA t n) kl)).2)).wide (lo' := B + 35) (hi' := B + 37) (by omega) (by omega)
  have hC1 := hC.ord hG f (n' := n) (t' := t) ⟨⟨a', b', d', _, by rw [st_hp, if_pos rfl]⟩, by rw [st_hp, if_neg (by omega)]; exact hc⟩
  have hq := hQ _ hC1 (f.wide (by omega) (by omega))
  clear hQ
  simp only [e_Cp_firstError_7, kR_l, kR_r, kP_0, kP_i, kP_r, kP_n, kP_s, kP_o, kLen_I, kLen_L, kLen_R, kLdI_0, kLdI_1, kLdI_2, kLdI_3, kStI_0, kStI_1, kLdL_e, kStL_e, kLdR_e, kStR_e, kFld_e, kNth_0, kNth_s, kPut_e, fit_I, fit_Z, fit_B, fit_C, fit_A, fit_O, Option.toList_some, Option.toList_none, List.cons_append, List.nil_append, true_and, and_true, List.set_cons_zero, List.set_cons_succ, st_same, Int.toNat_natCast, Int.cast_ofNat_Int, Nat.zero_add, Nat.reduceAdd, kRcv_1, kRcv_2, kRcv_3, kRcv_0, kRcv_4, kRcv_5]
  first | exact hq | exact ⟨trivial, hq⟩ | exact ⟨by simp, hq⟩
end CP2
