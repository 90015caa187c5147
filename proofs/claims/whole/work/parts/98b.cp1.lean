/-! THE CLASS'S METHODS: chambers, who walks, digging, set -/
section CP1
variable {G : Nat → Nat} {σ : AS} {Q : (Option AV ⊕ Nat) → AS → Prop} {B kp n : Nat} {s p t : Nat → Int}
theorem o_room1 {x y c w : Int} (hx : inR x) (hy : inR y) (hc : inR c) (hw : inR w) (h : ¬ ((1 ≤ c ∧ c ≤ 6) ∧ (1 ≤ w ∧ w ≤ 6) ∧ (0 ≤ x ∧ x ≤ 16 - c) ∧ (0 ≤ y ∧ y ≤ 12 - w))) : CW G k_Cp_room [vR B, vI x, vI y, vI c, vI w] σ Q = Q (.inr 0) (am_th σ) := by
  refine CW.det' fun R hR => ?_
  simp only [c_Cp_room, e_Cp_room_0, e_Cp_room_1, e_Cp_room_2, e_Cp_room_5, e_Cp_room_6, e_Cp_room_8, e_Cp_room_11, e_Cp_room_13, e_Cp_room_14, e_Cp_room_17, e_Cp_room_19, e_Cp_room_21, e_Cp_room_24, e_Cp_room_34, e_Cp_room_35, e_Cp_room_38, e_Cp_room_39, e_Cp_room_41, e_Cp_room_42, e_Cp_room_43, e_Cp_room_46, e_Cp_room_47, e_Cp_room_50, e_Cp_room_51, e_Cp_room_53, e_Cp_room_55, e_Cp_room_56, e_Cp_room_59, kR_l, kR_r, kP_0, kP_i, kP_r, kP_n, kP_s, kP_o, kLen_I, kLen_L, kLen_R, kLdI_0, kLdI_1, kLdI_2, kLdI_3, kStI_0, kStI_1, kLdL_e, kStL_e, kLdR_e, kStR_e, kFld_e, kNth_0, kNth_s, kPut_e, fit_I, fit_Z, fit_B, fit_C, fit_A, fit_O, Option.toList_some, Option.toList_none, List.cons_append, List.nil_append, true_and, and_true, List.set_cons_zero, List.set_cons_succ, st_same, Int.toNat_natCast, Int.cast_ofNat_Int, Nat.zero_add, Nat.reduceAdd, kRcv_1, kRcv_2, kRcv_3, kRcv_0, kRcv_4, kRcv_5]
  all_goals ((repeat' (first | with_reducible refine And.intro ?_ ?_ | intro _)) <;> first | with_reducible assumption | exact True.intro | with_reducible exact hR | omega | (simp only [inR] at *; omega) | exact hR | with_reducible rfl | rfl | (simp; done) | (exfalso; simp_all; done) | skip)
theorem o_room_go {x y c w : Nat} (hC : ClsI G σ B s kp p n t) (hc : 1 ≤ c ∧ c ≤ 6) (hw : 1 ≤ w ∧ w ≤ 6) (hx : x + c ≤ 16) (hy : y + w ≤ 12)
    (h : CW G k_Plan_lowestFreeNumber [vR (B + 1)] σ (kR (fun v σ' => WP G k_Cp_room 76 [some (vR B), some (vI (x : Nat)), some (vI (y : Nat)), some (vI (c : Nat)), some (vI (w : Nat)), none] (v.toList ++ []) σ' Q) (fun e σ' => Q (.inr e) σ'))) :
    CW G k_Cp_room [vR B, vI (x : Nat), vI (y : Nat), vI (c : Nat), vI (w : Nat)] σ Q := by
  have hB : σ.1 B = _ := hC.1
  simp only [c_Cp_room, e_Cp_room_0, e_Cp_room_1, e_Cp_room_2, e_Cp_room_5, e_Cp_room_6, e_Cp_room_8, e_Cp_room_11, e_Cp_room_13, e_Cp_room_14, e_Cp_room_17, e_Cp_room_19, e_Cp_room_21, e_Cp_room_24, e_Cp_room_34, e_Cp_room_35, e_Cp_room_38, e_Cp_room_39, e_Cp_room_41, e_Cp_room_42, e_Cp_room_43, e_Cp_room_46, e_Cp_room_47, e_Cp_room_50, e_Cp_room_51, e_Cp_room_53, e_Cp_room_55, e_Cp_room_56, e_Cp_room_59, e_Cp_room_69, e_Cp_room_70, e_Cp_room_73, kR_l, kR_r, kP_0, kP_i, kP_r, kP_n, kP_s, kP_o, kLen_I, kLen_L, kLen_R, kLdI_0, kLdI_1, kLdI_2, kLdI_3, kStI_0, kStI_1, kLdL_e, kStL_e, kLdR_e, kStR_e, kFld_e, kNth_0, kNth_s, kPut_e, fit_I, fit_Z, fit_B, fit_C, fit_A, fit_O, Option.toList_some, Option.toList_none, List.cons_append, List.nil_append, true_and, and_true, List.set_cons_zero, List.set_cons_succ, st_same, Int.toNat_natCast, Int.cast_ofNat_Int, Nat.zero_add, Nat.reduceAdd, kRcv_1, kRcv_2, kRcv_3, kRcv_0, kRcv_4, kRcv_5, hB, hC.2.1.1]
  all_goals ((repeat' (first | with_reducible refine And.intro ?_ ?_ | intro _)) <;> first | with_reducible assumption | exact True.intro | with_reducible exact h | omega | (simp only [inR] at *; omega) | exact h | with_reducible rfl | rfl | (simp; done) | (exfalso; simp_all; done) | skip)
theorem o_room2 {x y c w : Nat} (hC : ClsI G σ B s kp p n t) (hI : GdI s kp p n t) (hc : 1 ≤ c ∧ c ≤ 6) (hw : 1 ≤ w ∧ w ≤ 6) (hx : x + c ≤ 16) (hy : y + w ≤ 12) (h : firstN (fun r => thM s r) 6 0 = 6 ∨ ¬ canM s (x : Nat) (y : Nat) c w) :
    CW G k_Cp_room [vR B, vI (x : Nat), vI (y : Nat), vI (c : Nat), vI (w : Nat)] σ Q = Q (.inr 1) (am_th σ) := by
  refine CW.det' fun R hR => ?_
  have hB : σ.1 B = _ := hC.1
  have hf := firstN_bd (fun r => thM s r) 6 0
  refine o_room_go hC hc hw hx hy ?_
  rw [s_Plan_lowestFreeNumber hC.2.1 hI.1.bx, first_eq]
  by_cases c6 : firstN (fun r => thM s r) 6 0 < 0 + 6
  · have hcan : ¬ canM s (x : Nat) (y : Nat) c w := h.elim (fun z => absurd z (by omega)) id
    rw [if_pos c6]
    simp only [e_Cp_room_76, e_Cp_room_78, e_Cp_room_80, e_Cp_room_81, e_Cp_room_84, e_Cp_room_94, e_Cp_room_95, e_Cp_room_98, e_Cp_room_99, e_Cp_room_100, e_Cp_room_101, e_Cp_room_103, kR_l, kR_r, kP_0, kP_i, kP_r, kP_n, kP_s, kP_o, kLen_I, kLen_L, kLen_R, kLdI_0, kLdI_1, kLdI_2, kLdI_3, kStI_0, kStI_1, kLdL_e, kStL_e, kLdR_e, kStR_e, kFld_e, kNth_0, kNth_s, kPut_e, fit_I, fit_Z, fit_B, fit_C, fit_A, fit_O, Option.toList_some, Option.toList_none, List.cons_append, List.nil_append, true_and, and_true, List.set_cons_zero, List.set_cons_succ, st_same, Int.toNat_natCast, Int.cast_ofNat_Int, Nat.zero_add, Nat.reduceAdd, kRcv_1, kRcv_2, kRcv_3, kRcv_0, kRcv_4, kRcv_5, hB, hC.2.1.1]
    refine ⟨⟨by unfold inR; omega, by unfold inR; omega⟩, fun _ => ?_, fun z => absurd (show ((firstN (fun r => thM s r) 6 0 : Nat) : Int) ≠ -1 by omega) z⟩
    rw [s_Plan_hasSpaceFor (b := 0) hC.2.2.2.2.2.2.1 hC.2.1 hI.1.sq (by omega) (by omega) hc.2 hw.2 (fun z => absurd ((sp_can hI.1 hc.1 hx hy).mp z) hcan) (fun _ => rfl)]
    simp only [e_Cp_room_106, e_Cp_room_109, kR_l, kR_r, kP_0, kP_i, kP_r, kP_n, kP_s, kP_o, kLen_I, kLen_L, kLen_R, kLdI_0, kLdI_1, kLdI_2, kLdI_3, kStI_0, kStI_1, kLdL_e, kStL_e, kLdR_e, kStR_e, kFld_e, kNth_0, kNth_s, kPut_e, fit_I, fit_Z, fit_B, fit_C, fit_A, fit_O, Option.toList_some, Option.toList_none, List.cons_append, List.nil_append, true_and, and_true, List.set_cons_zero, List.set_cons_succ, st_same, Int.toNat_natCast, Int.cast_ofNat_Int, Nat.zero_add, Nat.reduceAdd, kRcv_1, kRcv_2, kRcv_3, kRcv_0, kRcv_4, kRcv_5]
    all_goals ((repeat' (first | with_reducible refine And.intro ?_ ?_ | intro _)) <;> first | with_reducible assumption | exact True.intro | with_reducible exact hR | omega | (simp only [inR] at *; omega) | exact hR | with_reducible rfl | rfl | (simp; done) | (exfalso; simp_all; done) | skip)
  · rw [if_neg c6]
    simp only [e_Cp_room_76, e_Cp_room_78, e_Cp_room_80, e_Cp_room_81, e_Cp_room_84, kR_l, kR_r, kP_0, kP_i, kP_r, kP_n, kP_s, kP_o, kLen_I, kLen_L, kLen_R, kLdI_0, kLdI_1, kLdI_2, kLdI_3, kStI_0, kStI_1, kLdL_e, kStL_e, kLdR_e, kStR_e, kFld_e, kNth_0, kNth_s, kPut_e, fit_I, fit_Z, fit_B, fit_C, fit_A, fit_O, Option.toList_some, Option.toList_none, List.cons_append, List.nil_append, true_and, and_true, List.set_cons_zero, List.set_cons_succ, st_same, Int.toNat_natCast, Int.cast_ofNat_Int, Nat.zero_add, Nat.reduceAdd, kRcv_1, kRcv_2, kRcv_3, kRcv_0, kRcv_4, kRcv_5]
    all_goals ((repeat' (first | with_reducible refine And.intro ?_ ?_ | intro _)) <;> first | with_reducible assumption | exact True.intro | with_reducible exact hR | omega | (simp only [inR] at *; omega) | exact hR | with_reducible rfl | rfl | (simp; done) | (exfalso; simp_all; done) | skip)
theorem o_room0 {x y c w r : Nat} (hC : ClsI G σ B s kp p n t) (hI : GdI s kp p n t) (hG : G 0 ≤ B) (hc : 1 ≤ c ∧ c ≤ 6) (hw : 1 ≤ w ∧ w ≤ 6) (hx : x + c ≤ 16) (hy : y + w ≤ 12) (hfr : firstN (fun r => thM s r) 6 0 = r) (hr : r < 6) (hcan : canM s (x : Nat) (y : Nat) c w)
    (hQ : ∀ σ' : AS, ClsI G σ' B (rmS s r x y c w) (svK kp) (svF s p kp) n t → FrB B (B + 46) σ σ' → Q (.inl (some (vI (r : Nat)))) σ') :
    CW G k_Cp_room [vR B, vI (x : Nat), vI (y : Nat), vI (c : Nat), vI (w : Nat)] σ Q := by
  have hB : σ.1 B = _ := hC.1
  have hno : ¬ isR s r := fun z => by
    have h1 := firstN_no (s := s) 6 0 (by omega)
    rw [hfr, (th_R hr).mpr z] at h1
    omega
  refine o_room_go hC hc hw hx hy ?_
  rw [s_Plan_lowestFreeNumber hC.2.1 hI.1.bx, first_eq, hfr, if_pos (by omega)]
  simp only [e_Cp_room_76, e_Cp_room_78, e_Cp_room_80, e_Cp_room_81, e_Cp_room_84, e_Cp_room_94, e_Cp_room_95, e_Cp_room_98, e_Cp_room_99, e_Cp_room_100, e_Cp_room_101, e_Cp_room_103, kR_l, kR_r, kP_0, kP_i, kP_r, kP_n, kP_s, kP_o, kLen_I, kLen_L, kLen_R, kLdI_0, kLdI_1, kLdI_2, kLdI_3, kStI_0, kStI_1, kLdL_e, kStL_e, kLdR_e, kStR_e, kFld_e, kNth_0, kNth_s, kPut_e, fit_I, fit_Z, fit_B, fit_C, fit_A, fit_O, Option.toList_some, Option.toList_none, List.cons_append, List.nil_append, true_and, and_true, List.set_cons_zero, List.set_cons_succ, st_same, Int.toNat_natCast, Int.cast_ofNat_Int, Nat.zero_add, Nat.reduceAdd, kRcv_1, kRcv_2, kRcv_3, kRcv_0, kRcv_4, kRcv_5, hB, hC.2.1.1]
  refine ⟨⟨by unfold inR; omega, by unfold inR; omega⟩, fun _ => ?_, fun z => absurd (show ((r : Nat) : Int) ≠ -1 by omega) z⟩
  rw [s_Plan_hasSpaceFor (b := 1) hC.2.2.2.2.2.2.1 hC.2.1 hI.1.sq (by omega) (by omega) hc.2 hw.2 (fun _ => rfl) (fun z => absurd ((sp_can hI.1 hc.1 hx hy).mpr hcan) z)]
  obtain ⟨nx, -, -, hV, -⟩ := hC.2.2.2.1
  simp only [e_Cp_room_106, e_Cp_room_109, e_Cp_room_119, e_Cp_room_120, e_Cp_room_123, e_Cp_room_124, e_Cp_room_127, kR_l, kR_r, kP_0, kP_i, kP_r, kP_n, kP_s, kP_o, kLen_I, kLen_L, kLen_R, kLdI_0, kLdI_1, kLdI_2, kLdI_3, kStI_0, kStI_1, kLdL_e, kStL_e, kLdR_e, kStR_e, kFld_e, kNth_0, kNth_s, kPut_e, fit_I, fit_Z, fit_B, fit_C, fit_A, fit_O, Option.toList_some, Option.toList_none, List.cons_append, List.nil_append, true_and, and_true, List.set_cons_zero, List.set_cons_succ, st_same, Int.toNat_natCast, Int.cast_ofNat_Int, Nat.zero_add, Nat.reduceAdd, kRcv_1, kRcv_2, kRcv_3, kRcv_0, kRcv_4, kRcv_5, hB, hV]
  refine ⟨by unfold inR; omega, fun _ => ?_, fun z => absurd (show (1 : Int) ≠ 0 by decide) z⟩
  refine v_push hC hI hG (fun σ1 hC1 f1 => ?_)
  have hB1 : σ1.1 B = _ := hC1.1
  simp only [e_Cp_room_130, e_Cp_room_131, e_Cp_room_134, e_Cp_room_136, e_Cp_room_137, e_Cp_room_138, e_Cp_room_139, e_Cp_room_141, kR_l, kR_r, kP_0, kP_i, kP_r, kP_n, kP_s, kP_o, kLen_I, kLen_L, kLen_R, kLdI_0, kLdI_1, kLdI_2, kLdI_3, kStI_0, kStI_1, kLdL_e, kStL_e, kLdR_e, kStR_e, kFld_e, kNth_0, kNth_s, kPut_e, fit_I, fit_Z, fit_B, fit_C, fit_A, fit_O, Option.toList_some, Option.toList_none, List.cons_append, List.nil_append, true_and, and_true, List.set_cons_zero, List.set_cons_succ, st_same, Int.toNat_natCast, Int.cast_ofNat_Int, Nat.zero_add, Nat.reduceAdd, kRcv_1, kRcv_2, kRcv_3, kRcv_0, kRcv_4, kRcv_5, hB1, hC1.2.1.1]
  rw [s_Plan_addChamber hC1.2.1 hI.1.bx (by omega) hr (by omega) (by omega), rm_pF hc.1 hx hy, rm_pG hI.1 hr hno hc.1 hx hy, (rm_pH (s := s) (r := r) (x := x) (y := y) (c := c) (n := w) hr hc.1 hx hy).1, ← (rm_pH (s := s) (r := r) (x := x) (y := y) (c := c) (n := w) hr hc.1 hx hy).2]
  have f2 := setPs_fr σ1 (B + 1) (rmS s r x y c w)
  have hq := hQ (setPs σ1 (B + 1) (rmS s r x y c w)) (hC1.plan hG f2 (setPs_is _ _ _)) ((f1.wide (by omega) (by omega)).trans (f2.wide (by omega) (by omega)))
  clear hQ
  simp only [e_Cp_room_144, e_Cp_room_146, kR_l, kR_r, kP_0, kP_i, kP_r, kP_n, kP_s, kP_o, kLen_I, kLen_L, kLen_R, kLdI_0, kLdI_1, kLdI_2, kLdI_3, kStI_0, kStI_1, kLdL_e, kStL_e, kLdR_e, kStR_e, kFld_e, kNth_0, kNth_s, kPut_e, fit_I, fit_Z, fit_B, fit_C, fit_A, fit_O, Option.toList_some, Option.toList_none, List.cons_append, List.nil_append, true_and, and_true, List.set_cons_zero, List.set_cons_succ, st_same, Int.toNat_natCast, Int.cast_ofNat_Int, Nat.zero_add, Nat.reduceAdd, kRcv_1, kRcv_2, kRcv_3, kRcv_0, kRcv_4, kRcv_5]
  first | exact hq | exact ⟨trivial, hq⟩ | exact ⟨by simp, hq⟩
theorem o_give0 {r : Int} (hC : ClsI G σ B s kp p n t) (hI : GdI s kp p n t) (hr : inR r) (h : thM s r = 0) : CW G k_Cp_give [vR B, vI r] σ Q = Q (.inr 2) (am_th σ) := by
  refine CW.det' fun R hR => ?_
  have hB : σ.1 B = _ := hC.1
  simp only [c_Cp_give, e_Cp_give_0, e_Cp_give_1, e_Cp_give_2, kR_l, kR_r, kP_0, kP_i, kP_r, kP_n, kP_s, kP_o, kLen_I, kLen_L, kLen_R, kLdI_0, kLdI_1, kLdI_2, kLdI_3, kStI_0, kStI_1, kLdL_e, kStL_e, kLdR_e, kStR_e, kFld_e, kNth_0, kNth_s, kPut_e, fit_I, fit_Z, fit_B, fit_C, fit_A, fit_O, Option.toList_some, Option.toList_none, List.cons_append, List.nil_append, true_and, and_true, List.set_cons_zero, List.set_cons_succ, st_same, Int.toNat_natCast, Int.cast_ofNat_Int, Nat.zero_add, Nat.reduceAdd, kRcv_1, kRcv_2, kRcv_3, kRcv_0, kRcv_4, kRcv_5, hB]
  rw [q_Ch0 hC hI hr h]
  exact hR
theorem o_give1 {r : Nat} (hC : ClsI G σ B s kp p n t) (hI : GdI s kp p n t) (hG : G 0 ≤ B) (hr : r < 6) (h : thM s (r : Nat) = 1)
    (hQ : ∀ σ' : AS, ClsI G σ' B (gvS s r) (svK kp) (svF s p kp) n t → FrB B (B + 46) σ σ' → Q (.inl (some (vI (sumTo (fun k => b01 (s k = r)) 192)))) σ') :
    CW G k_Cp_give [vR B, vI (r : Nat)] σ Q := by
  have hB : σ.1 B = _ := hC.1
  have hR := (th_R hr).mp h
  obtain ⟨nx, -, -, hV, -⟩ := hC.2.2.2.1
  simp only [c_Cp_give, e_Cp_give_0, e_Cp_give_1, e_Cp_give_2, kR_l, kR_r, kP_0, kP_i, kP_r, kP_n, kP_s, kP_o, kLen_I, kLen_L, kLen_R, kLdI_0, kLdI_1, kLdI_2, kLdI_3, kStI_0, kStI_1, kLdL_e, kStL_e, kLdR_e, kStR_e, kFld_e, kNth_0, kNth_s, kPut_e, fit_I, fit_Z, fit_B, fit_C, fit_A, fit_O, Option.toList_some, Option.toList_none, List.cons_append, List.nil_append, true_and, and_true, List.set_cons_zero, List.set_cons_succ, st_same, Int.toNat_natCast, Int.cast_ofNat_Int, Nat.zero_add, Nat.reduceAdd, kRcv_1, kRcv_2, kRcv_3, kRcv_0, kRcv_4, kRcv_5, hB]
  rw [q_Ch1 hC hI (by unfold inR; omega) h]
  simp only [e_Cp_give_5, e_Cp_give_6, e_Cp_give_9, e_Cp_give_10, e_Cp_give_13, kR_l, kR_r, kP_0, kP_i, kP_r, kP_n, kP_s, kP_o, kLen_I, kLen_L, kLen_R, kLdI_0, kLdI_1, kLdI_2, kLdI_3, kStI_0, kStI_1, kLdL_e, kStL_e, kLdR_e, kStR_e, kFld_e, kNth_0, kNth_s, kPut_e, fit_I, fit_Z, fit_B, fit_C, fit_A, fit_O, Option.toList_some, Option.toList_none, List.cons_append, List.nil_append, true_and, and_true, List.set_cons_zero, List.set_cons_succ, st_same, Int.toNat_natCast, Int.cast_ofNat_Int, Nat.zero_add, Nat.reduceAdd, kRcv_1, kRcv_2, kRcv_3, kRcv_0, kRcv_4, kRcv_5, hB, hV]
  refine v_push hC hI hG (fun σ1 hC1 f1 => ?_)
  have hB1 : σ1.1 B = _ := hC1.1
  have hbx := hI.1.2.2.2.1 r hr hR
  have e0 : bxAt (pG s) (r : Nat) 0 = s (192 + 4 * r) := pG_at hr (show 0 < 4 by omega) hR
  have e1 : bxAt (pG s) (r : Nat) 1 = s (193 + 4 * r) := (pG_at hr (show 1 < 4 by omega) hR).trans (congrArg s (by omega))
  have e2 : bxAt (pG s) (r : Nat) 2 = s (194 + 4 * r) := (pG_at hr (show 2 < 4 by omega) hR).trans (congrArg s (by omega))
  have e3 : bxAt (pG s) (r : Nat) 3 = s (195 + 4 * r) := (pG_at hr (show 3 < 4 by omega) hR).trans (congrArg s (by omega))
  have gp := gv_p hI.1 hr hR
  simp only [e_Cp_give_16, e_Cp_give_17, e_Cp_give_20, e_Cp_give_21, kR_l, kR_r, kP_0, kP_i, kP_r, kP_n, kP_s, kP_o, kLen_I, kLen_L, kLen_R, kLdI_0, kLdI_1, kLdI_2, kLdI_3, kStI_0, kStI_1, kLdL_e, kStL_e, kLdR_e, kStR_e, kFld_e, kNth_0, kNth_s, kPut_e, fit_I, fit_Z, fit_B, fit_C, fit_A, fit_O, Option.toList_some, Option.toList_none, List.cons_append, List.nil_append, true_and, and_true, List.set_cons_zero, List.set_cons_succ, st_same, Int.toNat_natCast, Int.cast_ofNat_Int, Nat.zero_add, Nat.reduceAdd, kRcv_1, kRcv_2, kRcv_3, kRcv_0, kRcv_4, kRcv_5, hB1, hC1.2.1.1]
  rw [s_Plan_giveUp hC1.2.1 hI.1.bx (pH_can s) (by omega) hr (by omega) (by omega), gp.1, gp.2.1, gp.2.2.1, gp.2.2.2, ← gv_area hI.1 hr hR]
  have f2 := setPs_fr σ1 (B + 1) (gvS s r)
  have hq := hQ (setPs σ1 (B + 1) (gvS s r)) (hC1.plan hG f2 (setPs_is _ _ _)) ((f1.wide (by omega) (by omega)).trans (f2.wide (by omega) (by omega)))
  clear hQ
  simp only [e_Cp_give_24, kR_l, kR_r, kP_0, kP_i, kP_r, kP_n, kP_s, kP_o, kLen_I, kLen_L, kLen_R, kLdI_0, kLdI_1, kLdI_2, kLdI_3, kStI_0, kStI_1, kLdL_e, kStL_e, kLdR_e, kStR_e, kFld_e, kNth_0, kNth_s, kPut_e, fit_I, fit_Z, fit_B, fit_C, fit_A, fit_O, Option.toList_some, Option.toList_none, List.cons_append, List.nil_append, true_and, and_true, List.set_cons_zero, List.set_cons_succ, st_same, Int.toNat_natCast, Int.cast_ofNat_Int, Nat.zero_add, Nat.reduceAdd, kRcv_1, kRcv_2, kRcv_3, kRcv_0, kRcv_4, kRcv_5]
  first | exact hq | exact ⟨trivial, hq⟩ | exact ⟨by simp, hq⟩
theorem o_walk1 {a b w : Int} (hC : ClsI G σ B s kp p n t) (hI : GdI s kp p n t) (ha : inR a) (hb : inR b) (hw : inR w) (h : mayM s a b (inB w 0 3) = 1) : CW G k_Cp_walk [vR B, vI a, vI b, vI w] σ Q = Q (.inr 2) (am_th σ) := by
  refine CW.det' fun R hR => ?_
  have hB : σ.1 B = _ := hC.1
  have h1 : mayM s a b 1 = 1 := by
    unfold mayM at h ⊢
    split at h
    · rename_i c; rw [if_pos c]
    · split at h <;> omega
  simp only [c_Cp_walk, e_Cp_walk_0, e_Cp_walk_1, e_Cp_walk_2, e_Cp_walk_3, kR_l, kR_r, kP_0, kP_i, kP_r, kP_n, kP_s, kP_o, kLen_I, kLen_L, kLen_R, kLdI_0, kLdI_1, kLdI_2, kLdI_3, kStI_0, kStI_1, kLdL_e, kStL_e, kLdR_e, kStR_e, kFld_e, kNth_0, kNth_s, kPut_e, fit_I, fit_Z, fit_B, fit_C, fit_A, fit_O, Option.toList_some, Option.toList_none, List.cons_append, List.nil_append, true_and, and_true, List.set_cons_zero, List.set_cons_succ, st_same, Int.toNat_natCast, Int.cast_ofNat_Int, Nat.zero_add, Nat.reduceAdd, kRcv_1, kRcv_2, kRcv_3, kRcv_0, kRcv_4, kRcv_5, hB]
  rw [q_Two1 hC hI ha hb h1]
  exact hR
theorem o_walk2 {a b w : Int} (hC : ClsI G σ B s kp p n t) (hI : GdI s kp p n t) (ha : inR a) (hb : inR b) (hw : inR w) (h : mayM s a b (inB w 0 3) = 2) : CW G k_Cp_walk [vR B, vI a, vI b, vI w] σ Q = Q (.inr 0) (am_th σ) := by
  refine CW.det' fun R hR => ?_
  have hB : σ.1 B = _ := hC.1
  have h1 := mayM_bd s a b 1
  have h2 : mayM s a b 1 ≠ 1 := by
    intro z
    unfold mayM at h z
    split at h
    · omega
    · rename_i c
      rw [if_neg c] at z
      split at z <;> omega
  simp only [c_Cp_walk, e_Cp_walk_0, e_Cp_walk_1, e_Cp_walk_2, e_Cp_walk_3, kR_l, kR_r, kP_0, kP_i, kP_r, kP_n, kP_s, kP_o, kLen_I, kLen_L, kLen_R, kLdI_0, kLdI_1, kLdI_2, kLdI_3, kStI_0, kStI_1, kLdL_e, kStL_e, kLdR_e, kStR_e, kFld_e, kNth_0, kNth_s, kPut_e, fit_I, fit_Z, fit_B, fit_C, fit_A, fit_O, Option.toList_some, Option.toList_none, List.cons_append, List.nil_append, true_and, and_true, List.set_cons_zero, List.set_cons_succ, st_same, Int.toNat_natCast, Int.cast_ofNat_Int, Nat.zero_add, Nat.reduceAdd, kRcv_1, kRcv_2, kRcv_3, kRcv_0, kRcv_4, kRcv_5, hB]
  by_cases c : mayM s a b 1 = 0
  · rw [q_Two0 hC hI ha hb c]
    have hm := mayM_0 c
    have hww : ¬ (0 ≤ w ∧ w ≤ 3) := by
      intro z
      have e : inB w 0 3 = 1 := if_pos z
      rw [e, c] at h
      omega
    simp only [e_Cp_walk_6, e_Cp_walk_7, e_Cp_walk_10, e_Cp_walk_11, e_Cp_walk_12, e_Cp_walk_15, kR_l, kR_r, kP_0, kP_i, kP_r, kP_n, kP_s, kP_o, kLen_I, kLen_L, kLen_R, kLdI_0, kLdI_1, kLdI_2, kLdI_3, kStI_0, kStI_1, kLdL_e, kStL_e, kLdR_e, kStR_e, kFld_e, kNth_0, kNth_s, kPut_e, fit_I, fit_Z, fit_B, fit_C, fit_A, fit_O, Option.toList_some, Option.toList_none, List.cons_append, List.nil_append, true_and, and_true, List.set_cons_zero, List.set_cons_succ, st_same, Int.toNat_natCast, Int.cast_ofNat_Int, Nat.zero_add, Nat.reduceAdd, kRcv_1, kRcv_2, kRcv_3, kRcv_0, kRcv_4, kRcv_5]
    all_goals ((repeat' (first | with_reducible refine And.intro ?_ ?_ | intro _)) <;> first | with_reducible assumption | exact True.intro | with_reducible exact hR | omega | (simp only [inR] at *; omega) | exact hR | with_reducible rfl | rfl | (simp; done) | (exfalso; simp_all; done) | skip)
  · rw [q_Two2 hC hI ha hb (by omega)]
    exact hR
theorem o_walk0 {a b : Nat} {w : Int} (hC : ClsI G σ B s kp p n t) (hI : GdI s kp p n t) (hG : G 0 ≤ B) (ha : a < 6) (hb : b < 6) (hw : 0 ≤ w ∧ w ≤ 3) (h : mayM s (a : Nat) (b : Nat) 1 = 0)
    (hQ : ∀ σ' : AS, ClsI G σ' B (wkS s a b w) (svK kp) (svF s p kp) n t → FrB B (B + 46) σ σ' → Q (.inl (some (vI (wkM s a b)))) σ') :
    CW G k_Cp_walk [vR B, vI (a : Nat), vI (b : Nat), vI w] σ Q := by
  have hB : σ.1 B = _ := hC.1
  obtain ⟨nx, -, -, hV, -⟩ := hC.2.2.2.1
  simp only [c_Cp_walk, e_Cp_walk_0, e_Cp_walk_1, e_Cp_walk_2, e_Cp_walk_3, kR_l, kR_r, kP_0, kP_i, kP_r, kP_n, kP_s, kP_o, kLen_I, kLen_L, kLen_R, kLdI_0, kLdI_1, kLdI_2, kLdI_3, kStI_0, kStI_1, kLdL_e, kStL_e, kLdR_e, kStR_e, kFld_e, kNth_0, kNth_s, kPut_e, fit_I, fit_Z, fit_B, fit_C, fit_A, fit_O, Option.toList_some, Option.toList_none, List.cons_append, List.nil_append, true_and, and_true, List.set_cons_zero, List.set_cons_succ, st_same, Int.toNat_natCast, Int.cast_ofNat_Int, Nat.zero_add, Nat.reduceAdd, kRcv_1, kRcv_2, kRcv_3, kRcv_0, kRcv_4, kRcv_5, hB]
  rw [q_Two0 hC hI (by unfold inR; omega) (by unfold inR; omega) h]
  simp only [e_Cp_walk_6, e_Cp_walk_7, e_Cp_walk_10, e_Cp_walk_11, e_Cp_walk_12, e_Cp_walk_25, e_Cp_walk_26, e_Cp_walk_29, e_Cp_walk_30, e_Cp_walk_33, kR_l, kR_r, kP_0, kP_i, kP_r, kP_n, kP_s, kP_o, kLen_I, kLen_L, kLen_R, kLdI_0, kLdI_1, kLdI_2, kLdI_3, kStI_0, kStI_1, kLdL_e, kStL_e, kLdR_e, kStR_e, kFld_e, kNth_0, kNth_s, kPut_e, fit_I, fit_Z, fit_B, fit_C, fit_A, fit_O, Option.toList_some, Option.toList_none, List.cons_append, List.nil_append, true_and, and_true, List.set_cons_zero, List.set_cons_succ, st_same, Int.toNat_natCast, Int.cast_ofNat_Int, Nat.zero_add, Nat.reduceAdd, kRcv_1, kRcv_2, kRcv_3, kRcv_0, kRcv_4, kRcv_5, hB, hV]
  refine ⟨by unfold inR; omega, (fun h => by first | exact absurd h (by omega) | exact absurd trivial h | (exfalso; simp_all; done)), fun _ => ⟨⟨by unfold inR; omega, by unfold inR; omega⟩, fun _ => ?_, (fun h => by first | exact absurd h (by omega) | exact absurd trivial h | (exfalso; simp_all; done))⟩⟩
  refine v_push hC hI hG (fun σ1 hC1 f1 => ?_)
  have hB1 : σ1.1 B = _ := hC1.1
  have hp := wkS_p (s := s) (w := w) ha hb
  simp only [e_Cp_walk_36, e_Cp_walk_37, e_Cp_walk_40, e_Cp_walk_41, e_Cp_walk_42, kR_l, kR_r, kP_0, kP_i, kP_r, kP_n, kP_s, kP_o, kLen_I, kLen_L, kLen_R, kLdI_0, kLdI_1, kLdI_2, kLdI_3, kStI_0, kStI_1, kLdL_e, kStL_e, kLdR_e, kStR_e, kFld_e, kNth_0, kNth_s, kPut_e, fit_I, fit_Z, fit_B, fit_C, fit_A, fit_O, Option.toList_some, Option.toList_none, List.cons_append, List.nil_append, true_and, and_true, List.set_cons_zero, List.set_cons_succ, st_same, Int.toNat_natCast, Int.cast_ofNat_Int, Nat.zero_add, Nat.reduceAdd, kRcv_1, kRcv_2, kRcv_3, kRcv_0, kRcv_4, kRcv_5, hB1, hC1.2.1.1]
  rw [s_Plan_widthBetween hC1.2.1 ha hb, wdAt_wk ha hb]
  simp only [e_Cp_walk_45, e_Cp_walk_47, e_Cp_walk_48, e_Cp_walk_51, e_Cp_walk_52, e_Cp_walk_53, e_Cp_walk_54, kR_l, kR_r, kP_0, kP_i, kP_r, kP_n, kP_s, kP_o, kLen_I, kLen_L, kLen_R, kLdI_0, kLdI_1, kLdI_2, kLdI_3, kStI_0, kStI_1, kLdL_e, kStL_e, kLdR_e, kStR_e, kFld_e, kNth_0, kNth_s, kPut_e, fit_I, fit_Z, fit_B, fit_C, fit_A, fit_O, Option.toList_some, Option.toList_none, List.cons_append, List.nil_append, true_and, and_true, List.set_cons_zero, List.set_cons_succ, st_same, Int.toNat_natCast, Int.cast_ofNat_Int, Nat.zero_add, Nat.reduceAdd, kRcv_1, kRcv_2, kRcv_3, kRcv_0, kRcv_4, kRcv_5, hB1, hC1.2.1.1]
  rw [s_Plan_changeWidth hC1.2.1 (by omega) ha hb, setP_wd hC1.2.1, hp.2.2.1, hp.1, hp.2.1, hp.2.2.2]
  have f2 := setPs_fr σ1 (B + 1) (wkS s a b w)
  have hq := hQ (setPs σ1 (B + 1) (wkS s a b w)) (hC1.plan hG f2 (setPs_is _ _ _)) ((f1.wide (by omega) (by omega)).trans (f2.wide (by omega) (by omega)))
  clear hQ
  simp only [e_Cp_walk_57, e_Cp_walk_59, kR_l, kR_r, kP_0, kP_i, kP_r, kP_n, kP_s, kP_o, kLen_I, kLen_L, kLen_R, kLdI_0, kLdI_1, kLdI_2, kLdI_3, kStI_0, kStI_1, kLdL_e, kStL_e, kLdR_e, kStR_e, kFld_e, kNth_0, kNth_s, kPut_e, fit_I, fit_Z, fit_B, fit_C, fit_A, fit_O, Option.toList_some, Option.toList_none, List.cons_append, List.nil_append, true_and, and_true, List.set_cons_zero, List.set_cons_succ, st_same, Int.toNat_natCast, Int.cast_ofNat_Int, Nat.zero_add, Nat.reduceAdd, kRcv_1, kRcv_2, kRcv_3, kRcv_0, kRcv_4, kRcv_5]
  first | exact hq | exact ⟨trivial, hq⟩ | exact ⟨by simp, hq⟩
theorem o_dig1 {x y : Int} (hx : inR x) (hy : inR y) (h : ¬ (0 ≤ x ∧ x ≤ 15 ∧ 0 ≤ y ∧ y ≤ 11)) : CW G k_Cp_dig [vR B, vI x, vI y] σ Q = Q (.inr 0) (am_th σ) := by
  refine CW.det' fun R hR => ?_
  simp only [c_Cp_dig, e_Cp_dig_0, e_Cp_dig_1, e_Cp_dig_2, kR_l, kR_r, kP_0, kP_i, kP_r, kP_n, kP_s, kP_o, kLen_I, kLen_L, kLen_R, kLdI_0, kLdI_1, kLdI_2, kLdI_3, kStI_0, kStI_1, kLdL_e, kStL_e, kLdR_e, kStR_e, kFld_e, kNth_0, kNth_s, kPut_e, fit_I, fit_Z, fit_B, fit_C, fit_A, fit_O, Option.toList_some, Option.toList_none, List.cons_append, List.nil_append, true_and, and_true, List.set_cons_zero, List.set_cons_succ, st_same, Int.toNat_natCast, Int.cast_ofNat_Int, Nat.zero_add, Nat.reduceAdd, kRcv_1, kRcv_2, kRcv_3, kRcv_0, kRcv_4, kRcv_5]
  rw [q_Sq1 hx hy h]
  exact hR
theorem xy_sq {x y : Nat} (hx : x < 16) (hy : y < 12) : sqAt (pF s) (x : Nat) (y : Nat) = s (16 * y + x) := by
  rw [sqAt_in (by omega), show (16 * ((y : Nat) : Int) + ((x : Nat) : Int)).toNat = 16 * y + x by omega]
  exact if_pos (by omega)
theorem o_dig2 {x y : Nat} (hC : ClsI G σ B s kp p n t) (hI : GdI s kp p n t) (hx : x < 16) (hy : y < 12) (h : 0 ≤ s (16 * y + x)) : CW G k_Cp_dig [vR B, vI (x : Nat), vI (y : Nat)] σ Q = Q (.inr 1) (am_th σ) := by
  refine CW.det' fun R hR => ?_
  have hB : σ.1 B = _ := hC.1
  have hs := hI.1.2.2.2.2.1 (16 * y + x) (by omega)
  simp only [c_Cp_dig, e_Cp_dig_0, e_Cp_dig_1, e_Cp_dig_2, kR_l, kR_r, kP_0, kP_i, kP_r, kP_n, kP_s, kP_o, kLen_I, kLen_L, kLen_R, kLdI_0, kLdI_1, kLdI_2, kLdI_3, kStI_0, kStI_1, kLdL_e, kStL_e, kLdR_e, kStR_e, kFld_e, kNth_0, kNth_s, kPut_e, fit_I, fit_Z, fit_B, fit_C, fit_A, fit_O, Option.toList_some, Option.toList_none, List.cons_append, List.nil_append, true_and, and_true, List.set_cons_zero, List.set_cons_succ, st_same, Int.toNat_natCast, Int.cast_ofNat_Int, Nat.zero_add, Nat.reduceAdd, kRcv_1, kRcv_2, kRcv_3, kRcv_0, kRcv_4, kRcv_5]
  rw [q_Sq0 (by unfold inR; omega) (by unfold inR; omega) (by omega)]
  simp only [e_Cp_dig_5, e_Cp_dig_6, e_Cp_dig_9, e_Cp_dig_10, e_Cp_dig_11, kR_l, kR_r, kP_0, kP_i, kP_r, kP_n, kP_s, kP_o, kLen_I, kLen_L, kLen_R, kLdI_0, kLdI_1, kLdI_2, kLdI_3, kStI_0, kStI_1, kLdL_e, kStL_e, kLdR_e, kStR_e, kFld_e, kNth_0, kNth_s, kPut_e, fit_I, fit_Z, fit_B, fit_C, fit_A, fit_O, Option.toList_some, Option.toList_none, List.cons_append, List.nil_append, true_and, and_true, List.set_cons_zero, List.set_cons_succ, st_same, Int.toNat_natCast, Int.cast_ofNat_Int, Nat.zero_add, Nat.reduceAdd, kRcv_1, kRcv_2, kRcv_3, kRcv_0, kRcv_4, kRcv_5, hB, hC.2.1.1]
  rw [s_Plan_squareAt hC.2.1 (by unfold inR; omega) (by unfold inR; omega), xy_sq hx hy]
  simp only [e_Cp_dig_14, e_Cp_dig_17, kR_l, kR_r, kP_0, kP_i, kP_r, kP_n, kP_s, kP_o, kLen_I, kLen_L, kLen_R, kLdI_0, kLdI_1, kLdI_2, kLdI_3, kStI_0, kStI_1, kLdL_e, kStL_e, kLdR_e, kStR_e, kFld_e, kNth_0, kNth_s, kPut_e, fit_I, fit_Z, fit_B, fit_C, fit_A, fit_O, Option.toList_some, Option.toList_none, List.cons_append, List.nil_append, true_and, and_true, List.set_cons_zero, List.set_cons_succ, st_same, Int.toNat_natCast, Int.cast_ofNat_Int, Nat.zero_add, Nat.reduceAdd, kRcv_1, kRcv_2, kRcv_3, kRcv_0, kRcv_4, kRcv_5]
  all_goals ((repeat' (first | with_reducible refine And.intro ?_ ?_ | intro _)) <;> first | with_reducible assumption | exact True.intro | with_reducible exact hR | omega | (simp only [inR] at *; omega) | exact hR | with_reducible rfl | rfl | (simp; done) | (exfalso; simp_all; done) | skip)
theorem o_dig0 {x y : Nat} (hC : ClsI G σ B s kp p n t) (hI : GdI s kp p n t) (hG : G 0 ≤ B) (hx : x < 16) (hy : y < 12) (h : s (16 * y + x) < 0)
    (hQ : ∀ σ' : AS, ClsI G σ' B (tgS s (16 * y + x)) (svK kp) (svF s p kp) n t → FrB B (B + 46) σ σ' → Q (.inl (some (vI (if s (16 * y + x) = -1 then 0 else 1)))) σ') :
    CW G k_Cp_dig [vR B, vI (x : Nat), vI (y : Nat)] σ Q := by
  have hB : σ.1 B = _ := hC.1
  have hs := hI.1.2.2.2.2.1 (16 * y + x) (by omega)
  obtain ⟨nx, -, -, hV, -⟩ := hC.2.2.2.1
  have hp := tg_p (s := s) (p := 16 * y + x) (by omega)
  simp only [c_Cp_dig, e_Cp_dig_0, e_Cp_dig_1, e_Cp_dig_2, kR_l, kR_r, kP_0, kP_i, kP_r, kP_n, kP_s, kP_o, kLen_I, kLen_L, kLen_R, kLdI_0, kLdI_1, kLdI_2, kLdI_3, kStI_0, kStI_1, kLdL_e, kStL_e, kLdR_e, kStR_e, kFld_e, kNth_0, kNth_s, kPut_e, fit_I, fit_Z, fit_B, fit_C, fit_A, fit_O, Option.toList_some, Option.toList_none, List.cons_append, List.nil_append, true_and, and_true, List.set_cons_zero, List.set_cons_succ, st_same, Int.toNat_natCast, Int.cast_ofNat_Int, Nat.zero_add, Nat.reduceAdd, kRcv_1, kRcv_2, kRcv_3, kRcv_0, kRcv_4, kRcv_5]
  rw [q_Sq0 (by unfold inR; omega) (by unfold inR; omega) (by omega)]
  simp only [e_Cp_dig_5, e_Cp_dig_6, e_Cp_dig_9, e_Cp_dig_10, e_Cp_dig_11, kR_l, kR_r, kP_0, kP_i, kP_r, kP_n, kP_s, kP_o, kLen_I, kLen_L, kLen_R, kLdI_0, kLdI_1, kLdI_2, kLdI_3, kStI_0, kStI_1, kLdL_e, kStL_e, kLdR_e, kStR_e, kFld_e, kNth_0, kNth_s, kPut_e, fit_I, fit_Z, fit_B, fit_C, fit_A, fit_O, Option.toList_some, Option.toList_none, List.cons_append, List.nil_append, true_and, and_true, List.set_cons_zero, List.set_cons_succ, st_same, Int.toNat_natCast, Int.cast_ofNat_Int, Nat.zero_add, Nat.reduceAdd, kRcv_1, kRcv_2, kRcv_3, kRcv_0, kRcv_4, kRcv_5, hB, hC.2.1.1]
  rw [s_Plan_squareAt hC.2.1 (by unfold inR; omega) (by unfold inR; omega), xy_sq hx hy]
  simp only [e_Cp_dig_14, e_Cp_dig_27, e_Cp_dig_28, e_Cp_dig_31, e_Cp_dig_32, e_Cp_dig_35, kR_l, kR_r, kP_0, kP_i, kP_r, kP_n, kP_s, kP_o, kLen_I, kLen_L, kLen_R, kLdI_0, kLdI_1, kLdI_2, kLdI_3, kStI_0, kStI_1, kLdL_e, kStL_e, kLdR_e, kStR_e, kFld_e, kNth_0, kNth_s, kPut_e, fit_I, fit_Z, fit_B, fit_C, fit_A, fit_O, Option.toList_some, Option.toList_none, List.cons_append, List.nil_append, true_and, and_true, List.set_cons_zero, List.set_cons_succ, st_same, Int.toNat_natCast, Int.cast_ofNat_Int, Nat.zero_add, Nat.reduceAdd, kRcv_1, kRcv_2, kRcv_3, kRcv_0, kRcv_4, kRcv_5, hB, hV]
  refine ⟨by unfold inR; omega, fun _ => ?_, fun z => absurd h z⟩
  refine v_push hC hI hG (fun σ1 hC1 f1 => ?_)
  have hB1 : σ1.1 B = _ := hC1.1
  simp only [e_Cp_dig_38, e_Cp_dig_39, e_Cp_dig_42, e_Cp_dig_43, e_Cp_dig_44, kR_l, kR_r, kP_0, kP_i, kP_r, kP_n, kP_s, kP_o, kLen_I, kLen_L, kLen_R, kLdI_0, kLdI_1, kLdI_2, kLdI_3, kStI_0, kStI_1, kLdL_e, kStL_e, kLdR_e, kStR_e, kFld_e, kNth_0, kNth_s, kPut_e, fit_I, fit_Z, fit_B, fit_C, fit_A, fit_O, Option.toList_some, Option.toList_none, List.cons_append, List.nil_append, true_and, and_true, List.set_cons_zero, List.set_cons_succ, st_same, Int.toNat_natCast, Int.cast_ofNat_Int, Nat.zero_add, Nat.reduceAdd, kRcv_1, kRcv_2, kRcv_3, kRcv_0, kRcv_4, kRcv_5, hB1, hC1.2.1.1]
  rw [s_Plan_flip hC1.2.1 hI.1.sq (by omega) (by omega) (by omega), show (16 * ((y : Nat) : Int) + ((x : Nat) : Int)).toNat = 16 * y + x by omega, setP_sq hC1.2.1, hp.1, hp.2.1, hp.2.2.1, hp.2.2.2]
  have f2 := setPs_fr σ1 (B + 1) (tgS s (16 * y + x))
  have hC2 := hC1.plan hG f2 (setPs_is _ _ _)
  have hq := hQ (setPs σ1 (B + 1) (tgS s (16 * y + x))) hC2 ((f1.wide (by omega) (by omega)).trans (f2.wide (by omega) (by omega)))
  clear hQ
  show kR _ _ _ (setPs σ1 (B + 1) (tgS s (16 * y + x)))
  have hB2 : (setPs σ1 (B + 1) (tgS s (16 * y + x))).1 B = _ := hC2.1
  simp only [e_Cp_dig_47, e_Cp_dig_48, e_Cp_dig_51, e_Cp_dig_52, e_Cp_dig_53, kR_l, kR_r, kP_0, kP_i, kP_r, kP_n, kP_s, kP_o, kLen_I, kLen_L, kLen_R, kLdI_0, kLdI_1, kLdI_2, kLdI_3, kStI_0, kStI_1, kLdL_e, kStL_e, kLdR_e, kStR_e, kFld_e, kNth_0, kNth_s, kPut_e, fit_I, fit_Z, fit_B, fit_C, fit_A, fit_O, Option.toList_some, Option.toList_none, List.cons_append, List.nil_append, true_and, and_true, List.set_cons_zero, List.set_cons_succ, st_same, Int.toNat_natCast, Int.cast_ofNat_Int, Nat.zero_add, Nat.reduceAdd, kRcv_1, kRcv_2, kRcv_3, kRcv_0, kRcv_4, kRcv_5, hB2, hC2.2.1.1]
  rw [s_Plan_squareAt hC2.2.1 (by unfold inR; omega) (by unfold inR; omega), xy_sq hx hy]
  have et : tgS s (16 * y + x) (16 * y + x) = if s (16 * y + x) = -1 then -2 else -1 := by
    unfold tgS
    exact upI_eq _ _ _
  rw [et]
  simp only [e_Cp_dig_56, e_Cp_dig_57, e_Cp_dig_60, e_Cp_dig_61, e_Cp_dig_64, e_Cp_dig_65, kR_l, kR_r, kP_0, kP_i, kP_r, kP_n, kP_s, kP_o, kLen_I, kLen_L, kLen_R, kLdI_0, kLdI_1, kLdI_2, kLdI_3, kStI_0, kStI_1, kLdL_e, kStL_e, kLdR_e, kStR_e, kFld_e, kNth_0, kNth_s, kPut_e, fit_I, fit_Z, fit_B, fit_C, fit_A, fit_O, Option.toList_some, Option.toList_none, List.cons_append, List.nil_append, true_and, and_true, List.set_cons_zero, List.set_cons_succ, st_same, Int.toNat_natCast, Int.cast_ofNat_Int, Nat.zero_add, Nat.reduceAdd, kRcv_1, kRcv_2, kRcv_3, kRcv_0, kRcv_4, kRcv_5]
  by_cases c : s (16 * y + x) = -1
  · rw [if_pos c] at hq ⊢
    all_goals ((repeat' (first | with_reducible refine And.intro ?_ ?_ | intro _)) <;> first | with_reducible assumption | exact True.intro | with_reducible exact hq | omega | (simp only [inR] at *; omega) | exact hq | with_reducible rfl | rfl | (simp; done) | (exfalso; simp_all; done) | skip)
  · rw [if_neg c] at hq ⊢
    all_goals ((repeat' (first | with_reducible refine And.intro ?_ ?_ | intro _)) <;> first | with_reducible assumption | exact True.intro | with_reducible exact hq | omega | (simp only [inR] at *; omega) | exact hq | with_reducible rfl | rfl | (simp; done) | (exfalso; simp_all; done) | skip)
theorem o_set1 {v : Int} (hv : inR v) (h : ¬ (0 ≤ v ∧ v ≤ 9)) : CW G k_Cp_set [vR B, vI v] σ Q = Q (.inr 0) (am_th σ) := by
  refine CW.det' fun R hR => ?_
  simp only [c_Cp_set, e_Cp_set_0, e_Cp_set_1, e_Cp_set_4, e_Cp_set_5, e_Cp_set_7, e_Cp_set_10, kR_l, kR_r, kP_0, kP_i, kP_r, kP_n, kP_s, kP_o, kLen_I, kLen_L, kLen_R, kLdI_0, kLdI_1, kLdI_2, kLdI_3, kStI_0, kStI_1, kLdL_e, kStL_e, kLdR_e, kStR_e, kFld_e, kNth_0, kNth_s, kPut_e, fit_I, fit_Z, fit_B, fit_C, fit_A, fit_O, Option.toList_some, Option.toList_none, List.cons_append, List.nil_append, true_and, and_true, List.set_cons_zero, List.set_cons_succ, st_same, Int.toNat_natCast, Int.cast_ofNat_Int, Nat.zero_add, Nat.reduceAdd, kRcv_1, kRcv_2, kRcv_3, kRcv_0, kRcv_4, kRcv_5]
  all_goals ((repeat' (first | with_reducible refine And.intro ?_ ?_ | intro _)) <;> first | with_reducible assumption | exact True.intro | with_reducible exact hR | omega | (simp only [inR] at *; omega) | exact hR | with_reducible rfl | rfl | (simp; done) | (exfalso; simp_all; done) | skip)
theorem o_set0 {v : Int} (hC : ClsI G σ B s kp p n t) (hI : GdI s kp p n t) (hG : G 0 ≤ B) (hv : 0 ≤ v ∧ v ≤ 9)
    (hQ : ∀ σ' : AS, ClsI G σ' B (upI s 252 v) (svK kp) (svF s p kp) n t → FrB B (B + 46) σ σ' → Q (.inl (some (vI (s 252)))) σ') :
    CW G k_Cp_set [vR B, vI v] σ Q := by
  have hB : σ.1 B = _ := hC.1
  obtain ⟨nx, -, -, hV, -⟩ := hC.2.2.2.1
  have hp := set_p (s := s) v
  simp only [c_Cp_set, e_Cp_set_0, e_Cp_set_1, e_Cp_set_4, e_Cp_set_5, e_Cp_set_7, e_Cp_set_20, e_Cp_set_21, e_Cp_set_24, e_Cp_set_25, e_Cp_set_28, kR_l, kR_r, kP_0, kP_i, kP_r, kP_n, kP_s, kP_o, kLen_I, kLen_L, kLen_R, kLdI_0, kLdI_1, kLdI_2, kLdI_3, kStI_0, kStI_1, kLdL_e, kStL_e, kLdR_e, kStR_e, kFld_e, kNth_0, kNth_s, kPut_e, fit_I, fit_Z, fit_B, fit_C, fit_A, fit_O, Option.toList_some, Option.toList_none, List.cons_append, List.nil_append, true_and, and_true, List.set_cons_zero, List.set_cons_succ, st_same, Int.toNat_natCast, Int.cast_ofNat_Int, Nat.zero_add, Nat.reduceAdd, kRcv_1, kRcv_2, kRcv_3, kRcv_0, kRcv_4, kRcv_5, hB, hV]
  refine ⟨by unfold inR; omega, (fun h => by first | exact absurd h (by omega) | exact absurd trivial h | (exfalso; simp_all; done)), fun _ => ⟨⟨by unfold inR; omega, by unfold inR; omega⟩, fun _ => ?_, (fun h => by first | exact absurd h (by omega) | exact absurd trivial h | (exfalso; simp_all; done))⟩⟩
  refine v_push hC hI hG (fun σ1 hC1 f1 => ?_)
  have hB1 : σ1.1 B = _ := hC1.1
  simp only [e_Cp_set_31, e_Cp_set_32, e_Cp_set_35, kR_l, kR_r, kP_0, kP_i, kP_r, kP_n, kP_s, kP_o, kLen_I, kLen_L, kLen_R, kLdI_0, kLdI_1, kLdI_2, kLdI_3, kStI_0, kStI_1, kLdL_e, kStL_e, kLdR_e, kStR_e, kFld_e, kNth_0, kNth_s, kPut_e, fit_I, fit_Z, fit_B, fit_C, fit_A, fit_O, Option.toList_some, Option.toList_none, List.cons_append, List.nil_append, true_and, and_true, List.set_cons_zero, List.set_cons_succ, st_same, Int.toNat_natCast, Int.cast_ofNat_Int, Nat.zero_add, Nat.reduceAdd, kRcv_1, kRcv_2, kRcv_3, kRcv_0, kRcv_4, kRcv_5, hB1, hC1.2.1.1]
  rw [s_Plan_far hC1.2.1]
  simp only [e_Cp_set_38, e_Cp_set_39, e_Cp_set_40, e_Cp_set_43, e_Cp_set_44, kR_l, kR_r, kP_0, kP_i, kP_r, kP_n, kP_s, kP_o, kLen_I, kLen_L, kLen_R, kLdI_0, kLdI_1, kLdI_2, kLdI_3, kStI_0, kStI_1, kLdL_e, kStL_e, kLdR_e, kStR_e, kFld_e, kNth_0, kNth_s, kPut_e, fit_I, fit_Z, fit_B, fit_C, fit_A, fit_O, Option.toList_some, Option.toList_none, List.cons_append, List.nil_append, true_and, and_true, List.set_cons_zero, List.set_cons_succ, st_same, Int.toNat_natCast, Int.cast_ofNat_Int, Nat.zero_add, Nat.reduceAdd, kRcv_1, kRcv_2, kRcv_3, kRcv_0, kRcv_4, kRcv_5, hB1, hC1.2.1.1]
  rw [s_Plan_changeFar hC1.2.1 (by omega), setP_fa hC1.2.1]
  have f2 := setPs_fr σ1 (B + 1) (upI s 252 v)
  have hq := hQ (setPs σ1 (B + 1) (upI s 252 v)) (hC1.plan hG f2 (setPs_is _ _ _)) ((f1.wide (by omega) (by omega)).trans (f2.wide (by omega) (by omega)))
  unfold setPs at hq
  rw [upI_eq, ← hp.1, ← hp.2.1, ← hp.2.2] at hq
  clear hQ
  simp only [e_Cp_set_47, e_Cp_set_48, kR_l, kR_r, kP_0, kP_i, kP_r, kP_n, kP_s, kP_o, kLen_I, kLen_L, kLen_R, kLdI_0, kLdI_1, kLdI_2, kLdI_3, kStI_0, kStI_1, kLdL_e, kStL_e, kLdR_e, kStR_e, kFld_e, kNth_0, kNth_s, kPut_e, fit_I, fit_Z, fit_B, fit_C, fit_A, fit_O, Option.toList_some, Option.toList_none, List.cons_append, List.nil_append, true_and, and_true, List.set_cons_zero, List.set_cons_succ, st_same, Int.toNat_natCast, Int.cast_ofNat_Int, Nat.zero_add, Nat.reduceAdd, kRcv_1, kRcv_2, kRcv_3, kRcv_0, kRcv_4, kRcv_5]
  first | exact hq | exact ⟨trivial, hq⟩ | exact ⟨by simp, hq⟩
end CP1
