/-! THE CLASS'S METHODS: looks -/
theorem pr_0 {s : Nat → Int} : pairSum (fun a b => b01 (0 < wdAt (pH s) a b)) = prM s 0 := by
  have e : prM s 0 = sumTo (fun a => sumTo (prT s 0 a) 6) 6 := (sum_flat (fun a b => prT s 0 a b) 6 (by omega) 6).symm
  rw [e]
  unfold pairSum
  refine sum_eq 6 (fun a ha => sum_eq 6 (fun b hb => ?_))
  dsimp only
  rw [wdAt_wk ha hb]
  unfold prT
  by_cases c1 : a < b
  · rw [if_pos c1]
    by_cases c2 : 0 < wkM s a b
    · rw [b01_t c2, if_pos ⟨c1, c2⟩, if_pos rfl]
    · rw [b01_f c2, if_neg (fun z => c2 z.2)]
  · rw [if_neg c1, if_neg (fun z => c1 z.1)]
theorem sq_cnt {s : Nat → Int} (w : Int) : sumTo (fun k => b01 (pF s k = w)) 192 = sqC s w := sum_eq 192 (fun k hk => b01_c (by
  have e : pF s k = s k := if_pos hk
  rw [e]))
theorem wf_0 {s : Nat → Int} (hg : Good s) {r : Nat} (hr : r < 6) : sumTo (fun o => b01 (0 < wdAt (pH s) r o)) 6 = wdM s r 0 := by
  unfold wdM
  refine sum_eq 6 (fun o ho => ?_)
  rw [wdAt_wk hr ho]
  unfold wdT
  by_cases c : 0 < wkM s r o
  · rw [b01_t c, if_pos ⟨fun e => ((hg.2.2.2.2.2 r o hr ho).2 c).2.2 e.symm, c, Or.inl rfl⟩]
  · rw [b01_f c, if_neg (fun z => c z.2.1)]
theorem tw_d {pc : Nat} {d lo hi : Int} {offs : List Int} {x : Int} (h : x < lo ∨ hi < x) : am_tsw pc d lo hi offs x = am_tgt pc d := by
  unfold am_tsw
  rw [if_pos h]
theorem ca_cnt {s : Nat → Int} (hg : Good s) : ∀ f, sqC (caM f s).2.2 (-1) - sqC s (-1) = (caM f s).2.1 := by
  intro f
  induction f generalizing s with
  | zero =>
    unfold caM
    dsimp only
    omega
  | succ f ih =>
    unfold caM
    by_cases e : (dnM s 36).1 = -1
    · rw [if_pos e]
      dsimp only
      omega
    · rw [if_neg e]
      dsimp only
      have hb := dnM_bd hg.wk 36 (Nat.le_refl _)
      obtain ⟨k, hk⟩ : ∃ k : Nat, (dnM s 36).1 = k := ⟨(dnM s 36).1.toNat, by omega⟩
      have ho : k / 6 < 6 := by omega
      have ho2 : k % 6 < 6 := by omega
      have hwk := hg.wk (k / 6) (k % 6) ho ho2
      have ex : nxS s = dgP s (k / 6) (k % 6) := by
        unfold nxS
        rw [hk, Int.toNat_natCast]
      have h1 := ih (hg.nx e)
      have h2 : sqC (nxS s).1 (-1) = sqC s (-1) + (nxS s).2 := by
        rw [ex]
        have hD := dgP_DgR hwk
        have hc : (dgP s (k / 6) (k % 6)).2 = cnD s (dgP s (k / 6) (k % 6)).1 := (dgK_cn _ (dgP_sq hwk)).2
        rw [hc]
        unfold sqC cnD
        rw [← sum_add]
        refine sum_eq 192 (fun j hj => ?_)
        have hs := (hg.2.2.2.2.1 j hj)
        generalize (dgP s (k / 6) (k % 6)).1 = s' at *
        rcases hD j with z | ⟨z1, z2⟩
        · rw [z]
          rw [b01_f (c := s j = -2 ∧ s j = -1) (by omega)]
          omega
        · rw [z2, b01_t rfl]
          by_cases c : s j = -1
          · rw [b01_t c, b01_f (by omega)]
            rfl
          · rw [b01_f c, b01_t ⟨by omega, rfl⟩]
            rfl
      omega
section CP4
variable {G : Nat → Nat} {σ : AS} {Q : (Option AV ⊕ Nat) → AS → Prop} {B kp n : Nat} {s p t : Nat → Int}
theorem o_square1 {x y w : Int} (hx : inR x) (hy : inR y) (hw : inR w) (h : ¬ ((0 ≤ x ∧ x ≤ 15 ∧ 0 ≤ y ∧ y ≤ 11) ∧ 0 ≤ w ∧ w ≤ 1)) : CW G k_Cp_square [vR B, vI x, vI y, vI w] σ Q = Q (.inr 0) (am_th σ) := by
  refine CW.det' fun R hR => ?_
  simp only [c_Cp_square, e_Cp_square_0, e_Cp_square_1, e_Cp_square_2, kR_l, kR_r, kP_0, kP_i, kP_r, kP_n, kP_s, kP_o, kLen_I, kLen_L, kLen_R, kLdI_0, kLdI_1, kLdI_2, kLdI_3, kStI_0, kStI_1, kLdL_e, kStL_e, kLdR_e, kStR_e, kFld_e, kNth_0, kNth_s, kPut_e, fit_I, fit_Z, fit_B, fit_C, fit_A, fit_O, Option.toList_some, Option.toList_none, List.cons_append, List.nil_append, true_and, and_true, List.set_cons_zero, List.set_cons_succ, st_same, Int.toNat_natCast, Int.cast_ofNat_Int, Nat.zero_add, Nat.reduceAdd, kRcv_1, kRcv_2, kRcv_3, kRcv_0, kRcv_4, kRcv_5]
  by_cases c : 0 ≤ x ∧ x ≤ 15 ∧ 0 ≤ y ∧ y ≤ 11
  · rw [q_Sq0 hx hy c]
    have eo : Op.lookupswitch.offset [(0, 26), (1, 36)] 46 w = 46 := by
      simp only [Op.lookupswitch.offset_cons, Op.lookupswitch.offset_nil]
      rw [if_neg (by omega), if_neg (by omega)]
    simp only [e_Cp_square_5, kR_l, kR_r, kP_0, kP_i, kP_r, kP_n, kP_s, kP_o, kLen_I, kLen_L, kLen_R, kLdI_0, kLdI_1, kLdI_2, kLdI_3, kStI_0, kStI_1, kLdL_e, kStL_e, kLdR_e, kStR_e, kFld_e, kNth_0, kNth_s, kPut_e, fit_I, fit_Z, fit_B, fit_C, fit_A, fit_O, Option.toList_some, Option.toList_none, List.cons_append, List.nil_append, true_and, and_true, List.set_cons_zero, List.set_cons_succ, st_same, Int.toNat_natCast, Int.cast_ofNat_Int, Nat.zero_add, Nat.reduceAdd, kRcv_1, kRcv_2, kRcv_3, kRcv_0, kRcv_4, kRcv_5]
    rw [e_Cp_square_6 _ _ _ _ _ (by rw [eo]; decide), eo, show am_tgt 6 46 = 52 from by decide]
    refine ⟨hw, ?_⟩
    simp only [e_Cp_square_52, kR_l, kR_r, kP_0, kP_i, kP_r, kP_n, kP_s, kP_o, kLen_I, kLen_L, kLen_R, kLdI_0, kLdI_1, kLdI_2, kLdI_3, kStI_0, kStI_1, kLdL_e, kStL_e, kLdR_e, kStR_e, kFld_e, kNth_0, kNth_s, kPut_e, fit_I, fit_Z, fit_B, fit_C, fit_A, fit_O, Option.toList_some, Option.toList_none, List.cons_append, List.nil_append, true_and, and_true, List.set_cons_zero, List.set_cons_succ, st_same, Int.toNat_natCast, Int.cast_ofNat_Int, Nat.zero_add, Nat.reduceAdd, kRcv_1, kRcv_2, kRcv_3, kRcv_0, kRcv_4, kRcv_5]
    exact hR
  · rw [q_Sq1 hx hy c]
    exact hR
theorem o_square0 {x y w : Nat} (hC : ClsI G σ B s kp p n t) (hI : GdI s kp p n t) (hx : x < 16) (hy : y < 12) (hw : w ≤ 1) : CW G k_Cp_square [vR B, vI (x : Nat), vI (y : Nat), vI (w : Nat)] σ Q = Q (.inl (some (vI (if w = 0 then s (16 * y + x) else sdM s x y)))) σ := by
  refine CW.det' fun R hR => ?_
  have hB : σ.1 B = _ := hC.1
  simp only [c_Cp_square, e_Cp_square_0, e_Cp_square_1, e_Cp_square_2, kR_l, kR_r, kP_0, kP_i, kP_r, kP_n, kP_s, kP_o, kLen_I, kLen_L, kLen_R, kLdI_0, kLdI_1, kLdI_2, kLdI_3, kStI_0, kStI_1, kLdL_e, kStL_e, kLdR_e, kStR_e, kFld_e, kNth_0, kNth_s, kPut_e, fit_I, fit_Z, fit_B, fit_C, fit_A, fit_O, Option.toList_some, Option.toList_none, List.cons_append, List.nil_append, true_and, and_true, List.set_cons_zero, List.set_cons_succ, st_same, Int.toNat_natCast, Int.cast_ofNat_Int, Nat.zero_add, Nat.reduceAdd, kRcv_1, kRcv_2, kRcv_3, kRcv_0, kRcv_4, kRcv_5]
  rw [q_Sq0 (by unfold inR; omega) (by unfold inR; omega) (by omega)]
  simp only [e_Cp_square_5, kR_l, kR_r, kP_0, kP_i, kP_r, kP_n, kP_s, kP_o, kLen_I, kLen_L, kLen_R, kLdI_0, kLdI_1, kLdI_2, kLdI_3, kStI_0, kStI_1, kLdL_e, kStL_e, kLdR_e, kStR_e, kFld_e, kNth_0, kNth_s, kPut_e, fit_I, fit_Z, fit_B, fit_C, fit_A, fit_O, Option.toList_some, Option.toList_none, List.cons_append, List.nil_append, true_and, and_true, List.set_cons_zero, List.set_cons_succ, st_same, Int.toNat_natCast, Int.cast_ofNat_Int, Nat.zero_add, Nat.reduceAdd, kRcv_1, kRcv_2, kRcv_3, kRcv_0, kRcv_4, kRcv_5]
  rcases (show w = 0 ∨ w = 1 by omega) with rfl | rfl
  · rw [if_pos rfl] at hR
    rw [e_Cp_square_6 _ _ _ _ _ (by decide), show am_tgt 6 (Op.lookupswitch.offset [(0, 26), (1, 36)] 46 ((0 : Nat) : Int)) = 32 from by decide]
    refine ⟨by unfold inR; omega, ?_⟩
    simp only [e_Cp_square_32, e_Cp_square_33, e_Cp_square_36, e_Cp_square_37, e_Cp_square_38, kR_l, kR_r, kP_0, kP_i, kP_r, kP_n, kP_s, kP_o, kLen_I, kLen_L, kLen_R, kLdI_0, kLdI_1, kLdI_2, kLdI_3, kStI_0, kStI_1, kLdL_e, kStL_e, kLdR_e, kStR_e, kFld_e, kNth_0, kNth_s, kPut_e, fit_I, fit_Z, fit_B, fit_C, fit_A, fit_O, Option.toList_some, Option.toList_none, List.cons_append, List.nil_append, true_and, and_true, List.set_cons_zero, List.set_cons_succ, st_same, Int.toNat_natCast, Int.cast_ofNat_Int, Nat.zero_add, Nat.reduceAdd, kRcv_1, kRcv_2, kRcv_3, kRcv_0, kRcv_4, kRcv_5, hB, hC.2.1.1]
    rw [s_Plan_squareAt hC.2.1 (by unfold inR; omega) (by unfold inR; omega), xy_sq hx hy]
    simp only [e_Cp_square_41, kR_l, kR_r, kP_0, kP_i, kP_r, kP_n, kP_s, kP_o, kLen_I, kLen_L, kLen_R, kLdI_0, kLdI_1, kLdI_2, kLdI_3, kStI_0, kStI_1, kLdL_e, kStL_e, kLdR_e, kStR_e, kFld_e, kNth_0, kNth_s, kPut_e, fit_I, fit_Z, fit_B, fit_C, fit_A, fit_O, Option.toList_some, Option.toList_none, List.cons_append, List.nil_append, true_and, and_true, List.set_cons_zero, List.set_cons_succ, st_same, Int.toNat_natCast, Int.cast_ofNat_Int, Nat.zero_add, Nat.reduceAdd, kRcv_1, kRcv_2, kRcv_3, kRcv_0, kRcv_4, kRcv_5]
    first | exact hR | exact ⟨trivial, hR⟩ | exact ⟨by simp, hR⟩
  · rw [if_neg (by omega)] at hR
    rw [e_Cp_square_6 _ _ _ _ _ (by decide), show am_tgt 6 (Op.lookupswitch.offset [(0, 26), (1, 36)] 46 ((1 : Nat) : Int)) = 42 from by decide]
    refine ⟨by unfold inR; omega, ?_⟩
    simp only [e_Cp_square_42, e_Cp_square_43, e_Cp_square_46, e_Cp_square_47, e_Cp_square_48, kR_l, kR_r, kP_0, kP_i, kP_r, kP_n, kP_s, kP_o, kLen_I, kLen_L, kLen_R, kLdI_0, kLdI_1, kLdI_2, kLdI_3, kStI_0, kStI_1, kLdL_e, kStL_e, kLdR_e, kStR_e, kFld_e, kNth_0, kNth_s, kPut_e, fit_I, fit_Z, fit_B, fit_C, fit_A, fit_O, Option.toList_some, Option.toList_none, List.cons_append, List.nil_append, true_and, and_true, List.set_cons_zero, List.set_cons_succ, st_same, Int.toNat_natCast, Int.cast_ofNat_Int, Nat.zero_add, Nat.reduceAdd, kRcv_1, kRcv_2, kRcv_3, kRcv_0, kRcv_4, kRcv_5, hB, hC.2.1.1]
    rw [s_Plan_doorSides hC.2.2.2.2.2.2.1 hC.2.1 hI.1.sq (by omega) (by omega), ds_eq hI.1]
    simp only [e_Cp_square_51, kR_l, kR_r, kP_0, kP_i, kP_r, kP_n, kP_s, kP_o, kLen_I, kLen_L, kLen_R, kLdI_0, kLdI_1, kLdI_2, kLdI_3, kStI_0, kStI_1, kLdL_e, kStL_e, kLdR_e, kStR_e, kFld_e, kNth_0, kNth_s, kPut_e, fit_I, fit_Z, fit_B, fit_C, fit_A, fit_O, Option.toList_some, Option.toList_none, List.cons_append, List.nil_append, true_and, and_true, List.set_cons_zero, List.set_cons_succ, st_same, Int.toNat_natCast, Int.cast_ofNat_Int, Nat.zero_add, Nat.reduceAdd, kRcv_1, kRcv_2, kRcv_3, kRcv_0, kRcv_4, kRcv_5]
    first | exact hR | exact ⟨trivial, hR⟩ | exact ⟨by simp, hR⟩
theorem o_chamber1 {r w : Int} (hC : ClsI G σ B s kp p n t) (hI : GdI s kp p n t) (hr : inR r) (h : thM s r = 0) : CW G k_Cp_chamber [vR B, vI r, vI w] σ Q = Q (.inr 2) (am_th σ) := by
  refine CW.det' fun R hR => ?_
  have hB : σ.1 B = _ := hC.1
  simp only [c_Cp_chamber, e_Cp_chamber_0, e_Cp_chamber_1, e_Cp_chamber_2, kR_l, kR_r, kP_0, kP_i, kP_r, kP_n, kP_s, kP_o, kLen_I, kLen_L, kLen_R, kLdI_0, kLdI_1, kLdI_2, kLdI_3, kStI_0, kStI_1, kLdL_e, kStL_e, kLdR_e, kStR_e, kFld_e, kNth_0, kNth_s, kPut_e, fit_I, fit_Z, fit_B, fit_C, fit_A, fit_O, Option.toList_some, Option.toList_none, List.cons_append, List.nil_append, true_and, and_true, List.set_cons_zero, List.set_cons_succ, st_same, Int.toNat_natCast, Int.cast_ofNat_Int, Nat.zero_add, Nat.reduceAdd, kRcv_1, kRcv_2, kRcv_3, kRcv_0, kRcv_4, kRcv_5, hB]
  rw [q_Ch0 hC hI hr h]
  exact hR
theorem o_chamber2 {r w : Int} (hC : ClsI G σ B s kp p n t) (hI : GdI s kp p n t) (hr : inR r) (hw : inR w) (h : thM s r = 1) (h2 : ¬ (0 ≤ w ∧ w ≤ 7)) : CW G k_Cp_chamber [vR B, vI r, vI w] σ Q = Q (.inr 0) (am_th σ) := by
  refine CW.det' fun R hR => ?_
  have hB : σ.1 B = _ := hC.1
  simp only [c_Cp_chamber, e_Cp_chamber_0, e_Cp_chamber_1, e_Cp_chamber_2, kR_l, kR_r, kP_0, kP_i, kP_r, kP_n, kP_s, kP_o, kLen_I, kLen_L, kLen_R, kLdI_0, kLdI_1, kLdI_2, kLdI_3, kStI_0, kStI_1, kLdL_e, kStL_e, kLdR_e, kStR_e, kFld_e, kNth_0, kNth_s, kPut_e, fit_I, fit_Z, fit_B, fit_C, fit_A, fit_O, Option.toList_some, Option.toList_none, List.cons_append, List.nil_append, true_and, and_true, List.set_cons_zero, List.set_cons_succ, st_same, Int.toNat_natCast, Int.cast_ofNat_Int, Nat.zero_add, Nat.reduceAdd, kRcv_1, kRcv_2, kRcv_3, kRcv_0, kRcv_4, kRcv_5, hB]
  rw [q_Ch1 hC hI hr h]
  simp only [e_Cp_chamber_5, e_Cp_chamber_6, kR_l, kR_r, kP_0, kP_i, kP_r, kP_n, kP_s, kP_o, kLen_I, kLen_L, kLen_R, kLdI_0, kLdI_1, kLdI_2, kLdI_3, kStI_0, kStI_1, kLdL_e, kStL_e, kLdR_e, kStR_e, kFld_e, kNth_0, kNth_s, kPut_e, fit_I, fit_Z, fit_B, fit_C, fit_A, fit_O, Option.toList_some, Option.toList_none, List.cons_append, List.nil_append, true_and, and_true, List.set_cons_zero, List.set_cons_succ, st_same, Int.toNat_natCast, Int.cast_ofNat_Int, Nat.zero_add, Nat.reduceAdd, kRcv_1, kRcv_2, kRcv_3, kRcv_0, kRcv_4, kRcv_5]
  refine ⟨hw, ?_⟩
  rw [tw_d (by omega), show am_tgt 6 96 = 102 from by decide]
  simp only [e_Cp_chamber_102, kR_l, kR_r, kP_0, kP_i, kP_r, kP_n, kP_s, kP_o, kLen_I, kLen_L, kLen_R, kLdI_0, kLdI_1, kLdI_2, kLdI_3, kStI_0, kStI_1, kLdL_e, kStL_e, kLdR_e, kStR_e, kFld_e, kNth_0, kNth_s, kPut_e, fit_I, fit_Z, fit_B, fit_C, fit_A, fit_O, Option.toList_some, Option.toList_none, List.cons_append, List.nil_append, true_and, and_true, List.set_cons_zero, List.set_cons_succ, st_same, Int.toNat_natCast, Int.cast_ofNat_Int, Nat.zero_add, Nat.reduceAdd, kRcv_1, kRcv_2, kRcv_3, kRcv_0, kRcv_4, kRcv_5]
  exact hR
theorem o_chamber0 {r w far : Nat} (hC : ClsI G σ B s kp p n t) (hI : GdI s kp p n t) (hG : G 0 ≤ B) (hfar : s 252 = (far : Nat)) (hr : r < 6) (h : thM s (r : Nat) = 1) (hw : w < 8)
    (hQ : ∀ σ' : AS, ClsI G σ' B s kp p n t → FrB B (B + 46) σ σ' → Q (.inl (some (vI (orM s far r w)))) σ') :
    CW G k_Cp_chamber [vR B, vI (r : Nat), vI (w : Nat)] σ Q := by
  have hB : σ.1 B = _ := hC.1
  have hR := (th_R hr).mp h
  have hgd := hI.1.2.2.1
  have q0 := hQ σ hC (FrB.refl _ _ _)
  simp only [c_Cp_chamber, e_Cp_chamber_0, e_Cp_chamber_1, e_Cp_chamber_2, kR_l, kR_r, kP_0, kP_i, kP_r, kP_n, kP_s, kP_o, kLen_I, kLen_L, kLen_R, kLdI_0, kLdI_1, kLdI_2, kLdI_3, kStI_0, kStI_1, kLdL_e, kStL_e, kLdR_e, kStR_e, kFld_e, kNth_0, kNth_s, kPut_e, fit_I, fit_Z, fit_B, fit_C, fit_A, fit_O, Option.toList_some, Option.toList_none, List.cons_append, List.nil_append, true_and, and_true, List.set_cons_zero, List.set_cons_succ, st_same, Int.toNat_natCast, Int.cast_ofNat_Int, Nat.zero_add, Nat.reduceAdd, kRcv_1, kRcv_2, kRcv_3, kRcv_0, kRcv_4, kRcv_5, hB]
  rw [q_Ch1 hC hI (by unfold inR; omega) h]
  simp only [e_Cp_chamber_5, e_Cp_chamber_6, kR_l, kR_r, kP_0, kP_i, kP_r, kP_n, kP_s, kP_o, kLen_I, kLen_L, kLen_R, kLdI_0, kLdI_1, kLdI_2, kLdI_3, kStI_0, kStI_1, kLdL_e, kStL_e, kLdR_e, kStR_e, kFld_e, kNth_0, kNth_s, kPut_e, fit_I, fit_Z, fit_B, fit_C, fit_A, fit_O, Option.toList_some, Option.toList_none, List.cons_append, List.nil_append, true_and, and_true, List.set_cons_zero, List.set_cons_succ, st_same, Int.toNat_natCast, Int.cast_ofNat_Int, Nat.zero_add, Nat.reduceAdd, kRcv_1, kRcv_2, kRcv_3, kRcv_0, kRcv_4, kRcv_5]
  refine ⟨by unfold inR; omega, ?_⟩
  by_cases c4 : w < 4
  · have e : am_tsw 6 96 0 7 [46, 46, 46, 46, 56, 65, 74, 83] ((w : Nat) : Int) = 52 := by
      rcases (show w = 0 ∨ w = 1 ∨ w = 2 ∨ w = 3 by omega) with rfl | rfl | rfl | rfl <;> decide
    rw [e]
    unfold orM at q0
    rw [if_pos c4] at q0
    clear hQ
    simp only [e_Cp_chamber_52, e_Cp_chamber_53, e_Cp_chamber_56, e_Cp_chamber_57, e_Cp_chamber_58, kR_l, kR_r, kP_0, kP_i, kP_r, kP_n, kP_s, kP_o, kLen_I, kLen_L, kLen_R, kLdI_0, kLdI_1, kLdI_2, kLdI_3, kStI_0, kStI_1, kLdL_e, kStL_e, kLdR_e, kStR_e, kFld_e, kNth_0, kNth_s, kPut_e, fit_I, fit_Z, fit_B, fit_C, fit_A, fit_O, Option.toList_some, Option.toList_none, List.cons_append, List.nil_append, true_and, and_true, List.set_cons_zero, List.set_cons_succ, st_same, Int.toNat_natCast, Int.cast_ofNat_Int, Nat.zero_add, Nat.reduceAdd, kRcv_1, kRcv_2, kRcv_3, kRcv_0, kRcv_4, kRcv_5, hB, hC.2.1.1]
    rw [s_Plan_box hC.2.1 (by unfold inR; omega) (by unfold inR; omega), pG_at hr c4 hR]
    simp only [e_Cp_chamber_61, kR_l, kR_r, kP_0, kP_i, kP_r, kP_n, kP_s, kP_o, kLen_I, kLen_L, kLen_R, kLdI_0, kLdI_1, kLdI_2, kLdI_3, kStI_0, kStI_1, kLdL_e, kStL_e, kLdR_e, kStR_e, kFld_e, kNth_0, kNth_s, kPut_e, fit_I, fit_Z, fit_B, fit_C, fit_A, fit_O, Option.toList_some, Option.toList_none, List.cons_append, List.nil_append, true_and, and_true, List.set_cons_zero, List.set_cons_succ, st_same, Int.toNat_natCast, Int.cast_ofNat_Int, Nat.zero_add, Nat.reduceAdd, kRcv_1, kRcv_2, kRcv_3, kRcv_0, kRcv_4, kRcv_5]
    first | exact q0 | exact ⟨trivial, q0⟩ | exact ⟨by simp, q0⟩
  · rcases (show w = 4 ∨ w = 5 ∨ w = 6 ∨ w = 7 by omega) with rfl | rfl | rfl | rfl
    · have q1 : Q (.inl (some (vI (drsM s far (r : Nat) 0)))) σ := q0
      clear hQ q0
      rw [show am_tsw 6 96 0 7 [46, 46, 46, 46, 56, 65, 74, 83] ((4 : Nat) : Int) = 62 from by decide]
      simp only [e_Cp_chamber_62, e_Cp_chamber_63, e_Cp_chamber_66, e_Cp_chamber_67, kR_l, kR_r, kP_0, kP_i, kP_r, kP_n, kP_s, kP_o, kLen_I, kLen_L, kLen_R, kLdI_0, kLdI_1, kLdI_2, kLdI_3, kStI_0, kStI_1, kLdL_e, kStL_e, kLdR_e, kStR_e, kFld_e, kNth_0, kNth_s, kPut_e, fit_I, fit_Z, fit_B, fit_C, fit_A, fit_O, Option.toList_some, Option.toList_none, List.cons_append, List.nil_append, true_and, and_true, List.set_cons_zero, List.set_cons_succ, st_same, Int.toNat_natCast, Int.cast_ofNat_Int, Nat.zero_add, Nat.reduceAdd, kRcv_1, kRcv_2, kRcv_3, kRcv_0, kRcv_4, kRcv_5, hB, hC.2.1.1]
      rw [s_Plan_doorsOf hC.2.2.2.2.2.2.1 hC.2.1 hI.1.sq (by unfold inR; omega), drOf_eq hI.1 far hr]
      simp only [e_Cp_chamber_70, kR_l, kR_r, kP_0, kP_i, kP_r, kP_n, kP_s, kP_o, kLen_I, kLen_L, kLen_R, kLdI_0, kLdI_1, kLdI_2, kLdI_3, kStI_0, kStI_1, kLdL_e, kStL_e, kLdR_e, kStR_e, kFld_e, kNth_0, kNth_s, kPut_e, fit_I, fit_Z, fit_B, fit_C, fit_A, fit_O, Option.toList_some, Option.toList_none, List.cons_append, List.nil_append, true_and, and_true, List.set_cons_zero, List.set_cons_succ, st_same, Int.toNat_natCast, Int.cast_ofNat_Int, Nat.zero_add, Nat.reduceAdd, kRcv_1, kRcv_2, kRcv_3, kRcv_0, kRcv_4, kRcv_5]
      first | exact q1 | exact ⟨trivial, q1⟩ | exact ⟨by simp, q1⟩
    · have q1 : Q (.inl (some (vI (drsM s far (r : Nat) 1)))) σ := q0
      clear hQ q0
      rw [show am_tsw 6 96 0 7 [46, 46, 46, 46, 56, 65, 74, 83] ((5 : Nat) : Int) = 71 from by decide]
      simp only [e_Cp_chamber_71, e_Cp_chamber_72, e_Cp_chamber_75, e_Cp_chamber_76, kR_l, kR_r, kP_0, kP_i, kP_r, kP_n, kP_s, kP_o, kLen_I, kLen_L, kLen_R, kLdI_0, kLdI_1, kLdI_2, kLdI_3, kStI_0, kStI_1, kLdL_e, kStL_e, kLdR_e, kStR_e, kFld_e, kNth_0, kNth_s, kPut_e, fit_I, fit_Z, fit_B, fit_C, fit_A, fit_O, Option.toList_some, Option.toList_none, List.cons_append, List.nil_append, true_and, and_true, List.set_cons_zero, List.set_cons_succ, st_same, Int.toNat_natCast, Int.cast_ofNat_Int, Nat.zero_add, Nat.reduceAdd, kRcv_1, kRcv_2, kRcv_3, kRcv_0, kRcv_4, kRcv_5, hB, hC.2.1.1]
      rw [s_Plan_facingDoorsOf hC.2.2.2.2.2.2.1 hC.2.1 hI.1.sq (by unfold inR; omega) hfar (by omega), faOf_eq hI.1 hr]
      simp only [e_Cp_chamber_79, kR_l, kR_r, kP_0, kP_i, kP_r, kP_n, kP_s, kP_o, kLen_I, kLen_L, kLen_R, kLdI_0, kLdI_1, kLdI_2, kLdI_3, kStI_0, kStI_1, kLdL_e, kStL_e, kLdR_e, kStR_e, kFld_e, kNth_0, kNth_s, kPut_e, fit_I, fit_Z, fit_B, fit_C, fit_A, fit_O, Option.toList_some, Option.toList_none, List.cons_append, List.nil_append, true_and, and_true, List.set_cons_zero, List.set_cons_succ, st_same, Int.toNat_natCast, Int.cast_ofNat_Int, Nat.zero_add, Nat.reduceAdd, kRcv_1, kRcv_2, kRcv_3, kRcv_0, kRcv_4, kRcv_5]
      first | exact q1 | exact ⟨trivial, q1⟩ | exact ⟨by simp, q1⟩
    · have q1 : Q (.inl (some (vI (wdM s r 0)))) σ := q0
      clear hQ q0
      rw [show am_tsw 6 96 0 7 [46, 46, 46, 46, 56, 65, 74, 83] ((6 : Nat) : Int) = 80 from by decide]
      simp only [e_Cp_chamber_80, e_Cp_chamber_81, e_Cp_chamber_84, e_Cp_chamber_85, kR_l, kR_r, kP_0, kP_i, kP_r, kP_n, kP_s, kP_o, kLen_I, kLen_L, kLen_R, kLdI_0, kLdI_1, kLdI_2, kLdI_3, kStI_0, kStI_1, kLdL_e, kStL_e, kLdR_e, kStR_e, kFld_e, kNth_0, kNth_s, kPut_e, fit_I, fit_Z, fit_B, fit_C, fit_A, fit_O, Option.toList_some, Option.toList_none, List.cons_append, List.nil_append, true_and, and_true, List.set_cons_zero, List.set_cons_succ, st_same, Int.toNat_natCast, Int.cast_ofNat_Int, Nat.zero_add, Nat.reduceAdd, kRcv_1, kRcv_2, kRcv_3, kRcv_0, kRcv_4, kRcv_5, hB, hC.2.1.1]
      rw [s_Plan_walksFrom hC.2.1 hI.1.wd hr, wf_0 hI.1 hr]
      simp only [e_Cp_chamber_88, kR_l, kR_r, kP_0, kP_i, kP_r, kP_n, kP_s, kP_o, kLen_I, kLen_L, kLen_R, kLdI_0, kLdI_1, kLdI_2, kLdI_3, kStI_0, kStI_1, kLdL_e, kStL_e, kLdR_e, kStR_e, kFld_e, kNth_0, kNth_s, kPut_e, fit_I, fit_Z, fit_B, fit_C, fit_A, fit_O, Option.toList_some, Option.toList_none, List.cons_append, List.nil_append, true_and, and_true, List.set_cons_zero, List.set_cons_succ, st_same, Int.toNat_natCast, Int.cast_ofNat_Int, Nat.zero_add, Nat.reduceAdd, kRcv_1, kRcv_2, kRcv_3, kRcv_0, kRcv_4, kRcv_5]
      first | exact q1 | exact ⟨trivial, q1⟩ | exact ⟨by simp, q1⟩
    · have hQ1 : ∀ σ' : AS, ClsI G σ' B s kp p n t → FrB B (B + 46) σ σ' → Q (.inl (some (vI (wdM s r 1)))) σ' := hQ
      clear hQ q0
      obtain ⟨m, A, hy⟩ := hC.2.2.2.2.2.1
      have hyr := WyI.obj hy
      rw [show am_tsw 6 96 0 7 [46, 46, 46, 46, 56, 65, 74, 83] ((7 : Nat) : Int) = 89 from by decide]
      simp only [e_Cp_chamber_89, e_Cp_chamber_90, e_Cp_chamber_93, e_Cp_chamber_94, e_Cp_chamber_97, e_Cp_chamber_98, kR_l, kR_r, kP_0, kP_i, kP_r, kP_n, kP_s, kP_o, kLen_I, kLen_L, kLen_R, kLdI_0, kLdI_1, kLdI_2, kLdI_3, kStI_0, kStI_1, kLdL_e, kStL_e, kLdR_e, kStR_e, kFld_e, kNth_0, kNth_s, kPut_e, fit_I, fit_Z, fit_B, fit_C, fit_A, fit_O, Option.toList_some, Option.toList_none, List.cons_append, List.nil_append, true_and, and_true, List.set_cons_zero, List.set_cons_succ, st_same, Int.toNat_natCast, Int.cast_ofNat_Int, Nat.zero_add, Nat.reduceAdd, kRcv_1, kRcv_2, kRcv_3, kRcv_0, kRcv_4, kRcv_5, hB, hyr]
      refine way_id hy (w_closedFrom hr hC.2.1 (by omega) (by omega) hI.1 (fun m' A' => ?_))
      have q1 := hQ1 _ (hC.way hG m' A') ((setWy_fr _ _ _ _).wide (by omega) (by omega))
      clear hQ1
      simp only [e_Cp_chamber_101, kR_l, kR_r, kP_0, kP_i, kP_r, kP_n, kP_s, kP_o, kLen_I, kLen_L, kLen_R, kLdI_0, kLdI_1, kLdI_2, kLdI_3, kStI_0, kStI_1, kLdL_e, kStL_e, kLdR_e, kStR_e, kFld_e, kNth_0, kNth_s, kPut_e, fit_I, fit_Z, fit_B, fit_C, fit_A, fit_O, Option.toList_some, Option.toList_none, List.cons_append, List.nil_append, true_and, and_true, List.set_cons_zero, List.set_cons_succ, st_same, Int.toNat_natCast, Int.cast_ofNat_Int, Nat.zero_add, Nat.reduceAdd, kRcv_1, kRcv_2, kRcv_3, kRcv_0, kRcv_4, kRcv_5]
      first | exact q1 | exact ⟨trivial, q1⟩ | exact ⟨by simp, q1⟩
theorem o_way1 {a b w : Int} (hC : ClsI G σ B s kp p n t) (hI : GdI s kp p n t) (ha : inR a) (hb : inR b) (hw : inR w) (h : mayM s a b (inB w 0 4) = 1) : CW G k_Cp_way [vR B, vI a, vI b, vI w] σ Q = Q (.inr 2) (am_th σ) := by
  refine CW.det' fun R hR => ?_
  have hB : σ.1 B = _ := hC.1
  have h1 : mayM s a b 1 = 1 := by
    unfold mayM at h ⊢
    split at h
    · rename_i c; rw [if_pos c]
    · split at h <;> omega
  simp only [c_Cp_way, e_Cp_way_0, e_Cp_way_1, e_Cp_way_2, e_Cp_way_3, kR_l, kR_r, kP_0, kP_i, kP_r, kP_n, kP_s, kP_o, kLen_I, kLen_L, kLen_R, kLdI_0, kLdI_1, kLdI_2, kLdI_3, kStI_0, kStI_1, kLdL_e, kStL_e, kLdR_e, kStR_e, kFld_e, kNth_0, kNth_s, kPut_e, fit_I, fit_Z, fit_B, fit_C, fit_A, fit_O, Option.toList_some, Option.toList_none, List.cons_append, List.nil_append, true_and, and_true, List.set_cons_zero, List.set_cons_succ, st_same, Int.toNat_natCast, Int.cast_ofNat_Int, Nat.zero_add, Nat.reduceAdd, kRcv_1, kRcv_2, kRcv_3, kRcv_0, kRcv_4, kRcv_5, hB]
  rw [q_Two1 hC hI ha hb h1]
  exact hR
theorem o_way2 {a b w : Int} (hC : ClsI G σ B s kp p n t) (hI : GdI s kp p n t) (ha : inR a) (hb : inR b) (hw : inR w) (h : mayM s a b (inB w 0 4) = 2) : CW G k_Cp_way [vR B, vI a, vI b, vI w] σ Q = Q (.inr 0) (am_th σ) := by
  refine CW.det' fun R hR => ?_
  have hB : σ.1 B = _ := hC.1
  have h1 := mayM_bd s a b 1
  have h2 : mayM s a b 1 ≠ 1 := by
    intro z
    unfold mayM at h z
    split at h
    · omega
    · rename_i c
      rw [if_neg c] at z
      split at z <;> omega
  simp only [c_Cp_way, e_Cp_way_0, e_Cp_way_1, e_Cp_way_2, e_Cp_way_3, kR_l, kR_r, kP_0, kP_i, kP_r, kP_n, kP_s, kP_o, kLen_I, kLen_L, kLen_R, kLdI_0, kLdI_1, kLdI_2, kLdI_3, kStI_0, kStI_1, kLdL_e, kStL_e, kLdR_e, kStR_e, kFld_e, kNth_0, kNth_s, kPut_e, fit_I, fit_Z, fit_B, fit_C, fit_A, fit_O, Option.toList_some, Option.toList_none, List.cons_append, List.nil_append, true_and, and_true, List.set_cons_zero, List.set_cons_succ, st_same, Int.toNat_natCast, Int.cast_ofNat_Int, Nat.zero_add, Nat.reduceAdd, kRcv_1, kRcv_2, kRcv_3, kRcv_0, kRcv_4, kRcv_5, hB]
  by_cases c : mayM s a b 1 = 0
  · rw [q_Two0 hC hI ha hb c]
    have hww : ¬ (0 ≤ w ∧ w ≤ 4) := by
      intro z
      have e : inB w 0 4 = 1 := if_pos z
      rw [e, c] at h
      omega
    simp only [e_Cp_way_6, e_Cp_way_7, e_Cp_way_10, e_Cp_way_11, e_Cp_way_12, e_Cp_way_15, kR_l, kR_r, kP_0, kP_i, kP_r, kP_n, kP_s, kP_o, kLen_I, kLen_L, kLen_R, kLdI_0, kLdI_1, kLdI_2, kLdI_3, kStI_0, kStI_1, kLdL_e, kStL_e, kLdR_e, kStR_e, kFld_e, kNth_0, kNth_s, kPut_e, fit_I, fit_Z, fit_B, fit_C, fit_A, fit_O, Option.toList_some, Option.toList_none, List.cons_append, List.nil_append, true_and, and_true, List.set_cons_zero, List.set_cons_succ, st_same, Int.toNat_natCast, Int.cast_ofNat_Int, Nat.zero_add, Nat.reduceAdd, kRcv_1, kRcv_2, kRcv_3, kRcv_0, kRcv_4, kRcv_5]
    all_goals ((repeat' (first | with_reducible refine And.intro ?_ ?_ | intro _)) <;> first | with_reducible assumption | exact True.intro | with_reducible exact hR | omega | (simp only [inR] at *; omega) | exact hR | with_reducible rfl | rfl | (simp; done) | (exfalso; simp_all; done) | skip)
  · rw [q_Two2 hC hI ha hb (by omega)]
    exact hR
theorem s_foundPlaces {W : Nat} {m : Nat → Int} {A : Nat → Nat → Int} : CW G k_Ways_foundPlaces [vR W] (setWy σ W m A) Q = Q (.inl (some (vI (m 10)))) (setWy σ W m A) := by
  refine CW.det' fun R hR => ?_
  simp only [c_Ways_foundPlaces, e_Ways_foundPlaces_0, e_Ways_foundPlaces_1, e_Ways_foundPlaces_4, kR_l, kR_r, kP_0, kP_i, kP_r, kP_n, kP_s, kP_o, kLen_I, kLen_L, kLen_R, kLdI_0, kLdI_1, kLdI_2, kLdI_3, kStI_0, kStI_1, kLdL_e, kStL_e, kLdR_e, kStR_e, kFld_e, kNth_0, kNth_s, kPut_e, fit_I, fit_Z, fit_B, fit_C, fit_A, fit_O, Option.toList_some, Option.toList_none, List.cons_append, List.nil_append, true_and, and_true, List.set_cons_zero, List.set_cons_succ, st_same, Int.toNat_natCast, Int.cast_ofNat_Int, Nat.zero_add, Nat.reduceAdd, kRcv_1, kRcv_2, kRcv_3, kRcv_0, kRcv_4, kRcv_5, setWy_set, Wyo, Wya1, Wyw1, Wya2, Wyw2, Wya3, Wyw3, Wya4, Wyw4, Wya5, Wyw5, Wya6, Wyw6, Wya7, Wyw7, Wya8, Wyw8, Wyp6, Wyp7, Wyp10, Wyp11, Wyp12, Wyp13, Wyp14, Wyp15]
  first | exact hR | exact ⟨trivial, hR⟩ | exact ⟨by simp, hR⟩
theorem s_foundPlace {W N i : Nat} {m : Nat → Int} {A : Nat → Nat → Int} (h10 : m 10 = (N : Nat)) (hi : i < N) (hN : N ≤ 192) : CW G k_Ways_foundPlace [vR W, vI (i : Nat)] (setWy σ W m A) Q = Q (.inl (some (vI (A 8 i)))) (setWy σ W m A) := by
  refine CW.det' fun R hR => ?_
  simp only [c_Ways_foundPlace, e_Ways_foundPlace_0, e_Ways_foundPlace_1, e_Ways_foundPlace_4, e_Ways_foundPlace_5, e_Ways_foundPlace_6, e_Ways_foundPlace_9, e_Ways_foundPlace_12, e_Ways_foundPlace_13, e_Ways_foundPlace_16, e_Ways_foundPlace_17, kR_l, kR_r, kP_0, kP_i, kP_r, kP_n, kP_s, kP_o, kLen_I, kLen_L, kLen_R, kLdI_0, kLdI_1, kLdI_2, kLdI_3, kStI_0, kStI_1, kLdL_e, kStL_e, kLdR_e, kStR_e, kFld_e, kNth_0, kNth_s, kPut_e, fit_I, fit_Z, fit_B, fit_C, fit_A, fit_O, Option.toList_some, Option.toList_none, List.cons_append, List.nil_append, true_and, and_true, List.set_cons_zero, List.set_cons_succ, st_same, Int.toNat_natCast, Int.cast_ofNat_Int, Nat.zero_add, Nat.reduceAdd, kRcv_1, kRcv_2, kRcv_3, kRcv_0, kRcv_4, kRcv_5, setWy_set, Wyo, Wya1, Wyw1, Wya2, Wyw2, Wya3, Wyw3, Wya4, Wyw4, Wya5, Wyw5, Wya6, Wyw6, Wya7, Wyw7, Wya8, Wyw8, Wyp6, Wyp7, Wyp10, Wyp11, Wyp12, Wyp13, Wyp14, Wyp15, h10]
  refine ⟨by unfold inR; omega, (fun h => by first | exact absurd h (by omega) | exact absurd trivial h | (exfalso; simp_all; done)), fun _ => ⟨⟨by unfold inR; omega, by unfold inR; omega⟩, (fun h => by first | exact absurd h (by omega) | exact absurd trivial h | (exfalso; simp_all; done)), fun _ => ?_⟩⟩
  rw [s_Cp_at (Wya8 σ W m A) (Or.inl rfl) (by omega) (by unfold inR; omega), if_pos (by omega), Int.toNat_natCast]
  simp only [e_Ways_foundPlace_20, e_Ways_foundPlace_23, e_Ways_foundPlace_24, kR_l, kR_r, kP_0, kP_i, kP_r, kP_n, kP_s, kP_o, kLen_I, kLen_L, kLen_R, kLdI_0, kLdI_1, kLdI_2, kLdI_3, kStI_0, kStI_1, kLdL_e, kStL_e, kLdR_e, kStR_e, kFld_e, kNth_0, kNth_s, kPut_e, fit_I, fit_Z, fit_B, fit_C, fit_A, fit_O, Option.toList_some, Option.toList_none, List.cons_append, List.nil_append, true_and, and_true, List.set_cons_zero, List.set_cons_succ, st_same, Int.toNat_natCast, Int.cast_ofNat_Int, Nat.zero_add, Nat.reduceAdd, kRcv_1, kRcv_2, kRcv_3, kRcv_0, kRcv_4, kRcv_5]
  first | exact hR | exact ⟨trivial, hR⟩ | exact ⟨by simp, hR⟩
theorem o_way0 {a b w : Nat} (hC : ClsI G σ B s kp p n t) (hI : GdI s kp p n t) (hG : G 0 ≤ B) (ha : a < 6) (hb : b < 6) (hw : w < 5) (h : mayM s (a : Nat) (b : Nat) 1 = 0)
    (hQ : ∀ σ' : AS, ClsI G σ' B s kp p n t → FrB B (B + 46) σ σ' → Q (.inl (some (vI (owM s a b w)))) σ') :
    CW G k_Cp_way [vR B, vI (a : Nat), vI (b : Nat), vI (w : Nat)] σ Q := by
  have hB : σ.1 B = _ := hC.1
  have hm := mayM_0 h
  simp only [c_Cp_way, e_Cp_way_0, e_Cp_way_1, e_Cp_way_2, e_Cp_way_3, kR_l, kR_r, kP_0, kP_i, kP_r, kP_n, kP_s, kP_o, kLen_I, kLen_L, kLen_R, kLdI_0, kLdI_1, kLdI_2, kLdI_3, kStI_0, kStI_1, kLdL_e, kStL_e, kLdR_e, kStR_e, kFld_e, kNth_0, kNth_s, kPut_e, fit_I, fit_Z, fit_B, fit_C, fit_A, fit_O, Option.toList_some, Option.toList_none, List.cons_append, List.nil_append, true_and, and_true, List.set_cons_zero, List.set_cons_succ, st_same, Int.toNat_natCast, Int.cast_ofNat_Int, Nat.zero_add, Nat.reduceAdd, kRcv_1, kRcv_2, kRcv_3, kRcv_0, kRcv_4, kRcv_5, hB]
  rw [q_Two0 hC hI (by unfold inR; omega) (by unfold inR; omega) h]
  simp only [e_Cp_way_6, e_Cp_way_7, e_Cp_way_10, e_Cp_way_11, e_Cp_way_12, e_Cp_way_25, e_Cp_way_26, e_Cp_way_27, kR_l, kR_r, kP_0, kP_i, kP_r, kP_n, kP_s, kP_o, kLen_I, kLen_L, kLen_R, kLdI_0, kLdI_1, kLdI_2, kLdI_3, kStI_0, kStI_1, kLdL_e, kStL_e, kLdR_e, kStR_e, kFld_e, kNth_0, kNth_s, kPut_e, fit_I, fit_Z, fit_B, fit_C, fit_A, fit_O, Option.toList_some, Option.toList_none, List.cons_append, List.nil_append, true_and, and_true, List.set_cons_zero, List.set_cons_succ, st_same, Int.toNat_natCast, Int.cast_ofNat_Int, Nat.zero_add, Nat.reduceAdd, kRcv_1, kRcv_2, kRcv_3, kRcv_0, kRcv_4, kRcv_5]
  refine ⟨by unfold inR; omega, (fun h => by first | exact absurd h (by omega) | exact absurd trivial h | (exfalso; simp_all; done)), fun _ => ⟨⟨by unfold inR; omega, by unfold inR; omega⟩, fun _ => ⟨⟨by unfold inR; omega, by unfold inR; omega⟩, fun c => ?_, fun c => ?_⟩, (fun h => by first | exact absurd h (by omega) | exact absurd trivial h | (exfalso; simp_all; done))⟩⟩
  · obtain ⟨m, A, hy⟩ := hC.2.2.2.2.2.1
    have hyr := WyI.obj hy
    have hbd := rsF_bd hI.1 ha hb
    have hwk := hI.1.wk a b ha hb
    have hN := nW_le hwk
    have h01 := isW_bd s a b
    unfold owM at hQ
    rw [if_neg (by omega)] at hQ
    simp only [e_Cp_way_40, e_Cp_way_41, e_Cp_way_44, e_Cp_way_45, e_Cp_way_48, e_Cp_way_49, e_Cp_way_50, kR_l, kR_r, kP_0, kP_i, kP_r, kP_n, kP_s, kP_o, kLen_I, kLen_L, kLen_R, kLdI_0, kLdI_1, kLdI_2, kLdI_3, kStI_0, kStI_1, kLdL_e, kStL_e, kLdR_e, kStR_e, kFld_e, kNth_0, kNth_s, kPut_e, fit_I, fit_Z, fit_B, fit_C, fit_A, fit_O, Option.toList_some, Option.toList_none, List.cons_append, List.nil_append, true_and, and_true, List.set_cons_zero, List.set_cons_succ, st_same, Int.toNat_natCast, Int.cast_ofNat_Int, Nat.zero_add, Nat.reduceAdd, kRcv_1, kRcv_2, kRcv_3, kRcv_0, kRcv_4, kRcv_5, hB, hyr]
    refine way_id hy (w_find hC.2.1 (by omega) (by omega) hI.1 ha hb ((th_R ha).mp hm.1) ((th_R hb).mp hm.2.1) (fun m' A' q1 q2 q3 _ => ?_))
    have hC1 := hC.way hG m' A'
    have f1 := (setWy_fr σ (B + 37) m' A').wide (lo' := B) (hi' := B + 46) (by omega) (by omega)
    have q0 := hQ _ hC1 f1
    have hB1 : (setWy σ (B + 37) m' A').1 B = _ := hC1.1
    by_cases c4 : isW s a b = 1
    · have er : rsF s a b = cW s a b := if_pos c4
      have hpos := nW_pos hwk c4
      rw [if_neg (by omega)] at q0
      clear hQ
      rw [er]
      simp only [e_Cp_way_53, e_Cp_way_55, e_Cp_way_57, e_Cp_way_58, e_Cp_way_61, e_Cp_way_62, kR_l, kR_r, kP_0, kP_i, kP_r, kP_n, kP_s, kP_o, kLen_I, kLen_L, kLen_R, kLdI_0, kLdI_1, kLdI_2, kLdI_3, kStI_0, kStI_1, kLdL_e, kStL_e, kLdR_e, kStR_e, kFld_e, kNth_0, kNth_s, kPut_e, fit_I, fit_Z, fit_B, fit_C, fit_A, fit_O, Option.toList_some, Option.toList_none, List.cons_append, List.nil_append, true_and, and_true, List.set_cons_zero, List.set_cons_succ, st_same, Int.toNat_natCast, Int.cast_ofNat_Int, Nat.zero_add, Nat.reduceAdd, kRcv_1, kRcv_2, kRcv_3, kRcv_0, kRcv_4, kRcv_5]
      refine ⟨⟨by unfold inR; omega, by unfold inR; omega⟩, fun z => absurd z (by omega), fun _ => ⟨by unfold inR; omega, fun c0 => ?_, fun c0 => ?_⟩⟩
      · rw [if_neg (by omega)] at q0
        simp only [e_Cp_way_68, e_Cp_way_69, e_Cp_way_72, kR_l, kR_r, kP_0, kP_i, kP_r, kP_n, kP_s, kP_o, kLen_I, kLen_L, kLen_R, kLdI_0, kLdI_1, kLdI_2, kLdI_3, kStI_0, kStI_1, kLdL_e, kStL_e, kLdR_e, kStR_e, kFld_e, kNth_0, kNth_s, kPut_e, fit_I, fit_Z, fit_B, fit_C, fit_A, fit_O, Option.toList_some, Option.toList_none, List.cons_append, List.nil_append, true_and, and_true, List.set_cons_zero, List.set_cons_succ, st_same, Int.toNat_natCast, Int.cast_ofNat_Int, Nat.zero_add, Nat.reduceAdd, kRcv_1, kRcv_2, kRcv_3, kRcv_0, kRcv_4, kRcv_5, hB1, setWy_set, Wyo, Wya1, Wyw1, Wya2, Wyw2, Wya3, Wyw3, Wya4, Wyw4, Wya5, Wyw5, Wya6, Wyw6, Wya7, Wyw7, Wya8, Wyw8, Wyp6, Wyp7, Wyp10, Wyp11, Wyp12, Wyp13, Wyp14, Wyp15]
        rw [s_foundPlaces, q2]
        simp only [e_Cp_way_75, e_Cp_way_77, e_Cp_way_78, e_Cp_way_79, kR_l, kR_r, kP_0, kP_i, kP_r, kP_n, kP_s, kP_o, kLen_I, kLen_L, kLen_R, kLdI_0, kLdI_1, kLdI_2, kLdI_3, kStI_0, kStI_1, kLdL_e, kStL_e, kLdR_e, kStR_e, kFld_e, kNth_0, kNth_s, kPut_e, fit_I, fit_Z, fit_B, fit_C, fit_A, fit_O, Option.toList_some, Option.toList_none, List.cons_append, List.nil_append, true_and, and_true, List.set_cons_zero, List.set_cons_succ, st_same, Int.toNat_natCast, Int.cast_ofNat_Int, Nat.zero_add, Nat.reduceAdd, kRcv_1, kRcv_2, kRcv_3, kRcv_0, kRcv_4, kRcv_5]
        refine ⟨⟨by unfold inR; omega, by unfold inR; omega⟩, fun c1 => ?_, fun c1 => ?_⟩
        · rw [if_neg (by omega)] at q0
          simp only [e_Cp_way_85, e_Cp_way_86, e_Cp_way_89, e_Cp_way_90, e_Cp_way_91, kR_l, kR_r, kP_0, kP_i, kP_r, kP_n, kP_s, kP_o, kLen_I, kLen_L, kLen_R, kLdI_0, kLdI_1, kLdI_2, kLdI_3, kStI_0, kStI_1, kLdL_e, kStL_e, kLdR_e, kStR_e, kFld_e, kNth_0, kNth_s, kPut_e, fit_I, fit_Z, fit_B, fit_C, fit_A, fit_O, Option.toList_some, Option.toList_none, List.cons_append, List.nil_append, true_and, and_true, List.set_cons_zero, List.set_cons_succ, st_same, Int.toNat_natCast, Int.cast_ofNat_Int, Nat.zero_add, Nat.reduceAdd, kRcv_1, kRcv_2, kRcv_3, kRcv_0, kRcv_4, kRcv_5, hB1]
          refine ⟨⟨by unfold inR; omega, by unfold inR; omega⟩, fun c2 => ?_, fun c2 => ?_⟩
          · rw [if_neg (by omega), ← q3 _ (by omega)] at q0
            simp only [e_Cp_way_98, e_Cp_way_100, e_Cp_way_101, e_Cp_way_102, kR_l, kR_r, kP_0, kP_i, kP_r, kP_n, kP_s, kP_o, kLen_I, kLen_L, kLen_R, kLdI_0, kLdI_1, kLdI_2, kLdI_3, kStI_0, kStI_1, kLdL_e, kStL_e, kLdR_e, kStR_e, kFld_e, kNth_0, kNth_s, kPut_e, fit_I, fit_Z, fit_B, fit_C, fit_A, fit_O, Option.toList_some, Option.toList_none, List.cons_append, List.nil_append, true_and, and_true, List.set_cons_zero, List.set_cons_succ, st_same, Int.toNat_natCast, Int.cast_ofNat_Int, Nat.zero_add, Nat.reduceAdd, kRcv_1, kRcv_2, kRcv_3, kRcv_0, kRcv_4, kRcv_5, setWy_set, Wyo, Wya1, Wyw1, Wya2, Wyw2, Wya3, Wyw3, Wya4, Wyw4, Wya5, Wyw5, Wya6, Wyw6, Wya7, Wyw7, Wya8, Wyw8, Wyp6, Wyp7, Wyp10, Wyp11, Wyp12, Wyp13, Wyp14, Wyp15]
            rw [show ((nW s a b : Nat) : Int) - 1 = ((nW s a b - 1 : Nat) : Int) by omega, s_foundPlace q2 (by omega) hN]
            simp only [e_Cp_way_105, kR_l, kR_r, kP_0, kP_i, kP_r, kP_n, kP_s, kP_o, kLen_I, kLen_L, kLen_R, kLdI_0, kLdI_1, kLdI_2, kLdI_3, kStI_0, kStI_1, kLdL_e, kStL_e, kLdR_e, kStR_e, kFld_e, kNth_0, kNth_s, kPut_e, fit_I, fit_Z, fit_B, fit_C, fit_A, fit_O, Option.toList_some, Option.toList_none, List.cons_append, List.nil_append, true_and, and_true, List.set_cons_zero, List.set_cons_succ, st_same, Int.toNat_natCast, Int.cast_ofNat_Int, Nat.zero_add, Nat.reduceAdd, kRcv_1, kRcv_2, kRcv_3, kRcv_0, kRcv_4, kRcv_5]
            first | exact q0 | exact ⟨trivial, q0⟩ | exact ⟨by simp, q0⟩
          · rw [if_pos (by omega), ← q3 _ (by omega)] at q0
            simp only [e_Cp_way_94, e_Cp_way_95, e_Cp_way_102, kR_l, kR_r, kP_0, kP_i, kP_r, kP_n, kP_s, kP_o, kLen_I, kLen_L, kLen_R, kLdI_0, kLdI_1, kLdI_2, kLdI_3, kStI_0, kStI_1, kLdL_e, kStL_e, kLdR_e, kStR_e, kFld_e, kNth_0, kNth_s, kPut_e, fit_I, fit_Z, fit_B, fit_C, fit_A, fit_O, Option.toList_some, Option.toList_none, List.cons_append, List.nil_append, true_and, and_true, List.set_cons_zero, List.set_cons_succ, st_same, Int.toNat_natCast, Int.cast_ofNat_Int, Nat.zero_add, Nat.reduceAdd, kRcv_1, kRcv_2, kRcv_3, kRcv_0, kRcv_4, kRcv_5, setWy_set, Wyo, Wya1, Wyw1, Wya2, Wyw2, Wya3, Wyw3, Wya4, Wyw4, Wya5, Wyw5, Wya6, Wyw6, Wya7, Wyw7, Wya8, Wyw8, Wyp6, Wyp7, Wyp10, Wyp11, Wyp12, Wyp13, Wyp14, Wyp15]
            have fp := s_foundPlace (G := G) (σ := σ) (Q := kR (fun v σ' => WP G k_Cp_way 105 [some (vR B), some (vI (a : Nat)), some (vI (b : Nat)), some (vI (w : Nat)), some (vI (cW s a b)), some (vI (nW s a b : Nat))] (v.toList ++ []) σ' Q) (fun e σ' => Q (.inr e) σ')) (W := B + 37) (A := A') (i := 0) q2 (by omega) hN
            refine Eq.mpr fp ?_
            simp only [e_Cp_way_105, kR_l, kR_r, kP_0, kP_i, kP_r, kP_n, kP_s, kP_o, kLen_I, kLen_L, kLen_R, kLdI_0, kLdI_1, kLdI_2, kLdI_3, kStI_0, kStI_1, kLdL_e, kStL_e, kLdR_e, kStR_e, kFld_e, kNth_0, kNth_s, kPut_e, fit_I, fit_Z, fit_B, fit_C, fit_A, fit_O, Option.toList_some, Option.toList_none, List.cons_append, List.nil_append, true_and, and_true, List.set_cons_zero, List.set_cons_succ, st_same, Int.toNat_natCast, Int.cast_ofNat_Int, Nat.zero_add, Nat.reduceAdd, kRcv_1, kRcv_2, kRcv_3, kRcv_0, kRcv_4, kRcv_5]
            first | exact q0 | exact ⟨trivial, q0⟩ | exact ⟨by simp, q0⟩
        · rw [if_pos (by omega)] at q0
          simp only [e_Cp_way_82, e_Cp_way_84, kR_l, kR_r, kP_0, kP_i, kP_r, kP_n, kP_s, kP_o, kLen_I, kLen_L, kLen_R, kLdI_0, kLdI_1, kLdI_2, kLdI_3, kStI_0, kStI_1, kLdL_e, kStL_e, kLdR_e, kStR_e, kFld_e, kNth_0, kNth_s, kPut_e, fit_I, fit_Z, fit_B, fit_C, fit_A, fit_O, Option.toList_some, Option.toList_none, List.cons_append, List.nil_append, true_and, and_true, List.set_cons_zero, List.set_cons_succ, st_same, Int.toNat_natCast, Int.cast_ofNat_Int, Nat.zero_add, Nat.reduceAdd, kRcv_1, kRcv_2, kRcv_3, kRcv_0, kRcv_4, kRcv_5]
          first | exact q0 | exact ⟨trivial, q0⟩ | exact ⟨by simp, q0⟩
      · rw [if_pos (by omega)] at q0
        simp only [e_Cp_way_65, e_Cp_way_67, kR_l, kR_r, kP_0, kP_i, kP_r, kP_n, kP_s, kP_o, kLen_I, kLen_L, kLen_R, kLdI_0, kLdI_1, kLdI_2, kLdI_3, kStI_0, kStI_1, kLdL_e, kStL_e, kLdR_e, kStR_e, kFld_e, kNth_0, kNth_s, kPut_e, fit_I, fit_Z, fit_B, fit_C, fit_A, fit_O, Option.toList_some, Option.toList_none, List.cons_append, List.nil_append, true_and, and_true, List.set_cons_zero, List.set_cons_succ, st_same, Int.toNat_natCast, Int.cast_ofNat_Int, Nat.zero_add, Nat.reduceAdd, kRcv_1, kRcv_2, kRcv_3, kRcv_0, kRcv_4, kRcv_5]
        first | exact q0 | exact ⟨trivial, q0⟩ | exact ⟨by simp, q0⟩
    · have er : rsF s a b = -1 := if_neg c4
      rw [if_pos (by omega)] at q0
      clear hQ
      rw [er]
      simp only [e_Cp_way_53, e_Cp_way_55, e_Cp_way_57, e_Cp_way_58, e_Cp_way_65, e_Cp_way_67, kR_l, kR_r, kP_0, kP_i, kP_r, kP_n, kP_s, kP_o, kLen_I, kLen_L, kLen_R, kLdI_0, kLdI_1, kLdI_2, kLdI_3, kStI_0, kStI_1, kLdL_e, kStL_e, kLdR_e, kStR_e, kFld_e, kNth_0, kNth_s, kPut_e, fit_I, fit_Z, fit_B, fit_C, fit_A, fit_O, Option.toList_some, Option.toList_none, List.cons_append, List.nil_append, true_and, and_true, List.set_cons_zero, List.set_cons_succ, st_same, Int.toNat_natCast, Int.cast_ofNat_Int, Nat.zero_add, Nat.reduceAdd, kRcv_1, kRcv_2, kRcv_3, kRcv_0, kRcv_4, kRcv_5]
      all_goals ((repeat' (first | with_reducible refine And.intro ?_ ?_ | intro _)) <;> first | with_reducible assumption | exact True.intro | with_reducible exact q0 | omega | (simp only [inR] at *; omega) | exact q0 | with_reducible rfl | rfl | (simp; done) | (exfalso; simp_all; done) | skip)
  · have c' : w = 4 := by
      have := Classical.byContradiction c
      omega
    subst c'
    have q0 : Q (.inl (some (vI (wkM s a b)))) σ := hQ σ hC (FrB.refl _ _ _)
    clear hQ
    simp only [e_Cp_way_30, e_Cp_way_31, e_Cp_way_34, e_Cp_way_35, e_Cp_way_36, kR_l, kR_r, kP_0, kP_i, kP_r, kP_n, kP_s, kP_o, kLen_I, kLen_L, kLen_R, kLdI_0, kLdI_1, kLdI_2, kLdI_3, kStI_0, kStI_1, kLdL_e, kStL_e, kLdR_e, kStR_e, kFld_e, kNth_0, kNth_s, kPut_e, fit_I, fit_Z, fit_B, fit_C, fit_A, fit_O, Option.toList_some, Option.toList_none, List.cons_append, List.nil_append, true_and, and_true, List.set_cons_zero, List.set_cons_succ, st_same, Int.toNat_natCast, Int.cast_ofNat_Int, Nat.zero_add, Nat.reduceAdd, kRcv_1, kRcv_2, kRcv_3, kRcv_0, kRcv_4, kRcv_5, hB, hC.2.1.1]
    rw [s_Plan_widthBetween hC.2.1 ha hb, wdAt_wk ha hb]
    simp only [e_Cp_way_39, kR_l, kR_r, kP_0, kP_i, kP_r, kP_n, kP_s, kP_o, kLen_I, kLen_L, kLen_R, kLdI_0, kLdI_1, kLdI_2, kLdI_3, kStI_0, kStI_1, kLdL_e, kStL_e, kLdR_e, kStR_e, kFld_e, kNth_0, kNth_s, kPut_e, fit_I, fit_Z, fit_B, fit_C, fit_A, fit_O, Option.toList_some, Option.toList_none, List.cons_append, List.nil_append, true_and, and_true, List.set_cons_zero, List.set_cons_succ, st_same, Int.toNat_natCast, Int.cast_ofNat_Int, Nat.zero_add, Nat.reduceAdd, kRcv_1, kRcv_2, kRcv_3, kRcv_0, kRcv_4, kRcv_5]
    first | exact q0 | exact ⟨trivial, q0⟩ | exact ⟨by simp, q0⟩
end CP4
