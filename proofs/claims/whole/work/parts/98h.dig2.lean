/-! THE HASH OF THE WHOLE STATE: the class's -/
section DG2
variable {G : Nat → Nat} {σ : AS} {Q : (Option AV ⊕ Nat) → AS → Prop} {B kp n : Nat} {s p t : Nat → Int}
theorem o_mixSquares {h : Int64} (hC : ClsI G σ B s kp p n t) (hI : GdI s kp p n t) : CW G k_Cp_mixSquares [vR B, vL h] σ Q = Q (.inl (some (vL (fo (sqD s) 192 h)))) σ := by
  refine CW.det' fun R hR => ?_
  have hB : σ.1 B = _ := hC.1
  simp only [c_Cp_mixSquares, e_Cp_mixSquares_0, e_Cp_mixSquares_1, e_Cp_mixSquares_2, e_Cp_mixSquares_3, kR_l, kR_r, kP_0, kP_i, kP_r, kP_n, kP_s, kP_o, kLen_I, kLen_L, kLen_R, kLdI_0, kLdI_1, kLdI_2, kLdI_3, kStI_0, kStI_1, kLdL_e, kStL_e, kLdR_e, kStR_e, kFld_e, kNth_0, kNth_s, kPut_e, fit_I, fit_Z, fit_B, fit_C, fit_A, fit_O, Option.toList_some, Option.toList_none, List.cons_append, List.nil_append, true_and, and_true, List.set_cons_zero, List.set_cons_succ, st_same, Int.toNat_natCast, Int.cast_ofNat_Int, Nat.zero_add, Nat.reduceAdd, kRcv_1, kRcv_2, kRcv_3, kRcv_0, kRcv_4, kRcv_5]
  refine up (fun y => ∀ z6 z7, zI z6 → zI z7 → WP G k_Cp_mixSquares 5 [some (vR B), some (vL h), none, some (vL (fo (sqD s) (16 * y) h)), none, some (vI (y : Nat)), z6, z7] [] σ R) (n := 12) ?_ ?_ none none zI_n zI_n
  · intro y hy ih z6 z7 h6 h7
    have inner := up (fun x => ∀ z7, zI z7 → WP G k_Cp_mixSquares 15 [some (vR B), some (vL h), none, some (vL (fo (sqD s) (16 * y + x) h)), none, some (vI (y : Nat)), some (vI (x : Nat)), z7] [] σ R) (n := 16) ?_ ?_
    · have i0 := inner z7 h7
      clear inner ih
      rw [e_Cp_mixSquares_5]
      simp only [e_Cp_mixSquares_7, e_Cp_mixSquares_9, e_Cp_mixSquares_12, e_Cp_mixSquares_13, kR_l, kR_r, kP_0, kP_i, kP_r, kP_n, kP_s, kP_o, kLen_I, kLen_L, kLen_R, kLdI_0, kLdI_1, kLdI_2, kLdI_3, kStI_0, kStI_1, kLdL_e, kStL_e, kLdR_e, kStR_e, kFld_e, kNth_0, kNth_s, kPut_e, fit_I, fit_Z, fit_B, fit_C, fit_A, fit_O, Option.toList_some, Option.toList_none, List.cons_append, List.nil_append, true_and, and_true, List.set_cons_zero, List.set_cons_succ, st_same, Int.toNat_natCast, Int.cast_ofNat_Int, Nat.zero_add, Nat.reduceAdd, kRcv_1, kRcv_2, kRcv_3, kRcv_0, kRcv_4, kRcv_5]
      all_goals ((repeat' (first | with_reducible refine And.intro ?_ ?_ | intro _)) <;> first | with_reducible assumption | exact True.intro | with_reducible exact i0 | omega | (simp only [inR] at *; omega) | exact i0 | with_reducible rfl | rfl | (simp; done) | (exfalso; simp_all; done) | skip)
    · intro x hx ihx z7 h7
      have hs := hI.1.2.2.2.2.1 (16 * y + x) (by omega)
      have nx := fun z hz => ihx z hz
      rw [show 16 * y + (x + 1) = (16 * y + x) + 1 by omega, fo_s] at nx
      generalize hH : fo (sqD s) (16 * y + x) h = H at *
      have e : sqD s (16 * y + x) H = if s (16 * y + x) = -1 then mx (mx H (s (16 * y + x))) (sdM s (x : Nat) (y : Nat)) else mx H (s (16 * y + x)) := by
        unfold sqD
        rw [show (16 * y + x) % 16 = x by omega, show (16 * y + x) / 16 = y by omega]
      rw [e] at nx
      clear ih ihx
      rw [e_Cp_mixSquares_15]
      simp only [e_Cp_mixSquares_17, e_Cp_mixSquares_19, e_Cp_mixSquares_22, e_Cp_mixSquares_23, e_Cp_mixSquares_26, e_Cp_mixSquares_28, e_Cp_mixSquares_30, kR_l, kR_r, kP_0, kP_i, kP_r, kP_n, kP_s, kP_o, kLen_I, kLen_L, kLen_R, kLdI_0, kLdI_1, kLdI_2, kLdI_3, kStI_0, kStI_1, kLdL_e, kStL_e, kLdR_e, kStR_e, kFld_e, kNth_0, kNth_s, kPut_e, fit_I, fit_Z, fit_B, fit_C, fit_A, fit_O, Option.toList_some, Option.toList_none, List.cons_append, List.nil_append, true_and, and_true, List.set_cons_zero, List.set_cons_succ, st_same, Int.toNat_natCast, Int.cast_ofNat_Int, Nat.zero_add, Nat.reduceAdd, kRcv_1, kRcv_2, kRcv_3, kRcv_0, kRcv_4, kRcv_5, hB, hC.2.1.1]
      refine ⟨⟨by unfold inR; omega, by unfold inR; omega⟩, (fun h => by first | exact absurd h (by omega) | exact absurd trivial h | (exfalso; simp_all; done)), fun _ => ?_⟩
      rw [s_Plan_squareAt hC.2.1 (by unfold inR; omega) (by unfold inR; omega), xy_sq (by omega) hy]
      simp only [e_Cp_mixSquares_33, e_Cp_mixSquares_35, e_Cp_mixSquares_36, e_Cp_mixSquares_38, e_Cp_mixSquares_39, kR_l, kR_r, kP_0, kP_i, kP_r, kP_n, kP_s, kP_o, kLen_I, kLen_L, kLen_R, kLdI_0, kLdI_1, kLdI_2, kLdI_3, kStI_0, kStI_1, kLdL_e, kStL_e, kLdR_e, kStR_e, kFld_e, kNth_0, kNth_s, kPut_e, fit_I, fit_Z, fit_B, fit_C, fit_A, fit_O, Option.toList_some, Option.toList_none, List.cons_append, List.nil_append, true_and, and_true, List.set_cons_zero, List.set_cons_succ, st_same, Int.toNat_natCast, Int.cast_ofNat_Int, Nat.zero_add, Nat.reduceAdd, kRcv_1, kRcv_2, kRcv_3, kRcv_0, kRcv_4, kRcv_5]
      rw [s_mixI]
      simp only [e_Cp_mixSquares_42, e_Cp_mixSquares_43, e_Cp_mixSquares_45, e_Cp_mixSquares_46, kR_l, kR_r, kP_0, kP_i, kP_r, kP_n, kP_s, kP_o, kLen_I, kLen_L, kLen_R, kLdI_0, kLdI_1, kLdI_2, kLdI_3, kStI_0, kStI_1, kLdL_e, kStL_e, kLdR_e, kStR_e, kFld_e, kNth_0, kNth_s, kPut_e, fit_I, fit_Z, fit_B, fit_C, fit_A, fit_O, Option.toList_some, Option.toList_none, List.cons_append, List.nil_append, true_and, and_true, List.set_cons_zero, List.set_cons_succ, st_same, Int.toNat_natCast, Int.cast_ofNat_Int, Nat.zero_add, Nat.reduceAdd, kRcv_1, kRcv_2, kRcv_3, kRcv_0, kRcv_4, kRcv_5]
      refine ⟨⟨by unfold inR; omega, by unfold inR; omega⟩, fun c => ?_, fun c => ?_⟩
      · rw [if_neg c] at nx
        have nx' := nx _ (zI_s (s (16 * y + x)))
        clear nx
        simp only [e_Cp_mixSquares_66, e_Cp_mixSquares_69, kR_l, kR_r, kP_0, kP_i, kP_r, kP_n, kP_s, kP_o, kLen_I, kLen_L, kLen_R, kLdI_0, kLdI_1, kLdI_2, kLdI_3, kStI_0, kStI_1, kLdL_e, kStL_e, kLdR_e, kStR_e, kFld_e, kNth_0, kNth_s, kPut_e, fit_I, fit_Z, fit_B, fit_C, fit_A, fit_O, Option.toList_some, Option.toList_none, List.cons_append, List.nil_append, true_and, and_true, List.set_cons_zero, List.set_cons_succ, st_same, Int.toNat_natCast, Int.cast_ofNat_Int, Nat.zero_add, Nat.reduceAdd, kRcv_1, kRcv_2, kRcv_3, kRcv_0, kRcv_4, kRcv_5]
        all_goals ((repeat' (first | with_reducible refine And.intro ?_ ?_ | intro _)) <;> first | with_reducible assumption | exact True.intro | with_reducible exact nx' | omega | (simp only [inR] at *; omega) | exact nx' | with_reducible rfl | rfl | (simp; done) | (exfalso; simp_all; done) | skip)
      · rw [if_pos (Classical.byContradiction c)] at nx
        have nx' := nx _ (zI_s (s (16 * y + x)))
        clear nx
        simp only [e_Cp_mixSquares_49, e_Cp_mixSquares_50, e_Cp_mixSquares_51, e_Cp_mixSquares_54, e_Cp_mixSquares_56, e_Cp_mixSquares_58, kR_l, kR_r, kP_0, kP_i, kP_r, kP_n, kP_s, kP_o, kLen_I, kLen_L, kLen_R, kLdI_0, kLdI_1, kLdI_2, kLdI_3, kStI_0, kStI_1, kLdL_e, kStL_e, kLdR_e, kStR_e, kFld_e, kNth_0, kNth_s, kPut_e, fit_I, fit_Z, fit_B, fit_C, fit_A, fit_O, Option.toList_some, Option.toList_none, List.cons_append, List.nil_append, true_and, and_true, List.set_cons_zero, List.set_cons_succ, st_same, Int.toNat_natCast, Int.cast_ofNat_Int, Nat.zero_add, Nat.reduceAdd, kRcv_1, kRcv_2, kRcv_3, kRcv_0, kRcv_4, kRcv_5, hB, hC.2.1.1]
        rw [s_Plan_doorSides hC.2.2.2.2.2.2.1 hC.2.1 hI.1.sq (by omega) (by omega), ds_eq hI.1]
        simp only [e_Cp_mixSquares_61, e_Cp_mixSquares_62, kR_l, kR_r, kP_0, kP_i, kP_r, kP_n, kP_s, kP_o, kLen_I, kLen_L, kLen_R, kLdI_0, kLdI_1, kLdI_2, kLdI_3, kStI_0, kStI_1, kLdL_e, kStL_e, kLdR_e, kStR_e, kFld_e, kNth_0, kNth_s, kPut_e, fit_I, fit_Z, fit_B, fit_C, fit_A, fit_O, Option.toList_some, Option.toList_none, List.cons_append, List.nil_append, true_and, and_true, List.set_cons_zero, List.set_cons_succ, st_same, Int.toNat_natCast, Int.cast_ofNat_Int, Nat.zero_add, Nat.reduceAdd, kRcv_1, kRcv_2, kRcv_3, kRcv_0, kRcv_4, kRcv_5]
        rw [s_mixI]
        simp only [e_Cp_mixSquares_65, e_Cp_mixSquares_66, e_Cp_mixSquares_69, kR_l, kR_r, kP_0, kP_i, kP_r, kP_n, kP_s, kP_o, kLen_I, kLen_L, kLen_R, kLdI_0, kLdI_1, kLdI_2, kLdI_3, kStI_0, kStI_1, kLdL_e, kStL_e, kLdR_e, kStR_e, kFld_e, kNth_0, kNth_s, kPut_e, fit_I, fit_Z, fit_B, fit_C, fit_A, fit_O, Option.toList_some, Option.toList_none, List.cons_append, List.nil_append, true_and, and_true, List.set_cons_zero, List.set_cons_succ, st_same, Int.toNat_natCast, Int.cast_ofNat_Int, Nat.zero_add, Nat.reduceAdd, kRcv_1, kRcv_2, kRcv_3, kRcv_0, kRcv_4, kRcv_5]
        all_goals ((repeat' (first | with_reducible refine And.intro ?_ ?_ | intro _)) <;> first | with_reducible assumption | exact True.intro | with_reducible exact nx' | omega | (simp only [inR] at *; omega) | exact nx' | with_reducible rfl | rfl | (simp; done) | (exfalso; simp_all; done) | skip)
    · intro z7 h7
      have nx := ih _ z7 (zI_s ((16 : Nat) : Int)) h7
      rw [show 16 * (y + 1) = 16 * y + 16 by omega] at nx
      clear ih
      rw [e_Cp_mixSquares_15]
      simp only [e_Cp_mixSquares_17, e_Cp_mixSquares_19, e_Cp_mixSquares_72, e_Cp_mixSquares_75, kR_l, kR_r, kP_0, kP_i, kP_r, kP_n, kP_s, kP_o, kLen_I, kLen_L, kLen_R, kLdI_0, kLdI_1, kLdI_2, kLdI_3, kStI_0, kStI_1, kLdL_e, kStL_e, kLdR_e, kStR_e, kFld_e, kNth_0, kNth_s, kPut_e, fit_I, fit_Z, fit_B, fit_C, fit_A, fit_O, Option.toList_some, Option.toList_none, List.cons_append, List.nil_append, true_and, and_true, List.set_cons_zero, List.set_cons_succ, st_same, Int.toNat_natCast, Int.cast_ofNat_Int, Nat.zero_add, Nat.reduceAdd, kRcv_1, kRcv_2, kRcv_3, kRcv_0, kRcv_4, kRcv_5]
      refine ⟨⟨by unfold inR; omega, by unfold inR; omega⟩, fun _ => nx, (fun h => by first | exact absurd h (by omega) | exact absurd trivial h | (exfalso; simp_all; done))⟩
  · intro z6 z7 h6 h7
    rw [e_Cp_mixSquares_5]
    simp only [e_Cp_mixSquares_7, e_Cp_mixSquares_9, e_Cp_mixSquares_78, e_Cp_mixSquares_79, kR_l, kR_r, kP_0, kP_i, kP_r, kP_n, kP_s, kP_o, kLen_I, kLen_L, kLen_R, kLdI_0, kLdI_1, kLdI_2, kLdI_3, kStI_0, kStI_1, kLdL_e, kStL_e, kLdR_e, kStR_e, kFld_e, kNth_0, kNth_s, kPut_e, fit_I, fit_Z, fit_B, fit_C, fit_A, fit_O, Option.toList_some, Option.toList_none, List.cons_append, List.nil_append, true_and, and_true, List.set_cons_zero, List.set_cons_succ, st_same, Int.toNat_natCast, Int.cast_ofNat_Int, Nat.zero_add, Nat.reduceAdd, kRcv_1, kRcv_2, kRcv_3, kRcv_0, kRcv_4, kRcv_5]
    refine ⟨⟨by unfold inR; omega, by unfold inR; omega⟩, fun _ => hR, (fun h => by first | exact absurd h (by omega) | exact absurd trivial h | (exfalso; simp_all; done))⟩
theorem o_mixChambers {h : Int64} {far : Nat} (hC : ClsI G σ B s kp p n t) (hI : GdI s kp p n t) (hG : G 0 ≤ B) (hfar : s 252 = (far : Nat))
    (hQ : ∀ σ' : AS, ClsI G σ' B s kp p n t → FrB B (B + 46) σ σ' → Q (.inl (some (vL (fo (rmD s far) 6 h)))) σ') :
    CW G k_Cp_mixChambers [vR B, vL h] σ Q := by
  simp only [c_Cp_mixChambers, e_Cp_mixChambers_0, e_Cp_mixChambers_1, e_Cp_mixChambers_2, e_Cp_mixChambers_3, kR_l, kR_r, kP_0, kP_i, kP_r, kP_n, kP_s, kP_o, kLen_I, kLen_L, kLen_R, kLdI_0, kLdI_1, kLdI_2, kLdI_3, kStI_0, kStI_1, kLdL_e, kStL_e, kLdR_e, kStR_e, kFld_e, kNth_0, kNth_s, kPut_e, fit_I, fit_Z, fit_B, fit_C, fit_A, fit_O, Option.toList_some, Option.toList_none, List.cons_append, List.nil_append, true_and, and_true, List.set_cons_zero, List.set_cons_succ, st_same, Int.toNat_natCast, Int.cast_ofNat_Int, Nat.zero_add, Nat.reduceAdd, kRcv_1, kRcv_2, kRcv_3, kRcv_0, kRcv_4, kRcv_5]
  refine up (fun r => ∀ (S : AS) z6, zI z6 → ClsI G S B s kp p n t → FrB B (B + 46) σ S → WP G k_Cp_mixChambers 5 [some (vR B), some (vL h), none, some (vL (fo (rmD s far) r h)), none, some (vI (r : Nat)), z6] [] S Q) (n := 6) ?_ ?_ σ none zI_n hC (FrB.refl _ _ _)
  · intro r hr ih S z6 h6 hS fS
    have hB : S.1 B = _ := hS.1
    have t1 := thM_bd s (r : Nat)
    have nx := fun S z6 hz a b => ih S z6 hz a b
    rw [fo_s] at nx
    generalize fo (rmD s far) r h = H at *
    unfold rmD at nx
    clear ih hQ
    rw [e_Cp_mixChambers_5]
    simp only [e_Cp_mixChambers_7, e_Cp_mixChambers_9, e_Cp_mixChambers_12, e_Cp_mixChambers_13, e_Cp_mixChambers_16, e_Cp_mixChambers_18, kR_l, kR_r, kP_0, kP_i, kP_r, kP_n, kP_s, kP_o, kLen_I, kLen_L, kLen_R, kLdI_0, kLdI_1, kLdI_2, kLdI_3, kStI_0, kStI_1, kLdL_e, kStL_e, kLdR_e, kStR_e, kFld_e, kNth_0, kNth_s, kPut_e, fit_I, fit_Z, fit_B, fit_C, fit_A, fit_O, Option.toList_some, Option.toList_none, List.cons_append, List.nil_append, true_and, and_true, List.set_cons_zero, List.set_cons_succ, st_same, Int.toNat_natCast, Int.cast_ofNat_Int, Nat.zero_add, Nat.reduceAdd, kRcv_1, kRcv_2, kRcv_3, kRcv_0, kRcv_4, kRcv_5, hB, hS.2.1.1]
    refine ⟨⟨by unfold inR; omega, by unfold inR; omega⟩, (fun h => by first | exact absurd h (by omega) | exact absurd trivial h | (exfalso; simp_all; done)), fun _ => ?_⟩
    rw [hasC_R hS hI (by unfold inR; omega)]
    simp only [e_Cp_mixChambers_21, kR_l, kR_r, kP_0, kP_i, kP_r, kP_n, kP_s, kP_o, kLen_I, kLen_L, kLen_R, kLdI_0, kLdI_1, kLdI_2, kLdI_3, kStI_0, kStI_1, kLdL_e, kStL_e, kLdR_e, kStR_e, kFld_e, kNth_0, kNth_s, kPut_e, fit_I, fit_Z, fit_B, fit_C, fit_A, fit_O, Option.toList_some, Option.toList_none, List.cons_append, List.nil_append, true_and, and_true, List.set_cons_zero, List.set_cons_succ, st_same, Int.toNat_natCast, Int.cast_ofNat_Int, Nat.zero_add, Nat.reduceAdd, kRcv_1, kRcv_2, kRcv_3, kRcv_0, kRcv_4, kRcv_5]
    refine ⟨by unfold inR; omega, fun c => ?_, fun c => ?_⟩
    · rw [if_neg (by omega)] at nx
      have nx' := nx S z6 h6 hS fS
      clear nx
      simp only [e_Cp_mixChambers_62, e_Cp_mixChambers_65, kR_l, kR_r, kP_0, kP_i, kP_r, kP_n, kP_s, kP_o, kLen_I, kLen_L, kLen_R, kLdI_0, kLdI_1, kLdI_2, kLdI_3, kStI_0, kStI_1, kLdL_e, kStL_e, kLdR_e, kStR_e, kFld_e, kNth_0, kNth_s, kPut_e, fit_I, fit_Z, fit_B, fit_C, fit_A, fit_O, Option.toList_some, Option.toList_none, List.cons_append, List.nil_append, true_and, and_true, List.set_cons_zero, List.set_cons_succ, st_same, Int.toNat_natCast, Int.cast_ofNat_Int, Nat.zero_add, Nat.reduceAdd, kRcv_1, kRcv_2, kRcv_3, kRcv_0, kRcv_4, kRcv_5, kP_z h6]
      all_goals ((repeat' (first | with_reducible refine And.intro ?_ ?_ | intro _)) <;> first | with_reducible assumption | exact True.intro | with_reducible exact nx' | omega | (simp only [inR] at *; omega) | exact nx' | with_reducible rfl | rfl | (simp; done) | (exfalso; simp_all; done) | skip)
    · have c1 : thM s (r : Nat) = 1 := by omega
      rw [if_pos c1] at nx
      simp only [e_Cp_mixChambers_24, e_Cp_mixChambers_25, e_Cp_mixChambers_27, e_Cp_mixChambers_28, kR_l, kR_r, kP_0, kP_i, kP_r, kP_n, kP_s, kP_o, kLen_I, kLen_L, kLen_R, kLdI_0, kLdI_1, kLdI_2, kLdI_3, kStI_0, kStI_1, kLdL_e, kStL_e, kLdR_e, kStR_e, kFld_e, kNth_0, kNth_s, kPut_e, fit_I, fit_Z, fit_B, fit_C, fit_A, fit_O, Option.toList_some, Option.toList_none, List.cons_append, List.nil_append, true_and, and_true, List.set_cons_zero, List.set_cons_succ, st_same, Int.toNat_natCast, Int.cast_ofNat_Int, Nat.zero_add, Nat.reduceAdd, kRcv_1, kRcv_2, kRcv_3, kRcv_0, kRcv_4, kRcv_5]
      rw [s_mixI]
      simp only [e_Cp_mixChambers_31, e_Cp_mixChambers_32, e_Cp_mixChambers_33, kR_l, kR_r, kP_0, kP_i, kP_r, kP_n, kP_s, kP_o, kLen_I, kLen_L, kLen_R, kLdI_0, kLdI_1, kLdI_2, kLdI_3, kStI_0, kStI_1, kLdL_e, kStL_e, kLdR_e, kStR_e, kFld_e, kNth_0, kNth_s, kPut_e, fit_I, fit_Z, fit_B, fit_C, fit_A, fit_O, Option.toList_some, Option.toList_none, List.cons_append, List.nil_append, true_and, and_true, List.set_cons_zero, List.set_cons_succ, st_same, Int.toNat_natCast, Int.cast_ofNat_Int, Nat.zero_add, Nat.reduceAdd, kRcv_1, kRcv_2, kRcv_3, kRcv_0, kRcv_4, kRcv_5]
      refine up (fun w => ∀ (S : AS), ClsI G S B s kp p n t → FrB B (B + 46) σ S → WP G k_Cp_mixChambers 35 [some (vR B), some (vL h), none, some (vL (fo (fun w h => mx h (orM s far r w)) w (mx H (r : Nat)))), none, some (vI (r : Nat)), some (vI (w : Nat))] [] S Q) (n := 8) ?_ ?_ S hS fS
      · intro w hw ihw S hS fS
        have hB : S.1 B = _ := hS.1
        have ihw' := fun S a b => ihw S a b
        rw [fo_s] at ihw'
        generalize fo (fun w h => mx h (orM s far r w)) w (mx H (r : Nat)) = H2 at *
        clear nx ihw
        rw [e_Cp_mixChambers_35]
        simp only [e_Cp_mixChambers_37, e_Cp_mixChambers_39, e_Cp_mixChambers_42, e_Cp_mixChambers_43, e_Cp_mixChambers_44, e_Cp_mixChambers_46, e_Cp_mixChambers_48, kR_l, kR_r, kP_0, kP_i, kP_r, kP_n, kP_s, kP_o, kLen_I, kLen_L, kLen_R, kLdI_0, kLdI_1, kLdI_2, kLdI_3, kStI_0, kStI_1, kLdL_e, kStL_e, kLdR_e, kStR_e, kFld_e, kNth_0, kNth_s, kPut_e, fit_I, fit_Z, fit_B, fit_C, fit_A, fit_O, Option.toList_some, Option.toList_none, List.cons_append, List.nil_append, true_and, and_true, List.set_cons_zero, List.set_cons_succ, st_same, Int.toNat_natCast, Int.cast_ofNat_Int, Nat.zero_add, Nat.reduceAdd, kRcv_1, kRcv_2, kRcv_3, kRcv_0, kRcv_4, kRcv_5, hB]
        refine ⟨⟨by unfold inR; omega, by unfold inR; omega⟩, (fun h => by first | exact absurd h (by omega) | exact absurd trivial h | (exfalso; simp_all; done)), fun _ => ?_⟩
        refine o_chamber0 hS hI hG hfar hr c1 hw (fun S2 hS2 f2 => ?_)
        have nx' := ihw' S2 hS2 (fS.trans f2)
        clear ihw'
        simp only [e_Cp_mixChambers_51, e_Cp_mixChambers_52, kR_l, kR_r, kP_0, kP_i, kP_r, kP_n, kP_s, kP_o, kLen_I, kLen_L, kLen_R, kLdI_0, kLdI_1, kLdI_2, kLdI_3, kStI_0, kStI_1, kLdL_e, kStL_e, kLdR_e, kStR_e, kFld_e, kNth_0, kNth_s, kPut_e, fit_I, fit_Z, fit_B, fit_C, fit_A, fit_O, Option.toList_some, Option.toList_none, List.cons_append, List.nil_append, true_and, and_true, List.set_cons_zero, List.set_cons_succ, st_same, Int.toNat_natCast, Int.cast_ofNat_Int, Nat.zero_add, Nat.reduceAdd, kRcv_1, kRcv_2, kRcv_3, kRcv_0, kRcv_4, kRcv_5]
        rw [s_mixI]
        simp only [e_Cp_mixChambers_55, e_Cp_mixChambers_56, e_Cp_mixChambers_59, kR_l, kR_r, kP_0, kP_i, kP_r, kP_n, kP_s, kP_o, kLen_I, kLen_L, kLen_R, kLdI_0, kLdI_1, kLdI_2, kLdI_3, kStI_0, kStI_1, kLdL_e, kStL_e, kLdR_e, kStR_e, kFld_e, kNth_0, kNth_s, kPut_e, fit_I, fit_Z, fit_B, fit_C, fit_A, fit_O, Option.toList_some, Option.toList_none, List.cons_append, List.nil_append, true_and, and_true, List.set_cons_zero, List.set_cons_succ, st_same, Int.toNat_natCast, Int.cast_ofNat_Int, Nat.zero_add, Nat.reduceAdd, kRcv_1, kRcv_2, kRcv_3, kRcv_0, kRcv_4, kRcv_5]
        all_goals ((repeat' (first | with_reducible refine And.intro ?_ ?_ | intro _)) <;> first | with_reducible assumption | exact True.intro | with_reducible exact nx' | omega | (simp only [inR] at *; omega) | exact nx' | with_reducible rfl | rfl | (simp; done) | (exfalso; simp_all; done) | skip)
      · intro S hS fS
        have nx' := nx S _ (zI_s ((8 : Nat) : Int)) hS fS
        clear nx
        rw [e_Cp_mixChambers_35]
        simp only [e_Cp_mixChambers_37, e_Cp_mixChambers_39, e_Cp_mixChambers_62, e_Cp_mixChambers_65, kR_l, kR_r, kP_0, kP_i, kP_r, kP_n, kP_s, kP_o, kLen_I, kLen_L, kLen_R, kLdI_0, kLdI_1, kLdI_2, kLdI_3, kStI_0, kStI_1, kLdL_e, kStL_e, kLdR_e, kStR_e, kFld_e, kNth_0, kNth_s, kPut_e, fit_I, fit_Z, fit_B, fit_C, fit_A, fit_O, Option.toList_some, Option.toList_none, List.cons_append, List.nil_append, true_and, and_true, List.set_cons_zero, List.set_cons_succ, st_same, Int.toNat_natCast, Int.cast_ofNat_Int, Nat.zero_add, Nat.reduceAdd, kRcv_1, kRcv_2, kRcv_3, kRcv_0, kRcv_4, kRcv_5]
        refine ⟨⟨by unfold inR; omega, by unfold inR; omega⟩, fun _ => nx', (fun h => by first | exact absurd h (by omega) | exact absurd trivial h | (exfalso; simp_all; done))⟩
  · intro S z6 h6 hS fS
    have hq := hQ S hS fS
    clear hQ
    rw [e_Cp_mixChambers_5]
    simp only [e_Cp_mixChambers_7, e_Cp_mixChambers_9, e_Cp_mixChambers_68, e_Cp_mixChambers_69, kR_l, kR_r, kP_0, kP_i, kP_r, kP_n, kP_s, kP_o, kLen_I, kLen_L, kLen_R, kLdI_0, kLdI_1, kLdI_2, kLdI_3, kStI_0, kStI_1, kLdL_e, kStL_e, kLdR_e, kStR_e, kFld_e, kNth_0, kNth_s, kPut_e, fit_I, fit_Z, fit_B, fit_C, fit_A, fit_O, Option.toList_some, Option.toList_none, List.cons_append, List.nil_append, true_and, and_true, List.set_cons_zero, List.set_cons_succ, st_same, Int.toNat_natCast, Int.cast_ofNat_Int, Nat.zero_add, Nat.reduceAdd, kRcv_1, kRcv_2, kRcv_3, kRcv_0, kRcv_4, kRcv_5]
    refine ⟨⟨by unfold inR; omega, by unfold inR; omega⟩, fun _ => hq, (fun h => by first | exact absurd h (by omega) | exact absurd trivial h | (exfalso; simp_all; done))⟩
theorem wy_skip (s : Nat → Int) (h : Int64) (k : Nat) : ∀ m, (∀ i, k ≤ i → i < k + m → ¬ (i / 6 < i % 6)) → fo (wyD s) (k + m) h = fo (wyD s) k h
  | 0, _ => rfl
  | m + 1, z => by
    rw [show k + (m + 1) = (k + m) + 1 by omega, fo_s, wy_skip s h k m (fun i h1 h2 => z i h1 (by omega))]
    unfold wyD
    rw [if_neg (fun y => z (k + m) (by omega) (by omega) y.1)]
theorem o_mixWays {h : Int64} (hC : ClsI G σ B s kp p n t) (hI : GdI s kp p n t) (hG : G 0 ≤ B)
    (hQ : ∀ σ' : AS, ClsI G σ' B s kp p n t → FrB B (B + 46) σ σ' → Q (.inl (some (vL (fo (wyD s) 36 h)))) σ') :
    CW G k_Cp_mixWays [vR B, vL h] σ Q := by
  simp only [c_Cp_mixWays, e_Cp_mixWays_0, e_Cp_mixWays_1, e_Cp_mixWays_2, e_Cp_mixWays_3, kR_l, kR_r, kP_0, kP_i, kP_r, kP_n, kP_s, kP_o, kLen_I, kLen_L, kLen_R, kLdI_0, kLdI_1, kLdI_2, kLdI_3, kStI_0, kStI_1, kLdL_e, kStL_e, kLdR_e, kStR_e, kFld_e, kNth_0, kNth_s, kPut_e, fit_I, fit_Z, fit_B, fit_C, fit_A, fit_O, Option.toList_some, Option.toList_none, List.cons_append, List.nil_append, true_and, and_true, List.set_cons_zero, List.set_cons_succ, st_same, Int.toNat_natCast, Int.cast_ofNat_Int, Nat.zero_add, Nat.reduceAdd, kRcv_1, kRcv_2, kRcv_3, kRcv_0, kRcv_4, kRcv_5]
  refine up (fun a => ∀ (S : AS) z6 z7, zI z6 → zI z7 → ClsI G S B s kp p n t → FrB B (B + 46) σ S → WP G k_Cp_mixWays 5 [some (vR B), some (vL h), none, some (vL (fo (wyD s) (6 * a) h)), none, some (vI (a : Nat)), z6, z7] [] S Q) (n := 6) ?_ ?_ σ none none zI_n zI_n hC (FrB.refl _ _ _)
  · intro a ha ih S z6 z7 h6 h7 hS fS
    have inner := upF (fun b => ∀ (S : AS) z7, zI z7 → ClsI G S B s kp p n t → FrB B (B + 46) σ S → WP G k_Cp_mixWays 18 [some (vR B), some (vL h), none, some (vL (fo (wyD s) (6 * a + b) h)), none, some (vI (a : Nat)), some (vI (b : Nat)), z7] [] S Q) (a := a + 1) (n := 6) (by omega) ?_ ?_
    · have i0 := inner S z7 h7 hS fS
      rw [wy_skip s h (6 * a) (a + 1) (fun i h1 h2 => by omega)] at i0
      clear inner ih hQ
      rw [e_Cp_mixWays_5]
      simp only [e_Cp_mixWays_7, e_Cp_mixWays_9, e_Cp_mixWays_12, e_Cp_mixWays_14, e_Cp_mixWays_15, e_Cp_mixWays_16, kR_l, kR_r, kP_0, kP_i, kP_r, kP_n, kP_s, kP_o, kLen_I, kLen_L, kLen_R, kLdI_0, kLdI_1, kLdI_2, kLdI_3, kStI_0, kStI_1, kLdL_e, kStL_e, kLdR_e, kStR_e, kFld_e, kNth_0, kNth_s, kPut_e, fit_I, fit_Z, fit_B, fit_C, fit_A, fit_O, Option.toList_some, Option.toList_none, List.cons_append, List.nil_append, true_and, and_true, List.set_cons_zero, List.set_cons_succ, st_same, Int.toNat_natCast, Int.cast_ofNat_Int, Nat.zero_add, Nat.reduceAdd, kRcv_1, kRcv_2, kRcv_3, kRcv_0, kRcv_4, kRcv_5]
      all_goals ((repeat' (first | with_reducible refine And.intro ?_ ?_ | intro _)) <;> first | with_reducible assumption | exact True.intro | with_reducible exact i0 | omega | (simp only [inR] at *; omega) | exact i0 | with_reducible rfl | rfl | (simp; done) | (exfalso; simp_all; done) | skip)
    · intro b hb0 hb ihb S z7 h7 hS fS
      have hB : S.1 B = _ := hS.1
      have t1 := thM_bd s (a : Nat)
      have t2 := thM_bd s (b : Nat)
      have nx := fun S z7 hz x y => ihb S z7 hz x y
      rw [show 6 * a + (b + 1) = (6 * a + b) + 1 by omega, fo_s] at nx
      generalize fo (wyD s) (6 * a + b) h = H at *
      have e : wyD s (6 * a + b) H = if a < b ∧ thM s (a : Nat) = 1 ∧ thM s (b : Nat) = 1 then fo (fun w h => mx h (owM s a b w)) 5 H else H := by
        unfold wyD
        rw [show (6 * a + b) / 6 = a by omega, show (6 * a + b) % 6 = b by omega]
      rw [e] at nx
      clear ih ihb hQ
      have no : ¬ (thM s (a : Nat) = 1 ∧ thM s (b : Nat) = 1) → WP G k_Cp_mixWays 80 [some (vR B), some (vL h), none, some (vL H), none, some (vI (a : Nat)), some (vI (b : Nat)), z7] [] S Q := by
        intro c
        rw [if_neg (fun z => c z.2)] at nx
        have nx' := nx S z7 h7 hS fS
        clear nx
        simp only [e_Cp_mixWays_80, e_Cp_mixWays_83, kR_l, kR_r, kP_0, kP_i, kP_r, kP_n, kP_s, kP_o, kLen_I, kLen_L, kLen_R, kLdI_0, kLdI_1, kLdI_2, kLdI_3, kStI_0, kStI_1, kLdL_e, kStL_e, kLdR_e, kStR_e, kFld_e, kNth_0, kNth_s, kPut_e, fit_I, fit_Z, fit_B, fit_C, fit_A, fit_O, Option.toList_some, Option.toList_none, List.cons_append, List.nil_append, true_and, and_true, List.set_cons_zero, List.set_cons_succ, st_same, Int.toNat_natCast, Int.cast_ofNat_Int, Nat.zero_add, Nat.reduceAdd, kRcv_1, kRcv_2, kRcv_3, kRcv_0, kRcv_4, kRcv_5]
        all_goals ((repeat' (first | with_reducible refine And.intro ?_ ?_ | intro _)) <;> first | with_reducible assumption | exact True.intro | with_reducible exact nx' | omega | (simp only [inR] at *; omega) | exact nx' | with_reducible rfl | rfl | (simp; done) | (exfalso; simp_all; done) | skip)
      rw [e_Cp_mixWays_18]
      simp only [e_Cp_mixWays_20, e_Cp_mixWays_22, e_Cp_mixWays_25, e_Cp_mixWays_26, e_Cp_mixWays_29, e_Cp_mixWays_31, kR_l, kR_r, kP_0, kP_i, kP_r, kP_n, kP_s, kP_o, kLen_I, kLen_L, kLen_R, kLdI_0, kLdI_1, kLdI_2, kLdI_3, kStI_0, kStI_1, kLdL_e, kStL_e, kLdR_e, kStR_e, kFld_e, kNth_0, kNth_s, kPut_e, fit_I, fit_Z, fit_B, fit_C, fit_A, fit_O, Option.toList_some, Option.toList_none, List.cons_append, List.nil_append, true_and, and_true, List.set_cons_zero, List.set_cons_succ, st_same, Int.toNat_natCast, Int.cast_ofNat_Int, Nat.zero_add, Nat.reduceAdd, kRcv_1, kRcv_2, kRcv_3, kRcv_0, kRcv_4, kRcv_5, hB, hS.2.1.1]
      refine ⟨⟨by unfold inR; omega, by unfold inR; omega⟩, (fun h => by first | exact absurd h (by omega) | exact absurd trivial h | (exfalso; simp_all; done)), fun _ => ?_⟩
      rw [hasC_R hS hI (by unfold inR; omega)]
      simp only [e_Cp_mixWays_34, e_Cp_mixWays_37, e_Cp_mixWays_38, e_Cp_mixWays_41, e_Cp_mixWays_43, kR_l, kR_r, kP_0, kP_i, kP_r, kP_n, kP_s, kP_o, kLen_I, kLen_L, kLen_R, kLdI_0, kLdI_1, kLdI_2, kLdI_3, kStI_0, kStI_1, kLdL_e, kStL_e, kLdR_e, kStR_e, kFld_e, kNth_0, kNth_s, kPut_e, fit_I, fit_Z, fit_B, fit_C, fit_A, fit_O, Option.toList_some, Option.toList_none, List.cons_append, List.nil_append, true_and, and_true, List.set_cons_zero, List.set_cons_succ, st_same, Int.toNat_natCast, Int.cast_ofNat_Int, Nat.zero_add, Nat.reduceAdd, kRcv_1, kRcv_2, kRcv_3, kRcv_0, kRcv_4, kRcv_5, hB, hS.2.1.1]
      refine ⟨by unfold inR; omega, fun c => no (by omega), fun c1 => ?_⟩
      rw [hasC_R hS hI (by unfold inR; omega)]
      simp only [e_Cp_mixWays_46, e_Cp_mixWays_49, e_Cp_mixWays_50, kR_l, kR_r, kP_0, kP_i, kP_r, kP_n, kP_s, kP_o, kLen_I, kLen_L, kLen_R, kLdI_0, kLdI_1, kLdI_2, kLdI_3, kStI_0, kStI_1, kLdL_e, kStL_e, kLdR_e, kStR_e, kFld_e, kNth_0, kNth_s, kPut_e, fit_I, fit_Z, fit_B, fit_C, fit_A, fit_O, Option.toList_some, Option.toList_none, List.cons_append, List.nil_append, true_and, and_true, List.set_cons_zero, List.set_cons_succ, st_same, Int.toNat_natCast, Int.cast_ofNat_Int, Nat.zero_add, Nat.reduceAdd, kRcv_1, kRcv_2, kRcv_3, kRcv_0, kRcv_4, kRcv_5]
      refine ⟨by unfold inR; omega, fun c => no (by omega), fun c2 => ?_⟩
      rw [if_pos ⟨by omega, by omega, by omega⟩] at nx
      have hmay : mayM s (a : Nat) (b : Nat) 1 = 0 := by
        unfold mayM
        rw [if_neg (by omega), if_neg (by omega)]
      clear no
      refine up (fun w => ∀ (S : AS), ClsI G S B s kp p n t → FrB B (B + 46) σ S → WP G k_Cp_mixWays 52 [some (vR B), some (vL h), none, some (vL (fo (fun w h => mx h (owM s a b w)) w H)), none, some (vI (a : Nat)), some (vI (b : Nat)), some (vI (w : Nat))] [] S Q) (n := 5) ?_ ?_ S hS fS
      · intro w hw ihw S hS fS
        have hB : S.1 B = _ := hS.1
        have ihw' := fun S a b => ihw S a b
        rw [fo_s] at ihw'
        generalize fo (fun w h => mx h (owM s a b w)) w H = H2 at *
        clear nx ihw
        rw [e_Cp_mixWays_52]
        simp only [e_Cp_mixWays_54, e_Cp_mixWays_55, e_Cp_mixWays_58, e_Cp_mixWays_59, e_Cp_mixWays_60, e_Cp_mixWays_62, e_Cp_mixWays_64, e_Cp_mixWays_66, kR_l, kR_r, kP_0, kP_i, kP_r, kP_n, kP_s, kP_o, kLen_I, kLen_L, kLen_R, kLdI_0, kLdI_1, kLdI_2, kLdI_3, kStI_0, kStI_1, kLdL_e, kStL_e, kLdR_e, kStR_e, kFld_e, kNth_0, kNth_s, kPut_e, fit_I, fit_Z, fit_B, fit_C, fit_A, fit_O, Option.toList_some, Option.toList_none, List.cons_append, List.nil_append, true_and, and_true, List.set_cons_zero, List.set_cons_succ, st_same, Int.toNat_natCast, Int.cast_ofNat_Int, Nat.zero_add, Nat.reduceAdd, kRcv_1, kRcv_2, kRcv_3, kRcv_0, kRcv_4, kRcv_5, hB]
        refine ⟨⟨by unfold inR; omega, by unfold inR; omega⟩, (fun h => by first | exact absurd h (by omega) | exact absurd trivial h | (exfalso; simp_all; done)), fun _ => ?_⟩
        refine o_way0 hS hI hG ha hb hw hmay (fun S2 hS2 f2 => ?_)
        have nx' := ihw' S2 hS2 (fS.trans f2)
        clear ihw'
        simp only [e_Cp_mixWays_69, e_Cp_mixWays_70, kR_l, kR_r, kP_0, kP_i, kP_r, kP_n, kP_s, kP_o, kLen_I, kLen_L, kLen_R, kLdI_0, kLdI_1, kLdI_2, kLdI_3, kStI_0, kStI_1, kLdL_e, kStL_e, kLdR_e, kStR_e, kFld_e, kNth_0, kNth_s, kPut_e, fit_I, fit_Z, fit_B, fit_C, fit_A, fit_O, Option.toList_some, Option.toList_none, List.cons_append, List.nil_append, true_and, and_true, List.set_cons_zero, List.set_cons_succ, st_same, Int.toNat_natCast, Int.cast_ofNat_Int, Nat.zero_add, Nat.reduceAdd, kRcv_1, kRcv_2, kRcv_3, kRcv_0, kRcv_4, kRcv_5]
        rw [s_mixI]
        simp only [e_Cp_mixWays_73, e_Cp_mixWays_74, e_Cp_mixWays_77, kR_l, kR_r, kP_0, kP_i, kP_r, kP_n, kP_s, kP_o, kLen_I, kLen_L, kLen_R, kLdI_0, kLdI_1, kLdI_2, kLdI_3, kStI_0, kStI_1, kLdL_e, kStL_e, kLdR_e, kStR_e, kFld_e, kNth_0, kNth_s, kPut_e, fit_I, fit_Z, fit_B, fit_C, fit_A, fit_O, Option.toList_some, Option.toList_none, List.cons_append, List.nil_append, true_and, and_true, List.set_cons_zero, List.set_cons_succ, st_same, Int.toNat_natCast, Int.cast_ofNat_Int, Nat.zero_add, Nat.reduceAdd, kRcv_1, kRcv_2, kRcv_3, kRcv_0, kRcv_4, kRcv_5]
        all_goals ((repeat' (first | with_reducible refine And.intro ?_ ?_ | intro _)) <;> first | with_reducible assumption | exact True.intro | with_reducible exact nx' | omega | (simp only [inR] at *; omega) | exact nx' | with_reducible rfl | rfl | (simp; done) | (exfalso; simp_all; done) | skip)
      · intro S hS fS
        have nx' := nx S _ (zI_s ((5 : Nat) : Int)) hS fS
        clear nx
        rw [e_Cp_mixWays_52]
        simp only [e_Cp_mixWays_54, e_Cp_mixWays_55, e_Cp_mixWays_80, e_Cp_mixWays_83, kR_l, kR_r, kP_0, kP_i, kP_r, kP_n, kP_s, kP_o, kLen_I, kLen_L, kLen_R, kLdI_0, kLdI_1, kLdI_2, kLdI_3, kStI_0, kStI_1, kLdL_e, kStL_e, kLdR_e, kStR_e, kFld_e, kNth_0, kNth_s, kPut_e, fit_I, fit_Z, fit_B, fit_C, fit_A, fit_O, Option.toList_some, Option.toList_none, List.cons_append, List.nil_append, true_and, and_true, List.set_cons_zero, List.set_cons_succ, st_same, Int.toNat_natCast, Int.cast_ofNat_Int, Nat.zero_add, Nat.reduceAdd, kRcv_1, kRcv_2, kRcv_3, kRcv_0, kRcv_4, kRcv_5]
        refine ⟨⟨by unfold inR; omega, by unfold inR; omega⟩, fun _ => nx', (fun h => by first | exact absurd h (by omega) | exact absurd trivial h | (exfalso; simp_all; done))⟩
    · intro S z7 h7 hS fS
      have nx := ih S _ z7 (zI_s ((6 : Nat) : Int)) h7 hS fS
      rw [show 6 * (a + 1) = 6 * a + 6 by omega] at nx
      clear ih hQ
      rw [e_Cp_mixWays_18]
      simp only [e_Cp_mixWays_20, e_Cp_mixWays_22, e_Cp_mixWays_86, e_Cp_mixWays_89, kR_l, kR_r, kP_0, kP_i, kP_r, kP_n, kP_s, kP_o, kLen_I, kLen_L, kLen_R, kLdI_0, kLdI_1, kLdI_2, kLdI_3, kStI_0, kStI_1, kLdL_e, kStL_e, kLdR_e, kStR_e, kFld_e, kNth_0, kNth_s, kPut_e, fit_I, fit_Z, fit_B, fit_C, fit_A, fit_O, Option.toList_some, Option.toList_none, List.cons_append, List.nil_append, true_and, and_true, List.set_cons_zero, List.set_cons_succ, st_same, Int.toNat_natCast, Int.cast_ofNat_Int, Nat.zero_add, Nat.reduceAdd, kRcv_1, kRcv_2, kRcv_3, kRcv_0, kRcv_4, kRcv_5]
      refine ⟨⟨by unfold inR; omega, by unfold inR; omega⟩, fun _ => nx, (fun h => by first | exact absurd h (by omega) | exact absurd trivial h | (exfalso; simp_all; done))⟩
  · intro S z6 z7 h6 h7 hS fS
    have hq := hQ S hS fS
    clear hQ
    rw [e_Cp_mixWays_5]
    simp only [e_Cp_mixWays_7, e_Cp_mixWays_9, e_Cp_mixWays_92, e_Cp_mixWays_93, kR_l, kR_r, kP_0, kP_i, kP_r, kP_n, kP_s, kP_o, kLen_I, kLen_L, kLen_R, kLdI_0, kLdI_1, kLdI_2, kLdI_3, kStI_0, kStI_1, kLdL_e, kStL_e, kLdR_e, kStR_e, kFld_e, kNth_0, kNth_s, kPut_e, fit_I, fit_Z, fit_B, fit_C, fit_A, fit_O, Option.toList_some, Option.toList_none, List.cons_append, List.nil_append, true_and, and_true, List.set_cons_zero, List.set_cons_succ, st_same, Int.toNat_natCast, Int.cast_ofNat_Int, Nat.zero_add, Nat.reduceAdd, kRcv_1, kRcv_2, kRcv_3, kRcv_0, kRcv_4, kRcv_5]
    refine ⟨⟨by unfold inR; omega, by unfold inR; omega⟩, fun _ => hq, (fun h => by first | exact absurd h (by omega) | exact absurd trivial h | (exfalso; simp_all; done))⟩
theorem o_mixBuffer {h : Int64} (hC : ClsI G σ B s kp p n t) (hI : GdI s kp p n t) : CW G k_Cp_mixBuffer [vR B, vL h] σ Q = Q (.inl (some (vL (fo (fun k h => mx h (t k)) n (mx h (n : Nat)))))) σ := by
  refine CW.det' fun R hR => ?_
  have hB : σ.1 B = _ := hC.1
  have hn := hI.2.2.2.1
  obtain ⟨⟨a, b, d, w, hO⟩, hc⟩ := hC.2.2.2.2.1
  have hr := oOr_rc (σ := σ) (O := B + 35) (n := n) (a := a) (b := b) (d := d) (w := w)
  rw [st_id σ _ _ hO] at hr
  simp only [c_Cp_mixBuffer, e_Cp_mixBuffer_0, e_Cp_mixBuffer_1, e_Cp_mixBuffer_2, e_Cp_mixBuffer_5, kR_l, kR_r, kP_0, kP_i, kP_r, kP_n, kP_s, kP_o, kLen_I, kLen_L, kLen_R, kLdI_0, kLdI_1, kLdI_2, kLdI_3, kStI_0, kStI_1, kLdL_e, kStL_e, kLdR_e, kStR_e, kFld_e, kNth_0, kNth_s, kPut_e, fit_I, fit_Z, fit_B, fit_C, fit_A, fit_O, Option.toList_some, Option.toList_none, List.cons_append, List.nil_append, true_and, and_true, List.set_cons_zero, List.set_cons_succ, st_same, Int.toNat_natCast, Int.cast_ofNat_Int, Nat.zero_add, Nat.reduceAdd, kRcv_1, kRcv_2, kRcv_3, kRcv_0, kRcv_4, kRcv_5, hB, hr]
  rw [s_len hO]
  simp only [e_Cp_mixBuffer_8, e_Cp_mixBuffer_9, kR_l, kR_r, kP_0, kP_i, kP_r, kP_n, kP_s, kP_o, kLen_I, kLen_L, kLen_R, kLdI_0, kLdI_1, kLdI_2, kLdI_3, kStI_0, kStI_1, kLdL_e, kStL_e, kLdR_e, kStR_e, kFld_e, kNth_0, kNth_s, kPut_e, fit_I, fit_Z, fit_B, fit_C, fit_A, fit_O, Option.toList_some, Option.toList_none, List.cons_append, List.nil_append, true_and, and_true, List.set_cons_zero, List.set_cons_succ, st_same, Int.toNat_natCast, Int.cast_ofNat_Int, Nat.zero_add, Nat.reduceAdd, kRcv_1, kRcv_2, kRcv_3, kRcv_0, kRcv_4, kRcv_5]
  rw [s_mixI]
  simp only [e_Cp_mixBuffer_12, e_Cp_mixBuffer_13, e_Cp_mixBuffer_14, kR_l, kR_r, kP_0, kP_i, kP_r, kP_n, kP_s, kP_o, kLen_I, kLen_L, kLen_R, kLdI_0, kLdI_1, kLdI_2, kLdI_3, kStI_0, kStI_1, kLdL_e, kStL_e, kLdR_e, kStR_e, kFld_e, kNth_0, kNth_s, kPut_e, fit_I, fit_Z, fit_B, fit_C, fit_A, fit_O, Option.toList_some, Option.toList_none, List.cons_append, List.nil_append, true_and, and_true, List.set_cons_zero, List.set_cons_succ, st_same, Int.toNat_natCast, Int.cast_ofNat_Int, Nat.zero_add, Nat.reduceAdd, kRcv_1, kRcv_2, kRcv_3, kRcv_0, kRcv_4, kRcv_5]
  refine up (fun k => WP G k_Cp_mixBuffer 16 [some (vR B), some (vL h), none, some (vL (fo (fun k h => mx h (t k)) k (mx h (n : Nat)))), none, some (vI (k : Nat))] [] σ R) (n := n) ?_ ?_
  · intro k hk ih
    rw [fo_s] at ih
    generalize fo (fun k h => mx h (t k)) k (mx h (n : Nat)) = H at *
    have e : cA t n k = t k := if_pos hk
    rw [e_Cp_mixBuffer_16]
    simp only [e_Cp_mixBuffer_18, e_Cp_mixBuffer_19, e_Cp_mixBuffer_22, kR_l, kR_r, kP_0, kP_i, kP_r, kP_n, kP_s, kP_o, kLen_I, kLen_L, kLen_R, kLdI_0, kLdI_1, kLdI_2, kLdI_3, kStI_0, kStI_1, kLdL_e, kStL_e, kLdR_e, kStR_e, kFld_e, kNth_0, kNth_s, kPut_e, fit_I, fit_Z, fit_B, fit_C, fit_A, fit_O, Option.toList_some, Option.toList_none, List.cons_append, List.nil_append, true_and, and_true, List.set_cons_zero, List.set_cons_succ, st_same, Int.toNat_natCast, Int.cast_ofNat_Int, Nat.zero_add, Nat.reduceAdd, kRcv_1, kRcv_2, kRcv_3, kRcv_0, kRcv_4, kRcv_5, hB, hr]
    rw [s_len hO]
    simp only [e_Cp_mixBuffer_25, e_Cp_mixBuffer_28, e_Cp_mixBuffer_29, e_Cp_mixBuffer_30, e_Cp_mixBuffer_33, e_Cp_mixBuffer_35, kR_l, kR_r, kP_0, kP_i, kP_r, kP_n, kP_s, kP_o, kLen_I, kLen_L, kLen_R, kLdI_0, kLdI_1, kLdI_2, kLdI_3, kStI_0, kStI_1, kLdL_e, kStL_e, kLdR_e, kStR_e, kFld_e, kNth_0, kNth_s, kPut_e, fit_I, fit_Z, fit_B, fit_C, fit_A, fit_O, Option.toList_some, Option.toList_none, List.cons_append, List.nil_append, true_and, and_true, List.set_cons_zero, List.set_cons_succ, st_same, Int.toNat_natCast, Int.cast_ofNat_Int, Nat.zero_add, Nat.reduceAdd, kRcv_1, kRcv_2, kRcv_3, kRcv_0, kRcv_4, kRcv_5, hB, hr]
    refine ⟨⟨by unfold inR; omega, by unfold inR; omega⟩, fun z => absurd z (by omega), fun _ => ?_⟩
    rw [s_codeAt hO hc hn (by omega), e]
    simp only [e_Cp_mixBuffer_38, e_Cp_mixBuffer_39, kR_l, kR_r, kP_0, kP_i, kP_r, kP_n, kP_s, kP_o, kLen_I, kLen_L, kLen_R, kLdI_0, kLdI_1, kLdI_2, kLdI_3, kStI_0, kStI_1, kLdL_e, kStL_e, kLdR_e, kStR_e, kFld_e, kNth_0, kNth_s, kPut_e, fit_I, fit_Z, fit_B, fit_C, fit_A, fit_O, Option.toList_some, Option.toList_none, List.cons_append, List.nil_append, true_and, and_true, List.set_cons_zero, List.set_cons_succ, st_same, Int.toNat_natCast, Int.cast_ofNat_Int, Nat.zero_add, Nat.reduceAdd, kRcv_1, kRcv_2, kRcv_3, kRcv_0, kRcv_4, kRcv_5]
    rw [s_mixI]
    simp only [e_Cp_mixBuffer_42, e_Cp_mixBuffer_43, e_Cp_mixBuffer_46, kR_l, kR_r, kP_0, kP_i, kP_r, kP_n, kP_s, kP_o, kLen_I, kLen_L, kLen_R, kLdI_0, kLdI_1, kLdI_2, kLdI_3, kStI_0, kStI_1, kLdL_e, kStL_e, kLdR_e, kStR_e, kFld_e, kNth_0, kNth_s, kPut_e, fit_I, fit_Z, fit_B, fit_C, fit_A, fit_O, Option.toList_some, Option.toList_none, List.cons_append, List.nil_append, true_and, and_true, List.set_cons_zero, List.set_cons_succ, st_same, Int.toNat_natCast, Int.cast_ofNat_Int, Nat.zero_add, Nat.reduceAdd, kRcv_1, kRcv_2, kRcv_3, kRcv_0, kRcv_4, kRcv_5]
    all_goals ((repeat' (first | with_reducible refine And.intro ?_ ?_ | intro _)) <;> first | with_reducible assumption | exact True.intro | with_reducible exact ih | omega | (simp only [inR] at *; omega) | exact ih | with_reducible rfl | rfl | (simp; done) | (exfalso; simp_all; done) | skip)
  · rw [e_Cp_mixBuffer_16]
    simp only [e_Cp_mixBuffer_18, e_Cp_mixBuffer_19, e_Cp_mixBuffer_22, kR_l, kR_r, kP_0, kP_i, kP_r, kP_n, kP_s, kP_o, kLen_I, kLen_L, kLen_R, kLdI_0, kLdI_1, kLdI_2, kLdI_3, kStI_0, kStI_1, kLdL_e, kStL_e, kLdR_e, kStR_e, kFld_e, kNth_0, kNth_s, kPut_e, fit_I, fit_Z, fit_B, fit_C, fit_A, fit_O, Option.toList_some, Option.toList_none, List.cons_append, List.nil_append, true_and, and_true, List.set_cons_zero, List.set_cons_succ, st_same, Int.toNat_natCast, Int.cast_ofNat_Int, Nat.zero_add, Nat.reduceAdd, kRcv_1, kRcv_2, kRcv_3, kRcv_0, kRcv_4, kRcv_5, hB, hr]
    rw [s_len hO]
    simp only [e_Cp_mixBuffer_25, e_Cp_mixBuffer_49, e_Cp_mixBuffer_50, kR_l, kR_r, kP_0, kP_i, kP_r, kP_n, kP_s, kP_o, kLen_I, kLen_L, kLen_R, kLdI_0, kLdI_1, kLdI_2, kLdI_3, kStI_0, kStI_1, kLdL_e, kStL_e, kLdR_e, kStR_e, kFld_e, kNth_0, kNth_s, kPut_e, fit_I, fit_Z, fit_B, fit_C, fit_A, fit_O, Option.toList_some, Option.toList_none, List.cons_append, List.nil_append, true_and, and_true, List.set_cons_zero, List.set_cons_succ, st_same, Int.toNat_natCast, Int.cast_ofNat_Int, Nat.zero_add, Nat.reduceAdd, kRcv_1, kRcv_2, kRcv_3, kRcv_0, kRcv_4, kRcv_5]
    refine ⟨⟨by unfold inR; omega, by unfold inR; omega⟩, fun _ => hR, fun z => absurd (by omega) z⟩
theorem dig_fin {H : Int64} {z : Option AV} (hC : ClsI G σ B s kp p n t) (hI : GdI s kp p n t) (hG : G 0 ≤ B)
    (hQ : ∀ σ' : AS, ClsI G σ' B s kp p n t → FrB B (B + 46) σ σ' → Q (.inl (some (vL (digE s n t H)))) σ') :
    WP G k_Cp_digest 112 [some (vR B), some (vL H), none, z] [] σ Q := by
  have hB : σ.1 B = _ := hC.1
  unfold digE at hQ
  simp only [e_Cp_digest_112, e_Cp_digest_113, e_Cp_digest_114, kR_l, kR_r, kP_0, kP_i, kP_r, kP_n, kP_s, kP_o, kLen_I, kLen_L, kLen_R, kLdI_0, kLdI_1, kLdI_2, kLdI_3, kStI_0, kStI_1, kLdL_e, kStL_e, kLdR_e, kStR_e, kFld_e, kNth_0, kNth_s, kPut_e, fit_I, fit_Z, fit_B, fit_C, fit_A, fit_O, Option.toList_some, Option.toList_none, List.cons_append, List.nil_append, true_and, and_true, List.set_cons_zero, List.set_cons_succ, st_same, Int.toNat_natCast, Int.cast_ofNat_Int, Nat.zero_add, Nat.reduceAdd, kRcv_1, kRcv_2, kRcv_3, kRcv_0, kRcv_4, kRcv_5, hB]
  refine o_allCost hC hI hG (fun S2 hS2 f2 => ?_)
  have hB2 : S2.1 B = _ := hS2.1
  simp only [e_Cp_digest_117, e_Cp_digest_118, kR_l, kR_r, kP_0, kP_i, kP_r, kP_n, kP_s, kP_o, kLen_I, kLen_L, kLen_R, kLdI_0, kLdI_1, kLdI_2, kLdI_3, kStI_0, kStI_1, kLdL_e, kStL_e, kLdR_e, kStR_e, kFld_e, kNth_0, kNth_s, kPut_e, fit_I, fit_Z, fit_B, fit_C, fit_A, fit_O, Option.toList_some, Option.toList_none, List.cons_append, List.nil_append, true_and, and_true, List.set_cons_zero, List.set_cons_succ, st_same, Int.toNat_natCast, Int.cast_ofNat_Int, Nat.zero_add, Nat.reduceAdd, kRcv_1, kRcv_2, kRcv_3, kRcv_0, kRcv_4, kRcv_5]
  rw [s_mixI]
  simp only [e_Cp_digest_121, e_Cp_digest_122, e_Cp_digest_123, e_Cp_digest_124, kR_l, kR_r, kP_0, kP_i, kP_r, kP_n, kP_s, kP_o, kLen_I, kLen_L, kLen_R, kLdI_0, kLdI_1, kLdI_2, kLdI_3, kStI_0, kStI_1, kLdL_e, kStL_e, kLdR_e, kStR_e, kFld_e, kNth_0, kNth_s, kPut_e, fit_I, fit_Z, fit_B, fit_C, fit_A, fit_O, Option.toList_some, Option.toList_none, List.cons_append, List.nil_append, true_and, and_true, List.set_cons_zero, List.set_cons_succ, st_same, Int.toNat_natCast, Int.cast_ofNat_Int, Nat.zero_add, Nat.reduceAdd, kRcv_1, kRcv_2, kRcv_3, kRcv_0, kRcv_4, kRcv_5, hB2]
  refine o_openShare hS2 hI hG (fun S3 hS3 f3 => ?_)
  have hB3 : S3.1 B = _ := hS3.1
  simp only [e_Cp_digest_127, kR_l, kR_r, kP_0, kP_i, kP_r, kP_n, kP_s, kP_o, kLen_I, kLen_L, kLen_R, kLdI_0, kLdI_1, kLdI_2, kLdI_3, kStI_0, kStI_1, kLdL_e, kStL_e, kLdR_e, kStR_e, kFld_e, kNth_0, kNth_s, kPut_e, fit_I, fit_Z, fit_B, fit_C, fit_A, fit_O, Option.toList_some, Option.toList_none, List.cons_append, List.nil_append, true_and, and_true, List.set_cons_zero, List.set_cons_succ, st_same, Int.toNat_natCast, Int.cast_ofNat_Int, Nat.zero_add, Nat.reduceAdd, kRcv_1, kRcv_2, kRcv_3, kRcv_0, kRcv_4, kRcv_5]
  rw [s_bits (sh_bos hI.1.wk)]
  simp only [e_Cp_digest_130, kR_l, kR_r, kP_0, kP_i, kP_r, kP_n, kP_s, kP_o, kLen_I, kLen_L, kLen_R, kLdI_0, kLdI_1, kLdI_2, kLdI_3, kStI_0, kStI_1, kLdL_e, kStL_e, kLdR_e, kStR_e, kFld_e, kNth_0, kNth_s, kPut_e, fit_I, fit_Z, fit_B, fit_C, fit_A, fit_O, Option.toList_some, Option.toList_none, List.cons_append, List.nil_append, true_and, and_true, List.set_cons_zero, List.set_cons_succ, st_same, Int.toNat_natCast, Int.cast_ofNat_Int, Nat.zero_add, Nat.reduceAdd, kRcv_1, kRcv_2, kRcv_3, kRcv_0, kRcv_4, kRcv_5]
  rw [s_mix]
  simp only [e_Cp_digest_133, e_Cp_digest_134, e_Cp_digest_135, e_Cp_digest_136, kR_l, kR_r, kP_0, kP_i, kP_r, kP_n, kP_s, kP_o, kLen_I, kLen_L, kLen_R, kLdI_0, kLdI_1, kLdI_2, kLdI_3, kStI_0, kStI_1, kLdL_e, kStL_e, kLdR_e, kStR_e, kFld_e, kNth_0, kNth_s, kPut_e, fit_I, fit_Z, fit_B, fit_C, fit_A, fit_O, Option.toList_some, Option.toList_none, List.cons_append, List.nil_append, true_and, and_true, List.set_cons_zero, List.set_cons_succ, st_same, Int.toNat_natCast, Int.cast_ofNat_Int, Nat.zero_add, Nat.reduceAdd, kRcv_1, kRcv_2, kRcv_3, kRcv_0, kRcv_4, kRcv_5, hB3]
  rw [o_mixBuffer hS3 hI]
  simp only [e_Cp_digest_139, kR_l, kR_r, kP_0, kP_i, kP_r, kP_n, kP_s, kP_o, kLen_I, kLen_L, kLen_R, kLdI_0, kLdI_1, kLdI_2, kLdI_3, kStI_0, kStI_1, kLdL_e, kStL_e, kLdR_e, kStR_e, kFld_e, kNth_0, kNth_s, kPut_e, fit_I, fit_Z, fit_B, fit_C, fit_A, fit_O, Option.toList_some, Option.toList_none, List.cons_append, List.nil_append, true_and, and_true, List.set_cons_zero, List.set_cons_succ, st_same, Int.toNat_natCast, Int.cast_ofNat_Int, Nat.zero_add, Nat.reduceAdd, kRcv_1, kRcv_2, kRcv_3, kRcv_0, kRcv_4, kRcv_5]
  exact hQ S3 hS3 (f2.trans f3)
theorem dig_low {H : Int64} {z : Option AV} (hC : ClsI G σ B s kp p n t) (hI : GdI s kp p n t) (hG : G 0 ≤ B)
    (hQ : ∀ σ' : AS, ClsI G σ' B s kp p n t → FrB B (B + 46) σ σ' → Q (.inl (some (vL (digE s n t (digD s H))))) σ') :
    WP G k_Cp_digest 88 [some (vR B), some (vL H), none, z] [] σ Q := by
  have hB : σ.1 B = _ := hC.1
  have hlow := fun r => low_th (s := s) (r := r)
  have hlb : -1 ≤ lowM s ∧ lowM s < 6 := by
    have := firstB_bd (fun r => thM s r) 6 0
    unfold lowM
    omega
  unfold digD at hQ
  simp only [e_Cp_digest_88, e_Cp_digest_89, e_Cp_digest_92, kR_l, kR_r, kP_0, kP_i, kP_r, kP_n, kP_s, kP_o, kLen_I, kLen_L, kLen_R, kLdI_0, kLdI_1, kLdI_2, kLdI_3, kStI_0, kStI_1, kLdL_e, kStL_e, kLdR_e, kStR_e, kFld_e, kNth_0, kNth_s, kPut_e, fit_I, fit_Z, fit_B, fit_C, fit_A, fit_O, Option.toList_some, Option.toList_none, List.cons_append, List.nil_append, true_and, and_true, List.set_cons_zero, List.set_cons_succ, st_same, Int.toNat_natCast, Int.cast_ofNat_Int, Nat.zero_add, Nat.reduceAdd, kRcv_1, kRcv_2, kRcv_3, kRcv_0, kRcv_4, kRcv_5, hB, hC.2.1.1]
  rw [s_Plan_lowestChamber hC.2.1 hI.1.bx, low_eq]
  simp only [e_Cp_digest_95, e_Cp_digest_96, e_Cp_digest_97, e_Cp_digest_98, kR_l, kR_r, kP_0, kP_i, kP_r, kP_n, kP_s, kP_o, kLen_I, kLen_L, kLen_R, kLdI_0, kLdI_1, kLdI_2, kLdI_3, kStI_0, kStI_1, kLdL_e, kStL_e, kLdR_e, kStR_e, kFld_e, kNth_0, kNth_s, kPut_e, fit_I, fit_Z, fit_B, fit_C, fit_A, fit_O, Option.toList_some, Option.toList_none, List.cons_append, List.nil_append, true_and, and_true, List.set_cons_zero, List.set_cons_succ, st_same, Int.toNat_natCast, Int.cast_ofNat_Int, Nat.zero_add, Nat.reduceAdd, kRcv_1, kRcv_2, kRcv_3, kRcv_0, kRcv_4, kRcv_5]
  refine ⟨⟨by unfold inR; omega, by unfold inR; omega⟩, fun c => ?_, fun c => ?_⟩
  · rw [if_pos c] at hQ
    exact dig_fin hC hI hG hQ
  · rw [if_neg c] at hQ
    obtain ⟨r, hr⟩ : ∃ r : Nat, lowM s = r := ⟨(lowM s).toNat, by omega⟩
    have hl := hlow r hr
    rw [hr, Int.toNat_natCast] at hQ
    rw [hr]
    simp only [e_Cp_digest_101, e_Cp_digest_102, e_Cp_digest_103, e_Cp_digest_104, kR_l, kR_r, kP_0, kP_i, kP_r, kP_n, kP_s, kP_o, kLen_I, kLen_L, kLen_R, kLdI_0, kLdI_1, kLdI_2, kLdI_3, kStI_0, kStI_1, kLdL_e, kStL_e, kLdR_e, kStR_e, kFld_e, kNth_0, kNth_s, kPut_e, fit_I, fit_Z, fit_B, fit_C, fit_A, fit_O, Option.toList_some, Option.toList_none, List.cons_append, List.nil_append, true_and, and_true, List.set_cons_zero, List.set_cons_succ, st_same, Int.toNat_natCast, Int.cast_ofNat_Int, Nat.zero_add, Nat.reduceAdd, kRcv_1, kRcv_2, kRcv_3, kRcv_0, kRcv_4, kRcv_5, hB]
    refine o_ifGiven0 hC hI hG hl.1 hl.2 (fun S2 hS2 f2 => ?_)
    simp only [e_Cp_digest_107, e_Cp_digest_108, kR_l, kR_r, kP_0, kP_i, kP_r, kP_n, kP_s, kP_o, kLen_I, kLen_L, kLen_R, kLdI_0, kLdI_1, kLdI_2, kLdI_3, kStI_0, kStI_1, kLdL_e, kStL_e, kLdR_e, kStR_e, kFld_e, kNth_0, kNth_s, kPut_e, fit_I, fit_Z, fit_B, fit_C, fit_A, fit_O, Option.toList_some, Option.toList_none, List.cons_append, List.nil_append, true_and, and_true, List.set_cons_zero, List.set_cons_succ, st_same, Int.toNat_natCast, Int.cast_ofNat_Int, Nat.zero_add, Nat.reduceAdd, kRcv_1, kRcv_2, kRcv_3, kRcv_0, kRcv_4, kRcv_5]
    rw [s_mixI]
    simp only [e_Cp_digest_111, kR_l, kR_r, kP_0, kP_i, kP_r, kP_n, kP_s, kP_o, kLen_I, kLen_L, kLen_R, kLdI_0, kLdI_1, kLdI_2, kLdI_3, kStI_0, kStI_1, kLdL_e, kStL_e, kLdR_e, kStR_e, kFld_e, kNth_0, kNth_s, kPut_e, fit_I, fit_Z, fit_B, fit_C, fit_A, fit_O, Option.toList_some, Option.toList_none, List.cons_append, List.nil_append, true_and, and_true, List.set_cons_zero, List.set_cons_succ, st_same, Int.toNat_natCast, Int.cast_ofNat_Int, Nat.zero_add, Nat.reduceAdd, kRcv_1, kRcv_2, kRcv_3, kRcv_0, kRcv_4, kRcv_5]
    exact dig_fin hS2 hI hG (fun S3 hS3 f3 => hQ S3 hS3 (f2.trans f3))
theorem dig_would {far : Nat} {H : Int64} (hC : ClsI G σ B s kp p n t) (hI : GdI s kp p n t) (hG : G 0 ≤ B) (hfar : s 252 = (far : Nat))
    (hQ : ∀ σ' : AS, ClsI G σ' B s kp p n t → FrB B (B + 46) σ σ' → Q (.inl (some (vL (digE s n t (digD s (digC s far 3 H)))))) σ') :
    WP G k_Cp_digest 62 [some (vR B), some (vL H), none, some (vI 0)] [] σ Q := by
  have key := up (fun w => ∀ (S : AS), ClsI G S B s kp p n t → FrB B (B + 46) σ S → WP G k_Cp_digest 62 [some (vR B), some (vL (digC s far w H)), none, some (vI (w : Nat))] [] S Q) (n := 3) ?_ ?_
  · have k0 := key σ hC (FrB.refl _ _ _)
    rw [digC_0] at k0
    exact k0
  · intro w hw ihw S hS fS
    have hB : S.1 B = _ := hS.1
    have ihw' := fun S a b => ihw S a b
    rw [digC_s] at ihw'
    generalize digC s far w H = H6 at *
    clear ihw hQ
    rw [e_Cp_digest_62]
    simp only [e_Cp_digest_63, e_Cp_digest_64, e_Cp_digest_67, e_Cp_digest_68, e_Cp_digest_69, e_Cp_digest_71, e_Cp_digest_73, e_Cp_digest_74, kR_l, kR_r, kP_0, kP_i, kP_r, kP_n, kP_s, kP_o, kLen_I, kLen_L, kLen_R, kLdI_0, kLdI_1, kLdI_2, kLdI_3, kStI_0, kStI_1, kLdL_e, kStL_e, kLdR_e, kStR_e, kFld_e, kNth_0, kNth_s, kPut_e, fit_I, fit_Z, fit_B, fit_C, fit_A, fit_O, Option.toList_some, Option.toList_none, List.cons_append, List.nil_append, true_and, and_true, List.set_cons_zero, List.set_cons_succ, st_same, Int.toNat_natCast, Int.cast_ofNat_Int, Nat.zero_add, Nat.reduceAdd, kRcv_1, kRcv_2, kRcv_3, kRcv_0, kRcv_4, kRcv_5, hB]
    refine ⟨⟨by unfold inR; omega, by unfold inR; omega⟩, (fun h => by first | exact absurd h (by omega) | exact absurd trivial h | (exfalso; simp_all; done)), fun _ => ?_⟩
    refine o_ifDug0 (x := 8) (y := 6) hS hI hG hfar (by omega) (by omega) hw (fun S2 hS2 f2 => ?_)
    have nx' := ihw' S2 hS2 (fS.trans f2)
    clear ihw'
    simp only [e_Cp_digest_77, e_Cp_digest_78, kR_l, kR_r, kP_0, kP_i, kP_r, kP_n, kP_s, kP_o, kLen_I, kLen_L, kLen_R, kLdI_0, kLdI_1, kLdI_2, kLdI_3, kStI_0, kStI_1, kLdL_e, kStL_e, kLdR_e, kStR_e, kFld_e, kNth_0, kNth_s, kPut_e, fit_I, fit_Z, fit_B, fit_C, fit_A, fit_O, Option.toList_some, Option.toList_none, List.cons_append, List.nil_append, true_and, and_true, List.set_cons_zero, List.set_cons_succ, st_same, Int.toNat_natCast, Int.cast_ofNat_Int, Nat.zero_add, Nat.reduceAdd, kRcv_1, kRcv_2, kRcv_3, kRcv_0, kRcv_4, kRcv_5, show 16 * 6 + 8 = 104 from rfl]
    rw [s_mixI]
    simp only [e_Cp_digest_81, e_Cp_digest_82, e_Cp_digest_85, kR_l, kR_r, kP_0, kP_i, kP_r, kP_n, kP_s, kP_o, kLen_I, kLen_L, kLen_R, kLdI_0, kLdI_1, kLdI_2, kLdI_3, kStI_0, kStI_1, kLdL_e, kStL_e, kLdR_e, kStR_e, kFld_e, kNth_0, kNth_s, kPut_e, fit_I, fit_Z, fit_B, fit_C, fit_A, fit_O, Option.toList_some, Option.toList_none, List.cons_append, List.nil_append, true_and, and_true, List.set_cons_zero, List.set_cons_succ, st_same, Int.toNat_natCast, Int.cast_ofNat_Int, Nat.zero_add, Nat.reduceAdd, kRcv_1, kRcv_2, kRcv_3, kRcv_0, kRcv_4, kRcv_5]
    all_goals ((repeat' (first | with_reducible refine And.intro ?_ ?_ | intro _)) <;> first | with_reducible assumption | exact True.intro | with_reducible exact nx' | omega | (simp only [inR] at *; omega) | exact nx' | with_reducible rfl | rfl | (simp; done) | (exfalso; simp_all; done) | skip)
  · intro S hS fS
    have fin := dig_low (σ := S) (Q := Q) (H := digC s far 3 H) (z := some (vI ((3 : Nat) : Int))) hS hI hG (fun S3 hS3 f3 => hQ S3 hS3 (fS.trans f3))
    clear hQ
    generalize digC s far 3 H = H6 at *
    rw [e_Cp_digest_62]
    simp only [e_Cp_digest_63, e_Cp_digest_64, kR_l, kR_r, kP_0, kP_i, kP_r, kP_n, kP_s, kP_o, kLen_I, kLen_L, kLen_R, kLdI_0, kLdI_1, kLdI_2, kLdI_3, kStI_0, kStI_1, kLdL_e, kStL_e, kLdR_e, kStR_e, kFld_e, kNth_0, kNth_s, kPut_e, fit_I, fit_Z, fit_B, fit_C, fit_A, fit_O, Option.toList_some, Option.toList_none, List.cons_append, List.nil_append, true_and, and_true, List.set_cons_zero, List.set_cons_succ, st_same, Int.toNat_natCast, Int.cast_ofNat_Int, Nat.zero_add, Nat.reduceAdd, kRcv_1, kRcv_2, kRcv_3, kRcv_0, kRcv_4, kRcv_5]
    refine ⟨⟨by unfold inR; omega, by unfold inR; omega⟩, fun _ => fin, (fun h => by first | exact absurd h (by omega) | exact absurd trivial h | (exfalso; simp_all; done))⟩
theorem dig_mid {far : Nat} {H : Int64} {z : Option AV} (hC : ClsI G σ B s kp p n t) (hI : GdI s kp p n t) (hG : G 0 ≤ B) (hfar : s 252 = (far : Nat))
    (hQ : ∀ σ' : AS, ClsI G σ' B s kp p n t → FrB B (B + 46) σ σ' → Q (.inl (some (vL (digE s n t (digD s (digC s far 3 (digB s far H))))))) σ') :
    WP G k_Cp_digest 29 [some (vR B), some (vL H), none, z] [] σ Q := by
  have hB : σ.1 B = _ := hC.1
  unfold digB at hQ
  simp only [e_Cp_digest_29, e_Cp_digest_30, e_Cp_digest_31, e_Cp_digest_34, kR_l, kR_r, kP_0, kP_i, kP_r, kP_n, kP_s, kP_o, kLen_I, kLen_L, kLen_R, kLdI_0, kLdI_1, kLdI_2, kLdI_3, kStI_0, kStI_1, kLdL_e, kStL_e, kLdR_e, kStR_e, kFld_e, kNth_0, kNth_s, kPut_e, fit_I, fit_Z, fit_B, fit_C, fit_A, fit_O, Option.toList_some, Option.toList_none, List.cons_append, List.nil_append, true_and, and_true, List.set_cons_zero, List.set_cons_succ, st_same, Int.toNat_natCast, Int.cast_ofNat_Int, Nat.zero_add, Nat.reduceAdd, kRcv_1, kRcv_2, kRcv_3, kRcv_0, kRcv_4, kRcv_5, hB, hC.2.1.1]
  rw [s_Plan_far hC.2.1]
  simp only [e_Cp_digest_37, e_Cp_digest_38, kR_l, kR_r, kP_0, kP_i, kP_r, kP_n, kP_s, kP_o, kLen_I, kLen_L, kLen_R, kLdI_0, kLdI_1, kLdI_2, kLdI_3, kStI_0, kStI_1, kLdL_e, kStL_e, kLdR_e, kStR_e, kFld_e, kNth_0, kNth_s, kPut_e, fit_I, fit_Z, fit_B, fit_C, fit_A, fit_O, Option.toList_some, Option.toList_none, List.cons_append, List.nil_append, true_and, and_true, List.set_cons_zero, List.set_cons_succ, st_same, Int.toNat_natCast, Int.cast_ofNat_Int, Nat.zero_add, Nat.reduceAdd, kRcv_1, kRcv_2, kRcv_3, kRcv_0, kRcv_4, kRcv_5]
  rw [s_mixI]
  simp only [e_Cp_digest_41, e_Cp_digest_42, e_Cp_digest_43, e_Cp_digest_44, kR_l, kR_r, kP_0, kP_i, kP_r, kP_n, kP_s, kP_o, kLen_I, kLen_L, kLen_R, kLdI_0, kLdI_1, kLdI_2, kLdI_3, kStI_0, kStI_1, kLdL_e, kStL_e, kLdR_e, kStR_e, kFld_e, kNth_0, kNth_s, kPut_e, fit_I, fit_Z, fit_B, fit_C, fit_A, fit_O, Option.toList_some, Option.toList_none, List.cons_append, List.nil_append, true_and, and_true, List.set_cons_zero, List.set_cons_succ, st_same, Int.toNat_natCast, Int.cast_ofNat_Int, Nat.zero_add, Nat.reduceAdd, kRcv_1, kRcv_2, kRcv_3, kRcv_0, kRcv_4, kRcv_5, hB]
  rw [o_mixSquares hC hI]
  simp only [e_Cp_digest_47, e_Cp_digest_48, e_Cp_digest_49, e_Cp_digest_50, kR_l, kR_r, kP_0, kP_i, kP_r, kP_n, kP_s, kP_o, kLen_I, kLen_L, kLen_R, kLdI_0, kLdI_1, kLdI_2, kLdI_3, kStI_0, kStI_1, kLdL_e, kStL_e, kLdR_e, kStR_e, kFld_e, kNth_0, kNth_s, kPut_e, fit_I, fit_Z, fit_B, fit_C, fit_A, fit_O, Option.toList_some, Option.toList_none, List.cons_append, List.nil_append, true_and, and_true, List.set_cons_zero, List.set_cons_succ, st_same, Int.toNat_natCast, Int.cast_ofNat_Int, Nat.zero_add, Nat.reduceAdd, kRcv_1, kRcv_2, kRcv_3, kRcv_0, kRcv_4, kRcv_5, hB]
  refine o_mixChambers hC hI hG hfar (fun S2 hS2 f2 => ?_)
  have hB2 : S2.1 B = _ := hS2.1
  simp only [e_Cp_digest_53, e_Cp_digest_54, e_Cp_digest_55, e_Cp_digest_56, kR_l, kR_r, kP_0, kP_i, kP_r, kP_n, kP_s, kP_o, kLen_I, kLen_L, kLen_R, kLdI_0, kLdI_1, kLdI_2, kLdI_3, kStI_0, kStI_1, kLdL_e, kStL_e, kLdR_e, kStR_e, kFld_e, kNth_0, kNth_s, kPut_e, fit_I, fit_Z, fit_B, fit_C, fit_A, fit_O, Option.toList_some, Option.toList_none, List.cons_append, List.nil_append, true_and, and_true, List.set_cons_zero, List.set_cons_succ, st_same, Int.toNat_natCast, Int.cast_ofNat_Int, Nat.zero_add, Nat.reduceAdd, kRcv_1, kRcv_2, kRcv_3, kRcv_0, kRcv_4, kRcv_5, hB2]
  refine o_mixWays hS2 hI hG (fun S3 hS3 f3 => ?_)
  generalize fo (wyD s) 36 (fo (rmD s far) 6 (fo (sqD s) 192 (mx H (s 252)))) = H5 at *
  have fin := dig_would (σ := S3) (Q := Q) (H := H5) hS3 hI hG hfar (fun S4 hS4 f4 => hQ S4 hS4 ((f2.trans f3).trans f4))
  clear hQ
  simp only [e_Cp_digest_59, e_Cp_digest_60, e_Cp_digest_61, kR_l, kR_r, kP_0, kP_i, kP_r, kP_n, kP_s, kP_o, kLen_I, kLen_L, kLen_R, kLdI_0, kLdI_1, kLdI_2, kLdI_3, kStI_0, kStI_1, kLdL_e, kStL_e, kLdR_e, kStR_e, kFld_e, kNth_0, kNth_s, kPut_e, fit_I, fit_Z, fit_B, fit_C, fit_A, fit_O, Option.toList_some, Option.toList_none, List.cons_append, List.nil_append, true_and, and_true, List.set_cons_zero, List.set_cons_succ, st_same, Int.toNat_natCast, Int.cast_ofNat_Int, Nat.zero_add, Nat.reduceAdd, kRcv_1, kRcv_2, kRcv_3, kRcv_0, kRcv_4, kRcv_5]
  exact fin
theorem o_digest {far : Nat} (hC : ClsI G σ B s kp p n t) (hI : GdI s kp p n t) (hG : G 0 ≤ B) (hfar : s 252 = (far : Nat))
    (hQ : ∀ σ' : AS, ClsI G σ' B s kp p n t → FrB B (B + 46) σ σ' → Q (.inl (some (vL (digM s far kp n t)))) σ') :
    CW G k_Cp_digest [vR B] σ Q := by
  unfold digM at hQ
  simp only [c_Cp_digest, e_Cp_digest_0, e_Cp_digest_3, e_Cp_digest_4, e_Cp_digest_5, kR_l, kR_r, kP_0, kP_i, kP_r, kP_n, kP_s, kP_o, kLen_I, kLen_L, kLen_R, kLdI_0, kLdI_1, kLdI_2, kLdI_3, kStI_0, kStI_1, kLdL_e, kStL_e, kLdR_e, kStR_e, kFld_e, kNth_0, kNth_s, kPut_e, fit_I, fit_Z, fit_B, fit_C, fit_A, fit_O, Option.toList_some, Option.toList_none, List.cons_append, List.nil_append, true_and, and_true, List.set_cons_zero, List.set_cons_succ, st_same, Int.toNat_natCast, Int.cast_ofNat_Int, Nat.zero_add, Nat.reduceAdd, kRcv_1, kRcv_2, kRcv_3, kRcv_0, kRcv_4, kRcv_5]
  have key := up (fun w => ∀ (S : AS), ClsI G S B s kp p n t → FrB B (B + 46) σ S → WP G k_Cp_digest 6 [some (vR B), some (vL (digA s far kp w)), none, some (vI (w : Nat))] [] S Q) (n := 9) ?_ ?_
  · have k0 := key σ hC (FrB.refl _ _ _)
    rw [digA_0] at k0
    exact k0
  · intro w hw ihw S hS fS
    have hB : S.1 B = _ := hS.1
    have ihw' := fun S a b => ihw S a b
    rw [digA_s] at ihw'
    generalize digA s far kp w = H2 at *
    clear ihw hQ
    rw [e_Cp_digest_6]
    simp only [e_Cp_digest_7, e_Cp_digest_9, e_Cp_digest_12, e_Cp_digest_13, e_Cp_digest_14, e_Cp_digest_15, kR_l, kR_r, kP_0, kP_i, kP_r, kP_n, kP_s, kP_o, kLen_I, kLen_L, kLen_R, kLdI_0, kLdI_1, kLdI_2, kLdI_3, kStI_0, kStI_1, kLdL_e, kStL_e, kLdR_e, kStR_e, kFld_e, kNth_0, kNth_s, kPut_e, fit_I, fit_Z, fit_B, fit_C, fit_A, fit_O, Option.toList_some, Option.toList_none, List.cons_append, List.nil_append, true_and, and_true, List.set_cons_zero, List.set_cons_succ, st_same, Int.toNat_natCast, Int.cast_ofNat_Int, Nat.zero_add, Nat.reduceAdd, kRcv_1, kRcv_2, kRcv_3, kRcv_0, kRcv_4, kRcv_5, hB]
    refine ⟨⟨by unfold inR; omega, by unfold inR; omega⟩, (fun h => by first | exact absurd h (by omega) | exact absurd trivial h | (exfalso; simp_all; done)), fun _ => ?_⟩
    refine o_count0 hS hI hG hfar hw (fun S2 hS2 f2 => ?_)
    have nx' := ihw' S2 hS2 (fS.trans f2)
    clear ihw'
    simp only [e_Cp_digest_18, e_Cp_digest_19, kR_l, kR_r, kP_0, kP_i, kP_r, kP_n, kP_s, kP_o, kLen_I, kLen_L, kLen_R, kLdI_0, kLdI_1, kLdI_2, kLdI_3, kStI_0, kStI_1, kLdL_e, kStL_e, kLdR_e, kStR_e, kFld_e, kNth_0, kNth_s, kPut_e, fit_I, fit_Z, fit_B, fit_C, fit_A, fit_O, Option.toList_some, Option.toList_none, List.cons_append, List.nil_append, true_and, and_true, List.set_cons_zero, List.set_cons_succ, st_same, Int.toNat_natCast, Int.cast_ofNat_Int, Nat.zero_add, Nat.reduceAdd, kRcv_1, kRcv_2, kRcv_3, kRcv_0, kRcv_4, kRcv_5]
    rw [s_mixI]
    simp only [e_Cp_digest_22, e_Cp_digest_23, e_Cp_digest_26, kR_l, kR_r, kP_0, kP_i, kP_r, kP_n, kP_s, kP_o, kLen_I, kLen_L, kLen_R, kLdI_0, kLdI_1, kLdI_2, kLdI_3, kStI_0, kStI_1, kLdL_e, kStL_e, kLdR_e, kStR_e, kFld_e, kNth_0, kNth_s, kPut_e, fit_I, fit_Z, fit_B, fit_C, fit_A, fit_O, Option.toList_some, Option.toList_none, List.cons_append, List.nil_append, true_and, and_true, List.set_cons_zero, List.set_cons_succ, st_same, Int.toNat_natCast, Int.cast_ofNat_Int, Nat.zero_add, Nat.reduceAdd, kRcv_1, kRcv_2, kRcv_3, kRcv_0, kRcv_4, kRcv_5]
    all_goals ((repeat' (first | with_reducible refine And.intro ?_ ?_ | intro _)) <;> first | with_reducible assumption | exact True.intro | with_reducible exact nx' | omega | (simp only [inR] at *; omega) | exact nx' | with_reducible rfl | rfl | (simp; done) | (exfalso; simp_all; done) | skip)
  · intro S hS fS
    generalize digA s far kp 9 = H1 at *
    have fin := dig_mid (σ := S) (Q := Q) (H := H1) (z := some (vI ((9 : Nat) : Int))) hS hI hG hfar (fun S4 hS4 f4 => hQ S4 hS4 (fS.trans f4))
    clear hQ
    rw [e_Cp_digest_6]
    simp only [e_Cp_digest_7, e_Cp_digest_9, kR_l, kR_r, kP_0, kP_i, kP_r, kP_n, kP_s, kP_o, kLen_I, kLen_L, kLen_R, kLdI_0, kLdI_1, kLdI_2, kLdI_3, kStI_0, kStI_1, kLdL_e, kStL_e, kLdR_e, kStR_e, kFld_e, kNth_0, kNth_s, kPut_e, fit_I, fit_Z, fit_B, fit_C, fit_A, fit_O, Option.toList_some, Option.toList_none, List.cons_append, List.nil_append, true_and, and_true, List.set_cons_zero, List.set_cons_succ, st_same, Int.toNat_natCast, Int.cast_ofNat_Int, Nat.zero_add, Nat.reduceAdd, kRcv_1, kRcv_2, kRcv_3, kRcv_0, kRcv_4, kRcv_5]
    refine ⟨⟨by unfold inR; omega, by unfold inR; omega⟩, fun _ => fin, (fun h => by first | exact absurd h (by omega) | exact absurd trivial h | (exfalso; simp_all; done))⟩
end DG2
