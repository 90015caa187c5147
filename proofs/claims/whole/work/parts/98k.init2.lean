/-! THE BEGINNING: the class's own objects, the reference's -/
section IN2
variable {G : Nat → Nat} {Q : (Option AV ⊕ Nat) → AS → Prop} {H : Nat → Option AO} {c q : Nat}
theorem i_Saved {V : Nat} {Hh : Nat → Nat → Int} (h : H V = some (oC 2 [vN, vI 0, vI 0])) (hG : G 0 ≤ V)
    (hQ : ∀ H' : Nat → Option AO, SavI (H', (V + 26, (c + 25, q + 1542))) V 0 Hh → (∀ a, a < V ∨ V + 26 ≤ a → H' a = H a) → Q (.inl none) (H', (V + 26, (c + 25, q + 1542)))) :
    CW G k_Saved_init [vR V] (H, (V + 1, (c, q))) Q := by
  have key := up (fun k => ∀ (H' : Nat → Option AO) (F : Nat → Option Nat), H' V = some (oC 2 [vR (V + 1), vI 0, vI 0]) → H' (V + 1) = some (oR 6 F) → (∀ j, j < k → F j = some (V + 2 + 4 * j)) → (∀ (x : Nat × (Nat × Nat)) j, j < k → PlX (H', x) (V + 2 + 4 * j)) → (∀ a, a < V ∨ V + 2 + 4 * k ≤ a → H' a = H a) → WP G k_Saved_init 25 [some (vR V), some (vI (k : Nat))] [] (H', (V + 2 + 4 * k, (c + 1 + 4 * k, q + 6 + 256 * k))) Q) (n := 6) ?_ ?_
  · have k0 := key (am_up (am_up H (V + 1) (oR 6 (fun _ => none))) V (oC 2 [vR (V + 1), vI 0, vI 0])) (fun _ => none) (up_same _ _ _) (by rw [up_ne _ _ _ _ (by omega), up_same]) (fun j hj => absurd hj (by omega)) (fun x j hj => absurd hj (by omega)) (fun a ha => by rw [up_ne _ _ _ _ (by omega), up_ne _ _ _ _ (by omega)])
    clear key hQ
    simp (disch := first | assumption | omega | (unfold inR; omega)) only [c_Saved_init, e_Saved_init_0, e_Saved_init_1, e_Saved_init_4, e_Saved_init_5, e_Saved_init_7, e_Saved_init_10, e_Saved_init_13, e_Saved_init_14, e_Saved_init_15, e_Saved_init_18, e_Saved_init_19, e_Saved_init_20, e_Saved_init_23, e_Saved_init_24, kR_l, kR_r, kP_0, kP_i, kP_r, kP_n, kP_s, kP_o, kLen_I, kLen_L, kLen_R, kLdI_0, kLdI_1, kLdI_2, kLdI_3, kStI_0, kStI_1, kLdL_e, kStL_e, kLdR_e, kStR_e, kFld_e, kNth_0, kNth_s, kPut_e, fit_I, fit_Z, fit_B, fit_C, fit_A, fit_O, Option.toList_some, Option.toList_none, List.cons_append, List.nil_append, true_and, and_true, List.set_cons_zero, List.set_cons_succ, st_same, Int.toNat_natCast, Int.cast_ofNat_Int, Nat.zero_add, Nat.reduceAdd, kRcv_1, kRcv_2, kRcv_3, kRcv_0, kRcv_4, kRcv_5, nw_e, st_e, up_same, up_ne, up_up, h, List.length_cons, List.length_nil, Nat.add_assoc, Int.reduceToNat]
    all_goals ((repeat' (first | with_reducible refine And.intro ?_ ?_ | intro _)) <;> first | with_reducible assumption | exact True.intro | with_reducible exact k0 | omega | (simp only [inR] at *; omega) | exact k0 | with_reducible rfl | rfl | (simp; done) | (exfalso; simp_all; done) | skip)
  · intro k hk ih H' F hV hA hF hX hf
    have hfr : H' (V + 2 + 4 * k) = H (V + 2 + 4 * k) := hf _ (by omega)
    rw [e_Saved_init_25]
    simp only [e_Saved_init_26, e_Saved_init_27, e_Saved_init_30, e_Saved_init_31, e_Saved_init_34, e_Saved_init_35, e_Saved_init_38, e_Saved_init_39, e_Saved_init_42, e_Saved_init_43, kR_l, kR_r, kP_0, kP_i, kP_r, kP_n, kP_s, kP_o, kLen_I, kLen_L, kLen_R, kLdI_0, kLdI_1, kLdI_2, kLdI_3, kStI_0, kStI_1, kLdL_e, kStL_e, kLdR_e, kStR_e, kFld_e, kNth_0, kNth_s, kPut_e, fit_I, fit_Z, fit_B, fit_C, fit_A, fit_O, Option.toList_some, Option.toList_none, List.cons_append, List.nil_append, true_and, and_true, List.set_cons_zero, List.set_cons_succ, st_same, Int.toNat_natCast, Int.cast_ofNat_Int, Nat.zero_add, Nat.reduceAdd, kRcv_1, kRcv_2, kRcv_3, kRcv_0, kRcv_4, kRcv_5, hV, hA, nw_e]
    refine ⟨⟨by unfold inR; omega, by unfold inR; omega⟩, (fun h => by first | exact absurd h (by omega) | exact absurd trivial h | (exfalso; simp_all; done)), fun _ => ?_⟩
    have hV1 : am_up H' (V + 2 + 4 * k) (oC 1 [vN, vN, vN, vI 0]) V = some (oC 2 [vR (V + 1), vI 0, vI 0]) := by rw [up_ne _ _ _ _ (by omega)]; exact hV
    simp only [up_same, kR_l, kR_r, kP_0, kP_i, kP_r, kP_n, kP_s, kP_o, kLen_I, kLen_L, kLen_R, kLdI_0, kLdI_1, kLdI_2, kLdI_3, kStI_0, kStI_1, kLdL_e, kStL_e, kLdR_e, kStR_e, kFld_e, kNth_0, kNth_s, kPut_e, fit_I, fit_Z, fit_B, fit_C, fit_A, fit_O, Option.toList_some, Option.toList_none, List.cons_append, List.nil_append, true_and, and_true, List.set_cons_zero, List.set_cons_succ, st_same, Int.toNat_natCast, Int.cast_ofNat_Int, Nat.zero_add, Nat.reduceAdd, kRcv_1, kRcv_2, kRcv_3, kRcv_0, kRcv_4, kRcv_5]
    refine ⟨by omega, ?_⟩
    refine i_Plan (P := V + 2 + 4 * k) (up_same _ _ _) (by omega) (fun H2 p2 f2 => ?_)
    have hA2 : H2 (V + 1) = some (oR 6 F) := by rw [f2 _ (by omega), up_ne _ _ _ _ (by omega)]; exact hA
    have hV2 : H2 V = some (oC 2 [vR (V + 1), vI 0, vI 0]) := by rw [f2 _ (by omega)]; exact hV1
    have hP2 : H2 (V + 2 + 4 * k) = some (oC 1 [vR (V + 2 + 4 * k + 1), vR (V + 2 + 4 * k + 2), vR (V + 2 + 4 * k + 3), vI (iniS 252)]) := p2.1
    simp only [e_Saved_init_46, e_Saved_init_47, e_Saved_init_50, kR_l, kR_r, kP_0, kP_i, kP_r, kP_n, kP_s, kP_o, kLen_I, kLen_L, kLen_R, kLdI_0, kLdI_1, kLdI_2, kLdI_3, kStI_0, kStI_1, kLdL_e, kStL_e, kLdR_e, kStR_e, kFld_e, kNth_0, kNth_s, kPut_e, fit_I, fit_Z, fit_B, fit_C, fit_A, fit_O, Option.toList_some, Option.toList_none, List.cons_append, List.nil_append, true_and, and_true, List.set_cons_zero, List.set_cons_succ, st_same, Int.toNat_natCast, Int.cast_ofNat_Int, Nat.zero_add, Nat.reduceAdd, kRcv_1, kRcv_2, kRcv_3, kRcv_0, kRcv_4, kRcv_5, hA2, hP2, kStR_e, st_e]
    have nx := ih (am_up H2 (V + 1) (oR 6 (upR F k (some (V + 2 + 4 * k))))) (upR F k (some (V + 2 + 4 * k))) (by rw [up_ne _ _ _ _ (by omega)]; exact hV2) (up_same _ _ _) (fun j hj => by
      unfold upR
      by_cases e : j = k
      · rw [if_pos e, e]
      · rw [if_neg e]; exact hF j (by omega)) (fun x j hj => by
      by_cases e : j = k
      · rw [e]
        have p3 := p2.x
        obtain ⟨f, g, hh, cc, y1, y2⟩ := p3
        refine ⟨f, g, hh, cc, y1.away (fun a h1 h2 => ?_), y2⟩
        show am_up H2 (V + 1) _ a = H2 a
        rw [up_ne _ _ _ _ (by omega)]
      · obtain ⟨f, g, hh, cc, y1, y2⟩ := hX x j (by omega)
        refine ⟨f, g, hh, cc, y1.away (fun a h1 h2 => ?_), y2⟩
        show am_up H2 (V + 1) _ a = H' a
        rw [up_ne _ _ _ _ (by omega), f2 _ (by omega), up_ne _ _ _ _ (by omega)]) (fun a ha => by
      rw [up_ne _ _ _ _ (by omega), f2 _ (by omega), up_ne _ _ _ _ (by omega)]
      exact hf a (by omega))
    rw [show V + 2 + 4 * (k + 1) = V + 2 + 4 * k + 4 by omega, show c + 1 + 4 * (k + 1) = c + 1 + 4 * k + 1 + 3 by omega, show q + 6 + 256 * (k + 1) = q + 6 + 256 * k + 4 + 252 by omega] at nx
    clear ih hQ
    refine ⟨⟨by omega, by omega, by omega, by omega⟩, ?_⟩
    exact nx
  · intro H' F hV hA hF hX hf
    have hq := hQ H' ⟨0, by omega, by omega, hV, ⟨F, hA, fun k hk => hF k hk⟩, fun k hk => hX _ k hk, fun i hi => absurd hi (by omega)⟩ (fun a ha => hf a (by omega))
    clear hQ
    rw [e_Saved_init_25]
    simp only [e_Saved_init_26, e_Saved_init_27, e_Saved_init_30, e_Saved_init_31, e_Saved_init_53, kR_l, kR_r, kP_0, kP_i, kP_r, kP_n, kP_s, kP_o, kLen_I, kLen_L, kLen_R, kLdI_0, kLdI_1, kLdI_2, kLdI_3, kStI_0, kStI_1, kLdL_e, kStL_e, kLdR_e, kStR_e, kFld_e, kNth_0, kNth_s, kPut_e, fit_I, fit_Z, fit_B, fit_C, fit_A, fit_O, Option.toList_some, Option.toList_none, List.cons_append, List.nil_append, true_and, and_true, List.set_cons_zero, List.set_cons_succ, st_same, Int.toNat_natCast, Int.cast_ofNat_Int, Nat.zero_add, Nat.reduceAdd, kRcv_1, kRcv_2, kRcv_3, kRcv_0, kRcv_4, kRcv_5, hV, hA]
    refine ⟨⟨by unfold inR; omega, by unfold inR; omega⟩, fun _ => hq, (fun h => by first | exact absurd h (by omega) | exact absurd trivial h | (exfalso; simp_all; done))⟩
theorem i_Cp {B : Nat} (h : H B = some (oC 4 [vN, vN, vN, vN, vN])) (hG : G 0 ≤ B)
    (hQ : ∀ H' : Nat → Option AO, (∀ x, CpC (H', x) B ∧ PlS (H', x) (B + 1) iniS ∧ PlX (H', x) (B + 5) ∧ SavI (H', x) (B + 9) 0 (pastS (fun _ => 0)) ∧ OrI (H', x) (B + 35) 0 (fun _ => 0) ∧ WyI (H', x) (B + 37)) → (∀ a, a < B ∨ B + 46 ≤ a → H' a = H a) → Q (.inl none) (H', (B + 46, (c + 45, q + 3675)))) :
    CW G k_Cp_init [vR B] (H, (B + 1, (c, q))) Q := by
  simp (disch := first | assumption | omega | (unfold inR; omega)) only [c_Cp_init, e_Cp_init_0, e_Cp_init_1, e_Cp_init_4, e_Cp_init_5, e_Cp_init_8, e_Cp_init_9, kR_l, kR_r, kP_0, kP_i, kP_r, kP_n, kP_s, kP_o, kLen_I, kLen_L, kLen_R, kLdI_0, kLdI_1, kLdI_2, kLdI_3, kStI_0, kStI_1, kLdL_e, kStL_e, kLdR_e, kStR_e, kFld_e, kNth_0, kNth_s, kPut_e, fit_I, fit_Z, fit_B, fit_C, fit_A, fit_O, Option.toList_some, Option.toList_none, List.cons_append, List.nil_append, true_and, and_true, List.set_cons_zero, List.set_cons_succ, st_same, Int.toNat_natCast, Int.cast_ofNat_Int, Nat.zero_add, Nat.reduceAdd, kRcv_1, kRcv_2, kRcv_3, kRcv_0, kRcv_4, kRcv_5, nw_e, up_same]
  refine ⟨by omega, ?_⟩
  refine i_Plan (P := B + 1) (up_same _ _ _) (by omega) (fun H1 p1 f1 => ?_)
  have b1 : H1 B = some (oC 4 [vN, vN, vN, vN, vN]) := by rw [f1 _ (by omega), up_ne _ _ _ _ (by omega)]; exact h
  simp (disch := first | assumption | omega | (unfold inR; omega)) only [e_Cp_init_12, e_Cp_init_15, e_Cp_init_16, e_Cp_init_19, e_Cp_init_20, kR_l, kR_r, kP_0, kP_i, kP_r, kP_n, kP_s, kP_o, kLen_I, kLen_L, kLen_R, kLdI_0, kLdI_1, kLdI_2, kLdI_3, kStI_0, kStI_1, kLdL_e, kStL_e, kLdR_e, kStR_e, kFld_e, kNth_0, kNth_s, kPut_e, fit_I, fit_Z, fit_B, fit_C, fit_A, fit_O, Option.toList_some, Option.toList_none, List.cons_append, List.nil_append, true_and, and_true, List.set_cons_zero, List.set_cons_succ, st_same, Int.toNat_natCast, Int.cast_ofNat_Int, Nat.zero_add, Nat.reduceAdd, kRcv_1, kRcv_2, kRcv_3, kRcv_0, kRcv_4, kRcv_5, nw_e, st_e, up_same, b1, List.length_cons, List.length_nil]
  refine ⟨⟨by omega, by omega⟩, by omega, ?_⟩
  refine i_Plan (P := B + 5) (up_same _ _ _) (by omega) (fun H2 p2 f2 => ?_)
  have b2 : H2 B = some (oC 4 [vR (B + 1), vN, vN, vN, vN]) := by rw [f2 _ (by omega), up_ne _ _ _ _ (by omega), up_same]
  simp (disch := first | assumption | omega | (unfold inR; omega)) only [e_Cp_init_23, e_Cp_init_26, e_Cp_init_27, e_Cp_init_30, e_Cp_init_31, kR_l, kR_r, kP_0, kP_i, kP_r, kP_n, kP_s, kP_o, kLen_I, kLen_L, kLen_R, kLdI_0, kLdI_1, kLdI_2, kLdI_3, kStI_0, kStI_1, kLdL_e, kStL_e, kLdR_e, kStR_e, kFld_e, kNth_0, kNth_s, kPut_e, fit_I, fit_Z, fit_B, fit_C, fit_A, fit_O, Option.toList_some, Option.toList_none, List.cons_append, List.nil_append, true_and, and_true, List.set_cons_zero, List.set_cons_succ, st_same, Int.toNat_natCast, Int.cast_ofNat_Int, Nat.zero_add, Nat.reduceAdd, kRcv_1, kRcv_2, kRcv_3, kRcv_0, kRcv_4, kRcv_5, nw_e, st_e, up_same, b2, List.length_cons, List.length_nil]
  refine ⟨⟨by omega, by omega⟩, by omega, ?_⟩
  refine i_Saved (V := B + 9) (Hh := pastS (fun _ => 0)) (up_same _ _ _) (by omega) (fun H3 p3 f3 => ?_)
  have b3 : H3 B = some (oC 4 [vR (B + 1), vR (B + 5), vN, vN, vN]) := by rw [f3 _ (by omega), up_ne _ _ _ _ (by omega), up_same]
  simp (disch := first | assumption | omega | (unfold inR; omega)) only [e_Cp_init_34, e_Cp_init_37, e_Cp_init_38, e_Cp_init_41, e_Cp_init_42, kR_l, kR_r, kP_0, kP_i, kP_r, kP_n, kP_s, kP_o, kLen_I, kLen_L, kLen_R, kLdI_0, kLdI_1, kLdI_2, kLdI_3, kStI_0, kStI_1, kLdL_e, kStL_e, kLdR_e, kStR_e, kFld_e, kNth_0, kNth_s, kPut_e, fit_I, fit_Z, fit_B, fit_C, fit_A, fit_O, Option.toList_some, Option.toList_none, List.cons_append, List.nil_append, true_and, and_true, List.set_cons_zero, List.set_cons_succ, st_same, Int.toNat_natCast, Int.cast_ofNat_Int, Nat.zero_add, Nat.reduceAdd, kRcv_1, kRcv_2, kRcv_3, kRcv_0, kRcv_4, kRcv_5, nw_e, st_e, up_same, b3, List.length_cons, List.length_nil]
  refine ⟨⟨by omega, by omega⟩, by omega, ?_⟩
  refine i_Orders (O := B + 35) (up_same _ _ _) (by omega) (fun H4 p4 f4 => ?_)
  have b4 : H4 B = some (oC 4 [vR (B + 1), vR (B + 5), vR (B + 9), vN, vN]) := by rw [f4 _ (by omega), up_ne _ _ _ _ (by omega), up_same]
  simp (disch := first | assumption | omega | (unfold inR; omega)) only [e_Cp_init_45, e_Cp_init_48, e_Cp_init_49, e_Cp_init_52, e_Cp_init_53, kR_l, kR_r, kP_0, kP_i, kP_r, kP_n, kP_s, kP_o, kLen_I, kLen_L, kLen_R, kLdI_0, kLdI_1, kLdI_2, kLdI_3, kStI_0, kStI_1, kLdL_e, kStL_e, kLdR_e, kStR_e, kFld_e, kNth_0, kNth_s, kPut_e, fit_I, fit_Z, fit_B, fit_C, fit_A, fit_O, Option.toList_some, Option.toList_none, List.cons_append, List.nil_append, true_and, and_true, List.set_cons_zero, List.set_cons_succ, st_same, Int.toNat_natCast, Int.cast_ofNat_Int, Nat.zero_add, Nat.reduceAdd, kRcv_1, kRcv_2, kRcv_3, kRcv_0, kRcv_4, kRcv_5, nw_e, st_e, up_same, b4, List.length_cons, List.length_nil]
  refine ⟨⟨by omega, by omega⟩, by omega, ?_⟩
  refine i_Ways (W := B + 37) (up_same _ _ _) (by omega) (fun H5 p5 f5 => ?_)
  have b5 : H5 B = some (oC 4 [vR (B + 1), vR (B + 5), vR (B + 9), vR (B + 35), vN]) := by rw [f5 _ (by omega), up_ne _ _ _ _ (by omega), up_same]
  have hf : ∀ a, a < B ∨ B + 46 ≤ a → am_up H5 B (oC 4 [vR (B + 1), vR (B + 5), vR (B + 9), vR (B + 35), vR (B + 37)]) a = H a := fun a ha => by
    rw [up_ne _ _ _ _ (by omega), f5 _ (by omega), up_ne _ _ _ _ (by omega), up_ne _ _ _ _ (by omega), f4 _ (by omega), up_ne _ _ _ _ (by omega), up_ne _ _ _ _ (by omega), f3 _ (by omega), up_ne _ _ _ _ (by omega), up_ne _ _ _ _ (by omega), f2 _ (by omega), up_ne _ _ _ _ (by omega), up_ne _ _ _ _ (by omega), f1 _ (by omega), up_ne _ _ _ _ (by omega)]
  have g5 : ∀ a, B < a → a < B + 37 → am_up H5 B (oC 4 [vR (B + 1), vR (B + 5), vR (B + 9), vR (B + 35), vR (B + 37)]) a = H4 a := fun a h1 h2 => by
    rw [up_ne _ _ _ _ (by omega), f5 _ (by omega), up_ne _ _ _ _ (by omega), up_ne _ _ _ _ (by omega)]
  have g4 : ∀ a, B < a → a < B + 35 → H4 a = H3 a := fun a h1 h2 => by
    rw [f4 _ (by omega), up_ne _ _ _ _ (by omega), up_ne _ _ _ _ (by omega)]
  have g3 : ∀ a, B < a → a < B + 9 → H3 a = H2 a := fun a h1 h2 => by
    rw [f3 _ (by omega), up_ne _ _ _ _ (by omega), up_ne _ _ _ _ (by omega)]
  have g2 : ∀ a, B < a → a < B + 5 → H2 a = H1 a := fun a h1 h2 => by
    rw [f2 _ (by omega), up_ne _ _ _ _ (by omega), up_ne _ _ _ _ (by omega)]
  have hq := hQ (am_up H5 B (oC 4 [vR (B + 1), vR (B + 5), vR (B + 9), vR (B + 35), vR (B + 37)])) (fun x => by
    refine ⟨up_same _ _ _, ?_, ?_, ?_, ?_, ?_⟩
    · exact PlanC.away p1 (fun a h1 h2 => by
        show am_up H5 B _ a = H1 a
        rw [g5 a (by omega) (by omega), g4 a (by omega) (by omega), g3 a (by omega) (by omega), g2 a (by omega) (by omega)])
    · obtain ⟨f, g, hh, cc, y1, y2⟩ := p2.x
      exact ⟨f, g, hh, cc, y1.away (fun a h1 h2 => by
        show am_up H5 B _ a = H2 a
        rw [g5 a (by omega) (by omega), g4 a (by omega) (by omega), g3 a (by omega) (by omega)]), y2⟩
    · obtain ⟨nx, h1, h2, h3, ⟨F, h4, h5⟩, h6, h7⟩ := p3
      refine ⟨nx, h1, h2, ?_, ⟨F, ?_, h5⟩, fun k hk => ?_, fun i hi => absurd hi (by omega)⟩
      · show am_up H5 B _ (B + 9) = _
        rw [g5 _ (by omega) (by omega), g4 _ (by omega) (by omega)]
        exact h3
      · show am_up H5 B _ (B + 9 + 1) = _
        rw [g5 _ (by omega) (by omega), g4 _ (by omega) (by omega)]
        exact h4
      · obtain ⟨f, g, hh, cc, y1, y2⟩ := h6 k hk
        exact ⟨f, g, hh, cc, y1.away (fun a h1 h2 => by
          show am_up H5 B _ a = H3 a
          rw [g5 a (by omega) (by omega), g4 a (by omega) (by omega)]), y2⟩
    · obtain ⟨⟨a, b, d, w, h1⟩, h2⟩ := p4
      refine ⟨⟨a, b, d, w, ?_⟩, ?_⟩
      · show am_up H5 B _ (B + 35) = _
        rw [g5 _ (by omega) (by omega)]
        exact h1
      · show am_up H5 B _ (B + 35 + 1) = _
        rw [g5 _ (by omega) (by omega)]
        exact h2
    · obtain ⟨m, A, h1, h2⟩ := p5
      refine ⟨m, A, ?_, fun k k1 k2 => ?_⟩
      · show am_up H5 B _ (B + 37) = _
        rw [up_ne _ _ _ _ (by omega)]
        exact h1
      · show am_up H5 B _ (B + 37 + k) = _
        rw [up_ne _ _ _ _ (by omega)]
        exact h2 k k1 k2) hf
  clear hQ
  simp (disch := first | assumption | omega | (unfold inR; omega)) only [e_Cp_init_56, e_Cp_init_59, kR_l, kR_r, kP_0, kP_i, kP_r, kP_n, kP_s, kP_o, kLen_I, kLen_L, kLen_R, kLdI_0, kLdI_1, kLdI_2, kLdI_3, kStI_0, kStI_1, kLdL_e, kStL_e, kLdR_e, kStR_e, kFld_e, kNth_0, kNth_s, kPut_e, fit_I, fit_Z, fit_B, fit_C, fit_A, fit_O, Option.toList_some, Option.toList_none, List.cons_append, List.nil_append, true_and, and_true, List.set_cons_zero, List.set_cons_succ, st_same, Int.toNat_natCast, Int.cast_ofNat_Int, Nat.zero_add, Nat.reduceAdd, kRcv_1, kRcv_2, kRcv_3, kRcv_0, kRcv_4, kRcv_5, st_e, b5, List.length_cons, List.length_nil]
  have e1 : B + 37 + 9 = B + 46 := by omega
  have e2 : c + 1 + 3 + 1 + 3 + 1 + 25 + 1 + 1 + 1 + 8 = c + 45 := by omega
  have e3 : q + 4 + 252 + 4 + 252 + 3 + 1542 + 6 + 60 + 16 + 1536 = q + 3675 := by omega
  simp only [Nat.add_assoc, Nat.reduceAdd] at hq ⊢
  all_goals ((repeat' (first | with_reducible refine And.intro ?_ ?_ | intro _)) <;> first | with_reducible assumption | exact True.intro | with_reducible exact hq | omega | (simp only [inR] at *; omega) | exact hq | with_reducible rfl | rfl | (simp; done) | (exfalso; simp_all; done) | skip)
end IN2
