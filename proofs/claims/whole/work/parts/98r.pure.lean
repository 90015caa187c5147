/-! THE WHOLE -/
def QF : (Option AV ⊕ Nat) → AS → Prop := fun r σ => r = .inl (some (vI 1)) ∧ σ.2.2.1 ≤ 601024 ∧ σ.2.2.2 ≤ 7293034
theorem law_loop {G : Nat → Nat} {B L : Nat} {fx : Nat → Int} (hL : L ≤ 2560) (hx : ∀ j, j < L → inR (fx j)) (hG : G 0 ≤ B) (hG1 : G 1 < G 0) : ∀ (f i : Nat) (σ : AS) (X : XS) (z5 z6 z7 z8 : Option AV), LI G B L fx σ X → L < i + 5 * f → i ≤ 2600 → σ.2.2.1 + f ≤ 601024 → σ.2.2.2 + 6 * f ≤ 7293034 → WP G k_Law_law 23 [some (vR (G 1)), some (vR B), some (vR (B + 46)), some (vR (B + 58)), some (vI (i : Nat)), z5, z6, z7, z8] [] σ QF := by
  intro f
  induction f with
  | zero =>
    intro i σ X z5 z6 z7 z8 hLI hf hi c1 c2
    have hS := hLI.2.2.2.2
    rw [e_Law_law_23]
    simp only [e_Law_law_25, e_Law_law_26, e_Law_law_27, e_Law_law_28, e_Law_law_29, e_Law_law_1250, e_Law_law_1251, kR_l, kR_r, kP_0, kP_i, kP_r, kP_n, kP_s, kP_o, kLen_I, kLen_L, kLen_R, kLdI_0, kLdI_1, kLdI_2, kLdI_3, kStI_0, kStI_1, kLdL_e, kStL_e, kLdR_e, kStR_e, kFld_e, kNth_0, kNth_s, kPut_e, fit_I, fit_Z, fit_B, fit_C, fit_A, fit_O, Option.toList_some, Option.toList_none, List.cons_append, List.nil_append, true_and, and_true, List.set_cons_zero, List.set_cons_succ, st_same, Int.toNat_natCast, Int.cast_ofNat_Int, Nat.zero_add, Nat.reduceAdd, kRcv_1, kRcv_2, kRcv_3, kRcv_0, kRcv_4, kRcv_5, hS]
    refine ⟨⟨by unfold inR; omega, by unfold inR; omega⟩, fun _ => ?_, fun z => absurd (by omega) z⟩
    exact ⟨by simp, rfl, by omega, by omega⟩
  | succ f ih =>
    intro i σ X z5 z6 z7 z8 hLI hf hi c1 c2
    have hS := hLI.2.2.2.2
    rw [e_Law_law_23]
    simp only [e_Law_law_25, e_Law_law_26, e_Law_law_27, e_Law_law_28, e_Law_law_29, kR_l, kR_r, kP_0, kP_i, kP_r, kP_n, kP_s, kP_o, kLen_I, kLen_L, kLen_R, kLdI_0, kLdI_1, kLdI_2, kLdI_3, kStI_0, kStI_1, kLdL_e, kStL_e, kLdR_e, kStR_e, kFld_e, kNth_0, kNth_s, kPut_e, fit_I, fit_Z, fit_B, fit_C, fit_A, fit_O, Option.toList_some, Option.toList_none, List.cons_append, List.nil_append, true_and, and_true, List.set_cons_zero, List.set_cons_succ, st_same, Int.toNat_natCast, Int.cast_ofNat_Int, Nat.zero_add, Nat.reduceAdd, kRcv_1, kRcv_2, kRcv_3, kRcv_0, kRcv_4, kRcv_5, hS]
    refine ⟨⟨by unfold inR; omega, by unfold inR; omega⟩, fun c => ?_, fun c => ?_⟩
    · simp only [e_Law_law_1250, e_Law_law_1251, kR_l, kR_r, kP_0, kP_i, kP_r, kP_n, kP_s, kP_o, kLen_I, kLen_L, kLen_R, kLdI_0, kLdI_1, kLdI_2, kLdI_3, kStI_0, kStI_1, kLdL_e, kStL_e, kLdR_e, kStR_e, kFld_e, kNth_0, kNth_s, kPut_e, fit_I, fit_Z, fit_B, fit_C, fit_A, fit_O, Option.toList_some, Option.toList_none, List.cons_append, List.nil_append, true_and, and_true, List.set_cons_zero, List.set_cons_succ, st_same, Int.toNat_natCast, Int.cast_ofNat_Int, Nat.zero_add, Nat.reduceAdd, kRcv_1, kRcv_2, kRcv_3, kRcv_0, kRcv_4, kRcv_5]
      exact ⟨by simp, rfl, by omega, by omega⟩
    · have hi5 : i + 5 ≤ L := by omega
      have nx : NxQ G B L fx σ i QF := by
        intro σ2 X2 z5 z6 z7 z8 h2 hc
        have nx := ih (i + 5) σ2 X2 z5 z6 z7 z8 h2 (by omega) (by omega) (by have := hc.1; omega) (by have := hc.2; omega)
        simp only [e_Law_law_1244, e_Law_law_1247, kR_l, kR_r, kP_0, kP_i, kP_r, kP_n, kP_s, kP_o, kLen_I, kLen_L, kLen_R, kLdI_0, kLdI_1, kLdI_2, kLdI_3, kStI_0, kStI_1, kLdL_e, kStL_e, kLdR_e, kStR_e, kFld_e, kNth_0, kNth_s, kPut_e, fit_I, fit_Z, fit_B, fit_C, fit_A, fit_O, Option.toList_some, Option.toList_none, List.cons_append, List.nil_append, true_and, and_true, List.set_cons_zero, List.set_cons_succ, st_same, Int.toNat_natCast, Int.cast_ofNat_Int, Nat.zero_add, Nat.reduceAdd, kRcv_1, kRcv_2, kRcv_3, kRcv_0, kRcv_4, kRcv_5]
        exact nx
      have t0 : ((i : Nat) : Int).toNat = i := Int.toNat_natCast i
      simp only [e_Law_law_32, e_Law_law_33, e_Law_law_35, e_Law_law_36, e_Law_law_38, e_Law_law_39, kR_l, kR_r, kP_0, kP_i, kP_r, kP_n, kP_s, kP_o, kLen_I, kLen_L, kLen_R, kLdI_0, kLdI_1, kLdI_2, kLdI_3, kStI_0, kStI_1, kLdL_e, kStL_e, kLdR_e, kStR_e, kFld_e, kNth_0, kNth_s, kPut_e, fit_I, fit_Z, fit_B, fit_C, fit_A, fit_O, Option.toList_some, Option.toList_none, List.cons_append, List.nil_append, true_and, and_true, List.set_cons_zero, List.set_cons_succ, st_same, Int.toNat_natCast, Int.cast_ofNat_Int, Nat.zero_add, Nat.reduceAdd, kRcv_1, kRcv_2, kRcv_3, kRcv_0, kRcv_4, kRcv_5, hS, t0]
      refine ⟨⟨by omega, by omega, by omega⟩, i32R _, ?_⟩
      generalize (Int32.ofInt (fx i) &&& Int32.ofInt 31).toInt = v
      by_cases hv : v < 0 ∨ 21 < v
      · rw [tw_d hv, show am_tgt 39 1205 = 1244 from by decide]
        exact nx σ X z5 z6 z7 z8 hLI ⟨by omega, by omega⟩
      · rcases (show v = 0 ∨ v = 1 ∨ v = 2 ∨ v = 3 ∨ v = 4 ∨ v = 5 ∨ v = 6 ∨ v = 7 ∨ v = 8 ∨ v = 9 ∨ v = 10 ∨ v = 11 ∨ v = 12 ∨ v = 13 ∨ v = 14 ∨ v = 15 ∨ v = 16 ∨ v = 17 ∨ v = 18 ∨ v = 19 ∨ v = 20 ∨ v = 21 by omega) with rfl | rfl | rfl | rfl | rfl | rfl | rfl | rfl | rfl | rfl | rfl | rfl | rfl | rfl | rfl | rfl | rfl | rfl | rfl | rfl | rfl | rfl
        · exact c_kroom hLI hi5 hL hx hG hG1 nx
        · exact c_kgive hLI hi5 hL hx hG hG1 nx
        · exact c_kwalk hLI hi5 hL hx hG hG1 nx
        · exact c_kdig hLI hi5 hL hx hG hG1 nx
        · exact c_kcarve hLI hi5 hL hx hG hG1 nx
        · exact c_kcarveAll hLI hG hG1 nx
        · exact c_kfillUp hLI hG hG1 nx
        · exact c_kset hLI hi5 hL hx hG hG1 nx
        · exact c_kappend hLI hi5 hL hx hG hG1 nx
        · exact c_kclearBuffer hLI hG hG1 nx
        · exact c_kfirstError hLI hG hG1 nx
        · exact c_krun hLI hi5 hL hx hG hG1 nx
        · exact c_kundo hLI hi5 hL hx hG hG1 nx
        · exact c_ksquare hLI hi5 hL hx hG hG1 nx
        · exact c_kchamber hLI hi5 hL hx hG hG1 nx
        · exact c_kway hLI hi5 hL hx hG hG1 nx
        · exact c_kcount hLI hi5 hL hx hG hG1 nx
        · exact c_kifDug hLI hi5 hL hx hG hG1 nx
        · exact c_kifGiven hLI hi5 hL hx hG hG1 nx
        · exact c_kallCost hLI hG hG1 nx
        · exact c_kopenShare hLI hG hG1 nx
        · exact c_kdigest hLI hG hG1 nx
theorem whole_pure {G : Nat → Nat} {h0 : Nat → Option AO} {L : Nat} {xs : Nat → Int32} (hL : L ≤ 2560) (h : StartH G h0 L xs) : PureOK G h0 := by
  obtain ⟨hlt, hpos, ⟨fx, hscr, hfx⟩, hsx, hsy, w0, w1, w2, w3, w4, w5⟩ := h
  have hx : ∀ j, j < L → inR (fx j) := fun j hj => by
    rw [hfx j hj]
    exact i32R _
  have hG1 := hlt _ _ hscr
  have key : WP G k_Law_law 0 [some (vR (G 1)), none, none, none, none, none, none, none, none] [] (h0, (G 0, (0, 0))) QF := by
    generalize hB : G 0 = B at *
    simp only [e_Law_law_0, e_Law_law_3, e_Law_law_4, kR_l, kR_r, kP_0, kP_i, kP_r, kP_n, kP_s, kP_o, kLen_I, kLen_L, kLen_R, kLdI_0, kLdI_1, kLdI_2, kLdI_3, kStI_0, kStI_1, kLdL_e, kStL_e, kLdR_e, kStR_e, kFld_e, kNth_0, kNth_s, kPut_e, fit_I, fit_Z, fit_B, fit_C, fit_A, fit_O, Option.toList_some, Option.toList_none, List.cons_append, List.nil_append, true_and, and_true, List.set_cons_zero, List.set_cons_succ, st_same, Int.toNat_natCast, Int.cast_ofNat_Int, Nat.zero_add, Nat.reduceAdd, kRcv_1, kRcv_2, kRcv_3, kRcv_0, kRcv_4, kRcv_5, nw_e, up_same]
    refine ⟨by omega, ?_⟩
    refine i_Cp (B := B) (up_same _ _ _) (by omega) (fun H1 p1 f1 => ?_)
    simp only [e_Law_law_7, e_Law_law_8, e_Law_law_11, e_Law_law_12, kR_l, kR_r, kP_0, kP_i, kP_r, kP_n, kP_s, kP_o, kLen_I, kLen_L, kLen_R, kLdI_0, kLdI_1, kLdI_2, kLdI_3, kStI_0, kStI_1, kLdL_e, kStL_e, kLdR_e, kStR_e, kFld_e, kNth_0, kNth_s, kPut_e, fit_I, fit_Z, fit_B, fit_C, fit_A, fit_O, Option.toList_some, Option.toList_none, List.cons_append, List.nil_append, true_and, and_true, List.set_cons_zero, List.set_cons_succ, st_same, Int.toNat_natCast, Int.cast_ofNat_Int, Nat.zero_add, Nat.reduceAdd, kRcv_1, kRcv_2, kRcv_3, kRcv_0, kRcv_4, kRcv_5, nw_e, up_same]
    refine ⟨by omega, ?_⟩
    refine i_Model (M := B + 46) (up_same _ _ _) (by omega) (fun H2 p2 f2 => ?_)
    simp only [e_Law_law_15, e_Law_law_16, e_Law_law_17, e_Law_law_19, e_Law_law_20, e_Law_law_21, kR_l, kR_r, kP_0, kP_i, kP_r, kP_n, kP_s, kP_o, kLen_I, kLen_L, kLen_R, kLdI_0, kLdI_1, kLdI_2, kLdI_3, kStI_0, kStI_1, kLdL_e, kStL_e, kLdR_e, kStR_e, kFld_e, kNth_0, kNth_s, kPut_e, fit_I, fit_Z, fit_B, fit_C, fit_A, fit_O, Option.toList_some, Option.toList_none, List.cons_append, List.nil_append, true_and, and_true, List.set_cons_zero, List.set_cons_succ, st_same, Int.toNat_natCast, Int.cast_ofNat_Int, Nat.zero_add, Nat.reduceAdd, kRcv_1, kRcv_2, kRcv_3, kRcv_0, kRcv_4, kRcv_5, nw_e, Int.reduceToNat]
    refine ⟨by omega, ?_⟩
    have lo : ∀ a, a < B → am_up H2 (B + 46 + 12) (oL 1 (fun _ => 0)) a = h0 a := fun a ha => by
      rw [up_ne _ _ _ _ (by omega), f2 _ (by omega), up_ne _ _ _ _ (by omega), f1 _ (by omega), up_ne _ _ _ _ (by omega)]
    have mid : ∀ a, B ≤ a → a < B + 46 → am_up H2 (B + 46 + 12) (oL 1 (fun _ => 0)) a = H1 a := fun a h1 h2 => by
      rw [up_ne _ _ _ _ (by omega), f2 _ (by omega), up_ne _ _ _ _ (by omega)]
    have hl2 := hlt _ _ hsx
    have hl3 := hlt _ _ hsy
    have wd : ∀ (x : Nat × (Nat × Nat)) (d : Int), -1 ≤ d → d ≤ 4 → ∃ v, G (if d = -1 then 15 else 10 + d.toNat) < B ∧ v < B ∧ am_up H2 (B + 46 + 12) (oL 1 (fun _ => 0)) (G (if d = -1 then 15 else 10 + d.toNat)) = some (oC 6 [vR v, vI 0]) ∧ am_up H2 (B + 46 + 12) (oL 1 (fun _ => 0)) v = some (oI 3 (wlN d) (wlC d)) := by
      intro x d h1 h2
      have get : ∀ (a l : Nat) (g : Nat → Int), (∃ v, h0 a = some (oC 6 [vR v, vI 0]) ∧ h0 v = some (oI 3 l g)) → ∃ v, a < B ∧ v < B ∧ am_up H2 (B + 46 + 12) (oL 1 (fun _ => 0)) a = some (oC 6 [vR v, vI 0]) ∧ am_up H2 (B + 46 + 12) (oL 1 (fun _ => 0)) v = some (oI 3 l g) := by
        rintro a l g ⟨v, k1, k2⟩
        have l1 := hlt _ _ k1
        have l2 := hlt _ _ k2
        exact ⟨v, l1, l2, by rw [lo a l1]; exact k1, by rw [lo v l2]; exact k2⟩
      rcases (show d = -1 ∨ d = 0 ∨ d = 1 ∨ d = 2 ∨ d = 3 ∨ d = 4 by omega) with rfl | rfl | rfl | rfl | rfl | rfl
      · exact get (G 15) 0 _ w5
      · exact get (G 10) 4 _ w0
      · exact get (G 11) 3 _ w1
      · exact get (G 12) 4 _ w2
      · exact get (G 13) 4 _ w3
      · exact get (G 14) 1 _ w4
    have hLI : LI G B L fx (am_up H2 (B + 46 + 12) (oL 1 (fun _ => 0)), (B + 46 + 12 + 1, (0 + 1 + 45 + 1 + 11 + 1, 0 + 5 + 3675 + 20 + 2923 + 1))) (mkX iniS 0 (fun _ => 0) 0 (fun _ => 0)) := by
      obtain ⟨q1, q2, q3, q4, q5, q6⟩ := p1 (0, (0, 0))
      have fr : FrB 0 B ((H1, (0, (0, 0))) : AS) (H1, (0, (0, 0))) := FrB.refl _ _ _
      refine ⟨⟨?_, ?_, ?_, ?_, ?_, ?_, ⟨?_, ?_⟩, by omega, by omega, ?_⟩, ⟨iniGood, by show (0 : Nat) ≤ 6; omega, fun i hi => absurd hi (by show ¬ i < 0; omega), by show (0 : Nat) ≤ 60; omega, fun k => by show (0 : Int) ≤ 0 ∧ (0 : Int) ≤ 126; omega⟩, ⟨m0M, upA a0M 1 iniS, ?_, ⟨rfl, rfl, rfl, rfl, ⟨a0_ok.1, a0_ok.2.1, a0_ok.2.2.1, a0_ok.2.2.2⟩, fun k _ => rfl⟩, rfl⟩, ⟨_, up_same _ _ _⟩, ?_⟩
      · show am_up _ _ _ B = _
        rw [mid B (by omega) (by omega)]
        exact q1
      · exact PlanC.away q2 (fun a h1 h2 => mid a (by omega) (by omega))
      · obtain ⟨f, g, hh, cc, y1, y2⟩ := q3
        exact ⟨f, g, hh, cc, y1.away (fun a h1 h2 => mid a (by omega) (by omega)), y2⟩
      · obtain ⟨nx, h1, h2, h3, ⟨F, h4, h5⟩, h6, h7⟩ := q4
        refine ⟨nx, h1, h2, ?_, ⟨F, ?_, h5⟩, fun k hk => ?_, fun i hi => absurd hi (by show ¬ i < 0; omega)⟩
        · show am_up _ _ _ (B + 9) = _
          rw [mid _ (by omega) (by omega)]
          exact h3
        · show am_up _ _ _ (B + 9 + 1) = _
          rw [mid _ (by omega) (by omega)]
          exact h4
        · obtain ⟨f, g, hh, cc, y1, y2⟩ := h6 k hk
          exact ⟨f, g, hh, cc, y1.away (fun a h1 h2 => mid a (by omega) (by omega)), y2⟩
      · obtain ⟨⟨a, b, d, w, h1⟩, h2⟩ := q5
        refine ⟨⟨a, b, d, w, ?_⟩, ?_⟩
        · show am_up _ _ _ (B + 35) = _
          rw [mid _ (by omega) (by omega)]
          exact h1
        · show am_up _ _ _ (B + 35 + 1) = _
          rw [mid _ (by omega) (by omega)]
          exact h2
      · obtain ⟨m, A, h1, h2⟩ := q6
        refine ⟨m, A, ?_, fun k k1 k2 => ?_⟩
        · show am_up _ _ _ (B + 37) = _
          rw [mid _ (by omega) (by omega)]
          exact h1
        · show am_up _ _ _ (B + 37 + k) = _
          rw [mid _ (by omega) (by omega)]
          exact h2 k k1 k2
      · show am_up _ _ _ (G 2) = _
        rw [lo _ hl2]
        exact hsx
      · show am_up _ _ _ (G 3) = _
        rw [lo _ hl3]
        exact hsy
      · intro d h1 h2
        rw [hB]
        exact wd (0, (0, 0)) d h1 h2
      · obtain ⟨h1, h2⟩ := p2 (0, (0, 0))
        refine ⟨?_, fun k k1 k2 => ?_⟩
        · show am_up _ _ _ (B + 46) = _
          rw [up_ne _ _ _ _ (by omega)]
          exact h1
        · show am_up _ _ _ (B + 46 + k) = _
          rw [up_ne _ _ _ _ (by omega)]
          exact h2 k k1 k2
      · show am_up _ _ _ (G 1) = _
        rw [lo _ hG1]
        exact hscr
    have go := law_loop (G := G) (B := B) (L := L) (fx := fx) hL hx (by omega) (by omega) 513 0 _ _ none none none none hLI (by omega) (by omega) (by show 0 + 1 + 45 + 1 + 11 + 1 + 513 ≤ 601024; omega) (by show 0 + 5 + 3675 + 20 + 2923 + 1 + 6 * 513 ≤ 7293034; omega)
    exact go
  obtain ⟨n, r, σF, h1, rfl, h2, h3⟩ := key
  exact ⟨n, σF, h1, h2, h3⟩
