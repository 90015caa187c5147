/-! THE CLASS'S SAVED STATES -/
def FrB (lo hi : Nat) (σ σ' : AS) : Prop := (∀ a, a < lo ∨ hi ≤ a → σ'.1 a = σ.1 a) ∧ σ'.2 = σ.2
theorem FrB.refl (lo hi : Nat) (σ : AS) : FrB lo hi σ σ := ⟨fun _ _ => rfl, rfl⟩
theorem FrB.trans {lo hi : Nat} {σ σ' σ'' : AS} (h1 : FrB lo hi σ σ') (h2 : FrB lo hi σ' σ'') : FrB lo hi σ σ'' := ⟨fun a ha => by rw [h2.1 a ha, h1.1 a ha], by rw [h2.2, h1.2]⟩
theorem FrB.wide {lo hi lo' hi' : Nat} {σ σ' : AS} (h : FrB lo hi σ σ') (h1 : lo' ≤ lo) (h2 : hi ≤ hi') : FrB lo' hi' σ σ' := ⟨fun a ha => h.1 a (by omega), h.2⟩
theorem PlS.fr {lo hi P : Nat} {σ σ' : AS} {s : Nat → Int} (h : PlS σ P s) (k : FrB lo hi σ σ') (hd : P + 4 ≤ lo ∨ hi ≤ P) : PlS σ' P s := PlanC.away h (fun a h1 h2 => k.1 a (by omega))
def PlX (σ : AS) (P : Nat) : Prop := ∃ (f g h : Nat → Int) (c : Int), PlanC σ P f g h c ∧ Can f 192 ∧ Can g 24 ∧ Can h 36
theorem PlS.x {σ : AS} {P : Nat} {s : Nat → Int} (h : PlS σ P s) : PlX σ P := ⟨_, _, _, _, h, pF_can s, pG_can s, pH_can s⟩
theorem PlX.fr {lo hi P : Nat} {σ σ' : AS} (h : PlX σ P) (k : FrB lo hi σ σ') (hd : P + 4 ≤ lo ∨ hi ≤ P) : PlX σ' P := by
  obtain ⟨f, g, h1, c, h2, h3⟩ := h
  exact ⟨f, g, h1, c, h2.away (fun a h1 h2 => k.1 a (by omega)), h3⟩
theorem setPs_fr (σ : AS) (P : Nat) (s : Nat → Int) : FrB P (P + 4) σ (setPs σ P s) := ⟨fun a ha => setP_out (by omega), rfl⟩
theorem st_fr (σ : AS) (a : Nat) (o : AO) : FrB a (a + 1) σ (am_st σ a o) := ⟨fun b hb => by rw [st_hp, if_neg (by omega)], rfl⟩
def slS (nx kp i : Nat) : Nat := (nx + 6 - kp + i) % 6
def SavI (σ : AS) (V kp : Nat) (H : Nat → Nat → Int) : Prop := ∃ nx, nx < 6 ∧ kp ≤ 6 ∧ σ.1 V = some (oC 2 [vR (V + 1), vI (nx : Nat), vI (kp : Nat)]) ∧ (∃ F : Nat → Option Nat, σ.1 (V + 1) = some (oR 6 F) ∧ ∀ k, k < 6 → F k = some (V + 2 + 4 * k)) ∧ (∀ k, k < 6 → PlX σ (V + 2 + 4 * k)) ∧ ∀ i, i < kp → PlS σ (V + 2 + 4 * slS nx kp i) (H i)
theorem SavI.fr {lo hi V kp : Nat} {H : Nat → Nat → Int} {σ σ' : AS} (h : SavI σ V kp H) (k : FrB lo hi σ σ') (hd : V + 26 ≤ lo ∨ hi ≤ V) : SavI σ' V kp H := by
  obtain ⟨nx, h1, h2, h3, ⟨F, h4, h5⟩, h6, h7⟩ := h
  have hs : ∀ i, slS nx kp i < 6 := fun i => Nat.mod_lt _ (by omega)
  exact ⟨nx, h1, h2, by rw [k.1 V (by omega)]; exact h3, ⟨F, by rw [k.1 (V + 1) (by omega)]; exact h4, h5⟩, fun i hi => (h6 i hi).fr k (by omega), fun i hi => (h7 i hi).fr k (by have := hs i; omega)⟩
def psH (kp : Nat) (H : Nat → Nat → Int) (s : Nat → Int) : Nat → Nat → Int := fun i => if kp = 6 then (if i < 5 then H (i + 1) else s) else if i < kp then H i else s
section SAV
variable {G : Nat → Nat} {σ : AS} {Q : (Option AV ⊕ Nat) → AS → Prop} {P V kp : Nat} {s : Nat → Int} {H : Nat → Nat → Int}
theorem s_Saved_size {nx : Nat} (h : σ.1 V = some (oC 2 [vR (V + 1), vI (nx : Nat), vI (kp : Nat)])) : CW G k_Saved_size [vR V] σ Q = Q (.inl (some (vI (kp : Nat)))) σ := by
  refine CW.det' fun R hR => ?_
  simp only [c_Saved_size, e_Saved_size_0, e_Saved_size_1, e_Saved_size_4, kR_l, kR_r, kP_0, kP_i, kP_r, kP_n, kP_s, kP_o, kLen_I, kLen_L, kLen_R, kLdI_0, kLdI_1, kLdI_2, kLdI_3, kStI_0, kStI_1, kLdL_e, kStL_e, kLdR_e, kStR_e, kFld_e, kNth_0, kNth_s, kPut_e, fit_I, fit_Z, fit_B, fit_C, fit_A, fit_O, Option.toList_some, Option.toList_none, List.cons_append, List.nil_append, true_and, and_true, List.set_cons_zero, List.set_cons_succ, st_same, Int.toNat_natCast, Int.cast_ofNat_Int, Nat.zero_add, Nat.reduceAdd, kRcv_1, kRcv_2, kRcv_3, kRcv_0, kRcv_4, kRcv_5, h]
  first | exact hR | exact ⟨trivial, hR⟩ | exact ⟨by simp, hR⟩
theorem s_planAt {nx kq i : Nat} {F : Nat → Option Nat} (h : σ.1 V = some (oC 2 [vR (V + 1), vI (nx : Nat), vI (kq : Nat)])) (hF : σ.1 (V + 1) = some (oR 6 F)) (hFk : ∀ k, k < 6 → F k = some (V + 2 + 4 * k)) (hi : i < 6) : CW G k_Saved_planAt [vR V, vI (i : Nat)] σ Q = Q (.inl (some (vR (V + 2 + 4 * i)))) σ := by
  refine CW.det' fun R hR => ?_
  simp only [c_Saved_planAt, e_Saved_planAt_0, e_Saved_planAt_1, e_Saved_planAt_4, e_Saved_planAt_5, e_Saved_planAt_6, e_Saved_planAt_9, e_Saved_planAt_10, e_Saved_planAt_13, e_Saved_planAt_14, e_Saved_planAt_17, e_Saved_planAt_18, e_Saved_planAt_19, kR_l, kR_r, kP_0, kP_i, kP_r, kP_n, kP_s, kP_o, kLen_I, kLen_L, kLen_R, kLdI_0, kLdI_1, kLdI_2, kLdI_3, kStI_0, kStI_1, kLdL_e, kStL_e, kLdR_e, kStR_e, kFld_e, kNth_0, kNth_s, kPut_e, fit_I, fit_Z, fit_B, fit_C, fit_A, fit_O, Option.toList_some, Option.toList_none, List.cons_append, List.nil_append, true_and, and_true, List.set_cons_zero, List.set_cons_succ, st_same, Int.toNat_natCast, Int.cast_ofNat_Int, Nat.zero_add, Nat.reduceAdd, kRcv_1, kRcv_2, kRcv_3, kRcv_0, kRcv_4, kRcv_5, h, hF]
  refine ⟨by unfold inR; omega, (fun h => by first | exact absurd h (by omega) | exact absurd trivial h | (exfalso; simp_all; done)), fun _ => ⟨⟨by unfold inR; omega, by unfold inR; omega⟩, (fun h => by first | exact absurd h (by omega) | exact absurd trivial h | (exfalso; simp_all; done)), fun _ => ⟨⟨by omega, by omega, by omega⟩, ?_⟩⟩⟩
  rw [hFk i hi]
  exact Eq.mpr (e_Saved_planAt_23 _ _ (some (V + 2 + 4 * i)) σ R) hR
theorem s_push (hI : SavI σ V kp H) (hP : PlS σ P s) (hd : P + 4 ≤ V) (hG : G 0 ≤ P)
    (hQ : ∀ σ' : AS, SavI σ' V (svK kp) (psH kp H s) → FrB V (V + 26) σ σ' → Q (.inl none) σ') :
    CW G k_Saved_push [vR V, vR P] σ Q := by
  obtain ⟨nx, h1, h2, h3, ⟨F, h4, h5⟩, h6, h7⟩ := hI
  obtain ⟨f, g, h, c, x1, x2, x3, x4⟩ := h6 nx h1
  simp only [c_Saved_push, e_Saved_push_0, e_Saved_push_1, e_Saved_push_2, e_Saved_push_5, kR_l, kR_r, kP_0, kP_i, kP_r, kP_n, kP_s, kP_o, kLen_I, kLen_L, kLen_R, kLdI_0, kLdI_1, kLdI_2, kLdI_3, kStI_0, kStI_1, kLdL_e, kStL_e, kLdR_e, kStR_e, kFld_e, kNth_0, kNth_s, kPut_e, fit_I, fit_Z, fit_B, fit_C, fit_A, fit_O, Option.toList_some, Option.toList_none, List.cons_append, List.nil_append, true_and, and_true, List.set_cons_zero, List.set_cons_succ, st_same, Int.toNat_natCast, Int.cast_ofNat_Int, Nat.zero_add, Nat.reduceAdd, kRcv_1, kRcv_2, kRcv_3, kRcv_0, kRcv_4, kRcv_5, h3]
  rw [s_planAt h3 h4 h5 h1]
  simp only [e_Saved_push_8, e_Saved_push_9, e_Saved_push_10, e_Saved_push_13, e_Saved_push_14, e_Saved_push_15, kR_l, kR_r, kP_0, kP_i, kP_r, kP_n, kP_s, kP_o, kLen_I, kLen_L, kLen_R, kLdI_0, kLdI_1, kLdI_2, kLdI_3, kStI_0, kStI_1, kLdL_e, kStL_e, kLdR_e, kStR_e, kFld_e, kNth_0, kNth_s, kPut_e, fit_I, fit_Z, fit_B, fit_C, fit_A, fit_O, Option.toList_some, Option.toList_none, List.cons_append, List.nil_append, true_and, and_true, List.set_cons_zero, List.set_cons_succ, st_same, Int.toNat_natCast, Int.cast_ofNat_Int, Nat.zero_add, Nat.reduceAdd, kRcv_1, kRcv_2, kRcv_3, kRcv_0, kRcv_4, kRcv_5, x1.1]
  rw [s_Plan_copyFrom x1 hP (by omega) (by omega) x2 x3 x4 (pF_can s) (pG_can s) (pH_can s)]
  have e3 : (setPs σ (V + 2 + 4 * nx) s).1 V = some (oC 2 [vR (V + 1), vI (nx : Nat), vI (kp : Nat)]) := by
    rw [(setPs_fr σ (V + 2 + 4 * nx) s).1 V (by omega)]
    exact h3
  show kR _ _ _ (setPs σ (V + 2 + 4 * nx) s)
  have hm : (if (6 : Int) < (kp : Int) + 1 then 6 else (kp : Int) + 1) = ((svK kp : Nat) : Int) := by
    unfold svK
    split <;> split <;> omega
  have hn : (((nx : Nat) : Int) + 1) % 6 = (((nx + 1) % 6 : Nat) : Int) := by omega
  simp only [e_Saved_push_18, e_Saved_push_19, e_Saved_push_20, e_Saved_push_23, e_Saved_push_24, e_Saved_push_25, e_Saved_push_27, e_Saved_push_28, e_Saved_push_31, e_Saved_push_32, e_Saved_push_33, e_Saved_push_36, e_Saved_push_37, e_Saved_push_38, e_Saved_push_40, e_Saved_push_43, e_Saved_push_46, kR_l, kR_r, kP_0, kP_i, kP_r, kP_n, kP_s, kP_o, kLen_I, kLen_L, kLen_R, kLdI_0, kLdI_1, kLdI_2, kLdI_3, kStI_0, kStI_1, kLdL_e, kStL_e, kLdR_e, kStR_e, kFld_e, kNth_0, kNth_s, kPut_e, fit_I, fit_Z, fit_B, fit_C, fit_A, fit_O, Option.toList_some, Option.toList_none, List.cons_append, List.nil_append, true_and, and_true, List.set_cons_zero, List.set_cons_succ, st_same, Int.toNat_natCast, Int.cast_ofNat_Int, Nat.zero_add, Nat.reduceAdd, kRcv_1, kRcv_2, kRcv_3, kRcv_0, kRcv_4, kRcv_5, e3, List.length_cons, List.length_nil, st_hp, if_true, hn]
  have fin : Q (.inl none) (am_st (setPs σ (V + 2 + 4 * nx) s) V (oC 2 [vR (V + 1), vI (((nx + 1) % 6 : Nat) : Int), vI (svK kp : Nat)])) := by
    have fr : FrB V (V + 26) σ (am_st (setPs σ (V + 2 + 4 * nx) s) V (oC 2 [vR (V + 1), vI (((nx + 1) % 6 : Nat) : Int), vI (svK kp : Nat)])) := ((setPs_fr _ _ _).wide (by omega) (by omega)).trans ((st_fr _ _ _).wide (by omega) (by omega))
    have f2 : FrB V (V + 1) (setPs σ (V + 2 + 4 * nx) s) (am_st (setPs σ (V + 2 + 4 * nx) s) V (oC 2 [vR (V + 1), vI (((nx + 1) % 6 : Nat) : Int), vI (svK kp : Nat)])) := st_fr _ _ _
    have f1 := setPs_fr σ (V + 2 + 4 * nx) s
    have hnew : PlS (am_st (setPs σ (V + 2 + 4 * nx) s) V (oC 2 [vR (V + 1), vI (((nx + 1) % 6 : Nat) : Int), vI (svK kp : Nat)])) (V + 2 + 4 * nx) s := (setPs_is _ _ _).fr f2 (by omega)
    refine hQ _ ⟨(nx + 1) % 6, by omega, by unfold svK; split <;> omega, by rw [st_hp, if_pos rfl], ⟨F, by rw [st_hp, if_neg (by omega), f1.1 _ (by omega)]; exact h4, h5⟩, fun k hk => ?_, fun i hi => ?_⟩ fr
    · by_cases e : k = nx
      · rw [e]
        exact hnew.x
      · exact ((h6 k hk).fr f1 (by omega)).fr f2 (by omega)
    · unfold svK at hi
      have hsl : slS ((nx + 1) % 6) (svK kp) i = if kp = 6 then (nx + 1 + i) % 6 else (nx + 6 - kp + i) % 6 := by
        unfold slS svK
        split <;> omega
      rw [hsl]
      unfold psH
      by_cases c6 : kp = 6
      · rw [if_pos c6] at hi ⊢
        rw [if_pos c6]
        by_cases c5 : i < 5
        · rw [if_pos c5]
          have h7' := h7 (i + 1) (by omega)
          have e : slS nx kp (i + 1) = (nx + 1 + i) % 6 := by unfold slS; omega
          rw [e] at h7'
          exact (h7'.fr f1 (by omega)).fr f2 (by omega)
        · rw [if_neg c5, show (nx + 1 + i) % 6 = nx by omega]
          exact hnew
      · rw [if_neg c6] at hi ⊢
        rw [if_neg c6]
        by_cases c5 : i < kp
        · rw [if_pos c5]
          have h7' := h7 i c5
          have e : slS nx kp i = (nx + 6 - kp + i) % 6 := rfl
          rw [e] at h7'
          exact (h7'.fr f1 (by omega)).fr f2 (by omega)
        · rw [if_neg c5, show (nx + 6 - kp + i) % 6 = nx by omega]
          exact hnew
  rw [← hm] at fin
  refine ⟨⟨by omega, by omega, by omega, by omega⟩, ?_⟩
  all_goals ((repeat' (first | with_reducible refine And.intro ?_ ?_ | intro _)) <;> first | with_reducible assumption | exact True.intro | with_reducible exact fin | omega | (simp only [inR] at *; omega) | exact fin | with_reducible rfl | rfl | (simp; done) | (exfalso; simp_all; done) | skip)
theorem s_popInto (hI : SavI σ V kp H) (hk : 0 < kp) (hP : PlS σ P s) (hd : P + 4 ≤ V) (hG : G 0 ≤ P)
    (hQ : ∀ σ' : AS, SavI σ' V (kp - 1) H → PlS σ' P (H (kp - 1)) → (∀ a, a < P ∨ P + 4 ≤ a → a ≠ V → σ'.1 a = σ.1 a) → σ'.2 = σ.2 → Q (.inl none) σ') :
    CW G k_Saved_popInto [vR V, vR P] σ Q := by
  obtain ⟨nx, h1, h2, h3, ⟨F, h4, h5⟩, h6, h7⟩ := hI
  have hl : slS nx kp (kp - 1) = (nx + 5) % 6 := by unfold slS; omega
  have hL := h7 (kp - 1) (by omega)
  rw [hl] at hL
  have el : (((nx : Nat) : Int) + 6 - 1) % 6 = (((nx + 5) % 6 : Nat) : Int) := by omega
  simp only [c_Saved_popInto, e_Saved_popInto_0, e_Saved_popInto_1, e_Saved_popInto_4, e_Saved_popInto_6, e_Saved_popInto_7, e_Saved_popInto_8, e_Saved_popInto_9, e_Saved_popInto_11, e_Saved_popInto_12, e_Saved_popInto_13, e_Saved_popInto_14, e_Saved_popInto_15, kR_l, kR_r, kP_0, kP_i, kP_r, kP_n, kP_s, kP_o, kLen_I, kLen_L, kLen_R, kLdI_0, kLdI_1, kLdI_2, kLdI_3, kStI_0, kStI_1, kLdL_e, kStL_e, kLdR_e, kStR_e, kFld_e, kNth_0, kNth_s, kPut_e, fit_I, fit_Z, fit_B, fit_C, fit_A, fit_O, Option.toList_some, Option.toList_none, List.cons_append, List.nil_append, true_and, and_true, List.set_cons_zero, List.set_cons_succ, st_same, Int.toNat_natCast, Int.cast_ofNat_Int, Nat.zero_add, Nat.reduceAdd, kRcv_1, kRcv_2, kRcv_3, kRcv_0, kRcv_4, kRcv_5, h3, el]
  refine ⟨⟨by omega, by omega, by omega, by omega⟩, ?_⟩
  rw [s_planAt h3 h4 h5 (show (nx + 5) % 6 < 6 by omega)]
  simp only [e_Saved_popInto_18, e_Saved_popInto_19, e_Saved_popInto_20, e_Saved_popInto_23, e_Saved_popInto_24, e_Saved_popInto_27, e_Saved_popInto_30, e_Saved_popInto_31, e_Saved_popInto_32, kR_l, kR_r, kP_0, kP_i, kP_r, kP_n, kP_s, kP_o, kLen_I, kLen_L, kLen_R, kLdI_0, kLdI_1, kLdI_2, kLdI_3, kStI_0, kStI_1, kLdL_e, kStL_e, kLdR_e, kStR_e, kFld_e, kNth_0, kNth_s, kPut_e, fit_I, fit_Z, fit_B, fit_C, fit_A, fit_O, Option.toList_some, Option.toList_none, List.cons_append, List.nil_append, true_and, and_true, List.set_cons_zero, List.set_cons_succ, st_same, Int.toNat_natCast, Int.cast_ofNat_Int, Nat.zero_add, Nat.reduceAdd, kRcv_1, kRcv_2, kRcv_3, kRcv_0, kRcv_4, kRcv_5, h3, hP.1]
  refine ⟨by unfold inR; omega, (fun h => by first | exact absurd h (by omega) | exact absurd trivial h | (exfalso; simp_all; done)), fun _ => ?_⟩
  rw [s_Plan_copyFrom hP hL (by omega) (by omega) (pF_can s) (pG_can s) (pH_can s) (pF_can _) (pG_can _) (pH_can _)]
  have e3 : (setPs σ P (H (kp - 1))).1 V = some (oC 2 [vR (V + 1), vI (nx : Nat), vI (kp : Nat)]) := by
    rw [(setPs_fr σ P (H (kp - 1))).1 V (by omega)]
    exact h3
  show kR _ _ _ (setPs σ P (H (kp - 1)))
  have e4 : ((kp : Nat) : Int) - 1 = ((kp - 1 : Nat) : Int) := by omega
  have f1 := setPs_fr σ P (H (kp - 1))
  have f2 := st_fr (setPs σ P (H (kp - 1))) V (oC 2 [vR (V + 1), vI (((nx + 5) % 6 : Nat) : Int), vI ((kp - 1 : Nat) : Int)])
  have fin := hQ (am_st (setPs σ P (H (kp - 1))) V (oC 2 [vR (V + 1), vI (((nx + 5) % 6 : Nat) : Int), vI ((kp - 1 : Nat) : Int)])) ⟨(nx + 5) % 6, by omega, by omega, by rw [st_hp, if_pos rfl], ⟨F, by rw [st_hp, if_neg (by omega), f1.1 _ (by omega)]; exact h4, h5⟩, fun k hk => ((h6 k hk).fr f1 (by omega)).fr f2 (by omega), fun i hi => by
      have h7' := h7 i (by omega)
      have e : slS ((nx + 5) % 6) (kp - 1) i = slS nx kp i := by unfold slS; omega
      rw [e]
      exact (h7'.fr f1 (by omega)).fr f2 (by omega)⟩ ((setPs_is _ _ _).fr f2 (by omega)) (fun a ha hne => by rw [f2.1 a (by omega), f1.1 a (by omega)]) rfl
  clear hQ
  simp only [e_Saved_popInto_35, e_Saved_popInto_36, e_Saved_popInto_37, e_Saved_popInto_40, e_Saved_popInto_41, e_Saved_popInto_42, e_Saved_popInto_45, e_Saved_popInto_46, e_Saved_popInto_47, e_Saved_popInto_50, kR_l, kR_r, kP_0, kP_i, kP_r, kP_n, kP_s, kP_o, kLen_I, kLen_L, kLen_R, kLdI_0, kLdI_1, kLdI_2, kLdI_3, kStI_0, kStI_1, kLdL_e, kStL_e, kLdR_e, kStR_e, kFld_e, kNth_0, kNth_s, kPut_e, fit_I, fit_Z, fit_B, fit_C, fit_A, fit_O, Option.toList_some, Option.toList_none, List.cons_append, List.nil_append, true_and, and_true, List.set_cons_zero, List.set_cons_succ, st_same, Int.toNat_natCast, Int.cast_ofNat_Int, Nat.zero_add, Nat.reduceAdd, kRcv_1, kRcv_2, kRcv_3, kRcv_0, kRcv_4, kRcv_5, e3, List.length_cons, List.length_nil, st_hp, if_true, e4]
  all_goals ((repeat' (first | with_reducible refine And.intro ?_ ?_ | intro _)) <;> first | with_reducible assumption | exact True.intro | with_reducible exact fin | omega | (simp only [inR] at *; omega) | exact fin | with_reducible rfl | rfl | (simp; done) | (exfalso; simp_all; done) | skip)
end SAV
/-- the reference's own saved states -/
def pastS (A3 : Nat → Int) (i : Nat) : Nat → Int := fun j => if j < 253 then A3 (253 * i + j) else 0
theorem pastS_Tl (A3 : Nat → Int) (i : Nat) : Tl (pastS A3 i) := fun k hk => if_neg (by omega)
theorem past_push {now past : Nat → Int} {kp : Nat} (hkp : kp ≤ 6) (hT : Tl now) {i : Nat} (hi : i < svK kp) : pastS (svF now past kp) i = psH kp (pastS past) now i := by
  funext j
  unfold psH pastS svF
  unfold svK at hi
  by_cases hj : j < 253
  · rw [if_pos hj]
    by_cases c : kp = 6
    · rw [if_pos c] at hi ⊢
      rw [if_pos c]
      unfold cpF shP
      by_cases c5 : i < 5
      · rw [if_pos c5, if_neg (by omega), if_pos (by omega), if_pos hj, show 253 * i + j + 253 = 253 * (i + 1) + j by omega]
      · rw [if_neg c5, if_pos (by omega)]
        exact congrArg now (by omega)
    · rw [if_neg c] at hi ⊢
      rw [if_neg c]
      unfold cpF
      by_cases c5 : i < kp
      · rw [if_pos c5, if_neg (by omega), if_pos hj]
      · rw [if_neg c5, if_pos (by omega)]
        exact congrArg now (by omega)
  · rw [if_neg hj]
    have hz := hT j (by omega)
    by_cases c : kp = 6
    · rw [if_pos c]
      by_cases c5 : i < 5
      · rw [if_pos c5, if_neg hj]
      · rw [if_neg c5, hz]
    · rw [if_neg c]
      by_cases c5 : i < kp
      · rw [if_pos c5, if_neg hj]
      · rw [if_neg c5, hz]
theorem past_undo {now past : Nat → Int} {k : Nat} (hT : Tl now) : cpF past (253 * k) now 0 253 = pastS past k := by
  funext j
  unfold cpF pastS
  by_cases hj : j < 253
  · rw [if_pos (by omega), if_pos hj]
    exact congrArg past (by omega)
  · rw [if_neg (by omega), if_neg hj]
    exact hT j (by omega)
