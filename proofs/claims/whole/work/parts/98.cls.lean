/-! THE CLASS: what its cells hold; what is saved, what is required -/
theorem setWy_fr (σ : AS) (W : Nat) (m : Nat → Int) (A : Nat → Nat → Int) : FrB W (W + 9) σ (setWy σ W m A) := ⟨fun a ha => setWy_out (by omega), rfl⟩
theorem IsWy.fr {lo hi W : Nat} {σ σ' : AS} {m : Nat → Int} {A : Nat → Nat → Int} (h : IsWy σ W m A) (k : FrB lo hi σ σ') (hd : W + 9 ≤ lo ∨ hi ≤ W) : IsWy σ' W m A := ⟨by rw [k.1 W (by omega)]; exact h.1, fun i h1 h2 => by rw [k.1 (W + i) (by omega)]; exact h.2 i h1 h2⟩
theorem IsMd.fr {lo hi W : Nat} {σ σ' : AS} {m : Nat → Int} {A : Nat → Nat → Int} (h : IsMd σ W m A) (k : FrB lo hi σ σ') (hd : W + 12 ≤ lo ∨ hi ≤ W) : IsMd σ' W m A := ⟨by rw [k.1 W (by omega)]; exact h.1, fun i h1 h2 => by rw [k.1 (W + i) (by omega)]; exact h.2 i h1 h2⟩
def StI (G : Nat → Nat) (σ : AS) : Prop := SD G σ ∧ G 2 < G 0 ∧ G 3 < G 0 ∧ WdS G σ
theorem StI.fr {G : Nat → Nat} {lo hi : Nat} {σ σ' : AS} (h : StI G σ) (k : FrB lo hi σ σ') (hG : G 0 ≤ lo) : StI G σ' := ⟨⟨by rw [k.1 _ (by have := h.2.1; omega)]; exact h.1.1, by rw [k.1 _ (by have := h.2.2.1; omega)]; exact h.1.2⟩, h.2.1, h.2.2.1, h.2.2.2.away (fun a ha => k.1 a (by omega))⟩
def OrI (σ : AS) (O n : Nat) (t : Nat → Int) : Prop := (∃ a b d w : Int, σ.1 O = some (oOr O n a b d w)) ∧ σ.1 (O + 1) = some (oI 0 60 t)
theorem OrI.fr {lo hi O n : Nat} {t : Nat → Int} {σ σ' : AS} (h : OrI σ O n t) (k : FrB lo hi σ σ') (hd : O + 2 ≤ lo ∨ hi ≤ O) : OrI σ' O n t := by
  obtain ⟨⟨a, b, d, w, h1⟩, h2⟩ := h
  exact ⟨⟨a, b, d, w, by rw [k.1 O (by omega)]; exact h1⟩, by rw [k.1 (O + 1) (by omega)]; exact h2⟩
def WyI (σ : AS) (W : Nat) : Prop := ∃ (m : Nat → Int) (A : Nat → Nat → Int), IsWy σ W m A
theorem WyI.fr {lo hi W : Nat} {σ σ' : AS} (h : WyI σ W) (k : FrB lo hi σ σ') (hd : W + 9 ≤ lo ∨ hi ≤ W) : WyI σ' W := by
  obtain ⟨m, A, h1⟩ := h
  exact ⟨m, A, h1.fr k hd⟩
def CpC (σ : AS) (B : Nat) : Prop := σ.1 B = some (oC 4 [vR (B + 1), vR (B + 5), vR (B + 9), vR (B + 35), vR (B + 37)])
def ClsI (G : Nat → Nat) (σ : AS) (B : Nat) (s : Nat → Int) (kp : Nat) (p : Nat → Int) (n : Nat) (t : Nat → Int) : Prop := CpC σ B ∧ PlS σ (B + 1) s ∧ PlX σ (B + 5) ∧ SavI σ (B + 9) kp (pastS p) ∧ OrI σ (B + 35) n t ∧ WyI σ (B + 37) ∧ StI G σ
def GdI (s : Nat → Int) (kp : Nat) (p : Nat → Int) (n : Nat) (t : Nat → Int) : Prop := Good s ∧ kp ≤ 6 ∧ (∀ i, i < kp → Good (pastS p i)) ∧ n ≤ 60 ∧ TxOK t
section CLS
variable {G : Nat → Nat} {σ σ' : AS} {Q : (Option AV ⊕ Nat) → AS → Prop} {B kp kp' n n' : Nat} {s s' p p' t t' : Nat → Int}
theorem CpC.fr {lo hi : Nat} (h : CpC σ B) (k : FrB lo hi σ σ') (hd : B + 1 ≤ lo) : CpC σ' B := by
  unfold CpC at h ⊢
  rw [k.1 B (by omega)]
  exact h
theorem ClsI.plan (h : ClsI G σ B s kp p n t) (hG : G 0 ≤ B) (k : FrB (B + 1) (B + 5) σ σ') (h2 : PlS σ' (B + 1) s') : ClsI G σ' B s' kp p n t := by
  obtain ⟨c1, c2, c3, c4, c5, c6, c7⟩ := h
  exact ⟨c1.fr k (by omega), h2, c3.fr k (by omega), c4.fr k (by omega), c5.fr k (by omega), c6.fr k (by omega), c7.fr k (by omega)⟩
theorem ClsI.trial (h : ClsI G σ B s kp p n t) (hG : G 0 ≤ B) (k : FrB (B + 5) (B + 9) σ σ') (h2 : PlX σ' (B + 5)) : ClsI G σ' B s kp p n t := by
  obtain ⟨c1, c2, c3, c4, c5, c6, c7⟩ := h
  exact ⟨c1.fr k (by omega), c2.fr k (by omega), h2, c4.fr k (by omega), c5.fr k (by omega), c6.fr k (by omega), c7.fr k (by omega)⟩
theorem ClsI.sav (h : ClsI G σ B s kp p n t) (hG : G 0 ≤ B) (k : FrB (B + 9) (B + 35) σ σ') (h2 : SavI σ' (B + 9) kp' (pastS p')) : ClsI G σ' B s kp' p' n t := by
  obtain ⟨c1, c2, c3, c4, c5, c6, c7⟩ := h
  exact ⟨c1.fr k (by omega), c2.fr k (by omega), c3.fr k (by omega), h2, c5.fr k (by omega), c6.fr k (by omega), c7.fr k (by omega)⟩
theorem ClsI.ord (h : ClsI G σ B s kp p n t) (hG : G 0 ≤ B) (k : FrB (B + 35) (B + 37) σ σ') (h2 : OrI σ' (B + 35) n' t') : ClsI G σ' B s kp p n' t' := by
  obtain ⟨c1, c2, c3, c4, c5, c6, c7⟩ := h
  exact ⟨c1.fr k (by omega), c2.fr k (by omega), c3.fr k (by omega), c4.fr k (by omega), h2, c6.fr k (by omega), c7.fr k (by omega)⟩
theorem ClsI.way (h : ClsI G σ B s kp p n t) (hG : G 0 ≤ B) (m : Nat → Int) (A : Nat → Nat → Int) : ClsI G (setWy σ (B + 37) m A) B s kp p n t := by
  have k := setWy_fr σ (B + 37) m A
  obtain ⟨c1, c2, c3, c4, c5, c6, c7⟩ := h
  exact ⟨c1.fr k (by omega), c2.fr k (by omega), c3.fr k (by omega), c4.fr k (by omega), c5.fr k (by omega), ⟨m, A, setWy_is _ _ _ _⟩, c7.fr k (by omega)⟩
theorem ClsI.th (h : ClsI G σ B s kp p n t) : ClsI G (am_th σ) B s kp p n t := h
theorem way_id {W : Nat} {m : Nat → Int} {A : Nat → Nat → Int} {k : Nat} {as : List AV} (hy : IsWy σ W m A) (h : CW G k as (setWy σ W m A) Q) : CW G k as σ Q := by
  rw [setWy_id hy] at h
  exact h
theorem SavI.cg {V : Nat} {H H' : Nat → Nat → Int} (h : SavI σ V kp H) (e : ∀ i, i < kp → H' i = H i) : SavI σ V kp H' := by
  obtain ⟨nx, h1, h2, h3, h4, h5, h6⟩ := h
  exact ⟨nx, h1, h2, h3, h4, h5, fun i hi => by rw [e i hi]; exact h6 i hi⟩
theorem GdI.push (h : GdI s kp p n t) (h' : Good s') : GdI s' (svK kp) (svF s p kp) n t := by
  obtain ⟨g1, g2, g3, g4, g5⟩ := h
  refine ⟨h', by unfold svK; split <;> omega, fun i hi => ?_, g4, g5⟩
  rw [past_push g2 g1.2.1 hi]
  unfold psH
  unfold svK at hi
  split
  · split
    · exact g3 _ (by omega)
    · exact g1
  · split
    · exact g3 _ (by omega)
    · exact g1
theorem v_push (hC : ClsI G σ B s kp p n t) (hI : GdI s kp p n t) (hG : G 0 ≤ B)
    (hQ : ∀ σ' : AS, ClsI G σ' B s (svK kp) (svF s p kp) n t → FrB (B + 9) (B + 35) σ σ' → Q (.inl none) σ') :
    CW G k_Saved_push [vR (B + 9), vR (B + 1)] σ Q :=
  s_push hC.2.2.2.1 hC.2.1 (by omega) (by omega) (fun σ' h1 h2 => hQ σ' (hC.sav hG h2 (h1.cg (fun i hi => past_push hI.2.1 hI.1.2.1 hi))) h2)
theorem hasC_R {r : Int} (hC : ClsI G σ B s kp p n t) (hI : GdI s kp p n t) (hr : inR r) : CW G k_Plan_hasChamber [vR (B + 1), vI r] σ Q = Q (.inl (some (vI (thM s r)))) σ := by
  rw [s_Plan_hasChamber hC.2.1 hI.1.bx hr, hasB_th]
theorem q_Ch1 {r : Int} (hC : ClsI G σ B s kp p n t) (hI : GdI s kp p n t) (hr : inR r) (h : thM s r = 1) : CW G k_Cp_requireChamber [vR B, vI r] σ Q = Q (.inl none) σ := by
  refine CW.det' fun R hR => ?_
  have hB : σ.1 B = _ := hC.1
  simp only [c_Cp_requireChamber, e_Cp_requireChamber_0, e_Cp_requireChamber_1, e_Cp_requireChamber_4, e_Cp_requireChamber_5, kR_l, kR_r, kP_0, kP_i, kP_r, kP_n, kP_s, kP_o, kLen_I, kLen_L, kLen_R, kLdI_0, kLdI_1, kLdI_2, kLdI_3, kStI_0, kStI_1, kLdL_e, kStL_e, kLdR_e, kStR_e, kFld_e, kNth_0, kNth_s, kPut_e, fit_I, fit_Z, fit_B, fit_C, fit_A, fit_O, Option.toList_some, Option.toList_none, List.cons_append, List.nil_append, true_and, and_true, List.set_cons_zero, List.set_cons_succ, st_same, Int.toNat_natCast, Int.cast_ofNat_Int, Nat.zero_add, Nat.reduceAdd, kRcv_1, kRcv_2, kRcv_3, kRcv_0, kRcv_4, kRcv_5, hB, hC.2.1.1]
  rw [hasC_R hC hI hr, h]
  simp only [e_Cp_requireChamber_8, e_Cp_requireChamber_11, e_Cp_requireChamber_22, kR_l, kR_r, kP_0, kP_i, kP_r, kP_n, kP_s, kP_o, kLen_I, kLen_L, kLen_R, kLdI_0, kLdI_1, kLdI_2, kLdI_3, kStI_0, kStI_1, kLdL_e, kStL_e, kLdR_e, kStR_e, kFld_e, kNth_0, kNth_s, kPut_e, fit_I, fit_Z, fit_B, fit_C, fit_A, fit_O, Option.toList_some, Option.toList_none, List.cons_append, List.nil_append, true_and, and_true, List.set_cons_zero, List.set_cons_succ, st_same, Int.toNat_natCast, Int.cast_ofNat_Int, Nat.zero_add, Nat.reduceAdd, kRcv_1, kRcv_2, kRcv_3, kRcv_0, kRcv_4, kRcv_5]
  all_goals ((repeat' (first | with_reducible refine And.intro ?_ ?_ | intro _)) <;> first | with_reducible assumption | exact True.intro | with_reducible exact hR | omega | (simp only [inR] at *; omega) | exact hR | with_reducible rfl | rfl | (simp; done) | (exfalso; simp_all; done) | skip)
theorem q_Ch0 {r : Int} (hC : ClsI G σ B s kp p n t) (hI : GdI s kp p n t) (hr : inR r) (h : thM s r = 0) : CW G k_Cp_requireChamber [vR B, vI r] σ Q = Q (.inr 2) (am_th σ) := by
  refine CW.det' fun R hR => ?_
  have hB : σ.1 B = _ := hC.1
  simp only [c_Cp_requireChamber, e_Cp_requireChamber_0, e_Cp_requireChamber_1, e_Cp_requireChamber_4, e_Cp_requireChamber_5, kR_l, kR_r, kP_0, kP_i, kP_r, kP_n, kP_s, kP_o, kLen_I, kLen_L, kLen_R, kLdI_0, kLdI_1, kLdI_2, kLdI_3, kStI_0, kStI_1, kLdL_e, kStL_e, kLdR_e, kStR_e, kFld_e, kNth_0, kNth_s, kPut_e, fit_I, fit_Z, fit_B, fit_C, fit_A, fit_O, Option.toList_some, Option.toList_none, List.cons_append, List.nil_append, true_and, and_true, List.set_cons_zero, List.set_cons_succ, st_same, Int.toNat_natCast, Int.cast_ofNat_Int, Nat.zero_add, Nat.reduceAdd, kRcv_1, kRcv_2, kRcv_3, kRcv_0, kRcv_4, kRcv_5, hB, hC.2.1.1]
  rw [hasC_R hC hI hr, h]
  simp only [e_Cp_requireChamber_8, e_Cp_requireChamber_11, e_Cp_requireChamber_22, kR_l, kR_r, kP_0, kP_i, kP_r, kP_n, kP_s, kP_o, kLen_I, kLen_L, kLen_R, kLdI_0, kLdI_1, kLdI_2, kLdI_3, kStI_0, kStI_1, kLdL_e, kStL_e, kLdR_e, kStR_e, kFld_e, kNth_0, kNth_s, kPut_e, fit_I, fit_Z, fit_B, fit_C, fit_A, fit_O, Option.toList_some, Option.toList_none, List.cons_append, List.nil_append, true_and, and_true, List.set_cons_zero, List.set_cons_succ, st_same, Int.toNat_natCast, Int.cast_ofNat_Int, Nat.zero_add, Nat.reduceAdd, kRcv_1, kRcv_2, kRcv_3, kRcv_0, kRcv_4, kRcv_5]
  all_goals ((repeat' (first | with_reducible refine And.intro ?_ ?_ | intro _)) <;> first | with_reducible assumption | exact True.intro | with_reducible exact hR | omega | (simp only [inR] at *; omega) | exact hR | with_reducible rfl | rfl | (simp; done) | (exfalso; simp_all; done) | skip)
theorem q_Two0 {a b : Int} (hC : ClsI G σ B s kp p n t) (hI : GdI s kp p n t) (ha : inR a) (hb : inR b) (h : mayM s a b 1 = 0) : CW G k_Cp_requireTwoChambers [vR B, vI a, vI b] σ Q = Q (.inl none) σ := by
  refine CW.det' fun R hR => ?_
  have hB : σ.1 B = _ := hC.1
  have hm := mayM_0 h
  simp only [c_Cp_requireTwoChambers, e_Cp_requireTwoChambers_0, e_Cp_requireTwoChambers_1, e_Cp_requireTwoChambers_2, kR_l, kR_r, kP_0, kP_i, kP_r, kP_n, kP_s, kP_o, kLen_I, kLen_L, kLen_R, kLdI_0, kLdI_1, kLdI_2, kLdI_3, kStI_0, kStI_1, kLdL_e, kStL_e, kLdR_e, kStR_e, kFld_e, kNth_0, kNth_s, kPut_e, fit_I, fit_Z, fit_B, fit_C, fit_A, fit_O, Option.toList_some, Option.toList_none, List.cons_append, List.nil_append, true_and, and_true, List.set_cons_zero, List.set_cons_succ, st_same, Int.toNat_natCast, Int.cast_ofNat_Int, Nat.zero_add, Nat.reduceAdd, kRcv_1, kRcv_2, kRcv_3, kRcv_0, kRcv_4, kRcv_5, hB]
  rw [q_Ch1 hC hI ha hm.1]
  simp only [e_Cp_requireTwoChambers_5, e_Cp_requireTwoChambers_6, e_Cp_requireTwoChambers_7, kR_l, kR_r, kP_0, kP_i, kP_r, kP_n, kP_s, kP_o, kLen_I, kLen_L, kLen_R, kLdI_0, kLdI_1, kLdI_2, kLdI_3, kStI_0, kStI_1, kLdL_e, kStL_e, kLdR_e, kStR_e, kFld_e, kNth_0, kNth_s, kPut_e, fit_I, fit_Z, fit_B, fit_C, fit_A, fit_O, Option.toList_some, Option.toList_none, List.cons_append, List.nil_append, true_and, and_true, List.set_cons_zero, List.set_cons_succ, st_same, Int.toNat_natCast, Int.cast_ofNat_Int, Nat.zero_add, Nat.reduceAdd, kRcv_1, kRcv_2, kRcv_3, kRcv_0, kRcv_4, kRcv_5, hB]
  rw [q_Ch1 hC hI hb hm.2.1]
  simp only [e_Cp_requireTwoChambers_10, e_Cp_requireTwoChambers_11, e_Cp_requireTwoChambers_12, e_Cp_requireTwoChambers_15, e_Cp_requireTwoChambers_26, kR_l, kR_r, kP_0, kP_i, kP_r, kP_n, kP_s, kP_o, kLen_I, kLen_L, kLen_R, kLdI_0, kLdI_1, kLdI_2, kLdI_3, kStI_0, kStI_1, kLdL_e, kStL_e, kLdR_e, kStR_e, kFld_e, kNth_0, kNth_s, kPut_e, fit_I, fit_Z, fit_B, fit_C, fit_A, fit_O, Option.toList_some, Option.toList_none, List.cons_append, List.nil_append, true_and, and_true, List.set_cons_zero, List.set_cons_succ, st_same, Int.toNat_natCast, Int.cast_ofNat_Int, Nat.zero_add, Nat.reduceAdd, kRcv_1, kRcv_2, kRcv_3, kRcv_0, kRcv_4, kRcv_5]
  refine ⟨⟨ha, hb⟩, fun _ => hR, fun z => absurd hm.2.2.1 z⟩
theorem q_Two1 {a b : Int} (hC : ClsI G σ B s kp p n t) (hI : GdI s kp p n t) (ha : inR a) (hb : inR b) (h : mayM s a b 1 = 1) : CW G k_Cp_requireTwoChambers [vR B, vI a, vI b] σ Q = Q (.inr 2) (am_th σ) := by
  refine CW.det' fun R hR => ?_
  have hB : σ.1 B = _ := hC.1
  have t1 := thM_bd s a
  have t2 := thM_bd s b
  have h0 : thM s a = 0 ∨ thM s b = 0 := by
    refine Classical.byContradiction (fun z => ?_)
    unfold mayM at h
    rw [if_neg z] at h
    split at h <;> omega
  simp only [c_Cp_requireTwoChambers, e_Cp_requireTwoChambers_0, e_Cp_requireTwoChambers_1, e_Cp_requireTwoChambers_2, kR_l, kR_r, kP_0, kP_i, kP_r, kP_n, kP_s, kP_o, kLen_I, kLen_L, kLen_R, kLdI_0, kLdI_1, kLdI_2, kLdI_3, kStI_0, kStI_1, kLdL_e, kStL_e, kLdR_e, kStR_e, kFld_e, kNth_0, kNth_s, kPut_e, fit_I, fit_Z, fit_B, fit_C, fit_A, fit_O, Option.toList_some, Option.toList_none, List.cons_append, List.nil_append, true_and, and_true, List.set_cons_zero, List.set_cons_succ, st_same, Int.toNat_natCast, Int.cast_ofNat_Int, Nat.zero_add, Nat.reduceAdd, kRcv_1, kRcv_2, kRcv_3, kRcv_0, kRcv_4, kRcv_5, hB]
  by_cases c : thM s a = 0
  · rw [q_Ch0 hC hI ha c]
    exact hR
  · rw [q_Ch1 hC hI ha (by omega)]
    simp only [e_Cp_requireTwoChambers_5, e_Cp_requireTwoChambers_6, e_Cp_requireTwoChambers_7, kR_l, kR_r, kP_0, kP_i, kP_r, kP_n, kP_s, kP_o, kLen_I, kLen_L, kLen_R, kLdI_0, kLdI_1, kLdI_2, kLdI_3, kStI_0, kStI_1, kLdL_e, kStL_e, kLdR_e, kStR_e, kFld_e, kNth_0, kNth_s, kPut_e, fit_I, fit_Z, fit_B, fit_C, fit_A, fit_O, Option.toList_some, Option.toList_none, List.cons_append, List.nil_append, true_and, and_true, List.set_cons_zero, List.set_cons_succ, st_same, Int.toNat_natCast, Int.cast_ofNat_Int, Nat.zero_add, Nat.reduceAdd, kRcv_1, kRcv_2, kRcv_3, kRcv_0, kRcv_4, kRcv_5, hB]
    rw [q_Ch0 hC hI hb (by omega)]
    exact hR
theorem q_Two2 {a b : Int} (hC : ClsI G σ B s kp p n t) (hI : GdI s kp p n t) (ha : inR a) (hb : inR b) (h : mayM s a b 1 = 2) : CW G k_Cp_requireTwoChambers [vR B, vI a, vI b] σ Q = Q (.inr 0) (am_th σ) := by
  refine CW.det' fun R hR => ?_
  have hB : σ.1 B = _ := hC.1
  have t1 := thM_bd s a
  have t2 := thM_bd s b
  have h0 : ¬ (thM s a = 0 ∨ thM s b = 0) ∧ a = b := by
    unfold mayM at h
    split at h
    · omega
    · rename_i hn
      split at h
      · rename_i hc
        exact ⟨hn, hc.elim id (fun z => absurd z (by omega))⟩
      · omega
  simp only [c_Cp_requireTwoChambers, e_Cp_requireTwoChambers_0, e_Cp_requireTwoChambers_1, e_Cp_requireTwoChambers_2, kR_l, kR_r, kP_0, kP_i, kP_r, kP_n, kP_s, kP_o, kLen_I, kLen_L, kLen_R, kLdI_0, kLdI_1, kLdI_2, kLdI_3, kStI_0, kStI_1, kLdL_e, kStL_e, kLdR_e, kStR_e, kFld_e, kNth_0, kNth_s, kPut_e, fit_I, fit_Z, fit_B, fit_C, fit_A, fit_O, Option.toList_some, Option.toList_none, List.cons_append, List.nil_append, true_and, and_true, List.set_cons_zero, List.set_cons_succ, st_same, Int.toNat_natCast, Int.cast_ofNat_Int, Nat.zero_add, Nat.reduceAdd, kRcv_1, kRcv_2, kRcv_3, kRcv_0, kRcv_4, kRcv_5, hB]
  rw [q_Ch1 hC hI ha (by omega)]
  simp only [e_Cp_requireTwoChambers_5, e_Cp_requireTwoChambers_6, e_Cp_requireTwoChambers_7, kR_l, kR_r, kP_0, kP_i, kP_r, kP_n, kP_s, kP_o, kLen_I, kLen_L, kLen_R, kLdI_0, kLdI_1, kLdI_2, kLdI_3, kStI_0, kStI_1, kLdL_e, kStL_e, kLdR_e, kStR_e, kFld_e, kNth_0, kNth_s, kPut_e, fit_I, fit_Z, fit_B, fit_C, fit_A, fit_O, Option.toList_some, Option.toList_none, List.cons_append, List.nil_append, true_and, and_true, List.set_cons_zero, List.set_cons_succ, st_same, Int.toNat_natCast, Int.cast_ofNat_Int, Nat.zero_add, Nat.reduceAdd, kRcv_1, kRcv_2, kRcv_3, kRcv_0, kRcv_4, kRcv_5, hB]
  rw [q_Ch1 hC hI hb (by omega)]
  simp only [e_Cp_requireTwoChambers_10, e_Cp_requireTwoChambers_11, e_Cp_requireTwoChambers_12, e_Cp_requireTwoChambers_15, e_Cp_requireTwoChambers_26, kR_l, kR_r, kP_0, kP_i, kP_r, kP_n, kP_s, kP_o, kLen_I, kLen_L, kLen_R, kLdI_0, kLdI_1, kLdI_2, kLdI_3, kStI_0, kStI_1, kLdL_e, kStL_e, kLdR_e, kStR_e, kFld_e, kNth_0, kNth_s, kPut_e, fit_I, fit_Z, fit_B, fit_C, fit_A, fit_O, Option.toList_some, Option.toList_none, List.cons_append, List.nil_append, true_and, and_true, List.set_cons_zero, List.set_cons_succ, st_same, Int.toNat_natCast, Int.cast_ofNat_Int, Nat.zero_add, Nat.reduceAdd, kRcv_1, kRcv_2, kRcv_3, kRcv_0, kRcv_4, kRcv_5]
  refine ⟨⟨ha, hb⟩, fun z => absurd h0.2 z, fun _ => hR⟩
theorem q_Sq0 {x y : Int} (hx : inR x) (hy : inR y) (h : 0 ≤ x ∧ x ≤ 15 ∧ 0 ≤ y ∧ y ≤ 11) : CW G k_Cp_requireSquare [vI x, vI y] σ Q = Q (.inl none) σ := by
  refine CW.det' fun R hR => ?_
  simp only [c_Cp_requireSquare, e_Cp_requireSquare_0, e_Cp_requireSquare_1, e_Cp_requireSquare_4, e_Cp_requireSquare_5, e_Cp_requireSquare_7, e_Cp_requireSquare_10, e_Cp_requireSquare_11, e_Cp_requireSquare_14, e_Cp_requireSquare_15, e_Cp_requireSquare_17, e_Cp_requireSquare_20, e_Cp_requireSquare_31, kR_l, kR_r, kP_0, kP_i, kP_r, kP_n, kP_s, kP_o, kLen_I, kLen_L, kLen_R, kLdI_0, kLdI_1, kLdI_2, kLdI_3, kStI_0, kStI_1, kLdL_e, kStL_e, kLdR_e, kStR_e, kFld_e, kNth_0, kNth_s, kPut_e, fit_I, fit_Z, fit_B, fit_C, fit_A, fit_O, Option.toList_some, Option.toList_none, List.cons_append, List.nil_append, true_and, and_true, List.set_cons_zero, List.set_cons_succ, st_same, Int.toNat_natCast, Int.cast_ofNat_Int, Nat.zero_add, Nat.reduceAdd, kRcv_1, kRcv_2, kRcv_3, kRcv_0, kRcv_4, kRcv_5]
  all_goals ((repeat' (first | with_reducible refine And.intro ?_ ?_ | intro _)) <;> first | with_reducible assumption | exact True.intro | with_reducible exact hR | omega | (simp only [inR] at *; omega) | exact hR | with_reducible rfl | rfl | (simp; done) | (exfalso; simp_all; done) | skip)
theorem q_Sq1 {x y : Int} (hx : inR x) (hy : inR y) (h : ¬ (0 ≤ x ∧ x ≤ 15 ∧ 0 ≤ y ∧ y ≤ 11)) : CW G k_Cp_requireSquare [vI x, vI y] σ Q = Q (.inr 0) (am_th σ) := by
  refine CW.det' fun R hR => ?_
  simp only [c_Cp_requireSquare, e_Cp_requireSquare_0, e_Cp_requireSquare_1, e_Cp_requireSquare_4, e_Cp_requireSquare_5, e_Cp_requireSquare_7, e_Cp_requireSquare_10, e_Cp_requireSquare_11, e_Cp_requireSquare_14, e_Cp_requireSquare_15, e_Cp_requireSquare_17, e_Cp_requireSquare_20, e_Cp_requireSquare_31, kR_l, kR_r, kP_0, kP_i, kP_r, kP_n, kP_s, kP_o, kLen_I, kLen_L, kLen_R, kLdI_0, kLdI_1, kLdI_2, kLdI_3, kStI_0, kStI_1, kLdL_e, kStL_e, kLdR_e, kStR_e, kFld_e, kNth_0, kNth_s, kPut_e, fit_I, fit_Z, fit_B, fit_C, fit_A, fit_O, Option.toList_some, Option.toList_none, List.cons_append, List.nil_append, true_and, and_true, List.set_cons_zero, List.set_cons_succ, st_same, Int.toNat_natCast, Int.cast_ofNat_Int, Nat.zero_add, Nat.reduceAdd, kRcv_1, kRcv_2, kRcv_3, kRcv_0, kRcv_4, kRcv_5]
  all_goals ((repeat' (first | with_reducible refine And.intro ?_ ?_ | intro _)) <;> first | with_reducible assumption | exact True.intro | with_reducible exact hR | omega | (simp only [inR] at *; omega) | exact hR | with_reducible rfl | rfl | (simp; done) | (exfalso; simp_all; done) | skip)
end CLS
