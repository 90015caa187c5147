/-! THE CLASS'S WAYS: corridors for all; what is not needed is filled -/
theorem setPs_set (σ : AS) (P : Nat) (s s2 : Nat → Int) : setPs (setPs σ P s) P s2 = setPs σ P s2 := setP_setP _ _ _ _ _ _ _ _ _ _
theorem setPs_id {σ : AS} {P : Nat} {s : Nat → Int} (h : PlS σ P s) : setPs σ P s = σ := setP_id h
theorem Good.nx {s : Nat → Int} (hg : Good s) (h : (dnM s 36).1 ≠ -1) : Good (nxS s).1 := by
  have hb := dnM_bd hg.wk 36 (Nat.le_refl _)
  unfold nxS
  exact hg.dgP (by omega) (by omega)
theorem Good.ca {s : Nat → Int} (hg : Good s) : ∀ f, Good (caM f s).2.2 := by
  intro f
  induction f generalizing s with
  | zero => exact hg
  | succ f ih =>
    unfold caM
    by_cases c : (dnM s 36).1 = -1
    · rw [if_pos c]; exact hg
    · rw [if_neg c]; exact ih (hg.nx c)
theorem Good.fl {s : Nat → Int} (hg : Good s) : Good (flS s) := hg.neg (fun j => by
  by_cases c : j < 192 ∧ s j = -1 ∧ ¬ stP s 36 j
  · exact Or.inr ⟨c.1, by omega, Or.inr (flI_t c)⟩
  · exact Or.inl (flI_f c))
theorem fl_sq {s F : Nat → Int} (hF : MkP F (stP s 36)) : csF (pF s) F 0 (-1) (-2) 192 = pF (flS s) ∧ sumTo (fun j => b01 (F j = 0 ∧ pF s j = -1)) 192 = flN s := by
  constructor
  · funext j
    unfold csF pF flS
    by_cases hj : j < 192
    · rw [if_pos hj, if_pos hj]
      by_cases c : stP s 36 j
      · have hFj := (hF j hj).1 c
        rw [flI_f (fun z => z.2.2 c), if_neg (by omega)]
      · have hFj := (hF j hj).2 c
        by_cases c2 : s j = -1
        · rw [flI_t ⟨hj, c2, c⟩, if_pos ⟨hj, hFj, c2⟩]
        · rw [flI_f (fun z => c2 z.2.1), if_neg (fun z => c2 z.2.2)]
    · rw [if_neg (fun z => hj z.1), if_neg hj, if_neg hj]
  · unfold flN
    refine sum_eq 192 (fun j hj => ?_)
    have e : pF s j = s j := if_pos hj
    rw [e]
    by_cases c : stP s 36 j
    · have hFj := (hF j hj).1 c
      rw [cl01_f (fun z => z.2 c), b01_f (by omega)]
    · have hFj := (hF j hj).2 c
      by_cases c2 : s j = -1
      · rw [cl01_t ⟨c2, c⟩, b01_t ⟨hFj, c2⟩]
      · rw [cl01_f (fun z => c2 z.1), b01_f (fun z => c2 z.2)]
section WAL
variable {G : Nat → Nat} {σ : AS} {Q : (Option AV ⊕ Nat) → AS → Prop} {P W : Nat} {s : Nat → Int} {m : Nat → Int} {A : Nat → Nat → Int}
theorem w_digCheapest (hP : PlS σ P s) (hd : P + 4 ≤ W) (hG : G 0 ≤ P) (hg : Good s)
    (hQ0 : (dnM s 36).1 = -1 → ∀ (m' : Nat → Int) (A' : Nat → Nat → Int), Q (.inl (some (vI 0))) (setWy σ W m' A'))
    (hQ1 : (dnM s 36).1 ≠ -1 → ∀ (m' : Nat → Int) (A' : Nat → Nat → Int), Q (.inl (some (vI 1))) (setWy (setPs σ P (nxS s).1) W m' A')) :
    CW G k_Ways_digCheapest [vR W, vR P] (setWy σ W m A) Q := by
  have hGW : G 0 ≤ W := by omega
  simp only [c_Ways_digCheapest, e_Ways_digCheapest_0, e_Ways_digCheapest_1, e_Ways_digCheapest_2, e_Ways_digCheapest_3, e_Ways_digCheapest_4, e_Ways_digCheapest_5, e_Ways_digCheapest_7, e_Ways_digCheapest_8, kR_l, kR_r, kP_0, kP_i, kP_r, kP_n, kP_s, kP_o, kLen_I, kLen_L, kLen_R, kLdI_0, kLdI_1, kLdI_2, kLdI_3, kStI_0, kStI_1, kLdL_e, kStL_e, kLdR_e, kStR_e, kFld_e, kNth_0, kNth_s, kPut_e, fit_I, fit_Z, fit_B, fit_C, fit_A, fit_O, Option.toList_some, Option.toList_none, List.cons_append, List.nil_append, true_and, and_true, List.set_cons_zero, List.set_cons_succ, st_same, Int.toNat_natCast, Int.cast_ofNat_Int, Nat.zero_add, Nat.reduceAdd, kRcv_1, kRcv_2, kRcv_3, kRcv_0, kRcv_4, kRcv_5]
  have key := up (fun a => ∀ m A z6 z7, zI z6 → zI z7 → WP G k_Ways_digCheapest 10 [some (vR W), some (vR P), some (vI (lC s (6 * a))), some (vI (fC s (6 * a))), some (vI (gC s (6 * a))), some (vI (a : Nat)), z6, z7] [] (setWy σ W m A) Q) (n := 6) ?_ ?_
  · exact key m A none none zI_n zI_n
  · intro a ha ih m A z6 z7 h6 h7
    have inner := upF (fun b => ∀ m A z7, zI z7 → WP G k_Ways_digCheapest 23 [some (vR W), some (vR P), some (vI (lC s (6 * a + b))), some (vI (fC s (6 * a + b))), some (vI (gC s (6 * a + b))), some (vI (a : Nat)), some (vI (b : Nat)), z7] [] (setWy σ W m A) Q) (a := a + 1) (n := 6) (by omega) ?_ ?_
    · have i0 := inner m A z7 h7
      have es := dn_skip (s := s) (6 * a) (a + 1) (fun i h1 h2 => by omega)
      have e1 : lC s (6 * a + (a + 1)) = lC s (6 * a) := by unfold lC; rw [es]
      have e2 : fC s (6 * a + (a + 1)) = fC s (6 * a) := by unfold fC; rw [es]
      have e3 : gC s (6 * a + (a + 1)) = gC s (6 * a) := by unfold gC; rw [es]
      rw [e1, e2, e3] at i0
      clear inner ih hQ0 hQ1
      rw [e_Ways_digCheapest_10]
      simp only [e_Ways_digCheapest_12, e_Ways_digCheapest_14, e_Ways_digCheapest_17, e_Ways_digCheapest_19, e_Ways_digCheapest_20, e_Ways_digCheapest_21, kR_l, kR_r, kP_0, kP_i, kP_r, kP_n, kP_s, kP_o, kLen_I, kLen_L, kLen_R, kLdI_0, kLdI_1, kLdI_2, kLdI_3, kStI_0, kStI_1, kLdL_e, kStL_e, kLdR_e, kStR_e, kFld_e, kNth_0, kNth_s, kPut_e, fit_I, fit_Z, fit_B, fit_C, fit_A, fit_O, Option.toList_some, Option.toList_none, List.cons_append, List.nil_append, true_and, and_true, List.set_cons_zero, List.set_cons_succ, st_same, Int.toNat_natCast, Int.cast_ofNat_Int, Nat.zero_add, Nat.reduceAdd, kRcv_1, kRcv_2, kRcv_3, kRcv_0, kRcv_4, kRcv_5, kP_z h6]
      all_goals ((repeat' (first | with_reducible refine And.intro ?_ ?_ | intro _)) <;> first | with_reducible assumption | exact True.intro | with_reducible exact i0 | omega | (simp only [inR] at *; omega) | exact i0 | with_reducible rfl | rfl | (simp; done) | (exfalso; simp_all; done) | skip)
    · intro b hb0 hb ihb m A z7 h7
      have hp := setWy_P (m := m) (A := A) hd hP
      have hbd := rsF_bd hg ha hb
      have hl := lC_bd hg (k := 6 * a + b) (by omega)
      have hs := dn_step hg hb (show a < b by omega)
      clear ih hQ0 hQ1
      rw [e_Ways_digCheapest_23]
      simp (disch := first | assumption | omega | (unfold inR; omega)) only [e_Ways_digCheapest_25, e_Ways_digCheapest_27, e_Ways_digCheapest_30, e_Ways_digCheapest_31, e_Ways_digCheapest_33, e_Ways_digCheapest_35, kR_l, kR_r, kP_0, kP_i, kP_r, kP_n, kP_s, kP_o, kLen_I, kLen_L, kLen_R, kLdI_0, kLdI_1, kLdI_2, kLdI_3, kStI_0, kStI_1, kLdL_e, kStL_e, kLdR_e, kStR_e, kFld_e, kNth_0, kNth_s, kPut_e, fit_I, fit_Z, fit_B, fit_C, fit_A, fit_O, Option.toList_some, Option.toList_none, List.cons_append, List.nil_append, true_and, and_true, List.set_cons_zero, List.set_cons_succ, st_same, Int.toNat_natCast, Int.cast_ofNat_Int, Nat.zero_add, Nat.reduceAdd, kRcv_1, kRcv_2, kRcv_3, kRcv_0, kRcv_4, kRcv_5, setWy_set, Wyo, Wya1, Wyw1, Wya2, Wyw2, Wya3, Wyw3, Wya4, Wyw4, Wya5, Wyw5, Wya6, Wyw6, Wya7, Wyw7, Wya8, Wyw8, Wyp6, Wyp7, Wyp10, Wyp11, Wyp12, Wyp13, Wyp14, Wyp15, hp.1, s_Plan_isWalked hp hg.wd, wdAt_wk]
      refine ⟨⟨by unfold inR; omega, by unfold inR; omega⟩, (fun h => by first | exact absurd h (by omega) | exact absurd trivial h | (exfalso; simp_all; done)), fun _ => ?_⟩
      by_cases hc : 0 < wkM s a b
      · have hr := (hg.2.2.2.2.2 a b ha hb).2 hc
        rw [b01_t hc]
        simp only [e_Ways_digCheapest_38, e_Ways_digCheapest_41, e_Ways_digCheapest_42, e_Ways_digCheapest_43, e_Ways_digCheapest_45, e_Ways_digCheapest_47, kR_l, kR_r, kP_0, kP_i, kP_r, kP_n, kP_s, kP_o, kLen_I, kLen_L, kLen_R, kLdI_0, kLdI_1, kLdI_2, kLdI_3, kStI_0, kStI_1, kLdL_e, kStL_e, kLdR_e, kStR_e, kFld_e, kNth_0, kNth_s, kPut_e, fit_I, fit_Z, fit_B, fit_C, fit_A, fit_O, Option.toList_some, Option.toList_none, List.cons_append, List.nil_append, true_and, and_true, List.set_cons_zero, List.set_cons_succ, st_same, Int.toNat_natCast, Int.cast_ofNat_Int, Nat.zero_add, Nat.reduceAdd, kRcv_1, kRcv_2, kRcv_3, kRcv_0, kRcv_4, kRcv_5, setWy_set, Wyo, Wya1, Wyw1, Wya2, Wyw2, Wya3, Wyw3, Wya4, Wyw4, Wya5, Wyw5, Wya6, Wyw6, Wya7, Wyw7, Wya8, Wyw8, Wyp6, Wyp7, Wyp10, Wyp11, Wyp12, Wyp13, Wyp14, Wyp15]
        refine ⟨by unfold inR; omega, (fun h => by first | exact absurd h (by omega) | exact absurd trivial h | (exfalso; simp_all; done)), fun _ => ?_⟩
        refine w_find hP hd hGW hg ha hb hr.1 hr.2.1 (fun m' A' _ _ _ _ => ?_)
        have nx := fun z hz => ihb m' A' z hz
        clear ihb
        simp only [e_Ways_digCheapest_50, e_Ways_digCheapest_54, e_Ways_digCheapest_56, e_Ways_digCheapest_58, e_Ways_digCheapest_61, e_Ways_digCheapest_62, e_Ways_digCheapest_63, e_Ways_digCheapest_66, e_Ways_digCheapest_68, e_Ways_digCheapest_69, e_Ways_digCheapest_72, e_Ways_digCheapest_74, e_Ways_digCheapest_75, e_Ways_digCheapest_77, e_Ways_digCheapest_78, e_Ways_digCheapest_80, e_Ways_digCheapest_82, e_Ways_digCheapest_85, kR_l, kR_r, kP_0, kP_i, kP_r, kP_n, kP_s, kP_o, kLen_I, kLen_L, kLen_R, kLdI_0, kLdI_1, kLdI_2, kLdI_3, kStI_0, kStI_1, kLdL_e, kStL_e, kLdR_e, kStR_e, kFld_e, kNth_0, kNth_s, kPut_e, fit_I, fit_Z, fit_B, fit_C, fit_A, fit_O, Option.toList_some, Option.toList_none, List.cons_append, List.nil_append, true_and, and_true, List.set_cons_zero, List.set_cons_succ, st_same, Int.toNat_natCast, Int.cast_ofNat_Int, Nat.zero_add, Nat.reduceAdd, kRcv_1, kRcv_2, kRcv_3, kRcv_0, kRcv_4, kRcv_5, kP_z h7]
        by_cases c2 : 0 < rsF s a b ∧ (lC s (6 * a + b) = -1 ∨ rsF s a b < lC s (6 * a + b))
        · rw [(hs.1 ⟨hc, c2⟩).1, (hs.1 ⟨hc, c2⟩).2.1, (hs.1 ⟨hc, c2⟩).2.2] at nx
          generalize rsF s a b = rs at *
          generalize lC s (6 * a + b) = ll at *
          all_goals ((repeat' (first | with_reducible refine And.intro ?_ ?_ | intro _)) <;> first | with_reducible assumption | exact True.intro | with_reducible exact nx _ (zI_s _) | omega | (simp only [inR] at *; omega) | exact nx _ (zI_s _) | with_reducible rfl | rfl | (simp; done) | (exfalso; simp_all; done) | skip)
        · rw [(hs.2 (fun z => c2 z.2)).1, (hs.2 (fun z => c2 z.2)).2.1, (hs.2 (fun z => c2 z.2)).2.2] at nx
          generalize rsF s a b = rs at *
          generalize lC s (6 * a + b) = ll at *
          all_goals ((repeat' (first | with_reducible refine And.intro ?_ ?_ | intro _)) <;> first | with_reducible assumption | exact True.intro | with_reducible exact nx _ (zI_s _) | omega | (simp only [inR] at *; omega) | exact nx _ (zI_s _) | with_reducible rfl | rfl | (simp; done) | (exfalso; simp_all; done) | skip)
      · have nx := fun z hz => ihb m A z hz
        clear ihb
        rw [(hs.2 (fun z => hc z.1)).1, (hs.2 (fun z => hc z.1)).2.1, (hs.2 (fun z => hc z.1)).2.2] at nx
        rw [b01_f hc]
        simp only [e_Ways_digCheapest_38, e_Ways_digCheapest_53, e_Ways_digCheapest_54, e_Ways_digCheapest_56, e_Ways_digCheapest_58, e_Ways_digCheapest_82, e_Ways_digCheapest_85, kR_l, kR_r, kP_0, kP_i, kP_r, kP_n, kP_s, kP_o, kLen_I, kLen_L, kLen_R, kLdI_0, kLdI_1, kLdI_2, kLdI_3, kStI_0, kStI_1, kLdL_e, kStL_e, kLdR_e, kStR_e, kFld_e, kNth_0, kNth_s, kPut_e, fit_I, fit_Z, fit_B, fit_C, fit_A, fit_O, Option.toList_some, Option.toList_none, List.cons_append, List.nil_append, true_and, and_true, List.set_cons_zero, List.set_cons_succ, st_same, Int.toNat_natCast, Int.cast_ofNat_Int, Nat.zero_add, Nat.reduceAdd, kRcv_1, kRcv_2, kRcv_3, kRcv_0, kRcv_4, kRcv_5, kP_z h7]
        all_goals ((repeat' (first | with_reducible refine And.intro ?_ ?_ | intro _)) <;> first | with_reducible assumption | exact True.intro | with_reducible exact nx _ (zI_s _) | omega | (simp only [inR] at *; omega) | exact nx _ (zI_s _) | with_reducible rfl | rfl | (simp; done) | (exfalso; simp_all; done) | skip)
    · intro m A z7 h7
      have nx := ih m A (some (vI ((6 : Nat) : Int))) z7 (zI_s _) h7
      rw [show 6 * (a + 1) = 6 * a + 6 by omega] at nx
      clear ih hQ0 hQ1
      rw [e_Ways_digCheapest_23]
      simp only [e_Ways_digCheapest_25, e_Ways_digCheapest_27, e_Ways_digCheapest_88, e_Ways_digCheapest_91, kR_l, kR_r, kP_0, kP_i, kP_r, kP_n, kP_s, kP_o, kLen_I, kLen_L, kLen_R, kLdI_0, kLdI_1, kLdI_2, kLdI_3, kStI_0, kStI_1, kLdL_e, kStL_e, kLdR_e, kStR_e, kFld_e, kNth_0, kNth_s, kPut_e, fit_I, fit_Z, fit_B, fit_C, fit_A, fit_O, Option.toList_some, Option.toList_none, List.cons_append, List.nil_append, true_and, and_true, List.set_cons_zero, List.set_cons_succ, st_same, Int.toNat_natCast, Int.cast_ofNat_Int, Nat.zero_add, Nat.reduceAdd, kRcv_1, kRcv_2, kRcv_3, kRcv_0, kRcv_4, kRcv_5]
      refine ⟨⟨by unfold inR; omega, by unfold inR; omega⟩, fun _ => ?_, (fun h => by first | exact absurd h (by omega) | exact absurd trivial h | (exfalso; simp_all; done))⟩
      exact nx
  · intro m A z6 z7 h6 h7
    have hl := lC_bd hg (k := 36) (by omega)
    have hdb := dnM_bd hg.wk 36 (Nat.le_refl _)
    rw [show 6 * 6 = 36 from rfl]
    rw [e_Ways_digCheapest_10]
    simp only [e_Ways_digCheapest_12, e_Ways_digCheapest_14, e_Ways_digCheapest_94, e_Ways_digCheapest_95, e_Ways_digCheapest_96, kR_l, kR_r, kP_0, kP_i, kP_r, kP_n, kP_s, kP_o, kLen_I, kLen_L, kLen_R, kLdI_0, kLdI_1, kLdI_2, kLdI_3, kStI_0, kStI_1, kLdL_e, kStL_e, kLdR_e, kStR_e, kFld_e, kNth_0, kNth_s, kPut_e, fit_I, fit_Z, fit_B, fit_C, fit_A, fit_O, Option.toList_some, Option.toList_none, List.cons_append, List.nil_append, true_and, and_true, List.set_cons_zero, List.set_cons_succ, st_same, Int.toNat_natCast, Int.cast_ofNat_Int, Nat.zero_add, Nat.reduceAdd, kRcv_1, kRcv_2, kRcv_3, kRcv_0, kRcv_4, kRcv_5]
    refine ⟨⟨by unfold inR; omega, by unfold inR; omega⟩, fun _ => ⟨⟨by unfold inR; omega, by unfold inR; omega⟩, fun c => ?_, fun c => ?_⟩, (fun h => by first | exact absurd h (by omega) | exact absurd trivial h | (exfalso; simp_all; done))⟩
    · have hne : (dnM s 36).1 ≠ -1 := fun z => c (if_pos z)
      obtain ⟨k, hk⟩ : ∃ k : Nat, (dnM s 36).1 = k := ⟨(dnM s 36).1.toNat, by omega⟩
      obtain ⟨i1, i2, i3, i4, i5⟩ := dnM_is 36 k hk
      have ho : k / 6 < 6 := by omega
      have ho2 : k % 6 < 6 := by omega
      have hr := (hg.2.2.2.2.2 (k / 6) (k % 6) ho ho2).2 i2.2
      have ef : fC s 36 = ((k / 6 : Nat) : Int) := by unfold fC; rw [if_neg hne, hk]; rfl
      have eg : gC s 36 = ((k % 6 : Nat) : Int) := by unfold gC; rw [if_neg hne, hk]; rfl
      have ex : (nxS s).1 = (dgP s (k / 6) (k % 6)).1 := by
        unfold nxS
        rw [hk, Int.toNat_natCast]
      have hq := hQ1 hne
      rw [ex] at hq
      clear hQ0 hQ1
      rw [ef, eg]
      simp only [e_Ways_digCheapest_101, e_Ways_digCheapest_102, e_Ways_digCheapest_103, e_Ways_digCheapest_104, e_Ways_digCheapest_106, kR_l, kR_r, kP_0, kP_i, kP_r, kP_n, kP_s, kP_o, kLen_I, kLen_L, kLen_R, kLdI_0, kLdI_1, kLdI_2, kLdI_3, kStI_0, kStI_1, kLdL_e, kStL_e, kLdR_e, kStR_e, kFld_e, kNth_0, kNth_s, kPut_e, fit_I, fit_Z, fit_B, fit_C, fit_A, fit_O, Option.toList_some, Option.toList_none, List.cons_append, List.nil_append, true_and, and_true, List.set_cons_zero, List.set_cons_succ, st_same, Int.toNat_natCast, Int.cast_ofNat_Int, Nat.zero_add, Nat.reduceAdd, kRcv_1, kRcv_2, kRcv_3, kRcv_0, kRcv_4, kRcv_5, setWy_set, Wyo, Wya1, Wyw1, Wya2, Wyw2, Wya3, Wyw3, Wya4, Wyw4, Wya5, Wyw5, Wya6, Wyw6, Wya7, Wyw7, Wya8, Wyw8, Wyp6, Wyp7, Wyp10, Wyp11, Wyp12, Wyp13, Wyp14, Wyp15]
      refine w_find hP hd hGW hg ho ho2 hr.1 hr.2.1 (fun m' A' q1 q2 q3 _ => ?_)
      simp only [e_Ways_digCheapest_109, e_Ways_digCheapest_110, e_Ways_digCheapest_111, e_Ways_digCheapest_112, kR_l, kR_r, kP_0, kP_i, kP_r, kP_n, kP_s, kP_o, kLen_I, kLen_L, kLen_R, kLdI_0, kLdI_1, kLdI_2, kLdI_3, kStI_0, kStI_1, kLdL_e, kStL_e, kLdR_e, kStR_e, kFld_e, kNth_0, kNth_s, kPut_e, fit_I, fit_Z, fit_B, fit_C, fit_A, fit_O, Option.toList_some, Option.toList_none, List.cons_append, List.nil_append, true_and, and_true, List.set_cons_zero, List.set_cons_succ, st_same, Int.toNat_natCast, Int.cast_ofNat_Int, Nat.zero_add, Nat.reduceAdd, kRcv_1, kRcv_2, kRcv_3, kRcv_0, kRcv_4, kRcv_5, setWy_set, Wyo, Wya1, Wyw1, Wya2, Wyw2, Wya3, Wyw3, Wya4, Wyw4, Wya5, Wyw5, Wya6, Wyw6, Wya7, Wyw7, Wya8, Wyw8, Wyp6, Wyp7, Wyp10, Wyp11, Wyp12, Wyp13, Wyp14, Wyp15]
      refine w_digFound hP hd hG hg ho ho2 q1 q2 q3 (fun A2 => ?_)
      have hq2 := hq m' A2
      simp only [e_Ways_digCheapest_115, e_Ways_digCheapest_116, e_Ways_digCheapest_117, kR_l, kR_r, kP_0, kP_i, kP_r, kP_n, kP_s, kP_o, kLen_I, kLen_L, kLen_R, kLdI_0, kLdI_1, kLdI_2, kLdI_3, kStI_0, kStI_1, kLdL_e, kStL_e, kLdR_e, kStR_e, kFld_e, kNth_0, kNth_s, kPut_e, fit_I, fit_Z, fit_B, fit_C, fit_A, fit_O, Option.toList_some, Option.toList_none, List.cons_append, List.nil_append, true_and, and_true, List.set_cons_zero, List.set_cons_succ, st_same, Int.toNat_natCast, Int.cast_ofNat_Int, Nat.zero_add, Nat.reduceAdd, kRcv_1, kRcv_2, kRcv_3, kRcv_0, kRcv_4, kRcv_5]
      first | exact hq2 | exact ⟨trivial, hq2⟩ | exact ⟨by simp, hq2⟩
    · have c' : lC s 36 = -1 := Classical.byContradiction c
      have he : (dnM s 36).1 = -1 := by
        refine Classical.byContradiction (fun z => ?_)
        obtain ⟨k, hk⟩ : ∃ k : Nat, (dnM s 36).1 = k := ⟨(dnM s 36).1.toNat, by omega⟩
        have := (dnM_is 36 k hk).2.2.2
        unfold lC at c'
        rw [if_neg z] at c'
        omega
      have hq := hQ0 he m A
      clear hQ0 hQ1
      simp only [e_Ways_digCheapest_99, e_Ways_digCheapest_100, kR_l, kR_r, kP_0, kP_i, kP_r, kP_n, kP_s, kP_o, kLen_I, kLen_L, kLen_R, kLdI_0, kLdI_1, kLdI_2, kLdI_3, kStI_0, kStI_1, kLdL_e, kStL_e, kLdR_e, kStR_e, kFld_e, kNth_0, kNth_s, kPut_e, fit_I, fit_Z, fit_B, fit_C, fit_A, fit_O, Option.toList_some, Option.toList_none, List.cons_append, List.nil_append, true_and, and_true, List.set_cons_zero, List.set_cons_succ, st_same, Int.toNat_natCast, Int.cast_ofNat_Int, Nat.zero_add, Nat.reduceAdd, kRcv_1, kRcv_2, kRcv_3, kRcv_0, kRcv_4, kRcv_5]
      first | exact hq | exact ⟨trivial, hq⟩ | exact ⟨by simp, hq⟩
theorem dn_pr {s : Nat → Int} (hg : Good s) (h : (dnM s 36).1 ≠ -1) : prM (nxS s).1 1 + 1 ≤ prM s 1 ∧ 0 ≤ prM (nxS s).1 1 := by
  have hb := dnM_bd hg.wk 36 (Nat.le_refl _)
  have h1 := nxS_lt hg.wk (k := (dnM s 36).1.toNat) (by omega)
  exact ⟨h1.2.1, (prM_bd (hg.nx h).wk 1 (Or.inr rfl)).1⟩
theorem w_digForAll (hd : P + 4 ≤ W) (hG : G 0 ≤ P) : ∀ (f d : Nat) (s : Nat → Int) (m : Nat → Int) (A : Nat → Nat → Int), Good s → prM s 1 < f → prM s 1 + d ≤ 15 → d ≤ 15 →
    (∀ (m' : Nat → Int) (A' : Nat → Nat → Int), Q (.inl (some (vI (d + (caM f s).1)))) (setWy (setPs σ P (caM f s).2.2) W m' A')) →
    WP G k_Ways_digForAll 2 [some (vR W), some (vR P), some (vI (d : Nat))] [] (setWy (setPs σ P s) W m A) Q := by
  intro f
  induction f with
  | zero =>
    intro d s m A hg hp _ _ _
    have := (prM_bd hg.wk 1 (Or.inr rfl)).1
    exact absurd (Int.lt_of_le_of_lt this hp) (by decide)
  | succ f ih =>
    intro d s m A hg hp hp2 hd15 hQ
    have hpb := (prM_bd hg.wk 1 (Or.inr rfl)).1
    rw [e_Ways_digForAll_2]
    simp only [e_Ways_digForAll_3, e_Ways_digForAll_5, e_Ways_digForAll_8, e_Ways_digForAll_9, e_Ways_digForAll_10, kR_l, kR_r, kP_0, kP_i, kP_r, kP_n, kP_s, kP_o, kLen_I, kLen_L, kLen_R, kLdI_0, kLdI_1, kLdI_2, kLdI_3, kStI_0, kStI_1, kLdL_e, kStL_e, kLdR_e, kStR_e, kFld_e, kNth_0, kNth_s, kPut_e, fit_I, fit_Z, fit_B, fit_C, fit_A, fit_O, Option.toList_some, Option.toList_none, List.cons_append, List.nil_append, true_and, and_true, List.set_cons_zero, List.set_cons_succ, st_same, Int.toNat_natCast, Int.cast_ofNat_Int, Nat.zero_add, Nat.reduceAdd, kRcv_1, kRcv_2, kRcv_3, kRcv_0, kRcv_4, kRcv_5, setWy_set, Wyo, Wya1, Wyw1, Wya2, Wyw2, Wya3, Wyw3, Wya4, Wyw4, Wya5, Wyw5, Wya6, Wyw6, Wya7, Wyw7, Wya8, Wyw8, Wyp6, Wyp7, Wyp10, Wyp11, Wyp12, Wyp13, Wyp14, Wyp15]
    refine ⟨⟨by unfold inR; omega, by unfold inR; omega⟩, fun c => ?_, fun c => ?_⟩
    · have he : (dnM s 36).1 = -1 := Classical.byContradiction (fun z => by
        have := dn_pr hg z
        omega)
      unfold caM at hQ
      rw [if_pos he] at hQ
      have hq := hQ m A
      rw [Int.add_zero] at hq
      clear ih hQ
      simp only [e_Ways_digForAll_22, e_Ways_digForAll_23, kR_l, kR_r, kP_0, kP_i, kP_r, kP_n, kP_s, kP_o, kLen_I, kLen_L, kLen_R, kLdI_0, kLdI_1, kLdI_2, kLdI_3, kStI_0, kStI_1, kLdL_e, kStL_e, kLdR_e, kStR_e, kFld_e, kNth_0, kNth_s, kPut_e, fit_I, fit_Z, fit_B, fit_C, fit_A, fit_O, Option.toList_some, Option.toList_none, List.cons_append, List.nil_append, true_and, and_true, List.set_cons_zero, List.set_cons_succ, st_same, Int.toNat_natCast, Int.cast_ofNat_Int, Nat.zero_add, Nat.reduceAdd, kRcv_1, kRcv_2, kRcv_3, kRcv_0, kRcv_4, kRcv_5]
      first | exact hq | exact ⟨trivial, hq⟩ | exact ⟨by simp, hq⟩
    · refine w_digCheapest (setPs_is σ P s) hd hG hg (fun he m' A' => ?_) (fun he m' A' => ?_)
      · unfold caM at hQ
        rw [if_pos he] at hQ
        have hq := hQ m' A'
        rw [Int.add_zero] at hq
        clear ih hQ
        simp only [e_Ways_digForAll_13, e_Ways_digForAll_22, e_Ways_digForAll_23, kR_l, kR_r, kP_0, kP_i, kP_r, kP_n, kP_s, kP_o, kLen_I, kLen_L, kLen_R, kLdI_0, kLdI_1, kLdI_2, kLdI_3, kStI_0, kStI_1, kLdL_e, kStL_e, kLdR_e, kStR_e, kFld_e, kNth_0, kNth_s, kPut_e, fit_I, fit_Z, fit_B, fit_C, fit_A, fit_O, Option.toList_some, Option.toList_none, List.cons_append, List.nil_append, true_and, and_true, List.set_cons_zero, List.set_cons_succ, st_same, Int.toNat_natCast, Int.cast_ofNat_Int, Nat.zero_add, Nat.reduceAdd, kRcv_1, kRcv_2, kRcv_3, kRcv_0, kRcv_4, kRcv_5]
        refine ⟨by unfold inR; omega, fun _ => ?_, (fun h => by first | exact absurd h (by omega) | exact absurd trivial h | (exfalso; simp_all; done))⟩
        first | exact hq | exact ⟨trivial, hq⟩ | exact ⟨by simp, hq⟩
      · have h1 := dn_pr hg he
        have nx := ih (d + 1) (nxS s).1 m' A' (hg.nx he) (by omega) (by omega) (by omega) (fun m2 A2 => by
          unfold caM at hQ
          rw [if_neg he] at hQ
          have := hQ m2 A2
          dsimp only at this
          rw [show (((d + 1 : Nat) : Int) + (caM f (nxS s).1).1) = (d : Int) + (1 + (caM f (nxS s).1).1) by omega]
          exact this)
        rw [setPs_set]
        clear ih hQ
        simp only [e_Ways_digForAll_13, e_Ways_digForAll_16, e_Ways_digForAll_19, kR_l, kR_r, kP_0, kP_i, kP_r, kP_n, kP_s, kP_o, kLen_I, kLen_L, kLen_R, kLdI_0, kLdI_1, kLdI_2, kLdI_3, kStI_0, kStI_1, kLdL_e, kStL_e, kLdR_e, kStR_e, kFld_e, kNth_0, kNth_s, kPut_e, fit_I, fit_Z, fit_B, fit_C, fit_A, fit_O, Option.toList_some, Option.toList_none, List.cons_append, List.nil_append, true_and, and_true, List.set_cons_zero, List.set_cons_succ, st_same, Int.toNat_natCast, Int.cast_ofNat_Int, Nat.zero_add, Nat.reduceAdd, kRcv_1, kRcv_2, kRcv_3, kRcv_0, kRcv_4, kRcv_5]
        refine ⟨by unfold inR; omega, (fun h => by first | exact absurd h (by omega) | exact absurd trivial h | (exfalso; simp_all; done)), fun _ => nx⟩
theorem w_forAll (hP : PlS σ P s) (hd : P + 4 ≤ W) (hG : G 0 ≤ P) (hg : Good s)
    (hQ : ∀ (m' : Nat → Int) (A' : Nat → Nat → Int), Q (.inl (some (vI (caM 16 s).1))) (setWy (setPs σ P (caM 16 s).2.2) W m' A')) :
    CW G k_Ways_digForAll [vR W, vR P] (setWy σ W m A) Q := by
  have hp := prM_bd hg.wk 1 (Or.inr rfl)
  simp only [c_Ways_digForAll, e_Ways_digForAll_0, e_Ways_digForAll_1, kR_l, kR_r, kP_0, kP_i, kP_r, kP_n, kP_s, kP_o, kLen_I, kLen_L, kLen_R, kLdI_0, kLdI_1, kLdI_2, kLdI_3, kStI_0, kStI_1, kLdL_e, kStL_e, kLdR_e, kStR_e, kFld_e, kNth_0, kNth_s, kPut_e, fit_I, fit_Z, fit_B, fit_C, fit_A, fit_O, Option.toList_some, Option.toList_none, List.cons_append, List.nil_append, true_and, and_true, List.set_cons_zero, List.set_cons_succ, st_same, Int.toNat_natCast, Int.cast_ofNat_Int, Nat.zero_add, Nat.reduceAdd, kRcv_1, kRcv_2, kRcv_3, kRcv_0, kRcv_4, kRcv_5]
  have key := w_digForAll (σ := σ) (Q := Q) hd hG 16 0 s m A hg (by omega) (by omega) (by omega) (fun m' A' => by
    rw [show ((0 : Nat) : Int) + (caM 16 s).1 = (caM 16 s).1 by omega]
    exact hQ m' A')
  rw [setPs_id hP] at key
  exact key
theorem w_fillUnneeded (hP : PlS σ P s) (hd : P + 4 ≤ W) (hG : G 0 ≤ P) (hg : Good s)
    (hQ : ∀ (m' : Nat → Int) (A' : Nat → Nat → Int), Q (.inl (some (vI (flN s)))) (setWy (setPs σ P (flS s)) W m' A')) :
    CW G k_Ways_fillUnneeded [vR W, vR P] (setWy σ W m A) Q := by
  have hGW : G 0 ≤ W := by omega
  simp only [c_Ways_fillUnneeded, e_Ways_fillUnneeded_0, e_Ways_fillUnneeded_1, e_Ways_fillUnneeded_4, kR_l, kR_r, kP_0, kP_i, kP_r, kP_n, kP_s, kP_o, kLen_I, kLen_L, kLen_R, kLdI_0, kLdI_1, kLdI_2, kLdI_3, kStI_0, kStI_1, kLdL_e, kStL_e, kLdR_e, kStR_e, kFld_e, kNth_0, kNth_s, kPut_e, fit_I, fit_Z, fit_B, fit_C, fit_A, fit_O, Option.toList_some, Option.toList_none, List.cons_append, List.nil_append, true_and, and_true, List.set_cons_zero, List.set_cons_succ, st_same, Int.toNat_natCast, Int.cast_ofNat_Int, Nat.zero_add, Nat.reduceAdd, kRcv_1, kRcv_2, kRcv_3, kRcv_0, kRcv_4, kRcv_5, setWy_set, Wyo, Wya1, Wyw1, Wya2, Wyw2, Wya3, Wyw3, Wya4, Wyw4, Wya5, Wyw5, Wya6, Wyw6, Wya7, Wyw7, Wya8, Wyw8, Wyp6, Wyp7, Wyp10, Wyp11, Wyp12, Wyp13, Wyp14, Wyp15]
  rw [s_Cp_clearMarks (Wya7 σ W m A) (by omega) (by omega), Wyw7]
  simp only [e_Ways_fillUnneeded_7, e_Ways_fillUnneeded_8, kR_l, kR_r, kP_0, kP_i, kP_r, kP_n, kP_s, kP_o, kLen_I, kLen_L, kLen_R, kLdI_0, kLdI_1, kLdI_2, kLdI_3, kStI_0, kStI_1, kLdL_e, kStL_e, kLdR_e, kStR_e, kFld_e, kNth_0, kNth_s, kPut_e, fit_I, fit_Z, fit_B, fit_C, fit_A, fit_O, Option.toList_some, Option.toList_none, List.cons_append, List.nil_append, true_and, and_true, List.set_cons_zero, List.set_cons_succ, st_same, Int.toNat_natCast, Int.cast_ofNat_Int, Nat.zero_add, Nat.reduceAdd, kRcv_1, kRcv_2, kRcv_3, kRcv_0, kRcv_4, kRcv_5]
  have key := up (fun a => ∀ (m : Nat → Int) (A : Nat → Nat → Int) z, zI z → MkP (A 7) (stP s (6 * a)) → WP G k_Ways_fillUnneeded 9 [some (vR W), some (vR P), some (vI (a : Nat)), z] [] (setWy σ W m A) Q) (n := 6) ?_ ?_
  · exact key m _ none zI_n (fun j hj => ⟨fun ⟨i, h, _⟩ => absurd h (by omega), fun _ => if_pos hj⟩)
  · intro a ha ih m A z hz hMk
    have inner := upF (fun b => ∀ (m : Nat → Int) (A : Nat → Nat → Int), MkP (A 7) (stP s (6 * a + b)) → WP G k_Ways_fillUnneeded 19 [some (vR W), some (vR P), some (vI (a : Nat)), some (vI (b : Nat))] [] (setWy σ W m A) Q) (a := a + 1) (n := 6) (by omega) ?_ ?_
    · have i0 := inner m A (hMk.iff (fun j => (stP_no (6 * a) (a + 1) (fun i h1 h2 => by omega) j).symm))
      clear inner ih hQ
      rw [e_Ways_fillUnneeded_9]
      simp only [e_Ways_fillUnneeded_10, e_Ways_fillUnneeded_12, e_Ways_fillUnneeded_15, e_Ways_fillUnneeded_16, e_Ways_fillUnneeded_17, e_Ways_fillUnneeded_18, kR_l, kR_r, kP_0, kP_i, kP_r, kP_n, kP_s, kP_o, kLen_I, kLen_L, kLen_R, kLdI_0, kLdI_1, kLdI_2, kLdI_3, kStI_0, kStI_1, kLdL_e, kStL_e, kLdR_e, kStR_e, kFld_e, kNth_0, kNth_s, kPut_e, fit_I, fit_Z, fit_B, fit_C, fit_A, fit_O, Option.toList_some, Option.toList_none, List.cons_append, List.nil_append, true_and, and_true, List.set_cons_zero, List.set_cons_succ, st_same, Int.toNat_natCast, Int.cast_ofNat_Int, Nat.zero_add, Nat.reduceAdd, kRcv_1, kRcv_2, kRcv_3, kRcv_0, kRcv_4, kRcv_5, kP_z hz]
      all_goals ((repeat' (first | with_reducible refine And.intro ?_ ?_ | intro _)) <;> first | with_reducible assumption | exact True.intro | with_reducible exact i0 | omega | (simp only [inR] at *; omega) | exact i0 | with_reducible rfl | rfl | (simp; done) | (exfalso; simp_all; done) | skip)
    · intro b hb0 hb ihb m A hMk
      have hp := setWy_P (m := m) (A := A) hd hP
      have e1 : (6 * a + b) / 6 = a := by omega
      have e2 : (6 * a + b) % 6 = b := by omega
      have hbd := rsF_bd hg ha hb
      have same := fun (hn : ¬ (0 < wkM s a b ∧ opW s a b = 1)) (m : Nat → Int) (A' : Nat → Nat → Int) (e7 : A' 7 = A 7) => ihb m A' (by
        rw [e7]
        refine hMk.iff (fun j => ?_)
        rw [show 6 * a + (b + 1) = (6 * a + b) + 1 by omega, stP_s, e1, e2]
        exact ⟨Or.inl, fun z => z.elim id (fun y => absurd ⟨by have := y.1.2; rw [e1, e2] at this; exact this, y.2.1⟩ hn)⟩)
      clear ih hQ
      rw [e_Ways_fillUnneeded_19]
      simp (disch := first | assumption | omega | (unfold inR; omega)) only [e_Ways_fillUnneeded_20, e_Ways_fillUnneeded_22, e_Ways_fillUnneeded_25, e_Ways_fillUnneeded_26, e_Ways_fillUnneeded_27, e_Ways_fillUnneeded_28, kR_l, kR_r, kP_0, kP_i, kP_r, kP_n, kP_s, kP_o, kLen_I, kLen_L, kLen_R, kLdI_0, kLdI_1, kLdI_2, kLdI_3, kStI_0, kStI_1, kLdL_e, kStL_e, kLdR_e, kStR_e, kFld_e, kNth_0, kNth_s, kPut_e, fit_I, fit_Z, fit_B, fit_C, fit_A, fit_O, Option.toList_some, Option.toList_none, List.cons_append, List.nil_append, true_and, and_true, List.set_cons_zero, List.set_cons_succ, st_same, Int.toNat_natCast, Int.cast_ofNat_Int, Nat.zero_add, Nat.reduceAdd, kRcv_1, kRcv_2, kRcv_3, kRcv_0, kRcv_4, kRcv_5, setWy_set, Wyo, Wya1, Wyw1, Wya2, Wyw2, Wya3, Wyw3, Wya4, Wyw4, Wya5, Wyw5, Wya6, Wyw6, Wya7, Wyw7, Wya8, Wyw8, Wyp6, Wyp7, Wyp10, Wyp11, Wyp12, Wyp13, Wyp14, Wyp15, hp.1, s_Plan_isWalked hp hg.wd, wdAt_wk]
      refine ⟨⟨by unfold inR; omega, by unfold inR; omega⟩, (fun h => by first | exact absurd h (by omega) | exact absurd trivial h | (exfalso; simp_all; done)), fun _ => ?_⟩
      by_cases hc : 0 < wkM s a b
      · have hr := (hg.2.2.2.2.2 a b ha hb).2 hc
        have hwk := hg.wk a b ha hb
        have hbb := bdM_bd hwk
        rw [b01_t hc]
        simp only [e_Ways_fillUnneeded_31, e_Ways_fillUnneeded_34, e_Ways_fillUnneeded_35, e_Ways_fillUnneeded_36, e_Ways_fillUnneeded_37, e_Ways_fillUnneeded_38, kR_l, kR_r, kP_0, kP_i, kP_r, kP_n, kP_s, kP_o, kLen_I, kLen_L, kLen_R, kLdI_0, kLdI_1, kLdI_2, kLdI_3, kStI_0, kStI_1, kLdL_e, kStL_e, kLdR_e, kStR_e, kFld_e, kNth_0, kNth_s, kPut_e, fit_I, fit_Z, fit_B, fit_C, fit_A, fit_O, Option.toList_some, Option.toList_none, List.cons_append, List.nil_append, true_and, and_true, List.set_cons_zero, List.set_cons_succ, st_same, Int.toNat_natCast, Int.cast_ofNat_Int, Nat.zero_add, Nat.reduceAdd, kRcv_1, kRcv_2, kRcv_3, kRcv_0, kRcv_4, kRcv_5, setWy_set, Wyo, Wya1, Wyw1, Wya2, Wyw2, Wya3, Wyw3, Wya4, Wyw4, Wya5, Wyw5, Wya6, Wyw6, Wya7, Wyw7, Wya8, Wyw8, Wyp6, Wyp7, Wyp10, Wyp11, Wyp12, Wyp13, Wyp14, Wyp15]
        refine ⟨by unfold inR; omega, (fun h => by first | exact absurd h (by omega) | exact absurd trivial h | (exfalso; simp_all; done)), fun _ => ?_⟩
        refine w_find hP hd hGW hg ha hb hr.1 hr.2.1 (fun m' A' q1 q2 q3 q4 => ?_)
        have hop : opW s a b = 1 ↔ rsF s a b = 0 := by
          have h1 := isW_bd s a b
          unfold opW rsF
          by_cases d1 : isW s a b = 1
          · rw [if_pos d1]
            by_cases d2 : cW s a b = 0
            · rw [if_pos ⟨d1, d2⟩]; omega
            · rw [if_neg (fun z => d2 z.2)]; omega
          · rw [if_neg (fun z => d1 z.1), if_neg d1]; omega
        simp only [e_Ways_fillUnneeded_41, e_Ways_fillUnneeded_44, e_Ways_fillUnneeded_45, kR_l, kR_r, kP_0, kP_i, kP_r, kP_n, kP_s, kP_o, kLen_I, kLen_L, kLen_R, kLdI_0, kLdI_1, kLdI_2, kLdI_3, kStI_0, kStI_1, kLdL_e, kStL_e, kLdR_e, kStR_e, kFld_e, kNth_0, kNth_s, kPut_e, fit_I, fit_Z, fit_B, fit_C, fit_A, fit_O, Option.toList_some, Option.toList_none, List.cons_append, List.nil_append, true_and, and_true, List.set_cons_zero, List.set_cons_succ, st_same, Int.toNat_natCast, Int.cast_ofNat_Int, Nat.zero_add, Nat.reduceAdd, kRcv_1, kRcv_2, kRcv_3, kRcv_0, kRcv_4, kRcv_5, setWy_set, Wyo, Wya1, Wyw1, Wya2, Wyw2, Wya3, Wyw3, Wya4, Wyw4, Wya5, Wyw5, Wya6, Wyw6, Wya7, Wyw7, Wya8, Wyw8, Wyp6, Wyp7, Wyp10, Wyp11, Wyp12, Wyp13, Wyp14, Wyp15]
        refine ⟨by unfold inR; omega, fun c => ?_, fun c => ?_⟩
        · have nx := same (fun z => c (hop.mp z.2)) m' A' q4
          clear same ihb
          simp only [e_Ways_fillUnneeded_48, e_Ways_fillUnneeded_51, kR_l, kR_r, kP_0, kP_i, kP_r, kP_n, kP_s, kP_o, kLen_I, kLen_L, kLen_R, kLdI_0, kLdI_1, kLdI_2, kLdI_3, kStI_0, kStI_1, kLdL_e, kStL_e, kLdR_e, kStR_e, kFld_e, kNth_0, kNth_s, kPut_e, fit_I, fit_Z, fit_B, fit_C, fit_A, fit_O, Option.toList_some, Option.toList_none, List.cons_append, List.nil_append, true_and, and_true, List.set_cons_zero, List.set_cons_succ, st_same, Int.toNat_natCast, Int.cast_ofNat_Int, Nat.zero_add, Nat.reduceAdd, kRcv_1, kRcv_2, kRcv_3, kRcv_0, kRcv_4, kRcv_5]
          all_goals ((repeat' (first | with_reducible refine And.intro ?_ ?_ | intro _)) <;> first | with_reducible assumption | exact True.intro | with_reducible exact nx | omega | (simp only [inR] at *; omega) | exact nx | with_reducible rfl | rfl | (simp; done) | (exfalso; simp_all; done) | skip)
        · have c' : rsF s a b = 0 := Classical.byContradiction c
          have hMk' : MkP (A' 7) (stP s (6 * a + b)) := by rw [q4]; exact hMk
          rw [← upA_self A' 7]
          refine s_needFound (b := bdM s a b) (N := nW s a b) (pl := plW s a b) (F := A' 7) (R := stP s (6 * a + b)) hGW q2 q1 hbb.1 hbb.2 (nW_le hwk) (fun k hk => by rw [q3 k hk]; exact plW_ok hwk hk) hMk' (fun F hF => ?_)
          have nx := ihb m' (upA A' 7 F) (by
            show MkP F _
            refine hF.iff (fun j => ?_)
            rw [show 6 * a + (b + 1) = (6 * a + b) + 1 by omega, stP_s, e1, e2]
            exact ⟨fun z => z.elim Or.inl (fun y => Or.inr ⟨⟨by omega, by rw [e1, e2]; exact hc⟩, hop.mpr c', y⟩), fun z => z.elim Or.inl (fun y => Or.inr y.2.2)⟩)
          clear same ihb
          simp only [e_Ways_fillUnneeded_48, e_Ways_fillUnneeded_51, kR_l, kR_r, kP_0, kP_i, kP_r, kP_n, kP_s, kP_o, kLen_I, kLen_L, kLen_R, kLdI_0, kLdI_1, kLdI_2, kLdI_3, kStI_0, kStI_1, kLdL_e, kStL_e, kLdR_e, kStR_e, kFld_e, kNth_0, kNth_s, kPut_e, fit_I, fit_Z, fit_B, fit_C, fit_A, fit_O, Option.toList_some, Option.toList_none, List.cons_append, List.nil_append, true_and, and_true, List.set_cons_zero, List.set_cons_succ, st_same, Int.toNat_natCast, Int.cast_ofNat_Int, Nat.zero_add, Nat.reduceAdd, kRcv_1, kRcv_2, kRcv_3, kRcv_0, kRcv_4, kRcv_5]
          all_goals ((repeat' (first | with_reducible refine And.intro ?_ ?_ | intro _)) <;> first | with_reducible assumption | exact True.intro | with_reducible exact nx | omega | (simp only [inR] at *; omega) | exact nx | with_reducible rfl | rfl | (simp; done) | (exfalso; simp_all; done) | skip)
      · have nx := same (fun z => hc z.1) m A rfl
        rw [b01_f hc]
        clear same ihb
        simp only [e_Ways_fillUnneeded_31, e_Ways_fillUnneeded_48, e_Ways_fillUnneeded_51, kR_l, kR_r, kP_0, kP_i, kP_r, kP_n, kP_s, kP_o, kLen_I, kLen_L, kLen_R, kLdI_0, kLdI_1, kLdI_2, kLdI_3, kStI_0, kStI_1, kLdL_e, kStL_e, kLdR_e, kStR_e, kFld_e, kNth_0, kNth_s, kPut_e, fit_I, fit_Z, fit_B, fit_C, fit_A, fit_O, Option.toList_some, Option.toList_none, List.cons_append, List.nil_append, true_and, and_true, List.set_cons_zero, List.set_cons_succ, st_same, Int.toNat_natCast, Int.cast_ofNat_Int, Nat.zero_add, Nat.reduceAdd, kRcv_1, kRcv_2, kRcv_3, kRcv_0, kRcv_4, kRcv_5]
        refine ⟨by unfold inR; omega, fun _ => nx, (fun h => by first | exact absurd h (by omega) | exact absurd trivial h | (exfalso; simp_all; done))⟩
    · intro m A hMk
      have nx := ih m A _ (zI_s ((6 : Nat) : Int)) hMk
      clear ih hQ
      rw [e_Ways_fillUnneeded_19]
      simp only [e_Ways_fillUnneeded_20, e_Ways_fillUnneeded_22, e_Ways_fillUnneeded_54, e_Ways_fillUnneeded_57, kR_l, kR_r, kP_0, kP_i, kP_r, kP_n, kP_s, kP_o, kLen_I, kLen_L, kLen_R, kLdI_0, kLdI_1, kLdI_2, kLdI_3, kStI_0, kStI_1, kLdL_e, kStL_e, kLdR_e, kStR_e, kFld_e, kNth_0, kNth_s, kPut_e, fit_I, fit_Z, fit_B, fit_C, fit_A, fit_O, Option.toList_some, Option.toList_none, List.cons_append, List.nil_append, true_and, and_true, List.set_cons_zero, List.set_cons_succ, st_same, Int.toNat_natCast, Int.cast_ofNat_Int, Nat.zero_add, Nat.reduceAdd, kRcv_1, kRcv_2, kRcv_3, kRcv_0, kRcv_4, kRcv_5]
      refine ⟨⟨by unfold inR; omega, by unfold inR; omega⟩, fun _ => nx, (fun h => by first | exact absurd h (by omega) | exact absurd trivial h | (exfalso; simp_all; done))⟩
  · intro m A z hz hMk
    have e := fl_sq hMk
    have hh : ∀ j, 192 ≤ j → flS s j = s j := fun j hj => flI_f (fun z => absurd z.1 (by omega))
    have hq := hQ m A
    unfold setPs at hq
    rw [← e.1, ← e.2, pG_hi hh, pH_hi hh, hh 252 (by omega)] at hq
    clear hQ
    rw [e_Ways_fillUnneeded_9]
    simp only [e_Ways_fillUnneeded_10, e_Ways_fillUnneeded_12, e_Ways_fillUnneeded_60, e_Ways_fillUnneeded_61, e_Ways_fillUnneeded_62, e_Ways_fillUnneeded_63, e_Ways_fillUnneeded_64, e_Ways_fillUnneeded_66, kR_l, kR_r, kP_0, kP_i, kP_r, kP_n, kP_s, kP_o, kLen_I, kLen_L, kLen_R, kLdI_0, kLdI_1, kLdI_2, kLdI_3, kStI_0, kStI_1, kLdL_e, kStL_e, kLdR_e, kStR_e, kFld_e, kNth_0, kNth_s, kPut_e, fit_I, fit_Z, fit_B, fit_C, fit_A, fit_O, Option.toList_some, Option.toList_none, List.cons_append, List.nil_append, true_and, and_true, List.set_cons_zero, List.set_cons_succ, st_same, Int.toNat_natCast, Int.cast_ofNat_Int, Nat.zero_add, Nat.reduceAdd, kRcv_1, kRcv_2, kRcv_3, kRcv_0, kRcv_4, kRcv_5, setWy_set, Wyo, Wya1, Wyw1, Wya2, Wyw2, Wya3, Wyw3, Wya4, Wyw4, Wya5, Wyw5, Wya6, Wyw6, Wya7, Wyw7, Wya8, Wyw8, Wyp6, Wyp7, Wyp10, Wyp11, Wyp12, Wyp13, Wyp14, Wyp15]
    refine ⟨⟨by unfold inR; omega, by unfold inR; omega⟩, fun _ => ?_, (fun h => by first | exact absurd h (by omega) | exact absurd trivial h | (exfalso; simp_all; done))⟩
    rw [s_changeSquares hP hd hG hg.sq (Or.inl rfl) (by unfold inR; omega) (Or.inr rfl) hMk.bt]
    simp only [e_Ways_fillUnneeded_69, kR_l, kR_r, kP_0, kP_i, kP_r, kP_n, kP_s, kP_o, kLen_I, kLen_L, kLen_R, kLdI_0, kLdI_1, kLdI_2, kLdI_3, kStI_0, kStI_1, kLdL_e, kStL_e, kLdR_e, kStR_e, kFld_e, kNth_0, kNth_s, kPut_e, fit_I, fit_Z, fit_B, fit_C, fit_A, fit_O, Option.toList_some, Option.toList_none, List.cons_append, List.nil_append, true_and, and_true, List.set_cons_zero, List.set_cons_succ, st_same, Int.toNat_natCast, Int.cast_ofNat_Int, Nat.zero_add, Nat.reduceAdd, kRcv_1, kRcv_2, kRcv_3, kRcv_0, kRcv_4, kRcv_5]
    first | exact hq | exact ⟨trivial, hq⟩ | exact ⟨by simp, hq⟩
end WAL
