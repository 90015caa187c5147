/-! THE CLASS'S METHODS: orders done -/
section CP3
variable {G : Nat → Nat} {σ : AS} {Q : (Option AV ⊕ Nat) → AS → Prop} {B kp n : Nat} {s p t : Nat → Int}
def dmD (d : Int) : Int := if d = 4 then -1 else d
theorem Good.dm (h : Good s) {a b : Nat} {d : Int} (ha : a < 6) (hb : b < 6) (hab : a ≠ b) (hd : -1 ≤ d ∧ d ≤ 3) : Good (dmS s a b d).2 := by
  have t1 := thM_bd s (a : Nat)
  have t2 := thM_bd s (b : Nat)
  unfold dmS
  by_cases c1 : thM s (a : Nat) = 0 ∨ thM s (b : Nat) = 0
  · rw [if_pos c1]; exact h
  · rw [if_neg c1]
    by_cases c2 : d ≠ -1
    · rw [if_pos c2]
      exact h.wkS ha hb hab (by omega) ((th_R ha).mp (by omega)) ((th_R hb).mp (by omega))
    · rw [if_neg c2]
      split
      · exact h.dgP ha hb
      · exact h
theorem dm_01 (a b : Nat) (d : Int) : (dmS s a b d).1 = 0 ∨ (dmS s a b d).1 = 1 := by
  unfold dmS
  repeat' split
  all_goals first | exact Or.inl rfl | exact Or.inr rfl
theorem o_doOrder {a b : Nat} {d : Int} (hC : ClsI G σ B s kp p n t) (hg : Good s) (hG : G 0 ≤ B) (ha : a < 6) (hb : b < 6) (hd : 0 ≤ d ∧ d ≤ 4)
    (hQ : ∀ σ' : AS, ClsI G σ' B (dmS s a b (dmD d)).2 kp p n t → FrB B (B + 46) σ σ' → Q (.inl (some (vI (dmS s a b (dmD d)).1))) σ') :
    CW G k_Cp_doOrder [vR B, vI (a : Nat), vI (b : Nat), vI d] σ Q := by
  have hB : σ.1 B = _ := hC.1
  have t1 := thM_bd s (a : Nat)
  have t2 := thM_bd s (b : Nat)
  have hh := fun (r : Nat) (hr : r < 6) (Q : (Option AV ⊕ Nat) → AS → Prop) => (show CW G k_Plan_hasChamber [vR (B + 1), vI (r : Nat)] σ Q = Q (.inl (some (vI (thM s (r : Nat))))) σ by rw [s_Plan_hasChamber hC.2.1 hg.bx (by unfold inR; omega), hasB_th])
  have no : (thM s (a : Nat) = 0 ∨ thM s (b : Nat) = 0) → WP G k_Cp_doOrder 22 [some (vR B), some (vI (a : Nat)), some (vI (b : Nat)), some (vI d)] [] σ Q := by
    intro c
    have e : dmS s a b (dmD d) = (0, s) := by
      unfold dmS
      rw [if_pos c]
    have hq := hQ σ (by rw [e]; exact hC) (FrB.refl _ _ _)
    rw [e] at hq
    simp only [e_Cp_doOrder_22, e_Cp_doOrder_23, kR_l, kR_r, kP_0, kP_i, kP_r, kP_n, kP_s, kP_o, kLen_I, kLen_L, kLen_R, kLdI_0, kLdI_1, kLdI_2, kLdI_3, kStI_0, kStI_1, kLdL_e, kStL_e, kLdR_e, kStR_e, kFld_e, kNth_0, kNth_s, kPut_e, fit_I, fit_Z, fit_B, fit_C, fit_A, fit_O, Option.toList_some, Option.toList_none, List.cons_append, List.nil_append, true_and, and_true, List.set_cons_zero, List.set_cons_succ, st_same, Int.toNat_natCast, Int.cast_ofNat_Int, Nat.zero_add, Nat.reduceAdd, kRcv_1, kRcv_2, kRcv_3, kRcv_0, kRcv_4, kRcv_5]
    first | exact hq | exact ⟨trivial, hq⟩ | exact ⟨by simp, hq⟩
  simp only [c_Cp_doOrder, e_Cp_doOrder_0, e_Cp_doOrder_1, e_Cp_doOrder_4, e_Cp_doOrder_5, kR_l, kR_r, kP_0, kP_i, kP_r, kP_n, kP_s, kP_o, kLen_I, kLen_L, kLen_R, kLdI_0, kLdI_1, kLdI_2, kLdI_3, kStI_0, kStI_1, kLdL_e, kStL_e, kLdR_e, kStR_e, kFld_e, kNth_0, kNth_s, kPut_e, fit_I, fit_Z, fit_B, fit_C, fit_A, fit_O, Option.toList_some, Option.toList_none, List.cons_append, List.nil_append, true_and, and_true, List.set_cons_zero, List.set_cons_succ, st_same, Int.toNat_natCast, Int.cast_ofNat_Int, Nat.zero_add, Nat.reduceAdd, kRcv_1, kRcv_2, kRcv_3, kRcv_0, kRcv_4, kRcv_5, hB, hC.2.1.1]
  rw [hh a ha]
  simp only [e_Cp_doOrder_8, e_Cp_doOrder_11, e_Cp_doOrder_12, e_Cp_doOrder_15, e_Cp_doOrder_16, kR_l, kR_r, kP_0, kP_i, kP_r, kP_n, kP_s, kP_o, kLen_I, kLen_L, kLen_R, kLdI_0, kLdI_1, kLdI_2, kLdI_3, kStI_0, kStI_1, kLdL_e, kStL_e, kLdR_e, kStR_e, kFld_e, kNth_0, kNth_s, kPut_e, fit_I, fit_Z, fit_B, fit_C, fit_A, fit_O, Option.toList_some, Option.toList_none, List.cons_append, List.nil_append, true_and, and_true, List.set_cons_zero, List.set_cons_succ, st_same, Int.toNat_natCast, Int.cast_ofNat_Int, Nat.zero_add, Nat.reduceAdd, kRcv_1, kRcv_2, kRcv_3, kRcv_0, kRcv_4, kRcv_5, hB, hC.2.1.1]
  refine ⟨by unfold inR; omega, fun c => no (Or.inl c), fun c1 => ?_⟩
  rw [hh b hb]
  simp only [e_Cp_doOrder_19, e_Cp_doOrder_24, e_Cp_doOrder_25, e_Cp_doOrder_26, kR_l, kR_r, kP_0, kP_i, kP_r, kP_n, kP_s, kP_o, kLen_I, kLen_L, kLen_R, kLdI_0, kLdI_1, kLdI_2, kLdI_3, kStI_0, kStI_1, kLdL_e, kStL_e, kLdR_e, kStR_e, kFld_e, kNth_0, kNth_s, kPut_e, fit_I, fit_Z, fit_B, fit_C, fit_A, fit_O, Option.toList_some, Option.toList_none, List.cons_append, List.nil_append, true_and, and_true, List.set_cons_zero, List.set_cons_succ, st_same, Int.toNat_natCast, Int.cast_ofNat_Int, Nat.zero_add, Nat.reduceAdd, kRcv_1, kRcv_2, kRcv_3, kRcv_0, kRcv_4, kRcv_5]
  refine ⟨by unfold inR; omega, fun c2 => ⟨⟨by unfold inR; omega, by unfold inR; omega⟩, fun c3 => ?_, fun c3 => ?_⟩, fun c => no (Or.inr (Classical.byContradiction c))⟩
  · have hcc : ¬ (thM s (a : Nat) = 0 ∨ thM s (b : Nat) = 0) := fun z => z.elim c1 c2
    have e0 : dmD d = -1 := if_pos c3
    have r1 : isR s a := (th_R ha).mp (by omega)
    have r2 : isR s b := (th_R hb).mp (by omega)
    obtain ⟨m, A, hy⟩ := hC.2.2.2.2.2.1
    have hyr := WyI.obj hy
    have hbd := rsF_bd hg ha hb
    simp only [e_Cp_doOrder_41, e_Cp_doOrder_42, e_Cp_doOrder_45, e_Cp_doOrder_46, e_Cp_doOrder_49, e_Cp_doOrder_50, e_Cp_doOrder_51, kR_l, kR_r, kP_0, kP_i, kP_r, kP_n, kP_s, kP_o, kLen_I, kLen_L, kLen_R, kLdI_0, kLdI_1, kLdI_2, kLdI_3, kStI_0, kStI_1, kLdL_e, kStL_e, kLdR_e, kStR_e, kFld_e, kNth_0, kNth_s, kPut_e, fit_I, fit_Z, fit_B, fit_C, fit_A, fit_O, Option.toList_some, Option.toList_none, List.cons_append, List.nil_append, true_and, and_true, List.set_cons_zero, List.set_cons_succ, st_same, Int.toNat_natCast, Int.cast_ofNat_Int, Nat.zero_add, Nat.reduceAdd, kRcv_1, kRcv_2, kRcv_3, kRcv_0, kRcv_4, kRcv_5, hB, hyr]
    refine way_id hy (w_find hC.2.1 (by omega) (by omega) hg ha hb r1 r2 (fun m' A' q1 q2 q3 _ => ?_))
    have hC1 := hC.way hG m' A'
    have f1 := setWy_fr σ (B + 37) m' A'
    have hy1 := setWy_is σ (B + 37) m' A'
    generalize setWy σ (B + 37) m' A' = σ1 at *
    have hB1 : σ1.1 B = _ := hC1.1
    have hyr1 := WyI.obj hy1
    have h01 := isW_bd s a b
    by_cases c4 : isW s a b = 1
    · have er : rsF s a b = cW s a b := if_pos c4
      have e : dmS s a b (dmD d) = (1, (dgP s a b).1) := by
        unfold dmS
        rw [if_neg hcc, e0, if_neg (by decide), if_pos c4]
      rw [er]
      simp only [e_Cp_doOrder_54, e_Cp_doOrder_55, e_Cp_doOrder_60, e_Cp_doOrder_61, e_Cp_doOrder_64, e_Cp_doOrder_65, e_Cp_doOrder_68, kR_l, kR_r, kP_0, kP_i, kP_r, kP_n, kP_s, kP_o, kLen_I, kLen_L, kLen_R, kLdI_0, kLdI_1, kLdI_2, kLdI_3, kStI_0, kStI_1, kLdL_e, kStL_e, kLdR_e, kStR_e, kFld_e, kNth_0, kNth_s, kPut_e, fit_I, fit_Z, fit_B, fit_C, fit_A, fit_O, Option.toList_some, Option.toList_none, List.cons_append, List.nil_append, true_and, and_true, List.set_cons_zero, List.set_cons_succ, st_same, Int.toNat_natCast, Int.cast_ofNat_Int, Nat.zero_add, Nat.reduceAdd, kRcv_1, kRcv_2, kRcv_3, kRcv_0, kRcv_4, kRcv_5, hB1, hyr1]
      refine ⟨⟨by unfold inR; omega, by unfold inR; omega⟩, fun _ => ?_, fun z => absurd (show ¬ cW s a b = -1 by omega) z⟩
      refine way_id hy1 (w_digFound hC1.2.1 (by omega) (by omega) hg ha hb q1 q2 q3 (fun A2 => ?_))
      have f3 := setPs_fr σ1 (B + 1) (dgP s a b).1
      have f4 := setWy_fr (setPs σ1 (B + 1) (dgP s a b).1) (B + 37) m' A2
      have hq := hQ _ (by rw [e]; exact (hC1.plan hG f3 (setPs_is _ _ _)).way hG m' A2) (((f1.wide (by omega) (by omega)).trans (f3.wide (by omega) (by omega))).trans (f4.wide (by omega) (by omega)))
      rw [e] at hq
      clear hQ
      simp only [e_Cp_doOrder_71, e_Cp_doOrder_72, e_Cp_doOrder_73, kR_l, kR_r, kP_0, kP_i, kP_r, kP_n, kP_s, kP_o, kLen_I, kLen_L, kLen_R, kLdI_0, kLdI_1, kLdI_2, kLdI_3, kStI_0, kStI_1, kLdL_e, kStL_e, kLdR_e, kStR_e, kFld_e, kNth_0, kNth_s, kPut_e, fit_I, fit_Z, fit_B, fit_C, fit_A, fit_O, Option.toList_some, Option.toList_none, List.cons_append, List.nil_append, true_and, and_true, List.set_cons_zero, List.set_cons_succ, st_same, Int.toNat_natCast, Int.cast_ofNat_Int, Nat.zero_add, Nat.reduceAdd, kRcv_1, kRcv_2, kRcv_3, kRcv_0, kRcv_4, kRcv_5]
      first | exact hq | exact ⟨trivial, hq⟩ | exact ⟨by simp, hq⟩
    · have er : rsF s a b = -1 := if_neg c4
      have e : dmS s a b (dmD d) = (0, s) := by
        unfold dmS
        rw [if_neg hcc, e0, if_neg (by decide), if_neg c4]
      have hq := hQ _ (by rw [e]; exact hC1) (f1.wide (by omega) (by omega))
      rw [e] at hq
      clear hQ
      rw [er]
      simp only [e_Cp_doOrder_54, e_Cp_doOrder_55, e_Cp_doOrder_58, e_Cp_doOrder_59, kR_l, kR_r, kP_0, kP_i, kP_r, kP_n, kP_s, kP_o, kLen_I, kLen_L, kLen_R, kLdI_0, kLdI_1, kLdI_2, kLdI_3, kStI_0, kStI_1, kLdL_e, kStL_e, kLdR_e, kStR_e, kFld_e, kNth_0, kNth_s, kPut_e, fit_I, fit_Z, fit_B, fit_C, fit_A, fit_O, Option.toList_some, Option.toList_none, List.cons_append, List.nil_append, true_and, and_true, List.set_cons_zero, List.set_cons_succ, st_same, Int.toNat_natCast, Int.cast_ofNat_Int, Nat.zero_add, Nat.reduceAdd, kRcv_1, kRcv_2, kRcv_3, kRcv_0, kRcv_4, kRcv_5]
      all_goals ((repeat' (first | with_reducible refine And.intro ?_ ?_ | intro _)) <;> first | with_reducible assumption | exact True.intro | with_reducible exact hq | omega | (simp only [inR] at *; omega) | exact hq | with_reducible rfl | rfl | (simp; done) | (exfalso; simp_all; done) | skip)
  · have hcc : ¬ (thM s (a : Nat) = 0 ∨ thM s (b : Nat) = 0) := fun z => z.elim c1 c2
    have e0 : dmD d = d := if_neg c3
    have e : dmS s a b (dmD d) = (1, wkS s a b d) := by
      unfold dmS
      rw [if_neg hcc, e0, if_pos (by omega)]
    have hp := wkS_p (s := s) (w := d) ha hb
    simp only [e_Cp_doOrder_29, e_Cp_doOrder_30, e_Cp_doOrder_33, e_Cp_doOrder_34, e_Cp_doOrder_35, e_Cp_doOrder_36, kR_l, kR_r, kP_0, kP_i, kP_r, kP_n, kP_s, kP_o, kLen_I, kLen_L, kLen_R, kLdI_0, kLdI_1, kLdI_2, kLdI_3, kStI_0, kStI_1, kLdL_e, kStL_e, kLdR_e, kStR_e, kFld_e, kNth_0, kNth_s, kPut_e, fit_I, fit_Z, fit_B, fit_C, fit_A, fit_O, Option.toList_some, Option.toList_none, List.cons_append, List.nil_append, true_and, and_true, List.set_cons_zero, List.set_cons_succ, st_same, Int.toNat_natCast, Int.cast_ofNat_Int, Nat.zero_add, Nat.reduceAdd, kRcv_1, kRcv_2, kRcv_3, kRcv_0, kRcv_4, kRcv_5, hB, hC.2.1.1]
    rw [s_Plan_changeWidth hC.2.1 (by omega) ha hb, setP_wd hC.2.1, hp.2.2.1, hp.1, hp.2.1, hp.2.2.2]
    have f2 := setPs_fr σ (B + 1) (wkS s a b d)
    have hq := hQ (setPs σ (B + 1) (wkS s a b d)) (by rw [e]; exact hC.plan hG f2 (setPs_is _ _ _)) (f2.wide (by omega) (by omega))
    rw [e] at hq
    clear hQ
    simp only [e_Cp_doOrder_39, e_Cp_doOrder_40, kR_l, kR_r, kP_0, kP_i, kP_r, kP_n, kP_s, kP_o, kLen_I, kLen_L, kLen_R, kLdI_0, kLdI_1, kLdI_2, kLdI_3, kStI_0, kStI_1, kLdL_e, kStL_e, kLdR_e, kStR_e, kFld_e, kNth_0, kNth_s, kPut_e, fit_I, fit_Z, fit_B, fit_C, fit_A, fit_O, Option.toList_some, Option.toList_none, List.cons_append, List.nil_append, true_and, and_true, List.set_cons_zero, List.set_cons_succ, st_same, Int.toNat_natCast, Int.cast_ofNat_Int, Nat.zero_add, Nat.reduceAdd, kRcv_1, kRcv_2, kRcv_3, kRcv_0, kRcv_4, kRcv_5]
    first | exact hq | exact ⟨trivial, hq⟩ | exact ⟨by simp, hq⟩
theorem o_run1 {kl : Nat} (hC : ClsI G σ B s kp p n t) (hI : GdI s kp p n t) (hG : G 0 ≤ B) (hkl : KpO (cA t n) kl) (h0 : okO (cA t n) kl n = 0)
    (hQ : ∀ σ' : AS, ClsI G σ' B s kp p n t → FrB B (B + 46) σ σ' → Q (.inr 0) (am_th σ')) :
    CW G k_Cp_run [vR B] σ Q := by
  have hB : σ.1 B = _ := hC.1
  obtain ⟨⟨a, b, d, w, hO⟩, hc⟩ := hC.2.2.2.2.1
  have hr := oOr_rc (σ := σ) (O := B + 35) (n := n) (a := a) (b := b) (d := d) (w := w)
  rw [st_id σ _ _ hO] at hr
  simp only [c_Cp_run, e_Cp_run_0, e_Cp_run_1, e_Cp_run_4, kR_l, kR_r, kP_0, kP_i, kP_r, kP_n, kP_s, kP_o, kLen_I, kLen_L, kLen_R, kLdI_0, kLdI_1, kLdI_2, kLdI_3, kStI_0, kStI_1, kLdL_e, kStL_e, kLdR_e, kStR_e, kFld_e, kNth_0, kNth_s, kPut_e, fit_I, fit_Z, fit_B, fit_C, fit_A, fit_O, Option.toList_some, Option.toList_none, List.cons_append, List.nil_append, true_and, and_true, List.set_cons_zero, List.set_cons_succ, st_same, Int.toNat_natCast, Int.cast_ofNat_Int, Nat.zero_add, Nat.reduceAdd, kRcv_1, kRcv_2, kRcv_3, kRcv_0, kRcv_4, kRcv_5, hB, hr]
  refine st_idc hO (s_areOrders (by omega) hC.2.2.2.2.2.2.2.2.2 hc hI.2.2.2.1 hI.2.2.2.2 hkl (fun a' b' d' w' => ?_))
  have f := (st_fr σ (B + 35) (oOr (B + 35) n a' b' d' w')).wide (lo' := B + 35) (hi' := B + 37) (by omega) (by omega)
  have hC1 := hC.ord hG f (n' := n) (t' := t) ⟨⟨a', b', d', _, by rw [st_hp, if_pos rfl]⟩, by rw [st_hp, if_neg (by omega)]; exact hc⟩
  have hq := hQ _ hC1 (f.wide (by omega) (by omega))
  clear hQ
  rw [h0]
  simp only [e_Cp_run_7, e_Cp_run_10, kR_l, kR_r, kP_0, kP_i, kP_r, kP_n, kP_s, kP_o, kLen_I, kLen_L, kLen_R, kLdI_0, kLdI_1, kLdI_2, kLdI_3, kStI_0, kStI_1, kLdL_e, kStL_e, kLdR_e, kStR_e, kFld_e, kNth_0, kNth_s, kPut_e, fit_I, fit_Z, fit_B, fit_C, fit_A, fit_O, Option.toList_some, Option.toList_none, List.cons_append, List.nil_append, true_and, and_true, List.set_cons_zero, List.set_cons_succ, st_same, Int.toNat_natCast, Int.cast_ofNat_Int, Nat.zero_add, Nat.reduceAdd, kRcv_1, kRcv_2, kRcv_3, kRcv_0, kRcv_4, kRcv_5]
  all_goals ((repeat' (first | with_reducible refine And.intro ?_ ?_ | intro _)) <;> first | with_reducible assumption | exact True.intro | with_reducible exact hq | omega | (simp only [inR] at *; omega) | exact hq | with_reducible rfl | rfl | (simp; done) | (exfalso; simp_all; done) | skip)
theorem o_run0 {kl : Nat} (hC : ClsI G σ B s kp p n t) (hI : GdI s kp p n t) (hG : G 0 ≤ B) (hkl : KpO (cA t n) kl) (h1 : okO (cA t n) kl n = 1)
    (hQ : ∀ σ' : AS, ClsI G σ' B (rnM (ordO (cA t n)) (kl + 1) 0 s).2 (svK kp) (svF s p kp) 0 t → Good (rnM (ordO (cA t n)) (kl + 1) 0 s).2 → FrB B (B + 46) σ σ' → Q (.inl (some (vI ((rnM (ordO (cA t n)) (kl + 1) 0 s).1 : Nat)))) σ') :
    CW G k_Cp_run [vR B] σ Q := by
  have hB : σ.1 B = _ := hC.1
  have hn := hI.2.2.2.1
  have ht := hI.2.2.2.2
  have hall := okO_all hkl h1
  have hen : (rdO (cA t n) (stO (cA t n) kl)).1 = n := by
    unfold okO at h1
    split at h1
    · rename_i z; exact z.2
    · omega
  obtain ⟨⟨a, b, d, w, hO⟩, hc⟩ := hC.2.2.2.2.1
  have hr := oOr_rc (σ := σ) (O := B + 35) (n := n) (a := a) (b := b) (d := d) (w := w)
  rw [st_id σ _ _ hO] at hr
  simp only [c_Cp_run, e_Cp_run_0, e_Cp_run_1, e_Cp_run_4, kR_l, kR_r, kP_0, kP_i, kP_r, kP_n, kP_s, kP_o, kLen_I, kLen_L, kLen_R, kLdI_0, kLdI_1, kLdI_2, kLdI_3, kStI_0, kStI_1, kLdL_e, kStL_e, kLdR_e, kStR_e, kFld_e, kNth_0, kNth_s, kPut_e, fit_I, fit_Z, fit_B, fit_C, fit_A, fit_O, Option.toList_some, Option.toList_none, List.cons_append, List.nil_append, true_and, and_true, List.set_cons_zero, List.set_cons_succ, st_same, Int.toNat_natCast, Int.cast_ofNat_Int, Nat.zero_add, Nat.reduceAdd, kRcv_1, kRcv_2, kRcv_3, kRcv_0, kRcv_4, kRcv_5, hB, hr]
  refine st_idc hO (s_areOrders (by omega) hC.2.2.2.2.2.2.2.2.2 hc hn ht hkl (fun a' b' d' w' => ?_))
  have f0 := (st_fr σ (B + 35) (oOr (B + 35) n a' b' d' w')).wide (lo' := B + 35) (hi' := B + 37) (by omega) (by omega)
  have hC0 := hC.ord hG f0 (n' := n) (t' := t) ⟨⟨a', b', d', _, by rw [st_hp, if_pos rfl]⟩, by rw [st_hp, if_neg (by omega)]; exact hc⟩
  generalize am_st σ (B + 35) (oOr (B + 35) n a' b' d' w') = σ0 at *
  have hB0 : σ0.1 B = _ := hC0.1
  obtain ⟨nx, -, -, hV, -⟩ := hC0.2.2.2.1
  rw [h1]
  simp only [e_Cp_run_7, e_Cp_run_20, e_Cp_run_21, e_Cp_run_24, e_Cp_run_25, e_Cp_run_28, kR_l, kR_r, kP_0, kP_i, kP_r, kP_n, kP_s, kP_o, kLen_I, kLen_L, kLen_R, kLdI_0, kLdI_1, kLdI_2, kLdI_3, kStI_0, kStI_1, kLdL_e, kStL_e, kLdR_e, kStR_e, kFld_e, kNth_0, kNth_s, kPut_e, fit_I, fit_Z, fit_B, fit_C, fit_A, fit_O, Option.toList_some, Option.toList_none, List.cons_append, List.nil_append, true_and, and_true, List.set_cons_zero, List.set_cons_succ, st_same, Int.toNat_natCast, Int.cast_ofNat_Int, Nat.zero_add, Nat.reduceAdd, kRcv_1, kRcv_2, kRcv_3, kRcv_0, kRcv_4, kRcv_5, hB0, hV]
  refine ⟨by unfold inR; omega, fun _ => ?_, fun z => absurd (show (1 : Int) ≠ 0 by decide) z⟩
  refine v_push hC0 hI hG (fun σ1 hC1 f1 => ?_)
  have f01 : FrB B (B + 46) σ σ1 := (f0.wide (by omega) (by omega)).trans (f1.wide (by omega) (by omega))
  simp only [e_Cp_run_31, e_Cp_run_32, e_Cp_run_33, e_Cp_run_34, kR_l, kR_r, kP_0, kP_i, kP_r, kP_n, kP_s, kP_o, kLen_I, kLen_L, kLen_R, kLdI_0, kLdI_1, kLdI_2, kLdI_3, kStI_0, kStI_1, kLdL_e, kStL_e, kLdR_e, kStR_e, kFld_e, kNth_0, kNth_s, kPut_e, fit_I, fit_Z, fit_B, fit_C, fit_A, fit_O, Option.toList_some, Option.toList_none, List.cons_append, List.nil_append, true_and, and_true, List.set_cons_zero, List.set_cons_succ, st_same, Int.toNat_natCast, Int.cast_ofNat_Int, Nat.zero_add, Nat.reduceAdd, kRcv_1, kRcv_2, kRcv_3, kRcv_0, kRcv_4, kRcv_5]
  have hkl12 := hkl.1
  have fin : ∀ (k : Nat) (σ2 : AS) (sk : Nat → Int) (z2 z3 : Option AV), ClsI G σ2 B sk (svK kp) (svF s p kp) n t → Good sk → FrB B (B + 46) σ σ2 → rnM (ordO (cA t n)) (kl + 1) 0 s = (k, sk) → WP G k_Cp_run 102 [some (vR B), some (vI (k : Nat)), z2, z3] [] σ2 Q := by
    intro k σ2 sk z2 z3 hC2 hg2 f2 e
    have hB2 : σ2.1 B = _ := hC2.1
    obtain ⟨⟨a2, b2, d2, w2, hO2⟩, hc2⟩ := hC2.2.2.2.2.1
    have hr2 := oOr_rc (σ := σ2) (O := B + 35) (n := n) (a := a2) (b := b2) (d := d2) (w := w2)
    rw [st_id σ2 _ _ hO2] at hr2
    have f3 := (st_fr σ2 (B + 35) (oOr (B + 35) 0 a2 b2 d2 w2)).wide (lo' := B + 35) (hi' := B + 37) (by omega) (by omega)
    have hC3 := hC2.ord hG f3 (n' := 0) (t' := t) ⟨⟨a2, b2, d2, w2, by rw [st_hp, if_pos rfl]⟩, by rw [st_hp, if_neg (by omega)]; exact hc2⟩
    have hq := hQ _ (by rw [e]; exact hC3) (by rw [e]; exact hg2) (f2.trans (f3.wide (by omega) (by omega)))
    rw [e] at hq
    clear hQ
    simp only [e_Cp_run_102, e_Cp_run_103, e_Cp_run_106, kR_l, kR_r, kP_0, kP_i, kP_r, kP_n, kP_s, kP_o, kLen_I, kLen_L, kLen_R, kLdI_0, kLdI_1, kLdI_2, kLdI_3, kStI_0, kStI_1, kLdL_e, kStL_e, kLdR_e, kStR_e, kFld_e, kNth_0, kNth_s, kPut_e, fit_I, fit_Z, fit_B, fit_C, fit_A, fit_O, Option.toList_some, Option.toList_none, List.cons_append, List.nil_append, true_and, and_true, List.set_cons_zero, List.set_cons_succ, st_same, Int.toNat_natCast, Int.cast_ofNat_Int, Nat.zero_add, Nat.reduceAdd, kRcv_1, kRcv_2, kRcv_3, kRcv_0, kRcv_4, kRcv_5, hB2, hr2]
    rw [s_clear (by omega) hO2]
    simp only [e_Cp_run_109, e_Cp_run_110, kR_l, kR_r, kP_0, kP_i, kP_r, kP_n, kP_s, kP_o, kLen_I, kLen_L, kLen_R, kLdI_0, kLdI_1, kLdI_2, kLdI_3, kStI_0, kStI_1, kLdL_e, kStL_e, kLdR_e, kStR_e, kFld_e, kNth_0, kNth_s, kPut_e, fit_I, fit_Z, fit_B, fit_C, fit_A, fit_O, Option.toList_some, Option.toList_none, List.cons_append, List.nil_append, true_and, and_true, List.set_cons_zero, List.set_cons_succ, st_same, Int.toNat_natCast, Int.cast_ofNat_Int, Nat.zero_add, Nat.reduceAdd, kRcv_1, kRcv_2, kRcv_3, kRcv_0, kRcv_4, kRcv_5]
    first | exact hq | exact ⟨trivial, hq⟩ | exact ⟨by simp, hq⟩
  have key := upS (fun k (S : AS) => ∀ z3, zI z3 → WP G k_Cp_run 35 [some (vR B), some (vI (k : Nat)), some (vI (stO (cA t n) k : Nat)), z3] [] S Q) (fun k S => ∃ sk, ClsI G S B sk (svK kp) (svF s p kp) n t ∧ Good sk ∧ FrB B (B + 46) σ S ∧ rnM (ordO (cA t n)) (kl + 1 - k) k sk = rnM (ordO (cA t n)) (kl + 1) 0 s) (n := kl + 1) ?_ ?_
  · exact key σ1 ⟨s, hC1, hI.1, f01, rfl⟩ none zI_n
  · intro k S hk ⟨sk, hCk, hgk, fk, hrk⟩ ih z3 hz3
    have hBk : S.1 B = _ := hCk.1
    have hw1 := hall k (by omega)
    have ho := ordO_ok hw1
    have hst := stO_bd t (n := n) k (fun j hj => hkl.2.1 j (by omega))
    have hlt : stO (cA t n) k < n := ltA_lt (t := t) (n := n) (i := stO (cA t n) k) (by rw [ho.2.2.2.2.2.1]; omega)
    have hle := rdO_le t hst.2
    have hww := rdO_w hw1
    obtain ⟨⟨a2, b2, d2, w2, hO2⟩, hc2⟩ := hCk.2.2.2.2.1
    have hr2 := oOr_rc (σ := S) (O := B + 35) (n := n) (a := a2) (b := b2) (d := d2) (w := w2)
    rw [st_id S _ _ hO2] at hr2
    rw [e_Cp_run_35]
    simp only [e_Cp_run_36, e_Cp_run_38, e_Cp_run_41, e_Cp_run_42, e_Cp_run_43, e_Cp_run_46, kR_l, kR_r, kP_0, kP_i, kP_r, kP_n, kP_s, kP_o, kLen_I, kLen_L, kLen_R, kLdI_0, kLdI_1, kLdI_2, kLdI_3, kStI_0, kStI_1, kLdL_e, kStL_e, kLdR_e, kStR_e, kFld_e, kNth_0, kNth_s, kPut_e, fit_I, fit_Z, fit_B, fit_C, fit_A, fit_O, Option.toList_some, Option.toList_none, List.cons_append, List.nil_append, true_and, and_true, List.set_cons_zero, List.set_cons_succ, st_same, Int.toNat_natCast, Int.cast_ofNat_Int, Nat.zero_add, Nat.reduceAdd, kRcv_1, kRcv_2, kRcv_3, kRcv_0, kRcv_4, kRcv_5, hBk, hr2]
    refine ⟨⟨by unfold inR; omega, by unfold inR; omega⟩, fun z => absurd z (by omega), fun _ => ?_⟩
    rw [s_len hO2]
    simp only [e_Cp_run_49, e_Cp_run_52, e_Cp_run_53, e_Cp_run_56, e_Cp_run_57, kR_l, kR_r, kP_0, kP_i, kP_r, kP_n, kP_s, kP_o, kLen_I, kLen_L, kLen_R, kLdI_0, kLdI_1, kLdI_2, kLdI_3, kStI_0, kStI_1, kLdL_e, kStL_e, kLdR_e, kStR_e, kFld_e, kNth_0, kNth_s, kPut_e, fit_I, fit_Z, fit_B, fit_C, fit_A, fit_O, Option.toList_some, Option.toList_none, List.cons_append, List.nil_append, true_and, and_true, List.set_cons_zero, List.set_cons_succ, st_same, Int.toNat_natCast, Int.cast_ofNat_Int, Nat.zero_add, Nat.reduceAdd, kRcv_1, kRcv_2, kRcv_3, kRcv_0, kRcv_4, kRcv_5, hBk, hr2]
    refine ⟨⟨by unfold inR; omega, by unfold inR; omega⟩, fun z => absurd z (by omega), fun _ => ?_⟩
    refine st_idc hO2 (s_readOrder (by omega) hCk.2.2.2.2.2.2.2.2.2 hc2 hn (by omega) ht (fun a3 b3 d3 h3 => ?_))
    obtain ⟨e1, e2, e3⟩ := h3 hw1
    have f3 := (st_fr S (B + 35) (oOr (B + 35) n a3 b3 d3 (rdO (cA t n) (stO (cA t n) k)).2)).wide (lo' := B + 35) (hi' := B + 37) (by omega) (by omega)
    have hO3 : (am_st S (B + 35) (oOr (B + 35) n a3 b3 d3 (rdO (cA t n) (stO (cA t n) k)).2)).1 (B + 35) = some (oOr (B + 35) n a3 b3 d3 (rdO (cA t n) (stO (cA t n) k)).2) := by rw [st_hp, if_pos rfl]
    have hC3 := hCk.ord hG f3 (n' := n) (t' := t) ⟨⟨_, _, _, _, hO3⟩, by rw [st_hp, if_neg (by omega)]; exact hc2⟩
    have hr3 := oOr_rc (σ := S) (O := B + 35) (n := n) (a := a3) (b := b3) (d := d3) (w := (rdO (cA t n) (stO (cA t n) k)).2)
    generalize am_st S (B + 35) (oOr (B + 35) n a3 b3 d3 (rdO (cA t n) (stO (cA t n) k)).2) = S3 at *
    have hB3 : S3.1 B = _ := hC3.1
    simp only [e_Cp_run_60, e_Cp_run_61, e_Cp_run_62, e_Cp_run_63, e_Cp_run_66, kR_l, kR_r, kP_0, kP_i, kP_r, kP_n, kP_s, kP_o, kLen_I, kLen_L, kLen_R, kLdI_0, kLdI_1, kLdI_2, kLdI_3, kStI_0, kStI_1, kLdL_e, kStL_e, kLdR_e, kStR_e, kFld_e, kNth_0, kNth_s, kPut_e, fit_I, fit_Z, fit_B, fit_C, fit_A, fit_O, Option.toList_some, Option.toList_none, List.cons_append, List.nil_append, true_and, and_true, List.set_cons_zero, List.set_cons_succ, st_same, Int.toNat_natCast, Int.cast_ofNat_Int, Nat.zero_add, Nat.reduceAdd, kRcv_1, kRcv_2, kRcv_3, kRcv_0, kRcv_4, kRcv_5, hB3, hr3, kP_z hz3]
    rw [s_one hO3]
    simp only [e_Cp_run_69, e_Cp_run_70, e_Cp_run_73, kR_l, kR_r, kP_0, kP_i, kP_r, kP_n, kP_s, kP_o, kLen_I, kLen_L, kLen_R, kLdI_0, kLdI_1, kLdI_2, kLdI_3, kStI_0, kStI_1, kLdL_e, kStL_e, kLdR_e, kStR_e, kFld_e, kNth_0, kNth_s, kPut_e, fit_I, fit_Z, fit_B, fit_C, fit_A, fit_O, Option.toList_some, Option.toList_none, List.cons_append, List.nil_append, true_and, and_true, List.set_cons_zero, List.set_cons_succ, st_same, Int.toNat_natCast, Int.cast_ofNat_Int, Nat.zero_add, Nat.reduceAdd, kRcv_1, kRcv_2, kRcv_3, kRcv_0, kRcv_4, kRcv_5, hB3, hr3]
    rw [s_other hO3]
    simp only [e_Cp_run_76, e_Cp_run_77, e_Cp_run_80, kR_l, kR_r, kP_0, kP_i, kP_r, kP_n, kP_s, kP_o, kLen_I, kLen_L, kLen_R, kLdI_0, kLdI_1, kLdI_2, kLdI_3, kStI_0, kStI_1, kLdL_e, kStL_e, kLdR_e, kStR_e, kFld_e, kNth_0, kNth_s, kPut_e, fit_I, fit_Z, fit_B, fit_C, fit_A, fit_O, Option.toList_some, Option.toList_none, List.cons_append, List.nil_append, true_and, and_true, List.set_cons_zero, List.set_cons_succ, st_same, Int.toNat_natCast, Int.cast_ofNat_Int, Nat.zero_add, Nat.reduceAdd, kRcv_1, kRcv_2, kRcv_3, kRcv_0, kRcv_4, kRcv_5, hB3, hr3]
    rw [s_deed hO3]
    simp only [e_Cp_run_83, kR_l, kR_r, kP_0, kP_i, kP_r, kP_n, kP_s, kP_o, kLen_I, kLen_L, kLen_R, kLdI_0, kLdI_1, kLdI_2, kLdI_3, kStI_0, kStI_1, kLdL_e, kStL_e, kLdR_e, kStR_e, kFld_e, kNth_0, kNth_s, kPut_e, fit_I, fit_Z, fit_B, fit_C, fit_A, fit_O, Option.toList_some, Option.toList_none, List.cons_append, List.nil_append, true_and, and_true, List.set_cons_zero, List.set_cons_succ, st_same, Int.toNat_natCast, Int.cast_ofNat_Int, Nat.zero_add, Nat.reduceAdd, kRcv_1, kRcv_2, kRcv_3, kRcv_0, kRcv_4, kRcv_5, hB3]
    have hd0 : 0 ≤ d3 ∧ d3 ≤ 4 := by
      rw [e3]
      have hb1 := dB_bd (cA t n (stO (cA t n) k + 3))
      refine ⟨?_, hb1.2⟩
      refine Classical.byContradiction (fun z => ?_)
      have hm1 : dB (cA t n (stO (cA t n) k + 3)) = -1 := by omega
      have h5 := hww.2.2.2.2.1
      have h6 := hww.2.2.2.2.2.1
      rw [h6, hm1] at h5
      exact absurd h5 (by decide)
    have eo : (ordO (cA t n) k).2.2 = dmD d3 := by
      rw [e3]
      rfl
    rw [e1, e2, ho.2.2.2.2.2.1, ho.2.2.2.2.2.2]
    refine o_doOrder hC3 hgk hG ho.1 ho.2.1 hd0 (fun S4 hC4 f4 => ?_)
    have h01 := dm_01 (s := sk) (ordO (cA t n) k).1 (ordO (cA t n) k).2.1 (dmD d3)
    have hg4 := hgk.dm ho.1 ho.2.1 ho.2.2.1 (show -1 ≤ dmD d3 ∧ dmD d3 ≤ 3 by rw [← eo]; exact ⟨ho.2.2.2.1, ho.2.2.2.2.1⟩)
    have fS4 : FrB B (B + 46) σ S4 := (fk.trans (f3.wide (by omega) (by omega))).trans f4
    rw [show kl + 1 - k = (kl + 1 - (k + 1)) + 1 by omega, rnM, eo] at hrk
    simp only [e_Cp_run_86, kR_l, kR_r, kP_0, kP_i, kP_r, kP_n, kP_s, kP_o, kLen_I, kLen_L, kLen_R, kLdI_0, kLdI_1, kLdI_2, kLdI_3, kStI_0, kStI_1, kLdL_e, kStL_e, kLdR_e, kStR_e, kFld_e, kNth_0, kNth_s, kPut_e, fit_I, fit_Z, fit_B, fit_C, fit_A, fit_O, Option.toList_some, Option.toList_none, List.cons_append, List.nil_append, true_and, and_true, List.set_cons_zero, List.set_cons_succ, st_same, Int.toNat_natCast, Int.cast_ofNat_Int, Nat.zero_add, Nat.reduceAdd, kRcv_1, kRcv_2, kRcv_3, kRcv_0, kRcv_4, kRcv_5]
    refine ⟨by unfold inR; omega, fun c => ?_, fun c => ?_⟩
    · rw [if_pos (by omega)] at hrk
      have nx := ih S4 ⟨_, hC4, hg4, fS4, hrk⟩ (some (vI ((rdO (cA t n) (stO (cA t n) k)).1 : Nat))) (zI_s _)
      have es : stO (cA t n) (k + 1) = (rdO (cA t n) (stO (cA t n) k)).1 + 1 := rfl
      rw [es] at nx
      clear ih fin hQ
      simp only [e_Cp_run_92, e_Cp_run_95, e_Cp_run_96, e_Cp_run_97, e_Cp_run_98, e_Cp_run_99, kR_l, kR_r, kP_0, kP_i, kP_r, kP_n, kP_s, kP_o, kLen_I, kLen_L, kLen_R, kLdI_0, kLdI_1, kLdI_2, kLdI_3, kStI_0, kStI_1, kLdL_e, kStL_e, kLdR_e, kStR_e, kFld_e, kNth_0, kNth_s, kPut_e, fit_I, fit_Z, fit_B, fit_C, fit_A, fit_O, Option.toList_some, Option.toList_none, List.cons_append, List.nil_append, true_and, and_true, List.set_cons_zero, List.set_cons_succ, st_same, Int.toNat_natCast, Int.cast_ofNat_Int, Nat.zero_add, Nat.reduceAdd, kRcv_1, kRcv_2, kRcv_3, kRcv_0, kRcv_4, kRcv_5]
      all_goals ((repeat' (first | with_reducible refine And.intro ?_ ?_ | intro _)) <;> first | with_reducible assumption | exact True.intro | with_reducible exact nx | omega | (simp only [inR] at *; omega) | exact nx | with_reducible rfl | rfl | (simp; done) | (exfalso; simp_all; done) | skip)
    · rw [if_neg (by omega)] at hrk
      simp only [e_Cp_run_89, kR_l, kR_r, kP_0, kP_i, kP_r, kP_n, kP_s, kP_o, kLen_I, kLen_L, kLen_R, kLdI_0, kLdI_1, kLdI_2, kLdI_3, kStI_0, kStI_1, kLdL_e, kStL_e, kLdR_e, kStR_e, kFld_e, kNth_0, kNth_s, kPut_e, fit_I, fit_Z, fit_B, fit_C, fit_A, fit_O, Option.toList_some, Option.toList_none, List.cons_append, List.nil_append, true_and, and_true, List.set_cons_zero, List.set_cons_succ, st_same, Int.toNat_natCast, Int.cast_ofNat_Int, Nat.zero_add, Nat.reduceAdd, kRcv_1, kRcv_2, kRcv_3, kRcv_0, kRcv_4, kRcv_5]
      exact fin k S4 _ _ _ hC4 hg4 fS4 hrk.symm
  · intro S ⟨sk, hCk, hgk, fk, hrk⟩ z3 hz3
    have hBk : S.1 B = _ := hCk.1
    obtain ⟨⟨a2, b2, d2, w2, hO2⟩, hc2⟩ := hCk.2.2.2.2.1
    have hr2 := oOr_rc (σ := S) (O := B + 35) (n := n) (a := a2) (b := b2) (d := d2) (w := w2)
    rw [st_id S _ _ hO2] at hr2
    have es : stO (cA t n) (kl + 1) = n + 1 := by
      show (rdO (cA t n) (stO (cA t n) kl)).1 + 1 = n + 1
      rw [hen]
    rw [Nat.sub_self, rnM] at hrk
    have ff := fun z2 z3 => fin (kl + 1) S sk z2 z3 hCk hgk fk hrk.symm
    clear fin hQ
    rw [es]
    rw [e_Cp_run_35]
    simp only [e_Cp_run_36, e_Cp_run_38, e_Cp_run_41, e_Cp_run_42, e_Cp_run_43, e_Cp_run_46, kR_l, kR_r, kP_0, kP_i, kP_r, kP_n, kP_s, kP_o, kLen_I, kLen_L, kLen_R, kLdI_0, kLdI_1, kLdI_2, kLdI_3, kStI_0, kStI_1, kLdL_e, kStL_e, kLdR_e, kStR_e, kFld_e, kNth_0, kNth_s, kPut_e, fit_I, fit_Z, fit_B, fit_C, fit_A, fit_O, Option.toList_some, Option.toList_none, List.cons_append, List.nil_append, true_and, and_true, List.set_cons_zero, List.set_cons_succ, st_same, Int.toNat_natCast, Int.cast_ofNat_Int, Nat.zero_add, Nat.reduceAdd, kRcv_1, kRcv_2, kRcv_3, kRcv_0, kRcv_4, kRcv_5, hBk, hr2]
    refine ⟨⟨by unfold inR; omega, by unfold inR; omega⟩, fun z => absurd z (by omega), fun _ => ?_⟩
    rw [s_len hO2]
    simp only [e_Cp_run_49, kR_l, kR_r, kP_0, kP_i, kP_r, kP_n, kP_s, kP_o, kLen_I, kLen_L, kLen_R, kLdI_0, kLdI_1, kLdI_2, kLdI_3, kStI_0, kStI_1, kLdL_e, kStL_e, kLdR_e, kStR_e, kFld_e, kNth_0, kNth_s, kPut_e, fit_I, fit_Z, fit_B, fit_C, fit_A, fit_O, Option.toList_some, Option.toList_none, List.cons_append, List.nil_append, true_and, and_true, List.set_cons_zero, List.set_cons_succ, st_same, Int.toNat_natCast, Int.cast_ofNat_Int, Nat.zero_add, Nat.reduceAdd, kRcv_1, kRcv_2, kRcv_3, kRcv_0, kRcv_4, kRcv_5]
    refine ⟨⟨by unfold inR; omega, by unfold inR; omega⟩, fun _ => ff _ _, fun z => absurd (by omega) z⟩
end CP3
