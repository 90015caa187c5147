/-! THE REFERENCE: the whole text, and what it does -/
def TD (T c : Nat → Int) (k : Nat) : Prop := T (3 * k) = ltA c (stO c k) ∧ T (3 * k + 1) = ltA c (stO c k + 1) ∧ T (3 * k + 2) = if dB (c (stO c k + 3)) = 4 then -1 else dB (c (stO c k + 3))
/-- where the text's reading ends, and whether an order ends there -/
def enO (c : Nat → Int) (kl : Nat) : Nat := (rdO c (stO c kl)).1
def okO (c : Nat → Int) (kl n : Nat) : Int := if (rdO c (stO c kl)).2 = 1 ∧ (rdO c (stO c kl)).1 = n then 1 else 0
def KpO (c : Nat → Int) (kl : Nat) : Prop := kl ≤ 12 ∧ (∀ j, j < kl → ctO c j) ∧ ¬ ctO c kl
def KeepT (m m' : Nat → Int) (A A' : Nat → Nat → Int) : Prop := (∀ k, k ≠ 7 → k ≠ 8 → k ≠ 10 → m' k = m k) ∧ (∀ k, k ≠ 5 → A' k = A k)
section TX3
variable {G : Nat → Nat} {σ : AS} {Q : (Option AV ⊕ Nat) → AS → Prop} {M : Nat} {m : Nat → Int} {A : Nat → Nat → Int}
theorem s_isText {n kl : Nat} (hG : G 0 ≤ M) (h5 : m 5 = (n : Nat)) (hn : n ≤ 60) (ht : TxOK (A 4)) (hkl : KpO (cA (A 4) n) kl)
    (hQ : ∀ (m' : Nat → Int) (A' : Nat → Nat → Int), KeepT m m' A A' → m' 7 = (enO (cA (A 4) n) kl : Nat) → (okO (cA (A 4) n) kl n = 0 → m' 8 = b01 (enO (cA (A 4) n) kl < n)) → (okO (cA (A 4) n) kl n = 1 → m' 10 = ((kl + 1 : Nat) : Int) ∧ ∀ k, k ≤ kl → TD (A' 5) (cA (A 4) n) k) → Q (.inl (some (vI (okO (cA (A 4) n) kl n)))) (setMd σ M m' A')) :
    CW G k_Model_isText [vR M] (setMd σ M m A) Q := by
  obtain ⟨h12, hct, hnc⟩ := hkl
  simp only [c_Model_isText, e_Model_isText_0, e_Model_isText_1, e_Model_isText_2, e_Model_isText_5, e_Model_isText_6, e_Model_isText_7, e_Model_isText_10, e_Model_isText_11, e_Model_isText_12, e_Model_isText_15, e_Model_isText_16, kR_l, kR_r, kP_0, kP_i, kP_r, kP_n, kP_s, kP_o, kLen_I, kLen_L, kLen_R, kLdI_0, kLdI_1, kLdI_2, kLdI_3, kStI_0, kStI_1, kLdL_e, kStL_e, kLdR_e, kStR_e, kFld_e, kNth_0, kNth_s, kPut_e, fit_I, fit_Z, fit_B, fit_C, fit_A, fit_O, Option.toList_some, Option.toList_none, List.cons_append, List.nil_append, true_and, and_true, List.set_cons_zero, List.set_cons_succ, st_same, Int.toNat_natCast, Int.cast_ofNat_Int, Nat.zero_add, Nat.reduceAdd, kRcv_1, kRcv_2, kRcv_3, kRcv_0, kRcv_4, kRcv_5, setMd_set, Mdo, Mda1, Mdw1, Mda2, Mdw2, Mda3, Mdw3, Mda4, Mdw4, Mda5, Mdw5, Mda6, Mdw6, Mda7, Mdw7, Mda8, Mdw8, Mda9, Mdw9, Mda10, Mdw10, Mda11, Mdw11, Mdp3, Mdp5, Mdp6, Mdp7, Mdp8, Mdp10, Mdp16, Mdp17, Mdp18, List.length_cons, List.length_nil]
  have key := upS (fun k (S : (Nat → Int) × (Nat → Nat → Int)) => WP G k_Model_isText 17 [some (vR M), some (vI 1)] [] (setMd σ M S.1 S.2) Q) (fun k S => KeepT m S.1 A S.2 ∧ S.1 7 = (stO (cA (A 4) n) k : Nat) ∧ S.1 10 = (k : Nat) ∧ ∀ j, j < k → TD (S.2 5) (cA (A 4) n) j) (n := kl) ?_ ?_
  · have k0 := key (upI (upI (upI m 7 0) 10 0) 8 0, A) ⟨⟨fun k a b c => by simp only [upI_at, if_neg a, if_neg b, if_neg c], fun _ _ => rfl⟩, rfl, rfl, fun j h => absurd h (by omega)⟩
    all_goals ((repeat' (first | with_reducible refine And.intro ?_ ?_ | intro _)) <;> first | with_reducible assumption | exact True.intro | with_reducible exact k0 | omega | (simp only [inR] at *; omega) | exact k0 | with_reducible rfl | rfl | (simp; done) | (exfalso; simp_all; done) | skip)
  · rintro k ⟨m', A'⟩ hk ⟨hK, h7, h10, hT⟩ ih
    dsimp only at h7 h10 hT hK ih
    have hb := stO_bd (A 4) k (fun j hj => hct j (by omega))
    have hb1 := stO_bd (A 4) (k + 1) (fun j hj => hct j (by omega))
    have e4 : A' 4 = A 4 := hK.2 4 (by decide)
    have h5' : m' 5 = (n : Nat) := by rw [hK.1 5 (by decide) (by decide) (by decide), h5]
    have hc := hct k hk
    rw [e_Model_isText_17]
    simp only [e_Model_isText_18, e_Model_isText_21, e_Model_isText_22, kR_l, kR_r, kP_0, kP_i, kP_r, kP_n, kP_s, kP_o, kLen_I, kLen_L, kLen_R, kLdI_0, kLdI_1, kLdI_2, kLdI_3, kStI_0, kStI_1, kLdL_e, kStL_e, kLdR_e, kStR_e, kFld_e, kNth_0, kNth_s, kPut_e, fit_I, fit_Z, fit_B, fit_C, fit_A, fit_O, Option.toList_some, Option.toList_none, List.cons_append, List.nil_append, true_and, and_true, List.set_cons_zero, List.set_cons_succ, st_same, Int.toNat_natCast, Int.cast_ofNat_Int, Nat.zero_add, Nat.reduceAdd, kRcv_1, kRcv_2, kRcv_3, kRcv_0, kRcv_4, kRcv_5, setMd_set, Mdo, Mda1, Mdw1, Mda2, Mdw2, Mda3, Mdw3, Mda4, Mdw4, Mda5, Mdw5, Mda6, Mdw6, Mda7, Mdw7, Mda8, Mdw8, Mda9, Mdw9, Mda10, Mdw10, Mda11, Mdw11, Mdp3, Mdp5, Mdp6, Mdp7, Mdp8, Mdp10, Mdp16, Mdp17, Mdp18]
    refine ⟨by unfold inR; omega, (fun h => by first | exact absurd h (by omega) | exact absurd trivial h | (exfalso; simp_all; done)), fun _ => ?_⟩
    refine s_isOrder (i := stO (cA (A 4) n) k) (n := n) (t := k) hG h7 h5' hn hb.2 (by rw [e4]; exact ht) h10 (by omega) ?_
    rw [e4]
    have hes : (rdO (cA (A 4) n) (stO (cA (A 4) n) k)).1 + 1 = stO (cA (A 4) n) (k + 1) := rfl
    have hc2 := hc.2
    rw [hc.1]
    generalize he : (rdO (cA (A 4) n) (stO (cA (A 4) n) k)).1 = e at *
    intro m1 A1 g1 g2 g3 g4 g5 g6
    rw [e4] at g5
    obtain ⟨t1, t2, t3⟩ := g5 rfl
    have f4 : A1 4 = A 4 := by rw [g2 4 (by decide), e4]
    have f10 : m1 10 = (k : Nat) := by rw [g1 10 (by decide) (by decide), h10]
    have at59 := fun Q => s_isAt (G := G) (σ := σ) (Q := Q) (M := M) (m := upI m1 10 (m1 10 + 1)) (A := A1) (sg := 59) (i := e) (n := n) g3 (by show m1 5 = (n : Nat); rw [g1 5 (by decide) (by decide), h5']) hn (by omega) (by rw [f4]; exact ht) (by omega)
    rw [f4, b01_t hc2] at at59
    have nx := ih (upI (upI m1 10 (m1 10 + 1)) 7 (m1 7 + 1), A1) ⟨⟨fun j a b c => by simp only [upI_at, if_neg a, if_neg c]; rw [g1 j a b, hK.1 j a b c], fun j a => by show A1 j = A j; rw [g2 j a, hK.2 j a]⟩, by show m1 7 + 1 = ((stO (cA (A 4) n) (k + 1) : Nat) : Int); omega, by show m1 10 + 1 = ((k + 1 : Nat) : Int); omega, fun j hj => by
      by_cases ej : j = k
      · rw [ej]
        exact ⟨t1, t2, t3⟩
      · have o := hT j (by omega)
        refine ⟨?_, ?_, ?_⟩
        · show A1 5 (3 * j) = _
          rw [g6 _ (by omega)]; exact o.1
        · show A1 5 (3 * j + 1) = _
          rw [g6 _ (by omega)]; exact o.2.1
        · show A1 5 (3 * j + 2) = _
          rw [g6 _ (by omega)]; exact o.2.2⟩
    dsimp only at nx
    simp only [e_Model_isText_25, e_Model_isText_28, e_Model_isText_29, e_Model_isText_30, e_Model_isText_31, e_Model_isText_32, e_Model_isText_35, e_Model_isText_36, e_Model_isText_37, e_Model_isText_40, e_Model_isText_41, e_Model_isText_43, e_Model_isText_46, e_Model_isText_47, e_Model_isText_48, e_Model_isText_49, e_Model_isText_52, e_Model_isText_53, e_Model_isText_56, e_Model_isText_57, e_Model_isText_60, e_Model_isText_61, e_Model_isText_62, e_Model_isText_65, kR_l, kR_r, kP_0, kP_i, kP_r, kP_n, kP_s, kP_o, kLen_I, kLen_L, kLen_R, kLdI_0, kLdI_1, kLdI_2, kLdI_3, kStI_0, kStI_1, kLdL_e, kStL_e, kLdR_e, kStR_e, kFld_e, kNth_0, kNth_s, kPut_e, fit_I, fit_Z, fit_B, fit_C, fit_A, fit_O, Option.toList_some, Option.toList_none, List.cons_append, List.nil_append, true_and, and_true, List.set_cons_zero, List.set_cons_succ, st_same, Int.toNat_natCast, Int.cast_ofNat_Int, Nat.zero_add, Nat.reduceAdd, kRcv_1, kRcv_2, kRcv_3, kRcv_0, kRcv_4, kRcv_5, setMd_set, Mdo, Mda1, Mdw1, Mda2, Mdw2, Mda3, Mdw3, Mda4, Mdw4, Mda5, Mdw5, Mda6, Mdw6, Mda7, Mdw7, Mda8, Mdw8, Mda9, Mdw9, Mda10, Mdw10, Mda11, Mdw11, Mdp3, Mdp5, Mdp6, Mdp7, Mdp8, Mdp10, Mdp16, Mdp17, Mdp18, List.length_cons, List.length_nil, at59]
    clear ih at59 hQ
    all_goals ((repeat' (first | with_reducible refine And.intro ?_ ?_ | intro _)) <;> first | with_reducible assumption | exact True.intro | with_reducible exact nx | omega | (simp only [inR] at *; omega) | exact nx | with_reducible rfl | rfl | (simp; done) | (exfalso; simp_all; done) | skip)
  · rintro ⟨m', A'⟩ ⟨hK, h7, h10, hT⟩
    dsimp only at h7 h10 hT hK
    have hb := stO_bd (A 4) kl hct
    have e4 : A' 4 = A 4 := hK.2 4 (by decide)
    have h5' : m' 5 = (n : Nat) := by rw [hK.1 5 (by decide) (by decide) (by decide), h5]
    rw [e_Model_isText_17]
    simp only [e_Model_isText_18, e_Model_isText_21, e_Model_isText_22, kR_l, kR_r, kP_0, kP_i, kP_r, kP_n, kP_s, kP_o, kLen_I, kLen_L, kLen_R, kLdI_0, kLdI_1, kLdI_2, kLdI_3, kStI_0, kStI_1, kLdL_e, kStL_e, kLdR_e, kStR_e, kFld_e, kNth_0, kNth_s, kPut_e, fit_I, fit_Z, fit_B, fit_C, fit_A, fit_O, Option.toList_some, Option.toList_none, List.cons_append, List.nil_append, true_and, and_true, List.set_cons_zero, List.set_cons_succ, st_same, Int.toNat_natCast, Int.cast_ofNat_Int, Nat.zero_add, Nat.reduceAdd, kRcv_1, kRcv_2, kRcv_3, kRcv_0, kRcv_4, kRcv_5, setMd_set, Mdo, Mda1, Mdw1, Mda2, Mdw2, Mda3, Mdw3, Mda4, Mdw4, Mda5, Mdw5, Mda6, Mdw6, Mda7, Mdw7, Mda8, Mdw8, Mda9, Mdw9, Mda10, Mdw10, Mda11, Mdw11, Mdp3, Mdp5, Mdp6, Mdp7, Mdp8, Mdp10, Mdp16, Mdp17, Mdp18]
    refine ⟨by unfold inR; omega, (fun h => by first | exact absurd h (by omega) | exact absurd trivial h | (exfalso; simp_all; done)), fun _ => ?_⟩
    refine s_isOrder (i := stO (cA (A 4) n) kl) (n := n) (t := kl) hG h7 h5' hn hb.2 (by rw [e4]; exact ht) h10 h12 ?_
    rw [e4]
    have hle := rdO_le (A 4) hb.2
    have h2 := rdO_2 (cA (A 4) n) (stO (cA (A 4) n) kl)
    unfold ctO at hnc
    unfold okO enO at hQ
    generalize he : (rdO (cA (A 4) n) (stO (cA (A 4) n) kl)).1 = e at *
    generalize hw : (rdO (cA (A 4) n) (stO (cA (A 4) n) kl)).2 = w at *
    intro m1 A1 g1 g2 g3 g4 g5 g6
    have f4 : A1 4 = A 4 := by rw [g2 4 (by decide), e4]
    have f5 : m1 5 = (n : Nat) := by rw [g1 5 (by decide) (by decide), h5']
    rcases h2 with rfl | rfl
    · rw [if_neg (fun z => absurd z.1 (by decide))] at hQ
      have hq := hQ m1 A1 ⟨fun j a b c => by rw [g1 j a b, hK.1 j a b c], fun j a => by rw [g2 j a, hK.2 j a]⟩ g3 (fun _ => g4 rfl) (fun h => absurd h (by decide))
      simp only [e_Model_isText_25, e_Model_isText_28, e_Model_isText_29, kR_l, kR_r, kP_0, kP_i, kP_r, kP_n, kP_s, kP_o, kLen_I, kLen_L, kLen_R, kLdI_0, kLdI_1, kLdI_2, kLdI_3, kStI_0, kStI_1, kLdL_e, kStL_e, kLdR_e, kStR_e, kFld_e, kNth_0, kNth_s, kPut_e, fit_I, fit_Z, fit_B, fit_C, fit_A, fit_O, Option.toList_some, Option.toList_none, List.cons_append, List.nil_append, true_and, and_true, List.set_cons_zero, List.set_cons_succ, st_same, Int.toNat_natCast, Int.cast_ofNat_Int, Nat.zero_add, Nat.reduceAdd, kRcv_1, kRcv_2, kRcv_3, kRcv_0, kRcv_4, kRcv_5]
      all_goals ((repeat' (first | with_reducible refine And.intro ?_ ?_ | intro _)) <;> first | with_reducible assumption | exact True.intro | with_reducible exact hq | omega | (simp only [inR] at *; omega) | exact hq | with_reducible rfl | rfl | (simp; done) | (exfalso; simp_all; done) | skip)
    · rw [e4] at g5
      obtain ⟨t1, t2, t3⟩ := g5 rfl
      have at59 := fun Q => s_isAt (G := G) (σ := σ) (Q := Q) (M := M) (m := upI m1 10 (m1 10 + 1)) (A := A1) (sg := 59) (i := e) (n := n) g3 f5 hn (by omega) (by rw [f4]; exact ht) (by omega)
      rw [f4, b01_f (fun z => hnc ⟨rfl, z⟩)] at at59
      have hK2 : ∀ v : Int, KeepT m (upI (upI (upI m1 10 (m1 10 + 1)) 7 (m1 7 + 0)) 8 v) A A1 := fun v => ⟨fun j a b c => by simp only [upI_at, if_neg a, if_neg b, if_neg c]; rw [g1 j a b, hK.1 j a b c], fun j a => by rw [g2 j a, hK.2 j a]⟩
      have h7' : ∀ v : Int, upI (upI (upI m1 10 (m1 10 + 1)) 7 (m1 7 + 0)) 8 v 7 = (e : Nat) := fun v => by
        show m1 7 + 0 = _
        omega
      have f10 : m1 10 = (kl : Nat) := by rw [g1 10 (by decide) (by decide), h10]
      have hTD : ∀ k, k ≤ kl → TD (A1 5) (cA (A 4) n) k := fun k hk => by
        by_cases ej : k = kl
        · rw [ej]
          exact ⟨t1, t2, t3⟩
        · have o := hT k (by omega)
          refine ⟨?_, ?_, ?_⟩
          · rw [g6 _ (by omega)]; exact o.1
          · rw [g6 _ (by omega)]; exact o.2.1
          · rw [g6 _ (by omega)]; exact o.2.2
      by_cases en : e = n
      · rw [if_pos ⟨rfl, en⟩] at hQ
        have hq := hQ (upI (upI (upI m1 10 (m1 10 + 1)) 7 (m1 7 + 0)) 8 0) A1 (hK2 0) (h7' 0) (fun h => absurd h (by decide)) (fun _ => ⟨by show m1 10 + 1 = ((kl + 1 : Nat) : Int); omega, hTD⟩)
        simp only [e_Model_isText_25, e_Model_isText_28, e_Model_isText_29, e_Model_isText_30, e_Model_isText_31, e_Model_isText_32, e_Model_isText_35, e_Model_isText_36, e_Model_isText_37, e_Model_isText_40, e_Model_isText_41, e_Model_isText_43, e_Model_isText_46, e_Model_isText_47, e_Model_isText_48, e_Model_isText_49, e_Model_isText_52, e_Model_isText_53, e_Model_isText_56, e_Model_isText_57, e_Model_isText_60, e_Model_isText_61, e_Model_isText_62, e_Model_isText_65, kR_l, kR_r, kP_0, kP_i, kP_r, kP_n, kP_s, kP_o, kLen_I, kLen_L, kLen_R, kLdI_0, kLdI_1, kLdI_2, kLdI_3, kStI_0, kStI_1, kLdL_e, kStL_e, kLdR_e, kStR_e, kFld_e, kNth_0, kNth_s, kPut_e, fit_I, fit_Z, fit_B, fit_C, fit_A, fit_O, Option.toList_some, Option.toList_none, List.cons_append, List.nil_append, true_and, and_true, List.set_cons_zero, List.set_cons_succ, st_same, Int.toNat_natCast, Int.cast_ofNat_Int, Nat.zero_add, Nat.reduceAdd, kRcv_1, kRcv_2, kRcv_3, kRcv_0, kRcv_4, kRcv_5, setMd_set, Mdo, Mda1, Mdw1, Mda2, Mdw2, Mda3, Mdw3, Mda4, Mdw4, Mda5, Mdw5, Mda6, Mdw6, Mda7, Mdw7, Mda8, Mdw8, Mda9, Mdw9, Mda10, Mdw10, Mda11, Mdw11, Mdp3, Mdp5, Mdp6, Mdp7, Mdp8, Mdp10, Mdp16, Mdp17, Mdp18, List.length_cons, List.length_nil, at59]
        all_goals ((repeat' (first | with_reducible refine And.intro ?_ ?_ | intro _)) <;> first | with_reducible assumption | exact True.intro | omega | (simp only [inR] at *; omega) | exact absurd True.intro (by with_reducible assumption) | (with_reducible show WP _ _ _ _ _ _ _) | (with_reducible show CW _ _ _ _ _) | with_reducible rfl | rfl | (simp; done) | (exfalso; simp_all; done) | skip)
        rw [e_Model_isText_17]
        simp only [e_Model_isText_18, e_Model_isText_68, e_Model_isText_69, e_Model_isText_70, e_Model_isText_73, e_Model_isText_74, e_Model_isText_77, e_Model_isText_80, e_Model_isText_81, e_Model_isText_84, e_Model_isText_85, e_Model_isText_88, e_Model_isText_89, e_Model_isText_92, e_Model_isText_93, e_Model_isText_96, e_Model_isText_99, e_Model_isText_100, e_Model_isText_103, e_Model_isText_104, kR_l, kR_r, kP_0, kP_i, kP_r, kP_n, kP_s, kP_o, kLen_I, kLen_L, kLen_R, kLdI_0, kLdI_1, kLdI_2, kLdI_3, kStI_0, kStI_1, kLdL_e, kStL_e, kLdR_e, kStR_e, kFld_e, kNth_0, kNth_s, kPut_e, fit_I, fit_Z, fit_B, fit_C, fit_A, fit_O, Option.toList_some, Option.toList_none, List.cons_append, List.nil_append, true_and, and_true, List.set_cons_zero, List.set_cons_succ, st_same, Int.toNat_natCast, Int.cast_ofNat_Int, Nat.zero_add, Nat.reduceAdd, kRcv_1, kRcv_2, kRcv_3, kRcv_0, kRcv_4, kRcv_5, setMd_set, Mdo, Mda1, Mdw1, Mda2, Mdw2, Mda3, Mdw3, Mda4, Mdw4, Mda5, Mdw5, Mda6, Mdw6, Mda7, Mdw7, Mda8, Mdw8, Mda9, Mdw9, Mda10, Mdw10, Mda11, Mdw11, Mdp3, Mdp5, Mdp6, Mdp7, Mdp8, Mdp10, Mdp16, Mdp17, Mdp18, List.length_cons, List.length_nil]
        simp only [upI_at, reduceIte, Nat.reduceEqDiff]
        clear at59 hQ
        all_goals ((repeat' (first | with_reducible refine And.intro ?_ ?_ | intro _)) <;> first | with_reducible assumption | exact True.intro | with_reducible exact hq | omega | (simp only [inR] at *; omega) | exact hq | with_reducible rfl | rfl | (simp; done) | (exfalso; simp_all; done) | skip)
      · rw [if_neg (fun z => en z.2)] at hQ
        have hq := hQ (upI (upI (upI m1 10 (m1 10 + 1)) 7 (m1 7 + 0)) 8 1) A1 (hK2 1) (h7' 1) (fun _ => (b01_t (show e < n by omega)).symm) (fun h => absurd h (by decide))
        simp only [e_Model_isText_25, e_Model_isText_28, e_Model_isText_29, e_Model_isText_30, e_Model_isText_31, e_Model_isText_32, e_Model_isText_35, e_Model_isText_36, e_Model_isText_37, e_Model_isText_40, e_Model_isText_41, e_Model_isText_43, e_Model_isText_46, e_Model_isText_47, e_Model_isText_48, e_Model_isText_49, e_Model_isText_52, e_Model_isText_53, e_Model_isText_56, e_Model_isText_57, e_Model_isText_60, e_Model_isText_61, e_Model_isText_62, e_Model_isText_65, kR_l, kR_r, kP_0, kP_i, kP_r, kP_n, kP_s, kP_o, kLen_I, kLen_L, kLen_R, kLdI_0, kLdI_1, kLdI_2, kLdI_3, kStI_0, kStI_1, kLdL_e, kStL_e, kLdR_e, kStR_e, kFld_e, kNth_0, kNth_s, kPut_e, fit_I, fit_Z, fit_B, fit_C, fit_A, fit_O, Option.toList_some, Option.toList_none, List.cons_append, List.nil_append, true_and, and_true, List.set_cons_zero, List.set_cons_succ, st_same, Int.toNat_natCast, Int.cast_ofNat_Int, Nat.zero_add, Nat.reduceAdd, kRcv_1, kRcv_2, kRcv_3, kRcv_0, kRcv_4, kRcv_5, setMd_set, Mdo, Mda1, Mdw1, Mda2, Mdw2, Mda3, Mdw3, Mda4, Mdw4, Mda5, Mdw5, Mda6, Mdw6, Mda7, Mdw7, Mda8, Mdw8, Mda9, Mdw9, Mda10, Mdw10, Mda11, Mdw11, Mdp3, Mdp5, Mdp6, Mdp7, Mdp8, Mdp10, Mdp16, Mdp17, Mdp18, List.length_cons, List.length_nil, at59]
        all_goals ((repeat' (first | with_reducible refine And.intro ?_ ?_ | intro _)) <;> first | with_reducible assumption | exact True.intro | omega | (simp only [inR] at *; omega) | exact absurd True.intro (by with_reducible assumption) | (with_reducible show WP _ _ _ _ _ _ _) | (with_reducible show CW _ _ _ _ _) | with_reducible rfl | rfl | (simp; done) | (exfalso; simp_all; done) | skip)
        rw [e_Model_isText_17]
        simp only [e_Model_isText_18, e_Model_isText_68, e_Model_isText_69, e_Model_isText_70, e_Model_isText_73, e_Model_isText_74, e_Model_isText_77, e_Model_isText_80, e_Model_isText_81, e_Model_isText_84, e_Model_isText_85, e_Model_isText_88, e_Model_isText_89, e_Model_isText_92, e_Model_isText_93, e_Model_isText_96, e_Model_isText_99, e_Model_isText_100, e_Model_isText_103, e_Model_isText_104, kR_l, kR_r, kP_0, kP_i, kP_r, kP_n, kP_s, kP_o, kLen_I, kLen_L, kLen_R, kLdI_0, kLdI_1, kLdI_2, kLdI_3, kStI_0, kStI_1, kLdL_e, kStL_e, kLdR_e, kStR_e, kFld_e, kNth_0, kNth_s, kPut_e, fit_I, fit_Z, fit_B, fit_C, fit_A, fit_O, Option.toList_some, Option.toList_none, List.cons_append, List.nil_append, true_and, and_true, List.set_cons_zero, List.set_cons_succ, st_same, Int.toNat_natCast, Int.cast_ofNat_Int, Nat.zero_add, Nat.reduceAdd, kRcv_1, kRcv_2, kRcv_3, kRcv_0, kRcv_4, kRcv_5, setMd_set, Mdo, Mda1, Mdw1, Mda2, Mdw2, Mda3, Mdw3, Mda4, Mdw4, Mda5, Mdw5, Mda6, Mdw6, Mda7, Mdw7, Mda8, Mdw8, Mda9, Mdw9, Mda10, Mdw10, Mda11, Mdw11, Mdp3, Mdp5, Mdp6, Mdp7, Mdp8, Mdp10, Mdp16, Mdp17, Mdp18, List.length_cons, List.length_nil]
        simp only [upI_at, reduceIte, Nat.reduceEqDiff]
        clear at59 hQ
        all_goals ((repeat' (first | with_reducible refine And.intro ?_ ?_ | intro _)) <;> first | with_reducible assumption | exact True.intro | with_reducible exact hq | omega | (simp only [inR] at *; omega) | exact hq | with_reducible rfl | rfl | (simp; done) | (exfalso; simp_all; done) | skip)
end TX3
