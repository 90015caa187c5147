/-! THE REFERENCE: firstError, run -/
def ordO (c : Nat → Int) (k : Nat) : Nat × (Nat × Int) := ((ltA c (stO c k)).toNat, ((ltA c (stO c k + 1)).toNat, if dB (c (stO c k + 3)) = 4 then -1 else dB (c (stO c k + 3))))
theorem ordO_ok {c : Nat → Int} {k : Nat} (h : (rdO c (stO c k)).2 = 1) : (ordO c k).1 < 6 ∧ (ordO c k).2.1 < 6 ∧ (ordO c k).1 ≠ (ordO c k).2.1 ∧ -1 ≤ (ordO c k).2.2 ∧ (ordO c k).2.2 ≤ 3 ∧ ltA c (stO c k) = ((ordO c k).1 : Nat) ∧ ltA c (stO c k + 1) = ((ordO c k).2.1 : Nat) := by
  obtain ⟨h1, h2, h3, -⟩ := rdO_w h
  have b1 := ltA_bd c (stO c k)
  have b2 := ltA_bd c (stO c k + 1)
  have b3 := dB_bd (c (stO c k + 3))
  unfold ordO
  dsimp only
  refine ⟨by omega, by omega, by omega, ?_, ?_, by omega, by omega⟩
  · split <;> omega
  · split <;> omega
theorem okO_all {c : Nat → Int} {kl n : Nat} (hk : KpO c kl) (h : okO c kl n = 1) : ∀ k, k ≤ kl → (rdO c (stO c k)).2 = 1 := by
  intro k hkk
  by_cases e : k = kl
  · rw [e]
    unfold okO at h
    split at h
    · rename_i z; exact z.1
    · omega
  · exact (hk.2.1 k (by omega)).1
def KeepR (m m' : Nat → Int) (A A' : Nat → Nat → Int) : Prop := (∀ k, k ≠ 7 → k ≠ 8 → k ≠ 10 → k ≠ 16 → k ≠ 17 → k ≠ 18 → m' k = m k) ∧ (∀ k, k ≠ 1 → k ≠ 5 → k ≠ 8 → k ≠ 9 → k ≠ 10 → A' k = A k) ∧ MdOK A'
theorem okO_01 (c : Nat → Int) (kl n : Nat) : okO c kl n = 0 ∨ okO c kl n = 1 := by
  unfold okO
  split
  · exact Or.inr rfl
  · exact Or.inl rfl
theorem enO_le (t : Nat → Int) {n kl : Nat} (h : KpO (cA t n) kl) : enO (cA t n) kl ≤ n := (rdO_le t (stO_bd t kl h.2.1).2).2
section RN
variable {G : Nat → Nat} {σ : AS} {Q : (Option AV ⊕ Nat) → AS → Prop} {M : Nat} {m : Nat → Int} {A : Nat → Nat → Int}
theorem s_firstError {n kl : Nat} (hG : G 0 ≤ M) (h5 : m 5 = (n : Nat)) (hn : n ≤ 60) (ht : TxOK (A 4)) (hkl : KpO (cA (A 4) n) kl)
    (hQ : ∀ (m' : Nat → Int) (A' : Nat → Nat → Int), KeepT (upI m 6 0) m' A A' → Q (.inl (some (vI (enO (cA (A 4) n) kl : Nat)))) (setMd σ M m' A')) :
    CW G k_Model_firstError [vR M] (setMd σ M m A) Q := by
  simp only [c_Model_firstError, e_Model_firstError_0, e_Model_firstError_1, e_Model_firstError_2, e_Model_firstError_5, e_Model_firstError_6, kR_l, kR_r, kP_0, kP_i, kP_r, kP_n, kP_s, kP_o, kLen_I, kLen_L, kLen_R, kLdI_0, kLdI_1, kLdI_2, kLdI_3, kStI_0, kStI_1, kLdL_e, kStL_e, kLdR_e, kStR_e, kFld_e, kNth_0, kNth_s, kPut_e, fit_I, fit_Z, fit_B, fit_C, fit_A, fit_O, Option.toList_some, Option.toList_none, List.cons_append, List.nil_append, true_and, and_true, List.set_cons_zero, List.set_cons_succ, st_same, Int.toNat_natCast, Int.cast_ofNat_Int, Nat.zero_add, Nat.reduceAdd, kRcv_1, kRcv_2, kRcv_3, kRcv_0, kRcv_4, kRcv_5, setMd_set, Mdo, Mda1, Mdw1, Mda2, Mdw2, Mda3, Mdw3, Mda4, Mdw4, Mda5, Mdw5, Mda6, Mdw6, Mda7, Mdw7, Mda8, Mdw8, Mda9, Mdw9, Mda10, Mdw10, Mda11, Mdw11, Mdp3, Mdp5, Mdp6, Mdp7, Mdp8, Mdp10, Mdp16, Mdp17, Mdp18, List.length_cons, List.length_nil]
  refine ⟨⟨by omega, by omega⟩, ?_⟩
  refine s_isText hG (show upI m 6 0 5 = (n : Nat) from h5) hn ht hkl (fun m' A' g1 g2 g3 g4 => ?_)
  have hle := enO_le (A 4) hkl
  have hq := hQ m' A' g1
  have g5 : m' 5 = (n : Nat) := by rw [g1.1 5 (by decide) (by decide) (by decide)]; exact h5
  simp only [e_Model_firstError_9, e_Model_firstError_10, e_Model_firstError_11, e_Model_firstError_14, e_Model_firstError_15, e_Model_firstError_18, e_Model_firstError_21, e_Model_firstError_22, e_Model_firstError_25, e_Model_firstError_28, e_Model_firstError_29, e_Model_firstError_32, kR_l, kR_r, kP_0, kP_i, kP_r, kP_n, kP_s, kP_o, kLen_I, kLen_L, kLen_R, kLdI_0, kLdI_1, kLdI_2, kLdI_3, kStI_0, kStI_1, kLdL_e, kStL_e, kLdR_e, kStR_e, kFld_e, kNth_0, kNth_s, kPut_e, fit_I, fit_Z, fit_B, fit_C, fit_A, fit_O, Option.toList_some, Option.toList_none, List.cons_append, List.nil_append, true_and, and_true, List.set_cons_zero, List.set_cons_succ, st_same, Int.toNat_natCast, Int.cast_ofNat_Int, Nat.zero_add, Nat.reduceAdd, kRcv_1, kRcv_2, kRcv_3, kRcv_0, kRcv_4, kRcv_5, setMd_set, Mdo, Mda1, Mdw1, Mda2, Mdw2, Mda3, Mdw3, Mda4, Mdw4, Mda5, Mdw5, Mda6, Mdw6, Mda7, Mdw7, Mda8, Mdw8, Mda9, Mdw9, Mda10, Mdw10, Mda11, Mdw11, Mdp3, Mdp5, Mdp6, Mdp7, Mdp8, Mdp10, Mdp16, Mdp17, Mdp18]
  rcases okO_01 (cA (A 4) n) kl n with h0 | h1
  · have g8 := g3 h0
    rw [h0]
    by_cases hl : enO (cA (A 4) n) kl < n
    · rw [b01_t hl] at g8
      rw [g2]
      all_goals ((repeat' (first | with_reducible refine And.intro ?_ ?_ | intro _)) <;> first | with_reducible assumption | exact True.intro | with_reducible exact hq | omega | (simp only [inR] at *; omega) | exact hq | with_reducible rfl | rfl | (simp; done) | (exfalso; simp_all; done) | skip)
    · rw [b01_f hl] at g8
      rw [show (vI (m' 5) : AV) = vI (enO (cA (A 4) n) kl : Nat) from congrArg vI (by omega)]
      all_goals ((repeat' (first | with_reducible refine And.intro ?_ ?_ | intro _)) <;> first | with_reducible assumption | exact True.intro | with_reducible exact hq | omega | (simp only [inR] at *; omega) | exact hq | with_reducible rfl | rfl | (simp; done) | (exfalso; simp_all; done) | skip)
  · rw [h1]
    have : enO (cA (A 4) n) kl = n := by
      unfold okO at h1
      split at h1
      · rename_i z; exact z.2
      · omega
    rw [show (vI (m' 5) : AV) = vI (enO (cA (A 4) n) kl : Nat) from congrArg vI (by omega)]
    all_goals ((repeat' (first | with_reducible refine And.intro ?_ ?_ | intro _)) <;> first | with_reducible assumption | exact True.intro | with_reducible exact hq | omega | (simp only [inR] at *; omega) | exact hq | with_reducible rfl | rfl | (simp; done) | (exfalso; simp_all; done) | skip)
theorem s_run1 {n kl : Nat} (hG : G 0 ≤ M) (h5 : m 5 = (n : Nat)) (hn : n ≤ 60) (ht : TxOK (A 4)) (hkl : KpO (cA (A 4) n) kl) (h0 : okO (cA (A 4) n) kl n = 0)
    (hQ : ∀ (m' : Nat → Int) (A' : Nat → Nat → Int), KeepT (upI m 6 1) m' A A' → Q (.inl (some (vI 0))) (setMd σ M m' A')) :
    CW G k_Model_run [vR M] (setMd σ M m A) Q := by
  simp only [c_Model_run, e_Model_run_0, e_Model_run_1, e_Model_run_2, e_Model_run_5, e_Model_run_6, kR_l, kR_r, kP_0, kP_i, kP_r, kP_n, kP_s, kP_o, kLen_I, kLen_L, kLen_R, kLdI_0, kLdI_1, kLdI_2, kLdI_3, kStI_0, kStI_1, kLdL_e, kStL_e, kLdR_e, kStR_e, kFld_e, kNth_0, kNth_s, kPut_e, fit_I, fit_Z, fit_B, fit_C, fit_A, fit_O, Option.toList_some, Option.toList_none, List.cons_append, List.nil_append, true_and, and_true, List.set_cons_zero, List.set_cons_succ, st_same, Int.toNat_natCast, Int.cast_ofNat_Int, Nat.zero_add, Nat.reduceAdd, kRcv_1, kRcv_2, kRcv_3, kRcv_0, kRcv_4, kRcv_5, setMd_set, Mdo, Mda1, Mdw1, Mda2, Mdw2, Mda3, Mdw3, Mda4, Mdw4, Mda5, Mdw5, Mda6, Mdw6, Mda7, Mdw7, Mda8, Mdw8, Mda9, Mdw9, Mda10, Mdw10, Mda11, Mdw11, Mdp3, Mdp5, Mdp6, Mdp7, Mdp8, Mdp10, Mdp16, Mdp17, Mdp18, List.length_cons, List.length_nil]
  refine ⟨⟨by omega, by omega⟩, ?_⟩
  refine s_isText hG (show upI m 6 0 5 = (n : Nat) from h5) hn ht hkl (fun m' A' g1 g2 g3 g4 => ?_)
  have hq := hQ (upI m' 6 1) A' ⟨fun j a b c => by
    have := g1.1 j a b c
    simp only [upI_at] at this ⊢
    split
    · rfl
    · rename_i z
      rw [if_neg z] at this
      exact this, g1.2⟩
  rw [h0]
  simp only [e_Model_run_9, e_Model_run_12, e_Model_run_13, e_Model_run_14, e_Model_run_17, kR_l, kR_r, kP_0, kP_i, kP_r, kP_n, kP_s, kP_o, kLen_I, kLen_L, kLen_R, kLdI_0, kLdI_1, kLdI_2, kLdI_3, kStI_0, kStI_1, kLdL_e, kStL_e, kLdR_e, kStR_e, kFld_e, kNth_0, kNth_s, kPut_e, fit_I, fit_Z, fit_B, fit_C, fit_A, fit_O, Option.toList_some, Option.toList_none, List.cons_append, List.nil_append, true_and, and_true, List.set_cons_zero, List.set_cons_succ, st_same, Int.toNat_natCast, Int.cast_ofNat_Int, Nat.zero_add, Nat.reduceAdd, kRcv_1, kRcv_2, kRcv_3, kRcv_0, kRcv_4, kRcv_5, setMd_set, Mdo, Mda1, Mdw1, Mda2, Mdw2, Mda3, Mdw3, Mda4, Mdw4, Mda5, Mdw5, Mda6, Mdw6, Mda7, Mdw7, Mda8, Mdw8, Mda9, Mdw9, Mda10, Mdw10, Mda11, Mdw11, Mdp3, Mdp5, Mdp6, Mdp7, Mdp8, Mdp10, Mdp16, Mdp17, Mdp18, s_Model_fails hG]
  all_goals ((repeat' (first | with_reducible refine And.intro ?_ ?_ | intro _)) <;> first | with_reducible assumption | exact True.intro | with_reducible exact hq | omega | (simp only [inR] at *; omega) | exact hq | with_reducible rfl | rfl | (simp; done) | (exfalso; simp_all; done) | skip)
theorem s_run0 {n kl kp : Nat} (hG : G 0 ≤ M) (hs : SOK (A 1)) (hw : WkOK (A 1)) (hA : MdOK A) (hk : m 3 = (kp : Nat)) (hkp : kp ≤ 6) (h5 : m 5 = (n : Nat)) (hn : n ≤ 60) (ht : TxOK (A 4)) (hkl : KpO (cA (A 4) n) kl) (h1 : okO (cA (A 4) n) kl n = 1)
    (hQ : ∀ (m' : Nat → Int) (A' : Nat → Nat → Int), KeepR (upI (upI (upI m 6 0) 3 (svK kp : Nat)) 5 0) m' (svA A kp) A' → A' 1 = (rnM (ordO (cA (A 4) n)) (kl + 1) 0 (A 1)).2 → Q (.inl (some (vI ((rnM (ordO (cA (A 4) n)) (kl + 1) 0 (A 1)).1 : Nat)))) (setMd σ M m' A')) :
    CW G k_Model_run [vR M] (setMd σ M m A) Q := by
  simp only [c_Model_run, e_Model_run_0, e_Model_run_1, e_Model_run_2, e_Model_run_5, e_Model_run_6, kR_l, kR_r, kP_0, kP_i, kP_r, kP_n, kP_s, kP_o, kLen_I, kLen_L, kLen_R, kLdI_0, kLdI_1, kLdI_2, kLdI_3, kStI_0, kStI_1, kLdL_e, kStL_e, kLdR_e, kStR_e, kFld_e, kNth_0, kNth_s, kPut_e, fit_I, fit_Z, fit_B, fit_C, fit_A, fit_O, Option.toList_some, Option.toList_none, List.cons_append, List.nil_append, true_and, and_true, List.set_cons_zero, List.set_cons_succ, st_same, Int.toNat_natCast, Int.cast_ofNat_Int, Nat.zero_add, Nat.reduceAdd, kRcv_1, kRcv_2, kRcv_3, kRcv_0, kRcv_4, kRcv_5, setMd_set, Mdo, Mda1, Mdw1, Mda2, Mdw2, Mda3, Mdw3, Mda4, Mdw4, Mda5, Mdw5, Mda6, Mdw6, Mda7, Mdw7, Mda8, Mdw8, Mda9, Mdw9, Mda10, Mdw10, Mda11, Mdw11, Mdp3, Mdp5, Mdp6, Mdp7, Mdp8, Mdp10, Mdp16, Mdp17, Mdp18, List.length_cons, List.length_nil]
  refine ⟨⟨by omega, by omega⟩, ?_⟩
  refine s_isText hG (show upI m 6 0 5 = (n : Nat) from h5) hn ht hkl (fun m1 A1 g1 g2 g3 g4 => ?_)
  obtain ⟨t10, tT⟩ := g4 h1
  have hall := okO_all hkl h1
  have h12 := hkl.1
  have f3 : m1 3 = (kp : Nat) := by rw [g1.1 3 (by decide) (by decide) (by decide)]; exact hk
  rw [h1]
  generalize cA (A 4) n = c at *
  simp only [e_Model_run_9, e_Model_run_12, e_Model_run_13, e_Model_run_14, e_Model_run_17, e_Model_run_18, e_Model_run_19, kR_l, kR_r, kP_0, kP_i, kP_r, kP_n, kP_s, kP_o, kLen_I, kLen_L, kLen_R, kLdI_0, kLdI_1, kLdI_2, kLdI_3, kStI_0, kStI_1, kLdL_e, kStL_e, kLdR_e, kStR_e, kFld_e, kNth_0, kNth_s, kPut_e, fit_I, fit_Z, fit_B, fit_C, fit_A, fit_O, Option.toList_some, Option.toList_none, List.cons_append, List.nil_append, true_and, and_true, List.set_cons_zero, List.set_cons_succ, st_same, Int.toNat_natCast, Int.cast_ofNat_Int, Nat.zero_add, Nat.reduceAdd, kRcv_1, kRcv_2, kRcv_3, kRcv_0, kRcv_4, kRcv_5, setMd_set, Mdo, Mda1, Mdw1, Mda2, Mdw2, Mda3, Mdw3, Mda4, Mdw4, Mda5, Mdw5, Mda6, Mdw6, Mda7, Mdw7, Mda8, Mdw8, Mda9, Mdw9, Mda10, Mdw10, Mda11, Mdw11, Mdp3, Mdp5, Mdp6, Mdp7, Mdp8, Mdp10, Mdp16, Mdp17, Mdp18]
  refine ⟨by unfold inR; omega, fun _ => ?_, (fun h => by first | exact absurd h (by omega) | exact absurd trivial h | (exfalso; simp_all; done))⟩
  rw [s_Model_saves hG f3 hkp]
  simp only [e_Model_run_22, e_Model_run_23, e_Model_run_24, e_Model_run_27, e_Model_run_28, kR_l, kR_r, kP_0, kP_i, kP_r, kP_n, kP_s, kP_o, kLen_I, kLen_L, kLen_R, kLdI_0, kLdI_1, kLdI_2, kLdI_3, kStI_0, kStI_1, kLdL_e, kStL_e, kLdR_e, kStR_e, kFld_e, kNth_0, kNth_s, kPut_e, fit_I, fit_Z, fit_B, fit_C, fit_A, fit_O, Option.toList_some, Option.toList_none, List.cons_append, List.nil_append, true_and, and_true, List.set_cons_zero, List.set_cons_succ, st_same, Int.toNat_natCast, Int.cast_ofNat_Int, Nat.zero_add, Nat.reduceAdd, kRcv_1, kRcv_2, kRcv_3, kRcv_0, kRcv_4, kRcv_5, setMd_set, Mdo, Mda1, Mdw1, Mda2, Mdw2, Mda3, Mdw3, Mda4, Mdw4, Mda5, Mdw5, Mda6, Mdw6, Mda7, Mdw7, Mda8, Mdw8, Mda9, Mdw9, Mda10, Mdw10, Mda11, Mdw11, Mdp3, Mdp5, Mdp6, Mdp7, Mdp8, Mdp10, Mdp16, Mdp17, Mdp18, List.length_cons, List.length_nil]
  refine ⟨⟨by omega, by omega⟩, ?_⟩
  have eA : upA A1 3 (svF (A1 1) (A1 3) kp) 1 = A 1 := by
    rw [upA_at, if_neg (by decide)]
    exact g1.2 1 (by decide)
  have key := upS (fun k (S : (Nat → Int) × (Nat → Nat → Int)) => WP G k_Model_run 29 [some (vR M), some (vI (k : Nat))] [] (setMd σ M S.1 S.2) Q) (fun k S => (KeepR (upI (upI (upI m 6 0) 3 (svK kp : Nat)) 5 0) S.1 (svA A kp) S.2 ∧ S.2 5 = A1 5 ∧ S.1 10 = ((kl + 1 : Nat) : Int)) ∧ rnM (ordO c) (kl + 1 - k) k (S.2 1) = rnM (ordO c) (kl + 1) 0 (A 1) ∧ SOK (S.2 1) ∧ WkOK (S.2 1)) (n := kl + 1) ?_ ?_
  · refine key (upI (upI m1 3 (svK kp : Nat)) 5 0, upA A1 3 (svF (A1 1) (A1 3) kp)) ⟨⟨⟨fun j a b c _ _ _ => ?_, fun j a b _ _ _ => ?_, ?_⟩, ?_, ?_⟩, ?_, ?_, ?_⟩
    · have := g1.1 j a b c
      simp only [upI_at] at this ⊢
      split
      · rfl
      · split
        · rfl
        · exact this
    · unfold svA
      simp only [upA_at]
      rw [g1.2 1 (by decide), g1.2 3 (by decide), g1.2 j b]
    · exact ⟨by show A1 6 = axM; rw [g1.2 6 (by decide)]; exact hA.1, by show A1 7 = ayM; rw [g1.2 7 (by decide)]; exact hA.2.1, by show RB (A1 8); rw [g1.2 8 (by decide)]; exact hA.2.2.1, by show TB (A1 9); rw [g1.2 9 (by decide)]; exact hA.2.2.2⟩
    · rfl
    · exact t10
    · dsimp only
      rw [eA]
      rfl
    · dsimp only
      rw [eA]
      exact hs
    · dsimp only
      rw [eA]
      exact hw
  · rintro k ⟨m', A'⟩ hk2 ⟨⟨hK, hT5, h10⟩, hr, hs', hw'⟩ ih
    dsimp only at hK hT5 h10 hr hs' hw' ih
    have ho := ordO_ok (hall k (by omega))
    have td := tT k (by omega)
    unfold TD at td
    rw [← hT5, ho.2.2.2.2.2.1, ho.2.2.2.2.2.2] at td
    have hd : -1 ≤ (ordO c k).2.2 ∧ (ordO c k).2.2 ≤ 3 := ⟨ho.2.2.2.1, ho.2.2.2.2.1⟩
    have hsn := dmS_OK (s := A' 1) (a := (ordO c k).1) (b := (ordO c k).2.1) hs' hd
    have hwn := dmS_wk (s := A' 1) hw' ho.1 ho.2.1 hd
    rw [show kl + 1 - k = (kl + 1 - (k + 1)) + 1 by omega, rnM] at hr
    rw [e_Model_run_29]
    simp only [e_Model_run_30, e_Model_run_31, e_Model_run_34, e_Model_run_37, e_Model_run_38, e_Model_run_39, kR_l, kR_r, kP_0, kP_i, kP_r, kP_n, kP_s, kP_o, kLen_I, kLen_L, kLen_R, kLdI_0, kLdI_1, kLdI_2, kLdI_3, kStI_0, kStI_1, kLdL_e, kStL_e, kLdR_e, kStR_e, kFld_e, kNth_0, kNth_s, kPut_e, fit_I, fit_Z, fit_B, fit_C, fit_A, fit_O, Option.toList_some, Option.toList_none, List.cons_append, List.nil_append, true_and, and_true, List.set_cons_zero, List.set_cons_succ, st_same, Int.toNat_natCast, Int.cast_ofNat_Int, Nat.zero_add, Nat.reduceAdd, kRcv_1, kRcv_2, kRcv_3, kRcv_0, kRcv_4, kRcv_5, setMd_set, Mdo, Mda1, Mdw1, Mda2, Mdw2, Mda3, Mdw3, Mda4, Mdw4, Mda5, Mdw5, Mda6, Mdw6, Mda7, Mdw7, Mda8, Mdw8, Mda9, Mdw9, Mda10, Mdw10, Mda11, Mdw11, Mdp3, Mdp5, Mdp6, Mdp7, Mdp8, Mdp10, Mdp16, Mdp17, Mdp18, h10]
    refine ⟨⟨by unfold inR; omega, by unfold inR; omega⟩, fun z => absurd z (by omega), fun _ => ?_⟩
    refine s_does (a := (ordO c k).1) (b := (ordO c k).2.1) (d := (ordO c k).2.2) hG hs' hw' hK.2.2 (by omega) ho.1 ho.2.1 ho.2.2.1 hd td.1 td.2.1 td.2.2 (fun m2 A2 q1 q2 => ?_)
    have hK2 : KeepR (upI (upI (upI m 6 0) 3 (svK kp : Nat)) 5 0) m2 (svA A kp) A2 := ⟨fun j a b c d e f => by rw [q1.1 j d e f, hK.1 j a b c d e f], fun j a b c d e => by rw [q1.2.1 j a c d e, hK.2.1 j a b c d e], q1.2.2⟩
    by_cases e : (dmS (A' 1) (ordO c k).1 (ordO c k).2.1 (ordO c k).2.2).1 = 1
    · rw [if_pos e] at hr
      have nx := ih (m2, A2) ⟨⟨hK2, by rw [← hT5]; exact q1.2.1 5 (by decide) (by decide) (by decide) (by decide), by rw [← h10]; exact q1.1 10 (by decide) (by decide) (by decide)⟩, by dsimp only; rw [q2]; exact hr, by dsimp only; rw [q2]; exact hsn, by dsimp only; rw [q2]; exact hwn⟩
      rw [e]
      simp only [e_Model_run_42, e_Model_run_45, e_Model_run_48, kR_l, kR_r, kP_0, kP_i, kP_r, kP_n, kP_s, kP_o, kLen_I, kLen_L, kLen_R, kLdI_0, kLdI_1, kLdI_2, kLdI_3, kStI_0, kStI_1, kLdL_e, kStL_e, kLdR_e, kStR_e, kFld_e, kNth_0, kNth_s, kPut_e, fit_I, fit_Z, fit_B, fit_C, fit_A, fit_O, Option.toList_some, Option.toList_none, List.cons_append, List.nil_append, true_and, and_true, List.set_cons_zero, List.set_cons_succ, st_same, Int.toNat_natCast, Int.cast_ofNat_Int, Nat.zero_add, Nat.reduceAdd, kRcv_1, kRcv_2, kRcv_3, kRcv_0, kRcv_4, kRcv_5]
      clear ih hQ
      all_goals ((repeat' (first | with_reducible refine And.intro ?_ ?_ | intro _)) <;> first | with_reducible assumption | exact True.intro | with_reducible exact nx | omega | (simp only [inR] at *; omega) | exact nx | with_reducible rfl | rfl | (simp; done) | (exfalso; simp_all; done) | skip)
    · rw [if_neg e] at hr
      have e0 : (dmS (A' 1) (ordO c k).1 (ordO c k).2.1 (ordO c k).2.2).1 = 0 := by
        unfold dmS at e ⊢
        split
        · rfl
        · rename_i z1
          rw [if_neg z1] at e
          split
          · rename_i z2
            rw [if_pos z2] at e
            exact absurd rfl e
          · rename_i z2
            rw [if_neg z2] at e
            split
            · rename_i z3
              rw [if_pos z3] at e
              exact absurd rfl e
            · rfl
      have hq := hQ m2 A2 hK2 (by rw [q2, ← hr])
      rw [← hr] at hq
      rw [e0]
      simp only [e_Model_run_42, e_Model_run_51, e_Model_run_52, kR_l, kR_r, kP_0, kP_i, kP_r, kP_n, kP_s, kP_o, kLen_I, kLen_L, kLen_R, kLdI_0, kLdI_1, kLdI_2, kLdI_3, kStI_0, kStI_1, kLdL_e, kStL_e, kLdR_e, kStR_e, kFld_e, kNth_0, kNth_s, kPut_e, fit_I, fit_Z, fit_B, fit_C, fit_A, fit_O, Option.toList_some, Option.toList_none, List.cons_append, List.nil_append, true_and, and_true, List.set_cons_zero, List.set_cons_succ, st_same, Int.toNat_natCast, Int.cast_ofNat_Int, Nat.zero_add, Nat.reduceAdd, kRcv_1, kRcv_2, kRcv_3, kRcv_0, kRcv_4, kRcv_5]
      clear ih hQ
      all_goals ((repeat' (first | with_reducible refine And.intro ?_ ?_ | intro _)) <;> first | with_reducible assumption | exact True.intro | with_reducible exact hq | omega | (simp only [inR] at *; omega) | exact hq | with_reducible rfl | rfl | (simp; done) | (exfalso; simp_all; done) | skip)
  · rintro ⟨m', A'⟩ ⟨⟨hK, hT5, h10⟩, hr, hs', hw'⟩
    dsimp only at hK hT5 h10 hr hs' hw'
    rw [Nat.sub_self, rnM] at hr
    have hq := hQ m' A' hK (by rw [← hr])
    rw [← hr] at hq
    rw [e_Model_run_29]
    simp only [e_Model_run_30, e_Model_run_31, e_Model_run_34, e_Model_run_51, e_Model_run_52, kR_l, kR_r, kP_0, kP_i, kP_r, kP_n, kP_s, kP_o, kLen_I, kLen_L, kLen_R, kLdI_0, kLdI_1, kLdI_2, kLdI_3, kStI_0, kStI_1, kLdL_e, kStL_e, kLdR_e, kStR_e, kFld_e, kNth_0, kNth_s, kPut_e, fit_I, fit_Z, fit_B, fit_C, fit_A, fit_O, Option.toList_some, Option.toList_none, List.cons_append, List.nil_append, true_and, and_true, List.set_cons_zero, List.set_cons_succ, st_same, Int.toNat_natCast, Int.cast_ofNat_Int, Nat.zero_add, Nat.reduceAdd, kRcv_1, kRcv_2, kRcv_3, kRcv_0, kRcv_4, kRcv_5, setMd_set, Mdo, Mda1, Mdw1, Mda2, Mdw2, Mda3, Mdw3, Mda4, Mdw4, Mda5, Mdw5, Mda6, Mdw6, Mda7, Mdw7, Mda8, Mdw8, Mda9, Mdw9, Mda10, Mdw10, Mda11, Mdw11, Mdp3, Mdp5, Mdp6, Mdp7, Mdp8, Mdp10, Mdp16, Mdp17, Mdp18, h10]
    refine ⟨⟨by unfold inR; omega, by unfold inR; omega⟩, fun _ => ?_, fun z => absurd (Int.le_refl _) z⟩
    all_goals ((repeat' (first | with_reducible refine And.intro ?_ ?_ | intro _)) <;> first | with_reducible assumption | exact True.intro | with_reducible exact hq | omega | (simp only [inR] at *; omega) | exact hq | with_reducible rfl | rfl | (simp; done) | (exfalso; simp_all; done) | skip)
end RN
