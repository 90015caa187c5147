/-! WHAT IS DUG IS OPEN; corridors for all -/
theorem tcW_neg {s : Nat → Int} {a b : Nat} (hw : 0 ≤ wkM s a b ∧ wkM s a b ≤ 3) {k w : Nat} (hk : k < nW s a b) (hww : w < bdM s a b * bdM s a b) : s (sqW (plW s a b) (bdM s a b) k w) < 0 ∧ ((plW s a b k % 16 : Nat) : Int) + ((w % bdM s a b : Nat) : Int) ≤ 15 ∧ ((plW s a b k / 16 : Nat) : Int) + ((w / bdM s a b : Nat) : Int) ≤ 11 ∧ sqW (plW s a b) (bdM s a b) k w = (16 * (((plW s a b k / 16 : Nat) : Int) + ((w / bdM s a b : Nat) : Int)) + (((plW s a b k % 16 : Nat) : Int) + ((w % bdM s a b : Nat) : Int))).toNat := by
  obtain ⟨q, h1, h2, h3, -⟩ := pW_ok hw k hk
  have hp := ((fW_sol hw).1 q h2).2.2 h3
  have hpl := plB_of hp
  have hq : plW s a b k = q := by
    unfold plW
    rw [h1, Int.toNat_natCast]
  have hb := bdM_bd hw
  rw [hq]
  obtain ⟨-, -, g3, g4, g5⟩ := hpl
  have g := g5 w hww
  have hdm := dm hb.1 w
  have hd2 : ((w / bdM s a b : Nat) : Int) < bdM s a b := Int.ofNat_lt.mpr (Nat.div_lt_of_lt_mul hww)
  unfold whM at g
  rw [if_pos (by omega)] at g
  have e : sqW (plW s a b) (bdM s a b) k w = (16 * (((q / 16 : Nat) : Int) + ((w / bdM s a b : Nat) : Int)) + (((q % 16 : Nat) : Int) + ((w % bdM s a b : Nat) : Int))).toNat := by
    unfold sqW
    rw [hq]
    omega
  rw [e]
  exact ⟨g, by omega, by omega, rfl⟩
theorem dgP_DgR {s : Nat → Int} {a b : Nat} (hw : 0 ≤ wkM s a b ∧ wkM s a b ≤ 3) : DgR s (dgP s a b).1 := by
  intro j
  by_cases h : tcW (plW s a b) (bdM s a b) (nW s a b) j
  · have h1 := (dgK_at (s := s) (pl := plW s a b) (b := bdM s a b) j (nW s a b)).1 h
    obtain ⟨k, hk, w, hww, e⟩ := h
    exact Or.inr ⟨by rw [e]; exact (tcW_neg hw hk hww).1, h1⟩
  · exact Or.inl ((dgK_at (s := s) (pl := plW s a b) (b := bdM s a b) j (nW s a b)).2 h)
theorem dgP_rk {s : Nat → Int} {a b : Nat} (hw : 0 ≤ wkM s a b ∧ wkM s a b ≤ 3) {k : Nat} (hk : k < nW s a b) : rk0 (dgP s a b).1 (bdM s a b) (plW s a b k) = 0 := by
  refine sum_zero _ (fun w hww => ?_)
  obtain ⟨-, h1, h2, h3⟩ := tcW_neg hw hk hww
  have h4 := (dgK_at (s := s) (pl := plW s a b) (b := bdM s a b) (sqW (plW s a b) (bdM s a b) k w) (nW s a b)).1 ⟨k, hk, w, hww, rfl⟩
  have hdm := dm (bdM_bd hw).1 w
  have hwh : whM (dgP s a b).1 (((plW s a b k % 16 : Nat) : Int) + ((w % bdM s a b : Nat) : Int)) (((plW s a b k / 16 : Nat) : Int) + ((w / bdM s a b : Nat) : Int)) = -1 := by
    unfold whM
    rw [if_pos (by omega), ← h3]
    exact h4
  unfold rk0T
  rw [hwh, if_neg (by decide)]
theorem Op_mono {s : Nat → Int} {b : Nat} {r : Int} : ∀ n p, OpB s b r n p → OpB s b r (n + 1) p
  | 0, _, z => z.elim
  | n + 1, p, ⟨h1, h2, h3, h4⟩ => ⟨h1, h2, h3, h4.elim Or.inl (fun ⟨d, q, g1, g2, g3⟩ => Or.inr ⟨d, q, g1, g2, Op_mono n q g3⟩)⟩
theorem Op_monoK {s : Nat → Int} {b : Nat} {r : Int} {n p : Nat} (h : OpB s b r n p) : ∀ k, OpB s b r (n + k) p
  | 0 => h
  | k + 1 => Op_mono _ _ (Op_monoK h k)
theorem dg_op {s : Nat → Int} {a b : Nat} (hw : 0 ≤ wkM s a b ∧ wkM s a b ≤ 3) : ∀ i k, k + (i + 1) = nW s a b → OpB (dgP s a b).1 (bdM s a b) (b : Nat) (i + 1) (plW s a b k) := by
  have hb := bdM_bd hw
  have hf := fW_sol hw
  have hD := dgP_DgR hw
  intro i
  induction i with
  | zero =>
    intro k hk
    obtain ⟨q, h1, h2, h3, h4⟩ := pW_ok hw k (by omega)
    have hq : plW s a b k = q := by
      unfold plW
      rw [h1, Int.toNat_natCast]
    have h5 := (Sol_mod' hf h2 h3).2.2 (by omega)
    have h6 := (hf.2.1 q h2).mp h5
    have hr := dgP_rk hw (show k < nW s a b by omega)
    rw [hq] at hr ⊢
    refine ⟨h2, ?_, hr, Or.inl (by rw [hD.at _ _ (by omega)]; exact h6.2)⟩
    unfold plP
    rw [hD.pl]
    exact h6.1
  | succ i ih =>
    intro k hk
    obtain ⟨q, h1, h2, h3, h4⟩ := pW_ok hw k (by omega)
    have hq : plW s a b k = q := by
      unfold plW
      rw [h1, Int.toNat_natCast]
    have hr := dgP_rk hw (show k < nW s a b by omega)
    have nx := ih (k + 1) (by omega)
    have h7 := (hf.1 q h2).2.2 h3
    obtain ⟨-, d, q', hd, hq', hn, hfo, -, -⟩ := Sol_fol hb.1 hb.2 hf h2 h3 (fun e => by rw [e] at h4; omega)
    have e2 : plW s a b (k + 1) = q' := by
      unfold plW pW ptM
      unfold pW at h1
      rw [h1, Int.toNat_natCast, hfo, Int.toNat_natCast]
    rw [e2] at nx
    rw [hq] at hr ⊢
    refine ⟨h2, ?_, hr, Or.inr ⟨d, q', hd, by rw [hD.nx]; exact hn, nx⟩⟩
    unfold plP
    rw [hD.pl]
    exact h7
theorem dgP_opn {s : Nat → Int} {a b : Nat} (hw : 0 ≤ wkM s a b ∧ wkM s a b ≤ 3) (h : isW s a b = 1) : opW (dgP s a b).1 a b = 1 := by
  have hN := nW_pos hw h
  have hL := nW_le hw
  have hD := dgP_DgR hw
  have hh : ∀ j, 192 ≤ j → (dgP s a b).1 j = s j := fun j hj => dgP_hi hw hj
  have ho := bsM4_ok (s := s) (b := bdM s a b) (one := (a : Nat)) (f := fW s a b) 192
  have h0 := dg_op hw (nW s a b - 1) 0 (by omega)
  refine (opW_iff (by rw [DgR.wk hh]; exact hw)).mpr ⟨plW s a b 0, ?_, ?_⟩
  · rw [DgR.bd hh, hD.at _ _ (by omega)]
    have e : plW s a b 0 = (bW s a b).1.toNat := rfl
    rw [e]
    unfold isW at h
    unfold bW at h ⊢
    by_cases c : (bsM4 s (bdM s a b) (a : Nat) (fW s a b) 192).1 = -1
    · rw [if_pos c] at h
      omega
    · exact (ho c).2.1
  · rw [DgR.bd hh]
    have := Op_monoK h0 (192 - nW s a b)
    rw [show nW s a b - 1 + 1 + (192 - nW s a b) = 192 by omega] at this
    exact this
def nxS (s : Nat → Int) : (Nat → Int) × Int := dgP s ((dnM s 36).1.toNat / 6) ((dnM s 36).1.toNat % 6)
theorem nxS_lt {s : Nat → Int} (hw : WkOK s) {k : Nat} (hk : (dnM s 36).1 = k) : WkOK (nxS s).1 ∧ prM (nxS s).1 1 + 1 ≤ prM s 1 ∧ 0 ≤ (nxS s).2 ∧ (nxS s).2 ≤ 192 ∧ (∀ j, 192 ≤ j → (nxS s).1 j = s j) ∧ DgR s (nxS s).1 := by
  obtain ⟨h1, h2, h3, h4, h5⟩ := dnM_is 36 k hk
  have ho : k / 6 < 6 := by omega
  have ho2 : k % 6 < 6 := by omega
  have hwk := hw (k / 6) (k % 6) ho ho2
  have e : nxS s = dgP s (k / 6) (k % 6) := by
    unfold nxS
    rw [hk, Int.toNat_natCast]
  have hh : ∀ j, 192 ≤ j → (dgP s (k / 6) (k % 6)).1 j = s j := fun j hj => dgP_hi hwk hj
  have hD := dgP_DgR hwk
  rw [e]
  refine ⟨dgP_wk hwk hw, ?_, ?_, ?_, hh, hD⟩
  · unfold prM
    have key : ∀ i, i < 36 → opW s (i / 6) (i % 6) = 1 → opW (dgP s (k / 6) (k % 6)).1 (i / 6) (i % 6) = 1 := fun i hi z => hD.opn hh (hw _ _ (by omega) (by omega)) z
    have hsame : ∀ i, wkM (dgP s (k / 6) (k % 6)).1 (i / 6) (i % 6) = wkM s (i / 6) (i % 6) := fun i => DgR.wk hh _ _
    refine sum_lt 36 (fun i hi => ?_) k h1 ?_
    · have b1 := opW_bd s (i / 6) (i % 6)
      have b2 := opW_bd (dgP s (k / 6) (k % 6)).1 (i / 6) (i % 6)
      have k1 := key i hi
      unfold prT
      rw [hsame]
      split
      · rw [if_neg (by omega), if_pos rfl, if_neg (by omega), if_pos rfl]
        omega
      · omega
    · have b1 := dgP_opn hwk h3
      have b2 : opW s (k / 6) (k % 6) = 0 := by
        unfold opW
        rw [if_neg (by omega)]
      unfold prT
      rw [hsame, if_pos h2, if_pos h2, if_neg (by omega), if_pos rfl, if_neg (by omega), if_pos rfl, b1, b2]
      omega
  · rw [show (dgP s (k / 6) (k % 6)).2 = cnD s (dgP s (k / 6) (k % 6)).1 from (dgK_cn _ (dgP_sq hwk)).2]
    exact (cnt_bd (c := fun j => s j = -2 ∧ (dgP s (k / 6) (k % 6)).1 j = -1) 192).1
  · rw [show (dgP s (k / 6) (k % 6)).2 = cnD s (dgP s (k / 6) (k % 6)).1 from (dgK_cn _ (dgP_sq hwk)).2]
    exact (cnt_bd (c := fun j => s j = -2 ∧ (dgP s (k / 6) (k % 6)).1 j = -1) 192).2
def caM : Nat → (Nat → Int) → Int × (Int × (Nat → Int))
  | 0, s => (0, (0, s))
  | f + 1, s => if (dnM s 36).1 = -1 then (0, (0, s)) else (1 + (caM f (nxS s).1).1, ((nxS s).2 + (caM f (nxS s).1).2.1, (caM f (nxS s).1).2.2))
theorem caM_hi {s : Nat → Int} (hw : WkOK s) : ∀ f, WkOK s → (∀ j, 192 ≤ j → (caM f s).2.2 j = s j) ∧ WkOK (caM f s).2.2 := by
  intro f
  induction f generalizing s with
  | zero => exact fun h => ⟨fun _ _ => rfl, h⟩
  | succ f ih =>
    intro h
    have hb := dnM_bd h 36 (Nat.le_refl _)
    unfold caM
    by_cases e : (dnM s 36).1 = -1
    · rw [if_pos e]
      exact ⟨fun _ _ => rfl, h⟩
    · rw [if_neg e]
      have h1 := nxS_lt h (k := (dnM s 36).1.toNat) (by omega)
      have h2 := ih h1.1 h1.1
      exact ⟨fun j hj => by rw [h2.1 j hj, h1.2.2.2.2.1 j hj], h2.2⟩
theorem nxS_OK {s : Nat → Int} (h : SOK s) : SOK (nxS s).1 := dgP_OK h
theorem caM_OK {s : Nat → Int} : ∀ f, SOK s → SOK (caM f s).2.2 := by
  intro f
  induction f generalizing s with
  | zero => exact fun h => h
  | succ f ih =>
    intro h
    unfold caM
    split
    · exact h
    · exact ih (nxS_OK h)
section CA
variable {G : Nat → Nat} {σ : AS} {Q : (Option AV ⊕ Nat) → AS → Prop} {M : Nat} {m : Nat → Int} {A : Nat → Nat → Int}
theorem s_next {j : Nat} (hj : j = 1 ∨ j = 2) (hs : SOK (A j)) (hw : WkOK (A j)) (hG : G 0 ≤ M) (hA : MdOK A)
    (hQ1 : (dnM (A j) 36).1 = -1 → ∀ (m' : Nat → Int) (A' : Nat → Nat → Int), KeepW m m' A A' → Q (.inl (some (vI (-1)))) (setMd σ M m' A'))
    (hQ2 : (dnM (A j) 36).1 ≠ -1 → ∀ (m' : Nat → Int) (A' : Nat → Nat → Int), KeepW m m' A A' → Q (.inl (some (vI (nxS (A j)).2))) (setMd σ M m' (upA A' j (nxS (A j)).1))) :
    CW G k_Model_digsNext [vR M, vR (M + j)] (setMd σ M m A) Q := by
  refine s_digsNext (j := j) (s := A j) ?_ rfl hj rfl hs hw hG hA hQ1 (fun k hk m' A' h => ?_)
  · rcases hj with rfl | rfl
    · exact SAt1 σ M A
    · exact SAt2 σ M A
  · have := hQ2 (by omega) m' A' h
    unfold nxS at this
    rw [hk, Int.toNat_natCast] at this
    exact this
theorem ca_loop (hG : G 0 ≤ M) : ∀ (f : Nat) (n : Int) (m : Nat → Int) (A : Nat → Nat → Int), prM (A 1) 1 < f → SOK (A 1) → WkOK (A 1) → MdOK A → (∀ (m' : Nat → Int) (A' : Nat → Nat → Int), KeepD m m' A A' → A' 1 = (caM f (A 1)).2.2 → Q (.inl (some (vI (n + (caM f (A 1)).1)))) (setMd σ M m' A')) → WP G k_Model_carveAll 11 [some (vR M), some (vI n)] [] (setMd σ M m A) Q := by
  intro f
  induction f with
  | zero =>
    intro n m A hp hs hw hA hQ
    have := (prM_bd hw 1 (Or.inr rfl)).1
    exact absurd (Int.lt_of_le_of_lt this hp) (by decide)
  | succ f ih =>
    intro n m A hp hs hw hA hQ
    rw [e_Model_carveAll_11]
    simp only [e_Model_carveAll_12, e_Model_carveAll_13, e_Model_carveAll_16, kR_l, kR_r, kP_0, kP_i, kP_r, kP_n, kP_s, kP_o, kLen_I, kLen_L, kLen_R, kLdI_0, kLdI_1, kLdI_2, kLdI_3, kStI_0, kStI_1, kLdL_e, kStL_e, kLdR_e, kStR_e, kFld_e, kNth_0, kNth_s, kPut_e, fit_I, fit_Z, fit_B, fit_C, fit_A, fit_O, Option.toList_some, Option.toList_none, List.cons_append, List.nil_append, true_and, and_true, List.set_cons_zero, List.set_cons_succ, st_same, Int.toNat_natCast, Int.cast_ofNat_Int, Nat.zero_add, Nat.reduceAdd, kRcv_1, kRcv_2, kRcv_3, kRcv_0, kRcv_4, kRcv_5, setMd_set, Mdo, Mda1, Mdw1, Mda2, Mdw2, Mda3, Mdw3, Mda4, Mdw4, Mda5, Mdw5, Mda6, Mdw6, Mda7, Mdw7, Mda8, Mdw8, Mda9, Mdw9, Mda10, Mdw10, Mda11, Mdw11, Mdp3, Mdp5, Mdp6, Mdp7, Mdp8, Mdp10, Mdp16, Mdp17, Mdp18]
    refine s_next (j := 1) (Or.inl rfl) hs hw hG hA (fun e m' A' hK => ?_) (fun e m' A' hK => ?_)
    · unfold caM at hQ
      rw [if_pos e] at hQ
      have hq := hQ m' A' ⟨hK.1, fun k _ a b c => hK.2.1 k a b c, hK.2.2⟩ (hK.2.1 1 (by decide) (by decide) (by decide))
      rw [Int.add_zero] at hq
      simp only [e_Model_carveAll_19, e_Model_carveAll_20, e_Model_carveAll_29, e_Model_carveAll_30, kR_l, kR_r, kP_0, kP_i, kP_r, kP_n, kP_s, kP_o, kLen_I, kLen_L, kLen_R, kLdI_0, kLdI_1, kLdI_2, kLdI_3, kStI_0, kStI_1, kLdL_e, kStL_e, kLdR_e, kStR_e, kFld_e, kNth_0, kNth_s, kPut_e, fit_I, fit_Z, fit_B, fit_C, fit_A, fit_O, Option.toList_some, Option.toList_none, List.cons_append, List.nil_append, true_and, and_true, List.set_cons_zero, List.set_cons_succ, st_same, Int.toNat_natCast, Int.cast_ofNat_Int, Nat.zero_add, Nat.reduceAdd, kRcv_1, kRcv_2, kRcv_3, kRcv_0, kRcv_4, kRcv_5]
      clear hQ ih
      all_goals ((repeat' (first | with_reducible refine And.intro ?_ ?_ | intro _)) <;> first | with_reducible assumption | exact True.intro | with_reducible exact hq | omega | (simp only [inR] at *; omega) | exact hq | with_reducible rfl | rfl | (simp; done) | (exfalso; simp_all; done) | skip)
    · have hb := dnM_bd hw 36 (Nat.le_refl _)
      have hn := nxS_lt hw (k := (dnM (A 1) 36).1.toNat) (by omega)
      have nx := ih (n + 1) m' (upA A' 1 (nxS (A 1)).1) (by show prM (nxS (A 1)).1 1 < f; omega) (nxS_OK hs) hn.1 ⟨hK.2.2.1, hK.2.2.2.1, hK.2.2.2.2.1, hK.2.2.2.2.2⟩ (fun m2 A2 hK2 e2 => by
        unfold caM at hQ
        rw [if_neg e] at hQ
        have := hQ m2 A2 ⟨fun k a b c => by rw [hK2.1 k a b c, hK.1 k a b c], fun k a b c d => by rw [hK2.2.1 k a b c d, upA_at, if_neg a, hK.2.1 k b c d], hK2.2.2⟩ e2
        rw [← Int.add_assoc] at this
        exact this)
      simp only [e_Model_carveAll_19, e_Model_carveAll_20, e_Model_carveAll_23, e_Model_carveAll_26, kR_l, kR_r, kP_0, kP_i, kP_r, kP_n, kP_s, kP_o, kLen_I, kLen_L, kLen_R, kLdI_0, kLdI_1, kLdI_2, kLdI_3, kStI_0, kStI_1, kLdL_e, kStL_e, kLdR_e, kStR_e, kFld_e, kNth_0, kNth_s, kPut_e, fit_I, fit_Z, fit_B, fit_C, fit_A, fit_O, Option.toList_some, Option.toList_none, List.cons_append, List.nil_append, true_and, and_true, List.set_cons_zero, List.set_cons_succ, st_same, Int.toNat_natCast, Int.cast_ofNat_Int, Nat.zero_add, Nat.reduceAdd, kRcv_1, kRcv_2, kRcv_3, kRcv_0, kRcv_4, kRcv_5]
      clear hQ ih
      generalize (nxS (A 1)).2 = v at *
      all_goals ((repeat' (first | with_reducible refine And.intro ?_ ?_ | intro _)) <;> first | with_reducible assumption | exact True.intro | with_reducible exact nx | omega | (simp only [inR] at *; omega) | exact nx | with_reducible rfl | rfl | (simp; done) | (exfalso; simp_all; done) | skip)
theorem s_carveAll {kp : Nat} (hG : G 0 ≤ M) (hs : SOK (A 1)) (hw : WkOK (A 1)) (hA : MdOK A) (hk : m 3 = (kp : Nat)) (hkp : kp ≤ 6)
    (hQ : ∀ (m' : Nat → Int) (A' : Nat → Nat → Int), KeepD (upI (upI m 6 0) 3 (svK kp : Nat)) m' (svA A kp) A' → A' 1 = (caM 16 (A 1)).2.2 → Q (.inl (some (vI (caM 16 (A 1)).1))) (setMd σ M m' A')) :
    CW G k_Model_carveAll [vR M] (setMd σ M m A) Q := by
  have hp := (prM_bd hw 1 (Or.inr rfl)).2
  simp only [c_Model_carveAll, e_Model_carveAll_0, e_Model_carveAll_1, e_Model_carveAll_2, e_Model_carveAll_5, e_Model_carveAll_6, kR_l, kR_r, kP_0, kP_i, kP_r, kP_n, kP_s, kP_o, kLen_I, kLen_L, kLen_R, kLdI_0, kLdI_1, kLdI_2, kLdI_3, kStI_0, kStI_1, kLdL_e, kStL_e, kLdR_e, kStR_e, kFld_e, kNth_0, kNth_s, kPut_e, fit_I, fit_Z, fit_B, fit_C, fit_A, fit_O, Option.toList_some, Option.toList_none, List.cons_append, List.nil_append, true_and, and_true, List.set_cons_zero, List.set_cons_succ, st_same, Int.toNat_natCast, Int.cast_ofNat_Int, Nat.zero_add, Nat.reduceAdd, kRcv_1, kRcv_2, kRcv_3, kRcv_0, kRcv_4, kRcv_5, setMd_set, Mdo, Mda1, Mdw1, Mda2, Mdw2, Mda3, Mdw3, Mda4, Mdw4, Mda5, Mdw5, Mda6, Mdw6, Mda7, Mdw7, Mda8, Mdw8, Mda9, Mdw9, Mda10, Mdw10, Mda11, Mdw11, Mdp3, Mdp5, Mdp6, Mdp7, Mdp8, Mdp10, Mdp16, Mdp17, Mdp18, List.length_cons, List.length_nil]
  refine ⟨⟨by omega, by omega⟩, ?_⟩
  rw [s_Model_saves hG (show upI m 6 0 3 = (kp : Nat) from hk) hkp]
  simp only [e_Model_carveAll_9, e_Model_carveAll_10, kR_l, kR_r, kP_0, kP_i, kP_r, kP_n, kP_s, kP_o, kLen_I, kLen_L, kLen_R, kLdI_0, kLdI_1, kLdI_2, kLdI_3, kStI_0, kStI_1, kLdL_e, kStL_e, kLdR_e, kStR_e, kFld_e, kNth_0, kNth_s, kPut_e, fit_I, fit_Z, fit_B, fit_C, fit_A, fit_O, Option.toList_some, Option.toList_none, List.cons_append, List.nil_append, true_and, and_true, List.set_cons_zero, List.set_cons_succ, st_same, Int.toNat_natCast, Int.cast_ofNat_Int, Nat.zero_add, Nat.reduceAdd, kRcv_1, kRcv_2, kRcv_3, kRcv_0, kRcv_4, kRcv_5]
  have e1 : svA A kp 1 = A 1 := svA_at A kp 1 (by decide)
  have eA : upA A 3 (svF (A 1) (A 3) kp) = svA A kp := rfl
  rw [eA]
  refine ca_loop hG 16 0 _ _ (by rw [e1]; omega) (by rw [e1]; exact hs) (by rw [e1]; exact hw) (hA.sv kp) (fun m' A' hK e2 => ?_)
  rw [e1] at e2 ⊢
  rw [Int.zero_add]
  exact hQ m' A' hK e2
theorem fa_loop (hG : G 0 ≤ M) : ∀ (f : Nat) (n : Int) (m : Nat → Int) (A : Nat → Nat → Int), prM (A 2) 1 < f → SOK (A 2) → WkOK (A 2) → MdOK A → Tl (A 2) → (∀ (m' : Nat → Int) (A' : Nat → Nat → Int), KeepL m m' A A' → Q (.inl (some (vI (n + (caM f (A 2)).2.1)))) (setMd σ M m' A')) → ∀ (pc : Nat) (z : Option AV), (pc = 14 ∨ pc = 32) → zI z → CW G k_Model_digsNext [vR M, vR (M + 2)] (setMd σ M m A) (kR (fun v σ' => WP G k_Model_forAll pc [some (vR M), some (vI n), z] (v.toList ++ []) σ' Q) (fun e σ' => Q (.inr e) σ')) := by
  intro f
  induction f with
  | zero =>
    intro n m A hp hs hw hA hT hQ
    have := (prM_bd hw 1 (Or.inr rfl)).1
    exact absurd (Int.lt_of_le_of_lt this hp) (by decide)
  | succ f ih =>
    intro n m A hp hs hw hA hT hQ pc z hpc hz
    refine s_next (j := 2) (Or.inr rfl) hs hw hG hA (fun e m' A' hK => ?_) (fun e m' A' hK => ?_)
    · unfold caM at hQ
      rw [if_pos e] at hQ
      have hq := hQ m' A' (hK.L hT)
      rw [Int.add_zero] at hq
      have fin : WP G k_Model_forAll 15 [some (vR M), some (vI n), some (vI (-1))] [] (setMd σ M m' A') Q := by
        rw [e_Model_forAll_15]
        simp only [e_Model_forAll_16, e_Model_forAll_17, e_Model_forAll_36, e_Model_forAll_37, kR_l, kR_r, kP_0, kP_i, kP_r, kP_n, kP_s, kP_o, kLen_I, kLen_L, kLen_R, kLdI_0, kLdI_1, kLdI_2, kLdI_3, kStI_0, kStI_1, kLdL_e, kStL_e, kLdR_e, kStR_e, kFld_e, kNth_0, kNth_s, kPut_e, fit_I, fit_Z, fit_B, fit_C, fit_A, fit_O, Option.toList_some, Option.toList_none, List.cons_append, List.nil_append, true_and, and_true, List.set_cons_zero, List.set_cons_succ, st_same, Int.toNat_natCast, Int.cast_ofNat_Int, Nat.zero_add, Nat.reduceAdd, kRcv_1, kRcv_2, kRcv_3, kRcv_0, kRcv_4, kRcv_5]
        clear hQ ih
        all_goals ((repeat' (first | with_reducible refine And.intro ?_ ?_ | intro _)) <;> first | with_reducible assumption | exact True.intro | with_reducible exact hq | omega | (simp only [inR] at *; omega) | exact hq | with_reducible rfl | rfl | (simp; done) | (exfalso; simp_all; done) | skip)
      rcases hpc with rfl | rfl <;> simp only [e_Model_forAll_14, e_Model_forAll_32, e_Model_forAll_33, kR_l, kR_r, kP_0, kP_i, kP_r, kP_n, kP_s, kP_o, kLen_I, kLen_L, kLen_R, kLdI_0, kLdI_1, kLdI_2, kLdI_3, kStI_0, kStI_1, kLdL_e, kStL_e, kLdR_e, kStR_e, kFld_e, kNth_0, kNth_s, kPut_e, fit_I, fit_Z, fit_B, fit_C, fit_A, fit_O, Option.toList_some, Option.toList_none, List.cons_append, List.nil_append, true_and, and_true, List.set_cons_zero, List.set_cons_succ, st_same, Int.toNat_natCast, Int.cast_ofNat_Int, Nat.zero_add, Nat.reduceAdd, kRcv_1, kRcv_2, kRcv_3, kRcv_0, kRcv_4, kRcv_5] <;> exact fin
    · have hb := dnM_bd hw 36 (Nat.le_refl _)
      have hn := nxS_lt hw (k := (dnM (A 2) 36).1.toNat) (by omega)
      have hTn : Tl (nxS (A 2)).1 := fun k hk => by rw [hn.2.2.2.2.1 k (by omega)]; exact hT k hk
      have nx := ih (n + (nxS (A 2)).2) m' (upA A' 2 (nxS (A 2)).1) (by show prM (nxS (A 2)).1 1 < f; omega) (nxS_OK hs) hn.1 ⟨hK.2.2.1, hK.2.2.2.1, hK.2.2.2.2.1, hK.2.2.2.2.2⟩ hTn (fun m2 A2 hK2 => by
        unfold caM at hQ
        rw [if_neg e] at hQ
        have := hQ m2 A2 ⟨fun k a b c => by rw [hK2.1 k a b c, hK.1 k a b c], fun k a b c d => by rw [hK2.2.1 k a b c d, upA_at, if_neg a, hK.2.1 k b c d], hK2.2.2⟩
        rw [← Int.add_assoc] at this
        exact this)
      have fin : WP G k_Model_forAll 15 [some (vR M), some (vI n), some (vI (nxS (A 2)).2)] [] (setMd σ M m' (upA A' 2 (nxS (A 2)).1)) Q := by
        rw [e_Model_forAll_15]
        simp only [e_Model_forAll_16, e_Model_forAll_17, e_Model_forAll_20, e_Model_forAll_21, e_Model_forAll_22, e_Model_forAll_23, e_Model_forAll_24, e_Model_forAll_25, e_Model_forAll_26, e_Model_forAll_29, kR_l, kR_r, kP_0, kP_i, kP_r, kP_n, kP_s, kP_o, kLen_I, kLen_L, kLen_R, kLdI_0, kLdI_1, kLdI_2, kLdI_3, kStI_0, kStI_1, kLdL_e, kStL_e, kLdR_e, kStR_e, kFld_e, kNth_0, kNth_s, kPut_e, fit_I, fit_Z, fit_B, fit_C, fit_A, fit_O, Option.toList_some, Option.toList_none, List.cons_append, List.nil_append, true_and, and_true, List.set_cons_zero, List.set_cons_succ, st_same, Int.toNat_natCast, Int.cast_ofNat_Int, Nat.zero_add, Nat.reduceAdd, kRcv_1, kRcv_2, kRcv_3, kRcv_0, kRcv_4, kRcv_5, setMd_set, Mdo, Mda1, Mdw1, Mda2, Mdw2, Mda3, Mdw3, Mda4, Mdw4, Mda5, Mdw5, Mda6, Mdw6, Mda7, Mdw7, Mda8, Mdw8, Mda9, Mdw9, Mda10, Mdw10, Mda11, Mdw11, Mdp3, Mdp5, Mdp6, Mdp7, Mdp8, Mdp10, Mdp16, Mdp17, Mdp18]
        clear hQ ih
        have v1 := hn.2.2.1
        have v2 := hn.2.2.2.1
        refine ⟨⟨by unfold inR; omega, by unfold inR; omega⟩, fun y => absurd y (by omega), fun _ => ?_⟩
        exact nx 32 _ (Or.inr rfl) (zI_s _)
      rcases hpc with rfl | rfl <;> simp only [e_Model_forAll_14, e_Model_forAll_32, e_Model_forAll_33, kR_l, kR_r, kP_0, kP_i, kP_r, kP_n, kP_s, kP_o, kLen_I, kLen_L, kLen_R, kLdI_0, kLdI_1, kLdI_2, kLdI_3, kStI_0, kStI_1, kLdL_e, kStL_e, kLdR_e, kStR_e, kFld_e, kNth_0, kNth_s, kPut_e, fit_I, fit_Z, fit_B, fit_C, fit_A, fit_O, Option.toList_some, Option.toList_none, List.cons_append, List.nil_append, true_and, and_true, List.set_cons_zero, List.set_cons_succ, st_same, Int.toNat_natCast, Int.cast_ofNat_Int, Nat.zero_add, Nat.reduceAdd, kRcv_1, kRcv_2, kRcv_3, kRcv_0, kRcv_4, kRcv_5] <;> exact fin
theorem s_forAll (hG : G 0 ≤ M) (hs : SOK (A 1)) (hw : WkOK (A 1)) (hT : Tl (A 1)) (hT2 : Tl (A 2)) (hA : MdOK A)
    (hQ : ∀ (m' : Nat → Int) (A' : Nat → Nat → Int), KeepL m m' A A' → Q (.inl (some (vI (caM 16 (A 1)).2.1))) (setMd σ M m' A')) :
    CW G k_Model_forAll [vR M] (setMd σ M m A) Q := by
  have hp := (prM_bd hw 1 (Or.inr rfl)).2
  simp only [c_Model_forAll, e_Model_forAll_0, e_Model_forAll_1, e_Model_forAll_4, e_Model_forAll_5, e_Model_forAll_6, e_Model_forAll_7, e_Model_forAll_8, e_Model_forAll_11, kR_l, kR_r, kP_0, kP_i, kP_r, kP_n, kP_s, kP_o, kLen_I, kLen_L, kLen_R, kLdI_0, kLdI_1, kLdI_2, kLdI_3, kStI_0, kStI_1, kLdL_e, kStL_e, kLdR_e, kStR_e, kFld_e, kNth_0, kNth_s, kPut_e, fit_I, fit_Z, fit_B, fit_C, fit_A, fit_O, Option.toList_some, Option.toList_none, List.cons_append, List.nil_append, true_and, and_true, List.set_cons_zero, List.set_cons_succ, st_same, Int.toNat_natCast, Int.cast_ofNat_Int, Nat.zero_add, Nat.reduceAdd, kRcv_1, kRcv_2, kRcv_3, kRcv_0, kRcv_4, kRcv_5, setMd_set, Mdo, Mda1, Mdw1, Mda2, Mdw2, Mda3, Mdw3, Mda4, Mdw4, Mda5, Mdw5, Mda6, Mdw6, Mda7, Mdw7, Mda8, Mdw8, Mda9, Mdw9, Mda10, Mdw10, Mda11, Mdw11, Mdp3, Mdp5, Mdp6, Mdp7, Mdp8, Mdp10, Mdp16, Mdp17, Mdp18, s_Model_tries hG, cpF_eq hT hT2]
  refine fa_loop hG 16 0 m (upA A 2 (A 1)) (by show prM (A 1) 1 < _; omega) hs hw ⟨hA.1, hA.2.1, hA.2.2.1, hA.2.2.2⟩ hT (fun m' A' hK => ?_) 14 none (Or.inl rfl) zI_n
  rw [Int.zero_add]
  exact hQ m' A' ⟨hK.1, fun k a b c d => by rw [hK.2.1 k a b c d, upA_at, if_neg a], hK.2.2⟩
theorem s_allCost (hG : G 0 ≤ M) (hs : SOK (A 1)) (hw : WkOK (A 1)) (hT : Tl (A 1)) (hT2 : Tl (A 2)) (hA : MdOK A)
    (hQ : ∀ (m' : Nat → Int) (A' : Nat → Nat → Int), KeepL (upI m 6 0) m' A A' → Q (.inl (some (vI (caM 16 (A 1)).2.1))) (setMd σ M m' A')) :
    CW G k_Model_allCost [vR M] (setMd σ M m A) Q := by
  simp only [c_Model_allCost, e_Model_allCost_0, e_Model_allCost_1, e_Model_allCost_2, e_Model_allCost_5, e_Model_allCost_6, kR_l, kR_r, kP_0, kP_i, kP_r, kP_n, kP_s, kP_o, kLen_I, kLen_L, kLen_R, kLdI_0, kLdI_1, kLdI_2, kLdI_3, kStI_0, kStI_1, kLdL_e, kStL_e, kLdR_e, kStR_e, kFld_e, kNth_0, kNth_s, kPut_e, fit_I, fit_Z, fit_B, fit_C, fit_A, fit_O, Option.toList_some, Option.toList_none, List.cons_append, List.nil_append, true_and, and_true, List.set_cons_zero, List.set_cons_succ, st_same, Int.toNat_natCast, Int.cast_ofNat_Int, Nat.zero_add, Nat.reduceAdd, kRcv_1, kRcv_2, kRcv_3, kRcv_0, kRcv_4, kRcv_5, setMd_set, Mdo, Mda1, Mdw1, Mda2, Mdw2, Mda3, Mdw3, Mda4, Mdw4, Mda5, Mdw5, Mda6, Mdw6, Mda7, Mdw7, Mda8, Mdw8, Mda9, Mdw9, Mda10, Mdw10, Mda11, Mdw11, Mdp3, Mdp5, Mdp6, Mdp7, Mdp8, Mdp10, Mdp16, Mdp17, Mdp18, List.length_cons, List.length_nil]
  all_goals ((repeat' (first | with_reducible refine And.intro ?_ ?_ | intro _)) <;> first | with_reducible assumption | exact True.intro | omega | (simp only [inR] at *; omega) | exact absurd True.intro (by with_reducible assumption) | (with_reducible show WP _ _ _ _ _ _ _) | (with_reducible show CW _ _ _ _ _) | with_reducible rfl | rfl | (simp; done) | (exfalso; simp_all; done) | skip)
  refine s_forAll hG hs hw hT hT2 hA (fun m' A' hK => ?_)
  simp only [e_Model_allCost_9, kR_l, kR_r, kP_0, kP_i, kP_r, kP_n, kP_s, kP_o, kLen_I, kLen_L, kLen_R, kLdI_0, kLdI_1, kLdI_2, kLdI_3, kStI_0, kStI_1, kLdL_e, kStL_e, kLdR_e, kStR_e, kFld_e, kNth_0, kNth_s, kPut_e, fit_I, fit_Z, fit_B, fit_C, fit_A, fit_O, Option.toList_some, Option.toList_none, List.cons_append, List.nil_append, true_and, and_true, List.set_cons_zero, List.set_cons_succ, st_same, Int.toNat_natCast, Int.cast_ofNat_Int, Nat.zero_add, Nat.reduceAdd, kRcv_1, kRcv_2, kRcv_3, kRcv_0, kRcv_4, kRcv_5]
  first | exact hQ m' A' hK | exact ⟨trivial, hQ m' A' hK⟩
end CA
