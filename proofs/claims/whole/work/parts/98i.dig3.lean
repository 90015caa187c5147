/-! THE HASH OF THE WHOLE STATE: the reference's -/
def MdG (m : Nat → Int) (A : Nat → Nat → Int) (s : Nat → Int) (kp n : Nat) (t : Nat → Int) : Prop := A 1 = s ∧ A 4 = t ∧ m 3 = (kp : Nat) ∧ m 5 = (n : Nat) ∧ MdOK A ∧ Tl (A 2)
theorem MdG.keep {m m' : Nat → Int} {A A' : Nat → Nat → Int} {s t : Nat → Int} {kp n : Nat} (h : MdG m A s kp n t) (k : KeepL m m' A A') : MdG m' A' s kp n t := ⟨by rw [k.2.1 1 (by decide) (by decide) (by decide) (by decide)]; exact h.1, by rw [k.2.1 4 (by decide) (by decide) (by decide) (by decide)]; exact h.2.1, by rw [k.1 3 (by decide) (by decide) (by decide)]; exact h.2.2.1, by rw [k.1 5 (by decide) (by decide) (by decide)]; exact h.2.2.2.1, k.2.2.1, k.2.2.2⟩
theorem MdG.L {m m' : Nat → Int} {A A' : Nat → Nat → Int} {s t : Nat → Int} {kp n : Nat} (h : MdG m A s kp n t) (k : KeepW m m' A A') : KeepL m m' A A' := k.L h.2.2.2.2.2
section DG3
variable {G : Nat → Nat} {σ : AS} {Q : (Option AV ⊕ Nat) → AS → Prop} {M kp n : Nat} {s t m : Nat → Int} {A : Nat → Nat → Int}
theorem md_fin {H : Int64} {z3 z4 z5 : Option AV} (hM : MdG m A s kp n t) (hg : Good s) (hn : n ≤ 60) (hG : G 0 ≤ M) (h3 : zI z3)
    (hQ : ∀ (m' : Nat → Int) (A' : Nat → Nat → Int), KeepL m m' A A' → Q (.inl (some (vL (digE s n t H)))) (setMd σ M m' A')) :
    WP G k_Model_digest 392 [some (vR M), some (vL H), none, z3, z4, z5] [] (setMd σ M m A) Q := by
  obtain ⟨e1, e4, k3, k5, hA, hT2⟩ := hM
  unfold digE at hQ
  simp only [e_Model_digest_392, e_Model_digest_395, e_Model_digest_396, e_Model_digest_397, e_Model_digest_398, kR_l, kR_r, kP_0, kP_i, kP_r, kP_n, kP_s, kP_o, kLen_I, kLen_L, kLen_R, kLdI_0, kLdI_1, kLdI_2, kLdI_3, kStI_0, kStI_1, kLdL_e, kStL_e, kLdR_e, kStR_e, kFld_e, kNth_0, kNth_s, kPut_e, fit_I, fit_Z, fit_B, fit_C, fit_A, fit_O, Option.toList_some, Option.toList_none, List.cons_append, List.nil_append, true_and, and_true, List.set_cons_zero, List.set_cons_succ, st_same, Int.toNat_natCast, Int.cast_ofNat_Int, Nat.zero_add, Nat.reduceAdd, kRcv_1, kRcv_2, kRcv_3, kRcv_0, kRcv_4, kRcv_5, setMd_set, Mdo, Mda1, Mdw1, Mda2, Mdw2, Mda3, Mdw3, Mda4, Mdw4, Mda5, Mdw5, Mda6, Mdw6, Mda7, Mdw7, Mda8, Mdw8, Mda9, Mdw9, Mda10, Mdw10, Mda11, Mdw11, Mdp3, Mdp5, Mdp6, Mdp7, Mdp8, Mdp10, Mdp16, Mdp17, Mdp18]
  refine s_forAll hG (by rw [e1]; exact hg.1) (by rw [e1]; exact hg.wk) (by rw [e1]; exact hg.2.1) hT2 hA (fun m2 A2 q2 => ?_)
  rw [e1]
  have e12 : A2 1 = s := by rw [q2.2.1 1 (by decide) (by decide) (by decide) (by decide)]; exact e1
  simp only [e_Model_digest_401, e_Model_digest_402, e_Model_digest_403, e_Model_digest_404, e_Model_digest_407, e_Model_digest_410, e_Model_digest_411, e_Model_digest_412, e_Model_digest_413, kR_l, kR_r, kP_0, kP_i, kP_r, kP_n, kP_s, kP_o, kLen_I, kLen_L, kLen_R, kLdI_0, kLdI_1, kLdI_2, kLdI_3, kStI_0, kStI_1, kLdL_e, kStL_e, kLdR_e, kStR_e, kFld_e, kNth_0, kNth_s, kPut_e, fit_I, fit_Z, fit_B, fit_C, fit_A, fit_O, Option.toList_some, Option.toList_none, List.cons_append, List.nil_append, true_and, and_true, List.set_cons_zero, List.set_cons_succ, st_same, Int.toNat_natCast, Int.cast_ofNat_Int, Nat.zero_add, Nat.reduceAdd, kRcv_1, kRcv_2, kRcv_3, kRcv_0, kRcv_4, kRcv_5, setMd_set, Mdo, Mda1, Mdw1, Mda2, Mdw2, Mda3, Mdw3, Mda4, Mdw4, Mda5, Mdw5, Mda6, Mdw6, Mda7, Mdw7, Mda8, Mdw8, Mda9, Mdw9, Mda10, Mdw10, Mda11, Mdw11, Mdp3, Mdp5, Mdp6, Mdp7, Mdp8, Mdp10, Mdp16, Mdp17, Mdp18]
  refine s_share (by rw [e12]; exact hg.1) (by rw [e12]; exact hg.wk) hG q2.2.2.1 (fun m3 A3 q3 => ?_)
  rw [e12]
  simp only [e_Model_digest_416, kR_l, kR_r, kP_0, kP_i, kP_r, kP_n, kP_s, kP_o, kLen_I, kLen_L, kLen_R, kLdI_0, kLdI_1, kLdI_2, kLdI_3, kStI_0, kStI_1, kLdL_e, kStL_e, kLdR_e, kStR_e, kFld_e, kNth_0, kNth_s, kPut_e, fit_I, fit_Z, fit_B, fit_C, fit_A, fit_O, Option.toList_some, Option.toList_none, List.cons_append, List.nil_append, true_and, and_true, List.set_cons_zero, List.set_cons_succ, st_same, Int.toNat_natCast, Int.cast_ofNat_Int, Nat.zero_add, Nat.reduceAdd, kRcv_1, kRcv_2, kRcv_3, kRcv_0, kRcv_4, kRcv_5]
  rw [s_dtl (sh_bos hg.wk)]
  have q23 : KeepL m m3 A A3 := q2.trans (q3.L q2.2.2.2)
  have k53 : m3 5 = (n : Nat) := by rw [q23.1 5 (by decide) (by decide) (by decide)]; exact k5
  have e43 : A3 4 = t := by rw [q23.2.1 4 (by decide) (by decide) (by decide) (by decide)]; exact e4
  have hq := hQ m3 A3 q23
  clear hQ
  simp only [e_Model_digest_419, e_Model_digest_420, e_Model_digest_421, e_Model_digest_422, e_Model_digest_425, e_Model_digest_426, e_Model_digest_427, e_Model_digest_428, e_Model_digest_429, kR_l, kR_r, kP_0, kP_i, kP_r, kP_n, kP_s, kP_o, kLen_I, kLen_L, kLen_R, kLdI_0, kLdI_1, kLdI_2, kLdI_3, kStI_0, kStI_1, kLdL_e, kStL_e, kLdR_e, kStR_e, kFld_e, kNth_0, kNth_s, kPut_e, fit_I, fit_Z, fit_B, fit_C, fit_A, fit_O, Option.toList_some, Option.toList_none, List.cons_append, List.nil_append, true_and, and_true, List.set_cons_zero, List.set_cons_succ, st_same, Int.toNat_natCast, Int.cast_ofNat_Int, Nat.zero_add, Nat.reduceAdd, kRcv_1, kRcv_2, kRcv_3, kRcv_0, kRcv_4, kRcv_5, setMd_set, Mdo, Mda1, Mdw1, Mda2, Mdw2, Mda3, Mdw3, Mda4, Mdw4, Mda5, Mdw5, Mda6, Mdw6, Mda7, Mdw7, Mda8, Mdw8, Mda9, Mdw9, Mda10, Mdw10, Mda11, Mdw11, Mdp3, Mdp5, Mdp6, Mdp7, Mdp8, Mdp10, Mdp16, Mdp17, Mdp18, k53, kP_z h3]
  have e0 : 31 * (31 * (31 * H + (Int32.ofInt (caM 16 s).2.1).toInt64) + (shM s).toInt64) + (Int32.ofInt ((n : Nat) : Int)).toInt64 = mx (31 * mx H (caM 16 s).2.1 + (shM s).toInt64) (n : Nat) := rfl
  rw [e0]
  generalize mx (31 * mx H (caM 16 s).2.1 + (shM s).toInt64) (n : Nat) = H9 at *
  refine up (fun k => WP G k_Model_digest 431 [some (vR M), some (vL (fo (fun k h => mx h (t k)) k H9)), none, z3, some (vI (k : Nat)), z5] [] (setMd σ M m3 A3) Q) (n := n) ?_ ?_
  · intro k hk ih
    rw [fo_s] at ih
    generalize fo (fun k h => mx h (t k)) k H9 = H2 at *
    clear hq
    rw [e_Model_digest_431]
    simp only [e_Model_digest_433, e_Model_digest_434, e_Model_digest_437, e_Model_digest_440, e_Model_digest_443, e_Model_digest_444, e_Model_digest_445, e_Model_digest_446, e_Model_digest_449, e_Model_digest_451, e_Model_digest_452, e_Model_digest_453, e_Model_digest_454, e_Model_digest_455, e_Model_digest_458, kR_l, kR_r, kP_0, kP_i, kP_r, kP_n, kP_s, kP_o, kLen_I, kLen_L, kLen_R, kLdI_0, kLdI_1, kLdI_2, kLdI_3, kStI_0, kStI_1, kLdL_e, kStL_e, kLdR_e, kStR_e, kFld_e, kNth_0, kNth_s, kPut_e, fit_I, fit_Z, fit_B, fit_C, fit_A, fit_O, Option.toList_some, Option.toList_none, List.cons_append, List.nil_append, true_and, and_true, List.set_cons_zero, List.set_cons_succ, st_same, Int.toNat_natCast, Int.cast_ofNat_Int, Nat.zero_add, Nat.reduceAdd, kRcv_1, kRcv_2, kRcv_3, kRcv_0, kRcv_4, kRcv_5, setMd_set, Mdo, Mda1, Mdw1, Mda2, Mdw2, Mda3, Mdw3, Mda4, Mdw4, Mda5, Mdw5, Mda6, Mdw6, Mda7, Mdw7, Mda8, Mdw8, Mda9, Mdw9, Mda10, Mdw10, Mda11, Mdw11, Mdp3, Mdp5, Mdp6, Mdp7, Mdp8, Mdp10, Mdp16, Mdp17, Mdp18, k53, e43, kP_z h3]
    refine ⟨⟨by unfold inR; omega, by unfold inR; omega⟩, fun z => absurd z (by omega), fun _ => ⟨⟨by omega, by omega, by omega⟩, ?_⟩⟩
    exact ih
  · rw [e_Model_digest_431]
    simp only [e_Model_digest_433, e_Model_digest_434, e_Model_digest_437, e_Model_digest_461, e_Model_digest_462, kR_l, kR_r, kP_0, kP_i, kP_r, kP_n, kP_s, kP_o, kLen_I, kLen_L, kLen_R, kLdI_0, kLdI_1, kLdI_2, kLdI_3, kStI_0, kStI_1, kLdL_e, kStL_e, kLdR_e, kStR_e, kFld_e, kNth_0, kNth_s, kPut_e, fit_I, fit_Z, fit_B, fit_C, fit_A, fit_O, Option.toList_some, Option.toList_none, List.cons_append, List.nil_append, true_and, and_true, List.set_cons_zero, List.set_cons_succ, st_same, Int.toNat_natCast, Int.cast_ofNat_Int, Nat.zero_add, Nat.reduceAdd, kRcv_1, kRcv_2, kRcv_3, kRcv_0, kRcv_4, kRcv_5, setMd_set, Mdo, Mda1, Mdw1, Mda2, Mdw2, Mda3, Mdw3, Mda4, Mdw4, Mda5, Mdw5, Mda6, Mdw6, Mda7, Mdw7, Mda8, Mdw8, Mda9, Mdw9, Mda10, Mdw10, Mda11, Mdw11, Mdp3, Mdp5, Mdp6, Mdp7, Mdp8, Mdp10, Mdp16, Mdp17, Mdp18, k53]
    refine ⟨⟨by unfold inR; omega, by unfold inR; omega⟩, fun _ => hq, fun z => absurd (by omega) z⟩
theorem md_low {H : Int64} {z4 z5 : Option AV} (hM : MdG m A s kp n t) (hg : Good s) (hn : n ≤ 60) (hG : G 0 ≤ M)
    (hQ : ∀ (m' : Nat → Int) (A' : Nat → Nat → Int), KeepL m m' A A' → Q (.inl (some (vL (digE s n t (digD s H))))) (setMd σ M m' A')) :
    WP G k_Model_digest 370 [some (vR M), some (vL H), none, some (vI (lowM s)), z4, z5] [] (setMd σ M m A) Q := by
  have hlow := fun r => low_th (s := s) (r := r)
  have hlb : -1 ≤ lowM s ∧ lowM s < 6 := by
    have := firstB_bd (fun r => thM s r) 6 0
    unfold lowM
    omega
  obtain ⟨e1, e4, k3, k5, hA, hT2⟩ := hM
  unfold digD at hQ
  simp only [e_Model_digest_370, e_Model_digest_371, e_Model_digest_372, kR_l, kR_r, kP_0, kP_i, kP_r, kP_n, kP_s, kP_o, kLen_I, kLen_L, kLen_R, kLdI_0, kLdI_1, kLdI_2, kLdI_3, kStI_0, kStI_1, kLdL_e, kStL_e, kLdR_e, kStR_e, kFld_e, kNth_0, kNth_s, kPut_e, fit_I, fit_Z, fit_B, fit_C, fit_A, fit_O, Option.toList_some, Option.toList_none, List.cons_append, List.nil_append, true_and, and_true, List.set_cons_zero, List.set_cons_succ, st_same, Int.toNat_natCast, Int.cast_ofNat_Int, Nat.zero_add, Nat.reduceAdd, kRcv_1, kRcv_2, kRcv_3, kRcv_0, kRcv_4, kRcv_5]
  refine ⟨⟨by unfold inR; omega, by unfold inR; omega⟩, fun c => ?_, fun c => ?_⟩
  · rw [if_neg c] at hQ
    obtain ⟨r, hr⟩ : ∃ r : Nat, lowM s = r := ⟨(lowM s).toNat, by omega⟩
    have hl := hlow r hr
    rw [hr, Int.toNat_natCast] at hQ
    rw [hr]
    simp only [e_Model_digest_379, e_Model_digest_382, e_Model_digest_383, e_Model_digest_384, e_Model_digest_385, e_Model_digest_386, kR_l, kR_r, kP_0, kP_i, kP_r, kP_n, kP_s, kP_o, kLen_I, kLen_L, kLen_R, kLdI_0, kLdI_1, kLdI_2, kLdI_3, kStI_0, kStI_1, kLdL_e, kStL_e, kLdR_e, kStR_e, kFld_e, kNth_0, kNth_s, kPut_e, fit_I, fit_Z, fit_B, fit_C, fit_A, fit_O, Option.toList_some, Option.toList_none, List.cons_append, List.nil_append, true_and, and_true, List.set_cons_zero, List.set_cons_succ, st_same, Int.toNat_natCast, Int.cast_ofNat_Int, Nat.zero_add, Nat.reduceAdd, kRcv_1, kRcv_2, kRcv_3, kRcv_0, kRcv_4, kRcv_5, setMd_set, Mdo, Mda1, Mdw1, Mda2, Mdw2, Mda3, Mdw3, Mda4, Mdw4, Mda5, Mdw5, Mda6, Mdw6, Mda7, Mdw7, Mda8, Mdw8, Mda9, Mdw9, Mda10, Mdw10, Mda11, Mdw11, Mdp3, Mdp5, Mdp6, Mdp7, Mdp8, Mdp10, Mdp16, Mdp17, Mdp18]
    refine s_without (by rw [e1]; exact hg.1) (by rw [e1]; exact hg.wk) (by rw [e1]; exact hg.2.1) hT2 hG hA hl.1 (fun m2 A2 q2 => ?_)
    rw [e1]
    have fin := md_fin (σ := σ) (Q := Q) (H := mx H (prM (gvS s r) 2)) (z3 := some (vI (r : Nat))) (z4 := z4) (z5 := z5) (MdG.keep (m := m) (A := A) ⟨e1, e4, k3, k5, hA, hT2⟩ q2) hg hn hG (zI_s _) (fun m3 A3 q3 => hQ m3 A3 (q2.trans q3))
    simp only [e_Model_digest_389, e_Model_digest_390, e_Model_digest_391, kR_l, kR_r, kP_0, kP_i, kP_r, kP_n, kP_s, kP_o, kLen_I, kLen_L, kLen_R, kLdI_0, kLdI_1, kLdI_2, kLdI_3, kStI_0, kStI_1, kLdL_e, kStL_e, kLdR_e, kStR_e, kFld_e, kNth_0, kNth_s, kPut_e, fit_I, fit_Z, fit_B, fit_C, fit_A, fit_O, Option.toList_some, Option.toList_none, List.cons_append, List.nil_append, true_and, and_true, List.set_cons_zero, List.set_cons_succ, st_same, Int.toNat_natCast, Int.cast_ofNat_Int, Nat.zero_add, Nat.reduceAdd, kRcv_1, kRcv_2, kRcv_3, kRcv_0, kRcv_4, kRcv_5]
    exact fin
  · rw [if_pos (Classical.byContradiction c)] at hQ
    have fin := md_fin (σ := σ) (Q := Q) (H := H) (z3 := some (vI (lowM s))) (z4 := z4) (z5 := z5) (m := m) (A := A) ⟨e1, e4, k3, k5, hA, hT2⟩ hg hn hG (zI_s _) hQ
    simp only [e_Model_digest_375, e_Model_digest_376, e_Model_digest_391, kR_l, kR_r, kP_0, kP_i, kP_r, kP_n, kP_s, kP_o, kLen_I, kLen_L, kLen_R, kLdI_0, kLdI_1, kLdI_2, kLdI_3, kStI_0, kStI_1, kLdL_e, kStL_e, kLdR_e, kStR_e, kFld_e, kNth_0, kNth_s, kPut_e, fit_I, fit_Z, fit_B, fit_C, fit_A, fit_O, Option.toList_some, Option.toList_none, List.cons_append, List.nil_append, true_and, and_true, List.set_cons_zero, List.set_cons_succ, st_same, Int.toNat_natCast, Int.cast_ofNat_Int, Nat.zero_add, Nat.reduceAdd, kRcv_1, kRcv_2, kRcv_3, kRcv_0, kRcv_4, kRcv_5]
    exact fin
theorem md_would {H : Int64} {far : Nat} {z4 z5 : Option AV} (hM : MdG m A s kp n t) (hg : Good s) (hfar : s 252 = (far : Nat)) (hn : n ≤ 60) (hG : G 0 ≤ M)
    (hQ : ∀ (m' : Nat → Int) (A' : Nat → Nat → Int), KeepL m m' A A' → Q (.inl (some (vL (digE s n t (digD s (digC s far 3 H)))))) (setMd σ M m' A')) :
    WP G k_Model_digest 337 [some (vR M), some (vL H), none, some (vI (lowM s)), z4, z5] [] (setMd σ M m A) Q := by
  simp only [e_Model_digest_337, e_Model_digest_338, kR_l, kR_r, kP_0, kP_i, kP_r, kP_n, kP_s, kP_o, kLen_I, kLen_L, kLen_R, kLdI_0, kLdI_1, kLdI_2, kLdI_3, kStI_0, kStI_1, kLdL_e, kStL_e, kLdR_e, kStR_e, kFld_e, kNth_0, kNth_s, kPut_e, fit_I, fit_Z, fit_B, fit_C, fit_A, fit_O, Option.toList_some, Option.toList_none, List.cons_append, List.nil_append, true_and, and_true, List.set_cons_zero, List.set_cons_succ, st_same, Int.toNat_natCast, Int.cast_ofNat_Int, Nat.zero_add, Nat.reduceAdd, kRcv_1, kRcv_2, kRcv_3, kRcv_0, kRcv_4, kRcv_5]
  have key := up (fun w => ∀ (m2 : Nat → Int) (A2 : Nat → Nat → Int), KeepL m m2 A A2 → WP G k_Model_digest 340 [some (vR M), some (vL (digC s far w H)), none, some (vI (lowM s)), some (vI (w : Nat)), z5] [] (setMd σ M m2 A2) Q) (n := 3) ?_ ?_
  · have k0 := key m A (KeepL.refl hM.2.2.2.2.1 hM.2.2.2.2.2)
    rw [digC_0] at k0
    exact k0
  · intro w hw ih m2 A2 q2
    obtain ⟨e1, e4, k3, k5, hA, hT2⟩ := hM.keep q2
    have ih' := fun m3 A3 h => ih m3 A3 h
    rw [digC_s] at ih'
    generalize digC s far w H = H6 at *
    clear ih hQ
    rw [e_Model_digest_340]
    simp only [e_Model_digest_342, e_Model_digest_343, e_Model_digest_346, e_Model_digest_349, e_Model_digest_350, e_Model_digest_351, e_Model_digest_352, e_Model_digest_354, e_Model_digest_356, e_Model_digest_358, kR_l, kR_r, kP_0, kP_i, kP_r, kP_n, kP_s, kP_o, kLen_I, kLen_L, kLen_R, kLdI_0, kLdI_1, kLdI_2, kLdI_3, kStI_0, kStI_1, kLdL_e, kStL_e, kLdR_e, kStR_e, kFld_e, kNth_0, kNth_s, kPut_e, fit_I, fit_Z, fit_B, fit_C, fit_A, fit_O, Option.toList_some, Option.toList_none, List.cons_append, List.nil_append, true_and, and_true, List.set_cons_zero, List.set_cons_succ, st_same, Int.toNat_natCast, Int.cast_ofNat_Int, Nat.zero_add, Nat.reduceAdd, kRcv_1, kRcv_2, kRcv_3, kRcv_0, kRcv_4, kRcv_5, setMd_set, Mdo, Mda1, Mdw1, Mda2, Mdw2, Mda3, Mdw3, Mda4, Mdw4, Mda5, Mdw5, Mda6, Mdw6, Mda7, Mdw7, Mda8, Mdw8, Mda9, Mdw9, Mda10, Mdw10, Mda11, Mdw11, Mdp3, Mdp5, Mdp6, Mdp7, Mdp8, Mdp10, Mdp16, Mdp17, Mdp18]
    refine ⟨⟨by unfold inR; omega, by unfold inR; omega⟩, (fun h => by first | exact absurd h (by omega) | exact absurd trivial h | (exfalso; simp_all; done)), fun _ => ?_⟩
    refine s_byDigging (x := 8) (y := 6) (far := far) (by rw [e1]; exact hg.1) (by rw [e1]; exact hg.wk) (by rw [e1]; exact hfar) (by rw [e1]; exact hg.2.1) hT2 hG hA (by omega) (by omega) hw (fun m3 A3 q3 => ?_)
    have nx := ih' m3 A3 (q2.trans q3)
    clear ih'
    rw [e1]
    simp only [e_Model_digest_361, e_Model_digest_362, e_Model_digest_363, e_Model_digest_364, e_Model_digest_367, kR_l, kR_r, kP_0, kP_i, kP_r, kP_n, kP_s, kP_o, kLen_I, kLen_L, kLen_R, kLdI_0, kLdI_1, kLdI_2, kLdI_3, kStI_0, kStI_1, kLdL_e, kStL_e, kLdR_e, kStR_e, kFld_e, kNth_0, kNth_s, kPut_e, fit_I, fit_Z, fit_B, fit_C, fit_A, fit_O, Option.toList_some, Option.toList_none, List.cons_append, List.nil_append, true_and, and_true, List.set_cons_zero, List.set_cons_succ, st_same, Int.toNat_natCast, Int.cast_ofNat_Int, Nat.zero_add, Nat.reduceAdd, kRcv_1, kRcv_2, kRcv_3, kRcv_0, kRcv_4, kRcv_5, show 16 * 6 + 8 = 104 from rfl]
    exact nx
  · intro m2 A2 q2
    have fin := md_low (σ := σ) (Q := Q) (H := digC s far 3 H) (z4 := some (vI ((3 : Nat) : Int))) (z5 := z5) (hM.keep q2) hg hn hG (fun m3 A3 q3 => hQ m3 A3 (q2.trans q3))
    clear hQ
    generalize digC s far 3 H = H6 at *
    rw [e_Model_digest_340]
    simp only [e_Model_digest_342, e_Model_digest_343, kR_l, kR_r, kP_0, kP_i, kP_r, kP_n, kP_s, kP_o, kLen_I, kLen_L, kLen_R, kLdI_0, kLdI_1, kLdI_2, kLdI_3, kStI_0, kStI_1, kLdL_e, kStL_e, kLdR_e, kStR_e, kFld_e, kNth_0, kNth_s, kPut_e, fit_I, fit_Z, fit_B, fit_C, fit_A, fit_O, Option.toList_some, Option.toList_none, List.cons_append, List.nil_append, true_and, and_true, List.set_cons_zero, List.set_cons_succ, st_same, Int.toNat_natCast, Int.cast_ofNat_Int, Nat.zero_add, Nat.reduceAdd, kRcv_1, kRcv_2, kRcv_3, kRcv_0, kRcv_4, kRcv_5]
    refine ⟨⟨by unfold inR; omega, by unfold inR; omega⟩, fun _ => fin, (fun h => by first | exact absurd h (by omega) | exact absurd trivial h | (exfalso; simp_all; done))⟩
theorem md_ways {H : Int64} {far : Nat} {z4 z5 : Option AV} (hM : MdG m A s kp n t) (hg : Good s) (hfar : s 252 = (far : Nat)) (hn : n ≤ 60) (hG : G 0 ≤ M) (h5 : zI z5)
    (hQ : ∀ (m' : Nat → Int) (A' : Nat → Nat → Int), KeepL m m' A A' → Q (.inl (some (vL (digE s n t (digD s (digC s far 3 (fo (wyD s) 36 H))))))) (setMd σ M m' A')) :
    WP G k_Model_digest 239 [some (vR M), some (vL H), none, some (vI (lowM s)), z4, z5] [] (setMd σ M m A) Q := by
  simp only [e_Model_digest_239, e_Model_digest_240, kR_l, kR_r, kP_0, kP_i, kP_r, kP_n, kP_s, kP_o, kLen_I, kLen_L, kLen_R, kLdI_0, kLdI_1, kLdI_2, kLdI_3, kStI_0, kStI_1, kLdL_e, kStL_e, kLdR_e, kStR_e, kFld_e, kNth_0, kNth_s, kPut_e, fit_I, fit_Z, fit_B, fit_C, fit_A, fit_O, Option.toList_some, Option.toList_none, List.cons_append, List.nil_append, true_and, and_true, List.set_cons_zero, List.set_cons_succ, st_same, Int.toNat_natCast, Int.cast_ofNat_Int, Nat.zero_add, Nat.reduceAdd, kRcv_1, kRcv_2, kRcv_3, kRcv_0, kRcv_4, kRcv_5]
  have key := up (fun k => ∀ (m2 : Nat → Int) (A2 : Nat → Nat → Int) z5, zI z5 → KeepL m m2 A A2 → WP G k_Model_digest 242 [some (vR M), some (vL (fo (wyD s) k H)), none, some (vI (lowM s)), some (vI (k : Nat)), z5] [] (setMd σ M m2 A2) Q) (n := 36) ?_ ?_
  · exact key m A z5 h5 (KeepL.refl hM.2.2.2.2.1 hM.2.2.2.2.2)
  · intro k hk ih m2 A2 z5 h5 q2
    have ho : k / 6 < 6 := by omega
    have ho2 : k % 6 < 6 := by omega
    have t1 := thM_bd s ((k / 6 : Nat) : Int)
    have t2 := thM_bd s ((k % 6 : Nat) : Int)
    have ih' := fun m3 A3 z5 hz h => ih m3 A3 z5 hz h
    rw [fo_s] at ih'
    generalize fo (wyD s) k H = H5 at *
    unfold wyD at ih'
    clear ih hQ
    obtain ⟨e1, e4, k3, k5, hA, hT2⟩ := hM.keep q2
    rw [e_Model_digest_242]
    simp only [e_Model_digest_244, e_Model_digest_246, e_Model_digest_249, e_Model_digest_250, kR_l, kR_r, kP_0, kP_i, kP_r, kP_n, kP_s, kP_o, kLen_I, kLen_L, kLen_R, kLdI_0, kLdI_1, kLdI_2, kLdI_3, kStI_0, kStI_1, kLdL_e, kStL_e, kLdR_e, kStR_e, kFld_e, kNth_0, kNth_s, kPut_e, fit_I, fit_Z, fit_B, fit_C, fit_A, fit_O, Option.toList_some, Option.toList_none, List.cons_append, List.nil_append, true_and, and_true, List.set_cons_zero, List.set_cons_succ, st_same, Int.toNat_natCast, Int.cast_ofNat_Int, Nat.zero_add, Nat.reduceAdd, kRcv_1, kRcv_2, kRcv_3, kRcv_0, kRcv_4, kRcv_5]
    refine ⟨⟨by unfold inR; omega, by unfold inR; omega⟩, (fun h => by first | exact absurd h (by omega) | exact absurd trivial h | (exfalso; simp_all; done)), fun _ => ?_⟩
    have out : ∀ (m3 : Nat → Int) (A3 : Nat → Nat → Int) (H6 : Int64) (w : Nat), (WP G k_Model_digest 242 [some (vR M), some (vL H6), none, some (vI (lowM s)), some (vI ((k + 1 : Nat) : Int)), some (vI (w : Nat))] [] (setMd σ M m3 A3) Q) → WP G k_Model_digest 331 [some (vR M), some (vL H6), none, some (vI (lowM s)), some (vI (k : Nat)), some (vI (w : Nat))] [] (setMd σ M m3 A3) Q := by
      intro m3 A3 H6 w h
      simp only [e_Model_digest_331, e_Model_digest_334, kR_l, kR_r, kP_0, kP_i, kP_r, kP_n, kP_s, kP_o, kLen_I, kLen_L, kLen_R, kLdI_0, kLdI_1, kLdI_2, kLdI_3, kStI_0, kStI_1, kLdL_e, kStL_e, kLdR_e, kStR_e, kFld_e, kNth_0, kNth_s, kPut_e, fit_I, fit_Z, fit_B, fit_C, fit_A, fit_O, Option.toList_some, Option.toList_none, List.cons_append, List.nil_append, true_and, and_true, List.set_cons_zero, List.set_cons_succ, st_same, Int.toNat_natCast, Int.cast_ofNat_Int, Nat.zero_add, Nat.reduceAdd, kRcv_1, kRcv_2, kRcv_3, kRcv_0, kRcv_4, kRcv_5]
      exact h
    by_cases c : k / 6 < k % 6 ∧ thM s ((k / 6 : Nat) : Int) = 1 ∧ thM s ((k % 6 : Nat) : Int) = 1
    · rw [if_pos c] at ih'
      refine up (fun w => ∀ (m2 : Nat → Int) (A2 : Nat → Nat → Int), KeepL m m2 A A2 → WP G k_Model_digest 252 [some (vR M), some (vL (fo (fun w h => mx h (owM s (k / 6) (k % 6) w)) w H5)), none, some (vI (lowM s)), some (vI (k : Nat)), some (vI (w : Nat))] [] (setMd σ M m2 A2) Q) (n := 5) ?_ ?_ m2 A2 q2
      · intro w hw ihw m2 A2 q2
        obtain ⟨e1, e4, k3, k5, hA, hT2⟩ := hM.keep q2
        have ihw' := fun m3 A3 h => ihw m3 A3 h
        rw [fo_s] at ihw'
        generalize fo (fun w h => mx h (owM s (k / 6) (k % 6) w)) w H5 = H6 at *
        clear ihw ih' out
        rw [e_Model_digest_252]
        simp only [e_Model_digest_254, e_Model_digest_255, e_Model_digest_258, e_Model_digest_260, e_Model_digest_262, e_Model_digest_263, e_Model_digest_265, e_Model_digest_267, e_Model_digest_268, e_Model_digest_271, e_Model_digest_272, e_Model_digest_275, e_Model_digest_277, e_Model_digest_279, e_Model_digest_280, kR_l, kR_r, kP_0, kP_i, kP_r, kP_n, kP_s, kP_o, kLen_I, kLen_L, kLen_R, kLdI_0, kLdI_1, kLdI_2, kLdI_3, kStI_0, kStI_1, kLdL_e, kStL_e, kLdR_e, kStR_e, kFld_e, kNth_0, kNth_s, kPut_e, fit_I, fit_Z, fit_B, fit_C, fit_A, fit_O, Option.toList_some, Option.toList_none, List.cons_append, List.nil_append, true_and, and_true, List.set_cons_zero, List.set_cons_succ, st_same, Int.toNat_natCast, Int.cast_ofNat_Int, Nat.zero_add, Nat.reduceAdd, kRcv_1, kRcv_2, kRcv_3, kRcv_0, kRcv_4, kRcv_5, setMd_set, Mdo, Mda1, Mdw1, Mda2, Mdw2, Mda3, Mdw3, Mda4, Mdw4, Mda5, Mdw5, Mda6, Mdw6, Mda7, Mdw7, Mda8, Mdw8, Mda9, Mdw9, Mda10, Mdw10, Mda11, Mdw11, Mdp3, Mdp5, Mdp6, Mdp7, Mdp8, Mdp10, Mdp16, Mdp17, Mdp18, pm6, pd6]
        refine ⟨⟨by unfold inR; omega, by unfold inR; omega⟩, (fun h => by first | exact absurd h (by omega) | exact absurd trivial h | (exfalso; simp_all; done)), fun _ => ⟨⟨by omega, by omega, by omega, by omega⟩, ⟨by omega, by omega, by omega, by omega⟩, ⟨by unfold inR; omega, by unfold inR; omega⟩, fun z => absurd z (by omega), fun _ => ⟨⟨by omega, by omega, by omega, by omega⟩, ?_⟩⟩⟩
        rw [s_Model_isThere (Mda1 σ M m2 A2) (by rw [e1]; exact hg.1) (by unfold inR; omega), e1, c.2.1]
        simp only [e_Model_digest_283, e_Model_digest_286, e_Model_digest_287, e_Model_digest_290, e_Model_digest_292, e_Model_digest_294, e_Model_digest_295, kR_l, kR_r, kP_0, kP_i, kP_r, kP_n, kP_s, kP_o, kLen_I, kLen_L, kLen_R, kLdI_0, kLdI_1, kLdI_2, kLdI_3, kStI_0, kStI_1, kLdL_e, kStL_e, kLdR_e, kStR_e, kFld_e, kNth_0, kNth_s, kPut_e, fit_I, fit_Z, fit_B, fit_C, fit_A, fit_O, Option.toList_some, Option.toList_none, List.cons_append, List.nil_append, true_and, and_true, List.set_cons_zero, List.set_cons_succ, st_same, Int.toNat_natCast, Int.cast_ofNat_Int, Nat.zero_add, Nat.reduceAdd, kRcv_1, kRcv_2, kRcv_3, kRcv_0, kRcv_4, kRcv_5, setMd_set, Mdo, Mda1, Mdw1, Mda2, Mdw2, Mda3, Mdw3, Mda4, Mdw4, Mda5, Mdw5, Mda6, Mdw6, Mda7, Mdw7, Mda8, Mdw8, Mda9, Mdw9, Mda10, Mdw10, Mda11, Mdw11, Mdp3, Mdp5, Mdp6, Mdp7, Mdp8, Mdp10, Mdp16, Mdp17, Mdp18, pm6, pd6]
        refine ⟨by unfold inR; omega, (fun h => by first | exact absurd h (by omega) | exact absurd trivial h | (exfalso; simp_all; done)), fun _ => ⟨⟨by omega, by omega, by omega, by omega⟩, ?_⟩⟩
        rw [s_Model_isThere (Mda1 σ M m2 A2) (by rw [e1]; exact hg.1) (by unfold inR; omega), e1, c.2.2]
        simp only [e_Model_digest_298, e_Model_digest_301, e_Model_digest_304, e_Model_digest_305, e_Model_digest_306, e_Model_digest_307, e_Model_digest_309, e_Model_digest_311, e_Model_digest_312, e_Model_digest_314, e_Model_digest_316, e_Model_digest_317, e_Model_digest_319, kR_l, kR_r, kP_0, kP_i, kP_r, kP_n, kP_s, kP_o, kLen_I, kLen_L, kLen_R, kLdI_0, kLdI_1, kLdI_2, kLdI_3, kStI_0, kStI_1, kLdL_e, kStL_e, kLdR_e, kStR_e, kFld_e, kNth_0, kNth_s, kPut_e, fit_I, fit_Z, fit_B, fit_C, fit_A, fit_O, Option.toList_some, Option.toList_none, List.cons_append, List.nil_append, true_and, and_true, List.set_cons_zero, List.set_cons_succ, st_same, Int.toNat_natCast, Int.cast_ofNat_Int, Nat.zero_add, Nat.reduceAdd, kRcv_1, kRcv_2, kRcv_3, kRcv_0, kRcv_4, kRcv_5, setMd_set, Mdo, Mda1, Mdw1, Mda2, Mdw2, Mda3, Mdw3, Mda4, Mdw4, Mda5, Mdw5, Mda6, Mdw6, Mda7, Mdw7, Mda8, Mdw8, Mda9, Mdw9, Mda10, Mdw10, Mda11, Mdw11, Mdp3, Mdp5, Mdp6, Mdp7, Mdp8, Mdp10, Mdp16, Mdp17, Mdp18, pm6, pd6]
        refine ⟨by unfold inR; omega, (fun h => by first | exact absurd h (by omega) | exact absurd trivial h | (exfalso; simp_all; done)), fun _ => ⟨⟨by omega, by omega, by omega, by omega⟩, ⟨by omega, by omega, by omega, by omega⟩, ?_⟩⟩
        refine s_ofWay (by rw [e1]; exact hg.1) (by rw [e1]; exact hg.wk) hG hA ho ho2 hw (fun m3 A3 q3 => ?_)
        have nx := ihw' m3 A3 (q2.trans (q3.L hT2))
        clear ihw'
        rw [e1]
        simp only [e_Model_digest_322, e_Model_digest_323, e_Model_digest_324, e_Model_digest_325, e_Model_digest_328, kR_l, kR_r, kP_0, kP_i, kP_r, kP_n, kP_s, kP_o, kLen_I, kLen_L, kLen_R, kLdI_0, kLdI_1, kLdI_2, kLdI_3, kStI_0, kStI_1, kLdL_e, kStL_e, kLdR_e, kStR_e, kFld_e, kNth_0, kNth_s, kPut_e, fit_I, fit_Z, fit_B, fit_C, fit_A, fit_O, Option.toList_some, Option.toList_none, List.cons_append, List.nil_append, true_and, and_true, List.set_cons_zero, List.set_cons_succ, st_same, Int.toNat_natCast, Int.cast_ofNat_Int, Nat.zero_add, Nat.reduceAdd, kRcv_1, kRcv_2, kRcv_3, kRcv_0, kRcv_4, kRcv_5]
        exact nx
      · intro m2 A2 q2
        have nx := out m2 A2 _ 5 (ih' m2 A2 _ (zI_s ((5 : Nat) : Int)) q2)
        clear ih' out
        rw [e_Model_digest_252]
        simp only [e_Model_digest_254, e_Model_digest_255, kR_l, kR_r, kP_0, kP_i, kP_r, kP_n, kP_s, kP_o, kLen_I, kLen_L, kLen_R, kLdI_0, kLdI_1, kLdI_2, kLdI_3, kStI_0, kStI_1, kLdL_e, kStL_e, kLdR_e, kStR_e, kFld_e, kNth_0, kNth_s, kPut_e, fit_I, fit_Z, fit_B, fit_C, fit_A, fit_O, Option.toList_some, Option.toList_none, List.cons_append, List.nil_append, true_and, and_true, List.set_cons_zero, List.set_cons_succ, st_same, Int.toNat_natCast, Int.cast_ofNat_Int, Nat.zero_add, Nat.reduceAdd, kRcv_1, kRcv_2, kRcv_3, kRcv_0, kRcv_4, kRcv_5]
        refine ⟨⟨by unfold inR; omega, by unfold inR; omega⟩, fun _ => nx, (fun h => by first | exact absurd h (by omega) | exact absurd trivial h | (exfalso; simp_all; done))⟩
    · rw [if_neg c] at ih'
      have nx := out m2 A2 H5 0 (ih' m2 A2 _ (zI_s ((0 : Nat) : Int)) q2)
      clear ih' out
      rw [e_Model_digest_252]
      simp only [e_Model_digest_254, e_Model_digest_255, e_Model_digest_258, e_Model_digest_260, e_Model_digest_262, e_Model_digest_263, e_Model_digest_265, e_Model_digest_267, e_Model_digest_268, e_Model_digest_271, e_Model_digest_272, e_Model_digest_275, e_Model_digest_277, e_Model_digest_279, e_Model_digest_280, kR_l, kR_r, kP_0, kP_i, kP_r, kP_n, kP_s, kP_o, kLen_I, kLen_L, kLen_R, kLdI_0, kLdI_1, kLdI_2, kLdI_3, kStI_0, kStI_1, kLdL_e, kStL_e, kLdR_e, kStR_e, kFld_e, kNth_0, kNth_s, kPut_e, fit_I, fit_Z, fit_B, fit_C, fit_A, fit_O, Option.toList_some, Option.toList_none, List.cons_append, List.nil_append, true_and, and_true, List.set_cons_zero, List.set_cons_succ, st_same, Int.toNat_natCast, Int.cast_ofNat_Int, Nat.zero_add, Nat.reduceAdd, kRcv_1, kRcv_2, kRcv_3, kRcv_0, kRcv_4, kRcv_5, setMd_set, Mdo, Mda1, Mdw1, Mda2, Mdw2, Mda3, Mdw3, Mda4, Mdw4, Mda5, Mdw5, Mda6, Mdw6, Mda7, Mdw7, Mda8, Mdw8, Mda9, Mdw9, Mda10, Mdw10, Mda11, Mdw11, Mdp3, Mdp5, Mdp6, Mdp7, Mdp8, Mdp10, Mdp16, Mdp17, Mdp18, pm6, pd6]
      refine ⟨⟨by unfold inR; omega, by unfold inR; omega⟩, (fun h => by first | exact absurd h (by omega) | exact absurd trivial h | (exfalso; simp_all; done)), fun _ => ⟨⟨by omega, by omega, by omega, by omega⟩, ⟨by omega, by omega, by omega, by omega⟩, ⟨by unfold inR; omega, by unfold inR; omega⟩, fun _ => nx, fun c1 => ⟨⟨by omega, by omega, by omega, by omega⟩, ?_⟩⟩⟩
      rw [s_Model_isThere (Mda1 σ M m2 A2) (by rw [e1]; exact hg.1) (by unfold inR; omega), e1]
      simp only [e_Model_digest_283, e_Model_digest_286, e_Model_digest_287, e_Model_digest_290, e_Model_digest_292, e_Model_digest_294, e_Model_digest_295, kR_l, kR_r, kP_0, kP_i, kP_r, kP_n, kP_s, kP_o, kLen_I, kLen_L, kLen_R, kLdI_0, kLdI_1, kLdI_2, kLdI_3, kStI_0, kStI_1, kLdL_e, kStL_e, kLdR_e, kStR_e, kFld_e, kNth_0, kNth_s, kPut_e, fit_I, fit_Z, fit_B, fit_C, fit_A, fit_O, Option.toList_some, Option.toList_none, List.cons_append, List.nil_append, true_and, and_true, List.set_cons_zero, List.set_cons_succ, st_same, Int.toNat_natCast, Int.cast_ofNat_Int, Nat.zero_add, Nat.reduceAdd, kRcv_1, kRcv_2, kRcv_3, kRcv_0, kRcv_4, kRcv_5, setMd_set, Mdo, Mda1, Mdw1, Mda2, Mdw2, Mda3, Mdw3, Mda4, Mdw4, Mda5, Mdw5, Mda6, Mdw6, Mda7, Mdw7, Mda8, Mdw8, Mda9, Mdw9, Mda10, Mdw10, Mda11, Mdw11, Mdp3, Mdp5, Mdp6, Mdp7, Mdp8, Mdp10, Mdp16, Mdp17, Mdp18, pm6, pd6]
      refine ⟨by unfold inR; omega, fun _ => nx, fun c2 => ⟨⟨by omega, by omega, by omega, by omega⟩, ?_⟩⟩
      rw [s_Model_isThere (Mda1 σ M m2 A2) (by rw [e1]; exact hg.1) (by unfold inR; omega), e1]
      simp only [e_Model_digest_298, kR_l, kR_r, kP_0, kP_i, kP_r, kP_n, kP_s, kP_o, kLen_I, kLen_L, kLen_R, kLdI_0, kLdI_1, kLdI_2, kLdI_3, kStI_0, kStI_1, kLdL_e, kStL_e, kLdR_e, kStR_e, kFld_e, kNth_0, kNth_s, kPut_e, fit_I, fit_Z, fit_B, fit_C, fit_A, fit_O, Option.toList_some, Option.toList_none, List.cons_append, List.nil_append, true_and, and_true, List.set_cons_zero, List.set_cons_succ, st_same, Int.toNat_natCast, Int.cast_ofNat_Int, Nat.zero_add, Nat.reduceAdd, kRcv_1, kRcv_2, kRcv_3, kRcv_0, kRcv_4, kRcv_5]
      refine ⟨by unfold inR; omega, fun _ => nx, fun c3 => absurd ⟨by omega, by omega, by omega⟩ c⟩
  · intro m2 A2 z5 h5 q2
    have fin := md_would (σ := σ) (Q := Q) (H := fo (wyD s) 36 H) (z4 := some (vI ((36 : Nat) : Int))) (z5 := z5) (hM.keep q2) hg hfar hn hG (fun m3 A3 q3 => hQ m3 A3 (q2.trans q3))
    clear hQ
    generalize fo (wyD s) 36 H = H5 at *
    rw [e_Model_digest_242]
    simp only [e_Model_digest_244, e_Model_digest_246, kR_l, kR_r, kP_0, kP_i, kP_r, kP_n, kP_s, kP_o, kLen_I, kLen_L, kLen_R, kLdI_0, kLdI_1, kLdI_2, kLdI_3, kStI_0, kStI_1, kLdL_e, kStL_e, kLdR_e, kStR_e, kFld_e, kNth_0, kNth_s, kPut_e, fit_I, fit_Z, fit_B, fit_C, fit_A, fit_O, Option.toList_some, Option.toList_none, List.cons_append, List.nil_append, true_and, and_true, List.set_cons_zero, List.set_cons_succ, st_same, Int.toNat_natCast, Int.cast_ofNat_Int, Nat.zero_add, Nat.reduceAdd, kRcv_1, kRcv_2, kRcv_3, kRcv_0, kRcv_4, kRcv_5]
    refine ⟨⟨by unfold inR; omega, by unfold inR; omega⟩, fun _ => fin, (fun h => by first | exact absurd h (by omega) | exact absurd trivial h | (exfalso; simp_all; done))⟩
theorem md_rooms {H : Int64} {far : Nat} {z4 z5 : Option AV} (hM : MdG m A s kp n t) (hg : Good s) (hfar : s 252 = (far : Nat)) (hn : n ≤ 60) (hG : G 0 ≤ M) (h5 : zI z5)
    (hQ : ∀ (m' : Nat → Int) (A' : Nat → Nat → Int), KeepL m m' A A' → Q (.inl (some (vL (digE s n t (digD s (digC s far 3 (fo (wyD s) 36 (fo (rmD s far) 6 H)))))))) (setMd σ M m' A')) :
    WP G k_Model_digest 153 [some (vR M), some (vL H), none, some (vI (lowM s)), z4, z5] [] (setMd σ M m A) Q := by
  simp only [e_Model_digest_153, e_Model_digest_154, kR_l, kR_r, kP_0, kP_i, kP_r, kP_n, kP_s, kP_o, kLen_I, kLen_L, kLen_R, kLdI_0, kLdI_1, kLdI_2, kLdI_3, kStI_0, kStI_1, kLdL_e, kStL_e, kLdR_e, kStR_e, kFld_e, kNth_0, kNth_s, kPut_e, fit_I, fit_Z, fit_B, fit_C, fit_A, fit_O, Option.toList_some, Option.toList_none, List.cons_append, List.nil_append, true_and, and_true, List.set_cons_zero, List.set_cons_succ, st_same, Int.toNat_natCast, Int.cast_ofNat_Int, Nat.zero_add, Nat.reduceAdd, kRcv_1, kRcv_2, kRcv_3, kRcv_0, kRcv_4, kRcv_5]
  have key := up (fun k => ∀ (m2 : Nat → Int) (A2 : Nat → Nat → Int) z5, zI z5 → KeepL m m2 A A2 → WP G k_Model_digest 156 [some (vR M), some (vL (fo (rmD s far) k H)), none, some (vI (lowM s)), some (vI (k : Nat)), z5] [] (setMd σ M m2 A2) Q) (n := 6) ?_ ?_
  · exact key m A z5 h5 (KeepL.refl hM.2.2.2.2.1 hM.2.2.2.2.2)
  · intro k hk ih m2 A2 z5 h5 q2
    have t1 := thM_bd s (k : Nat)
    have ih' := fun m3 A3 z5 hz h => ih m3 A3 z5 hz h
    rw [fo_s] at ih'
    generalize fo (rmD s far) k H = H5 at *
    unfold rmD at ih'
    clear ih hQ
    obtain ⟨e1, e4, k3, k5, hA, hT2⟩ := hM.keep q2
    have out : ∀ (m3 : Nat → Int) (A3 : Nat → Nat → Int) (H6 : Int64) (w : Nat), (WP G k_Model_digest 156 [some (vR M), some (vL H6), none, some (vI (lowM s)), some (vI ((k + 1 : Nat) : Int)), some (vI (w : Nat))] [] (setMd σ M m3 A3) Q) → WP G k_Model_digest 233 [some (vR M), some (vL H6), none, some (vI (lowM s)), some (vI (k : Nat)), some (vI (w : Nat))] [] (setMd σ M m3 A3) Q := by
      intro m3 A3 H6 w h
      simp only [e_Model_digest_233, e_Model_digest_236, kR_l, kR_r, kP_0, kP_i, kP_r, kP_n, kP_s, kP_o, kLen_I, kLen_L, kLen_R, kLdI_0, kLdI_1, kLdI_2, kLdI_3, kStI_0, kStI_1, kLdL_e, kStL_e, kLdR_e, kStR_e, kFld_e, kNth_0, kNth_s, kPut_e, fit_I, fit_Z, fit_B, fit_C, fit_A, fit_O, Option.toList_some, Option.toList_none, List.cons_append, List.nil_append, true_and, and_true, List.set_cons_zero, List.set_cons_succ, st_same, Int.toNat_natCast, Int.cast_ofNat_Int, Nat.zero_add, Nat.reduceAdd, kRcv_1, kRcv_2, kRcv_3, kRcv_0, kRcv_4, kRcv_5]
      exact h
    rw [e_Model_digest_156]
    simp only [e_Model_digest_158, e_Model_digest_160, e_Model_digest_163, e_Model_digest_164, e_Model_digest_167, e_Model_digest_169, kR_l, kR_r, kP_0, kP_i, kP_r, kP_n, kP_s, kP_o, kLen_I, kLen_L, kLen_R, kLdI_0, kLdI_1, kLdI_2, kLdI_3, kStI_0, kStI_1, kLdL_e, kStL_e, kLdR_e, kStR_e, kFld_e, kNth_0, kNth_s, kPut_e, fit_I, fit_Z, fit_B, fit_C, fit_A, fit_O, Option.toList_some, Option.toList_none, List.cons_append, List.nil_append, true_and, and_true, List.set_cons_zero, List.set_cons_succ, st_same, Int.toNat_natCast, Int.cast_ofNat_Int, Nat.zero_add, Nat.reduceAdd, kRcv_1, kRcv_2, kRcv_3, kRcv_0, kRcv_4, kRcv_5, setMd_set, Mdo, Mda1, Mdw1, Mda2, Mdw2, Mda3, Mdw3, Mda4, Mdw4, Mda5, Mdw5, Mda6, Mdw6, Mda7, Mdw7, Mda8, Mdw8, Mda9, Mdw9, Mda10, Mdw10, Mda11, Mdw11, Mdp3, Mdp5, Mdp6, Mdp7, Mdp8, Mdp10, Mdp16, Mdp17, Mdp18]
    refine ⟨⟨by unfold inR; omega, by unfold inR; omega⟩, (fun h => by first | exact absurd h (by omega) | exact absurd trivial h | (exfalso; simp_all; done)), fun _ => ?_⟩
    rw [s_Model_isThere (Mda1 σ M m2 A2) (by rw [e1]; exact hg.1) (by unfold inR; omega), e1]
    simp only [e_Model_digest_172, kR_l, kR_r, kP_0, kP_i, kP_r, kP_n, kP_s, kP_o, kLen_I, kLen_L, kLen_R, kLdI_0, kLdI_1, kLdI_2, kLdI_3, kStI_0, kStI_1, kLdL_e, kStL_e, kLdR_e, kStR_e, kFld_e, kNth_0, kNth_s, kPut_e, fit_I, fit_Z, fit_B, fit_C, fit_A, fit_O, Option.toList_some, Option.toList_none, List.cons_append, List.nil_append, true_and, and_true, List.set_cons_zero, List.set_cons_succ, st_same, Int.toNat_natCast, Int.cast_ofNat_Int, Nat.zero_add, Nat.reduceAdd, kRcv_1, kRcv_2, kRcv_3, kRcv_0, kRcv_4, kRcv_5]
    refine ⟨by unfold inR; omega, fun c => ?_, fun c => ?_⟩
    · rw [if_neg (by omega)] at ih'
      have nx := out m2 A2 H5 0 (ih' m2 A2 _ (zI_s ((0 : Nat) : Int)) q2)
      clear ih' out
      simp only [e_Model_digest_187, e_Model_digest_188, e_Model_digest_189, e_Model_digest_190, kR_l, kR_r, kP_0, kP_i, kP_r, kP_n, kP_s, kP_o, kLen_I, kLen_L, kLen_R, kLdI_0, kLdI_1, kLdI_2, kLdI_3, kStI_0, kStI_1, kLdL_e, kStL_e, kLdR_e, kStR_e, kFld_e, kNth_0, kNth_s, kPut_e, fit_I, fit_Z, fit_B, fit_C, fit_A, fit_O, Option.toList_some, Option.toList_none, List.cons_append, List.nil_append, true_and, and_true, List.set_cons_zero, List.set_cons_succ, st_same, Int.toNat_natCast, Int.cast_ofNat_Int, Nat.zero_add, Nat.reduceAdd, kRcv_1, kRcv_2, kRcv_3, kRcv_0, kRcv_4, kRcv_5]
      rw [e_Model_digest_192]
      simp only [e_Model_digest_194, e_Model_digest_196, e_Model_digest_199, e_Model_digest_200, e_Model_digest_203, e_Model_digest_205, kR_l, kR_r, kP_0, kP_i, kP_r, kP_n, kP_s, kP_o, kLen_I, kLen_L, kLen_R, kLdI_0, kLdI_1, kLdI_2, kLdI_3, kStI_0, kStI_1, kLdL_e, kStL_e, kLdR_e, kStR_e, kFld_e, kNth_0, kNth_s, kPut_e, fit_I, fit_Z, fit_B, fit_C, fit_A, fit_O, Option.toList_some, Option.toList_none, List.cons_append, List.nil_append, true_and, and_true, List.set_cons_zero, List.set_cons_succ, st_same, Int.toNat_natCast, Int.cast_ofNat_Int, Nat.zero_add, Nat.reduceAdd, kRcv_1, kRcv_2, kRcv_3, kRcv_0, kRcv_4, kRcv_5, setMd_set, Mdo, Mda1, Mdw1, Mda2, Mdw2, Mda3, Mdw3, Mda4, Mdw4, Mda5, Mdw5, Mda6, Mdw6, Mda7, Mdw7, Mda8, Mdw8, Mda9, Mdw9, Mda10, Mdw10, Mda11, Mdw11, Mdp3, Mdp5, Mdp6, Mdp7, Mdp8, Mdp10, Mdp16, Mdp17, Mdp18]
      refine ⟨⟨by unfold inR; omega, by unfold inR; omega⟩, (fun h => by first | exact absurd h (by omega) | exact absurd trivial h | (exfalso; simp_all; done)), fun _ => ?_⟩
      rw [s_Model_isThere (Mda1 σ M m2 A2) (by rw [e1]; exact hg.1) (by unfold inR; omega), e1, c]
      simp only [e_Model_digest_208, kR_l, kR_r, kP_0, kP_i, kP_r, kP_n, kP_s, kP_o, kLen_I, kLen_L, kLen_R, kLdI_0, kLdI_1, kLdI_2, kLdI_3, kStI_0, kStI_1, kLdL_e, kStL_e, kLdR_e, kStR_e, kFld_e, kNth_0, kNth_s, kPut_e, fit_I, fit_Z, fit_B, fit_C, fit_A, fit_O, Option.toList_some, Option.toList_none, List.cons_append, List.nil_append, true_and, and_true, List.set_cons_zero, List.set_cons_succ, st_same, Int.toNat_natCast, Int.cast_ofNat_Int, Nat.zero_add, Nat.reduceAdd, kRcv_1, kRcv_2, kRcv_3, kRcv_0, kRcv_4, kRcv_5]
      refine ⟨by unfold inR; omega, fun _ => nx, (fun h => by first | exact absurd h (by omega) | exact absurd trivial h | (exfalso; simp_all; done))⟩
    · have c1 : thM s (k : Nat) = 1 := by omega
      rw [if_pos c1] at ih'
      simp only [e_Model_digest_175, e_Model_digest_178, e_Model_digest_179, e_Model_digest_180, e_Model_digest_182, e_Model_digest_183, e_Model_digest_184, e_Model_digest_188, e_Model_digest_189, e_Model_digest_190, kR_l, kR_r, kP_0, kP_i, kP_r, kP_n, kP_s, kP_o, kLen_I, kLen_L, kLen_R, kLdI_0, kLdI_1, kLdI_2, kLdI_3, kStI_0, kStI_1, kLdL_e, kStL_e, kLdR_e, kStR_e, kFld_e, kNth_0, kNth_s, kPut_e, fit_I, fit_Z, fit_B, fit_C, fit_A, fit_O, Option.toList_some, Option.toList_none, List.cons_append, List.nil_append, true_and, and_true, List.set_cons_zero, List.set_cons_succ, st_same, Int.toNat_natCast, Int.cast_ofNat_Int, Nat.zero_add, Nat.reduceAdd, kRcv_1, kRcv_2, kRcv_3, kRcv_0, kRcv_4, kRcv_5]
      have e0 : 31 * H5 + (Int32.ofInt ((k : Nat) : Int)).toInt64 = mx H5 (k : Nat) := rfl
      rw [e0]
      refine up (fun w => ∀ (m2 : Nat → Int) (A2 : Nat → Nat → Int), KeepL m m2 A A2 → WP G k_Model_digest 192 [some (vR M), some (vL (fo (fun w h => mx h (orM s far k w)) w (mx H5 (k : Nat)))), none, some (vI (lowM s)), some (vI (k : Nat)), some (vI (w : Nat))] [] (setMd σ M m2 A2) Q) (n := 8) ?_ ?_ m2 A2 q2
      · intro w hw ihw m2 A2 q2
        obtain ⟨e1, e4, k3, k5, hA, hT2⟩ := hM.keep q2
        have ihw' := fun m3 A3 h => ihw m3 A3 h
        rw [fo_s] at ihw'
        generalize fo (fun w h => mx h (orM s far k w)) w (mx H5 (k : Nat)) = H6 at *
        clear ihw ih' out
        rw [e_Model_digest_192]
        simp only [e_Model_digest_194, e_Model_digest_196, e_Model_digest_199, e_Model_digest_200, e_Model_digest_203, e_Model_digest_205, kR_l, kR_r, kP_0, kP_i, kP_r, kP_n, kP_s, kP_o, kLen_I, kLen_L, kLen_R, kLdI_0, kLdI_1, kLdI_2, kLdI_3, kStI_0, kStI_1, kLdL_e, kStL_e, kLdR_e, kStR_e, kFld_e, kNth_0, kNth_s, kPut_e, fit_I, fit_Z, fit_B, fit_C, fit_A, fit_O, Option.toList_some, Option.toList_none, List.cons_append, List.nil_append, true_and, and_true, List.set_cons_zero, List.set_cons_succ, st_same, Int.toNat_natCast, Int.cast_ofNat_Int, Nat.zero_add, Nat.reduceAdd, kRcv_1, kRcv_2, kRcv_3, kRcv_0, kRcv_4, kRcv_5, setMd_set, Mdo, Mda1, Mdw1, Mda2, Mdw2, Mda3, Mdw3, Mda4, Mdw4, Mda5, Mdw5, Mda6, Mdw6, Mda7, Mdw7, Mda8, Mdw8, Mda9, Mdw9, Mda10, Mdw10, Mda11, Mdw11, Mdp3, Mdp5, Mdp6, Mdp7, Mdp8, Mdp10, Mdp16, Mdp17, Mdp18]
        refine ⟨⟨by unfold inR; omega, by unfold inR; omega⟩, (fun h => by first | exact absurd h (by omega) | exact absurd trivial h | (exfalso; simp_all; done)), fun _ => ?_⟩
        rw [s_Model_isThere (Mda1 σ M m2 A2) (by rw [e1]; exact hg.1) (by unfold inR; omega), e1, c1]
        simp only [e_Model_digest_208, e_Model_digest_211, e_Model_digest_214, e_Model_digest_215, e_Model_digest_216, e_Model_digest_217, e_Model_digest_219, e_Model_digest_221, kR_l, kR_r, kP_0, kP_i, kP_r, kP_n, kP_s, kP_o, kLen_I, kLen_L, kLen_R, kLdI_0, kLdI_1, kLdI_2, kLdI_3, kStI_0, kStI_1, kLdL_e, kStL_e, kLdR_e, kStR_e, kFld_e, kNth_0, kNth_s, kPut_e, fit_I, fit_Z, fit_B, fit_C, fit_A, fit_O, Option.toList_some, Option.toList_none, List.cons_append, List.nil_append, true_and, and_true, List.set_cons_zero, List.set_cons_succ, st_same, Int.toNat_natCast, Int.cast_ofNat_Int, Nat.zero_add, Nat.reduceAdd, kRcv_1, kRcv_2, kRcv_3, kRcv_0, kRcv_4, kRcv_5, setMd_set, Mdo, Mda1, Mdw1, Mda2, Mdw2, Mda3, Mdw3, Mda4, Mdw4, Mda5, Mdw5, Mda6, Mdw6, Mda7, Mdw7, Mda8, Mdw8, Mda9, Mdw9, Mda10, Mdw10, Mda11, Mdw11, Mdp3, Mdp5, Mdp6, Mdp7, Mdp8, Mdp10, Mdp16, Mdp17, Mdp18]
        refine ⟨by unfold inR; omega, (fun h => by first | exact absurd h (by omega) | exact absurd trivial h | (exfalso; simp_all; done)), fun _ => ?_⟩
        refine s_ofRoom (far := far) (by rw [e1]; exact hg.1) (by rw [e1]; exact hg.wk) (by rw [e1]; exact hfar) hG hA hk hw (fun m3 A3 q3 => ?_)
        have nx := ihw' m3 A3 (q2.trans (q3.L hT2))
        clear ihw'
        rw [e1]
        simp only [e_Model_digest_224, e_Model_digest_225, e_Model_digest_226, e_Model_digest_227, e_Model_digest_230, kR_l, kR_r, kP_0, kP_i, kP_r, kP_n, kP_s, kP_o, kLen_I, kLen_L, kLen_R, kLdI_0, kLdI_1, kLdI_2, kLdI_3, kStI_0, kStI_1, kLdL_e, kStL_e, kLdR_e, kStR_e, kFld_e, kNth_0, kNth_s, kPut_e, fit_I, fit_Z, fit_B, fit_C, fit_A, fit_O, Option.toList_some, Option.toList_none, List.cons_append, List.nil_append, true_and, and_true, List.set_cons_zero, List.set_cons_succ, st_same, Int.toNat_natCast, Int.cast_ofNat_Int, Nat.zero_add, Nat.reduceAdd, kRcv_1, kRcv_2, kRcv_3, kRcv_0, kRcv_4, kRcv_5]
        exact nx
      · intro m2 A2 q2
        have nx := out m2 A2 _ 8 (ih' m2 A2 _ (zI_s ((8 : Nat) : Int)) q2)
        clear ih' out
        rw [e_Model_digest_192]
        simp only [e_Model_digest_194, e_Model_digest_196, kR_l, kR_r, kP_0, kP_i, kP_r, kP_n, kP_s, kP_o, kLen_I, kLen_L, kLen_R, kLdI_0, kLdI_1, kLdI_2, kLdI_3, kStI_0, kStI_1, kLdL_e, kStL_e, kLdR_e, kStR_e, kFld_e, kNth_0, kNth_s, kPut_e, fit_I, fit_Z, fit_B, fit_C, fit_A, fit_O, Option.toList_some, Option.toList_none, List.cons_append, List.nil_append, true_and, and_true, List.set_cons_zero, List.set_cons_succ, st_same, Int.toNat_natCast, Int.cast_ofNat_Int, Nat.zero_add, Nat.reduceAdd, kRcv_1, kRcv_2, kRcv_3, kRcv_0, kRcv_4, kRcv_5]
        refine ⟨⟨by unfold inR; omega, by unfold inR; omega⟩, fun _ => nx, (fun h => by first | exact absurd h (by omega) | exact absurd trivial h | (exfalso; simp_all; done))⟩
  · intro m2 A2 z5 h5 q2
    have fin := md_ways (σ := σ) (Q := Q) (H := fo (rmD s far) 6 H) (z4 := some (vI ((6 : Nat) : Int))) (z5 := z5) (hM.keep q2) hg hfar hn hG h5 (fun m3 A3 q3 => hQ m3 A3 (q2.trans q3))
    clear hQ
    generalize fo (rmD s far) 6 H = H5 at *
    rw [e_Model_digest_156]
    simp only [e_Model_digest_158, e_Model_digest_160, kR_l, kR_r, kP_0, kP_i, kP_r, kP_n, kP_s, kP_o, kLen_I, kLen_L, kLen_R, kLdI_0, kLdI_1, kLdI_2, kLdI_3, kStI_0, kStI_1, kLdL_e, kStL_e, kLdR_e, kStR_e, kFld_e, kNth_0, kNth_s, kPut_e, fit_I, fit_Z, fit_B, fit_C, fit_A, fit_O, Option.toList_some, Option.toList_none, List.cons_append, List.nil_append, true_and, and_true, List.set_cons_zero, List.set_cons_succ, st_same, Int.toNat_natCast, Int.cast_ofNat_Int, Nat.zero_add, Nat.reduceAdd, kRcv_1, kRcv_2, kRcv_3, kRcv_0, kRcv_4, kRcv_5]
    refine ⟨⟨by unfold inR; omega, by unfold inR; omega⟩, fun _ => fin, (fun h => by first | exact absurd h (by omega) | exact absurd trivial h | (exfalso; simp_all; done))⟩
theorem md_lowest {H : Int64} {far : Nat} {z3 z4 z5 : Option AV} (hM : MdG m A s kp n t) (hg : Good s) (hfar : s 252 = (far : Nat)) (hn : n ≤ 60) (hG : G 0 ≤ M) (h5 : zI z5)
    (hQ : ∀ (m' : Nat → Int) (A' : Nat → Nat → Int), KeepL m m' A A' → Q (.inl (some (vL (digE s n t (digD s (digC s far 3 (fo (wyD s) 36 (fo (rmD s far) 6 H)))))))) (setMd σ M m' A')) :
    WP G k_Model_digest 118 [some (vR M), some (vL H), none, z3, z4, z5] [] (setMd σ M m A) Q := by
  obtain ⟨e1, e4, k3, k5, hA, hT2⟩ := hM
  have fin := fun z4 => md_rooms (σ := σ) (Q := Q) (H := H) (m := m) (A := A) (z4 := z4) (z5 := z5) ⟨e1, e4, k3, k5, hA, hT2⟩ hg hfar hn hG h5 hQ
  clear hQ
  simp only [e_Model_digest_118, e_Model_digest_119, e_Model_digest_120, e_Model_digest_121, kR_l, kR_r, kP_0, kP_i, kP_r, kP_n, kP_s, kP_o, kLen_I, kLen_L, kLen_R, kLdI_0, kLdI_1, kLdI_2, kLdI_3, kStI_0, kStI_1, kLdL_e, kStL_e, kLdR_e, kStR_e, kFld_e, kNth_0, kNth_s, kPut_e, fit_I, fit_Z, fit_B, fit_C, fit_A, fit_O, Option.toList_some, Option.toList_none, List.cons_append, List.nil_append, true_and, and_true, List.set_cons_zero, List.set_cons_succ, st_same, Int.toNat_natCast, Int.cast_ofNat_Int, Nat.zero_add, Nat.reduceAdd, kRcv_1, kRcv_2, kRcv_3, kRcv_0, kRcv_4, kRcv_5]
  have loop : ∀ i : Nat, i ≤ 6 → WP G k_Model_digest 123 [some (vR M), some (vL H), none, some (vI (firstB (fun r => thM s r) (6 - i) i)), some (vI ((i : Int) - 1)), z5] [] (setMd σ M m A) Q := by
    intro i
    induction i with
    | zero =>
      intro _
      have f := fin (some (vI (((0 : Nat) : Int) - 1)))
      unfold lowM at f
      rw [e_Model_digest_123]
      simp only [e_Model_digest_125, kR_l, kR_r, kP_0, kP_i, kP_r, kP_n, kP_s, kP_o, kLen_I, kLen_L, kLen_R, kLdI_0, kLdI_1, kLdI_2, kLdI_3, kStI_0, kStI_1, kLdL_e, kStL_e, kLdR_e, kStR_e, kFld_e, kNth_0, kNth_s, kPut_e, fit_I, fit_Z, fit_B, fit_C, fit_A, fit_O, Option.toList_some, Option.toList_none, List.cons_append, List.nil_append, true_and, and_true, List.set_cons_zero, List.set_cons_succ, st_same, Int.toNat_natCast, Int.cast_ofNat_Int, Nat.zero_add, Nat.reduceAdd, kRcv_1, kRcv_2, kRcv_3, kRcv_0, kRcv_4, kRcv_5]
      refine ⟨by unfold inR; omega, fun _ => f, fun z => absurd (by omega) z⟩
    | succ i ih =>
      intro hi
      have nx := ih (by omega)
      rw [show 6 - i = (6 - (i + 1)) + 1 by omega, firstB] at nx
      have t1 := thM_bd s (i : Nat)
      have ei : ((i + 1 : Nat) : Int) - 1 = (i : Nat) := by omega
      rw [ei]
      clear fin ih
      rw [e_Model_digest_123]
      simp only [e_Model_digest_125, e_Model_digest_128, e_Model_digest_129, e_Model_digest_132, e_Model_digest_134, kR_l, kR_r, kP_0, kP_i, kP_r, kP_n, kP_s, kP_o, kLen_I, kLen_L, kLen_R, kLdI_0, kLdI_1, kLdI_2, kLdI_3, kStI_0, kStI_1, kLdL_e, kStL_e, kLdR_e, kStR_e, kFld_e, kNth_0, kNth_s, kPut_e, fit_I, fit_Z, fit_B, fit_C, fit_A, fit_O, Option.toList_some, Option.toList_none, List.cons_append, List.nil_append, true_and, and_true, List.set_cons_zero, List.set_cons_succ, st_same, Int.toNat_natCast, Int.cast_ofNat_Int, Nat.zero_add, Nat.reduceAdd, kRcv_1, kRcv_2, kRcv_3, kRcv_0, kRcv_4, kRcv_5, setMd_set, Mdo, Mda1, Mdw1, Mda2, Mdw2, Mda3, Mdw3, Mda4, Mdw4, Mda5, Mdw5, Mda6, Mdw6, Mda7, Mdw7, Mda8, Mdw8, Mda9, Mdw9, Mda10, Mdw10, Mda11, Mdw11, Mdp3, Mdp5, Mdp6, Mdp7, Mdp8, Mdp10, Mdp16, Mdp17, Mdp18]
      refine ⟨by unfold inR; omega, fun z => absurd z (by omega), fun _ => ?_⟩
      rw [s_Model_isThere (Mda1 σ M m A) (by rw [e1]; exact hg.1) (by unfold inR; omega), e1]
      simp only [e_Model_digest_137, e_Model_digest_140, e_Model_digest_142, e_Model_digest_145, e_Model_digest_146, e_Model_digest_147, e_Model_digest_150, kR_l, kR_r, kP_0, kP_i, kP_r, kP_n, kP_s, kP_o, kLen_I, kLen_L, kLen_R, kLdI_0, kLdI_1, kLdI_2, kLdI_3, kStI_0, kStI_1, kLdL_e, kStL_e, kLdR_e, kStR_e, kFld_e, kNth_0, kNth_s, kPut_e, fit_I, fit_Z, fit_B, fit_C, fit_A, fit_O, Option.toList_some, Option.toList_none, List.cons_append, List.nil_append, true_and, and_true, List.set_cons_zero, List.set_cons_succ, st_same, Int.toNat_natCast, Int.cast_ofNat_Int, Nat.zero_add, Nat.reduceAdd, kRcv_1, kRcv_2, kRcv_3, kRcv_0, kRcv_4, kRcv_5]
      refine ⟨by unfold inR; omega, fun c => ?_, fun c => ?_⟩
      · rw [if_neg (by omega)] at nx
        exact nx
      · rw [if_pos (by omega)] at nx
        exact nx
  exact loop 6 (Nat.le_refl _)
theorem md_squares {H : Int64} {far : Nat} {z3 z4 z5 : Option AV} (hM : MdG m A s kp n t) (hg : Good s) (hfar : s 252 = (far : Nat)) (hn : n ≤ 60) (hG : G 0 ≤ M) (h5 : zI z5)
    (hQ : ∀ (m' : Nat → Int) (A' : Nat → Nat → Int), KeepL m m' A A' → Q (.inl (some (vL (digE s n t (digD s (digC s far 3 (digB s far H))))))) (setMd σ M m' A')) :
    WP G k_Model_digest 36 [some (vR M), some (vL H), none, z3, z4, z5] [] (setMd σ M m A) Q := by
  obtain ⟨e1, e4, k3, k5, hA, hT2⟩ := hM
  have fin := fun z3 => md_lowest (σ := σ) (Q := Q) (H := fo (sqD s) 192 (mx H (s 252))) (m := m) (A := A) (z3 := z3) (z4 := z4) (z5 := z5) ⟨e1, e4, k3, k5, hA, hT2⟩ hg hfar hn hG h5 hQ
  clear hQ
  simp only [e_Model_digest_36, e_Model_digest_39, e_Model_digest_40, e_Model_digest_41, e_Model_digest_42, e_Model_digest_45, e_Model_digest_48, e_Model_digest_49, e_Model_digest_50, e_Model_digest_51, e_Model_digest_52, e_Model_digest_53, kR_l, kR_r, kP_0, kP_i, kP_r, kP_n, kP_s, kP_o, kLen_I, kLen_L, kLen_R, kLdI_0, kLdI_1, kLdI_2, kLdI_3, kStI_0, kStI_1, kLdL_e, kStL_e, kLdR_e, kStR_e, kFld_e, kNth_0, kNth_s, kPut_e, fit_I, fit_Z, fit_B, fit_C, fit_A, fit_O, Option.toList_some, Option.toList_none, List.cons_append, List.nil_append, true_and, and_true, List.set_cons_zero, List.set_cons_succ, st_same, Int.toNat_natCast, Int.cast_ofNat_Int, Nat.zero_add, Nat.reduceAdd, kRcv_1, kRcv_2, kRcv_3, kRcv_0, kRcv_4, kRcv_5, setMd_set, Mdo, Mda1, Mdw1, Mda2, Mdw2, Mda3, Mdw3, Mda4, Mdw4, Mda5, Mdw5, Mda6, Mdw6, Mda7, Mdw7, Mda8, Mdw8, Mda9, Mdw9, Mda10, Mdw10, Mda11, Mdw11, Mdp3, Mdp5, Mdp6, Mdp7, Mdp8, Mdp10, Mdp16, Mdp17, Mdp18, e1]
  have e0 : 31 * H + (Int32.ofInt (s 252)).toInt64 = mx H (s 252) := rfl
  have e0' : s (Int.toNat 252) = s 252 := rfl
  rw [e0', e0]
  generalize mx H (s 252) = H3 at *
  refine ⟨⟨by omega, by omega, by omega⟩, ?_⟩
  refine up (fun k => WP G k_Model_digest 54 [some (vR M), some (vL (fo (sqD s) k H3)), none, some (vI (k : Nat)), z4, z5] [] (setMd σ M m A) Q) (n := 192) ?_ ?_
  · intro k hk ih
    have hs := hg.2.2.2.2.1 k hk
    rw [fo_s] at ih
    generalize fo (sqD s) k H3 = H4 at *
    unfold sqD at ih
    clear fin
    rw [e_Model_digest_54]
    simp only [e_Model_digest_55, e_Model_digest_58, e_Model_digest_61, e_Model_digest_64, e_Model_digest_65, e_Model_digest_66, e_Model_digest_67, e_Model_digest_70, e_Model_digest_71, e_Model_digest_72, e_Model_digest_73, e_Model_digest_74, e_Model_digest_75, e_Model_digest_76, e_Model_digest_79, e_Model_digest_80, e_Model_digest_81, e_Model_digest_82, kR_l, kR_r, kP_0, kP_i, kP_r, kP_n, kP_s, kP_o, kLen_I, kLen_L, kLen_R, kLdI_0, kLdI_1, kLdI_2, kLdI_3, kStI_0, kStI_1, kLdL_e, kStL_e, kLdR_e, kStR_e, kFld_e, kNth_0, kNth_s, kPut_e, fit_I, fit_Z, fit_B, fit_C, fit_A, fit_O, Option.toList_some, Option.toList_none, List.cons_append, List.nil_append, true_and, and_true, List.set_cons_zero, List.set_cons_succ, st_same, Int.toNat_natCast, Int.cast_ofNat_Int, Nat.zero_add, Nat.reduceAdd, kRcv_1, kRcv_2, kRcv_3, kRcv_0, kRcv_4, kRcv_5, setMd_set, Mdo, Mda1, Mdw1, Mda2, Mdw2, Mda3, Mdw3, Mda4, Mdw4, Mda5, Mdw5, Mda6, Mdw6, Mda7, Mdw7, Mda8, Mdw8, Mda9, Mdw9, Mda10, Mdw10, Mda11, Mdw11, Mdp3, Mdp5, Mdp6, Mdp7, Mdp8, Mdp10, Mdp16, Mdp17, Mdp18, e1]
    refine ⟨⟨by unfold inR; omega, by unfold inR; omega⟩, (fun h => by first | exact absurd h (by omega) | exact absurd trivial h | (exfalso; simp_all; done)), fun _ => ⟨⟨by omega, by omega, by omega⟩, ⟨by omega, by omega, by omega⟩, ⟨by unfold inR; omega, by unfold inR; omega⟩, fun c => ?_, fun c => ?_⟩⟩
    · rw [if_neg c] at ih
      simp only [e_Model_digest_110, e_Model_digest_111, e_Model_digest_112, e_Model_digest_115, kR_l, kR_r, kP_0, kP_i, kP_r, kP_n, kP_s, kP_o, kLen_I, kLen_L, kLen_R, kLdI_0, kLdI_1, kLdI_2, kLdI_3, kStI_0, kStI_1, kLdL_e, kStL_e, kLdR_e, kStR_e, kFld_e, kNth_0, kNth_s, kPut_e, fit_I, fit_Z, fit_B, fit_C, fit_A, fit_O, Option.toList_some, Option.toList_none, List.cons_append, List.nil_append, true_and, and_true, List.set_cons_zero, List.set_cons_succ, st_same, Int.toNat_natCast, Int.cast_ofNat_Int, Nat.zero_add, Nat.reduceAdd, kRcv_1, kRcv_2, kRcv_3, kRcv_0, kRcv_4, kRcv_5]
      exact ih
    · rw [if_pos (Classical.byContradiction c)] at ih
      simp only [e_Model_digest_85, e_Model_digest_88, e_Model_digest_89, e_Model_digest_90, e_Model_digest_91, e_Model_digest_94, e_Model_digest_95, e_Model_digest_97, e_Model_digest_98, e_Model_digest_99, e_Model_digest_101, e_Model_digest_102, kR_l, kR_r, kP_0, kP_i, kP_r, kP_n, kP_s, kP_o, kLen_I, kLen_L, kLen_R, kLdI_0, kLdI_1, kLdI_2, kLdI_3, kStI_0, kStI_1, kLdL_e, kStL_e, kLdR_e, kStR_e, kFld_e, kNth_0, kNth_s, kPut_e, fit_I, fit_Z, fit_B, fit_C, fit_A, fit_O, Option.toList_some, Option.toList_none, List.cons_append, List.nil_append, true_and, and_true, List.set_cons_zero, List.set_cons_succ, st_same, Int.toNat_natCast, Int.cast_ofNat_Int, Nat.zero_add, Nat.reduceAdd, kRcv_1, kRcv_2, kRcv_3, kRcv_0, kRcv_4, kRcv_5, setMd_set, Mdo, Mda1, Mdw1, Mda2, Mdw2, Mda3, Mdw3, Mda4, Mdw4, Mda5, Mdw5, Mda6, Mdw6, Mda7, Mdw7, Mda8, Mdw8, Mda9, Mdw9, Mda10, Mdw10, Mda11, Mdw11, Mdp3, Mdp5, Mdp6, Mdp7, Mdp8, Mdp10, Mdp16, Mdp17, Mdp18, pm16, pd16]
      refine ⟨⟨by omega, by omega, by omega, by omega⟩, ⟨by omega, by omega, by omega, by omega⟩, ?_⟩
      rw [s_Model_sides (s := s) (by rw [← e1]; exact Mda1 σ M m A) hg.1 (by omega) (by omega)]
      simp only [e_Model_digest_105, e_Model_digest_106, e_Model_digest_107, e_Model_digest_111, e_Model_digest_112, e_Model_digest_115, kR_l, kR_r, kP_0, kP_i, kP_r, kP_n, kP_s, kP_o, kLen_I, kLen_L, kLen_R, kLdI_0, kLdI_1, kLdI_2, kLdI_3, kStI_0, kStI_1, kLdL_e, kStL_e, kLdR_e, kStR_e, kFld_e, kNth_0, kNth_s, kPut_e, fit_I, fit_Z, fit_B, fit_C, fit_A, fit_O, Option.toList_some, Option.toList_none, List.cons_append, List.nil_append, true_and, and_true, List.set_cons_zero, List.set_cons_succ, st_same, Int.toNat_natCast, Int.cast_ofNat_Int, Nat.zero_add, Nat.reduceAdd, kRcv_1, kRcv_2, kRcv_3, kRcv_0, kRcv_4, kRcv_5]
      exact ih
  · have f := fin (some (vI ((192 : Nat) : Int)))
    clear fin
    generalize fo (sqD s) 192 H3 = H4 at *
    rw [e_Model_digest_54]
    simp only [e_Model_digest_55, e_Model_digest_58, kR_l, kR_r, kP_0, kP_i, kP_r, kP_n, kP_s, kP_o, kLen_I, kLen_L, kLen_R, kLdI_0, kLdI_1, kLdI_2, kLdI_3, kStI_0, kStI_1, kLdL_e, kStL_e, kLdR_e, kStR_e, kFld_e, kNth_0, kNth_s, kPut_e, fit_I, fit_Z, fit_B, fit_C, fit_A, fit_O, Option.toList_some, Option.toList_none, List.cons_append, List.nil_append, true_and, and_true, List.set_cons_zero, List.set_cons_succ, st_same, Int.toNat_natCast, Int.cast_ofNat_Int, Nat.zero_add, Nat.reduceAdd, kRcv_1, kRcv_2, kRcv_3, kRcv_0, kRcv_4, kRcv_5]
    refine ⟨⟨by unfold inR; omega, by unfold inR; omega⟩, fun _ => f, (fun h => by first | exact absurd h (by omega) | exact absurd trivial h | (exfalso; simp_all; done))⟩
theorem s_digest {far : Nat} (hM : MdG m A s kp n t) (hg : Good s) (hfar : s 252 = (far : Nat)) (hn : n ≤ 60) (hG : G 0 ≤ M)
    (hQ : ∀ (m' : Nat → Int) (A' : Nat → Nat → Int), KeepL (upI m 6 0) m' A A' → Q (.inl (some (vL (digM s far kp n t)))) (setMd σ M m' A')) :
    CW G k_Model_digest [vR M] (setMd σ M m A) Q := by
  unfold digM at hQ
  simp only [c_Model_digest, e_Model_digest_0, e_Model_digest_1, e_Model_digest_2, e_Model_digest_5, e_Model_digest_8, e_Model_digest_9, e_Model_digest_10, kR_l, kR_r, kP_0, kP_i, kP_r, kP_n, kP_s, kP_o, kLen_I, kLen_L, kLen_R, kLdI_0, kLdI_1, kLdI_2, kLdI_3, kStI_0, kStI_1, kLdL_e, kStL_e, kLdR_e, kStR_e, kFld_e, kNth_0, kNth_s, kPut_e, fit_I, fit_Z, fit_B, fit_C, fit_A, fit_O, Option.toList_some, Option.toList_none, List.cons_append, List.nil_append, true_and, and_true, List.set_cons_zero, List.set_cons_succ, st_same, Int.toNat_natCast, Int.cast_ofNat_Int, Nat.zero_add, Nat.reduceAdd, kRcv_1, kRcv_2, kRcv_3, kRcv_0, kRcv_4, kRcv_5, setMd_set, Mdo, Mda1, Mdw1, Mda2, Mdw2, Mda3, Mdw3, Mda4, Mdw4, Mda5, Mdw5, Mda6, Mdw6, Mda7, Mdw7, Mda8, Mdw8, Mda9, Mdw9, Mda10, Mdw10, Mda11, Mdw11, Mdp3, Mdp5, Mdp6, Mdp7, Mdp8, Mdp10, Mdp16, Mdp17, Mdp18, List.length_cons, List.length_nil]
  have hM0 : MdG (upI m 6 0) A s kp n t := hM
  refine ⟨⟨by omega, by omega⟩, ?_⟩
  have key := up (fun w => ∀ (m2 : Nat → Int) (A2 : Nat → Nat → Int), KeepL (upI m 6 0) m2 A A2 → WP G k_Model_digest 11 [some (vR M), some (vL (digA s far kp w)), none, some (vI (w : Nat)), none, none] [] (setMd σ M m2 A2) Q) (n := 9) ?_ ?_
  · have k0 := key (upI m 6 0) A (KeepL.refl hM.2.2.2.2.1 hM.2.2.2.2.2)
    rw [digA_0] at k0
    exact k0
  · intro w hw ih m2 A2 q2
    obtain ⟨e1, e4, k3, k5, hA, hT2⟩ := hM0.keep q2
    have ih' := fun m3 A3 h => ih m3 A3 h
    rw [digA_s] at ih'
    generalize digA s far kp w = H2 at *
    clear ih hQ
    rw [e_Model_digest_11]
    simp only [e_Model_digest_12, e_Model_digest_14, e_Model_digest_17, e_Model_digest_20, e_Model_digest_21, e_Model_digest_22, e_Model_digest_23, e_Model_digest_24, kR_l, kR_r, kP_0, kP_i, kP_r, kP_n, kP_s, kP_o, kLen_I, kLen_L, kLen_R, kLdI_0, kLdI_1, kLdI_2, kLdI_3, kStI_0, kStI_1, kLdL_e, kStL_e, kLdR_e, kStR_e, kFld_e, kNth_0, kNth_s, kPut_e, fit_I, fit_Z, fit_B, fit_C, fit_A, fit_O, Option.toList_some, Option.toList_none, List.cons_append, List.nil_append, true_and, and_true, List.set_cons_zero, List.set_cons_succ, st_same, Int.toNat_natCast, Int.cast_ofNat_Int, Nat.zero_add, Nat.reduceAdd, kRcv_1, kRcv_2, kRcv_3, kRcv_0, kRcv_4, kRcv_5, setMd_set, Mdo, Mda1, Mdw1, Mda2, Mdw2, Mda3, Mdw3, Mda4, Mdw4, Mda5, Mdw5, Mda6, Mdw6, Mda7, Mdw7, Mda8, Mdw8, Mda9, Mdw9, Mda10, Mdw10, Mda11, Mdw11, Mdp3, Mdp5, Mdp6, Mdp7, Mdp8, Mdp10, Mdp16, Mdp17, Mdp18]
    refine ⟨⟨by unfold inR; omega, by unfold inR; omega⟩, (fun h => by first | exact absurd h (by omega) | exact absurd trivial h | (exfalso; simp_all; done)), fun _ => ?_⟩
    refine s_counted (far := far) (kp := kp) (by rw [e1]; exact hg.1) (by rw [e1]; exact hg.wk) (by rw [e1]; exact hfar) k3 hG hA hw (fun m3 A3 q3 => ?_)
    have nx := ih' m3 A3 (q2.trans (q3.L hT2))
    clear ih'
    rw [e1]
    simp only [e_Model_digest_27, e_Model_digest_28, e_Model_digest_29, e_Model_digest_30, e_Model_digest_33, kR_l, kR_r, kP_0, kP_i, kP_r, kP_n, kP_s, kP_o, kLen_I, kLen_L, kLen_R, kLdI_0, kLdI_1, kLdI_2, kLdI_3, kStI_0, kStI_1, kLdL_e, kStL_e, kLdR_e, kStR_e, kFld_e, kNth_0, kNth_s, kPut_e, fit_I, fit_Z, fit_B, fit_C, fit_A, fit_O, Option.toList_some, Option.toList_none, List.cons_append, List.nil_append, true_and, and_true, List.set_cons_zero, List.set_cons_succ, st_same, Int.toNat_natCast, Int.cast_ofNat_Int, Nat.zero_add, Nat.reduceAdd, kRcv_1, kRcv_2, kRcv_3, kRcv_0, kRcv_4, kRcv_5]
    exact nx
  · intro m2 A2 q2
    generalize digA s far kp 9 = H1 at *
    have fin := md_squares (σ := σ) (Q := Q) (H := H1) (z3 := some (vI ((9 : Nat) : Int))) (z4 := none) (z5 := none) (hM0.keep q2) hg hfar hn hG zI_n (fun m3 A3 q3 => hQ m3 A3 (q2.trans q3))
    clear hQ
    rw [e_Model_digest_11]
    simp only [e_Model_digest_12, e_Model_digest_14, kR_l, kR_r, kP_0, kP_i, kP_r, kP_n, kP_s, kP_o, kLen_I, kLen_L, kLen_R, kLdI_0, kLdI_1, kLdI_2, kLdI_3, kStI_0, kStI_1, kLdL_e, kStL_e, kLdR_e, kStR_e, kFld_e, kNth_0, kNth_s, kPut_e, fit_I, fit_Z, fit_B, fit_C, fit_A, fit_O, Option.toList_some, Option.toList_none, List.cons_append, List.nil_append, true_and, and_true, List.set_cons_zero, List.set_cons_succ, st_same, Int.toNat_natCast, Int.cast_ofNat_Int, Nat.zero_add, Nat.reduceAdd, kRcv_1, kRcv_2, kRcv_3, kRcv_0, kRcv_4, kRcv_5]
    refine ⟨⟨by unfold inR; omega, by unfold inR; omega⟩, fun _ => fin, (fun h => by first | exact absurd h (by omega) | exact absurd trivial h | (exfalso; simp_all; done))⟩
end DG3
