/-! THE TEXT: orders, as both read them -/
def cA (t : Nat → Int) (n i : Nat) : Int := if i < n then t i else 0
def ltA (c : Nat → Int) (i : Nat) : Int := if 65 ≤ c i ∧ c i ≤ 70 then c i - 65 else -1
def dB (v : Int) : Int := if v = 110 then 0 else if v = 111 then 1 else if v = 112 then 2 else if v = 99 then 3 else if v = 33 then 4 else -1
def wlN (d : Int) : Nat := if d = 0 then 4 else if d = 1 then 3 else if d = 2 then 4 else if d = 3 then 4 else if d = 4 then 1 else 0
def wlC (d : Int) (k : Nat) : Int := if d = 0 then [110, 111, 110, 101].getD k 0 else if d = 1 then [111, 110, 101].getD k 0 else if d = 2 then [112, 97, 105, 114].getD k 0 else if d = 3 then [99, 97, 114, 116].getD k 0 else if d = 4 then [33].getD k 0 else 0
def mtc (c w : Nat → Int) (i : Nat) : Nat → Nat → Nat
  | 0, k => k
  | f + 1, k => if c (i + k) = w k then mtc c w i f (k + 1) else k
theorem mtc_bd (c w : Nat → Int) (i : Nat) : ∀ f k, k ≤ mtc c w i f k ∧ mtc c w i f k ≤ k + f
  | 0, k => by simp [mtc]
  | f + 1, k => by
    have := mtc_bd c w i f (k + 1)
    unfold mtc
    split <;> omega
theorem mtc_ok {c w : Nat → Int} {i : Nat} : ∀ f k j, k ≤ j → j < mtc c w i f k → c (i + j) = w j
  | 0, k, j, h1, h2 => by
    unfold mtc at h2
    omega
  | f + 1, k, j, h1, h2 => by
    unfold mtc at h2
    split at h2
    · rename_i h
      by_cases e : j = k
      · rw [e]; exact h
      · exact mtc_ok f (k + 1) j (by omega) h2
    · omega
def mtO (c : Nat → Int) (i : Nat) : Nat := mtc c (wlC (dB (c i))) i (wlN (dB (c i))) 0
def rdO (c : Nat → Int) (i : Nat) : Nat × Int := if ltA c i = -1 then (i, 0) else if ltA c (i + 1) = -1 ∨ ltA c (i + 1) = ltA c i then (i + 1, 0) else if c (i + 2) ≠ 58 then (i + 2, 0) else (i + 3 + mtO c (i + 3), if 0 < mtO c (i + 3) ∧ mtO c (i + 3) = wlN (dB (c (i + 3))) then 1 else 0)
def stO (c : Nat → Int) : Nat → Nat
  | 0 => 0
  | k + 1 => (rdO c (stO c k)).1 + 1
def ctO (c : Nat → Int) (k : Nat) : Prop := (rdO c (stO c k)).2 = 1 ∧ c (rdO c (stO c k)).1 = 59
theorem ltA_bd (c : Nat → Int) (i : Nat) : -1 ≤ ltA c i ∧ ltA c i ≤ 5 := by
  unfold ltA
  split <;> omega
theorem cA_lt {t : Nat → Int} {n i : Nat} (h : cA t n i ≠ 0) : i < n := by
  unfold cA at h
  split at h
  · assumption
  · exact absurd rfl h
theorem ltA_lt {t : Nat → Int} {n i : Nat} (h : ltA (cA t n) i ≠ -1) : i < n := by
  refine cA_lt (t := t) (fun e => h ?_)
  unfold ltA
  rw [e]
  decide
theorem dB_bd (v : Int) : -1 ≤ dB v ∧ dB v ≤ 4 := by
  unfold dB
  split
  · omega
  · split
    · omega
    · split
      · omega
      · split
        · omega
        · split <;> omega
theorem dB_or (v : Int) : dB v = -1 ∨ dB v = 0 ∨ dB v = 1 ∨ dB v = 2 ∨ dB v = 3 ∨ dB v = 4 := by
  have := dB_bd v
  omega
theorem wlC_nz {d : Int} {k : Nat} (h : k < wlN d) : wlC d k ≠ 0 := by
  unfold wlN at h
  unfold wlC
  split
  · rename_i e
    rw [if_pos e] at h
    rcases (show k = 0 ∨ k = 1 ∨ k = 2 ∨ k = 3 by omega) with rfl | rfl | rfl | rfl <;> decide
  · rename_i e0
    rw [if_neg e0] at h
    split
    · rename_i e
      rw [if_pos e] at h
      rcases (show k = 0 ∨ k = 1 ∨ k = 2 by omega) with rfl | rfl | rfl <;> decide
    · rename_i e1
      rw [if_neg e1] at h
      split
      · rename_i e
        rw [if_pos e] at h
        rcases (show k = 0 ∨ k = 1 ∨ k = 2 ∨ k = 3 by omega) with rfl | rfl | rfl | rfl <;> decide
      · rename_i e2
        rw [if_neg e2] at h
        split
        · rename_i e
          rw [if_pos e] at h
          rcases (show k = 0 ∨ k = 1 ∨ k = 2 ∨ k = 3 by omega) with rfl | rfl | rfl | rfl <;> decide
        · rename_i e3
          rw [if_neg e3] at h
          split
          · rename_i e
            rw [if_pos e] at h
            rcases (show k = 0 by omega) with rfl
            decide
          · rename_i e4
            rw [if_neg e4] at h
            omega
theorem mtO_le (t : Nat → Int) {n i : Nat} (hi : i ≤ n) : i + mtO (cA t n) i ≤ n := by
  have h1 := mtc_bd (cA t n) (wlC (dB (cA t n i))) i (wlN (dB (cA t n i))) 0
  have h2 := fun j => mtc_ok (c := cA t n) (w := wlC (dB (cA t n i))) (i := i) (wlN (dB (cA t n i))) 0 j
  unfold mtO
  generalize hL : mtc (cA t n) (wlC (dB (cA t n i))) i (wlN (dB (cA t n i))) 0 = L at *
  by_cases e : L = 0
  · omega
  · have h3 := h2 (L - 1) (by omega) (by omega)
    have h4 := wlC_nz (d := dB (cA t n i)) (k := L - 1) (by omega)
    have := cA_lt (t := t) (n := n) (i := i + (L - 1)) (by rw [h3]; exact h4)
    omega
theorem rdO_le (t : Nat → Int) {n i : Nat} (hi : i ≤ n) : i ≤ (rdO (cA t n) i).1 ∧ (rdO (cA t n) i).1 ≤ n := by
  unfold rdO
  split
  · exact ⟨Nat.le_refl _, hi⟩
  · rename_i h0
    have l0 := ltA_lt (fun e => h0 e)
    split
    · exact ⟨by show i ≤ i + 1; omega, by show i + 1 ≤ n; omega⟩
    · rename_i h1
      have l1 := ltA_lt (fun e => h1 (Or.inl e))
      split
      · exact ⟨by show i ≤ i + 2; omega, by show i + 2 ≤ n; omega⟩
      · rename_i h2
        have l2 := cA_lt (t := t) (n := n) (i := i + 2) (fun e => h2 (by rw [e]; decide))
        have := mtO_le t (show i + 3 ≤ n by omega)
        exact ⟨by show i ≤ i + 3 + _; omega, this⟩
theorem rdO_w {c : Nat → Int} {i : Nat} (h : (rdO c i).2 = 1) : ltA c i ≠ -1 ∧ ltA c (i + 1) ≠ -1 ∧ ltA c (i + 1) ≠ ltA c i ∧ c (i + 2) = 58 ∧ 0 < mtO c (i + 3) ∧ mtO c (i + 3) = wlN (dB (c (i + 3))) ∧ (rdO c i).1 = i + 3 + mtO c (i + 3) := by
  unfold rdO at h ⊢
  by_cases h0 : ltA c i = -1
  · rw [if_pos h0] at h
    simp at h
  · rw [if_neg h0] at h ⊢
    by_cases h1 : ltA c (i + 1) = -1 ∨ ltA c (i + 1) = ltA c i
    · rw [if_pos h1] at h
      simp at h
    · rw [if_neg h1] at h ⊢
      by_cases h2 : c (i + 2) ≠ 58
      · rw [if_pos h2] at h
        simp at h
      · rw [if_neg h2] at h ⊢
        by_cases h3 : 0 < mtO c (i + 3) ∧ mtO c (i + 3) = wlN (dB (c (i + 3)))
        · exact ⟨h0, fun e => h1 (Or.inl e), fun e => h1 (Or.inr e), Classical.byContradiction h2, h3.1, h3.2, rfl⟩
        · rw [if_neg h3] at h
          simp at h
theorem rdO_2 (c : Nat → Int) (i : Nat) : (rdO c i).2 = 0 ∨ (rdO c i).2 = 1 := by
  unfold rdO
  split
  · exact Or.inl rfl
  · split
    · exact Or.inl rfl
    · split
      · exact Or.inl rfl
      · show (if _ then (1 : Int) else 0) = 0 ∨ (if _ then (1 : Int) else 0) = 1
        split
        · exact Or.inr rfl
        · exact Or.inl rfl
/-- where the orders begin, as long as they go on -/
theorem stO_bd (t : Nat → Int) {n : Nat} : ∀ k, (∀ j, j < k → ctO (cA t n) j) → 5 * k ≤ stO (cA t n) k ∧ stO (cA t n) k ≤ n
  | 0, _ => ⟨by simp, by simp [stO]⟩
  | k + 1, h => by
    have ih := stO_bd t k (fun j hj => h j (by omega))
    obtain ⟨h1, h2⟩ := h k (by omega)
    have h3 := rdO_w h1
    have h4 := cA_lt (t := t) (n := n) (i := (rdO (cA t n) (stO (cA t n) k)).1) (by rw [h2]; decide)
    show 5 * (k + 1) ≤ (rdO (cA t n) (stO (cA t n) k)).1 + 1 ∧ (rdO (cA t n) (stO (cA t n) k)).1 + 1 ≤ n
    omega
theorem ctO_ex (t : Nat → Int) {n : Nat} (hn : n ≤ 60) : ∃ kl, kl ≤ 12 ∧ (∀ j, j < kl → ctO (cA t n) j) ∧ ¬ ctO (cA t n) kl := by
  have key : ∀ f k, k + f = 13 → (∀ j, j < k → ctO (cA t n) j) → ∃ kl, (∀ j, j < kl → ctO (cA t n) j) ∧ ¬ ctO (cA t n) kl := by
    intro f
    induction f with
    | zero =>
      intro k hk h
      have := stO_bd t k h
      omega
    | succ f ih =>
      intro k hk h
      by_cases c : ctO (cA t n) k
      · refine ih (k + 1) (by omega) (fun j hj => ?_)
        by_cases e : j = k
        · rw [e]; exact c
        · exact h j (by omega)
      · exact ⟨k, h, c⟩
  obtain ⟨kl, h1, h2⟩ := key 13 0 rfl (fun j h => absurd h (by omega))
  exact ⟨kl, by have := stO_bd t kl h1; omega, h1, h2⟩
section TX
variable {G : Nat → Nat} {σ : AS} {Q : (Option AV ⊕ Nat) → AS → Prop} {M : Nat} {m : Nat → Int} {A : Nat → Nat → Int}
def TxOK (t : Nat → Int) : Prop := ∀ k, 0 ≤ t k ∧ t k ≤ 126
theorem cA_bd {t : Nat → Int} (h : TxOK t) (n i : Nat) : 0 ≤ cA t n i ∧ cA t n i ≤ 126 := by
  unfold cA
  split
  · exact h i
  · omega
theorem s_isAt {sg : Int} {i n : Nat} (h7 : m 7 = (i : Nat)) (h5 : m 5 = (n : Nat)) (hn : n ≤ 60) (hi : i ≤ n) (ht : TxOK (A 4)) (hsg : 1 ≤ sg ∧ sg ≤ 126) : CW G k_Model_isAt [vR M, vI sg] (setMd σ M m A) Q = Q (.inl (some (vI (b01 (cA (A 4) n i = sg))))) (setMd σ M m A) := by
  refine CW.det' fun R hR => ?_
  have hb := ht i
  simp only [c_Model_isAt, e_Model_isAt_0, e_Model_isAt_1, e_Model_isAt_4, e_Model_isAt_5, e_Model_isAt_8, e_Model_isAt_11, e_Model_isAt_12, e_Model_isAt_15, e_Model_isAt_16, e_Model_isAt_19, e_Model_isAt_20, e_Model_isAt_21, e_Model_isAt_24, e_Model_isAt_25, e_Model_isAt_28, e_Model_isAt_29, kR_l, kR_r, kP_0, kP_i, kP_r, kP_n, kP_s, kP_o, kLen_I, kLen_L, kLen_R, kLdI_0, kLdI_1, kLdI_2, kLdI_3, kStI_0, kStI_1, kLdL_e, kStL_e, kLdR_e, kStR_e, kFld_e, kNth_0, kNth_s, kPut_e, fit_I, fit_Z, fit_B, fit_C, fit_A, fit_O, Option.toList_some, Option.toList_none, List.cons_append, List.nil_append, true_and, and_true, List.set_cons_zero, List.set_cons_succ, st_same, Int.toNat_natCast, Int.cast_ofNat_Int, Nat.zero_add, Nat.reduceAdd, kRcv_1, kRcv_2, kRcv_3, kRcv_0, kRcv_4, kRcv_5, setMd_set, Mdo, Mda1, Mdw1, Mda2, Mdw2, Mda3, Mdw3, Mda4, Mdw4, Mda5, Mdw5, Mda6, Mdw6, Mda7, Mdw7, Mda8, Mdw8, Mda9, Mdw9, Mda10, Mdw10, Mda11, Mdw11, Mdp3, Mdp5, Mdp6, Mdp7, Mdp8, Mdp10, Mdp16, Mdp17, Mdp18, h7, h5]
  unfold cA at hR
  by_cases h : i < n
  · rw [if_pos h] at hR
    by_cases h2 : A 4 i = sg
    · rw [b01_t h2] at hR
      all_goals ((repeat' (first | with_reducible refine And.intro ?_ ?_ | intro _)) <;> first | with_reducible assumption | exact True.intro | with_reducible exact hR | omega | (simp only [inR] at *; omega) | exact hR | with_reducible rfl | rfl | (simp; done) | (exfalso; simp_all; done) | skip)
    · rw [b01_f h2] at hR
      all_goals ((repeat' (first | with_reducible refine And.intro ?_ ?_ | intro _)) <;> first | with_reducible assumption | exact True.intro | with_reducible exact hR | omega | (simp only [inR] at *; omega) | exact hR | with_reducible rfl | rfl | (simp; done) | (exfalso; simp_all; done) | skip)
  · rw [if_neg h, b01_f (by omega)] at hR
    all_goals ((repeat' (first | with_reducible refine And.intro ?_ ?_ | intro _)) <;> first | with_reducible assumption | exact True.intro | with_reducible exact hR | omega | (simp only [inR] at *; omega) | exact hR | with_reducible rfl | rfl | (simp; done) | (exfalso; simp_all; done) | skip)
theorem s_stops {i n : Nat} (hG : G 0 ≤ M) (h7 : m 7 = (i : Nat)) (h5 : m 5 = (n : Nat)) (hn : n ≤ 60) (hi : i ≤ n) : CW G k_Model_stops [vR M] (setMd σ M m A) Q = Q (.inl (some (vI 0))) (setMd σ M (upI m 8 (b01 (i < n))) A) := by
  refine CW.det' fun R hR => ?_
  simp only [c_Model_stops, e_Model_stops_0, e_Model_stops_1, e_Model_stops_2, e_Model_stops_5, e_Model_stops_6, e_Model_stops_9, e_Model_stops_12, e_Model_stops_13, e_Model_stops_16, e_Model_stops_17, e_Model_stops_20, e_Model_stops_21, kR_l, kR_r, kP_0, kP_i, kP_r, kP_n, kP_s, kP_o, kLen_I, kLen_L, kLen_R, kLdI_0, kLdI_1, kLdI_2, kLdI_3, kStI_0, kStI_1, kLdL_e, kStL_e, kLdR_e, kStR_e, kFld_e, kNth_0, kNth_s, kPut_e, fit_I, fit_Z, fit_B, fit_C, fit_A, fit_O, Option.toList_some, Option.toList_none, List.cons_append, List.nil_append, true_and, and_true, List.set_cons_zero, List.set_cons_succ, st_same, Int.toNat_natCast, Int.cast_ofNat_Int, Nat.zero_add, Nat.reduceAdd, kRcv_1, kRcv_2, kRcv_3, kRcv_0, kRcv_4, kRcv_5, setMd_set, Mdo, Mda1, Mdw1, Mda2, Mdw2, Mda3, Mdw3, Mda4, Mdw4, Mda5, Mdw5, Mda6, Mdw6, Mda7, Mdw7, Mda8, Mdw8, Mda9, Mdw9, Mda10, Mdw10, Mda11, Mdw11, Mdp3, Mdp5, Mdp6, Mdp7, Mdp8, Mdp10, Mdp16, Mdp17, Mdp18, List.length_cons, List.length_nil]
  by_cases h : i < n
  · rw [b01_t h] at hR
    all_goals ((repeat' (first | with_reducible refine And.intro ?_ ?_ | intro _)) <;> first | with_reducible assumption | exact True.intro | with_reducible exact hR | omega | (simp only [inR] at *; omega) | exact hR | with_reducible rfl | rfl | (simp; done) | (exfalso; simp_all; done) | skip)
  · rw [b01_f h] at hR
    all_goals ((repeat' (first | with_reducible refine And.intro ?_ ?_ | intro _)) <;> first | with_reducible assumption | exact True.intro | with_reducible exact hR | omega | (simp only [inR] at *; omega) | exact hR | with_reducible rfl | rfl | (simp; done) | (exfalso; simp_all; done) | skip)
theorem s_sg1 {sg : Int} {i n : Nat} (hG : G 0 ≤ M) (h7 : m 7 = (i : Nat)) (h5 : m 5 = (n : Nat)) (hn : n ≤ 60) (hi : i ≤ n) (ht : TxOK (A 4)) (hsg : 1 ≤ sg ∧ sg ≤ 126) (h : cA (A 4) n i = sg) : CW G k_Model_isSign [vR M, vI sg] (setMd σ M m A) Q = Q (.inl (some (vI 1))) (setMd σ M (upI m 7 ((i + 1 : Nat) : Int)) A) := by
  refine CW.det' fun R hR => ?_
  simp only [c_Model_isSign, e_Model_isSign_0, e_Model_isSign_1, e_Model_isSign_2, e_Model_isSign_5, e_Model_isSign_8, e_Model_isSign_9, e_Model_isSign_12, e_Model_isSign_13, e_Model_isSign_14, e_Model_isSign_15, e_Model_isSign_18, e_Model_isSign_19, e_Model_isSign_20, e_Model_isSign_23, e_Model_isSign_24, kR_l, kR_r, kP_0, kP_i, kP_r, kP_n, kP_s, kP_o, kLen_I, kLen_L, kLen_R, kLdI_0, kLdI_1, kLdI_2, kLdI_3, kStI_0, kStI_1, kLdL_e, kStL_e, kLdR_e, kStR_e, kFld_e, kNth_0, kNth_s, kPut_e, fit_I, fit_Z, fit_B, fit_C, fit_A, fit_O, Option.toList_some, Option.toList_none, List.cons_append, List.nil_append, true_and, and_true, List.set_cons_zero, List.set_cons_succ, st_same, Int.toNat_natCast, Int.cast_ofNat_Int, Nat.zero_add, Nat.reduceAdd, kRcv_1, kRcv_2, kRcv_3, kRcv_0, kRcv_4, kRcv_5, setMd_set, Mdo, Mda1, Mdw1, Mda2, Mdw2, Mda3, Mdw3, Mda4, Mdw4, Mda5, Mdw5, Mda6, Mdw6, Mda7, Mdw7, Mda8, Mdw8, Mda9, Mdw9, Mda10, Mdw10, Mda11, Mdw11, Mdp3, Mdp5, Mdp6, Mdp7, Mdp8, Mdp10, Mdp16, Mdp17, Mdp18, List.length_cons, List.length_nil]
  rw [s_isAt h7 h5 hn hi ht hsg, b01_t h]
  have e : ((i + 1 : Nat) : Int) = m 7 + 1 := by omega
  rw [e] at hR
  simp only [e_Model_isSign_0, e_Model_isSign_1, e_Model_isSign_2, e_Model_isSign_5, e_Model_isSign_8, e_Model_isSign_9, e_Model_isSign_12, e_Model_isSign_13, e_Model_isSign_14, e_Model_isSign_15, e_Model_isSign_18, e_Model_isSign_19, e_Model_isSign_20, e_Model_isSign_23, e_Model_isSign_24, kR_l, kR_r, kP_0, kP_i, kP_r, kP_n, kP_s, kP_o, kLen_I, kLen_L, kLen_R, kLdI_0, kLdI_1, kLdI_2, kLdI_3, kStI_0, kStI_1, kLdL_e, kStL_e, kLdR_e, kStR_e, kFld_e, kNth_0, kNth_s, kPut_e, fit_I, fit_Z, fit_B, fit_C, fit_A, fit_O, Option.toList_some, Option.toList_none, List.cons_append, List.nil_append, true_and, and_true, List.set_cons_zero, List.set_cons_succ, st_same, Int.toNat_natCast, Int.cast_ofNat_Int, Nat.zero_add, Nat.reduceAdd, kRcv_1, kRcv_2, kRcv_3, kRcv_0, kRcv_4, kRcv_5, setMd_set, Mdo, Mda1, Mdw1, Mda2, Mdw2, Mda3, Mdw3, Mda4, Mdw4, Mda5, Mdw5, Mda6, Mdw6, Mda7, Mdw7, Mda8, Mdw8, Mda9, Mdw9, Mda10, Mdw10, Mda11, Mdw11, Mdp3, Mdp5, Mdp6, Mdp7, Mdp8, Mdp10, Mdp16, Mdp17, Mdp18, List.length_cons, List.length_nil]
  all_goals ((repeat' (first | with_reducible refine And.intro ?_ ?_ | intro _)) <;> first | with_reducible assumption | exact True.intro | with_reducible exact hR | omega | (simp only [inR] at *; omega) | exact hR | with_reducible rfl | rfl | (simp; done) | (exfalso; simp_all; done) | skip)
theorem s_sg0 {sg : Int} {i n : Nat} (hG : G 0 ≤ M) (h7 : m 7 = (i : Nat)) (h5 : m 5 = (n : Nat)) (hn : n ≤ 60) (hi : i ≤ n) (ht : TxOK (A 4)) (hsg : 1 ≤ sg ∧ sg ≤ 126) (h : ¬ cA (A 4) n i = sg) : CW G k_Model_isSign [vR M, vI sg] (setMd σ M m A) Q = Q (.inl (some (vI 0))) (setMd σ M (upI m 8 (b01 (i < n))) A) := by
  refine CW.det' fun R hR => ?_
  simp only [c_Model_isSign, e_Model_isSign_0, e_Model_isSign_1, e_Model_isSign_2, e_Model_isSign_5, e_Model_isSign_8, e_Model_isSign_9, e_Model_isSign_12, e_Model_isSign_13, e_Model_isSign_14, e_Model_isSign_15, e_Model_isSign_18, e_Model_isSign_19, e_Model_isSign_20, e_Model_isSign_23, e_Model_isSign_24, kR_l, kR_r, kP_0, kP_i, kP_r, kP_n, kP_s, kP_o, kLen_I, kLen_L, kLen_R, kLdI_0, kLdI_1, kLdI_2, kLdI_3, kStI_0, kStI_1, kLdL_e, kStL_e, kLdR_e, kStR_e, kFld_e, kNth_0, kNth_s, kPut_e, fit_I, fit_Z, fit_B, fit_C, fit_A, fit_O, Option.toList_some, Option.toList_none, List.cons_append, List.nil_append, true_and, and_true, List.set_cons_zero, List.set_cons_succ, st_same, Int.toNat_natCast, Int.cast_ofNat_Int, Nat.zero_add, Nat.reduceAdd, kRcv_1, kRcv_2, kRcv_3, kRcv_0, kRcv_4, kRcv_5, setMd_set, Mdo, Mda1, Mdw1, Mda2, Mdw2, Mda3, Mdw3, Mda4, Mdw4, Mda5, Mdw5, Mda6, Mdw6, Mda7, Mdw7, Mda8, Mdw8, Mda9, Mdw9, Mda10, Mdw10, Mda11, Mdw11, Mdp3, Mdp5, Mdp6, Mdp7, Mdp8, Mdp10, Mdp16, Mdp17, Mdp18]
  rw [s_isAt h7 h5 hn hi ht hsg, b01_f h]
  simp only [e_Model_isSign_5, e_Model_isSign_8, e_Model_isSign_9, e_Model_isSign_12, kR_l, kR_r, kP_0, kP_i, kP_r, kP_n, kP_s, kP_o, kLen_I, kLen_L, kLen_R, kLdI_0, kLdI_1, kLdI_2, kLdI_3, kStI_0, kStI_1, kLdL_e, kStL_e, kLdR_e, kStR_e, kFld_e, kNth_0, kNth_s, kPut_e, fit_I, fit_Z, fit_B, fit_C, fit_A, fit_O, Option.toList_some, Option.toList_none, List.cons_append, List.nil_append, true_and, and_true, List.set_cons_zero, List.set_cons_succ, st_same, Int.toNat_natCast, Int.cast_ofNat_Int, Nat.zero_add, Nat.reduceAdd, kRcv_1, kRcv_2, kRcv_3, kRcv_0, kRcv_4, kRcv_5, setMd_set, Mdo, Mda1, Mdw1, Mda2, Mdw2, Mda3, Mdw3, Mda4, Mdw4, Mda5, Mdw5, Mda6, Mdw6, Mda7, Mdw7, Mda8, Mdw8, Mda9, Mdw9, Mda10, Mdw10, Mda11, Mdw11, Mdp3, Mdp5, Mdp6, Mdp7, Mdp8, Mdp10, Mdp16, Mdp17, Mdp18, s_stops hG h7 h5 hn hi]
  all_goals ((repeat' (first | with_reducible refine And.intro ?_ ?_ | intro _)) <;> first | with_reducible assumption | exact True.intro | with_reducible exact hR | omega | (simp only [inR] at *; omega) | exact hR | with_reducible rfl | rfl | (simp; done) | (exfalso; simp_all; done) | skip)
/-- what a word's reading leaves -/
def WdQ (M n : Nat) (σ : AS) (m : Nat → Int) (A : Nat → Nat → Int) (e : Nat) (ok : Int) (Q : (Option AV ⊕ Nat) → AS → Prop) : Prop := ∀ m' : Nat → Int, (∀ k, k ≠ 7 → k ≠ 8 → m' k = m k) → m' 7 = (e : Nat) → (ok = 0 → m' 8 = b01 (e < n)) → Q (.inl (some (vI ok))) (setMd σ M m' A)
theorem s_isWord {w : Nat → Int} {i n L : Nat} {d : Int} (hG : G 0 ≤ M) (h7 : m 7 = (i : Nat)) (h5 : m 5 = (n : Nat)) (hn : n ≤ 60) (hi : i ≤ n) (ht : TxOK (A 4)) (hw : ∀ k, k < L → 1 ≤ w k ∧ w k ≤ 126) (hL : (L = 4 ∧ d = w 3) ∨ (L = 3 ∧ d = 0))
    (hQ : WdQ M n σ m A (i + mtc (cA (A 4) n) w i L 0) (if mtc (cA (A 4) n) w i L 0 = L then 1 else 0) Q) : CW G k_Model_isWord [vR M, vI (w 0), vI (w 1), vI (w 2), vI d] (setMd σ M m A) Q := by
  have nz : ∀ j k, k < L → cA (A 4) n j = w k → j < n := fun j k hk e => cA_lt (t := A 4) (fun z => by have := hw k hk; omega)
  simp only [c_Model_isWord, e_Model_isWord_0, e_Model_isWord_1, e_Model_isWord_2, kR_l, kR_r, kP_0, kP_i, kP_r, kP_n, kP_s, kP_o, kLen_I, kLen_L, kLen_R, kLdI_0, kLdI_1, kLdI_2, kLdI_3, kStI_0, kStI_1, kLdL_e, kStL_e, kLdR_e, kStR_e, kFld_e, kNth_0, kNth_s, kPut_e, fit_I, fit_Z, fit_B, fit_C, fit_A, fit_O, Option.toList_some, Option.toList_none, List.cons_append, List.nil_append, true_and, and_true, List.set_cons_zero, List.set_cons_succ, st_same, Int.toNat_natCast, Int.cast_ofNat_Int, Nat.zero_add, Nat.reduceAdd, kRcv_1, kRcv_2, kRcv_3, kRcv_0, kRcv_4, kRcv_5, setMd_set, Mdo, Mda1, Mdw1, Mda2, Mdw2, Mda3, Mdw3, Mda4, Mdw4, Mda5, Mdw5, Mda6, Mdw6, Mda7, Mdw7, Mda8, Mdw8, Mda9, Mdw9, Mda10, Mdw10, Mda11, Mdw11, Mdp3, Mdp5, Mdp6, Mdp7, Mdp8, Mdp10, Mdp16, Mdp17, Mdp18]
  by_cases c0 : cA (A 4) n i = w 0
  · have l0 := nz i 0 (by omega) c0
    rw [s_sg1 hG h7 h5 hn (by omega) ht (hw 0 (by omega)) c0]
    simp only [e_Model_isWord_5, e_Model_isWord_8, e_Model_isWord_9, e_Model_isWord_10, kR_l, kR_r, kP_0, kP_i, kP_r, kP_n, kP_s, kP_o, kLen_I, kLen_L, kLen_R, kLdI_0, kLdI_1, kLdI_2, kLdI_3, kStI_0, kStI_1, kLdL_e, kStL_e, kLdR_e, kStR_e, kFld_e, kNth_0, kNth_s, kPut_e, fit_I, fit_Z, fit_B, fit_C, fit_A, fit_O, Option.toList_some, Option.toList_none, List.cons_append, List.nil_append, true_and, and_true, List.set_cons_zero, List.set_cons_succ, st_same, Int.toNat_natCast, Int.cast_ofNat_Int, Nat.zero_add, Nat.reduceAdd, kRcv_1, kRcv_2, kRcv_3, kRcv_0, kRcv_4, kRcv_5, setMd_set, Mdo, Mda1, Mdw1, Mda2, Mdw2, Mda3, Mdw3, Mda4, Mdw4, Mda5, Mdw5, Mda6, Mdw6, Mda7, Mdw7, Mda8, Mdw8, Mda9, Mdw9, Mda10, Mdw10, Mda11, Mdw11, Mdp3, Mdp5, Mdp6, Mdp7, Mdp8, Mdp10, Mdp16, Mdp17, Mdp18]
    refine ⟨by unfold inR; omega, (fun h => by first | exact absurd h (by omega) | exact absurd trivial h | (exfalso; simp_all; done)), fun _ => ?_⟩
    by_cases c1 : cA (A 4) n (i + 1) = w 1
    · have l1 := nz (i + 1) 1 (by omega) c1
      rw [s_sg1 (m := upI m 7 ((i + 1 : Nat) : Int)) (i := i + 1) hG rfl h5 hn (by omega) ht (hw 1 (by omega)) c1]
      simp only [e_Model_isWord_13, e_Model_isWord_16, e_Model_isWord_17, e_Model_isWord_18, kR_l, kR_r, kP_0, kP_i, kP_r, kP_n, kP_s, kP_o, kLen_I, kLen_L, kLen_R, kLdI_0, kLdI_1, kLdI_2, kLdI_3, kStI_0, kStI_1, kLdL_e, kStL_e, kLdR_e, kStR_e, kFld_e, kNth_0, kNth_s, kPut_e, fit_I, fit_Z, fit_B, fit_C, fit_A, fit_O, Option.toList_some, Option.toList_none, List.cons_append, List.nil_append, true_and, and_true, List.set_cons_zero, List.set_cons_succ, st_same, Int.toNat_natCast, Int.cast_ofNat_Int, Nat.zero_add, Nat.reduceAdd, kRcv_1, kRcv_2, kRcv_3, kRcv_0, kRcv_4, kRcv_5, setMd_set, Mdo, Mda1, Mdw1, Mda2, Mdw2, Mda3, Mdw3, Mda4, Mdw4, Mda5, Mdw5, Mda6, Mdw6, Mda7, Mdw7, Mda8, Mdw8, Mda9, Mdw9, Mda10, Mdw10, Mda11, Mdw11, Mdp3, Mdp5, Mdp6, Mdp7, Mdp8, Mdp10, Mdp16, Mdp17, Mdp18]
      refine ⟨by unfold inR; omega, (fun h => by first | exact absurd h (by omega) | exact absurd trivial h | (exfalso; simp_all; done)), fun _ => ?_⟩
      by_cases c2 : cA (A 4) n (i + 2) = w 2
      · have l2 := nz (i + 2) 2 (by omega) c2
        rw [s_sg1 (m := upI (upI m 7 ((i + 1 : Nat) : Int)) 7 ((i + 1 + 1 : Nat) : Int)) (i := i + 2) hG rfl h5 hn (by omega) ht (hw 2 (by omega)) c2]
        simp only [e_Model_isWord_21, e_Model_isWord_24, e_Model_isWord_26, e_Model_isWord_29, e_Model_isWord_30, e_Model_isWord_32, kR_l, kR_r, kP_0, kP_i, kP_r, kP_n, kP_s, kP_o, kLen_I, kLen_L, kLen_R, kLdI_0, kLdI_1, kLdI_2, kLdI_3, kStI_0, kStI_1, kLdL_e, kStL_e, kLdR_e, kStR_e, kFld_e, kNth_0, kNth_s, kPut_e, fit_I, fit_Z, fit_B, fit_C, fit_A, fit_O, Option.toList_some, Option.toList_none, List.cons_append, List.nil_append, true_and, and_true, List.set_cons_zero, List.set_cons_succ, st_same, Int.toNat_natCast, Int.cast_ofNat_Int, Nat.zero_add, Nat.reduceAdd, kRcv_1, kRcv_2, kRcv_3, kRcv_0, kRcv_4, kRcv_5, setMd_set, Mdo, Mda1, Mdw1, Mda2, Mdw2, Mda3, Mdw3, Mda4, Mdw4, Mda5, Mdw5, Mda6, Mdw6, Mda7, Mdw7, Mda8, Mdw8, Mda9, Mdw9, Mda10, Mdw10, Mda11, Mdw11, Mdp3, Mdp5, Mdp6, Mdp7, Mdp8, Mdp10, Mdp16, Mdp17, Mdp18]
        rcases hL with ⟨rfl, rfl⟩ | ⟨rfl, rfl⟩
        · have h3 := hw 3 (by omega)
          refine ⟨by unfold inR; omega, (fun h => by first | exact absurd h (by omega) | exact absurd trivial h | (exfalso; simp_all; done)), fun _ => ⟨by unfold inR; omega, (fun h => by first | exact absurd h (by omega) | exact absurd trivial h | (exfalso; simp_all; done)), fun _ => ?_⟩⟩
          by_cases c3 : cA (A 4) n (i + 3) = w 3
          · have l3 := nz (i + 3) 3 (by omega) c3
            rw [s_sg1 (m := upI (upI (upI m 7 ((i + 1 : Nat) : Int)) 7 ((i + 1 + 1 : Nat) : Int)) 7 ((i + 2 + 1 : Nat) : Int)) (i := i + 3) hG rfl h5 hn (by omega) ht h3 c3]
            have e : mtc (cA (A 4) n) w i 4 0 = 4 := by
              simp only [mtc, Nat.add_zero, Nat.zero_add, Nat.reduceAdd, c0, c1, c2, c3, if_true]
            rw [e] at hQ
            have hq := hQ (upI (upI (upI (upI m 7 ((i + 1 : Nat) : Int)) 7 ((i + 1 + 1 : Nat) : Int)) 7 ((i + 2 + 1 : Nat) : Int)) 7 ((i + 3 + 1 : Nat) : Int)) (fun k a b => by simp only [upI_at, if_neg a]) rfl (fun h => absurd h (by decide))
            simp only [e_Model_isWord_35, e_Model_isWord_38, e_Model_isWord_39, e_Model_isWord_42, e_Model_isWord_43, kR_l, kR_r, kP_0, kP_i, kP_r, kP_n, kP_s, kP_o, kLen_I, kLen_L, kLen_R, kLdI_0, kLdI_1, kLdI_2, kLdI_3, kStI_0, kStI_1, kLdL_e, kStL_e, kLdR_e, kStR_e, kFld_e, kNth_0, kNth_s, kPut_e, fit_I, fit_Z, fit_B, fit_C, fit_A, fit_O, Option.toList_some, Option.toList_none, List.cons_append, List.nil_append, true_and, and_true, List.set_cons_zero, List.set_cons_succ, st_same, Int.toNat_natCast, Int.cast_ofNat_Int, Nat.zero_add, Nat.reduceAdd, kRcv_1, kRcv_2, kRcv_3, kRcv_0, kRcv_4, kRcv_5, setMd_set, Mdo, Mda1, Mdw1, Mda2, Mdw2, Mda3, Mdw3, Mda4, Mdw4, Mda5, Mdw5, Mda6, Mdw6, Mda7, Mdw7, Mda8, Mdw8, Mda9, Mdw9, Mda10, Mdw10, Mda11, Mdw11, Mdp3, Mdp5, Mdp6, Mdp7, Mdp8, Mdp10, Mdp16, Mdp17, Mdp18]
            all_goals ((repeat' (first | with_reducible refine And.intro ?_ ?_ | intro _)) <;> first | with_reducible assumption | exact True.intro | with_reducible exact hq | omega | (simp only [inR] at *; omega) | exact hq | with_reducible rfl | rfl | (simp; done) | (exfalso; simp_all; done) | skip)
          · rw [s_sg0 (m := upI (upI (upI m 7 ((i + 1 : Nat) : Int)) 7 ((i + 1 + 1 : Nat) : Int)) 7 ((i + 2 + 1 : Nat) : Int)) (i := i + 3) hG rfl h5 hn (by omega) ht h3 c3]
            have e : mtc (cA (A 4) n) w i 4 0 = 3 := by
              simp only [mtc, Nat.add_zero, Nat.zero_add, Nat.reduceAdd, c0, c1, c2, c3, if_true, if_false]
            rw [e] at hQ
            have hq := hQ (upI (upI (upI (upI m 7 ((i + 1 : Nat) : Int)) 7 ((i + 1 + 1 : Nat) : Int)) 7 ((i + 2 + 1 : Nat) : Int)) 8 (b01 (i + 3 < n))) (fun k a b => by simp only [upI_at, if_neg a, if_neg b]) rfl (fun _ => rfl)
            simp only [e_Model_isWord_35, e_Model_isWord_38, e_Model_isWord_39, e_Model_isWord_42, e_Model_isWord_43, kR_l, kR_r, kP_0, kP_i, kP_r, kP_n, kP_s, kP_o, kLen_I, kLen_L, kLen_R, kLdI_0, kLdI_1, kLdI_2, kLdI_3, kStI_0, kStI_1, kLdL_e, kStL_e, kLdR_e, kStR_e, kFld_e, kNth_0, kNth_s, kPut_e, fit_I, fit_Z, fit_B, fit_C, fit_A, fit_O, Option.toList_some, Option.toList_none, List.cons_append, List.nil_append, true_and, and_true, List.set_cons_zero, List.set_cons_succ, st_same, Int.toNat_natCast, Int.cast_ofNat_Int, Nat.zero_add, Nat.reduceAdd, kRcv_1, kRcv_2, kRcv_3, kRcv_0, kRcv_4, kRcv_5, setMd_set, Mdo, Mda1, Mdw1, Mda2, Mdw2, Mda3, Mdw3, Mda4, Mdw4, Mda5, Mdw5, Mda6, Mdw6, Mda7, Mdw7, Mda8, Mdw8, Mda9, Mdw9, Mda10, Mdw10, Mda11, Mdw11, Mdp3, Mdp5, Mdp6, Mdp7, Mdp8, Mdp10, Mdp16, Mdp17, Mdp18]
            all_goals ((repeat' (first | with_reducible refine And.intro ?_ ?_ | intro _)) <;> first | with_reducible assumption | exact True.intro | with_reducible exact hq | omega | (simp only [inR] at *; omega) | exact hq | with_reducible rfl | rfl | (simp; done) | (exfalso; simp_all; done) | skip)
        · have e : mtc (cA (A 4) n) w i 3 0 = 3 := by
            simp only [mtc, Nat.add_zero, Nat.zero_add, Nat.reduceAdd, c0, c1, c2, if_true]
          rw [e] at hQ
          have hq := hQ (upI (upI (upI m 7 ((i + 1 : Nat) : Int)) 7 ((i + 1 + 1 : Nat) : Int)) 7 ((i + 2 + 1 : Nat) : Int)) (fun k a b => by simp only [upI_at, if_neg a]) rfl (fun h => absurd h (by decide))
          refine ⟨by unfold inR; omega, (fun h => by first | exact absurd h (by omega) | exact absurd trivial h | (exfalso; simp_all; done)), fun _ => ⟨by unfold inR; omega, fun _ => ?_, (fun h => by first | exact absurd h (by omega) | exact absurd trivial h | (exfalso; simp_all; done))⟩⟩
          simp only [e_Model_isWord_38, e_Model_isWord_39, e_Model_isWord_42, e_Model_isWord_43, kR_l, kR_r, kP_0, kP_i, kP_r, kP_n, kP_s, kP_o, kLen_I, kLen_L, kLen_R, kLdI_0, kLdI_1, kLdI_2, kLdI_3, kStI_0, kStI_1, kLdL_e, kStL_e, kLdR_e, kStR_e, kFld_e, kNth_0, kNth_s, kPut_e, fit_I, fit_Z, fit_B, fit_C, fit_A, fit_O, Option.toList_some, Option.toList_none, List.cons_append, List.nil_append, true_and, and_true, List.set_cons_zero, List.set_cons_succ, st_same, Int.toNat_natCast, Int.cast_ofNat_Int, Nat.zero_add, Nat.reduceAdd, kRcv_1, kRcv_2, kRcv_3, kRcv_0, kRcv_4, kRcv_5, setMd_set, Mdo, Mda1, Mdw1, Mda2, Mdw2, Mda3, Mdw3, Mda4, Mdw4, Mda5, Mdw5, Mda6, Mdw6, Mda7, Mdw7, Mda8, Mdw8, Mda9, Mdw9, Mda10, Mdw10, Mda11, Mdw11, Mdp3, Mdp5, Mdp6, Mdp7, Mdp8, Mdp10, Mdp16, Mdp17, Mdp18]
          all_goals ((repeat' (first | with_reducible refine And.intro ?_ ?_ | intro _)) <;> first | with_reducible assumption | exact True.intro | with_reducible exact hq | omega | (simp only [inR] at *; omega) | exact hq | with_reducible rfl | rfl | (simp; done) | (exfalso; simp_all; done) | skip)
      · rw [s_sg0 (m := upI (upI m 7 ((i + 1 : Nat) : Int)) 7 ((i + 1 + 1 : Nat) : Int)) (i := i + 2) hG rfl h5 hn (by omega) ht (hw 2 (by omega)) c2]
        have e : mtc (cA (A 4) n) w i L 0 = 2 := by
          rcases hL with ⟨rfl, -⟩ | ⟨rfl, -⟩ <;> simp only [mtc, Nat.add_zero, Nat.zero_add, Nat.reduceAdd, c0, c1, c2, if_true, if_false]
        rw [e, if_neg (by omega)] at hQ
        have hq := hQ (upI (upI (upI m 7 ((i + 1 : Nat) : Int)) 7 ((i + 1 + 1 : Nat) : Int)) 8 (b01 (i + 2 < n))) (fun k a b => by simp only [upI_at, if_neg a, if_neg b]) rfl (fun _ => rfl)
        simp only [e_Model_isWord_21, e_Model_isWord_42, e_Model_isWord_43, kR_l, kR_r, kP_0, kP_i, kP_r, kP_n, kP_s, kP_o, kLen_I, kLen_L, kLen_R, kLdI_0, kLdI_1, kLdI_2, kLdI_3, kStI_0, kStI_1, kLdL_e, kStL_e, kLdR_e, kStR_e, kFld_e, kNth_0, kNth_s, kPut_e, fit_I, fit_Z, fit_B, fit_C, fit_A, fit_O, Option.toList_some, Option.toList_none, List.cons_append, List.nil_append, true_and, and_true, List.set_cons_zero, List.set_cons_succ, st_same, Int.toNat_natCast, Int.cast_ofNat_Int, Nat.zero_add, Nat.reduceAdd, kRcv_1, kRcv_2, kRcv_3, kRcv_0, kRcv_4, kRcv_5, setMd_set, Mdo, Mda1, Mdw1, Mda2, Mdw2, Mda3, Mdw3, Mda4, Mdw4, Mda5, Mdw5, Mda6, Mdw6, Mda7, Mdw7, Mda8, Mdw8, Mda9, Mdw9, Mda10, Mdw10, Mda11, Mdw11, Mdp3, Mdp5, Mdp6, Mdp7, Mdp8, Mdp10, Mdp16, Mdp17, Mdp18]
        all_goals ((repeat' (first | with_reducible refine And.intro ?_ ?_ | intro _)) <;> first | with_reducible assumption | exact True.intro | with_reducible exact hq | omega | (simp only [inR] at *; omega) | exact hq | with_reducible rfl | rfl | (simp; done) | (exfalso; simp_all; done) | skip)
    · rw [s_sg0 (m := upI m 7 ((i + 1 : Nat) : Int)) (i := i + 1) hG rfl h5 hn (by omega) ht (hw 1 (by omega)) c1]
      have e : mtc (cA (A 4) n) w i L 0 = 1 := by
        rcases hL with ⟨rfl, -⟩ | ⟨rfl, -⟩ <;> simp only [mtc, Nat.add_zero, Nat.zero_add, Nat.reduceAdd, c0, c1, if_true, if_false]
      rw [e, if_neg (by omega)] at hQ
      have hq := hQ (upI (upI m 7 ((i + 1 : Nat) : Int)) 8 (b01 (i + 1 < n))) (fun k a b => by simp only [upI_at, if_neg a, if_neg b]) rfl (fun _ => rfl)
      simp only [e_Model_isWord_13, e_Model_isWord_42, e_Model_isWord_43, kR_l, kR_r, kP_0, kP_i, kP_r, kP_n, kP_s, kP_o, kLen_I, kLen_L, kLen_R, kLdI_0, kLdI_1, kLdI_2, kLdI_3, kStI_0, kStI_1, kLdL_e, kStL_e, kLdR_e, kStR_e, kFld_e, kNth_0, kNth_s, kPut_e, fit_I, fit_Z, fit_B, fit_C, fit_A, fit_O, Option.toList_some, Option.toList_none, List.cons_append, List.nil_append, true_and, and_true, List.set_cons_zero, List.set_cons_succ, st_same, Int.toNat_natCast, Int.cast_ofNat_Int, Nat.zero_add, Nat.reduceAdd, kRcv_1, kRcv_2, kRcv_3, kRcv_0, kRcv_4, kRcv_5, setMd_set, Mdo, Mda1, Mdw1, Mda2, Mdw2, Mda3, Mdw3, Mda4, Mdw4, Mda5, Mdw5, Mda6, Mdw6, Mda7, Mdw7, Mda8, Mdw8, Mda9, Mdw9, Mda10, Mdw10, Mda11, Mdw11, Mdp3, Mdp5, Mdp6, Mdp7, Mdp8, Mdp10, Mdp16, Mdp17, Mdp18]
      all_goals ((repeat' (first | with_reducible refine And.intro ?_ ?_ | intro _)) <;> first | with_reducible assumption | exact True.intro | with_reducible exact hq | omega | (simp only [inR] at *; omega) | exact hq | with_reducible rfl | rfl | (simp; done) | (exfalso; simp_all; done) | skip)
  · rw [s_sg0 hG h7 h5 hn hi ht (hw 0 (by omega)) c0]
    have e : mtc (cA (A 4) n) w i L 0 = 0 := by
      rcases hL with ⟨rfl, -⟩ | ⟨rfl, -⟩ <;> simp only [mtc, Nat.add_zero, Nat.zero_add, Nat.reduceAdd, c0, if_true, if_false]
    rw [e, if_neg (by omega)] at hQ
    have hq := hQ (upI m 8 (b01 (i < n))) (fun k a b => by simp only [upI_at, if_neg b]) h7 (fun _ => rfl)
    simp only [e_Model_isWord_5, e_Model_isWord_42, e_Model_isWord_43, kR_l, kR_r, kP_0, kP_i, kP_r, kP_n, kP_s, kP_o, kLen_I, kLen_L, kLen_R, kLdI_0, kLdI_1, kLdI_2, kLdI_3, kStI_0, kStI_1, kLdL_e, kStL_e, kLdR_e, kStR_e, kFld_e, kNth_0, kNth_s, kPut_e, fit_I, fit_Z, fit_B, fit_C, fit_A, fit_O, Option.toList_some, Option.toList_none, List.cons_append, List.nil_append, true_and, and_true, List.set_cons_zero, List.set_cons_succ, st_same, Int.toNat_natCast, Int.cast_ofNat_Int, Nat.zero_add, Nat.reduceAdd, kRcv_1, kRcv_2, kRcv_3, kRcv_0, kRcv_4, kRcv_5, setMd_set, Mdo, Mda1, Mdw1, Mda2, Mdw2, Mda3, Mdw3, Mda4, Mdw4, Mda5, Mdw5, Mda6, Mdw6, Mda7, Mdw7, Mda8, Mdw8, Mda9, Mdw9, Mda10, Mdw10, Mda11, Mdw11, Mdp3, Mdp5, Mdp6, Mdp7, Mdp8, Mdp10, Mdp16, Mdp17, Mdp18]
    all_goals ((repeat' (first | with_reducible refine And.intro ?_ ?_ | intro _)) <;> first | with_reducible assumption | exact True.intro | with_reducible exact hq | omega | (simp only [inR] at *; omega) | exact hq | with_reducible rfl | rfl | (simp; done) | (exfalso; simp_all; done) | skip)
end TX
