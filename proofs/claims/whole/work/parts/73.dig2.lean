/-! DIGGING A WAY, by what it is -/
def tcW (pl : Nat → Nat) (b N j : Nat) : Prop := ∃ k, k < N ∧ ∃ w, w < b * b ∧ j = sqW pl b k w
theorem dgW_at {s : Nat → Int} {pl : Nat → Nat} {b k : Nat} {c : (Nat → Int) × Int} (j : Nat) : ∀ w, ((∃ w', w' < w ∧ j = sqW pl b k w') → (dgW s pl b k w c).1 j = -1) ∧ ((¬ ∃ w', w' < w ∧ j = sqW pl b k w') → (dgW s pl b k w c).1 j = c.1 j)
  | 0 => ⟨fun ⟨w', h, _⟩ => absurd h (by omega), fun _ => rfl⟩
  | w + 1 => by
    obtain ⟨i1, i2⟩ := dgW_at (s := s) (pl := pl) (b := b) (k := k) (c := c) j w
    unfold dgW
    simp only [upI_at]
    by_cases e : j = sqW pl b k w
    · rw [if_pos e]
      exact ⟨fun _ => rfl, fun h => absurd ⟨w, by omega, e⟩ h⟩
    · rw [if_neg e]
      refine ⟨fun ⟨w', h1, h2⟩ => i1 ⟨w', ?_, h2⟩, fun h => i2 (fun ⟨w', h1, h2⟩ => h ⟨w', by omega, h2⟩)⟩
      by_cases e2 : w' = w
      · rw [e2] at h2
        exact absurd h2 e
      · omega
theorem dgK_at {s : Nat → Int} {pl : Nat → Nat} {b : Nat} (j : Nat) : ∀ N, (tcW pl b N j → (dgK s pl b N).1 j = -1) ∧ (¬ tcW pl b N j → (dgK s pl b N).1 j = s j)
  | 0 => ⟨fun ⟨k, h, _⟩ => absurd h (by omega), fun _ => rfl⟩
  | N + 1 => by
    obtain ⟨i1, i2⟩ := dgK_at (s := s) (pl := pl) (b := b) j N
    obtain ⟨h1, h2⟩ := dgW_at (s := s) (pl := pl) (b := b) (k := N) (c := dgK s pl b N) j (b * b)
    show (_ → (dgW s pl b N (b * b) (dgK s pl b N)).1 j = -1) ∧ (_ → (dgW s pl b N (b * b) (dgK s pl b N)).1 j = s j)
    by_cases e : ∃ w', w' < b * b ∧ j = sqW pl b N w'
    · obtain ⟨w', g1, g2⟩ := e
      exact ⟨fun _ => h1 ⟨w', g1, g2⟩, fun h => absurd ⟨N, by omega, w', g1, g2⟩ h⟩
    · rw [h2 e]
      refine ⟨fun ⟨k, g1, w, g2, g3⟩ => i1 ⟨k, ?_, w, g2, g3⟩, fun h => i2 (fun ⟨k, g1, g2⟩ => h ⟨k, by omega, g2⟩)⟩
      by_cases e2 : k = N
      · rw [e2] at g3
        exact absurd ⟨w, g2, g3⟩ e
      · omega
theorem b01_c {p q : Prop} [Decidable p] [Decidable q] (h : p ↔ q) : b01 p = b01 q := by
  by_cases hp : p
  · rw [b01_t hp, b01_t (h.mp hp)]
  · rw [b01_f hp, b01_f (fun z => hp (h.mpr z))]
/-- one place of a sum changes -/
theorem sum_up {f g : Nat → Int} {q : Nat} (h : ∀ i, i ≠ q → g i = f i) : ∀ n, sumTo g n = sumTo f n + (if q < n then g q - f q else 0)
  | 0 => by simp [sumTo]
  | n + 1 => by
    have ih := sum_up h n
    rw [sum_s, sum_s, ih]
    by_cases e : n = q
    · subst e
      rw [if_neg (by omega), if_pos (by omega)]
      omega
    · rw [h n e]
      by_cases e2 : q < n
      · rw [if_pos e2, if_pos (by omega)]
        omega
      · rw [if_neg e2, if_neg (by omega)]
        omega
def cnD (s F : Nat → Int) : Int := sumTo (fun j => b01 (s j = -2 ∧ F j = -1)) 192
theorem cnD_up {s F : Nat → Int} {q : Nat} (hq : q < 192) (hF : ∀ j, F j = s j ∨ F j = -1) : cnD s (upI F q (-1)) = cnD s F + b01 (F q = -2) := by
  unfold cnD
  rw [sum_up (f := fun j => b01 (s j = -2 ∧ F j = -1)) (q := q) (fun i hi => b01_c (by rw [upI_at, if_neg hi])) 192, if_pos hq]
  show _ + (b01 (s q = -2 ∧ upI F q (-1) q = -1) - b01 (s q = -2 ∧ F q = -1)) = _
  rw [upI_eq]
  rcases hF q with h | h
  · rw [h]
    by_cases e : s q = -2
    · rw [b01_t (show s q = -2 ∧ (-1 : Int) = -1 from ⟨e, rfl⟩), b01_f (by omega), b01_t e]
      omega
    · rw [b01_f (by omega), b01_f (by omega), b01_f e]
      omega
  · rw [h]
    by_cases e : s q = -2
    · rw [b01_t (show s q = -2 ∧ (-1 : Int) = -1 from ⟨e, rfl⟩), b01_f (show ¬ (-1 : Int) = -2 by omega)]
      omega
    · rw [b01_f (show ¬ (s q = -2 ∧ (-1 : Int) = -1) by omega), b01_f (show ¬ (-1 : Int) = -2 by omega)]
      omega
theorem dgW_cn {s : Nat → Int} {pl : Nat → Nat} {b k : Nat} {c : (Nat → Int) × Int} (hq : ∀ w, w < b * b → sqW pl b k w < 192) (hc : ∀ j, c.1 j = s j ∨ c.1 j = -1) (h2 : c.2 = cnD s c.1) : ∀ w, w ≤ b * b → (∀ j, (dgW s pl b k w c).1 j = s j ∨ (dgW s pl b k w c).1 j = -1) ∧ (dgW s pl b k w c).2 = cnD s (dgW s pl b k w c).1
  | 0, _ => ⟨hc, h2⟩
  | w + 1, hw => by
    obtain ⟨i1, i2⟩ := dgW_cn (s := s) (pl := pl) (b := b) (k := k) (c := c) hq hc h2 w (by omega)
    unfold dgW
    refine ⟨fun j => ?_, ?_⟩
    · show upI (dgW s pl b k w c).1 (sqW pl b k w) (-1) j = s j ∨ upI (dgW s pl b k w c).1 (sqW pl b k w) (-1) j = -1
      rw [upI_at]
      split
      · exact Or.inr rfl
      · exact i1 j
    · show (dgW s pl b k w c).2 + b01 ((dgW s pl b k w c).1 (sqW pl b k w) = -2) = cnD s (upI (dgW s pl b k w c).1 (sqW pl b k w) (-1))
      rw [cnD_up (hq w (by omega)) i1, i2]
theorem dgK_cn {s : Nat → Int} {pl : Nat → Nat} {b : Nat} : ∀ N, (∀ k, k < N → ∀ w, w < b * b → sqW pl b k w < 192) → (∀ j, (dgK s pl b N).1 j = s j ∨ (dgK s pl b N).1 j = -1) ∧ (dgK s pl b N).2 = cnD s (dgK s pl b N).1
  | 0, _ => ⟨fun j => Or.inl rfl, by
    show (0 : Int) = cnD s s
    unfold cnD
    rw [sum_zero 192 (fun i _ => b01_f (by omega))]⟩
  | N + 1, hq => by
    obtain ⟨i1, i2⟩ := dgK_cn (s := s) (pl := pl) (b := b) N (fun k hk => hq k (by omega))
    exact dgW_cn (hq N (by omega)) i1 i2 (b * b) (Nat.le_refl _)
theorem sqW_lt {pl : Nat → Nat} {b k w : Nat} (hb : 1 ≤ b) (h1 : pl k % 16 + b ≤ 16) (h2 : pl k / 16 + b ≤ 12) (hw : w < b * b) : sqW pl b k w < 192 := by
  have hm := Nat.mod_lt w (show 0 < b by omega)
  have hd : w / b < b := Nat.div_lt_of_lt_mul hw
  unfold sqW
  omega
/-- the least way dug: the squares, how many were rock -/
def dgP (s : Nat → Int) (a b : Nat) : (Nat → Int) × Int := dgK s (plW s a b) (bdM s a b) (nW s a b)
theorem dgP_sq {s : Nat → Int} {a b : Nat} (hw : 0 ≤ wkM s a b ∧ wkM s a b ≤ 3) : ∀ k, k < nW s a b → ∀ w, w < bdM s a b * bdM s a b → sqW (plW s a b) (bdM s a b) k w < 192 := fun k hk w hww => by
  have h := plW_ok hw hk
  exact sqW_lt (bdM_bd hw).1 h.2.1 h.2.2 hww
theorem dgP_hi {s : Nat → Int} {a b : Nat} (hw : 0 ≤ wkM s a b ∧ wkM s a b ≤ 3) {j : Nat} (hj : 192 ≤ j) : (dgP s a b).1 j = s j := by
  refine (dgK_at (s := s) j (nW s a b)).2 (fun ⟨k, hk, w, hww, e⟩ => ?_)
  have := dgP_sq hw k hk w hww
  omega
theorem dgP_OK {s : Nat → Int} {a b : Nat} (h : SOK s) : SOK (dgP s a b).1 := dgK_OK h _
theorem dgP_wk {s : Nat → Int} {a b : Nat} (hw : 0 ≤ wkM s a b ∧ wkM s a b ≤ 3) (h : WkOK s) : WkOK (dgP s a b).1 := by
  intro x y hx hy
  unfold wkM
  rw [dgP_hi hw (by omega)]
  exact h x y hx hy
theorem wkS_OK {s : Nat → Int} (h : SOK s) (a b : Nat) {w : Int} (hw : 0 ≤ w ∧ w ≤ 3) : SOK (wkS s a b w) := upI_OK (upI_OK h _ (by omega)) _ (by omega)
theorem wkS_wk {s : Nat → Int} (h : WkOK s) (a b : Nat) {w : Int} (hw : 0 ≤ w ∧ w ≤ 3) : WkOK (wkS s a b w) := by
  intro x y hx hy
  have h0 := h x y hx hy
  unfold wkM at h0 ⊢
  unfold wkS
  simp only [upI_at]
  split
  · exact hw
  · split
    · exact hw
    · exact h0
/-- an order done -/
def dmS (s : Nat → Int) (a b : Nat) (d : Int) : Int × (Nat → Int) := if thM s a = 0 ∨ thM s b = 0 then (0, s) else if d ≠ -1 then (1, wkS s a b d) else if isW s a b = 1 then (1, (dgP s a b).1) else (0, s)
theorem dmS_OK {s : Nat → Int} {a b : Nat} {d : Int} (h : SOK s) (hd : -1 ≤ d ∧ d ≤ 3) : SOK (dmS s a b d).2 := by
  unfold dmS
  split
  · exact h
  · split
    · exact wkS_OK h a b (by omega)
    · split
      · exact dgP_OK h
      · exact h
theorem dmS_wk {s : Nat → Int} {a b : Nat} {d : Int} (h : WkOK s) (ha : a < 6) (hb : b < 6) (hd : -1 ≤ d ∧ d ≤ 3) : WkOK (dmS s a b d).2 := by
  unfold dmS
  split
  · exact h
  · split
    · exact wkS_wk h a b (by omega)
    · split
      · exact dgP_wk (h a b ha hb) h
      · exact h
/-- the orders done, one after the other -/
def rnM (O : Nat → Nat × (Nat × Int)) : Nat → Nat → (Nat → Int) → Nat × (Nat → Int)
  | 0, k, s => (k, s)
  | f + 1, k, s => if (dmS s (O k).1 (O k).2.1 (O k).2.2).1 = 1 then rnM O f (k + 1) (dmS s (O k).1 (O k).2.1 (O k).2.2).2 else (k, (dmS s (O k).1 (O k).2.1 (O k).2.2).2)
def KeepD (m m' : Nat → Int) (A A' : Nat → Nat → Int) : Prop := (∀ k, k ≠ 16 → k ≠ 17 → k ≠ 18 → m' k = m k) ∧ (∀ k, k ≠ 1 → k ≠ 8 → k ≠ 9 → k ≠ 10 → A' k = A k) ∧ MdOK A'
theorem KeepD.trans {m m' m2 : Nat → Int} {A A' A2 : Nat → Nat → Int} (h1 : KeepD m m' A A') (h2 : KeepD m' m2 A' A2) : KeepD m m2 A A2 := ⟨fun k a b c => by rw [h2.1 k a b c, h1.1 k a b c], fun k a b c d => by rw [h2.2.1 k a b c d, h1.2.1 k a b c d], h2.2.2⟩
section DS
variable {G : Nat → Nat} {σ : AS} {Q : (Option AV ⊕ Nat) → AS → Prop} {M : Nat} {m : Nat → Int} {A : Nat → Nat → Int}
theorem s_does {k a b : Nat} {d : Int} (hG : G 0 ≤ M) (hs : SOK (A 1)) (hw : WkOK (A 1)) (hA : MdOK A) (hk : k ≤ 12) (ha : a < 6) (hb : b < 6) (hab : a ≠ b) (hd : -1 ≤ d ∧ d ≤ 3) (t1 : A 5 (3 * k) = (a : Nat)) (t2 : A 5 (3 * k + 1) = (b : Nat)) (t3 : A 5 (3 * k + 2) = d)
    (hQ : ∀ (m' : Nat → Int) (A' : Nat → Nat → Int), KeepD m m' A A' → A' 1 = (dmS (A 1) a b d).2 → Q (.inl (some (vI (dmS (A 1) a b d).1))) (setMd σ M m' A')) :
    CW G k_Model_does [vR M, vI (k : Nat)] (setMd σ M m A) Q := by
  have hwk := hw a b ha hb
  have hbd := bdM_bd hwk
  have e1 : (3 * (k : Int)).toNat = 3 * k := by omega
  have e2 : (3 * (k : Int) + 1).toNat = 3 * k + 1 := by omega
  have e3 : (3 * (k : Int) + 2).toNat = 3 * k + 2 := by omega
  have b1 := thM_bd (A 1) (a : Nat)
  have b2 := thM_bd (A 1) (b : Nat)
  simp only [c_Model_does, e_Model_does_0, e_Model_does_1, e_Model_does_4, e_Model_does_5, e_Model_does_6, e_Model_does_7, e_Model_does_8, e_Model_does_9, e_Model_does_10, e_Model_does_13, e_Model_does_14, e_Model_does_15, e_Model_does_16, e_Model_does_17, e_Model_does_18, e_Model_does_19, e_Model_does_20, e_Model_does_21, e_Model_does_22, e_Model_does_23, e_Model_does_24, kR_l, kR_r, kP_0, kP_i, kP_r, kP_n, kP_s, kP_o, kLen_I, kLen_L, kLen_R, kLdI_0, kLdI_1, kLdI_2, kLdI_3, kStI_0, kStI_1, kLdL_e, kStL_e, kLdR_e, kStR_e, kFld_e, kNth_0, kNth_s, kPut_e, fit_I, fit_Z, fit_B, fit_C, fit_A, fit_O, Option.toList_some, Option.toList_none, List.cons_append, List.nil_append, true_and, and_true, List.set_cons_zero, List.set_cons_succ, st_same, Int.toNat_natCast, Int.cast_ofNat_Int, Nat.zero_add, Nat.reduceAdd, kRcv_1, kRcv_2, kRcv_3, kRcv_0, kRcv_4, kRcv_5, setMd_set, Mdo, Mda1, Mdw1, Mda2, Mdw2, Mda3, Mdw3, Mda4, Mdw4, Mda5, Mdw5, Mda6, Mdw6, Mda7, Mdw7, Mda8, Mdw8, Mda9, Mdw9, Mda10, Mdw10, Mda11, Mdw11, Mdp3, Mdp5, Mdp6, Mdp7, Mdp8, Mdp10, Mdp16, Mdp17, Mdp18, e1, e2, t1, t2]
  rw [s_Model_may hs (by unfold inR; omega) (by unfold inR; omega) (Or.inr rfl)]
  unfold mayM
  unfold dmS at hQ
  refine ⟨⟨by omega, by omega, by omega⟩, ⟨by omega, by omega, by omega⟩, ?_⟩
  by_cases h1 : thM (A 1) (a : Nat) = 0 ∨ thM (A 1) (b : Nat) = 0
  · rw [if_pos h1] at hQ ⊢
    have hq := hQ m A ⟨fun _ _ _ _ => rfl, fun _ _ _ _ _ => rfl, hA⟩ rfl
    simp only [e_Model_does_27, e_Model_does_30, e_Model_does_31, kR_l, kR_r, kP_0, kP_i, kP_r, kP_n, kP_s, kP_o, kLen_I, kLen_L, kLen_R, kLdI_0, kLdI_1, kLdI_2, kLdI_3, kStI_0, kStI_1, kLdL_e, kStL_e, kLdR_e, kStR_e, kFld_e, kNth_0, kNth_s, kPut_e, fit_I, fit_Z, fit_B, fit_C, fit_A, fit_O, Option.toList_some, Option.toList_none, List.cons_append, List.nil_append, true_and, and_true, List.set_cons_zero, List.set_cons_succ, st_same, Int.toNat_natCast, Int.cast_ofNat_Int, Nat.zero_add, Nat.reduceAdd, kRcv_1, kRcv_2, kRcv_3, kRcv_0, kRcv_4, kRcv_5]
    all_goals ((repeat' (first | with_reducible refine And.intro ?_ ?_ | intro _)) <;> first | with_reducible assumption | exact True.intro | with_reducible exact hq | omega | (simp only [inR] at *; omega) | exact hq | with_reducible rfl | rfl | (simp; done) | (exfalso; simp_all; done) | skip)
  · rw [if_neg h1] at hQ ⊢
    rw [if_neg (show ¬ ((a : Int) = b ∨ (1 : Int) = 0) by omega)]
    simp only [e_Model_does_27, e_Model_does_30, e_Model_does_31, e_Model_does_32, e_Model_does_33, e_Model_does_36, e_Model_does_37, e_Model_does_38, e_Model_does_39, e_Model_does_40, e_Model_does_41, e_Model_does_42, e_Model_does_43, e_Model_does_46, e_Model_does_47, e_Model_does_48, e_Model_does_49, e_Model_does_50, e_Model_does_53, e_Model_does_54, e_Model_does_55, e_Model_does_56, e_Model_does_57, e_Model_does_58, e_Model_does_59, kR_l, kR_r, kP_0, kP_i, kP_r, kP_n, kP_s, kP_o, kLen_I, kLen_L, kLen_R, kLdI_0, kLdI_1, kLdI_2, kLdI_3, kStI_0, kStI_1, kLdL_e, kStL_e, kLdR_e, kStR_e, kFld_e, kNth_0, kNth_s, kPut_e, fit_I, fit_Z, fit_B, fit_C, fit_A, fit_O, Option.toList_some, Option.toList_none, List.cons_append, List.nil_append, true_and, and_true, List.set_cons_zero, List.set_cons_succ, st_same, Int.toNat_natCast, Int.cast_ofNat_Int, Nat.zero_add, Nat.reduceAdd, kRcv_1, kRcv_2, kRcv_3, kRcv_0, kRcv_4, kRcv_5, setMd_set, Mdo, Mda1, Mdw1, Mda2, Mdw2, Mda3, Mdw3, Mda4, Mdw4, Mda5, Mdw5, Mda6, Mdw6, Mda7, Mdw7, Mda8, Mdw8, Mda9, Mdw9, Mda10, Mdw10, Mda11, Mdw11, Mdp3, Mdp5, Mdp6, Mdp7, Mdp8, Mdp10, Mdp16, Mdp17, Mdp18, e3, t3]
    by_cases h2 : d ≠ -1
    · rw [if_pos h2] at hQ
      have hq := hQ m (upA A 1 (wkS (A 1) a b d)) ⟨fun _ _ _ _ => rfl, fun k k1 _ _ _ => by rw [upA_at, if_neg k1], hA⟩ rfl
      rw [s_Model_walking hG ha hb]
      simp only [e_Model_does_62, e_Model_does_63, e_Model_does_64, kR_l, kR_r, kP_0, kP_i, kP_r, kP_n, kP_s, kP_o, kLen_I, kLen_L, kLen_R, kLdI_0, kLdI_1, kLdI_2, kLdI_3, kStI_0, kStI_1, kLdL_e, kStL_e, kLdR_e, kStR_e, kFld_e, kNth_0, kNth_s, kPut_e, fit_I, fit_Z, fit_B, fit_C, fit_A, fit_O, Option.toList_some, Option.toList_none, List.cons_append, List.nil_append, true_and, and_true, List.set_cons_zero, List.set_cons_succ, st_same, Int.toNat_natCast, Int.cast_ofNat_Int, Nat.zero_add, Nat.reduceAdd, kRcv_1, kRcv_2, kRcv_3, kRcv_0, kRcv_4, kRcv_5]
      clear hQ
      all_goals ((repeat' (first | with_reducible refine And.intro ?_ ?_ | intro _)) <;> first | with_reducible assumption | exact True.intro | with_reducible exact hq | omega | (simp only [inR] at *; omega) | exact hq | with_reducible rfl | rfl | (simp; done) | (exfalso; simp_all; done) | skip)
    · rw [if_neg h2] at hQ
      simp only [e_Model_does_65, e_Model_does_66, e_Model_does_67, e_Model_does_70, e_Model_does_71, e_Model_does_72, kR_l, kR_r, kP_0, kP_i, kP_r, kP_n, kP_s, kP_o, kLen_I, kLen_L, kLen_R, kLdI_0, kLdI_1, kLdI_2, kLdI_3, kStI_0, kStI_1, kLdL_e, kStL_e, kLdR_e, kStR_e, kFld_e, kNth_0, kNth_s, kPut_e, fit_I, fit_Z, fit_B, fit_C, fit_A, fit_O, Option.toList_some, Option.toList_none, List.cons_append, List.nil_append, true_and, and_true, List.set_cons_zero, List.set_cons_succ, st_same, Int.toNat_natCast, Int.cast_ofNat_Int, Nat.zero_add, Nat.reduceAdd, kRcv_1, kRcv_2, kRcv_3, kRcv_0, kRcv_4, kRcv_5, setMd_set, Mdo, Mda1, Mdw1, Mda2, Mdw2, Mda3, Mdw3, Mda4, Mdw4, Mda5, Mdw5, Mda6, Mdw6, Mda7, Mdw7, Mda8, Mdw8, Mda9, Mdw9, Mda10, Mdw10, Mda11, Mdw11, Mdp3, Mdp5, Mdp6, Mdp7, Mdp8, Mdp10, Mdp16, Mdp17, Mdp18]
      refine ⟨by unfold inR; omega, fun _ => ⟨⟨by omega, by omega, by omega⟩, ⟨by unfold inR; omega, by unfold inR; omega⟩, fun _ => ?_, fun z => absurd (by omega) z⟩, (fun h => by first | exact absurd h (by omega) | exact absurd trivial h | (exfalso; simp_all; done))⟩
      refine s_isWay (SAt1 σ M A) hs hG ha hb hwk hA (fun A2 q1 q2 q3 => ?_)
      have h01 := isW_bd (A 1) a b
      have eA1 : A2 1 = A 1 := q2 1 (by decide) (by decide) (by decide)
      simp only [e_Model_does_75, e_Model_does_77, e_Model_does_79, e_Model_does_82, e_Model_does_83, e_Model_does_84, e_Model_does_87, kR_l, kR_r, kP_0, kP_i, kP_r, kP_n, kP_s, kP_o, kLen_I, kLen_L, kLen_R, kLdI_0, kLdI_1, kLdI_2, kLdI_3, kStI_0, kStI_1, kLdL_e, kStL_e, kLdR_e, kStR_e, kFld_e, kNth_0, kNth_s, kPut_e, fit_I, fit_Z, fit_B, fit_C, fit_A, fit_O, Option.toList_some, Option.toList_none, List.cons_append, List.nil_append, true_and, and_true, List.set_cons_zero, List.set_cons_succ, st_same, Int.toNat_natCast, Int.cast_ofNat_Int, Nat.zero_add, Nat.reduceAdd, kRcv_1, kRcv_2, kRcv_3, kRcv_0, kRcv_4, kRcv_5, setMd_set, Mdo, Mda1, Mdw1, Mda2, Mdw2, Mda3, Mdw3, Mda4, Mdw4, Mda5, Mdw5, Mda6, Mdw6, Mda7, Mdw7, Mda8, Mdw8, Mda9, Mdw9, Mda10, Mdw10, Mda11, Mdw11, Mdp3, Mdp5, Mdp6, Mdp7, Mdp8, Mdp10, Mdp16, Mdp17, Mdp18]
      by_cases h3 : isW (A 1) a b = 1
      · rw [if_pos h3] at hQ
        rw [h3]
        refine ⟨by unfold inR; omega, (fun h => by first | exact absurd h (by omega) | exact absurd trivial h | (exfalso; simp_all; done)), fun _ => ?_⟩
        rw [s_Model_digs (j := 1) (b := bdM (A 1) a b) (N := nW (A 1) a b) (pl := plW (A 1) a b) (fun A' => Mda1 σ M _ A') (fun A' f => Mdw1 σ M _ A' f) (by omega) (by omega) (by rw [eA1]; exact hs) rfl rfl hbd.1 hbd.2 (nW_le hwk) (fun i hi => by rw [q3 i hi]; exact plW_ok hwk hi), eA1]
        have hq := hQ (mW m (A 1) a b) (upA A2 1 (dgP (A 1) a b).1) ⟨fun j a b c => by
          unfold mW
          simp only [upI_at, if_neg a, if_neg b, if_neg c], fun k k1 k2 k3 k4 => by rw [upA_at, if_neg k1, q2 k k2 k3 k4], q1⟩ rfl
        simp only [e_Model_does_90, e_Model_does_91, e_Model_does_93, kR_l, kR_r, kP_0, kP_i, kP_r, kP_n, kP_s, kP_o, kLen_I, kLen_L, kLen_R, kLdI_0, kLdI_1, kLdI_2, kLdI_3, kStI_0, kStI_1, kLdL_e, kStL_e, kLdR_e, kStR_e, kFld_e, kNth_0, kNth_s, kPut_e, fit_I, fit_Z, fit_B, fit_C, fit_A, fit_O, Option.toList_some, Option.toList_none, List.cons_append, List.nil_append, true_and, and_true, List.set_cons_zero, List.set_cons_succ, st_same, Int.toNat_natCast, Int.cast_ofNat_Int, Nat.zero_add, Nat.reduceAdd, kRcv_1, kRcv_2, kRcv_3, kRcv_0, kRcv_4, kRcv_5]
        all_goals ((repeat' (first | with_reducible refine And.intro ?_ ?_ | intro _)) <;> first | with_reducible assumption | exact True.intro | with_reducible exact hq | omega | (simp only [inR] at *; omega) | exact hq | with_reducible rfl | rfl | (simp; done) | (exfalso; simp_all; done) | skip)
      · rw [if_neg h3] at hQ
        rw [show isW (A 1) a b = 0 by omega]
        have hq := hQ (mW m (A 1) a b) A2 ⟨fun j a b c => by
          unfold mW
          simp only [upI_at, if_neg a, if_neg b, if_neg c], fun k k1 k2 k3 k4 => q2 k k2 k3 k4, q1⟩ eA1
        simp only [e_Model_does_91, e_Model_does_93, kR_l, kR_r, kP_0, kP_i, kP_r, kP_n, kP_s, kP_o, kLen_I, kLen_L, kLen_R, kLdI_0, kLdI_1, kLdI_2, kLdI_3, kStI_0, kStI_1, kLdL_e, kStL_e, kLdR_e, kStR_e, kFld_e, kNth_0, kNth_s, kPut_e, fit_I, fit_Z, fit_B, fit_C, fit_A, fit_O, Option.toList_some, Option.toList_none, List.cons_append, List.nil_append, true_and, and_true, List.set_cons_zero, List.set_cons_succ, st_same, Int.toNat_natCast, Int.cast_ofNat_Int, Nat.zero_add, Nat.reduceAdd, kRcv_1, kRcv_2, kRcv_3, kRcv_0, kRcv_4, kRcv_5]
        clear hQ
        all_goals ((repeat' (first | with_reducible refine And.intro ?_ ?_ | intro _)) <;> first | with_reducible assumption | exact True.intro | with_reducible exact hq | omega | (simp only [inR] at *; omega) | exact hq | with_reducible rfl | rfl | (simp; done) | (exfalso; simp_all; done) | skip)
end DS
