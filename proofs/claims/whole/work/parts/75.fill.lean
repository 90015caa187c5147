/-! THE REFERENCE: fillUp -/
def wkd (s : Nat → Int) (i : Nat) : Prop := i / 6 < i % 6 ∧ 0 < wkM s (i / 6) (i % 6)
def stP (s : Nat → Int) (k j : Nat) : Prop := ∃ i, i < k ∧ wkd s i ∧ opW s (i / 6) (i % 6) = 1 ∧ tcW (plW s (i / 6) (i % 6)) (bdM s (i / 6) (i % 6)) (nW s (i / 6) (i % 6)) j
noncomputable def cl01 (p : Prop) : Int := @ite Int p (Classical.propDecidable p) 1 0
theorem cl01_t {p : Prop} (h : p) : cl01 p = 1 := if_pos h
theorem cl01_f {p : Prop} (h : ¬ p) : cl01 p = 0 := if_neg h
theorem cl01_bd (p : Prop) : 0 ≤ cl01 p ∧ cl01 p ≤ 1 := by
  by_cases h : p
  · rw [cl01_t h]; omega
  · rw [cl01_f h]; omega
theorem cl01_c {p q : Prop} (h : p ↔ q) : cl01 p = cl01 q := by
  by_cases hp : p
  · rw [cl01_t hp, cl01_t (h.mp hp)]
  · rw [cl01_f hp, cl01_f (fun z => hp (h.mpr z))]
noncomputable def flI (s : Nat → Int) (i : Nat) : Nat → Int := fun j => if cl01 (j < i ∧ s j = -1 ∧ ¬ stP s 36 j) = 1 then -2 else s j
noncomputable def flS (s : Nat → Int) : Nat → Int := flI s 192
noncomputable def flN (s : Nat → Int) : Int := sumTo (fun j => cl01 (s j = -1 ∧ ¬ stP s 36 j)) 192
theorem flI_t {s : Nat → Int} {i j : Nat} (h : j < i ∧ s j = -1 ∧ ¬ stP s 36 j) : flI s i j = -2 := by
  unfold flI
  rw [if_pos (cl01_t h)]
theorem flI_f {s : Nat → Int} {i j : Nat} (h : ¬ (j < i ∧ s j = -1 ∧ ¬ stP s 36 j)) : flI s i j = s j := by
  unfold flI
  rw [cl01_f h, if_neg (by omega)]
theorem flI_0 (s : Nat → Int) : flI s 0 = s := by
  funext j
  exact flI_f (fun z => absurd z.1 (by omega))
theorem flI_at (s : Nat → Int) (i : Nat) : flI s i i = s i := flI_f (fun z => absurd z.1 (by omega))
theorem flI_up (s : Nat → Int) (i : Nat) {v : Int} (h1 : s i = -1 ∧ ¬ stP s 36 i → v = -2) (h2 : ¬ (s i = -1 ∧ ¬ stP s 36 i) → v = s i) : upI (flI s i) i v = flI s (i + 1) := by
  funext j
  rw [upI_at]
  by_cases e : j = i
  · rw [if_pos e, e]
    by_cases c : s i = -1 ∧ ¬ stP s 36 i
    · rw [h1 c, flI_t ⟨by omega, c⟩]
    · rw [h2 c, flI_f (fun z => c z.2)]
  · rw [if_neg e]
    by_cases c : j < i ∧ s j = -1 ∧ ¬ stP s 36 j
    · rw [flI_t c, flI_t ⟨by omega, c.2⟩]
    · rw [flI_f c, flI_f (fun z => c ⟨by omega, z.2⟩)]
theorem flI_OK {s : Nat → Int} (h : SOK s) (i : Nat) : SOK (flI s i) := by
  intro k
  by_cases c : k < i ∧ s k = -1 ∧ ¬ stP s 36 k
  · rw [flI_t c]; omega
  · rw [flI_f c]; exact h k
/-- marking a way: by one counter -/
theorem tcW_flat {pl : Nat → Nat} {b N j : Nat} (hb : 1 ≤ b) : (∃ q, q < N * (b * b) ∧ j = sqW pl b (q / (b * b)) (q % (b * b))) ↔ tcW pl b N j := by
  have hbb : 0 < b * b := Nat.mul_pos hb hb
  constructor
  · rintro ⟨q, h1, h2⟩
    exact ⟨q / (b * b), Nat.div_lt_of_lt_mul (by rw [Nat.mul_comm]; exact h1), q % (b * b), Nat.mod_lt _ hbb, h2⟩
  · rintro ⟨k, hk, w, hw, e⟩
    refine ⟨k * (b * b) + w, ?_, ?_⟩
    · have : (k + 1) * (b * b) ≤ N * (b * b) := Nat.mul_le_mul_right _ hk
      rw [Nat.add_mul, Nat.one_mul] at this
      omega
    · rw [e, Nat.add_comm, Nat.add_mul_div_right _ _ hbb, Nat.add_mul_mod_self_right, Nat.div_eq_of_lt hw, Nat.mod_eq_of_lt hw, Nat.zero_add]
theorem stP_s {s : Nat → Int} {k j : Nat} : stP s (k + 1) j ↔ stP s k j ∨ (wkd s k ∧ opW s (k / 6) (k % 6) = 1 ∧ tcW (plW s (k / 6) (k % 6)) (bdM s (k / 6) (k % 6)) (nW s (k / 6) (k % 6)) j) := by
  constructor
  · rintro ⟨i, h1, h2⟩
    by_cases e : i = k
    · rw [e] at h2
      exact Or.inr h2
    · exact Or.inl ⟨i, by omega, h2⟩
  · rintro (⟨i, h1, h2⟩ | h)
    · exact ⟨i, by omega, h2⟩
    · exact ⟨k, by omega, h⟩
/-- marks -/
def MkP (F : Nat → Int) (P : Nat → Prop) : Prop := ∀ j, j < 192 → (P j → F j = 1) ∧ (¬ P j → F j = 0)
theorem MkP.up {F : Nat → Int} {P : Nat → Prop} (h : MkP F P) (q : Nat) : MkP (upI F q 1) (fun j => P j ∨ j = q) := by
  intro j hj
  rw [upI_at]
  by_cases e : j = q
  · rw [if_pos e]
    exact ⟨fun _ => rfl, fun z => absurd (Or.inr e) z⟩
  · rw [if_neg e]
    exact ⟨fun z => (h j hj).1 (z.elim id (fun y => absurd y e)), fun z => (h j hj).2 (fun y => z (Or.inl y))⟩
theorem MkP.iff {F : Nat → Int} {P R : Nat → Prop} (h : MkP F P) (e : ∀ j, P j ↔ R j) : MkP F R := fun j hj => ⟨fun z => (h j hj).1 ((e j).mpr z), fun z => (h j hj).2 (fun y => z ((e j).mp y))⟩
theorem opW_1 {s : Nat → Int} {a b : Nat} (h : opW s a b = 1) : isW s a b = 1 ∧ cW s a b = 0 := by
  unfold opW at h
  split at h
  · assumption
  · omega
def KeepF (m m' : Nat → Int) (A A' : Nat → Nat → Int) : Prop := (∀ k, k ≠ 16 → k ≠ 17 → k ≠ 18 → m' k = m k) ∧ (∀ k, k ≠ 8 → k ≠ 9 → k ≠ 10 → k ≠ 11 → A' k = A k) ∧ MdOK A'
section FU
variable {G : Nat → Nat} {σ : AS} {Q : (Option AV ⊕ Nat) → AS → Prop} {M : Nat} {m : Nat → Int} {A : Nat → Nat → Int}
/-- the marking of one way -/
theorem fu_mark {k b N : Nat} {pl : Nat → Nat} {z3 : Option AV} {P : Nat → Prop} (hG : G 0 ≤ M) (hz3 : zI z3) (h16 : m 16 = (N : Nat)) (h18 : m 18 = (b : Nat)) (hb : 1 ≤ b) (hb3 : b ≤ 3) (hN : N ≤ 192) (hpl : ∀ k, k < N → A 10 k = (pl k : Nat)) (hsq : ∀ k, k < N → ∀ w, w < b * b → sqW pl b k w < 192) (hF : MkP (A 11) P)
    (hQ : ∀ F : Nat → Int, MkP F (fun j => P j ∨ tcW pl b N j) → ∀ z2 z3, zI z2 → zI z3 → WP G k_Model_fillUp 164 [some (vR M), some (vI (k : Nat)), z2, z3] [] (setMd σ M m (upA A 11 F)) Q) :
    WP G k_Model_fillUp 89 [some (vR M), some (vI (k : Nat)), some (vI 0), z3] [] (setMd σ M m A) Q := by
  have hbb := bb9 hb3
  have hbp : 0 < b * b := Nat.mul_pos hb hb
  have hNb : N * (b * b) ≤ 192 * 9 := Nat.mul_le_mul hN hbb
  have eN : ((N : Int) * b * b) = ((N * (b * b) : Nat) : Int) := by
    rw [Int.mul_assoc, Int.natCast_mul, Int.natCast_mul]
  have eN' : N * b * b = N * (b * b) := Nat.mul_assoc N b b
  have key := upS (fun q (F : Nat → Int) => ∀ z3, zI z3 → WP G k_Model_fillUp 89 [some (vR M), some (vI (k : Nat)), some (vI (q : Nat)), z3] [] (setMd σ M m (upA A 11 F)) Q) (fun q F => MkP F (fun j => P j ∨ ∃ q', q' < q ∧ j = sqW pl b (q' / (b * b)) (q' % (b * b)))) (n := N * (b * b)) ?_ ?_
  · have k0 := key (A 11) (hF.iff (fun j => ⟨fun z => Or.inl z, fun z => z.elim id (fun ⟨q', h, _⟩ => absurd h (by omega))⟩)) z3 hz3
    rw [upA_self] at k0
    exact k0
  · intro q F hq hMk ih z3 hz3
    have hk1 : q / (b * b) < N := Nat.div_lt_of_lt_mul (by rw [Nat.mul_comm]; exact hq)
    have hw1 : q % (b * b) < b * b := Nat.mod_lt _ hbp
    have hs1 := hsq _ hk1 _ hw1
    have hdm := dm hb (q % (b * b))
    have e : (A 10 (q / (b * b)) + ((q % (b * b) % b : Nat) : Int) + 16 * ((q % (b * b) / b : Nat) : Int)) = (sqW pl b (q / (b * b)) (q % (b * b)) : Nat) := by
      unfold sqW
      rw [hpl _ hk1]
      omega
    have nx := ih _ (MkP.iff (hMk.up (sqW pl b (q / (b * b)) (q % (b * b)))) (fun j => by
      constructor
      · rintro ((z | ⟨q', h1, h2⟩) | z)
        · exact Or.inl z
        · exact Or.inr ⟨q', by omega, h2⟩
        · exact Or.inr ⟨q, by omega, z⟩
      · rintro (z | ⟨q', h1, h2⟩)
        · exact Or.inl (Or.inl z)
        · by_cases ee : q' = q
          · rw [ee] at h2
            exact Or.inr h2
          · exact Or.inl (Or.inr ⟨q', by omega, h2⟩))) (some (vI ((q % (b * b) : Nat) : Int))) (zI_s _)
    have hlt : ((q : Nat) : Int) < ((N * (b * b) : Nat) : Int) := Int.ofNat_lt.mpr hq
    have hk2 : ((q / (b * b) : Nat) : Int) < N := Int.ofNat_lt.mpr hk1
    clear ih hQ
    rw [e_Model_fillUp_89]
    simp only [e_Model_fillUp_90, e_Model_fillUp_91, e_Model_fillUp_94, e_Model_fillUp_95, e_Model_fillUp_98, e_Model_fillUp_99, e_Model_fillUp_100, e_Model_fillUp_103, e_Model_fillUp_104, e_Model_fillUp_107, e_Model_fillUp_108, e_Model_fillUp_109, e_Model_fillUp_112, e_Model_fillUp_113, e_Model_fillUp_116, e_Model_fillUp_117, e_Model_fillUp_118, e_Model_fillUp_119, e_Model_fillUp_120, e_Model_fillUp_123, e_Model_fillUp_124, e_Model_fillUp_127, e_Model_fillUp_128, e_Model_fillUp_129, e_Model_fillUp_132, e_Model_fillUp_133, e_Model_fillUp_136, e_Model_fillUp_137, e_Model_fillUp_138, e_Model_fillUp_139, e_Model_fillUp_140, e_Model_fillUp_141, e_Model_fillUp_144, e_Model_fillUp_145, e_Model_fillUp_146, e_Model_fillUp_148, e_Model_fillUp_149, e_Model_fillUp_150, e_Model_fillUp_153, e_Model_fillUp_154, e_Model_fillUp_155, e_Model_fillUp_156, e_Model_fillUp_157, e_Model_fillUp_158, e_Model_fillUp_161, kR_l, kR_r, kP_0, kP_i, kP_r, kP_n, kP_s, kP_o, kLen_I, kLen_L, kLen_R, kLdI_0, kLdI_1, kLdI_2, kLdI_3, kStI_0, kStI_1, kLdL_e, kStL_e, kLdR_e, kStR_e, kFld_e, kNth_0, kNth_s, kPut_e, fit_I, fit_Z, fit_B, fit_C, fit_A, fit_O, Option.toList_some, Option.toList_none, List.cons_append, List.nil_append, true_and, and_true, List.set_cons_zero, List.set_cons_succ, st_same, Int.toNat_natCast, Int.cast_ofNat_Int, Nat.zero_add, Nat.reduceAdd, kRcv_1, kRcv_2, kRcv_3, kRcv_0, kRcv_4, kRcv_5, setMd_set, Mdo, Mda1, Mdw1, Mda2, Mdw2, Mda3, Mdw3, Mda4, Mdw4, Mda5, Mdw5, Mda6, Mdw6, Mda7, Mdw7, Mda8, Mdw8, Mda9, Mdw9, Mda10, Mdw10, Mda11, Mdw11, Mdp3, Mdp5, Mdp6, Mdp7, Mdp8, Mdp10, Mdp16, Mdp17, Mdp18, h16, h18, ← Int.natCast_mul, eN', ← Int.natCast_emod, ← Int.natCast_ediv, kP_z hz3, upA_at, upA_upA, reduceIte, Nat.reduceEqDiff, e]
    generalize sqW pl b (q / (b * b)) (q % (b * b)) = v at *
    generalize N * (b * b) = NB at *
    have hn1 : 0 ≤ ((q / (b * b) : Nat) : Int) := Int.natCast_nonneg _
    have hn2 : 0 ≤ ((q % (b * b) : Nat) : Int) := Int.natCast_nonneg _
    have hn3 : ((q % (b * b) : Nat) : Int) < ((b * b : Nat) : Int) := Int.ofNat_lt.mpr hw1
    generalize q / (b * b) = q1 at *
    generalize q % (b * b) = q2 at *
    generalize b * b = bb at *
    all_goals ((repeat' (first | with_reducible refine And.intro ?_ ?_ | intro _)) <;> first | with_reducible assumption | exact True.intro | with_reducible exact nx | omega | (simp only [inR] at *; omega) | exact nx | with_reducible rfl | rfl | (simp; done) | (exfalso; simp_all; done) | skip)
  · intro F hMk z3 hz3
    have hq := hQ F (hMk.iff (fun j => by rw [tcW_flat hb])) (some (vI ((N * (b * b) : Nat) : Int))) z3 (zI_s _) hz3
    clear hQ
    rw [e_Model_fillUp_89]
    simp only [e_Model_fillUp_90, e_Model_fillUp_91, e_Model_fillUp_94, e_Model_fillUp_95, e_Model_fillUp_98, e_Model_fillUp_99, e_Model_fillUp_100, e_Model_fillUp_103, e_Model_fillUp_104, kR_l, kR_r, kP_0, kP_i, kP_r, kP_n, kP_s, kP_o, kLen_I, kLen_L, kLen_R, kLdI_0, kLdI_1, kLdI_2, kLdI_3, kStI_0, kStI_1, kLdL_e, kStL_e, kLdR_e, kStR_e, kFld_e, kNth_0, kNth_s, kPut_e, fit_I, fit_Z, fit_B, fit_C, fit_A, fit_O, Option.toList_some, Option.toList_none, List.cons_append, List.nil_append, true_and, and_true, List.set_cons_zero, List.set_cons_succ, st_same, Int.toNat_natCast, Int.cast_ofNat_Int, Nat.zero_add, Nat.reduceAdd, kRcv_1, kRcv_2, kRcv_3, kRcv_0, kRcv_4, kRcv_5, setMd_set, Mdo, Mda1, Mdw1, Mda2, Mdw2, Mda3, Mdw3, Mda4, Mdw4, Mda5, Mdw5, Mda6, Mdw6, Mda7, Mdw7, Mda8, Mdw8, Mda9, Mdw9, Mda10, Mdw10, Mda11, Mdw11, Mdp3, Mdp5, Mdp6, Mdp7, Mdp8, Mdp10, Mdp16, Mdp17, Mdp18, h16, h18, eN]
    refine ⟨⟨by unfold inR; omega, by unfold inR; omega⟩, fun _ => hq, fun z => absurd (Int.le_refl _) z⟩
theorem s_fillUp {kp : Nat} (hG : G 0 ≤ M) (hs : SOK (A 1)) (hw : WkOK (A 1)) (hA : MdOK A) (hk : m 3 = (kp : Nat)) (hkp : kp ≤ 6)
    (hQ : ∀ (m' : Nat → Int) (A' : Nat → Nat → Int), KeepF (upI (upI m 6 0) 3 (svK kp : Nat)) m' (svA A kp) A' → Q (.inl (some (vI (flN (A 1))))) (setMd σ M m' (upA A' 1 (flS (A 1))))) :
    CW G k_Model_fillUp [vR M] (setMd σ M m A) Q := by
  simp only [c_Model_fillUp, e_Model_fillUp_0, e_Model_fillUp_1, e_Model_fillUp_2, e_Model_fillUp_5, e_Model_fillUp_6, kR_l, kR_r, kP_0, kP_i, kP_r, kP_n, kP_s, kP_o, kLen_I, kLen_L, kLen_R, kLdI_0, kLdI_1, kLdI_2, kLdI_3, kStI_0, kStI_1, kLdL_e, kStL_e, kLdR_e, kStR_e, kFld_e, kNth_0, kNth_s, kPut_e, fit_I, fit_Z, fit_B, fit_C, fit_A, fit_O, Option.toList_some, Option.toList_none, List.cons_append, List.nil_append, true_and, and_true, List.set_cons_zero, List.set_cons_succ, st_same, Int.toNat_natCast, Int.cast_ofNat_Int, Nat.zero_add, Nat.reduceAdd, kRcv_1, kRcv_2, kRcv_3, kRcv_0, kRcv_4, kRcv_5, setMd_set, Mdo, Mda1, Mdw1, Mda2, Mdw2, Mda3, Mdw3, Mda4, Mdw4, Mda5, Mdw5, Mda6, Mdw6, Mda7, Mdw7, Mda8, Mdw8, Mda9, Mdw9, Mda10, Mdw10, Mda11, Mdw11, Mdp3, Mdp5, Mdp6, Mdp7, Mdp8, Mdp10, Mdp16, Mdp17, Mdp18, List.length_cons, List.length_nil]
  refine ⟨⟨by omega, by omega⟩, ?_⟩
  rw [s_Model_saves hG (show upI m 6 0 3 = (kp : Nat) from hk) hkp]
  simp only [e_Model_fillUp_9, e_Model_fillUp_10, kR_l, kR_r, kP_0, kP_i, kP_r, kP_n, kP_s, kP_o, kLen_I, kLen_L, kLen_R, kLdI_0, kLdI_1, kLdI_2, kLdI_3, kStI_0, kStI_1, kLdL_e, kStL_e, kLdR_e, kStR_e, kFld_e, kNth_0, kNth_s, kPut_e, fit_I, fit_Z, fit_B, fit_C, fit_A, fit_O, Option.toList_some, Option.toList_none, List.cons_append, List.nil_append, true_and, and_true, List.set_cons_zero, List.set_cons_succ, st_same, Int.toNat_natCast, Int.cast_ofNat_Int, Nat.zero_add, Nat.reduceAdd, kRcv_1, kRcv_2, kRcv_3, kRcv_0, kRcv_4, kRcv_5]
  have hAs : MdOK (svA A kp) := hA.sv kp
  have e1 : svA A kp 1 = A 1 := svA_at A kp 1 (by decide)
  have eA : upA A 3 (svF (A 1) (A 3) kp) = svA A kp := rfl
  rw [eA]
  generalize hm0 : upI (upI m 6 0) 3 (svK kp : Nat) = m0 at *
  generalize hA0 : svA A kp = A0 at *
  generalize hs0 : A 1 = s at *
  have k1 := up (fun i => WP G k_Model_fillUp 11 [some (vR M), some (vI (i : Nat)), none, none] [] (setMd σ M m0 (upA A0 11 (fun j => if j < i then 0 else A0 11 j))) Q) (n := 192) ?_ ?_
  · have e : (fun j => if j < 0 then 0 else A0 11 j) = A0 11 := by
      funext j
      rw [if_neg (by omega)]
    rw [e, upA_self] at k1
    exact k1
  · intro i hi ih
    have e : upI (fun j => if j < i then 0 else A0 11 j) i 0 = fun j => if j < i + 1 then 0 else A0 11 j := by
      funext j
      simp only [upI_at]
      by_cases h1 : j = i
      · rw [if_pos h1, if_pos (by omega)]
      · rw [if_neg h1]
        by_cases h2 : j < i
        · rw [if_pos h2, if_pos (by omega)]
        · rw [if_neg h2, if_neg (by omega)]
    rw [e_Model_fillUp_11]
    simp only [e_Model_fillUp_12, e_Model_fillUp_15, e_Model_fillUp_18, e_Model_fillUp_19, e_Model_fillUp_22, e_Model_fillUp_23, e_Model_fillUp_24, e_Model_fillUp_25, e_Model_fillUp_28, kR_l, kR_r, kP_0, kP_i, kP_r, kP_n, kP_s, kP_o, kLen_I, kLen_L, kLen_R, kLdI_0, kLdI_1, kLdI_2, kLdI_3, kStI_0, kStI_1, kLdL_e, kStL_e, kLdR_e, kStR_e, kFld_e, kNth_0, kNth_s, kPut_e, fit_I, fit_Z, fit_B, fit_C, fit_A, fit_O, Option.toList_some, Option.toList_none, List.cons_append, List.nil_append, true_and, and_true, List.set_cons_zero, List.set_cons_succ, st_same, Int.toNat_natCast, Int.cast_ofNat_Int, Nat.zero_add, Nat.reduceAdd, kRcv_1, kRcv_2, kRcv_3, kRcv_0, kRcv_4, kRcv_5, setMd_set, Mdo, Mda1, Mdw1, Mda2, Mdw2, Mda3, Mdw3, Mda4, Mdw4, Mda5, Mdw5, Mda6, Mdw6, Mda7, Mdw7, Mda8, Mdw8, Mda9, Mdw9, Mda10, Mdw10, Mda11, Mdw11, Mdp3, Mdp5, Mdp6, Mdp7, Mdp8, Mdp10, Mdp16, Mdp17, Mdp18, upA_at, upA_upA, reduceIte, Nat.reduceEqDiff, e]
    clear hQ
    all_goals ((repeat' (first | with_reducible refine And.intro ?_ ?_ | intro _)) <;> first | with_reducible assumption | exact True.intro | with_reducible exact ih | omega | (simp only [inR] at *; omega) | exact ih | with_reducible rfl | rfl | (simp; done) | (exfalso; simp_all; done) | skip)
  · rw [e_Model_fillUp_11]
    simp only [e_Model_fillUp_12, e_Model_fillUp_15, e_Model_fillUp_31, e_Model_fillUp_32, kR_l, kR_r, kP_0, kP_i, kP_r, kP_n, kP_s, kP_o, kLen_I, kLen_L, kLen_R, kLdI_0, kLdI_1, kLdI_2, kLdI_3, kStI_0, kStI_1, kLdL_e, kStL_e, kLdR_e, kStR_e, kFld_e, kNth_0, kNth_s, kPut_e, fit_I, fit_Z, fit_B, fit_C, fit_A, fit_O, Option.toList_some, Option.toList_none, List.cons_append, List.nil_append, true_and, and_true, List.set_cons_zero, List.set_cons_succ, st_same, Int.toNat_natCast, Int.cast_ofNat_Int, Nat.zero_add, Nat.reduceAdd, kRcv_1, kRcv_2, kRcv_3, kRcv_0, kRcv_4, kRcv_5]
    refine ⟨⟨by unfold inR; omega, by unfold inR; omega⟩, fun _ => ?_, (fun h => by first | exact absurd h (by omega) | exact absurd trivial h | (exfalso; simp_all; done))⟩
    have key := upS (fun k (S : (Nat → Int) × (Nat → Nat → Int)) => ∀ z2 z3, zI z2 → zI z3 → WP G k_Model_fillUp 33 [some (vR M), some (vI (k : Nat)), z2, z3] [] (setMd σ M S.1 S.2) Q) (fun k S => KeepF m0 S.1 A0 S.2 ∧ MkP (S.2 11) (stP s k)) (n := 36) ?_ ?_
    · exact key (m0, upA A0 11 (fun j => if j < 192 then 0 else A0 11 j)) ⟨⟨fun _ _ _ _ => rfl, fun k _ _ _ k1 => by dsimp only; rw [upA_at, if_neg k1], hAs⟩, fun j hj => ⟨fun ⟨i, h, _⟩ => absurd h (by omega), fun _ => if_pos hj⟩⟩ none none zI_n zI_n
    · rintro k ⟨m', A'⟩ hk6 ⟨hK, hMk⟩ ih z2 z3 hz2 hz3
      dsimp only at hK hMk ih
      have ho : k / 6 < 6 := by omega
      have ho2 : k % 6 < 6 := by omega
      have hwk := hw (k / 6) (k % 6) ho ho2
      have eA1 : A' 1 = s := by rw [hK.2.1 1 (by decide) (by decide) (by decide) (by decide), e1]
      have same := fun (hn : ¬ (wkd s k ∧ opW s (k / 6) (k % 6) = 1)) (A2 : Nat → Nat → Int) (m2 : Nat → Int) (hK2 : KeepF m0 m2 A0 A2) (e11 : A2 11 = A' 11) => ih (m2, A2) ⟨hK2, by
        dsimp only
        rw [e11]
        exact hMk.iff (fun j => ⟨fun z => stP_s.mpr (Or.inl z), fun z => (stP_s.mp z).elim id (fun y => absurd ⟨y.1, y.2.1⟩ hn)⟩)⟩
      have s0 := fun hn => same hn A' m' hK rfl
      unfold wkd at same s0
      rw [e_Model_fillUp_33]
      simp only [e_Model_fillUp_34, e_Model_fillUp_36, e_Model_fillUp_39, e_Model_fillUp_40, e_Model_fillUp_42, e_Model_fillUp_43, e_Model_fillUp_44, e_Model_fillUp_46, e_Model_fillUp_47, e_Model_fillUp_50, e_Model_fillUp_51, e_Model_fillUp_54, e_Model_fillUp_55, e_Model_fillUp_57, e_Model_fillUp_58, e_Model_fillUp_59, e_Model_fillUp_61, e_Model_fillUp_62, kR_l, kR_r, kP_0, kP_i, kP_r, kP_n, kP_s, kP_o, kLen_I, kLen_L, kLen_R, kLdI_0, kLdI_1, kLdI_2, kLdI_3, kStI_0, kStI_1, kLdL_e, kStL_e, kLdR_e, kStR_e, kFld_e, kNth_0, kNth_s, kPut_e, fit_I, fit_Z, fit_B, fit_C, fit_A, fit_O, Option.toList_some, Option.toList_none, List.cons_append, List.nil_append, true_and, and_true, List.set_cons_zero, List.set_cons_succ, st_same, Int.toNat_natCast, Int.cast_ofNat_Int, Nat.zero_add, Nat.reduceAdd, kRcv_1, kRcv_2, kRcv_3, kRcv_0, kRcv_4, kRcv_5, setMd_set, Mdo, Mda1, Mdw1, Mda2, Mdw2, Mda3, Mdw3, Mda4, Mdw4, Mda5, Mdw5, Mda6, Mdw6, Mda7, Mdw7, Mda8, Mdw8, Mda9, Mdw9, Mda10, Mdw10, Mda11, Mdw11, Mdp3, Mdp5, Mdp6, Mdp7, Mdp8, Mdp10, Mdp16, Mdp17, Mdp18, pm6, pd6, s_Model_walks ((SAt1 σ M A') m' A' rfl rfl) ho ho2, eA1]
      by_cases c1 : k / 6 < k % 6 ∧ 0 < wkM s (k / 6) (k % 6)
      · simp only [e_Model_fillUp_65, e_Model_fillUp_68, e_Model_fillUp_69, e_Model_fillUp_70, e_Model_fillUp_73, e_Model_fillUp_74, e_Model_fillUp_76, e_Model_fillUp_77, e_Model_fillUp_78, e_Model_fillUp_80, e_Model_fillUp_81, e_Model_fillUp_164, e_Model_fillUp_167, kR_l, kR_r, kP_0, kP_i, kP_r, kP_n, kP_s, kP_o, kLen_I, kLen_L, kLen_R, kLdI_0, kLdI_1, kLdI_2, kLdI_3, kStI_0, kStI_1, kLdL_e, kStL_e, kLdR_e, kStR_e, kFld_e, kNth_0, kNth_s, kPut_e, fit_I, fit_Z, fit_B, fit_C, fit_A, fit_O, Option.toList_some, Option.toList_none, List.cons_append, List.nil_append, true_and, and_true, List.set_cons_zero, List.set_cons_succ, st_same, Int.toNat_natCast, Int.cast_ofNat_Int, Nat.zero_add, Nat.reduceAdd, kRcv_1, kRcv_2, kRcv_3, kRcv_0, kRcv_4, kRcv_5, setMd_set, Mdo, Mda1, Mdw1, Mda2, Mdw2, Mda3, Mdw3, Mda4, Mdw4, Mda5, Mdw5, Mda6, Mdw6, Mda7, Mdw7, Mda8, Mdw8, Mda9, Mdw9, Mda10, Mdw10, Mda11, Mdw11, Mdp3, Mdp5, Mdp6, Mdp7, Mdp8, Mdp10, Mdp16, Mdp17, Mdp18, pm6, pd6]
        clear s0
        all_goals ((repeat' (first | with_reducible refine And.intro ?_ ?_ | intro _)) <;> first | with_reducible assumption | exact True.intro | omega | (simp only [inR] at *; omega) | exact absurd True.intro (by with_reducible assumption) | (with_reducible show WP _ _ _ _ _ _ _) | (with_reducible show CW _ _ _ _ _) | with_reducible rfl | rfl | (simp; done) | (exfalso; simp_all; done) | skip)
        refine s_isOpen (s := s) (by rw [← eA1]; exact SAt1 σ M A') hs hG ho ho2 hwk hK.2.2 (fun A2 q1 q2 q3 => ?_)
        have hK2 : KeepF m0 (mW m' s (k / 6) (k % 6)) A0 A2 := ⟨fun j a b c => by
          unfold mW
          simp only [upI_at, if_neg a, if_neg b, if_neg c]
          exact hK.1 j a b c, fun j a b c d => by rw [q2 j a b c, hK.2.1 j a b c d], q1⟩
        have e11 : A2 11 = A' 11 := q2 11 (by decide) (by decide) (by decide)
        by_cases c2 : opW s (k / 6) (k % 6) = 1
        · have hbd := bdM_bd hwk
          rw [c2]
          simp only [e_Model_fillUp_84, e_Model_fillUp_87, e_Model_fillUp_88, kR_l, kR_r, kP_0, kP_i, kP_r, kP_n, kP_s, kP_o, kLen_I, kLen_L, kLen_R, kLdI_0, kLdI_1, kLdI_2, kLdI_3, kStI_0, kStI_1, kLdL_e, kStL_e, kLdR_e, kStR_e, kFld_e, kNth_0, kNth_s, kPut_e, fit_I, fit_Z, fit_B, fit_C, fit_A, fit_O, Option.toList_some, Option.toList_none, List.cons_append, List.nil_append, true_and, and_true, List.set_cons_zero, List.set_cons_succ, st_same, Int.toNat_natCast, Int.cast_ofNat_Int, Nat.zero_add, Nat.reduceAdd, kRcv_1, kRcv_2, kRcv_3, kRcv_0, kRcv_4, kRcv_5, kP_z hz2]
          refine ⟨by unfold inR; omega, (fun h => by first | exact absurd h (by omega) | exact absurd trivial h | (exfalso; simp_all; done)), fun _ => ?_⟩
          refine fu_mark (b := bdM s (k / 6) (k % 6)) (N := nW s (k / 6) (k % 6)) (pl := plW s (k / 6) (k % 6)) (P := stP s k) hG hz3 rfl rfl hbd.1 hbd.2 (nW_le hwk) (fun i hi => by rw [q3 i hi]; exact (plW_ok hwk hi).1) (dgP_sq hwk) (by rw [e11]; exact hMk) (fun F hF y2 y3 hy2 hy3 => ?_)
          have nx := ih (mW m' s (k / 6) (k % 6), upA A2 11 F) ⟨⟨hK2.1, fun j a b c d => by dsimp only; rw [upA_at, if_neg d, hK2.2.1 j a b c d], hK2.2.2⟩, hF.iff (fun j => by
            rw [stP_s]
            exact ⟨fun z => z.elim Or.inl (fun y => Or.inr ⟨c1, c2, y⟩), fun z => z.elim Or.inl (fun y => Or.inr y.2.2)⟩)⟩ y2 y3 hy2 hy3
          simp only [e_Model_fillUp_164, e_Model_fillUp_167, kR_l, kR_r, kP_0, kP_i, kP_r, kP_n, kP_s, kP_o, kLen_I, kLen_L, kLen_R, kLdI_0, kLdI_1, kLdI_2, kLdI_3, kStI_0, kStI_1, kLdL_e, kStL_e, kLdR_e, kStR_e, kFld_e, kNth_0, kNth_s, kPut_e, fit_I, fit_Z, fit_B, fit_C, fit_A, fit_O, Option.toList_some, Option.toList_none, List.cons_append, List.nil_append, true_and, and_true, List.set_cons_zero, List.set_cons_succ, st_same, Int.toNat_natCast, Int.cast_ofNat_Int, Nat.zero_add, Nat.reduceAdd, kRcv_1, kRcv_2, kRcv_3, kRcv_0, kRcv_4, kRcv_5]
          clear ih same hQ
          all_goals ((repeat' (first | with_reducible refine And.intro ?_ ?_ | intro _)) <;> first | with_reducible assumption | exact True.intro | with_reducible exact nx | omega | (simp only [inR] at *; omega) | exact nx | with_reducible rfl | rfl | (simp; done) | (exfalso; simp_all; done) | skip)
        · have nx := same (fun z => c2 z.2) A2 (mW m' s (k / 6) (k % 6)) hK2 e11
          have h01 := opW_bd s (k / 6) (k % 6)
          rw [show opW s (k / 6) (k % 6) = 0 by omega]
          simp only [e_Model_fillUp_84, e_Model_fillUp_164, e_Model_fillUp_167, kR_l, kR_r, kP_0, kP_i, kP_r, kP_n, kP_s, kP_o, kLen_I, kLen_L, kLen_R, kLdI_0, kLdI_1, kLdI_2, kLdI_3, kStI_0, kStI_1, kLdL_e, kStL_e, kLdR_e, kStR_e, kFld_e, kNth_0, kNth_s, kPut_e, fit_I, fit_Z, fit_B, fit_C, fit_A, fit_O, Option.toList_some, Option.toList_none, List.cons_append, List.nil_append, true_and, and_true, List.set_cons_zero, List.set_cons_succ, st_same, Int.toNat_natCast, Int.cast_ofNat_Int, Nat.zero_add, Nat.reduceAdd, kRcv_1, kRcv_2, kRcv_3, kRcv_0, kRcv_4, kRcv_5]
          clear ih same hQ
          all_goals ((repeat' (first | with_reducible refine And.intro ?_ ?_ | intro _)) <;> first | with_reducible assumption | exact True.intro | with_reducible exact nx _ _ hz2 hz3 | omega | (simp only [inR] at *; omega) | exact nx _ _ hz2 hz3 | with_reducible rfl | rfl | (simp; done) | (exfalso; simp_all; done) | skip)
      · have nx := s0 (fun z => c1 z.1) _ _ hz2 hz3
        simp only [e_Model_fillUp_65, e_Model_fillUp_164, e_Model_fillUp_167, kR_l, kR_r, kP_0, kP_i, kP_r, kP_n, kP_s, kP_o, kLen_I, kLen_L, kLen_R, kLdI_0, kLdI_1, kLdI_2, kLdI_3, kStI_0, kStI_1, kLdL_e, kStL_e, kLdR_e, kStR_e, kFld_e, kNth_0, kNth_s, kPut_e, fit_I, fit_Z, fit_B, fit_C, fit_A, fit_O, Option.toList_some, Option.toList_none, List.cons_append, List.nil_append, true_and, and_true, List.set_cons_zero, List.set_cons_succ, st_same, Int.toNat_natCast, Int.cast_ofNat_Int, Nat.zero_add, Nat.reduceAdd, kRcv_1, kRcv_2, kRcv_3, kRcv_0, kRcv_4, kRcv_5]
        clear ih same hQ s0
        all_goals ((repeat' (first | with_reducible refine And.intro ?_ ?_ | intro _)) <;> first | with_reducible assumption | exact True.intro | with_reducible exact nx | omega | (simp only [inR] at *; omega) | exact nx | with_reducible rfl | rfl | (simp; done) | (exfalso; simp_all; done) | skip)
    · rintro ⟨m', A'⟩ ⟨hK, hMk⟩ z2 z3 hz2 hz3
      dsimp only at hK hMk
      have eA1 : A' 1 = s := by rw [hK.2.1 1 (by decide) (by decide) (by decide) (by decide), e1]
      have hq := hQ m' A' hK
      rw [e_Model_fillUp_33]
      simp only [e_Model_fillUp_34, e_Model_fillUp_36, e_Model_fillUp_170, e_Model_fillUp_171, e_Model_fillUp_172, e_Model_fillUp_173, kR_l, kR_r, kP_0, kP_i, kP_r, kP_n, kP_s, kP_o, kLen_I, kLen_L, kLen_R, kLdI_0, kLdI_1, kLdI_2, kLdI_3, kStI_0, kStI_1, kLdL_e, kStL_e, kLdR_e, kStR_e, kFld_e, kNth_0, kNth_s, kPut_e, fit_I, fit_Z, fit_B, fit_C, fit_A, fit_O, Option.toList_some, Option.toList_none, List.cons_append, List.nil_append, true_and, and_true, List.set_cons_zero, List.set_cons_succ, st_same, Int.toNat_natCast, Int.cast_ofNat_Int, Nat.zero_add, Nat.reduceAdd, kRcv_1, kRcv_2, kRcv_3, kRcv_0, kRcv_4, kRcv_5, kP_z hz2, kP_z hz3]
      refine ⟨⟨by unfold inR; omega, by unfold inR; omega⟩, fun _ => ?_, (fun h => by first | exact absurd h (by omega) | exact absurd trivial h | (exfalso; simp_all; done))⟩
      clear hQ
      have k3 := up (fun i => ∀ z3, zI z3 → WP G k_Model_fillUp 174 [some (vR M), some (vI (sumTo (fun j => cl01 (s j = -1 ∧ ¬ stP s 36 j)) i)), some (vI (i : Nat)), z3] [] (setMd σ M m' (upA A' 1 (flI s i))) Q) (n := 192) ?_ ?_
      · have k3' := k3 z3 hz3
        rw [flI_0, ← eA1, upA_self] at k3'
        exact k3'
      · intro i hi ih z3 hz3
        have hb := hs i
        have hm := hMk i hi
        rw [e_Model_fillUp_174]
        simp only [e_Model_fillUp_175, e_Model_fillUp_178, e_Model_fillUp_181, e_Model_fillUp_182, e_Model_fillUp_185, e_Model_fillUp_186, e_Model_fillUp_187, e_Model_fillUp_188, e_Model_fillUp_191, e_Model_fillUp_192, e_Model_fillUp_195, e_Model_fillUp_196, e_Model_fillUp_197, e_Model_fillUp_200, e_Model_fillUp_201, e_Model_fillUp_204, e_Model_fillUp_205, e_Model_fillUp_206, e_Model_fillUp_207, e_Model_fillUp_208, e_Model_fillUp_211, e_Model_fillUp_212, e_Model_fillUp_215, e_Model_fillUp_216, e_Model_fillUp_217, e_Model_fillUp_218, e_Model_fillUp_219, e_Model_fillUp_222, e_Model_fillUp_223, e_Model_fillUp_224, e_Model_fillUp_227, e_Model_fillUp_229, e_Model_fillUp_232, e_Model_fillUp_233, e_Model_fillUp_236, e_Model_fillUp_237, e_Model_fillUp_238, e_Model_fillUp_239, e_Model_fillUp_242, kR_l, kR_r, kP_0, kP_i, kP_r, kP_n, kP_s, kP_o, kLen_I, kLen_L, kLen_R, kLdI_0, kLdI_1, kLdI_2, kLdI_3, kStI_0, kStI_1, kLdL_e, kStL_e, kLdR_e, kStR_e, kFld_e, kNth_0, kNth_s, kPut_e, fit_I, fit_Z, fit_B, fit_C, fit_A, fit_O, Option.toList_some, Option.toList_none, List.cons_append, List.nil_append, true_and, and_true, List.set_cons_zero, List.set_cons_succ, st_same, Int.toNat_natCast, Int.cast_ofNat_Int, Nat.zero_add, Nat.reduceAdd, kRcv_1, kRcv_2, kRcv_3, kRcv_0, kRcv_4, kRcv_5, setMd_set, Mdo, Mda1, Mdw1, Mda2, Mdw2, Mda3, Mdw3, Mda4, Mdw4, Mda5, Mdw5, Mda6, Mdw6, Mda7, Mdw7, Mda8, Mdw8, Mda9, Mdw9, Mda10, Mdw10, Mda11, Mdw11, Mdp3, Mdp5, Mdp6, Mdp7, Mdp8, Mdp10, Mdp16, Mdp17, Mdp18, upA_at, upA_upA, reduceIte, Nat.reduceEqDiff, kP_z hz3, flI_at]
        by_cases c : s i = -1 ∧ ¬ stP s 36 i
        · have e0 := hm.2 c.2
          have ih' := ih (some (vI 1)) (zI_s 1)
          simp only [sum_s _ i, cl01_t c] at ih'
          have eu := flI_up s i (v := -2) (fun _ => rfl) (fun z => absurd c z)
          rw [e0, eu]
          clear ih hm hMk hq
          all_goals ((repeat' (first | with_reducible refine And.intro ?_ ?_ | intro _)) <;> first | with_reducible assumption | exact True.intro | with_reducible exact ih' | omega | (simp only [inR] at *; omega) | exact ih' | with_reducible rfl | rfl | (simp; done) | (exfalso; simp_all; done) | skip)
        · have ih' := ih (some (vI 0)) (zI_s 0)
          simp only [sum_s _ i, cl01_f c] at ih'
          have eu := flI_up s i (v := s i) (fun z => absurd z c) (fun _ => rfl)
          have h01 : s i = -1 → A' 11 i = 1 := fun z => hm.1 (Classical.byContradiction fun y => c ⟨z, y⟩)
          have h02 : A' 11 i = 0 ∨ A' 11 i = 1 := by
            by_cases y : stP s 36 i
            · exact Or.inr (hm.1 y)
            · exact Or.inl (hm.2 y)
          rw [eu]
          clear ih hm hMk hq c
          all_goals ((repeat' (first | with_reducible refine And.intro ?_ ?_ | intro _)) <;> first | with_reducible assumption | exact True.intro | with_reducible exact ih' | omega | (simp only [inR] at *; omega) | exact ih' | with_reducible rfl | rfl | (simp; done) | (exfalso; simp_all; done) | skip)
      · intro z3 hz3
        unfold flN flS at hq
        rw [e_Model_fillUp_174]
        simp only [e_Model_fillUp_175, e_Model_fillUp_178, e_Model_fillUp_245, e_Model_fillUp_246, kR_l, kR_r, kP_0, kP_i, kP_r, kP_n, kP_s, kP_o, kLen_I, kLen_L, kLen_R, kLdI_0, kLdI_1, kLdI_2, kLdI_3, kStI_0, kStI_1, kLdL_e, kStL_e, kLdR_e, kStR_e, kFld_e, kNth_0, kNth_s, kPut_e, fit_I, fit_Z, fit_B, fit_C, fit_A, fit_O, Option.toList_some, Option.toList_none, List.cons_append, List.nil_append, true_and, and_true, List.set_cons_zero, List.set_cons_succ, st_same, Int.toNat_natCast, Int.cast_ofNat_Int, Nat.zero_add, Nat.reduceAdd, kRcv_1, kRcv_2, kRcv_3, kRcv_0, kRcv_4, kRcv_5]
        refine ⟨⟨by unfold inR; omega, by unfold inR; omega⟩, fun _ => ?_, (fun h => by first | exact absurd h (by omega) | exact absurd trivial h | (exfalso; simp_all; done))⟩
        all_goals ((repeat' (first | with_reducible refine And.intro ?_ ?_ | intro _)) <;> first | with_reducible assumption | exact True.intro | with_reducible exact hq | omega | (simp only [inR] at *; omega) | exact hq | with_reducible rfl | rfl | (simp; done) | (exfalso; simp_all; done) | skip)
end FU
