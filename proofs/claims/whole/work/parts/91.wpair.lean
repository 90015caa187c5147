/-! THE CLASS'S WAYS: what is missing; corridors for all; what is not needed -/
theorem Good.neg {s s' : Nat → Int} (h : Good s) (e : ∀ j, s' j = s j ∨ (j < 192 ∧ s j < 0 ∧ (s' j = -1 ∨ s' j = -2))) : Good s' := by
  obtain ⟨h1, h2, h3, h4, h5, h6⟩ := h
  have hh : ∀ j, 192 ≤ j → s' j = s j := fun j hj => (e j).elim id (fun z => absurd z.1 (by omega))
  have hR : ∀ r, isR s' r ↔ isR s r := fun r => by
    unfold isR
    rw [hh _ (by omega)]
  refine ⟨fun k => ?_, fun k hk => ?_, ?_, fun r hr hR' => ?_, fun k hk => ?_, fun a b ha hb => ?_⟩
  · have := h1 k
    rcases e k with z | z
    · rw [z]; exact this
    · omega
  · rw [hh k (by omega)]
    exact h2 k hk
  · rw [hh 252 (by omega)]
    exact h3
  · have := h4 r hr ((hR r).mp hR')
    rw [hh _ (by omega), hh _ (by omega), hh _ (by omega), hh _ (by omega)]
    exact this
  · have k5 := h5 k hk
    refine ⟨?_, ?_, fun r hr => ?_⟩
    · rcases e k with z | z <;> omega
    · rcases e k with z | z <;> omega
    · have k6 := k5.2.2 r hr
      have e2 : inBx s' r k ↔ inBx s r k := by
        unfold inBx
        rw [hR r, hh _ (by omega), hh _ (by omega), hh _ (by omega), hh _ (by omega)]
      rw [e2, ← k6]
      rcases e k with z | z
      · rw [z]
      · omega
  · have := h6 a b ha hb
    have e2 : wkM s' a b = wkM s a b := hh _ (by omega)
    rw [e2, hR a, hR b]
    exact this
theorem Good.dg {s s' : Nat → Int} (h : Good s) (hD : DgR s s') (hh : ∀ j, 192 ≤ j → s' j = s j) : Good s' := h.neg (fun j => by
  by_cases c : j < 192
  · rcases hD j with z | z
    · exact Or.inl z
    · exact Or.inr ⟨c, z.1, Or.inl z.2⟩
  · exact Or.inl (hh j (by omega)))
theorem Good.dgP {s : Nat → Int} (h : Good s) {a b : Nat} (ha : a < 6) (hb : b < 6) : Good (dgP s a b).1 := h.dg (dgP_DgR (h.wk a b ha hb)) (fun j hj => dgP_hi (h.wk a b ha hb) hj)
theorem pr_no {s : Nat → Int} {w : Int} {a b : Nat} (h : ¬ (a < b ∧ 0 < wkM s a b)) : prT s w a b = 0 := if_neg h
theorem pr_1 {s : Nat → Int} {a b : Nat} (h : a < b ∧ 0 < wkM s a b) : prT s 1 a b = if rsF s a b = 0 then 0 else 1 := by
  have h1 := isW_bd s a b
  unfold prT rsF opW
  rw [if_pos h, if_neg (by omega), if_pos rfl]
  by_cases c1 : isW s a b = 1
  · by_cases c2 : cW s a b = 0
    · rw [if_pos ⟨c1, c2⟩, if_pos c1, if_pos c2]; rfl
    · rw [if_neg (fun z => c2 z.2), if_pos c1, if_neg c2]; rfl
  · rw [if_neg (fun z => c1 z.1), if_neg c1, if_neg (by omega)]; rfl
theorem pr_2 {s : Nat → Int} {a b : Nat} (hc : 0 ≤ cW s a b) (h : a < b ∧ 0 < wkM s a b) : prT s 2 a b = if 0 < rsF s a b then rsF s a b else 0 := by
  have h1 := isW_bd s a b
  unfold prT rsF
  rw [if_pos h, if_neg (by omega), if_neg (by omega)]
  by_cases c1 : isW s a b = 1
  · rw [if_pos c1, if_pos c1]
    split <;> omega
  · rw [if_neg c1, if_neg c1, if_neg (by omega)]
theorem rsF_bd {s : Nat → Int} (hg : Good s) {a b : Nat} (ha : a < 6) (hb : b < 6) : -1 ≤ rsF s a b ∧ rsF s a b ≤ 1000 ∧ 0 ≤ cW s a b := by
  have := cW_bd (s := s) (hg.wk a b ha hb)
  unfold rsF
  split <;> omega
theorem pr_bd {s : Nat → Int} (hg : Good s) {w : Int} (hw : w = 1 ∨ w = 2) {a b : Nat} (ha : a < 6) (hb : b < 6) : 0 ≤ prT s w a b ∧ prT s w a b ≤ 1000 := by
  have h1 := rsF_bd hg ha hb
  by_cases c : a < b ∧ 0 < wkM s a b
  · rcases hw with rfl | rfl
    · rw [pr_1 c]; split <;> omega
    · rw [pr_2 h1.2.2 c]; split <;> omega
  · rw [pr_no c]; omega
theorem op_rs (s : Nat → Int) (a b : Nat) : opW s a b = 1 ∧ rsF s a b = 0 ∨ opW s a b = 0 ∧ rsF s a b ≠ 0 := by
  unfold opW rsF
  by_cases c1 : isW s a b = 1
  · by_cases c2 : cW s a b = 0
    · exact Or.inl ⟨if_pos ⟨c1, c2⟩, by rw [if_pos c1]; exact c2⟩
    · exact Or.inr ⟨if_neg (fun z => c2 z.2), by rw [if_pos c1]; exact c2⟩
  · exact Or.inr ⟨if_neg (fun z => c1 z.1), by rw [if_neg c1]; omega⟩
def lC (s : Nat → Int) (k : Nat) : Int := if (dnM s k).1 = -1 then -1 else (dnM s k).2
def fC (s : Nat → Int) (k : Nat) : Int := if (dnM s k).1 = -1 then -1 else (dnM s k).1 / 6
def gC (s : Nat → Int) (k : Nat) : Int := if (dnM s k).1 = -1 then -1 else (dnM s k).1 % 6
theorem dn_skip {s : Nat → Int} (k : Nat) : ∀ n, (∀ i, k ≤ i → i < k + n → ¬ (i / 6 < i % 6)) → dnM s (k + n) = dnM s k
  | 0, _ => rfl
  | n + 1, h => by
    rw [show k + (n + 1) = (k + n) + 1 by omega, dnM, if_neg (fun z => h (k + n) (by omega) (by omega) z.1.1)]
    exact dn_skip k n (fun i h1 h2 => h i h1 (by omega))
theorem dn_step {s : Nat → Int} (hg : Good s) {a b : Nat} (hb : b < 6) (hab : a < b) : (0 < wkM s a b ∧ 0 < rsF s a b ∧ (lC s (6 * a + b) = -1 ∨ rsF s a b < lC s (6 * a + b)) → lC s (6 * a + (b + 1)) = rsF s a b ∧ fC s (6 * a + (b + 1)) = a ∧ gC s (6 * a + (b + 1)) = b) ∧ (¬ (0 < wkM s a b ∧ 0 < rsF s a b ∧ (lC s (6 * a + b) = -1 ∨ rsF s a b < lC s (6 * a + b))) → lC s (6 * a + (b + 1)) = lC s (6 * a + b) ∧ fC s (6 * a + (b + 1)) = fC s (6 * a + b) ∧ gC s (6 * a + (b + 1)) = gC s (6 * a + b)) := by
  have e1 : (6 * a + b) / 6 = a := by omega
  have e2 : (6 * a + b) % 6 = b := by omega
  have hd := dnM_bd hg.wk (6 * a + b) (by omega)
  have h1 := isW_bd s a b
  have h3 := rsF_bd hg (show a < 6 by omega) hb
  have key : (((6 * a + b) / 6 < (6 * a + b) % 6 ∧ 0 < wkM s ((6 * a + b) / 6) ((6 * a + b) % 6)) ∧ isW s ((6 * a + b) / 6) ((6 * a + b) % 6) = 1 ∧ 0 < cW s ((6 * a + b) / 6) ((6 * a + b) % 6) ∧ ((dnM s (6 * a + b)).1 = -1 ∨ cW s ((6 * a + b) / 6) ((6 * a + b) % 6) < (dnM s (6 * a + b)).2)) ↔ (0 < wkM s a b ∧ 0 < rsF s a b ∧ (lC s (6 * a + b) = -1 ∨ rsF s a b < lC s (6 * a + b))) := by
    rw [e1, e2]
    unfold rsF lC
    by_cases c1 : isW s a b = 1
    · rw [if_pos c1]
      by_cases c2 : (dnM s (6 * a + b)).1 = -1
      · rw [if_pos c2]; omega
      · rw [if_neg c2]; omega
    · rw [if_neg c1]; omega
  constructor
  · intro hc
    have hk := key.mpr hc
    have hcW : rsF s a b = cW s a b := by
      have := hk.2.1
      rw [e1, e2] at this
      exact if_pos this
    unfold lC fC gC
    rw [show 6 * a + (b + 1) = (6 * a + b) + 1 by omega, dnM, if_pos hk, e1, e2, hcW]
    refine ⟨if_neg (by show ((6 * a + b : Nat) : Int) ≠ -1; omega), ?_, ?_⟩
    · rw [if_neg (by show ((6 * a + b : Nat) : Int) ≠ -1; omega)]
      show ((6 * a + b : Nat) : Int) / 6 = a
      omega
    · rw [if_neg (by show ((6 * a + b : Nat) : Int) ≠ -1; omega)]
      show ((6 * a + b : Nat) : Int) % 6 = b
      omega
  · intro hc
    unfold lC fC gC
    rw [show 6 * a + (b + 1) = (6 * a + b) + 1 by omega, dnM, if_neg (fun z => hc (key.mp z))]
    exact ⟨rfl, rfl, rfl⟩
theorem lC_bd {s : Nat → Int} (hg : Good s) {k : Nat} (hk : k ≤ 36) : (-1 ≤ lC s k ∧ lC s k ≤ 1000) ∧ (-1 ≤ fC s k ∧ fC s k ≤ 6) ∧ (-1 ≤ gC s k ∧ gC s k ≤ 6) := by
  have hd := dnM_bd hg.wk k hk
  unfold lC fC gC
  split <;> omega
theorem stP_no {s : Nat → Int} (k : Nat) : ∀ n, (∀ i, k ≤ i → i < k + n → ¬ (i / 6 < i % 6)) → ∀ j, stP s (k + n) j ↔ stP s k j
  | 0, _, _ => Iff.rfl
  | n + 1, h, j => by
    rw [show k + (n + 1) = (k + n) + 1 by omega, stP_s, stP_no k n (fun i h1 h2 => h i h1 (by omega)) j]
    exact ⟨fun z => z.elim id (fun y => absurd y.1.1 (h (k + n) (by omega) (by omega))), Or.inl⟩
section WPR
variable {G : Nat → Nat} {σ : AS} {Q : (Option AV ⊕ Nat) → AS → Prop} {P W : Nat} {s : Nat → Int} {m : Nat → Int} {A : Nat → Nat → Int}
theorem w_find {a o : Nat} (hP : PlS σ P s) (hd : P + 4 ≤ W) (hG : G 0 ≤ W) (hg : Good s) (ha : a < 6) (ho : o < 6) (r1 : isR s a) (r2 : isR s o)
    (hQ : ∀ (m' : Nat → Int) (A' : Nat → Nat → Int), m' 11 = (bdM s a o : Nat) → m' 10 = (nW s a o : Nat) → (∀ k, k < nW s a o → A' 8 k = pW s a o k) → A' 7 = A 7 → Q (.inl (some (vI (rsF s a o)))) (setWy σ W m' A')) :
    CW G k_Ways_find [vR W, vR P, vI (a : Nat), vI (o : Nat)] (setWy σ W m A) Q := s_find (fun m A => setWy_P hd hP) hG hg.plw ha ho ((th_R ha).mpr r1) ((th_R ho).mpr r2) hQ
theorem w_closedPairs (hP : PlS σ P s) (hd : P + 4 ≤ W) (hG : G 0 ≤ W) (hg : Good s) (hQ : ∀ (m' : Nat → Int) (A' : Nat → Nat → Int), Q (.inl (some (vI (prM s 1)))) (setWy σ W m' A')) :
    CW G k_Ways_closedPairs [vR W, vR P] (setWy σ W m A) Q := by
  have e : prM s 1 = sumTo (fun a => sumTo (prT s 1 a) 6) 6 := (sum_flat (fun a b => prT s 1 a b) 6 (by omega) 6).symm
  rw [e] at hQ
  simp only [c_Ways_closedPairs, e_Ways_closedPairs_0, e_Ways_closedPairs_1, e_Ways_closedPairs_2, e_Ways_closedPairs_3, kR_l, kR_r, kP_0, kP_i, kP_r, kP_n, kP_s, kP_o, kLen_I, kLen_L, kLen_R, kLdI_0, kLdI_1, kLdI_2, kLdI_3, kStI_0, kStI_1, kLdL_e, kStL_e, kLdR_e, kStR_e, kFld_e, kNth_0, kNth_s, kPut_e, fit_I, fit_Z, fit_B, fit_C, fit_A, fit_O, Option.toList_some, Option.toList_none, List.cons_append, List.nil_append, true_and, and_true, List.set_cons_zero, List.set_cons_succ, st_same, Int.toNat_natCast, Int.cast_ofNat_Int, Nat.zero_add, Nat.reduceAdd, kRcv_1, kRcv_2, kRcv_3, kRcv_0, kRcv_4, kRcv_5]
  refine up (fun a => ∀ m A z, zI z → WP G k_Ways_closedPairs 4 [some (vR W), some (vR P), some (vI (sumTo (fun a => sumTo (prT s 1 a) 6) a)), some (vI (a : Nat)), z] [] (setWy σ W m A) Q) (n := 6) ?_ ?_ m A none zI_n
  · intro a ha ih m A z hz
    have inner := upF (fun b => ∀ m A, WP G k_Ways_closedPairs 15 [some (vR W), some (vR P), some (vI (sumTo (fun a => sumTo (prT s 1 a) 6) a + sumTo (prT s 1 a) b)), some (vI (a : Nat)), some (vI (b : Nat))] [] (setWy σ W m A) Q) (a := a + 1) (n := 6) (by omega) ?_ ?_
    · have i0 := inner m A
      rw [sum_zero (a + 1) (fun i hi => pr_no (by omega)), Int.add_zero] at i0
      clear inner ih hQ
      rw [e_Ways_closedPairs_4]
      simp only [e_Ways_closedPairs_5, e_Ways_closedPairs_7, e_Ways_closedPairs_10, e_Ways_closedPairs_11, e_Ways_closedPairs_12, e_Ways_closedPairs_13, kR_l, kR_r, kP_0, kP_i, kP_r, kP_n, kP_s, kP_o, kLen_I, kLen_L, kLen_R, kLdI_0, kLdI_1, kLdI_2, kLdI_3, kStI_0, kStI_1, kLdL_e, kStL_e, kLdR_e, kStR_e, kFld_e, kNth_0, kNth_s, kPut_e, fit_I, fit_Z, fit_B, fit_C, fit_A, fit_O, Option.toList_some, Option.toList_none, List.cons_append, List.nil_append, true_and, and_true, List.set_cons_zero, List.set_cons_succ, st_same, Int.toNat_natCast, Int.cast_ofNat_Int, Nat.zero_add, Nat.reduceAdd, kRcv_1, kRcv_2, kRcv_3, kRcv_0, kRcv_4, kRcv_5, kP_z hz]
      all_goals ((repeat' (first | with_reducible refine And.intro ?_ ?_ | intro _)) <;> first | with_reducible assumption | exact True.intro | with_reducible exact i0 | omega | (simp only [inR] at *; omega) | exact i0 | with_reducible rfl | rfl | (simp; done) | (exfalso; simp_all; done) | skip)
    · intro b hb0 hb ihb m A
      have hp := setWy_P (m := m) (A := A) hd hP
      clear ih hQ
      rw [e_Ways_closedPairs_15]
      simp (disch := first | assumption | omega | (unfold inR; omega)) only [e_Ways_closedPairs_17, e_Ways_closedPairs_19, e_Ways_closedPairs_22, e_Ways_closedPairs_23, e_Ways_closedPairs_24, e_Ways_closedPairs_26, kR_l, kR_r, kP_0, kP_i, kP_r, kP_n, kP_s, kP_o, kLen_I, kLen_L, kLen_R, kLdI_0, kLdI_1, kLdI_2, kLdI_3, kStI_0, kStI_1, kLdL_e, kStL_e, kLdR_e, kStR_e, kFld_e, kNth_0, kNth_s, kPut_e, fit_I, fit_Z, fit_B, fit_C, fit_A, fit_O, Option.toList_some, Option.toList_none, List.cons_append, List.nil_append, true_and, and_true, List.set_cons_zero, List.set_cons_succ, st_same, Int.toNat_natCast, Int.cast_ofNat_Int, Nat.zero_add, Nat.reduceAdd, kRcv_1, kRcv_2, kRcv_3, kRcv_0, kRcv_4, kRcv_5, setWy_set, Wyo, Wya1, Wyw1, Wya2, Wyw2, Wya3, Wyw3, Wya4, Wyw4, Wya5, Wyw5, Wya6, Wyw6, Wya7, Wyw7, Wya8, Wyw8, Wyp6, Wyp7, Wyp10, Wyp11, Wyp12, Wyp13, Wyp14, Wyp15, hp.1, s_Plan_isWalked hp hg.wd, wdAt_wk]
      refine ⟨⟨by unfold inR; omega, by unfold inR; omega⟩, (fun h => by first | exact absurd h (by omega) | exact absurd trivial h | (exfalso; simp_all; done)), fun _ => ?_⟩
      by_cases hc : 0 < wkM s a b
      · have hr := (hg.2.2.2.2.2 a b (by omega) hb).2 hc
        have hbd := rsF_bd hg (show a < 6 by omega) hb
        rw [b01_t hc]
        simp only [e_Ways_closedPairs_29, e_Ways_closedPairs_32, e_Ways_closedPairs_33, e_Ways_closedPairs_34, e_Ways_closedPairs_35, e_Ways_closedPairs_37, kR_l, kR_r, kP_0, kP_i, kP_r, kP_n, kP_s, kP_o, kLen_I, kLen_L, kLen_R, kLdI_0, kLdI_1, kLdI_2, kLdI_3, kStI_0, kStI_1, kLdL_e, kStL_e, kLdR_e, kStR_e, kFld_e, kNth_0, kNth_s, kPut_e, fit_I, fit_Z, fit_B, fit_C, fit_A, fit_O, Option.toList_some, Option.toList_none, List.cons_append, List.nil_append, true_and, and_true, List.set_cons_zero, List.set_cons_succ, st_same, Int.toNat_natCast, Int.cast_ofNat_Int, Nat.zero_add, Nat.reduceAdd, kRcv_1, kRcv_2, kRcv_3, kRcv_0, kRcv_4, kRcv_5, setWy_set, Wyo, Wya1, Wyw1, Wya2, Wyw2, Wya3, Wyw3, Wya4, Wyw4, Wya5, Wyw5, Wya6, Wyw6, Wya7, Wyw7, Wya8, Wyw8, Wyp6, Wyp7, Wyp10, Wyp11, Wyp12, Wyp13, Wyp14, Wyp15]
        refine ⟨by unfold inR; omega, (fun h => by first | exact absurd h (by omega) | exact absurd trivial h | (exfalso; simp_all; done)), fun _ => ?_⟩
        refine w_find hP hd hG hg (by omega) hb hr.1 hr.2.1 (fun m' A' _ _ _ _ => ?_)
        have nx := ihb m' A'
        rw [sum_s, pr_1 ⟨by omega, hc⟩] at nx
        clear ihb
        generalize sumTo (fun a => sumTo (prT s 1 a) 6) a = S at *
        generalize sumTo (prT s 1 a) b = T at *
        simp only [e_Ways_closedPairs_40, e_Ways_closedPairs_43, e_Ways_closedPairs_46, e_Ways_closedPairs_49, kR_l, kR_r, kP_0, kP_i, kP_r, kP_n, kP_s, kP_o, kLen_I, kLen_L, kLen_R, kLdI_0, kLdI_1, kLdI_2, kLdI_3, kStI_0, kStI_1, kLdL_e, kStL_e, kLdR_e, kStR_e, kFld_e, kNth_0, kNth_s, kPut_e, fit_I, fit_Z, fit_B, fit_C, fit_A, fit_O, Option.toList_some, Option.toList_none, List.cons_append, List.nil_append, true_and, and_true, List.set_cons_zero, List.set_cons_succ, st_same, Int.toNat_natCast, Int.cast_ofNat_Int, Nat.zero_add, Nat.reduceAdd, kRcv_1, kRcv_2, kRcv_3, kRcv_0, kRcv_4, kRcv_5]
        by_cases c2 : rsF s a b = 0
        · rw [if_pos c2, Int.add_zero] at nx
          refine ⟨by unfold inR; omega, fun _ => nx, fun z => absurd c2 z⟩
        · rw [if_neg c2, ← Int.add_assoc] at nx
          refine ⟨by unfold inR; omega, fun z => absurd z c2, fun _ => nx⟩
      · have nx := ihb m A
        rw [sum_s, pr_no (fun z => hc z.2), Int.add_zero] at nx
        rw [b01_f hc]
        clear ihb
        simp only [e_Ways_closedPairs_29, e_Ways_closedPairs_46, e_Ways_closedPairs_49, kR_l, kR_r, kP_0, kP_i, kP_r, kP_n, kP_s, kP_o, kLen_I, kLen_L, kLen_R, kLdI_0, kLdI_1, kLdI_2, kLdI_3, kStI_0, kStI_1, kLdL_e, kStL_e, kLdR_e, kStR_e, kFld_e, kNth_0, kNth_s, kPut_e, fit_I, fit_Z, fit_B, fit_C, fit_A, fit_O, Option.toList_some, Option.toList_none, List.cons_append, List.nil_append, true_and, and_true, List.set_cons_zero, List.set_cons_succ, st_same, Int.toNat_natCast, Int.cast_ofNat_Int, Nat.zero_add, Nat.reduceAdd, kRcv_1, kRcv_2, kRcv_3, kRcv_0, kRcv_4, kRcv_5]
        refine ⟨by unfold inR; omega, fun _ => nx, (fun h => by first | exact absurd h (by omega) | exact absurd trivial h | (exfalso; simp_all; done))⟩
    · intro m A
      have nx := ih m A _ (zI_s ((6 : Nat) : Int))
      clear ih hQ
      rw [e_Ways_closedPairs_15]
      simp only [e_Ways_closedPairs_17, e_Ways_closedPairs_19, e_Ways_closedPairs_52, e_Ways_closedPairs_55, kR_l, kR_r, kP_0, kP_i, kP_r, kP_n, kP_s, kP_o, kLen_I, kLen_L, kLen_R, kLdI_0, kLdI_1, kLdI_2, kLdI_3, kStI_0, kStI_1, kLdL_e, kStL_e, kLdR_e, kStR_e, kFld_e, kNth_0, kNth_s, kPut_e, fit_I, fit_Z, fit_B, fit_C, fit_A, fit_O, Option.toList_some, Option.toList_none, List.cons_append, List.nil_append, true_and, and_true, List.set_cons_zero, List.set_cons_succ, st_same, Int.toNat_natCast, Int.cast_ofNat_Int, Nat.zero_add, Nat.reduceAdd, kRcv_1, kRcv_2, kRcv_3, kRcv_0, kRcv_4, kRcv_5]
      refine ⟨⟨by unfold inR; omega, by unfold inR; omega⟩, fun _ => nx, (fun h => by first | exact absurd h (by omega) | exact absurd trivial h | (exfalso; simp_all; done))⟩
  · intro m A z hz
    have nx := hQ m A
    clear hQ
    rw [e_Ways_closedPairs_4]
    simp only [e_Ways_closedPairs_5, e_Ways_closedPairs_7, e_Ways_closedPairs_58, e_Ways_closedPairs_59, kR_l, kR_r, kP_0, kP_i, kP_r, kP_n, kP_s, kP_o, kLen_I, kLen_L, kLen_R, kLdI_0, kLdI_1, kLdI_2, kLdI_3, kStI_0, kStI_1, kLdL_e, kStL_e, kLdR_e, kStR_e, kFld_e, kNth_0, kNth_s, kPut_e, fit_I, fit_Z, fit_B, fit_C, fit_A, fit_O, Option.toList_some, Option.toList_none, List.cons_append, List.nil_append, true_and, and_true, List.set_cons_zero, List.set_cons_succ, st_same, Int.toNat_natCast, Int.cast_ofNat_Int, Nat.zero_add, Nat.reduceAdd, kRcv_1, kRcv_2, kRcv_3, kRcv_0, kRcv_4, kRcv_5]
    refine ⟨⟨by unfold inR; omega, by unfold inR; omega⟩, fun _ => ?_, (fun h => by first | exact absurd h (by omega) | exact absurd trivial h | (exfalso; simp_all; done))⟩
    first | exact nx | exact ⟨trivial, nx⟩
theorem w_missingCost (hP : PlS σ P s) (hd : P + 4 ≤ W) (hG : G 0 ≤ W) (hg : Good s) (hQ : ∀ (m' : Nat → Int) (A' : Nat → Nat → Int), Q (.inl (some (vI (prM s 2)))) (setWy σ W m' A')) :
    CW G k_Ways_missingCost [vR W, vR P] (setWy σ W m A) Q := by
  have e : prM s 2 = sumTo (fun a => sumTo (prT s 2 a) 6) 6 := (sum_flat (fun a b => prT s 2 a b) 6 (by omega) 6).symm
  rw [e] at hQ
  simp only [c_Ways_missingCost, e_Ways_missingCost_0, e_Ways_missingCost_1, e_Ways_missingCost_2, e_Ways_missingCost_3, kR_l, kR_r, kP_0, kP_i, kP_r, kP_n, kP_s, kP_o, kLen_I, kLen_L, kLen_R, kLdI_0, kLdI_1, kLdI_2, kLdI_3, kStI_0, kStI_1, kLdL_e, kStL_e, kLdR_e, kStR_e, kFld_e, kNth_0, kNth_s, kPut_e, fit_I, fit_Z, fit_B, fit_C, fit_A, fit_O, Option.toList_some, Option.toList_none, List.cons_append, List.nil_append, true_and, and_true, List.set_cons_zero, List.set_cons_succ, st_same, Int.toNat_natCast, Int.cast_ofNat_Int, Nat.zero_add, Nat.reduceAdd, kRcv_1, kRcv_2, kRcv_3, kRcv_0, kRcv_4, kRcv_5]
  refine up (fun a => ∀ m A z, zI z → WP G k_Ways_missingCost 4 [some (vR W), some (vR P), some (vI (sumTo (fun a => sumTo (prT s 2 a) 6) a)), some (vI (a : Nat)), z] [] (setWy σ W m A) Q) (n := 6) ?_ ?_ m A none zI_n
  · intro a ha ih m A z hz
    have inner := upF (fun b => ∀ m A, WP G k_Ways_missingCost 15 [some (vR W), some (vR P), some (vI (sumTo (fun a => sumTo (prT s 2 a) 6) a + sumTo (prT s 2 a) b)), some (vI (a : Nat)), some (vI (b : Nat))] [] (setWy σ W m A) Q) (a := a + 1) (n := 6) (by omega) ?_ ?_
    · have i0 := inner m A
      rw [sum_zero (a + 1) (fun i hi => pr_no (by omega)), Int.add_zero] at i0
      clear inner ih hQ
      rw [e_Ways_missingCost_4]
      simp only [e_Ways_missingCost_5, e_Ways_missingCost_7, e_Ways_missingCost_10, e_Ways_missingCost_11, e_Ways_missingCost_12, e_Ways_missingCost_13, kR_l, kR_r, kP_0, kP_i, kP_r, kP_n, kP_s, kP_o, kLen_I, kLen_L, kLen_R, kLdI_0, kLdI_1, kLdI_2, kLdI_3, kStI_0, kStI_1, kLdL_e, kStL_e, kLdR_e, kStR_e, kFld_e, kNth_0, kNth_s, kPut_e, fit_I, fit_Z, fit_B, fit_C, fit_A, fit_O, Option.toList_some, Option.toList_none, List.cons_append, List.nil_append, true_and, and_true, List.set_cons_zero, List.set_cons_succ, st_same, Int.toNat_natCast, Int.cast_ofNat_Int, Nat.zero_add, Nat.reduceAdd, kRcv_1, kRcv_2, kRcv_3, kRcv_0, kRcv_4, kRcv_5, kP_z hz]
      all_goals ((repeat' (first | with_reducible refine And.intro ?_ ?_ | intro _)) <;> first | with_reducible assumption | exact True.intro | with_reducible exact i0 | omega | (simp only [inR] at *; omega) | exact i0 | with_reducible rfl | rfl | (simp; done) | (exfalso; simp_all; done) | skip)
    · intro b hb0 hb ihb m A
      have hp := setWy_P (m := m) (A := A) hd hP
      clear ih hQ
      rw [e_Ways_missingCost_15]
      simp (disch := first | assumption | omega | (unfold inR; omega)) only [e_Ways_missingCost_17, e_Ways_missingCost_19, e_Ways_missingCost_22, e_Ways_missingCost_23, e_Ways_missingCost_24, e_Ways_missingCost_26, kR_l, kR_r, kP_0, kP_i, kP_r, kP_n, kP_s, kP_o, kLen_I, kLen_L, kLen_R, kLdI_0, kLdI_1, kLdI_2, kLdI_3, kStI_0, kStI_1, kLdL_e, kStL_e, kLdR_e, kStR_e, kFld_e, kNth_0, kNth_s, kPut_e, fit_I, fit_Z, fit_B, fit_C, fit_A, fit_O, Option.toList_some, Option.toList_none, List.cons_append, List.nil_append, true_and, and_true, List.set_cons_zero, List.set_cons_succ, st_same, Int.toNat_natCast, Int.cast_ofNat_Int, Nat.zero_add, Nat.reduceAdd, kRcv_1, kRcv_2, kRcv_3, kRcv_0, kRcv_4, kRcv_5, setWy_set, Wyo, Wya1, Wyw1, Wya2, Wyw2, Wya3, Wyw3, Wya4, Wyw4, Wya5, Wyw5, Wya6, Wyw6, Wya7, Wyw7, Wya8, Wyw8, Wyp6, Wyp7, Wyp10, Wyp11, Wyp12, Wyp13, Wyp14, Wyp15, hp.1, s_Plan_isWalked hp hg.wd, wdAt_wk]
      refine ⟨⟨by unfold inR; omega, by unfold inR; omega⟩, (fun h => by first | exact absurd h (by omega) | exact absurd trivial h | (exfalso; simp_all; done)), fun _ => ?_⟩
      by_cases hc : 0 < wkM s a b
      · have hr := (hg.2.2.2.2.2 a b (by omega) hb).2 hc
        have hbd := rsF_bd hg (show a < 6 by omega) hb
        rw [b01_t hc]
        simp only [e_Ways_missingCost_29, e_Ways_missingCost_32, e_Ways_missingCost_33, e_Ways_missingCost_34, e_Ways_missingCost_35, e_Ways_missingCost_36, e_Ways_missingCost_37, e_Ways_missingCost_39, kR_l, kR_r, kP_0, kP_i, kP_r, kP_n, kP_s, kP_o, kLen_I, kLen_L, kLen_R, kLdI_0, kLdI_1, kLdI_2, kLdI_3, kStI_0, kStI_1, kLdL_e, kStL_e, kLdR_e, kStR_e, kFld_e, kNth_0, kNth_s, kPut_e, fit_I, fit_Z, fit_B, fit_C, fit_A, fit_O, Option.toList_some, Option.toList_none, List.cons_append, List.nil_append, true_and, and_true, List.set_cons_zero, List.set_cons_succ, st_same, Int.toNat_natCast, Int.cast_ofNat_Int, Nat.zero_add, Nat.reduceAdd, kRcv_1, kRcv_2, kRcv_3, kRcv_0, kRcv_4, kRcv_5, setWy_set, Wyo, Wya1, Wyw1, Wya2, Wyw2, Wya3, Wyw3, Wya4, Wyw4, Wya5, Wyw5, Wya6, Wyw6, Wya7, Wyw7, Wya8, Wyw8, Wyp6, Wyp7, Wyp10, Wyp11, Wyp12, Wyp13, Wyp14, Wyp15]
        refine ⟨by unfold inR; omega, (fun h => by first | exact absurd h (by omega) | exact absurd trivial h | (exfalso; simp_all; done)), fun _ => ?_⟩
        refine w_find hP hd hG hg (by omega) hb hr.1 hr.2.1 (fun m' A' _ _ _ _ => ?_)
        have nx := ihb m' A'
        rw [sum_s, pr_2 hbd.2.2 ⟨by omega, hc⟩, ← Int.add_assoc] at nx
        clear ihb
        generalize sumTo (fun a => sumTo (prT s 2 a) 6) a = S at *
        generalize sumTo (prT s 2 a) b = T at *
        simp only [e_Ways_missingCost_42, e_Ways_missingCost_45, e_Ways_missingCost_46, e_Ways_missingCost_47, e_Ways_missingCost_50, kR_l, kR_r, kP_0, kP_i, kP_r, kP_n, kP_s, kP_o, kLen_I, kLen_L, kLen_R, kLdI_0, kLdI_1, kLdI_2, kLdI_3, kStI_0, kStI_1, kLdL_e, kStL_e, kLdR_e, kStR_e, kFld_e, kNth_0, kNth_s, kPut_e, fit_I, fit_Z, fit_B, fit_C, fit_A, fit_O, Option.toList_some, Option.toList_none, List.cons_append, List.nil_append, true_and, and_true, List.set_cons_zero, List.set_cons_succ, st_same, Int.toNat_natCast, Int.cast_ofNat_Int, Nat.zero_add, Nat.reduceAdd, kRcv_1, kRcv_2, kRcv_3, kRcv_0, kRcv_4, kRcv_5]
        refine ⟨⟨by unfold inR; omega, by unfold inR; omega⟩, nx⟩
      · have nx := ihb m A
        rw [sum_s, pr_no (fun z => hc z.2), Int.add_zero] at nx
        rw [b01_f hc]
        clear ihb
        simp only [e_Ways_missingCost_29, e_Ways_missingCost_47, e_Ways_missingCost_50, kR_l, kR_r, kP_0, kP_i, kP_r, kP_n, kP_s, kP_o, kLen_I, kLen_L, kLen_R, kLdI_0, kLdI_1, kLdI_2, kLdI_3, kStI_0, kStI_1, kLdL_e, kStL_e, kLdR_e, kStR_e, kFld_e, kNth_0, kNth_s, kPut_e, fit_I, fit_Z, fit_B, fit_C, fit_A, fit_O, Option.toList_some, Option.toList_none, List.cons_append, List.nil_append, true_and, and_true, List.set_cons_zero, List.set_cons_succ, st_same, Int.toNat_natCast, Int.cast_ofNat_Int, Nat.zero_add, Nat.reduceAdd, kRcv_1, kRcv_2, kRcv_3, kRcv_0, kRcv_4, kRcv_5]
        refine ⟨by unfold inR; omega, fun _ => nx, (fun h => by first | exact absurd h (by omega) | exact absurd trivial h | (exfalso; simp_all; done))⟩
    · intro m A
      have nx := ih m A _ (zI_s ((6 : Nat) : Int))
      clear ih hQ
      rw [e_Ways_missingCost_15]
      simp only [e_Ways_missingCost_17, e_Ways_missingCost_19, e_Ways_missingCost_53, e_Ways_missingCost_56, kR_l, kR_r, kP_0, kP_i, kP_r, kP_n, kP_s, kP_o, kLen_I, kLen_L, kLen_R, kLdI_0, kLdI_1, kLdI_2, kLdI_3, kStI_0, kStI_1, kLdL_e, kStL_e, kLdR_e, kStR_e, kFld_e, kNth_0, kNth_s, kPut_e, fit_I, fit_Z, fit_B, fit_C, fit_A, fit_O, Option.toList_some, Option.toList_none, List.cons_append, List.nil_append, true_and, and_true, List.set_cons_zero, List.set_cons_succ, st_same, Int.toNat_natCast, Int.cast_ofNat_Int, Nat.zero_add, Nat.reduceAdd, kRcv_1, kRcv_2, kRcv_3, kRcv_0, kRcv_4, kRcv_5]
      refine ⟨⟨by unfold inR; omega, by unfold inR; omega⟩, fun _ => nx, (fun h => by first | exact absurd h (by omega) | exact absurd trivial h | (exfalso; simp_all; done))⟩
  · intro m A z hz
    have nx := hQ m A
    clear hQ
    rw [e_Ways_missingCost_4]
    simp only [e_Ways_missingCost_5, e_Ways_missingCost_7, e_Ways_missingCost_59, e_Ways_missingCost_60, kR_l, kR_r, kP_0, kP_i, kP_r, kP_n, kP_s, kP_o, kLen_I, kLen_L, kLen_R, kLdI_0, kLdI_1, kLdI_2, kLdI_3, kStI_0, kStI_1, kLdL_e, kStL_e, kLdR_e, kStR_e, kFld_e, kNth_0, kNth_s, kPut_e, fit_I, fit_Z, fit_B, fit_C, fit_A, fit_O, Option.toList_some, Option.toList_none, List.cons_append, List.nil_append, true_and, and_true, List.set_cons_zero, List.set_cons_succ, st_same, Int.toNat_natCast, Int.cast_ofNat_Int, Nat.zero_add, Nat.reduceAdd, kRcv_1, kRcv_2, kRcv_3, kRcv_0, kRcv_4, kRcv_5]
    refine ⟨⟨by unfold inR; omega, by unfold inR; omega⟩, fun _ => ?_, (fun h => by first | exact absurd h (by omega) | exact absurd trivial h | (exfalso; simp_all; done))⟩
    first | exact nx | exact ⟨trivial, nx⟩
theorem w_closedFrom {r : Nat} (hr : r < 6) (hP : PlS σ P s) (hd : P + 4 ≤ W) (hG : G 0 ≤ W) (hg : Good s) (hQ : ∀ (m' : Nat → Int) (A' : Nat → Nat → Int), Q (.inl (some (vI (wdM s r 1)))) (setWy σ W m' A')) :
    CW G k_Ways_closedFrom [vR W, vR P, vI (r : Nat)] (setWy σ W m A) Q := by
  unfold wdM at hQ
  simp only [c_Ways_closedFrom, e_Ways_closedFrom_0, e_Ways_closedFrom_1, e_Ways_closedFrom_2, e_Ways_closedFrom_3, kR_l, kR_r, kP_0, kP_i, kP_r, kP_n, kP_s, kP_o, kLen_I, kLen_L, kLen_R, kLdI_0, kLdI_1, kLdI_2, kLdI_3, kStI_0, kStI_1, kLdL_e, kStL_e, kLdR_e, kStR_e, kFld_e, kNth_0, kNth_s, kPut_e, fit_I, fit_Z, fit_B, fit_C, fit_A, fit_O, Option.toList_some, Option.toList_none, List.cons_append, List.nil_append, true_and, and_true, List.set_cons_zero, List.set_cons_succ, st_same, Int.toNat_natCast, Int.cast_ofNat_Int, Nat.zero_add, Nat.reduceAdd, kRcv_1, kRcv_2, kRcv_3, kRcv_0, kRcv_4, kRcv_5]
  refine up (fun b => ∀ m A, WP G k_Ways_closedFrom 5 [some (vR W), some (vR P), some (vI (r : Nat)), some (vI (sumTo (wdT s r 1) b)), some (vI (b : Nat))] [] (setWy σ W m A) Q) (n := 6) ?_ ?_ m A
  · intro b hb ih m A
    have hp := setWy_P (m := m) (A := A) hd hP
    clear hQ
    rw [e_Ways_closedFrom_5]
    simp (disch := first | assumption | omega | (unfold inR; omega)) only [e_Ways_closedFrom_7, e_Ways_closedFrom_9, e_Ways_closedFrom_12, e_Ways_closedFrom_13, e_Ways_closedFrom_14, e_Ways_closedFrom_16, kR_l, kR_r, kP_0, kP_i, kP_r, kP_n, kP_s, kP_o, kLen_I, kLen_L, kLen_R, kLdI_0, kLdI_1, kLdI_2, kLdI_3, kStI_0, kStI_1, kLdL_e, kStL_e, kLdR_e, kStR_e, kFld_e, kNth_0, kNth_s, kPut_e, fit_I, fit_Z, fit_B, fit_C, fit_A, fit_O, Option.toList_some, Option.toList_none, List.cons_append, List.nil_append, true_and, and_true, List.set_cons_zero, List.set_cons_succ, st_same, Int.toNat_natCast, Int.cast_ofNat_Int, Nat.zero_add, Nat.reduceAdd, kRcv_1, kRcv_2, kRcv_3, kRcv_0, kRcv_4, kRcv_5, setWy_set, Wyo, Wya1, Wyw1, Wya2, Wyw2, Wya3, Wyw3, Wya4, Wyw4, Wya5, Wyw5, Wya6, Wyw6, Wya7, Wyw7, Wya8, Wyw8, Wyp6, Wyp7, Wyp10, Wyp11, Wyp12, Wyp13, Wyp14, Wyp15, hp.1, s_Plan_isWalked hp hg.wd, wdAt_wk]
    refine ⟨⟨by unfold inR; omega, by unfold inR; omega⟩, (fun h => by first | exact absurd h (by omega) | exact absurd trivial h | (exfalso; simp_all; done)), fun _ => ?_⟩
    by_cases hc : 0 < wkM s r b
    · have hrr := (hg.2.2.2.2.2 r b hr hb).2 hc
      have hbd := rsF_bd hg hr hb
      rw [b01_t hc]
      simp only [e_Ways_closedFrom_19, e_Ways_closedFrom_22, e_Ways_closedFrom_23, e_Ways_closedFrom_24, e_Ways_closedFrom_25, e_Ways_closedFrom_27, kR_l, kR_r, kP_0, kP_i, kP_r, kP_n, kP_s, kP_o, kLen_I, kLen_L, kLen_R, kLdI_0, kLdI_1, kLdI_2, kLdI_3, kStI_0, kStI_1, kLdL_e, kStL_e, kLdR_e, kStR_e, kFld_e, kNth_0, kNth_s, kPut_e, fit_I, fit_Z, fit_B, fit_C, fit_A, fit_O, Option.toList_some, Option.toList_none, List.cons_append, List.nil_append, true_and, and_true, List.set_cons_zero, List.set_cons_succ, st_same, Int.toNat_natCast, Int.cast_ofNat_Int, Nat.zero_add, Nat.reduceAdd, kRcv_1, kRcv_2, kRcv_3, kRcv_0, kRcv_4, kRcv_5, setWy_set, Wyo, Wya1, Wyw1, Wya2, Wyw2, Wya3, Wyw3, Wya4, Wyw4, Wya5, Wyw5, Wya6, Wyw6, Wya7, Wyw7, Wya8, Wyw8, Wyp6, Wyp7, Wyp10, Wyp11, Wyp12, Wyp13, Wyp14, Wyp15]
      refine ⟨by unfold inR; omega, (fun h => by first | exact absurd h (by omega) | exact absurd trivial h | (exfalso; simp_all; done)), fun _ => ?_⟩
      refine w_find hP hd hG hg hr hb hrr.1 hrr.2.1 (fun m' A' _ _ _ _ => ?_)
      have nx := ih m' A'
      have ew : wdT s r 1 b = if rsF s r b = 0 then 0 else 1 := by
        have hop := op_rs s r b
        unfold wdT
        rcases hop with ⟨o1, o2⟩ | ⟨o1, o2⟩
        · rw [if_pos o2, if_neg (fun z => z.2.2.elim (by omega) (by omega))]
        · rw [if_neg o2, if_pos ⟨fun z => hrr.2.2 z.symm, hc, Or.inr o1⟩]
      rw [sum_s, ew] at nx
      clear ih
      generalize sumTo (wdT s r 1) b = T at *
      simp only [e_Ways_closedFrom_30, e_Ways_closedFrom_33, e_Ways_closedFrom_36, e_Ways_closedFrom_39, kR_l, kR_r, kP_0, kP_i, kP_r, kP_n, kP_s, kP_o, kLen_I, kLen_L, kLen_R, kLdI_0, kLdI_1, kLdI_2, kLdI_3, kStI_0, kStI_1, kLdL_e, kStL_e, kLdR_e, kStR_e, kFld_e, kNth_0, kNth_s, kPut_e, fit_I, fit_Z, fit_B, fit_C, fit_A, fit_O, Option.toList_some, Option.toList_none, List.cons_append, List.nil_append, true_and, and_true, List.set_cons_zero, List.set_cons_succ, st_same, Int.toNat_natCast, Int.cast_ofNat_Int, Nat.zero_add, Nat.reduceAdd, kRcv_1, kRcv_2, kRcv_3, kRcv_0, kRcv_4, kRcv_5]
      by_cases c2 : rsF s r b = 0
      · rw [if_pos c2, Int.add_zero] at nx
        refine ⟨by unfold inR; omega, fun _ => nx, fun z => absurd c2 z⟩
      · rw [if_neg c2] at nx
        refine ⟨by unfold inR; omega, fun z => absurd z c2, fun _ => nx⟩
    · have nx := ih m A
      have ew : wdT s r 1 b = 0 := if_neg (fun z => hc z.2.1)
      rw [sum_s, ew, Int.add_zero] at nx
      rw [b01_f hc]
      clear ih
      simp only [e_Ways_closedFrom_19, e_Ways_closedFrom_36, e_Ways_closedFrom_39, kR_l, kR_r, kP_0, kP_i, kP_r, kP_n, kP_s, kP_o, kLen_I, kLen_L, kLen_R, kLdI_0, kLdI_1, kLdI_2, kLdI_3, kStI_0, kStI_1, kLdL_e, kStL_e, kLdR_e, kStR_e, kFld_e, kNth_0, kNth_s, kPut_e, fit_I, fit_Z, fit_B, fit_C, fit_A, fit_O, Option.toList_some, Option.toList_none, List.cons_append, List.nil_append, true_and, and_true, List.set_cons_zero, List.set_cons_succ, st_same, Int.toNat_natCast, Int.cast_ofNat_Int, Nat.zero_add, Nat.reduceAdd, kRcv_1, kRcv_2, kRcv_3, kRcv_0, kRcv_4, kRcv_5]
      refine ⟨by unfold inR; omega, fun _ => nx, (fun h => by first | exact absurd h (by omega) | exact absurd trivial h | (exfalso; simp_all; done))⟩
  · intro m A
    have nx := hQ m A
    clear hQ
    rw [e_Ways_closedFrom_5]
    simp only [e_Ways_closedFrom_7, e_Ways_closedFrom_9, e_Ways_closedFrom_42, e_Ways_closedFrom_43, kR_l, kR_r, kP_0, kP_i, kP_r, kP_n, kP_s, kP_o, kLen_I, kLen_L, kLen_R, kLdI_0, kLdI_1, kLdI_2, kLdI_3, kStI_0, kStI_1, kLdL_e, kStL_e, kLdR_e, kStR_e, kFld_e, kNth_0, kNth_s, kPut_e, fit_I, fit_Z, fit_B, fit_C, fit_A, fit_O, Option.toList_some, Option.toList_none, List.cons_append, List.nil_append, true_and, and_true, List.set_cons_zero, List.set_cons_succ, st_same, Int.toNat_natCast, Int.cast_ofNat_Int, Nat.zero_add, Nat.reduceAdd, kRcv_1, kRcv_2, kRcv_3, kRcv_0, kRcv_4, kRcv_5]
    refine ⟨⟨by unfold inR; omega, by unfold inR; omega⟩, fun _ => ?_, (fun h => by first | exact absurd h (by omega) | exact absurd trivial h | (exfalso; simp_all; done))⟩
    first | exact nx | exact ⟨trivial, nx⟩
end WPR
