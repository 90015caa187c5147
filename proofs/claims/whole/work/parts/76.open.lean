/-! OPEN WAYS: what is open stays open, what is dug is open -/
def DgR (s s' : Nat → Int) : Prop := ∀ j, s' j = s j ∨ (s j < 0 ∧ s' j = -1)
theorem DgR.wh {s s' : Nat → Int} (h : DgR s s') (x y : Int) : whM s' x y = whM s x y ∨ (whM s x y < 0 ∧ whM s' x y = -1) := by
  unfold whM
  split
  · exact h _
  · exact Or.inl rfl
theorem DgR.pl {s s' : Nat → Int} (h : DgR s s') (b : Nat) (x y : Int) : plB s' b x y = plB s b x y := by
  by_cases c : plM s b x y
  · obtain ⟨h1, h2, h3, h4, h5⟩ := c
    rw [plB_1 ⟨h1, h2, h3, h4, h5⟩, plB_1 ⟨h1, h2, h3, h4, fun k hk => by
      have := h5 k hk
      rcases h.wh (x + ((k % b : Nat) : Int)) (y + ((k / b : Nat) : Int)) with e | e <;> omega⟩]
  · rw [plB_0 c, plB_0 (fun ⟨h1, h2, h3, h4, h5⟩ => c ⟨h1, h2, h3, h4, fun k hk => by
      have := h5 k hk
      rcases h.wh (x + ((k % b : Nat) : Int)) (y + ((k / b : Nat) : Int)) with e | e <;> omega⟩)]
theorem DgR.bs {s s' : Nat → Int} (h : DgR s s') {r : Int} (hr : 0 ≤ r) (x y : Int) : bsM s' x y r ↔ bsM s x y r := by
  unfold bsM
  have key : ∀ x y, whM s' x y = r ↔ whM s x y = r := fun x y => by
    rcases h.wh x y with e | e
    · rw [e]
    · constructor <;> intro z <;> omega
  rw [key, key, key, key]
theorem DgR.at {s s' : Nat → Int} (h : DgR s s') (b p : Nat) {r : Int} (hr : 0 ≤ r) : atB s' b p r = atB s b p r := by
  by_cases c : atM s b p r
  · obtain ⟨k, hk, hb⟩ := c
    rw [atB_1 ⟨k, hk, hb⟩, atB_1 ⟨k, hk, (h.bs hr _ _).mpr hb⟩]
  · rw [atB_0 c, atB_0 (fun ⟨k, hk, hb⟩ => c ⟨k, hk, (h.bs hr _ _).mp hb⟩)]
theorem DgR.nx {s s' : Nat → Int} (h : DgR s s') (b p d : Nat) : nxM s' b p d = nxM s b p d := by
  unfold nxM
  rw [h.pl]
theorem DgR.rk {s s' : Nat → Int} (h : DgR s s') (b p : Nat) : rk0 s' b p ≤ rk0 s b p := by
  refine sum_le _ (fun k _ => ?_)
  unfold rk0T
  rcases h.wh (((p % 16 : Nat) : Int) + ((k % b : Nat) : Int)) (((p / 16 : Nat) : Int) + ((k / b : Nat) : Int)) with e | e
  · rw [e]
    exact Int.le_refl _
  · rw [if_neg (by omega)]
    split <;> omega
/-- an open way of at most n places, from p to a chamber -/
def OpB (s : Nat → Int) (b : Nat) (r : Int) : Nat → Nat → Prop
  | 0, _ => False
  | n + 1, p => p < 192 ∧ plP s b p ∧ rk0 s b p = 0 ∧ (atB s b p r = 1 ∨ ∃ d q, d < 4 ∧ nxM s b p d = ((q : Nat) : Int) ∧ OpB s b r n q)
theorem DgR.op {s s' : Nat → Int} (h : DgR s s') {b : Nat} {r : Int} (hr : 0 ≤ r) (hb : b ≤ 3) : ∀ n p, OpB s b r n p → OpB s' b r n p
  | 0, _, z => z
  | n + 1, p, ⟨h1, h2, h3, h4⟩ => by
    refine ⟨h1, ?_, ?_, ?_⟩
    · unfold plP at h2 ⊢
      rw [h.pl]
      exact h2
    · have e1 := h.rk b p
      have e2 := rk0_bd s' hb p
      omega
    · rcases h4 with z | ⟨d, q, g1, g2, g3⟩
      · exact Or.inl (by rw [h.at b p hr]; exact z)
      · exact Or.inr ⟨d, q, g1, by rw [h.nx]; exact g2, h.op hr hb n q g3⟩
theorem rk1_le (s : Nat → Int) (b p q : Nat) : rk1 s b p q ≤ rk0 s b p := by
  refine sum_le _ (fun k _ => ?_)
  have := rk0T_bd s b p k
  unfold rk1T
  split <;> omega
theorem Op_pl {s : Nat → Int} {b : Nat} {r : Int} {n p : Nat} (h : OpB s b r n p) : p < 192 ∧ plP s b p ∧ rk0 s b p = 0 := by
  cases n with
  | zero => exact h.elim
  | succ n => exact ⟨h.1, h.2.1, h.2.2.1⟩
theorem Op_le {s : Nat → Int} {b : Nat} {r : Int} {f : Nat → Int} (hb1 : 1 ≤ b) (hb : b ≤ 3) (hf : SolM s b r f) : ∀ n p, n < 1000000 → OpB s b r n p → f p ≤ n
  | 0, _, _, z => z.elim
  | n + 1, p, hn, ⟨h1, h2, h3, h4⟩ => by
    rcases h4 with z | ⟨d, q, g1, g2, g3⟩
    · rw [(hf.2.1 p h1).mpr ⟨h2, z⟩]
      omega
    · have ih := Op_le hb1 hb hf n q (by omega) g3
      have hq := Op_pl g3
      obtain ⟨d', hd', e⟩ := nxM_back hb1 h1 g1 h2 g2
      have h5 := hf.2.2.1 q d' p hq.1 (by omega) hd' e
      have h6 := rk1_le s b q p
      have h7 := rk1_bd s hb q p
      omega
theorem sum_nn0 {f : Nat → Int} : ∀ n, (∀ i, i < n → 0 ≤ f i) → sumTo f n = 0 → ∀ i, i < n → f i = 0
  | 0, _, _, i, hi => absurd hi (by omega)
  | n + 1, h, h0, i, hi => by
    rw [sum_s] at h0
    have h1 := h n (by omega)
    have h2 : 0 ≤ sumTo f n := by
      have := sum_le (f := fun _ => 0) (g := f) n (fun i hi => h i (by omega))
      rw [sum_zero n (fun _ _ => rfl)] at this
      exact this
    by_cases e : i = n
    · rw [e]; omega
    · exact sum_nn0 n (fun i hi => h i (by omega)) (by omega) i (by omega)
theorem rk_step {s : Nat → Int} {b u p : Nat} (hb : 1 ≤ b) (h0 : rk0 s b p = 0) (h1 : rk1 s b u p = 0) : rk0 s b u = 0 := by
  refine sum_zero _ (fun k hk => ?_)
  have e1 := sum_nn0 _ (fun i _ => (rk1T_bd s b u p i).1) h1 k hk
  unfold rk1T at e1
  split at e1
  · rename_i hc
    obtain ⟨⟨c1, c2⟩, c3, c4⟩ := hc
    have hdm := dm hb k
    -- the square is one of p
    have hx : ∃ i : Nat, ((u % 16 : Nat) : Int) + ((k % b : Nat) : Int) - ((p % 16 : Nat) : Int) = i := ⟨_, (Int.toNat_of_nonneg c1).symm⟩
    have hy : ∃ i : Nat, ((u / 16 : Nat) : Int) + ((k / b : Nat) : Int) - ((p / 16 : Nat) : Int) = i := ⟨_, (Int.toNat_of_nonneg c3).symm⟩
    obtain ⟨i, hi⟩ := hx
    obtain ⟨j, hj⟩ := hy
    have hib : i < b := by omega
    have hjb : j < b := by omega
    have hk' : j * b + i < b * b := by
      have : (j + 1) * b ≤ b * b := Nat.mul_le_mul_right b hjb
      rw [Nat.add_mul, Nat.one_mul] at this
      omega
    have e2 := sum_nn0 _ (fun i _ => (rk0T_bd s b p i).1) h0 (j * b + i) hk'
    have m1 : (j * b + i) % b = i := by
      rw [Nat.add_comm, Nat.add_mul_mod_self_right, Nat.mod_eq_of_lt hib]
    have m2 : (j * b + i) / b = j := by
      rw [Nat.add_comm, Nat.add_mul_div_right _ _ (by omega), Nat.div_eq_of_lt hib, Nat.zero_add]
    unfold rk0T at e2 ⊢
    rw [m1, m2, show ((p % 16 : Nat) : Int) + (i : Nat) = ((u % 16 : Nat) : Int) + ((k % b : Nat) : Int) by omega, show ((p / 16 : Nat) : Int) + (j : Nat) = ((u / 16 : Nat) : Int) + ((k / b : Nat) : Int) by omega] at e2
    exact e2
  · exact e1
theorem Sol_Op {s : Nat → Int} {b : Nat} {r : Int} {f : Nat → Int} (hb1 : 1 ≤ b) (hb : b ≤ 3) (hf : SolM s b r f) : ∀ (n p : Nat), f p ≤ n → p < 192 → f p < 1000 → rk0 s b p = 0 → OpB s b r n p := by
  intro n
  induction n with
  | zero =>
    intro p hn hp
    have h1 := (hf.1 p hp).2.1
    exact absurd (Int.le_trans h1 hn) (by decide)
  | succ n ih =>
    intro p hn hp h3 h0
    have hpl := (hf.1 p hp).2.2 (by omega)
    refine ⟨hp, hpl, h0, ?_⟩
    by_cases h1 : f p = 1
    · exact Or.inl ((hf.2.1 p hp).mp h1).2
    · obtain ⟨u, d, hu, hd, hfu, hq, he⟩ := hf.2.2.2 p hp (by omega) h1
      have hrk := rk1_bd s hb u p
      have h4 := (hf.1 u hu).2.1
      have h5 : rk1 s b u p = 0 := by omega
      obtain ⟨d', hd', e⟩ := nxM_back hb1 hu hd ((hf.1 u hu).2.2 hfu) hq
      exact Or.inr ⟨d', u, hd', e, ih u (by omega) hu (by omega) (rk_step hb1 h0 h5)⟩
theorem bsM4_min {s : Nat → Int} {b : Nat} {one : Int} {f : Nat → Int} : ∀ n p, p < n → f p < 1000000 → atB s b p one = 1 → f p + 1000 * rk0 s b p < 1000000 → (bsM4 s b one f n).1 ≠ -1 ∧ (bsM4 s b one f n).2 ≤ f p + 1000 * rk0 s b p
  | 0, p, h, _, _, _ => absurd h (by omega)
  | n + 1, p, h, h1, h2, h3 => by
    unfold bsM4
    by_cases e : p = n
    · subst e
      by_cases c : f p + 1000 * rk0 s b p < (bsM4 s b one f p).2
      · rw [if_pos ⟨h1, h2, c⟩]
        exact ⟨by show ((p : Nat) : Int) ≠ -1; omega, Int.le_refl _⟩
      · rw [if_neg (fun z => c z.2.2)]
        refine ⟨fun z => ?_, by omega⟩
        have key : ∀ n, (bsM4 s b one f n).1 = -1 → (bsM4 s b one f n).2 = 1000000 := by
          intro n
          induction n with
          | zero => intro _; rfl
          | succ n ih =>
            intro z
            unfold bsM4 at z ⊢
            split at z
            · exact absurd z (by show ((n : Nat) : Int) ≠ -1; omega)
            · rename_i hc
              rw [if_neg hc]
              exact ih z
        have := key p z
        omega
    · have ih := bsM4_min n p (by omega) h1 h2 h3
      split
      · rename_i hc
        exact ⟨by show ((n : Nat) : Int) ≠ -1; omega, by show f n + 1000 * rk0 s b n ≤ _; omega⟩
      · exact ih
theorem opW_iff {s : Nat → Int} {a c : Nat} (hw : 0 ≤ wkM s a c ∧ wkM s a c ≤ 3) : opW s a c = 1 ↔ ∃ p, atB s (bdM s a c) p (a : Nat) = 1 ∧ OpB s (bdM s a c) (c : Nat) 192 p := by
  have hb := bdM_bd hw
  have hf := fW_sol hw
  have hbd := bsM4_bd (s := s) (b := bdM s a c) hb.2 (one := (a : Nat)) (f := fW s a c) (rsM_bd hb.2 _ (fun k => ⟨Int.le_refl _, by decide⟩) (fun k => ⟨Int.le_refl _, by decide⟩)).1 192
  have ho := bsM4_ok (s := s) (b := bdM s a c) (one := (a : Nat)) (f := fW s a c) 192
  have hmin := bsM4_min (s := s) (b := bdM s a c) (one := (a : Nat)) (f := fW s a c) 192
  constructor
  · intro h
    have h1 := opW_1 h
    unfold isW cW at h1
    unfold bW at h1
    generalize bsM4 s (bdM s a c) (a : Nat) (fW s a c) 192 = B at *
    obtain ⟨h2, h3⟩ := h1
    by_cases e : B.1 = -1
    · rw [if_pos e] at h2
      omega
    · obtain ⟨g1, g2, g3⟩ := ho e
      have hr := rk0_bd s hb.2 B.1.toNat
      have h4 := (hf.1 B.1.toNat (by omega)).2.1
      have h5 := (Sol_mod' hf (show B.1.toNat < 192 by omega) g1).2.1
      exact ⟨B.1.toNat, g2, Sol_Op hb.1 hb.2 hf 192 _ (by omega) (by omega) (by omega) (by omega)⟩
  · rintro ⟨p, h1, h2⟩
    have hp := Op_pl h2
    have h3 := Op_le hb.1 hb.2 hf 192 p (by omega) h2
    have h4 := hmin p hp.1 (by omega) h1 (by omega)
    unfold opW isW cW
    unfold bW
    generalize bsM4 s (bdM s a c) (a : Nat) (fW s a c) 192 = B at *
    rw [if_neg h4.1, if_pos ⟨rfl, by omega⟩]
theorem DgR.wk {s s' : Nat → Int} (h : ∀ j, 192 ≤ j → s' j = s j) (a b : Nat) : wkM s' a b = wkM s a b := h _ (by omega)
theorem DgR.bd {s s' : Nat → Int} (h : ∀ j, 192 ≤ j → s' j = s j) (a b : Nat) : bdM s' a b = bdM s a b := by
  unfold bdM
  rw [DgR.wk h]
theorem DgR.opn {s s' : Nat → Int} (h : DgR s s') (hh : ∀ j, 192 ≤ j → s' j = s j) {a b : Nat} (hw : 0 ≤ wkM s a b ∧ wkM s a b ≤ 3) (ho : opW s a b = 1) : opW s' a b = 1 := by
  obtain ⟨p, h1, h2⟩ := (opW_iff hw).mp ho
  refine (opW_iff (by rw [DgR.wk hh]; exact hw)).mpr ⟨p, ?_, ?_⟩
  · rw [DgR.bd hh, h.at _ _ (by omega)]
    exact h1
  · rw [DgR.bd hh]
    exact h.op (by omega) (bdM_bd hw).2 _ _ h2
