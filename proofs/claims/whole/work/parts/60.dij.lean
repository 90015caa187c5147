/-! THE LEAST RESTS, by what they are -/
theorem nrM_min {t f : Nat → Int} : ∀ n v, v < n → t v = 0 → f v < 1000000 → nrM t f n ≠ -1 ∧ f (nrM t f n).toNat ≤ f v
  | 0, v, h, _, _ => absurd h (by omega)
  | n + 1, v, h, ht, hf => by
    unfold nrM
    by_cases hv : v = n
    · subst hv
      by_cases hc : t v = 0 ∧ f v < 1000000 ∧ (nrM t f v = -1 ∨ f v < f (nrM t f v).toNat)
      · rw [if_pos hc, Int.toNat_natCast]
        exact ⟨by omega, Int.le_refl _⟩
      · rw [if_neg hc]
        by_cases e : nrM t f v = -1
        · exact absurd ⟨ht, hf, Or.inl e⟩ hc
        · refine ⟨e, ?_⟩
          by_cases e2 : f v < f (nrM t f v).toNat
          · exact absurd ⟨ht, hf, Or.inr e2⟩ hc
          · omega
    · have ih := nrM_min n v (by omega) ht hf
      by_cases hc : t n = 0 ∧ f n < 1000000 ∧ (nrM t f n = -1 ∨ f n < f (nrM t f n).toNat)
      · rw [if_pos hc, Int.toNat_natCast]
        refine ⟨by omega, ?_⟩
        rcases hc.2.2 with e | e
        · exact absurd e ih.1
        · omega
      · rw [if_neg hc]
        exact ih
theorem nxM_ne {s : Nat → Int} {b p d : Nat} (hd : d < 4) (h : nxM s b p d ≠ -1) : (nxM s b p d).toNat ≠ p := by
  unfold nxM at h ⊢
  split at h
  · rename_i hc
    rw [if_pos hc]
    obtain ⟨h1, h2, -⟩ := plB_of hc
    rcases (show d = 0 ∨ d = 1 ∨ d = 2 ∨ d = 3 by omega) with rfl | rfl | rfl | rfl <;> simp [axM, ayM] at h1 h2 ⊢ <;> omega
  · exact absurd rfl h
def plP (s : Nat → Int) (b p : Nat) : Prop := plB s b ((p % 16 : Nat) : Int) ((p / 16 : Nat) : Int) = 1
theorem nxM_pl {s : Nat → Int} {b p d q : Nat} (hb : 1 ≤ b) (h : nxM s b p d = q) : plP s b q ∧ q < 192 := by
  have h0 := nxM_bd s hb p d
  unfold nxM at h
  split at h
  · rename_i hc
    obtain ⟨h1, h2, h3, h4, -⟩ := plB_of hc
    unfold plP
    rw [show ((q % 16 : Nat) : Int) = ((p % 16 : Nat) : Int) + axM d by omega, show ((q / 16 : Nat) : Int) = ((p / 16 : Nat) : Int) + ayM d by omega]
    exact ⟨hc, by omega⟩
  · omega
/-- there and back -/
theorem nxM_back {s : Nat → Int} {b p d q : Nat} (hb : 1 ≤ b) (hp : p < 192) (hd : d < 4) (hpl : plP s b p) (h : nxM s b p d = q) : ∃ d', d' < 4 ∧ nxM s b q d' = p := by
  unfold nxM at h
  split at h
  · rename_i hc
    obtain ⟨h1, h2, h3, h4, -⟩ := plB_of hc
    have e1 : ((q % 16 : Nat) : Int) = ((p % 16 : Nat) : Int) + axM d := by omega
    have e2 : ((q / 16 : Nat) : Int) = ((p / 16 : Nat) : Int) + ayM d := by omega
    unfold plP at hpl
    have key : ∀ d', axM d' = - axM d → ayM d' = - ayM d → nxM s b q d' = p := by
      intro d' k1 k2
      unfold nxM
      rw [e1, e2, k1, k2, show ((p % 16 : Nat) : Int) + axM d + -axM d = ((p % 16 : Nat) : Int) by omega, show ((p / 16 : Nat) : Int) + ayM d + -ayM d = ((p / 16 : Nat) : Int) by omega, if_pos hpl]
      omega
    rcases (show d = 0 ∨ d = 1 ∨ d = 2 ∨ d = 3 by omega) with rfl | rfl | rfl | rfl
    · exact ⟨1, by omega, key 1 (by decide) (by decide)⟩
    · exact ⟨0, by omega, key 0 (by decide) (by decide)⟩
    · exact ⟨3, by omega, key 3 (by decide) (by decide)⟩
    · exact ⟨2, by omega, key 2 (by decide) (by decide)⟩
  · omega
def DI (s : Nat → Int) (b : Nat) (r : Int) (t f : Nat → Int) : Prop :=
  (∀ v, v < 192 → f v ≤ 1000000 ∧ 1 ≤ f v ∧ (f v < 1000000 → plP s b v)) ∧
  (∀ v, v < 192 → (f v = 1 ↔ (plP s b v ∧ atB s b v r = 1))) ∧
  (∀ p, p < 192 → t p ≠ 0 → f p < 1000000 ∧ ∀ d q, d < 4 → nxM s b p d = (q : Nat) → f q ≤ f p + 1 + 1000 * rk1 s b p q) ∧
  (∀ p v, p < 192 → v < 192 → t p ≠ 0 → t v = 0 → f p ≤ f v) ∧
  (∀ v, v < 192 → f v < 1000000 → f v ≠ 1 → ∃ p d, p < 192 ∧ d < 4 ∧ t p ≠ 0 ∧ nxM s b p d = (v : Nat) ∧ f v = f p + 1 + 1000 * rk1 s b p v)
theorem rlx_ok {s : Nat → Int} {b : Nat} (hb1 : 1 ≤ b) (hb : b ≤ 3) (p : Nat) (f : Nat → Int) : ∀ d, d ≤ 4 →
    (∀ v, rlx s b p f d v ≤ f v) ∧ rlx s b p f d p = f p ∧
    (∀ v, rlx s b p f d v = f v ∨ ∃ d', d' < d ∧ nxM s b p d' = (v : Nat) ∧ rlx s b p f d v = f p + 1 + 1000 * rk1 s b p v) ∧
    (∀ d' q, d' < d → nxM s b p d' = (q : Nat) → rlx s b p f d q ≤ f p + 1 + 1000 * rk1 s b p q)
  | 0, _ => ⟨fun v => Int.le_refl _, rfl, fun v => Or.inl rfl, fun d' q h => absurd h (by omega)⟩
  | d + 1, hd => by
    obtain ⟨i1, i2, i3, i4⟩ := rlx_ok hb1 hb p f d (by omega)
    by_cases c : nxM s b p d = -1
    · have e : rlx s b p f (d + 1) = rlx s b p f d := by
        conv => lhs; unfold rlx
        rw [if_pos c]
      rw [e]
      refine ⟨i1, i2, fun v => ?_, fun d' q h hq => ?_⟩
      · rcases i3 v with h | ⟨d', h1, h2⟩
        · exact Or.inl h
        · exact Or.inr ⟨d', by omega, h2⟩
      · by_cases e : d' = d
        · rw [e, c] at hq
          omega
        · exact i4 d' q (by omega) hq
    · obtain ⟨q0, hq0⟩ : ∃ q : Nat, nxM s b p d = q := ⟨(nxM s b p d).toNat, by have := nxM_bd s hb1 p d; omega⟩
      have hne := nxM_ne (by omega) c
      rw [hq0, Int.toNat_natCast] at hne
      have hrk := rk1_bd s hb p q0
      have e : rlx s b p f (d + 1) = upI (rlx s b p f d) q0 (if f p + 1 + 1000 * rk1 s b p q0 < rlx s b p f d q0 then f p + 1 + 1000 * rk1 s b p q0 else rlx s b p f d q0) := by
        conv => lhs; unfold rlx
        rw [if_neg c, hq0, Int.toNat_natCast, i2]
      rw [e]
      simp only [upI_at]
      refine ⟨fun v => ?_, ?_, fun v => ?_, fun d' q h hq => ?_⟩
      · split
        · rename_i ev
          have := i1 v
          rw [ev] at this ⊢
          split <;> omega
        · exact i1 v
      · rw [if_neg (fun h => hne h.symm)]
        exact i2
      · by_cases ev : v = q0
        · rw [if_pos ev]
          split
          · exact Or.inr ⟨d, by omega, by rw [ev]; exact hq0, by rw [ev]⟩
          · rw [← ev]
            rcases i3 v with h | ⟨d', h1, h2⟩
            · exact Or.inl h
            · exact Or.inr ⟨d', by omega, h2⟩
        · rw [if_neg ev]
          rcases i3 v with h | ⟨d', h1, h2⟩
          · exact Or.inl h
          · exact Or.inr ⟨d', by omega, h2⟩
      · by_cases ev : q = q0
        · rw [if_pos ev, ev]
          split <;> omega
        · rw [if_neg ev]
          by_cases e : d' = d
          · rw [e, hq0] at hq
            omega
          · exact i4 d' q (by omega) hq
theorem DI_step {s : Nat → Int} {b : Nat} (hb1 : 1 ≤ b) (hb : b ≤ 3) {r : Int} {t f : Nat → Int} (h : DI s b r t f) {p : Nat} (hp : nrM t f 192 = p) : DI s b r (upI t p 1) (rlx s b p f 4) := by
  have hpb := nrM_bd t f 192
  have hpt := nrM_t (t := t) (f := f) 192 (by omega)
  have hmin := fun v hv ht hf => (nrM_min (t := t) (f := f) 192 v hv ht hf).2
  rw [hp] at hpb
  rw [hp, Int.toNat_natCast] at hpt
  simp only [hp, Int.toNat_natCast] at hmin
  obtain ⟨a1, a2, a3, a4, a5⟩ := h
  obtain ⟨i1, i2, i3, i4⟩ := rlx_ok (s := s) hb1 hb p f 4 (by omega)
  have hp2 : p < 192 := by omega
  have hp1 := (a1 p hp2).2.1
  have rkp : ∀ v, 0 ≤ rk1 s b p v := fun v => (rk1_bd s hb p v).1
  -- what is settled stays
  have stay : ∀ v, v < 192 → t v ≠ 0 → rlx s b p f 4 v = f v := by
    intro v hv ht
    rcases i3 v with e | ⟨d', -, -, e⟩
    · exact e
    · have h1 := a4 v p hv hp2 ht hpt.1
      have h2 := i1 v
      have h3 := rkp v
      omega
  have low : ∀ v, v < 192 → t v = 0 → f p ≤ rlx s b p f 4 v := by
    intro v hv ht
    rcases i3 v with e | ⟨d', -, -, e⟩
    · rw [e]
      by_cases hf : f v < 1000000
      · exact hmin v hv ht hf
      · omega
    · have h3 := rkp v
      omega
  refine ⟨fun v hv => ?_, fun v hv => ?_, fun v hv ht => ?_, fun v w hv hw ht htw => ?_, fun v hv hf h1 => ?_⟩
  · have h1 := a1 v hv
    have h2 := i1 v
    rcases i3 v with e | ⟨d', -, hn, e⟩
    · rw [e]
      exact h1
    · have h3 := rkp v
      exact ⟨by omega, by omega, fun _ => (nxM_pl hb1 hn).1⟩
  · rcases i3 v with e | ⟨d', -, hn, e⟩
    · rw [e]
      exact a2 v hv
    · have h3 := rkp v
      refine ⟨fun h => absurd h (by omega), fun h => ?_⟩
      have h4 := (a2 v hv).mpr h
      have h5 := i1 v
      omega
  · rw [upI_at] at ht
    by_cases e : v = p
    · rw [e, i2]
      exact ⟨hpt.2, fun d q hd hq => i4 d q hd hq⟩
    · rw [if_neg e] at ht
      rw [stay v hv ht]
      refine ⟨(a3 v hv ht).1, fun d q hd hq => ?_⟩
      have := (a3 v hv ht).2 d q hd hq
      have := i1 q
      omega
  · rw [upI_at] at ht htw
    have hwp : w ≠ p := fun e => by rw [if_pos e] at htw; omega
    rw [if_neg hwp] at htw
    have hw2 := low w hw htw
    by_cases e : v = p
    · rw [e, i2]
      exact hw2
    · rw [if_neg e] at ht
      rw [stay v hv ht]
      have := a4 v p hv hp2 ht hpt.1
      omega
  · rcases i3 v with e | ⟨d', hd', hn, e⟩
    · rw [e] at hf h1
      obtain ⟨q, d, hq, hd, htq, hnq, he⟩ := a5 v hv hf h1
      refine ⟨q, d, hq, hd, ?_, hnq, ?_⟩
      · rw [upI_at]
        split
        · omega
        · exact htq
      · rw [e, stay q hq htq]
        exact he
    · exact ⟨p, d', hp2, hd', by rw [upI_at, if_pos rfl]; omega, hn, by rw [i2]; exact e⟩
theorem uns_nn (t : Nat → Int) (n : Nat) : 0 ≤ uns t n := (cnt_bd (c := fun k => t k = 0) n).1
theorem DI_dij {s : Nat → Int} {b : Nat} (hb1 : 1 ≤ b) (hb : b ≤ 3) {r : Int} : ∀ (n : Nat) (t f : Nat → Int), uns t 192 < n → DI s b r t f → DI s b r (dij s b n t f).1 (dij s b n t f).2 ∧ nrM (dij s b n t f).1 (dij s b n t f).2 192 = -1 := by
  intro n
  induction n with
  | zero =>
    intro t f hu h
    have h1 := uns_nn t 192
    exact absurd (Int.lt_of_le_of_lt h1 hu) (by decide)
  | succ n ihn =>
    intro t f hu h
    unfold dij
    have b0 := nrM_bd t f 192
    by_cases c : nrM t f 192 = -1
    · rw [if_pos c]
      exact ⟨h, c⟩
    · rw [if_neg c]
      obtain ⟨p, hp⟩ : ∃ p : Nat, nrM t f 192 = p := ⟨(nrM t f 192).toNat, by omega⟩
      have hpt := (nrM_t (t := t) (f := f) 192 c).1
      rw [hp, Int.toNat_natCast] at hpt
      rw [hp] at b0
      have hu2 := uns_up hpt 192
      rw [if_pos (by omega)] at hu2
      rw [hp, Int.toNat_natCast]
      exact ihn _ _ (by omega) (DI_step hb1 hb h hp)
/-- the rests solve their equations -/
def SolM (s : Nat → Int) (b : Nat) (r : Int) (f : Nat → Int) : Prop :=
  (∀ v, v < 192 → f v ≤ 1000000 ∧ 1 ≤ f v ∧ (f v < 1000000 → plP s b v)) ∧
  (∀ v, v < 192 → (f v = 1 ↔ (plP s b v ∧ atB s b v r = 1))) ∧
  (∀ p d q, p < 192 → f p < 1000000 → d < 4 → nxM s b p d = (q : Nat) → f q ≤ f p + 1 + 1000 * rk1 s b p q) ∧
  (∀ v, v < 192 → f v < 1000000 → f v ≠ 1 → ∃ p d, p < 192 ∧ d < 4 ∧ f p < 1000000 ∧ nxM s b p d = (v : Nat) ∧ f v = f p + 1 + 1000 * rk1 s b p v)
theorem SolM_rs {s : Nat → Int} {b : Nat} (hb1 : 1 ≤ b) (hb : b ≤ 3) (r : Int) (A8 A9 : Nat → Int) : SolM s b r (rsM s b r A8 A9).2 := by
  have h0 : DI s b r (fun k => if k < 192 then 0 else A9 k) (fun k => if k < 192 then ry0 s b r k else A8 k) := by
    refine ⟨fun v hv => ?_, fun v hv => ?_, fun p hp ht => ?_, fun p v hp hv ht => ?_, fun v hv hf h1 => ?_⟩
    · simp only [if_pos hv, ry0, plP]
      split
      · rename_i h; exact ⟨by omega, by omega, fun _ => h.1⟩
      · exact ⟨by omega, by omega, fun h => absurd h (by omega)⟩
    · simp only [if_pos hv, ry0, plP]
      split
      · rename_i h; exact ⟨fun _ => h, fun _ => rfl⟩
      · rename_i h; exact ⟨fun h => absurd h (by omega), fun h9 => absurd h9 h⟩
    · simp only [if_pos hp] at ht
      exact absurd rfl ht
    · simp only [if_pos hp] at ht
      exact absurd rfl ht
    · simp only [if_pos hv, ry0] at hf h1
      split at hf
      · rename_i h; rw [if_pos h] at h1; exact absurd rfl h1
      · omega
  have hu : uns (fun k => if k < 192 then 0 else A9 k) 192 < ((193 : Nat) : Int) := by
    have := (cnt_bd (c := fun k => (fun k => if k < 192 then 0 else A9 k) k = 0) 192).2
    unfold uns
    omega
  have hd := DI_dij hb1 hb 193 _ _ hu h0
  unfold rsM
  generalize dij s b 193 (fun k => if k < 192 then 0 else A9 k) (fun k => if k < 192 then ry0 s b r k else A8 k) = D at *
  obtain ⟨⟨a1, a2, a3, a4, a5⟩, hn⟩ := hd
  have set : ∀ v, v < 192 → D.2 v < 1000000 → D.1 v ≠ 0 := fun v hv hf ht => (nrM_min 192 v hv ht hf).1 hn
  refine ⟨a1, a2, fun p d q hp hf hd hq => (a3 p hp (set p hp hf)).2 d q hd hq, fun v hv hf h1 => ?_⟩
  obtain ⟨p, d, hp, hd, ht, hq, he⟩ := a5 v hv hf h1
  exact ⟨p, d, hp, hd, (a3 p hp ht).1, hq, he⟩
