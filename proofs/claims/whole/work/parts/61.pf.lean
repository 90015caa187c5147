/-! THE RESTS COUNT THEIR STEPS -/
theorem sum_le {f g : Nat → Int} : ∀ n, (∀ i, i < n → f i ≤ g i) → sumTo f n ≤ sumTo g n
  | 0, _ => Int.le_refl _
  | n + 1, h => by
    have h1 := sum_le n (fun i hi => h i (by omega))
    have h2 := h n (by omega)
    rw [sum_s, sum_s]
    omega
theorem sum_lt {f g : Nat → Int} : ∀ n, (∀ i, i < n → f i ≤ g i) → ∀ j, j < n → f j + 1 ≤ g j → sumTo f n + 1 ≤ sumTo g n
  | 0, _, j, hj, _ => absurd hj (by omega)
  | n + 1, h, j, hj, hlt => by
    rw [sum_s, sum_s]
    by_cases e : j = n
    · have h1 := sum_le n (fun i hi => h i (by omega))
      rw [e] at hlt
      omega
    · have h1 := sum_lt n (fun i hi => h i (by omega)) j (by omega) hlt
      have h2 := h n (by omega)
      omega
def clt (f : Nat → Int) (p n : Nat) : Int := sumTo (fun k => b01 (f k < f p)) n
theorem clt_nn (f : Nat → Int) (p n : Nat) : 0 ≤ clt f p n := (cnt_bd (c := fun k => f k < f p) n).1
theorem clt_lt {f : Nat → Int} {u p n : Nat} (hu : u < n) (h : f u < f p) : clt f u n + 1 ≤ clt f p n := by
  refine sum_lt n (fun i _ => ?_) u hu ?_
  · by_cases h1 : f i < f u
    · rw [b01_t h1, b01_t (by omega)]
      exact Int.le_refl _
    · rw [b01_f h1]
      exact (b01_bd _).1
  · rw [b01_f (by omega), b01_t h]
    omega
theorem sum_one : ∀ n : Nat, sumTo (fun _ => 1) n = n
  | 0 => rfl
  | n + 1 => by rw [sum_s, sum_one n]; rfl
theorem clt_le {f : Nat → Int} {p n : Nat} (hp : p < n) : clt f p n + 1 ≤ n := by
  have := sum_lt (f := fun k => b01 (f k < f p)) (g := fun _ => 1) n (fun i _ => (b01_bd _).2) p hp (by rw [b01_f (by omega)]; omega)
  rw [sum_one] at this
  exact this
theorem Sol_mod {s : Nat → Int} {b : Nat} {r : Int} {f : Nat → Int} (h : SolM s b r f) : ∀ (n p : Nat), f p < n → p < 192 → f p < 1000000 → (1 ≤ f p % 1000 ∧ f p % 1000 ≤ clt f p 192 + 1 ∧ (f p % 1000 = 1 → f p = 1)) := by
  obtain ⟨a1, a2, a3, a4⟩ := h
  intro n
  induction n with
  | zero =>
    intro p hn hp hf
    have h1 := (a1 p hp).2.1
    exact absurd (Int.lt_of_le_of_lt h1 hn) (by decide)
  | succ n ih =>
    intro p hn hp hf
    have hc := clt_nn f p 192
    by_cases e : f p = 1
    · rw [e]
      exact ⟨by decide, by omega, fun _ => rfl⟩
    · obtain ⟨u, d, hu, hd, hfu, hq, he⟩ := a4 p hp hf e
      have h1 := (a1 u hu).2.1
      have hrk : 0 ≤ rk1 s b u p := by
        have := sum_bd (f := rk1T s b u p) (a := 0) (b := 1) (b * b) (fun k _ => rk1T_bd s b u p k)
        unfold rk1
        omega
      have ihu := ih u (by omega) hu hfu
      have hlt := clt_lt (f := f) (n := 192) hu (show f u < f p by omega)
      have hle := clt_le (f := f) (n := 192) hp
      have e2 : f p % 1000 = f u % 1000 + 1 := by omega
      exact ⟨by omega, by omega, fun h => by omega⟩
theorem Sol_mod' {s : Nat → Int} {b : Nat} {r : Int} {f : Nat → Int} (h : SolM s b r f) {p : Nat} (hp : p < 192) (hf : f p < 1000000) : 1 ≤ f p % 1000 ∧ f p % 1000 ≤ 192 ∧ (f p % 1000 = 1 → f p = 1) := by
  have h1 := Sol_mod h ((f p).toNat + 1) p (by have := (h.1 p hp).2.1; omega) hp hf
  have h2 := clt_le (f := f) (n := 192) hp
  exact ⟨h1.1, by omega, h1.2.2⟩
theorem folM_ok {s : Nat → Int} {b : Nat} {f : Nat → Int} {p : Nat} : ∀ n, folM s b f p n ≠ -1 → ∃ d, d < n ∧ nxM s b p d ≠ -1 ∧ folM s b f p n = nxM s b p d ∧ f (nxM s b p d).toNat + 1 + 1000 * rk1 s b (nxM s b p d).toNat p = f p
  | 0, h => absurd rfl h
  | n + 1, h => by
    unfold folM at h ⊢
    by_cases c : nxM s b p n ≠ -1 ∧ f (nxM s b p n).toNat + 1 + 1000 * rk1 s b (nxM s b p n).toNat p = f p
    · rw [if_pos c] at h ⊢
      by_cases c2 : folM s b f p n = -1 ∨ nxM s b p n < folM s b f p n
      · rw [if_pos c2] at h ⊢
        exact ⟨n, by omega, c.1, rfl, c.2⟩
      · rw [if_neg c2] at h ⊢
        obtain ⟨d, h1, h2⟩ := folM_ok n h
        exact ⟨d, by omega, h2⟩
    · rw [if_neg c] at h ⊢
      obtain ⟨d, h1, h2⟩ := folM_ok n h
      exact ⟨d, by omega, h2⟩
theorem folM_ex {s : Nat → Int} {b : Nat} (hb : 1 ≤ b) {f : Nat → Int} {p : Nat} : ∀ n d, d < n → nxM s b p d ≠ -1 → f (nxM s b p d).toNat + 1 + 1000 * rk1 s b (nxM s b p d).toNat p = f p → folM s b f p n ≠ -1 ∧ folM s b f p n ≤ nxM s b p d
  | 0, d, h, _, _ => absurd h (by omega)
  | n + 1, d, h, h1, h2 => by
    have hb1 := nxM_bd s hb p n
    unfold folM
    by_cases e : d = n
    · rw [e] at h1 h2 ⊢
      rw [if_pos ⟨h1, h2⟩]
      by_cases c2 : folM s b f p n = -1 ∨ nxM s b p n < folM s b f p n
      · rw [if_pos c2]
        exact ⟨h1, Int.le_refl _⟩
      · rw [if_neg c2]
        exact ⟨fun z => c2 (Or.inl z), by omega⟩
    · have ih := folM_ex hb n d (by omega) h1 h2
      by_cases c : nxM s b p n ≠ -1 ∧ f (nxM s b p n).toNat + 1 + 1000 * rk1 s b (nxM s b p n).toNat p = f p
      · rw [if_pos c]
        by_cases c2 : folM s b f p n = -1 ∨ nxM s b p n < folM s b f p n
        · rw [if_pos c2]
          rcases c2 with z | z
          · exact absurd z ih.1
          · exact ⟨c.1, by omega⟩
        · rw [if_neg c2]
          exact ih
      · rw [if_neg c]
        exact ih
theorem Sol_fol {s : Nat → Int} {b : Nat} (hb1 : 1 ≤ b) (hb : b ≤ 3) {r : Int} {f : Nat → Int} (h : SolM s b r f) {p : Nat} (hp : p < 192) (hf : f p < 1000000) (h1 : f p ≠ 1) : folM s b f p 4 ≠ -1 ∧ ∃ d q, d < 4 ∧ q < 192 ∧ nxM s b p d = (q : Nat) ∧ folM s b f p 4 = (q : Nat) ∧ f q + 1 + 1000 * rk1 s b q p = f p ∧ f q < 1000000 := by
  obtain ⟨u, d, hu, hd, hfu, hq, he⟩ := h.2.2.2 p hp hf h1
  obtain ⟨d', hd', hback⟩ := nxM_back hb1 hu hd ((h.1 u hu).2.2 hfu) hq
  have hex := folM_ex (s := s) hb1 (f := f) (p := p) 4 d' hd' (by omega) (by rw [hback, Int.toNat_natCast]; omega)
  refine ⟨hex.1, ?_⟩
  obtain ⟨d2, g1, g2, g3, g4⟩ := folM_ok 4 hex.1
  obtain ⟨q, hq2⟩ : ∃ q : Nat, nxM s b p d2 = q := ⟨(nxM s b p d2).toNat, by have := nxM_bd s hb1 p d2; omega⟩
  rw [hq2, Int.toNat_natCast] at g4
  have hrk := rk1_bd s hb q p
  exact ⟨d2, q, g1, (nxM_pl hb1 hq2).2, hq2, by rw [g3, hq2], g4, by omega⟩
theorem Sol_PF {s : Nat → Int} {b : Nat} (hb1 : 1 ≤ b) (hb : b ≤ 3) {r : Int} {f : Nat → Int} (h : SolM s b r f) : PF s b f := by
  intro p hp hf
  have hm := Sol_mod' h hp hf
  refine ⟨hm.1, hm.2.1, fun h1 => ?_⟩
  obtain ⟨g1, d, q, hd, hq, hn, hfo, he, hfq⟩ := Sol_fol hb1 hb h hp hf (fun e => h1 (by rw [e]; rfl))
  have hmq := Sol_mod' h hq hfq
  refine ⟨g1, ?_, ?_⟩
  · rw [hfo, Int.toNat_natCast]
    omega
  · rw [hfo, Int.toNat_natCast]
    exact hfq
