/-! THE QUEUE: what holds while the lengths spread -/
def dT (f : Nat → Int) (p : Nat) : Int := if f p < 1000000 then 256 * (f p / 1000) + f p % 1000 else 16777216
theorem dT_fin {s : Nat → Int} {b : Nat} {r : Int} {f : Nat → Int} (hf : SolM s b r f) {p : Nat} (hp : p < 192) (h : f p < 1000000) : dT f p = 256 * (f p / 1000) + f p % 1000 ∧ 1 ≤ f p % 1000 ∧ f p % 1000 ≤ 192 ∧ 1 ≤ dT f p ∧ dT f p < 16777216 := by
  have h1 := Sol_mod' hf hp h
  have h2 := (hf.1 p hp).2.1
  have e : dT f p = 256 * (f p / 1000) + f p % 1000 := if_pos h
  omega
theorem dT_inf {f : Nat → Int} {p : Nat} (h : dT f p < 16777216) : f p < 1000000 := by
  unfold dT at h
  split at h
  · assumption
  · omega
theorem dT_le {s : Nat → Int} {b : Nat} {r : Int} {f : Nat → Int} (hb1 : 1 ≤ b) (hb : b ≤ 3) (hf : SolM s b r f) {p d q : Nat} (hp : p < 192) (hd : d < 4) (h : f p < 1000000) (hn : nxM s b p d = (q : Nat)) : dT f q ≤ dT f p + 1 + 256 * rk1 s b p q := by
  have hq := (nxM_pl hb1 hn).2
  have h1 := hf.2.2.1 p d q hp h hd hn
  have h2 := Sol_mod' hf hp h
  have h3 := rk1_bd s hb p q
  have e1 := (dT_fin hf hp h).1
  by_cases c : f q < 1000000
  · have h4 := Sol_mod' hf hq c
    have e2 := (dT_fin hf hq c).1
    have h5 := (hf.1 q hq).2.1
    have h6 := (hf.1 p hp).2.1
    omega
  · have := (hf.1 q hq).1
    have h6 := (hf.1 p hp).2.1
    exfalso
    -- a step from a reached place reaches
    have hr3 := rk1_le3 hb1 hb hd hn
    have hS : ∀ (n p : Nat), f p < n → p < 192 → f p < 1000000 → f p / 1000 ≤ 3 * (f p % 1000) := by
      intro n
      induction n with
      | zero =>
        intro p hn hp hf'
        have := (hf.1 p hp).2.1
        exact absurd (Int.lt_of_le_of_lt this hn) (by decide)
      | succ n ih =>
        intro p hn hp hf'
        by_cases e1 : f p = 1
        · rw [e1]; decide
        · obtain ⟨u, d, hu, hd, hfu, hq, he⟩ := hf.2.2.2 p hp hf' e1
          have hrk := rk1_le3 hb1 hb hd hq
          have h5 := (hf.1 u hu).2.1
          have ihu := ih u (by omega) hu hfu
          have hmu := Sol_mod' hf hu hfu
          have ed : f p / 1000 = f u / 1000 + rk1 s b u p := by omega
          have em : f p % 1000 = f u % 1000 + 1 := by omega
          rw [ed, em]
          omega
    have := hS ((f p).toNat + 1) p (by omega) hp h
    omega
theorem dT_pr {s : Nat → Int} {b : Nat} {r : Int} {f : Nat → Int} (hb : b ≤ 3) (hf : SolM s b r f) {p : Nat} (hp : p < 192) (h : f p < 1000000) (h1 : f p ≠ 1) : ∃ u d, u < 192 ∧ d < 4 ∧ f u < 1000000 ∧ nxM s b u d = (p : Nat) ∧ dT f p = dT f u + 1 + 256 * rk1 s b u p ∧ f u % 1000 = f p % 1000 - 1 ∧ f u < f p := by
  obtain ⟨u, d, hu, hd, hfu, hq, he⟩ := hf.2.2.2 p hp h h1
  have hrk := rk1_bd s hb u p
  have hmu := Sol_mod' hf hu hfu
  have hmp := Sol_mod' hf hp h
  have e1 := (dT_fin hf hp h).1
  have e2 := (dT_fin hf hu hfu).1
  have h5 := (hf.1 u hu).2.1
  exact ⟨u, d, hu, hd, hfu, hq, by omega, by omega, by omega⟩
def QI (s : Nat → Int) (b : Nat) (f : Nat → Int) (td : Nat → Nat → Prop) (j : Int) (B : Nat) (F U K : Nat → Int) (H T : Nat) : Prop :=
  (H ≤ T ∧ H ≤ B ∧ B ≤ T ∧ (T : Int) - H = sumTo U 192) ∧
  (∀ p, p < 192 → dT f p ≤ F p ∧ F p ≤ 16777216 ∧ (F p < 16777216 → plP s b p) ∧ (U p = 0 ∨ U p = 1) ∧ (U p = 1 → F p < 16777216)) ∧
  (∀ i, H ≤ i → i < T → ∃ p, p < 192 ∧ K (i % 192) = (p : Nat) ∧ U p = 1) ∧
  (∀ i i', H ≤ i → i < i' → i' < T → K (i % 192) ≠ K (i' % 192)) ∧
  (∀ p, p < 192 → U p = 1 → ∃ i, H ≤ i ∧ i < T ∧ K (i % 192) = (p : Nat)) ∧
  (∀ u d q, u < 192 → d < 4 → F u < 16777216 → U u = 0 → nxM s b u d = (q : Nat) → td u d ∨ F q ≤ F u + 1 + 256 * rk1 s b u q) ∧
  (∀ p, p < 192 → f p < 1000000 → (f p % 1000 ≤ j + 1 → F p = dT f p) ∧ (f p % 1000 ≤ j → U p = 0)) ∧
  (∀ i p, B ≤ i → i < T → K (i % 192) = (p : Nat) → p < 192 → f p < 1000000 → j + 1 < f p % 1000)
theorem QI.room {s : Nat → Int} {b : Nat} {f : Nat → Int} {td : Nat → Nat → Prop} {j : Int} {B : Nat} {F U K : Nat → Int} {H T : Nat} (h : QI s b f td j B F U K H T) : T - H ≤ 192 ∧ ∀ q, q < 192 → U q = 0 → T - H < 192 := by
  obtain ⟨⟨h1, h2, h3, h4⟩, h5, -⟩ := h
  have hU : ∀ i, i < 192 → 0 ≤ U i ∧ U i ≤ 1 := fun i hi => by
    have := (h5 i hi).2.2.2.1
    omega
  have hle := sum_le (f := U) (g := fun _ => 1) 192 (fun i hi => (hU i hi).2)
  rw [sum_one] at hle
  refine ⟨by omega, fun q hq h0 => ?_⟩
  have hlt := sum_lt (f := U) (g := fun _ => 1) 192 (fun i hi => (hU i hi).2) q hq (by rw [h0]; decide)
  rw [sum_one] at hlt
  omega
theorem QI.imp1 {s : Nat → Int} {b : Nat} {f : Nat → Int} {td : Nat → Nat → Prop} {j : Int} {B : Nat} {F U K : Nat → Int} {H T : Nat} (h : QI s b f td j B F U K H T) {q : Nat} {len : Int} (hq : q < 192) (hpl : plP s b q) (h1 : dT f q ≤ len) (h2 : len < F q) (hu : U q = 1) : QI s b f td j B (upI F q len) U K H T := by
  obtain ⟨a1, a2, a3, a4, a5, a6, a7, a8⟩ := h
  refine ⟨a1, fun p hp => ?_, a3, a4, a5, fun u d q' hu' hd hF hU hn => ?_, fun p hp hf => ?_, a8⟩
  · have := a2 p hp
    rw [upI_at]
    by_cases e : p = q
    · rw [if_pos e, e]
      have a2q := a2 q hq
      exact ⟨h1, by omega, fun _ => hpl, a2q.2.2.2.1, fun _ => by omega⟩
    · rw [if_neg e]
      exact this
  · simp only [upI_at] at hF ⊢
    have e : u ≠ q := fun e => by rw [e] at hU; omega
    rw [if_neg e] at hF ⊢
    rcases a6 u d q' hu' hd hF hU hn with z | z
    · exact Or.inl z
    · right
      by_cases e2 : q' = q
      · rw [e2] at z ⊢
        rw [if_pos rfl]
        omega
      · rw [if_neg e2]
        exact z
  · have := a7 p hp hf
    rw [upI_at]
    refine ⟨fun z => ?_, this.2⟩
    by_cases e : p = q
    · have := this.1 z
      rw [e] at this
      omega
    · rw [if_neg e]
      exact this.1 z
theorem QI.imp2 {s : Nat → Int} {b : Nat} {f : Nat → Int} {td : Nat → Nat → Prop} {j : Int} {B : Nat} {F U K : Nat → Int} {H T : Nat} (h : QI s b f td j B F U K H T) {q : Nat} {len : Int} (hq : q < 192) (hpl : plP s b q) (h1 : dT f q ≤ len) (h2 : len < F q) (hu : U q = 0) : QI s b f td j B (upI F q len) (upI U q 1) (upI K (T % 192) q) H (T + 1) := by
  have hroom := h.room.2 q hq hu
  obtain ⟨⟨c1, c2, c3, c4⟩, a2, a3, a4, a5, a6, a7, a8⟩ := h
  have keep : ∀ i, H ≤ i → i < T → upI K (T % 192) q (i % 192) = K (i % 192) := fun i hi hT => by
    rw [upI_at, if_neg (by omega)]
  have new : upI K (T % 192) q (T % 192) = q := by rw [upI_at, if_pos rfl]
  refine ⟨⟨by omega, c2, by omega, ?_⟩, fun p hp => ?_, fun i hi hT => ?_, fun i i' hi hii hT => ?_, fun p hp hU => ?_, fun u d q' hu' hd hF hU hn => ?_, fun p hp hf => ?_, fun i p hi hT hK hp hf => ?_⟩
  · rw [sum_up (f := U) (q := q) (fun i hi => by rw [upI_at, if_neg hi]) 192, if_pos hq, upI_at, if_pos rfl, hu]
    omega
  · have := a2 p hp
    simp only [upI_at]
    by_cases e : p = q
    · rw [if_pos e, if_pos e, e]
      exact ⟨h1, by have := a2 q hq; omega, fun _ => hpl, Or.inr rfl, fun _ => by have := a2 q hq; omega⟩
    · rw [if_neg e, if_neg e]
      exact this
  · by_cases e : i = T
    · rw [e, new]
      exact ⟨q, hq, rfl, by rw [upI_at, if_pos rfl]⟩
    · rw [keep i hi (by omega)]
      obtain ⟨p, g1, g2, g3⟩ := a3 i hi (by omega)
      refine ⟨p, g1, g2, ?_⟩
      rw [upI_at]
      split
      · rfl
      · exact g3
  · by_cases e : i' = T
    · rw [e, new, keep i hi (by omega)]
      obtain ⟨p, g1, g2, g3⟩ := a3 i hi (by omega)
      rw [g2]
      intro z
      have : p = q := by omega
      rw [this] at g3
      omega
    · rw [keep i hi (by omega), keep i' (by omega) (by omega)]
      exact a4 i i' hi hii (by omega)
  · rw [upI_at] at hU
    by_cases e : p = q
    · exact ⟨T, c1, by omega, by rw [new, e]⟩
    · rw [if_neg e] at hU
      obtain ⟨i, g1, g2, g3⟩ := a5 p hp hU
      exact ⟨i, g1, by omega, by rw [keep i g1 g2]; exact g3⟩
  · simp only [upI_at] at hF hU ⊢
    have e : u ≠ q := fun e => by rw [if_pos e] at hU; omega
    rw [if_neg e] at hF hU ⊢
    rcases a6 u d q' hu' hd hF hU hn with z | z
    · exact Or.inl z
    · right
      by_cases e2 : q' = q
      · rw [e2] at z ⊢
        rw [if_pos rfl]
        omega
      · rw [if_neg e2]
        exact z
  · have := a7 p hp hf
    simp only [upI_at]
    by_cases e : p = q
    · rw [if_pos e, if_pos e]
      refine ⟨fun z => ?_, fun z => ?_⟩
      · have := this.1 z
        rw [e] at this
        omega
      · have := this.1 (by omega)
        rw [e] at this
        omega
    · rw [if_neg e, if_neg e]
      exact this
  · by_cases e : i = T
    · rw [e, new] at hK
      have e2 : p = q := by omega
      have := (a7 p hp hf).1
      by_cases z : f p % 1000 ≤ j + 1
      · have := this z
        rw [e2] at this
        omega
      · omega
    · by_cases e3 : H ≤ i
      · rw [keep i e3 (by omega)] at hK
        exact a8 i p hi (by omega) hK hp hf
      · omega
theorem QI.take {s : Nat → Int} {b : Nat} {f : Nat → Int} {td : Nat → Nat → Prop} {j : Int} {B : Nat} {F U K : Nat → Int} {H T : Nat} (h : QI s b f td j B F U K H T) (h1 : H < B) : ∃ p, p < 192 ∧ K (H % 192) = (p : Nat) ∧ U p = 1 ∧ F p < 16777216 ∧ plP s b p ∧ QI s b f (fun u d => td u d ∨ u = p) j B F (upI U p 0) K (H + 1) T := by
  obtain ⟨⟨c1, c2, c3, c4⟩, a2, a3, a4, a5, a6, a7, a8⟩ := h
  obtain ⟨p, g1, g2, g3⟩ := a3 H (Nat.le_refl _) (by omega)
  have hp := a2 p g1
  have hFp := hp.2.2.2.2 g3
  refine ⟨p, g1, g2, g3, hFp, hp.2.2.1 hFp, ⟨by omega, by omega, c3, ?_⟩, fun q hq => ?_, fun i hi hT => ?_, fun i i' hi hii hT => a4 i i' (by omega) hii hT, fun q hq hU => ?_, fun u d q' hu' hd hF hU hn => ?_, fun q hq hf => ?_, a8⟩
  · rw [sum_up (f := U) (q := p) (fun i hi => by rw [upI_at, if_neg hi]) 192, if_pos g1, upI_at, if_pos rfl, g3]
    omega
  · have := a2 q hq
    rw [upI_at]
    by_cases e : q = p
    · rw [if_pos e]
      exact ⟨this.1, this.2.1, this.2.2.1, Or.inl rfl, fun z => absurd z (by omega)⟩
    · rw [if_neg e]
      exact this
  · obtain ⟨q, k1, k2, k3⟩ := a3 i (by omega) hT
    refine ⟨q, k1, k2, ?_⟩
    have := a4 H i (Nat.le_refl _) (by omega) hT
    rw [g2, k2] at this
    rw [upI_at, if_neg (fun e => this (by rw [e]))]
    exact k3
  · rw [upI_at] at hU
    by_cases e : q = p
    · rw [if_pos e] at hU
      omega
    · rw [if_neg e] at hU
      obtain ⟨i, k1, k2, k3⟩ := a5 q hq hU
      refine ⟨i, ?_, k2, k3⟩
      by_cases e2 : i = H
      · rw [e2, g2] at k3
        omega
      · omega
  · by_cases e : u = p
    · exact Or.inl (Or.inr e)
    · rw [upI_at, if_neg e] at hU
      rcases a6 u d q' hu' hd hF hU hn with z | z
      · exact Or.inl (Or.inl z)
      · exact Or.inr z
  · have := a7 q hq hf
    refine ⟨this.1, fun z => ?_⟩
    rw [upI_at]
    split
    · rfl
    · exact this.2 z
theorem QI.edge {s : Nat → Int} {b : Nat} {f : Nat → Int} {td td' : Nat → Nat → Prop} {j : Int} {B : Nat} {F U K : Nat → Int} {H T : Nat} (h : QI s b f td j B F U K H T) (he : ∀ u d q, u < 192 → d < 4 → nxM s b u d = (q : Nat) → td u d → td' u d ∨ F q ≤ F u + 1 + 256 * rk1 s b u q) : QI s b f td' j B F U K H T := by
  obtain ⟨a1, a2, a3, a4, a5, a6, a7, a8⟩ := h
  refine ⟨a1, a2, a3, a4, a5, fun u d q hu hd hF hU hn => ?_, a7, a8⟩
  rcases a6 u d q hu hd hF hU hn with z | z
  · exact he u d q hu hd hn z
  · exact Or.inr z
theorem QI.phase {s : Nat → Int} {b : Nat} {r : Int} {f : Nat → Int} {j : Int} {B : Nat} {F U K : Nat → Int} {H T : Nat} (hb : b ≤ 3) (hf : SolM s b r f) (h : QI s b f (fun _ _ => False) j B F U K H T) (h1 : H = B) (h8 : ∀ p, p < 192 → f p = 1 → F p ≤ 1) : QI s b f (fun _ _ => False) (j + 1) T F U K H T := by
  obtain ⟨⟨c1, c2, c3, c4⟩, a2, a3, a4, a5, a6, a7, a8⟩ := h
  have k2 : ∀ p, p < 192 → f p < 1000000 → f p % 1000 ≤ j + 1 → U p = 0 := fun p hp hfp hk => by
    rcases (a2 p hp).2.2.2.1 with z | z
    · exact z
    · obtain ⟨i, g1, g2, g3⟩ := a5 p hp z
      have := a8 i p (by omega) g2 g3 hp hfp
      omega
  refine ⟨⟨c1, c1, Nat.le_refl _, c4⟩, a2, a3, a4, a5, a6, fun p hp hfp => ⟨fun z => ?_, k2 p hp hfp⟩, fun i p hi hT => absurd hT (by omega)⟩
  have hd := a2 p hp
  by_cases e1 : f p = 1
  · have := h8 p hp e1
    have e : dT f p = 1 := by
      unfold dT
      rw [e1]
      decide
    omega
  · obtain ⟨u, d, hu, hd2, hfu, hn, he, hk, -⟩ := dT_pr hb hf hp hfp e1
    have e2 := (a7 u hu hfu).1 (by omega)
    have e3 := k2 u hu hfu (by omega)
    have e4 := (dT_fin hf hu hfu).2.2.2.2
    rcases a6 u d p hu hd2 (by omega) e3 hn with y | y
    · exact y.elim
    · omega
theorem QI.fin {s : Nat → Int} {b : Nat} {r : Int} {f : Nat → Int} {j : Int} {B : Nat} {F U K : Nat → Int} {H T : Nat} (hb : b ≤ 3) (hf : SolM s b r f) (h : QI s b f (fun _ _ => False) j B F U K H T) (h1 : H = T) (h8 : ∀ p, p < 192 → f p = 1 → F p ≤ 1) : ∀ p, p < 192 → F p = dT f p := by
  obtain ⟨⟨c1, c2, c3, c4⟩, a2, a3, a4, a5, a6, a7, a8⟩ := h
  have hU : ∀ p, p < 192 → U p = 0 := fun p hp => by
    rcases (a2 p hp).2.2.2.1 with z | z
    · exact z
    · obtain ⟨i, g1, g2, g3⟩ := a5 p hp z
      omega
  have key : ∀ (n p : Nat), f p < n → p < 192 → f p < 1000000 → F p ≤ dT f p := by
    intro n
    induction n with
    | zero =>
      intro p hn hp hfp
      have := (hf.1 p hp).2.1
      exact absurd (Int.lt_of_le_of_lt this hn) (by decide)
    | succ n ih =>
      intro p hn hp hfp
      by_cases e1 : f p = 1
      · have := h8 p hp e1
        have e : dT f p = 1 := by
          unfold dT
          rw [e1]
          decide
        omega
      · obtain ⟨u, d, hu, hd2, hfu, hnx, he, hk, hlt⟩ := dT_pr hb hf hp hfp e1
        have e2 := ih u (by omega) hu hfu
        have e4 := (dT_fin hf hu hfu).2.2.2.2
        rcases a6 u d p hu hd2 (by omega) (hU u hu) hnx with y | y
        · exact y.elim
        · omega
  intro p hp
  have hd := a2 p hp
  by_cases c : f p < 1000000
  · have := key ((f p).toNat + 1) p (by have := (hf.1 p hp).2.1; omega) hp c
    omega
  · have e : dT f p = 16777216 := if_neg c
    omega
theorem QI.j_lt {s : Nat → Int} {b : Nat} {r : Int} {f : Nat → Int} {td : Nat → Nat → Prop} {j : Int} {B : Nat} {F U K : Nat → Int} {H T : Nat} (hf : SolM s b r f) (h : QI s b f td j B F U K H T) (h1 : H < T) : j < 192 := by
  obtain ⟨⟨c1, c2, c3, c4⟩, a2, a3, a4, a5, a6, a7, a8⟩ := h
  obtain ⟨p, g1, g2, g3⟩ := a3 H (Nat.le_refl _) h1
  have hp := a2 p g1
  have hFp := hp.2.2.2.2 g3
  have hfp := dT_inf (f := f) (p := p) (by omega)
  have hm := Sol_mod' hf g1 hfp
  have := (a7 p g1 hfp).2
  by_cases z : f p % 1000 ≤ j
  · have := this z
    omega
  · omega
