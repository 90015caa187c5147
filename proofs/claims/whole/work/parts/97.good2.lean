/-! WHAT THE METHODS MAKE OF A PLAN: given up, walked, dug, set -/
theorem gvL_at {s : Nat → Int} {r : Nat} (j : Nat) : ∀ k, ((∃ i, i < k ∧ (j = 216 + 6 * r + i ∨ j = 216 + 6 * i + r)) → gvL s r k j = 0) ∧ ((¬ ∃ i, i < k ∧ (j = 216 + 6 * r + i ∨ j = 216 + 6 * i + r)) → gvL s r k j = s j)
  | 0 => ⟨fun ⟨i, h, _⟩ => absurd h (by omega), fun _ => rfl⟩
  | k + 1 => by
    have ih := gvL_at (s := s) (r := r) j k
    unfold gvL
    rw [upI_at, upI_at]
    constructor
    · rintro ⟨i, h1, h2⟩
      by_cases e : j = 216 + 6 * k + r
      · rw [if_pos e]
      · rw [if_neg e]
        by_cases e2 : j = 216 + 6 * r + k
        · rw [if_pos e2]
        · rw [if_neg e2]
          refine ih.1 ⟨i, ?_, h2⟩
          have : i ≠ k := fun e3 => by rw [e3] at h2; exact h2.elim e2 e
          omega
    · intro h
      rw [if_neg (fun e => h ⟨k, by omega, Or.inr e⟩), if_neg (fun e => h ⟨k, by omega, Or.inl e⟩)]
      exact ih.2 (fun ⟨i, h1, h2⟩ => h ⟨i, by omega, h2⟩)
theorem gvS_at {s : Nat → Int} {r : Nat} (hr : r < 6) (j : Nat) : gvS s r j = if 216 ≤ j ∧ j < 252 ∧ ((j - 216) / 6 = r ∨ (j - 216) % 6 = r) then 0 else if j = 194 + 4 * r then 0 else if j < 192 ∧ s j = (r : Nat) then -1 else s j := by
  have h := gvL_at (s := upI (gv1 s r 192) (194 + 4 * r) 0) (r := r) j 6
  unfold gvS
  by_cases c : 216 ≤ j ∧ j < 252 ∧ ((j - 216) / 6 = r ∨ (j - 216) % 6 = r)
  · rw [if_pos c]
    rcases c.2.2 with e | e
    · exact h.1 ⟨(j - 216) % 6, by omega, Or.inl (by omega)⟩
    · exact h.1 ⟨(j - 216) / 6, by omega, Or.inr (by omega)⟩
  · rw [if_neg c, h.2 (fun ⟨i, h1, h2⟩ => c (by omega)), upI_at]
    rfl
theorem sum_iv (L c : Int) (hL : 0 ≤ L) (hc : 0 ≤ c) : ∀ N : Nat, sumTo (fun x => b01 (L ≤ ((x : Nat) : Int) ∧ ((x : Nat) : Int) < L + c)) N = if (N : Int) ≤ L then 0 else if (N : Int) ≤ L + c then N - L else c
  | 0 => by
    rw [sum_0, if_pos (by omega)]
  | N + 1 => by
    rw [sum_s, sum_iv L c hL hc N]
    by_cases h : L ≤ (N : Int) ∧ (N : Int) < L + c
    · rw [b01_t h, if_neg (show ¬ (((N + 1 : Nat) : Int) ≤ L) by omega), if_pos (show ((N + 1 : Nat) : Int) ≤ L + c by omega)]
      split <;> try split
      all_goals omega
    · rw [b01_f h]
      repeat' split
      all_goals omega
theorem sum_mulc (k : Int) (f : Nat → Int) : ∀ n, sumTo (fun i => k * f i) n = k * sumTo f n
  | 0 => by rw [sum_0, sum_0, Int.mul_zero]
  | n + 1 => by rw [sum_s, sum_s, sum_mulc k f n, Int.mul_add]
theorem area {L c T n : Int} (h1 : 0 ≤ L) (h2 : 0 ≤ c) (h3 : L + c ≤ 16) (h4 : 0 ≤ T) (h5 : 0 ≤ n) (h6 : T + n ≤ 12) : sumTo (fun p => b01 ((L ≤ ((p % 16 : Nat) : Int) ∧ ((p % 16 : Nat) : Int) < L + c) ∧ T ≤ ((p / 16 : Nat) : Int) ∧ ((p / 16 : Nat) : Int) < T + n)) 192 = c * n := by
  have e1 := sum_flat (fun y x => b01 ((L ≤ ((x : Nat) : Int) ∧ ((x : Nat) : Int) < L + c) ∧ T ≤ ((y : Nat) : Int) ∧ ((y : Nat) : Int) < T + n)) 16 (by omega) 12
  rw [show (12 * 16 : Nat) = 192 from rfl] at e1
  rw [← e1]
  have e2 : ∀ y : Nat, sumTo (fun x => b01 ((L ≤ ((x : Nat) : Int) ∧ ((x : Nat) : Int) < L + c) ∧ T ≤ ((y : Nat) : Int) ∧ ((y : Nat) : Int) < T + n)) 16 = c * b01 (T ≤ ((y : Nat) : Int) ∧ ((y : Nat) : Int) < T + n) := by
    intro y
    by_cases hy : T ≤ ((y : Nat) : Int) ∧ ((y : Nat) : Int) < T + n
    · rw [b01_t hy, Int.mul_one]
      have e3 : sumTo (fun x => b01 ((L ≤ ((x : Nat) : Int) ∧ ((x : Nat) : Int) < L + c) ∧ T ≤ ((y : Nat) : Int) ∧ ((y : Nat) : Int) < T + n)) 16 = sumTo (fun x => b01 (L ≤ ((x : Nat) : Int) ∧ ((x : Nat) : Int) < L + c)) 16 := sum_eq 16 (fun x _ => b01_c ⟨fun z => z.1, fun z => ⟨z, hy⟩⟩)
      rw [e3, sum_iv L c h1 h2 16]
      split
      · omega
      · split <;> omega
    · rw [b01_f hy, Int.mul_zero]
      exact sum_zero 16 (fun x _ => b01_f (fun z => hy z.2))
  rw [sum_eq 12 (fun y _ => e2 y), sum_mulc, sum_iv T n h4 h5 12]
  congr 1
  split
  · omega
  · split <;> omega
section GV
variable {s : Nat → Int} {r : Nat}
theorem gv_area (h : Good s) (hr : r < 6) (hR : isR s r) : sumTo (fun p => b01 (s p = (r : Nat))) 192 = bxAt (pG s) (r : Nat) 2 * bxAt (pG s) (r : Nat) 3 := by
  have e2 : bxAt (pG s) (r : Nat) 2 = s (194 + 4 * r) := (pG_at hr (show 2 < 4 by omega) hR).trans (congrArg s (by omega))
  have e3 : bxAt (pG s) (r : Nat) 3 = s (195 + 4 * r) := (pG_at hr (show 3 < 4 by omega) hR).trans (congrArg s (by omega))
  have k := h.2.2.2.1 r hr hR
  have k0 : 0 < s (194 + 4 * r) := hR
  rw [e2, e3, ← area (L := s (192 + 4 * r)) (T := s (193 + 4 * r)) (by omega) (by omega) (by omega) (by omega) (by omega) (by omega)]
  refine sum_eq 192 (fun p hp => b01_c ?_)
  rw [(h.2.2.2.2.1 p hp).2.2 r hr]
  unfold inBx
  constructor
  · rintro ⟨-, a1, a2, a3, a4⟩; exact ⟨⟨a1, a2⟩, a3, a4⟩
  · rintro ⟨⟨a1, a2⟩, a3, a4⟩; exact ⟨hR, a1, a2, a3, a4⟩
theorem Good.gv (h : Good s) (hr : r < 6) : Good (gvS s r) := by
  obtain ⟨h1, h2, h3, h4, h5, h6⟩ := h
  have hat := fun j => gvS_at (s := s) hr j
  have oth : ∀ j, 192 ≤ j → j < 216 → j ≠ 194 + 4 * r → gvS s r j = s j := fun j a b c => by rw [hat, if_neg (by omega), if_neg c, if_neg (by omega)]
  have hRr : ¬ isR (gvS s r) r := by
    unfold isR
    rw [hat, if_neg (by omega), if_pos rfl]
    omega
  have hR : ∀ q, q < 6 → q ≠ r → (isR (gvS s r) q ↔ isR s q) := fun q hq hne => by
    unfold isR
    rw [oth _ (by omega) (by omega) (by omega)]
  refine ⟨fun k => ?_, fun k hk => ?_, ?_, fun q hq hq2 => ?_, fun k hk => ?_, fun a b ha hb => ?_⟩
  · have k1 := h1 k
    rw [hat]
    repeat' split
    all_goals omega
  · rw [hat, if_neg (by omega), if_neg (by omega), if_neg (by omega)]
    exact h2 k hk
  · rw [hat, if_neg (by omega), if_neg (by omega), if_neg (by omega)]
    exact h3
  · have e : q ≠ r := fun e => hRr (e ▸ hq2)
    have := h4 q hq ((hR q hq e).mp hq2)
    rw [oth (192 + 4 * q) (by omega) (by omega) (by omega), oth (193 + 4 * q) (by omega) (by omega) (by omega), oth (194 + 4 * q) (by omega) (by omega) (by omega), oth (195 + 4 * q) (by omega) (by omega) (by omega)]
    exact this
  · have k5 := h5 k hk
    have ibx : ∀ q, q < 6 → q ≠ r → (inBx (gvS s r) q k ↔ inBx s q k) := fun q hq e => by
      unfold inBx
      rw [hR q hq e, oth (192 + 4 * q) (by omega) (by omega) (by omega), oth (193 + 4 * q) (by omega) (by omega) (by omega), oth (194 + 4 * q) (by omega) (by omega) (by omega), oth (195 + 4 * q) (by omega) (by omega) (by omega)]
    rw [hat, if_neg (by omega), if_neg (by omega)]
    by_cases c : s k = (r : Nat)
    · rw [if_pos ⟨hk, c⟩]
      refine ⟨by omega, by omega, fun q hq => ?_⟩
      by_cases e : q = r
      · rw [e]
        exact ⟨fun z => absurd z (by omega), fun z => absurd z.1 hRr⟩
      · rw [ibx q hq e, ← k5.2.2 q hq]
        omega
    · rw [if_neg (fun z => c z.2)]
      refine ⟨k5.1, k5.2.1, fun q hq => ?_⟩
      by_cases e : q = r
      · rw [e]
        exact ⟨fun z => absurd z c, fun z => absurd z.1 hRr⟩
      · rw [ibx q hq e]; exact k5.2.2 q hq
  · have k6 := h6 a b ha hb
    by_cases c : a = r ∨ b = r
    · have e2 : wkM (gvS s r) a b = 0 := by
        unfold wkM
        rw [hat, if_pos (by omega)]
      rw [e2]
      exact ⟨by omega, fun z => absurd z (by omega)⟩
    · have e2 : wkM (gvS s r) a b = wkM s a b := by
        unfold wkM
        rw [hat, if_neg (by omega), if_neg (by omega), if_neg (by omega)]
      rw [e2, hR a ha (fun e => c (Or.inl e)), hR b hb (fun e => c (Or.inr e))]
      exact k6
theorem gv_p (h : Good s) (hr : r < 6) (hR : isR s r) : covF (pF s) (bxAt (pG s) (r : Nat) 0) (bxAt (pG s) (r : Nat) 1) (bxAt (pG s) (r : Nat) 2) (-1) (bxAt (pG s) (r : Nat) 3) 0 = pF (gvS s r) ∧ noBox (pG s) r = pG (gvS s r) ∧ noWalk (pH s) r = pH (gvS s r) ∧ s 252 = gvS s r 252 := by
  have hat := fun j => gvS_at (s := s) hr j
  have e0 : bxAt (pG s) (r : Nat) 0 = s (192 + 4 * r) := pG_at hr (show 0 < 4 by omega) hR
  have e1 : bxAt (pG s) (r : Nat) 1 = s (193 + 4 * r) := (pG_at hr (show 1 < 4 by omega) hR).trans (congrArg s (by omega))
  have e2 : bxAt (pG s) (r : Nat) 2 = s (194 + 4 * r) := (pG_at hr (show 2 < 4 by omega) hR).trans (congrArg s (by omega))
  have e3 : bxAt (pG s) (r : Nat) 3 = s (195 + 4 * r) := (pG_at hr (show 3 < 4 by omega) hR).trans (congrArg s (by omega))
  refine ⟨?_, ?_, ?_, ?_⟩
  · funext k
    rw [e0, e1, e2, e3]
    unfold covF pF
    by_cases hk : k < 192
    · have k5 := (h.2.2.2.2.1 k hk).2.2 r hr
      have z1 : s k = (r : Nat) → gvS s r k = -1 := fun c => by rw [hat, if_neg (by omega), if_neg (by omega), if_pos ⟨hk, c⟩]
      have z2 : ¬ s k = (r : Nat) → gvS s r k = s k := fun c => by rw [hat, if_neg (by omega), if_neg (by omega), if_neg (fun z => c z.2)]
      rw [if_pos hk, if_pos hk]
      unfold inBx at k5
      by_cases c : s k = (r : Nat)
      · have := k5.mp c
        rw [z1 c, if_pos (by omega)]
      · rw [z2 c, if_neg (fun z => c (k5.mpr ⟨hR, by omega, by omega, by omega, by omega⟩))]
    · rw [if_neg (fun z => hk z.1), if_neg hk, if_neg hk]
  · funext k
    unfold noBox pG
    by_cases hk : k < 24
    · by_cases e : k / 4 = r
      · have z : gvS s r (194 + 4 * (k / 4)) = 0 := by rw [e, hat, if_neg (by omega), if_pos rfl]
        rw [if_pos e, z, if_neg (by omega)]
      · have z1 : gvS s r (194 + 4 * (k / 4)) = s (194 + 4 * (k / 4)) := by rw [hat, if_neg (by omega), if_neg (by omega), if_neg (by omega)]
        have z2 : gvS s r (192 + k) = s (192 + k) := by rw [hat, if_neg (by omega), if_neg (by omega), if_neg (by omega)]
        rw [if_neg e, z1, z2]
    · rw [if_neg (c := k < 24 ∧ 0 < s (194 + 4 * (k / 4))) (fun z => hk z.1), if_neg (c := k < 24 ∧ 0 < gvS s r (194 + 4 * (k / 4))) (fun z => hk z.1)]
      split <;> rfl
  · funext k
    unfold noWalk pH
    by_cases hk : k < 36
    · rw [if_pos hk, if_pos hk, hat]
      by_cases e : k / 6 = r ∨ k % 6 = r
      · rw [if_pos ⟨hk, e⟩, if_pos (by omega)]
      · rw [if_neg (fun z => e z.2), if_neg (by omega), if_neg (by omega), if_neg (by omega)]
    · rw [if_neg (fun z => hk z.1), if_neg hk, if_neg hk]
  · rw [hat, if_neg (by omega), if_neg (by omega), if_neg (by omega)]
theorem wkS_at (a b : Nat) (w : Int) (j : Nat) : wkS s a b w j = if j = 216 + 6 * b + a then w else if j = 216 + 6 * a + b then w else s j := by
  unfold wkS
  rw [upI_at, upI_at]
theorem Good.wkS {a b : Nat} {w : Int} (h : Good s) (ha : a < 6) (hb : b < 6) (hab : a ≠ b) (hw : 0 ≤ w ∧ w ≤ 3) (r1 : isR s a) (r2 : isR s b) : Good (wkS s a b w) := by
  obtain ⟨h1, h2, h3, h4, h5, h6⟩ := h
  have hat := fun j => wkS_at (s := s) a b w j
  have lo : ∀ j, j < 216 → Jvm.Pilot.CCorridorPlanLaw_law_r5521_75f438.wkS s a b w j = s j := fun j hj => by rw [hat, if_neg (by omega), if_neg (by omega)]
  have hi : ∀ j, 252 ≤ j → Jvm.Pilot.CCorridorPlanLaw_law_r5521_75f438.wkS s a b w j = s j := fun j hj => by rw [hat, if_neg (by omega), if_neg (by omega)]
  have hR : ∀ q, q < 6 → (isR (Jvm.Pilot.CCorridorPlanLaw_law_r5521_75f438.wkS s a b w) q ↔ isR s q) := fun q hq => by
    unfold isR
    rw [lo _ (by omega)]
  refine ⟨wkS_OK h1 a b hw, fun k hk => ?_, ?_, fun q hq hq2 => ?_, fun k hk => ?_, fun p q hp hq => ?_⟩
  · rw [hi k (by omega)]
    exact h2 k hk
  · rw [hi 252 (by omega)]
    exact h3
  · have := h4 q hq ((hR q hq).mp hq2)
    rw [lo _ (by omega), lo _ (by omega), lo _ (by omega), lo _ (by omega)]
    exact this
  · have k5 := h5 k hk
    rw [lo k (by omega)]
    refine ⟨k5.1, k5.2.1, fun q hq => ?_⟩
    rw [k5.2.2 q hq]
    unfold inBx
    rw [hR q hq, lo _ (by omega), lo _ (by omega), lo _ (by omega), lo _ (by omega)]
  · have k6 := h6 p q hp hq
    have e : wkM (Jvm.Pilot.CCorridorPlanLaw_law_r5521_75f438.wkS s a b w) p q = if 216 + 6 * p + q = 216 + 6 * b + a then w else if 216 + 6 * p + q = 216 + 6 * a + b then w else wkM s p q := hat _
    rw [e, hR p hp, hR q hq]
    by_cases c1 : 216 + 6 * p + q = 216 + 6 * b + a
    · rw [if_pos c1]
      have e1 : p = b := by omega
      have e2 : q = a := by omega
      rw [e1, e2]
      exact ⟨hw, fun _ => ⟨r2, r1, fun z => hab z.symm⟩⟩
    · rw [if_neg c1]
      by_cases c2 : 216 + 6 * p + q = 216 + 6 * a + b
      · rw [if_pos c2]
        have e1 : p = a := by omega
        have e2 : q = b := by omega
        rw [e1, e2]
        exact ⟨hw, fun _ => ⟨r1, r2, hab⟩⟩
      · rw [if_neg c2]
        exact k6
theorem wkS_p {a b : Nat} {w : Int} (ha : a < 6) (hb : b < 6) : pF s = pF (wkS s a b w) ∧ pG s = pG (wkS s a b w) ∧ upI (upI (pH s) (6 * a + b) w) (6 * b + a) w = pH (wkS s a b w) ∧ s 252 = wkS s a b w 252 := by
  have hat := fun j => wkS_at (s := s) a b w j
  refine ⟨?_, ?_, ?_, ?_⟩
  · funext k
    unfold pF
    by_cases hk : k < 192
    · rw [if_pos hk, if_pos hk, hat, if_neg (by omega), if_neg (by omega)]
    · rw [if_neg hk, if_neg hk]
  · funext k
    unfold pG
    by_cases hk : k < 24
    · have z1 : wkS s a b w (194 + 4 * (k / 4)) = s (194 + 4 * (k / 4)) := by rw [hat, if_neg (by omega), if_neg (by omega)]
      have z2 : wkS s a b w (192 + k) = s (192 + k) := by rw [hat, if_neg (by omega), if_neg (by omega)]
      rw [z1, z2]
    · rw [if_neg (fun z => hk z.1), if_neg (fun z => hk z.1)]
  · funext k
    rw [upI_at, upI_at]
    unfold pH
    by_cases hk : k < 36
    · rw [if_pos hk, if_pos hk]
      by_cases c1 : k = 6 * b + a
      · have z : wkS s a b w (216 + k) = w := by rw [hat, if_pos (by omega)]
        rw [if_pos c1, z]
      · by_cases c2 : k = 6 * a + b
        · have z : wkS s a b w (216 + k) = w := by rw [hat, if_neg (by omega), if_pos (by omega)]
          rw [if_neg c1, if_pos c2, z]
        · have z : wkS s a b w (216 + k) = s (216 + k) := by rw [hat, if_neg (by omega), if_neg (by omega)]
          rw [if_neg c1, if_neg c2, z]
    · rw [if_neg (by omega), if_neg (by omega), if_neg hk, if_neg hk]
  · rw [hat, if_neg (by omega), if_neg (by omega)]
theorem Good.tg {p : Nat} (h : Good s) (hp : p < 192) (hn : s p < 0) : Good (tgS s p) := h.neg (fun j => by
  unfold tgS
  rw [upI_at]
  by_cases e : j = p
  · rw [if_pos e, e]
    refine Or.inr ⟨hp, hn, ?_⟩
    split <;> omega
  · rw [if_neg e]; exact Or.inl rfl)
theorem tg_p {p : Nat} (hp : p < 192) : upI (pF s) p (if pF s p = -1 then -2 else -1) = pF (tgS s p) ∧ pG s = pG (tgS s p) ∧ pH s = pH (tgS s p) ∧ s 252 = tgS s p 252 := by
  have hh : ∀ j, 192 ≤ j → tgS s p j = s j := fun j hj => by
    unfold tgS
    rw [upI_at, if_neg (by omega)]
  refine ⟨?_, (pG_hi hh).symm, (pH_hi hh).symm, (hh 252 (by omega)).symm⟩
  have e : pF s p = s p := if_pos hp
  rw [e]
  funext k
  have z : tgS s p k = if k = p then (if s p = -1 then -2 else -1) else s k := rfl
  rw [upI_at]
  unfold pF
  rw [z]
  by_cases c : k = p
  · subst c
    rw [if_pos rfl, if_pos hp, if_pos rfl]
  · rw [if_neg c, if_neg c]
theorem Good.set {v : Int} (h : Good s) (hv : 0 ≤ v ∧ v ≤ 9) : Good (upI s 252 v) := by
  obtain ⟨h1, h2, h3, h4, h5, h6⟩ := h
  have lo : ∀ j, j ≠ 252 → upI s 252 v j = s j := fun j hj => if_neg hj
  have hR : ∀ q, q < 6 → (isR (upI s 252 v) q ↔ isR s q) := fun q hq => by
    unfold isR
    rw [lo _ (by omega)]
  refine ⟨upI_OK h1 252 (by omega), fun k hk => ?_, ?_, fun q hq hq2 => ?_, fun k hk => ?_, fun p q hp hq => ?_⟩
  · rw [lo k (by omega)]; exact h2 k hk
  · rw [upI_eq]; exact hv
  · have := h4 q hq ((hR q hq).mp hq2)
    rw [lo _ (by omega), lo _ (by omega), lo _ (by omega), lo _ (by omega)]
    exact this
  · have k5 := h5 k hk
    rw [lo k (by omega)]
    refine ⟨k5.1, k5.2.1, fun q hq => ?_⟩
    rw [k5.2.2 q hq]
    unfold inBx
    rw [hR q hq, lo _ (by omega), lo _ (by omega), lo _ (by omega), lo _ (by omega)]
  · have e : wkM (upI s 252 v) p q = wkM s p q := lo _ (by omega)
    rw [e, hR p hp, hR q hq]
    exact h6 p q hp hq
theorem set_p (v : Int) : pF s = pF (upI s 252 v) ∧ pG s = pG (upI s 252 v) ∧ pH s = pH (upI s 252 v) := by
  have lo : ∀ j, j ≠ 252 → upI s 252 v j = s j := fun j hj => if_neg hj
  refine ⟨?_, ?_, ?_⟩
  · funext k
    unfold pF
    by_cases hk : k < 192
    · rw [if_pos hk, if_pos hk, lo k (by omega)]
    · rw [if_neg hk, if_neg hk]
  · funext k
    unfold pG
    by_cases hk : k < 24
    · rw [lo (194 + 4 * (k / 4)) (by omega), lo (192 + k) (by omega)]
    · rw [if_neg (fun z => hk z.1), if_neg (fun z => hk z.1)]
  · funext k
    unfold pH
    by_cases hk : k < 36
    · rw [if_pos hk, if_pos hk, lo (216 + k) (by omega)]
    · rw [if_neg hk, if_neg hk]
end GV
