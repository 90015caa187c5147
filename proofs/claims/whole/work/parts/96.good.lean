/-! WHAT THE METHODS MAKE OF A PLAN -/
theorem bxL_at {s : Nat → Int} {x y c : Nat} {r : Int} (j : Nat) : ∀ k, ((∃ i, i < k ∧ j = ixB x y c i) → bxL s x y c r k j = r) ∧ ((¬ ∃ i, i < k ∧ j = ixB x y c i) → bxL s x y c r k j = s j)
  | 0 => ⟨fun ⟨i, h, _⟩ => absurd h (by omega), fun _ => rfl⟩
  | k + 1 => by
    have ih := bxL_at (s := s) (x := x) (y := y) (c := c) (r := r) j k
    unfold bxL
    rw [upI_at]
    constructor
    · rintro ⟨i, h1, h2⟩
      by_cases e : j = ixB x y c k
      · rw [if_pos e]
      · rw [if_neg e]
        refine ih.1 ⟨i, ?_, h2⟩
        by_cases e2 : i = k
        · rw [e2] at h2; exact absurd h2 e
        · omega
    · intro h
      rw [if_neg (fun e => h ⟨k, by omega, e⟩)]
      exact ih.2 (fun ⟨i, h1, h2⟩ => h ⟨i, by omega, h2⟩)
def inRc (x y c n k : Nat) : Prop := x ≤ k % 16 ∧ k % 16 < x + c ∧ y ≤ k / 16 ∧ k / 16 < y + n
theorem ix_rc {x y c n : Nat} (hc : 1 ≤ c) (hx : x + c ≤ 16) (hy : y + n ≤ 12) (j : Nat) : (∃ i, i < c * n ∧ j = ixB x y c i) ↔ j < 192 ∧ inRc x y c n j := by
  unfold ixB inRc
  constructor
  · rintro ⟨i, h1, h2⟩
    have hm := Nat.mod_lt i hc
    have hd : i / c < n := Nat.div_lt_of_lt_mul h1
    generalize i / c = q at *
    generalize i % c = p at *
    omega
  · rintro ⟨h0, h1, h2, h3, h4⟩
    have hlt : (j / 16 - y) * c + (j % 16 - x) < c * n := by
      have h5 : (j / 16 - y + 1) * c ≤ n * c := Nat.mul_le_mul_right c (by omega)
      rw [Nat.add_mul, Nat.one_mul] at h5
      rw [Nat.mul_comm c n]
      omega
    have hm : ((j / 16 - y) * c + (j % 16 - x)) % c = j % 16 - x := by rw [Nat.add_comm, Nat.add_mul_mod_self_right, Nat.mod_eq_of_lt (by omega)]
    have hd : ((j / 16 - y) * c + (j % 16 - x)) / c = j / 16 - y := by rw [Nat.add_comm, Nat.add_mul_div_right _ _ hc, Nat.div_eq_of_lt (by omega), Nat.zero_add]
    exact ⟨_, hlt, by rw [hm, hd]; omega⟩
section RM
variable {s : Nat → Int} {r x y c n : Nat}
theorem rm_sq (hc : 1 ≤ c) (hx : x + c ≤ 16) (hy : y + n ≤ 12) (j : Nat) (hj : j < 192) : (inRc x y c n j → rmS s r x y c n j = (r : Nat)) ∧ (¬ inRc x y c n j → rmS s r x y c n j = s j) := by
  have h := bxL_at (s := rmB s r x y c n) (x := x) (y := y) (c := c) (r := ((r : Nat) : Int)) j (c * n)
  rw [ix_rc hc hx hy j] at h
  have e : rmB s r x y c n j = s j := by
    unfold rmB
    rw [upI_at, if_neg (by omega), upI_at, if_neg (by omega), upI_at, if_neg (by omega), upI_at, if_neg (by omega)]
  exact ⟨fun z => h.1 ⟨hj, z⟩, fun z => by rw [← e]; exact h.2 (fun w => z w.2)⟩
theorem rm_hi (hc : 1 ≤ c) (hx : x + c ≤ 16) (hy : y + n ≤ 12) (j : Nat) (hj : 192 ≤ j) : rmS s r x y c n j = rmB s r x y c n j := by
  have h := bxL_at (s := rmB s r x y c n) (x := x) (y := y) (c := c) (r := ((r : Nat) : Int)) j (c * n)
  rw [ix_rc hc hx hy j] at h
  exact h.2 (fun w => by omega)
theorem rmB_at (j : Nat) : rmB s r x y c n j = if j = 195 + 4 * r then (n : Int) else if j = 194 + 4 * r then (c : Int) else if j = 193 + 4 * r then (y : Int) else if j = 192 + 4 * r then (x : Int) else s j := by
  unfold rmB
  rw [upI_at, upI_at, upI_at, upI_at]
theorem can_sq (hc : 1 ≤ c) (hx : x + c ≤ 16) (hy : y + n ≤ 12) (h : canM s (x : Nat) (y : Nat) c n) (j : Nat) (hj : j < 192) (hi : inRc x y c n j) : s j = -2 := by
  obtain ⟨i, h1, h2⟩ := (ix_rc hc hx hy j).mpr ⟨hj, hi⟩
  have k := (h i h1).1
  have hm := Nat.mod_lt i hc
  have hd : i / c < n := Nat.div_lt_of_lt_mul h1
  unfold whM at k
  rw [if_pos (by omega)] at k
  unfold ixB at h2
  rw [← k]
  exact congrArg s (by omega)
theorem Good.rm (h : Good s) (hr : r < 6) (hno : ¬ isR s r) (hc : 1 ≤ c ∧ c ≤ 6) (hn : 1 ≤ n ∧ n ≤ 6) (hx : x + c ≤ 16) (hy : y + n ≤ 12) (hcan : canM s (x : Nat) (y : Nat) c n) : Good (rmS s r x y c n) := by
  have hsq := fun j hj => rm_sq (s := s) (r := r) hc.1 hx hy j hj
  have hhi : ∀ j, 192 ≤ j → rmS s r x y c n j = if j = 195 + 4 * r then (n : Int) else if j = 194 + 4 * r then (c : Int) else if j = 193 + 4 * r then (y : Int) else if j = 192 + 4 * r then (x : Int) else s j := fun j hj => by rw [rm_hi hc.1 hx hy j hj, rmB_at]
  obtain ⟨h1, h2, h3, h4, h5, h6⟩ := h
  have v0 : rmS s r x y c n (192 + 4 * r) = x := by rw [hhi _ (by omega), if_neg (by omega), if_neg (by omega), if_neg (by omega), if_pos rfl]
  have v1 : rmS s r x y c n (193 + 4 * r) = y := by rw [hhi _ (by omega), if_neg (by omega), if_neg (by omega), if_pos rfl]
  have v2 : rmS s r x y c n (194 + 4 * r) = c := by rw [hhi _ (by omega), if_neg (by omega), if_pos rfl]
  have v3 : rmS s r x y c n (195 + 4 * r) = n := by rw [hhi _ (by omega), if_pos rfl]
  have oth : ∀ j, 192 ≤ j → (j - 192) / 4 ≠ r → rmS s r x y c n j = s j := fun j hj hne => by rw [hhi j hj, if_neg (by omega), if_neg (by omega), if_neg (by omega), if_neg (by omega)]
  have hR : ∀ q, q ≠ r → (isR (rmS s r x y c n) q ↔ isR s q) := fun q hq => by
    unfold isR
    rw [oth (194 + 4 * q) (by omega) (by omega)]
  have hRr : isR (rmS s r x y c n) r := by unfold isR; rw [v2]; omega
  refine ⟨fun k => ?_, fun k hk => ?_, ?_, fun q hq hq2 => ?_, fun k hk => ?_, fun a b ha hb => ?_⟩
  · have k1 := h1 k
    by_cases c1 : k < 192
    · by_cases c2 : inRc x y c n k
      · rw [(hsq k c1).1 c2]; omega
      · rw [(hsq k c1).2 c2]; exact k1
    · rw [hhi k (by omega)]
      repeat' split
      all_goals omega
  · rw [oth k (by omega) (by omega)]
    exact h2 k hk
  · rw [oth 252 (by omega) (by omega)]
    exact h3
  · by_cases e : q = r
    · rw [e, v0, v1, v2, v3]
      omega
    · have := h4 q hq ((hR q e).mp hq2)
      rw [oth (192 + 4 * q) (by omega) (by omega), oth (193 + 4 * q) (by omega) (by omega), oth (194 + 4 * q) (by omega) (by omega), oth (195 + 4 * q) (by omega) (by omega)]
      exact this
  · have k5 := h5 k hk
    have ibx : ∀ q, q ≠ r → (inBx (rmS s r x y c n) q k ↔ inBx s q k) := fun q e => by
      unfold inBx
      rw [hR q e, oth (192 + 4 * q) (by omega) (by omega), oth (193 + 4 * q) (by omega) (by omega), oth (194 + 4 * q) (by omega) (by omega), oth (195 + 4 * q) (by omega) (by omega)]
    have ibr : inBx (rmS s r x y c n) r k ↔ inRc x y c n k := by
      unfold inBx inRc
      rw [v0, v1, v2, v3]
      constructor
      · rintro ⟨-, a1, a2, a3, a4⟩; omega
      · rintro ⟨a1, a2, a3, a4⟩; exact ⟨hRr, by omega, by omega, by omega, by omega⟩
    by_cases c2 : inRc x y c n k
    · have hk2 := can_sq hc.1 hx hy hcan k hk c2
      rw [(hsq k hk).1 c2]
      refine ⟨by omega, by omega, fun q hq => ?_⟩
      by_cases e : q = r
      · rw [e]; exact ⟨fun _ => ibr.mpr c2, fun _ => rfl⟩
      · rw [ibx q e, ← k5.2.2 q hq]
        omega
    · rw [(hsq k hk).2 c2]
      refine ⟨k5.1, k5.2.1, fun q hq => ?_⟩
      by_cases e : q = r
      · rw [e]
        exact ⟨fun z => absurd ((k5.2.2 r hr).mp z).1 hno, fun z => absurd (ibr.mp z) c2⟩
      · rw [ibx q e]; exact k5.2.2 q hq
  · have k6 := h6 a b ha hb
    have e2 : wkM (rmS s r x y c n) a b = wkM s a b := oth _ (by omega) (by omega)
    rw [e2]
    refine ⟨k6.1, fun z => ?_⟩
    have k7 := k6.2 z
    exact ⟨(hR a (fun e => hno (e ▸ k7.1))).mpr k7.1, (hR b (fun e => hno (e ▸ k7.2.1))).mpr k7.2.1, k7.2.2⟩
theorem rm_pF (hc : 1 ≤ c) (hx : x + c ≤ 16) (hy : y + n ≤ 12) : covF (pF s) (x : Nat) (y : Nat) (c : Nat) (r : Nat) (n : Nat) 0 = pF (rmS s r x y c n) := by
  funext k
  unfold covF pF
  by_cases hk : k < 192
  · have h := rm_sq (s := s) (r := r) hc hx hy k hk
    rw [if_pos hk, if_pos hk]
    by_cases c2 : inRc x y c n k
    · rw [h.1 c2]
      unfold inRc at c2
      rw [if_pos (by omega)]
    · rw [h.2 c2]
      unfold inRc at c2
      rw [if_neg (by omega)]
  · rw [if_neg (fun z => hk z.1), if_neg hk, if_neg hk]
theorem rm_pG (h : Good s) (hr : r < 6) (hno : ¬ isR s r) (hc : 1 ≤ c) (hx : x + c ≤ 16) (hy : y + n ≤ 12) : newBox (pG s) r (x : Nat) (y : Nat) (c : Nat) (n : Nat) = pG (rmS s r x y c n) := by
  funext k
  have hhi : ∀ j, 192 ≤ j → rmS s r x y c n j = if j = 195 + 4 * r then (n : Int) else if j = 194 + 4 * r then (c : Int) else if j = 193 + 4 * r then (y : Int) else if j = 192 + 4 * r then (x : Int) else s j := fun j hj => by rw [rm_hi hc hx hy j hj, rmB_at]
  unfold newBox pG
  rw [upI_at, upI_at, upI_at, upI_at, hhi (194 + 4 * (k / 4)) (by omega), hhi (192 + k) (by omega)]
  by_cases e : k / 4 = r
  · rw [e, if_neg (show ¬ 194 + 4 * r = 195 + 4 * r by omega), if_pos rfl, if_pos (c := k < 24 ∧ (0 : Int) < c) (by omega)]
    rcases (show k = 4 * r ∨ k = 4 * r + 1 ∨ k = 4 * r + 2 ∨ k = 4 * r + 3 by omega) with rfl | rfl | rfl | rfl
    · rw [if_neg (by omega), if_neg (by omega), if_neg (by omega), if_pos rfl, if_neg (by omega), if_neg (by omega), if_neg (by omega), if_pos (by omega)]
    · rw [if_neg (by omega), if_neg (by omega), if_pos rfl, if_neg (by omega), if_neg (by omega), if_pos (by omega)]
    · rw [if_neg (by omega), if_pos rfl, if_neg (by omega), if_pos (by omega)]
    · rw [if_pos rfl, if_pos (by omega)]
  · rw [if_neg (show ¬ k = 4 * r + 3 by omega), if_neg (show ¬ k = 4 * r + 2 by omega), if_neg (show ¬ k = 4 * r + 1 by omega), if_neg (show ¬ k = 4 * r by omega), if_neg (show ¬ 194 + 4 * (k / 4) = 195 + 4 * r by omega), if_neg (show ¬ 194 + 4 * (k / 4) = 194 + 4 * r by omega), if_neg (show ¬ 194 + 4 * (k / 4) = 193 + 4 * r by omega), if_neg (show ¬ 194 + 4 * (k / 4) = 192 + 4 * r by omega), if_neg (show ¬ 192 + k = 195 + 4 * r by omega), if_neg (show ¬ 192 + k = 194 + 4 * r by omega), if_neg (show ¬ 192 + k = 193 + 4 * r by omega), if_neg (show ¬ 192 + k = 192 + 4 * r by omega)]
theorem rm_pH (hr : r < 6) (hc : 1 ≤ c) (hx : x + c ≤ 16) (hy : y + n ≤ 12) : pH s = pH (rmS s r x y c n) ∧ rmS s r x y c n 252 = s 252 := by
  constructor
  · funext k
    unfold pH
    by_cases hk : k < 36
    · rw [if_pos hk, if_pos hk, rm_hi hc hx hy _ (by omega), rmB_at, if_neg (by omega), if_neg (by omega), if_neg (by omega), if_neg (by omega)]
    · rw [if_neg hk, if_neg hk]
  · rw [rm_hi hc hx hy _ (by omega), rmB_at, if_neg (by omega), if_neg (by omega), if_neg (by omega), if_neg (by omega)]
theorem sp_can (h : Good s) (hc : 1 ≤ c) (hx : x + c ≤ 16) (hy : y + n ≤ 12) : SpOK (pF s) (x : Nat) (y : Nat) c n ↔ canM s (x : Nat) (y : Nat) c n := by
  have key : ∀ X Y : Int, (0 ≤ X ∧ X ≤ 15 ∧ 0 ≤ Y ∧ Y ≤ 11) → ((sqAt (pF s) X Y = -2 ∧ cs (pF s) X Y = 0) ↔ cbC s X Y) := by
    intro X Y hXY
    have hb : ∀ v, 0 ≤ inB v 0 5 := fun v => by unfold inB; split <;> omega
    have b1 := hb (whM s (X - 1) Y)
    have b2 := hb (whM s (X + 1) Y)
    have b3 := hb (whM s X (Y - 1))
    have b4 := hb (whM s X (Y + 1))
    unfold cbC
    rw [cs_eq h]
    rcases sq_wh s X Y with ⟨-, e⟩ | ⟨e, -⟩
    · rw [e]
      omega
    · exact absurd hXY e
  constructor
  · intro hs k hk
    have hm := Nat.mod_lt k hc
    have hd : k / c < n := Nat.div_lt_of_lt_mul hk
    have n1 : 0 ≤ ((k / c : Nat) : Int) := Int.natCast_nonneg _
    have n2 : 0 ≤ ((k % c : Nat) : Int) := Int.natCast_nonneg _
    have n3 : ((k / c : Nat) : Int) < n := Int.ofNat_lt.mpr hd
    have n4 : ((k % c : Nat) : Int) < c := Int.ofNat_lt.mpr hm
    have z := hs (k / c) hd (k % c) hm
    generalize ((k / c : Nat) : Int) = q at *
    generalize ((k % c : Nat) : Int) = p at *
    exact (key _ _ (by omega)).mp z
  · intro hs j hj i hi
    have hm : (j * c + i) % c = i := by rw [Nat.add_comm, Nat.add_mul_mod_self_right, Nat.mod_eq_of_lt hi]
    have hd : (j * c + i) / c = j := by rw [Nat.add_comm, Nat.add_mul_div_right _ _ hc, Nat.div_eq_of_lt hi, Nat.zero_add]
    have hlt : j * c + i < c * n := by
      have h5 : (j + 1) * c ≤ n * c := Nat.mul_le_mul_right c (by omega)
      rw [Nat.add_mul, Nat.one_mul] at h5
      rw [Nat.mul_comm c n]
      omega
    have k := hs _ hlt
    rw [hm, hd] at k
    exact (key _ _ (by omega)).mpr k
theorem first_eq : ∀ m i, firstB (fun r => 1 - hasB (pG s) r) m i = if firstN (fun r => thM s r) m i < i + m then ((firstN (fun r => thM s r) m i : Nat) : Int) else -1
  | 0, i => by simp [firstB, firstN]
  | m + 1, i => by
    have hb := thM_bd s (i : Nat)
    have hbn := firstN_bd (fun r => thM s r) m (i + 1)
    rw [firstB, firstN, hasB_th, first_eq m (i + 1)]
    by_cases c1 : thM s (i : Nat) = 0
    · rw [if_pos (by omega), if_pos c1, if_pos (by omega)]
    · rw [if_neg (by omega), if_neg c1]
      by_cases c2 : firstN (fun r => thM s r) m (i + 1) < i + 1 + m
      · rw [if_pos c2, if_pos (by omega)]
      · rw [if_neg c2, if_neg (by omega)]
theorem firstN_no : ∀ m i, firstN (fun r => thM s r) m i < i + m → thM s ((firstN (fun r => thM s r) m i : Nat) : Int) = 0
  | 0, i, h => by
    have h' : i < i + 0 := h
    omega
  | m + 1, i, h => by
    rw [firstN] at h ⊢
    by_cases c1 : thM s (i : Nat) = 0
    · rw [if_pos c1]; exact c1
    · rw [if_neg c1] at h ⊢
      exact firstN_no m (i + 1) (by omega)
end RM
