/-! THE CLASS'S PLAN BY THE REFERENCE'S -/
def pF (s : Nat → Int) : Nat → Int := fun k => if k < 192 then s k else 0
def pG (s : Nat → Int) : Nat → Int := fun k => if k < 24 ∧ 0 < s (194 + 4 * (k / 4)) then s (192 + k) else 0
def pH (s : Nat → Int) : Nat → Int := fun k => if k < 36 then s (216 + k) else 0
def PlS (σ : AS) (P : Nat) (s : Nat → Int) : Prop := PlanC σ P (pF s) (pG s) (pH s) (s 252)
def isR (s : Nat → Int) (r : Nat) : Prop := 0 < s (194 + 4 * r)
def inBx (s : Nat → Int) (r k : Nat) : Prop := isR s r ∧ s (192 + 4 * r) ≤ ((k % 16 : Nat) : Int) ∧ ((k % 16 : Nat) : Int) < s (192 + 4 * r) + s (194 + 4 * r) ∧ s (193 + 4 * r) ≤ ((k / 16 : Nat) : Int) ∧ ((k / 16 : Nat) : Int) < s (193 + 4 * r) + s (195 + 4 * r)
def GdR (s : Nat → Int) : Prop := ∀ r : Nat, r < 6 → isR s r → 0 ≤ s (192 + 4 * r) ∧ s (192 + 4 * r) + s (194 + 4 * r) ≤ 16 ∧ 0 ≤ s (193 + 4 * r) ∧ 1 ≤ s (195 + 4 * r) ∧ s (193 + 4 * r) + s (195 + 4 * r) ≤ 12
def GdS (s : Nat → Int) : Prop := ∀ k, k < 192 → -2 ≤ s k ∧ s k ≤ 5 ∧ ∀ r : Nat, r < 6 → (s k = (r : Nat) ↔ inBx s r k)
def GdW (s : Nat → Int) : Prop := ∀ a b, a < 6 → b < 6 → (0 ≤ wkM s a b ∧ wkM s a b ≤ 3) ∧ (0 < wkM s a b → isR s a ∧ isR s b ∧ a ≠ b)
def Good (s : Nat → Int) : Prop := SOK s ∧ Tl s ∧ (0 ≤ s 252 ∧ s 252 ≤ 9) ∧ GdR s ∧ GdS s ∧ GdW s
theorem th_R {s : Nat → Int} {r : Nat} (hr : r < 6) : thM s (r : Nat) = 1 ↔ isR s r := by
  unfold thM isR
  have e : (194 + 4 * ((r : Nat) : Int)).toNat = 194 + 4 * r := by omega
  rw [e]
  constructor
  · intro h
    split at h
    · rename_i hc; exact hc.2.2
    · omega
  · intro h
    rw [if_pos ⟨by omega, by omega, h⟩]
theorem th_R0 {s : Nat → Int} {r : Nat} (hr : r < 6) (h : ¬ isR s r) : thM s (r : Nat) = 0 := by
  have := thM_bd s (r : Nat)
  have h2 := (th_R (s := s) hr)
  have : thM s (r : Nat) ≠ 1 := fun z => h (h2.mp z)
  omega
theorem pG_at {s : Nat → Int} {r w : Nat} (hr : r < 6) (hw : w < 4) (h : isR s r) : bxAt (pG s) (r : Nat) (w : Nat) = s (192 + 4 * r + w) := by
  unfold bxAt pG
  have e : (4 * ((r : Nat) : Int) + ((w : Nat) : Int)).toNat = 4 * r + w := by omega
  have e2 : (4 * r + w) / 4 = r := by omega
  rw [if_pos (by omega), e, e2, if_pos ⟨by omega, h⟩, show 192 + (4 * r + w) = 192 + 4 * r + w by omega]
theorem pG_no {s : Nat → Int} {r : Nat} {w : Int} (h : ¬ isR s r) : bxAt (pG s) (r : Nat) w = 0 := by
  unfold bxAt pG
  split
  · rename_i hc
    have e2 : (4 * ((r : Nat) : Int) + w).toNat / 4 = r := by omega
    rw [e2, if_neg (fun z => h z.2)]
  · rfl
theorem hasB_th {s : Nat → Int} (r : Int) : hasB (pG s) r = thM s r := by
  by_cases c : 0 ≤ r ∧ r ≤ 5
  · obtain ⟨n, rfl⟩ : ∃ n : Nat, r = n := ⟨r.toNat, by omega⟩
    have hn : n < 6 := by omega
    unfold hasB
    by_cases h : isR s n
    · have h2 := pG_at hn (show 2 < 4 by omega) h
      have h3 : bxAt (pG s) ((n : Nat) : Int) 2 = s (192 + 4 * n + 2) := h2
      rw [h3, (th_R hn).mpr h, if_pos]
      refine ⟨by omega, by omega, ?_⟩
      rw [show 192 + 4 * n + 2 = 194 + 4 * n by omega]
      exact h
    · rw [pG_no h, th_R0 hn h, if_neg (by omega)]
  · unfold hasB thM
    rw [if_neg (by omega), if_neg (by omega)]
section GD
variable {s : Nat → Int}
theorem Good.sq (h : Good s) : SqOK (pF s) := by
  intro k
  unfold pF
  split
  · rename_i hk
    have := h.2.2.2.2.1 k hk
    omega
  · omega
theorem Good.eq (_h : Good s) : EqS (pF s) s := fun k hk => if_pos hk
theorem pF_can (s : Nat → Int) : Can (pF s) 192 := fun k hk => if_neg (by omega)
theorem pG_can (s : Nat → Int) : Can (pG s) 24 := fun k hk => if_neg (by omega)
theorem pH_can (s : Nat → Int) : Can (pH s) 36 := fun k hk => if_neg (by omega)
theorem Good.bx (h : Good s) : BxOK (pG s) := by
  intro k
  unfold pG
  split
  · rename_i hk
    have h1 := h.2.2.2.1 (k / 4) (by omega) hk.2
    have h2 := hk.2
    rcases (show 192 + k = 192 + 4 * (k / 4) ∨ 192 + k = 193 + 4 * (k / 4) ∨ 192 + k = 194 + 4 * (k / 4) ∨ 192 + k = 195 + 4 * (k / 4) by omega) with e | e | e | e <;> rw [e] <;> omega
  · omega
theorem Good.wd (h : Good s) : WdOK (pH s) := by
  intro k
  unfold pH
  split
  · rename_i hk
    have := (h.2.2.2.2.2 (k / 6) (k % 6) (by omega) (by omega)).1
    unfold wkM at this
    rw [show 216 + 6 * (k / 6) + k % 6 = 216 + k by omega] at this
    exact this
  · omega
theorem Good.wk (h : Good s) : WkOK s := fun a b ha hb => (h.2.2.2.2.2 a b ha hb).1
theorem wdAt_wk {a b : Nat} (ha : a < 6) (hb : b < 6) : wdAt (pH s) a b = wkM s a b := by
  unfold wdAt pH wkM
  rw [if_pos (by omega), Nat.add_assoc]
theorem Good.box (h : Good s) {r : Nat} (hr : r < 6) (hR : isR s r) : BxR s (r : Nat) (s (192 + 4 * r)) (s (193 + 4 * r)) (s (192 + 4 * r) + s (194 + 4 * r)) (s (193 + 4 * r) + s (195 + 4 * r)) := by
  have h1 := h.2.2.2.1 r hr hR
  have h0 : 0 < s (194 + 4 * r) := hR
  refine ⟨by omega, by omega, by omega, fun X Y x0 x1 y0 y1 => ?_⟩
  have h2 := (h.2.2.2.2.1 (16 * Y + X).toNat (by omega)).2.2 r hr
  unfold whM
  rw [if_pos (by omega), h2]
  have e1 : (((16 * Y + X).toNat % 16 : Nat) : Int) = X := by omega
  have e2 : (((16 * Y + X).toNat / 16 : Nat) : Int) = Y := by omega
  unfold inBx
  rw [e1, e2]
  constructor
  · rintro ⟨-, q⟩; exact q
  · intro q; exact ⟨hR, q⟩
theorem Good.plw (h : Good s) : PlW s (pF s) (pG s) (pH s) := by
  refine ⟨h.sq, h.eq, h.1, h.wk, fun a b ha hb => wdAt_wk ha hb, fun r hr ht => ?_⟩
  have hR := (th_R hr).mp ht
  have e0 : bxAt (pG s) (r : Nat) 0 = s (192 + 4 * r) := pG_at hr (show 0 < 4 by omega) hR
  have e1 : bxAt (pG s) (r : Nat) 1 = s (193 + 4 * r) := (pG_at hr (show 1 < 4 by omega) hR).trans (congrArg s (by omega))
  have e2 : bxAt (pG s) (r : Nat) 2 = s (194 + 4 * r) := (pG_at hr (show 2 < 4 by omega) hR).trans (congrArg s (by omega))
  have e3 : bxAt (pG s) (r : Nat) 3 = s (195 + 4 * r) := (pG_at hr (show 3 < 4 by omega) hR).trans (congrArg s (by omega))
  rw [e0, e1, e2, e3]
  exact h.box hr hR
theorem sq_wh (s : Nat → Int) (x y : Int) : ((0 ≤ x ∧ x ≤ 15 ∧ 0 ≤ y ∧ y ≤ 11) ∧ sqAt (pF s) x y = whM s x y) ∨ (¬ (0 ≤ x ∧ x ≤ 15 ∧ 0 ≤ y ∧ y ≤ 11) ∧ sqAt (pF s) x y = -3 ∧ whM s x y = 99) := by
  by_cases c : 0 ≤ x ∧ x ≤ 15 ∧ 0 ≤ y ∧ y ≤ 11
  · refine Or.inl ⟨c, ?_⟩
    unfold sqAt whM pF
    rw [if_pos (by omega), if_pos c, if_pos (by omega)]
  · refine Or.inr ⟨c, ?_, ?_⟩
    · exact if_neg (by omega)
    · exact if_neg c
theorem Good.wh (h : Good s) (x y : Int) : (-2 ≤ whM s x y ∧ whM s x y ≤ 5) ∨ whM s x y = 99 := by
  unfold whM
  split
  · have := h.2.2.2.2.1 (16 * y + x).toNat (by omega)
    omega
  · exact Or.inr rfl
theorem Good.th (h : Good s) {x y : Int} {r : Nat} (hr : r < 6) (e : whM s x y = (r : Nat)) : isR s r := by
  unfold whM at e
  split at e
  · exact ((h.2.2.2.2.1 (16 * y + x).toNat (by omega)).2.2 r hr).mp e |>.1
  · omega
theorem sd_eq (h : Good s) (x y : Int) : b01 (0 ≤ sqAt (pF s) x y) = inB (whM s x y) 0 5 := by
  unfold b01 inB
  have h2 := h.wh x y
  have h3 := sqAt_bd h.sq x y
  rcases sq_wh s x y with ⟨-, e⟩ | ⟨-, e1, e2⟩
  · rw [e] at h3 ⊢
    by_cases c : 0 ≤ whM s x y ∧ whM s x y ≤ 5
    · rw [if_pos c, if_pos c.1]
    · rw [if_neg c, if_neg (by omega)]
  · rw [e1, e2, if_neg (by omega), if_neg (by omega)]
theorem cs_eq (h : Good s) (x y : Int) : cs (pF s) x y = inB (whM s (x - 1) y) 0 5 + inB (whM s (x + 1) y) 0 5 + inB (whM s x (y - 1)) 0 5 + inB (whM s x (y + 1)) 0 5 := by
  unfold cs
  simp only [sumTo, sx, sy, List.getD_cons_zero, List.getD_cons_succ, sd_eq h, Int.add_zero, ← Int.sub_eq_add_neg]
  omega
theorem ds_eq (h : Good s) (x y : Int) : ds (pF s) x y = sdM s x y := by
  unfold ds sdM
  rw [cs_eq h]
  rcases sq_wh s x y with ⟨-, e⟩ | ⟨-, e1, e2⟩
  · rw [e]
  · rw [e1, e2, if_neg (by omega), if_neg (by omega)]
def pd (d : Nat) : Nat := ([1, 0, 3, 2] : List Nat).getD d 0
theorem pd_ax {d : Nat} (hd : d < 4) : axM (pd d) = sx d ∧ ayM (pd d) = sy d ∧ pd d < 4 := by
  rcases (show d = 0 ∨ d = 1 ∨ d = 2 ∨ d = 3 by omega) with rfl | rfl | rfl | rfl <;> decide
theorem sxy {d : Nat} (hd : d < 4) : (sx d = 1 ∧ sy d = 0) ∨ (sx d = -1 ∧ sy d = 0) ∨ (sx d = 0 ∧ sy d = 1) ∨ (sx d = 0 ∧ sy d = -1) := by
  rcases (show d = 0 ∨ d = 1 ∨ d = 2 ∨ d = 3 by omega) with rfl | rfl | rfl | rfl <;> decide
theorem sum_pd (t : Nat → Int) : sumTo (fun d => t (pd d)) 4 = sumTo t 4 := by
  simp only [sumTo, pd, List.getD_cons_zero, List.getD_cons_succ]
  omega
theorem sq_r (h : Good s) {x y : Int} {r : Nat} (hr : r < 6) : sqAt (pF s) x y = (r : Nat) ↔ whM s x y = (r : Nat) := by
  rcases sq_wh s x y with ⟨-, e⟩ | ⟨-, e1, e2⟩
  · rw [e]
  · rw [e1, e2]
    omega
theorem p_wh {p : Nat} (hp : p < 192) : whM s ((p % 16 : Nat) : Int) ((p / 16 : Nat) : Int) = s p := by
  unfold whM
  rw [if_pos (by omega), show (16 * ((p / 16 : Nat) : Int) + ((p % 16 : Nat) : Int)).toNat = p by omega]
theorem p_sq {p : Nat} (hp : p < 192) : sqAt (pF s) ((p % 16 : Nat) : Int) ((p / 16 : Nat) : Int) = s p := by
  rcases sq_wh s ((p % 16 : Nat) : Int) ((p / 16 : Nat) : Int) with ⟨-, e⟩ | ⟨e, -⟩
  · rw [e, p_wh hp]
  · omega
def dorC (s : Nat → Int) (r p d : Nat) : Prop := s p = -1 ∧ whM s (((p % 16 : Nat) : Int) - axM d) (((p / 16 : Nat) : Int) - ayM d) = (r : Nat)
theorem isDr_eq (h : Good s) {r p d : Nat} (far : Nat) (hr : r < 6) (hp : p < 192) (hd : d < 4) : isDr (pF s) (r : Nat) ((p % 16 : Nat) : Int) ((p / 16 : Nat) : Int) d = drM s far (r : Nat) 0 p (pd d) ∧ (isDr (pF s) (r : Nat) ((p % 16 : Nat) : Int) ((p / 16 : Nat) : Int) d = 1 ↔ dorC s r p (pd d)) := by
  have hx := pd_ax hd
  have e : (sqAt (pF s) ((p % 16 : Nat) : Int) ((p / 16 : Nat) : Int) = -1 ∧ sqAt (pF s) (((p % 16 : Nat) : Int) - sx d) (((p / 16 : Nat) : Int) - sy d) = (r : Nat)) ↔ dorC s r p (pd d) := by
    unfold dorC
    rw [p_sq hp, sq_r h hr, hx.1, hx.2.1]
  unfold isDr drM b01
  unfold dorC at e ⊢
  by_cases c : s p = -1 ∧ whM s (((p % 16 : Nat) : Int) - axM (pd d)) (((p / 16 : Nat) : Int) - ayM (pd d)) = (r : Nat)
  · rw [if_pos (e.mpr c), if_pos ⟨c, Or.inl rfl⟩]
    exact ⟨rfl, fun _ => c, fun _ => rfl⟩
  · rw [if_neg (fun z => c (e.mp z)), if_neg (fun z => c z.1)]
    exact ⟨rfl, fun z => absurd z (by omega), fun z => absurd z c⟩
/-- going straight away from a chamber one never comes back to it -/
theorem away (h : Good s) {r : Nat} (hr : r < 6) {x y dx dy : Int} (hd : (dx = 1 ∧ dy = 0) ∨ (dx = -1 ∧ dy = 0) ∨ (dx = 0 ∧ dy = 1) ∨ (dx = 0 ∧ dy = -1)) (h1 : whM s x y = -1) (h2 : whM s (x - dx) (y - dy) = (r : Nat)) (k : Nat) : whM s (x + ((k : Int) + 1) * dx) (y + ((k : Int) + 1) * dy) ≠ (r : Nat) := by
  intro h3
  have hB := h.box hr (h.th hr h2)
  have i1 := hB.iff x y
  have i2 := (hB.iff _ _).mp h2
  have i3 := (hB.iff _ _).mp h3
  have i4 : whM s x y = (r : Nat) := i1.mpr (by
    rcases hd with ⟨rfl, rfl⟩ | ⟨rfl, rfl⟩ | ⟨rfl, rfl⟩ | ⟨rfl, rfl⟩ <;> omega)
  omega
theorem fcd_eq (h : Good s) {r : Nat} (hr : r < 6) {x y dx dy : Int} (hne : ∀ k : Nat, whM s (x + ((k : Int) + 1) * dx) (y + ((k : Int) + 1) * dy) ≠ (r : Nat)) : ∀ n k, fcd (pF s) (r : Nat) x y dx dy (n + 1) k = inB (whM s (x + ((gfM s x y dx dy n k : Nat) + 1) * dx) (y + ((gfM s x y dx dy n k : Nat) + 1) * dy)) 0 5 := by
  have one : ∀ k : Nat, (sqAt (pF s) (x + ((k : Int) + 1) * dx) (y + ((k : Int) + 1) * dy) = -1 ↔ whM s (x + ((k : Int) + 1) * dx) (y + ((k : Int) + 1) * dy) = -1) ∧ b01 (0 ≤ sqAt (pF s) (x + ((k : Int) + 1) * dx) (y + ((k : Int) + 1) * dy) ∧ sqAt (pF s) (x + ((k : Int) + 1) * dx) (y + ((k : Int) + 1) * dy) ≠ (r : Nat)) = inB (whM s (x + ((k : Int) + 1) * dx) (y + ((k : Int) + 1) * dy)) 0 5 := by
    intro k
    have k1 := hne k
    generalize x + ((k : Int) + 1) * dx = X at *
    generalize y + ((k : Int) + 1) * dy = Y at *
    have h2 := h.wh X Y
    have h3 := sqAt_bd h.sq X Y
    unfold b01 inB
    rcases sq_wh s X Y with ⟨-, e⟩ | ⟨-, e1, e2⟩
    · rw [e] at h3 ⊢
      refine ⟨Iff.rfl, ?_⟩
      by_cases c : 0 ≤ whM s X Y ∧ whM s X Y ≤ 5
      · rw [if_pos c, if_pos ⟨c.1, k1⟩]
      · rw [if_neg c, if_neg (by omega)]
    · rw [e1, e2]
      refine ⟨by omega, ?_⟩
      rw [if_neg (by omega), if_neg (by omega)]
  intro n
  induction n with
  | zero =>
    intro k
    obtain ⟨o1, o2⟩ := one k
    show (if sqAt (pF s) (x + ((k : Int) + 1) * dx) (y + ((k : Int) + 1) * dy) = -1 then 0 else _) = inB (whM s (x + ((k : Int) + 1) * dx) (y + ((k : Int) + 1) * dy)) 0 5
    by_cases c : sqAt (pF s) (x + ((k : Int) + 1) * dx) (y + ((k : Int) + 1) * dy) = -1
    · rw [if_pos c, o1.mp c]
      rfl
    · rw [if_neg c, o2]
  | succ n ih =>
    intro k
    obtain ⟨o1, o2⟩ := one k
    rw [fcd, gfM]
    by_cases c : sqAt (pF s) (x + ((k : Int) + 1) * dx) (y + ((k : Int) + 1) * dy) = -1
    · rw [if_pos c, if_pos (o1.mp c), ih (k + 1)]
    · rw [if_neg c, if_neg (fun z => c (o1.mpr z)), o2]
theorem faB_eq (h : Good s) {r p d far : Nat} (hr : r < 6) (hp : p < 192) (hd : d < 4) : faB (pF s) far (r : Nat) (p % 16) (p / 16) d = drM s far (r : Nat) 1 p (pd d) := by
  have hx := pd_ax hd
  obtain ⟨-, e⟩ := isDr_eq h far hr hp hd
  unfold faB drM
  by_cases c : dorC s r p (pd d)
  · rw [if_pos (e.mpr c)]
    have c1 : whM s ((p % 16 : Nat) : Int) ((p / 16 : Nat) : Int) = -1 := by rw [p_wh hp]; exact c.1
    have c2 := c.2
    rw [hx.1, hx.2.1] at c2
    have k := fcd_eq h hr (away h hr (sxy hd) c1 c2) far 0
    rw [k]
    unfold dorC at c
    have ef : fcM s far ((p % 16 : Nat) : Int) ((p / 16 : Nat) : Int) (pd d) = inB (whM s (((p % 16 : Nat) : Int) + ((gfM s ((p % 16 : Nat) : Int) ((p / 16 : Nat) : Int) (sx d) (sy d) far 0 : Nat) + 1) * sx d) (((p / 16 : Nat) : Int) + ((gfM s ((p % 16 : Nat) : Int) ((p / 16 : Nat) : Int) (sx d) (sy d) far 0 : Nat) + 1) * sy d)) 0 5 := by
      unfold fcM
      rw [hx.1, hx.2.1]
    rw [← ef]
    have bd : fcM s far ((p % 16 : Nat) : Int) ((p / 16 : Nat) : Int) (pd d) = 0 ∨ fcM s far ((p % 16 : Nat) : Int) ((p / 16 : Nat) : Int) (pd d) = 1 := by
      unfold fcM inB
      split
      · exact Or.inr rfl
      · exact Or.inl rfl
    rcases bd with b | b
    · rw [b, if_neg (fun z => z.2.elim (by omega) (by omega))]
    · rw [b, if_pos ⟨c, Or.inr rfl⟩]
  · rw [if_neg (fun z => c (e.mp z)), if_neg (fun z => c z.1)]
theorem drOf_eq (h : Good s) {r : Nat} (far : Nat) (hr : r < 6) : drOf (pF s) (r : Nat) = drsM s far (r : Nat) 0 := by
  unfold drOf drsM
  rw [sum_flat (fun y x => sumTo (fun d => isDr (pF s) (r : Nat) (x : Nat) (y : Nat) d) 4) 16 (by omega) 12]
  refine sum_eq 192 (fun p hp => ?_)
  rw [← sum_pd (fun d => drM s far (r : Nat) 0 p d)]
  exact sum_eq 4 (fun d hd => (isDr_eq h far hr hp hd).1)
theorem faOf_eq (h : Good s) {r far : Nat} (hr : r < 6) : faOf (pF s) far (r : Nat) = drsM s far (r : Nat) 1 := by
  unfold faOf drsM
  rw [sum_flat (fun y x => sumTo (fun d => faB (pF s) far (r : Nat) x y d) 4) 16 (by omega) 12]
  refine sum_eq 192 (fun p hp => ?_)
  rw [← sum_pd (fun d => drM s far (r : Nat) 1 p d)]
  exact sum_eq 4 (fun d hd => faB_eq h hr hp hd)
theorem facing_eq (h : Good s) (far : Nat) : sumTo (fun r => if hasB (pG s) r = 1 then faOf (pF s) far r else 0) 6 = alM s far 1 := by
  unfold alM
  refine sum_eq 6 (fun r hr => ?_)
  rw [hasB_th, faOf_eq h hr]
theorem dsAll_eq (h : Good s) (far : Nat) : dsAll (pF s) = alM s far 0 := by
  have e1 : alM s far 0 = sumTo (fun k => sumTo (fun p => sumTo (fun d => drM s far (k : Nat) 0 p d) 4) 192) 6 := by
    unfold alM
    refine sum_eq 6 (fun k hk => ?_)
    by_cases c : isR s k
    · rw [if_pos ((th_R hk).mpr c)]
      rfl
    · rw [if_neg (fun z => c ((th_R hk).mp z))]
      refine (sum_zero 192 (fun p hp => sum_zero 4 (fun d hd => ?_))).symm
      unfold drM
      exact if_neg (fun z => c (h.th hk z.1.2))
  rw [e1, sum_comm (fun k p => sumTo (fun d => drM s far (k : Nat) 0 p d) 4) 192 6]
  unfold dsAll
  rw [sum_flat (fun y x => ds (pF s) (x : Nat) (y : Nat)) 16 (by omega) 12]
  refine sum_eq 192 (fun p hp => ?_)
  rw [sum_comm (fun k d => drM s far (k : Nat) 0 p d) 4 6, ds_eq h]
  have e2 : ∀ d, sumTo (fun k => drM s far (k : Nat) 0 p d) 6 = if s p = -1 then inB (whM s (((p % 16 : Nat) : Int) - axM d) (((p / 16 : Nat) : Int) - ayM d)) 0 5 else 0 := by
    intro d
    have hw := h.wh (((p % 16 : Nat) : Int) - axM d) (((p / 16 : Nat) : Int) - ayM d)
    simp only [sumTo, drM, inB]
    generalize whM s (((p % 16 : Nat) : Int) - axM d) (((p / 16 : Nat) : Int) - ayM d) = v at *
    by_cases c : s p = -1
    · simp only [c, true_and, true_or, and_true, if_true]
      rcases (show v = -2 ∨ v = -1 ∨ v = 0 ∨ v = 1 ∨ v = 2 ∨ v = 3 ∨ v = 4 ∨ v = 5 ∨ v = 99 by omega) with rfl | rfl | rfl | rfl | rfl | rfl | rfl | rfl | rfl <;> decide
    · simp only [c, false_and, if_false]
      rfl
  rw [sum_eq 4 (fun d _ => e2 d)]
  unfold sdM
  rw [p_wh hp]
  by_cases c : s p = -1
  · simp only [sumTo, c, if_true, axM, ayM, List.getD_cons_zero, List.getD_cons_succ, Int.sub_zero, Int.sub_neg]
    omega
  · simp only [sumTo, c, if_false]
    rfl
end GD
