/-! PLACES ON THE PLAN: rows, columns, chambers beside -/
theorem sum_only {f : Nat → Int} {k : Nat} : ∀ n, k < n → (∀ i, i < n → i ≠ k → f i = 0) → sumTo f n = f k
  | 0, h, _ => absurd h (by omega)
  | n + 1, h, h0 => by
    rw [sum_s]
    by_cases e : n = k
    · rw [e] at h0 ⊢
      rw [sum_zero k (fun i hi => h0 i (by omega) (by omega))]
      omega
    · rw [sum_only n (by omega) (fun i hi => h0 i (by omega)), h0 n (by omega) e]
      omega
def wS (s : Nat → Int) (p i j : Nat) : Int := b01 (whM s (((p % 16 : Nat) : Int) + (i : Nat)) (((p / 16 : Nat) : Int) + (j : Nat)) = -2)
theorem rk0_sum (s : Nat → Int) {b : Nat} (hb : 1 ≤ b) (p : Nat) : rk0 s b p = sumTo (fun j => sumTo (fun i => wS s p i j) b) b := by
  rw [sum_flat (fun j i => wS s p i j) b (by omega) b]
  rfl
theorem rk1_sum (s : Nat → Int) {b : Nat} (hb : 1 ≤ b) (p q : Nat) : rk1 s b p q = sumTo (fun j => sumTo (fun i => if (0 ≤ ((p % 16 : Nat) : Int) + (i : Nat) - ((q % 16 : Nat) : Int) ∧ ((p % 16 : Nat) : Int) + (i : Nat) - ((q % 16 : Nat) : Int) ≤ (b : Int) - 1) ∧ 0 ≤ ((p / 16 : Nat) : Int) + (j : Nat) - ((q / 16 : Nat) : Int) ∧ ((p / 16 : Nat) : Int) + (j : Nat) - ((q / 16 : Nat) : Int) ≤ (b : Int) - 1 then 0 else wS s p i j) b) b := by
  rw [sum_flat (fun j i => if (0 ≤ ((p % 16 : Nat) : Int) + (i : Nat) - ((q % 16 : Nat) : Int) ∧ ((p % 16 : Nat) : Int) + (i : Nat) - ((q % 16 : Nat) : Int) ≤ (b : Int) - 1) ∧ 0 ≤ ((p / 16 : Nat) : Int) + (j : Nat) - ((q / 16 : Nat) : Int) ∧ ((p / 16 : Nat) : Int) + (j : Nat) - ((q / 16 : Nat) : Int) ≤ (b : Int) - 1 then 0 else wS s p i j) b (by omega) b]
  rfl
theorem rk1_right (s : Nat → Int) {b p q : Nat} (hb : 1 ≤ b) (h1 : q % 16 = p % 16 + 1) (h2 : q / 16 = p / 16) : rk1 s b p q = sumTo (fun j => wS s p 0 j) b := by
  rw [rk1_sum s hb]
  refine sum_eq b (fun j hj => ?_)
  rw [sum_only (k := 0) b (by omega) (fun i hi h0 => if_pos (by omega)), if_neg (by omega)]
theorem rk1_left (s : Nat → Int) {b p q : Nat} (hb : 1 ≤ b) (h1 : q % 16 + 1 = p % 16) (h2 : q / 16 = p / 16) : rk1 s b p q = sumTo (fun j => wS s p (b - 1) j) b := by
  rw [rk1_sum s hb]
  refine sum_eq b (fun j hj => ?_)
  rw [sum_only (k := b - 1) b (by omega) (fun i hi h0 => if_pos (by omega)), if_neg (by omega)]
theorem rk1_down (s : Nat → Int) {b p q : Nat} (hb : 1 ≤ b) (h1 : q % 16 = p % 16) (h2 : q / 16 = p / 16 + 1) : rk1 s b p q = sumTo (fun i => wS s p i 0) b := by
  rw [rk1_sum s hb, sum_only (k := 0) b (by omega) (fun j hj h0 => sum_zero b (fun i hi => if_pos (by omega)))]
  exact sum_eq b (fun i hi => if_neg (by omega))
theorem rk1_up (s : Nat → Int) {b p q : Nat} (hb : 1 ≤ b) (h1 : q % 16 = p % 16) (h2 : q / 16 + 1 = p / 16) : rk1 s b p q = sumTo (fun i => wS s p i (b - 1)) b := by
  rw [rk1_sum s hb, sum_only (k := b - 1) b (by omega) (fun j hj h0 => sum_zero b (fun i hi => if_pos (by omega)))]
  exact sum_eq b (fun i hi => if_neg (by omega))
theorem wS_bd (s : Nat → Int) (p i j : Nat) : 0 ≤ wS s p i j ∧ wS s p i j ≤ 1 := b01_bd _
/-- where a step leads -/
theorem nxM_dir {s : Nat → Int} {b p d q : Nat} (hb : 1 ≤ b) (hd : d < 4) (h : nxM s b p d = (q : Nat)) : (d = 0 ∧ q % 16 + 1 = p % 16 ∧ q / 16 = p / 16) ∨ (d = 1 ∧ q % 16 = p % 16 + 1 ∧ q / 16 = p / 16) ∨ (d = 2 ∧ q % 16 = p % 16 ∧ q / 16 + 1 = p / 16) ∨ (d = 3 ∧ q % 16 = p % 16 ∧ q / 16 = p / 16 + 1) := by
  unfold nxM at h
  split at h
  · rename_i hc
    obtain ⟨h1, h2, h3, h4, -⟩ := plB_of hc
    rcases (show d = 0 ∨ d = 1 ∨ d = 2 ∨ d = 3 by omega) with rfl | rfl | rfl | rfl <;> simp only [axM, ayM, List.getD_cons_zero, List.getD_cons_succ] at h h1 h2 h3 h4 <;> omega
  · omega
theorem nxM_mk {s : Nat → Int} {b p d q : Nat} (hd : d < 4) (hb : 1 ≤ b) (hq : plP s b q) (hq2 : q < 192) (h : (d = 0 ∧ q % 16 + 1 = p % 16 ∧ q / 16 = p / 16) ∨ (d = 1 ∧ q % 16 = p % 16 + 1 ∧ q / 16 = p / 16) ∨ (d = 2 ∧ q % 16 = p % 16 ∧ q / 16 + 1 = p / 16) ∨ (d = 3 ∧ q % 16 = p % 16 ∧ q / 16 = p / 16 + 1)) : nxM s b p d = (q : Nat) := by
  have ex : ((p % 16 : Nat) : Int) + axM d = ((q % 16 : Nat) : Int) ∧ ((p / 16 : Nat) : Int) + ayM d = ((q / 16 : Nat) : Int) := by
    rcases h with ⟨rfl, h1, h2⟩ | ⟨rfl, h1, h2⟩ | ⟨rfl, h1, h2⟩ | ⟨rfl, h1, h2⟩ <;> simp only [axM, ayM, List.getD_cons_zero, List.getD_cons_succ] <;> omega
  unfold nxM
  unfold plP at hq
  rw [ex.1, ex.2, if_pos hq]
  omega
theorem rk1_le3 {s : Nat → Int} {b p d q : Nat} (hb : 1 ≤ b) (hb3 : b ≤ 3) (hd : d < 4) (h : nxM s b p d = (q : Nat)) : 0 ≤ rk1 s b p q ∧ rk1 s b p q ≤ 3 := by
  have key : ∀ t : Nat → Int, (∀ i, 0 ≤ t i ∧ t i ≤ 1) → 0 ≤ sumTo t b ∧ sumTo t b ≤ 3 := fun t ht => by
    have := sum_bd (f := t) (a := 0) (b := 1) b (fun i _ => ht i)
    omega
  rcases nxM_dir hb hd h with ⟨-, h1, h2⟩ | ⟨-, h1, h2⟩ | ⟨-, h1, h2⟩ | ⟨-, h1, h2⟩
  · rw [rk1_left s hb h1 h2]; exact key _ (fun j => wS_bd s p _ j)
  · rw [rk1_right s hb h1 h2]; exact key _ (fun j => wS_bd s p _ j)
  · rw [rk1_up s hb h1 h2]; exact key _ (fun i => wS_bd s p i _)
  · rw [rk1_down s hb h1 h2]; exact key _ (fun i => wS_bd s p i _)
/-- the class's arrays, by the reference's plan -/
def EqS (f s : Nat → Int) : Prop := ∀ k, k < 192 → f k = s k
theorem EqS.sq {f s : Nat → Int} (h : EqS f s) {x y : Int} (hx : 0 ≤ x ∧ x ≤ 15) (hy : 0 ≤ y ∧ y ≤ 11) : sqAt f x y = whM s x y := by
  unfold sqAt whM
  rw [if_pos (by omega), if_pos (by omega)]
  exact h _ (by omega)
theorem EqS.ok {f s : Nat → Int} (h : EqS f s) (hs : SOK s) {x y : Int} (hx : 0 ≤ x) (hy : 0 ≤ y) : okS f x y ↔ whM s x y < 0 := by
  unfold okS
  by_cases c : x ≤ 15 ∧ y ≤ 11
  · rw [h.sq (by omega) (by omega)]
    have := whM_bd hs x y
    omega
  · unfold sqAt whM
    rw [if_neg (by omega), if_neg (by omega)]
    omega
theorem plP_mk {s : Nat → Int} {b p : Nat} (hb : 1 ≤ b) : plP s b p ↔ p % 16 + b ≤ 16 ∧ p / 16 + b ≤ 12 ∧ ∀ j, j < b → ∀ i, i < b → whM s (((p % 16 : Nat) : Int) + (i : Nat)) (((p / 16 : Nat) : Int) + (j : Nat)) < 0 := by
  unfold plP
  constructor
  · intro h
    obtain ⟨h1, h2, h3, h4, h5⟩ := plB_of h
    refine ⟨by omega, by omega, fun j hj i hi => ?_⟩
    have hk : j * b + i < b * b := by
      have : (j + 1) * b ≤ b * b := Nat.mul_le_mul_right b hj
      rw [Nat.add_mul, Nat.one_mul] at this
      omega
    have := h5 (j * b + i) hk
    rw [show (j * b + i) % b = i by rw [Nat.add_comm, Nat.add_mul_mod_self_right, Nat.mod_eq_of_lt hi], show (j * b + i) / b = j by rw [Nat.add_comm, Nat.add_mul_div_right _ _ (by omega), Nat.div_eq_of_lt hi, Nat.zero_add]] at this
    exact this
  · rintro ⟨h1, h2, h3⟩
    exact plB_1 ⟨by omega, by omega, by omega, by omega, fun k hk => h3 (k / b) (Nat.div_lt_of_lt_mul hk) (k % b) (Nat.mod_lt _ (by omega))⟩
theorem acV_eq {f s : Nat → Int} (h : EqS f s) (hs : SOK s) {b p : Nat} (hok : ∀ i, i < b → whM s (((p % 16 : Nat) : Int) + (i : Nat)) ((p / 16 : Nat) : Int) < 0) : acV f b p = sumTo (fun i => wS s p i 0) b := by
  have hin : ∀ i, i < b → ((p % 16 : Nat) : Int) + (i : Nat) ≤ 15 ∧ ((p / 16 : Nat) : Int) ≤ 11 := fun i hi => by
    have := hok i hi
    unfold whM at this
    split at this <;> omega
  unfold acV rkV
  have hok2 : okL f ((p % 16 : Nat) : Int) ((p / 16 : Nat) : Int) b 1 := (fun j hj i hi => (h.ok hs (by omega) (by omega)).mpr (by rw [show j = 0 by omega, show ((p / 16 : Nat) : Int) + ((0 : Nat) : Int) = ((p / 16 : Nat) : Int) by omega]; exact hok i hi))
  rw [cl01_t hok2, if_pos rfl]
  show sumTo _ 0 + rkS f _ _ b 0 = _
  rw [sum_0, Int.zero_add]
  refine sum_eq b (fun i hi => ?_)
  have := hin i hi
  unfold wS
  rw [h.sq (by omega) (by omega)]
theorem dwV_eq {f s : Nat → Int} (h : EqS f s) (hs : SOK s) {b p : Nat} (hok : ∀ j, j < b → whM s ((p % 16 : Nat) : Int) (((p / 16 : Nat) : Int) + (j : Nat)) < 0) : dwV f b p = sumTo (fun j => wS s p 0 j) b := by
  have hin : ∀ j, j < b → ((p % 16 : Nat) : Int) ≤ 15 ∧ ((p / 16 : Nat) : Int) + (j : Nat) ≤ 11 := fun i hi => by
    have := hok i hi
    unfold whM at this
    split at this <;> omega
  unfold dwV rkV
  have hok2 : okL f ((p % 16 : Nat) : Int) ((p / 16 : Nat) : Int) 1 b := (fun j hj i hi => (h.ok hs (by omega) (by omega)).mpr (by rw [show i = 0 by omega, show ((p % 16 : Nat) : Int) + ((0 : Nat) : Int) = ((p % 16 : Nat) : Int) by omega]; exact hok j hj))
  rw [cl01_t hok2, if_pos rfl]
  refine sum_eq b (fun j hj => ?_)
  show sumTo (fun i => b01 (sqAt f (((p % 16 : Nat) : Int) + (i : Nat)) (((p / 16 : Nat) : Int) + (j : Nat)) = -2)) 1 = _
  have := hin j hj
  show sumTo _ 0 + b01 (sqAt f (((p % 16 : Nat) : Int) + ((0 : Nat) : Int)) (((p / 16 : Nat) : Int) + (j : Nat)) = -2) = _
  unfold wS
  rw [sum_0, Int.zero_add, h.sq (by omega) (by omega)]
theorem sum_ge {f : Nat → Int} {n k : Nat} (h : ∀ i, i < n → 0 ≤ f i) (hk : k < n) : f k ≤ sumTo f n := by
  have h1 := sum_le (f := fun i => if i = k then f k else 0) (g := f) n (fun i hi => by
    show (if i = k then f k else 0) ≤ f i
    split
    · rename_i e
      rw [e]
      exact Int.le_refl _
    · exact h i hi)
  rw [sum_only n hk (fun i _ hi => if_neg hi), if_pos rfl] at h1
  exact h1
theorem stV_pl {f s : Nat → Int} (h : EqS f s) (hs : SOK s) {b p : Nat} (hb : 1 ≤ b) (hb3 : b ≤ 3) (hpl : plP s b p) : stV f b p = rk0 s b p := by
  obtain ⟨h1, h2, h3⟩ := (plP_mk hb).mp hpl
  unfold stV
  rw [if_pos h2, rk0_sum s hb]
  refine sum_eq b (fun j hj => ?_)
  rw [acV_eq h hs (b := b) (p := p + 16 * j) (fun i hi => by
    have := h3 j hj i hi
    rw [show (p + 16 * j) % 16 = p % 16 by omega, show (((p + 16 * j) / 16 : Nat) : Int) = ((p / 16 : Nat) : Int) + (j : Nat) by omega]
    exact this)]
  refine sum_eq b (fun i hi => ?_)
  unfold wS
  rw [show (p + 16 * j) % 16 = p % 16 by omega, show (((p + 16 * j) / 16 : Nat) : Int) + ((0 : Nat) : Int) = ((p / 16 : Nat) : Int) + (j : Nat) by omega]
theorem stV_no {f s : Nat → Int} (h : EqS f s) (hs : SOK s) {b p : Nat} (hb : 1 ≤ b) (hb3 : b ≤ 3) (hpl : ¬ plP s b p) : 4096 ≤ stV f b p := by
  unfold stV
  by_cases c : p / 16 + b ≤ 12
  · rw [if_pos c]
    have hex : ∃ j, j < b ∧ acV f b (p + 16 * j) = 4096 := by
      refine Classical.byContradiction fun hn => hpl ((plP_mk hb).mpr ?_)
      have hall : ∀ j, j < b → ∀ i, i < b → whM s (((p % 16 : Nat) : Int) + (i : Nat)) (((p / 16 : Nat) : Int) + (j : Nat)) < 0 := by
        intro j hj i hi
        refine Classical.byContradiction fun hw => hn ⟨j, hj, ?_⟩
        unfold acV rkV
        rw [cl01_f (fun z => hw ?_), if_neg (by omega)]
        have := (h.ok hs (by omega) (by omega)).mp (z 0 (by omega) i hi)
        rw [show (p + 16 * j) % 16 = p % 16 by omega, show (((p + 16 * j) / 16 : Nat) : Int) + ((0 : Nat) : Int) = ((p / 16 : Nat) : Int) + (j : Nat) by omega] at this
        exact this
      refine ⟨?_, c, hall⟩
      have := hall 0 (by omega) (b - 1) (by omega)
      unfold whM at this
      split at this <;> omega
    obtain ⟨j, hj, e⟩ := hex
    have := sum_ge (f := fun j => acV f b (p + 16 * j)) (n := b) (k := j) (fun i _ => (rkV_bd f b (p + 16 * i) hb3 (by omega)).1) hj
    rw [e] at this
    exact this
  · rw [if_neg c]
    omega
/-- what a step costs, in the class's arrays -/
theorem w_right {f s : Nat → Int} (h : EqS f s) (hs : SOK s) {b p q : Nat} (hb : 1 ≤ b) (hpl : plP s b p) (h1 : q % 16 = p % 16 + 1) (h2 : q / 16 = p / 16) : dwV f b p = rk1 s b p q := by
  obtain ⟨g1, g2, g3⟩ := (plP_mk hb).mp hpl
  rw [rk1_right s hb h1 h2, dwV_eq h hs (fun j hj => by
    have := g3 j hj 0 (by omega)
    rw [show ((p % 16 : Nat) : Int) + ((0 : Nat) : Int) = ((p % 16 : Nat) : Int) by omega] at this
    exact this)]
theorem w_left {f s : Nat → Int} (h : EqS f s) (hs : SOK s) {b p q : Nat} (hb : 1 ≤ b) (hpl : plP s b p) (h1 : q % 16 + 1 = p % 16) (h2 : q / 16 = p / 16) : dwV f b (p + b - 1) = rk1 s b p q := by
  obtain ⟨g1, g2, g3⟩ := (plP_mk hb).mp hpl
  have e1 : (p + b - 1) % 16 = p % 16 + (b - 1) := by omega
  have e2 : (p + b - 1) / 16 = p / 16 := by omega
  rw [rk1_left s hb h1 h2, dwV_eq h hs (fun j hj => by
    have := g3 j hj (b - 1) (by omega)
    rw [e1, e2, show ((p % 16 + (b - 1) : Nat) : Int) = ((p % 16 : Nat) : Int) + ((b - 1 : Nat) : Int) by omega]
    exact this)]
  refine sum_eq b (fun j hj => ?_)
  unfold wS
  rw [e1, e2, show ((p % 16 + (b - 1) : Nat) : Int) + ((0 : Nat) : Int) = ((p % 16 : Nat) : Int) + ((b - 1 : Nat) : Int) by omega]
theorem w_down {f s : Nat → Int} (h : EqS f s) (hs : SOK s) {b p q : Nat} (hb : 1 ≤ b) (hpl : plP s b p) (h1 : q % 16 = p % 16) (h2 : q / 16 = p / 16 + 1) : acV f b p = rk1 s b p q := by
  obtain ⟨g1, g2, g3⟩ := (plP_mk hb).mp hpl
  rw [rk1_down s hb h1 h2, acV_eq h hs (fun i hi => by
    have := g3 0 (by omega) i hi
    rw [show ((p / 16 : Nat) : Int) + ((0 : Nat) : Int) = ((p / 16 : Nat) : Int) by omega] at this
    exact this)]
theorem w_up {f s : Nat → Int} (h : EqS f s) (hs : SOK s) {b p q : Nat} (hb : 1 ≤ b) (hpl : plP s b p) (h1 : q % 16 = p % 16) (h2 : q / 16 + 1 = p / 16) : acV f b (p + (b - 1) * 16) = rk1 s b p q := by
  obtain ⟨g1, g2, g3⟩ := (plP_mk hb).mp hpl
  have e1 : (p + (b - 1) * 16) % 16 = p % 16 := by omega
  have e2 : (p + (b - 1) * 16) / 16 = p / 16 + (b - 1) := by omega
  rw [rk1_up s hb h1 h2, acV_eq h hs (fun i hi => by
    have := g3 (b - 1) (by omega) i hi
    rw [e1, e2, show ((p / 16 + (b - 1) : Nat) : Int) = ((p / 16 : Nat) : Int) + ((b - 1 : Nat) : Int) by omega]
    exact this)]
  refine sum_eq b (fun i hi => ?_)
  unfold wS
  rw [e1, e2, show ((p / 16 + (b - 1) : Nat) : Int) + ((0 : Nat) : Int) = ((p / 16 : Nat) : Int) + ((b - 1 : Nat) : Int) by omega]
/-- the chamber r is the box -/
def BxR (s : Nat → Int) (r : Int) (L T R B : Int) : Prop := (0 ≤ L ∧ L < R ∧ R ≤ 16 ∧ 0 ≤ T ∧ T < B ∧ B ≤ 12) ∧ 0 ≤ r ∧ r ≤ 5 ∧ ∀ X Y : Int, 0 ≤ X → X ≤ 15 → 0 ≤ Y → Y ≤ 11 → (whM s X Y = r ↔ L ≤ X ∧ X < R ∧ T ≤ Y ∧ Y < B)
theorem BxR.iff {s : Nat → Int} {r L T R B : Int} (h : BxR s r L T R B) (X Y : Int) : whM s X Y = r ↔ L ≤ X ∧ X < R ∧ T ≤ Y ∧ Y < B := by
  obtain ⟨h1, h2, h3, h4⟩ := h
  by_cases c : 0 ≤ X ∧ X ≤ 15 ∧ 0 ≤ Y ∧ Y ≤ 11
  · exact h4 X Y c.1 c.2.1 c.2.2.1 c.2.2.2
  · unfold whM
    rw [if_neg c]
    omega
theorem at_iff {s : Nat → Int} {b p : Nat} {r L T R B : Int} (hb : 1 ≤ b) (h : BxR s r L T R B) (hpl : plP s b p) : icC b L T R B p ↔ atM s b p r := by
  obtain ⟨g1, g2, g3⟩ := (plP_mk hb).mp hpl
  have hi := h.iff
  obtain ⟨⟨b1, b2, b3, b4, b5, b6⟩, r1, r2, -⟩ := h
  have dis : ∀ X Y : Int, ((p % 16 : Nat) : Int) ≤ X → X < ((p % 16 : Nat) : Int) + b → ((p / 16 : Nat) : Int) ≤ Y → Y < ((p / 16 : Nat) : Int) + b → ¬ (L ≤ X ∧ X < R ∧ T ≤ Y ∧ Y < B) := by
    intro X Y k1 k2 k3 k4 z
    have := g3 (Y - ((p / 16 : Nat) : Int)).toNat (by omega) (X - ((p % 16 : Nat) : Int)).toNat (by omega)
    rw [show ((p % 16 : Nat) : Int) + ((X - ((p % 16 : Nat) : Int)).toNat : Nat) = X by omega, show ((p / 16 : Nat) : Int) + ((Y - ((p / 16 : Nat) : Int)).toNat : Nat) = Y by omega] at this
    rw [(hi X Y).mpr z] at this
    omega
  have mk : ∀ X Y : Int, ((p % 16 : Nat) : Int) ≤ X → X < ((p % 16 : Nat) : Int) + b → ((p / 16 : Nat) : Int) ≤ Y → Y < ((p / 16 : Nat) : Int) + b → bsM s X Y r → atM s b p r := by
    intro X Y k1 k2 k3 k4 z
    have hj : (Y - ((p / 16 : Nat) : Int)).toNat < b := by omega
    have hi2 : (X - ((p % 16 : Nat) : Int)).toNat < b := by omega
    generalize hJ : (Y - ((p / 16 : Nat) : Int)).toNat = J at hj
    generalize hI : (X - ((p % 16 : Nat) : Int)).toNat = I at hi2
    have hk : J * b + I < b * b := by
      have : (J + 1) * b ≤ b * b := Nat.mul_le_mul_right b hj
      rw [Nat.add_mul, Nat.one_mul] at this
      omega
    refine ⟨J * b + I, hk, ?_⟩
    rw [show (J * b + I) % b = I by rw [Nat.add_comm, Nat.add_mul_mod_self_right, Nat.mod_eq_of_lt hi2], show (J * b + I) / b = J by rw [Nat.add_comm, Nat.add_mul_div_right _ _ (by omega), Nat.div_eq_of_lt hi2, Nat.zero_add], show ((p % 16 : Nat) : Int) + (I : Nat) = X by omega, show ((p / 16 : Nat) : Int) + (J : Nat) = Y by omega]
    exact z
  constructor
  · intro z
    unfold icC at z
    unfold bsM at mk
    simp only [hi] at mk
    generalize ((p % 16 : Nat) : Int) = x at *
    generalize ((p / 16 : Nat) : Int) = y at *
    rcases z with ⟨z1, z2, z3⟩ | ⟨z0, z1, z2, z3⟩
    · by_cases c : T ≤ y
      · rcases z1 with e | e
        · exact mk x y (by omega) (by omega) (by omega) (by omega) (Or.inl (by omega))
        · exact mk (x + b - 1) y (by omega) (by omega) (by omega) (by omega) (Or.inr (Or.inl (by omega)))
      · rcases z1 with e | e
        · exact mk x T (by omega) (by omega) (by omega) (by omega) (Or.inl (by omega))
        · exact mk (x + b - 1) T (by omega) (by omega) (by omega) (by omega) (Or.inr (Or.inl (by omega)))
    · by_cases c : L ≤ x
      · rcases z1 with e | e
        · exact mk x y (by omega) (by omega) (by omega) (by omega) (Or.inr (Or.inr (Or.inl (by omega))))
        · exact mk x (y + b - 1) (by omega) (by omega) (by omega) (by omega) (Or.inr (Or.inr (Or.inr (by omega))))
      · rcases z1 with e | e
        · exact mk L y (by omega) (by omega) (by omega) (by omega) (Or.inr (Or.inr (Or.inl (by omega))))
        · exact mk L (y + b - 1) (by omega) (by omega) (by omega) (by omega) (Or.inr (Or.inr (Or.inr (by omega))))
  · rintro ⟨k, hk, z⟩
    have hdm := dm hb k
    have hd2 : ((k / b : Nat) : Int) < b := Int.ofNat_lt.mpr (Nat.div_lt_of_lt_mul hk)
    unfold bsM at z
    simp only [hi] at z
    unfold icC
    generalize ((k % b : Nat) : Int) = I at *
    generalize ((k / b : Nat) : Int) = J at *
    generalize ((p % 16 : Nat) : Int) = x at *
    generalize ((p / 16 : Nat) : Int) = y at *
    have d0 := dis (x + I) (y + J) (by omega) (by omega) (by omega) (by omega)
    rcases z with z | z | z | z
    · have d1 : x = x + I := Classical.byContradiction fun e => dis (x + I - 1) (y + J) (by omega) (by omega) (by omega) (by omega) z
      left
      omega
    · have d1 : x + b = x + I + 1 := Classical.byContradiction fun e => dis (x + I + 1) (y + J) (by omega) (by omega) (by omega) (by omega) z
      left
      omega
    · have d1 : y = y + J := Classical.byContradiction fun e => dis (x + I) (y + J - 1) (by omega) (by omega) (by omega) (by omega) z
      right
      omega
    · have d1 : y + b = y + J + 1 := Classical.byContradiction fun e => dis (x + I) (y + J + 1) (by omega) (by omega) (by omega) (by omega) z
      right
      omega
