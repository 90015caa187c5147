/-! THE LEAST WAY, by what it is -/
theorem Sol_le {s : Nat → Int} {b : Nat} {r : Int} {f g : Nat → Int} (hf : SolM s b r f) (hg : SolM s b r g) : ∀ (n p : Nat), g p < n → p < 192 → f p ≤ g p := by
  intro n
  induction n with
  | zero =>
    intro p hn hp
    have h1 := (hg.1 p hp).2.1
    exact absurd (Int.lt_of_le_of_lt h1 hn) (by decide)
  | succ n ih =>
    intro p hn hp
    by_cases hF : g p < 1000000
    · by_cases h1 : g p = 1
      · rw [h1, (hf.2.1 p hp).mpr ((hg.2.1 p hp).mp h1)]
        exact Int.le_refl _
      · obtain ⟨u, d, hu, hd, hfu, hq, he⟩ := hg.2.2.2 p hp hF h1
        have hrk : 0 ≤ rk1 s b u p := by
          have := sum_bd (f := rk1T s b u p) (a := 0) (b := 1) (b * b) (fun k _ => rk1T_bd s b u p k)
          unfold rk1
          omega
        have h2 := ih u (by omega) hu
        have h3 := hf.2.2.1 u d p hu (by omega) hd hq
        omega
    · have := (hf.1 p hp).1
      omega
theorem Sol_uq {s : Nat → Int} {b : Nat} {r : Int} {f g : Nat → Int} (hf : SolM s b r f) (hg : SolM s b r g) {p : Nat} (hp : p < 192) : f p = g p := by
  have h1 := Sol_le hf hg ((g p).toNat + 1) p (by have := (hg.1 p hp).2.1; omega) hp
  have h2 := Sol_le hg hf ((f p).toNat + 1) p (by have := (hf.1 p hp).2.1; omega) hp
  omega
theorem bsM4_cg {s : Nat → Int} {b : Nat} {one : Int} {f g : Nat → Int} : ∀ n, (∀ p, p < n → f p = g p) → bsM4 s b one f n = bsM4 s b one g n
  | 0, _ => rfl
  | n + 1, h => by
    unfold bsM4
    rw [bsM4_cg n (fun p hp => h p (by omega)), h n (by omega)]
theorem folM_cg {s : Nat → Int} {b : Nat} (hb : 1 ≤ b) {f g : Nat → Int} (h : ∀ p, p < 192 → f p = g p) {p : Nat} (hp : p < 192) : ∀ d, folM s b f p d = folM s b g p d
  | 0 => rfl
  | d + 1 => by
    have hn := nxM_bd s hb p d
    unfold folM
    rw [folM_cg hb h hp d, h p hp]
    by_cases c : nxM s b p d = -1
    · rw [if_neg (fun z => z.1 c), if_neg (fun z => z.1 c)]
    · rw [h (nxM s b p d).toNat (by omega)]
theorem ptM_cg {s : Nat → Int} {b : Nat} (hb : 1 ≤ b) {f g : Nat → Int} (h : ∀ p, p < 192 → f p = g p) {p0 : Int} : ∀ k, (∀ j, j < k → ∃ q : Nat, ptM s b g p0 j = q ∧ q < 192) → ptM s b f p0 k = ptM s b g p0 k
  | 0, _ => rfl
  | k + 1, hk => by
    have ih := ptM_cg hb h k (fun j hj => hk j (by omega))
    obtain ⟨q, hq, hq2⟩ := hk k (by omega)
    unfold ptM
    rw [ih, hq, Int.toNat_natCast, folM_cg hb h hq2]
/-- the least way's rests, first place and length, places, cost -/
def fW (s : Nat → Int) (one other : Nat) : Nat → Int := (rsM s (bdM s one other) (other : Nat) (fun _ => 0) (fun _ => 0)).2
def bW (s : Nat → Int) (one other : Nat) : Int × Int := bsM4 s (bdM s one other) (one : Nat) (fW s one other) 192
def isW (s : Nat → Int) (one other : Nat) : Int := if (bW s one other).1 = -1 then 0 else 1
def nW (s : Nat → Int) (one other : Nat) : Nat := if (bW s one other).1 = -1 then 0 else (fW s one other (bW s one other).1.toNat % 1000).toNat
def pW (s : Nat → Int) (one other k : Nat) : Int := ptM s (bdM s one other) (fW s one other) (bW s one other).1 k
def cW (s : Nat → Int) (one other : Nat) : Int := (bW s one other).2 / 1000
/-- what the reference's own arrays must hold -/
def MdOK (A : Nat → Nat → Int) : Prop := A 6 = axM ∧ A 7 = ayM ∧ RB (A 8) ∧ TB (A 9)
def mW (m s : Nat → Int) (one other : Nat) : Nat → Int := upI (upI (upI (upI m 18 (bdM s one other : Nat)) 16 0) 17 (cW s one other)) 16 (nW s one other : Nat)
theorem fW_sol {s : Nat → Int} {one other : Nat} (hw : 0 ≤ wkM s one other ∧ wkM s one other ≤ 3) : SolM s (bdM s one other) (other : Nat) (fW s one other) := SolM_rs (bdM_bd hw).1 (bdM_bd hw).2 _ _ _
theorem pW_ok {s : Nat → Int} {one other : Nat} (hw : 0 ≤ wkM s one other ∧ wkM s one other ≤ 3) : ∀ k, k < nW s one other → ∃ q : Nat, pW s one other k = q ∧ q < 192 ∧ fW s one other q < 1000000 ∧ fW s one other q % 1000 = (nW s one other : Int) - k := by
  intro k hk
  have hs := fW_sol hw
  have hb := bdM_bd hw
  have ho := bsM4_ok (s := s) (b := bdM s one other) (one := (one : Nat)) (f := fW s one other) 192
  have hbd := bsM4_bd (s := s) (b := bdM s one other) hb.2 (one := (one : Nat)) (f := fW s one other) (rsM_bd hb.2 _ (fun k => ⟨Int.le_refl _, by decide⟩) (fun k => ⟨Int.le_refl _, by decide⟩)).1 192
  unfold nW at hk ⊢
  unfold pW
  unfold bW at hk ⊢
  generalize bsM4 s (bdM s one other) (one : Nat) (fW s one other) 192 = B at *
  by_cases h1 : B.1 = -1
  · rw [if_pos h1] at hk
    omega
  · rw [if_neg h1] at hk ⊢
    obtain ⟨p0, hp0⟩ : ∃ p0 : Nat, B.1 = p0 := ⟨B.1.toNat, by omega⟩
    have ho' := (ho h1).1
    rw [hp0, Int.toNat_natCast] at ho' hk ⊢
    have hm := Sol_mod' hs (show p0 < 192 by omega) ho'
    exact ptM_ok hb.1 (Sol_PF hb.1 hb.2 hs) (by omega) ho' (by omega) k hk
section WAY
variable {G : Nat → Nat} {σ : AS} {Q : (Option AV ⊕ Nat) → AS → Prop} {M a : Nat} {m : Nat → Int} {A : Nat → Nat → Int} {s : Nat → Int}
theorem s_isWay {one other : Nat} (ha : SAt σ M A a s) (hs : SOK s) (hG : G 0 ≤ M) (ho : one < 6) (ho2 : other < 6) (hw : 0 ≤ wkM s one other ∧ wkM s one other ≤ 3) (hA : MdOK A)
    (hQ : ∀ A' : Nat → Nat → Int, MdOK A' → (∀ k, k ≠ 8 → k ≠ 9 → k ≠ 10 → A' k = A k) → (∀ k, k < nW s one other → A' 10 k = pW s one other k) → Q (.inl (some (vI (isW s one other)))) (setMd σ M (mW m s one other) A')) :
    CW G k_Model_isWay [vR M, vR a, vI (one : Nat), vI (other : Nat)] (setMd σ M m A) Q := by
  obtain ⟨hA6, hA7, hf, ht⟩ := hA
  have hb := bdM_bd hw
  obtain ⟨t, f, he⟩ : ∃ t f, rsM s (bdM s one other) (other : Nat) (A 8) (A 9) = (t, f) := ⟨_, _, rfl⟩
  have hsol : SolM s (bdM s one other) (other : Nat) f := by
    have := SolM_rs (s := s) hb.1 hb.2 (other : Nat) (A 8) (A 9)
    rw [he] at this
    exact this
  have hfb := rsM_bd (s := s) hb.2 (other : Nat) hf ht
  rw [he] at hfb
  have heq : ∀ p, p < 192 → f p = fW s one other p := fun p hp => Sol_uq hsol (fW_sol hw) hp
  have hB : bsM4 s (bdM s one other) (one : Nat) f 192 = bW s one other := bsM4_cg 192 heq
  have hBb := bsM4_bd (s := s) (one := (one : Nat)) hb.2 hfb.1 192
  have hBo := bsM4_ok (s := s) (b := bdM s one other) (one := (one : Nat)) (f := f) 192
  rw [hB] at hBb hBo
  have hN : (nW s one other : Int) = if (bW s one other).1 = -1 then 0 else f (bW s one other).1.toNat % 1000 := by
    unfold nW
    by_cases h1 : (bW s one other).1 = -1
    · rw [if_pos h1, if_pos h1]
      rfl
    · rw [if_neg h1, if_neg h1, ← heq _ (by omega)]
      have := (Sol_mod' hsol (show (bW s one other).1.toNat < 192 by omega) (hBo h1).1).1
      omega
  rw [s_Model_isWay ha hs hG ho ho2 hw hA6 hA7 hf ht he (Sol_PF hb.1 hb.2 hsol) hB hN]
  refine hQ _ ⟨hA6, hA7, hfb.1, hfb.2⟩ (fun k h1 h2 h3 => ?_) (fun k hk => ?_)
  · rw [upA_at, if_neg h3, upA_at, if_neg h2, upA_at, if_neg h1]
  · show (if k < nW s one other then ptM s (bdM s one other) f (bW s one other).1 k else A 10 k) = _
    rw [if_pos hk]
    exact ptM_cg hb.1 heq k (fun j hj => by
      obtain ⟨q, h1, h2, -⟩ := pW_ok hw j (by omega)
      exact ⟨q, h1, h2⟩)
end WAY
