/-! RUNS BY THEIR ENDS: WP: the run comes to an end with Q -/
def WP (G : Nat → Nat) (i pc : Nat) (ls : AL) (st : List AV) (σ : AS) (Q : (Option AV ⊕ Nat) → AS → Prop) : Prop := ∃ (n : Nat) (r : Option AV ⊕ Nat) (σ' : AS), am_run G n i pc ls st σ = some (r, σ') ∧ Q r σ'
def CW (G : Nat → Nat) (j : Nat) (as : List AV) (σ : AS) (Q : (Option AV ⊕ Nat) → AS → Prop) : Prop := (am_flat as).length ≤ mX j ∧ WP G j 0 (am_ini as (mX j)) [] σ Q
/-- what is done with a callee's end -/
def kR (f : Option AV → AS → Prop) (g : Nat → AS → Prop) : (Option AV ⊕ Nat) → AS → Prop := fun r σ => match r with
  | .inl v => f v σ
  | .inr x => g x σ
theorem kR_l (f : Option AV → AS → Prop) (g : Nat → AS → Prop) (v : Option AV) (σ : AS) : kR f g (.inl v) σ = f v σ := rfl
theorem kR_r (f : Option AV → AS → Prop) (g : Nat → AS → Prop) (x : Nat) (σ : AS) : kR f g (.inr x) σ = g x σ := rfl
theorem am_run_mono {G : Nat → Nat} : ∀ (n k : Nat) {i pc : Nat} {ls : AL} {st : List AV} {σ : AS} {r : ARes}, am_run G n i pc ls st σ = some r → am_run G (n + k) i pc ls st σ = some r
  | 0, k, i, pc, ls, st, σ, r, h => by
    unfold am_run at h
    cases h
  | n + 1, k, i, pc, ls, st, σ, r, h => by
    rw [show n + 1 + k = (n + k) + 1 by omega]
    unfold am_run at h ⊢
    cases hs : am_step G i pc ls st σ with
    | none =>
      rw [hs] at h
      cases h
    | some z =>
      rw [hs] at h
      rcases z with ⟨pc', ls', st', σ'⟩ | ⟨j, as, r9⟩ | v | ⟨x, σ'⟩
      · exact am_run_mono n k h
      · dsimp only at h ⊢
        by_cases hfl : (am_flat as).length ≤ mX j
        · rw [if_pos hfl] at h ⊢
          cases hr : am_run G n j 0 (am_ini as (mX j)) [] σ with
          | none =>
            rw [hr] at h
            cases h
          | some z =>
            rw [hr] at h
            rw [am_run_mono n k hr]
            rcases z with ⟨v | x, σ1⟩
            · exact am_run_mono n k h
            · dsimp only at h ⊢
              cases hH : mH i with
              | nil =>
                rw [hH] at h
                exact h
              | cons h9 t9 =>
                rw [hH] at h
                dsimp only at h ⊢
                cases hz : am_hnd i pc x ls (h9 :: t9) with
                | none =>
                  rw [hz] at h
                  cases h
                | some z =>
                  rw [hz] at h
                  exact am_run_mono n k h
        · rw [if_neg hfl] at h
          cases h
      · exact h
      · exact h
section QW
variable {G : Nat → Nat} {i pc len : Nat} {ls : AL} {st : List AV} {σ : AS} {Q : (Option AV ⊕ Nat) → AS → Prop} {ins : Instr}
theorem am_step_of (d : decode (mB i) pc = .ok (ins, len)) : am_step G i pc ls st σ = am_ins G i pc len ls st σ ins := by
  unfold am_step
  rw [d]
theorem wp_next {pc' : Nat} {ls' : AL} {st' : List AV} {σ' : AS} (h : am_step G i pc ls st σ = some (.inl (pc', (ls', (st', σ'))))) : WP G i pc ls st σ Q = WP G i pc' ls' st' σ' Q := by
  apply propext
  constructor
  · rintro ⟨n, r, s', h1, h2⟩
    cases n with
    | zero => unfold am_run at h1; cases h1
    | succ n =>
      unfold am_run at h1
      rw [h] at h1
      exact ⟨n, r, s', h1, h2⟩
  · rintro ⟨n, r, s', h1, h2⟩
    refine ⟨n + 1, r, s', ?_, h2⟩
    unfold am_run
    rw [h]
    exact h1
theorem wp_none (h : am_step G i pc ls st σ = none) : WP G i pc ls st σ Q = False := by
  apply propext
  constructor
  · rintro ⟨n, r, s', h1, h2⟩
    cases n with
    | zero => unfold am_run at h1; cases h1
    | succ n =>
      unfold am_run at h1
      rw [h] at h1
      cases h1
  · exact False.elim
theorem wp_ret {v : Option AV} (h : am_step G i pc ls st σ = some (.inr (.inr (.inl v)))) : WP G i pc ls st σ Q = Q (.inl v) σ := by
  apply propext
  constructor
  · rintro ⟨n, r, s', h1, h2⟩
    cases n with
    | zero => unfold am_run at h1; cases h1
    | succ n =>
      unfold am_run at h1
      rw [h] at h1
      cases h1
      exact h2
  · intro h2
    refine ⟨1, _, _, ?_, h2⟩
    unfold am_run
    rw [h]
theorem wp_throw {x : Nat} {σ' : AS} (h : am_step G i pc ls st σ = some (.inr (.inr (.inr (x, σ'))))) : WP G i pc ls st σ Q = Q (.inr x) σ' := by
  apply propext
  constructor
  · rintro ⟨n, r, s', h1, h2⟩
    cases n with
    | zero => unfold am_run at h1; cases h1
    | succ n =>
      unfold am_run at h1
      rw [h] at h1
      cases h1
      exact h2
  · intro h2
    refine ⟨1, _, _, ?_, h2⟩
    unfold am_run
    rw [h]
def am_hk (i pc : Nat) (ls : AL) (x : Nat) (P : Nat → AL → Prop) (N : Prop) : Prop := match mH i with
  | [] => N
  | h :: t => match am_hnd i pc x ls (h :: t) with
    | some (pc', ls') => P pc' ls'
    | none => False
theorem wp_callH {j : Nat} {as r : List AV} (h : am_step G i pc ls st σ = some (.inr (.inl (j, (as, r))))) : WP G i pc ls st σ Q = CW G j as σ (kR (fun v σ' => WP G i (pc + 3) ls (v.toList ++ r) σ' Q) (fun x σ' => am_hk i pc ls x (fun pc' ls' => WP G i pc' ls' [] σ' Q) (Q (.inr x) σ'))) := by
  apply propext
  constructor
  · rintro ⟨n, r9, s', h1, h2⟩
    cases n with
    | zero => unfold am_run at h1; cases h1
    | succ n =>
      unfold am_run at h1
      rw [h] at h1
      dsimp only at h1
      split at h1
      · rename_i hfl
        refine ⟨hfl, ?_⟩
        split at h1
        · cases h1
        · rename_i v s1 hr
          exact ⟨n, _, _, hr, n, r9, s', h1, h2⟩
        · rename_i x s1 hr
          refine ⟨n, _, _, hr, ?_⟩
          show am_hk i pc ls x _ _
          unfold am_hk
          split at h1
          · rename_i hH
            rw [hH]
            cases h1
            exact h2
          · rename_i hH
            rw [hH]
            dsimp only
            split at h1
            · rename_i hz
              rw [hz]
              exact ⟨n, r9, s', h1, h2⟩
            · cases h1
      · cases h1
  · rintro ⟨hfl, n, r1, s1, h1, h2⟩
    cases r1 with
    | inl v =>
      obtain ⟨k, r9, s', h3, h4⟩ := h2
      refine ⟨n + k + 1, r9, s', ?_, h4⟩
      unfold am_run
      rw [h]
      dsimp only
      rw [if_pos hfl, am_run_mono n k h1]
      dsimp only
      rw [show n + k = k + n by omega]
      exact am_run_mono k n h3
    | inr x =>
      have h2' : am_hk i pc ls x (fun pc' ls' => WP G i pc' ls' [] s1 Q) (Q (.inr x) s1) := h2
      unfold am_hk at h2'
      split at h2'
      · rename_i hH
        refine ⟨n + 1, _, _, ?_, h2'⟩
        unfold am_run
        rw [h]
        dsimp only
        rw [if_pos hfl, h1]
        dsimp only
        rw [hH]
      · rename_i hH
        split at h2'
        · rename_i hz
          obtain ⟨k, r9, s', h3, h4⟩ := h2'
          refine ⟨n + k + 1, r9, s', ?_, h4⟩
          unfold am_run
          rw [h]
          dsimp only
          rw [if_pos hfl, am_run_mono n k h1]
          dsimp only
          rw [hH]
          dsimp only
          rw [hz]
          dsimp only
          rw [show n + k = k + n by omega]
          exact am_run_mono k n h3
        · exact h2'.elim
theorem wp_call {j : Nat} {as r : List AV} (h : am_step G i pc ls st σ = some (.inr (.inl (j, (as, r))))) (hH : mH i = []) : WP G i pc ls st σ Q = CW G j as σ (kR (fun v σ' => WP G i (pc + 3) ls (v.toList ++ r) σ' Q) (fun x σ' => Q (.inr x) σ')) := by
  rw [wp_callH h]
  unfold am_hk
  rw [hH]
theorem CW.mono {j : Nat} {as : List AV} {P : (Option AV ⊕ Nat) → AS → Prop} (h : CW G j as σ P) (k : ∀ r s, P r s → Q r s) : CW G j as σ Q := by
  obtain ⟨h1, n, r, s, h2, h3⟩ := h
  exact ⟨h1, n, r, s, h2, k r s h3⟩
theorem WP.mono {P : (Option AV ⊕ Nat) → AS → Prop} (h : WP G i pc ls st σ P) (k : ∀ r s, P r s → Q r s) : WP G i pc ls st σ Q := by
  obtain ⟨n, r, s, h2, h3⟩ := h
  exact ⟨n, r, s, h2, k r s h3⟩
/-- the run has one end -/
theorem CW.det {j : Nat} {as : List AV} {r0 : Option AV ⊕ Nat} {s0 : AS} (h : CW G j as σ (fun r s => r = r0 ∧ s = s0)) : CW G j as σ Q = Q r0 s0 := by
  apply propext
  constructor
  · rintro ⟨-, n, r, s, h2, h3⟩
    obtain ⟨-, k, r', s', h4, rfl, rfl⟩ := h
    have e1 := am_run_mono n k h2
    have e2 := am_run_mono k n h4
    rw [show k + n = n + k by omega, e1] at e2
    cases e2
    exact h3
  · intro hq
    exact h.mono (by rintro r s ⟨rfl, rfl⟩; exact hq)
/-- the rows of one instruction -/
theorem q_next {pc' : Nat} {ls' : AL} {st' : List AV} {σ' : AS} (d : decode (mB i) pc = .ok (ins, len)) (h : am_ins G i pc len ls st σ ins = some (.inl (pc', (ls', (st', σ'))))) : WP G i pc ls st σ Q = WP G i pc' ls' st' σ' Q := wp_next ((am_step_of d).trans h)
theorem q_ret {v : Option AV} (d : decode (mB i) pc = .ok (ins, len)) (h : am_ins G i pc len ls st σ ins = some (.inr (.inr (.inl v)))) : WP G i pc ls st σ Q = Q (.inl v) σ := wp_ret ((am_step_of d).trans h)
theorem q_throw {x : Nat} {σ' : AS} (d : decode (mB i) pc = .ok (ins, len)) (h : am_ins G i pc len ls st σ ins = some (.inr (.inr (.inr (x, σ'))))) : WP G i pc ls st σ Q = Q (.inr x) σ' := wp_throw ((am_step_of d).trans h)
theorem q_call {j : Nat} {as r : List AV} (d : decode (mB i) pc = .ok (ins, len)) (h : am_ins G i pc len ls st σ ins = some (.inr (.inl (j, (as, r))))) (hH : mH i = []) : WP G i pc ls st σ Q = CW G j as σ (kR (fun v σ' => WP G i (pc + 3) ls (v.toList ++ r) σ' Q) (fun x σ' => Q (.inr x) σ')) := wp_call ((am_step_of d).trans h) hH
theorem q_callH {j : Nat} {as r : List AV} (d : decode (mB i) pc = .ok (ins, len)) (h : am_ins G i pc len ls st σ ins = some (.inr (.inl (j, (as, r))))) : WP G i pc ls st σ Q = CW G j as σ (kR (fun v σ' => WP G i (pc + 3) ls (v.toList ++ r) σ' Q) (fun x σ' => am_hk i pc ls x (fun pc' ls' => WP G i pc' ls' [] σ' Q) (Q (.inr x) σ'))) := wp_callH ((am_step_of d).trans h)
/-- a row under a condition -/
theorem q_if {z : Act} {C : Prop} [hC : Decidable C] {E : Prop} (hs : am_step G i pc ls st σ = if C then some z else none) (h : am_step G i pc ls st σ = some z → WP G i pc ls st σ Q = E) : WP G i pc ls st σ Q = (C ∧ E) := by
  by_cases hc : C
  · rw [if_pos hc] at hs
    rw [h hs]
    simp [hc]
  · rw [if_neg hc] at hs
    rw [wp_none hs]
    simp [hc]
def kP (ls : AL) (k : Nat) : Prop := am_pre ls k = true
theorem kP_0 (ls : AL) : kP ls 0 = True := by simp [kP, am_pre]
theorem kP_i (x : Int) (ls : AL) : kP (some (vI x) :: ls) 1 = True := by simp [kP, am_pre, am_get, vI, am_cat]
theorem kP_r (x : Nat) (ls : AL) : kP (some (vR x) :: ls) 1 = True := by simp [kP, am_pre, am_get, vR, am_cat]
theorem kP_o (x : Option Nat) (ls : AL) : kP (some (.inr (.inr (.inr x))) :: ls) 1 = True := by simp [kP, am_pre, am_get, am_cat]
theorem kP_n (ls : AL) : kP (none :: ls) 1 = True := by simp [kP, am_pre, am_get]
theorem kP_s (a : Option AV) (ls : AL) (k : Nat) : kP (a :: ls) (k + 2) = kP ls (k + 1) := by simp [kP, am_pre, am_get]
theorem q_st1 {k n : Nat} {v : AV} {r : List AV} (d : decode (mB i) pc = .ok (ins, len)) (hk : k < ls.length) (h : am_ins G i pc len ls (v :: r) σ ins = am_sto n r σ (am_set1 ls k v)) : WP G i pc ls (v :: r) σ Q = (kP ls k ∧ WP G i n (ls.set k (some v)) r σ Q) := by
  refine q_if (C := kP ls k) (hC := inferInstanceAs (Decidable (am_pre ls k = true))) (z := .inl (n, (ls.set k (some v), (r, σ)))) ?_ wp_next
  rw [am_step_of d, h]
  unfold am_set1
  by_cases hp : am_pre ls k = true
  · rw [if_pos (c := kP ls k) hp, if_pos (by simp [hk, hp])]
    rfl
  · rw [if_neg (c := kP ls k) hp, if_neg (by simp [hp])]
    rfl
theorem q_st2 {k n : Nat} {v : AV} {r : List AV} (d : decode (mB i) pc = .ok (ins, len)) (hk : k + 1 < ls.length) (h : am_ins G i pc len ls (v :: r) σ ins = am_sto n r σ (am_set2 ls k v)) : WP G i pc ls (v :: r) σ Q = (kP ls k ∧ WP G i n ((ls.set k (some v)).set (k + 1) none) r σ Q) := by
  refine q_if (C := kP ls k) (hC := inferInstanceAs (Decidable (am_pre ls k = true))) (z := .inl (n, ((ls.set k (some v)).set (k + 1) none, (r, σ)))) ?_ wp_next
  rw [am_step_of d, h]
  unfold am_set2
  by_cases hp : am_pre ls k = true
  · rw [if_pos (c := kP ls k) hp, if_pos (by simp [hk, hp])]
    rfl
  · rw [if_neg (c := kP ls k) hp, if_neg (by simp [hp])]
    rfl
theorem q_inc {k n : Nat} {v : AV} (d : decode (mB i) pc = .ok (ins, len)) (hk : k < ls.length) (h : am_ins G i pc len ls st σ ins = am_sto n st σ (am_set1 ls k v)) : WP G i pc ls st σ Q = (kP ls k ∧ WP G i n (ls.set k (some v)) st σ Q) := by
  refine q_if (C := kP ls k) (hC := inferInstanceAs (Decidable (am_pre ls k = true))) (z := .inl (n, (ls.set k (some v), (st, σ)))) ?_ wp_next
  rw [am_step_of d, h]
  unfold am_set1
  by_cases hp : am_pre ls k = true
  · rw [if_pos (c := kP ls k) hp, if_pos (by simp [hk, hp])]
    rfl
  · rw [if_neg (c := kP ls k) hp, if_neg (by simp [hp])]
    rfl
theorem q_cnd {C : Prop} [hC : Decidable C] {pc' : Nat} {ls' : AL} {st' : List AV} {σ' : AS} (d : decode (mB i) pc = .ok (ins, len)) (h : am_ins G i pc len ls st σ ins = if C then some (.inl (pc', (ls', (st', σ')))) else none) : WP G i pc ls st σ Q = (C ∧ WP G i pc' ls' st' σ' Q) := q_if ((am_step_of d).trans h) wp_next
theorem q_div {a b : Int} {r : List AV} (d : decode (mB i) pc = .ok (.idiv, 1)) : WP G i pc ls (vI b :: vI a :: r) σ Q = ((0 ≤ a ∧ a ≤ 2147483647 ∧ 0 < b ∧ b ≤ 2147483647) ∧ WP G i (pc + 1) ls (vI (a / b) :: r) σ Q) := by
  refine q_cnd d ?_
  show (match (if 0 ≤ a ∧ a ≤ 2147483647 ∧ 0 < b ∧ b ≤ 2147483647 then some (a / b) else none) with
    | some x => aN (pc + 1) ls (.inl x :: r) σ
    | none => none) = _
  split <;> rename_i h <;> split at h <;> first | (cases h; done) | (cases h; rw [if_pos (by assumption)]; rfl) | (rw [if_neg (by assumption)])
theorem q_rem {a b : Int} {r : List AV} (d : decode (mB i) pc = .ok (.irem, 1)) : WP G i pc ls (vI b :: vI a :: r) σ Q = ((0 ≤ a ∧ a ≤ 2147483647 ∧ 0 < b ∧ b ≤ 2147483647) ∧ WP G i (pc + 1) ls (vI (a % b) :: r) σ Q) := by
  refine q_cnd d ?_
  show (match (if 0 ≤ a ∧ a ≤ 2147483647 ∧ 0 < b ∧ b ≤ 2147483647 then some (a % b) else none) with
    | some x => aN (pc + 1) ls (.inl x :: r) σ
    | none => none) = _
  split <;> rename_i h <;> split at h <;> first | (cases h; done) | (cases h; rw [if_pos (by assumption)]; rfl) | (rw [if_neg (by assumption)])
theorem q_br {C P : Prop} [hC : Decidable C] {q : Bool} {t f : Nat} {r : List AV} (hq : q = true ↔ P) (hs : am_step G i pc ls st σ = if C then (if q = true then aN t ls r σ else aN f ls r σ) else none) : WP G i pc ls st σ Q = (C ∧ (P → WP G i t ls r σ Q) ∧ (¬ P → WP G i f ls r σ Q)) := by
  by_cases hc : C
  · rw [if_pos hc] at hs
    by_cases hq1 : q = true
    · rw [if_pos hq1] at hs
      have hP := hq.mp hq1
      rw [wp_next hs]
      simp [hc, hP]
    · rw [if_neg hq1] at hs
      have hP : ¬ P := fun z => hq1 (hq.mpr z)
      rw [wp_next hs]
      simp [hc, hP]
  · rw [if_neg hc] at hs
    rw [wp_none hs]
    simp [hc]
theorem q_icmp {c : ClassFile.Cond} {off : Int} {a b : Int} {t : Nat} {P : Prop} {r : List AV} (d : decode (mB i) pc = .ok (.if_icmp c off, 3)) (h0 : 0 ≤ (pc : Int) + off) (ht : am_tgt pc off = t) (hP : am_cmp c a b = true ↔ P) : WP G i pc ls (vI b :: vI a :: r) σ Q = ((inR a ∧ inR b) ∧ (P → WP G i t ls r σ Q) ∧ (¬ P → WP G i (pc + 3) ls r σ Q)) := by
  subst ht
  refine q_br hP ((am_step_of d).trans ?_)
  show (if 3 = 3 ∧ 0 ≤ (pc : Int) + off then _ else _) = _
  rw [if_pos ⟨rfl, h0⟩]
theorem q_ifc {c : ClassFile.Cond} {off : Int} {a : Int} {t : Nat} {P : Prop} {r : List AV} (d : decode (mB i) pc = .ok (.ifCond c off, 3)) (h0 : 0 ≤ (pc : Int) + off) (ht : am_tgt pc off = t) (hP : am_cmp c a 0 = true ↔ P) : WP G i pc ls (vI a :: r) σ Q = (inR a ∧ (P → WP G i t ls r σ Q) ∧ (¬ P → WP G i (pc + 3) ls r σ Q)) := by
  subst ht
  refine q_br hP ((am_step_of d).trans ?_)
  show (if 3 = 3 ∧ 0 ≤ (pc : Int) + off then _ else _) = _
  rw [if_pos ⟨rfl, h0⟩]
theorem cp_eq {a b : Int} : am_cmp .eq a b = true ↔ a = b := by simp [am_cmp]
theorem cp_ne {a b : Int} : am_cmp .ne a b = true ↔ a ≠ b := by simp [am_cmp]
theorem cp_lt {a b : Int} : am_cmp .lt a b = true ↔ a < b := by simp [am_cmp]
theorem cp_ge {a b : Int} : am_cmp .ge a b = true ↔ b ≤ a := by simp [am_cmp]
theorem cp_gt {a b : Int} : am_cmp .gt a b = true ↔ b < a := by simp [am_cmp]
theorem cp_le {a b : Int} : am_cmp .le a b = true ↔ a ≤ b := by simp [am_cmp]
/-- reading and writing the heap, as questions to one cell -/
def kLen (o : Option AO) (K : Int → Prop) : Prop := match o with
  | some (.inr (.inl (_, n, _))) => K n
  | some (.inr (.inr (.inl (n, _)))) => K n
  | some (.inr (.inr (.inr (n, _)))) => K n
  | _ => False
theorem kLen_I (t n : Nat) (f : Nat → Int) (K : Int → Prop) : kLen (some (oI t n f)) K = K n := rfl
theorem kLen_L (n : Nat) (f : Nat → Int64) (K : Int → Prop) : kLen (some (oL n f)) K = K n := rfl
theorem kLen_R (n : Nat) (f : Nat → Option Nat) (K : Int → Prop) : kLen (some (oR n f)) K = K n := rfl
theorem q_len {a : Nat} {r : List AV} (d : decode (mB i) pc = .ok (.arraylength, 1)) : WP G i pc ls (vR a :: r) σ Q = kLen (σ.1 a) (fun n => WP G i (pc + 1) ls (vI n :: r) σ Q) := by
  unfold kLen
  split
  · rename_i h
    refine wp_next ((am_step_of d).trans ?_)
    show am_alen pc ls (.inr (.inr (.inr (some a))) :: r) σ = _
    unfold am_alen
    dsimp only
    rw [h]
    rfl
  · rename_i h
    refine wp_next ((am_step_of d).trans ?_)
    show am_alen pc ls (.inr (.inr (.inr (some a))) :: r) σ = _
    unfold am_alen
    dsimp only
    rw [h]
    rfl
  · rename_i h
    refine wp_next ((am_step_of d).trans ?_)
    show am_alen pc ls (.inr (.inr (.inr (some a))) :: r) σ = _
    unfold am_alen
    dsimp only
    rw [h]
    rfl
  · rename_i h1 h2 h3
    refine wp_none ((am_step_of d).trans ?_)
    show am_alen pc ls (.inr (.inr (.inr (some a))) :: r) σ = _
    unfold am_alen
    dsimp only
    split
    · exact (h1 _ _ _ (by assumption)).elim
    · exact (h2 _ _ (by assumption)).elim
    · exact (h3 _ _ (by assumption)).elim
    · rfl
def kLdI (o : Option AO) (p : Nat → Bool) (j : Int) (K : Int → Prop) : Prop := match o with
  | some (.inr (.inl (t, n, f))) => (p t = true ∧ 0 ≤ j ∧ j < n ∧ j ≤ 2147483647) ∧ K (f j.toNat)
  | _ => False
def kInt : Nat → Bool := fun t => t == 0 || t == 2
def kByt : Nat → Bool := fun t => t == 1 || t == 3
theorem kLdI_0 (n : Nat) (f : Nat → Int) (j : Int) (K : Int → Prop) : kLdI (some (oI 0 n f)) kInt j K = ((0 ≤ j ∧ j < n ∧ j ≤ 2147483647) ∧ K (f j.toNat)) := by
  show ((kInt 0 = true ∧ _) ∧ _) = _
  simp [kInt]
theorem kLdI_2 (n : Nat) (f : Nat → Int) (j : Int) (K : Int → Prop) : kLdI (some (oI 2 n f)) kInt j K = ((0 ≤ j ∧ j < n ∧ j ≤ 2147483647) ∧ K (f j.toNat)) := by
  show ((kInt 2 = true ∧ _) ∧ _) = _
  simp [kInt]
theorem kLdI_1 (n : Nat) (f : Nat → Int) (j : Int) (K : Int → Prop) : kLdI (some (oI 1 n f)) kByt j K = ((0 ≤ j ∧ j < n ∧ j ≤ 2147483647) ∧ K (f j.toNat)) := by
  show ((kByt 1 = true ∧ _) ∧ _) = _
  simp [kByt]
theorem kLdI_3 (n : Nat) (f : Nat → Int) (j : Int) (K : Int → Prop) : kLdI (some (oI 3 n f)) kByt j K = ((0 ≤ j ∧ j < n ∧ j ≤ 2147483647) ∧ K (f j.toNat)) := by
  show ((kByt 3 = true ∧ _) ∧ _) = _
  simp [kByt]
theorem q_ldI {a : Nat} {j : Int} {r : List AV} {p : Nat → Bool} (d : decode (mB i) pc = .ok (ins, 1)) (h : am_ins G i pc 1 ls (vI j :: vR a :: r) σ ins = am_aldI pc ls (vI j :: vR a :: r) σ p) : WP G i pc ls (vI j :: vR a :: r) σ Q = kLdI (σ.1 a) p j (fun x => WP G i (pc + 1) ls (vI x :: r) σ Q) := by
  unfold kLdI
  split
  · rename_i t n f ho
    refine q_cnd d (h.trans ?_)
    show am_aldI pc ls (.inl j :: .inr (.inr (.inr (some a))) :: r) σ p = _
    unfold am_aldI
    dsimp only
    rw [ho]
    rfl
  · rename_i h1
    refine wp_none ((am_step_of d).trans (h.trans ?_))
    show am_aldI pc ls (.inl j :: .inr (.inr (.inr (some a))) :: r) σ p = _
    unfold am_aldI
    dsimp only
    split
    · exact (h1 _ _ _ (by assumption)).elim
    · rfl
def kStI (σ : AS) (a : Nat) (g : Nat) (q : Nat) (j x : Int) (o : Option AO) (K : AS → Prop) : Prop := match o with
  | some (.inr (.inl (t, n, f))) => (t = q ∧ g ≤ a ∧ 0 ≤ j ∧ j < n ∧ j ≤ 2147483647 ∧ (q = 0 ∨ x = 0 ∨ x = 1)) ∧ K (am_st σ a (oI t n (upI f j.toNat x)))
  | _ => False
theorem kStI_0 (σ : AS) (a g n : Nat) (j x : Int) (f : Nat → Int) (K : AS → Prop) : kStI σ a g 0 j x (some (oI 0 n f)) K = ((g ≤ a ∧ 0 ≤ j ∧ j < n ∧ j ≤ 2147483647) ∧ K (am_st σ a (oI 0 n (upI f j.toNat x)))) := by
  show ((0 = 0 ∧ _) ∧ _) = _
  simp
theorem kStI_1 (σ : AS) (a g n : Nat) (j x : Int) (f : Nat → Int) (K : AS → Prop) : kStI σ a g 1 j x (some (oI 1 n f)) K = ((g ≤ a ∧ 0 ≤ j ∧ j < n ∧ j ≤ 2147483647 ∧ (x = 0 ∨ x = 1)) ∧ K (am_st σ a (oI 1 n (upI f j.toNat x)))) := by
  show ((1 = 1 ∧ _) ∧ _) = _
  simp
theorem q_stI {a q : Nat} {j x : Int} {r : List AV} (d : decode (mB i) pc = .ok (ins, 1)) (h : am_ins G i pc 1 ls (vI x :: vI j :: vR a :: r) σ ins = am_astI G pc ls (vI x :: vI j :: vR a :: r) σ q) : WP G i pc ls (vI x :: vI j :: vR a :: r) σ Q = kStI σ a (G 0) q j x (σ.1 a) (fun σ' => WP G i (pc + 1) ls r σ' Q) := by
  unfold kStI
  split
  · rename_i t n f ho
    refine q_cnd d (h.trans ?_)
    show am_astI G pc ls (.inl x :: .inl j :: .inr (.inr (.inr (some a))) :: r) σ q = _
    unfold am_astI
    dsimp only
    rw [ho]
    rfl
  · rename_i h1
    refine wp_none ((am_step_of d).trans (h.trans ?_))
    show am_astI G pc ls (.inl x :: .inl j :: .inr (.inr (.inr (some a))) :: r) σ q = _
    unfold am_astI
    dsimp only
    split
    · exact (h1 _ _ _ (by assumption)).elim
    · rfl
def kLdL (o : Option AO) (j : Int) (K : Int64 → Prop) : Prop := match o with
  | some (.inr (.inr (.inl (n, f)))) => (0 ≤ j ∧ j < n ∧ j ≤ 2147483647) ∧ K (f j.toNat)
  | _ => False
theorem kLdL_e (n : Nat) (f : Nat → Int64) (j : Int) (K : Int64 → Prop) : kLdL (some (oL n f)) j K = ((0 ≤ j ∧ j < n ∧ j ≤ 2147483647) ∧ K (f j.toNat)) := rfl
theorem q_ldL {a : Nat} {j : Int} {r : List AV} (d : decode (mB i) pc = .ok (.laload, 1)) : WP G i pc ls (vI j :: vR a :: r) σ Q = kLdL (σ.1 a) j (fun x => WP G i (pc + 1) ls (vL x :: r) σ Q) := by
  unfold kLdL
  split
  · rename_i n f ho
    refine q_cnd d ?_
    show am_aldL pc ls (.inl j :: .inr (.inr (.inr (some a))) :: r) σ = _
    unfold am_aldL
    dsimp only
    rw [ho]
    rfl
  · rename_i h1
    refine wp_none ((am_step_of d).trans ?_)
    show am_aldL pc ls (.inl j :: .inr (.inr (.inr (some a))) :: r) σ = _
    unfold am_aldL
    dsimp only
    split
    · exact (h1 _ _ (by assumption)).elim
    · rfl
def kStL (σ : AS) (a g : Nat) (j : Int) (x : Int64) (o : Option AO) (K : AS → Prop) : Prop := match o with
  | some (.inr (.inr (.inl (n, f)))) => (g ≤ a ∧ 0 ≤ j ∧ j < n ∧ j ≤ 2147483647) ∧ K (am_st σ a (oL n (upL f j.toNat x)))
  | _ => False
theorem kStL_e (σ : AS) (a g n : Nat) (j : Int) (x : Int64) (f : Nat → Int64) (K : AS → Prop) : kStL σ a g j x (some (oL n f)) K = ((g ≤ a ∧ 0 ≤ j ∧ j < n ∧ j ≤ 2147483647) ∧ K (am_st σ a (oL n (upL f j.toNat x)))) := rfl
theorem q_stL {a : Nat} {j : Int} {x : Int64} {r : List AV} (d : decode (mB i) pc = .ok (.lastore, 1)) : WP G i pc ls (vL x :: vI j :: vR a :: r) σ Q = kStL σ a (G 0) j x (σ.1 a) (fun σ' => WP G i (pc + 1) ls r σ' Q) := by
  unfold kStL
  split
  · rename_i n f ho
    refine q_cnd d ?_
    show am_astL G pc ls (.inr (.inl x) :: .inl j :: .inr (.inr (.inr (some a))) :: r) σ = _
    unfold am_astL
    dsimp only
    rw [ho]
    rfl
  · rename_i h1
    refine wp_none ((am_step_of d).trans ?_)
    show am_astL G pc ls (.inr (.inl x) :: .inl j :: .inr (.inr (.inr (some a))) :: r) σ = _
    unfold am_astL
    dsimp only
    split
    · exact (h1 _ _ (by assumption)).elim
    · rfl
def kLdR (o : Option AO) (j : Int) (K : Option Nat → Prop) : Prop := match o with
  | some (.inr (.inr (.inr (n, f)))) => (0 ≤ j ∧ j < n ∧ j ≤ 2147483647) ∧ K (f j.toNat)
  | _ => False
theorem kLdR_e (n : Nat) (f : Nat → Option Nat) (j : Int) (K : Option Nat → Prop) : kLdR (some (oR n f)) j K = ((0 ≤ j ∧ j < n ∧ j ≤ 2147483647) ∧ K (f j.toNat)) := rfl
theorem q_ldR {a : Nat} {j : Int} {r : List AV} (d : decode (mB i) pc = .ok (.aaload, 1)) : WP G i pc ls (vI j :: vR a :: r) σ Q = kLdR (σ.1 a) j (fun x => WP G i (pc + 1) ls (.inr (.inr (.inr x)) :: r) σ Q) := by
  unfold kLdR
  split
  · rename_i n f ho
    refine q_cnd d ?_
    show am_aldR pc ls (.inl j :: .inr (.inr (.inr (some a))) :: r) σ = _
    unfold am_aldR
    dsimp only
    rw [ho]
    rfl
  · rename_i h1
    refine wp_none ((am_step_of d).trans ?_)
    show am_aldR pc ls (.inl j :: .inr (.inr (.inr (some a))) :: r) σ = _
    unfold am_aldR
    dsimp only
    split
    · exact (h1 _ _ (by assumption)).elim
    · rfl
def kStR (σ : AS) (a g x : Nat) (j : Int) (o o2 : Option AO) (K : AS → Prop) : Prop := match o, o2 with
  | some (.inr (.inr (.inr (n, f)))), some (.inl (ci, _)) => (ci = 1 ∧ g ≤ a ∧ 0 ≤ j ∧ j < n ∧ j ≤ 2147483647) ∧ K (am_st σ a (oR n (upR f j.toNat (some x))))
  | _, _ => False
theorem kStR_e (σ : AS) (a g x n : Nat) (j : Int) (f : Nat → Option Nat) (fs : List AV) (K : AS → Prop) : kStR σ a g x j (some (oR n f)) (some (oC 1 fs)) K = ((g ≤ a ∧ 0 ≤ j ∧ j < n ∧ j ≤ 2147483647) ∧ K (am_st σ a (oR n (upR f j.toNat (some x))))) := by
  show ((1 = 1 ∧ _) ∧ _) = _
  simp
theorem q_stR {a x : Nat} {j : Int} {r : List AV} (d : decode (mB i) pc = .ok (.aastore, 1)) : WP G i pc ls (vR x :: vI j :: vR a :: r) σ Q = kStR σ a (G 0) x j (σ.1 a) (σ.1 x) (fun σ' => WP G i (pc + 1) ls r σ' Q) := by
  unfold kStR
  split
  · rename_i n f ci fs ho ho2
    refine q_cnd d ?_
    show am_astR G pc ls (.inr (.inr (.inr (some x))) :: .inl j :: .inr (.inr (.inr (some a))) :: r) σ = _
    unfold am_astR
    dsimp only
    rw [ho, ho2]
    rfl
  · rename_i h1
    refine wp_none ((am_step_of d).trans ?_)
    show am_astR G pc ls (.inr (.inr (.inr (some x))) :: .inl j :: .inr (.inr (.inr (some a))) :: r) σ = _
    unfold am_astR
    dsimp only
    split
    · exact (h1 _ _ _ _ (by assumption) (by assumption)).elim
    · rfl
/-- a field -/
def kNth (fs : List AV) (k : Nat) (K : AV → Prop) : Prop := match fs, k with
  | [], _ => False
  | v :: _, 0 => K v
  | _ :: l, k + 1 => kNth l k K
theorem kNth_0 (v : AV) (l : List AV) (K : AV → Prop) : kNth (v :: l) 0 K = K v := rfl
theorem kNth_s (v : AV) (l : List AV) (k : Nat) (K : AV → Prop) : kNth (v :: l) (k + 1) K = kNth l k K := rfl
theorem kNth_some {v : AV} {K : AV → Prop} : ∀ {fs : List AV} {k : Nat}, fs[k]? = some v → kNth fs k K = K v
  | [], k, h => by simp at h
  | w :: l, 0, h => by
    simp at h
    rw [kNth_0, h]
  | w :: l, k + 1, h => by
    rw [kNth_s]
    exact kNth_some (by simpa using h)
theorem kNth_none {K : AV → Prop} : ∀ {fs : List AV} {k : Nat}, fs[k]? = none → kNth fs k K = False
  | [], k, h => rfl
  | w :: l, 0, h => by simp at h
  | w :: l, k + 1, h => by
    rw [kNth_s]
    exact kNth_none (by simpa using h)
def kFld (o : Option AO) (c k : Nat) (K : AV → Prop) : Prop := match o with
  | some (.inl (ci, fs)) => ci = c ∧ kNth fs k K
  | _ => False
theorem kFld_e (c k : Nat) (fs : List AV) (K : AV → Prop) : kFld (some (oC c fs)) c k K = kNth fs k K := by
  show (c = c ∧ _) = _
  simp
theorem q_getf {a idx c k : Nat} {r : List AV} (d : decode (mB i) pc = .ok (.getfield idx, 3)) (hl : am_lk (am_fT (mOc i)) idx = some (c, k)) : WP G i pc ls (vR a :: r) σ Q = kFld (σ.1 a) c k (fun v => WP G i (pc + 3) ls (v :: r) σ Q) := by
  have e : am_ins G i pc 3 ls (vR a :: r) σ (.getfield idx) = am_getf i pc ls (.inr (.inr (.inr (some a))) :: r) σ idx := rfl
  unfold kFld
  split
  · rename_i ci fs ho
    unfold am_getf at e
    dsimp only at e
    rw [hl, ho] at e
    dsimp only at e
    by_cases hc : ci = c
    · rw [if_pos hc] at e
      cases hv : fs[k]? with
      | none =>
        rw [hv] at e
        rw [wp_none ((am_step_of d).trans e), kNth_none hv]
        simp
      | some v =>
        rw [hv] at e
        rw [wp_next ((am_step_of d).trans e), kNth_some hv]
        simp [hc]
    · rw [if_neg hc] at e
      rw [wp_none ((am_step_of d).trans e)]
      simp [hc]
  · rename_i h1
    refine wp_none ((am_step_of d).trans (e.trans ?_))
    unfold am_getf
    dsimp only
    split
    · exact (h1 _ _ (by assumption)).elim
    · rfl
def kPut (σ : AS) (a g : Nat) (o : Option AO) (c k : Nat) (v : AV) (K : AS → Prop) : Prop := match o with
  | some (.inl (ci, fs)) => (ci = c ∧ g ≤ a ∧ k < fs.length) ∧ K (am_st σ a (oC ci (fs.set k v)))
  | _ => False
theorem kPut_e (σ : AS) (a g c k : Nat) (fs : List AV) (v : AV) (K : AS → Prop) : kPut σ a g (some (oC c fs)) c k v K = ((g ≤ a ∧ k < fs.length) ∧ K (am_st σ a (oC c (fs.set k v)))) := by
  show ((c = c ∧ _) ∧ _) = _
  simp
theorem q_putf {a idx c k : Nat} {r : List AV} {v : AV} {ty : FieldType} (d : decode (mB i) pc = .ok (.putfield idx, 3)) (hl : am_lk (am_fT (mOc i)) idx = some (c, k)) (hfin : (am_fin c).getD k true = false ∨ (mY i).name = "<init>" ∧ mOc i = c) (hty : (am_ty c)[k]? = some ty) : WP G i pc ls (v :: vR a :: r) σ Q = (am_fit ty v = true ∧ kPut σ a (G 0) (σ.1 a) c k v (fun σ' => WP G i (pc + 3) ls r σ' Q)) := by
  have e : am_ins G i pc 3 ls (v :: vR a :: r) σ (.putfield idx) = am_putf G i pc ls (v :: .inr (.inr (.inr (some a))) :: r) σ idx := rfl
  unfold kPut
  split
  · rename_i ci fs ho
    unfold am_putf at e
    dsimp only at e
    rw [hl, ho] at e
    dsimp only at e
    by_cases hc : ci = c ∧ G 0 ≤ a ∧ k < fs.length
    · rw [if_pos ⟨hc.1, hc.2.1, hc.2.2, hfin⟩, hty] at e
      dsimp only at e
      by_cases hf : am_fit ty v = true
      · rw [if_pos hf] at e
        rw [wp_next ((am_step_of d).trans e)]
        simp only [hf, hc, true_and, and_self]
        rfl
      · rw [if_neg hf] at e
        rw [wp_none ((am_step_of d).trans e)]
        simp [hf]
    · rw [if_neg (fun z => hc ⟨z.1, z.2.1, z.2.2.1⟩)] at e
      rw [wp_none ((am_step_of d).trans e)]
      simp only [hc, false_and, and_false]
  · rename_i h1
    rw [wp_none ((am_step_of d).trans (e.trans ?_))]
    · simp
    · unfold am_putf
      dsimp only
      split
      · exact (h1 _ _ (by assumption)).elim
      · rfl
theorem fit_I (x : Int) : am_fit .int (vI x) = true := rfl
theorem fit_Z (x : Int) : (am_fit .boolean (vI x) = true) = (x = 0 ∨ x = 1) := by
  show (decide (x = 0 ∨ x = 1) = true) = _
  simp
/-- a receiver of a class -/
def kRcv (o : Option AO) (c : Nat) (P : Prop) : Prop := match o with
  | some (.inl (ci, _)) => (ci = c ∧ ci < 6 ∨ ci = 6 ∧ c = 9) ∧ P
  | _ => False
theorem kRcv_e {c : Nat} (fs : List AV) (P : Prop) (h : c < 6) : kRcv (some (oC c fs)) c P = P := by
  show ((c = c ∧ c < 6 ∨ _) ∧ P) = P
  simp [h]
theorem kRcv_s (fs : List AV) (P : Prop) : kRcv (some (oC 6 fs)) 9 P = P := by
  show ((6 = 9 ∧ 6 < 6 ∨ 6 = 6 ∧ 9 = 9) ∧ P) = P
  simp
/-- what a virtual or a special call asks of its receiver -/
theorem q_rcv {a j : Nat} {z : Act} {E : Prop} (hs : am_step G i pc ls st σ = (match σ.1 a with
            | some (.inl (ci, _)) => if ci = mOc j ∧ ci < 6 ∨ ci = 6 ∧ mOc j = 9 then some z else none
            | _ => none)) (h : am_step G i pc ls st σ = some z → WP G i pc ls st σ Q = E) : WP G i pc ls st σ Q = kRcv (σ.1 a) (mOc j) E := by
  unfold kRcv
  split
  · rename_i ci fs ho
    rw [ho] at hs
    exact q_if hs h
  · rename_i h1
    refine wp_none (hs.trans ?_)
    split
    · exact (h1 _ _ (by assumption)).elim
    · rfl
theorem q_callV {a j : Nat} {as r : List AV} (d : decode (mB i) pc = .ok (ins, len)) (h : am_ins G i pc len ls st σ ins = (match σ.1 a with
            | some (.inl (ci, _)) => if ci = mOc j ∧ ci < 6 ∨ ci = 6 ∧ mOc j = 9 then aC j as r else none
            | _ => none)) (hH : mH i = []) : WP G i pc ls st σ Q = kRcv (σ.1 a) (mOc j) (CW G j as σ (kR (fun v σ' => WP G i (pc + 3) ls (v.toList ++ r) σ' Q) (fun x σ' => Q (.inr x) σ'))) := q_rcv ((am_step_of d).trans h) (fun z => wp_call z hH)
theorem q_callVH {a j : Nat} {as r : List AV} (d : decode (mB i) pc = .ok (ins, len)) (h : am_ins G i pc len ls st σ ins = (match σ.1 a with
            | some (.inl (ci, _)) => if ci = mOc j ∧ ci < 6 ∨ ci = 6 ∧ mOc j = 9 then aC j as r else none
            | _ => none)) : WP G i pc ls st σ Q = kRcv (σ.1 a) (mOc j) (CW G j as σ (kR (fun v σ' => WP G i (pc + 3) ls (v.toList ++ r) σ' Q) (fun x σ' => am_hk i pc ls x (fun pc' ls' => WP G i pc' ls' [] σ' Q) (Q (.inr x) σ')))) := q_rcv ((am_step_of d).trans h) (fun z => wp_callH z)
theorem q_inv {sort idx : Nat} (hs : (sort = 0 ∧ ins = .invokevirtual idx) ∨ (sort = 1 ∧ ins = .invokespecial idx) ∨ (sort = 2 ∧ ins = .invokestatic idx)) : am_ins G i pc 3 ls st σ ins = am_invoke i pc ls st σ sort idx := by
  rcases hs with ⟨rfl, rfl⟩ | ⟨rfl, rfl⟩ | ⟨rfl, rfl⟩ <;> rfl
theorem q_invS {idx j k : Nat} {as r : List AV} (hl : am_lk (am_cT (mOc i)) idx = some (k, j)) (hk : k = 2 ∨ k = 3 ∨ k = 6) (htk : am_tk (mN j) st [] = some (as, r)) (hF : mF j + 1 ≤ mF i ∧ 8 + (mX j + 11) + mL j ≤ mL i) (hc : am_cats r ≤ 8) : am_invoke i pc ls st σ 2 idx = some (.inr (.inl (j, (as, r)))) := by
  unfold am_invoke
  rw [hl]
  rcases hk with rfl | rfl | rfl <;> (show (match am_tk (mN j) st [] with | none => none | some (as, r) => _) = _; rw [htk]; show (if _ then (if _ then (if _ then _ else _) else _) else _) = _; rw [if_pos hF, if_pos (by decide), if_pos ⟨rfl, hc⟩]; rfl)
theorem q_invV {idx j k sort a : Nat} {as r : List AV} (hl : am_lk (am_cT (mOc i)) idx = some (k, j)) (hk : (k = 0 ∧ sort = 0) ∨ ((k = 4 ∨ k = 5) ∧ sort = 1)) (htk : am_tk (mN j) st [] = some (as, vR a :: r)) (hF : mF j + 1 ≤ mF i ∧ 8 + (mX j + 11) + mL j ≤ mL i) (hc : am_cats r ≤ 8) : am_invoke i pc ls st σ sort idx = (match σ.1 a with
            | some (.inl (ci, _)) => if ci = mOc j ∧ ci < 6 ∨ ci = 6 ∧ mOc j = 9 then aC j (vR a :: as) r else none
            | _ => none) := by
  unfold am_invoke
  rw [hl]
  unfold vR at htk ⊢
  rcases hk with ⟨rfl, rfl⟩ | ⟨rfl | rfl, rfl⟩ <;> (show (match am_tk (mN j) st [] with | none => none | some (as, r) => _) = _; rw [htk]; show (if _ then (if _ then _ else (if _ then _ else _)) else _) = _; rw [if_pos hF, if_neg (by decide), if_pos ⟨by decide, hc⟩]; rfl)
theorem q_cS {idx j k : Nat} {as r : List AV} (d : decode (mB i) pc = .ok (.invokestatic idx, 3)) (hl : am_lk (am_cT (mOc i)) idx = some (k, j)) (hk : k = 2 ∨ k = 3 ∨ k = 6) (htk : am_tk (mN j) st [] = some (as, r)) (hF : mF j + 1 ≤ mF i ∧ 8 + (mX j + 11) + mL j ≤ mL i) (hc : am_cats r ≤ 8) (hH : mH i = []) : WP G i pc ls st σ Q = CW G j as σ (kR (fun v σ' => WP G i (pc + 3) ls (v.toList ++ r) σ' Q) (fun x σ' => Q (.inr x) σ')) := q_call d ((q_inv (Or.inr (Or.inr ⟨rfl, rfl⟩))).trans (q_invS hl hk htk hF hc)) hH
theorem q_cV {idx j a : Nat} {as r : List AV} (d : decode (mB i) pc = .ok (.invokevirtual idx, 3)) (hl : am_lk (am_cT (mOc i)) idx = some (0, j)) (htk : am_tk (mN j) st [] = some (as, vR a :: r)) (hF : mF j + 1 ≤ mF i ∧ 8 + (mX j + 11) + mL j ≤ mL i) (hc : am_cats r ≤ 8) (hH : mH i = []) : WP G i pc ls st σ Q = kRcv (σ.1 a) (mOc j) (CW G j (vR a :: as) σ (kR (fun v σ' => WP G i (pc + 3) ls (v.toList ++ r) σ' Q) (fun x σ' => Q (.inr x) σ'))) := q_callV d ((q_inv (Or.inl ⟨rfl, rfl⟩)).trans (q_invV hl (Or.inl ⟨rfl, rfl⟩) htk hF hc)) hH
theorem q_cVH {idx j a : Nat} {as r : List AV} (d : decode (mB i) pc = .ok (.invokevirtual idx, 3)) (hl : am_lk (am_cT (mOc i)) idx = some (0, j)) (htk : am_tk (mN j) st [] = some (as, vR a :: r)) (hF : mF j + 1 ≤ mF i ∧ 8 + (mX j + 11) + mL j ≤ mL i) (hc : am_cats r ≤ 8) : WP G i pc ls st σ Q = kRcv (σ.1 a) (mOc j) (CW G j (vR a :: as) σ (kR (fun v σ' => WP G i (pc + 3) ls (v.toList ++ r) σ' Q) (fun x σ' => am_hk i pc ls x (fun pc' ls' => WP G i pc' ls' [] σ' Q) (Q (.inr x) σ')))) := q_callVH d ((q_inv (Or.inl ⟨rfl, rfl⟩)).trans (q_invV hl (Or.inl ⟨rfl, rfl⟩) htk hF hc))
theorem q_cI {idx j a k : Nat} {as r : List AV} (d : decode (mB i) pc = .ok (.invokespecial idx, 3)) (hl : am_lk (am_cT (mOc i)) idx = some (k, j)) (hk : k = 4 ∨ k = 5) (htk : am_tk (mN j) st [] = some (as, vR a :: r)) (hF : mF j + 1 ≤ mF i ∧ 8 + (mX j + 11) + mL j ≤ mL i) (hc : am_cats r ≤ 8) (hH : mH i = []) : WP G i pc ls st σ Q = kRcv (σ.1 a) (mOc j) (CW G j (vR a :: as) σ (kR (fun v σ' => WP G i (pc + 3) ls (v.toList ++ r) σ' Q) (fun x σ' => Q (.inr x) σ'))) := q_callV d ((q_inv (Or.inr (Or.inl ⟨rfl, rfl⟩))).trans (q_invV hl (Or.inr ⟨hk, rfl⟩) htk hF hc)) hH
theorem q_oi {idx a j : Nat} {r : List AV} (d : decode (mB i) pc = .ok (.invokespecial idx, 3)) (hl : am_lk (am_cT (mOc i)) idx = some (7, j)) (hF : 1 = 1 ∧ 1 ≤ mF i ∧ am_cats r + 12 ≤ mL i) : WP G i pc ls (vR a :: r) σ Q = WP G i (pc + 3) ls r σ Q := by
  refine q_next d ((q_inv (Or.inr (Or.inl ⟨rfl, rfl⟩))).trans ?_)
  unfold am_invoke
  rw [hl]
  show (if 1 = 1 ∧ 1 ≤ mF i ∧ am_cats r + 12 ≤ mL i then _ else _) = _
  rw [if_pos hF]
  rfl
theorem q_rb {idx j : Nat} {x : UInt64} {r : List AV} (d : decode (mB i) pc = .ok (.invokestatic idx, 3)) (hl : am_lk (am_cT (mOc i)) idx = some (8, j)) (hF : 2 = 2 ∧ 1 ≤ mF i ∧ am_cats r + 40 ≤ mL i) : WP G i pc ls (vD x :: r) σ Q = WP G i (pc + 3) ls (vL x.toInt64 :: r) σ Q := by
  refine q_next d ((q_inv (Or.inr (Or.inr ⟨rfl, rfl⟩))).trans ?_)
  unfold am_invoke
  rw [hl]
  show (if 2 = 2 ∧ 1 ≤ mF i ∧ am_cats r + 40 ≤ mL i then _ else _) = _
  rw [if_pos hF]
  rfl
theorem q_max {idx j : Nat} {a b : Int} {r : List AV} (d : decode (mB i) pc = .ok (.invokestatic idx, 3)) (hl : am_lk (am_cT (mOc i)) idx = some (9, j)) (hF : 1 ≤ mF i ∧ am_cats r + 13 ≤ mL i) : WP G i pc ls (vI b :: vI a :: r) σ Q = ((inR a ∧ inR b) ∧ WP G i (pc + 3) ls (vI (if a < b then b else a) :: r) σ Q) := by
  refine q_cnd d ((q_inv (Or.inr (Or.inr ⟨rfl, rfl⟩))).trans ?_)
  unfold am_invoke
  rw [hl]
  show (if 2 = 2 ∧ inR a ∧ inR b ∧ 1 ≤ mF i ∧ am_cats r + 13 ≤ mL i then _ else _) = _
  by_cases h : inR a ∧ inR b
  · rw [if_pos ⟨rfl, h.1, h.2, hF⟩, if_pos h]
    rfl
  · rw [if_neg (fun z => h ⟨z.2.1, z.2.2.1⟩), if_neg h]
theorem q_min {idx j : Nat} {a b : Int} {r : List AV} (d : decode (mB i) pc = .ok (.invokestatic idx, 3)) (hl : am_lk (am_cT (mOc i)) idx = some (10, j)) (hF : 1 ≤ mF i ∧ am_cats r + 13 ≤ mL i) : WP G i pc ls (vI b :: vI a :: r) σ Q = ((inR a ∧ inR b) ∧ WP G i (pc + 3) ls (vI (if b < a then b else a) :: r) σ Q) := by
  refine q_cnd d ((q_inv (Or.inr (Or.inr ⟨rfl, rfl⟩))).trans ?_)
  unfold am_invoke
  rw [hl]
  show (if 2 = 2 ∧ inR a ∧ inR b ∧ 1 ≤ mF i ∧ am_cats r + 13 ≤ mL i then _ else _) = _
  by_cases h : inR a ∧ inR b
  · rw [if_pos ⟨rfl, h.1, h.2, hF⟩, if_pos h]
    rfl
  · rw [if_neg (fun z => h ⟨z.2.1, z.2.2.1⟩), if_neg h]
theorem q_thr {idx c : Nat} (d : decode (mB i) pc = .ok (.new idx, 3)) (hl : am_lk (am_nT (mOc i)) idx = some c) (h10 : 10 ≤ c) (h : am_isThrow i pc (c - 10) = true) (hH : (mH i).isEmpty = true) (hF : 6 ≤ mF i) (hc : am_cats st + 82 ≤ mL i) : WP G i pc ls st σ Q = Q (.inr (c - 10)) (am_th σ) := by
  refine q_throw d ?_
  show am_new i pc ls st σ idx = _
  unfold am_new
  rw [hl]
  dsimp only
  rw [if_pos h10, if_pos ⟨h, hH, hF, hc⟩]
  rfl
theorem q_new {idx c : Nat} (d : decode (mB i) pc = .ok (.new idx, 3)) (hl : am_lk (am_nT (mOc i)) idx = some c) (h10 : ¬ 10 ≤ c) : WP G i pc ls st σ Q = (¬ σ.2.1 = 0 ∧ WP G i (pc + 3) ls (vR σ.2.1 :: st) (am_nw σ (oC c ((am_ty c).map am_dflt)) (am_ty c).length) Q) := by
  refine q_cnd d ?_
  show am_new i pc ls st σ idx = _
  unfold am_new
  rw [hl]
  dsimp only
  rw [if_neg h10]
  by_cases hz : σ.2.1 = 0
  · rw [if_pos hz, if_neg (fun z => z hz)]
  · rw [if_neg hz, if_pos hz]
    rfl
theorem q_newI {n : Int} {r : List AV} (d : decode (mB i) pc = .ok (.newarray .int, 2)) : WP G i pc ls (vI n :: r) σ Q = (¬ (σ.2.1 = 0 ∨ n < 0 ∨ 100000 < n) ∧ WP G i (pc + 2) ls (vR σ.2.1 :: r) (am_nw σ (oI 0 n.toNat (fun _ => 0)) n.toNat) Q) := by
  refine q_cnd d ?_
  show (if σ.2.1 = 0 ∨ n < 0 ∨ 100000 < n then none else _) = _
  by_cases hz : σ.2.1 = 0 ∨ n < 0 ∨ 100000 < n
  · rw [if_pos hz, if_neg (fun z => z hz)]
  · rw [if_neg hz, if_pos hz]
    rfl
theorem q_newZ {n : Int} {r : List AV} (d : decode (mB i) pc = .ok (.newarray .boolean, 2)) : WP G i pc ls (vI n :: r) σ Q = (¬ (σ.2.1 = 0 ∨ n < 0 ∨ 100000 < n) ∧ WP G i (pc + 2) ls (vR σ.2.1 :: r) (am_nw σ (oI 1 n.toNat (fun _ => 0)) n.toNat) Q) := by
  refine q_cnd d ?_
  show (if σ.2.1 = 0 ∨ n < 0 ∨ 100000 < n then none else _) = _
  by_cases hz : σ.2.1 = 0 ∨ n < 0 ∨ 100000 < n
  · rw [if_pos hz, if_neg (fun z => z hz)]
  · rw [if_neg hz, if_pos hz]
    rfl
theorem q_newL {n : Int} {r : List AV} (d : decode (mB i) pc = .ok (.newarray .long, 2)) : WP G i pc ls (vI n :: r) σ Q = (¬ (σ.2.1 = 0 ∨ n < 0 ∨ 100000 < n) ∧ WP G i (pc + 2) ls (vR σ.2.1 :: r) (am_nw σ (oL n.toNat (fun _ => 0)) n.toNat) Q) := by
  refine q_cnd d ?_
  show (if σ.2.1 = 0 ∨ n < 0 ∨ 100000 < n then none else _) = _
  by_cases hz : σ.2.1 = 0 ∨ n < 0 ∨ 100000 < n
  · rw [if_pos hz, if_neg (fun z => z hz)]
  · rw [if_neg hz, if_pos hz]
    rfl
theorem q_newR {idx : Nat} {n : Int} {r : List AV} (d : decode (mB i) pc = .ok (.anewarray idx, 3)) (hl : am_lk (am_nT (mOc i)) idx = some 1) : WP G i pc ls (vI n :: r) σ Q = (¬ (σ.2.1 = 0 ∨ n < 0 ∨ 100000 < n) ∧ WP G i (pc + 3) ls (vR σ.2.1 :: r) (am_nw σ (oR n.toNat (fun _ => none)) n.toNat) Q) := by
  refine q_cnd d ?_
  show (if σ.2.1 = 0 ∨ n < 0 ∨ 100000 < n then none else (if am_lk (am_nT (mOc i)) idx = some 1 then _ else _)) = _
  rw [if_pos hl]
  by_cases hz : σ.2.1 = 0 ∨ n < 0 ∨ 100000 < n
  · rw [if_pos hz, if_neg (fun z => z hz)]
  · rw [if_neg hz, if_pos hz]
    rfl
theorem q_tsw {dd lo hi : Int} {offs : Array Int} {x : Int} {r : List AV} (d : decode (mB i) pc = .ok (.tableswitch dd lo hi offs, len)) (hc : offs.toList.length = (hi - lo + 1).toNat ∧ 0 ≤ (pc : Int) + dd ∧ offs.toList.all (fun o => decide (0 ≤ (pc : Int) + o)) = true) : WP G i pc ls (vI x :: r) σ Q = (inR x ∧ WP G i (am_tsw pc dd lo hi offs.toList x) ls r σ Q) := by
  refine q_cnd d ?_
  show (if inR x ∧ offs.toList.length = (hi - lo + 1).toNat ∧ 0 ≤ (pc : Int) + dd ∧ offs.toList.all (fun o => decide (0 ≤ (pc : Int) + o)) = true then _ else _) = _
  by_cases h : inR x
  · rw [if_pos ⟨h, hc⟩, if_pos h]
    rfl
  · rw [if_neg (fun z => h z.1), if_neg h]
theorem q_lsw {dd : Int} {ps : Array (Int × Int)} {x : Int} {r : List AV} (d : decode (mB i) pc = .ok (.lookupswitch dd ps, len)) (h0 : 0 ≤ (pc : Int) + Op.lookupswitch.offset ps.toList dd x) (hc : (ps.toList.zip (ps.toList.drop 1)).all (fun (a, next) => a.1 < next.1) = true) : WP G i pc ls (vI x :: r) σ Q = (inR x ∧ WP G i (am_tgt pc (Op.lookupswitch.offset ps.toList dd x)) ls r σ Q) := by
  refine q_cnd d ?_
  show (if inR x ∧ 0 ≤ (pc : Int) + Op.lookupswitch.offset ps.toList dd x ∧ (ps.toList.zip (ps.toList.drop 1)).all (fun (a, next) => a.1 < next.1) = true then _ else _) = _
  by_cases h : inR x
  · rw [if_pos ⟨h, h0, hc⟩, if_pos h]
    rfl
  · rw [if_neg (fun z => h z.1), if_neg h]
theorem q_retI {x : Int} {ty : FieldType} (d : decode (mB i) pc = .ok (.ireturn, 1)) (hR : mR i = some ty) (ht : am_isI ty = true) : WP G i pc ls [vI x] σ Q = (am_fit ty (vI x) = true ∧ Q (.inl (some (vI x))) σ) := by
  have e : am_ins G i pc 1 ls [vI x] σ .ireturn = if am_fit ty (vI x) = true then some (.inr (.inr (.inl (some (vI x))))) else none := by
    show am_ret i [vI x] am_isI = _
    unfold am_ret
    rw [hR]
    dsimp only
    by_cases h : am_fit ty (vI x) = true
    · rw [if_pos ⟨ht, h⟩, if_pos h]
      rfl
    · rw [if_neg (fun z => h z.2), if_neg h]
  exact q_if ((am_step_of d).trans e) wp_ret
theorem q_dbl {f : UInt64 → UInt64 → UInt64} {a b : UInt64} {r : List AV} (d : decode (mB i) pc = .ok (ins, 1)) (h : am_ins G i pc 1 ls (vD b :: vD a :: r) σ ins = am_binD pc ls (vD b :: vD a :: r) σ f) : WP G i pc ls (vD b :: vD a :: r) σ Q = (am_notNaN (f a b) = true ∧ WP G i (pc + 1) ls (vD (f a b) :: r) σ Q) := q_cnd d (h.trans rfl)
theorem q_i2c {a : Int} {r : List AV} (d : decode (mB i) pc = .ok (.i2c, 1)) : WP G i pc ls (vI a :: r) σ Q = ((0 ≤ a ∧ a ≤ 65535) ∧ WP G i (pc + 1) ls (vI a :: r) σ Q) := q_cnd d rfl
end QW
theorem fit_B (x : Int) : (am_fit .byte (vI x) = true) = (-128 ≤ x ∧ x ≤ 127) := by
  show (decide (-128 ≤ x ∧ x ≤ 127) = true) = _
  simp
theorem fit_C (x : Int) : (am_fit .char (vI x) = true) = (0 ≤ x ∧ x ≤ 65535) := by
  show (decide (0 ≤ x ∧ x ≤ 65535) = true) = _
  simp
theorem fit_A (t : FieldType) (x : Nat) : am_fit (.array t) (vR x) = true := rfl
theorem fit_O (t : String) (x : Nat) : am_fit (.object t) (vR x) = true := rfl
