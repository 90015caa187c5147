/-! THE LAW'S ENTRY: the first heap, and what the tables and the premises say of it -/
def LxS (o : AO) : Prop := (∃ l : List Int, l.length < 2 ^ 31 ∧ (∀ x ∈ l, inR x) ∧ (o = oI 2 l.length (fun j => l.getD j 0) ∨ o = oI 3 l.length (fun j => l.getD j 0))) ∨ ∃ v, o = oC 6 [vR v, vI 0]
theorem le_getD {l : List Int} {j : Nat} (h : j < l.length) : l.getD j 0 = l[j] := by
  rw [List.getD_eq_getElem?_getD, List.getElem?_eq_getElem h]
  rfl
theorem le_two {ty : FieldType} {a : Nat} {l1 l2 : List Int} {A : Nat → Prop} {s : State} (h1 : l1.length < 2 ^ 31) (h2 : l2.length < 2 ^ 31) (i1 : ∀ x ∈ l1, inR x) (i2 : ∀ x ∈ l2, inR x)
    (r1 : va_T ty a l1.length (fun j => .int (Int32.ofInt (l1.getD j 0))) A s s.heap) (r2 : va_T ty a l2.length (fun j => .int (Int32.ofInt (l2.getD j 0))) A s s.heap) : l1 = l2 := by
  obtain ⟨c1, e1, -, -, -, z1, v1, -⟩ := r1
  obtain ⟨c2, e2, -, -, -, z2, v2, -⟩ := r2
  cases e1.symm.trans e2
  have hn : l1.length = l2.length := by
    have e := congrArg Int32.toNatClampNeg (z1.symm.trans z2)
    rwa [Int32.toNatClampNeg_ofNat_of_lt h1, Int32.toNatClampNeg_ofNat_of_lt h2] at e
  refine List.ext_getElem hn fun j hj1 hj2 => ?_
  have e3 := Value.int.inj (Option.some.inj ((v1 j hj1).symm.trans (v2 j hj2)))
  rw [le_getD hj1, le_getD hj2] at e3
  exact (ci_eq (i1 _ (List.getElem_mem hj1)) (i2 _ (List.getElem_mem hj2))).mp e3
theorem le_ty {t1 t2 : FieldType} {a N M : Nat} {f g : Nat → Value} {A : Nat → Prop} {s : State} (r1 : va_T t1 a N f A s s.heap) (r2 : va_T t2 a M g A s s.heap) : t1 = t2 := by
  obtain ⟨c1, e1, ⟨-, k1, q1, p1, w1⟩, -⟩ := r1
  obtain ⟨c2, e2, ⟨-, k2, q2, p2, w2⟩, -⟩ := r2
  cases e1.symm.trans e2
  cases q1.symm.trans q2
  have := w1.symm.trans w2
  cases this
  rfl
theorem le_no {ty : FieldType} {a N v : Nat} {f : Nat → Value} {A : Nat → Prop} {s : State} {o n d : String} (hF : s.Fit) (ht : fits ty (.ref v) = false) (r1 : va_T ty a N f A s s.heap) (r2 : va_OF o n d (.ref v) a A s s.heap) : False := by
  obtain ⟨c1, e1, h1, -⟩ := r1
  obtain ⟨cf, k, i, fl, c2, -, -, e2, -, hs, -⟩ := r2
  cases e1.symm.trans e2
  have := hF.elem_fits e1 h1 hs
  rw [ht] at this
  cases this
theorem RelO.t2 {G : Nat → Nat} {D : AD} {s : State} {a n : Nat} {f : Nat → Int} {H : Heap} (h : RelO G D s a (oI 2 n f) H) : va_T .int a n (fun j => .int (Int32.ofInt (f j))) (am_A G) s H := h
theorem RelO.t3 {G : Nat → Nat} {D : AD} {s : State} {a n : Nat} {f : Nat → Int} {H : Heap} (h : RelO G D s a (oI 3 n f) H) : va_T .byte a n (fun j => .int (Int32.ofInt (f j))) (am_A G) s H := h
theorem RelO.s6 {G : Nat → Nat} {D : AD} {s : State} {a v : Nat} {H : Heap} (h : RelO G D s a (oC 6 [vR v, vI 0]) H) : va_OF "java/lang/String" "value" "[B" (.ref v) a (am_A G) s H := by
  have h' := h
  unfold RelO oC at h'
  dsimp only at h'
  rw [if_pos rfl] at h'
  obtain ⟨w, hw, -, h2, -⟩ := h'
  cases hw
  exact h2
theorem RelO.mk6 {G : Nat → Nat} {D : AD} {s : State} {a v : Nat} {H : Heap} (h1 : va_O "java/lang/String" a (am_A G) s H) (h2 : va_OF "java/lang/String" "value" "[B" (.ref v) a (am_A G) s H) (h3 : va_OF "java/lang/String" "coder" "B" (.int 0) a (am_A G) s H) : RelO G D s a (oC 6 [vR v, vI 0]) H := by
  unfold RelO oC
  dsimp only
  rw [if_pos rfl]
  exact ⟨vR v, rfl, h1, h2, h3⟩
/-- one address, one object -/
theorem le_uq {G : Nat → Nat} {D : AD} {s : State} {a : Nat} {o1 o2 : AO} (hF : s.Fit) (h1 : LxS o1) (h2 : LxS o2) (r1 : RelO G D s a o1 s.heap) (r2 : RelO G D s a o2 s.heap) : o1 = o2 := by
  rcases h1 with ⟨l1, n1, i1, rfl | rfl⟩ | ⟨v1, rfl⟩ <;> rcases h2 with ⟨l2, n2, i2, rfl | rfl⟩ | ⟨v2, rfl⟩
  · rw [le_two n1 n2 i1 i2 r1.t2 r2.t2]
  · cases le_ty r1.t2 r2.t3
  · exact (le_no hF rfl r1.t2 r2.s6).elim
  · cases le_ty r1.t3 r2.t2
  · rw [le_two n1 n2 i1 i2 r1.t3 r2.t3]
  · exact (le_no hF rfl r1.t3 r2.s6).elim
  · exact (le_no hF rfl r2.t2 r1.s6).elim
  · exact (le_no hF rfl r2.t3 r1.s6).elim
  · obtain ⟨c1, k1, j1, f1, e1, w1, -, q1, -, z1, -⟩ := r1.s6
    obtain ⟨c2, k2, j2, f2, e2, w2, -, q2, -, z2, -⟩ := r2.s6
    cases w1.symm.trans w2
    cases q1.symm.trans q2
    cases z1.symm.trans z2
    rfl
theorem le_heap (G : Nat → Nat) (D : AD) {s : State} (hF : s.Fit) : ∃ h0 : Nat → Option AO, (∀ a o, h0 a = some o → LxS o ∧ RelO G D s a o s.heap) ∧ ∀ a o, LxS o → RelO G D s a o s.heap → h0 a = some o := by
  have hc : ∀ a : Nat, ∃ q : Option AO, (∀ o, q = some o → LxS o ∧ RelO G D s a o s.heap) ∧ ∀ o, LxS o → RelO G D s a o s.heap → q = some o := by
    intro a
    by_cases h : ∃ o, LxS o ∧ RelO G D s a o s.heap
    · obtain ⟨o, h1, h2⟩ := h
      exact ⟨some o, fun o' e => by cases e; exact ⟨h1, h2⟩, fun o' h3 h4 => by rw [le_uq hF h1 h3 h2 h4]⟩
    · exact ⟨none, fun o e => (by cases e), fun o h3 h4 => absurd ⟨o, h3, h4⟩ h⟩
  obtain ⟨h0, hh⟩ := Classical.axiomOfChoice hc
  exact ⟨h0, fun a => (hh a).1, fun a => (hh a).2⟩
/-- what the run stands on at its beginning, without a word of the machine -/
def StartH (G : Nat → Nat) (h0 : Nat → Option AO) (L : Nat) (xs : Nat → Int32) : Prop :=
  (∀ a o, h0 a = some o → a < G 0) ∧ 0 < G 0 ∧ (∃ f, h0 (G 1) = some (oI 2 L f) ∧ ∀ j, j < L → f j = (xs j).toInt) ∧
  h0 (G 2) = some (oI 2 4 (fun j => [1, -1, 0, 0].getD j 0)) ∧ h0 (G 3) = some (oI 2 4 (fun j => [0, 0, 1, -1].getD j 0)) ∧
  (∃ v, h0 (G 10) = some (oC 6 [vR v, vI 0]) ∧ h0 v = some (oI 3 4 (fun j => [110, 111, 110, 101].getD j 0))) ∧
  (∃ v, h0 (G 11) = some (oC 6 [vR v, vI 0]) ∧ h0 v = some (oI 3 3 (fun j => [111, 110, 101].getD j 0))) ∧
  (∃ v, h0 (G 12) = some (oC 6 [vR v, vI 0]) ∧ h0 v = some (oI 3 4 (fun j => [112, 97, 105, 114].getD j 0))) ∧
  (∃ v, h0 (G 13) = some (oC 6 [vR v, vI 0]) ∧ h0 v = some (oI 3 4 (fun j => [99, 97, 114, 116].getD j 0))) ∧
  (∃ v, h0 (G 14) = some (oC 6 [vR v, vI 0]) ∧ h0 v = some (oI 3 1 (fun j => [33].getD j 0))) ∧
  (∃ v, h0 (G 15) = some (oC 6 [vR v, vI 0]) ∧ h0 v = some (oI 3 0 (fun j => [].getD j 0)))
theorem le_OF {A : Nat → Prop} {args : Array Value} {s : State} {t : Term} {a : Nat} {o n d : String} {v : Value} (ht : t.eval args s none [] s = some (.ref a)) (hv : (Term.field t o n d).eval args s none [] s = some v) (hA : ∀ a : Nat, a < s.heap.size → ¬ A a) : va_OF o n d v a A s s.heap := by
  cases hfo : s.fieldFound? o n d with
  | none =>
    rw [va_fe ht] at hv
    simp [State.fieldOf?, State.fieldNamed?, hfo] at hv
  | some x =>
    obtain ⟨cf, k, fi, f⟩ := x
    obtain ⟨g1, cell, g2, g3, -, -, g6⟩ := Term.field_spec hfo ht hv
    exact ⟨cf, k, fi, f, cell, hfo, g1, g2, g3, g6, hA _ (Array.getElem?_eq_some_iff.mp g2).1⟩
/-- one of the words, as the premises have it -/
theorem le_str {G : Nat → Nat} {D : AD} {args : Array Value} {s : State} (k a : Nat) (l : List Int) (hN : l.length < 2 ^ 31) (hi : ∀ x ∈ l, inR x) (hA : ∀ a : Nat, a < s.heap.size → ¬ am_A G a)
    (ht : (Term.string "CorridorPlan$Orders" k).eval args s none [] s = some (.ref a))
    (hex : (Cond.exactly (.string "CorridorPlan$Orders" k) "java/lang/String").before args s = true)
    (hco : (Cond.eq (.field (.string "CorridorPlan$Orders" k) "java/lang/String" "coder" "B") (.int 0)).before args s = true)
    (har : (Cond.arrayOf (.field (.string "CorridorPlan$Orders" k) "java/lang/String" "value" "[B") .byte).before args s = true)
    (hln : (Cond.eq (.length (.field (.string "CorridorPlan$Orders" k) "java/lang/String" "value" "[B")) (.int (Int32.ofNat l.length))).before args s = true)
    (hel : ∀ j, j < l.length → (Cond.eq (.elem (.field (.string "CorridorPlan$Orders" k) "java/lang/String" "value" "[B") (.int (Int32.ofNat j))) (.int (Int32.ofInt (l.getD j 0)))).before args s = true)
    {h0 : Nat → Option AO} (hh : ∀ a o, LxS o → RelO G D s a o s.heap → h0 a = some o) : ∃ v, h0 a = some (oC 6 [vR v, vI 0]) ∧ h0 v = some (oI 3 l.length (fun j => l.getD j 0)) := by
  obtain ⟨v, hv, hT⟩ := va_Tof (A := am_A G) (f := fun j => .int (Int32.ofInt (l.getD j 0))) hN har (va_eqt hln) (fun j hj => va_eqt (hel j hj)) hA
  refine ⟨v, hh _ _ (Or.inr ⟨v, rfl⟩) (RelO.mk6 (va_Oof hex ht hA) (le_OF ht hv hA) (le_OF ht (va_eqt hco) hA)), hh _ _ (Or.inl ⟨l, hN, hi, Or.inr rfl⟩) hT⟩
def le_C : List String := ["CorridorPlan$Orders", "CorridorPlan$Plan", "CorridorPlan$Saved", "CorridorPlan$Ways", "CorridorPlan", "CorridorPlanModel"]
theorem le_thr1 : ∀ q ∈ thrTx, Cond.stringRef q.1 q.2.1 q.2.2 ∈ lw_tbl := by decide +kernel
theorem le_thr2 : ∀ q ∈ thrTx, q.1 = "CorridorPlan" := by decide +kernel
theorem le_ord1 : ∀ q ∈ ordTx, Cond.stringRef "CorridorPlan$Orders" q.2.1 q.2.2 ∈ lw_tbl := by decide +kernel
theorem le_exc : ∀ x ∈ excN, ∀ y ∈ excN, x ≠ y → Cond.not (.castable x y) ∈ flatC (Cond.and given_1 narrow_1) := by decide +kernel
theorem le_wn {w : Cond} (h : wn_is w = true) : w.onTables = true := by
  cases w <;> first | (simp [wn_is] at h; done) | rfl
