/-! THE ABSTRACT HEAP AND THE MACHINE'S -/
def cv : AV → Value
  | .inl i => .int (Int32.ofInt i)
  | .inr (.inl x) => .long x
  | .inr (.inr (.inl x)) => .double x
  | .inr (.inr (.inr none)) => .null
  | .inr (.inr (.inr (some a))) => .ref a
/-- the words that stay, and those that want a rule of their own -/
def wl : List Cond := lw_tbl.filter goodWord
def wn_is : Cond → Bool
  | .methodLinkNest .. => true
  | .fieldLinkNest .. => true
  | .declares _ => true
  | .castable .. => true
  | _ => false
def wn : List Cond := lw_tbl.filter wn_is
theorem wn_warm {w : Cond} (hw : wn_is w = true) {s U : State} (hW : s.WarmedH U.vm) (h : va_Nw w s) : va_Nw w U := by
  cases w <;> first | (simp [wn_is] at hw; done) | exact va_Nw.warmM hW h | exact va_Nw.warmF hW h | exact va_Nw.warmD hW h | exact va_Nw.warmC hW h
/-- class numbers, slots; the array classes of int, boolean, long, CorridorPlan$Plan -/
abbrev AD : Type := va_G × (Nat → ClassId)
def am_tys (D : AD) : List (ClassId × FieldType) := [(D.2 0, .int), (D.2 1, .boolean), (D.2 2, .long), (D.2 3, .object "CorridorPlan$Plan")]
/-- what may be written -/
def am_A (G : Nat → Nat) : Nat → Prop := fun q => G 0 ≤ q
def RelO (G : Nat → Nat) (D : AD) (s : State) (a : Nat) (o : AO) (H : Heap) : Prop := match o with
  | .inl (ci, fs) => if ci = 6 then (∃ v, fs = [v, .inl 0] ∧ va_O "java/lang/String" a (am_A G) s H ∧ va_OF "java/lang/String" "value" "[B" (cv v) a (am_A G) s H ∧ va_OF "java/lang/String" "coder" "B" (.int 0) a (am_A G) s H)
    else ci < 6 ∧ va_at D.1 vwCl (a, .inr (ci, fs.map cv)) H
  | .inr (.inl (0, n, f)) => va_at D.1 vwCl (a, .inl (D.2 0, n, .inl (fun j => Int32.ofInt (f j)))) H
  | .inr (.inl (1, n, f)) => va_at D.1 vwCl (a, .inl (D.2 1, n, .inl (fun j => Int32.ofInt (f j)))) H
  | .inr (.inl (2, n, f)) => va_T .int a n (fun j => .int (Int32.ofInt (f j))) (am_A G) s H
  | .inr (.inl (3, n, f)) => va_T .byte a n (fun j => .int (Int32.ofInt (f j))) (am_A G) s H
  | .inr (.inl (_, _, _)) => False
  | .inr (.inr (.inl (n, f))) => va_at D.1 vwCl (a, .inl (D.2 2, n, .inr (.inl f))) H
  | .inr (.inr (.inr (n, f))) => va_at D.1 vwCl (a, .inl (D.2 3, n, .inr (.inr (.inr (.inr f))))) H
theorem RelO.kept {G : Nat → Nat} {D : AD} {s : State} {a : Nat} {o : AO} {H H1 : Heap} (h : RelO G D s a o H) (hq : H1[a]? = H[a]?) : RelO G D s a o H1 := by
  unfold RelO at h ⊢
  split at h
  · split at h
    · obtain ⟨v, h1, ⟨c1, a1, a2, a3, a4⟩, ⟨b1, b2, b3, b4, b5, b6, b7, b8, b9, b10, b11⟩, ⟨d1, d2, d3, d4, d5, d6, d7, d8, d9, d10, d11⟩⟩ := h
      rw [if_pos (by assumption)]
      exact ⟨v, h1, ⟨c1, by rw [hq]; exact a1, a2, a3, a4⟩, ⟨b1, b2, b3, b4, b5, b6, b7, by rw [hq]; exact b8, b9, b10, b11⟩, ⟨d1, d2, d3, d4, d5, d6, d7, by rw [hq]; exact d8, d9, d10, d11⟩⟩
    · rw [if_neg (by assumption)]
      exact ⟨h.1, h.2.kept hq⟩
  · exact h.kept hq
  · exact h.kept hq
  · obtain ⟨c1, a1, a2⟩ := h
    exact ⟨c1, by rw [hq]; exact a1, a2⟩
  · obtain ⟨c1, a1, a2⟩ := h
    exact ⟨c1, by rw [hq]; exact a1, a2⟩
  · exact h.elim
  · exact h.kept hq
  · exact h.kept hq
theorem RelO.lt {G : Nat → Nat} {D : AD} {s : State} {a : Nat} {o : AO} {H : Heap} (h : RelO G D s a o H) : a < H.size := by
  unfold RelO at h
  split at h
  · split at h
    · obtain ⟨v, h1, ⟨c1, a1, a2⟩, -⟩ := h
      exact (Array.getElem?_eq_some_iff.mp a1).1
    · exact h.2.lt
  · exact h.lt
  · exact h.lt
  · obtain ⟨c1, a1, a2⟩ := h
    exact (Array.getElem?_eq_some_iff.mp a1).1
  · obtain ⟨c1, a1, a2⟩ := h
    exact (Array.getElem?_eq_some_iff.mp a1).1
  · exact h.elim
  · exact h.lt
  · exact h.lt
theorem RelO.moved {G : Nat → Nat} {D : AD} {u U : State} {a : Nat} {o : AO} {H : Heap} (hvm : u.vm.Alike U.vm) (h : RelO G D u a o H) : RelO G D U a o H := by
  unfold RelO at h ⊢
  split at h
  · split at h
    · obtain ⟨v, h1, h2, h3, h4⟩ := h
      rw [if_pos (by assumption)]
      exact ⟨v, h1, va_O.moved hvm h2, va_OF.moved hvm h3, va_OF.moved hvm h4⟩
    · rw [if_neg (by assumption)]
      exact h
  · exact h
  · exact h
  · exact va_T.moved hvm h
  · exact va_T.moved hvm h
  · exact h.elim
  · exact h
  · exact h
theorem RelO.i0 {G : Nat → Nat} {D : AD} {s : State} {a n : Nat} {f : Nat → Int} {H : Heap} (h : RelO G D s a (.inr (.inl (0, n, f))) H) : va_at D.1 vwCl (a, .inl (D.2 0, n, .inl (fun j => Int32.ofInt (f j)))) H := h
theorem RelO.i1 {G : Nat → Nat} {D : AD} {s : State} {a n : Nat} {f : Nat → Int} {H : Heap} (h : RelO G D s a (.inr (.inl (1, n, f))) H) : va_at D.1 vwCl (a, .inl (D.2 1, n, .inl (fun j => Int32.ofInt (f j)))) H := h
theorem RelO.l {G : Nat → Nat} {D : AD} {s : State} {a n : Nat} {f : Nat → Int64} {H : Heap} (h : RelO G D s a (.inr (.inr (.inl (n, f)))) H) : va_at D.1 vwCl (a, .inl (D.2 2, n, .inr (.inl f))) H := h
theorem RelO.r {G : Nat → Nat} {D : AD} {s : State} {a n : Nat} {f : Nat → Option Nat} {H : Heap} (h : RelO G D s a (.inr (.inr (.inr (n, f)))) H) : va_at D.1 vwCl (a, .inl (D.2 3, n, .inr (.inr (.inr (.inr f))))) H := h
/-- every cell that the abstract heap knows -/
def Rel (G : Nat → Nat) (D : AD) (s : State) (h : Nat → Option AO) (H : Heap) : Prop := ∀ (a : Nat) (o : AO), h a = some o → RelO G D s a o H
theorem Rel.moved {G : Nat → Nat} {D : AD} {u U : State} {h : Nat → Option AO} {H : Heap} (hvm : u.vm.Alike U.vm) (hr : Rel G D u h H) : Rel G D U h H := fun a o e => (hr a o e).moved hvm
theorem Rel.up {G : Nat → Nat} {D : AD} {s : State} {h : Nat → Option AO} {H H1 : Heap} {a : Nat} {o : AO} (hr : Rel G D s h H) (ho : RelO G D s a o H1) (hq : ∀ q : Nat, q ≠ a → H1[q]? = H[q]?) : Rel G D s (am_up h a o) H1 := by
  intro b o' e
  unfold am_up at e
  split at e
  · cases e
    rename_i hb
    rw [hb]
    exact ho
  · exact (hr b o' e).kept (hq b (by assumption))
theorem Rel.push {G : Nat → Nat} {D : AD} {s : State} {h : Nat → Option AO} {H H1 : Heap} {a : Nat} {o : AO} (hr : Rel G D s h H) (ho : RelO G D s a o H1) (hq : ∀ q : Nat, q < H.size → H1[q]? = H[q]?) : Rel G D s (am_up h a o) H1 := by
  intro b o' e
  unfold am_up at e
  split at e
  · cases e
    rename_i hb
    rw [hb]
    exact ho
  · exact (hr b o' e).kept (hq b (hr b o' e).lt)
theorem Rel.old {G : Nat → Nat} {D : AD} {s : State} {h : Nat → Option AO} {H H1 : Heap} (hr : Rel G D s h H) (hq : ∀ q : Nat, q < H.size → H1[q]? = H[q]?) : Rel G D s h H1 := fun b o e => (hr b o e).kept (hq b (hr b o e).lt)
/-- texts of the throws, by the places of the class that throws -/
def thrTx : List (String × Nat × String) := [("CorridorPlan", 227, "what of all is 0 to 8"), ("CorridorPlan", 283, "there is no such chamber"), ("CorridorPlan", 196, "what of a chamber is 0 to 7"), ("CorridorPlan", 286, "both chambers are the same"), ("CorridorPlan", 198, "what of a way is 0 to 4"), ("CorridorPlan", 288, "the square is not within the plan"), ("CorridorPlan", 229, "what would be is 0 to 2"), ("CorridorPlan", 42, "a chamber has 1 to 6 columns and 1 to 6 rows"), ("CorridorPlan", 47, "the chamber would not be within the plan"), ("CorridorPlan", 55, "there are 6 chambers"), ("CorridorPlan", 62, "the chamber cannot be there"), ("CorridorPlan", 84, "a width is 0 to 3"), ("CorridorPlan", 100, "the square belongs to a chamber"), ("CorridorPlan", 109, "there is no way"), ("CorridorPlan", 121, "doors face at most 0 to 9 squares far"), ("CorridorPlan", 129, "a character code is 33 to 126"), ("CorridorPlan", 134, "the buffer has 60 characters"), ("CorridorPlan", 149, "the buffer does not tell orders as a text"), ("CorridorPlan", 170, "no state is saved"), ("CorridorPlan", 178, "what of a square is 0 or 1")]
def ordTx : List (Nat × Nat × String) := [(10, 72, "none"), (11, 74, "one"), (12, 75, "pair"), (13, 77, "cart"), (14, 79, "!"), (15, 81, "")]
def excN : List String := ["java/lang/IllegalArgumentException", "java/lang/IllegalStateException", "java/lang/IndexOutOfBoundsException"]
/-- what the tables say, at every state of the run -/
def KU (G : Nat → Nat) (D : AD) (U : State) : Prop := va_K D.1 vwCl (am_tys D) U ∧ (∀ w ∈ wn, va_Nw w U) ∧ va_AO "CorridorPlan$Plan" U ∧ (∀ q ∈ thrTx, ∃ a, vk_R q.1 q.2.1 q.2.2 a U) ∧ (∀ q ∈ ordTx, vk_R "CorridorPlan$Orders" q.2.1 q.2.2 (G q.1) U) ∧ (∀ x ∈ excN, ∀ y ∈ excN, x ≠ y → va_Nc x y U)
theorem KU.warm {G : Nat → Nat} {D : AD} {s U : State} (hW : s.WarmedH U.vm) (h : KU G D s) : KU G D U := by
  obtain ⟨h1, h2, h3, h4, h5, h6⟩ := h
  refine ⟨va_K.moved hW.alike h1, fun w hw => wn_warm (List.mem_filter.mp hw).2 hW (h2 w hw), va_AO.moved hW.alike h3, fun q hq => ?_, fun q hq => vk_R.warm hW (h5 q hq), fun x hx y hy hne => va_Nc.moved hW.alike (h6 x hx y hy hne)⟩
  obtain ⟨a, ha⟩ := h4 q hq
  exact ⟨a, vk_R.warm hW ha⟩
/-- the value of the field that is never looked at -/
def am_sf (G : Nat → Nat) : Option Nat := if G 4 = 0 then none else some (G 5)
def ExtH (G : Nat → Nat) (U : State) (H : Heap) : Prop :=
  va_Z "CorridorPlan" "SIDE_X" "[I" (.ref (G 2)) (am_A G) U H ∧ va_Z "CorridorPlan" "SIDE_Y" "[I" (.ref (G 3)) (am_A G) U H ∧
  va_Z "java/lang/String" "COMPACT_STRINGS" "Z" (.int 1) (am_A G) U H ∧ va_Z "jdk/internal/util/Preconditions" "SIOOBE_FORMATTER" "Ljava/util/function/BiFunction;" (cv (.inr (.inr (.inr (am_sf G))))) (am_A G) U H ∧
  vx_Zq Bundle.tN "UNASSIGNED_STACK" Bundle.steD (am_A G) U H ∧ vx_Zq Bundle.tN "SUPPRESSED_SENTINEL" Bundle.listD (am_A G) U H
theorem ExtH.kept {G : Nat → Nat} {U : State} {H H1 : Heap} (h : ExtH G U H) (hq : ∀ a : Nat, a < H.size → ¬ am_A G a → H1[a]? = H[a]?) : ExtH G U H1 := by
  obtain ⟨h1, h2, h3, h4, h5, h6⟩ := h
  exact ⟨h1.kept hq, h2.kept hq, h3.kept hq, h4.kept hq, h5.kept hq, h6.kept hq⟩
theorem ExtH.moved {G : Nat → Nat} {u U : State} {H : Heap} (hvm : u.vm.Alike U.vm) (h : ExtH G u H) : ExtH G U H := by
  obtain ⟨h1, h2, h3, h4, h5, h6⟩ := h
  exact ⟨va_Z.moved hvm h1, va_Z.moved hvm h2, va_Z.moved hvm h3, va_Z.moved hvm h4, vx_Zq.moved hvm h5, vx_Zq.moved hvm h6⟩
/-- the next address is the heap's end -/
def Sz (σ : AS) (H : Heap) : Prop := σ.2.1 = 0 ∨ H.size = σ.2.1
/-- the locals -/
def LR (la : Array Slot) (nL : Nat) (ls : AL) : Prop := la.size = nL ∧ lv_wf la ∧ ls.length = nL ∧ ∀ (k : Nat) (v : AV), ls[k]? = some (some v) → la[k]? = some (.val (cv v))
theorem am_get_some {ls : AL} {k : Nat} {v : AV} (h : am_get ls k = some v) : ls[k]? = some (some v) := by
  unfold am_get at h
  split at h
  · cases h
    assumption
  · cases h
theorem LR.get {la : Array Slot} {nL : Nat} {ls : AL} (h : LR la nL ls) {k : Nat} {v : AV} (hk : am_get ls k = some v) : la[k]? = some (.val (cv v)) := h.2.2.2 k v (am_get_some hk)
theorem cv_cat (v : AV) : (cv v).category = am_cat v := by
  rcases v with i | x | x | _ | a <;> rfl
theorem cv_cats : ∀ l : List AV, ((l.map cv).map fun v => v.category).sum = am_cats l
  | [] => rfl
  | v :: l => by
    have := cv_cats l
    simp only [List.map_cons, List.sum_cons, am_cats, cv_cat] at this ⊢
    omega
/-- the known locals as a list -/
def am_kn (ls : AL) : List (Nat × Value) := (List.range ls.length).filterMap fun k => match ls[k]? with
  | some (some v) => some (k, cv v)
  | _ => none
theorem am_kn_mem {ls : AL} {k : Nat} {v : AV} (h : ls[k]? = some (some v)) : (k, cv v) ∈ am_kn ls := by
  refine List.mem_filterMap.mpr ⟨k, List.mem_range.mpr (List.getElem?_eq_some_iff.mp h).1, ?_⟩
  rw [h]
theorem am_kn_of {ls : AL} {q : Nat × Value} (h : q ∈ am_kn ls) : ∃ v, ls[q.1]? = some (some v) ∧ q.2 = cv v := by
  obtain ⟨k, -, hk⟩ := List.mem_filterMap.mp h
  split at hk
  · cases hk
    exact ⟨_, by assumption, rfl⟩
  · cases hk
theorem LR.has {la : Array Slot} {nL : Nat} {ls : AL} (h : LR la nL ls) : lv_has la nL (am_kn ls) := ⟨h.1, h.2.1, fun q hq => by
  obtain ⟨v, h1, h2⟩ := am_kn_of hq
  rw [h2]
  exact h.2.2.2 _ _ h1⟩
theorem am_pre_cat {ls : AL} {k : Nat} (h : am_pre ls (k + 1) = true) {v : AV} (hv : ls[k]? = some (some v)) : (cv v).category = 1 := by
  unfold am_pre at h
  have e : am_get ls k = some v := by unfold am_get; rw [hv]
  simp only [e] at h
  rw [cv_cat]
  exact eq_of_beq h
theorem LR.set1 {la la' : Array Slot} {nL : Nat} {ls ls' : AL} {k : Nat} {v : AV} (h : LR la nL ls) (hs : am_set1 ls k v = some ls') (hh : lv_has la' nL ((k, cv v) :: (am_kn ls).filter (fun q => !(q.1 == k) && !(q.1 + 1 == k && q.2.category == 2)))) : LR la' nL ls' := by
  unfold am_set1 at hs
  split at hs
  · rename_i hc
    simp only [Bool.and_eq_true, decide_eq_true_eq] at hc
    cases hs
    refine ⟨hh.1, hh.2.1, by simpa using h.2.2.1, fun j w hj => ?_⟩
    by_cases e : j = k
    · subst e
      rw [List.getElem?_set_self hc.1] at hj
      cases hj
      exact hh.2.2 (j, cv v) List.mem_cons_self
    · rw [List.getElem?_set_ne (Ne.symm e)] at hj
      refine hh.2.2 (j, cv w) (List.mem_cons_of_mem _ (List.mem_filter.mpr ⟨am_kn_mem hj, ?_⟩))
      have e1 : (j == k) = false := by simpa using e
      have e2 : (j + 1 == k && (cv w).category == 2) = false := by
        by_cases e3 : j + 1 = k
        · subst e3
          rw [am_pre_cat hc.2 hj]
          simp
        · have : (j + 1 == k) = false := by simpa using e3
          rw [this]; rfl
      simp [e1, e2]
  · cases hs
theorem LR.set2 {la la' : Array Slot} {nL : Nat} {ls ls' : AL} {k : Nat} {v : AV} (h : LR la nL ls) (hs : am_set2 ls k v = some ls') (hh : lv_has la' nL ((k, cv v) :: (am_kn ls).filter (fun q => !(q.1 == k) && (!(q.1 == k + 1) && !(q.1 + 1 == k && q.2.category == 2))))) : LR la' nL ls' := by
  unfold am_set2 at hs
  split at hs
  · rename_i hc
    simp only [Bool.and_eq_true, decide_eq_true_eq] at hc
    cases hs
    refine ⟨hh.1, hh.2.1, by simpa using h.2.2.1, fun j w hj => ?_⟩
    by_cases e0 : j = k + 1
    · subst e0
      rw [List.getElem?_set_self (by simpa using hc.1)] at hj
      cases hj
    rw [List.getElem?_set_ne (Ne.symm e0)] at hj
    by_cases e : j = k
    · subst e
      rw [List.getElem?_set_self (by omega)] at hj
      cases hj
      exact hh.2.2 (j, cv v) List.mem_cons_self
    · rw [List.getElem?_set_ne (Ne.symm e)] at hj
      refine hh.2.2 (j, cv w) (List.mem_cons_of_mem _ (List.mem_filter.mpr ⟨am_kn_mem hj, ?_⟩))
      have e1 : (j == k) = false := by simpa using e
      have e4 : (j == k + 1) = false := by simpa using e0
      have e2 : (j + 1 == k && (cv w).category == 2) = false := by
        by_cases e3 : j + 1 = k
        · subst e3
          rw [am_pre_cat hc.2 hj]
          simp
        · have : (j + 1 == k) = false := by simpa using e3
          rw [this]; rfl
      simp [e1, e2, e4]
  · cases hs
theorem LR.set1_lt {ls ls' : AL} {k : Nat} {v : AV} (hs : am_set1 ls k v = some ls') : k < ls.length := by
  unfold am_set1 at hs
  split at hs
  · rename_i hc
    simp only [Bool.and_eq_true, decide_eq_true_eq] at hc
    exact hc.1
  · cases hs
theorem LR.set2_lt {ls ls' : AL} {k : Nat} {v : AV} (hs : am_set2 ls k v = some ls') : k + 1 < ls.length := by
  unfold am_set2 at hs
  split at hs
  · rename_i hc
    simp only [Bool.and_eq_true, decide_eq_true_eq] at hc
    exact hc.1
  · cases hs
/-- ints by their numbers -/
theorem ci_toInt {i : Int} (h : inR i) : (Int32.ofInt i).toInt = i := by
  rw [Int32.toInt_ofInt]
  have e : Int32.size = 4294967296 := rfl
  rw [e]
  exact Int.bmod_eq_of_le (by have := h.1; omega) (by have := h.2; omega)
theorem ci_lt {a b : Int} (ha : inR a) (hb : inR b) : Int32.ofInt a < Int32.ofInt b ↔ a < b := by
  rw [Int32.lt_iff_toInt_lt, ci_toInt ha, ci_toInt hb]
theorem ci_le {a b : Int} (ha : inR a) (hb : inR b) : Int32.ofInt a ≤ Int32.ofInt b ↔ a ≤ b := by
  rw [Int32.le_iff_toInt_le, ci_toInt ha, ci_toInt hb]
theorem ci_eq {a b : Int} (ha : inR a) (hb : inR b) : Int32.ofInt a = Int32.ofInt b ↔ a = b := by
  rw [← Int32.toInt_inj, ci_toInt ha, ci_toInt hb]
theorem ci_clamp {j : Int} (h0 : 0 ≤ j) (h1 : j ≤ 2147483647) : (Int32.ofInt j).toNatClampNeg = j.toNat := by
  show (Int32.ofInt j).toInt.toNat = _
  rw [ci_toInt ⟨by omega, h1⟩]
theorem ci_in {j : Int} {n : Nat} (h0 : 0 ≤ j) (h1 : j ≤ 2147483647) (hn : j < n) : vp_in (Int32.ofInt j) n := by
  rintro (h | h)
  · have := (ci_lt (a := j) (b := 0) ⟨by omega, h1⟩ ⟨by omega, by omega⟩).mp h
    omega
  · rw [ci_clamp h0 h1] at h
    omega
theorem ci_ofToInt (x : Int32) : Int32.ofInt x.toInt = x := Int32.ofInt_toInt x
