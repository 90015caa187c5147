/-! THE LAW FROM ITS ENTRY: all that is left is a run of the tables -/
theorem RelO.g {G G' : Nat → Nat} {D : AD} {s : State} {a : Nat} {o : AO} {H : Heap} (h : G 0 = G' 0) (r : RelO G D s a o H) : RelO G' D s a o H := by
  have e : am_A G = am_A G' := by
    unfold am_A
    rw [h]
  unfold RelO at r ⊢
  rw [← e]
  exact r
def PureOK (G : Nat → Nat) (h0 : Nat → Option AO) : Prop := ∃ (n : Nat) (σF : AS), am_run G n am_nM 0 (am_ini [vR (G 1)] 9) [] (h0, (G 0, (0, 0))) = some (.inl (some (vI 1)), σF) ∧ σF.2.2.1 ≤ 601024 ∧ σF.2.2.2 ≤ 7293034
theorem le_end {G : Nat → Nat} {pc : Nat} {ls : AL} {st : List AV} {σ : AS} (h : am_step G am_nM pc ls st σ = some (.inr (.inr (.inl (some (vI 1)))))) : decode code pc = .ok (.ireturn, 1) ∧ st = [vI 1] := by
  obtain ⟨ins, ln, hd, hi⟩ := am_step_eq h
  obtain ⟨rfl, hh⟩ := am_ins_ret hi
  have hR0 : mR am_nM = some .boolean := rfl
  rcases hh with ⟨rfl, h2⟩ | ⟨rfl, h2⟩ | ⟨rfl, h2⟩ | ⟨rfl, h2⟩ | ⟨rfl, h2, h3, h4⟩
  · obtain ⟨w, ty, rfl, hw, hR, hqq, hfit⟩ := am_ret_at h2
    cases hw
    exact ⟨hd, rfl⟩
  · obtain ⟨w, ty, rfl, hw, hR, hqq, hfit⟩ := am_ret_at h2
    cases hR0.symm.trans hR
    cases hqq
  · obtain ⟨w, ty, rfl, hw, hR, hqq, hfit⟩ := am_ret_at h2
    cases hR0.symm.trans hR
    cases hqq
  · obtain ⟨w, ty, rfl, hw, hR, hqq, hfit⟩ := am_ret_at h2
    cases hR0.symm.trans hR
    cases hqq
  · cases h4
theorem le_len {xs : Nat → Int32} (L : Nat) : ((List.range L).map fun j => (xs j).toInt).length = L := by simp
theorem le_at {xs : Nat → Int32} {L j : Nat} (h : j < L) : ((List.range L).map fun j => (xs j).toInt).getD j 0 = (xs j).toInt := by
  rw [le_getD (by rw [le_len]; exact h)]
  simp
set_option maxHeartbeats 4000000 in
theorem le_start {p : Program} {l : Launch} {e : Env} {s : State} {m : MethodId} {below : List Frame} {meth : Method} {c : Code} (hst : l.stackTraces = false) {b L : Nat} {xs : Nat → Int32} (hL : L ≤ 2560)
    (hx : p.tables.exec = Jvm.exec) (hb : c.code = code) (hr : meth.sig.returnType = ret) (hml : c.maxLocals = 9) (hown : s.vm.findClass "CorridorPlanLaw" = some m.cls) (hts : ∀ w ∈ lw_tbl, w.before #[Value.ref b] s = true) (hX : va_X b L xs s s.heap) (hbl : b < s.heap.size) (hlk : meth.locks = false) (hgv : (Jvm.Cond.and given_1 narrow_1).before #[Value.ref b] s = true) (hF : s.Fit)
    (hpure : ∀ (G : Nat → Nat) (h0 : Nat → Option AO), StartH G h0 L xs → PureOK G h0) {Q : State → Prop}
    (hend : ∀ (pc : Nat) (la : Array Slot) (H : Heap), decode code pc = .ok (.ireturn, 1) → W p l e room_1 s m #[Value.ref b] below meth c H [] 601024 7293034 Q (F0 m pc la [.int 1])) :
    W p l e room_1 s m #[Value.ref b] below meth c s.heap [] 0 0 Q (entryFrame m ([Value.ref b] : List Value).toArray 9) := by
  have hn := flat_of_before _ hgv
  obtain ⟨D, hK⟩ := le_tab hts
  have hcO : s.vm.findClass "CorridorPlan$Orders" = some (D.1.1 0) := (hK.1 0 _ rfl).2.1
  have hcC : s.vm.findClass "CorridorPlan" = some (D.1.1 4) := (hK.1 4 _ rfl).2.1
  have hA : ∀ a : Nat, a < s.heap.size → ¬ am_A (fun _ => s.heap.size) a := fun a h => Nat.not_le.mpr h
  obtain ⟨h0, hh1, hh2⟩ := le_heap (fun _ => s.heap.size) D hF
  obtain ⟨x, hx1, hx2⟩ := le_side (G := fun _ => s.heap.size) (D := D) (C := "CorridorPlan") (n := "SIDE_X") [1, -1, 0, 0] (by decide) (by decide) hA (hn _ (by decide +kernel)) (hn _ (by decide +kernel)) (fun j hj => hn _ ((by decide +kernel : ∀ j, j < 4 → Cond.eq (.elem (.static "CorridorPlan" "SIDE_X" "[I") (.int (Int32.ofNat j))) (.int (Int32.ofInt ([1, -1, 0, 0].getD j 0))) ∈ flatC (Cond.and given_1 narrow_1)) j hj))
  obtain ⟨y, hy1, hy2⟩ := le_side (G := fun _ => s.heap.size) (D := D) (C := "CorridorPlan") (n := "SIDE_Y") [0, 0, 1, -1] (by decide) (by decide) hA (hn _ (by decide +kernel)) (hn _ (by decide +kernel)) (fun j hj => hn _ ((by decide +kernel : ∀ j, j < 4 → Cond.eq (.elem (.static "CorridorPlan" "SIDE_Y" "[I") (.int (Int32.ofNat j))) (.int (Int32.ofInt ([0, 0, 1, -1].getD j 0))) ∈ flatC (Cond.and given_1 narrow_1)) j hj))
  obtain ⟨a0, t0, r0⟩ := le_strR hcO (hts (.stringRef "CorridorPlan$Orders" 72 "none") (by decide +kernel))
  obtain ⟨a1, t1, r1⟩ := le_strR hcO (hts (.stringRef "CorridorPlan$Orders" 74 "one") (by decide +kernel))
  obtain ⟨a2, t2, r2⟩ := le_strR hcO (hts (.stringRef "CorridorPlan$Orders" 75 "pair") (by decide +kernel))
  obtain ⟨a3, t3, r3⟩ := le_strR hcO (hts (.stringRef "CorridorPlan$Orders" 77 "cart") (by decide +kernel))
  obtain ⟨a4, t4, r4⟩ := le_strR hcO (hts (.stringRef "CorridorPlan$Orders" 79 "!") (by decide +kernel))
  obtain ⟨a5, t5, r5⟩ := le_strR hcO (hts (.stringRef "CorridorPlan$Orders" 81 "") (by decide +kernel))
  have s0 := le_str 72 a0 [110, 111, 110, 101] (by decide) (by decide) hA t0 (hn _ (by decide +kernel)) (hn _ (by decide +kernel)) (hn _ (by decide +kernel)) (hn _ (by decide +kernel)) (fun j hj => hn _ ((by decide +kernel : ∀ j, j < 4 → Cond.eq (.elem (.field (.string "CorridorPlan$Orders" 72) "java/lang/String" "value" "[B") (.int (Int32.ofNat j))) (.int (Int32.ofInt ([110, 111, 110, 101].getD j 0))) ∈ flatC (Cond.and given_1 narrow_1)) j hj)) hh2
  have s1 := le_str 74 a1 [111, 110, 101] (by decide) (by decide) hA t1 (hn _ (by decide +kernel)) (hn _ (by decide +kernel)) (hn _ (by decide +kernel)) (hn _ (by decide +kernel)) (fun j hj => hn _ ((by decide +kernel : ∀ j, j < 3 → Cond.eq (.elem (.field (.string "CorridorPlan$Orders" 74) "java/lang/String" "value" "[B") (.int (Int32.ofNat j))) (.int (Int32.ofInt ([111, 110, 101].getD j 0))) ∈ flatC (Cond.and given_1 narrow_1)) j hj)) hh2
  have s2 := le_str 75 a2 [112, 97, 105, 114] (by decide) (by decide) hA t2 (hn _ (by decide +kernel)) (hn _ (by decide +kernel)) (hn _ (by decide +kernel)) (hn _ (by decide +kernel)) (fun j hj => hn _ ((by decide +kernel : ∀ j, j < 4 → Cond.eq (.elem (.field (.string "CorridorPlan$Orders" 75) "java/lang/String" "value" "[B") (.int (Int32.ofNat j))) (.int (Int32.ofInt ([112, 97, 105, 114].getD j 0))) ∈ flatC (Cond.and given_1 narrow_1)) j hj)) hh2
  have s3 := le_str 77 a3 [99, 97, 114, 116] (by decide) (by decide) hA t3 (hn _ (by decide +kernel)) (hn _ (by decide +kernel)) (hn _ (by decide +kernel)) (hn _ (by decide +kernel)) (fun j hj => hn _ ((by decide +kernel : ∀ j, j < 4 → Cond.eq (.elem (.field (.string "CorridorPlan$Orders" 77) "java/lang/String" "value" "[B") (.int (Int32.ofNat j))) (.int (Int32.ofInt ([99, 97, 114, 116].getD j 0))) ∈ flatC (Cond.and given_1 narrow_1)) j hj)) hh2
  have s4 := le_str 79 a4 [33] (by decide) (by decide) hA t4 (hn _ (by decide +kernel)) (hn _ (by decide +kernel)) (hn _ (by decide +kernel)) (hn _ (by decide +kernel)) (fun j hj => hn _ ((by decide +kernel : ∀ j, j < 1 → Cond.eq (.elem (.field (.string "CorridorPlan$Orders" 79) "java/lang/String" "value" "[B") (.int (Int32.ofNat j))) (.int (Int32.ofInt ([33].getD j 0))) ∈ flatC (Cond.and given_1 narrow_1)) j hj)) hh2
  have s5 := le_str 81 a5 [] (by decide) (by decide) hA t5 (hn _ (by decide +kernel)) (hn _ (by decide +kernel)) (hn _ (by decide +kernel)) (hn _ (by decide +kernel)) (fun j hj => absurd hj (Nat.not_lt_zero _)) hh2
  obtain ⟨z4, z5, hz⟩ : ∃ z4 z5 : Nat, va_Z "jdk/internal/util/Preconditions" "SIOOBE_FORMATTER" "Ljava/util/function/BiFunction;" (cv (.inr (.inr (.inr (if z4 = 0 then none else some z5))))) (am_A fun _ => s.heap.size) s s.heap := by
    rcases va_Zqof (hts (.laysStatic "jdk/internal/util/Preconditions" "SIOOBE_FORMATTER" "Ljava/util/function/BiFunction;") (by decide +kernel)) (hts (.initialized "jdk/internal/util/Preconditions") (by decide +kernel)) (hn (.isRef (.static "jdk/internal/util/Preconditions" "SIOOBE_FORMATTER" "Ljava/util/function/BiFunction;")) (by decide +kernel)) hA with h | ⟨t, h⟩
    · exact ⟨0, 0, h⟩
    · exact ⟨1, t, h⟩
  have hscr : RelO (fun _ => s.heap.size) D s b (oI 2 ((List.range L).map fun j => (xs j).toInt).length (fun j => ((List.range L).map fun j => (xs j).toInt).getD j 0)) s.heap := by
    obtain ⟨cell, q1, q2, q3, q4, q5⟩ := hX
    show va_T .int b _ _ _ _ _
    rw [le_len]
    refine ⟨cell, q1, q2, q3, by omega, by rw [q4], fun j hj => ?_, hA b hbl⟩
    rw [q5 j hj]
    show _ = some (Value.int (Int32.ofInt (((List.range L).map fun j => (xs j).toInt).getD j 0)))
    rw [le_at hj, ci_ofToInt]
  have hsc := hh2 b _ (Or.inl ⟨_, by rw [le_len]; omega, fun z hz => by
    obtain ⟨j, -, rfl⟩ := List.mem_map.mp hz
    exact ⟨Int32.le_toInt _, by have := Int32.toInt_lt (xs j); omega⟩, Or.inl rfl⟩) hscr
  obtain ⟨G, hG0, hG1, hG2, hG3, hG4, hG5, hG10, hG11, hG12, hG13, hG14, hG15⟩ : ∃ G : Nat → Nat, G 0 = s.heap.size ∧ G 1 = b ∧ G 2 = x ∧ G 3 = y ∧ G 4 = z4 ∧ G 5 = z5 ∧ G 10 = a0 ∧ G 11 = a1 ∧ G 12 = a2 ∧ G 13 = a3 ∧ G 14 = a4 ∧ G 15 = a5 :=
    ⟨fun k => match k with | 0 => s.heap.size | 1 => b | 2 => x | 3 => y | 4 => z4 | 5 => z5 | 10 => a0 | 11 => a1 | 12 => a2 | 13 => a3 | 14 => a4 | _ => a5, rfl, rfl, rfl, rfl, rfl, rfl, rfl, rfl, rfl, rfl, rfl, rfl⟩
  have hAG : am_A (fun _ => s.heap.size) = am_A G := by
    unfold am_A
    rw [hG0]
  rw [hAG] at hA hz
  have hrel : Rel G D s h0 s.heap := fun a o h => RelO.g hG0.symm (hh1 a o h).2
  have hstart : StartH G h0 L xs := by
    refine ⟨fun a o h => by rw [hG0]; exact (hh1 a o h).2.lt, by rw [hG0]; omega, ⟨_, by rw [hG1, hsc, le_len], fun j hj => ?_⟩, by rw [hG2]; exact hh2 _ _ (Or.inl ⟨[1, -1, 0, 0], by decide, by decide, Or.inl rfl⟩) hx2, by rw [hG3]; exact hh2 _ _ (Or.inl ⟨[0, 0, 1, -1], by decide, by decide, Or.inl rfl⟩) hy2, ?_⟩
    · exact le_at hj
    · rw [hG10, hG11, hG12, hG13, hG14, hG15]
      exact ⟨s0, s1, s2, s3, s4, s5⟩
  have hKU : KU G D s := by
    refine ⟨hK, fun w hw => va_Nw.of (le_wn (List.mem_filter.mp hw).2) (hts w (List.mem_filter.mp hw).1), va_AO.of (hts (.arrayOver (.object "CorridorPlan$Plan")) (by decide +kernel)), fun q hq => ?_, fun q hq => ?_, fun a ha b hb hne => va_Nc.of (hn _ (le_exc a ha b hb hne))⟩
    · obtain ⟨a, -, h⟩ := le_strR (by rw [le_thr2 q hq]; exact hcC) (hts _ (le_thr1 q hq))
      exact ⟨a, h⟩
    · simp only [ordTx, List.mem_cons, List.not_mem_nil, or_false] at hq
      rcases hq with rfl | rfl | rfl | rfl | rfl | rfl
      · rw [hG10]; exact r0
      · rw [hG11]; exact r1
      · rw [hG12]; exact r2
      · rw [hG13]; exact r3
      · rw [hG14]; exact r4
      · rw [hG15]; exact r5
  have hE : ExtH G s s.heap := by
    refine ⟨?_, ?_, va_Zof (hts (.laysStatic "java/lang/String" "COMPACT_STRINGS" "Z") (by decide +kernel)) (hts (.initialized "java/lang/String") (by decide +kernel)) (va_eqi (hn (.eq (.static "java/lang/String" "COMPACT_STRINGS" "Z") (.int 1)) (by decide +kernel))) hA, ?_, vx_Zqof (hts (.laysStatic "java/lang/Throwable" "UNASSIGNED_STACK" "[Ljava/lang/StackTraceElement;") (by decide +kernel)) (hts (.initialized "java/lang/Throwable") (by decide +kernel)) (hn (.isRef (.static "java/lang/Throwable" "UNASSIGNED_STACK" "[Ljava/lang/StackTraceElement;")) (by decide +kernel)) hA,
      vx_Zqof (hts (.laysStatic "java/lang/Throwable" "SUPPRESSED_SENTINEL" "Ljava/util/List;") (by decide +kernel)) (hts (.initialized "java/lang/Throwable") (by decide +kernel)) (hn (.isRef (.static "java/lang/Throwable" "SUPPRESSED_SENTINEL" "Ljava/util/List;")) (by decide +kernel)) hA⟩
    · rw [hG2]
      exact va_Zref (hts (.laysStatic "CorridorPlan" "SIDE_X" "[I") (by decide +kernel)) (hts (.initialized "CorridorPlan") (by decide +kernel)) hx1 hA
    · rw [hG3]
      exact va_Zref (hts (.laysStatic "CorridorPlan" "SIDE_Y" "[I") (by decide +kernel)) (hts (.initialized "CorridorPlan") (by decide +kernel)) hy1 hA
    · unfold am_sf
      rw [hG4, hG5]
      exact hz
  have F : FrameOK G D am_nM p l room_1 s m #[Value.ref b] meth c := ⟨hx, hb, hml, hown, fun w hw => hts w (List.mem_filter.mp hw).1, hKU, hE, hst, hr, hlk, Or.inr (by decide), Or.inr rfl, Nat.le_of_ble_eq_true rfl, Nat.le_of_ble_eq_true rfl, by rw [hG0]; exact Nat.le_refl _⟩
  obtain ⟨n, σF, hrun, hc1, hc2⟩ := hpure G h0 hstart
  rw [hG1, hG0] at hrun
  rw [lg_entry_eq]
  refine W.cs (Nat.sub_self 0).symm (Nat.sub_self 0).symm ?_
  have hdyn : Dyn G D s 0 0 (h0, (s.heap.size, (0, 0))) s.heap [] := ⟨hrel, Or.inr rfl, va_S.rf, Nat.le_refl _, Nat.le_refl _⟩
  refine am_sim hst n am_nM 0 (am_ini [vR b] 9) [] (h0, (s.heap.size, (0, 0))) σF _ hrun p e room_1 s m #[Value.ref b] below meth c 0 0 Q _ s.heap [] F hdyn (am_entry (as := [vR b]) (by show 1 ≤ 9; omega)) hc1 hc2 ?_ ?_ ?_
  · intro v hv pc ls st la H locs hstep hd
    cases hv
    obtain ⟨hdec, rfl⟩ := le_end hstep
    have hS := hd.2.2.1
    refine va_forget (fun q hq => ?_) (W.widen hc1 hc2 (hend pc la H hdec))
    have := hS.2.2 q hq
    unfold am_A at this
    rwa [hG0] at this
  · intro x9 h9
    cases h9
  · intro x9 h9
    cases h9
