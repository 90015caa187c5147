/-! THE RUN against the machine: every run -/
def Sim (l : Launch) (G : Nat → Nat) (D : AD) (n : Nat) : Prop :=
  ∀ (i pc : Nat) (ls : AL) (st : List AV) (σ σF : AS) (res : Option AV ⊕ Nat), am_run G n i pc ls st σ = some (res, σF) →
  ∀ (p : Program) (e : Env) (R : Room) (s : State) (m : MethodId) (args : Array Value) (below : List Frame) (meth : Method) (c : Code) (c0 d0 : Nat) (Q : State → Prop) (la : Array Slot) (H : Heap) (locs : List Loc),
  FrameOK G D i p l R s m args meth c → Dyn G D s c0 d0 σ H locs → LR la (mX i) ls → σF.2.2.1 - c0 ≤ R.cells → σF.2.2.2 - d0 ≤ R.slots →
  (∀ v, res = .inl v → ∀ (pc : Nat) (ls : AL) (st : List AV) (la : Array Slot) (H : Heap) (locs : List Loc), am_step G i pc ls st σF = some (.inr (.inr (.inl v))) → Dyn G D s c0 d0 σF H locs → W p l e R s m args below meth c H locs (σF.2.2.1 - c0) (σF.2.2.2 - d0) Q (F0 m pc la (st.map cv))) →
  (∀ x, res = .inr x → ∀ (pc : Nat) (ls : AL) (st : List AV) (σ : AS) (la : Array Slot) (H : Heap) (locs : List Loc), am_step G i pc ls st σ = some (.inr (.inr (.inr (x, σF)))) → LR la (mX i) ls → Dyn G D s c0 d0 σ H locs → W p l e R s m args below meth c H locs (σ.2.2.1 - c0) (σ.2.2.2 - d0) Q (F0 m pc la (st.map cv))) →
  (∀ x, res = .inr x → mH i = [] → ∀ (pc : Nat) (la : Array Slot) (rest : List Value) (H : Heap) (locs : List Loc) (q : Addr) (ce : Cell), Dyn G D s c0 d0 σF H locs → H[q]? = some ce → ce.vm = .none → s.vm.findClass (am_xn x) = some ce.cls → vx_W p l e R s m args below meth c H locs (σF.2.2.1 - c0) (σF.2.2.2 - d0) Q (F0 m pc la rest) q) →
  W p l e R s m args below meth c H locs (σ.2.2.1 - c0) (σ.2.2.2 - d0) Q (F0 m pc la (st.map cv))
def am_so : Option AV → Slot
  | some v => .val (cv v)
  | none => .second
theorem am_flat_sl : ∀ as : List AV, lg_sl (as.map cv) = (am_flat as).map am_so
  | [] => rfl
  | v :: as => by
    have ih := am_flat_sl as
    unfold lg_sl at ih ⊢
    simp only [List.map_cons, List.flatMap_cons, cv_cat, am_flat]
    by_cases h : am_cat v = 2
    · rw [if_pos h, if_pos h, ih]
      rfl
    · rw [if_neg h, if_neg h, ih]
      rfl
theorem am_entry {as : List AV} {n : Nat} (h : (am_flat as).length ≤ n) : LR ((lg_sl (as.map cv) ++ List.replicate (n - (lg_sl (as.map cv)).length) Slot.unset).toArray) n (am_ini as n) := by
  have hlen : (lg_sl (as.map cv)).length = (am_flat as).length := by rw [am_flat_sl, List.length_map]
  have hh := lv_entry (as.map cv) (n := n) (by rw [hlen]; exact h)
  refine ⟨hh.1, hh.2.1, by unfold am_ini; simp; omega, fun k v hk => ?_⟩
  unfold am_ini at hk
  by_cases hlt : k < (am_flat as).length
  · rw [List.getElem?_append_left hlt] at hk
    have h1 : (lg_sl (as.map cv))[k]? = some (.val (cv v)) := by
      rw [am_flat_sl, List.getElem?_map, hk]
      rfl
    show ((lg_sl (as.map cv) ++ List.replicate (n - (lg_sl (as.map cv)).length) Slot.unset).toArray)[k]? = _
    rw [List.getElem?_toArray, List.getElem?_append_left (by rw [hlen]; exact hlt), h1]
  · rw [List.getElem?_append_right (by omega), List.getElem?_replicate] at hk
    split at hk <;> cases hk
theorem am_ct {l : Launch} {G : Nat → Nat} {D : AD} {n j : Nat} {as : List AV} {σ σ' : AS} {res : Option AV ⊕ Nat} (hst : l.stackTraces = false) (hS : Sim l G D n) (hj : j < am_nM) (hfl : (am_flat as).length ≤ mX j) (hrun : am_run G n j 0 (am_ini as (mX j)) [] σ = some (res, σ')) : ACt l G D j as σ res σ' := by
  have hle := am_run_le n hrun
  obtain ⟨hcls, hoc13, hoc8⟩ := mq_cls j hj
  have hpl : plainName (mY j).cls = true := by rw [hcls]; exact mq_plain _ hoc13 hoc8
  have key : ∀ (p : Program) (e : Env) (s : State) (m : MethodId) (below : List Frame) (meth : Method) (c : Code), p.tables.exec = Jvm.exec → c.code = mB j → c.maxLocals = mX j → s.vm.findClass (mY j).cls = some m.cls → (∀ w ∈ aWs j, w.before (as.map cv).toArray s = true) → meth.sig.returnType = mR j → meth.locks = false → meth.name = (mY j).name → c.exceptionTable.toList = tableOf (mH j) → AInv G D σ s →
      W p l e { frames := mF j, cells := σ'.2.2.1 - σ.2.2.1, slots := σ'.2.2.2 - σ.2.2.2, locals := mL j } s m (as.map cv).toArray below meth c s.heap [] 0 0 (vx_MQ below (AQ G D res σ') (AX G D res σ') (as.map cv).toArray s (σ'.2.2.1 - σ.2.2.1) (σ'.2.2.2 - σ.2.2.2) (am_A G)) (entryFrame m (as.map cv).toArray (mX j)) := by
    intro p e s m below meth c hx hb hml hown hts hret hlk hnm hexc hinv
    obtain ⟨hKU, hE, hG, hsz, hrel⟩ := hinv
    rw [lg_entry_eq]
    refine W.cs (Nat.sub_self σ.2.2.1).symm (Nat.sub_self σ.2.2.2).symm ?_
    have F : FrameOK G D j p l { frames := mF j, cells := σ'.2.2.1 - σ.2.2.1, slots := σ'.2.2.2 - σ.2.2.2, locals := mL j } s m (as.map cv).toArray meth c := ⟨hx, hb, hml, by rw [← hcls]; exact hown, fun w hw => hts w (List.mem_cons_of_mem _ hw), hKU, hE, hst, hret, hlk, Or.inl hnm, Or.inl hexc, Nat.le_refl _, Nat.le_refl _, hG⟩
    have hdyn : Dyn G D s σ.2.2.1 σ.2.2.2 σ s.heap [] := ⟨hrel, hsz, va_S.rf, Nat.le_refl _, Nat.le_refl _⟩
    refine hS j 0 (am_ini as (mX j)) [] σ σ' res hrun p e _ s m _ below meth c σ.2.2.1 σ.2.2.2 _ _ s.heap [] F hdyn (am_entry hfl) (Nat.le_refl _) (Nat.le_refl _) ?_ ?_ ?_
    · intro v hv pc ls st la H locs hstep hd
      exact am_end F hstep hd hv
    · intro x hv pc ls st σ9 la H locs hstep hl hd
      exact am_throw F hstep hl hd hv (Nat.le_refl _) (Nat.le_refl _)
    · intro x hv hH pc la rest H locs q ce hd hq hcv hcl
      exact am_past F (by unfold am_nM at hj ⊢; omega) hH hd hv hq hcv hcl
  unfold ACt
  by_cases hemp : (mH j).isEmpty = true
  · refine vx_ofW (cc := mB j) (maxL := mX j) (ret := mR j) (ws' := wl) hpl (by unfold aWs; rw [code_in hemp]) ?_
    intro p e s m args below meth c s₁ B hml ht hv
    obtain ⟨rfl, hinv⟩ := hv
    refine key p e s m below meth c B.exec B.bytes hml (findClass_of_methodNamed B.named) (atoms_spec (ws := aWs j) B.pre) B.returns B.notSynchronized (name_of_methodNamed B.named B.method).1 ?_ hinv
    rw [List.isEmpty_iff.mp hemp]
    exact List.eq_nil_iff_forall_not_mem.mpr ht
  · refine vx_ofWH (cc := mB j) (maxL := mX j) (ret := mR j) (hh := mH j) (ws' := wl) hpl (by unfold aWs; rw [codew_in hemp]) ?_
    intro p e s m args below meth c s₁ B hml hv
    obtain ⟨rfl, hinv⟩ := hv
    have hts := atoms_spec (ws := aWs j) B.pre
    refine key p e s m below meth c B.exec B.bytes hml (findClass_of_methodNamed B.named) hts B.returns B.notSynchronized (name_of_methodNamed B.named B.method).1 ?_ hinv
    have h1 := hts (aHd j) List.mem_cons_self
    rw [codew_in hemp] at h1
    exact vx_table (x := mY j) B h1
theorem am_inv_lt {i pc : Nat} {ls : AL} {st : List AV} {σ : AS} {sort idx j : Nat} {as r : List AV} (h : am_invoke i pc ls st σ sort idx = some (.inr (.inl (j, (as, r))))) : j < am_nM := by
  have key : ∀ k j' : Nat, am_lk (am_cT (mOc i)) idx = some (k, j') → (k = 0 ∨ k = 2 ∨ k = 3 ∨ k = 4 ∨ k = 5 ∨ k = 6) → j' < am_nM := by
    intro k j' hlk hk
    have hS := (cT_at hlk).1
    rcases hk with rfl | rfl | rfl | rfl | rfl | rfl <;> simp only [chkS, Bool.and_eq_true, decide_eq_true_eq] at hS <;> omega
  unfold am_invoke at h
  split at h
  · repeat' split at h
    all_goals first | (cases h; done) | (unfold aN at h; cases h; done)
  · repeat' split at h
    all_goals first | (cases h; done) | (unfold aN at h; cases h; done)
  · repeat' split at h
    all_goals first | (cases h; done) | (unfold aN at h; cases h; done)
  · repeat' split at h
    all_goals first | (cases h; done) | (unfold aN at h; cases h; done)
  · rename_i k j' h7 h8 h9 h10 hlk
    split at h
    · cases h
    · split at h
      · split at h
        · rename_i hk
          split at h
          · unfold aC at h
            cases h
            exact key k j hlk (by omega)
          · cases h
        · split at h
          · split at h
            · rename_i hc
              split at h
              · split at h
                · unfold aC at h
                  cases h
                  exact key k j hlk (by omega)
                · cases h
              · cases h
            · cases h
          · cases h
      · cases h
  · cases h
theorem am_sim {l : Launch} {G : Nat → Nat} {D : AD} (hst : l.stackTraces = false) : ∀ n, Sim l G D n
  | 0 => by
    intro i pc ls st σ σF res h
    unfold am_run at h
    cases h
  | n + 1 => by
    have ih := am_sim (l := l) (G := G) (D := D) hst n
    intro i pc ls st σ σF res h p e R s m args below meth c c0 d0 Q la H locs F hdyn hl hrc hrs hret hthr hpast
    unfold am_run at h
    split at h
    · cases h
    · rename_i pc' ls' st' σ' hs
      obtain ⟨ins, len, hd, hi⟩ := am_step_eq hs
      have hle := am_run_le n h
      have h1 := hle.1
      have h2 := hle.2
      exact sn_next hd hi la H locs F hdyn hl (by omega) (by omega) (fun la' H' locs' hl' hdyn' => ih i pc' ls' st' σ' σF res h p e R s m args below meth c c0 d0 Q la' H' locs' F hdyn' hl' hrc hrs hret hthr hpast)
    · rename_i j as r hs
      split at h
      · rename_i hfl
        obtain ⟨ins, len, hd, hi⟩ := am_step_eq hs
        obtain ⟨sort, idx, hsort, rfl, hinv⟩ := am_ins_call hi
        have hj := am_inv_lt hinv
        split at h
        · cases h
        · rename_i v σ1 hrun
          have hle1 := am_run_le n hrun
          have hle2 := am_run_le n h
          have h1 := hle1.1
          have h2 := hle1.2
          have h3 := hle2.1
          have h4 := hle2.2
          refine sn_call hsort hd hinv F hdyn hl (am_ct hst ih hj hfl hrun) h1 h2 (by omega) (by omega) ?_ ?_
          · intro v9 hv9 H1 locs1 hd1
            cases hv9
            exact ih i (pc + 3) ls (v.toList ++ r) σ1 σF res h p e R s m args below meth c c0 d0 Q la H1 locs1 F hd1 hl hrc hrs hret hthr hpast
          · intro x hx
            cases hx
        · rename_i x σ1 hrun
          have hle1 := am_run_le n hrun
          have h1 := hle1.1
          have h2 := hle1.2
          split at h
          · rename_i hH
            cases h
            refine sn_call hsort hd hinv F hdyn hl (am_ct hst ih hj hfl hrun) h1 h2 hrc hrs ?_ ?_
            · intro v9 hv9
              cases hv9
            · intro x9 hx9 H1 locs1 q ce hd1 hq hcv hcl
              cases hx9
              exact hpast x rfl hH pc la (r.map cv) H1 locs1 q ce hd1 hq hcv hcl
          · rename_i h9 t9 hH
            split at h
            · rename_i pc' ls' hz
              have hle2 := am_run_le n h
              have h3 := hle2.1
              have h4 := hle2.2
              rw [← hH] at hz
              refine sn_call hsort hd hinv F hdyn hl (am_ct hst ih hj hfl hrun) h1 h2 (by omega) (by omega) ?_ ?_
              · intro v9 hv9
                cases hv9
              · intro x9 hx9 H1 locs1 q ce hd1 hq hcv hcl
                cases hx9
                exact am_caught F hz hl hd1 hq hcv hcl (fun la' hl' => ih i pc' ls' [] σ1 σF res h p e R s m args below meth c c0 d0 Q la' H1 locs1 F hd1 hl' hrc hrs hret hthr hpast)
            · cases h
      · cases h
    · rename_i v hs
      cases h
      exact hret v rfl pc ls st la H locs hs hdyn
    · rename_i x σ' hs
      cases h
      exact hthr x rfl pc ls st σ la H locs hs hl hdyn
