/-! THE STEPS, against the machine: what goes on -/
def FrameOK (G : Nat → Nat) (D : AD) (i : Nat) (p : Program) (l : Launch) (R : Room) (s : State) (m : MethodId) (args : Array Value) (meth : Method) (c : Code) : Prop :=
  p.tables.exec = Jvm.exec ∧ c.code = mB i ∧ c.maxLocals = mX i ∧ s.vm.findClass (am_cn (mOc i)) = some m.cls ∧ (∀ w ∈ wl, w.before args s = true) ∧ KU G D s ∧ ExtH G s s.heap ∧ l.stackTraces = false ∧
  meth.sig.returnType = mR i ∧ meth.locks = false ∧ (meth.name = (mY i).name ∨ (mY i).name ≠ "<init>") ∧ (c.exceptionTable.toList = tableOf (mH i) ∨ i = am_nM) ∧ mF i ≤ R.frames ∧ mL i ≤ R.locals ∧ G 0 ≤ s.heap.size
def Dyn (G : Nat → Nat) (D : AD) (s : State) (c0 d0 : Nat) (σ : AS) (H : Heap) (locs : List Loc) : Prop := Rel G D s σ.1 H ∧ Sz σ H ∧ va_S (am_A G) s.heap H locs ∧ c0 ≤ σ.2.2.1 ∧ d0 ≤ σ.2.2.2
theorem aN_inj {pc pc' : Nat} {ls ls' : AL} {st st' : List AV} {σ σ' : AS} (h : aN pc ls st σ = some (.inl (pc', (ls', (st', σ'))))) : pc = pc' ∧ ls = ls' ∧ st = st' ∧ σ = σ' := by
  unfold aN at h
  cases h
  exact ⟨rfl, rfl, rfl, rfl⟩
theorem am_vf {r : UInt64} (h : am_notNaN r = true) : vf_n64 r := by
  unfold am_notNaN at h
  unfold vf_n64
  exact of_decide_eq_true h
theorem ci_div {a b : Int} (h0 : 0 ≤ a) (h1 : a ≤ 2147483647) (h2 : 0 < b) (h3 : b ≤ 2147483647) : Int32.ofInt a / Int32.ofInt b = Int32.ofInt (a / b) := by
  have ha : inR a := ⟨by omega, h1⟩
  have hb : inR b := ⟨by omega, h3⟩
  have hq0 : 0 ≤ a / b := Int.ediv_nonneg h0 (by omega)
  have hq1 : a / b ≤ a := Int.ediv_le_self b h0
  have hq : inR (a / b) := ⟨by omega, by omega⟩
  rw [← Int32.toInt_inj, Int32.toInt_div, ci_toInt ha, ci_toInt hb, ci_toInt hq, Int.tdiv_eq_ediv_of_nonneg h0]
  have e : (2 : Nat) ^ 32 = 4294967296 := rfl
  rw [e]
  exact Int.bmod_eq_of_le (by omega) (by omega)
theorem ci_char {a : Int} (h0 : 0 ≤ a) (h1 : a ≤ 65535) : ((Int32.ofInt a).toUInt32 % 65536).toInt32 = Int32.ofInt a := by
  obtain ⟨n, rfl⟩ := Int.eq_ofNat_of_zero_le h0
  rw [show Int32.ofInt (n : Int) = nI n from rfl, pk_char, pk_tn (by omega), Nat.mod_eq_of_lt (by omega)]
section SN
variable {p : Program} {l : Launch} {e : Env} {R : Room} {s : State} {m : MethodId} {args : Array Value} {below : List Frame} {meth : Method} {c : Code} {G : Nat → Nat} {D : AD} {i c0 d0 : Nat} {Q : State → Prop}
variable {pc len : Nat} {ls : AL} {st : List AV} {σ : AS} {pc' : Nat} {ls' : AL} {st' : List AV} {σ' : AS} {la : Array Slot} {H : Heap} {locs : List Loc}
/-- where the next state stands, the one before it does -/
def SN (p : Program) (l : Launch) (e : Env) (R : Room) (s : State) (m : MethodId) (args : Array Value) (below : List Frame) (meth : Method) (c : Code) (G : Nat → Nat) (D : AD) (i c0 d0 : Nat) (Q : State → Prop) (pc : Nat) (ls : AL) (st : List AV) (σ : AS) (pc' : Nat) (ls' : AL) (st' : List AV) (σ' : AS) : Prop :=
  ∀ (la : Array Slot) (H : Heap) (locs : List Loc), FrameOK G D i p l R s m args meth c → Dyn G D s c0 d0 σ H locs → LR la (mX i) ls → σ'.2.2.1 - c0 ≤ R.cells → σ'.2.2.2 - d0 ≤ R.slots →
    (∀ (la' : Array Slot) (H' : Heap) (locs' : List Loc), LR la' (mX i) ls' → Dyn G D s c0 d0 σ' H' locs' → W p l e R s m args below meth c H' locs' (σ'.2.2.1 - c0) (σ'.2.2.2 - d0) Q (F0 m pc' la' (st'.map cv))) →
    W p l e R s m args below meth c H locs (σ.2.2.1 - c0) (σ.2.2.2 - d0) Q (F0 m pc la (st.map cv))

theorem sn_aload_n {k0 : Fin 4} (hd : decode (mB i) pc = .ok (.aload_n k0, len)) (h : am_ins G i pc len ls st σ (.aload_n k0) = some (.inl (pc', (ls', (st', σ'))))) : SN p l e R s m args below meth c G D i c0 d0 Q pc ls st σ pc' ls' st' σ' := by
  unfold am_ins at h
  dsimp only at h
  split at h
  · rename_i hlen
    subst hlen
    unfold am_ldA at h
    split at h
    · obtain ⟨rfl, rfl, rfl, rfl⟩ := aN_inj h
      rename_i hg
      intro la H locs F hdyn hl hrc hrs k
      obtain ⟨hx, hb, hml, hown, hts, hKU, hE, -⟩ := F
      exact lv_aload_n hx hb hd rfl (hl.get hg) (k la H locs hl hdyn)
    · cases h
  · cases h

theorem sn_aload {k0 : Nat} (hd : decode (mB i) pc = .ok (.aload k0, len)) (h : am_ins G i pc len ls st σ (.aload k0) = some (.inl (pc', (ls', (st', σ'))))) : SN p l e R s m args below meth c G D i c0 d0 Q pc ls st σ pc' ls' st' σ' := by
  unfold am_ins at h
  dsimp only at h
  split at h
  · rename_i hlen
    subst hlen
    unfold am_ldA at h
    split at h
    · obtain ⟨rfl, rfl, rfl, rfl⟩ := aN_inj h
      rename_i hg
      intro la H locs F hdyn hl hrc hrs k
      obtain ⟨hx, hb, hml, hown, hts, hKU, hE, -⟩ := F
      exact lv_aload hx hb hd (hl.get hg) (k la H locs hl hdyn)
    · cases h
  · cases h

theorem sn_iload_n {k0 : Fin 4} (hd : decode (mB i) pc = .ok (.iload_n k0, len)) (h : am_ins G i pc len ls st σ (.iload_n k0) = some (.inl (pc', (ls', (st', σ'))))) : SN p l e R s m args below meth c G D i c0 d0 Q pc ls st σ pc' ls' st' σ' := by
  unfold am_ins at h
  dsimp only at h
  split at h
  · rename_i hlen
    subst hlen
    unfold am_ldI at h
    split at h
    · obtain ⟨rfl, rfl, rfl, rfl⟩ := aN_inj h
      rename_i hg
      intro la H locs F hdyn hl hrc hrs k
      obtain ⟨hx, hb, hml, hown, hts, hKU, hE, -⟩ := F
      exact lv_iload_n hx hb hd rfl (hl.get hg) (k la H locs hl hdyn)
    · cases h
  · cases h

theorem sn_iload {k0 : Nat} (hd : decode (mB i) pc = .ok (.iload k0, len)) (h : am_ins G i pc len ls st σ (.iload k0) = some (.inl (pc', (ls', (st', σ'))))) : SN p l e R s m args below meth c G D i c0 d0 Q pc ls st σ pc' ls' st' σ' := by
  unfold am_ins at h
  dsimp only at h
  split at h
  · rename_i hlen
    subst hlen
    unfold am_ldI at h
    split at h
    · obtain ⟨rfl, rfl, rfl, rfl⟩ := aN_inj h
      rename_i hg
      intro la H locs F hdyn hl hrc hrs k
      obtain ⟨hx, hb, hml, hown, hts, hKU, hE, -⟩ := F
      exact lv_iload hx hb hd (hl.get hg) (k la H locs hl hdyn)
    · cases h
  · cases h

theorem sn_lload_n {k0 : Fin 4} (hd : decode (mB i) pc = .ok (.lload_n k0, len)) (h : am_ins G i pc len ls st σ (.lload_n k0) = some (.inl (pc', (ls', (st', σ'))))) : SN p l e R s m args below meth c G D i c0 d0 Q pc ls st σ pc' ls' st' σ' := by
  unfold am_ins at h
  dsimp only at h
  split at h
  · rename_i hlen
    subst hlen
    unfold am_ldL at h
    split at h
    · obtain ⟨rfl, rfl, rfl, rfl⟩ := aN_inj h
      rename_i hg
      intro la H locs F hdyn hl hrc hrs k
      obtain ⟨hx, hb, hml, hown, hts, hKU, hE, -⟩ := F
      exact lv_lload_n hx hb hd rfl (hl.get hg) (k la H locs hl hdyn)
    · cases h
  · cases h

theorem sn_lload {k0 : Nat} (hd : decode (mB i) pc = .ok (.lload k0, len)) (h : am_ins G i pc len ls st σ (.lload k0) = some (.inl (pc', (ls', (st', σ'))))) : SN p l e R s m args below meth c G D i c0 d0 Q pc ls st σ pc' ls' st' σ' := by
  unfold am_ins at h
  dsimp only at h
  split at h
  · rename_i hlen
    subst hlen
    unfold am_ldL at h
    split at h
    · obtain ⟨rfl, rfl, rfl, rfl⟩ := aN_inj h
      rename_i hg
      intro la H locs F hdyn hl hrc hrs k
      obtain ⟨hx, hb, hml, hown, hts, hKU, hE, -⟩ := F
      exact lv_lload hx hb hd (hl.get hg) (k la H locs hl hdyn)
    · cases h
  · cases h

theorem sn_dload_n {k0 : Fin 4} (hd : decode (mB i) pc = .ok (.dload_n k0, len)) (h : am_ins G i pc len ls st σ (.dload_n k0) = some (.inl (pc', (ls', (st', σ'))))) : SN p l e R s m args below meth c G D i c0 d0 Q pc ls st σ pc' ls' st' σ' := by
  unfold am_ins at h
  dsimp only at h
  split at h
  · rename_i hlen
    subst hlen
    unfold am_ldD at h
    split at h
    · obtain ⟨rfl, rfl, rfl, rfl⟩ := aN_inj h
      rename_i hg
      intro la H locs F hdyn hl hrc hrs k
      obtain ⟨hx, hb, hml, hown, hts, hKU, hE, -⟩ := F
      exact lv_dload_n hx hb hd rfl (hl.get hg) (k la H locs hl hdyn)
    · cases h
  · cases h

theorem sn_dload {k0 : Nat} (hd : decode (mB i) pc = .ok (.dload k0, len)) (h : am_ins G i pc len ls st σ (.dload k0) = some (.inl (pc', (ls', (st', σ'))))) : SN p l e R s m args below meth c G D i c0 d0 Q pc ls st σ pc' ls' st' σ' := by
  unfold am_ins at h
  dsimp only at h
  split at h
  · rename_i hlen
    subst hlen
    unfold am_ldD at h
    split at h
    · obtain ⟨rfl, rfl, rfl, rfl⟩ := aN_inj h
      rename_i hg
      intro la H locs F hdyn hl hrc hrs k
      obtain ⟨hx, hb, hml, hown, hts, hKU, hE, -⟩ := F
      exact lv_dload hx hb hd (hl.get hg) (k la H locs hl hdyn)
    · cases h
  · cases h

theorem sn_astore_n {k0 : Fin 4} (hd : decode (mB i) pc = .ok (.astore_n k0, len)) (h : am_ins G i pc len ls st σ (.astore_n k0) = some (.inl (pc', (ls', (st', σ'))))) : SN p l e R s m args below meth c G D i c0 d0 Q pc ls st σ pc' ls' st' σ' := by
  unfold am_ins at h
  dsimp only at h
  split at h
  · rename_i hlen
    subst hlen
    unfold am_stA at h
    split at h
    · unfold am_sto at h
      split at h
      · obtain ⟨rfl, rfl, rfl, rfl⟩ := aN_inj h
        rename_i hg
        intro la H locs F hdyn hl hrc hrs k
        obtain ⟨hx, hb, hml, hown, hts, hKU, hE, -⟩ := F
        have hk0 := LR.set1_lt hg
        rw [hl.2.2.1] at hk0
        exact lv_astore_n hx hb hd rfl (hl.has) hk0 rfl (fun la' hl' => k la' H locs (hl.set1 hg hl') hdyn)
      · cases h
    · cases h
  · cases h

theorem sn_astore {k0 : Nat} (hd : decode (mB i) pc = .ok (.astore k0, len)) (h : am_ins G i pc len ls st σ (.astore k0) = some (.inl (pc', (ls', (st', σ'))))) : SN p l e R s m args below meth c G D i c0 d0 Q pc ls st σ pc' ls' st' σ' := by
  unfold am_ins at h
  dsimp only at h
  split at h
  · rename_i hlen
    subst hlen
    unfold am_stA at h
    split at h
    · unfold am_sto at h
      split at h
      · obtain ⟨rfl, rfl, rfl, rfl⟩ := aN_inj h
        rename_i hg
        intro la H locs F hdyn hl hrc hrs k
        obtain ⟨hx, hb, hml, hown, hts, hKU, hE, -⟩ := F
        have hk0 := LR.set1_lt hg
        rw [hl.2.2.1] at hk0
        exact lv_astore hx hb hd (hl.has) hk0 rfl (fun la' hl' => k la' H locs (hl.set1 hg hl') hdyn)
      · cases h
    · cases h
  · cases h

theorem sn_istore_n {k0 : Fin 4} (hd : decode (mB i) pc = .ok (.istore_n k0, len)) (h : am_ins G i pc len ls st σ (.istore_n k0) = some (.inl (pc', (ls', (st', σ'))))) : SN p l e R s m args below meth c G D i c0 d0 Q pc ls st σ pc' ls' st' σ' := by
  unfold am_ins at h
  dsimp only at h
  split at h
  · rename_i hlen
    subst hlen
    unfold am_stI at h
    split at h
    · unfold am_sto at h
      split at h
      · obtain ⟨rfl, rfl, rfl, rfl⟩ := aN_inj h
        rename_i hg
        intro la H locs F hdyn hl hrc hrs k
        obtain ⟨hx, hb, hml, hown, hts, hKU, hE, -⟩ := F
        have hk0 := LR.set1_lt hg
        rw [hl.2.2.1] at hk0
        exact lv_istore_n hx hb hd rfl (hl.has) hk0 rfl (fun la' hl' => k la' H locs (hl.set1 hg hl') hdyn)
      · cases h
    · cases h
  · cases h

theorem sn_istore {k0 : Nat} (hd : decode (mB i) pc = .ok (.istore k0, len)) (h : am_ins G i pc len ls st σ (.istore k0) = some (.inl (pc', (ls', (st', σ'))))) : SN p l e R s m args below meth c G D i c0 d0 Q pc ls st σ pc' ls' st' σ' := by
  unfold am_ins at h
  dsimp only at h
  split at h
  · rename_i hlen
    subst hlen
    unfold am_stI at h
    split at h
    · unfold am_sto at h
      split at h
      · obtain ⟨rfl, rfl, rfl, rfl⟩ := aN_inj h
        rename_i hg
        intro la H locs F hdyn hl hrc hrs k
        obtain ⟨hx, hb, hml, hown, hts, hKU, hE, -⟩ := F
        have hk0 := LR.set1_lt hg
        rw [hl.2.2.1] at hk0
        exact lv_istore hx hb hd (hl.has) hk0 rfl (fun la' hl' => k la' H locs (hl.set1 hg hl') hdyn)
      · cases h
    · cases h
  · cases h

theorem sn_lstore_n {k0 : Fin 4} (hd : decode (mB i) pc = .ok (.lstore_n k0, len)) (h : am_ins G i pc len ls st σ (.lstore_n k0) = some (.inl (pc', (ls', (st', σ'))))) : SN p l e R s m args below meth c G D i c0 d0 Q pc ls st σ pc' ls' st' σ' := by
  unfold am_ins at h
  dsimp only at h
  split at h
  · rename_i hlen
    subst hlen
    unfold am_stL at h
    split at h
    · unfold am_sto at h
      split at h
      · obtain ⟨rfl, rfl, rfl, rfl⟩ := aN_inj h
        rename_i hg
        intro la H locs F hdyn hl hrc hrs k
        obtain ⟨hx, hb, hml, hown, hts, hKU, hE, -⟩ := F
        have hk0 := LR.set2_lt hg
        rw [hl.2.2.1] at hk0
        exact lv_lstore_n hx hb hd rfl (hl.has) hk0 rfl (fun la' hl' => k la' H locs (hl.set2 hg hl') hdyn)
      · cases h
    · cases h
  · cases h

theorem sn_lstore {k0 : Nat} (hd : decode (mB i) pc = .ok (.lstore k0, len)) (h : am_ins G i pc len ls st σ (.lstore k0) = some (.inl (pc', (ls', (st', σ'))))) : SN p l e R s m args below meth c G D i c0 d0 Q pc ls st σ pc' ls' st' σ' := by
  unfold am_ins at h
  dsimp only at h
  split at h
  · rename_i hlen
    subst hlen
    unfold am_stL at h
    split at h
    · unfold am_sto at h
      split at h
      · obtain ⟨rfl, rfl, rfl, rfl⟩ := aN_inj h
        rename_i hg
        intro la H locs F hdyn hl hrc hrs k
        obtain ⟨hx, hb, hml, hown, hts, hKU, hE, -⟩ := F
        have hk0 := LR.set2_lt hg
        rw [hl.2.2.1] at hk0
        exact lv_lstore hx hb hd (hl.has) hk0 rfl (fun la' hl' => k la' H locs (hl.set2 hg hl') hdyn)
      · cases h
    · cases h
  · cases h

theorem sn_dstore_n {k0 : Fin 4} (hd : decode (mB i) pc = .ok (.dstore_n k0, len)) (h : am_ins G i pc len ls st σ (.dstore_n k0) = some (.inl (pc', (ls', (st', σ'))))) : SN p l e R s m args below meth c G D i c0 d0 Q pc ls st σ pc' ls' st' σ' := by
  unfold am_ins at h
  dsimp only at h
  split at h
  · rename_i hlen
    subst hlen
    unfold am_stD at h
    split at h
    · unfold am_sto at h
      split at h
      · obtain ⟨rfl, rfl, rfl, rfl⟩ := aN_inj h
        rename_i hg
        intro la H locs F hdyn hl hrc hrs k
        obtain ⟨hx, hb, hml, hown, hts, hKU, hE, -⟩ := F
        have hk0 := LR.set2_lt hg
        rw [hl.2.2.1] at hk0
        exact lv_dstore_n hx hb hd rfl (hl.has) hk0 rfl (fun la' hl' => k la' H locs (hl.set2 hg hl') hdyn)
      · cases h
    · cases h
  · cases h

theorem sn_dstore {k0 : Nat} (hd : decode (mB i) pc = .ok (.dstore k0, len)) (h : am_ins G i pc len ls st σ (.dstore k0) = some (.inl (pc', (ls', (st', σ'))))) : SN p l e R s m args below meth c G D i c0 d0 Q pc ls st σ pc' ls' st' σ' := by
  unfold am_ins at h
  dsimp only at h
  split at h
  · rename_i hlen
    subst hlen
    unfold am_stD at h
    split at h
    · unfold am_sto at h
      split at h
      · obtain ⟨rfl, rfl, rfl, rfl⟩ := aN_inj h
        rename_i hg
        intro la H locs F hdyn hl hrc hrs k
        obtain ⟨hx, hb, hml, hown, hts, hKU, hE, -⟩ := F
        have hk0 := LR.set2_lt hg
        rw [hl.2.2.1] at hk0
        exact lv_dstore hx hb hd (hl.has) hk0 rfl (fun la' hl' => k la' H locs (hl.set2 hg hl') hdyn)
      · cases h
    · cases h
  · cases h

theorem sn_iconst {n : Int} (hd : decode (mB i) pc = .ok (.iconst n, len)) (h : am_ins G i pc len ls st σ (.iconst n) = some (.inl (pc', (ls', (st', σ'))))) : SN p l e R s m args below meth c G D i c0 d0 Q pc ls st σ pc' ls' st' σ' := by
  unfold am_ins at h
  dsimp only at h
  split at h
  · rename_i hc
    obtain ⟨rfl, rfl, rfl, rfl⟩ := aN_inj h
    intro la H locs F hdyn hl hrc hrs k
    obtain ⟨hx, hb, hml, hown, hts, hKU, hE, -⟩ := F
    obtain ⟨rfl, hr⟩ := hc
    exact lv_iconst hx hb hd rfl (k la H locs hl hdyn)
  · cases h

theorem sn_bipush {n : Int} (hd : decode (mB i) pc = .ok (.bipush n, len)) (h : am_ins G i pc len ls st σ (.bipush n) = some (.inl (pc', (ls', (st', σ'))))) : SN p l e R s m args below meth c G D i c0 d0 Q pc ls st σ pc' ls' st' σ' := by
  unfold am_ins at h
  dsimp only at h
  split at h
  · rename_i hc
    obtain ⟨rfl, rfl, rfl, rfl⟩ := aN_inj h
    intro la H locs F hdyn hl hrc hrs k
    obtain ⟨hx, hb, hml, hown, hts, hKU, hE, -⟩ := F
    obtain ⟨rfl, hr1, hr2⟩ := hc
    exact lv_bipush hx hb hd (by rw [← Int32.toInt_inj, ci_toInt ⟨by omega, by omega⟩, Int8.toInt_toInt32, Int8.toInt_ofInt]; exact Int.bmod_eq_of_le (by show -(256 : Int) / 2 ≤ _; omega) (by show _ < ((256 : Int) + 1) / 2; omega)) (k la H locs hl hdyn)
  · cases h

theorem sn_sipush {n : Int} (hd : decode (mB i) pc = .ok (.sipush n, len)) (h : am_ins G i pc len ls st σ (.sipush n) = some (.inl (pc', (ls', (st', σ'))))) : SN p l e R s m args below meth c G D i c0 d0 Q pc ls st σ pc' ls' st' σ' := by
  unfold am_ins at h
  dsimp only at h
  split at h
  · rename_i hc
    obtain ⟨rfl, rfl, rfl, rfl⟩ := aN_inj h
    intro la H locs F hdyn hl hrc hrs k
    obtain ⟨hx, hb, hml, hown, hts, hKU, hE, -⟩ := F
    obtain ⟨rfl, hr1, hr2⟩ := hc
    exact lv_sipush hx hb hd (by rw [← Int32.toInt_inj, ci_toInt ⟨by omega, by omega⟩, Int16.toInt_toInt32, Int16.toInt_ofInt]; exact Int.bmod_eq_of_le (by show -(65536 : Int) / 2 ≤ _; omega) (by show _ < ((65536 : Int) + 1) / 2; omega)) (k la H locs hl hdyn)
  · cases h

theorem sn_lconst {n : Fin 2} (hd : decode (mB i) pc = .ok (.lconst n, len)) (h : am_ins G i pc len ls st σ (.lconst n) = some (.inl (pc', (ls', (st', σ'))))) : SN p l e R s m args below meth c G D i c0 d0 Q pc ls st σ pc' ls' st' σ' := by
  unfold am_ins at h
  dsimp only at h
  split at h
  · rename_i hc
    obtain ⟨rfl, rfl, rfl, rfl⟩ := aN_inj h
    intro la H locs F hdyn hl hrc hrs k
    obtain ⟨hx, hb, hml, hown, hts, hKU, hE, -⟩ := F
    subst hc
    exact lv_lconst hx hb hd rfl (k la H locs hl hdyn)
  · cases h

theorem sn_aconst_null (hd : decode (mB i) pc = .ok (.aconst_null, len)) (h : am_ins G i pc len ls st σ (.aconst_null) = some (.inl (pc', (ls', (st', σ'))))) : SN p l e R s m args below meth c G D i c0 d0 Q pc ls st σ pc' ls' st' σ' := by
  unfold am_ins at h
  dsimp only at h
  split at h
  · rename_i hc
    obtain ⟨rfl, rfl, rfl, rfl⟩ := aN_inj h
    intro la H locs F hdyn hl hrc hrs k
    obtain ⟨hx, hb, hml, hown, hts, hKU, hE, -⟩ := F
    subst hc
    exact lv_null hx hb hd (k la H locs hl hdyn)
  · cases h

theorem sn_dconst {n : Fin 2} (hd : decode (mB i) pc = .ok (.dconst n, len)) (h : am_ins G i pc len ls st σ (.dconst n) = some (.inl (pc', (ls', (st', σ'))))) : SN p l e R s m args below meth c G D i c0 d0 Q pc ls st σ pc' ls' st' σ' := by
  unfold am_ins at h
  dsimp only at h
  split at h
  · rename_i hc
    subst hc
    obtain ⟨rfl, rfl, rfl, rfl⟩ := aN_inj h
    intro la H locs F hdyn hl hrc hrs k
    obtain ⟨hx, hb, hml, hown, hts, hKU, hE, -⟩ := F
    by_cases hn : n = 0
    · subst hn
      exact lv_dconst0 hx hb hd (k la H locs hl hdyn)
    · have h1 : n = 1 := by omega
      subst h1
      exact lv_dconst1 hx hb hd (k la H locs hl hdyn)
  · cases h

theorem sn_iadd (hd : decode (mB i) pc = .ok (.iadd, len)) (h : am_ins G i pc len ls st σ (.iadd) = some (.inl (pc', (ls', (st', σ'))))) : SN p l e R s m args below meth c G D i c0 d0 Q pc ls st σ pc' ls' st' σ' := by
  unfold am_ins at h
  dsimp only at h
  split at h
  · rename_i hc
    subst hc
    unfold am_bin at h
    split at h
    · rename_i b a r
      split at h
      · rename_i x hf
        obtain ⟨rfl, rfl, rfl, rfl⟩ := aN_inj h
        dsimp only at hf
        intro la H locs F hdyn hl hrc hrs k
        obtain ⟨hx, hb, hml, hown, hts, hKU, hE, -⟩ := F
        cases hf
        refine lv_iadd hx hb hd ?_
        rw [show Int32.ofInt a + Int32.ofInt b = Int32.ofInt (a + b) from (by simp only [Int32.ofInt_add])]
        exact k la H locs hl hdyn
      · cases h
    · cases h
  · cases h

theorem sn_isub (hd : decode (mB i) pc = .ok (.isub, len)) (h : am_ins G i pc len ls st σ (.isub) = some (.inl (pc', (ls', (st', σ'))))) : SN p l e R s m args below meth c G D i c0 d0 Q pc ls st σ pc' ls' st' σ' := by
  unfold am_ins at h
  dsimp only at h
  split at h
  · rename_i hc
    subst hc
    unfold am_bin at h
    split at h
    · rename_i b a r
      split at h
      · rename_i x hf
        obtain ⟨rfl, rfl, rfl, rfl⟩ := aN_inj h
        dsimp only at hf
        intro la H locs F hdyn hl hrc hrs k
        obtain ⟨hx, hb, hml, hown, hts, hKU, hE, -⟩ := F
        cases hf
        refine lv_isub hx hb hd ?_
        rw [show Int32.ofInt a - Int32.ofInt b = Int32.ofInt (a - b) from (by simp only [Int32.ofInt_sub])]
        exact k la H locs hl hdyn
      · cases h
    · cases h
  · cases h

theorem sn_imul (hd : decode (mB i) pc = .ok (.imul, len)) (h : am_ins G i pc len ls st σ (.imul) = some (.inl (pc', (ls', (st', σ'))))) : SN p l e R s m args below meth c G D i c0 d0 Q pc ls st σ pc' ls' st' σ' := by
  unfold am_ins at h
  dsimp only at h
  split at h
  · rename_i hc
    subst hc
    unfold am_bin at h
    split at h
    · rename_i b a r
      split at h
      · rename_i x hf
        obtain ⟨rfl, rfl, rfl, rfl⟩ := aN_inj h
        dsimp only at hf
        intro la H locs F hdyn hl hrc hrs k
        obtain ⟨hx, hb, hml, hown, hts, hKU, hE, -⟩ := F
        cases hf
        refine lv_imul hx hb hd ?_
        rw [show Int32.ofInt a * Int32.ofInt b = Int32.ofInt (a * b) from (by simp only [Int32.ofInt_mul])]
        exact k la H locs hl hdyn
      · cases h
    · cases h
  · cases h

theorem sn_idiv (hd : decode (mB i) pc = .ok (.idiv, len)) (h : am_ins G i pc len ls st σ (.idiv) = some (.inl (pc', (ls', (st', σ'))))) : SN p l e R s m args below meth c G D i c0 d0 Q pc ls st σ pc' ls' st' σ' := by
  unfold am_ins at h
  dsimp only at h
  split at h
  · rename_i hc
    subst hc
    unfold am_bin at h
    split at h
    · rename_i b a r
      split at h
      · rename_i x hf
        obtain ⟨rfl, rfl, rfl, rfl⟩ := aN_inj h
        dsimp only at hf
        intro la H locs F hdyn hl hrc hrs k
        obtain ⟨hx, hb, hml, hown, hts, hKU, hE, -⟩ := F
        split at hf
        · rename_i hr
          cases hf
          refine lv_idiv hx hb hd (fun z => ?_) ?_
          · have := (ci_eq (a := b) (b := 0) ⟨by omega, by omega⟩ ⟨by omega, by omega⟩).mp z
            omega
          rw [show Int32.ofInt a / Int32.ofInt b = Int32.ofInt (a / b) from ?_]
          · exact k la H locs hl hdyn
          · exact ci_div hr.1 hr.2.1 hr.2.2.1 hr.2.2.2
        · cases hf
      · cases h
    · cases h
  · cases h

theorem sn_irem (hd : decode (mB i) pc = .ok (.irem, len)) (h : am_ins G i pc len ls st σ (.irem) = some (.inl (pc', (ls', (st', σ'))))) : SN p l e R s m args below meth c G D i c0 d0 Q pc ls st σ pc' ls' st' σ' := by
  unfold am_ins at h
  dsimp only at h
  split at h
  · rename_i hc
    subst hc
    unfold am_bin at h
    split at h
    · rename_i b a r
      split at h
      · rename_i x hf
        obtain ⟨rfl, rfl, rfl, rfl⟩ := aN_inj h
        dsimp only at hf
        intro la H locs F hdyn hl hrc hrs k
        obtain ⟨hx, hb, hml, hown, hts, hKU, hE, -⟩ := F
        split at hf
        · rename_i hr
          cases hf
          refine lv_irem hx hb hd (fun z => ?_) ?_
          · have := (ci_eq (a := b) (b := 0) ⟨by omega, by omega⟩ ⟨by omega, by omega⟩).mp z
            omega
          rw [show Int32.ofInt a - Int32.ofInt a / Int32.ofInt b * Int32.ofInt b = Int32.ofInt (a % b) from ?_]
          · exact k la H locs hl hdyn
          · rw [ci_div hr.1 hr.2.1 hr.2.2.1 hr.2.2.2, ← Int32.ofInt_mul, ← Int32.ofInt_sub, Int.emod_def, Int.mul_comm]
        · cases hf
      · cases h
    · cases h
  · cases h

theorem sn_iand (hd : decode (mB i) pc = .ok (.iand, len)) (h : am_ins G i pc len ls st σ (.iand) = some (.inl (pc', (ls', (st', σ'))))) : SN p l e R s m args below meth c G D i c0 d0 Q pc ls st σ pc' ls' st' σ' := by
  unfold am_ins at h
  dsimp only at h
  split at h
  · rename_i hc
    subst hc
    unfold am_bin at h
    split at h
    · rename_i b a r
      split at h
      · rename_i x hf
        obtain ⟨rfl, rfl, rfl, rfl⟩ := aN_inj h
        dsimp only at hf
        intro la H locs F hdyn hl hrc hrs k
        obtain ⟨hx, hb, hml, hown, hts, hKU, hE, -⟩ := F
        cases hf
        refine lv_iand hx hb hd ?_
        rw [← ci_ofToInt (Int32.ofInt a &&& Int32.ofInt b)]
        exact k la H locs hl hdyn
      · cases h
    · cases h
  · cases h

theorem sn_ishr (hd : decode (mB i) pc = .ok (.ishr, len)) (h : am_ins G i pc len ls st σ (.ishr) = some (.inl (pc', (ls', (st', σ'))))) : SN p l e R s m args below meth c G D i c0 d0 Q pc ls st σ pc' ls' st' σ' := by
  unfold am_ins at h
  dsimp only at h
  split at h
  · rename_i hc
    subst hc
    unfold am_bin at h
    split at h
    · rename_i b a r
      split at h
      · rename_i x hf
        obtain ⟨rfl, rfl, rfl, rfl⟩ := aN_inj h
        dsimp only at hf
        intro la H locs F hdyn hl hrc hrs k
        obtain ⟨hx, hb, hml, hown, hts, hKU, hE, -⟩ := F
        cases hf
        refine lv_ishr hx hb hd ?_
        rw [← ci_ofToInt (Int32.ofInt a >>> (Int32.ofInt b &&& 31))]
        exact k la H locs hl hdyn
      · cases h
    · cases h
  · cases h

theorem sn_ladd (hd : decode (mB i) pc = .ok (.ladd, len)) (h : am_ins G i pc len ls st σ (.ladd) = some (.inl (pc', (ls', (st', σ'))))) : SN p l e R s m args below meth c G D i c0 d0 Q pc ls st σ pc' ls' st' σ' := by
  unfold am_ins at h
  dsimp only at h
  split at h
  · rename_i hc
    subst hc
    unfold am_binL at h
    split at h
    · obtain ⟨rfl, rfl, rfl, rfl⟩ := aN_inj h
      intro la H locs F hdyn hl hrc hrs k
      obtain ⟨hx, hb, hml, hown, hts, hKU, hE, -⟩ := F
      exact lv_ladd hx hb hd (k la H locs hl hdyn)
    · cases h
  · cases h

theorem sn_lsub (hd : decode (mB i) pc = .ok (.lsub, len)) (h : am_ins G i pc len ls st σ (.lsub) = some (.inl (pc', (ls', (st', σ'))))) : SN p l e R s m args below meth c G D i c0 d0 Q pc ls st σ pc' ls' st' σ' := by
  unfold am_ins at h
  dsimp only at h
  split at h
  · rename_i hc
    subst hc
    unfold am_binL at h
    split at h
    · obtain ⟨rfl, rfl, rfl, rfl⟩ := aN_inj h
      intro la H locs F hdyn hl hrc hrs k
      obtain ⟨hx, hb, hml, hown, hts, hKU, hE, -⟩ := F
      exact lv_lsub hx hb hd (k la H locs hl hdyn)
    · cases h
  · cases h

theorem sn_lmul (hd : decode (mB i) pc = .ok (.lmul, len)) (h : am_ins G i pc len ls st σ (.lmul) = some (.inl (pc', (ls', (st', σ'))))) : SN p l e R s m args below meth c G D i c0 d0 Q pc ls st σ pc' ls' st' σ' := by
  unfold am_ins at h
  dsimp only at h
  split at h
  · rename_i hc
    subst hc
    unfold am_binL at h
    split at h
    · obtain ⟨rfl, rfl, rfl, rfl⟩ := aN_inj h
      intro la H locs F hdyn hl hrc hrs k
      obtain ⟨hx, hb, hml, hown, hts, hKU, hE, -⟩ := F
      exact lv_lmul hx hb hd (k la H locs hl hdyn)
    · cases h
  · cases h

theorem sn_dsub (hd : decode (mB i) pc = .ok (.dsub, len)) (h : am_ins G i pc len ls st σ (.dsub) = some (.inl (pc', (ls', (st', σ'))))) : SN p l e R s m args below meth c G D i c0 d0 Q pc ls st σ pc' ls' st' σ' := by
  unfold am_ins at h
  dsimp only at h
  split at h
  · rename_i hc
    subst hc
    unfold am_binD at h
    split at h
    · split at h
      · obtain ⟨rfl, rfl, rfl, rfl⟩ := aN_inj h
        rename_i hn
        intro la H locs F hdyn hl hrc hrs k
        obtain ⟨hx, hb, hml, hown, hts, hKU, hE, -⟩ := F
        exact lv_dsub hx hb hd (am_vf hn) (k la H locs hl hdyn)
      · cases h
    · cases h
  · cases h

theorem sn_dmul (hd : decode (mB i) pc = .ok (.dmul, len)) (h : am_ins G i pc len ls st σ (.dmul) = some (.inl (pc', (ls', (st', σ'))))) : SN p l e R s m args below meth c G D i c0 d0 Q pc ls st σ pc' ls' st' σ' := by
  unfold am_ins at h
  dsimp only at h
  split at h
  · rename_i hc
    subst hc
    unfold am_binD at h
    split at h
    · split at h
      · obtain ⟨rfl, rfl, rfl, rfl⟩ := aN_inj h
        rename_i hn
        intro la H locs F hdyn hl hrc hrs k
        obtain ⟨hx, hb, hml, hown, hts, hKU, hE, -⟩ := F
        exact lv_dmul hx hb hd (am_vf hn) (k la H locs hl hdyn)
      · cases h
    · cases h
  · cases h

theorem sn_ddiv (hd : decode (mB i) pc = .ok (.ddiv, len)) (h : am_ins G i pc len ls st σ (.ddiv) = some (.inl (pc', (ls', (st', σ'))))) : SN p l e R s m args below meth c G D i c0 d0 Q pc ls st σ pc' ls' st' σ' := by
  unfold am_ins at h
  dsimp only at h
  split at h
  · rename_i hc
    subst hc
    unfold am_binD at h
    split at h
    · split at h
      · obtain ⟨rfl, rfl, rfl, rfl⟩ := aN_inj h
        rename_i hn
        intro la H locs F hdyn hl hrc hrs k
        obtain ⟨hx, hb, hml, hown, hts, hKU, hE, -⟩ := F
        exact lv_ddiv hx hb hd (am_vf hn) (k la H locs hl hdyn)
      · cases h
    · cases h
  · cases h

theorem sn_lshl (hd : decode (mB i) pc = .ok (.lshl, len)) (h : am_ins G i pc len ls st σ (.lshl) = some (.inl (pc', (ls', (st', σ'))))) : SN p l e R s m args below meth c G D i c0 d0 Q pc ls st σ pc' ls' st' σ' := by
  unfold am_ins at h
  dsimp only at h
  split at h
  · rename_i hc
    subst hc
    split at h
    · obtain ⟨rfl, rfl, rfl, rfl⟩ := aN_inj h
      intro la H locs F hdyn hl hrc hrs k
      obtain ⟨hx, hb, hml, hown, hts, hKU, hE, -⟩ := F
      exact lv_lshl hx hb hd rfl (k la H locs hl hdyn)
    · cases h
  · cases h

theorem sn_lcmp (hd : decode (mB i) pc = .ok (.lcmp, len)) (h : am_ins G i pc len ls st σ (.lcmp) = some (.inl (pc', (ls', (st', σ'))))) : SN p l e R s m args below meth c G D i c0 d0 Q pc ls st σ pc' ls' st' σ' := by
  unfold am_ins at h
  dsimp only at h
  split at h
  · rename_i hc
    subst hc
    split at h
    · obtain ⟨rfl, rfl, rfl, rfl⟩ := aN_inj h
      intro la H locs F hdyn hl hrc hrs k
      obtain ⟨hx, hb, hml, hown, hts, hKU, hE, -⟩ := F
      refine W.lcmp hx hb hd ?_
      rw [← ci_ofToInt (lg_cmp _ _)]
      exact k la H locs hl hdyn
    · cases h
  · cases h

theorem sn_dcmp {op : CmpOp} (hd : decode (mB i) pc = .ok (.dcmp op, len)) (h : am_ins G i pc len ls st σ (.dcmp op) = some (.inl (pc', (ls', (st', σ'))))) : SN p l e R s m args below meth c G D i c0 d0 Q pc ls st σ pc' ls' st' σ' := by
  unfold am_ins at h
  dsimp only at h
  split at h
  · rename_i hc
    subst hc
    split at h
    · obtain ⟨rfl, rfl, rfl, rfl⟩ := aN_inj h
      intro la H locs F hdyn hl hrc hrs k
      obtain ⟨hx, hb, hml, hown, hts, hKU, hE, -⟩ := F
      refine lv_dcmp hx hb hd ?_
      rw [← ci_ofToInt (Op.cmpValue _ _)]
      exact k la H locs hl hdyn
    · cases h
  · cases h

theorem sn_i2l (hd : decode (mB i) pc = .ok (.i2l, len)) (h : am_ins G i pc len ls st σ (.i2l) = some (.inl (pc', (ls', (st', σ'))))) : SN p l e R s m args below meth c G D i c0 d0 Q pc ls st σ pc' ls' st' σ' := by
  unfold am_ins at h
  dsimp only at h
  split at h
  · rename_i hc
    subst hc
    split at h
    · obtain ⟨rfl, rfl, rfl, rfl⟩ := aN_inj h
      intro la H locs F hdyn hl hrc hrs k
      obtain ⟨hx, hb, hml, hown, hts, hKU, hE, -⟩ := F
      exact lv_i2l hx hb hd rfl (k la H locs hl hdyn)
    · cases h
  · cases h

theorem sn_i2d (hd : decode (mB i) pc = .ok (.i2d, len)) (h : am_ins G i pc len ls st σ (.i2d) = some (.inl (pc', (ls', (st', σ'))))) : SN p l e R s m args below meth c G D i c0 d0 Q pc ls st σ pc' ls' st' σ' := by
  unfold am_ins at h
  dsimp only at h
  split at h
  · rename_i hc
    subst hc
    split at h
    · obtain ⟨rfl, rfl, rfl, rfl⟩ := aN_inj h
      intro la H locs F hdyn hl hrc hrs k
      obtain ⟨hx, hb, hml, hown, hts, hKU, hE, -⟩ := F
      exact lv_i2d hx hb hd (k la H locs hl hdyn)
    · cases h
  · cases h

theorem sn_d2l (hd : decode (mB i) pc = .ok (.d2l, len)) (h : am_ins G i pc len ls st σ (.d2l) = some (.inl (pc', (ls', (st', σ'))))) : SN p l e R s m args below meth c G D i c0 d0 Q pc ls st σ pc' ls' st' σ' := by
  unfold am_ins at h
  dsimp only at h
  split at h
  · rename_i hc
    subst hc
    split at h
    · obtain ⟨rfl, rfl, rfl, rfl⟩ := aN_inj h
      intro la H locs F hdyn hl hrc hrs k
      obtain ⟨hx, hb, hml, hown, hts, hKU, hE, -⟩ := F
      exact lv_d2l hx hb hd (k la H locs hl hdyn)
    · cases h
  · cases h

theorem sn_i2c (hd : decode (mB i) pc = .ok (.i2c, len)) (h : am_ins G i pc len ls st σ (.i2c) = some (.inl (pc', (ls', (st', σ'))))) : SN p l e R s m args below meth c G D i c0 d0 Q pc ls st σ pc' ls' st' σ' := by
  unfold am_ins at h
  dsimp only at h
  split at h
  · rename_i hc
    subst hc
    split at h
    · split at h
      · obtain ⟨rfl, rfl, rfl, rfl⟩ := aN_inj h
        rename_i hq
        intro la H locs F hdyn hl hrc hrs k
        obtain ⟨hx, hb, hml, hown, hts, hKU, hE, -⟩ := F
        exact lv_i2c hx hb hd (ci_char hq.1 hq.2) (k la H locs hl hdyn)
      · cases h
    · cases h
  · cases h

theorem sn_dup (hd : decode (mB i) pc = .ok (.dup, len)) (h : am_ins G i pc len ls st σ (.dup) = some (.inl (pc', (ls', (st', σ'))))) : SN p l e R s m args below meth c G D i c0 d0 Q pc ls st σ pc' ls' st' σ' := by
  unfold am_ins at h
  dsimp only at h
  split at h
  · rename_i hc
    subst hc
    split at h
    · split at h
      · obtain ⟨rfl, rfl, rfl, rfl⟩ := aN_inj h
        rename_i hq
        intro la H locs F hdyn hl hrc hrs k
        obtain ⟨hx, hb, hml, hown, hts, hKU, hE, -⟩ := F
        exact lv_dup hx hb hd ((cv_cat _).trans hq) (k la H locs hl hdyn)
      · cases h
    · cases h
  · cases h

theorem sn_pop (hd : decode (mB i) pc = .ok (.pop, len)) (h : am_ins G i pc len ls st σ (.pop) = some (.inl (pc', (ls', (st', σ'))))) : SN p l e R s m args below meth c G D i c0 d0 Q pc ls st σ pc' ls' st' σ' := by
  unfold am_ins at h
  dsimp only at h
  split at h
  · rename_i hc
    subst hc
    split at h
    · split at h
      · obtain ⟨rfl, rfl, rfl, rfl⟩ := aN_inj h
        rename_i hq
        intro la H locs F hdyn hl hrc hrs k
        obtain ⟨hx, hb, hml, hown, hts, hKU, hE, -⟩ := F
        exact lv_pop hx hb hd ((cv_cat _).trans hq) (k la H locs hl hdyn)
      · cases h
    · cases h
  · cases h

theorem sn_iinc {k0 : Nat} {n : Int} (hd : decode (mB i) pc = .ok (.iinc k0 n, len)) (h : am_ins G i pc len ls st σ (.iinc k0 n) = some (.inl (pc', (ls', (st', σ'))))) : SN p l e R s m args below meth c G D i c0 d0 Q pc ls st σ pc' ls' st' σ' := by
  unfold am_ins at h
  dsimp only at h
  split at h
  · rename_i hc
    obtain ⟨rfl, hn⟩ := hc
    split at h
    · rename_i x hg
      unfold am_sto at h
      split at h
      · obtain ⟨rfl, rfl, rfl, rfl⟩ := aN_inj h
        rename_i hs
        intro la H locs F hdyn hl hrc hrs k
        obtain ⟨hx, hb, hml, hown, hts, hKU, hE, -⟩ := F
        have hk0 := LR.set1_lt hs
        rw [hl.2.2.1] at hk0
        obtain ⟨q, hq⟩ := List.getElem?_of_mem (am_kn_mem (am_get_some hg))
        exact lv_iinc (v := Int32.ofInt (x + n)) hx hb hd hl.has hq (by rw [Int32.ofInt_add]) hk0 rfl (fun la' hl' => k la' H locs (hl.set1 hs hl') hdyn)
      · cases h
    · cases h
  · cases h

theorem sn_if_icmp {co : ClassFile.Cond} {off : Int} (hd : decode (mB i) pc = .ok (.if_icmp co off, len)) (h : am_ins G i pc len ls st σ (.if_icmp co off) = some (.inl (pc', (ls', (st', σ'))))) : SN p l e R s m args below meth c G D i c0 d0 Q pc ls st σ pc' ls' st' σ' := by
  unfold am_ins at h
  dsimp only at h
  split at h
  · rename_i hc
    obtain ⟨rfl, hoff⟩ := hc
    have htgt : (pc : Int) + off = ((am_tgt pc off : Nat) : Int) := by unfold am_tgt; omega
    split at h
    · split at h
      · rename_i b a r hr
        intro la H locs F hdyn hl hrc hrs k
        obtain ⟨hx, hb, hml, hown, hts, hKU, hE, -⟩ := F
        have kt : am_cmp co a b = true → W p l e R s m args below meth c H locs (σ.2.2.1 - c0) (σ.2.2.2 - d0) Q (F0 m (am_tgt pc off) la (r.map cv)) := fun z => by
          rw [if_pos z] at h
          obtain ⟨rfl, rfl, rfl, rfl⟩ := aN_inj h
          exact k la H locs hl hdyn
        have kf : ¬ am_cmp co a b = true → W p l e R s m args below meth c H locs (σ.2.2.1 - c0) (σ.2.2.2 - d0) Q (F0 m (pc + 3) la (r.map cv)) := fun z => by
          rw [if_neg z] at h
          obtain ⟨rfl, rfl, rfl, rfl⟩ := aN_inj h
          exact k la H locs hl hdyn
        cases co
        · exact lv_icmp_eq hx hb hd htgt (fun z => kt (decide_eq_true ((ci_eq hr.1 hr.2).mp z))) (fun z => kf (fun y => z ((ci_eq hr.1 hr.2).mpr (of_decide_eq_true y))))
        · exact lv_icmp_ne hx hb hd htgt (fun z => kt (decide_eq_true (fun y => z ((ci_eq hr.1 hr.2).mpr y)))) (fun z => kf (fun y => of_decide_eq_true y ((ci_eq hr.1 hr.2).mp z)))
        · exact lv_icmp_lt hx hb hd htgt (fun z => kt (decide_eq_true ((ci_lt hr.1 hr.2).mp z))) (fun z => kf (fun y => z ((ci_lt hr.1 hr.2).mpr (of_decide_eq_true y))))
        · exact lv_icmp_ge hx hb hd htgt (fun z => kt (decide_eq_true ((ci_le hr.2 hr.1).mp z))) (fun z => kf (fun y => z ((ci_le hr.2 hr.1).mpr (of_decide_eq_true y))))
        · exact lv_icmp_gt hx hb hd htgt (fun z => kt (decide_eq_true ((ci_lt hr.2 hr.1).mp z))) (fun z => kf (fun y => z ((ci_lt hr.2 hr.1).mpr (of_decide_eq_true y))))
        · exact lv_icmp_le hx hb hd htgt (fun z => kt (decide_eq_true ((ci_le hr.1 hr.2).mp z))) (fun z => kf (fun y => z ((ci_le hr.1 hr.2).mpr (of_decide_eq_true y))))
      · cases h
    · cases h
  · cases h

theorem sn_ifCond {co : ClassFile.Cond} {off : Int} (hd : decode (mB i) pc = .ok (.ifCond co off, len)) (h : am_ins G i pc len ls st σ (.ifCond co off) = some (.inl (pc', (ls', (st', σ'))))) : SN p l e R s m args below meth c G D i c0 d0 Q pc ls st σ pc' ls' st' σ' := by
  unfold am_ins at h
  dsimp only at h
  split at h
  · rename_i hc
    obtain ⟨rfl, hoff⟩ := hc
    have htgt : (pc : Int) + off = ((am_tgt pc off : Nat) : Int) := by unfold am_tgt; omega
    split at h
    · split at h
      · rename_i a r hr
        intro la H locs F hdyn hl hrc hrs k
        obtain ⟨hx, hb, hml, hown, hts, hKU, hE, -⟩ := F
        have kt : am_cmp co a 0 = true → W p l e R s m args below meth c H locs (σ.2.2.1 - c0) (σ.2.2.2 - d0) Q (F0 m (am_tgt pc off) la (r.map cv)) := fun z => by
          rw [if_pos z] at h
          obtain ⟨rfl, rfl, rfl, rfl⟩ := aN_inj h
          exact k la H locs hl hdyn
        have kf : ¬ am_cmp co a 0 = true → W p l e R s m args below meth c H locs (σ.2.2.1 - c0) (σ.2.2.2 - d0) Q (F0 m (pc + 3) la (r.map cv)) := fun z => by
          rw [if_neg z] at h
          obtain ⟨rfl, rfl, rfl, rfl⟩ := aN_inj h
          exact k la H locs hl hdyn
        cases co
        · exact lv_if_eq hx hb hd htgt (fun z => kt (decide_eq_true ((ci_eq hr (show inR 0 from ⟨by omega, by omega⟩)).mp z))) (fun z => kf (fun y => z ((ci_eq hr (show inR 0 from ⟨by omega, by omega⟩)).mpr (of_decide_eq_true y))))
        · exact lv_if_ne hx hb hd htgt (fun z => kt (decide_eq_true (fun y => z ((ci_eq hr (show inR 0 from ⟨by omega, by omega⟩)).mpr y)))) (fun z => kf (fun y => of_decide_eq_true y ((ci_eq hr (show inR 0 from ⟨by omega, by omega⟩)).mp z)))
        · exact lv_if_lt hx hb hd htgt (fun z => kt (decide_eq_true ((ci_lt hr (show inR 0 from ⟨by omega, by omega⟩)).mp z))) (fun z => kf (fun y => z ((ci_lt hr (show inR 0 from ⟨by omega, by omega⟩)).mpr (of_decide_eq_true y))))
        · exact lv_if_ge hx hb hd htgt (fun z => kt (decide_eq_true ((ci_le (show inR 0 from ⟨by omega, by omega⟩) hr).mp z))) (fun z => kf (fun y => z ((ci_le (show inR 0 from ⟨by omega, by omega⟩) hr).mpr (of_decide_eq_true y))))
        · exact lv_if_gt hx hb hd htgt (fun z => kt (decide_eq_true ((ci_lt (show inR 0 from ⟨by omega, by omega⟩) hr).mp z))) (fun z => kf (fun y => z ((ci_lt (show inR 0 from ⟨by omega, by omega⟩) hr).mpr (of_decide_eq_true y))))
        · exact lv_if_le hx hb hd htgt (fun z => kt (decide_eq_true ((ci_le hr (show inR 0 from ⟨by omega, by omega⟩)).mp z))) (fun z => kf (fun y => z ((ci_le hr (show inR 0 from ⟨by omega, by omega⟩)).mpr (of_decide_eq_true y))))
      · cases h
    · cases h
  · cases h

theorem sn_goto {off : Int} (hd : decode (mB i) pc = .ok (.goto off, len)) (h : am_ins G i pc len ls st σ (.goto off) = some (.inl (pc', (ls', (st', σ'))))) : SN p l e R s m args below meth c G D i c0 d0 Q pc ls st σ pc' ls' st' σ' := by
  unfold am_ins at h
  dsimp only at h
  split at h
  · rename_i hc
    obtain ⟨rfl, hoff⟩ := hc
    have htgt : (pc : Int) + off = ((am_tgt pc off : Nat) : Int) := by unfold am_tgt; omega
    obtain ⟨rfl, rfl, rfl, rfl⟩ := aN_inj h
    intro la H locs F hdyn hl hrc hrs k
    obtain ⟨hx, hb, hml, hown, hts, hKU, hE, -⟩ := F
    exact lv_goto hx hb hd htgt (k la H locs hl hdyn)
  · cases h

theorem sn_ifnull {off : Int} (hd : decode (mB i) pc = .ok (.ifnull off, len)) (h : am_ins G i pc len ls st σ (.ifnull off) = some (.inl (pc', (ls', (st', σ'))))) : SN p l e R s m args below meth c G D i c0 d0 Q pc ls st σ pc' ls' st' σ' := by
  unfold am_ins at h
  dsimp only at h
  split at h
  · rename_i hc
    obtain ⟨rfl, hoff⟩ := hc
    have htgt : (pc : Int) + off = ((am_tgt pc off : Nat) : Int) := by unfold am_tgt; omega
    split at h
    · obtain ⟨rfl, rfl, rfl, rfl⟩ := aN_inj h
      intro la H locs F hdyn hl hrc hrs k
      obtain ⟨hx, hb, hml, hown, hts, hKU, hE, -⟩ := F
      exact lv_ifnull hx hb hd (k la H locs hl hdyn)
    · obtain ⟨rfl, rfl, rfl, rfl⟩ := aN_inj h
      intro la H locs F hdyn hl hrc hrs k
      obtain ⟨hx, hb, hml, hown, hts, hKU, hE, -⟩ := F
      exact lv_ifnullN hx hb hd htgt (k la H locs hl hdyn)
    · cases h
  · cases h

end SN
