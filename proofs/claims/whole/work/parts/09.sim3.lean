/-! THE STEPS, against the machine: arrays, constants, statics, new cells, tables -/
theorem nw_in {w : Cond} (h : w ∈ lw_tbl) (h2 : wn_is w = true) : w ∈ wn := List.mem_filter.mpr ⟨h, h2⟩
section SN3
variable {p : Program} {l : Launch} {e : Env} {R : Room} {s : State} {m : MethodId} {args : Array Value} {below : List Frame} {meth : Method} {c : Code} {G : Nat → Nat} {D : AD} {i c0 d0 : Nat} {Q : State → Prop}
variable {pc len : Nat} {ls : AL} {st : List AV} {σ : AS} {pc' : Nat} {ls' : AL} {st' : List AV} {σ' : AS}
theorem sn_arraylength (hd : decode (mB i) pc = .ok (.arraylength, len)) (h : am_ins G i pc len ls st σ .arraylength = some (.inl (pc', (ls', (st', σ'))))) : SN p l e R s m args below meth c G D i c0 d0 Q pc ls st σ pc' ls' st' σ' := by
  unfold am_ins at h
  dsimp only at h
  split at h
  · rename_i hc
    subst hc
    unfold am_alen at h
    split at h
    · rename_i a r
      split at h
      · rename_i t n f hcell
        obtain ⟨rfl, rfl, rfl, rfl⟩ := aN_inj h
        intro la H locs F hdyn hl hrc hrs k
        obtain ⟨hx, hb, hml, hown, hts, hKU, hE, -⟩ := F
        have hrel := hdyn.1 a _ hcell
        unfold RelO at hrel
        split at hrel
        · rename_i heq
          cases heq
        · rename_i heq
          cases heq
          exact va_alen (tys := am_tys D) hx hb hKU.1 (one_P hrel) 0 0 rfl rfl rfl hd (k la H locs hl hdyn)
        · rename_i heq
          cases heq
          exact va_alen (tys := am_tys D) hx hb hKU.1 (one_P hrel) 0 1 rfl rfl rfl hd (k la H locs hl hdyn)
        · rename_i heq
          cases heq
          obtain ⟨cell, g1, g2, g3, g4, g5, g6⟩ := hrel
          exact W.alen hx hb g1 g2 g5 rfl rfl hd (k la H locs hl hdyn)
        · rename_i heq
          cases heq
          obtain ⟨cell, g1, g2, g3, g4, g5, g6⟩ := hrel
          exact W.alen hx hb g1 g2 g5 rfl rfl hd (k la H locs hl hdyn)
        · exact hrel.elim
        · rename_i heq
          cases heq
        · rename_i heq
          cases heq
      · rename_i n f hcell
        obtain ⟨rfl, rfl, rfl, rfl⟩ := aN_inj h
        intro la H locs F hdyn hl hrc hrs k
        obtain ⟨hx, hb, hml, hown, hts, hKU, hE, -⟩ := F
        exact va_alen (tys := am_tys D) hx hb hKU.1 (one_P (hdyn.1 a _ hcell).l) 0 2 rfl rfl rfl hd (k la H locs hl hdyn)
      · rename_i n f hcell
        obtain ⟨rfl, rfl, rfl, rfl⟩ := aN_inj h
        intro la H locs F hdyn hl hrc hrs k
        obtain ⟨hx, hb, hml, hown, hts, hKU, hE, -⟩ := F
        exact va_alen (tys := am_tys D) hx hb hKU.1 (one_P (hdyn.1 a _ hcell).r) 0 3 rfl rfl rfl hd (k la H locs hl hdyn)
      · cases h
    · cases h
  · cases h
theorem sn_iaload (hd : decode (mB i) pc = .ok (.iaload, len)) (h : am_ins G i pc len ls st σ .iaload = some (.inl (pc', (ls', (st', σ'))))) : SN p l e R s m args below meth c G D i c0 d0 Q pc ls st σ pc' ls' st' σ' := by
  unfold am_ins at h
  dsimp only at h
  split at h
  · rename_i hc
    subst hc
    unfold am_aldI at h
    split at h
    · rename_i j a r
      split at h
      · rename_i t n f hcell
        split at h
        · rename_i hq
          obtain ⟨ht, h0, hn, h1⟩ := hq
          obtain ⟨rfl, rfl, rfl, rfl⟩ := aN_inj h
          intro la H locs F hdyn hl hrc hrs k
          obtain ⟨hx, hb, hml, hown, hts, hKU, hE, -⟩ := F
          have hrel := hdyn.1 a _ hcell
          have hin := ci_in h0 h1 hn
          simp only [Bool.or_eq_true, beq_iff_eq] at ht
          rcases ht with rfl | rfl
          · refine va_iald (tys := am_tys D) hx hb hKU.1 (one_P hrel.i0) 0 0 rfl rfl hin hd ?_
            rw [ci_clamp h0 h1]
            exact k la H locs hl hdyn
          · obtain ⟨cell, g1, g2, g3, g4, g5, g6, g7⟩ := hrel
            refine W.iald (v := .int (Int32.ofInt (f j.toNat))) hx hb g1 g2 g3 ?_ ?_ rfl rfl hd (k la H locs hl hdyn)
            · rw [ci_clamp h0 h1]
              rintro (z | z)
              · exact hin (Or.inl z)
              · omega
            · rw [ci_clamp h0 h1]
              exact g6 _ (by omega)
        · cases h
      · cases h
    · cases h
  · cases h
theorem sn_baload (hd : decode (mB i) pc = .ok (.baload, len)) (h : am_ins G i pc len ls st σ .baload = some (.inl (pc', (ls', (st', σ'))))) : SN p l e R s m args below meth c G D i c0 d0 Q pc ls st σ pc' ls' st' σ' := by
  unfold am_ins at h
  dsimp only at h
  split at h
  · rename_i hc
    subst hc
    unfold am_aldI at h
    split at h
    · rename_i j a r
      split at h
      · rename_i t n f hcell
        split at h
        · rename_i hq
          obtain ⟨ht, h0, hn, h1⟩ := hq
          obtain ⟨rfl, rfl, rfl, rfl⟩ := aN_inj h
          intro la H locs F hdyn hl hrc hrs k
          obtain ⟨hx, hb, hml, hown, hts, hKU, hE, -⟩ := F
          have hrel := hdyn.1 a _ hcell
          have hin := ci_in h0 h1 hn
          simp only [Bool.or_eq_true, beq_iff_eq] at ht
          rcases ht with rfl | rfl
          · refine va_zald (tys := am_tys D) hx hb hKU.1 (one_P hrel.i1) 0 1 rfl rfl hin hd ?_
            rw [ci_clamp h0 h1]
            exact k la H locs hl hdyn
          · obtain ⟨cell, g1, g2, g3, g4, g5, g6, g7⟩ := hrel
            refine W.bald (v := .int (Int32.ofInt (f j.toNat))) hx hb g1 g2 g3 ?_ ?_ rfl rfl hd (k la H locs hl hdyn)
            · rw [ci_clamp h0 h1]
              rintro (z | z)
              · exact hin (Or.inl z)
              · omega
            · rw [ci_clamp h0 h1]
              exact g6 _ (by omega)
        · cases h
      · cases h
    · cases h
  · cases h
theorem sn_laload (hd : decode (mB i) pc = .ok (.laload, len)) (h : am_ins G i pc len ls st σ .laload = some (.inl (pc', (ls', (st', σ'))))) : SN p l e R s m args below meth c G D i c0 d0 Q pc ls st σ pc' ls' st' σ' := by
  unfold am_ins at h
  dsimp only at h
  split at h
  · rename_i hc
    subst hc
    unfold am_aldL at h
    split at h
    · rename_i j a r
      split at h
      · rename_i n f hcell
        split at h
        · rename_i hq
          obtain ⟨h0, hn, h1⟩ := hq
          obtain ⟨rfl, rfl, rfl, rfl⟩ := aN_inj h
          intro la H locs F hdyn hl hrc hrs k
          obtain ⟨hx, hb, hml, hown, hts, hKU, hE, -⟩ := F
          have hrel := hdyn.1 a _ hcell
          have hin := ci_in h0 h1 hn
          refine va_lald (tys := am_tys D) hx hb hKU.1 (one_P hrel.l) 0 2 rfl rfl hin hd ?_
          rw [ci_clamp h0 h1]
          exact k la H locs hl hdyn
        · cases h
      · cases h
    · cases h
  · cases h
theorem am_rf (o : Option Nat) : va_rf o = cv (.inr (.inr (.inr o))) := by cases o <;> rfl
theorem sn_aaload (hd : decode (mB i) pc = .ok (.aaload, len)) (h : am_ins G i pc len ls st σ .aaload = some (.inl (pc', (ls', (st', σ'))))) : SN p l e R s m args below meth c G D i c0 d0 Q pc ls st σ pc' ls' st' σ' := by
  unfold am_ins at h
  dsimp only at h
  split at h
  · rename_i hc
    subst hc
    unfold am_aldR at h
    split at h
    · rename_i j a r
      split at h
      · rename_i n f hcell
        split at h
        · rename_i hq
          obtain ⟨h0, hn, h1⟩ := hq
          obtain ⟨rfl, rfl, rfl, rfl⟩ := aN_inj h
          intro la H locs F hdyn hl hrc hrs k
          obtain ⟨hx, hb, hml, hown, hts, hKU, hE, -⟩ := F
          have hrel := hdyn.1 a _ hcell
          have hin := ci_in h0 h1 hn
          refine va_aldq (tys := am_tys D) (C := "CorridorPlan$Plan") hx hb hKU.1 (one_P hrel.r) 0 3 rfl rfl hin hd ?_
          rw [ci_clamp h0 h1, am_rf]
          exact k la H locs hl hdyn
        · cases h
      · cases h
    · cases h
  · cases h
theorem sn_iastore (hd : decode (mB i) pc = .ok (.iastore, len)) (h : am_ins G i pc len ls st σ .iastore = some (.inl (pc', (ls', (st', σ'))))) : SN p l e R s m args below meth c G D i c0 d0 Q pc ls st σ pc' ls' st' σ' := by
  unfold am_ins at h
  dsimp only at h
  split at h
  · rename_i hc
    subst hc
    unfold am_astI at h
    split at h
    · rename_i x j a r
      split at h
      · rename_i t n f hcell
        split at h
        · rename_i hq
          obtain ⟨rfl, hw, h0, hn, h1, -⟩ := hq
          obtain ⟨rfl, rfl, rfl, rfl⟩ := aN_inj h
          intro la H locs F hdyn hl hrc hrs k
          obtain ⟨hx, hb, hml, hown, hts, hKU, hE, -⟩ := F
          have hrel := hdyn.1 a _ hcell
          have hin := ci_in h0 h1 hn
          refine W.iast hx hb hrel ((hKU.1.2 0 _ rfl).1 n (fun j => .int (Int32.ofInt (f j)))) (fun q => by cases q) (by show ¬ (_ ∨ (arrV _ _ _).slots.size ≤ _); rw [arrV_size]; exact hin) rfl rfl hd fun H1 e1 z oq => ?_
          refine k la H1 _ hl (hdyn.put hw ?_ z oq)
          show H1[a]? = some (vp_cell _ _)
          rw [e1, ci_clamp h0 h1, vp_cell_i, vp_cell_i, arrV_store]
          congr 2
          funext q
          by_cases hq : q = j.toNat
          · subst hq
            simp [updV, upI]
          · simp [updV, upI, hq]
        · cases h
      · cases h
    · cases h
  · cases h
theorem sn_bastore (hd : decode (mB i) pc = .ok (.bastore, len)) (h : am_ins G i pc len ls st σ .bastore = some (.inl (pc', (ls', (st', σ'))))) : SN p l e R s m args below meth c G D i c0 d0 Q pc ls st σ pc' ls' st' σ' := by
  unfold am_ins at h
  dsimp only at h
  split at h
  · rename_i hc
    subst hc
    unfold am_astI at h
    split at h
    · rename_i x j a r
      split at h
      · rename_i t n f hcell
        split at h
        · rename_i hq
          obtain ⟨rfl, hw, h0, hn, h1, h01⟩ := hq
          obtain ⟨rfl, rfl, rfl, rfl⟩ := aN_inj h
          intro la H locs F hdyn hl hrc hrs k
          obtain ⟨hx, hb, hml, hown, hts, hKU, hE, -⟩ := F
          have hrel := hdyn.1 a _ hcell
          have hin := ci_in h0 h1 hn
          have hnar : narrow .boolean (.int (Int32.ofInt x)) = .int (Int32.ofInt x) := by
            rcases h01 with h9 | h9 | h9
            · cases h9
            · subst h9; decide +kernel
            · subst h9; decide +kernel
          refine W.zast hx hb hrel ((hKU.1.2 1 _ rfl).1 n (fun j => .int (Int32.ofInt (f j)))) (fun q => by cases q) (by show ¬ (_ ∨ (arrV _ _ _).slots.size ≤ _); rw [arrV_size]; exact hin) rfl rfl hd fun H1 e1 z oq => ?_
          refine k la H1 _ hl (hdyn.put hw ?_ z oq)
          show H1[a]? = some (vp_cell _ _)
          rw [e1, ci_clamp h0 h1, vp_cell_i, vp_cell_i, arrV_store, hnar]
          congr 2
          funext q
          by_cases hq : q = j.toNat
          · subst hq
            simp [updV, upI]
          · simp [updV, upI, hq]
        · cases h
      · cases h
    · cases h
  · cases h
theorem sn_lastore (hd : decode (mB i) pc = .ok (.lastore, len)) (h : am_ins G i pc len ls st σ .lastore = some (.inl (pc', (ls', (st', σ'))))) : SN p l e R s m args below meth c G D i c0 d0 Q pc ls st σ pc' ls' st' σ' := by
  unfold am_ins at h
  dsimp only at h
  split at h
  · rename_i hc
    subst hc
    unfold am_astL at h
    split at h
    · rename_i x j a r
      split at h
      · rename_i n f hcell
        split at h
        · rename_i hq
          obtain ⟨hw, h0, hn, h1⟩ := hq
          obtain ⟨rfl, rfl, rfl, rfl⟩ := aN_inj h
          intro la H locs F hdyn hl hrc hrs k
          obtain ⟨hx, hb, hml, hown, hts, hKU, hE, -⟩ := F
          have hrel := hdyn.1 a _ hcell
          have hin := ci_in h0 h1 hn
          refine W.last hx hb hrel ((hKU.1.2 2 _ rfl).1 n (fun j => .long (f j))) (fun q => by cases q) (by show ¬ (_ ∨ (arrV _ _ _).slots.size ≤ _); rw [arrV_size]; exact hin) rfl rfl hd fun H1 e1 z oq => ?_
          refine k la H1 _ hl (hdyn.put hw ?_ z oq)
          show H1[a]? = some (vp_cell _ _)
          rw [e1, ci_clamp h0 h1, vp_cell_l, vp_cell_l, arrV_store]
          congr 2
          funext q
          by_cases hq : q = j.toNat
          · subst hq
            simp [updV, upL]
          · simp [updV, upL, hq]
        · cases h
      · cases h
    · cases h
  · cases h
theorem sn_aastore (hd : decode (mB i) pc = .ok (.aastore, len)) (h : am_ins G i pc len ls st σ .aastore = some (.inl (pc', (ls', (st', σ'))))) : SN p l e R s m args below meth c G D i c0 d0 Q pc ls st σ pc' ls' st' σ' := by
  unfold am_ins at h
  dsimp only at h
  split at h
  · rename_i hc
    subst hc
    unfold am_astR at h
    split at h
    · rename_i x j a r
      split at h
      · rename_i n f ci fs hcell hobj
        split at h
        · rename_i hq
          obtain ⟨rfl, hw, h0, hn, h1⟩ := hq
          obtain ⟨rfl, rfl, rfl, rfl⟩ := aN_inj h
          intro la H locs F hdyn hl hrc hrs k
          obtain ⟨hx, hb, hml, hown, hts, hKU, hE, -⟩ := F
          have hrel := hdyn.1 a _ hcell
          have hrelx := hdyn.1 x _ hobj
          have hin := ci_in h0 h1 hn
          unfold RelO at hrelx
          dsimp only at hrelx
          rw [if_neg (by decide)] at hrelx
          obtain ⟨-, r', hr', cellV, g1, g2, g3, -⟩ := hrelx
          cases hr'
          have hcls := (hKU.1.1 1 _ rfl).2
          obtain ⟨kA, comp, k1, k2, k3, -⟩ := (hKU.1.2 3 _ rfl).2
          have hcomp : comp = D.1.1 1 := Option.some.inj (k3.symm.trans hcls.1)
          subst hcomp
          obtain ⟨kC, hkC, -⟩ := hcls.2
          refine W.aast hx hb hrel (fun q h => by cases h) (fun h => by cases h) k1 k2 rfl hkC ⟨fun q => hin (Or.inl q), by show _ < (arrV _ _ _).slots.size; rw [arrV_size]; exact Nat.not_le.mp fun q => hin (Or.inr q)⟩ g1 (fun q h => by rw [g3] at h; cases h) (by rw [g2]; exact hkC) (by rw [g2]; exact va_assign hcls) rfl rfl hd fun H1 e1 z oq => ?_
          refine k la H1 _ hl (hdyn.put hw ?_ z oq)
          show H1[a]? = some (vp_cell _ _)
          rw [e1, ci_clamp h0 h1, vp_cell_q, vp_cell_q, arrV_store]
          congr 2
          funext q
          by_cases hq : q = j.toNat
          · subst hq
            simp [updV, upR, va_rf]
          · simp [updV, upR, hq]
        · cases h
      · cases h
    · cases h
  · cases h
theorem Dyn.neu {H H1 : Heap} {o : AO} {k : Nat} {locs : List Loc} (hd : Dyn G D s c0 d0 σ H locs) (hz : ¬ σ.2.1 = 0) (ho : RelO G D s H.size o H1) (z : H1.size = H.size + 1) (oq : ∀ q : Nat, q < H.size → H1[q]? = H[q]?) : Dyn G D s c0 d0 (am_nw σ o k) H1 locs ∧ H.size = σ.2.1 := by
  obtain ⟨h1, h2, h3, h4, h5⟩ := hd
  have h6 : H.size = σ.2.1 := h2.resolve_left hz
  refine ⟨⟨?_, Or.inr ?_, ⟨Nat.le_trans h3.1 (by omega), fun x g1 g2 => (oq x (Nat.lt_of_lt_of_le g1 h3.1)).trans (h3.2.1 x g1 g2), h3.2.2⟩, Nat.le_succ_of_le h4, Nat.le_trans h5 (Nat.le_add_right _ _)⟩, h6⟩
  · show Rel G D s (am_up σ.1 σ.2.1 o) H1
    rw [← h6]
    exact h1.push ho oq
  · show H1.size = σ.2.1 + 1
    omega
theorem am_room {c c0 R : Nat} (h : c0 ≤ c) (h2 : c + 1 - c0 ≤ R) : c - c0 + 1 ≤ R := by omega
theorem am_rooms {c c0 k R : Nat} (h : c0 ≤ c) (h2 : c + k - c0 ≤ R) : c - c0 + k ≤ R := by omega
theorem ac_mem_int : Cond.arrayClass .int ∈ wl := by decide +kernel
theorem ac_mem_boolean : Cond.arrayClass .boolean ∈ wl := by decide +kernel
theorem ac_mem_long : Cond.arrayClass .long ∈ wl := by decide +kernel
theorem sn_newarray {ty : ArrayType} (hd : decode (mB i) pc = .ok (.newarray ty, len)) (h : am_ins G i pc len ls st σ (.newarray ty) = some (.inl (pc', (ls', (st', σ'))))) : SN p l e R s m args below meth c G D i c0 d0 Q pc ls st σ pc' ls' st' σ' := by
  unfold am_ins at h
  dsimp only at h
  split at h
  · rename_i hc
    subst hc
    unfold am_newa at h
    split at h
    · rename_i n r
      split at h
      · cases h
      · rename_i hq
        have hz : ¬ σ.2.1 = 0 := fun z => hq (Or.inl z)
        have h0 : 0 ≤ n := by omega
        have h1 : n ≤ 2147483647 := by omega
        have hn0 : ¬ Int32.ofInt n < 0 := fun z => by
          have := (ci_lt (a := n) (b := 0) ⟨by omega, h1⟩ ⟨by omega, by omega⟩).mp z
          omega
        split at h
        · obtain ⟨rfl, rfl, rfl, rfl⟩ := aN_inj h
          intro la H locs F hdyn hl hrc hrs k
          obtain ⟨hx, hb, hml, hown, hts, hKU, hE, -⟩ := F
          refine va_newaK (atype := .int) hx hb (hts _ ac_mem_int) rfl hd rfl hn0 (ci_clamp h0 h1) (by show n.toNat * 4 ≤ _; omega) (am_room hdyn.2.2.2.1 hrc) (am_rooms hdyn.2.2.2.2 hrs) rfl fun H1 cA e1 z1 o1 hAr hNm => ?_
          have hcA : cA = D.2 0 := Option.some.inj (hNm.symm.trans (hKU.1.2 0 _ rfl).2)
          subst hcA
          obtain ⟨hdyn1, hsz⟩ := hdyn.neu (o := .inr (.inl (0, n.toNat, fun _ => 0))) (k := n.toNat) hz e1 z1 o1
          have h9 := k la H1 locs hl hdyn1
          rw [show ((am_nw σ (.inr (.inl (0, n.toNat, fun _ => 0))) n.toNat).2.2.1 - c0) = σ.2.2.1 - c0 + 1 from Nat.succ_sub hdyn.2.2.2.1, show ((am_nw σ (.inr (.inl (0, n.toNat, fun _ => 0))) n.toNat).2.2.2 - d0) = σ.2.2.2 - d0 + n.toNat from Nat.sub_add_comm hdyn.2.2.2.2] at h9
          rw [hsz]
          exact h9
        · obtain ⟨rfl, rfl, rfl, rfl⟩ := aN_inj h
          intro la H locs F hdyn hl hrc hrs k
          obtain ⟨hx, hb, hml, hown, hts, hKU, hE, -⟩ := F
          refine va_newaK (atype := .boolean) hx hb (hts _ ac_mem_boolean) rfl hd rfl hn0 (ci_clamp h0 h1) (by show n.toNat * 1 ≤ _; omega) (am_room hdyn.2.2.2.1 hrc) (am_rooms hdyn.2.2.2.2 hrs) rfl fun H1 cA e1 z1 o1 hAr hNm => ?_
          have hcA : cA = D.2 1 := Option.some.inj (hNm.symm.trans (hKU.1.2 1 _ rfl).2)
          subst hcA
          obtain ⟨hdyn1, hsz⟩ := hdyn.neu (o := .inr (.inl (1, n.toNat, fun _ => 0))) (k := n.toNat) hz e1 z1 o1
          have h9 := k la H1 locs hl hdyn1
          rw [show ((am_nw σ (.inr (.inl (1, n.toNat, fun _ => 0))) n.toNat).2.2.1 - c0) = σ.2.2.1 - c0 + 1 from Nat.succ_sub hdyn.2.2.2.1, show ((am_nw σ (.inr (.inl (1, n.toNat, fun _ => 0))) n.toNat).2.2.2 - d0) = σ.2.2.2 - d0 + n.toNat from Nat.sub_add_comm hdyn.2.2.2.2] at h9
          rw [hsz]
          exact h9
        · obtain ⟨rfl, rfl, rfl, rfl⟩ := aN_inj h
          intro la H locs F hdyn hl hrc hrs k
          obtain ⟨hx, hb, hml, hown, hts, hKU, hE, -⟩ := F
          refine va_newaK (atype := .long) hx hb (hts _ ac_mem_long) rfl hd rfl hn0 (ci_clamp h0 h1) (by show n.toNat * 8 ≤ _; omega) (am_room hdyn.2.2.2.1 hrc) (am_rooms hdyn.2.2.2.2 hrs) rfl fun H1 cA e1 z1 o1 hAr hNm => ?_
          have hcA : cA = D.2 2 := Option.some.inj (hNm.symm.trans (hKU.1.2 2 _ rfl).2)
          subst hcA
          obtain ⟨hdyn1, hsz⟩ := hdyn.neu (o := .inr (.inr (.inl (n.toNat, fun _ => 0)))) (k := n.toNat) hz e1 z1 o1
          have h9 := k la H1 locs hl hdyn1
          rw [show ((am_nw σ (.inr (.inr (.inl (n.toNat, fun _ => 0)))) n.toNat).2.2.1 - c0) = σ.2.2.1 - c0 + 1 from Nat.succ_sub hdyn.2.2.2.1, show ((am_nw σ (.inr (.inr (.inl (n.toNat, fun _ => 0)))) n.toNat).2.2.2 - d0) = σ.2.2.2 - d0 + n.toNat from Nat.sub_add_comm hdyn.2.2.2.2] at h9
          rw [hsz]
          exact h9
        · cases h
    · cases h
  · cases h
end SN3
