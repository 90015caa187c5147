/-! THE STEPS, against the machine: objects, statics, constants, switches, the two plain calls -/
def chkN (oc : Nat) (q : Nat × Nat) : Bool := if 10 ≤ q.2 then true else decide (q.2 < 6 ∧ Cond.classLink (am_cn oc) q.1 (am_cn q.2) ∈ wl ∧ Cond.instantiable (am_cn q.2) (am_ty q.2).length ∈ wl ∧ Cond.initialized (am_cn q.2) ∈ wl)
theorem nT_ok : ∀ oc, oc < 13 → ∀ q ∈ am_nT oc, chkN oc q = true := by decide +kernel
theorem nT_big {oc : Nat} (h : ¬ oc < 13) : am_nT oc = [] := by
  unfold am_nT
  split <;> first | omega | rfl
theorem nT_at {oc idx x : Nat} (h : am_lk (am_nT oc) idx = some x) : chkN oc (idx, x) = true := by
  have h1 := am_lk_mem h
  by_cases h2 : oc < 13
  · exact nT_ok oc h2 _ h1
  · rw [nT_big h2] at h1
    cases h1
def chkK (oc : Nat) (q : Nat × (Nat × Int)) : Bool := match q.2.1 with
  | 0 => decide (Cond.constant (am_cn oc) q.1 (Int32.ofInt q.2.2) ∈ wl)
  | 1 => decide (Cond.constantLong (am_cn oc) q.1 (Int64.ofInt q.2.2) ∈ wl)
  | 2 => decide (Cond.constantDouble (am_cn oc) q.1 (UInt64.ofNat q.2.2.toNat) ∈ wl)
  | _ => decide (oc = 0) && ordTx.any (fun z => decide (z.1 = q.2.2.toNat ∧ z.2.1 = q.1))
theorem kT_ok : ∀ oc, oc < 13 → ∀ q ∈ am_kT oc, chkK oc q = true := by decide +kernel
theorem kT_big {oc : Nat} (h : ¬ oc < 13) : am_kT oc = [] := by
  unfold am_kT
  split <;> first | omega | rfl
theorem kT_at {oc idx : Nat} {x : Nat × Int} (h : am_lk (am_kT oc) idx = some x) : chkK oc (idx, x) = true := by
  have h1 := am_lk_mem h
  by_cases h2 : oc < 13
  · exact kT_ok oc h2 _ h1
  · rw [kT_big h2] at h1
    cases h1
theorem sf_x : Cond.fieldLinkNest "CorridorPlan$Plan" 75 "CorridorPlan" "SIDE_X" "[I" "CorridorPlan" ∈ wn := by decide +kernel
theorem sf_y : Cond.fieldLinkNest "CorridorPlan$Plan" 78 "CorridorPlan" "SIDE_Y" "[I" "CorridorPlan" ∈ wn := by decide +kernel
theorem sf_c : Cond.fieldLink "java/lang/String" 38 "java/lang/String" "COMPACT_STRINGS" "Z" ∈ wl := by decide +kernel
theorem sf_p : Cond.fieldLink "java/lang/String" 1053 "jdk/internal/util/Preconditions" "SIOOBE_FORMATTER" "Ljava/util/function/BiFunction;" ∈ wl := by decide +kernel
theorem cls_dflt (ci : Nat) (hci : ci < 6) : ∀ j, j < (am_ty ci).length → ∀ ty, (am_ty ci)[j]? = some ty → defaultValue ty = vp_V (((am_ty ci).map am_dflt).map cv) j := by
  intro j hj ty hty
  unfold vp_V
  rw [List.getD_eq_getElem?_getD, List.getElem?_map, List.getElem?_map, hty]
  show defaultValue ty = cv (am_dflt ty)
  have h : ∀ c, c < 6 → ∀ t ∈ am_ty c, defaultValue t = cv (am_dflt t) := by decide +kernel
  exact h ci hci ty (List.mem_of_getElem? hty)
section SN4
variable {p : Program} {l : Launch} {e : Env} {R : Room} {s : State} {m : MethodId} {args : Array Value} {below : List Frame} {meth : Method} {c : Code} {G : Nat → Nat} {D : AD} {i c0 d0 : Nat} {Q : State → Prop}
variable {pc len : Nat} {ls : AL} {st : List AV} {σ : AS} {pc' : Nat} {ls' : AL} {st' : List AV} {σ' : AS}
theorem sn_anewarray {idx : Nat} (hd : decode (mB i) pc = .ok (.anewarray idx, len)) (h : am_ins G i pc len ls st σ (.anewarray idx) = some (.inl (pc', (ls', (st', σ'))))) : SN p l e R s m args below meth c G D i c0 d0 Q pc ls st σ pc' ls' st' σ' := by
  unfold am_ins at h
  dsimp only at h
  split at h
  · rename_i hc
    subst hc
    unfold am_newq at h
    split at h
    · rename_i n r
      split at h
      · cases h
      · rename_i hq
        have hz : ¬ σ.2.1 = 0 := fun z => hq (Or.inl z)
        have h0 : 0 ≤ n := by omega
        have h1 : n ≤ 2147483647 := by omega
        have hn0 : ¬ Int32.ofInt n < 0 := fun z => by
          have := (ci_lt (a := n) (b := 0) ⟨by omega, h1⟩ ⟨by omega, by omega⟩).mp z
          omega
        split at h
        · rename_i hlk
          obtain ⟨rfl, rfl, rfl, rfl⟩ := aN_inj h
          intro la H locs F hdyn hl hrc hrs k
          obtain ⟨hx, hb, hml, hown, hts, hKU, hE, -⟩ := F
          have hck := nT_at hlk
          unfold chkN at hck
          rw [if_neg (show ¬ 10 ≤ (idx, 1).2 from by show ¬ 10 ≤ 1; omega)] at hck
          have hw := (of_decide_eq_true hck).2.1
          refine W.anew hx hb hown (hts _ hw) (va_AO.use hKU.2.2.1) rfl hd rfl hn0 (by rw [ci_clamp h0 h1]; omega) (am_room hdyn.2.2.2.1 hrc) (by rw [ci_clamp h0 h1]; exact am_rooms hdyn.2.2.2.2 hrs) fun cA kA comp f1 f2 f3 f4 => ?_
          rw [ci_clamp h0 h1]
          generalize hH1 : H.push ({ cls := cA, slots := Array.replicate n.toNat .null, vm := .none } : Cell) = H1
          have z1 : H1.size = H.size + 1 := by rw [← hH1, Array.size_push]
          have e1 : H1[H.size]? = some (arrV cA n.toNat (fun _ => .null)) := by rw [← hH1, Array.getElem?_push_size, ← arrV_new]
          have o1 : ∀ q : Nat, q < H.size → H1[q]? = H[q]? := fun q hq => by rw [← hH1, Array.getElem?_push, if_neg (Nat.ne_of_lt hq)]
          obtain ⟨kA9, comp9, k1, k2, k3, k4⟩ := (hKU.1.2 3 _ rfl).2
          have hcA : cA = D.2 3 := Option.some.inj (f1.symm.trans k4)
          subst hcA
          obtain ⟨hdyn1, hsz⟩ := hdyn.neu (o := .inr (.inr (.inr (n.toNat, fun _ => none)))) (k := n.toNat) hz e1 z1 o1
          have h9 := k la H1 locs hl hdyn1
          rw [show ((am_nw σ (.inr (.inr (.inr (n.toNat, fun _ => none)))) n.toNat).2.2.1 - c0) = σ.2.2.1 - c0 + 1 from Nat.succ_sub hdyn.2.2.2.1, show ((am_nw σ (.inr (.inr (.inr (n.toNat, fun _ => none)))) n.toNat).2.2.2 - d0) = σ.2.2.2 - d0 + n.toNat from Nat.sub_add_comm hdyn.2.2.2.2] at h9
          rw [hsz]
          exact h9
        · cases h
    · cases h
  · cases h
theorem sn_new {idx : Nat} (hd : decode (mB i) pc = .ok (.new idx, len)) (h : am_ins G i pc len ls st σ (.new idx) = some (.inl (pc', (ls', (st', σ'))))) : SN p l e R s m args below meth c G D i c0 d0 Q pc ls st σ pc' ls' st' σ' := by
  unfold am_ins at h
  dsimp only at h
  split at h
  · rename_i hc
    subst hc
    unfold am_new at h
    split at h
    · rename_i ci hlk
      split at h
      · split at h
        · unfold aT at h
          cases h
        · cases h
      · rename_i hlt
        split at h
        · cases h
        · rename_i hz
          obtain ⟨rfl, rfl, rfl, rfl⟩ := aN_inj h
          intro la H locs F hdyn hl hrc hrs k
          obtain ⟨hx, hb, hml, hown, hts, hKU, hE, -⟩ := F
          have hck := nT_at hlk
          unfold chkN at hck
          rw [if_neg hlt] at hck
          obtain ⟨hci, hw1, hw2, hw3⟩ := of_decide_eq_true hck
          obtain ⟨C, T, N, ty0, h1, h2, h3, h4, h5, h7, h8, h9⟩ := cls_ok ci hci
          subst h2
          subst h7
          have hKn := hKU.1.1 ci _ h1
          refine W.newcK hx hb hown (hts _ hw1) (hts _ hw2) (hts _ hw3) rfl hd (am_room hdyn.2.2.2.1 hrc) (am_rooms hdyn.2.2.2.2 hrs) hKn.2.1 rfl fun H1 kC hkC e1 z1 o1 => ?_
          have hrel : RelO G D s H.size (.inl (ci, (am_ty ci).map am_dflt)) H1 := by
            unfold RelO
            dsimp only
            rw [if_neg (by omega)]
            exact ⟨hci, _, h1, (u_born ty0 hts h3 hKn hkC e1 h4).to (fun j hj => cls_dflt ci hci j hj _ (h8 j hj))⟩
          obtain ⟨hdyn1, hsz⟩ := hdyn.neu (o := .inl (ci, (am_ty ci).map am_dflt)) (k := (am_ty ci).length) hz hrel z1 o1
          have h99 := k la H1 locs hl hdyn1
          rw [show ((am_nw σ (.inl (ci, (am_ty ci).map am_dflt)) (am_ty ci).length).2.2.1 - c0) = σ.2.2.1 - c0 + 1 from Nat.succ_sub hdyn.2.2.2.1, show ((am_nw σ (.inl (ci, (am_ty ci).map am_dflt)) (am_ty ci).length).2.2.2 - d0) = σ.2.2.2 - d0 + (am_ty ci).length from Nat.sub_add_comm hdyn.2.2.2.2] at h99
          rw [hsz]
          exact h99
    · cases h
  · cases h
theorem gT_at {oc idx x : Nat} (h : am_lk (am_gT oc) idx = some x) : (oc = 1 ∧ idx = 75 ∧ x = 0) ∨ (oc = 1 ∧ idx = 78 ∧ x = 1) ∨ (oc = 9 ∧ idx = 38 ∧ x = 2) ∨ (oc = 9 ∧ idx = 1053 ∧ x = 3) := by
  have h1 := am_lk_mem h
  unfold am_gT at h1
  split at h1
  · simp only [List.mem_cons, Prod.mk.injEq, List.not_mem_nil, or_false] at h1
    rcases h1 with ⟨rfl, rfl⟩ | ⟨rfl, rfl⟩
    · exact Or.inl ⟨rfl, rfl, rfl⟩
    · exact Or.inr (Or.inl ⟨rfl, rfl, rfl⟩)
  · simp only [List.mem_cons, Prod.mk.injEq, List.not_mem_nil, or_false] at h1
    rcases h1 with ⟨rfl, rfl⟩ | ⟨rfl, rfl⟩
    · exact Or.inr (Or.inr (Or.inl ⟨rfl, rfl, rfl⟩))
    · exact Or.inr (Or.inr (Or.inr ⟨rfl, rfl, rfl⟩))
  · cases h1
theorem sn_getstatic {idx : Nat} (hd : decode (mB i) pc = .ok (.getstatic idx, len)) (h : am_ins G i pc len ls st σ (.getstatic idx) = some (.inl (pc', (ls', (st', σ'))))) : SN p l e R s m args below meth c G D i c0 d0 Q pc ls st σ pc' ls' st' σ' := by
  unfold am_ins at h
  dsimp only at h
  split at h
  · rename_i hc
    subst hc
    split at h
    · rename_i g hlk
      obtain ⟨rfl, rfl, rfl, rfl⟩ := aN_inj h
      intro la H locs F hdyn hl hrc hrs k
      obtain ⟨hx, hb, hml, hown, hts, hKU, hE, -⟩ := F
      obtain ⟨e1, e2, e3, e4, -⟩ := hE
      rcases gT_at hlk with ⟨h1, h2, h3⟩ | ⟨h1, h2, h3⟩ | ⟨h1, h2, h3⟩ | ⟨h1, h2, h3⟩
      · rw [h1] at hown
        subst h2
        subst h3
        exact va_getsN hx hb e1 hdyn.2.2.1 hown (va_Nw.use rfl (hKU.2.1 _ sf_x)) (fun _ z => z) hd (k la H locs hl hdyn)
      · rw [h1] at hown
        subst h2
        subst h3
        exact va_getsN hx hb e2 hdyn.2.2.1 hown (va_Nw.use rfl (hKU.2.1 _ sf_y)) (fun _ z => z) hd (k la H locs hl hdyn)
      · rw [h1] at hown
        subst h2
        subst h3
        exact va_gets hx hb e3 hdyn.2.2.1 hown (hts _ sf_c) (fun _ z => z) hd (k la H locs hl hdyn)
      · rw [h1] at hown
        subst h2
        subst h3
        exact va_gets hx hb e4 hdyn.2.2.1 hown (hts _ sf_p) (fun _ z => z) hd (k la H locs hl hdyn)
    · cases h
  · cases h
theorem sn_ldc {idx : Nat} (hd : decode (mB i) pc = .ok (.ldc idx, len)) (h : am_ins G i pc len ls st σ (.ldc idx) = some (.inl (pc', (ls', (st', σ'))))) : SN p l e R s m args below meth c G D i c0 d0 Q pc ls st σ pc' ls' st' σ' := by
  unfold am_ins at h
  dsimp only at h
  split at h
  · rename_i hc
    subst hc
    unfold am_ldc at h
    split at h
    · rename_i q hlk
      split at h
      · rename_i hq
        obtain ⟨rfl, rfl, rfl, rfl⟩ := aN_inj h
        intro la H locs F hdyn hl hrc hrs k
        obtain ⟨hx, hb, hml, hown, hts, hKU, hE, -⟩ := F
        have hck := kT_at hlk
        obtain ⟨q1, q2⟩ := q
        rcases hq with ⟨-, h1 | h1⟩ | ⟨h1, -⟩
        · dsimp only at h1
          subst h1
          exact W.ldc hx hb hown (hts _ (of_decide_eq_true hck)) rfl hd (k la H locs hl hdyn)
        · dsimp only at h1
          subst h1
          unfold chkK at hck
          dsimp only at hck
          simp only [Bool.and_eq_true, decide_eq_true_eq, List.any_eq_true] at hck
          obtain ⟨h0, z, hz, hz1, hz2⟩ := hck
          rw [h0] at hown
          have hR := hKU.2.2.2.2.1 z hz
          rw [hz1, hz2] at hR
          exact va_ldcS hx hb hown hR hd (k la H locs hl hdyn)
        · cases h1
      · cases h
    · cases h
  · cases h
theorem sn_ldc2_w {idx : Nat} (hd : decode (mB i) pc = .ok (.ldc2_w idx, len)) (h : am_ins G i pc len ls st σ (.ldc2_w idx) = some (.inl (pc', (ls', (st', σ'))))) : SN p l e R s m args below meth c G D i c0 d0 Q pc ls st σ pc' ls' st' σ' := by
  unfold am_ins at h
  dsimp only at h
  split at h
  · rename_i hc
    subst hc
    unfold am_ldc at h
    split at h
    · rename_i q hlk
      split at h
      · rename_i hq
        obtain ⟨rfl, rfl, rfl, rfl⟩ := aN_inj h
        intro la H locs F hdyn hl hrc hrs k
        obtain ⟨hx, hb, hml, hown, hts, hKU, hE, -⟩ := F
        have hck := kT_at hlk
        obtain ⟨q1, q2⟩ := q
        rcases hq with ⟨h1, -⟩ | ⟨-, h1 | h1⟩
        · cases h1
        · dsimp only at h1
          subst h1
          have hw : Cond.constantLong (am_cn (mOc i)) idx (Int64.ofInt q2) ∈ wl := by
            unfold chkK at hck
            exact of_decide_eq_true hck
          exact W.ldc2 (v := Int64.ofInt q2) hx hb hown (hts _ hw) rfl hd (k la H locs hl hdyn)
        · dsimp only at h1
          subst h1
          have hw : Cond.constantDouble (am_cn (mOc i)) idx (UInt64.ofNat q2.toNat) ∈ wl := by
            unfold chkK at hck
            exact of_decide_eq_true hck
          exact lv_ldc2d (v := UInt64.ofNat q2.toNat) hx hb hown (hts _ hw) hd (k la H locs hl hdyn)
      · cases h
    · cases h
  · cases h
theorem am_tgt_of {off : Int} (h : 0 ≤ (pc : Int) + off) : (pc : Int) + off = ((am_tgt pc off : Nat) : Int) := by unfold am_tgt; omega
theorem sn_tableswitch {d lo hi : Int} {offs : Array Int} (hd : decode (mB i) pc = .ok (.tableswitch d lo hi offs, len)) (h : am_ins G i pc len ls st σ (.tableswitch d lo hi offs) = some (.inl (pc', (ls', (st', σ'))))) : SN p l e R s m args below meth c G D i c0 d0 Q pc ls st σ pc' ls' st' σ' := by
  unfold am_ins at h
  dsimp only at h
  split at h
  · rename_i x r
    split at h
    · rename_i hq
      obtain ⟨hr, hlen, hdf, hall⟩ := hq
      obtain ⟨rfl, rfl, rfl, rfl⟩ := aN_inj h
      intro la H locs F hdyn hl hrc hrs k
      obtain ⟨hx, hb, hml, hown, hts, hKU, hE, -⟩ := F
      have hxi := ci_toInt hr
      by_cases hout : x < lo ∨ hi < x
      · have ht : am_tsw pc d lo hi offs.toList x = am_tgt pc d := by unfold am_tsw; rw [if_pos hout]
        rw [ht] at k
        exact lv_tableOut hx hb hd (by rw [hxi]; exact hout) (am_tgt_of hdf) (k la H locs hl hdyn)
      · have hlt : (x - lo).toNat < offs.toList.length := by rw [hlen]; omega
        have hget : offs.toList[(x - lo).toNat]? = some offs.toList[(x - lo).toNat] := List.getElem?_eq_getElem hlt
        have ht : am_tsw pc d lo hi offs.toList x = am_tgt pc offs.toList[(x - lo).toNat] := by
          unfold am_tsw
          rw [if_neg hout, List.getD_eq_getElem?_getD, hget]
          rfl
        rw [ht] at k
        have h0 := of_decide_eq_true (List.all_eq_true.mp hall _ (List.mem_of_getElem? hget))
        exact lv_tableIn hx hb hd (by rw [hxi]; omega) (by rw [hxi]; omega) (by rw [hxi, ← Array.getElem?_toList]; exact hget) (am_tgt_of h0) (k la H locs hl hdyn)
    · cases h
  · cases h
theorem sn_lookupswitch {d : Int} {ps : Array (Int × Int)} (hd : decode (mB i) pc = .ok (.lookupswitch d ps, len)) (h : am_ins G i pc len ls st σ (.lookupswitch d ps) = some (.inl (pc', (ls', (st', σ'))))) : SN p l e R s m args below meth c G D i c0 d0 Q pc ls st σ pc' ls' st' σ' := by
  unfold am_ins at h
  dsimp only at h
  split at h
  · rename_i x r
    split at h
    · rename_i hq
      obtain ⟨hr, hdf, hall⟩ := hq
      obtain ⟨rfl, rfl, rfl, rfl⟩ := aN_inj h
      intro la H locs F hdyn hl hrc hrs k
      obtain ⟨hx, hb, hml, hown, hts, hKU, hE, -⟩ := F
      exact lv_lookup hx hb hd hall (by rw [ci_toInt hr]) (am_tgt_of hdf) (k la H locs hl hdyn)
    · cases h
  · cases h
end SN4
