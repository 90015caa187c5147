/-! THE STEPS, against the machine: fields, arrays, new cells, constants -/
theorem am_lk_mem {α : Type} : ∀ {l : List (Nat × α)} {k : Nat} {x : α}, am_lk l k = some x → (k, x) ∈ l
  | [], _, _, h => by cases h
  | (a, y) :: r, k, x, h => by
    unfold am_lk at h
    split at h
    · rename_i e
      cases h
      subst e
      exact List.mem_cons_self
    · exact List.mem_cons_of_mem _ (am_lk_mem h)
def chkF (oc : Nat) (q : Nat × (Nat × Nat)) : Bool := if q.2.1 = 6 then (decide (oc = 9) && (decide (q.2.2 = 0 ∧ Cond.fieldLink "java/lang/String" q.1 "java/lang/String" "value" "[B" ∈ wl) || decide (q.2.2 = 1 ∧ Cond.fieldLink "java/lang/String" q.1 "java/lang/String" "coder" "B" ∈ wl)))
  else match vwCl[q.2.1]? with
    | some r => decide (q.2.2 < r.2.2) && decide (Cond.fieldLink (am_cn oc) q.1 (r.2.1 q.2.2).1 (r.2.1 q.2.2).2.1 (r.2.1 q.2.2).2.2.1 ∈ wl)
    | none => false
theorem fT_ok : ∀ oc, oc < 13 → ∀ q ∈ am_fT oc, chkF oc q = true := by decide +kernel
theorem fT_big {oc : Nat} (h : ¬ oc < 13) : am_fT oc = [] := by
  unfold am_fT
  split <;> first | omega | rfl
theorem fT_at {oc idx : Nat} {x : Nat × Nat} (h : am_lk (am_fT oc) idx = some x) : chkF oc (idx, x) = true := by
  have h1 := am_lk_mem h
  by_cases h2 : oc < 13
  · exact fT_ok oc h2 _ h1
  · rw [fT_big h2] at h1
    cases h1
/-- what is known of a class of ours -/
def ClsOK (ci : Nat) (C : String) (T : u_T) (N : Nat) (ty0 : Nat → FieldType) : Prop := vwCl[ci]? = some (C, T, N) ∧ C = am_cn ci ∧ (∀ w ∈ u_ws C T N, w ∈ wl) ∧ (∀ k, k < N → parseFieldDescriptor (T k).2.2.1 = some (ty0 k)) ∧ (∀ a, a < N → ∀ b, b < N → a ≠ b → (T a).2.1 ≠ (T b).2.1) ∧ N = (am_ty ci).length ∧ (∀ k, k < N → (am_ty ci)[k]? = some (ty0 k)) ∧ (∀ k, k < N → (am_fin ci).getD k true = (T k).2.2.2 ∧ (T k).1 = C)
theorem cls_ok (ci : Nat) (h : ci < 6) : ∃ C T N ty0, ClsOK ci C T N ty0 := by
  match ci, h with
  | 0, _ => exact ⟨RX0, TX0, 6, tyX0, rfl, rfl, by decide +kernel, tyX0_ok, nmX0, rfl, by decide +kernel, by decide +kernel⟩
  | 1, _ => exact ⟨RX1, TX1, 4, tyX1, rfl, rfl, by decide +kernel, tyX1_ok, nmX1, rfl, by decide +kernel, by decide +kernel⟩
  | 2, _ => exact ⟨RX2, TX2, 3, tyX2, rfl, rfl, by decide +kernel, tyX2_ok, nmX2, rfl, by decide +kernel, by decide +kernel⟩
  | 3, _ => exact ⟨RX3, TX3, 16, tyX3, rfl, rfl, by decide +kernel, tyX3_ok, nmX3, rfl, by decide +kernel, by decide +kernel⟩
  | 4, _ => exact ⟨RX4, TX4, 5, tyX4, rfl, rfl, by decide +kernel, tyX4_ok, nmX4, rfl, by decide +kernel, by decide +kernel⟩
  | 5, _ => exact ⟨RX5, TX5, 20, tyX5, rfl, rfl, by decide +kernel, tyX5_ok, nmX5, rfl, by decide +kernel, by decide +kernel⟩
theorem fit_ok {ty : FieldType} {v : AV} (h : am_fit ty v = true) : narrow ty (cv v) = cv v ∧ fits ty (cv v) = true := by
  unfold am_fit at h
  split at h
  · exact ⟨rfl, rfl⟩
  · rcases of_decide_eq_true h with rfl | rfl <;> exact ⟨by decide +kernel, by decide +kernel⟩
  · rename_i x
    have hr := of_decide_eq_true h
    have e : ((Int32.ofInt x).toInt8).toInt32 = Int32.ofInt x := by
      rw [← Int32.toInt_inj, Int8.toInt_toInt32, ci_toInt ⟨by omega, by omega⟩]
      show ((Int32.ofInt x).toInt8).toInt = x
      rw [show (Int32.ofInt x).toInt8 = Int8.ofInt x from Int32.toInt8_ofInt, Int8.toInt_ofInt]
      exact Int.bmod_eq_of_le (by show -(256 : Int) / 2 ≤ _; omega) (by show _ < ((256 : Int) + 1) / 2; omega)
    refine ⟨?_, ?_⟩
    · show Value.int _ = Value.int _
      exact congrArg Value.int e
    · show ((-128 ≤ Int32.ofInt x) && (Int32.ofInt x ≤ 127)) = true
      rw [Bool.and_eq_true]
      exact ⟨decide_eq_true ((ci_le (a := -128) ⟨by omega, by omega⟩ ⟨by omega, by omega⟩).mpr hr.1), decide_eq_true ((ci_le (b := 127) ⟨by omega, by omega⟩ ⟨by omega, by omega⟩).mpr hr.2)⟩
  · rename_i x
    have hr := of_decide_eq_true h
    refine ⟨?_, ?_⟩
    · show Value.int _ = Value.int _
      exact congrArg Value.int (ci_char hr.1 hr.2)
    · show ((0 ≤ Int32.ofInt x) && (Int32.ofInt x ≤ 65535)) = true
      rw [Bool.and_eq_true]
      exact ⟨decide_eq_true ((ci_le (a := 0) ⟨by omega, by omega⟩ ⟨by omega, by omega⟩).mpr hr.1), decide_eq_true ((ci_le (b := 65535) ⟨by omega, by omega⟩ ⟨by omega, by omega⟩).mpr hr.2)⟩
  · exact ⟨rfl, rfl⟩
  · exact ⟨rfl, rfl⟩
  · rename_i o
    cases o <;> exact ⟨rfl, rfl⟩
  · rename_i o
    cases o <;> exact ⟨rfl, rfl⟩
  · cases h
theorem one_P {D : va_G} {cl : List vw_C} {q : Nat × va_E} {H : Heap} (h : va_at D cl q H) : va_P D cl [q] H := by
  intro k x hx
  have hz : k < 1 := (List.getElem?_eq_some_iff.mp hx).1
  rw [show k = 0 by omega] at hx
  cases hx
  exact h
section SN2
variable {p : Program} {l : Launch} {e : Env} {R : Room} {s : State} {m : MethodId} {args : Array Value} {below : List Frame} {meth : Method} {c : Code} {G : Nat → Nat} {D : AD} {i c0 d0 : Nat} {Q : State → Prop}
variable {pc len : Nat} {ls : AL} {st : List AV} {σ : AS} {pc' : Nat} {ls' : AL} {st' : List AV} {σ' : AS}
theorem sn_getfield {idx : Nat} (hd : decode (mB i) pc = .ok (.getfield idx, len)) (h : am_ins G i pc len ls st σ (.getfield idx) = some (.inl (pc', (ls', (st', σ'))))) : SN p l e R s m args below meth c G D i c0 d0 Q pc ls st σ pc' ls' st' σ' := by
  unfold am_ins at h
  dsimp only at h
  split at h
  · rename_i hc
    subst hc
    unfold am_getf at h
    split at h
    · rename_i a r
      split at h
      · rename_i c1 k1 ci fs hlk hcell
        split at h
        · rename_i hci
          subst hci
          split at h
          · rename_i v hv
            obtain ⟨rfl, rfl, rfl, rfl⟩ := aN_inj h
            intro la H locs F hdyn hl hrc hrs k
            obtain ⟨hx, hb, hml, hown, hts, hKU, hE, -⟩ := F
            have hck := fT_at hlk
            have hrel := hdyn.1 a _ hcell
            unfold chkF at hck
            unfold RelO at hrel
            dsimp only at hck hrel
            by_cases h6 : ci = 6
            · rw [if_pos h6] at hck hrel
              obtain ⟨v0, hfs, hO, hV, hC⟩ := hrel
              subst hfs
              simp only [Bool.and_eq_true, Bool.or_eq_true, decide_eq_true_eq] at hck
              obtain ⟨hoc, ⟨hk1, hw⟩ | ⟨hk1, hw⟩⟩ := hck
              · subst hk1
                cases hv
                obtain ⟨cf, kk, fi, f, cell, h1, h2, h3, h4, h5, h6⟩ := hV
                have hown9 : s.vm.findClass "java/lang/String" = some m.cls := by rw [hoc] at hown; exact hown
                exact W.getf hx hb hown9 (hts _ hw) h1 h2 h3 h4 h5 rfl rfl hd (k la H locs hl hdyn)
              · subst hk1
                cases hv
                obtain ⟨cf, kk, fi, f, cell, h1, h2, h3, h4, h5, h6⟩ := hC
                have hown9 : s.vm.findClass "java/lang/String" = some m.cls := by rw [hoc] at hown; exact hown
                exact W.getf hx hb hown9 (hts _ hw) h1 h2 h3 h4 h5 rfl rfl hd (k la H locs hl hdyn)
            · rw [if_neg h6] at hck hrel
              obtain ⟨hlt, hat⟩ := hrel
              obtain ⟨C, T, N, ty0, h1, h2, h3, h4, h5, h7, h8, h9⟩ := cls_ok ci hlt
              rw [h1] at hck
              simp only [Bool.and_eq_true, decide_eq_true_eq] at hck
              exact va_get (D := D.1) (cl := vwCl) (tys := am_tys D) (ci := ci) (v := cv v) (C := C) (T := T) (N := N) hx hb hts h3 hown hKU.1 (one_P hat) 0 rfl h1 k1 hck.1 (hts _ hck.2) (fun _ z => z) (by rw [List.getElem?_map, hv]; rfl) hd (k la H locs hl hdyn)
          · cases h
        · cases h
      · cases h
    · cases h
  · cases h
theorem Dyn.put {a q0 : Nat} {o : AO} {H H1 : Heap} {locs : List Loc} (hd : Dyn G D s c0 d0 σ H locs) (ha : G 0 ≤ a) (ho : RelO G D s a o H1) (z : H1.size = H.size) (oq : ∀ q : Nat, q ≠ a → H1[q]? = H[q]?) : Dyn G D s c0 d0 (am_st σ a o) H1 (locs ++ [⟨a, q0⟩]) := by
  obtain ⟨h1, h2, h3, h4, h5⟩ := hd
  exact ⟨h1.up ho oq, by unfold Sz at h2 ⊢; rw [z]; exact h2, h3.put z oq ha, h4, h5⟩
theorem sn_putfield {idx : Nat} (hd : decode (mB i) pc = .ok (.putfield idx, len)) (h : am_ins G i pc len ls st σ (.putfield idx) = some (.inl (pc', (ls', (st', σ'))))) : SN p l e R s m args below meth c G D i c0 d0 Q pc ls st σ pc' ls' st' σ' := by
  unfold am_ins at h
  dsimp only at h
  split at h
  · rename_i hc
    subst hc
    unfold am_putf at h
    split at h
    · rename_i v a r
      split at h
      · rename_i c1 k1 ci fs hlk hcell
        split at h
        · rename_i hci
          obtain ⟨rfl, hwr, hkl, hfin⟩ := hci
          split at h
          · rename_i ty hty
            split at h
            · rename_i hfit
              obtain ⟨rfl, rfl, rfl, rfl⟩ := aN_inj h
              intro la H locs F hdyn hl hrc hrs k
              obtain ⟨hx, hb, hml, hown, hts, hKU, hE, hst0, hret, hlk0, hnm, -⟩ := F
              have hck := fT_at hlk
              have hrel := hdyn.1 a _ hcell
              unfold chkF at hck
              unfold RelO at hrel
              dsimp only at hck hrel
              by_cases h6 : ci = 6
              · subst h6
                cases hty
              · rw [if_neg h6] at hck hrel
                obtain ⟨hlt, hat⟩ := hrel
                obtain ⟨C, T, N, ty0, h1, h2, h3, h4, h5, h7, h8, h9⟩ := cls_ok ci hlt
                rw [h1] at hck
                simp only [Bool.and_eq_true, decide_eq_true_eq] at hck
                obtain ⟨hkN, hlink⟩ := hck
                have ety : ty = ty0 k1 := Option.some.inj (hty.symm.trans (h8 k1 hkN))
                obtain ⟨hn, hf⟩ := fit_ok hfit
                have hap := va_apart (own := am_cn (mOc i)) hts h3 ty0 h4 h5 hKU.1 h1
                obtain ⟨r9, g1, cell, q1, q2, q3, q4⟩ := hat
                have hr9 : r9 = (C, T, N) := Option.some.inj (g1.symm.trans h1)
                subst hr9
                obtain ⟨hS, hfc, kC, hkC, hkind⟩ := hKU.1.1 ci _ h1
                obtain ⟨cf, kf, fi, f, hi, hsl⟩ := hS k1 hkN
                have hlay := hts _ (h3 _ (u_in_lay hkN))
                have fin : ∀ H' : Heap, H'[a]? = some (cell.setSlot f.slot (cv v)) → H'.size = H.size → (∀ q, q ≠ a → H'[q]? = H[q]?) → W p l e R s m args below meth c H' (locs ++ [⟨a, f.slot⟩]) (σ.2.2.1 - c0) (σ.2.2.2 - d0) Q (F0 m (pc + 3) la (r.map cv)) := by
                  intro H' e1 e2 e3
                  rw [hsl] at e1
                  refine k la H' (locs ++ [⟨a, f.slot⟩]) hl (hdyn.put hwr ?_ e2 e3)
                  unfold RelO
                  dsimp only
                  rw [if_neg h6]
                  refine ⟨hlt, _, h1, ?_⟩
                  rw [List.map_set]
                  exact t_OB.to (V := updV (vp_V (fs.map cv)) k1 (cv v)) ⟨_, e1, q2, q3, t_set q4 hap hkN (cv v)⟩ (fun j _ => vp_updV_set (by simpa using hkl) (cv v) j)
                by_cases hF : (T k1).2.2.2 = true
                · unfold u_lay at hlay
                  rw [if_pos hF] at hlay
                  rcases hfin with hfin | ⟨hin1, hin2⟩
                  · rw [(h9 k1 hkN).1, hF] at hfin
                    cases hfin
                  · have hst := (u_facts hfc hkC (u_lays hts h3 hkN) hi).1
                    have hcf : m.cls = cf := by
                      obtain ⟨_, _, c', _, _, _, -, -, hf', -, -, -, hown2, -⟩ := Cond.laysFinal_spec hlay
                      have e1 : c' = cf := by have := hi.symm.trans hf'; simp at this; exact this.1.symm
                      rw [(h9 k1 hkN).2, h2, ← hin2] at hown2
                      rw [← e1]; exact Option.some.inj (hown.symm.trans hown2)
                    have h66 := u_fits hfc hkC hkind (Or.inr hlay) hi (h4 k1 hkN) (ety ▸ hn) (ety ▸ hf)
                    exact W.putFinK hx hb hown (hts _ hlink) hi hst hcf (hnm.elim (fun z => z.trans hin1) (fun z => absurd hin1 z)) (by rw [q2]; exact h66) q1 q3 (by rw [hsl]; exact k2_hasslot (q4 k1 hkN)) rfl rfl hd fin
                · unfold u_lay at hlay
                  rw [if_neg hF] at hlay
                  have hst := (u_facts hfc hkC (u_lays hts h3 hkN) hi).1
                  have h66 := u_store hfc hkC hkind hlay hi (h4 k1 hkN) (ety ▸ hn) (ety ▸ hf)
                  exact W.putK hx hb (f := f) ⟨hown, hts _ hlink, ⟨_, _, _, hi⟩, hst⟩ (by rw [q2]; exact h66) q1 q3 (by rw [hsl]; exact k2_hasslot (q4 k1 hkN)) rfl rfl hd fin
            · cases h
          · cases h
        · cases h
      · cases h
    · cases h
  · cases h
end SN2
