/-! CALLS against the machine -/
theorem am_tk_eq : ∀ {n : Nat} {st acc as r : List AV}, am_tk n st acc = some (as, r) → ∃ q, as = q ++ acc ∧ st = q.reverse ++ r ∧ q.length = n
  | 0, st, acc, as, r, h => by
    unfold am_tk at h
    cases h
    exact ⟨[], rfl, rfl, rfl⟩
  | n + 1, [], acc, as, r, h => by
    unfold am_tk at h
    cases h
  | n + 1, v :: st, acc, as, r, h => by
    unfold am_tk at h
    obtain ⟨q, h1, h2, h3⟩ := am_tk_eq h
    refine ⟨q ++ [v], by rw [h1]; simp, by rw [h2]; simp, by simp [h3]⟩
section SN6
variable {p : Program} {l : Launch} {e : Env} {R : Room} {s : State} {m : MethodId} {args : Array Value} {below : List Frame} {meth : Method} {c : Code} {G : Nat → Nat} {D : AD} {i c0 d0 : Nat} {Q : State → Prop}
variable {pc len : Nat} {ls : AL} {st : List AV} {σ : AS} {la : Array Slot} {H : Heap} {locs : List Loc} {σ' : AS} {res : Option AV ⊕ Nat}
theorem am_blind {as : List Value} : FrameBlind (va_Pc as (AInv G D σ)) := by
  rintro a U g mk ⟨h1, h2, h3, h4, h5, h6⟩
  exact ⟨h1, KU.warm (U := U.calling g mk a) (State.WarmedH.refl U) h2, ExtH.moved (U := U.calling g mk a) (State.WarmedH.refl U).alike h3, h4, h5, Rel.moved (U := U.calling g mk a) (State.WarmedH.refl U).alike h6⟩
theorem am_preU (F : FrameOK G D i p l R s m args meth c) (hdyn : Dyn G D s c0 d0 σ H locs) (U : State) (hU : U.heap = H) (hW : s.WarmedH U.vm) : AInv G D σ U := by
  obtain ⟨hx, hb, hml, hown, hts, hKU, hE, -, -, -, -, -, -, -, hG⟩ := F
  obtain ⟨h1, h2, h3, h4, h5⟩ := hdyn
  refine ⟨KU.warm hW hKU, ?_, ?_, ?_, ?_⟩
  · rw [hU]
    exact (hE.kept h3.2.1).moved hW.alike
  · rw [hU]
    exact Nat.le_trans hG h3.1
  · rw [hU]
    exact h2
  · rw [hU]
    exact h1.moved hW.alike
theorem am_call (F : FrameOK G D i p l R s m args meth c) (hdyn : Dyn G D s c0 d0 σ H locs) (hm1 : σ.2.2.1 ≤ σ'.2.2.1) (hm2 : σ.2.2.2 ≤ σ'.2.2.2) {rest : List AV} {st0 : List Value} {a9 : Array Value}
    (hr : vx_Run p l e R s m args below meth c H locs (σ.2.2.1 - c0) (σ.2.2.2 - d0) (σ'.2.2.1 - σ.2.2.1) (σ'.2.2.2 - σ.2.2.2) (F0 m pc la st0) (rest.map cv) (AQ G D res σ' a9) (AX G D res σ') (am_A G))
    (kk : ∀ v, res = .inl v → ∀ (H1 : Heap) (locs1 : List Loc), Dyn G D s c0 d0 σ' H1 locs1 → W p l e R s m args below meth c H1 locs1 (σ'.2.2.1 - c0) (σ'.2.2.2 - d0) Q (F0 m (pc + 3) la ((v.toList ++ rest).map cv)))
    (kx : ∀ x, res = .inr x → ∀ (H1 : Heap) (locs1 : List Loc) (q : Addr) (ce : Cell), Dyn G D s c0 d0 σ' H1 locs1 → H1[q]? = some ce → ce.vm = .none → s.vm.findClass (am_xn x) = some ce.cls → vx_W p l e R s m args below meth c H1 locs1 (σ'.2.2.1 - c0) (σ'.2.2.2 - d0) Q (F0 m pc la (rest.map cv)) q) :
    W p l e R s m args below meth c H locs (σ.2.2.1 - c0) (σ.2.2.2 - d0) Q (F0 m pc la st0) := by
  obtain ⟨d1, d2, d3, d4, d5⟩ := hdyn
  have ec : σ.2.2.1 - c0 + (σ'.2.2.1 - σ.2.2.1) = σ'.2.2.1 - c0 := by omega
  have es : σ.2.2.2 - d0 + (σ'.2.2.2 - σ.2.2.2) = σ'.2.2.2 - d0 := by omega
  intro T hT X
  rcases hr T hT X with ⟨v, st₀, t, T', L, h0, X', hL, e1, e2, hq, st⟩ | ⟨q, st₀, t, T', L, E, ce, h0, X', hL, e1, e2, hxc, hce, hcv, hcl, st⟩
  · rw [ec, es] at X'
    have hal : t.vm.Alike s.vm := by rw [← e2]; exact X'.warmed.alike.symm
    cases res with
    | inr x => exact hq.elim
    | inl r =>
      obtain ⟨ho, hsz, hrel, hF⟩ := hq
      cases ho
      obtain ⟨k1, k2, k3⟩ := vx_keep h0 e1 d3 (fun _ _ z => z) (fun _ z => z) hL hF
      have hD1 : Dyn G D s c0 d0 σ' T'.heap (locs ++ L) := ⟨by rw [e1]; exact hrel.moved hal, by rw [e1]; exact hsz, k3, Nat.le_trans d4 hm1, Nat.le_trans d5 hm2⟩
      obtain ⟨t2, a1, b1⟩ := kk r rfl T'.heap (locs ++ L) hD1 T' rfl X'
      refine ⟨t2, st t2 ?_, b1⟩
      cases r with
      | none => exact a1
      | some v => exact a1
  · rw [ec, es] at X'
    have hal : t.vm.Alike s.vm := by rw [← e2]; exact X'.warmed.alike.symm
    cases res with
    | inl r => exact hxc.elim
    | inr x =>
      obtain ⟨ho, hsz, hrel, hF⟩ := hxc
      subst ho
      obtain ⟨k1, k2, k3⟩ := vx_keep h0 e1 d3 (fun _ _ z => z) (fun _ z => z) hL hF
      have hD1 : Dyn G D s c0 d0 σ' T'.heap (locs ++ L) := ⟨by rw [e1]; exact hrel.moved hal, by rw [e1]; exact hsz, k3, Nat.le_trans d4 hm1, Nat.le_trans d5 hm2⟩
      obtain ⟨t2, a1, b1⟩ := kx x rfl T'.heap (locs ++ L) q ce hD1 (by rw [e1]; exact hce) hcv hcl T' rfl X'
      exact ⟨t2, st.trans a1, b1⟩
theorem hd_in {j : Nat} (hj : j < am_nM) : aHd j ∈ wl := List.mem_filter.mpr ⟨mq_hd j hj, mq_gd j hj⟩
theorem ws_pay {j : Nat} (hj : j < am_nM) (hts : ∀ w ∈ wl, w.before args s = true) : ∀ w ∈ aWs j, ∀ (a' : Array Value) (U : State), s.WarmedH U.vm → w.before a' U = true := by
  intro w hw a' U hW
  have h1 : w ∈ wl := by
    rcases List.mem_cons.mp hw with rfl | h
    · exact hd_in hj
    · exact h
  exact word_at hW (wl_good h1) (hts w h1)
theorem st_in {j : Nat} (hj : j < am_nM) (h : mS j = true) : Cond.static (mY j) ∈ wl := by
  have h1 := mq_st j hj
  rw [if_pos h] at h1
  exact List.mem_filter.mpr ⟨am_subl_map ps_fst h1, rfl⟩
theorem in_in {j : Nat} (hj : j < am_nM) (h : ¬ mS j = true) : Cond.instanceMethod (mY j) ∈ wl := by
  have h1 := mq_st j hj
  rw [if_neg h] at h1
  exact List.mem_filter.mpr ⟨am_subl_map ps_fin h1, rfl⟩
theorem se_in {j : Nat} (h : j ∈ pl_fse) : Cond.selects (mY j).cls (mY j) (mY j) ∈ wl := List.mem_filter.mpr ⟨am_subl_map ps_fse h, rfl⟩
theorem ini_in {j : Nat} (hj : j < am_nM) : Cond.initialized (mY j).cls ∈ wl := by
  obtain ⟨h1, h2, -⟩ := mq_cls j hj
  rw [h1]
  exact List.mem_filter.mpr ⟨mq_init0 _ h2, rfl⟩
theorem mh_in {j : Nat} (hj : j < am_nM) : (mY j).cls ≠ "java/lang/invoke/MethodHandle" ∧ (mY j).cls ≠ "java/lang/invoke/VarHandle" := by
  obtain ⟨h1, h2, -⟩ := mq_cls j hj
  rw [h1]
  exact mq_init _ h2
theorem np_in {j : Nat} (hj : j < am_nM) : ∀ sig, parseMethodDescriptor (mY j).desc = some sig → mN j = sig.parameters.length := by
  intro sig h
  have h2 := mq_n j hj
  rw [h] at h2
  exact (Option.some.inj h2).symm
theorem code_in {j : Nat} (h : (mH j).isEmpty = true) : aHd j = Cond.code (mY j) (mB j) (mX j) (mR j) := by
  unfold aHd
  rw [if_pos h]
theorem codew_in {j : Nat} (h : ¬ (mH j).isEmpty = true) : aHd j = Cond.codeWith (mY j) (mB j) (mX j) (mR j) (mH j) := by
  unfold aHd
  rw [if_neg h]
theorem sn_call {ins : Instr} {idx sort j : Nat} {as r : List AV} (hs : (sort = 0 ∧ ins = .invokevirtual idx) ∨ (sort = 1 ∧ ins = .invokespecial idx) ∨ (sort = 2 ∧ ins = .invokestatic idx)) (hd : decode (mB i) pc = .ok (ins, 3)) (h : am_invoke i pc ls st σ sort idx = some (.inr (.inl (j, (as, r)))))
    (F : FrameOK G D i p l R s m args meth c) (hdyn : Dyn G D s c0 d0 σ H locs) (hl : LR la (mX i) ls) (hC : ACt l G D j as σ res σ') (hm1 : σ.2.2.1 ≤ σ'.2.2.1) (hm2 : σ.2.2.2 ≤ σ'.2.2.2) (hrc : σ'.2.2.1 - c0 ≤ R.cells) (hrs : σ'.2.2.2 - d0 ≤ R.slots)
    (kk : ∀ v, res = .inl v → ∀ (H1 : Heap) (locs1 : List Loc), Dyn G D s c0 d0 σ' H1 locs1 → W p l e R s m args below meth c H1 locs1 (σ'.2.2.1 - c0) (σ'.2.2.2 - d0) Q (F0 m (pc + 3) la ((v.toList ++ r).map cv)))
    (kx : ∀ x, res = .inr x → ∀ (H1 : Heap) (locs1 : List Loc) (q : Addr) (ce : Cell), Dyn G D s c0 d0 σ' H1 locs1 → H1[q]? = some ce → ce.vm = .none → s.vm.findClass (am_xn x) = some ce.cls → vx_W p l e R s m args below meth c H1 locs1 (σ'.2.2.1 - c0) (σ'.2.2.2 - d0) Q (F0 m pc la (r.map cv)) q) :
    W p l e R s m args below meth c H locs (σ.2.2.1 - c0) (σ.2.2.2 - d0) Q (F0 m pc la (st.map cv)) := by
  have F' := F
  obtain ⟨hx, hb, hml, hown, hts, hKU, hE, -, -, -, -, -, hRF, hRL, hG⟩ := F'
  have hf : σ.2.2.1 - c0 + (σ'.2.2.1 - σ.2.2.1) ≤ R.cells ∧ σ.2.2.2 - d0 + (σ'.2.2.2 - σ.2.2.2) ≤ R.slots := by
    have := hdyn.2.2.2.1
    have := hdyn.2.2.2.2
    omega
  have S : CallFix p m c (mB i) (mX i) s args wl (am_cn (mOc i)) := ⟨hx, hb, hml, hown, hts⟩
  unfold am_invoke at h
  split at h
  · split at h
    · split at h
      · unfold aN at h
        cases h
      · cases h
    · cases h
  · split at h
    · split at h
      · unfold aN at h
        cases h
      · cases h
    · cases h
  · split at h
    · split at h
      · unfold aN at h
        cases h
      · cases h
    · cases h
  · split at h
    · split at h
      · unfold aN at h
        cases h
      · cases h
    · cases h
  · rename_i k j' h7 h8 h9 h10 hlk
    split at h
    · cases h
    · rename_i as' r' htk
      obtain ⟨q9, hq1, hq2, hq3⟩ := am_tk_eq htk
      rw [List.append_nil] at hq1
      subst hq1
      split at h
      · rename_i hroom
        split at h
        · rename_i hk
          split at h
          · rename_i hc
            unfold aC at h
            cases h
            obtain ⟨hso, hcats⟩ := hc
            have hins : ins = .invokestatic idx := by
              rcases hs with ⟨z, -⟩ | ⟨z, -⟩ | ⟨-, z⟩
              · omega
              · omega
              · exact z
            subst hins
            have hS := (cT_at hlk).1
            have hst : st.map cv = (as.map cv).reverse ++ r.map cv := by rw [hq2]; simp
            rw [hst]
            have hcat9 : 2 * (F0 m pc la ((as.map cv).reverse ++ r.map cv)).monitorRoom + ((r.map cv).map fun v => v.category).sum ≤ 8 := by
              rw [cv_cats]
              show 2 * 0 + _ ≤ 8
              omega
            rcases hk with rfl | rfl | rfl
            · simp only [chkS, Bool.and_eq_true, decide_eq_true_eq] at hS
              obtain ⟨⟨hj, hsta⟩, hemp⟩ := hS
              have hw := link_at hlk (by decide) (by decide) (by decide)
              exact am_call F hdyn hm1 hm2 (vx_runS (bytes := mB j) (maxL := mX j) (ret := mR j) S hC ⟨⟨rfl, rfl, by show mF j + 1 ≤ _; omega, by show _ + mL j ≤ _; omega, ws_pay hj hts, by rw [← code_in hemp]; exact List.mem_cons_self, by rw [← code_in hemp]; exact hts _ (hd_in hj), hts _ (ini_in hj), mh_in hj, np_in hj, hts _ hw⟩, hts _ (st_in hj hsta)⟩ ⟨am_blind, fun U hU hW => ⟨rfl, am_preU F hdyn U hU hW⟩⟩ rfl (by rw [List.length_map]; exact hq3) hl.1 rfl hcat9 hd hf) kk kx
            · simp only [chkS, Bool.and_eq_true, decide_eq_true_eq] at hS
              obtain ⟨⟨hj, hsta⟩, hemp⟩ := hS
              have hw := nest_at hlk (Or.inl rfl)
              exact am_call F hdyn hm1 hm2 (vx_runSN (bytes := mB j) (maxL := mX j) (ret := mR j) S hC ⟨⟨⟨rfl, rfl, by show mF j + 1 ≤ _; omega, by show _ + mL j ≤ _; omega, ws_pay hj hts, by rw [← code_in hemp]; exact List.mem_cons_self⟩, by rw [← code_in hemp]; exact hts _ (hd_in hj), hts _ (ini_in hj), mh_in hj, np_in hj, va_Nw.use rfl (hKU.2.1 _ hw)⟩, hts _ (st_in hj hsta), trivial⟩ ⟨am_blind, fun U hU hW => ⟨rfl, am_preU F hdyn U hU hW⟩⟩ rfl (by rw [List.length_map]; exact hq3) hl.1 rfl hcat9 hd hf) kk kx
            · simp only [chkS, Bool.and_eq_true, decide_eq_true_eq, Bool.not_eq_true'] at hS
              obtain ⟨⟨hj, hsta⟩, hemp⟩ := hS
              have hemp' : ¬ (mH j).isEmpty = true := by rw [hemp]; decide
              have hw := link_at hlk (by decide) (by decide) (by decide)
              exact am_call F hdyn hm1 hm2 (vx_runSX (hh := mH j) (bytes := mB j) (maxL := mX j) (ret := mR j) S hC ⟨⟨rfl, rfl, by show mF j + 1 ≤ _; omega, by show _ + mL j ≤ _; omega, ws_pay hj hts, by rw [← codew_in hemp']; exact List.mem_cons_self⟩, by rw [← codew_in hemp']; exact hts _ (hd_in hj), hts _ (ini_in hj), mh_in hj, np_in hj, hts _ hw, hts _ (st_in hj hsta)⟩ ⟨am_blind, fun U hU hW => ⟨rfl, am_preU F hdyn U hU hW⟩⟩ rfl (by rw [List.length_map]; exact hq3) hl.1 rfl hcat9 hd hf) kk kx
          · cases h
        · rename_i hk
          split at h
          · rename_i a r2
            split at h
            · rename_i hc
              obtain ⟨hsrt, hcats⟩ := hc
              split at h
              · rename_i ci fs hcell
                split at h
                · rename_i hci
                  unfold aC at h
                  cases h
                  have hS := (cT_at hlk).1
                  have hst : st.map cv = (as'.map cv).reverse ++ .ref a :: r.map cv := by rw [hq2]; simp [cv]
                  rw [hst]
                  have hcat9 : 2 * (F0 m pc la ((as'.map cv).reverse ++ .ref a :: r.map cv)).monitorRoom + ((r.map cv).map fun v => v.category).sum ≤ 8 := by
                    rw [cv_cats]
                    show 2 * 0 + _ ≤ 8
                    omega
                  rcases hsrt with ⟨rfl, rfl⟩ | ⟨hk45, rfl⟩
                  · have hins : ins = .invokevirtual idx := by
                      rcases hs with ⟨-, z⟩ | ⟨z, -⟩ | ⟨z, -⟩
                      · exact z
                      · omega
                      · omega
                    subst hins
                    simp only [chkS, Bool.and_eq_true, decide_eq_true_eq, Bool.not_eq_true'] at hS
                    obtain ⟨⟨⟨hj, hsta⟩, hemp⟩, hfse⟩ := hS
                    have hw := link_at hlk (by decide) (by decide) (by decide)
                    have hrel := hdyn.1 a _ hcell
                    have hrecv : ∃ cellB : Cell, H[a]? = some cellB ∧ cellB.vm.isStatics = false ∧ s.vm.findClass (mY j).cls = some cellB.cls := by
                      obtain ⟨hcl, -⟩ := mq_cls j hj
                      rw [hcl]
                      unfold RelO at hrel
                      dsimp only at hrel
                      rcases hci with ⟨e1, e2⟩ | ⟨e1, e2⟩
                      · rw [if_neg (by omega)] at hrel
                        obtain ⟨-, r9, g1, cell, q1, q2, q3, q4⟩ := hrel
                        obtain ⟨C, T, N, ty0, f1, f2, -⟩ := cls_ok ci e2
                        have hr9 : r9 = (C, T, N) := Option.some.inj (g1.symm.trans f1)
                        subst hr9
                        refine ⟨cell, q1, by rw [q3]; rfl, ?_⟩
                        rw [← e1, ← f2, q2]
                        exact (hKU.1.1 ci _ f1).2.1
                      · rw [if_pos e1] at hrel
                        obtain ⟨v0, -, ⟨cell, g1, g2, g3, -⟩, -⟩ := hrel
                        exact ⟨cell, g1, g2, by rw [e2]; exact g3⟩
                    exact am_call F hdyn hm1 hm2 (vx_runV (C := (mY j).cls) (bytes := mB j) (maxL := mX j) (ret := mR j) S hC ⟨⟨rfl, rfl, by show mF j + 1 ≤ _; omega, by show _ + mL j ≤ _; omega, ws_pay hj hts, by rw [← code_in hemp]; exact List.mem_cons_self, by rw [← code_in hemp]; exact hts _ (hd_in hj), hts _ (ini_in hj), mh_in hj, np_in hj, hts _ hw⟩, hts _ (in_in hj (by rw [hsta]; decide)), hts _ (se_in hfse)⟩ ⟨am_blind, hrecv, fun U hU hW => ⟨rfl, am_preU F hdyn U hU hW⟩⟩ rfl (by rw [List.length_map]; exact hq3) hl.1 rfl hcat9 hd hf) kk kx
                  · have hins : ins = .invokespecial idx := by
                      rcases hs with ⟨z, -⟩ | ⟨-, z⟩ | ⟨z, -⟩
                      · omega
                      · exact z
                      · omega
                    subst hins
                    rcases hk45 with rfl | rfl
                    · simp only [chkS, Bool.and_eq_true, decide_eq_true_eq, Bool.not_eq_true'] at hS
                      obtain ⟨⟨⟨hj, hsta⟩, hemp⟩, hnm, hrt⟩ := hS
                      have hw := link_at hlk (by decide) (by decide) (by decide)
                      exact am_call F hdyn hm1 hm2 (vx_runI (bytes := mB j) (maxL := mX j) S hC ⟨⟨rfl, rfl, by show mF j + 1 ≤ _; omega, by show _ + mL j ≤ _; omega, ws_pay hj hts, by rw [← hrt, ← code_in hemp]; exact List.mem_cons_self, by rw [← hrt, ← code_in hemp]; exact hts _ (hd_in hj), hts _ (ini_in hj), mh_in hj, np_in hj, hts _ hw⟩, hnm, hts _ (in_in hj (by rw [hsta]; decide))⟩ ⟨am_blind, fun U hU hW => ⟨rfl, am_preU F hdyn U hU hW⟩⟩ rfl (by rw [List.length_map]; exact hq3) hl.1 rfl hcat9 hd hf) kk kx
                    · simp only [chkS, Bool.and_eq_true, decide_eq_true_eq, Bool.not_eq_true'] at hS
                      obtain ⟨⟨⟨hj, hsta⟩, hemp⟩, hnm, hrt⟩ := hS
                      have hw := nest_at hlk (Or.inr rfl)
                      exact am_call F hdyn hm1 hm2 (vx_runIN (bytes := mB j) (maxL := mX j) S hC ⟨⟨⟨rfl, rfl, by show mF j + 1 ≤ _; omega, by show _ + mL j ≤ _; omega, ws_pay hj hts, by rw [← hrt, ← code_in hemp]; exact List.mem_cons_self⟩, by rw [← hrt, ← code_in hemp]; exact hts _ (hd_in hj), hts _ (ini_in hj), mh_in hj, np_in hj, va_Nw.use rfl (hKU.2.1 _ hw)⟩, hnm, hts _ (in_in hj (by rw [hsta]; decide))⟩ ⟨am_blind, fun U hU hW => ⟨rfl, am_preU F hdyn U hU hW⟩⟩ rfl (by rw [List.length_map]; exact hq3) hl.1 rfl hcat9 hd hf) kk kx
                · cases h
              · cases h
            · cases h
          · cases h
      · cases h
  · cases h
end SN6
