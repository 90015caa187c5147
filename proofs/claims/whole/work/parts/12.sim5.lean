/-! THE STEPS, against the machine: plain calls -/
section SN5
variable {p : Program} {l : Launch} {e : Env} {R : Room} {s : State} {m : MethodId} {args : Array Value} {below : List Frame} {meth : Method} {c : Code} {G : Nat → Nat} {D : AD} {i c0 d0 : Nat} {Q : State → Prop}
variable {pc len : Nat} {ls : AL} {st : List AV} {σ : AS} {pc' : Nat} {ls' : AL} {st' : List AV} {σ' : AS}
def rawBitsN : MethodName := ⟨"java/lang/Double", "doubleToRawLongBits", "(D)J"⟩
theorem am_rawBits {T : State} {locs : List Loc} {cells slots : Nat} (X : Stand p l e R s m args below meth c T locs cells slots) (hexec : p.tables.exec = Jvm.exec) {own : String} {index : Nat} (hown : s.vm.findClass own = some m.cls)
    (hlink : (Cond.methodLink own index rawBitsN).before args s = true) (hnat : (Cond.native rawBitsN).before args s = true) (hstat : (Cond.static rawBitsN).before args s = true) (hinit : (Cond.initialized "java/lang/Double").before args s = true)
    {g : JFrame} (hg : g.method = m) (hsize : g.locals.size = c.maxLocals) {b : UInt64} {rest : List Value} (hst : g.stack = .double b :: rest) (hdg : decode c.code g.pc = .ok (.invokestatic index, 3))
    (hframes : 1 ≤ R.frames) (hlocals : 2 * g.monitorRoom + (rest.map fun v => v.category).sum + (nativeFrameWords "java/lang/Double" "doubleToRawLongBits" 2 + 11) ≤ R.locals) :
    ∃ (vm' : Vm), Stand p l e R s m args below meth c (T.setVm vm') locs cells slots ∧
      ∀ target, Steps p.tables e below ((T.setVm vm').setTop { g with pc := g.pc + 3, stack := .long b.toInt64 :: rest }) target → Steps p.tables e below (T.setTop g) target := by
  obtain ⟨r, kS, methS, hnS, hmS, hkS, N⟩ := NativeOf.of_static hnat hstat (ps := [.double]) (ret := some .long) (by decide +kernel)
  have hinitS : kS.init = .initialized := Cond.initialized_spec (findClass_of_methodNamed hnS) hkS hinit
  obtain ⟨vm', X', step⟩ := X.invokestatic hexec hown hlink hnS hmS N.static hkS hinitS (by decide) hg (argsL := [.double b]) (rest := rest) (by rw [N.sig]; rfl) hst hdg
  refine ⟨vm', X', fun target hrest => step target fun acts => ?_⟩
  subst hg
  obtain ⟨kS', N'⟩ := N.alike X'.warmed.alike
  exact Steps.doubleToRawLongBitsOf (g := { g with stack := rest }) (ig := .invokestatic index) (len := 3) p X'.here acts N' b (X'.notFull (g := { g with stack := rest }) hsize (vars := nativeFrameWords "java/lang/Double" "doubleToRawLongBits" 2) hframes hlocals) hdg hrest
theorem rb_words : Cond.methodLink "java/lang/Double" 134 rawBitsN ∈ wl ∧ Cond.native rawBitsN ∈ wl ∧ Cond.static rawBitsN ∈ wl ∧ Cond.initialized "java/lang/Double" ∈ wl := by decide +kernel
theorem mx_words : Cond.static Lib.Math.max.name ∈ wl ∧ Cond.static Lib.Math.min.name ∈ wl ∧ Cond.initialized "java/lang/Math" ∈ wl := by decide +kernel
theorem mx_code : Cond.code Lib.Math.max.name Lib.Math.max.code 2 (some .int) ∈ wl ∧ Cond.code Lib.Math.min.name Lib.Math.min.code 2 (some .int) ∈ wl := by decide +kernel
theorem oi_words : Cond.instanceMethod objectInit ∈ wl := by decide +kernel
theorem oi_code : Cond.code objectInit ⟨#[0xb1]⟩ 1 none ∈ wl := by decide +kernel
theorem rb_nf : nativeFrameWords "java/lang/Double" "doubleToRawLongBits" 2 + 11 ≤ 40 := by decide +kernel
theorem link_at {oc idx k j : Nat} (h : am_lk (am_cT oc) idx = some (k, j)) (h3 : ¬ k = 3) (h5 : ¬ k = 5) (h8 : ¬ k = 8) : kl_w (oc, (idx, (k, j))) ∈ wl := by
  have h1 := (cT_at h).2
  rw [if_neg (by rintro (z | z); exact h3 z; exact h5 z), if_neg h8] at h1
  have h2 := am_subl_map kl_ok (of_decide_eq_true h1)
  exact List.mem_filter.mpr ⟨h2, rfl⟩
theorem nest_at {oc idx k j : Nat} (h : am_lk (am_cT oc) idx = some (k, j)) (h3 : k = 3 ∨ k = 5) : kn_w (oc, (idx, (k, j))) ∈ wn := by
  have h1 := (cT_at h).2
  rw [if_pos h3] at h1
  have h2 := am_subl_map kn_ok (of_decide_eq_true h1)
  exact List.mem_filter.mpr ⟨h2, rfl⟩
theorem sn_invoke {ins : Instr} {idx sort : Nat} (hs : (sort = 0 ∧ ins = .invokevirtual idx) ∨ (sort = 1 ∧ ins = .invokespecial idx) ∨ (sort = 2 ∧ ins = .invokestatic idx)) (hd : decode (mB i) pc = .ok (ins, 3)) (h : am_invoke i pc ls st σ sort idx = some (.inl (pc', (ls', (st', σ'))))) : SN p l e R s m args below meth c G D i c0 d0 Q pc ls st σ pc' ls' st' σ' := by
  unfold am_invoke at h
  split at h
  · rename_i j hlk
    split at h
    · rename_i a r
      split at h
      · rename_i hq
        obtain ⟨hsort, hf, hL⟩ := hq
        obtain ⟨rfl, rfl, rfl, rfl⟩ := aN_inj h
        intro la H locs F hdyn hl hrc hrs k
        obtain ⟨hx, hb, hml, hown, hts, hKU, hE, -, -, -, -, -, hRF, hRL, -⟩ := F
        have hins : ins = .invokespecial idx := by
          rcases hs with ⟨z, -⟩ | ⟨-, z⟩ | ⟨z, -⟩
          · omega
          · exact z
          · omega
        subst hins
        have hw := link_at hlk (by decide) (by decide) (by decide)
        refine W.objInit hx hb hown (hts _ hw) (hts _ oi_words) (hts _ oi_code) rfl (by rw [hml]; exact hl.1) rfl hd (by omega) (by rw [cv_cats]; show 2 * 0 + _ + 12 ≤ _; omega) ?_
        exact k la H locs hl hdyn
      · cases h
    · cases h
  · rename_i j hlk
    split at h
    · rename_i x r
      split at h
      · rename_i hq
        obtain ⟨hsort, hf, hL⟩ := hq
        obtain ⟨rfl, rfl, rfl, rfl⟩ := aN_inj h
        intro la H locs F hdyn hl hrc hrs k
        obtain ⟨hx, hb, hml, hown, hts, hKU, hE, -, -, -, -, -, hRF, hRL, -⟩ := F
        have hins : ins = .invokestatic idx := by
          rcases hs with ⟨z, -⟩ | ⟨z, -⟩ | ⟨-, z⟩
          · omega
          · omega
          · exact z
        subst hins
        have h1 := (cT_at hlk).2
        dsimp only at h1
        rw [if_neg (by decide), if_pos rfl] at h1
        obtain ⟨h12, h134⟩ := of_decide_eq_true h1
        subst h134
        rw [h12] at hown
        intro T hT X
        obtain ⟨vm', X', stp⟩ := am_rawBits X hx hown (hts _ rb_words.1) (hts _ rb_words.2.1) (hts _ rb_words.2.2.1) (hts _ rb_words.2.2.2) (g := F0 m pc la (List.map cv (Sum.inr (Sum.inr (Sum.inl x)) :: r))) rfl (by rw [hml]; exact hl.1) (b := x) (rest := r.map cv) rfl (by rw [hb]; exact hd) (by omega) (by rw [cv_cats]; have := rb_nf; show 2 * 0 + _ + _ ≤ _; omega)
        obtain ⟨t, a1, b1⟩ := k la H locs hl hdyn (T.setVm vm') hT X'
        exact ⟨t, stp t a1, b1⟩
      · cases h
    · cases h
  · rename_i j hlk
    split at h
    · rename_i b a r
      split at h
      · rename_i hq
        obtain ⟨hsort, ha, hb9, hf, hL⟩ := hq
        obtain ⟨rfl, rfl, rfl, rfl⟩ := aN_inj h
        intro la H locs F hdyn hl hrc hrs k
        obtain ⟨hx, hb, hml, hown, hts, hKU, hE, -, -, -, -, -, hRF, hRL, -⟩ := F
        have hins : ins = .invokestatic idx := by
          rcases hs with ⟨z, -⟩ | ⟨z, -⟩ | ⟨-, z⟩
          · omega
          · omega
          · exact z
        subst hins
        have hw := link_at hlk (by decide) (by decide) (by decide)
        refine va_mmax hx hb (hml.trans hl.1.symm) hown (hts _ hw) (hts _ mx_words.1) (hts _ mx_words.2.2) (hts _ mx_code.1) (by omega) (by rw [cv_cats]; omega) hrc hrs hd ?_
        have e1 : (if Int32.ofInt a < Int32.ofInt b then Int32.ofInt b else Int32.ofInt a) = Int32.ofInt (if a < b then b else a) := by
          by_cases z : a < b
          · rw [if_pos z, if_pos ((ci_lt ha hb9).mpr z)]
          · rw [if_neg z, if_neg (fun y => z ((ci_lt ha hb9).mp y))]
        rw [e1]
        exact k la H locs hl hdyn
      · cases h
    · cases h
  · rename_i j hlk
    split at h
    · rename_i b a r
      split at h
      · rename_i hq
        obtain ⟨hsort, ha, hb9, hf, hL⟩ := hq
        obtain ⟨rfl, rfl, rfl, rfl⟩ := aN_inj h
        intro la H locs F hdyn hl hrc hrs k
        obtain ⟨hx, hb, hml, hown, hts, hKU, hE, -, -, -, -, -, hRF, hRL, -⟩ := F
        have hins : ins = .invokestatic idx := by
          rcases hs with ⟨z, -⟩ | ⟨z, -⟩ | ⟨-, z⟩
          · omega
          · omega
          · exact z
        subst hins
        have hw := link_at hlk (by decide) (by decide) (by decide)
        refine va_mmin hx hb (hml.trans hl.1.symm) hown (hts _ hw) (hts _ mx_words.2.1) (hts _ mx_words.2.2) (hts _ mx_code.2) (by omega) (by rw [cv_cats]; omega) hrc hrs hd ?_
        have e1 : (if Int32.ofInt b < Int32.ofInt a then Int32.ofInt b else Int32.ofInt a) = Int32.ofInt (if b < a then b else a) := by
          by_cases z : b < a
          · rw [if_pos z, if_pos ((ci_lt hb9 ha).mpr z)]
          · rw [if_neg z, if_neg (fun y => z ((ci_lt hb9 ha).mp y))]
        rw [e1]
        exact k la H locs hl hdyn
      · cases h
    · cases h
  · split at h
    · cases h
    · split at h
      · split at h
        · split at h
          · unfold aC at h
            cases h
          · cases h
        · split at h
          · split at h
            · split at h
              · split at h
                · unfold aC at h
                  cases h
                · cases h
              · cases h
            · cases h
          · cases h
      · cases h
  · cases h
end SN5
