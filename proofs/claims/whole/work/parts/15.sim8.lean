/-! THE RUN against the machine: ends, catching, and all of it -/
theorem am_step_eq {G : Nat → Nat} {i pc : Nat} {ls : AL} {st : List AV} {σ : AS} {z : Act} (h : am_step G i pc ls st σ = some z) : ∃ ins len, decode (mB i) pc = .ok (ins, len) ∧ am_ins G i pc len ls st σ ins = some z := by
  unfold am_step at h
  split at h
  · rename_i ins len hd
    exact ⟨ins, len, hd, h⟩
  · cases h
/-- which instructions throw -/
theorem am_ins_throw {G : Nat → Nat} {i pc len : Nat} {ls : AL} {st : List AV} {σ σ' : AS} {x : Nat} {ins : Instr} (h : am_ins G i pc len ls st σ ins = some (.inr (.inr (.inr (x, σ'))))) : ∃ idx, ins = .new idx ∧ len = 3 ∧ am_lk (am_nT (mOc i)) idx = some (x + 10) ∧ am_isThrow i pc x = true ∧ (mH i).isEmpty = true ∧ 6 ≤ mF i ∧ am_cats st + 82 ≤ mL i ∧ σ' = am_th σ := by
  cases ins
  case new idx =>
    unfold am_ins at h
    dsimp only at h
    split at h
    · rename_i hlen
      unfold am_new at h
      split at h
      · rename_i cc hlk
        split at h
        · rename_i h10
          split at h
          · rename_i hc
            obtain ⟨h1, h2, h3, h4⟩ := hc
            unfold aT at h
            cases h
            exact ⟨idx, rfl, hlen, by rw [hlk, show cc - 10 + 10 = cc by omega], h1, h2, h3, h4, rfl⟩
          · cases h
        · split at h
          · cases h
          · unfold aN at h
            cases h
      · cases h
    · cases h
  case aload_n =>
    unfold am_ins at h
    dsimp only at h
    simp only [am_ldA] at h
    repeat' split at h
    all_goals first | (cases h; done) | (unfold aN at h; cases h; done) | (unfold aT at h; cases h; done)
  case aload =>
    unfold am_ins at h
    dsimp only at h
    simp only [am_ldA] at h
    repeat' split at h
    all_goals first | (cases h; done) | (unfold aN at h; cases h; done) | (unfold aT at h; cases h; done)
  case iload_n =>
    unfold am_ins at h
    dsimp only at h
    simp only [am_ldI] at h
    repeat' split at h
    all_goals first | (cases h; done) | (unfold aN at h; cases h; done) | (unfold aT at h; cases h; done)
  case iload =>
    unfold am_ins at h
    dsimp only at h
    simp only [am_ldI] at h
    repeat' split at h
    all_goals first | (cases h; done) | (unfold aN at h; cases h; done) | (unfold aT at h; cases h; done)
  case lload_n =>
    unfold am_ins at h
    dsimp only at h
    simp only [am_ldL] at h
    repeat' split at h
    all_goals first | (cases h; done) | (unfold aN at h; cases h; done) | (unfold aT at h; cases h; done)
  case lload =>
    unfold am_ins at h
    dsimp only at h
    simp only [am_ldL] at h
    repeat' split at h
    all_goals first | (cases h; done) | (unfold aN at h; cases h; done) | (unfold aT at h; cases h; done)
  case dload_n =>
    unfold am_ins at h
    dsimp only at h
    simp only [am_ldD] at h
    repeat' split at h
    all_goals first | (cases h; done) | (unfold aN at h; cases h; done) | (unfold aT at h; cases h; done)
  case dload =>
    unfold am_ins at h
    dsimp only at h
    simp only [am_ldD] at h
    repeat' split at h
    all_goals first | (cases h; done) | (unfold aN at h; cases h; done) | (unfold aT at h; cases h; done)
  case astore_n =>
    unfold am_ins at h
    dsimp only at h
    simp only [am_stA, am_sto] at h
    repeat' split at h
    all_goals first | (cases h; done) | (unfold aN at h; cases h; done) | (unfold aT at h; cases h; done)
  case astore =>
    unfold am_ins at h
    dsimp only at h
    simp only [am_stA, am_sto] at h
    repeat' split at h
    all_goals first | (cases h; done) | (unfold aN at h; cases h; done) | (unfold aT at h; cases h; done)
  case istore_n =>
    unfold am_ins at h
    dsimp only at h
    simp only [am_stI, am_sto] at h
    repeat' split at h
    all_goals first | (cases h; done) | (unfold aN at h; cases h; done) | (unfold aT at h; cases h; done)
  case istore =>
    unfold am_ins at h
    dsimp only at h
    simp only [am_stI, am_sto] at h
    repeat' split at h
    all_goals first | (cases h; done) | (unfold aN at h; cases h; done) | (unfold aT at h; cases h; done)
  case lstore_n =>
    unfold am_ins at h
    dsimp only at h
    simp only [am_stL, am_sto] at h
    repeat' split at h
    all_goals first | (cases h; done) | (unfold aN at h; cases h; done) | (unfold aT at h; cases h; done)
  case lstore =>
    unfold am_ins at h
    dsimp only at h
    simp only [am_stL, am_sto] at h
    repeat' split at h
    all_goals first | (cases h; done) | (unfold aN at h; cases h; done) | (unfold aT at h; cases h; done)
  case dstore_n =>
    unfold am_ins at h
    dsimp only at h
    simp only [am_stD, am_sto] at h
    repeat' split at h
    all_goals first | (cases h; done) | (unfold aN at h; cases h; done) | (unfold aT at h; cases h; done)
  case dstore =>
    unfold am_ins at h
    dsimp only at h
    simp only [am_stD, am_sto] at h
    repeat' split at h
    all_goals first | (cases h; done) | (unfold aN at h; cases h; done) | (unfold aT at h; cases h; done)
  case iconst =>
    unfold am_ins at h
    dsimp only at h
    repeat' split at h
    all_goals first | (cases h; done) | (unfold aN at h; cases h; done) | (unfold aT at h; cases h; done)
  case bipush =>
    unfold am_ins at h
    dsimp only at h
    repeat' split at h
    all_goals first | (cases h; done) | (unfold aN at h; cases h; done) | (unfold aT at h; cases h; done)
  case sipush =>
    unfold am_ins at h
    dsimp only at h
    repeat' split at h
    all_goals first | (cases h; done) | (unfold aN at h; cases h; done) | (unfold aT at h; cases h; done)
  case lconst =>
    unfold am_ins at h
    dsimp only at h
    repeat' split at h
    all_goals first | (cases h; done) | (unfold aN at h; cases h; done) | (unfold aT at h; cases h; done)
  case dconst =>
    unfold am_ins at h
    dsimp only at h
    repeat' split at h
    all_goals first | (cases h; done) | (unfold aN at h; cases h; done) | (unfold aT at h; cases h; done)
  case aconst_null =>
    unfold am_ins at h
    dsimp only at h
    repeat' split at h
    all_goals first | (cases h; done) | (unfold aN at h; cases h; done) | (unfold aT at h; cases h; done)
  case ldc =>
    unfold am_ins at h
    dsimp only at h
    simp only [am_ldc] at h
    repeat' split at h
    all_goals first | (cases h; done) | (unfold aN at h; cases h; done) | (unfold aT at h; cases h; done)
  case ldc2_w =>
    unfold am_ins at h
    dsimp only at h
    simp only [am_ldc] at h
    repeat' split at h
    all_goals first | (cases h; done) | (unfold aN at h; cases h; done) | (unfold aT at h; cases h; done)
  case iadd =>
    unfold am_ins at h
    dsimp only at h
    simp only [am_bin] at h
    repeat' split at h
    all_goals first | (cases h; done) | (unfold aN at h; cases h; done) | (unfold aT at h; cases h; done)
  case isub =>
    unfold am_ins at h
    dsimp only at h
    simp only [am_bin] at h
    repeat' split at h
    all_goals first | (cases h; done) | (unfold aN at h; cases h; done) | (unfold aT at h; cases h; done)
  case imul =>
    unfold am_ins at h
    dsimp only at h
    simp only [am_bin] at h
    repeat' split at h
    all_goals first | (cases h; done) | (unfold aN at h; cases h; done) | (unfold aT at h; cases h; done)
  case idiv =>
    unfold am_ins at h
    dsimp only at h
    simp only [am_bin] at h
    repeat' split at h
    all_goals first | (cases h; done) | (unfold aN at h; cases h; done) | (unfold aT at h; cases h; done)
  case irem =>
    unfold am_ins at h
    dsimp only at h
    simp only [am_bin] at h
    repeat' split at h
    all_goals first | (cases h; done) | (unfold aN at h; cases h; done) | (unfold aT at h; cases h; done)
  case iand =>
    unfold am_ins at h
    dsimp only at h
    simp only [am_bin] at h
    repeat' split at h
    all_goals first | (cases h; done) | (unfold aN at h; cases h; done) | (unfold aT at h; cases h; done)
  case ishr =>
    unfold am_ins at h
    dsimp only at h
    simp only [am_bin] at h
    repeat' split at h
    all_goals first | (cases h; done) | (unfold aN at h; cases h; done) | (unfold aT at h; cases h; done)
  case ladd =>
    unfold am_ins at h
    dsimp only at h
    simp only [am_binL] at h
    repeat' split at h
    all_goals first | (cases h; done) | (unfold aN at h; cases h; done) | (unfold aT at h; cases h; done)
  case lsub =>
    unfold am_ins at h
    dsimp only at h
    simp only [am_binL] at h
    repeat' split at h
    all_goals first | (cases h; done) | (unfold aN at h; cases h; done) | (unfold aT at h; cases h; done)
  case lmul =>
    unfold am_ins at h
    dsimp only at h
    simp only [am_binL] at h
    repeat' split at h
    all_goals first | (cases h; done) | (unfold aN at h; cases h; done) | (unfold aT at h; cases h; done)
  case lshl =>
    unfold am_ins at h
    dsimp only at h
    repeat' split at h
    all_goals first | (cases h; done) | (unfold aN at h; cases h; done) | (unfold aT at h; cases h; done)
  case lcmp =>
    unfold am_ins at h
    dsimp only at h
    repeat' split at h
    all_goals first | (cases h; done) | (unfold aN at h; cases h; done) | (unfold aT at h; cases h; done)
  case dsub =>
    unfold am_ins at h
    dsimp only at h
    simp only [am_binD] at h
    repeat' split at h
    all_goals first | (cases h; done) | (unfold aN at h; cases h; done) | (unfold aT at h; cases h; done)
  case dmul =>
    unfold am_ins at h
    dsimp only at h
    simp only [am_binD] at h
    repeat' split at h
    all_goals first | (cases h; done) | (unfold aN at h; cases h; done) | (unfold aT at h; cases h; done)
  case ddiv =>
    unfold am_ins at h
    dsimp only at h
    simp only [am_binD] at h
    repeat' split at h
    all_goals first | (cases h; done) | (unfold aN at h; cases h; done) | (unfold aT at h; cases h; done)
  case dcmp =>
    unfold am_ins at h
    dsimp only at h
    repeat' split at h
    all_goals first | (cases h; done) | (unfold aN at h; cases h; done) | (unfold aT at h; cases h; done)
  case i2l =>
    unfold am_ins at h
    dsimp only at h
    repeat' split at h
    all_goals first | (cases h; done) | (unfold aN at h; cases h; done) | (unfold aT at h; cases h; done)
  case i2d =>
    unfold am_ins at h
    dsimp only at h
    repeat' split at h
    all_goals first | (cases h; done) | (unfold aN at h; cases h; done) | (unfold aT at h; cases h; done)
  case d2l =>
    unfold am_ins at h
    dsimp only at h
    repeat' split at h
    all_goals first | (cases h; done) | (unfold aN at h; cases h; done) | (unfold aT at h; cases h; done)
  case i2c =>
    unfold am_ins at h
    dsimp only at h
    repeat' split at h
    all_goals first | (cases h; done) | (unfold aN at h; cases h; done) | (unfold aT at h; cases h; done)
  case iinc =>
    unfold am_ins at h
    dsimp only at h
    simp only [am_sto] at h
    repeat' split at h
    all_goals first | (cases h; done) | (unfold aN at h; cases h; done) | (unfold aT at h; cases h; done)
  case if_icmp =>
    unfold am_ins at h
    dsimp only at h
    repeat' split at h
    all_goals first | (cases h; done) | (unfold aN at h; cases h; done) | (unfold aT at h; cases h; done)
  case ifCond =>
    unfold am_ins at h
    dsimp only at h
    repeat' split at h
    all_goals first | (cases h; done) | (unfold aN at h; cases h; done) | (unfold aT at h; cases h; done)
  case goto =>
    unfold am_ins at h
    dsimp only at h
    repeat' split at h
    all_goals first | (cases h; done) | (unfold aN at h; cases h; done) | (unfold aT at h; cases h; done)
  case ifnull =>
    unfold am_ins at h
    dsimp only at h
    repeat' split at h
    all_goals first | (cases h; done) | (unfold aN at h; cases h; done) | (unfold aT at h; cases h; done)
  case tableswitch =>
    unfold am_ins at h
    dsimp only at h
    repeat' split at h
    all_goals first | (cases h; done) | (unfold aN at h; cases h; done) | (unfold aT at h; cases h; done)
  case lookupswitch =>
    unfold am_ins at h
    dsimp only at h
    repeat' split at h
    all_goals first | (cases h; done) | (unfold aN at h; cases h; done) | (unfold aT at h; cases h; done)
  case arraylength =>
    unfold am_ins at h
    dsimp only at h
    simp only [am_alen] at h
    repeat' split at h
    all_goals first | (cases h; done) | (unfold aN at h; cases h; done) | (unfold aT at h; cases h; done)
  case iaload =>
    unfold am_ins at h
    dsimp only at h
    simp only [am_aldI] at h
    repeat' split at h
    all_goals first | (cases h; done) | (unfold aN at h; cases h; done) | (unfold aT at h; cases h; done)
  case iastore =>
    unfold am_ins at h
    dsimp only at h
    simp only [am_astI] at h
    repeat' split at h
    all_goals first | (cases h; done) | (unfold aN at h; cases h; done) | (unfold aT at h; cases h; done)
  case baload =>
    unfold am_ins at h
    dsimp only at h
    simp only [am_aldI] at h
    repeat' split at h
    all_goals first | (cases h; done) | (unfold aN at h; cases h; done) | (unfold aT at h; cases h; done)
  case bastore =>
    unfold am_ins at h
    dsimp only at h
    simp only [am_astI] at h
    repeat' split at h
    all_goals first | (cases h; done) | (unfold aN at h; cases h; done) | (unfold aT at h; cases h; done)
  case laload =>
    unfold am_ins at h
    dsimp only at h
    simp only [am_aldL] at h
    repeat' split at h
    all_goals first | (cases h; done) | (unfold aN at h; cases h; done) | (unfold aT at h; cases h; done)
  case lastore =>
    unfold am_ins at h
    dsimp only at h
    simp only [am_astL] at h
    repeat' split at h
    all_goals first | (cases h; done) | (unfold aN at h; cases h; done) | (unfold aT at h; cases h; done)
  case aaload =>
    unfold am_ins at h
    dsimp only at h
    simp only [am_aldR] at h
    repeat' split at h
    all_goals first | (cases h; done) | (unfold aN at h; cases h; done) | (unfold aT at h; cases h; done)
  case aastore =>
    unfold am_ins at h
    dsimp only at h
    simp only [am_astR] at h
    repeat' split at h
    all_goals first | (cases h; done) | (unfold aN at h; cases h; done) | (unfold aT at h; cases h; done)
  case newarray =>
    unfold am_ins at h
    dsimp only at h
    simp only [am_newa] at h
    repeat' split at h
    all_goals first | (cases h; done) | (unfold aN at h; cases h; done) | (unfold aT at h; cases h; done)
  case anewarray =>
    unfold am_ins at h
    dsimp only at h
    simp only [am_newq] at h
    repeat' split at h
    all_goals first | (cases h; done) | (unfold aN at h; cases h; done) | (unfold aT at h; cases h; done)
  case dup =>
    unfold am_ins at h
    dsimp only at h
    repeat' split at h
    all_goals first | (cases h; done) | (unfold aN at h; cases h; done) | (unfold aT at h; cases h; done)
  case pop =>
    unfold am_ins at h
    dsimp only at h
    repeat' split at h
    all_goals first | (cases h; done) | (unfold aN at h; cases h; done) | (unfold aT at h; cases h; done)
  case getfield =>
    unfold am_ins at h
    dsimp only at h
    simp only [am_getf] at h
    repeat' split at h
    all_goals first | (cases h; done) | (unfold aN at h; cases h; done) | (unfold aT at h; cases h; done)
  case putfield =>
    unfold am_ins at h
    dsimp only at h
    simp only [am_putf] at h
    repeat' split at h
    all_goals first | (cases h; done) | (unfold aN at h; cases h; done) | (unfold aT at h; cases h; done)
  case getstatic =>
    unfold am_ins at h
    dsimp only at h
    repeat' split at h
    all_goals first | (cases h; done) | (unfold aN at h; cases h; done) | (unfold aT at h; cases h; done)
  case invokevirtual =>
    unfold am_ins at h
    dsimp only at h
    simp only [am_invoke] at h
    repeat' split at h
    all_goals first | (cases h; done) | (unfold aN at h; cases h; done) | (unfold aC at h; cases h; done)
  case invokespecial =>
    unfold am_ins at h
    dsimp only at h
    simp only [am_invoke] at h
    repeat' split at h
    all_goals first | (cases h; done) | (unfold aN at h; cases h; done) | (unfold aC at h; cases h; done)
  case invokestatic =>
    unfold am_ins at h
    dsimp only at h
    simp only [am_invoke] at h
    repeat' split at h
    all_goals first | (cases h; done) | (unfold aN at h; cases h; done) | (unfold aC at h; cases h; done)
  case ireturn =>
    unfold am_ins at h
    dsimp only at h
    split at h
    · obtain ⟨v, hv⟩ := LeS.ret h
      cases hv
    · cases h
  case lreturn =>
    unfold am_ins at h
    dsimp only at h
    split at h
    · obtain ⟨v, hv⟩ := LeS.ret h
      cases hv
    · cases h
  case dreturn =>
    unfold am_ins at h
    dsimp only at h
    split at h
    · obtain ⟨v, hv⟩ := LeS.ret h
      cases hv
    · cases h
  case areturn =>
    unfold am_ins at h
    dsimp only at h
    split at h
    · obtain ⟨v, hv⟩ := LeS.ret h
      cases hv
    · cases h
  case return_ =>
    unfold am_ins at h
    dsimp only at h
    split at h
    · unfold aR at h
      cases h
    · cases h
  all_goals (unfold am_ins at h; cases h)
/-- what comes back -/
theorem am_ins_ret {G : Nat → Nat} {i pc len : Nat} {ls : AL} {st : List AV} {σ : AS} {v : Option AV} {ins : Instr} (h : am_ins G i pc len ls st σ ins = some (.inr (.inr (.inl v)))) : len = 1 ∧ ((ins = .ireturn ∧ am_ret i st am_isI = some (.inr (.inr (.inl v)))) ∨ (ins = .lreturn ∧ am_ret i st (fun t => t == .long) = some (.inr (.inr (.inl v)))) ∨ (ins = .dreturn ∧ am_ret i st (fun t => t == .double) = some (.inr (.inr (.inl v)))) ∨ (ins = .areturn ∧ am_ret i st am_isA = some (.inr (.inr (.inl v)))) ∨ (ins = .return_ ∧ st = [] ∧ mR i = none ∧ v = none)) := by
  cases ins
  case ireturn =>
    unfold am_ins at h
    dsimp only at h
    split at h
    · exact ⟨by assumption, Or.inl ⟨rfl, h⟩⟩
    · cases h
  case lreturn =>
    unfold am_ins at h
    dsimp only at h
    split at h
    · exact ⟨by assumption, Or.inr (Or.inl ⟨rfl, h⟩)⟩
    · cases h
  case dreturn =>
    unfold am_ins at h
    dsimp only at h
    split at h
    · exact ⟨by assumption, Or.inr (Or.inr (Or.inl ⟨rfl, h⟩))⟩
    · cases h
  case areturn =>
    unfold am_ins at h
    dsimp only at h
    split at h
    · exact ⟨by assumption, Or.inr (Or.inr (Or.inr (Or.inl ⟨rfl, h⟩)))⟩
    · cases h
  case return_ =>
    unfold am_ins at h
    dsimp only at h
    split at h
    · rename_i hc
      unfold aR at h
      cases h
      exact ⟨hc.1, Or.inr (Or.inr (Or.inr (Or.inr ⟨rfl, hc.2.1, hc.2.2, rfl⟩)))⟩
    · cases h
  case aload_n =>
    unfold am_ins at h
    dsimp only at h
    simp only [am_ldA] at h
    repeat' split at h
    all_goals first | (cases h; done) | (unfold aN at h; cases h; done) | (unfold aT at h; cases h; done)
  case aload =>
    unfold am_ins at h
    dsimp only at h
    simp only [am_ldA] at h
    repeat' split at h
    all_goals first | (cases h; done) | (unfold aN at h; cases h; done) | (unfold aT at h; cases h; done)
  case iload_n =>
    unfold am_ins at h
    dsimp only at h
    simp only [am_ldI] at h
    repeat' split at h
    all_goals first | (cases h; done) | (unfold aN at h; cases h; done) | (unfold aT at h; cases h; done)
  case iload =>
    unfold am_ins at h
    dsimp only at h
    simp only [am_ldI] at h
    repeat' split at h
    all_goals first | (cases h; done) | (unfold aN at h; cases h; done) | (unfold aT at h; cases h; done)
  case lload_n =>
    unfold am_ins at h
    dsimp only at h
    simp only [am_ldL] at h
    repeat' split at h
    all_goals first | (cases h; done) | (unfold aN at h; cases h; done) | (unfold aT at h; cases h; done)
  case lload =>
    unfold am_ins at h
    dsimp only at h
    simp only [am_ldL] at h
    repeat' split at h
    all_goals first | (cases h; done) | (unfold aN at h; cases h; done) | (unfold aT at h; cases h; done)
  case dload_n =>
    unfold am_ins at h
    dsimp only at h
    simp only [am_ldD] at h
    repeat' split at h
    all_goals first | (cases h; done) | (unfold aN at h; cases h; done) | (unfold aT at h; cases h; done)
  case dload =>
    unfold am_ins at h
    dsimp only at h
    simp only [am_ldD] at h
    repeat' split at h
    all_goals first | (cases h; done) | (unfold aN at h; cases h; done) | (unfold aT at h; cases h; done)
  case astore_n =>
    unfold am_ins at h
    dsimp only at h
    simp only [am_stA, am_sto] at h
    repeat' split at h
    all_goals first | (cases h; done) | (unfold aN at h; cases h; done) | (unfold aT at h; cases h; done)
  case astore =>
    unfold am_ins at h
    dsimp only at h
    simp only [am_stA, am_sto] at h
    repeat' split at h
    all_goals first | (cases h; done) | (unfold aN at h; cases h; done) | (unfold aT at h; cases h; done)
  case istore_n =>
    unfold am_ins at h
    dsimp only at h
    simp only [am_stI, am_sto] at h
    repeat' split at h
    all_goals first | (cases h; done) | (unfold aN at h; cases h; done) | (unfold aT at h; cases h; done)
  case istore =>
    unfold am_ins at h
    dsimp only at h
    simp only [am_stI, am_sto] at h
    repeat' split at h
    all_goals first | (cases h; done) | (unfold aN at h; cases h; done) | (unfold aT at h; cases h; done)
  case lstore_n =>
    unfold am_ins at h
    dsimp only at h
    simp only [am_stL, am_sto] at h
    repeat' split at h
    all_goals first | (cases h; done) | (unfold aN at h; cases h; done) | (unfold aT at h; cases h; done)
  case lstore =>
    unfold am_ins at h
    dsimp only at h
    simp only [am_stL, am_sto] at h
    repeat' split at h
    all_goals first | (cases h; done) | (unfold aN at h; cases h; done) | (unfold aT at h; cases h; done)
  case dstore_n =>
    unfold am_ins at h
    dsimp only at h
    simp only [am_stD, am_sto] at h
    repeat' split at h
    all_goals first | (cases h; done) | (unfold aN at h; cases h; done) | (unfold aT at h; cases h; done)
  case dstore =>
    unfold am_ins at h
    dsimp only at h
    simp only [am_stD, am_sto] at h
    repeat' split at h
    all_goals first | (cases h; done) | (unfold aN at h; cases h; done) | (unfold aT at h; cases h; done)
  case iconst =>
    unfold am_ins at h
    dsimp only at h
    repeat' split at h
    all_goals first | (cases h; done) | (unfold aN at h; cases h; done) | (unfold aT at h; cases h; done)
  case bipush =>
    unfold am_ins at h
    dsimp only at h
    repeat' split at h
    all_goals first | (cases h; done) | (unfold aN at h; cases h; done) | (unfold aT at h; cases h; done)
  case sipush =>
    unfold am_ins at h
    dsimp only at h
    repeat' split at h
    all_goals first | (cases h; done) | (unfold aN at h; cases h; done) | (unfold aT at h; cases h; done)
  case lconst =>
    unfold am_ins at h
    dsimp only at h
    repeat' split at h
    all_goals first | (cases h; done) | (unfold aN at h; cases h; done) | (unfold aT at h; cases h; done)
  case dconst =>
    unfold am_ins at h
    dsimp only at h
    repeat' split at h
    all_goals first | (cases h; done) | (unfold aN at h; cases h; done) | (unfold aT at h; cases h; done)
  case aconst_null =>
    unfold am_ins at h
    dsimp only at h
    repeat' split at h
    all_goals first | (cases h; done) | (unfold aN at h; cases h; done) | (unfold aT at h; cases h; done)
  case ldc =>
    unfold am_ins at h
    dsimp only at h
    simp only [am_ldc] at h
    repeat' split at h
    all_goals first | (cases h; done) | (unfold aN at h; cases h; done) | (unfold aT at h; cases h; done)
  case ldc2_w =>
    unfold am_ins at h
    dsimp only at h
    simp only [am_ldc] at h
    repeat' split at h
    all_goals first | (cases h; done) | (unfold aN at h; cases h; done) | (unfold aT at h; cases h; done)
  case iadd =>
    unfold am_ins at h
    dsimp only at h
    simp only [am_bin] at h
    repeat' split at h
    all_goals first | (cases h; done) | (unfold aN at h; cases h; done) | (unfold aT at h; cases h; done)
  case isub =>
    unfold am_ins at h
    dsimp only at h
    simp only [am_bin] at h
    repeat' split at h
    all_goals first | (cases h; done) | (unfold aN at h; cases h; done) | (unfold aT at h; cases h; done)
  case imul =>
    unfold am_ins at h
    dsimp only at h
    simp only [am_bin] at h
    repeat' split at h
    all_goals first | (cases h; done) | (unfold aN at h; cases h; done) | (unfold aT at h; cases h; done)
  case idiv =>
    unfold am_ins at h
    dsimp only at h
    simp only [am_bin] at h
    repeat' split at h
    all_goals first | (cases h; done) | (unfold aN at h; cases h; done) | (unfold aT at h; cases h; done)
  case irem =>
    unfold am_ins at h
    dsimp only at h
    simp only [am_bin] at h
    repeat' split at h
    all_goals first | (cases h; done) | (unfold aN at h; cases h; done) | (unfold aT at h; cases h; done)
  case iand =>
    unfold am_ins at h
    dsimp only at h
    simp only [am_bin] at h
    repeat' split at h
    all_goals first | (cases h; done) | (unfold aN at h; cases h; done) | (unfold aT at h; cases h; done)
  case ishr =>
    unfold am_ins at h
    dsimp only at h
    simp only [am_bin] at h
    repeat' split at h
    all_goals first | (cases h; done) | (unfold aN at h; cases h; done) | (unfold aT at h; cases h; done)
  case ladd =>
    unfold am_ins at h
    dsimp only at h
    simp only [am_binL] at h
    repeat' split at h
    all_goals first | (cases h; done) | (unfold aN at h; cases h; done) | (unfold aT at h; cases h; done)
  case lsub =>
    unfold am_ins at h
    dsimp only at h
    simp only [am_binL] at h
    repeat' split at h
    all_goals first | (cases h; done) | (unfold aN at h; cases h; done) | (unfold aT at h; cases h; done)
  case lmul =>
    unfold am_ins at h
    dsimp only at h
    simp only [am_binL] at h
    repeat' split at h
    all_goals first | (cases h; done) | (unfold aN at h; cases h; done) | (unfold aT at h; cases h; done)
  case lshl =>
    unfold am_ins at h
    dsimp only at h
    repeat' split at h
    all_goals first | (cases h; done) | (unfold aN at h; cases h; done) | (unfold aT at h; cases h; done)
  case lcmp =>
    unfold am_ins at h
    dsimp only at h
    repeat' split at h
    all_goals first | (cases h; done) | (unfold aN at h; cases h; done) | (unfold aT at h; cases h; done)
  case dsub =>
    unfold am_ins at h
    dsimp only at h
    simp only [am_binD] at h
    repeat' split at h
    all_goals first | (cases h; done) | (unfold aN at h; cases h; done) | (unfold aT at h; cases h; done)
  case dmul =>
    unfold am_ins at h
    dsimp only at h
    simp only [am_binD] at h
    repeat' split at h
    all_goals first | (cases h; done) | (unfold aN at h; cases h; done) | (unfold aT at h; cases h; done)
  case ddiv =>
    unfold am_ins at h
    dsimp only at h
    simp only [am_binD] at h
    repeat' split at h
    all_goals first | (cases h; done) | (unfold aN at h; cases h; done) | (unfold aT at h; cases h; done)
  case dcmp =>
    unfold am_ins at h
    dsimp only at h
    repeat' split at h
    all_goals first | (cases h; done) | (unfold aN at h; cases h; done) | (unfold aT at h; cases h; done)
  case i2l =>
    unfold am_ins at h
    dsimp only at h
    repeat' split at h
    all_goals first | (cases h; done) | (unfold aN at h; cases h; done) | (unfold aT at h; cases h; done)
  case i2d =>
    unfold am_ins at h
    dsimp only at h
    repeat' split at h
    all_goals first | (cases h; done) | (unfold aN at h; cases h; done) | (unfold aT at h; cases h; done)
  case d2l =>
    unfold am_ins at h
    dsimp only at h
    repeat' split at h
    all_goals first | (cases h; done) | (unfold aN at h; cases h; done) | (unfold aT at h; cases h; done)
  case i2c =>
    unfold am_ins at h
    dsimp only at h
    repeat' split at h
    all_goals first | (cases h; done) | (unfold aN at h; cases h; done) | (unfold aT at h; cases h; done)
  case iinc =>
    unfold am_ins at h
    dsimp only at h
    simp only [am_sto] at h
    repeat' split at h
    all_goals first | (cases h; done) | (unfold aN at h; cases h; done) | (unfold aT at h; cases h; done)
  case if_icmp =>
    unfold am_ins at h
    dsimp only at h
    repeat' split at h
    all_goals first | (cases h; done) | (unfold aN at h; cases h; done) | (unfold aT at h; cases h; done)
  case ifCond =>
    unfold am_ins at h
    dsimp only at h
    repeat' split at h
    all_goals first | (cases h; done) | (unfold aN at h; cases h; done) | (unfold aT at h; cases h; done)
  case goto =>
    unfold am_ins at h
    dsimp only at h
    repeat' split at h
    all_goals first | (cases h; done) | (unfold aN at h; cases h; done) | (unfold aT at h; cases h; done)
  case ifnull =>
    unfold am_ins at h
    dsimp only at h
    repeat' split at h
    all_goals first | (cases h; done) | (unfold aN at h; cases h; done) | (unfold aT at h; cases h; done)
  case tableswitch =>
    unfold am_ins at h
    dsimp only at h
    repeat' split at h
    all_goals first | (cases h; done) | (unfold aN at h; cases h; done) | (unfold aT at h; cases h; done)
  case lookupswitch =>
    unfold am_ins at h
    dsimp only at h
    repeat' split at h
    all_goals first | (cases h; done) | (unfold aN at h; cases h; done) | (unfold aT at h; cases h; done)
  case arraylength =>
    unfold am_ins at h
    dsimp only at h
    simp only [am_alen] at h
    repeat' split at h
    all_goals first | (cases h; done) | (unfold aN at h; cases h; done) | (unfold aT at h; cases h; done)
  case iaload =>
    unfold am_ins at h
    dsimp only at h
    simp only [am_aldI] at h
    repeat' split at h
    all_goals first | (cases h; done) | (unfold aN at h; cases h; done) | (unfold aT at h; cases h; done)
  case iastore =>
    unfold am_ins at h
    dsimp only at h
    simp only [am_astI] at h
    repeat' split at h
    all_goals first | (cases h; done) | (unfold aN at h; cases h; done) | (unfold aT at h; cases h; done)
  case baload =>
    unfold am_ins at h
    dsimp only at h
    simp only [am_aldI] at h
    repeat' split at h
    all_goals first | (cases h; done) | (unfold aN at h; cases h; done) | (unfold aT at h; cases h; done)
  case bastore =>
    unfold am_ins at h
    dsimp only at h
    simp only [am_astI] at h
    repeat' split at h
    all_goals first | (cases h; done) | (unfold aN at h; cases h; done) | (unfold aT at h; cases h; done)
  case laload =>
    unfold am_ins at h
    dsimp only at h
    simp only [am_aldL] at h
    repeat' split at h
    all_goals first | (cases h; done) | (unfold aN at h; cases h; done) | (unfold aT at h; cases h; done)
  case lastore =>
    unfold am_ins at h
    dsimp only at h
    simp only [am_astL] at h
    repeat' split at h
    all_goals first | (cases h; done) | (unfold aN at h; cases h; done) | (unfold aT at h; cases h; done)
  case aaload =>
    unfold am_ins at h
    dsimp only at h
    simp only [am_aldR] at h
    repeat' split at h
    all_goals first | (cases h; done) | (unfold aN at h; cases h; done) | (unfold aT at h; cases h; done)
  case aastore =>
    unfold am_ins at h
    dsimp only at h
    simp only [am_astR] at h
    repeat' split at h
    all_goals first | (cases h; done) | (unfold aN at h; cases h; done) | (unfold aT at h; cases h; done)
  case newarray =>
    unfold am_ins at h
    dsimp only at h
    simp only [am_newa] at h
    repeat' split at h
    all_goals first | (cases h; done) | (unfold aN at h; cases h; done) | (unfold aT at h; cases h; done)
  case anewarray =>
    unfold am_ins at h
    dsimp only at h
    simp only [am_newq] at h
    repeat' split at h
    all_goals first | (cases h; done) | (unfold aN at h; cases h; done) | (unfold aT at h; cases h; done)
  case new =>
    unfold am_ins at h
    dsimp only at h
    simp only [am_new] at h
    repeat' split at h
    all_goals first | (cases h; done) | (unfold aN at h; cases h; done) | (unfold aT at h; cases h; done)
  case dup =>
    unfold am_ins at h
    dsimp only at h
    repeat' split at h
    all_goals first | (cases h; done) | (unfold aN at h; cases h; done) | (unfold aT at h; cases h; done)
  case pop =>
    unfold am_ins at h
    dsimp only at h
    repeat' split at h
    all_goals first | (cases h; done) | (unfold aN at h; cases h; done) | (unfold aT at h; cases h; done)
  case getfield =>
    unfold am_ins at h
    dsimp only at h
    simp only [am_getf] at h
    repeat' split at h
    all_goals first | (cases h; done) | (unfold aN at h; cases h; done) | (unfold aT at h; cases h; done)
  case putfield =>
    unfold am_ins at h
    dsimp only at h
    simp only [am_putf] at h
    repeat' split at h
    all_goals first | (cases h; done) | (unfold aN at h; cases h; done) | (unfold aT at h; cases h; done)
  case getstatic =>
    unfold am_ins at h
    dsimp only at h
    repeat' split at h
    all_goals first | (cases h; done) | (unfold aN at h; cases h; done) | (unfold aT at h; cases h; done)
  case invokevirtual =>
    unfold am_ins at h
    dsimp only at h
    simp only [am_invoke] at h
    repeat' split at h
    all_goals first | (cases h; done) | (unfold aN at h; cases h; done) | (unfold aC at h; cases h; done)
  case invokespecial =>
    unfold am_ins at h
    dsimp only at h
    simp only [am_invoke] at h
    repeat' split at h
    all_goals first | (cases h; done) | (unfold aN at h; cases h; done) | (unfold aC at h; cases h; done)
  case invokestatic =>
    unfold am_ins at h
    dsimp only at h
    simp only [am_invoke] at h
    repeat' split at h
    all_goals first | (cases h; done) | (unfold aN at h; cases h; done) | (unfold aC at h; cases h; done)
  all_goals (unfold am_ins at h; cases h)
theorem am_ret_at {i : Nat} {st : List AV} {q : FieldType → Bool} {v : Option AV} (h : am_ret i st q = some (.inr (.inr (.inl v)))) : ∃ w ty, st = [w] ∧ v = some w ∧ mR i = some ty ∧ q ty = true ∧ am_fit ty w = true := by
  unfold am_ret at h
  split at h
  · rename_i w ty hR
    split at h
    · rename_i hc
      unfold aR at h
      cases h
      exact ⟨w, ty, rfl, rfl, hR, hc.1, hc.2⟩
    · cases h
  · cases h
/-- the run's counts only grow -/
theorem am_run_le {G : Nat → Nat} : ∀ (n : Nat) {i pc : Nat} {ls : AL} {st : List AV} {σ σF : AS} {res : Option AV ⊕ Nat}, am_run G n i pc ls st σ = some (res, σF) → LeS σ σF
  | 0, i, pc, ls, st, σ, σF, res, h => by
    unfold am_run at h
    cases h
  | n + 1, i, pc, ls, st, σ, σF, res, h => by
    unfold am_run at h
    split at h
    · cases h
    · rename_i pc' ls' st' σ' hs
      obtain ⟨ins, len, -, hi⟩ := am_step_eq hs
      exact (LeS.ins hi).tr (am_run_le n h)
    · split at h
      · split at h
        · cases h
        · rename_i hr
          exact (am_run_le n hr).tr (am_run_le n h)
        · rename_i hr
          split at h
          · cases h
            exact am_run_le n hr
          · split at h
            · exact (am_run_le n hr).tr (am_run_le n h)
            · cases h
      · cases h
    · cases h
      exact LeS.rf
    · rename_i x σ' hs
      cases h
      obtain ⟨ins, len, -, hi⟩ := am_step_eq hs
      obtain ⟨idx, -, -, -, -, -, -, -, he⟩ := am_ins_throw hi
      rw [he]
      exact LeS.th
def thNames : List String := ["java/lang/RuntimeException", "java/lang/Exception"]
def chkT (x : Nat) : Bool := (vx_atS "CorridorPlan" (am_tC x) (am_xn x) thNames).all (fun w => decide (w ∈ lw_tbl) && (goodWord w || (wn_is w && w.onTables)) && vx_ot w) && Bundle.fit (am_xn x) && decide (Cond.initialized (am_xn x) ∈ lw_tbl)
theorem thr_ok : ∀ x, x < 3 → chkT x = true := by decide +kernel
theorem thr_fit : ∀ n ∈ thNames, Bundle.fit n = true := by decide +kernel
theorem thr_tx : ∀ k ∈ am_tI, thrTx.any (fun q => decide (q.1 = "CorridorPlan" ∧ q.2.1 = k)) = true := by decide +kernel
theorem thr_nT : ∀ q ∈ am_nT 4, 10 ≤ q.2 → Cond.classLink "CorridorPlan" q.1 (am_xn (q.2 - 10)) ∈ lw_tbl := by decide +kernel
theorem xT_ok : ∀ q ∈ am_xT 6, q.1 ≠ 0 ∧ q.2 < 3 ∧ Cond.classLink "CorridorPlanLaw" q.1 (am_xn q.2) ∈ wl ∧ Cond.castable (am_xn q.2) (am_xn q.2) ∈ wn := by decide +kernel
theorem xT_big {oc : Nat} (h : ¬ oc = 6) : am_xT oc = [] := by
  unfold am_xT
  split <;> first | omega | rfl
theorem xT_at {oc k x : Nat} (h : am_lk (am_xT oc) k = some x) : oc = 6 ∧ k ≠ 0 ∧ x < 3 ∧ Cond.classLink "CorridorPlanLaw" k (am_xn x) ∈ wl ∧ Cond.castable (am_xn x) (am_xn x) ∈ wn := by
  have h1 := am_lk_mem h
  by_cases h2 : oc = 6
  · subst h2
    exact ⟨rfl, xT_ok _ h1⟩
  · rw [xT_big h2] at h1
    cases h1
theorem xn_in : ∀ x, x < 3 → am_xn x ∈ excN := by decide +kernel
theorem xn_ne : ∀ x, x < 3 → ∀ y, y < 3 → x ≠ y → am_xn x ≠ am_xn y := by decide +kernel
theorem am_hnd_spec {i pc x : Nat} {ls : AL} {z : Nat × AL} : ∀ (l : List (Nat × Nat × Nat × Nat)), am_hnd i pc x ls l = some z → ∃ pre q suf k, l = pre ++ q :: suf ∧ (∀ y ∈ pre, ¬ (y.1 ≤ pc ∧ pc < y.2.1) ∨ ∃ x', am_lk (am_xT (mOc i)) y.2.2.2 = some x' ∧ x' ≠ x) ∧ (q.1 ≤ pc ∧ pc < q.2.1) ∧ am_lk (am_xT (mOc i)) q.2.2.2 = some x ∧ k < ls.length ∧ am_pre ls k = true ∧ z.2 = ls.set k none ∧ ((∃ k' : Fin 4, (k' : Nat) = k ∧ decode (mB i) q.2.2.1 = .ok (.astore_n k', 1) ∧ z.1 = q.2.2.1 + 1) ∨ (decode (mB i) q.2.2.1 = .ok (.astore k, 2) ∧ z.1 = q.2.2.1 + 2))
  | [], h => by
    unfold am_hnd at h
    cases h
  | (s, e, h0, c) :: r, h => by
    unfold am_hnd at h
    split at h
    · rename_i hcov
      split at h
      · rename_i x' hlk
        split at h
        · rename_i hx
          subst hx
          split at h
          · rename_i k' hd
            split at h
            · rename_i hk
              cases h
              exact ⟨[], _, r, k', rfl, (fun y hy => by cases hy), hcov, hlk, hk.1, hk.2, rfl, Or.inl ⟨k', rfl, hd, rfl⟩⟩
            · cases h
          · rename_i k' hd
            split at h
            · rename_i hk
              cases h
              exact ⟨[], _, r, k', rfl, (fun y hy => by cases hy), hcov, hlk, hk.1, hk.2, rfl, Or.inr ⟨hd, rfl⟩⟩
            · cases h
          · cases h
        · rename_i hx
          obtain ⟨pre, q, suf, k, h1, h2, h3⟩ := am_hnd_spec r h
          refine ⟨(s, e, h0, c) :: pre, q, suf, k, by rw [h1]; rfl, fun y hy => ?_, h3⟩
          rcases List.mem_cons.mp hy with rfl | hy
          · exact Or.inr ⟨x', hlk, hx⟩
          · exact h2 y hy
      · cases h
    · rename_i hcov
      obtain ⟨pre, q, suf, k, h1, h2, h3⟩ := am_hnd_spec r h
      refine ⟨(s, e, h0, c) :: pre, q, suf, k, by rw [h1]; rfl, fun y hy => ?_, h3⟩
      rcases List.mem_cons.mp hy with rfl | hy
      · exact Or.inl hcov
      · exact h2 y hy
theorem law_oc : ¬ mOc am_nM = 4 := by decide
theorem law_h : mH am_nM = [] := by decide +kernel
section SN8
variable {p : Program} {l : Launch} {e : Env} {R : Room} {s : State} {m : MethodId} {args : Array Value} {below : List Frame} {meth : Method} {c : Code} {G : Nat → Nat} {D : AD} {i c0 d0 : Nat} {Q : State → Prop}
variable {pc len : Nat} {ls : AL} {st : List AV} {σ : AS} {σ' : AS} {la : Array Slot} {H : Heap} {locs : List Loc} {res : Option AV ⊕ Nat}
/-- the end of a method that returns -/
theorem am_end {v : Option AV} (F : FrameOK G D i p l R s m args meth c) (h : am_step G i pc ls st σ = some (.inr (.inr (.inl v)))) (hdyn : Dyn G D s c0 d0 σ H locs) (hres : res = .inl v) :
    W p l e R s m args below meth c H locs (σ.2.2.1 - c0) (σ.2.2.2 - d0) (vx_MQ below (AQ G D res σ) (AX G D res σ) args s (σ.2.2.1 - c0) (σ.2.2.2 - d0) (am_A G)) (F0 m pc la (st.map cv)) := by
  subst hres
  refine vx_ret ?_
  obtain ⟨hx, hb, hml, hown, hts, hKU, hE, -, hret, hlk, -, -, hRF, hRL, hG⟩ := F
  obtain ⟨d1, d2, d3, d4, d5⟩ := hdyn
  have hq : ∀ t : State, t.heap = H → s.WarmedH t.vm → AQ G D (.inl v) σ args s (.returned (v.map cv)) t := by
    intro t ht hW
    refine ⟨rfl, by rw [ht]; exact d2, by rw [ht]; exact d1.moved hW.alike, d3.F ht⟩
  obtain ⟨ins, ln, hd, hi⟩ := am_step_eq h
  obtain ⟨rfl, hh⟩ := am_ins_ret hi
  rcases hh with ⟨rfl, h2⟩ | ⟨rfl, h2⟩ | ⟨rfl, h2⟩ | ⟨rfl, h2⟩ | ⟨rfl, h2, h3, h4⟩
  · obtain ⟨w, ty, rfl, rfl, hR, hqq, hfit⟩ := am_ret_at h2
    rw [hR] at hret
    cases w with
    | inl x => exact W.zret (v := Int32.ofInt x) hx hb hret (fit_ok hfit).1 hq d3.2.2 hd hlk
    | inr w =>
      exfalso
      cases ty <;> first | (cases hqq; done) | (rcases w with w | w | w <;> cases hfit)
  · obtain ⟨w, ty, rfl, rfl, hR, hqq, hfit⟩ := am_ret_at h2
    rw [hR] at hret
    have hty : ty = .long := eq_of_beq hqq
    subst hty
    rcases w with w | w | w | w
    · cases hfit
    · exact W.lret (v := w) hx hb hret hq d3.2.2 hd hlk
    · cases hfit
    · cases hfit
  · obtain ⟨w, ty, rfl, rfl, hR, hqq, hfit⟩ := am_ret_at h2
    rw [hR] at hret
    have hty : ty = .double := eq_of_beq hqq
    subst hty
    rcases w with w | w | w | w
    · cases hfit
    · cases hfit
    · exact W.dret (v := w) hx hb hret hq d3.2.2 hd hlk
    · cases hfit
  · obtain ⟨w, ty, rfl, rfl, hR, hqq, hfit⟩ := am_ret_at h2
    rw [hR] at hret
    have hrt : (∃ n, ty = .object n) ∨ ∃ t, ty = .array t := by
      cases ty <;> first | (cases hqq; done) | exact Or.inl ⟨_, rfl⟩ | exact Or.inr ⟨_, rfl⟩
    rcases w with w | w | w | w
    · rcases hrt with ⟨n, rfl⟩ | ⟨n, rfl⟩ <;> cases hfit
    · rcases hrt with ⟨n, rfl⟩ | ⟨n, rfl⟩ <;> cases hfit
    · rcases hrt with ⟨n, rfl⟩ | ⟨n, rfl⟩ <;> cases hfit
    · refine W.aret (v := cv (.inr (.inr (.inr w)))) hx hb hret hrt ?_ hq d3.2.2 hd hlk
      cases w with
      | none => exact Or.inl rfl
      | some a => exact Or.inr ⟨a, rfl⟩
  · subst h2
    subst h4
    rw [h3] at hret
    exact W.vret hx hb hret hq d3.2.2 hd hlk
/-- a method that makes its exception and throws it -/
theorem am_throw {x : Nat} (F : FrameOK G D i p l R s m args meth c) (h : am_step G i pc ls st σ = some (.inr (.inr (.inr (x, σ'))))) (hl : LR la (mX i) ls) (hdyn : Dyn G D s c0 d0 σ H locs) (hres : res = .inr x) (hrc : σ'.2.2.1 - c0 ≤ R.cells) (hrs : σ'.2.2.2 - d0 ≤ R.slots) :
    W p l e R s m args below meth c H locs (σ.2.2.1 - c0) (σ.2.2.2 - d0) (vx_MQ below (AQ G D res σ') (AX G D res σ') args s (σ'.2.2.1 - c0) (σ'.2.2.2 - d0) (am_A G)) (F0 m pc la (st.map cv)) := by
  subst hres
  obtain ⟨hx, hb, hml, hown, hts, hKU, hE, hst, hret, hlk, -, hexc, hRF, hRL, hG⟩ := F
  obtain ⟨ins, ln, hd, hi⟩ := am_step_eq h
  obtain ⟨idx, rfl, rfl, hn, hthr, hemp, hF6, hL, rfl⟩ := am_ins_throw hi
  obtain ⟨d1, d2, d3, d4, d5⟩ := hdyn
  have hoc4 : mOc i = 4 := by
    simp only [am_isThrow, am_isThrow1, am_isThrow2, Bool.and_eq_true, Bool.or_eq_true] at hthr
    rcases hthr.2 with z | z
    · repeat' split at z
      all_goals first | (cases z; done) | exact (of_decide_eq_true z).1
    · repeat' split at z
      all_goals first | (cases z; done) | exact (of_decide_eq_true z).1
  have hexc0 : ∀ y ∈ c.exceptionTable.toList, False := by
    intro y hy
    rcases hexc with hexc | hexc
    · rw [hexc, List.isEmpty_iff.mp hemp] at hy
      cases hy
    · rw [hexc] at hoc4
      exact absurd hoc4 law_oc
  simp only [am_isThrow, Bool.and_eq_true, Bool.or_eq_true] at hthr
  obtain ⟨hdup, hthr⟩ := hthr
  have hdup' : decode (mB i) (pc + 3) = .ok (.dup, 1) := by
    split at hdup
    · assumption
    · cases hdup
  have hXC : ∀ t : State, s.vm.Alike t.vm → H.size ≤ t.heap.size → (∀ q : Nat, q < H.size → t.heap[q]? = H[q]?) → AX G D (.inr x) (am_th σ) (am_xn x) s t := by
    intro t hal hz hq
    exact ⟨rfl, Or.inl rfl, (d1.old hq).moved hal, Nat.le_trans d3.1 hz, fun q h1 h2 => (hq q (Nat.lt_of_lt_of_le h1 d3.1)).trans (d3.2.1 q h1 h2)⟩
  have hc1 : σ.2.2.1 - c0 + 1 ≤ (am_th σ).2.2.1 - c0 := by show _ ≤ σ.2.2.1 + 1 - c0; omega
  have hs1 : σ.2.2.2 - d0 + 6 ≤ (am_th σ).2.2.2 - d0 := by show _ ≤ σ.2.2.2 + 6 - d0; omega
  have fin : ∀ (k ic : Nat), mOc i = 4 → k ∈ am_tI → x < 3 → ic = am_tC x → (∃ text sa, vk_R "CorridorPlan" k text sa s) ∧ s.vm.findClass "CorridorPlan" = some m.cls ∧ Bundle.fit (am_xn x) = true ∧ (Cond.classLink "CorridorPlan" idx (am_xn x)).before args s = true ∧ (Cond.initialized (am_xn x)).before args s = true ∧ (∀ w ∈ vx_atS "CorridorPlan" ic (am_xn x) thNames, w.before args s = true) ∧ (∀ w ∈ Cond.classLink "CorridorPlan" idx (am_xn x) :: Cond.initialized (am_xn x) :: vx_atS "CorridorPlan" ic (am_xn x) thNames, vx_ot w = true) := by
    intro k ic h4 hk hx3 hic
    subst hic
    have hck := thr_ok x hx3
    simp only [chkT, Bool.and_eq_true, List.all_eq_true, Bool.or_eq_true, decide_eq_true_eq] at hck
    obtain ⟨⟨hat, hfit⟩, hini⟩ := hck
    have htx := thr_tx k hk
    simp only [List.any_eq_true, decide_eq_true_eq] at htx
    obtain ⟨q, hq1, hq2, hq3⟩ := htx
    obtain ⟨a, ha⟩ := hKU.2.2.2.1 q hq1
    rw [hq2, hq3] at ha
    rw [h4] at hn hown
    have hcl := thr_nT _ (am_lk_mem hn) (by show 10 ≤ x + 10; omega)
    dsimp only at hcl
    rw [show x + 10 - 10 = x by omega] at hcl
    refine ⟨⟨_, a, ha⟩, hown, hfit, hts _ (List.mem_filter.mpr ⟨hcl, rfl⟩), hts _ (List.mem_filter.mpr ⟨hini, rfl⟩), fun w hw => ?_, fun w hw => ?_⟩
    · obtain ⟨⟨h1, h2⟩, -⟩ := hat w hw
      rcases h2 with h2 | ⟨h2, h3⟩
      · exact hts _ (List.mem_filter.mpr ⟨h1, h2⟩)
      · exact va_Nw.use h3 (hKU.2.1 _ (nw_in h1 h2))
    · rcases List.mem_cons.mp hw with rfl | hw
      · rfl
      · rcases List.mem_cons.mp hw with rfl | hw
        · rfl
        · exact (hat w hw).2
  rcases hthr with hthr | hthr
  · unfold am_isThrow1 at hthr
    split at hthr
    · rename_i k hd4
      split at hthr
      · rename_i ic hd6 hd9
        obtain ⟨h4, hk, hx3, hic⟩ := of_decide_eq_true hthr
        obtain ⟨⟨text, sa, hstr⟩, hown4, hfit, hlink, hini, hat, hgood⟩ := fin k ic h4 hk hx3 hic
        exact vx_throwS (names := thNames) hx hb hst hown4 hfit thr_fit hlink hini hstr hat hgood hE.2.2.2.2.1 hE.2.2.2.2.2 d3 (by rw [hml]; exact hl.1) hd hdup' hd4 hd6 hd9 (fun y hy => (hexc0 y hy).elim) (by show 5 < R.frames; omega) (by rw [cv_cats]; show _ + (13 * 3 + 43) ≤ _; omega) (Nat.le_trans hc1 hrc) (Nat.le_trans hs1 hrs) hlk hXC d3.2.2 hc1 hs1
      · cases hthr
    · cases hthr
  · unfold am_isThrow2 at hthr
    split at hthr
    · rename_i k hd4
      split at hthr
      · rename_i ic hd6 hd9
        obtain ⟨h4, hk, hx3, hic⟩ := of_decide_eq_true hthr
        obtain ⟨⟨text, sa, hstr⟩, hown4, hfit, hlink, hini, hat, hgood⟩ := fin k ic h4 hk hx3 hic
        exact vx_throwSW (names := thNames) hx hb hst hown4 hfit thr_fit hlink hini hstr hat hgood hE.2.2.2.2.1 hE.2.2.2.2.2 d3 (by rw [hml]; exact hl.1) hd hdup' hd4 hd6 hd9 (fun y hy => (hexc0 y hy).elim) (by show 5 < R.frames; omega) (by rw [cv_cats]; show _ + (13 * 3 + 43) ≤ _; omega) (Nat.le_trans hc1 hrc) (Nat.le_trans hs1 hrs) hlk hXC d3.2.2 hc1 hs1
      · cases hthr
    · cases hthr
/-- an exception of a callee goes on -/
theorem am_past {x q : Nat} {ce : Cell} {rest : List Value} (F : FrameOK G D i p l R s m args meth c) (hi9 : ¬ i = am_nM) (hH : mH i = []) (hdyn : Dyn G D s c0 d0 σ H locs) (hres : res = .inr x) (hq : H[q]? = some ce) (hv : ce.vm = .none) (hcl : s.vm.findClass (am_xn x) = some ce.cls) :
    vx_W p l e R s m args below meth c H locs (σ.2.2.1 - c0) (σ.2.2.2 - d0) (vx_MQ below (AQ G D res σ) (AX G D res σ) args s (σ.2.2.1 - c0) (σ.2.2.2 - d0) (am_A G)) (F0 m pc la rest) q := by
  subst hres
  obtain ⟨hx, hb, hml, hown, hts, hKU, hE, hst, hret, hlk, -, hexc, hRF, hRL, hG⟩ := F
  obtain ⟨d1, d2, d3, d4, d5⟩ := hdyn
  refine vx_out (fun y hy => ?_) hlk hq hv hcl (fun t ht hal => ⟨rfl, by rw [ht]; exact d2, by rw [ht]; exact d1.moved hal, d3.F ht⟩) d3.2.2 (Nat.le_refl _) (Nat.le_refl _)
  rw [hexc.resolve_right hi9, hH] at hy
  cases hy
/-- an exception of a callee is caught -/
theorem am_caught {x q : Nat} {ce : Cell} {rest : List Value} {z : Nat × AL} (F : FrameOK G D i p l R s m args meth c) (hz : am_hnd i pc x ls (mH i) = some z) (hl : LR la (mX i) ls) (hdyn : Dyn G D s c0 d0 σ H locs) (hq : H[q]? = some ce) (hv : ce.vm = .none) (hcl : s.vm.findClass (am_xn x) = some ce.cls)
    (kk : ∀ la' : Array Slot, LR la' (mX i) z.2 → W p l e R s m args below meth c H locs (σ.2.2.1 - c0) (σ.2.2.2 - d0) Q (F0 m z.1 la' [])) :
    vx_W p l e R s m args below meth c H locs (σ.2.2.1 - c0) (σ.2.2.2 - d0) Q (F0 m pc la rest) q := by
  obtain ⟨hx, hb, hml, hown, hts, hKU, hE, hst, hret, hlk, -, hexc, hRF, hRL, hG⟩ := F
  obtain ⟨pre, qq, suf, k, h1, h2, h3, h4, h5, h6, h7, h8⟩ := am_hnd_spec _ hz
  obtain ⟨hoc, hk0, hx3, hcw, hcast⟩ := xT_at h4
  rw [hoc] at hown
  have hexc : c.exceptionTable.toList = tableOf (mH i) := by
    rcases hexc with hexc | hexc
    · exact hexc
    · rw [hexc, law_h] at hz
      cases hz
  refine vx_catch (own := "CorridorPlanLaw") (name := am_xn x) (E := am_xn x) hown (tableOf pre) ⟨qq.1, qq.2.1, qq.2.2.1, qq.2.2.2⟩ (tableOf suf) (by rw [hexc, h1]; simp [tableOf]) ?_ ?_ hk0 (hts _ hcw) (va_Nw.use rfl (hKU.2.1 _ hcast)) hq hv hcl ?_
  · intro y hy
    obtain ⟨y0, hy0, rfl⟩ := List.mem_map.mp hy
    rcases h2 y0 hy0 with g | ⟨x', g1, g2⟩
    · refine Or.inl ?_
      by_cases z1 : y0.1 ≤ pc
      · by_cases z2 : pc < y0.2.1
        · exact (g ⟨z1, z2⟩).elim
        · simp [covers, z2]
      · simp [covers, z1]
    · obtain ⟨-, e1, e2, e3, -⟩ := xT_at g1
      exact Or.inr ⟨e1, am_xn x', hts _ e3, hKU.2.2.2.2.2 _ (xn_in x hx3) _ (xn_in x' e2) (xn_ne x hx3 x' e2 (Ne.symm g2))⟩
  · simp [covers, h3.1, h3.2]
  · have hfin : ∀ la' : Array Slot, lv_has la' (mX i) ((k, Value.ref q) :: (am_kn ls).filter (fun q => !(q.1 == k) && !(q.1 + 1 == k && q.2.category == 2))) → LR la' (mX i) z.2 := by
      intro la' hh
      have hs : am_set1 ls k (.inr (.inr (.inr (some q)))) = some (ls.set k (some (.inr (.inr (.inr (some q)))))) := by
        unfold am_set1
        rw [if_pos (by simp [h5, h6])]
      have hL := hl.set1 hs hh
      refine ⟨hL.1, hL.2.1, by rw [h7]; simpa using hl.2.2.1, fun j w hj => ?_⟩
      rw [h7] at hj
      by_cases e1 : j = k
      · subst e1
        rw [List.getElem?_set_self h5] at hj
        cases hj
      · refine hL.2.2.2 j w ?_
        rw [List.getElem?_set_ne (Ne.symm e1)] at hj ⊢
        exact hj
    have hk9 : k < mX i := by rw [← hl.2.2.1]; exact h5
    rcases h8 with ⟨k', rfl, hd, hz1⟩ | ⟨hd, hz1⟩
    · refine lv_astore_n hx hb hd rfl hl.has hk9 rfl (fun la' hl' => ?_)
      rw [← hz1]
      exact kk la' (hfin la' hl')
    · refine lv_astore hx hb hd hl.has hk9 rfl (fun la' hl' => ?_)
      rw [← hz1]
      exact kk la' (hfin la' hl')
end SN8
