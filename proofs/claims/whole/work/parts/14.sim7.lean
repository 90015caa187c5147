/-! THE RUN against the machine -/
theorem am_ret_not {i : Nat} {st : List AV} {q : FieldType → Bool} {z : Nat × (AL × (List AV × AS))} (h : am_ret i st q = some (.inl z)) : False := by
  unfold am_ret at h
  split at h
  · split at h
    · unfold aR at h
      cases h
    · cases h
  · cases h
section SN7
variable {p : Program} {l : Launch} {e : Env} {R : Room} {s : State} {m : MethodId} {args : Array Value} {below : List Frame} {meth : Method} {c : Code} {G : Nat → Nat} {D : AD} {i c0 d0 : Nat} {Q : State → Prop}
variable {pc len : Nat} {ls : AL} {st : List AV} {σ : AS} {pc' : Nat} {ls' : AL} {st' : List AV} {σ' : AS} {la : Array Slot} {H : Heap} {locs : List Loc}
set_option maxHeartbeats 4000000 in
theorem sn_next {ins : Instr} (hd : decode (mB i) pc = .ok (ins, len)) (h : am_ins G i pc len ls st σ ins = some (.inl (pc', (ls', (st', σ'))))) : SN p l e R s m args below meth c G D i c0 d0 Q pc ls st σ pc' ls' st' σ' := by
  cases ins
  case aload_n => exact sn_aload_n hd h
  case aload => exact sn_aload hd h
  case iload_n => exact sn_iload_n hd h
  case iload => exact sn_iload hd h
  case lload_n => exact sn_lload_n hd h
  case lload => exact sn_lload hd h
  case dload_n => exact sn_dload_n hd h
  case dload => exact sn_dload hd h
  case astore_n => exact sn_astore_n hd h
  case astore => exact sn_astore hd h
  case istore_n => exact sn_istore_n hd h
  case istore => exact sn_istore hd h
  case lstore_n => exact sn_lstore_n hd h
  case lstore => exact sn_lstore hd h
  case dstore_n => exact sn_dstore_n hd h
  case dstore => exact sn_dstore hd h
  case iconst => exact sn_iconst hd h
  case bipush => exact sn_bipush hd h
  case sipush => exact sn_sipush hd h
  case lconst => exact sn_lconst hd h
  case dconst => exact sn_dconst hd h
  case aconst_null => exact sn_aconst_null hd h
  case ldc => exact sn_ldc hd h
  case ldc2_w => exact sn_ldc2_w hd h
  case iadd => exact sn_iadd hd h
  case isub => exact sn_isub hd h
  case imul => exact sn_imul hd h
  case idiv => exact sn_idiv hd h
  case irem => exact sn_irem hd h
  case iand => exact sn_iand hd h
  case ishr => exact sn_ishr hd h
  case ladd => exact sn_ladd hd h
  case lsub => exact sn_lsub hd h
  case lmul => exact sn_lmul hd h
  case lshl => exact sn_lshl hd h
  case lcmp => exact sn_lcmp hd h
  case dsub => exact sn_dsub hd h
  case dmul => exact sn_dmul hd h
  case ddiv => exact sn_ddiv hd h
  case dcmp => exact sn_dcmp hd h
  case i2l => exact sn_i2l hd h
  case i2d => exact sn_i2d hd h
  case d2l => exact sn_d2l hd h
  case i2c => exact sn_i2c hd h
  case iinc => exact sn_iinc hd h
  case if_icmp => exact sn_if_icmp hd h
  case ifCond => exact sn_ifCond hd h
  case goto => exact sn_goto hd h
  case ifnull => exact sn_ifnull hd h
  case tableswitch => exact sn_tableswitch hd h
  case lookupswitch => exact sn_lookupswitch hd h
  case arraylength => exact sn_arraylength hd h
  case iaload => exact sn_iaload hd h
  case iastore => exact sn_iastore hd h
  case baload => exact sn_baload hd h
  case bastore => exact sn_bastore hd h
  case laload => exact sn_laload hd h
  case lastore => exact sn_lastore hd h
  case aaload => exact sn_aaload hd h
  case aastore => exact sn_aastore hd h
  case newarray => exact sn_newarray hd h
  case anewarray => exact sn_anewarray hd h
  case new => exact sn_new hd h
  case dup => exact sn_dup hd h
  case pop => exact sn_pop hd h
  case getfield => exact sn_getfield hd h
  case putfield => exact sn_putfield hd h
  case getstatic => exact sn_getstatic hd h
  case invokevirtual idx =>
    unfold am_ins at h
    dsimp only at h
    split at h
    · rename_i hlen
      subst hlen
      exact sn_invoke (Or.inl ⟨rfl, rfl⟩) hd h
    · cases h
  case invokespecial idx =>
    unfold am_ins at h
    dsimp only at h
    split at h
    · rename_i hlen
      subst hlen
      exact sn_invoke (Or.inr (Or.inl ⟨rfl, rfl⟩)) hd h
    · cases h
  case invokestatic idx =>
    unfold am_ins at h
    dsimp only at h
    split at h
    · rename_i hlen
      subst hlen
      exact sn_invoke (Or.inr (Or.inr ⟨rfl, rfl⟩)) hd h
    · cases h
  case ireturn =>
    unfold am_ins at h
    dsimp only at h
    split at h
    · exact (am_ret_not h).elim
    · cases h
  case lreturn =>
    unfold am_ins at h
    dsimp only at h
    split at h
    · exact (am_ret_not h).elim
    · cases h
  case dreturn =>
    unfold am_ins at h
    dsimp only at h
    split at h
    · exact (am_ret_not h).elim
    · cases h
  case areturn =>
    unfold am_ins at h
    dsimp only at h
    split at h
    · exact (am_ret_not h).elim
    · cases h
  case return_ =>
    unfold am_ins at h
    dsimp only at h
    split at h
    · unfold aR at h
      cases h
    · cases h
  all_goals (unfold am_ins at h; cases h)
/-- the counts only grow -/
def LeS (σ σ' : AS) : Prop := σ.2.2.1 ≤ σ'.2.2.1 ∧ σ.2.2.2 ≤ σ'.2.2.2
theorem LeS.rf {σ : AS} : LeS σ σ := ⟨Nat.le_refl _, Nat.le_refl _⟩
theorem LeS.tr {a b d : AS} (h : LeS a b) (k : LeS b d) : LeS a d := ⟨Nat.le_trans h.1 k.1, Nat.le_trans h.2 k.2⟩
theorem LeS.nw {σ : AS} {o : AO} {k : Nat} : LeS σ (am_nw σ o k) := ⟨Nat.le_succ _, Nat.le_add_right _ _⟩
theorem LeS.stc {σ : AS} {o : AO} {k : Nat} : LeS σ (am_st σ k o) := ⟨Nat.le_refl _, Nat.le_refl _⟩
theorem LeS.th {σ : AS} : LeS σ (am_th σ) := ⟨Nat.le_succ _, Nat.le_add_right _ _⟩
theorem LeS.ret {i : Nat} {st : List AV} {q : FieldType → Bool} {z : Act} (h : am_ret i st q = some z) : ∃ v, z = .inr (.inr (.inl v)) := by
  unfold am_ret at h
  split at h
  · split at h
    · unfold aR at h
      cases h
      exact ⟨_, rfl⟩
    · cases h
  · cases h
theorem LeS.inv {sort idx : Nat} (h : am_invoke i pc ls st σ sort idx = some (.inl (pc', (ls', (st', σ'))))) : LeS σ σ' := by
  unfold am_invoke at h
  split at h
  · split at h
    · split at h
      · obtain ⟨-, -, -, rfl⟩ := aN_inj h
        exact LeS.rf
      · cases h
    · cases h
  · split at h
    · split at h
      · obtain ⟨-, -, -, rfl⟩ := aN_inj h
        exact LeS.rf
      · cases h
    · cases h
  · split at h
    · split at h
      · obtain ⟨-, -, -, rfl⟩ := aN_inj h
        exact LeS.rf
      · cases h
    · cases h
  · split at h
    · split at h
      · obtain ⟨-, -, -, rfl⟩ := aN_inj h
        exact LeS.rf
      · cases h
    · cases h
  · split at h
    · cases h
    · split at h
      · split at h
        · split at h
          · unfold aC at h
            cases h
          · cases h
        · split at h
          · split at h
            · split at h
              · split at h
                · unfold aC at h
                  cases h
                · cases h
              · cases h
            · cases h
          · cases h
      · cases h
  · cases h
set_option maxHeartbeats 4000000 in
theorem LeS.ins {ins : Instr} (h : am_ins G i pc len ls st σ ins = some (.inl (pc', (ls', (st', σ'))))) : LeS σ σ' := by
  cases ins
  case aload_n =>
    unfold am_ins at h
    dsimp only at h
    simp only [am_ldA] at h
    repeat' split at h
    all_goals first | (cases h; done) | (unfold aT at h; cases h; done) | (obtain ⟨-, -, -, rfl⟩ := aN_inj h; first | exact LeS.rf | exact LeS.nw | exact LeS.stc)
  case aload =>
    unfold am_ins at h
    dsimp only at h
    simp only [am_ldA] at h
    repeat' split at h
    all_goals first | (cases h; done) | (unfold aT at h; cases h; done) | (obtain ⟨-, -, -, rfl⟩ := aN_inj h; first | exact LeS.rf | exact LeS.nw | exact LeS.stc)
  case iload_n =>
    unfold am_ins at h
    dsimp only at h
    simp only [am_ldI] at h
    repeat' split at h
    all_goals first | (cases h; done) | (unfold aT at h; cases h; done) | (obtain ⟨-, -, -, rfl⟩ := aN_inj h; first | exact LeS.rf | exact LeS.nw | exact LeS.stc)
  case iload =>
    unfold am_ins at h
    dsimp only at h
    simp only [am_ldI] at h
    repeat' split at h
    all_goals first | (cases h; done) | (unfold aT at h; cases h; done) | (obtain ⟨-, -, -, rfl⟩ := aN_inj h; first | exact LeS.rf | exact LeS.nw | exact LeS.stc)
  case lload_n =>
    unfold am_ins at h
    dsimp only at h
    simp only [am_ldL] at h
    repeat' split at h
    all_goals first | (cases h; done) | (unfold aT at h; cases h; done) | (obtain ⟨-, -, -, rfl⟩ := aN_inj h; first | exact LeS.rf | exact LeS.nw | exact LeS.stc)
  case lload =>
    unfold am_ins at h
    dsimp only at h
    simp only [am_ldL] at h
    repeat' split at h
    all_goals first | (cases h; done) | (unfold aT at h; cases h; done) | (obtain ⟨-, -, -, rfl⟩ := aN_inj h; first | exact LeS.rf | exact LeS.nw | exact LeS.stc)
  case dload_n =>
    unfold am_ins at h
    dsimp only at h
    simp only [am_ldD] at h
    repeat' split at h
    all_goals first | (cases h; done) | (unfold aT at h; cases h; done) | (obtain ⟨-, -, -, rfl⟩ := aN_inj h; first | exact LeS.rf | exact LeS.nw | exact LeS.stc)
  case dload =>
    unfold am_ins at h
    dsimp only at h
    simp only [am_ldD] at h
    repeat' split at h
    all_goals first | (cases h; done) | (unfold aT at h; cases h; done) | (obtain ⟨-, -, -, rfl⟩ := aN_inj h; first | exact LeS.rf | exact LeS.nw | exact LeS.stc)
  case astore_n =>
    unfold am_ins at h
    dsimp only at h
    simp only [am_stA, am_sto] at h
    repeat' split at h
    all_goals first | (cases h; done) | (unfold aT at h; cases h; done) | (obtain ⟨-, -, -, rfl⟩ := aN_inj h; first | exact LeS.rf | exact LeS.nw | exact LeS.stc)
  case astore =>
    unfold am_ins at h
    dsimp only at h
    simp only [am_stA, am_sto] at h
    repeat' split at h
    all_goals first | (cases h; done) | (unfold aT at h; cases h; done) | (obtain ⟨-, -, -, rfl⟩ := aN_inj h; first | exact LeS.rf | exact LeS.nw | exact LeS.stc)
  case istore_n =>
    unfold am_ins at h
    dsimp only at h
    simp only [am_stI, am_sto] at h
    repeat' split at h
    all_goals first | (cases h; done) | (unfold aT at h; cases h; done) | (obtain ⟨-, -, -, rfl⟩ := aN_inj h; first | exact LeS.rf | exact LeS.nw | exact LeS.stc)
  case istore =>
    unfold am_ins at h
    dsimp only at h
    simp only [am_stI, am_sto] at h
    repeat' split at h
    all_goals first | (cases h; done) | (unfold aT at h; cases h; done) | (obtain ⟨-, -, -, rfl⟩ := aN_inj h; first | exact LeS.rf | exact LeS.nw | exact LeS.stc)
  case lstore_n =>
    unfold am_ins at h
    dsimp only at h
    simp only [am_stL, am_sto] at h
    repeat' split at h
    all_goals first | (cases h; done) | (unfold aT at h; cases h; done) | (obtain ⟨-, -, -, rfl⟩ := aN_inj h; first | exact LeS.rf | exact LeS.nw | exact LeS.stc)
  case lstore =>
    unfold am_ins at h
    dsimp only at h
    simp only [am_stL, am_sto] at h
    repeat' split at h
    all_goals first | (cases h; done) | (unfold aT at h; cases h; done) | (obtain ⟨-, -, -, rfl⟩ := aN_inj h; first | exact LeS.rf | exact LeS.nw | exact LeS.stc)
  case dstore_n =>
    unfold am_ins at h
    dsimp only at h
    simp only [am_stD, am_sto] at h
    repeat' split at h
    all_goals first | (cases h; done) | (unfold aT at h; cases h; done) | (obtain ⟨-, -, -, rfl⟩ := aN_inj h; first | exact LeS.rf | exact LeS.nw | exact LeS.stc)
  case dstore =>
    unfold am_ins at h
    dsimp only at h
    simp only [am_stD, am_sto] at h
    repeat' split at h
    all_goals first | (cases h; done) | (unfold aT at h; cases h; done) | (obtain ⟨-, -, -, rfl⟩ := aN_inj h; first | exact LeS.rf | exact LeS.nw | exact LeS.stc)
  case iconst =>
    unfold am_ins at h
    dsimp only at h
    repeat' split at h
    all_goals first | (cases h; done) | (unfold aT at h; cases h; done) | (obtain ⟨-, -, -, rfl⟩ := aN_inj h; first | exact LeS.rf | exact LeS.nw | exact LeS.stc)
  case bipush =>
    unfold am_ins at h
    dsimp only at h
    repeat' split at h
    all_goals first | (cases h; done) | (unfold aT at h; cases h; done) | (obtain ⟨-, -, -, rfl⟩ := aN_inj h; first | exact LeS.rf | exact LeS.nw | exact LeS.stc)
  case sipush =>
    unfold am_ins at h
    dsimp only at h
    repeat' split at h
    all_goals first | (cases h; done) | (unfold aT at h; cases h; done) | (obtain ⟨-, -, -, rfl⟩ := aN_inj h; first | exact LeS.rf | exact LeS.nw | exact LeS.stc)
  case lconst =>
    unfold am_ins at h
    dsimp only at h
    repeat' split at h
    all_goals first | (cases h; done) | (unfold aT at h; cases h; done) | (obtain ⟨-, -, -, rfl⟩ := aN_inj h; first | exact LeS.rf | exact LeS.nw | exact LeS.stc)
  case dconst =>
    unfold am_ins at h
    dsimp only at h
    repeat' split at h
    all_goals first | (cases h; done) | (unfold aT at h; cases h; done) | (obtain ⟨-, -, -, rfl⟩ := aN_inj h; first | exact LeS.rf | exact LeS.nw | exact LeS.stc)
  case aconst_null =>
    unfold am_ins at h
    dsimp only at h
    repeat' split at h
    all_goals first | (cases h; done) | (unfold aT at h; cases h; done) | (obtain ⟨-, -, -, rfl⟩ := aN_inj h; first | exact LeS.rf | exact LeS.nw | exact LeS.stc)
  case ldc =>
    unfold am_ins at h
    dsimp only at h
    simp only [am_ldc] at h
    repeat' split at h
    all_goals first | (cases h; done) | (unfold aT at h; cases h; done) | (obtain ⟨-, -, -, rfl⟩ := aN_inj h; first | exact LeS.rf | exact LeS.nw | exact LeS.stc)
  case ldc2_w =>
    unfold am_ins at h
    dsimp only at h
    simp only [am_ldc] at h
    repeat' split at h
    all_goals first | (cases h; done) | (unfold aT at h; cases h; done) | (obtain ⟨-, -, -, rfl⟩ := aN_inj h; first | exact LeS.rf | exact LeS.nw | exact LeS.stc)
  case iadd =>
    unfold am_ins at h
    dsimp only at h
    simp only [am_bin] at h
    repeat' split at h
    all_goals first | (cases h; done) | (unfold aT at h; cases h; done) | (obtain ⟨-, -, -, rfl⟩ := aN_inj h; first | exact LeS.rf | exact LeS.nw | exact LeS.stc)
  case isub =>
    unfold am_ins at h
    dsimp only at h
    simp only [am_bin] at h
    repeat' split at h
    all_goals first | (cases h; done) | (unfold aT at h; cases h; done) | (obtain ⟨-, -, -, rfl⟩ := aN_inj h; first | exact LeS.rf | exact LeS.nw | exact LeS.stc)
  case imul =>
    unfold am_ins at h
    dsimp only at h
    simp only [am_bin] at h
    repeat' split at h
    all_goals first | (cases h; done) | (unfold aT at h; cases h; done) | (obtain ⟨-, -, -, rfl⟩ := aN_inj h; first | exact LeS.rf | exact LeS.nw | exact LeS.stc)
  case idiv =>
    unfold am_ins at h
    dsimp only at h
    simp only [am_bin] at h
    repeat' split at h
    all_goals first | (cases h; done) | (unfold aT at h; cases h; done) | (obtain ⟨-, -, -, rfl⟩ := aN_inj h; first | exact LeS.rf | exact LeS.nw | exact LeS.stc)
  case irem =>
    unfold am_ins at h
    dsimp only at h
    simp only [am_bin] at h
    repeat' split at h
    all_goals first | (cases h; done) | (unfold aT at h; cases h; done) | (obtain ⟨-, -, -, rfl⟩ := aN_inj h; first | exact LeS.rf | exact LeS.nw | exact LeS.stc)
  case iand =>
    unfold am_ins at h
    dsimp only at h
    simp only [am_bin] at h
    repeat' split at h
    all_goals first | (cases h; done) | (unfold aT at h; cases h; done) | (obtain ⟨-, -, -, rfl⟩ := aN_inj h; first | exact LeS.rf | exact LeS.nw | exact LeS.stc)
  case ishr =>
    unfold am_ins at h
    dsimp only at h
    simp only [am_bin] at h
    repeat' split at h
    all_goals first | (cases h; done) | (unfold aT at h; cases h; done) | (obtain ⟨-, -, -, rfl⟩ := aN_inj h; first | exact LeS.rf | exact LeS.nw | exact LeS.stc)
  case ladd =>
    unfold am_ins at h
    dsimp only at h
    simp only [am_binL] at h
    repeat' split at h
    all_goals first | (cases h; done) | (unfold aT at h; cases h; done) | (obtain ⟨-, -, -, rfl⟩ := aN_inj h; first | exact LeS.rf | exact LeS.nw | exact LeS.stc)
  case lsub =>
    unfold am_ins at h
    dsimp only at h
    simp only [am_binL] at h
    repeat' split at h
    all_goals first | (cases h; done) | (unfold aT at h; cases h; done) | (obtain ⟨-, -, -, rfl⟩ := aN_inj h; first | exact LeS.rf | exact LeS.nw | exact LeS.stc)
  case lmul =>
    unfold am_ins at h
    dsimp only at h
    simp only [am_binL] at h
    repeat' split at h
    all_goals first | (cases h; done) | (unfold aT at h; cases h; done) | (obtain ⟨-, -, -, rfl⟩ := aN_inj h; first | exact LeS.rf | exact LeS.nw | exact LeS.stc)
  case lshl =>
    unfold am_ins at h
    dsimp only at h
    repeat' split at h
    all_goals first | (cases h; done) | (unfold aT at h; cases h; done) | (obtain ⟨-, -, -, rfl⟩ := aN_inj h; first | exact LeS.rf | exact LeS.nw | exact LeS.stc)
  case lcmp =>
    unfold am_ins at h
    dsimp only at h
    repeat' split at h
    all_goals first | (cases h; done) | (unfold aT at h; cases h; done) | (obtain ⟨-, -, -, rfl⟩ := aN_inj h; first | exact LeS.rf | exact LeS.nw | exact LeS.stc)
  case dsub =>
    unfold am_ins at h
    dsimp only at h
    simp only [am_binD] at h
    repeat' split at h
    all_goals first | (cases h; done) | (unfold aT at h; cases h; done) | (obtain ⟨-, -, -, rfl⟩ := aN_inj h; first | exact LeS.rf | exact LeS.nw | exact LeS.stc)
  case dmul =>
    unfold am_ins at h
    dsimp only at h
    simp only [am_binD] at h
    repeat' split at h
    all_goals first | (cases h; done) | (unfold aT at h; cases h; done) | (obtain ⟨-, -, -, rfl⟩ := aN_inj h; first | exact LeS.rf | exact LeS.nw | exact LeS.stc)
  case ddiv =>
    unfold am_ins at h
    dsimp only at h
    simp only [am_binD] at h
    repeat' split at h
    all_goals first | (cases h; done) | (unfold aT at h; cases h; done) | (obtain ⟨-, -, -, rfl⟩ := aN_inj h; first | exact LeS.rf | exact LeS.nw | exact LeS.stc)
  case dcmp =>
    unfold am_ins at h
    dsimp only at h
    repeat' split at h
    all_goals first | (cases h; done) | (unfold aT at h; cases h; done) | (obtain ⟨-, -, -, rfl⟩ := aN_inj h; first | exact LeS.rf | exact LeS.nw | exact LeS.stc)
  case i2l =>
    unfold am_ins at h
    dsimp only at h
    repeat' split at h
    all_goals first | (cases h; done) | (unfold aT at h; cases h; done) | (obtain ⟨-, -, -, rfl⟩ := aN_inj h; first | exact LeS.rf | exact LeS.nw | exact LeS.stc)
  case i2d =>
    unfold am_ins at h
    dsimp only at h
    repeat' split at h
    all_goals first | (cases h; done) | (unfold aT at h; cases h; done) | (obtain ⟨-, -, -, rfl⟩ := aN_inj h; first | exact LeS.rf | exact LeS.nw | exact LeS.stc)
  case d2l =>
    unfold am_ins at h
    dsimp only at h
    repeat' split at h
    all_goals first | (cases h; done) | (unfold aT at h; cases h; done) | (obtain ⟨-, -, -, rfl⟩ := aN_inj h; first | exact LeS.rf | exact LeS.nw | exact LeS.stc)
  case i2c =>
    unfold am_ins at h
    dsimp only at h
    repeat' split at h
    all_goals first | (cases h; done) | (unfold aT at h; cases h; done) | (obtain ⟨-, -, -, rfl⟩ := aN_inj h; first | exact LeS.rf | exact LeS.nw | exact LeS.stc)
  case iinc =>
    unfold am_ins at h
    dsimp only at h
    simp only [am_sto] at h
    repeat' split at h
    all_goals first | (cases h; done) | (unfold aT at h; cases h; done) | (obtain ⟨-, -, -, rfl⟩ := aN_inj h; first | exact LeS.rf | exact LeS.nw | exact LeS.stc)
  case if_icmp =>
    unfold am_ins at h
    dsimp only at h
    repeat' split at h
    all_goals first | (cases h; done) | (unfold aT at h; cases h; done) | (obtain ⟨-, -, -, rfl⟩ := aN_inj h; first | exact LeS.rf | exact LeS.nw | exact LeS.stc)
  case ifCond =>
    unfold am_ins at h
    dsimp only at h
    repeat' split at h
    all_goals first | (cases h; done) | (unfold aT at h; cases h; done) | (obtain ⟨-, -, -, rfl⟩ := aN_inj h; first | exact LeS.rf | exact LeS.nw | exact LeS.stc)
  case goto =>
    unfold am_ins at h
    dsimp only at h
    repeat' split at h
    all_goals first | (cases h; done) | (unfold aT at h; cases h; done) | (obtain ⟨-, -, -, rfl⟩ := aN_inj h; first | exact LeS.rf | exact LeS.nw | exact LeS.stc)
  case ifnull =>
    unfold am_ins at h
    dsimp only at h
    repeat' split at h
    all_goals first | (cases h; done) | (unfold aT at h; cases h; done) | (obtain ⟨-, -, -, rfl⟩ := aN_inj h; first | exact LeS.rf | exact LeS.nw | exact LeS.stc)
  case tableswitch =>
    unfold am_ins at h
    dsimp only at h
    repeat' split at h
    all_goals first | (cases h; done) | (unfold aT at h; cases h; done) | (obtain ⟨-, -, -, rfl⟩ := aN_inj h; first | exact LeS.rf | exact LeS.nw | exact LeS.stc)
  case lookupswitch =>
    unfold am_ins at h
    dsimp only at h
    repeat' split at h
    all_goals first | (cases h; done) | (unfold aT at h; cases h; done) | (obtain ⟨-, -, -, rfl⟩ := aN_inj h; first | exact LeS.rf | exact LeS.nw | exact LeS.stc)
  case arraylength =>
    unfold am_ins at h
    dsimp only at h
    simp only [am_alen] at h
    repeat' split at h
    all_goals first | (cases h; done) | (unfold aT at h; cases h; done) | (obtain ⟨-, -, -, rfl⟩ := aN_inj h; first | exact LeS.rf | exact LeS.nw | exact LeS.stc)
  case iaload =>
    unfold am_ins at h
    dsimp only at h
    simp only [am_aldI] at h
    repeat' split at h
    all_goals first | (cases h; done) | (unfold aT at h; cases h; done) | (obtain ⟨-, -, -, rfl⟩ := aN_inj h; first | exact LeS.rf | exact LeS.nw | exact LeS.stc)
  case iastore =>
    unfold am_ins at h
    dsimp only at h
    simp only [am_astI] at h
    repeat' split at h
    all_goals first | (cases h; done) | (unfold aT at h; cases h; done) | (obtain ⟨-, -, -, rfl⟩ := aN_inj h; first | exact LeS.rf | exact LeS.nw | exact LeS.stc)
  case baload =>
    unfold am_ins at h
    dsimp only at h
    simp only [am_aldI] at h
    repeat' split at h
    all_goals first | (cases h; done) | (unfold aT at h; cases h; done) | (obtain ⟨-, -, -, rfl⟩ := aN_inj h; first | exact LeS.rf | exact LeS.nw | exact LeS.stc)
  case bastore =>
    unfold am_ins at h
    dsimp only at h
    simp only [am_astI] at h
    repeat' split at h
    all_goals first | (cases h; done) | (unfold aT at h; cases h; done) | (obtain ⟨-, -, -, rfl⟩ := aN_inj h; first | exact LeS.rf | exact LeS.nw | exact LeS.stc)
  case laload =>
    unfold am_ins at h
    dsimp only at h
    simp only [am_aldL] at h
    repeat' split at h
    all_goals first | (cases h; done) | (unfold aT at h; cases h; done) | (obtain ⟨-, -, -, rfl⟩ := aN_inj h; first | exact LeS.rf | exact LeS.nw | exact LeS.stc)
  case lastore =>
    unfold am_ins at h
    dsimp only at h
    simp only [am_astL] at h
    repeat' split at h
    all_goals first | (cases h; done) | (unfold aT at h; cases h; done) | (obtain ⟨-, -, -, rfl⟩ := aN_inj h; first | exact LeS.rf | exact LeS.nw | exact LeS.stc)
  case aaload =>
    unfold am_ins at h
    dsimp only at h
    simp only [am_aldR] at h
    repeat' split at h
    all_goals first | (cases h; done) | (unfold aT at h; cases h; done) | (obtain ⟨-, -, -, rfl⟩ := aN_inj h; first | exact LeS.rf | exact LeS.nw | exact LeS.stc)
  case aastore =>
    unfold am_ins at h
    dsimp only at h
    simp only [am_astR] at h
    repeat' split at h
    all_goals first | (cases h; done) | (unfold aT at h; cases h; done) | (obtain ⟨-, -, -, rfl⟩ := aN_inj h; first | exact LeS.rf | exact LeS.nw | exact LeS.stc)
  case newarray =>
    unfold am_ins at h
    dsimp only at h
    simp only [am_newa] at h
    repeat' split at h
    all_goals first | (cases h; done) | (unfold aT at h; cases h; done) | (obtain ⟨-, -, -, rfl⟩ := aN_inj h; first | exact LeS.rf | exact LeS.nw | exact LeS.stc)
  case anewarray =>
    unfold am_ins at h
    dsimp only at h
    simp only [am_newq] at h
    repeat' split at h
    all_goals first | (cases h; done) | (unfold aT at h; cases h; done) | (obtain ⟨-, -, -, rfl⟩ := aN_inj h; first | exact LeS.rf | exact LeS.nw | exact LeS.stc)
  case new =>
    unfold am_ins at h
    dsimp only at h
    simp only [am_new] at h
    repeat' split at h
    all_goals first | (cases h; done) | (unfold aT at h; cases h; done) | (obtain ⟨-, -, -, rfl⟩ := aN_inj h; first | exact LeS.rf | exact LeS.nw | exact LeS.stc)
  case dup =>
    unfold am_ins at h
    dsimp only at h
    repeat' split at h
    all_goals first | (cases h; done) | (unfold aT at h; cases h; done) | (obtain ⟨-, -, -, rfl⟩ := aN_inj h; first | exact LeS.rf | exact LeS.nw | exact LeS.stc)
  case pop =>
    unfold am_ins at h
    dsimp only at h
    repeat' split at h
    all_goals first | (cases h; done) | (unfold aT at h; cases h; done) | (obtain ⟨-, -, -, rfl⟩ := aN_inj h; first | exact LeS.rf | exact LeS.nw | exact LeS.stc)
  case getfield =>
    unfold am_ins at h
    dsimp only at h
    simp only [am_getf] at h
    repeat' split at h
    all_goals first | (cases h; done) | (unfold aT at h; cases h; done) | (obtain ⟨-, -, -, rfl⟩ := aN_inj h; first | exact LeS.rf | exact LeS.nw | exact LeS.stc)
  case putfield =>
    unfold am_ins at h
    dsimp only at h
    simp only [am_putf] at h
    repeat' split at h
    all_goals first | (cases h; done) | (unfold aT at h; cases h; done) | (obtain ⟨-, -, -, rfl⟩ := aN_inj h; first | exact LeS.rf | exact LeS.nw | exact LeS.stc)
  case getstatic =>
    unfold am_ins at h
    dsimp only at h
    repeat' split at h
    all_goals first | (cases h; done) | (unfold aT at h; cases h; done) | (obtain ⟨-, -, -, rfl⟩ := aN_inj h; first | exact LeS.rf | exact LeS.nw | exact LeS.stc)
  case invokevirtual =>
    unfold am_ins at h
    dsimp only at h
    split at h
    · exact LeS.inv h
    · cases h
  case invokespecial =>
    unfold am_ins at h
    dsimp only at h
    split at h
    · exact LeS.inv h
    · cases h
  case invokestatic =>
    unfold am_ins at h
    dsimp only at h
    split at h
    · exact LeS.inv h
    · cases h
  case ireturn =>
    unfold am_ins at h
    dsimp only at h
    split at h
    · exact (am_ret_not h).elim
    · cases h
  case lreturn =>
    unfold am_ins at h
    dsimp only at h
    split at h
    · exact (am_ret_not h).elim
    · cases h
  case dreturn =>
    unfold am_ins at h
    dsimp only at h
    split at h
    · exact (am_ret_not h).elim
    · cases h
  case areturn =>
    unfold am_ins at h
    dsimp only at h
    split at h
    · exact (am_ret_not h).elim
    · cases h
  case return_ =>
    unfold am_ins at h
    dsimp only at h
    split at h
    · unfold aR at h
      cases h
    · cases h
  all_goals (unfold am_ins at h; cases h)
/-- who calls: one of the three -/
theorem am_ins_call {ins : Instr} {j : Nat} {as r : List AV} (h : am_ins G i pc len ls st σ ins = some (.inr (.inl (j, (as, r))))) : ∃ sort idx, ((sort = 0 ∧ ins = .invokevirtual idx) ∨ (sort = 1 ∧ ins = .invokespecial idx) ∨ (sort = 2 ∧ ins = .invokestatic idx)) ∧ len = 3 ∧ am_invoke i pc ls st σ sort idx = some (.inr (.inl (j, (as, r)))) := by
  cases ins
  case aload_n =>
    unfold am_ins at h
    dsimp only at h
    simp only [am_ldA] at h
    repeat' split at h
    all_goals first | (cases h; done) | (unfold aN at h; cases h; done) | (unfold aT at h; cases h; done)
  case aload =>
    unfold am_ins at h
    dsimp only at h
    simp only [am_ldA] at h
    repeat' split at h
    all_goals first | (cases h; done) | (unfold aN at h; cases h; done) | (unfold aT at h; cases h; done)
  case iload_n =>
    unfold am_ins at h
    dsimp only at h
    simp only [am_ldI] at h
    repeat' split at h
    all_goals first | (cases h; done) | (unfold aN at h; cases h; done) | (unfold aT at h; cases h; done)
  case iload =>
    unfold am_ins at h
    dsimp only at h
    simp only [am_ldI] at h
    repeat' split at h
    all_goals first | (cases h; done) | (unfold aN at h; cases h; done) | (unfold aT at h; cases h; done)
  case lload_n =>
    unfold am_ins at h
    dsimp only at h
    simp only [am_ldL] at h
    repeat' split at h
    all_goals first | (cases h; done) | (unfold aN at h; cases h; done) | (unfold aT at h; cases h; done)
  case lload =>
    unfold am_ins at h
    dsimp only at h
    simp only [am_ldL] at h
    repeat' split at h
    all_goals first | (cases h; done) | (unfold aN at h; cases h; done) | (unfold aT at h; cases h; done)
  case dload_n =>
    unfold am_ins at h
    dsimp only at h
    simp only [am_ldD] at h
    repeat' split at h
    all_goals first | (cases h; done) | (unfold aN at h; cases h; done) | (unfold aT at h; cases h; done)
  case dload =>
    unfold am_ins at h
    dsimp only at h
    simp only [am_ldD] at h
    repeat' split at h
    all_goals first | (cases h; done) | (unfold aN at h; cases h; done) | (unfold aT at h; cases h; done)
  case astore_n =>
    unfold am_ins at h
    dsimp only at h
    simp only [am_stA, am_sto] at h
    repeat' split at h
    all_goals first | (cases h; done) | (unfold aN at h; cases h; done) | (unfold aT at h; cases h; done)
  case astore =>
    unfold am_ins at h
    dsimp only at h
    simp only [am_stA, am_sto] at h
    repeat' split at h
    all_goals first | (cases h; done) | (unfold aN at h; cases h; done) | (unfold aT at h; cases h; done)
  case istore_n =>
    unfold am_ins at h
    dsimp only at h
    simp only [am_stI, am_sto] at h
    repeat' split at h
    all_goals first | (cases h; done) | (unfold aN at h; cases h; done) | (unfold aT at h; cases h; done)
  case istore =>
    unfold am_ins at h
    dsimp only at h
    simp only [am_stI, am_sto] at h
    repeat' split at h
    all_goals first | (cases h; done) | (unfold aN at h; cases h; done) | (unfold aT at h; cases h; done)
  case lstore_n =>
    unfold am_ins at h
    dsimp only at h
    simp only [am_stL, am_sto] at h
    repeat' split at h
    all_goals first | (cases h; done) | (unfold aN at h; cases h; done) | (unfold aT at h; cases h; done)
  case lstore =>
    unfold am_ins at h
    dsimp only at h
    simp only [am_stL, am_sto] at h
    repeat' split at h
    all_goals first | (cases h; done) | (unfold aN at h; cases h; done) | (unfold aT at h; cases h; done)
  case dstore_n =>
    unfold am_ins at h
    dsimp only at h
    simp only [am_stD, am_sto] at h
    repeat' split at h
    all_goals first | (cases h; done) | (unfold aN at h; cases h; done) | (unfold aT at h; cases h; done)
  case dstore =>
    unfold am_ins at h
    dsimp only at h
    simp only [am_stD, am_sto] at h
    repeat' split at h
    all_goals first | (cases h; done) | (unfold aN at h; cases h; done) | (unfold aT at h; cases h; done)
  case iconst =>
    unfold am_ins at h
    dsimp only at h
    repeat' split at h
    all_goals first | (cases h; done) | (unfold aN at h; cases h; done) | (unfold aT at h; cases h; done)
  case bipush =>
    unfold am_ins at h
    dsimp only at h
    repeat' split at h
    all_goals first | (cases h; done) | (unfold aN at h; cases h; done) | (unfold aT at h; cases h; done)
  case sipush =>
    unfold am_ins at h
    dsimp only at h
    repeat' split at h
    all_goals first | (cases h; done) | (unfold aN at h; cases h; done) | (unfold aT at h; cases h; done)
  case lconst =>
    unfold am_ins at h
    dsimp only at h
    repeat' split at h
    all_goals first | (cases h; done) | (unfold aN at h; cases h; done) | (unfold aT at h; cases h; done)
  case dconst =>
    unfold am_ins at h
    dsimp only at h
    repeat' split at h
    all_goals first | (cases h; done) | (unfold aN at h; cases h; done) | (unfold aT at h; cases h; done)
  case aconst_null =>
    unfold am_ins at h
    dsimp only at h
    repeat' split at h
    all_goals first | (cases h; done) | (unfold aN at h; cases h; done) | (unfold aT at h; cases h; done)
  case ldc =>
    unfold am_ins at h
    dsimp only at h
    simp only [am_ldc] at h
    repeat' split at h
    all_goals first | (cases h; done) | (unfold aN at h; cases h; done) | (unfold aT at h; cases h; done)
  case ldc2_w =>
    unfold am_ins at h
    dsimp only at h
    simp only [am_ldc] at h
    repeat' split at h
    all_goals first | (cases h; done) | (unfold aN at h; cases h; done) | (unfold aT at h; cases h; done)
  case iadd =>
    unfold am_ins at h
    dsimp only at h
    simp only [am_bin] at h
    repeat' split at h
    all_goals first | (cases h; done) | (unfold aN at h; cases h; done) | (unfold aT at h; cases h; done)
  case isub =>
    unfold am_ins at h
    dsimp only at h
    simp only [am_bin] at h
    repeat' split at h
    all_goals first | (cases h; done) | (unfold aN at h; cases h; done) | (unfold aT at h; cases h; done)
  case imul =>
    unfold am_ins at h
    dsimp only at h
    simp only [am_bin] at h
    repeat' split at h
    all_goals first | (cases h; done) | (unfold aN at h; cases h; done) | (unfold aT at h; cases h; done)
  case idiv =>
    unfold am_ins at h
    dsimp only at h
    simp only [am_bin] at h
    repeat' split at h
    all_goals first | (cases h; done) | (unfold aN at h; cases h; done) | (unfold aT at h; cases h; done)
  case irem =>
    unfold am_ins at h
    dsimp only at h
    simp only [am_bin] at h
    repeat' split at h
    all_goals first | (cases h; done) | (unfold aN at h; cases h; done) | (unfold aT at h; cases h; done)
  case iand =>
    unfold am_ins at h
    dsimp only at h
    simp only [am_bin] at h
    repeat' split at h
    all_goals first | (cases h; done) | (unfold aN at h; cases h; done) | (unfold aT at h; cases h; done)
  case ishr =>
    unfold am_ins at h
    dsimp only at h
    simp only [am_bin] at h
    repeat' split at h
    all_goals first | (cases h; done) | (unfold aN at h; cases h; done) | (unfold aT at h; cases h; done)
  case ladd =>
    unfold am_ins at h
    dsimp only at h
    simp only [am_binL] at h
    repeat' split at h
    all_goals first | (cases h; done) | (unfold aN at h; cases h; done) | (unfold aT at h; cases h; done)
  case lsub =>
    unfold am_ins at h
    dsimp only at h
    simp only [am_binL] at h
    repeat' split at h
    all_goals first | (cases h; done) | (unfold aN at h; cases h; done) | (unfold aT at h; cases h; done)
  case lmul =>
    unfold am_ins at h
    dsimp only at h
    simp only [am_binL] at h
    repeat' split at h
    all_goals first | (cases h; done) | (unfold aN at h; cases h; done) | (unfold aT at h; cases h; done)
  case lshl =>
    unfold am_ins at h
    dsimp only at h
    repeat' split at h
    all_goals first | (cases h; done) | (unfold aN at h; cases h; done) | (unfold aT at h; cases h; done)
  case lcmp =>
    unfold am_ins at h
    dsimp only at h
    repeat' split at h
    all_goals first | (cases h; done) | (unfold aN at h; cases h; done) | (unfold aT at h; cases h; done)
  case dsub =>
    unfold am_ins at h
    dsimp only at h
    simp only [am_binD] at h
    repeat' split at h
    all_goals first | (cases h; done) | (unfold aN at h; cases h; done) | (unfold aT at h; cases h; done)
  case dmul =>
    unfold am_ins at h
    dsimp only at h
    simp only [am_binD] at h
    repeat' split at h
    all_goals first | (cases h; done) | (unfold aN at h; cases h; done) | (unfold aT at h; cases h; done)
  case ddiv =>
    unfold am_ins at h
    dsimp only at h
    simp only [am_binD] at h
    repeat' split at h
    all_goals first | (cases h; done) | (unfold aN at h; cases h; done) | (unfold aT at h; cases h; done)
  case dcmp =>
    unfold am_ins at h
    dsimp only at h
    repeat' split at h
    all_goals first | (cases h; done) | (unfold aN at h; cases h; done) | (unfold aT at h; cases h; done)
  case i2l =>
    unfold am_ins at h
    dsimp only at h
    repeat' split at h
    all_goals first | (cases h; done) | (unfold aN at h; cases h; done) | (unfold aT at h; cases h; done)
  case i2d =>
    unfold am_ins at h
    dsimp only at h
    repeat' split at h
    all_goals first | (cases h; done) | (unfold aN at h; cases h; done) | (unfold aT at h; cases h; done)
  case d2l =>
    unfold am_ins at h
    dsimp only at h
    repeat' split at h
    all_goals first | (cases h; done) | (unfold aN at h; cases h; done) | (unfold aT at h; cases h; done)
  case i2c =>
    unfold am_ins at h
    dsimp only at h
    repeat' split at h
    all_goals first | (cases h; done) | (unfold aN at h; cases h; done) | (unfold aT at h; cases h; done)
  case iinc =>
    unfold am_ins at h
    dsimp only at h
    simp only [am_sto] at h
    repeat' split at h
    all_goals first | (cases h; done) | (unfold aN at h; cases h; done) | (unfold aT at h; cases h; done)
  case if_icmp =>
    unfold am_ins at h
    dsimp only at h
    repeat' split at h
    all_goals first | (cases h; done) | (unfold aN at h; cases h; done) | (unfold aT at h; cases h; done)
  case ifCond =>
    unfold am_ins at h
    dsimp only at h
    repeat' split at h
    all_goals first | (cases h; done) | (unfold aN at h; cases h; done) | (unfold aT at h; cases h; done)
  case goto =>
    unfold am_ins at h
    dsimp only at h
    repeat' split at h
    all_goals first | (cases h; done) | (unfold aN at h; cases h; done) | (unfold aT at h; cases h; done)
  case ifnull =>
    unfold am_ins at h
    dsimp only at h
    repeat' split at h
    all_goals first | (cases h; done) | (unfold aN at h; cases h; done) | (unfold aT at h; cases h; done)
  case tableswitch =>
    unfold am_ins at h
    dsimp only at h
    repeat' split at h
    all_goals first | (cases h; done) | (unfold aN at h; cases h; done) | (unfold aT at h; cases h; done)
  case lookupswitch =>
    unfold am_ins at h
    dsimp only at h
    repeat' split at h
    all_goals first | (cases h; done) | (unfold aN at h; cases h; done) | (unfold aT at h; cases h; done)
  case arraylength =>
    unfold am_ins at h
    dsimp only at h
    simp only [am_alen] at h
    repeat' split at h
    all_goals first | (cases h; done) | (unfold aN at h; cases h; done) | (unfold aT at h; cases h; done)
  case iaload =>
    unfold am_ins at h
    dsimp only at h
    simp only [am_aldI] at h
    repeat' split at h
    all_goals first | (cases h; done) | (unfold aN at h; cases h; done) | (unfold aT at h; cases h; done)
  case iastore =>
    unfold am_ins at h
    dsimp only at h
    simp only [am_astI] at h
    repeat' split at h
    all_goals first | (cases h; done) | (unfold aN at h; cases h; done) | (unfold aT at h; cases h; done)
  case baload =>
    unfold am_ins at h
    dsimp only at h
    simp only [am_aldI] at h
    repeat' split at h
    all_goals first | (cases h; done) | (unfold aN at h; cases h; done) | (unfold aT at h; cases h; done)
  case bastore =>
    unfold am_ins at h
    dsimp only at h
    simp only [am_astI] at h
    repeat' split at h
    all_goals first | (cases h; done) | (unfold aN at h; cases h; done) | (unfold aT at h; cases h; done)
  case laload =>
    unfold am_ins at h
    dsimp only at h
    simp only [am_aldL] at h
    repeat' split at h
    all_goals first | (cases h; done) | (unfold aN at h; cases h; done) | (unfold aT at h; cases h; done)
  case lastore =>
    unfold am_ins at h
    dsimp only at h
    simp only [am_astL] at h
    repeat' split at h
    all_goals first | (cases h; done) | (unfold aN at h; cases h; done) | (unfold aT at h; cases h; done)
  case aaload =>
    unfold am_ins at h
    dsimp only at h
    simp only [am_aldR] at h
    repeat' split at h
    all_goals first | (cases h; done) | (unfold aN at h; cases h; done) | (unfold aT at h; cases h; done)
  case aastore =>
    unfold am_ins at h
    dsimp only at h
    simp only [am_astR] at h
    repeat' split at h
    all_goals first | (cases h; done) | (unfold aN at h; cases h; done) | (unfold aT at h; cases h; done)
  case newarray =>
    unfold am_ins at h
    dsimp only at h
    simp only [am_newa] at h
    repeat' split at h
    all_goals first | (cases h; done) | (unfold aN at h; cases h; done) | (unfold aT at h; cases h; done)
  case anewarray =>
    unfold am_ins at h
    dsimp only at h
    simp only [am_newq] at h
    repeat' split at h
    all_goals first | (cases h; done) | (unfold aN at h; cases h; done) | (unfold aT at h; cases h; done)
  case new =>
    unfold am_ins at h
    dsimp only at h
    simp only [am_new] at h
    repeat' split at h
    all_goals first | (cases h; done) | (unfold aN at h; cases h; done) | (unfold aT at h; cases h; done)
  case dup =>
    unfold am_ins at h
    dsimp only at h
    repeat' split at h
    all_goals first | (cases h; done) | (unfold aN at h; cases h; done) | (unfold aT at h; cases h; done)
  case pop =>
    unfold am_ins at h
    dsimp only at h
    repeat' split at h
    all_goals first | (cases h; done) | (unfold aN at h; cases h; done) | (unfold aT at h; cases h; done)
  case getfield =>
    unfold am_ins at h
    dsimp only at h
    simp only [am_getf] at h
    repeat' split at h
    all_goals first | (cases h; done) | (unfold aN at h; cases h; done) | (unfold aT at h; cases h; done)
  case putfield =>
    unfold am_ins at h
    dsimp only at h
    simp only [am_putf] at h
    repeat' split at h
    all_goals first | (cases h; done) | (unfold aN at h; cases h; done) | (unfold aT at h; cases h; done)
  case getstatic =>
    unfold am_ins at h
    dsimp only at h
    repeat' split at h
    all_goals first | (cases h; done) | (unfold aN at h; cases h; done) | (unfold aT at h; cases h; done)
  case invokevirtual idx =>
    unfold am_ins at h
    dsimp only at h
    split at h
    · rename_i hlen
      exact ⟨0, idx, Or.inl ⟨rfl, rfl⟩, hlen, h⟩
    · cases h
  case invokespecial idx =>
    unfold am_ins at h
    dsimp only at h
    split at h
    · rename_i hlen
      exact ⟨1, idx, Or.inr (Or.inl ⟨rfl, rfl⟩), hlen, h⟩
    · cases h
  case invokestatic idx =>
    unfold am_ins at h
    dsimp only at h
    split at h
    · rename_i hlen
      exact ⟨2, idx, Or.inr (Or.inr ⟨rfl, rfl⟩), hlen, h⟩
    · cases h
  case ireturn =>
    unfold am_ins at h
    dsimp only at h
    split at h
    · obtain ⟨v, hv⟩ := LeS.ret h
      cases hv
    · cases h
  case lreturn =>
    unfold am_ins at h
    dsimp only at h
    split at h
    · obtain ⟨v, hv⟩ := LeS.ret h
      cases hv
    · cases h
  case dreturn =>
    unfold am_ins at h
    dsimp only at h
    split at h
    · obtain ⟨v, hv⟩ := LeS.ret h
      cases hv
    · cases h
  case areturn =>
    unfold am_ins at h
    dsimp only at h
    split at h
    · obtain ⟨v, hv⟩ := LeS.ret h
      cases hv
    · cases h
  case return_ =>
    unfold am_ins at h
    dsimp only at h
    split at h
    · unfold aR at h
      cases h
    · cases h
  all_goals (unfold am_ins at h; cases h)
end SN7
