/-! ONE STEP of the abstract machine -/
/-- a throw at pc: new X, dup, a text, its constructor, athrow -/
def am_tI : List Nat := [42, 47, 55, 62, 84, 100, 109, 121, 129, 134, 149, 170, 178, 196, 198, 227, 229, 283, 286, 288]
def am_tC (x : Nat) : Nat := match x with
  | 0 => 44
  | 1 => 57
  | _ => 285
def am_isThrow1 (i pc x : Nat) : Bool := match decode (mB i) (pc + 4) with
  | .ok (.ldc k, 2) => (match decode (mB i) (pc + 6), decode (mB i) (pc + 9) with
    | .ok (.invokespecial ic, 3), .ok (.athrow, 1) => decide (mOc i = 4 ∧ k ∈ am_tI ∧ x < 3 ∧ ic = am_tC x)
    | _, _ => false)
  | _ => false
def am_isThrow2 (i pc x : Nat) : Bool := match decode (mB i) (pc + 4) with
  | .ok (.ldc_w k, 3) => (match decode (mB i) (pc + 7), decode (mB i) (pc + 10) with
    | .ok (.invokespecial ic, 3), .ok (.athrow, 1) => decide (mOc i = 4 ∧ k ∈ am_tI ∧ x < 3 ∧ ic = am_tC x)
    | _, _ => false)
  | _ => false
def am_isThrow (i pc x : Nat) : Bool := (match decode (mB i) (pc + 3) with
  | .ok (.dup, 1) => true
  | _ => false) && (am_isThrow1 i pc x || am_isThrow2 i pc x)
def am_invoke (i pc : Nat) (ls : AL) (st : List AV) (σ : AS) (sort idx : Nat) : Option Act := match am_lk (am_cT (mOc i)) idx with
  | some (7, _) => (match st with
    | .inr (.inr (.inr (some _))) :: r => if sort = 1 ∧ 1 ≤ mF i ∧ am_cats r + 12 ≤ mL i then aN (pc + 3) ls r σ else none
    | _ => none)
  | some (8, _) => (match st with
    | .inr (.inr (.inl x)) :: r => if sort = 2 ∧ 1 ≤ mF i ∧ am_cats r + 40 ≤ mL i then aN (pc + 3) ls (.inr (.inl x.toInt64) :: r) σ else none
    | _ => none)
  | some (9, _) => (match st with
    | .inl b :: .inl a :: r => if sort = 2 ∧ inR a ∧ inR b ∧ 1 ≤ mF i ∧ am_cats r + 13 ≤ mL i then aN (pc + 3) ls (.inl (if a < b then b else a) :: r) σ else none
    | _ => none)
  | some (10, _) => (match st with
    | .inl b :: .inl a :: r => if sort = 2 ∧ inR a ∧ inR b ∧ 1 ≤ mF i ∧ am_cats r + 13 ≤ mL i then aN (pc + 3) ls (.inl (if b < a then b else a) :: r) σ else none
    | _ => none)
  | some (k, j) => (match am_tk (mN j) st [] with
    | none => none
    | some (as, r) => if mF j + 1 ≤ mF i ∧ 8 + (mX j + 11) + mL j ≤ mL i then
      (if k = 2 ∨ k = 3 ∨ k = 6 then (if sort = 2 ∧ am_cats r ≤ 8 then aC j as r else none)
       else (match r with
        | .inr (.inr (.inr (some a))) :: r => if (k = 0 ∧ sort = 0 ∨ (k = 4 ∨ k = 5) ∧ sort = 1) ∧ am_cats r ≤ 8 then
            (match σ.1 a with
            | some (.inl (ci, _)) => if ci = mOc j ∧ ci < 6 ∨ ci = 6 ∧ mOc j = 9 then aC j (.inr (.inr (.inr (some a))) :: as) r else none
            | _ => none) else none
        | _ => none)) else none)
  | none => none
def am_ldc (G : Nat → Nat) (i pc len : Nat) (ls : AL) (st : List AV) (σ : AS) (idx : Nat) : Option Act := match am_lk (am_kT (mOc i)) idx with
  | some q => if len = 2 ∧ (q.1 = 0 ∨ q.1 = 3) ∨ len = 3 ∧ (q.1 = 1 ∨ q.1 = 2) then aN (pc + len) ls (am_kv G q :: st) σ else none
  | none => none
def am_new (i pc : Nat) (ls : AL) (st : List AV) (σ : AS) (idx : Nat) : Option Act := match am_lk (am_nT (mOc i)) idx with
  | some c => if 10 ≤ c then (if am_isThrow i pc (c - 10) = true ∧ (mH i).isEmpty = true ∧ 6 ≤ mF i ∧ am_cats st + 82 ≤ mL i then aT (c - 10) (am_th σ) else none)
    else (if σ.2.1 = 0 then none else aN (pc + 3) ls (.inr (.inr (.inr (some σ.2.1))) :: st) (am_nw σ (.inl (c, (am_ty c).map am_dflt)) (am_ty c).length))
  | none => none
def am_putf (G : Nat → Nat) (i pc : Nat) (ls : AL) (st : List AV) (σ : AS) (idx : Nat) : Option Act := match st with
  | v :: .inr (.inr (.inr (some a))) :: r => (match am_lk (am_fT (mOc i)) idx, σ.1 a with
    | some (c, k), some (.inl (ci, fs)) => if ci = c ∧ G 0 ≤ a ∧ k < fs.length ∧ ((am_fin c).getD k true = false ∨ (mY i).name = "<init>" ∧ mOc i = c) then
        (match (am_ty c)[k]? with
        | some ty => if am_fit ty v = true then aN (pc + 3) ls r (am_st σ a (.inl (ci, fs.set k v))) else none
        | none => none) else none
    | _, _ => none)
  | _ => none
def am_getf (i pc : Nat) (ls : AL) (st : List AV) (σ : AS) (idx : Nat) : Option Act := match st with
  | .inr (.inr (.inr (some a))) :: r => (match am_lk (am_fT (mOc i)) idx, σ.1 a with
    | some (c, k), some (.inl (ci, fs)) => if ci = c then (match fs[k]? with
        | some v => aN (pc + 3) ls (v :: r) σ
        | none => none) else none
    | _, _ => none)
  | _ => none
def am_alen (pc : Nat) (ls : AL) (st : List AV) (σ : AS) : Option Act := match st with
  | .inr (.inr (.inr (some a))) :: r => (match σ.1 a with
    | some (.inr (.inl (_, n, _))) => aN (pc + 1) ls (.inl n :: r) σ
    | some (.inr (.inr (.inl (n, _)))) => aN (pc + 1) ls (.inl n :: r) σ
    | some (.inr (.inr (.inr (n, _)))) => aN (pc + 1) ls (.inl n :: r) σ
    | _ => none)
  | _ => none
/-- an int, boolean or byte out of an array -/
def am_aldI (pc : Nat) (ls : AL) (st : List AV) (σ : AS) (p : Nat → Bool) : Option Act := match st with
  | .inl j :: .inr (.inr (.inr (some a))) :: r => (match σ.1 a with
    | some (.inr (.inl (t, n, f))) => if p t = true ∧ 0 ≤ j ∧ j < n ∧ j ≤ 2147483647 then aN (pc + 1) ls (.inl (f j.toNat) :: r) σ else none
    | _ => none)
  | _ => none
def am_astI (G : Nat → Nat) (pc : Nat) (ls : AL) (st : List AV) (σ : AS) (q : Nat) : Option Act := match st with
  | .inl x :: .inl j :: .inr (.inr (.inr (some a))) :: r => (match σ.1 a with
    | some (.inr (.inl (t, n, f))) => if t = q ∧ G 0 ≤ a ∧ 0 ≤ j ∧ j < n ∧ j ≤ 2147483647 ∧ (q = 0 ∨ x = 0 ∨ x = 1) then aN (pc + 1) ls r (am_st σ a (.inr (.inl (t, n, upI f j.toNat x)))) else none
    | _ => none)
  | _ => none
def am_aldL (pc : Nat) (ls : AL) (st : List AV) (σ : AS) : Option Act := match st with
  | .inl j :: .inr (.inr (.inr (some a))) :: r => (match σ.1 a with
    | some (.inr (.inr (.inl (n, f)))) => if 0 ≤ j ∧ j < n ∧ j ≤ 2147483647 then aN (pc + 1) ls (.inr (.inl (f j.toNat)) :: r) σ else none
    | _ => none)
  | _ => none
def am_astL (G : Nat → Nat) (pc : Nat) (ls : AL) (st : List AV) (σ : AS) : Option Act := match st with
  | .inr (.inl x) :: .inl j :: .inr (.inr (.inr (some a))) :: r => (match σ.1 a with
    | some (.inr (.inr (.inl (n, f)))) => if G 0 ≤ a ∧ 0 ≤ j ∧ j < n ∧ j ≤ 2147483647 then aN (pc + 1) ls r (am_st σ a (.inr (.inr (.inl (n, upL f j.toNat x))))) else none
    | _ => none)
  | _ => none
def am_aldR (pc : Nat) (ls : AL) (st : List AV) (σ : AS) : Option Act := match st with
  | .inl j :: .inr (.inr (.inr (some a))) :: r => (match σ.1 a with
    | some (.inr (.inr (.inr (n, f)))) => if 0 ≤ j ∧ j < n ∧ j ≤ 2147483647 then aN (pc + 1) ls (.inr (.inr (.inr (f j.toNat))) :: r) σ else none
    | _ => none)
  | _ => none
def am_astR (G : Nat → Nat) (pc : Nat) (ls : AL) (st : List AV) (σ : AS) : Option Act := match st with
  | .inr (.inr (.inr (some x))) :: .inl j :: .inr (.inr (.inr (some a))) :: r => (match σ.1 a, σ.1 x with
    | some (.inr (.inr (.inr (n, f)))), some (.inl (ci, _)) => if ci = 1 ∧ G 0 ≤ a ∧ 0 ≤ j ∧ j < n ∧ j ≤ 2147483647 then aN (pc + 1) ls r (am_st σ a (.inr (.inr (.inr (n, upR f j.toNat (some x)))))) else none
    | _, _ => none)
  | _ => none
def am_newa (pc : Nat) (ls : AL) (st : List AV) (σ : AS) (ty : ArrayType) : Option Act := match st with
  | .inl n :: r => if σ.2.1 = 0 ∨ n < 0 ∨ 100000 < n then none else (match ty with
    | .int => aN (pc + 2) ls (.inr (.inr (.inr (some σ.2.1))) :: r) (am_nw σ (.inr (.inl (0, n.toNat, fun _ => 0))) n.toNat)
    | .boolean => aN (pc + 2) ls (.inr (.inr (.inr (some σ.2.1))) :: r) (am_nw σ (.inr (.inl (1, n.toNat, fun _ => 0))) n.toNat)
    | .long => aN (pc + 2) ls (.inr (.inr (.inr (some σ.2.1))) :: r) (am_nw σ (.inr (.inr (.inl (n.toNat, fun _ => 0)))) n.toNat)
    | _ => none)
  | _ => none
def am_newq (i pc : Nat) (ls : AL) (st : List AV) (σ : AS) (idx : Nat) : Option Act := match st with
  | .inl n :: r => if σ.2.1 = 0 ∨ n < 0 ∨ 100000 < n then none else if am_lk (am_nT (mOc i)) idx = some 1 then
      aN (pc + 3) ls (.inr (.inr (.inr (some σ.2.1))) :: r) (am_nw σ (.inr (.inr (.inr (n.toNat, fun _ => none)))) n.toNat) else none
  | _ => none
def am_ret (i : Nat) (st : List AV) (p : FieldType → Bool) : Option Act := match st, mR i with
  | [v], some ty => if p ty = true ∧ am_fit ty v = true then aR (some v) else none
  | _, _ => none
def am_isI : FieldType → Bool
  | .int => true
  | .boolean => true
  | .byte => true
  | .char => true
  | _ => false
def am_isA : FieldType → Bool
  | .object _ => true
  | .array _ => true
  | _ => false
def am_tsw (pc : Nat) (d lo hi : Int) (offs : List Int) (x : Int) : Nat := am_tgt pc (if x < lo ∨ hi < x then d else offs.getD (x - lo).toNat d)
def am_ins (G : Nat → Nat) (i pc len : Nat) (ls : AL) (st : List AV) (σ : AS) (ins : Instr) : Option Act := match ins with
  | .aload_n k => if len = 1 then am_ldA pc 1 ls st σ k else none
  | .aload k => if len = 2 then am_ldA pc 2 ls st σ k else none
  | .iload_n k => if len = 1 then am_ldI pc 1 ls st σ k else none
  | .iload k => if len = 2 then am_ldI pc 2 ls st σ k else none
  | .lload_n k => if len = 1 then am_ldL pc 1 ls st σ k else none
  | .lload k => if len = 2 then am_ldL pc 2 ls st σ k else none
  | .dload_n k => if len = 1 then am_ldD pc 1 ls st σ k else none
  | .dload k => if len = 2 then am_ldD pc 2 ls st σ k else none
  | .astore_n k => if len = 1 then am_stA pc 1 ls st σ k else none
  | .astore k => if len = 2 then am_stA pc 2 ls st σ k else none
  | .istore_n k => if len = 1 then am_stI pc 1 ls st σ k else none
  | .istore k => if len = 2 then am_stI pc 2 ls st σ k else none
  | .lstore_n k => if len = 1 then am_stL pc 1 ls st σ k else none
  | .lstore k => if len = 2 then am_stL pc 2 ls st σ k else none
  | .dstore_n k => if len = 1 then am_stD pc 1 ls st σ k else none
  | .dstore k => if len = 2 then am_stD pc 2 ls st σ k else none
  | .iconst n => if len = 1 ∧ inR n then aN (pc + 1) ls (.inl n :: st) σ else none
  | .bipush n => if len = 2 ∧ -128 ≤ n ∧ n ≤ 127 then aN (pc + 2) ls (.inl n :: st) σ else none
  | .sipush n => if len = 3 ∧ -32768 ≤ n ∧ n ≤ 32767 then aN (pc + 3) ls (.inl n :: st) σ else none
  | .lconst n => if len = 1 then aN (pc + 1) ls (.inr (.inl (Int64.ofNat (n : Nat))) :: st) σ else none
  | .dconst n => if len = 1 then aN (pc + 1) ls (.inr (.inr (.inl (if n = 0 then 0 else 4607182418800017408))) :: st) σ else none
  | .aconst_null => if len = 1 then aN (pc + 1) ls (.inr (.inr (.inr none)) :: st) σ else none
  | .ldc k => if len = 2 then am_ldc G i pc 2 ls st σ k else none
  | .ldc2_w k => if len = 3 then am_ldc G i pc 3 ls st σ k else none
  | .iadd => if len = 1 then am_bin pc ls st σ (fun a b => some (a + b)) else none
  | .isub => if len = 1 then am_bin pc ls st σ (fun a b => some (a - b)) else none
  | .imul => if len = 1 then am_bin pc ls st σ (fun a b => some (a * b)) else none
  | .idiv => if len = 1 then am_bin pc ls st σ (fun a b => if 0 ≤ a ∧ a ≤ 2147483647 ∧ 0 < b ∧ b ≤ 2147483647 then some (a / b) else none) else none
  | .irem => if len = 1 then am_bin pc ls st σ (fun a b => if 0 ≤ a ∧ a ≤ 2147483647 ∧ 0 < b ∧ b ≤ 2147483647 then some (a % b) else none) else none
  | .iand => if len = 1 then am_bin pc ls st σ (fun a b => some (Int32.ofInt a &&& Int32.ofInt b).toInt) else none
  | .ishr => if len = 1 then am_bin pc ls st σ (fun a b => some (Int32.ofInt a >>> (Int32.ofInt b &&& 31)).toInt) else none
  | .ladd => if len = 1 then am_binL pc ls st σ (fun a b => a + b) else none
  | .lsub => if len = 1 then am_binL pc ls st σ (fun a b => a - b) else none
  | .lmul => if len = 1 then am_binL pc ls st σ (fun a b => a * b) else none
  | .lshl => if len = 1 then (match st with
    | .inl b :: .inr (.inl a) :: r => aN (pc + 1) ls (.inr (.inl (a <<< ((Int32.ofInt b).toInt64 &&& 63))) :: r) σ
    | _ => none) else none
  | .lcmp => if len = 1 then (match st with
    | .inr (.inl b) :: .inr (.inl a) :: r => aN (pc + 1) ls (.inl (lg_cmp a b).toInt :: r) σ
    | _ => none) else none
  | .dsub => if len = 1 then am_binD pc ls st σ FP.dsub else none
  | .dmul => if len = 1 then am_binD pc ls st σ FP.dmul else none
  | .ddiv => if len = 1 then am_binD pc ls st σ FP.ddiv else none
  | .dcmp op => if len = 1 then (match st with
    | .inr (.inr (.inl b)) :: .inr (.inr (.inl a)) :: r => aN (pc + 1) ls (.inl (Op.cmpValue (FP.dcmp a b) op).toInt :: r) σ
    | _ => none) else none
  | .i2l => if len = 1 then (match st with
    | .inl a :: r => aN (pc + 1) ls (.inr (.inl (Int32.ofInt a).toInt64) :: r) σ
    | _ => none) else none
  | .i2d => if len = 1 then (match st with
    | .inl a :: r => aN (pc + 1) ls (.inr (.inr (.inl (FP.i2d (Int32.ofInt a)))) :: r) σ
    | _ => none) else none
  | .d2l => if len = 1 then (match st with
    | .inr (.inr (.inl a)) :: r => aN (pc + 1) ls (.inr (.inl (FP.d2l a)) :: r) σ
    | _ => none) else none
  | .i2c => if len = 1 then (match st with
    | .inl a :: r => if 0 ≤ a ∧ a ≤ 65535 then aN (pc + 1) ls (.inl a :: r) σ else none
    | _ => none) else none
  | .iinc k n => if len = 3 ∧ inR n then (match am_get ls k with
    | some (.inl x) => am_sto (pc + 3) st σ (am_set1 ls k (.inl (x + n)))
    | _ => none) else none
  | .if_icmp c off => if len = 3 ∧ 0 ≤ (pc : Int) + off then (match st with
    | .inl b :: .inl a :: r => if inR a ∧ inR b then (if am_cmp c a b = true then aN (am_tgt pc off) ls r σ else aN (pc + 3) ls r σ) else none
    | _ => none) else none
  | .ifCond c off => if len = 3 ∧ 0 ≤ (pc : Int) + off then (match st with
    | .inl a :: r => if inR a then (if am_cmp c a 0 = true then aN (am_tgt pc off) ls r σ else aN (pc + 3) ls r σ) else none
    | _ => none) else none
  | .goto off => if len = 3 ∧ 0 ≤ (pc : Int) + off then aN (am_tgt pc off) ls st σ else none
  | .ifnull off => if len = 3 ∧ 0 ≤ (pc : Int) + off then (match st with
    | .inr (.inr (.inr (some _))) :: r => aN (pc + 3) ls r σ
    | .inr (.inr (.inr none)) :: r => aN (am_tgt pc off) ls r σ
    | _ => none) else none
  | .tableswitch d lo hi offs => (match st with
    | .inl x :: r => if inR x ∧ offs.toList.length = (hi - lo + 1).toNat ∧ 0 ≤ (pc : Int) + d ∧ offs.toList.all (fun o => decide (0 ≤ (pc : Int) + o)) = true then aN (am_tsw pc d lo hi offs.toList x) ls r σ else none
    | _ => none)
  | .lookupswitch d ps => (match st with
    | .inl x :: r => if inR x ∧ 0 ≤ (pc : Int) + Op.lookupswitch.offset ps.toList d x ∧ (ps.toList.zip (ps.toList.drop 1)).all (fun (a, next) => a.1 < next.1) = true then aN (am_tgt pc (Op.lookupswitch.offset ps.toList d x)) ls r σ else none
    | _ => none)
  | .arraylength => if len = 1 then am_alen pc ls st σ else none
  | .iaload => if len = 1 then am_aldI pc ls st σ (fun t => t == 0 || t == 2) else none
  | .iastore => if len = 1 then am_astI G pc ls st σ 0 else none
  | .baload => if len = 1 then am_aldI pc ls st σ (fun t => t == 1 || t == 3) else none
  | .bastore => if len = 1 then am_astI G pc ls st σ 1 else none
  | .laload => if len = 1 then am_aldL pc ls st σ else none
  | .lastore => if len = 1 then am_astL G pc ls st σ else none
  | .aaload => if len = 1 then am_aldR pc ls st σ else none
  | .aastore => if len = 1 then am_astR G pc ls st σ else none
  | .newarray ty => if len = 2 then am_newa pc ls st σ ty else none
  | .anewarray idx => if len = 3 then am_newq i pc ls st σ idx else none
  | .new idx => if len = 3 then am_new i pc ls st σ idx else none
  | .dup => if len = 1 then (match st with
    | v :: r => if am_cat v = 1 then aN (pc + 1) ls (v :: v :: r) σ else none
    | _ => none) else none
  | .pop => if len = 1 then (match st with
    | v :: r => if am_cat v = 1 then aN (pc + 1) ls r σ else none
    | _ => none) else none
  | .getfield idx => if len = 3 then am_getf i pc ls st σ idx else none
  | .putfield idx => if len = 3 then am_putf G i pc ls st σ idx else none
  | .getstatic idx => if len = 3 then (match am_lk (am_gT (mOc i)) idx with
    | some v => aN (pc + 3) ls (am_gv G v :: st) σ
    | none => none) else none
  | .invokevirtual idx => if len = 3 then am_invoke i pc ls st σ 0 idx else none
  | .invokespecial idx => if len = 3 then am_invoke i pc ls st σ 1 idx else none
  | .invokestatic idx => if len = 3 then am_invoke i pc ls st σ 2 idx else none
  | .ireturn => if len = 1 then am_ret i st am_isI else none
  | .lreturn => if len = 1 then am_ret i st (fun t => t == .long) else none
  | .dreturn => if len = 1 then am_ret i st (fun t => t == .double) else none
  | .areturn => if len = 1 then am_ret i st am_isA else none
  | .return_ => if len = 1 ∧ st = [] ∧ mR i = none then aR none else none
  | _ => none
def am_step (G : Nat → Nat) (i pc : Nat) (ls : AL) (st : List AV) (σ : AS) : Option Act := match decode (mB i) pc with
  | .ok (ins, len) => am_ins G i pc len ls st σ ins
  | _ => none
/-- which row of the table takes it -/
def am_hnd (i : Nat) (pc x : Nat) (ls : AL) : List (Nat × Nat × Nat × Nat) → Option (Nat × AL)
  | [] => none
  | (s, e, h, c) :: r => if s ≤ pc ∧ pc < e then
      (match am_lk (am_xT (mOc i)) c with
      | some x' => if x' = x then (match decode (mB i) h with
          | .ok (.astore_n k, 1) => if (k : Nat) < ls.length ∧ am_pre ls k = true then some (h + 1, ls.set k none) else none
          | .ok (.astore k, 2) => if k < ls.length ∧ am_pre ls k = true then some (h + 2, ls.set k none) else none
          | _ => none) else am_hnd i pc x ls r
      | none => none) else am_hnd i pc x ls r
abbrev ARes : Type := (Option AV ⊕ Nat) × AS
/-- what becomes of a callee's end -/
def am_run (G : Nat → Nat) : Nat → Nat → Nat → AL → List AV → AS → Option ARes
  | 0, _, _, _, _, _ => none
  | n + 1, i, pc, ls, st, σ => match am_step G i pc ls st σ with
    | none => none
    | some (.inl (pc', (ls', (st', σ')))) => am_run G n i pc' ls' st' σ'
    | some (.inr (.inl (j, (as, r)))) => if (am_flat as).length ≤ mX j then (match am_run G n j 0 (am_ini as (mX j)) [] σ with
      | none => none
      | some (.inl v, σ') => am_run G n i (pc + 3) ls (v.toList ++ r) σ'
      | some (.inr x, σ') => (match mH i with
        | [] => some (.inr x, σ')
        | h :: t => (match am_hnd i pc x ls (h :: t) with
          | some (pc', ls') => am_run G n i pc' ls' [] σ'
          | none => none))) else none
    | some (.inr (.inr (.inl v))) => some (.inl v, σ)
    | some (.inr (.inr (.inr (x, σ')))) => some (.inr x, σ')
