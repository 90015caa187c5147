/-! THE ABSTRACT MACHINE: a pure run of the decoded bytes over ints, longs, doubles and addresses; a heap of contents by address.
 G 0: the first address that may be written; G 1 ..: what static fields and text constants hold. -/
abbrev AV : Type := Int ⊕ (Int64 ⊕ (UInt64 ⊕ Option Nat))
def vI (i : Int) : AV := .inl i
def vL (x : Int64) : AV := .inr (.inl x)
def vD (x : UInt64) : AV := .inr (.inr (.inl x))
def vR (a : Nat) : AV := .inr (.inr (.inr (some a)))
def vN : AV := .inr (.inr (.inr none))
abbrev AO : Type := (Nat × List AV) ⊕ ((Nat × Nat × (Nat → Int)) ⊕ ((Nat × (Nat → Int64)) ⊕ (Nat × (Nat → Option Nat))))
/-- an object of a class, by its fields -/
def oC (ci : Nat) (fs : List AV) : AO := .inl (ci, fs)
/-- an array: tag 0 int, 1 boolean, 2 int that is read only, 3 byte that is read only -/
def oI (t n : Nat) (f : Nat → Int) : AO := .inr (.inl (t, n, f))
def oL (n : Nat) (f : Nat → Int64) : AO := .inr (.inr (.inl (n, f)))
def oR (n : Nat) (f : Nat → Option Nat) : AO := .inr (.inr (.inr (n, f)))
/-- heap; the next address (0: not known any more); cells and slots made so far -/
abbrev AS : Type := (Nat → Option AO) × (Nat × (Nat × Nat))
def am_up (h : Nat → Option AO) (a : Nat) (o : AO) : Nat → Option AO := fun b => if b = a then some o else h b
/-- a cell's content changed -/
def am_st (σ : AS) (a : Nat) (o : AO) : AS := (am_up σ.1 a o, σ.2)
/-- a new cell of k slots -/
def am_nw (σ : AS) (o : AO) (k : Nat) : AS := (am_up σ.1 σ.2.1 o, (σ.2.1 + 1, (σ.2.2.1 + 1, σ.2.2.2 + k)))
/-- an exception was made -/
def am_th (σ : AS) : AS := (σ.1, (0, (σ.2.2.1 + 1, σ.2.2.2 + 6)))
def upI (f : Nat → Int) (k : Nat) (x : Int) : Nat → Int := fun j => if j = k then x else f j
def upL (f : Nat → Int64) (k : Nat) (x : Int64) : Nat → Int64 := fun j => if j = k then x else f j
def upR (f : Nat → Option Nat) (k : Nat) (x : Option Nat) : Nat → Option Nat := fun j => if j = k then x else f j
def am_cat : AV → Nat
  | .inl _ => 1
  | .inr (.inl _) => 2
  | .inr (.inr (.inl _)) => 2
  | .inr (.inr (.inr _)) => 1
def am_cats : List AV → Nat
  | [] => 0
  | v :: l => am_cat v + am_cats l
abbrev inR (i : Int) : Prop := -2147483648 ≤ i ∧ i ≤ 2147483647
abbrev AL : Type := List (Option AV)
def am_get (ls : AL) (k : Nat) : Option AV := match ls[k]? with
  | some (some v) => some v
  | _ => none
/-- the slot ahead of k holds no long -/
def am_pre (ls : AL) (k : Nat) : Bool := match k with
  | 0 => true
  | k + 1 => match am_get ls k with
    | some v => am_cat v == 1
    | none => true
def am_set1 (ls : AL) (k : Nat) (v : AV) : Option AL := if decide (k < ls.length) && am_pre ls k then some (ls.set k (some v)) else none
def am_set2 (ls : AL) (k : Nat) (v : AV) : Option AL := if decide (k + 1 < ls.length) && am_pre ls k then some ((ls.set k (some v)).set (k + 1) none) else none
/-- the locals at a method's entry -/
def am_flat : List AV → AL
  | [] => []
  | v :: l => if am_cat v = 2 then some v :: none :: am_flat l else some v :: am_flat l
def am_ini (as : List AV) (n : Nat) : AL := am_flat as ++ List.replicate (n - (am_flat as).length) none
/-- what an instruction does: go on; call; return; throw -/
abbrev Act : Type := (Nat × (AL × (List AV × AS))) ⊕ ((Nat × (List AV × List AV)) ⊕ (Option AV ⊕ (Nat × AS)))
def aN (pc : Nat) (ls : AL) (st : List AV) (σ : AS) : Option Act := some (.inl (pc, (ls, (st, σ))))
def aC (j : Nat) (as rest : List AV) : Option Act := some (.inr (.inl (j, (as, rest))))
def aR (v : Option AV) : Option Act := some (.inr (.inr (.inl v)))
def aT (x : Nat) (σ : AS) : Option Act := some (.inr (.inr (.inr (x, σ))))
def am_tgt (pc : Nat) (off : Int) : Nat := ((pc : Int) + off).toNat
def am_cmp : ClassFile.Cond → Int → Int → Bool
  | .eq, a, b => decide (a = b)
  | .ne, a, b => decide (a ≠ b)
  | .lt, a, b => decide (a < b)
  | .ge, a, b => decide (b ≤ a)
  | .gt, a, b => decide (b < a)
  | .le, a, b => decide (a ≤ b)
/-- two ints off the stack, one onto it -/
def am_bin (pc : Nat) (ls : AL) (st : List AV) (σ : AS) (f : Int → Int → Option Int) : Option Act := match st with
  | .inl b :: .inl a :: r => match f a b with
    | some x => aN (pc + 1) ls (.inl x :: r) σ
    | none => none
  | _ => none
def am_binL (pc : Nat) (ls : AL) (st : List AV) (σ : AS) (f : Int64 → Int64 → Int64) : Option Act := match st with
  | .inr (.inl b) :: .inr (.inl a) :: r => aN (pc + 1) ls (.inr (.inl (f a b)) :: r) σ
  | _ => none
def am_notNaN (r : UInt64) : Bool := decide (r &&& 0x7fffffffffffffff ≤ 0x7ff0000000000000)
def am_binD (pc : Nat) (ls : AL) (st : List AV) (σ : AS) (f : UInt64 → UInt64 → UInt64) : Option Act := match st with
  | .inr (.inr (.inl b)) :: .inr (.inr (.inl a)) :: r => if am_notNaN (f a b) = true then aN (pc + 1) ls (.inr (.inr (.inl (f a b))) :: r) σ else none
  | _ => none
def am_ldI (pc len : Nat) (ls : AL) (st : List AV) (σ : AS) (k : Nat) : Option Act := match am_get ls k with
  | some (.inl x) => aN (pc + len) ls (.inl x :: st) σ
  | _ => none
def am_ldL (pc len : Nat) (ls : AL) (st : List AV) (σ : AS) (k : Nat) : Option Act := match am_get ls k with
  | some (.inr (.inl x)) => aN (pc + len) ls (.inr (.inl x) :: st) σ
  | _ => none
def am_ldD (pc len : Nat) (ls : AL) (st : List AV) (σ : AS) (k : Nat) : Option Act := match am_get ls k with
  | some (.inr (.inr (.inl x))) => aN (pc + len) ls (.inr (.inr (.inl x)) :: st) σ
  | _ => none
def am_ldA (pc len : Nat) (ls : AL) (st : List AV) (σ : AS) (k : Nat) : Option Act := match am_get ls k with
  | some (.inr (.inr (.inr (some x)))) => aN (pc + len) ls (.inr (.inr (.inr (some x))) :: st) σ
  | _ => none
def am_sto (pc : Nat) (st : List AV) (σ : AS) (q : Option AL) : Option Act := match q with
  | some ls => aN pc ls st σ
  | none => none
def am_stI (pc len : Nat) (ls : AL) (st : List AV) (σ : AS) (k : Nat) : Option Act := match st with
  | .inl x :: r => am_sto (pc + len) r σ (am_set1 ls k (.inl x))
  | _ => none
def am_stL (pc len : Nat) (ls : AL) (st : List AV) (σ : AS) (k : Nat) : Option Act := match st with
  | .inr (.inl x) :: r => am_sto (pc + len) r σ (am_set2 ls k (.inr (.inl x)))
  | _ => none
def am_stD (pc len : Nat) (ls : AL) (st : List AV) (σ : AS) (k : Nat) : Option Act := match st with
  | .inr (.inr (.inl x)) :: r => am_sto (pc + len) r σ (am_set2 ls k (.inr (.inr (.inl x))))
  | _ => none
def am_stA (pc len : Nat) (ls : AL) (st : List AV) (σ : AS) (k : Nat) : Option Act := match st with
  | .inr (.inr (.inr (some x))) :: r => am_sto (pc + len) r σ (am_set1 ls k (.inr (.inr (.inr (some x)))))
  | _ => none
def am_lk {α : Type} (l : List (Nat × α)) (k : Nat) : Option α := match l with
  | [] => none
  | (a, x) :: r => if a = k then some x else am_lk r k
/-- the first n of the stack, as arguments -/
def am_tk : Nat → List AV → List AV → Option (List AV × List AV)
  | 0, st, acc => some (acc, st)
  | n + 1, v :: st, acc => am_tk n st (v :: acc)
  | _ + 1, [], _ => none
/-- boolean, byte, char: what fits a type -/
def am_fit : FieldType → AV → Bool
  | .int, .inl _ => true
  | .boolean, .inl x => decide (x = 0 ∨ x = 1)
  | .byte, .inl x => decide (-128 ≤ x ∧ x ≤ 127)
  | .char, .inl x => decide (0 ≤ x ∧ x ≤ 65535)
  | .long, .inr (.inl _) => true
  | .double, .inr (.inr (.inl _)) => true
  | .object _, .inr (.inr (.inr _)) => true
  | .array _, .inr (.inr (.inr _)) => true
  | _, _ => false
def am_dflt : FieldType → AV
  | .long => .inr (.inl 0)
  | .double => .inr (.inr (.inl 0))
  | .object _ => .inr (.inr (.inr none))
  | .array _ => .inr (.inr (.inr none))
  | _ => .inl 0
