/-! one instruction of the mini machine that neither branches nor calls -/
abbrev JT : Type := Nat × List (Option Value) × List Value × MH
abbrev JI : Type := Instr × Nat × Nat
def lenI : Instr → Nat
  | .bipush _ => 2
  | .sipush _ => 3
  | .iload _ => 2
  | .aload _ => 2
  | .lload _ => 2
  | .fload _ => 2
  | .dload _ => 2
  | .istore _ => 2
  | .astore _ => 2
  | .lstore _ => 2
  | .fstore _ => 2
  | .dstore _ => 2
  | .iinc _ _ => 3
  | .goto _ => 3
  | .getfield _ => 3
  | .putfield _ => 3
  | _ => 1
def inB (i : Int32) (n : Nat) : Bool := decide (0 ≤ i.toInt) && decide (i.toInt < (n : Int))
theorem inB_vp {i : Int32} {n : Nat} (h : inB i n = true) : vp_in i n := by
  simp only [inB, Bool.and_eq_true, decide_eq_true_eq] at h
  exact vp_in_iff.mpr h
def setI (h : MH) (a k : Nat) (x : Int32) : MH := (zN h, zS h, up2 (zI h) a k x, zL h, zD h)
def setL (h : MH) (a k : Nat) (x : Int64) : MH := (zN h, zS h, zI h, up2 (zL h) a k x, zD h)
def setD (h : MH) (a k : Nat) (x : UInt64) : MH := (zN h, zS h, zI h, zL h, up2 (zD h) a k x)
def setF (h : MH) (a : Nat) (s : JS) : MH := (zN h, upS (zS h) a s, zI h, zL h, zD h)
def alen (s : JS) : Option Nat := match s with
  | .inl (ty, n) => match ty with
    | .int => some n
    | .char => some n
    | .byte => some n
    | _ => none
  | .inr (ci, fs) => if ci = 999 then some fs.length else none
def stepI (ins : Instr) (ci k : Nat) (pc : Nat) (ls : List (Option Value)) (st : List Value) (h : MH) : Option JT := match ins with
  | .iconst n => some (pc + 1, ls, .int (Int32.ofInt n) :: st, h)
  | .bipush n => some (pc + 2, ls, .int (Int8.ofInt n).toInt32 :: st, h)
  | .sipush n => some (pc + 3, ls, .int (Int16.ofInt n).toInt32 :: st, h)
  | .lconst n => some (pc + 1, ls, .long (Int64.ofNat n) :: st, h)
  | .aconst_null => some (pc + 1, ls, .null :: st, h)
  | .iload_n i => match ld ls i with
    | some (.int x) => some (pc + 1, ls, .int x :: st, h)
    | _ => none
  | .iload i => match ld ls i with
    | some (.int x) => some (pc + 2, ls, .int x :: st, h)
    | _ => none
  | .aload_n i => match ld ls i with
    | some (.ref x) => some (pc + 1, ls, .ref x :: st, h)
    | some .null => some (pc + 1, ls, .null :: st, h)
    | _ => none
  | .aload i => match ld ls i with
    | some (.ref x) => some (pc + 2, ls, .ref x :: st, h)
    | some .null => some (pc + 2, ls, .null :: st, h)
    | _ => none
  | .lload_n i => match ld ls i with
    | some (.long x) => some (pc + 1, ls, .long x :: st, h)
    | _ => none
  | .lload i => match ld ls i with
    | some (.long x) => some (pc + 2, ls, .long x :: st, h)
    | _ => none
  | .dload_n i => match ld ls i with
    | some (.double x) => some (pc + 1, ls, .double x :: st, h)
    | _ => none
  | .dload i => match ld ls i with
    | some (.double x) => some (pc + 2, ls, .double x :: st, h)
    | _ => none
  | .fload_n i => match ld ls i with
    | some (.float x) => some (pc + 1, ls, .float x :: st, h)
    | _ => none
  | .fload i => match ld ls i with
    | some (.float x) => some (pc + 2, ls, .float x :: st, h)
    | _ => none
  | .istore_n i => match st with
    | .int x :: st => (st1 ls i (.int x)).map fun ls => (pc + 1, ls, st, h)
    | _ => none
  | .istore i => match st with
    | .int x :: st => (st1 ls i (.int x)).map fun ls => (pc + 2, ls, st, h)
    | _ => none
  | .astore_n i => match st with
    | .ref x :: st => (st1 ls i (.ref x)).map fun ls => (pc + 1, ls, st, h)
    | .null :: st => (st1 ls i .null).map fun ls => (pc + 1, ls, st, h)
    | _ => none
  | .astore i => match st with
    | .ref x :: st => (st1 ls i (.ref x)).map fun ls => (pc + 2, ls, st, h)
    | .null :: st => (st1 ls i .null).map fun ls => (pc + 2, ls, st, h)
    | _ => none
  | .lstore_n i => match st with
    | .long x :: st => (st2 ls i (.long x)).map fun ls => (pc + 1, ls, st, h)
    | _ => none
  | .lstore i => match st with
    | .long x :: st => (st2 ls i (.long x)).map fun ls => (pc + 2, ls, st, h)
    | _ => none
  | .dstore_n i => match st with
    | .double x :: st => (st2 ls i (.double x)).map fun ls => (pc + 1, ls, st, h)
    | _ => none
  | .dstore i => match st with
    | .double x :: st => (st2 ls i (.double x)).map fun ls => (pc + 2, ls, st, h)
    | _ => none
  | .fstore i => match st with
    | .float x :: st => (st1 ls i (.float x)).map fun ls => (pc + 2, ls, st, h)
    | _ => none
  | .fstore_n i => match st with
    | .float x :: st => (st1 ls i (.float x)).map fun ls => (pc + 1, ls, st, h)
    | _ => none
  | .iinc i n => match ld ls i with
    | some (.int x) => (st1 ls i (.int (x + Int32.ofInt n))).map fun ls => (pc + 3, ls, st, h)
    | _ => none
  | .iadd => match st with
    | .int y :: .int x :: st => some (pc + 1, ls, .int (x + y) :: st, h)
    | _ => none
  | .isub => match st with
    | .int y :: .int x :: st => some (pc + 1, ls, .int (x - y) :: st, h)
    | _ => none
  | .imul => match st with
    | .int y :: .int x :: st => some (pc + 1, ls, .int (x * y) :: st, h)
    | _ => none
  | .iand => match st with
    | .int y :: .int x :: st => some (pc + 1, ls, .int (x &&& y) :: st, h)
    | _ => none
  | .ixor => match st with
    | .int y :: .int x :: st => some (pc + 1, ls, .int (x ^^^ y) :: st, h)
    | _ => none
  | .ineg => match st with
    | .int x :: st => some (pc + 1, ls, .int (-x) :: st, h)
    | _ => none
  | .ishl => match st with
    | .int y :: .int x :: st => some (pc + 1, ls, .int (x <<< (y &&& 31)) :: st, h)
    | _ => none
  | .ishr => match st with
    | .int y :: .int x :: st => some (pc + 1, ls, .int (x >>> (y &&& 31)) :: st, h)
    | _ => none
  | .i2l => match st with
    | .int x :: st => some (pc + 1, ls, .long x.toInt64 :: st, h)
    | _ => none
  | .i2c => match st with
    | .int x :: st => some (pc + 1, ls, .int (x.toUInt32 % 65536).toInt32 :: st, h)
    | _ => none
  | .i2b => match st with
    | .int x :: st => some (pc + 1, ls, .int x.toInt8.toInt32 :: st, h)
    | _ => none
  | .ladd => match st with
    | .long y :: .long x :: st => some (pc + 1, ls, .long (x + y) :: st, h)
    | _ => none
  | .lcmp => match st with
    | .long y :: .long x :: st => some (pc + 1, ls, .int (lg_cmp x y) :: st, h)
    | _ => none
  | .i2d => match st with
    | .int x :: st => some (pc + 1, ls, .double (FP.i2d x) :: st, h)
    | _ => none
  | .l2d => match st with
    | .long x :: st => some (pc + 1, ls, .double (FP.l2d x) :: st, h)
    | _ => none
  | .i2f => match st with
    | .int x :: st => some (pc + 1, ls, .float (FP.i2f x) :: st, h)
    | _ => none
  | .dcmp op => match st with
    | .double y :: .double x :: st => some (pc + 1, ls, .int (Op.cmpValue (FP.dcmp x y) op) :: st, h)
    | _ => none
  | .fcmp op => match st with
    | .float y :: .float x :: st => some (pc + 1, ls, .int (Op.cmpValue (FP.fcmp x y) op) :: st, h)
    | _ => none
  | .dup => match st with
    | .int x :: st => some (pc + 1, ls, .int x :: .int x :: st, h)
    | .ref x :: st => some (pc + 1, ls, .ref x :: .ref x :: st, h)
    | _ => none
  | .pop => match st with
    | .int _ :: st => some (pc + 1, ls, st, h)
    | .ref _ :: st => some (pc + 1, ls, st, h)
    | _ => none
  | .dup2 => match st with
    | .int x :: .ref y :: st => some (pc + 1, ls, .int x :: .ref y :: .int x :: .ref y :: st, h)
    | _ => none
  | .goto off => match (pc : Int) + off with
    | .ofNat t => some (t, ls, st, h)
    | _ => none
  | .arraylength => match st with
    | .ref a :: st => match zS h a with
      | some s => match alen s with
        | some n => some (pc + 1, ls, .int (Int32.ofNat n) :: st, h)
        | none => none
      | none => none
    | _ => none
  | .iaload => match st with
    | .int i :: .ref a :: st => match zS h a with
      | some (.inl (.int, n)) => if inB i n then some (pc + 1, ls, .int (zI h a i.toNatClampNeg) :: st, h) else none
      | _ => none
    | _ => none
  | .getfield _ => match st with
    | .ref a :: st => match zS h a with
      | some (.inr (c, fs)) => if c = ci then (match fs[k]? with
        | some f => some (pc + 3, ls, fV h a k f :: st, h)
        | none => none) else none
      | _ => none
    | _ => none
  | .putfield _ => match st with
    | .int x :: .ref a :: st => match zS h a with
      | some (.inr (c, fs)) => if c = ci then (match fs[k]? with
        | some (.inr false) => some (pc + 3, ls, st, setI h a k x)
        | _ => none) else none
      | _ => none
    | _ => none
  | _ => none
/-- a field that may be written: not final, an int -/
def FP0 (own : String) (idx ci k : Nat) : Prop := ∃ (C : String) (T : u_T) (N : Nat) (ty : Nat → FieldType), CI ci C T N ty ∧ k < N ∧ Cond.fieldLink own idx (T k).1 (T k).2.1 (T k).2.2.1 ∈ BW ∧ (T k).2.2.2 = false ∧ ty k = .int
/-- what is to be known of an instruction's links -/
def LK (own : String) (q : JI) : Prop := match q.1 with
  | .getfield i => FL own i q.2.1 q.2.2
  | .putfield i => FP0 own i q.2.1 q.2.2
  | _ => True
