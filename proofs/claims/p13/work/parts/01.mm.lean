/-! THE SMALL MACHINE: a store of cells by number (cell k is the ref k + 1; ref 0 is the script), frames of named locals, an interpreter with fuel. Pure: nothing of the JVM's state stands in it. -/
abbrev MC : Type := (Nat × vp_A) ⊕ (Nat × List Value)
abbrev MLv : Type := List (Nat × Value)
/-- a program: code, fields (class, place), new (class, blank fields), array types, int and long constants, calls (kind, method, how many arguments with the receiver), a field's type and whether it is final, a method's numbers (locals, frames, locals' room, what it returns: 0 nothing, 1 int, 2 long, 3 reference, 4 boolean; a constructor or not; its class's number), which objects an array type takes -/
abbrev MP : Type := (Nat → Nat → Option Instr) × (Nat → Nat → Option (Nat × Nat)) × (Nat → Nat → Option (Nat × List Value)) × (Nat → Nat → Option Nat) × (Nat → Nat → Option Int32) × (Nat → Nat → Option Int64) × (Nat → Nat → Option (Nat × Nat × Nat)) × (Nat → Nat → FieldType × Bool) × (Nat → Nat × Nat × Nat × Nat × Bool × Nat) × (Nat → MC → Bool)
def mpCode (P : MP) := P.1
def mpFld (P : MP) := P.2.1
def mpNew (P : MP) := P.2.2.1
def mpArr (P : MP) := P.2.2.2.1
def mpLdc (P : MP) := P.2.2.2.2.1
def mpLdc2 (P : MP) := P.2.2.2.2.2.1
def mpInv (P : MP) := P.2.2.2.2.2.2.1
def mpFty (P : MP) := P.2.2.2.2.2.2.2.1
def mpInfo (P : MP) := P.2.2.2.2.2.2.2.2.1
def mpElem (P : MP) := P.2.2.2.2.2.2.2.2.2
def mLook (lv : MLv) (i : Nat) : Option Value := (lv.find? (fun q => q.1 == i)).map (fun q => q.2)
def mLookI (lv : MLv) (i : Nat) : Option Int32 := match mLook lv i with
  | some (.int x) => some x
  | _ => none
def mLookL (lv : MLv) (i : Nat) : Option Int64 := match mLook lv i with
  | some (.long x) => some x
  | _ => none
def mLookA (lv : MLv) (i : Nat) : Option (Option Nat) := match mLook lv i with
  | some (.ref x) => some (some x)
  | some .null => some none
  | _ => none
def mSt1 (lv : MLv) (i : Nat) (v : Value) : MLv := (i, v) :: lv.filter (fun q => !(q.1 == i) && !(q.1 + 1 == i && q.2.category == 2))
def mSt2 (lv : MLv) (i : Nat) (v : Value) : MLv := (i, v) :: lv.filter (fun q => !(q.1 == i) && (!(q.1 == i + 1) && !(q.1 + 1 == i && q.2.category == 2)))
def mI1 (st : List Value) : Option (Int32 × List Value) := match st with
  | .int x :: r => some (x, r)
  | _ => none
def mI2 (st : List Value) : Option (Int32 × Int32 × List Value) := match st with
  | .int y :: .int x :: r => some (x, y, r)
  | _ => none
def mL1 (st : List Value) : Option (Int64 × List Value) := match st with
  | .long x :: r => some (x, r)
  | _ => none
def mL2 (st : List Value) : Option (Int64 × Int64 × List Value) := match st with
  | .long y :: .long x :: r => some (x, y, r)
  | _ => none
def mA1 (st : List Value) : Option (Option Nat × List Value) := match st with
  | .ref x :: r => some (some x, r)
  | .null :: r => some (none, r)
  | _ => none
/-- an index and an array -/
def mIA (st : List Value) : Option (Int32 × Nat × List Value) := match st with
  | .int i :: .ref a :: r => some (i, a, r)
  | _ => none
def mVIA (st : List Value) : Option (Value × Int32 × Nat × List Value) := match st with
  | v :: .int i :: .ref a :: r => some (v, i, a, r)
  | _ => none
def mCell (σ : List MC) (a : Nat) : Option MC := match a with
  | 0 => none
  | k + 1 => σ[k]?
def mPut (σ : List MC) (a : Nat) (e : MC) : List MC := match a with
  | 0 => σ
  | k + 1 => σ.set k e
def mIn (i : Int32) (n : Nat) : Bool := !(decide (i < 0)) && decide (i.toNatClampNeg < n)
def mIx (i : Int32) : Nat := i.toNatClampNeg
def mIf (c : Jvm.ClassFile.Cond) (x y : Int32) : Bool := match c with
  | .eq => decide (x = y)
  | .ne => !(decide (x = y))
  | .lt => decide (x < y)
  | .ge => decide (y ≤ x)
  | .gt => decide (y < x)
  | .le => decide (x ≤ y)
def mTo (pc : Nat) (off : Int) : Option Nat := if 0 ≤ (pc : Int) + off then some ((pc : Int) + off).toNat else none
abbrev MR : Type := Nat × MLv × List Value × List MC
/-- what lies in an int array at a: the script at 0 -/
def mInts (L : Nat) (xs : Nat → Int32) (σ : List MC) (a : Nat) : Option (Nat × (Nat → Int32)) := match a with
  | 0 => some (L, xs)
  | k + 1 => match σ[k]? with
    | some (.inl (0, n, .inl f)) => some (n, f)
    | _ => none
def mBools (σ : List MC) (a : Nat) : Option (Nat × (Nat → Int32)) := match mCell σ a with
  | some (.inl (2, n, .inl f)) => some (n, f)
  | _ => none
def mLongs (σ : List MC) (a : Nat) : Option (Nat × (Nat → Int64)) := match mCell σ a with
  | some (.inl (1, n, .inr (.inl f))) => some (n, f)
  | _ => none
def mRefs (σ : List MC) (a : Nat) : Option (Nat × Nat × (Nat → Option Nat)) := match mCell σ a with
  | some (.inl (t, n, .inr (.inr (.inr (.inr f))))) => if 3 ≤ t ∧ t < 10 then some (t, n, f) else none
  | _ => none
def mObj (σ : List MC) (a : Nat) : Option (Nat × List Value) := match mCell σ a with
  | some (.inr o) => some o
  | _ => none
def mLong (σ : List MC) (L a : Nat) : Option Nat := match a with
  | 0 => some L
  | k + 1 => match σ[k]? with
    | some (.inl (t, n, _)) => if t < 10 then some n else none
    | _ => none
def mSim (pc : Nat) (lv : MLv) (st : List Value) (σ : List MC) : MR := (pc, lv, st, σ)
def mLocalC (ins : Instr) : Nat → MP → Nat → MLv → List Value → Option (Nat × MLv × List Value) := match ins with
  | .aload_n k => fun y P pc lv st => (mLookA lv k).map (fun v => (pc + 1, lv, va_rf v :: st))
  | .aload i => fun y P pc lv st => (mLookA lv i).map (fun v => (pc + 2, lv, va_rf v :: st))
  | .iload_n k => fun y P pc lv st => (mLookI lv k).map (fun v => (pc + 1, lv, .int v :: st))
  | .iload i => fun y P pc lv st => (mLookI lv i).map (fun v => (pc + 2, lv, .int v :: st))
  | .lload_n k => fun y P pc lv st => (mLookL lv k).map (fun v => (pc + 1, lv, .long v :: st))
  | .lload i => fun y P pc lv st => (mLookL lv i).map (fun v => (pc + 2, lv, .long v :: st))
  | .iconst n => fun y P pc lv st => some (pc + 1, lv, .int (Int32.ofInt n) :: st)
  | .bipush n => fun y P pc lv st => some (pc + 2, lv, .int (Int8.ofInt n).toInt32 :: st)
  | .sipush n => fun y P pc lv st => some (pc + 3, lv, .int (Int16.ofInt n).toInt32 :: st)
  | .lconst n => fun y P pc lv st => some (pc + 1, lv, .long (Int64.ofNat (n : Nat)) :: st)
  | .aconst_null => fun y P pc lv st => some (pc + 1, lv, .null :: st)
  | .ldc i => fun y P pc lv st => (mpLdc P y i).map (fun v => (pc + 2, lv, .int v :: st))
  | .ldc2_w i => fun y P pc lv st => (mpLdc2 P y i).map (fun v => (pc + 3, lv, .long v :: st))
  | .istore_n k => fun y P pc lv st => (mI1 st).bind (fun q : Int32 × List Value => if (k : Nat) < (mpInfo P y).1 then some (pc + 1, mSt1 lv k (.int q.1), q.2) else none)
  | .istore i => fun y P pc lv st => (mI1 st).bind (fun q : Int32 × List Value => if i < (mpInfo P y).1 then some (pc + 2, mSt1 lv i (.int q.1), q.2) else none)
  | .astore_n k => fun y P pc lv st => (mA1 st).bind (fun q : Option Nat × List Value => if (k : Nat) < (mpInfo P y).1 then some (pc + 1, mSt1 lv k (va_rf q.1), q.2) else none)
  | .astore i => fun y P pc lv st => (mA1 st).bind (fun q : Option Nat × List Value => if i < (mpInfo P y).1 then some (pc + 2, mSt1 lv i (va_rf q.1), q.2) else none)
  | .lstore_n k => fun y P pc lv st => (mL1 st).bind (fun q => if (k : Nat) + 1 < (mpInfo P y).1 then some (pc + 1, mSt2 lv k (.long q.1), q.2) else none)
  | .lstore i => fun y P pc lv st => (mL1 st).bind (fun q => if i + 1 < (mpInfo P y).1 then some (pc + 2, mSt2 lv i (.long q.1), q.2) else none)
  | .iinc i n => fun y P pc lv st => (mLookI lv i).bind (fun v => if i < (mpInfo P y).1 then some (pc + 3, mSt1 lv i (.int (v + Int32.ofInt n)), st) else none)
  | .iadd => fun y P pc lv st => (mI2 st).map (fun q : Int32 × Int32 × List Value => (pc + 1, lv, .int (q.1 + q.2.1) :: q.2.2))
  | .isub => fun y P pc lv st => (mI2 st).map (fun q : Int32 × Int32 × List Value => (pc + 1, lv, .int (q.1 - q.2.1) :: q.2.2))
  | .imul => fun y P pc lv st => (mI2 st).map (fun q : Int32 × Int32 × List Value => (pc + 1, lv, .int (q.1 * q.2.1) :: q.2.2))
  | .iand => fun y P pc lv st => (mI2 st).map (fun q : Int32 × Int32 × List Value => (pc + 1, lv, .int (q.1 &&& q.2.1) :: q.2.2))
  | .ior => fun y P pc lv st => (mI2 st).map (fun q : Int32 × Int32 × List Value => (pc + 1, lv, .int (q.1 ||| q.2.1) :: q.2.2))
  | .ishl => fun y P pc lv st => (mI2 st).map (fun q : Int32 × Int32 × List Value => (pc + 1, lv, .int (q.1 <<< (q.2.1 &&& 31)) :: q.2.2))
  | .ishr => fun y P pc lv st => (mI2 st).map (fun q : Int32 × Int32 × List Value => (pc + 1, lv, .int (q.1 >>> (q.2.1 &&& 31)) :: q.2.2))
  | .iushr => fun y P pc lv st => (mI2 st).map (fun q : Int32 × Int32 × List Value => (pc + 1, lv, .int ((q.1.toUInt32 >>> (q.2.1.toUInt32 &&& Int32.toUInt32 31)).toInt32) :: q.2.2))
  | .idiv => fun y P pc lv st => (mI2 st).bind (fun q : Int32 × Int32 × List Value => if q.2.1 = 0 then none else some (pc + 1, lv, .int (q.1 / q.2.1) :: q.2.2))
  | .irem => fun y P pc lv st => (mI2 st).bind (fun q : Int32 × Int32 × List Value => if q.2.1 = 0 then none else some (pc + 1, lv, .int (q.1 - q.1 / q.2.1 * q.2.1) :: q.2.2))
  | .ineg => fun y P pc lv st => (mI1 st).map (fun q : Int32 × List Value => (pc + 1, lv, .int (-q.1) :: q.2))
  | .i2l => fun y P pc lv st => (mI1 st).map (fun q : Int32 × List Value => (pc + 1, lv, .long q.1.toInt64 :: q.2))
  | .l2i => fun y P pc lv st => (mL1 st).map (fun q : Int64 × List Value => (pc + 1, lv, .int q.1.toInt32 :: q.2))
  | .ladd => fun y P pc lv st => (mL2 st).map (fun q : Int64 × Int64 × List Value => (pc + 1, lv, .long (q.1 + q.2.1) :: q.2.2))
  | .lsub => fun y P pc lv st => (mL2 st).map (fun q : Int64 × Int64 × List Value => (pc + 1, lv, .long (q.1 - q.2.1) :: q.2.2))
  | .lmul => fun y P pc lv st => (mL2 st).map (fun q : Int64 × Int64 × List Value => (pc + 1, lv, .long (q.1 * q.2.1) :: q.2.2))
  | .lcmp => fun y P pc lv st => (mL2 st).map (fun q : Int64 × Int64 × List Value => (pc + 1, lv, .int (lg_cmp q.1 q.2.1) :: q.2.2))
  | .dup => fun y P pc lv st => match st with
    | v :: r => if v.category = 1 then some (pc + 1, lv, v :: v :: r) else none
    | _ => none
  | .pop => fun y P pc lv st => match st with
    | v :: r => if v.category = 1 then some (pc + 1, lv, r) else none
    | _ => none
  | .dup2 => fun y P pc lv st => match st with
    | v :: w :: r => if v.category = 1 ∧ w.category = 1 then some (pc + 1, lv, v :: w :: v :: w :: r) else none
    | _ => none
  | .pop2 => fun y P pc lv st => match st with
    | v :: r => if v.category = 2 then some (pc + 1, lv, r) else none
    | _ => none
  | .goto off => fun y P pc lv st => (mTo pc off).map (fun t => (t, lv, st))
  | .ifCond c off => fun y P pc lv st => (mI1 st).bind (fun q : Int32 × List Value => (mTo pc off).map (fun t => (if mIf c q.1 0 = true then t else pc + 3, lv, q.2)))
  | .if_icmp c off => fun y P pc lv st => (mI2 st).bind (fun q : Int32 × Int32 × List Value => (mTo pc off).map (fun t => (if mIf c q.1 q.2.1 = true then t else pc + 3, lv, q.2.2)))
  | .ifnull off => fun y P pc lv st => (mA1 st).bind (fun q : Option Nat × List Value => (mTo pc off).map (fun t => (if q.1 = none then t else pc + 3, lv, q.2)))
  | .ifnonnull off => fun y P pc lv st => (mA1 st).bind (fun q : Option Nat × List Value => (mTo pc off).map (fun t => (if q.1 = none then pc + 3 else t, lv, q.2)))
  | .tableswitch d lo hi offs => fun y P pc lv st => (mI1 st).bind (fun q : Int32 × List Value => if q.1.toInt < lo ∨ hi < q.1.toInt then (mTo pc d).map (fun t => (t, lv, q.2)) else (offs[(q.1.toInt - lo).toNat]?).bind (fun o => (mTo pc o).map (fun t => (t, lv, q.2))))
  | .lookupswitch d ps => fun y P pc lv st => (mI1 st).bind (fun q : Int32 × List Value => if (ps.toList.zip (ps.toList.drop 1)).all (fun (a, next) => a.1 < next.1) = true then (mTo pc (Op.lookupswitch.offset ps.toList d q.1.toInt)).map (fun t => (t, lv, q.2)) else none)
  | _ => fun y P pc lv st => none
def mLocal (y : Nat) (P : MP) (ins : Instr) (pc : Nat) (lv : MLv) (st : List Value) : Option (Nat × MLv × List Value) := mLocalC ins y P pc lv st
