section
/-! THE SMALL MACHINE: a store of cells by number (cell k is the ref k + 1; ref 0 is the script), frames of named locals, an interpreter with fuel. Pure: nothing of the JVM's state stands in it. -/
abbrev MC : Type := (Nat × vp_A) ⊕ (Nat × List Value)
abbrev MLv : Type := List (Nat × Value)
/-- a program: code, fields (class, place), new (class, blank fields), array types, int and long constants, calls (kind, method, how many arguments with the receiver), a field's type and whether it is final, a method's numbers (locals, frames, locals' room, what it returns: 0 nothing, 1 int, 2 long, 3 reference, 4 boolean; a constructor or not; its class's number), which objects an array type takes -/
abbrev MP : Type := (Nat → Nat → Option Instr) × (Nat → Nat → Option (Nat × Nat)) × (Nat → Nat → Option (Nat × List Value)) × (Nat → Nat → Option Nat) × (Nat → Nat → Option Int32) × (Nat → Nat → Option Int64) × (Nat → Nat → Option (Nat × Nat × Nat)) × (Nat → Nat → FieldType × Bool) × (Nat → Nat × Nat × Nat × Nat × Bool × Nat) × (Nat → MC → Bool)
def mpCode (P : MP) := P.1
def mpFld (P : MP) := P.2.1
def mpNew (P : MP) := P.2.2.1
def mpArr (P : MP) := P.2.2.2.1
def mpLdc (P : MP) := P.2.2.2.2.1
def mpLdc2 (P : MP) := P.2.2.2.2.2.1
def mpInv (P : MP) := P.2.2.2.2.2.2.1
def mpFty (P : MP) := P.2.2.2.2.2.2.2.1
def mpInfo (P : MP) := P.2.2.2.2.2.2.2.2.1
def mpElem (P : MP) := P.2.2.2.2.2.2.2.2.2
def mLook (lv : MLv) (i : Nat) : Option Value := (lv.find? (fun q => q.1 == i)).map (fun q => q.2)
def mLookI (lv : MLv) (i : Nat) : Option Int32 := match mLook lv i with
  | some (.int x) => some x
  | _ => none
def mLookL (lv : MLv) (i : Nat) : Option Int64 := match mLook lv i with
  | some (.long x) => some x
  | _ => none
def mLookA (lv : MLv) (i : Nat) : Option (Option Nat) := match mLook lv i with
  | some (.ref x) => some (some x)
  | some .null => some none
  | _ => none
def mSt1 (lv : MLv) (i : Nat) (v : Value) : MLv := (i, v) :: lv.filter (fun q => !(q.1 == i) && !(q.1 + 1 == i && q.2.category == 2))
def mSt2 (lv : MLv) (i : Nat) (v : Value) : MLv := (i, v) :: lv.filter (fun q => !(q.1 == i) && (!(q.1 == i + 1) && !(q.1 + 1 == i && q.2.category == 2)))
def mI1 (st : List Value) : Option (Int32 × List Value) := match st with
  | .int x :: r => some (x, r)
  | _ => none
def mI2 (st : List Value) : Option (Int32 × Int32 × List Value) := match st with
  | .int y :: .int x :: r => some (x, y, r)
  | _ => none
def mL1 (st : List Value) : Option (Int64 × List Value) := match st with
  | .long x :: r => some (x, r)
  | _ => none
def mL2 (st : List Value) : Option (Int64 × Int64 × List Value) := match st with
  | .long y :: .long x :: r => some (x, y, r)
  | _ => none
def mA1 (st : List Value) : Option (Option Nat × List Value) := match st with
  | .ref x :: r => some (some x, r)
  | .null :: r => some (none, r)
  | _ => none
/-- an index and an array -/
def mIA (st : List Value) : Option (Int32 × Nat × List Value) := match st with
  | .int i :: .ref a :: r => some (i, a, r)
  | _ => none
def mVIA (st : List Value) : Option (Value × Int32 × Nat × List Value) := match st with
  | v :: .int i :: .ref a :: r => some (v, i, a, r)
  | _ => none
def mCell (σ : List MC) (a : Nat) : Option MC := match a with
  | 0 => none
  | k + 1 => σ[k]?
def mPut (σ : List MC) (a : Nat) (e : MC) : List MC := match a with
  | 0 => σ
  | k + 1 => σ.set k e
def mIn (i : Int32) (n : Nat) : Bool := !(decide (i < 0)) && decide (i.toNatClampNeg < n)
def mIx (i : Int32) : Nat := i.toNatClampNeg
def mIf (c : Jvm.ClassFile.Cond) (x y : Int32) : Bool := match c with
  | .eq => decide (x = y)
  | .ne => !(decide (x = y))
  | .lt => decide (x < y)
  | .ge => decide (y ≤ x)
  | .gt => decide (y < x)
  | .le => decide (x ≤ y)
def mTo (pc : Nat) (off : Int) : Option Nat := if 0 ≤ (pc : Int) + off then some ((pc : Int) + off).toNat else none
abbrev MR : Type := Nat × MLv × List Value × List MC
/-- what lies in an int array at a: the script at 0 -/
def mInts (L : Nat) (xs : Nat → Int32) (σ : List MC) (a : Nat) : Option (Nat × (Nat → Int32)) := match a with
  | 0 => some (L, xs)
  | k + 1 => match σ[k]? with
    | some (.inl (0, n, .inl f)) => some (n, f)
    | _ => none
def mBools (σ : List MC) (a : Nat) : Option (Nat × (Nat → Int32)) := match mCell σ a with
  | some (.inl (2, n, .inl f)) => some (n, f)
  | _ => none
def mLongs (σ : List MC) (a : Nat) : Option (Nat × (Nat → Int64)) := match mCell σ a with
  | some (.inl (1, n, .inr (.inl f))) => some (n, f)
  | _ => none
def mRefs (σ : List MC) (a : Nat) : Option (Nat × Nat × (Nat → Option Nat)) := match mCell σ a with
  | some (.inl (t, n, .inr (.inr (.inr (.inr f))))) => if 3 ≤ t ∧ t < 10 then some (t, n, f) else none
  | _ => none
def mObj (σ : List MC) (a : Nat) : Option (Nat × List Value) := match mCell σ a with
  | some (.inr o) => some o
  | _ => none
def mLong (σ : List MC) (L a : Nat) : Option Nat := match a with
  | 0 => some L
  | k + 1 => match σ[k]? with
    | some (.inl (t, n, _)) => if t < 10 then some n else none
    | _ => none
def mSim (pc : Nat) (lv : MLv) (st : List Value) (σ : List MC) : MR := (pc, lv, st, σ)
def mLocalC (ins : Instr) : Nat → MP → Nat → MLv → List Value → Option (Nat × MLv × List Value) := match ins with
  | .aload_n k => fun y P pc lv st => (mLookA lv k).map (fun v => (pc + 1, lv, va_rf v :: st))
  | .aload i => fun y P pc lv st => (mLookA lv i).map (fun v => (pc + 2, lv, va_rf v :: st))
  | .iload_n k => fun y P pc lv st => (mLookI lv k).map (fun v => (pc + 1, lv, .int v :: st))
  | .iload i => fun y P pc lv st => (mLookI lv i).map (fun v => (pc + 2, lv, .int v :: st))
  | .lload_n k => fun y P pc lv st => (mLookL lv k).map (fun v => (pc + 1, lv, .long v :: st))
  | .lload i => fun y P pc lv st => (mLookL lv i).map (fun v => (pc + 2, lv, .long v :: st))
  | .iconst n => fun y P pc lv st => some (pc + 1, lv, .int (Int32.ofInt n) :: st)
  | .bipush n => fun y P pc lv st => some (pc + 2, lv, .int (Int8.ofInt n).toInt32 :: st)
  | .sipush n => fun y P pc lv st => some (pc + 3, lv, .int (Int16.ofInt n).toInt32 :: st)
  | .lconst n => fun y P pc lv st => some (pc + 1, lv, .long (Int64.ofNat (n : Nat)) :: st)
  | .aconst_null => fun y P pc lv st => some (pc + 1, lv, .null :: st)
  | .ldc i => fun y P pc lv st => (mpLdc P y i).map (fun v => (pc + 2, lv, .int v :: st))
  | .ldc2_w i => fun y P pc lv st => (mpLdc2 P y i).map (fun v => (pc + 3, lv, .long v :: st))
  | .istore_n k => fun y P pc lv st => (mI1 st).bind (fun q : Int32 × List Value => if (k : Nat) < (mpInfo P y).1 then some (pc + 1, mSt1 lv k (.int q.1), q.2) else none)
  | .istore i => fun y P pc lv st => (mI1 st).bind (fun q : Int32 × List Value => if i < (mpInfo P y).1 then some (pc + 2, mSt1 lv i (.int q.1), q.2) else none)
  | .astore_n k => fun y P pc lv st => (mA1 st).bind (fun q : Option Nat × List Value => if (k : Nat) < (mpInfo P y).1 then some (pc + 1, mSt1 lv k (va_rf q.1), q.2) else none)
  | .astore i => fun y P pc lv st => (mA1 st).bind (fun q : Option Nat × List Value => if i < (mpInfo P y).1 then some (pc + 2, mSt1 lv i (va_rf q.1), q.2) else none)
  | .lstore_n k => fun y P pc lv st => (mL1 st).bind (fun q => if (k : Nat) + 1 < (mpInfo P y).1 then some (pc + 1, mSt2 lv k (.long q.1), q.2) else none)
  | .lstore i => fun y P pc lv st => (mL1 st).bind (fun q => if i + 1 < (mpInfo P y).1 then some (pc + 2, mSt2 lv i (.long q.1), q.2) else none)
  | .iinc i n => fun y P pc lv st => (mLookI lv i).bind (fun v => if i < (mpInfo P y).1 then some (pc + 3, mSt1 lv i (.int (v + Int32.ofInt n)), st) else none)
  | .iadd => fun y P pc lv st => (mI2 st).map (fun q : Int32 × Int32 × List Value => (pc + 1, lv, .int (q.1 + q.2.1) :: q.2.2))
  | .isub => fun y P pc lv st => (mI2 st).map (fun q : Int32 × Int32 × List Value => (pc + 1, lv, .int (q.1 - q.2.1) :: q.2.2))
  | .imul => fun y P pc lv st => (mI2 st).map (fun q : Int32 × Int32 × List Value => (pc + 1, lv, .int (q.1 * q.2.1) :: q.2.2))
  | .iand => fun y P pc lv st => (mI2 st).map (fun q : Int32 × Int32 × List Value => (pc + 1, lv, .int (q.1 &&& q.2.1) :: q.2.2))
  | .ior => fun y P pc lv st => (mI2 st).map (fun q : Int32 × Int32 × List Value => (pc + 1, lv, .int (q.1 ||| q.2.1) :: q.2.2))
  | .ishl => fun y P pc lv st => (mI2 st).map (fun q : Int32 × Int32 × List Value => (pc + 1, lv, .int (q.1 <<< (q.2.1 &&& 31)) :: q.2.2))
  | .ishr => fun y P pc lv st => (mI2 st).map (fun q : Int32 × Int32 × List Value => (pc + 1, lv, .int (q.1 >>> (q.2.1 &&& 31)) :: q.2.2))
  | .iushr => fun y P pc lv st => (mI2 st).map (fun q : Int32 × Int32 × List Value => (pc + 1, lv, .int ((q.1.toUInt32 >>> (q.2.1.toUInt32 &&& Int32.toUInt32 31)).toInt32) :: q.2.2))
  | .idiv => fun y P pc lv st => (mI2 st).bind (fun q : Int32 × Int32 × List Value => if q.2.1 = 0 then none else some (pc + 1, lv, .int (q.1 / q.2.1) :: q.2.2))
  | .irem => fun y P pc lv st => (mI2 st).bind (fun q : Int32 × Int32 × List Value => if q.2.1 = 0 then none else some (pc + 1, lv, .int (q.1 - q.1 / q.2.1 * q.2.1) :: q.2.2))
  | .ineg => fun y P pc lv st => (mI1 st).map (fun q : Int32 × List Value => (pc + 1, lv, .int (-q.1) :: q.2))
  | .i2l => fun y P pc lv st => (mI1 st).map (fun q : Int32 × List Value => (pc + 1, lv, .long q.1.toInt64 :: q.2))
  | .l2i => fun y P pc lv st => (mL1 st).map (fun q : Int64 × List Value => (pc + 1, lv, .int q.1.toInt32 :: q.2))
  | .ladd => fun y P pc lv st => (mL2 st).map (fun q : Int64 × Int64 × List Value => (pc + 1, lv, .long (q.1 + q.2.1) :: q.2.2))
  | .lsub => fun y P pc lv st => (mL2 st).map (fun q : Int64 × Int64 × List Value => (pc + 1, lv, .long (q.1 - q.2.1) :: q.2.2))
  | .lmul => fun y P pc lv st => (mL2 st).map (fun q : Int64 × Int64 × List Value => (pc + 1, lv, .long (q.1 * q.2.1) :: q.2.2))
  | .lcmp => fun y P pc lv st => (mL2 st).map (fun q : Int64 × Int64 × List Value => (pc + 1, lv, .int (lg_cmp q.1 q.2.1) :: q.2.2))
  | .dup => fun y P pc lv st => match st with
    | v :: r => if v.category = 1 then some (pc + 1, lv, v :: v :: r) else none
    | _ => none
  | .pop => fun y P pc lv st => match st with
    | v :: r => if v.category = 1 then some (pc + 1, lv, r) else none
    | _ => none
  | .dup2 => fun y P pc lv st => match st with
    | v :: w :: r => if v.category = 1 ∧ w.category = 1 then some (pc + 1, lv, v :: w :: v :: w :: r) else none
    | _ => none
  | .goto off => fun y P pc lv st => (mTo pc off).map (fun t => (t, lv, st))
  | .ifCond c off => fun y P pc lv st => (mI1 st).bind (fun q : Int32 × List Value => (mTo pc off).map (fun t => (if mIf c q.1 0 = true then t else pc + 3, lv, q.2)))
  | .if_icmp c off => fun y P pc lv st => (mI2 st).bind (fun q : Int32 × Int32 × List Value => (mTo pc off).map (fun t => (if mIf c q.1 q.2.1 = true then t else pc + 3, lv, q.2.2)))
  | .ifnull off => fun y P pc lv st => (mA1 st).bind (fun q : Option Nat × List Value => (mTo pc off).map (fun t => (if q.1 = none then t else pc + 3, lv, q.2)))
  | .ifnonnull off => fun y P pc lv st => (mA1 st).bind (fun q : Option Nat × List Value => (mTo pc off).map (fun t => (if q.1 = none then pc + 3 else t, lv, q.2)))
  | .tableswitch d lo hi offs => fun y P pc lv st => (mI1 st).bind (fun q : Int32 × List Value => if q.1.toInt < lo ∨ hi < q.1.toInt then (mTo pc d).map (fun t => (t, lv, q.2)) else (offs[(q.1.toInt - lo).toNat]?).bind (fun o => (mTo pc o).map (fun t => (t, lv, q.2))))
  | .lookupswitch d ps => fun y P pc lv st => (mI1 st).bind (fun q : Int32 × List Value => if (ps.toList.zip (ps.toList.drop 1)).all (fun (a, next) => a.1 < next.1) = true then (mTo pc (Op.lookupswitch.offset ps.toList d q.1.toInt)).map (fun t => (t, lv, q.2)) else none)
  | _ => fun y P pc lv st => none
def mLocal (y : Nat) (P : MP) (ins : Instr) (pc : Nat) (lv : MLv) (st : List Value) : Option (Nat × MLv × List Value) := mLocalC ins y P pc lv st
end
section
def mFit (ty : FieldType) (v : Value) : Bool := decide (narrow ty v = v) && fits ty v
def mCInts (σ : List MC) (a : Nat) : Option (Nat × (Nat → Int32)) := match mCell σ a with
  | some (.inl (0, n, .inl f)) => some (n, f)
  | _ => none
/-- an array's first contents, by its type's number -/
def mBlank (t : Nat) : (Nat → Int32) ⊕ (Nat → Int64) ⊕ (Nat → UInt32) ⊕ (Nat → UInt64) ⊕ (Nat → Option Nat) := match t with
  | 0 => .inl (fun _ => 0)
  | 1 => .inr (.inl (fun _ => 0))
  | 2 => .inl (fun _ => 0)
  | _ => .inr (.inr (.inr (.inr (fun _ => none))))
def mATy (t : Jvm.ClassFile.ArrayType) : Option Nat := match t with
  | .int => some 0
  | .long => some 1
  | .boolean => some 2
  | _ => none
def mNewA (σ : List MC) (pc t : Nat) (q : Int32 × List Value) : Option (Nat × List Value × List MC) :=
  if q.1 < 0 then none else if mIx q.1 ≤ 1000000 then some (pc, .ref (σ.length + 1) :: q.2, σ ++ [.inl (t, mIx q.1, mBlank t)]) else none
def mHeapC (ins : Instr) : MP → Nat → (Nat → Int32) → Nat → Nat → List Value → List MC → Option (Nat × List Value × List MC) := match ins with
  | .getfield i => fun P L xs y pc st σ => match st with
    | .ref a :: r => (mObj σ a).bind (fun o => (mpFld P y i).bind (fun q => if q.1 = o.1 then (o.2[q.2]?).map (fun v => (pc + 3, v :: r, σ)) else none))
    | _ => none
  | .putfield i => fun P L xs y pc st σ => match st with
    | v :: .ref a :: r => (mObj σ a).bind (fun o => (mpFld P y i).bind (fun q => if q.1 = o.1 ∧ q.2 < o.2.length ∧ mFit (mpFty P q.1 q.2).1 v = true ∧ ((mpFty P q.1 q.2).2 = true → (mpInfo P y).2.2.2.2.1 = true ∧ (mpInfo P y).2.2.2.2.2 = q.1) then some (pc + 3, r, mPut σ a (.inr (o.1, o.2.set q.2 v))) else none))
    | _ => none
  | .iaload => fun P L xs y pc st σ => (mIA st).bind (fun q : Int32 × Nat × List Value => (mInts L xs σ q.2.1).bind (fun g => if mIn q.1 g.1 = true then some (pc + 1, .int (g.2 (mIx q.1)) :: q.2.2, σ) else none))
  | .laload => fun P L xs y pc st σ => (mIA st).bind (fun q : Int32 × Nat × List Value => (mLongs σ q.2.1).bind (fun g => if mIn q.1 g.1 = true then some (pc + 1, .long (g.2 (mIx q.1)) :: q.2.2, σ) else none))
  | .baload => fun P L xs y pc st σ => (mIA st).bind (fun q : Int32 × Nat × List Value => (mBools σ q.2.1).bind (fun g => if mIn q.1 g.1 = true then some (pc + 1, .int (g.2 (mIx q.1)) :: q.2.2, σ) else none))
  | .aaload => fun P L xs y pc st σ => (mIA st).bind (fun q : Int32 × Nat × List Value => (mRefs σ q.2.1).bind (fun g => if mIn q.1 g.2.1 = true then some (pc + 1, va_rf (g.2.2 (mIx q.1)) :: q.2.2, σ) else none))
  | .iastore => fun P L xs y pc st σ => match st with
    | .int x :: .int i :: .ref a :: r => (mCInts σ a).bind (fun g => if mIn i g.1 = true then some (pc + 1, r, mPut σ a (.inl (0, g.1, .inl (upd g.2 (mIx i) x)))) else none)
    | _ => none
  | .lastore => fun P L xs y pc st σ => match st with
    | .long x :: .int i :: .ref a :: r => (mLongs σ a).bind (fun g => if mIn i g.1 = true then some (pc + 1, r, mPut σ a (.inl (1, g.1, .inr (.inl (vp_updL g.2 (mIx i) x))))) else none)
    | _ => none
  | .bastore => fun P L xs y pc st σ => match st with
    | .int x :: .int i :: .ref a :: r => (mBools σ a).bind (fun g => if mIn i g.1 = true then some (pc + 1, r, mPut σ a (.inl (2, g.1, .inl (upd g.2 (mIx i) (vp_nar .boolean x))))) else none)
    | _ => none
  | .aastore => fun P L xs y pc st σ => match st with
    | .null :: .int i :: .ref a :: r => (mRefs σ a).bind (fun g => if mIn i g.2.1 = true then some (pc + 1, r, mPut σ a (.inl (g.1, g.2.1, .inr (.inr (.inr (.inr (va_up g.2.2 (mIx i) none))))))) else none)
    | .ref v :: .int i :: .ref a :: r => (mRefs σ a).bind (fun g => (mCell σ v).bind (fun e => if mIn i g.2.1 = true ∧ mpElem P g.1 e = true then some (pc + 1, r, mPut σ a (.inl (g.1, g.2.1, .inr (.inr (.inr (.inr (va_up g.2.2 (mIx i) (some v)))))))) else none))
    | _ => none
  | .arraylength => fun P L xs y pc st σ => match st with
    | .ref a :: r => (mLong σ L a).map (fun n => (pc + 1, .int (Int32.ofNat n) :: r, σ))
    | _ => none
  | .newarray t => fun P L xs y pc st σ => (mI1 st).bind (fun q => (mATy t).bind (fun k => mNewA σ (pc + 2) k q))
  | .anewarray i => fun P L xs y pc st σ => (mI1 st).bind (fun q => (mpArr P y i).bind (fun k => if 3 ≤ k then mNewA σ (pc + 3) k q else none))
  | .new i => fun P L xs y pc st σ => (mpNew P y i).map (fun q => (pc + 3, .ref (σ.length + 1) :: st, σ ++ [.inr q]))
  | .invokespecial i => fun P L xs y pc st σ => (mpInv P y i).bind (fun q => if q.1 = 5 then match st with
      | .ref _ :: r => if (r.map (fun v => v.category)).sum ≤ 8 ∧ 1 ≤ (mpInfo P y).2.1 ∧ 20 ≤ (mpInfo P y).2.2.1 then some (pc + 3, r, σ) else none
      | _ => none
    else none)
  | .invokestatic i => fun P L xs y pc st σ => (mpInv P y i).bind (fun q => if q.1 = 6 then match st with
      | .int n :: .int dp :: .ref a1 :: .int sp :: .ref a0 :: r => (mCInts σ a0).bind (fun f => (mCInts σ a1).bind (fun g => if ¬ sp < 0 ∧ ¬ dp < 0 ∧ ¬ n < 0 ∧ mIx sp + mIx n ≤ f.1 ∧ mIx dp + mIx n ≤ g.1 ∧ (r.map (fun v => v.category)).sum ≤ 8 ∧ 1 ≤ (mpInfo P y).2.1 ∧ 40 ≤ (mpInfo P y).2.2.1 then some (pc + 3, r, mPut σ a1 (.inl (0, g.1, .inl (va_cpy f.2 g.2 (mIx sp) (mIx dp) (mIx n))))) else none))
      | _ => none
    else if q.1 = 7 then match st with
      | .int y2 :: .int x :: r => if (r.map (fun v => v.category)).sum ≤ 8 ∧ 1 ≤ (mpInfo P y).2.1 ∧ 30 ≤ (mpInfo P y).2.2.1 then some (pc + 3, .int (if x < y2 then y2 else x) :: r, σ) else none
      | _ => none
    else if q.1 = 8 then match st with
      | .int y2 :: .int x :: r => if (r.map (fun v => v.category)).sum ≤ 8 ∧ 1 ≤ (mpInfo P y).2.1 ∧ 30 ≤ (mpInfo P y).2.2.1 then some (pc + 3, .int (if y2 < x then y2 else x) :: r, σ) else none
      | _ => none
    else none)
  | _ => fun P L xs y pc st σ => none
def mHeap (P : MP) (L : Nat) (xs : Nat → Int32) (y : Nat) (ins : Instr) (pc : Nat) (st : List Value) (σ : List MC) : Option (Nat × List Value × List MC) := mHeapC ins P L xs y pc st σ
/-- a method's end -/
def mEndC (ins : Instr) : MP → Nat → List Value → Option (Option Value) := match ins with
  | .ireturn => fun P y st => match st with
    | [.int x] => if (mpInfo P y).2.2.2.1 = 1 ∨ ((mpInfo P y).2.2.2.1 = 4 ∧ x &&& 1 = x) then some (some (.int x)) else none
    | _ => none
  | .lreturn => fun P y st => match st with
    | [.long x] => if (mpInfo P y).2.2.2.1 = 2 then some (some (.long x)) else none
    | _ => none
  | .areturn => fun P y st => match st with
    | [.ref x] => if (mpInfo P y).2.2.2.1 = 3 then some (some (.ref x)) else none
    | [.null] => if (mpInfo P y).2.2.2.1 = 3 then some (some .null) else none
    | _ => none
  | .return_ => fun P y st => match st with
    | [] => if (mpInfo P y).2.2.2.1 = 0 then some none else none
    | _ => none
  | _ => fun P y st => none
def mEnd (P : MP) (y : Nat) (ins : Instr) (st : List Value) : Option (Option Value) := mEndC ins P y st
/-- a call: its kind, the method, its arguments in order, what stays on the stack -/
def mCallK (P : MP) (y k y2 n : Nat) (st : List Value) (σ : List MC) : Option (Nat × List Value × List Value) :=
  if n ≤ st.length ∧ ((st.drop n).map (fun v => v.category)).sum ≤ 8 ∧ (mpInfo P y2).2.1 + 1 ≤ (mpInfo P y).2.1 ∧ 8 + ((mpInfo P y2).1 + 11) + (mpInfo P y2).2.2.1 ≤ (mpInfo P y).2.2.1 ∧ (lg_sl ((st.take n).reverse)).length ≤ (mpInfo P y2).1 then
    match k with
    | 0 => some (y2, (st.take n).reverse, st.drop n)
    | 4 => some (y2, (st.take n).reverse, st.drop n)
    | 1 => match (st.take n).reverse with
      | .ref a :: _ => match mObj σ a with
        | some o => if o.1 = (mpInfo P y2).2.2.2.2.2 then some (y2, (st.take n).reverse, st.drop n) else none
        | none => none
      | _ => none
    | 2 => match (st.take n).reverse with
      | .ref _ :: _ => some (y2, (st.take n).reverse, st.drop n)
      | _ => none
    | 3 => match (st.take n).reverse with
      | .ref _ :: _ => some (y2, (st.take n).reverse, st.drop n)
      | _ => none
    | _ => none
  else none
def mCallOfC (ins : Instr) : MP → Nat → List Value → List MC → Option (Nat × List Value × List Value) := match ins with
  | .invokevirtual i => fun P y st σ => (mpInv P y i).bind (fun q => if q.1 = 1 then mCallK P y 1 q.2.1 q.2.2 st σ else none)
  | .invokestatic i => fun P y st σ => (mpInv P y i).bind (fun q => if q.1 = 0 ∨ q.1 = 4 then mCallK P y q.1 q.2.1 q.2.2 st σ else none)
  | .invokespecial i => fun P y st σ => (mpInv P y i).bind (fun q => if q.1 = 2 ∨ q.1 = 3 then mCallK P y q.1 q.2.1 q.2.2 st σ else none)
  | _ => fun P y st σ => none
def mCallOf (P : MP) (y : Nat) (ins : Instr) (st : List Value) (σ : List MC) : Option (Nat × List Value × List Value) := mCallOfC ins P y st σ
def mStep (P : MP) (L : Nat) (xs : Nat → Int32) (y : Nat) (ins : Instr) (pc : Nat) (lv : MLv) (st : List Value) (σ : List MC) : Option MR :=
  match mLocal y P ins pc lv st with
  | some q => some (q.1, q.2.1, q.2.2, σ)
  | none => (mHeap P L xs y ins pc st σ).map (fun q => (q.1, lv, q.2.1, q.2.2))
abbrev MRes : Type := Option Value × List MC
def mRun (P : MP) (L : Nat) (xs : Nat → Int32) (call : Nat → List Value → List MC → Option MRes) (y : Nat) : Nat → Nat → MLv → List Value → List MC → Option MRes
  | 0, _, _, _, _ => none
  | n + 1, pc, lv, st, σ => match mpCode P y pc with
    | none => none
    | some ins => match mEnd P y ins st with
      | some r => some (r, σ)
      | none => match mCallOf P y ins st σ with
        | some c => match call c.1 c.2.1 σ with
          | some r => mRun P L xs call y n (pc + 3) lv (r.1.toList ++ c.2.2) r.2
          | none => none
        | none => match mStep P L xs y ins pc lv st σ with
          | some q => mRun P L xs call y n q.1 q.2.1 q.2.2.1 q.2.2.2
          | none => none
def mExec (P : MP) (L : Nat) (xs : Nat → Int32) (N : Nat) : Nat → Nat → List Value → List MC → Option MRes
  | 0, _, _, _ => none
  | d + 1, y, as, σ => mRun P L xs (mExec P L xs N d) y N 0 (lv_args 0 as) [] σ
/-- how many slots a cell has -/
def mSz (e : MC) : Nat := match e with
  | .inl a => a.2.1
  | .inr o => o.2.length
def mSl (σ : List MC) : Nat := (σ.map mSz).sum
end
section
/-! FROM THE SMALL MACHINE TO THE MACHINE: refs, cells, locals -/
def mAd (b0 base i : Nat) : Nat := match i with
  | 0 => b0
  | k + 1 => base + k
def mV (b0 base : Nat) (v : Value) : Value := match v with
  | .ref i => .ref (mAd b0 base i)
  | w => w
theorem mV_cat (b0 base : Nat) (v : Value) : (mV b0 base v).category = v.category := by cases v <;> rfl
theorem mV_rf (b0 base : Nat) (o : Option Nat) : mV b0 base (va_rf o) = va_rf (o.map (mAd b0 base)) := by cases o <;> rfl
theorem mV_int (b0 base : Nat) (x : Int32) : mV b0 base (.int x) = .int x := rfl
theorem mV_long (b0 base : Nat) (x : Int64) : mV b0 base (.long x) = .long x := rfl
theorem mV_null (b0 base : Nat) : mV b0 base .null = .null := rfl
theorem mV_ref (b0 base i : Nat) : mV b0 base (.ref i) = .ref (mAd b0 base i) := rfl
theorem mV_cats (b0 base : Nat) (st : List Value) : ((st.map (mV b0 base)).map fun v => v.category) = st.map fun v => v.category := by
  simp [List.map_map, Function.comp_def, mV_cat]
theorem mV_fit {b0 base : Nat} {ty : FieldType} {v : Value} (h : mFit ty v = true) : narrow ty (mV b0 base v) = mV b0 base v ∧ fits ty (mV b0 base v) = true := by
  simp only [mFit, Bool.and_eq_true, decide_eq_true_eq] at h
  cases v with
  | ref i =>
    refine ⟨?_, ?_⟩
    · cases ty <;> rfl
    · have h2 := h.2
      cases ty <;> first | rfl | (simp [fits] at h2) | (simp [fits, mV])
  | _ => exact h
def mX (b0 base : Nat) (x : (Nat → Int32) ⊕ (Nat → Int64) ⊕ (Nat → UInt32) ⊕ (Nat → UInt64) ⊕ (Nat → Option Nat)) : (Nat → Int32) ⊕ (Nat → Int64) ⊕ (Nat → UInt32) ⊕ (Nat → UInt64) ⊕ (Nat → Option Nat) := match x with
  | .inr (.inr (.inr (.inr f))) => .inr (.inr (.inr (.inr (fun k => (f k).map (mAd b0 base)))))
  | .inl f => .inl f
  | .inr (.inl f) => .inr (.inl f)
  | .inr (.inr (.inl f)) => .inr (.inr (.inl f))
  | .inr (.inr (.inr (.inl f))) => .inr (.inr (.inr (.inl f)))
def mE (b0 base : Nat) (aC : Nat → ClassId) (e : MC) : va_E := match e with
  | .inl a => .inl (aC a.1, a.2.1, mX b0 base a.2.2)
  | .inr o => .inr (o.1, o.2.map (mV b0 base))
def mW (b0 base : Nat) (aC : Nat → ClassId) (σ : List MC) : va_W := σ.mapIdx (fun i e => (base + i, mE b0 base aC e))
theorem mW_get {b0 base : Nat} {aC : Nat → ClassId} {σ : List MC} {k : Nat} {e : MC} (h : σ[k]? = some e) : (mW b0 base aC σ)[k]? = some (base + k, mE b0 base aC e) := by
  simp [mW, h]
theorem mW_inv {b0 base : Nat} {aC : Nat → ClassId} {σ : List MC} {k : Nat} {q : Nat × va_E} (h : (mW b0 base aC σ)[k]? = some q) : ∃ e, σ[k]? = some e ∧ q = (base + k, mE b0 base aC e) := by
  simp only [mW, List.getElem?_mapIdx] at h
  cases hk : σ[k]? with
  | none => simp [hk] at h
  | some e =>
    simp [hk] at h
    exact ⟨e, rfl, h.symm⟩
theorem mW_set {b0 base : Nat} {aC : Nat → ClassId} {σ : List MC} {k : Nat} {e : MC} : mW b0 base aC (σ.set k e) = (mW b0 base aC σ).set k (base + k, mE b0 base aC e) := by
  apply List.ext_getElem?
  intro i
  simp only [mW, List.getElem?_mapIdx, List.getElem?_set, List.length_mapIdx]
  by_cases hik : k = i
  · subst hik
    by_cases hl : k < σ.length
    · simp [hl]
    · simp [hl]
  · simp [hik]
theorem mW_push {b0 base : Nat} {aC : Nat → ClassId} {σ : List MC} {e : MC} : mW b0 base aC (σ ++ [e]) = mW b0 base aC σ ++ [(base + σ.length, mE b0 base aC e)] := by
  simp [mW, List.mapIdx_append]
theorem mW_len {b0 base : Nat} {aC : Nat → ClassId} {σ : List MC} : (mW b0 base aC σ).length = σ.length := by simp [mW]
theorem mW_D {b0 base : Nat} {aC : Nat → ClassId} {σ : List MC} : va_D (fun q => base ≤ q) (mW b0 base aC σ) := by
  refine ⟨fun i j x z hi hj hxz => ?_, fun k q hk => ?_⟩
  · obtain ⟨e1, -, rfl⟩ := mW_inv hi
    obtain ⟨e2, -, rfl⟩ := mW_inv hj
    simpa using hxz
  · obtain ⟨e1, -, rfl⟩ := mW_inv hk
    exact Nat.le_add_right _ _
def mLvT (b0 base : Nat) (lv : MLv) : MLv := lv.map (fun q => (q.1, mV b0 base q.2))
theorem mLook_mem {lv : MLv} {i : Nat} {v : Value} (h : mLook lv i = some v) : (i, v) ∈ lv := by
  simp only [mLook, Option.map_eq_some_iff] at h
  obtain ⟨q, hq, rfl⟩ := h
  have h1 := List.find?_some hq
  have h2 := List.mem_of_find?_eq_some hq
  simp only [beq_iff_eq] at h1
  rw [← h1]
  exact h2
theorem mLook_at {b0 base nL : Nat} {ls : Array Slot} {lv : MLv} {i : Nat} {v : Value} (hl : lv_has ls nL (mLvT b0 base lv)) (h : mLook lv i = some v) : ls[i]? = some (.val (mV b0 base v)) :=
  hl.2.2 (i, mV b0 base v) (List.mem_map.mpr ⟨(i, v), mLook_mem h, rfl⟩)
theorem mLook_pos {lv : MLv} {i : Nat} {v : Value} (b0 base : Nat) (h : mLook lv i = some v) : ∃ k : Nat, (mLvT b0 base lv)[k]? = some (i, mV b0 base v) :=
  List.getElem?_of_mem (List.mem_map.mpr ⟨(i, v), mLook_mem h, rfl⟩)
theorem mSt1_T (b0 base : Nat) (lv : MLv) (i : Nat) (v : Value) : (i, mV b0 base v) :: (mLvT b0 base lv).filter (fun q => !(q.1 == i) && !(q.1 + 1 == i && q.2.category == 2)) = mLvT b0 base (mSt1 lv i v) := by
  simp only [mLvT, mSt1, List.map_cons, List.filter_map, Function.comp_def, mV_cat]
theorem mSt2_T (b0 base : Nat) (lv : MLv) (i : Nat) (v : Value) : (i, mV b0 base v) :: (mLvT b0 base lv).filter (fun q => !(q.1 == i) && (!(q.1 == i + 1) && !(q.1 + 1 == i && q.2.category == 2))) = mLvT b0 base (mSt2 lv i v) := by
  simp only [mLvT, mSt2, List.map_cons, List.filter_map, Function.comp_def, mV_cat]
theorem mArgs_T (b0 base : Nat) : ∀ (i : Nat) (vs : List Value), lv_args i (vs.map (mV b0 base)) = mLvT b0 base (lv_args i vs)
  | _, [] => rfl
  | i, v :: vs => by
    simp only [List.map_cons, lv_args, mLvT, mV_cat]
    rw [mArgs_T b0 base _ vs]
    rfl
theorem mSl_T (b0 base : Nat) (vs : List Value) : (lg_sl (vs.map (mV b0 base))).length = (lg_sl vs).length := by
  induction vs with
  | nil => rfl
  | cons v t ih =>
    simp only [List.map_cons, lg_sl, List.flatMap_cons, List.length_append, mV_cat] at ih ⊢
    split <;> simp_all
theorem mTo_eq {pc : Nat} {off : Int} {t : Nat} (h : mTo pc off = some t) : (pc : Int) + off = (t : Int) := by
  unfold mTo at h
  split at h
  · next h0 => cases h; exact (Int.toNat_of_nonneg h0).symm
  · cases h
theorem mI1_eq {st : List Value} {q : Int32 × List Value} (h : mI1 st = some q) : st = .int q.1 :: q.2 := by
  unfold mI1 at h
  split at h
  · cases h; rfl
  · cases h
theorem mI2_eq {st : List Value} {q : Int32 × Int32 × List Value} (h : mI2 st = some q) : st = .int q.2.1 :: .int q.1 :: q.2.2 := by
  unfold mI2 at h
  split at h
  · cases h; rfl
  · cases h
theorem mL1_eq {st : List Value} {q : Int64 × List Value} (h : mL1 st = some q) : st = .long q.1 :: q.2 := by
  unfold mL1 at h
  split at h
  · cases h; rfl
  · cases h
theorem mL2_eq {st : List Value} {q : Int64 × Int64 × List Value} (h : mL2 st = some q) : st = .long q.2.1 :: .long q.1 :: q.2.2 := by
  unfold mL2 at h
  split at h
  · cases h; rfl
  · cases h
theorem mA1_eq {st : List Value} {q : Option Nat × List Value} (h : mA1 st = some q) : st = va_rf q.1 :: q.2 := by
  unfold mA1 at h
  split at h
  · cases h; rfl
  · cases h; rfl
  · cases h
theorem mLookI_eq {lv : MLv} {i : Nat} {x : Int32} (h : mLookI lv i = some x) : mLook lv i = some (.int x) := by
  unfold mLookI at h
  split at h
  · next h2 => cases h; exact h2
  · cases h
theorem mLookL_eq {lv : MLv} {i : Nat} {x : Int64} (h : mLookL lv i = some x) : mLook lv i = some (.long x) := by
  unfold mLookL at h
  split at h
  · next h2 => cases h; exact h2
  · cases h
theorem mLookA_eq {lv : MLv} {i : Nat} {x : Option Nat} (h : mLookA lv i = some x) : mLook lv i = some (va_rf x) := by
  unfold mLookA at h
  split at h
  · next h2 => cases h; exact h2
  · next h2 => cases h; exact h2
  · cases h
end
section
/-! THE SMALL MACHINE'S STEPS OVER LOCALS AND THE STACK ARE THE MACHINE'S -/
def mLen (ins : Instr) : Nat := match ins with
  | .aload _ | .iload _ | .lload _ | .istore _ | .astore _ | .lstore _ | .bipush _ | .ldc _ | .newarray _ => 2
  | .sipush _ | .ldc2_w _ | .iinc _ _ | .goto _ | .ifCond _ _ | .if_icmp _ _ | .ifnull _ | .ifnonnull _ | .getfield _ | .putfield _ | .anewarray _ | .new _ | .invokevirtual _ | .invokestatic _ | .invokespecial _ | .checkcast _ => 3
  | .tableswitch _ _ _ _ | .lookupswitch _ _ => 0
  | _ => 1
def mDec (cc : ByteArray) (pc : Nat) (ins : Instr) : Prop := ∃ len, decode cc pc = .ok (ins, len) ∧ (mLen ins = 0 ∨ len = mLen ins)
theorem mDec.at {cc : ByteArray} {pc : Nat} {ins : Instr} (h : mDec cc pc ins) (hl : ¬ mLen ins = 0) : decode cc pc = .ok (ins, mLen ins) := by
  obtain ⟨len, h1, h2⟩ := h
  rcases h2 with h2 | h2
  · exact absurd h2 hl
  · rw [← h2]; exact h1
section ML
variable {p : Program} {l : Launch} {e : Env} {R : Room} {s : State} {m : MethodId} {args : Array Value} {below : List Frame} {meth : Method} {c : Code} {H : Heap} {locs : List Loc} {cells slots : Nat} {Q : State → Prop}
variable {cc : ByteArray} {pc : Nat} {ls : Array Slot} {b0 base : Nat} {own : String} {P : MP} {y : Nat}
theorem mCond_sound (hexec : p.tables.exec = Jvm.exec) (hb : c.code = cc) {k : Jvm.ClassFile.Cond} {x : Int32} {off : Int} {tgt : Nat} {rest : List Value} (hdg : decode cc pc = .ok (.ifCond k off, 3)) (h1 : mTo pc off = some tgt)
    (kk : W p l e R s m args below meth c H locs cells slots Q (F0 m (if mIf k x 0 = true then tgt else pc + 3) ls rest)) :
    W p l e R s m args below meth c H locs cells slots Q (F0 m pc ls (.int x :: rest)) := by
  have ht := mTo_eq h1
  cases k with
  | eq => exact lv_if_eq hexec hb hdg ht (fun q => by simpa [mIf, q] using kk) (fun q => by simpa [mIf, q] using kk)
  | ne => exact lv_if_ne hexec hb hdg ht (fun q => by simpa [mIf, q] using kk) (fun q => by simpa [mIf, q] using kk)
  | lt => exact lv_if_lt hexec hb hdg ht (fun q => by simpa [mIf, q] using kk) (fun q => by simpa [mIf, q] using kk)
  | ge => exact lv_if_ge hexec hb hdg ht (fun q => by simpa [mIf, q] using kk) (fun q => by simpa [mIf, q] using kk)
  | gt => exact lv_if_gt hexec hb hdg ht (fun q => by simpa [mIf, q] using kk) (fun q => by simpa [mIf, q] using kk)
  | le => exact lv_if_le hexec hb hdg ht (fun q => by simpa [mIf, q] using kk) (fun q => by simpa [mIf, q] using kk)
theorem mIcmp_sound (hexec : p.tables.exec = Jvm.exec) (hb : c.code = cc) {k : Jvm.ClassFile.Cond} {x z : Int32} {off : Int} {tgt : Nat} {rest : List Value} (hdg : decode cc pc = .ok (.if_icmp k off, 3)) (h1 : mTo pc off = some tgt)
    (kk : W p l e R s m args below meth c H locs cells slots Q (F0 m (if mIf k x z = true then tgt else pc + 3) ls rest)) :
    W p l e R s m args below meth c H locs cells slots Q (F0 m pc ls (.int z :: .int x :: rest)) := by
  have ht := mTo_eq h1
  cases k with
  | eq => exact lv_icmp_eq hexec hb hdg ht (fun q => by simpa [mIf, q] using kk) (fun q => by simpa [mIf, q] using kk)
  | ne => exact lv_icmp_ne hexec hb hdg ht (fun q => by simpa [mIf, q] using kk) (fun q => by simpa [mIf, q] using kk)
  | lt => exact lv_icmp_lt hexec hb hdg ht (fun q => by simpa [mIf, q] using kk) (fun q => by simpa [mIf, q] using kk)
  | ge => exact lv_icmp_ge hexec hb hdg ht (fun q => by simpa [mIf, q] using kk) (fun q => by simpa [mIf, q] using kk)
  | gt => exact lv_icmp_gt hexec hb hdg ht (fun q => by simpa [mIf, q] using kk) (fun q => by simpa [mIf, q] using kk)
  | le => exact lv_icmp_le hexec hb hdg ht (fun q => by simpa [mIf, q] using kk) (fun q => by simpa [mIf, q] using kk)
set_option maxHeartbeats 4000000 in
theorem mLocal_sound (hexec : p.tables.exec = Jvm.exec) (hb : c.code = cc) (hown : s.vm.findClass own = some m.cls)
    (hldc : ∀ i v, mpLdc P y i = some v → (Jvm.Cond.constant own i v).before args s = true) (hldc2 : ∀ i v, mpLdc2 P y i = some v → (Jvm.Cond.constantLong own i v).before args s = true)
    {ins : Instr} (hdg : mDec cc pc ins) {lv : MLv} {st : List Value} {q : Nat × MLv × List Value} (h : mLocal y P ins pc lv st = some q) (hl : lv_has ls (mpInfo P y).1 (mLvT b0 base lv))
    (kk : ∀ ls' : Array Slot, lv_has ls' (mpInfo P y).1 (mLvT b0 base q.2.1) → W p l e R s m args below meth c H locs cells slots Q (F0 m q.1 ls' (q.2.2.map (mV b0 base)))) :
    W p l e R s m args below meth c H locs cells slots Q (F0 m pc ls (st.map (mV b0 base))) := by
  cases ins with
  | aload_n k =>
    simp only [mLocal, mLocalC, Option.map_eq_some_iff] at h
    obtain ⟨v, hv, rfl⟩ := h
    have h2 := mLook_at hl (mLookA_eq hv)
    have k2 := kk ls hl
    rw [mV_rf] at h2
    simp only [List.map_cons, mV_rf] at k2
    cases v with
    | none => exact lv_aload_nN hexec hb (hdg.at (by simp [mLen])) rfl h2 k2
    | some x => exact lv_aload_n hexec hb (hdg.at (by simp [mLen])) rfl h2 k2
  | aload i =>
    simp only [mLocal, mLocalC, Option.map_eq_some_iff] at h
    obtain ⟨v, hv, rfl⟩ := h
    have h2 := mLook_at hl (mLookA_eq hv)
    have k2 := kk ls hl
    rw [mV_rf] at h2
    simp only [List.map_cons, mV_rf] at k2
    cases v with
    | none => exact lv_aloadN hexec hb (hdg.at (by simp [mLen])) h2 k2
    | some x => exact lv_aload hexec hb (hdg.at (by simp [mLen])) h2 k2
  | iload_n k =>
    simp only [mLocal, mLocalC, Option.map_eq_some_iff] at h
    obtain ⟨v, hv, rfl⟩ := h
    exact lv_iload_n hexec hb (hdg.at (by simp [mLen])) rfl (mLook_at hl (mLookI_eq hv)) (kk ls hl)
  | iload i =>
    simp only [mLocal, mLocalC, Option.map_eq_some_iff] at h
    obtain ⟨v, hv, rfl⟩ := h
    exact lv_iload hexec hb (hdg.at (by simp [mLen])) (mLook_at hl (mLookI_eq hv)) (kk ls hl)
  | lload_n k =>
    simp only [mLocal, mLocalC, Option.map_eq_some_iff] at h
    obtain ⟨v, hv, rfl⟩ := h
    exact lv_lload_n hexec hb (hdg.at (by simp [mLen])) rfl (mLook_at hl (mLookL_eq hv)) (kk ls hl)
  | lload i =>
    simp only [mLocal, mLocalC, Option.map_eq_some_iff] at h
    obtain ⟨v, hv, rfl⟩ := h
    exact lv_lload hexec hb (hdg.at (by simp [mLen])) (mLook_at hl (mLookL_eq hv)) (kk ls hl)
  | iconst n =>
    cases h
    exact lv_iconst hexec hb (hdg.at (by simp [mLen])) rfl (kk ls hl)
  | bipush n =>
    cases h
    exact lv_bipush hexec hb (hdg.at (by simp [mLen])) rfl (kk ls hl)
  | sipush n =>
    cases h
    exact lv_sipush hexec hb (hdg.at (by simp [mLen])) rfl (kk ls hl)
  | lconst n =>
    cases h
    exact lv_lconst hexec hb (hdg.at (by simp [mLen])) rfl (kk ls hl)
  | aconst_null =>
    cases h
    exact lv_null hexec hb (hdg.at (by simp [mLen])) (kk ls hl)
  | ldc i =>
    simp only [mLocal, mLocalC, Option.map_eq_some_iff] at h
    obtain ⟨v, hv, rfl⟩ := h
    exact lv_ldc hexec hb hown (hldc i v hv) (hdg.at (by simp [mLen])) (kk ls hl)
  | ldc2_w i =>
    simp only [mLocal, mLocalC, Option.map_eq_some_iff] at h
    obtain ⟨v, hv, rfl⟩ := h
    exact lv_ldc2 hexec hb hown (hldc2 i v hv) (hdg.at (by simp [mLen])) (kk ls hl)
  | istore_n k =>
    simp only [mLocal, mLocalC, Option.bind_eq_some_iff] at h
    obtain ⟨w, hw, h⟩ := h
    split at h
    · next hn =>
      cases h
      rw [mI1_eq hw]
      exact lv_istore_n hexec hb (hdg.at (by simp [mLen])) rfl hl hn (mSt1_T b0 base lv k (.int w.1)) (fun ls' hl' => kk ls' hl')
    · cases h
  | istore i =>
    simp only [mLocal, mLocalC, Option.bind_eq_some_iff] at h
    obtain ⟨w, hw, h⟩ := h
    split at h
    · next hn =>
      cases h
      rw [mI1_eq hw]
      exact lv_istore hexec hb (hdg.at (by simp [mLen])) hl hn (mSt1_T b0 base lv i (.int w.1)) (fun ls' hl' => kk ls' hl')
    · cases h
  | lstore_n k =>
    simp only [mLocal, mLocalC, Option.bind_eq_some_iff] at h
    obtain ⟨w, hw, h⟩ := h
    split at h
    · next hn =>
      cases h
      rw [mL1_eq hw]
      exact lv_lstore_n hexec hb (hdg.at (by simp [mLen])) rfl hl hn (mSt2_T b0 base lv k (.long w.1)) (fun ls' hl' => kk ls' hl')
    · cases h
  | lstore i =>
    simp only [mLocal, mLocalC, Option.bind_eq_some_iff] at h
    obtain ⟨w, hw, h⟩ := h
    split at h
    · next hn =>
      cases h
      rw [mL1_eq hw]
      exact lv_lstore hexec hb (hdg.at (by simp [mLen])) hl hn (mSt2_T b0 base lv i (.long w.1)) (fun ls' hl' => kk ls' hl')
    · cases h
  | astore_n k =>
    simp only [mLocal, mLocalC, Option.bind_eq_some_iff] at h
    obtain ⟨w, hw, h⟩ := h
    split at h
    · next hn =>
      cases h
      rw [mA1_eq hw]
      obtain ⟨w1, w2⟩ := w
      have k2 := mSt1_T b0 base lv k (va_rf w1)
      cases w1 with
      | none => exact lv_astore_nN hexec hb (hdg.at (by simp [mLen])) rfl hl hn k2 (fun ls' hl' => kk ls' hl')
      | some x => exact lv_astore_n hexec hb (hdg.at (by simp [mLen])) rfl hl hn k2 (fun ls' hl' => kk ls' hl')
    · cases h
  | astore i =>
    simp only [mLocal, mLocalC, Option.bind_eq_some_iff] at h
    obtain ⟨w, hw, h⟩ := h
    split at h
    · next hn =>
      cases h
      rw [mA1_eq hw]
      obtain ⟨w1, w2⟩ := w
      have k2 := mSt1_T b0 base lv i (va_rf w1)
      cases w1 with
      | none => exact lv_astoreN hexec hb (hdg.at (by simp [mLen])) hl hn k2 (fun ls' hl' => kk ls' hl')
      | some x => exact lv_astore hexec hb (hdg.at (by simp [mLen])) hl hn k2 (fun ls' hl' => kk ls' hl')
    · cases h
  | iinc i n =>
    simp only [mLocal, mLocalC, Option.bind_eq_some_iff] at h
    obtain ⟨w, hw, h⟩ := h
    split at h
    · next hn =>
      cases h
      obtain ⟨k, hk⟩ := mLook_pos b0 base (mLookI_eq hw)
      exact lv_iinc hexec hb (hdg.at (by simp [mLen])) hl hk rfl hn (mSt1_T b0 base lv i (.int (w + Int32.ofInt n))) (fun ls' hl' => kk ls' hl')
    · cases h
  | iadd =>
    simp only [mLocal, mLocalC, Option.map_eq_some_iff] at h
    obtain ⟨w, hw, rfl⟩ := h
    rw [mI2_eq hw]
    exact lv_iadd hexec hb (hdg.at (by simp [mLen])) (kk ls hl)
  | isub =>
    simp only [mLocal, mLocalC, Option.map_eq_some_iff] at h
    obtain ⟨w, hw, rfl⟩ := h
    rw [mI2_eq hw]
    exact lv_isub hexec hb (hdg.at (by simp [mLen])) (kk ls hl)
  | imul =>
    simp only [mLocal, mLocalC, Option.map_eq_some_iff] at h
    obtain ⟨w, hw, rfl⟩ := h
    rw [mI2_eq hw]
    exact lv_imul hexec hb (hdg.at (by simp [mLen])) (kk ls hl)
  | iand =>
    simp only [mLocal, mLocalC, Option.map_eq_some_iff] at h
    obtain ⟨w, hw, rfl⟩ := h
    rw [mI2_eq hw]
    exact lv_iand hexec hb (hdg.at (by simp [mLen])) (kk ls hl)
  | ior =>
    simp only [mLocal, mLocalC, Option.map_eq_some_iff] at h
    obtain ⟨w, hw, rfl⟩ := h
    rw [mI2_eq hw]
    exact lv_ior hexec hb (hdg.at (by simp [mLen])) (kk ls hl)
  | ishl =>
    simp only [mLocal, mLocalC, Option.map_eq_some_iff] at h
    obtain ⟨w, hw, rfl⟩ := h
    rw [mI2_eq hw]
    exact lv_ishl hexec hb (hdg.at (by simp [mLen])) (kk ls hl)
  | ishr =>
    simp only [mLocal, mLocalC, Option.map_eq_some_iff] at h
    obtain ⟨w, hw, rfl⟩ := h
    rw [mI2_eq hw]
    exact lv_ishr hexec hb (hdg.at (by simp [mLen])) (kk ls hl)
  | ladd =>
    simp only [mLocal, mLocalC, Option.map_eq_some_iff] at h
    obtain ⟨w, hw, rfl⟩ := h
    rw [mL2_eq hw]
    exact lv_ladd hexec hb (hdg.at (by simp [mLen])) (kk ls hl)
  | lsub =>
    simp only [mLocal, mLocalC, Option.map_eq_some_iff] at h
    obtain ⟨w, hw, rfl⟩ := h
    rw [mL2_eq hw]
    exact lv_lsub hexec hb (hdg.at (by simp [mLen])) (kk ls hl)
  | lmul =>
    simp only [mLocal, mLocalC, Option.map_eq_some_iff] at h
    obtain ⟨w, hw, rfl⟩ := h
    rw [mL2_eq hw]
    exact lv_lmul hexec hb (hdg.at (by simp [mLen])) (kk ls hl)
  | ineg =>
    simp only [mLocal, mLocalC, Option.map_eq_some_iff] at h
    obtain ⟨w, hw, rfl⟩ := h
    rw [mI1_eq hw]
    exact lv_ineg hexec hb (hdg.at (by simp [mLen])) (kk ls hl)
  | iushr =>
    simp only [mLocal, mLocalC, Option.map_eq_some_iff] at h
    obtain ⟨w, hw, rfl⟩ := h
    rw [mI2_eq hw]
    exact lv_iushr hexec hb (hdg.at (by simp [mLen])) rfl (kk ls hl)
  | i2l =>
    simp only [mLocal, mLocalC, Option.map_eq_some_iff] at h
    obtain ⟨w, hw, rfl⟩ := h
    rw [mI1_eq hw]
    exact lv_i2l hexec hb (hdg.at (by simp [mLen])) rfl (kk ls hl)
  | l2i =>
    simp only [mLocal, mLocalC, Option.map_eq_some_iff] at h
    obtain ⟨w, hw, rfl⟩ := h
    rw [mL1_eq hw]
    exact lv_l2i hexec hb (hdg.at (by simp [mLen])) rfl (kk ls hl)
  | idiv =>
    simp only [mLocal, mLocalC, Option.bind_eq_some_iff] at h
    obtain ⟨w, hw, h⟩ := h
    split at h
    · cases h
    · next hn =>
      cases h
      rw [mI2_eq hw]
      exact lv_idiv hexec hb (hdg.at (by simp [mLen])) hn (kk ls hl)
  | irem =>
    simp only [mLocal, mLocalC, Option.bind_eq_some_iff] at h
    obtain ⟨w, hw, h⟩ := h
    split at h
    · cases h
    · next hn =>
      cases h
      rw [mI2_eq hw]
      exact lv_irem hexec hb (hdg.at (by simp [mLen])) hn (kk ls hl)
  | lcmp =>
    simp only [mLocal, mLocalC, Option.map_eq_some_iff] at h
    obtain ⟨w, hw, rfl⟩ := h
    rw [mL2_eq hw]
    exact W.lcmp hexec hb (hdg.at (by simp [mLen])) (kk ls hl)
  | dup =>
    simp only [mLocal, mLocalC] at h
    split at h
    · next v r =>
      split at h
      · next hv =>
        cases h
        exact lv_dup hexec hb (hdg.at (by simp [mLen])) (by rw [mV_cat]; exact hv) (kk ls hl)
      · cases h
    · cases h
  | pop =>
    simp only [mLocal, mLocalC] at h
    split at h
    · next v r =>
      split at h
      · next hv =>
        cases h
        exact lv_pop hexec hb (hdg.at (by simp [mLen])) (by rw [mV_cat]; exact hv) (kk ls hl)
      · cases h
    · cases h
  | dup2 =>
    simp only [mLocal, mLocalC] at h
    split at h
    · next v w r =>
      split at h
      · next hv =>
        cases h
        exact lv_dup2_11 hexec hb (hdg.at (by simp [mLen])) (by rw [mV_cat]; exact hv.1) (by rw [mV_cat]; exact hv.2) (kk ls hl)
      · cases h
    · cases h
  | goto off =>
    simp only [mLocal, mLocalC, Option.map_eq_some_iff] at h
    obtain ⟨t, ht, rfl⟩ := h
    exact lv_goto hexec hb (hdg.at (by simp [mLen])) (mTo_eq ht) (kk ls hl)
  | ifCond k off =>
    simp only [mLocal, mLocalC, Option.bind_eq_some_iff, Option.map_eq_some_iff] at h
    obtain ⟨w, hw, t, ht, rfl⟩ := h
    rw [mI1_eq hw]
    exact mCond_sound hexec hb (hdg.at (by simp [mLen])) ht (kk ls hl)
  | if_icmp k off =>
    simp only [mLocal, mLocalC, Option.bind_eq_some_iff, Option.map_eq_some_iff] at h
    obtain ⟨w, hw, t, ht, rfl⟩ := h
    rw [mI2_eq hw]
    exact mIcmp_sound hexec hb (hdg.at (by simp [mLen])) ht (kk ls hl)
  | ifnull off =>
    simp only [mLocal, mLocalC, Option.bind_eq_some_iff, Option.map_eq_some_iff] at h
    obtain ⟨w, hw, t, ht, rfl⟩ := h
    rw [mA1_eq hw]
    obtain ⟨w1, w2⟩ := w
    have k2 := kk ls hl
    cases w1 with
    | none => exact lv_ifnullN hexec hb (hdg.at (by simp [mLen])) (mTo_eq ht) (by simpa using k2)
    | some x => exact lv_ifnull hexec hb (hdg.at (by simp [mLen])) (by simpa using k2)
  | ifnonnull off =>
    simp only [mLocal, mLocalC, Option.bind_eq_some_iff, Option.map_eq_some_iff] at h
    obtain ⟨w, hw, t, ht, rfl⟩ := h
    rw [mA1_eq hw]
    obtain ⟨w1, w2⟩ := w
    have k2 := kk ls hl
    cases w1 with
    | none => exact lv_ifnonnullN hexec hb (hdg.at (by simp [mLen])) (by simpa using k2)
    | some x => exact lv_ifnonnull hexec hb (hdg.at (by simp [mLen])) (mTo_eq ht) (by simpa using k2)
  | tableswitch d lo hi offs =>
    simp only [mLocal, mLocalC, Option.bind_eq_some_iff] at h
    obtain ⟨w, hw, h⟩ := h
    rw [mI1_eq hw]
    obtain ⟨len, hd, -⟩ := hdg
    split at h
    · next hn =>
      simp only [Option.map_eq_some_iff] at h
      obtain ⟨t, ht, rfl⟩ := h
      exact lv_tableOut hexec hb hd hn (mTo_eq ht) (kk ls hl)
    · next hn =>
      simp only [Option.bind_eq_some_iff, Option.map_eq_some_iff] at h
      obtain ⟨o, ho, t, ht, rfl⟩ := h
      exact lv_tableIn hexec hb hd (fun z => hn (Or.inl z)) (fun z => hn (Or.inr z)) ho (mTo_eq ht) (kk ls hl)
  | lookupswitch d ps =>
    simp only [mLocal, mLocalC, Option.bind_eq_some_iff] at h
    obtain ⟨w, hw, h⟩ := h
    rw [mI1_eq hw]
    obtain ⟨len, hd, -⟩ := hdg
    split at h
    · next hn =>
      simp only [Option.map_eq_some_iff] at h
      obtain ⟨t, ht, rfl⟩ := h
      exact lv_lookup hexec hb hd hn rfl (mTo_eq ht) (kk ls hl)
    · cases h
  | _ => simp [mLocal, mLocalC] at h
end ML
end
section
/-! THE SMALL MACHINE'S STORE IN THE HEAP -/
def mHp (D : va_G) (cl : List vw_C) (aC : Nat → ClassId) (b0 base : Nat) (s : State) (σ : List MC) (H : Heap) (locs : List Loc) : Prop :=
  va_P D cl (mW b0 base aC σ) H ∧ H.size = base + σ.length ∧ va_S (fun q => base ≤ q) s.heap H locs
theorem mHp.upd {D : va_G} {cl : List vw_C} {aC : Nat → ClassId} {b0 base : Nat} {s : State} {σ : List MC} {H H1 : Heap} {locs : List Loc} (h : mHp D cl aC b0 base s σ H locs) {k : Nat} {e0 e : MC} (hk : σ[k]? = some e0) (he : va_at D cl (base + k, mE b0 base aC e) H1) (z : H1.size = H.size) (oq : ∀ q, q ≠ base + k → H1[q]? = H[q]?) (i : Nat) : mHp D cl aC b0 base s (σ.set k e) H1 (locs ++ [⟨base + k, i⟩]) := by
  obtain ⟨hP, hz, hS⟩ := h
  refine ⟨?_, by rw [z, hz, List.length_set], hS.put z oq (Nat.le_add_right _ _)⟩
  rw [mW_set]
  exact hP.set mW_D (mW_get hk) he oq
theorem mHp.push {D : va_G} {cl : List vw_C} {aC : Nat → ClassId} {b0 base : Nat} {s : State} {σ : List MC} {H H1 : Heap} {locs : List Loc} (h : mHp D cl aC b0 base s σ H locs) {e : MC} (he : va_at D cl (H.size, mE b0 base aC e) H1) (z : H1.size = H.size + 1) (oq : ∀ q, q < H.size → H1[q]? = H[q]?) : mHp D cl aC b0 base s (σ ++ [e]) H1 locs := by
  obtain ⟨hP, hz, hS⟩ := h
  refine ⟨?_, by rw [z, hz, List.length_append]; simp; omega, ⟨Nat.le_trans hS.1 (by omega), fun x h1 h2 => (oq x (Nat.lt_of_lt_of_le h1 hS.1)).trans (hS.2.1 x h1 h2), hS.2.2⟩⟩
  rw [mW_push]
  refine va_P.app (hP.kept fun k x hx => oq x.1 ((hP k x hx).lt)) (fun k x hx => ?_)
  have hk : k < 1 := (List.getElem?_eq_some_iff.mp hx).1
  rw [show k = 0 by omega] at hx
  cases hx
  rw [← hz]
  exact he
theorem mSl_set {σ : List MC} {k : Nat} {e0 e : MC} (hk : σ[k]? = some e0) (hz : mSz e = mSz e0) : mSl (σ.set k e) = mSl σ := by
  induction σ generalizing k with
  | nil => simp at hk
  | cons a t ih =>
    cases k with
    | zero => simp at hk; subst hk; simp [mSl, hz]
    | succ k =>
      simp at hk
      have := ih hk
      simp only [mSl, List.set_cons_succ, List.map_cons, List.sum_cons] at this ⊢
      rw [this]
theorem mSl_push {σ : List MC} {e : MC} : mSl (σ ++ [e]) = mSl σ + mSz e := by simp [mSl]
theorem mObj_eq {σ : List MC} {a : Nat} {o : Nat × List Value} (h : mObj σ a = some o) : ∃ k, a = k + 1 ∧ σ[k]? = some (.inr o) := by
  unfold mObj mCell at h
  cases a with
  | zero => simp at h
  | succ k =>
    refine ⟨k, rfl, ?_⟩
    simp only at h
    split at h
    · next h2 => cases h; exact h2
    · cases h
theorem mCInts_eq {σ : List MC} {a : Nat} {g : Nat × (Nat → Int32)} (h : mCInts σ a = some g) : ∃ k, a = k + 1 ∧ σ[k]? = some (.inl (0, g.1, .inl g.2)) := by
  unfold mCInts mCell at h
  cases a with
  | zero => simp at h
  | succ k =>
    refine ⟨k, rfl, ?_⟩
    simp only at h
    split at h
    · next h2 => cases h; exact h2
    · cases h
theorem mBools_eq {σ : List MC} {a : Nat} {g : Nat × (Nat → Int32)} (h : mBools σ a = some g) : ∃ k, a = k + 1 ∧ σ[k]? = some (.inl (2, g.1, .inl g.2)) := by
  unfold mBools mCell at h
  cases a with
  | zero => simp at h
  | succ k =>
    refine ⟨k, rfl, ?_⟩
    simp only at h
    split at h
    · next h2 => cases h; exact h2
    · cases h
theorem mLongs_eq {σ : List MC} {a : Nat} {g : Nat × (Nat → Int64)} (h : mLongs σ a = some g) : ∃ k, a = k + 1 ∧ σ[k]? = some (.inl (1, g.1, .inr (.inl g.2))) := by
  unfold mLongs mCell at h
  cases a with
  | zero => simp at h
  | succ k =>
    refine ⟨k, rfl, ?_⟩
    simp only at h
    split at h
    · next h2 => cases h; exact h2
    · cases h
theorem mRefs_eq {σ : List MC} {a : Nat} {g : Nat × Nat × (Nat → Option Nat)} (h : mRefs σ a = some g) : ∃ k, a = k + 1 ∧ σ[k]? = some (.inl (g.1, g.2.1, .inr (.inr (.inr (.inr g.2.2))))) ∧ 3 ≤ g.1 ∧ g.1 < 10 := by
  unfold mRefs mCell at h
  cases a with
  | zero => simp at h
  | succ k =>
    refine ⟨k, rfl, ?_⟩
    simp only at h
    split at h
    · next h2 =>
      split at h
      · next h3 => cases h; exact ⟨h2, h3⟩
      · cases h
    · cases h
theorem mIn_eq {i : Int32} {n : Nat} (h : mIn i n = true) : vp_in i n := by
  simp only [mIn, Bool.and_eq_true, Bool.not_eq_true', decide_eq_false_iff_not, decide_eq_true_eq] at h
  exact fun q => q.elim h.1 (fun z => absurd h.2 (Nat.not_lt.mpr z))
/-- the array types of the small machine, by their numbers -/
def mTys (aC : Nat → ClassId) (tyL : List FieldType) : List (ClassId × FieldType) := tyL.mapIdx (fun i t => (aC i, t))
theorem mTys_at {aC : Nat → ClassId} {tyL : List FieldType} {k : Nat} {t : FieldType} (h : tyL[k]? = some t) : (mTys aC tyL)[k]? = some (aC k, t) := by simp [mTys, h]
/-- of each array type, its class: the first found by its name; its component -/
def mAr (aC : Nat → ClassId) (tyL : List FieldType) (s : State) : Prop := ∀ (k : Nat) (t : FieldType), tyL[k]? = some t → ∃ (kA : Class) (comp : ClassId), s.vm.classes[aC k]? = some kA ∧ kA.kind = .array comp t ∧ s.vm.findClass ("[" ++ t.toString) = some (aC k) ∧ (t.isReference = true → s.vm.findClass (match t with | .object C => C | u => u.toString) = some comp)
theorem mAr.arr {aC : Nat → ClassId} {tyL : List FieldType} {s : State} (h : mAr aC tyL s) {k : Nat} {t : FieldType} (hk : tyL[k]? = some t) : ArrOfT s (aC k) t := by
  obtain ⟨kA, comp, h1, h2, -, -⟩ := h k t hk
  exact fun n z => ⟨(fun q h => by cases h), kA, h1, comp, h2⟩
theorem mAr.moved {aC : Nat → ClassId} {tyL : List FieldType} {u U : State} (hvm : u.vm.Alike U.vm) (h : mAr aC tyL u) : mAr aC tyL U := by
  intro k t hk
  obtain ⟨kA, comp, h1, h2, h3, h4⟩ := h k t hk
  obtain ⟨k', hk', he⟩ := hvm.2.2 _ _ h1
  exact ⟨k', comp, hk', by rw [he]; exact h2, by rw [hvm.findClass]; exact h3, fun hr => by rw [hvm.findClass]; exact h4 hr⟩
end
section
/-! WHAT A PROGRAM'S TABLES MUST HOLD -/
def mOKcode (P : MP) (byt : Nat → ByteArray) : Prop := ∀ y pc ins, mpCode P y pc = some ins → mDec (byt y) pc ins
def mOKldc (Ts : List Cond) (P : MP) (nm : Nat → MethodName) : Prop := (∀ y i v, mpLdc P y i = some v → Cond.constant (nm y).cls i v ∈ Ts) ∧ ∀ y i v, mpLdc2 P y i = some v → Cond.constantLong (nm y).cls i v ∈ Ts
def mOKfld (Ts : List Cond) (cl : List vw_C) (P : MP) (nm : Nat → MethodName) : Prop := ∀ y i q, mpFld P y i = some q → ∃ C T N, cl[q.1]? = some (C, T, N) ∧ q.2 < N ∧ Cond.fieldLink (nm y).cls i (T q.2).1 (T q.2).2.1 (T q.2).2.2.1 ∈ Ts
def mOKcls (Ts : List Cond) (cl : List vw_C) (P : MP) (nm : Nat → MethodName) : Prop := ∀ ci C T N, cl[ci]? = some (C, T, N) → (∀ w ∈ u_ws C T N, w ∈ Ts) ∧ (∀ k, k < N → parseFieldDescriptor (T k).2.2.1 = some (mpFty P ci k).1) ∧ (∀ k, k < N → (mpFty P ci k).2 = (T k).2.2.2 ∧ (T k).1 = C) ∧ (∀ a, a < N → ∀ b, b < N → a ≠ b → (T a).2.1 ≠ (T b).2.1) ∧ ∀ y, (mpInfo P y).2.2.2.2.1 = true → (mpInfo P y).2.2.2.2.2 = ci → (nm y).cls = C
def mOKnew (Ts : List Cond) (cl : List vw_C) (P : MP) (nm : Nat → MethodName) : Prop := ∀ y i q, mpNew P y i = some q → ∃ C T N, cl[q.1]? = some (C, T, N) ∧ q.2.length = N ∧ Cond.classLink (nm y).cls i C ∈ Ts ∧ Cond.instantiable C N ∈ Ts ∧ Cond.initialized C ∈ Ts ∧ ∀ j, j < N → q.2[j]? = some (defaultValue (mpFty P q.1 j).1)
def mOKarr (Ts Ns : List Cond) (tyL : List FieldType) (P : MP) (nm : Nat → MethodName) : Prop := (tyL[0]? = some .int ∧ tyL[1]? = some .long ∧ tyL[2]? = some .boolean) ∧ (Cond.arrayClass .int ∈ Ts ∧ Cond.arrayClass .long ∈ Ts ∧ Cond.arrayClass .boolean ∈ Ts) ∧ (tyL.length = 10 ∧ ∀ k t, tyL[k]? = some t → 3 ≤ k → t.isReference = true) ∧ ∀ y i k, mpArr P y i = some k → (∃ C, tyL[k]? = some (.object C) ∧ Cond.classLink (nm y).cls i C ∈ Ts ∧ Cond.arrayOver (.object C) ∈ Ns) ∨ ∃ t, tyL[k]? = some (.array t) ∧ Cond.classLink (nm y).cls i (FieldType.array t).toString ∈ Ts ∧ Cond.arrayOver (.array t) ∈ Ns
def mOKelem (cl : List vw_C) (tyL : List FieldType) (P : MP) : Prop := ∀ t e, mpElem P t e = true → (∃ ci fs C T N, e = .inr (ci, fs) ∧ cl[ci]? = some (C, T, N) ∧ tyL[t]? = some (.object C)) ∨ ∃ k u n x, e = .inl (k, n, x) ∧ tyL[k]? = some u ∧ tyL[t]? = some (.array u)
/-- the calls: 0 static, 1 by the receiver's class, 2 a constructor, 3 a nest mate's constructor, 4 a nest mate's static method, 5 Object's constructor, 6 arraycopy, 7 Math.max, 8 Math.min -/
def mOKinv (Ts Ns : List Cond) (cl : List vw_C) (P : MP) (nm : Nat → MethodName) (byt : Nat → ByteArray) (rt : Nat → Option FieldType) : Prop := ∀ y i q, mpInv P y i = some q →
  (q.1 < 5 → Cond.code (nm q.2.1) (byt q.2.1) (mpInfo P q.2.1).1 (rt q.2.1) ∈ Ts ∧ Cond.initialized (nm q.2.1).cls ∈ Ts ∧ plainName (nm q.2.1).cls = true ∧ (nm q.2.1).cls ≠ "java/lang/invoke/MethodHandle" ∧ (nm q.2.1).cls ≠ "java/lang/invoke/VarHandle") ∧
  (q.1 = 0 ∨ q.1 = 1 ∨ q.1 = 2 → Cond.methodLink (nm y).cls i (nm q.2.1) ∈ Ts) ∧
  (q.1 = 3 ∨ q.1 = 4 → ∃ host, Cond.methodLinkNest (nm y).cls i (nm q.2.1) host ∈ Ns) ∧
  (q.1 = 0 ∨ q.1 = 4 → Cond.static (nm q.2.1) ∈ Ts ∧ (parseMethodDescriptor (nm q.2.1).desc).map (fun d => d.parameters.length) = some q.2.2) ∧
  (q.1 = 1 → Cond.instanceMethod (nm q.2.1) ∈ Ts ∧ Cond.selects (nm q.2.1).cls (nm q.2.1) (nm q.2.1) ∈ Ts ∧ (parseMethodDescriptor (nm q.2.1).desc).map (fun d => d.parameters.length + 1) = some q.2.2 ∧ ∃ T N, cl[(mpInfo P q.2.1).2.2.2.2.2]? = some ((nm q.2.1).cls, T, N)) ∧
  (q.1 = 2 ∨ q.1 = 3 → Cond.instanceMethod (nm q.2.1) ∈ Ts ∧ (nm q.2.1).name = "<init>" ∧ rt q.2.1 = none ∧ (parseMethodDescriptor (nm q.2.1).desc).map (fun d => d.parameters.length + 1) = some q.2.2) ∧
  (q.1 = 5 → Cond.methodLink (nm y).cls i Lib.objectInit ∈ Ts ∧ Cond.instanceMethod Lib.objectInit ∈ Ts ∧ Cond.code Lib.objectInit ⟨#[0xb1]⟩ 1 none ∈ Ts) ∧
  (q.1 = 6 → Cond.methodLink (nm y).cls i arraycopyName ∈ Ts ∧ Cond.native arraycopyName ∈ Ts ∧ Cond.static arraycopyName ∈ Ts ∧ Cond.initialized "java/lang/System" ∈ Ts) ∧
  (q.1 = 7 → Cond.methodLink (nm y).cls i Lib.Math.max.name ∈ Ts ∧ Cond.static Lib.Math.max.name ∈ Ts ∧ Cond.initialized "java/lang/Math" ∈ Ts ∧ Cond.code Lib.Math.max.name Lib.Math.max.code 2 (some .int) ∈ Ts) ∧
  (q.1 = 8 → Cond.methodLink (nm y).cls i Lib.Math.min.name ∈ Ts ∧ Cond.static Lib.Math.min.name ∈ Ts ∧ Cond.initialized "java/lang/Math" ∈ Ts ∧ Cond.code Lib.Math.min.name Lib.Math.min.code 2 (some .int) ∈ Ts)
def mOKret (P : MP) (nm : Nat → MethodName) (rt : Nat → Option FieldType) : Prop := ∀ y, ((mpInfo P y).2.2.2.1 = 0 → rt y = none) ∧ ((mpInfo P y).2.2.2.1 = 1 → rt y = some .int) ∧ ((mpInfo P y).2.2.2.1 = 2 → rt y = some .long) ∧ ((mpInfo P y).2.2.2.1 = 3 → ∃ t, rt y = some t ∧ ((∃ n, t = .object n) ∨ ∃ u, t = .array u)) ∧ ((mpInfo P y).2.2.2.1 = 4 → rt y = some .boolean) ∧ ((mpInfo P y).2.2.2.2.1 = true → (nm y).name = "<init>")
def mOK (Ts Ns : List Cond) (cl : List vw_C) (tyL : List FieldType) (P : MP) (nm : Nat → MethodName) (byt : Nat → ByteArray) (rt : Nat → Option FieldType) : Prop :=
  mOKcode P byt ∧ mOKldc Ts P nm ∧ mOKfld Ts cl P nm ∧ mOKcls Ts cl P nm ∧ mOKnew Ts cl P nm ∧ mOKarr Ts Ns tyL P nm ∧ mOKelem cl tyL P ∧ mOKinv Ts Ns cl P nm byt rt ∧ mOKret P nm rt
theorem mIA_eq {st : List Value} {q : Int32 × Nat × List Value} (h : mIA st = some q) : st = .int q.1 :: .ref q.2.1 :: q.2.2 := by
  unfold mIA at h
  split at h
  · cases h; rfl
  · cases h
theorem mInts_eq {L : Nat} {xs : Nat → Int32} {σ : List MC} {a : Nat} {g : Nat × (Nat → Int32)} (h : mInts L xs σ a = some g) : (a = 0 ∧ g = (L, xs)) ∨ ∃ k, a = k + 1 ∧ σ[k]? = some (.inl (0, g.1, .inl g.2)) := by
  unfold mInts at h
  cases a with
  | zero => simp at h; exact Or.inl ⟨rfl, h.symm⟩
  | succ k =>
    refine Or.inr ⟨k, rfl, ?_⟩
    simp only at h
    split at h
    · next h2 => cases h; exact h2
    · cases h
theorem mLong_eq {L : Nat} {σ : List MC} {a n : Nat} (h : mLong σ L a = some n) : (a = 0 ∧ n = L) ∨ ∃ k t x, a = k + 1 ∧ σ[k]? = some (.inl (t, n, x)) ∧ t < 10 := by
  unfold mLong at h
  cases a with
  | zero => simp at h; exact Or.inl ⟨rfl, h.symm⟩
  | succ k =>
    simp only at h
    split at h
    · next h2 =>
      split at h
      · next h3 => cases h; exact Or.inr ⟨k, _, _, rfl, h2, h3⟩
      · cases h
    · cases h
theorem mC_i (cA : ClassId) (n j : Nat) (f : Nat → Int32) (x : Int32) : (vp_cell cA (n, .inl f)).setSlot j (.int x) = vp_cell cA (n, .inl (upd f j x)) := by
  rw [vp_cell_i, vp_cell_i, arrV_store]
  congr 1
  funext q
  by_cases hq : q = j <;> simp [updV, upd, hq]
theorem mC_l (cA : ClassId) (n j : Nat) (f : Nat → Int64) (x : Int64) : (vp_cell cA (n, .inr (.inl f))).setSlot j (.long x) = vp_cell cA (n, .inr (.inl (vp_updL f j x))) := by
  rw [vp_cell_l, vp_cell_l, arrV_store]
  congr 1
  funext q
  by_cases hq : q = j <;> simp [updV, vp_updL, hq]
theorem mC_q (cA : ClassId) (n j : Nat) (f : Nat → Option Nat) (x : Option Nat) : (vp_cell cA (n, .inr (.inr (.inr (.inr f))))).setSlot j (va_rf x) = vp_cell cA (n, .inr (.inr (.inr (.inr (va_up f j x))))) := by
  rw [vp_cell_q, vp_cell_q, arrV_store]
  congr 1
  funext q
  by_cases hq : q = j <;> simp [updV, va_up, hq]
theorem mUp_map (g : Nat → Nat) (f : Nat → Option Nat) (j : Nat) (x : Option Nat) : (fun k => (va_up f j x k).map g) = va_up (fun k => (f k).map g) j (x.map g) := by
  funext q
  by_cases hq : q = j <;> simp [va_up, hq]
theorem mV_default (b0 base : Nat) (t : FieldType) : mV b0 base (defaultValue t) = defaultValue t := by cases t <;> rfl
/-- the words that are no tables' words of the kit's kind: links to nest mates, arrays over a class -/
def mNs (Ns : List Cond) (U : State) : Prop := ∀ w ∈ Ns, va_Nw w U
def mOKns (Ns : List Cond) : Prop := ∀ w ∈ Ns, (∃ a i x h, w = .methodLinkNest a i x h) ∨ (∃ C, w = .arrayOver (.object C)) ∨ ∃ t, w = .arrayOver (.array t)
theorem mAOA_moved {t : FieldType} {u U : State} (hvm : u.vm.Alike U.vm) (h : va_Nw (.arrayOver (.array t)) u) : va_Nw (.arrayOver (.array t)) U := by
  obtain ⟨comp, c, k, h1, h2, h3, h4, h5⟩ := arrayOverA_spec h
  obtain ⟨k', hk', he⟩ := hvm.2.2 _ _ h3
  have hi : (U.vm.classes.findIdx? fun (x : Class) => match x.kind with | .array component _ => component == comp | _ => false) = some c := by
    rw [hvm.findIdx?_eq _ (fun _ => rfl)]
    exact h2
  have hkind : k'.kind = .array comp (.array t) := by rw [he]; exact h4
  have f1 : U.vm.findClass (FieldType.array t).toString = some comp := by rw [hvm.findClass]; exact h1
  have f2 : U.vm.findClass ("[" ++ (FieldType.array t).toString) = some c := by rw [hvm.findClass]; exact h5
  unfold va_Nw Cond.before Cond.holds
  simp only [Cond.value]
  rw [f1, Option.bind_some]
  refine (congrArg (fun o : Option Nat => (o.bind (fun c => (U.vm.classes[c]?).map fun (k : Class) => match k.kind with | .array _ ty => decide (ty = FieldType.array t) && decide (U.vm.findClass ("[" ++ (FieldType.array t).toString) = some c) | _ => false) == some true)) hi).trans ?_
  simp [hk', hkind, f2]
theorem mNs.warm {Ns : List Cond} (hN : mOKns Ns) {s U : State} (hW : s.WarmedH U.vm) (h : mNs Ns s) : mNs Ns U := by
  intro w hw
  rcases hN w hw with ⟨a, i, x, hh, rfl⟩ | ⟨C, rfl⟩ | ⟨t, rfl⟩
  · exact va_Nw.warmM hW (h _ hw)
  · exact va_AO.moved hW.alike (h _ hw)
  · exact mAOA_moved hW.alike (h _ hw)
theorem mNs.same {Ns : List Cond} (hN : mOKns Ns) {s U : State} (hv : s.vm = U.vm) (h : mNs Ns s) : mNs Ns U := by
  intro w hw
  rcases hN w hw with ⟨a, i, x, hh, rfl⟩ | ⟨C, rfl⟩ | ⟨t, rfl⟩
  · exact va_Nw.same rfl hv (h _ hw)
  · exact va_AO.moved (by rw [hv]; exact Vm.Alike.refl _) (h _ hw)
  · exact mAOA_moved (by rw [hv]; exact Vm.Alike.refl _) (h _ hw)
end
section
/-! THE SMALL MACHINE'S STEPS OVER THE HEAP ARE THE MACHINE'S -/
section MH
variable {p : Program} {l : Launch} {e : Env} {R : Room} {s : State} {m : MethodId} {args : Array Value} {below : List Frame} {meth : Method} {c : Code} {H : Heap} {locs : List Loc} {cells slots : Nat} {Q : State → Prop}
variable {cc : ByteArray} {pc : Nat} {ls : Array Slot} {b0 base : Nat} {own : String} {P : MP} {y : Nat} {D : va_G} {cl : List vw_C} {aC : Nat → ClassId} {tyL : List FieldType} {Ts : List Cond} {σ : List MC}
theorem mPut_sound (hexec : p.tables.exec = Jvm.exec) (hb : c.code = cc) (hown : s.vm.findClass own = some m.cls) (hts : ∀ w ∈ Ts, w.before args s = true) {nm : Nat → MethodName} (hO : mOKcls Ts cl P nm) (hK : va_K D cl (mTys aC tyL) s)
    (hin : (mpInfo P y).2.2.2.2.1 = true → meth.name = "<init>") (hny : (nm y).cls = own) {i k ci f : Nat} {fs : List Value} {v : Value} {rest : List Value} (hk : σ[k]? = some (.inr (ci, fs))) {C : String} {T : u_T} {N : Nat} (hc : cl[ci]? = some (C, T, N)) (hf : f < N) (hlink : Cond.fieldLink own i (T f).1 (T f).2.1 (T f).2.2.1 ∈ Ts)
    (hlt : f < fs.length) (hfit : mFit (mpFty P ci f).1 v = true) (hfin : (mpFty P ci f).2 = true → (mpInfo P y).2.2.2.2.1 = true ∧ (mpInfo P y).2.2.2.2.2 = ci) (hH : mHp D cl aC b0 base s σ H locs) (hdg : decode cc pc = .ok (.putfield i, 3))
    (kk : ∀ (H1 : Heap) (locs1 : List Loc), mHp D cl aC b0 base s (σ.set k (.inr (ci, fs.set f v))) H1 locs1 → W p l e R s m args below meth c H1 locs1 cells slots Q (F0 m (pc + 3) ls rest)) :
    W p l e R s m args below meth c H locs cells slots Q (F0 m pc ls (mV b0 base v :: .ref (base + k) :: rest)) := by
  obtain ⟨hin', hty, hfl, hnm, hcl⟩ := hO ci C T N hc
  have hap := va_apart (own := own) hts hin' (fun j => (mpFty P ci j).1) hty hnm hK hc
  obtain ⟨r, h1, cell, q1, q2, q3, q4⟩ := hH.1 k _ (mW_get hk)
  have hr : r = (C, T, N) := Option.some.inj (h1.symm.trans hc)
  subst hr
  obtain ⟨hSl, hfc, kC, hkC, hkind⟩ := hK.1 ci _ hc
  obtain ⟨cf, kf, fi, fd, hi, hsl⟩ := hSl f hf
  have hlay := hts _ (hin' _ (u_in_lay hf))
  have hst := (u_facts hfc hkC (u_lays hts hin' hf) hi).1
  obtain ⟨hn, hft⟩ := mV_fit (b0 := b0) (base := base) hfit
  have hl9 : f < (fs.map (mV b0 base)).length := by simpa using hlt
  have hset : mE b0 base aC (.inr (ci, fs.set f v)) = .inr (ci, (fs.map (mV b0 base)).set f (mV b0 base v)) := by simp [mE, List.map_set]
  unfold u_lay at hlay
  by_cases hfi : (T f).2.2.2 = true
  · rw [if_pos hfi] at hlay
    obtain ⟨hi1, hi2⟩ := hfin (by rw [(hfl f hf).1]; exact hfi)
    have hC : own = C := by rw [← hny]; exact hcl y hi1 hi2
    have hcf : m.cls = cf := by
      obtain ⟨_, _, c', _, _, _, -, -, hf', -, -, -, hown2, -⟩ := Cond.laysFinal_spec hlay
      have e1 : c' = cf := by have := hi.symm.trans hf'; simp at this; exact this.1.symm
      rw [(hfl f hf).2, ← hC] at hown2
      rw [← e1]; exact Option.some.inj (hown.symm.trans hown2)
    have h6 := u_fits hfc hkC hkind (Or.inr hlay) hi (hty f hf) hn hft
    refine W.putFinK hexec hb hown (hts _ hlink) hi hst hcf (hin hi1) (by rw [q2]; exact h6) q1 q3 (by rw [hsl]; exact k2_hasslot (q4 f hf)) rfl rfl hdg fun H' e1 e2 e3 => ?_
    rw [hsl] at e1 ⊢
    refine kk H' _ (hH.upd hk ?_ e2 e3 _)
    rw [hset]
    exact ⟨_, hc, t_OB.to (V := updV (vp_V (fs.map (mV b0 base))) f (mV b0 base v)) ⟨_, e1, q2, q3, t_set q4 hap hf _⟩ (fun j _ => vp_updV_set hl9 _ j)⟩
  · rw [if_neg hfi] at hlay
    have h6 := u_store hfc hkC hkind hlay hi (hty f hf) hn hft
    refine W.putK hexec hb (f := fd) ⟨hown, hts _ hlink, ⟨_, _, _, hi⟩, hst⟩ (by rw [q2]; exact h6) q1 q3 (by rw [hsl]; exact k2_hasslot (q4 f hf)) rfl rfl hdg fun H' e1 e2 e3 => ?_
    rw [hsl] at e1 ⊢
    refine kk H' _ (hH.upd hk ?_ e2 e3 _)
    rw [hset]
    exact ⟨_, hc, t_OB.to (V := updV (vp_V (fs.map (mV b0 base))) f (mV b0 base v)) ⟨_, e1, q2, q3, t_set q4 hap hf _⟩ (fun j _ => vp_updV_set hl9 _ j)⟩
theorem mNew_sound (hexec : p.tables.exec = Jvm.exec) (hb : c.code = cc) (hown : s.vm.findClass own = some m.cls) (hts : ∀ w ∈ Ts, w.before args s = true) {nm : Nat → MethodName} (hO : mOKcls Ts cl P nm) (hK : va_K D cl (mTys aC tyL) s)
    {i ci : Nat} {fs : List Value} {rest : List Value} {C : String} {T : u_T} {N : Nat} (hc : cl[ci]? = some (C, T, N)) (hlen : fs.length = N) (hcl : Cond.classLink own i C ∈ Ts) (hinst : Cond.instantiable C N ∈ Ts) (hini : Cond.initialized C ∈ Ts) (hfs : ∀ j, j < N → fs[j]? = some (defaultValue (mpFty P ci j).1))
    (hH : mHp D cl aC b0 base s σ H locs) (hrc : cells + 1 ≤ R.cells) (hrs : slots + N ≤ R.slots) (hdg : decode cc pc = .ok (.new i, 3))
    (kk : ∀ (H1 : Heap), mHp D cl aC b0 base s (σ ++ [.inr (ci, fs)]) H1 locs → W p l e R s m args below meth c H1 locs (cells + 1) (slots + N) Q (F0 m (pc + 3) ls (.ref (base + σ.length) :: rest))) :
    W p l e R s m args below meth c H locs cells slots Q (F0 m pc ls rest) := by
  obtain ⟨hin', hty, -, -, -⟩ := hO ci C T N hc
  have hKn := hK.1 ci _ hc
  refine W.newcK hexec hb hown (hts _ hcl) (hts _ hinst) (hts _ hini) rfl hdg hrc hrs hKn.2.1 rfl fun H1 kC hkC e1 z1 o1 => ?_
  rw [hH.2.1]
  refine kk H1 (hH.push ?_ z1 o1)
  refine ⟨_, hc, (u_born (fun j => (mpFty P ci j).1) hts hin' hKn hkC e1 hty).to (fun j hj => ?_)⟩
  show defaultValue _ = vp_V (fs.map (mV b0 base)) j
  have h1 := hfs j hj
  simp only [vp_V, List.getD_eq_getElem?_getD, List.getElem?_map, h1, Option.map_some, Option.getD_some, mV_default]
end MH
end
section
section MA
variable {p : Program} {l : Launch} {e : Env} {R : Room} {s : State} {m : MethodId} {args : Array Value} {below : List Frame} {meth : Method} {c : Code} {H : Heap} {locs : List Loc} {cells slots : Nat} {Q : State → Prop}
variable {cc : ByteArray} {pc : Nat} {ls : Array Slot} {b0 base : Nat} {own : String} {P : MP} {y : Nat} {D : va_G} {cl : List vw_C} {aC : Nat → ClassId} {tyL : List FieldType} {Ts : List Cond} {σ : List MC}
/-- a new row of numbers -/
theorem mNewP_sound (hexec : p.tables.exec = Jvm.exec) (hb : c.code = cc) {at_ : Jvm.ClassFile.ArrayType} {k : Nat} (hk : tyL[k]? = some (newarray.typeOf at_)) (hca : (Cond.arrayClass (newarray.typeOf at_)).before args s = true) (hAr : mAr aC tyL s)
    {n : Int32} {rest : List Value} (hn : ¬ n < 0) (hN : n.toNatClampNeg ≤ 1000000) (hby : componentBytes (newarray.typeOf at_) ≤ 8) (hcell : ∀ cA : ClassId, vp_cell cA (n.toNatClampNeg, mX b0 base (mBlank k)) = arrV cA n.toNatClampNeg (fun _ => defaultValue (newarray.typeOf at_)))
    (hH : mHp D cl aC b0 base s σ H locs) (hrc : cells + 1 ≤ R.cells) (hrs : slots + n.toNatClampNeg ≤ R.slots) (hdg : decode cc pc = .ok (.newarray at_, 2))
    (kk : ∀ (H1 : Heap), mHp D cl aC b0 base s (σ ++ [.inl (k, n.toNatClampNeg, mBlank k)]) H1 locs → W p l e R s m args below meth c H1 locs (cells + 1) (slots + n.toNatClampNeg) Q (F0 m (pc + 2) ls (.ref (base + σ.length) :: rest))) :
    W p l e R s m args below meth c H locs cells slots Q (F0 m pc ls (.int n :: rest)) := by
  refine va_newaK hexec hb hca rfl hdg rfl hn rfl (by
    have := Nat.mul_le_mul hN hby
    omega) hrc hrs rfl fun H1 cA e1 z1 o1 _ hf => ?_
  obtain ⟨kA, comp, h1, h2, h3, -⟩ := hAr k _ hk
  have hA : cA = aC k := Option.some.inj (hf.symm.trans h3)
  rw [hH.2.1]
  refine kk H1 (hH.push ?_ z1 o1)
  show H1[H.size]? = some (vp_cell (aC k) (n.toNatClampNeg, mX b0 base (mBlank k)))
  rw [hcell, ← hA]
  exact e1
/-- a new row of references -/
theorem mNewQ_sound (hexec : p.tables.exec = Jvm.exec) (hb : c.code = cc) (hown : s.vm.findClass own = some m.cls) (hts : ∀ w ∈ Ts, w.before args s = true) {Ns : List Cond} (hns : mNs Ns s) {i k : Nat} (hk3 : 3 ≤ k)
    (hk : (∃ C, tyL[k]? = some (.object C) ∧ Cond.classLink own i C ∈ Ts ∧ Cond.arrayOver (.object C) ∈ Ns) ∨ ∃ t, tyL[k]? = some (.array t) ∧ Cond.classLink own i (FieldType.array t).toString ∈ Ts ∧ Cond.arrayOver (.array t) ∈ Ns) (hAr : mAr aC tyL s)
    {n : Int32} {rest : List Value} (hn : ¬ n < 0) (hN : n.toNatClampNeg ≤ 1000000)
    (hH : mHp D cl aC b0 base s σ H locs) (hrc : cells + 1 ≤ R.cells) (hrs : slots + n.toNatClampNeg ≤ R.slots) (hdg : decode cc pc = .ok (.anewarray i, 3))
    (kk : ∀ (H1 : Heap), mHp D cl aC b0 base s (σ ++ [.inl (k, n.toNatClampNeg, mBlank k)]) H1 locs → W p l e R s m args below meth c H1 locs (cells + 1) (slots + n.toNatClampNeg) Q (F0 m (pc + 3) ls (.ref (base + σ.length) :: rest))) :
    W p l e R s m args below meth c H locs cells slots Q (F0 m pc ls (.int n :: rest)) := by
  have hbl : mBlank k = .inr (.inr (.inr (.inr (fun _ => none)))) := by
    match k, hk3 with
    | k + 3, _ => rfl
  have fin : ∀ cA : ClassId, cA = aC k → mHp D cl aC b0 base s (σ ++ [.inl (k, n.toNatClampNeg, mBlank k)]) (H.push { cls := cA, slots := Array.replicate n.toNatClampNeg .null, vm := .none }) locs := by
    intro cA hA
    refine hH.push ?_ (Array.size_push _) (fun q hq => by rw [Array.getElem?_push, if_neg (Nat.ne_of_lt hq)])
    show (H.push _)[H.size]? = some (vp_cell (aC k) (n.toNatClampNeg, mX b0 base (mBlank k)))
    rw [hbl, Array.getElem?_push_size, arrV_new, ← hA]
    rfl
  rcases hk with ⟨C, hk, h1, h2⟩ | ⟨t, hk, h1, h2⟩
  · refine W.anew hexec hb hown (hts _ h1) (hns _ h2) rfl hdg rfl hn (by omega) hrc hrs fun cA kA comp f1 f2 f3 f4 => ?_
    obtain ⟨_, _, _, _, g3, _⟩ := hAr k _ hk
    rw [hH.2.1]
    exact kk _ (fin cA (Option.some.inj (f1.symm.trans g3)))
  · refine W.anewA hexec hb hown (hts _ h1) (hns _ h2) rfl hdg rfl hn (by omega) hrc hrs fun cA kA comp f1 f2 f3 f4 => ?_
    obtain ⟨_, _, _, _, g3, _⟩ := hAr k _ hk
    rw [hH.2.1]
    exact kk _ (fin cA (Option.some.inj (f1.symm.trans g3)))
theorem mIast_sound (hexec : p.tables.exec = Jvm.exec) (hb : c.code = cc) (hAr : mAr aC tyL s) (h0 : tyL[0]? = some .int) {k n : Nat} {f : Nat → Int32} (hk : σ[k]? = some (.inl (0, n, .inl f))) {i x : Int32} {rest : List Value} (hin : vp_in i n) (hH : mHp D cl aC b0 base s σ H locs) (hdg : decode cc pc = .ok (.iastore, 1))
    (kk : ∀ (H1 : Heap) (locs1 : List Loc), mHp D cl aC b0 base s (σ.set k (.inl (0, n, .inl (upd f i.toNatClampNeg x)))) H1 locs1 → W p l e R s m args below meth c H1 locs1 cells slots Q (F0 m (pc + 1) ls rest)) :
    W p l e R s m args below meth c H locs cells slots Q (F0 m pc ls (.int x :: .int i :: .ref (base + k) :: rest)) := by
  have hc : H[base + k]? = some (vp_cell (aC 0) (n, .inl f)) := hH.1 k _ (mW_get hk)
  refine W.iast hexec hb hc (hAr.arr h0 n (fun j => .int (f j))) (fun q => by cases q) (by rw [vp_cell_i, arrV_size]; exact hin) rfl rfl hdg fun H1 e1 z oq => ?_
  refine kk H1 _ (hH.upd hk ?_ z oq _)
  show H1[base + k]? = some (vp_cell (aC 0) (n, .inl (upd f i.toNatClampNeg x)))
  rw [e1, mC_i]
theorem mZast_sound (hexec : p.tables.exec = Jvm.exec) (hb : c.code = cc) (hAr : mAr aC tyL s) (h0 : tyL[2]? = some .boolean) {k n : Nat} {f : Nat → Int32} (hk : σ[k]? = some (.inl (2, n, .inl f))) {i x : Int32} {rest : List Value} (hin : vp_in i n) (hH : mHp D cl aC b0 base s σ H locs) (hdg : decode cc pc = .ok (.bastore, 1))
    (kk : ∀ (H1 : Heap) (locs1 : List Loc), mHp D cl aC b0 base s (σ.set k (.inl (2, n, .inl (upd f i.toNatClampNeg (vp_nar .boolean x))))) H1 locs1 → W p l e R s m args below meth c H1 locs1 cells slots Q (F0 m (pc + 1) ls rest)) :
    W p l e R s m args below meth c H locs cells slots Q (F0 m pc ls (.int x :: .int i :: .ref (base + k) :: rest)) := by
  have hc : H[base + k]? = some (vp_cell (aC 2) (n, .inl f)) := hH.1 k _ (mW_get hk)
  refine W.zast hexec hb hc (hAr.arr h0 n (fun j => .int (f j))) (fun q => by cases q) (by rw [vp_cell_i, arrV_size]; exact hin) rfl rfl hdg fun H1 e1 z oq => ?_
  refine kk H1 _ (hH.upd hk ?_ z oq _)
  show H1[base + k]? = some (vp_cell (aC 2) (n, .inl (upd f i.toNatClampNeg (vp_nar .boolean x))))
  rw [e1, ← mC_i]
  rfl
theorem mLast_sound (hexec : p.tables.exec = Jvm.exec) (hb : c.code = cc) (hAr : mAr aC tyL s) (h0 : tyL[1]? = some .long) {k n : Nat} {f : Nat → Int64} (hk : σ[k]? = some (.inl (1, n, .inr (.inl f)))) {i : Int32} {x : Int64} {rest : List Value} (hin : vp_in i n) (hH : mHp D cl aC b0 base s σ H locs) (hdg : decode cc pc = .ok (.lastore, 1))
    (kk : ∀ (H1 : Heap) (locs1 : List Loc), mHp D cl aC b0 base s (σ.set k (.inl (1, n, .inr (.inl (vp_updL f i.toNatClampNeg x))))) H1 locs1 → W p l e R s m args below meth c H1 locs1 cells slots Q (F0 m (pc + 1) ls rest)) :
    W p l e R s m args below meth c H locs cells slots Q (F0 m pc ls (.long x :: .int i :: .ref (base + k) :: rest)) := by
  have hc : H[base + k]? = some (vp_cell (aC 1) (n, .inr (.inl f))) := hH.1 k _ (mW_get hk)
  refine W.last hexec hb hc (hAr.arr h0 n (fun j => .long (f j))) (fun q => by cases q) (by rw [vp_cell_l, arrV_size]; exact hin) rfl rfl hdg fun H1 e1 z oq => ?_
  refine kk H1 _ (hH.upd hk ?_ z oq _)
  show H1[base + k]? = some (vp_cell (aC 1) (n, .inr (.inl (vp_updL f i.toNatClampNeg x))))
  rw [e1, mC_l]
theorem mAastN_sound (hexec : p.tables.exec = Jvm.exec) (hb : c.code = cc) (hK : va_K D cl (mTys aC tyL) s) (hAr : mAr aC tyL s) {t k n : Nat} {u : FieldType} (ht : tyL[t]? = some u) (hu : u.isReference = true) {f : Nat → Option Nat} (hk : σ[k]? = some (.inl (t, n, .inr (.inr (.inr (.inr f)))))) {i : Int32} {rest : List Value} (hin : vp_in i n) (hH : mHp D cl aC b0 base s σ H locs) (hdg : decode cc pc = .ok (.aastore, 1))
    (kk : ∀ (H1 : Heap) (locs1 : List Loc), mHp D cl aC b0 base s (σ.set k (.inl (t, n, .inr (.inr (.inr (.inr (va_up f i.toNatClampNeg none))))))) H1 locs1 → W p l e R s m args below meth c H1 locs1 cells slots Q (F0 m (pc + 1) ls rest)) :
    W p l e R s m args below meth c H locs cells slots Q (F0 m pc ls (.null :: .int i :: .ref (base + k) :: rest)) := by
  have hc : H[base + k]? = some (vp_cell (aC t) (n, .inr (.inr (.inr (.inr (fun j => (f j).map (mAd b0 base))))))) := hH.1 k _ (mW_get hk)
  have hin2 : ¬ (i < 0 ∨ (vp_cell (aC t) (n, .inr (.inr (.inr (.inr (fun j => (f j).map (mAd b0 base))))))).slots.size ≤ i.toNatClampNeg) := by rw [vp_cell_q, arrV_size]; exact hin
  intro T hT X
  have hT' : T.heap[base + k]? = some (vp_cell (aC t) (n, .inr (.inr (.inr (.inr (fun j => (f j).map (mAd b0 base))))))) := by rw [hT]; exact hc
  have hal := X.warmed.alike
  have hA2 := State.isArrayOf_alike hal (hAr.arr ht n (fun j => va_rf ((f j).map (mAd b0 base))))
  have hlt : base + k < T.heap.size := (Array.getElem?_eq_some_iff.mp hT').1
  have X' := X.stored hT' i.toNatClampNeg .null
  have hfit : T.fitsSlot (vp_cell (aC t) (n, .inr (.inr (.inr (.inr (fun j => (f j).map (mAd b0 base))))))).cls (vp_cell (aC t) (n, .inr (.inr (.inr (.inr (fun j => (f j).map (mAd b0 base))))))).vm i.toNatClampNeg .null = true := by
    obtain ⟨hobj, k9, hk9, comp, hkind⟩ := hA2
    have hk9 : T.vm.classes[aC t]? = some k9 := hk9
    show T.fitsSlot (aC t) .none i.toNatClampNeg .null = true
    cases u <;> simp [FieldType.isReference] at hu <;> simp [State.fitsSlot, State.slotType?, hk9, hkind, fits]
  obtain ⟨t', a1, b1⟩ := kk (T.setCell (base + k) ((vp_cell (aC t) (n, .inr (.inr (.inr (.inr (fun j => (f j).map (mAd b0 base))))))).setSlot i.toNatClampNeg .null)).heap (locs ++ [⟨base + k, i.toNatClampNeg⟩]) (by
    refine hH.upd hk ?_ (by rw [size_setCell, hT]) (fun q hq => by rw [heapAt_setCell_ne _ (Ne.symm hq), hT]) _
    show (T.setCell _ _).heap[base + k]? = some (vp_cell (aC t) (n, mX b0 base (.inr (.inr (.inr (.inr (va_up f i.toNatClampNeg none)))))))
    rw [heapAt_setCell_self _ hlt]
    show some ((vp_cell _ _).setSlot _ (va_rf none)) = some (vp_cell (aC t) (n, .inr (.inr (.inr (.inr (fun j => (va_up f i.toNatClampNeg none j).map (mAd b0 base)))))))
    rw [mC_q, mUp_map]
    rfl) _ rfl X'
  refine ⟨t', ?_, b1⟩
  jvm_step X.here [hexec, hb, hdg]
  refine aastore.wp_of_null (c := vp_cell (aC t) (n, .inr (.inr (.inr (.inr (fun j => (f j).map (mAd b0 base))))))) (t := u) X.here.top rfl hT' hA2 hin2 (fun h => by cases h) (Nat.not_le.mp fun q => hin2 (Or.inr q)) hfit ?_
  intro acts
  rw [afterInstr_ok]
  exact a1
end MA
end
section
section MB
variable {p : Program} {l : Launch} {e : Env} {R : Room} {s : State} {m : MethodId} {args : Array Value} {below : List Frame} {meth : Method} {c : Code} {H : Heap} {locs : List Loc} {cells slots : Nat} {Q : State → Prop}
variable {cc : ByteArray} {pc : Nat} {ls : Array Slot} {b0 base : Nat} {own : String} {P : MP} {y : Nat} {D : va_G} {cl : List vw_C} {aC : Nat → ClassId} {tyL : List FieldType} {Ts : List Cond} {σ : List MC}
theorem mAast_sound (hexec : p.tables.exec = Jvm.exec) (hb : c.code = cc) (hK : va_K D cl (mTys aC tyL) s) (hAr : mAr aC tyL s) {t k n : Nat} {f : Nat → Option Nat} (hk : σ[k]? = some (.inl (t, n, .inr (.inr (.inr (.inr f)))))) {v : Nat} {ev : MC} (hv : σ[v]? = some ev)
    (hel : (∃ ci fs C T N, ev = .inr (ci, fs) ∧ cl[ci]? = some (C, T, N) ∧ tyL[t]? = some (.object C)) ∨ ∃ k u n x, ev = .inl (k, n, x) ∧ tyL[k]? = some u ∧ tyL[t]? = some (.array u))
    {i : Int32} {rest : List Value} (hin : vp_in i n) (hH : mHp D cl aC b0 base s σ H locs) (hdg : decode cc pc = .ok (.aastore, 1))
    (kk : ∀ (H1 : Heap) (locs1 : List Loc), mHp D cl aC b0 base s (σ.set k (.inl (t, n, .inr (.inr (.inr (.inr (va_up f i.toNatClampNeg (some (v + 1)))))))) ) H1 locs1 → W p l e R s m args below meth c H1 locs1 cells slots Q (F0 m (pc + 1) ls rest)) :
    W p l e R s m args below meth c H locs cells slots Q (F0 m pc ls (.ref (base + v) :: .int i :: .ref (base + k) :: rest)) := by
  have hc : H[base + k]? = some (vp_cell (aC t) (n, .inr (.inr (.inr (.inr (fun j => (f j).map (mAd b0 base))))))) := hH.1 k _ (mW_get hk)
  have hlt : i.toNatClampNeg < n := Nat.not_le.mp fun q => hin (Or.inr q)
  have h0 : ¬ i < 0 := fun q => hin (Or.inl q)
  have fin : ∀ H1 : Heap, H1[base + k]? = some ((vp_cell (aC t) (n, .inr (.inr (.inr (.inr (fun j => (f j).map (mAd b0 base))))))).setSlot i.toNatClampNeg (.ref (base + v))) → H1.size = H.size → (∀ q, q ≠ base + k → H1[q]? = H[q]?) → W p l e R s m args below meth c H1 (locs ++ [⟨base + k, i.toNatClampNeg⟩]) cells slots Q (F0 m (pc + 1) ls rest) := by
    intro H1 e1 z oq
    refine kk H1 _ (hH.upd hk ?_ z oq _)
    show H1[base + k]? = some (vp_cell (aC t) (n, .inr (.inr (.inr (.inr (fun j => (va_up f i.toNatClampNeg (some (v + 1)) j).map (mAd b0 base)))))))
    rw [e1, mUp_map]
    show some ((vp_cell _ _).setSlot _ (va_rf (some (base + v)))) = _
    rw [mC_q]
    rfl
  rcases hel with ⟨ci, fs, C, T, N, rfl, hcl, ht⟩ | ⟨k0, u, n0, x0, rfl, hk0, ht⟩
  · obtain ⟨kA, comp, k1, k2, k3, k4⟩ := hAr t _ ht
    obtain ⟨r', hr', cellV, g1, g2, g3, -⟩ := hH.1 v _ (mW_get hv)
    have hcls := (hK.1 ci _ hcl).2
    have hcomp : comp = D.1 ci := Option.some.inj ((k4 rfl).symm.trans hcls.1)
    subst hcomp
    obtain ⟨kC, hkC, -⟩ := hcls.2
    exact W.aast hexec hb hc (fun q h => by cases h) (fun h => by cases h) k1 k2 rfl hkC ⟨h0, by show _ < (arrV _ _ _).slots.size; rw [arrV_size]; exact hlt⟩ g1 (fun q h => by rw [g3] at h; cases h) (by rw [g2]; exact hkC) (by rw [g2]; exact va_asg _ _) rfl rfl hdg fin
  · obtain ⟨kA, comp, k1, k2, k3, k4⟩ := hAr t _ ht
    obtain ⟨kB, compB, j1, j2, j3, -⟩ := hAr k0 _ hk0
    have hcv : H[base + v]? = some (vp_cell (aC k0) (n0, mX b0 base x0)) := hH.1 v _ (mW_get hv)
    have hcomp : comp = aC k0 := Option.some.inj ((k4 rfl).symm.trans j3)
    subst hcomp
    have hvc : ∀ (cA : ClassId) (a : vp_A), (vp_cell cA a).cls = cA ∧ (vp_cell cA a).vm = .none := by
      rintro cA ⟨n9, f9 | f9 | f9 | f9 | f9⟩ <;> exact ⟨rfl, rfl⟩
    exact W.aast hexec hb hc (fun q h => by cases h) (fun h => by cases h) k1 k2 rfl j1 ⟨h0, by show _ < (arrV _ _ _).slots.size; rw [arrV_size]; exact hlt⟩ hcv (fun q h => by rw [(hvc _ _).2] at h; cases h) (by rw [(hvc _ _).1]; exact j1) (by rw [(hvc _ _).1]; exact va_asg _ _) rfl rfl hdg fin
theorem mCopy_sound (hexec : p.tables.exec = Jvm.exec) (hb : c.code = cc) (hml : c.maxLocals = ls.size) (hown : s.vm.findClass own = some m.cls) {index : Nat} (hlink : (Cond.methodLink own index arraycopyName).before args s = true) (hnat : (Cond.native arraycopyName).before args s = true) (hstat : (Cond.static arraycopyName).before args s = true) (hini : (Cond.initialized "java/lang/System").before args s = true)
    (hAr : mAr aC tyL s) (h0 : tyL[0]? = some .int) {k0 k1 n0 n1 : Nat} {f g : Nat → Int32} (hk0 : σ[k0]? = some (.inl (0, n0, .inl f))) (hk1 : σ[k1]? = some (.inl (0, n1, .inl g))) {sp dp n : Int32} {rest : List Value} (h1 : ¬ sp < 0) (h2 : ¬ dp < 0) (h3 : ¬ n < 0) (h4 : sp.toNatClampNeg + n.toNatClampNeg ≤ n0) (h5 : dp.toNatClampNeg + n.toNatClampNeg ≤ n1)
    (hframes : 1 ≤ R.frames) (hlocals : (rest.map fun v => v.category).sum + (nativeFrameWords "java/lang/System" "arraycopy" 5 + 11) ≤ R.locals) (hH : mHp D cl aC b0 base s σ H locs) (hdg : decode cc pc = .ok (.invokestatic index, 3))
    (kk : ∀ (H1 : Heap) (locs1 : List Loc), mHp D cl aC b0 base s (σ.set k1 (.inl (0, n1, .inl (va_cpy f g sp.toNatClampNeg dp.toNatClampNeg n.toNatClampNeg)))) H1 locs1 → W p l e R s m args below meth c H1 locs1 cells slots Q (F0 m (pc + 3) ls rest)) :
    W p l e R s m args below meth c H locs cells slots Q (F0 m pc ls (.int n :: .int dp :: .ref (base + k1) :: .int sp :: .ref (base + k0) :: rest)) := by
  have nn : ∀ z : Int32, ¬ z < 0 → z.toInt = (z.toNatClampNeg : Int) := by
    intro z hz
    have hz0 : (0 : Int) ≤ z.toInt := by
      have := Int32.not_lt.mp hz
      simpa using Int32.le_iff_toInt_le.mp this
    show z.toInt = ((z.toInt.toNat : Nat) : Int)
    omega
  intro T hT X
  have hc0 : H[base + k0]? = some (vp_cell (aC 0) (n0, .inl f)) := hH.1 k0 _ (mW_get hk0)
  have hc1 : H[base + k1]? = some (vp_cell (aC 0) (n1, .inl g)) := hH.1 k1 _ (mW_get hk1)
  obtain ⟨-, j0, hj0, cm0, hkk0⟩ := hAr.arr h0 n0 (fun j => .int (f j))
  obtain ⟨-, j1, hj1, cm1, hkk1⟩ := hAr.arr h0 n1 (fun j => .int (g j))
  obtain ⟨vm', X', step⟩ := X.arraycopy hexec hown hlink hnat hstat hini (src := base + k0) (dst := base + k1) (cs := vp_cell (aC 0) (n0, .inl f)) (cd := vp_cell (aC 0) (n1, .inl g)) (srcPos := sp) (destPos := dp) (n := n) (by rw [hT]; exact hc0) (by rw [hT]; exact hc1)
    (fun _ h => by cases h) (fun _ h => by cases h) (fun h => by cases h) (fun h => by cases h) hj0 hj1 hkk0 hkk1 (by simp [refKind]) h1 h2 h3
    (by rw [nn sp h1, nn n h3]; show ¬ _ > ((arrV (aC 0) n0 (fun j => .int (f j))).slots.size : Int); rw [arrV_size]; omega)
    (by rw [nn dp h2, nn n h3]; show ¬ _ > ((arrV (aC 0) n1 (fun j => .int (g j))).slots.size : Int); rw [arrV_size]; omega)
    (fun vm₁ _ i hi => by
      have e : (vp_cell (aC 0) (n0, .inl f)).slots.getD (sp.toNatClampNeg + i) .null = .int (f (sp.toNatClampNeg + i)) := by
        show (arrV (aC 0) n0 (fun j => .int (f j))).slots.getD _ _ = _
        rw [Array.getD_eq_getD_getElem?, arrV_read _ _ (by omega)]
        rfl
      exact ⟨by rw [e]; rfl, by rw [e]; exact trivial⟩)
    (g := F0 m pc ls (.int n :: .int dp :: .ref (base + k1) :: .int sp :: .ref (base + k0) :: rest)) rfl (by rw [hml]) (rest := rest) rfl (by rw [hb]; exact hdg) hframes (by show 2 * 0 + _ + _ ≤ _; omega)
  have e1 : copied (vp_cell (aC 0) (n0, .inl f)) (vp_cell (aC 0) (n1, .inl g)) sp dp n = vp_cell (aC 0) (n1, .inl (va_cpy f g sp.toNatClampNeg dp.toNatClampNeg n.toNatClampNeg)) := va_copied (fun z => .int z) (aC 0) (aC 0) f g h4
  rw [e1] at X' step
  have hl : base + k1 < H.size := (Array.getElem?_eq_some_iff.mp hc1).1
  obtain ⟨hP, hz, hS⟩ := hH
  have oq : ∀ q : Nat, q ≠ base + k1 → (H.setIfInBounds (base + k1) (vp_cell (aC 0) (n1, .inl (va_cpy f g sp.toNatClampNeg dp.toNatClampNeg n.toNatClampNeg))))[q]? = H[q]? := fun q hq => by simp [Array.getElem?_setIfInBounds, Ne.symm hq]
  obtain ⟨t, a1, b1⟩ := kk (H.setIfInBounds (base + k1) (vp_cell (aC 0) (n1, .inl (va_cpy f g sp.toNatClampNeg dp.toNatClampNeg n.toNatClampNeg)))) _ ⟨by
      rw [mW_set]
      exact hP.set mW_D (mW_get hk1) (show (H.setIfInBounds (base + k1) _)[base + k1]? = some _ by simp [Array.getElem?_setIfInBounds, hl]; rfl) oq, by simpa using hz, by simp; exact hS.1, fun q g1 g2 => by
      rw [oq q (fun e => g2 (by rw [e]; exact Nat.le_add_right _ _))]
      exact hS.2.1 q g1 g2, fun q hq => by
      rcases List.mem_append.mp hq with h | h
      · exact hS.2.2 q h
      · obtain ⟨z, -, hz⟩ := List.mem_map.mp h
        rw [← hz]
        exact Nat.le_add_right _ _⟩ ((T.setVm vm').setCell (base + k1) (vp_cell (aC 0) (n1, .inl (va_cpy f g sp.toNatClampNeg dp.toNatClampNeg n.toNatClampNeg)))) (by rw [← hT]; rfl) X'
  exact ⟨t, step t a1, b1⟩
end MB
end
section
section MC1
variable {p : Program} {l : Launch} {e : Env} {R : Room} {s : State} {m : MethodId} {args : Array Value} {below : List Frame} {meth : Method} {c : Code} {H : Heap} {locs : List Loc} {cells slots : Nat} {Q : State → Prop}
variable {cc : ByteArray} {pc : Nat} {ls : Array Slot} {b0 base : Nat} {P : MP} {y : Nat} {D : va_G} {cl : List vw_C} {aC : Nat → ClassId} {tyL : List FieldType} {Ts Ns : List Cond} {σ : List MC} {nm : Nat → MethodName} {byt : Nat → ByteArray} {rt : Nat → Option FieldType} {L : Nat} {xs : Nat → Int32}
set_option maxHeartbeats 4000000 in
theorem mHeap_sound (hexec : p.tables.exec = Jvm.exec) (hb : c.code = cc) (hml : c.maxLocals = ls.size) (hown : s.vm.findClass (nm y).cls = some m.cls) (hts : ∀ w ∈ Ts, w.before args s = true) (hns : mNs Ns s) (hO : mOK Ts Ns cl tyL P nm byt rt) (hK : va_K D cl (mTys aC tyL) s) (hAr : mAr aC tyL s)
    (hX : va_X b0 L xs s s.heap) (hb0 : b0 < base) (hbs : base ≤ s.heap.size) (hin : (mpInfo P y).2.2.2.2.1 = true → meth.name = "<init>") (hRf : (mpInfo P y).2.1 ≤ R.frames) (hRl : (mpInfo P y).2.2.1 ≤ R.locals)
    {ins : Instr} (hdg : mDec cc pc ins) {st : List Value} {q : Nat × List Value × List MC} (h : mHeap P L xs y ins pc st σ = some q) (hH : mHp D cl aC b0 base s σ H locs) (hrc : cells + q.2.2.length ≤ R.cells + σ.length) (hrs : slots + mSl q.2.2 ≤ R.slots + mSl σ)
    (kk : ∀ (H1 : Heap) (locs1 : List Loc) (cells1 slots1 : Nat), mHp D cl aC b0 base s q.2.2 H1 locs1 → cells1 + σ.length = cells + q.2.2.length → slots1 + mSl σ = slots + mSl q.2.2 → W p l e R s m args below meth c H1 locs1 cells1 slots1 Q (F0 m q.1 ls (q.2.1.map (mV b0 base)))) :
    W p l e R s m args below meth c H locs cells slots Q (F0 m pc ls (st.map (mV b0 base))) := by
  obtain ⟨hOc, hOl, hOf, hOk, hOn, hOa, hOe, hOi, hOr⟩ := hO
  have hbA : ¬ (fun q => base ≤ q) b0 := Nat.not_le.mpr hb0
  have hbl : b0 < s.heap.size := Nat.lt_of_lt_of_le hb0 hbs
  cases ins with
  | getfield i =>
    simp only [mHeap, mHeapC] at h
    split at h
    · next a r =>
      simp only [Option.bind_eq_some_iff] at h
      obtain ⟨o, ho, w, hw, h⟩ := h
      split at h
      · next hq =>
        simp only [Option.map_eq_some_iff] at h
        obtain ⟨v, hv, rfl⟩ := h
        obtain ⟨k, rfl, hk⟩ := mObj_eq ho
        obtain ⟨C, T, N, hc, hN, hlink⟩ := hOf y i w hw
        obtain ⟨hin', -, -, -, -⟩ := hOk w.1 C T N hc
        exact va_get (D := D) (ci := o.1) (v := mV b0 base v) hexec hb hts hin' hown hK hH.1 k (mW_get hk) (by rw [← hq]; exact hc) w.2 hN (hts _ hlink) (fun _ h9 => h9) (by rw [List.getElem?_map, hv]; rfl) (hdg.at (by simp [mLen])) (kk H locs cells slots hH rfl rfl)
      · cases h
    · cases h
  | putfield i =>
    simp only [mHeap, mHeapC] at h
    split at h
    · next v a r =>
      simp only [Option.bind_eq_some_iff] at h
      obtain ⟨o, ho, w, hw, h⟩ := h
      split at h
      · next hq =>
        cases h
        obtain ⟨hq1, hq2, hq3, hq4⟩ := hq
        obtain ⟨k, rfl, hk⟩ := mObj_eq ho
        obtain ⟨C, T, N, hc, hN, hlink⟩ := hOf y i w hw
        rw [hq1] at hc hq3 hq4
        exact mPut_sound hexec hb hown hts hOk hK hin rfl hk hc hN hlink hq2 hq3 hq4 hH (hdg.at (by simp [mLen])) (fun H1 locs1 hH1 => kk H1 locs1 cells slots hH1 (by simp [mPut]) (by rw [show mPut σ (k + 1) _ = σ.set k _ from rfl, mSl_set hk (by simp [mSz])]))
      · cases h
    · cases h
  | iaload =>
    simp only [mHeap, mHeapC, Option.bind_eq_some_iff] at h
    obtain ⟨w, hw, g, hg, h⟩ := h
    split at h
    · next hi =>
      cases h
      rw [mIA_eq hw]
      rcases mInts_eq hg with ⟨ha, rfl⟩ | ⟨k, ha, hk⟩
      · rw [ha]
        exact va_sld hexec hb hX hbl hbA hH.2.2 (mIn_eq hi) (hdg.at (by simp [mLen])) (kk H locs cells slots hH rfl rfl)
      · rw [ha]
        exact va_iald hexec hb hK hH.1 k 0 (mW_get hk) (mTys_at hOa.1.1) (mIn_eq hi) (hdg.at (by simp [mLen])) (kk H locs cells slots hH rfl rfl)
    · cases h
  | laload =>
    simp only [mHeap, mHeapC, Option.bind_eq_some_iff] at h
    obtain ⟨w, hw, g, hg, h⟩ := h
    split at h
    · next hi =>
      cases h
      rw [mIA_eq hw]
      obtain ⟨k, ha, hk⟩ := mLongs_eq hg
      rw [ha]
      exact va_lald hexec hb hK hH.1 k 1 (mW_get hk) (mTys_at hOa.1.2.1) (mIn_eq hi) (hdg.at (by simp [mLen])) (kk H locs cells slots hH rfl rfl)
    · cases h
  | baload =>
    simp only [mHeap, mHeapC, Option.bind_eq_some_iff] at h
    obtain ⟨w, hw, g, hg, h⟩ := h
    split at h
    · next hi =>
      cases h
      rw [mIA_eq hw]
      obtain ⟨k, ha, hk⟩ := mBools_eq hg
      rw [ha]
      exact va_zald hexec hb hK hH.1 k 2 (mW_get hk) (mTys_at hOa.1.2.2) (mIn_eq hi) (hdg.at (by simp [mLen])) (kk H locs cells slots hH rfl rfl)
    · cases h
  | aaload =>
    simp only [mHeap, mHeapC, Option.bind_eq_some_iff] at h
    obtain ⟨w, hw, g, hg, h⟩ := h
    split at h
    · next hi =>
      cases h
      rw [mIA_eq hw]
      obtain ⟨k, ha, hk, h3, h10⟩ := mRefs_eq hg
      rw [ha]
      have hc : H[base + k]? = some (vp_cell (aC g.1) (g.2.1, .inr (.inr (.inr (.inr (fun j => (g.2.2 j).map (mAd b0 base))))))) := hH.1 k _ (mW_get hk)
      have hin9 := mIn_eq hi
      have hlt : w.1.toNatClampNeg < g.2.1 := Nat.not_le.mp fun q => hin9 (Or.inr q)
      cases ht : tyL[g.1]? with
      | none => exact absurd (List.getElem?_eq_none_iff.mp ht) (by rw [hOa.2.2.1.1]; omega)
      | some u =>
        refine W.aald (v := va_rf ((g.2.2 w.1.toNatClampNeg).map (mAd b0 base))) (ty := u) hexec hb hc (hAr.arr ht g.2.1 (fun j => va_rf ((g.2.2 j).map (mAd b0 base)))) (hOa.2.2.1.2 _ _ ht h3) (fun q => by cases q) (by show ¬ (w.1 < 0 ∨ (arrV _ _ _).slots.size ≤ _); rw [arrV_size]; exact hin9) (by show (arrV _ _ _).slots[_]? = _; rw [arrV_read _ _ hlt]) rfl rfl (hdg.at (by simp [mLen])) ?_
        have k2 := kk H locs cells slots hH rfl rfl
        simp only [List.map_cons, mV_rf] at k2
        exact k2
    · cases h
  | iastore =>
    simp only [mHeap, mHeapC] at h
    split at h
    · next x i a r =>
      simp only [Option.bind_eq_some_iff] at h
      obtain ⟨g, hg, h⟩ := h
      split at h
      · next hi =>
        cases h
        obtain ⟨k, rfl, hk⟩ := mCInts_eq hg
        exact mIast_sound hexec hb hAr hOa.1.1 hk (mIn_eq hi) hH (hdg.at (by simp [mLen])) (fun H1 locs1 hH1 => kk H1 locs1 cells slots hH1 (by simp [mPut]) (by rw [show mPut σ (k + 1) _ = σ.set k _ from rfl, mSl_set hk (by simp [mSz])]))
      · cases h
    · cases h
  | lastore =>
    simp only [mHeap, mHeapC] at h
    split at h
    · next x i a r =>
      simp only [Option.bind_eq_some_iff] at h
      obtain ⟨g, hg, h⟩ := h
      split at h
      · next hi =>
        cases h
        obtain ⟨k, rfl, hk⟩ := mLongs_eq hg
        exact mLast_sound hexec hb hAr hOa.1.2.1 hk (mIn_eq hi) hH (hdg.at (by simp [mLen])) (fun H1 locs1 hH1 => kk H1 locs1 cells slots hH1 (by simp [mPut]) (by rw [show mPut σ (k + 1) _ = σ.set k _ from rfl, mSl_set hk (by simp [mSz])]))
      · cases h
    · cases h
  | bastore =>
    simp only [mHeap, mHeapC] at h
    split at h
    · next x i a r =>
      simp only [Option.bind_eq_some_iff] at h
      obtain ⟨g, hg, h⟩ := h
      split at h
      · next hi =>
        cases h
        obtain ⟨k, rfl, hk⟩ := mBools_eq hg
        exact mZast_sound hexec hb hAr hOa.1.2.2 hk (mIn_eq hi) hH (hdg.at (by simp [mLen])) (fun H1 locs1 hH1 => kk H1 locs1 cells slots hH1 (by simp [mPut]) (by rw [show mPut σ (k + 1) _ = σ.set k _ from rfl, mSl_set hk (by simp [mSz])]))
      · cases h
    · cases h
  | aastore =>
    simp only [mHeap, mHeapC] at h
    split at h
    · next i a r =>
      simp only [Option.bind_eq_some_iff] at h
      obtain ⟨g, hg, h⟩ := h
      split at h
      · next hi =>
        cases h
        obtain ⟨k, rfl, hk, h3, h10⟩ := mRefs_eq hg
        cases ht : tyL[g.1]? with
        | none => exact absurd (List.getElem?_eq_none_iff.mp ht) (by rw [hOa.2.2.1.1]; omega)
        | some u =>
          exact mAastN_sound hexec hb hK hAr ht (hOa.2.2.1.2 _ _ ht h3) hk (mIn_eq hi) hH (hdg.at (by simp [mLen])) (fun H1 locs1 hH1 => kk H1 locs1 cells slots hH1 (by simp [mPut]) (by rw [show mPut σ (k + 1) _ = σ.set k _ from rfl, mSl_set hk (by simp [mSz])]))
      · cases h
    · next v i a r =>
      simp only [Option.bind_eq_some_iff] at h
      obtain ⟨g, hg, ev, hev, h⟩ := h
      split at h
      · next hi =>
        cases h
        obtain ⟨k, rfl, hk, h3, h10⟩ := mRefs_eq hg
        cases v with
        | zero => simp [mCell] at hev
        | succ v =>
          exact mAast_sound hexec hb hK hAr hk hev (hOe _ _ hi.2) (mIn_eq hi.1) hH (hdg.at (by simp [mLen])) (fun H1 locs1 hH1 => kk H1 locs1 cells slots hH1 (by simp [mPut]) (by rw [show mPut σ (k + 1) _ = σ.set k _ from rfl, mSl_set hk (by simp [mSz])]))
      · cases h
    · cases h
  | arraylength =>
    simp only [mHeap, mHeapC] at h
    split at h
    · next a r =>
      simp only [Option.map_eq_some_iff] at h
      obtain ⟨n, hn, rfl⟩ := h
      rcases mLong_eq hn with ⟨rfl, rfl⟩ | ⟨k, t, x, rfl, hk, h10⟩
      · exact va_slen hexec hb hX hbl hbA hH.2.2 (hdg.at (by simp [mLen])) (kk H locs cells slots hH rfl rfl)
      · cases ht : tyL[t]? with
        | none => exact absurd (List.getElem?_eq_none_iff.mp ht) (by rw [hOa.2.2.1.1]; omega)
        | some u =>
          exact va_alen hexec hb hK hH.1 k t (mW_get hk) (mTys_at ht) rfl (hdg.at (by simp [mLen])) (kk H locs cells slots hH rfl rfl)
    · cases h
  | newarray t =>
    simp only [mHeap, mHeapC, Option.bind_eq_some_iff] at h
    obtain ⟨w, hw, k, hk, h⟩ := h
    rw [mI1_eq hw]
    unfold mNewA at h
    split at h
    · cases h
    · next hn =>
      split at h
      · next hN =>
        cases h
        simp only [List.length_append, List.length_cons, List.length_nil, mSl_push, mSz] at hrc hrs
        have k2 := fun H1 hH1 => kk H1 locs (cells + 1) (slots + mIx w.1) hH1 (by simp; omega) (by rw [mSl_push]; simp only [mSz]; omega)
        unfold mATy at hk
        split at hk
        · cases hk
          exact mNewP_sound hexec hb (at_ := .int) (k := 0) hOa.1.1 (hts _ hOa.2.1.1) hAr hn hN (by decide) (fun cA => rfl) hH (by omega) (by unfold mIx at hrs; omega) (hdg.at (by simp [mLen])) k2
        · cases hk
          exact mNewP_sound hexec hb (at_ := .long) (k := 1) hOa.1.2.1 (hts _ hOa.2.1.2.1) hAr hn hN (by decide) (fun cA => rfl) hH (by omega) (by unfold mIx at hrs; omega) (hdg.at (by simp [mLen])) k2
        · cases hk
          exact mNewP_sound hexec hb (at_ := .boolean) (k := 2) hOa.1.2.2 (hts _ hOa.2.1.2.2) hAr hn hN (by decide) (fun cA => rfl) hH (by omega) (by unfold mIx at hrs; omega) (hdg.at (by simp [mLen])) k2
        · cases hk
      · cases h
  | anewarray i =>
    simp only [mHeap, mHeapC, Option.bind_eq_some_iff] at h
    obtain ⟨w, hw, k, hk, h⟩ := h
    rw [mI1_eq hw]
    split at h
    · next h3 =>
      unfold mNewA at h
      split at h
      · cases h
      · next hn =>
        split at h
        · next hN =>
          cases h
          simp only [List.length_append, List.length_cons, List.length_nil, mSl_push, mSz] at hrc hrs
          exact mNewQ_sound hexec hb hown hts hns h3 (hOa.2.2.2 y i k hk) hAr hn hN hH (by omega) (by unfold mIx at hrs; omega) (hdg.at (by simp [mLen])) (fun H1 hH1 => kk H1 locs (cells + 1) (slots + mIx w.1) hH1 (by simp; omega) (by rw [mSl_push]; simp only [mSz]; omega))
        · cases h
    · cases h
  | new i =>
    simp only [mHeap, mHeapC, Option.map_eq_some_iff] at h
    obtain ⟨w, hw, rfl⟩ := h
    obtain ⟨C, T, N, hc, hlen, hcl, hinst, hini, hfs⟩ := hOn y i w hw
    simp only [List.length_append, List.length_cons, List.length_nil, mSl_push, mSz] at hrc hrs
    exact mNew_sound hexec hb hown hts hOk hK hc hlen hcl hinst hini hfs hH (by omega) (by omega) (hdg.at (by simp [mLen])) (fun H1 hH1 => kk H1 locs (cells + 1) (slots + N) hH1 (by simp; omega) (by rw [mSl_push]; simp only [mSz]; omega))
  | invokespecial i =>
    simp only [mHeap, mHeapC, Option.bind_eq_some_iff] at h
    obtain ⟨w, hi, h⟩ := h
    split at h
    · next h5 =>
     split at h
     · next a r =>
      split at h
      · next hq =>
        cases h
        obtain ⟨h1, h2, h3⟩ := (hOi y i _ hi).2.2.2.2.2.2.1 h5
        exact W.objInit hexec hb hown (hts _ h1) (hts _ h2) (hts _ h3) rfl (by exact hml.symm) rfl (hdg.at (by simp [mLen])) (Nat.le_trans hq.2.1 hRf) (by
          have := lv_room (m := m) (pc := pc) (ls := ls) (rest := []) (st := r.map (mV b0 base)) (by rw [mV_cats]; exact hq.1)
          have h20 := Nat.le_trans hq.2.2 hRl
          show 2 * (F0 m pc ls _).monitorRoom + _ + 12 ≤ R.locals
          have h9 : 2 * (F0 m pc ls []).monitorRoom + ((r.map (mV b0 base)).map fun v => v.category).sum ≤ 8 := this
          have h8 : (F0 m pc ls []).monitorRoom = (F0 m pc ls ((Value.ref a :: r).map (mV b0 base))).monitorRoom := rfl
          omega) (kk H locs cells slots hH rfl rfl)
      · cases h
     · cases h
    · cases h
  | invokestatic i =>
    simp only [mHeap, mHeapC, Option.bind_eq_some_iff] at h
    obtain ⟨w, hi, h⟩ := h
    split at h
    · next h6 =>
     split at h
     · next n dp a1 sp a0 r =>
      simp only [Option.bind_eq_some_iff] at h
      obtain ⟨f, hf, g, hg, h⟩ := h
      split at h
      · next hq =>
        cases h
        obtain ⟨q1, q2, q3, q4, q5, q6, q7, q8⟩ := hq
        obtain ⟨h1, h2, h3, h4⟩ := (hOi y i _ hi).2.2.2.2.2.2.2.1 h6
        obtain ⟨k0, rfl, hk0⟩ := mCInts_eq hf
        obtain ⟨k1, rfl, hk1⟩ := mCInts_eq hg
        exact mCopy_sound hexec hb hml hown (hts _ h1) (hts _ h2) (hts _ h3) (hts _ h4) hAr hOa.1.1 hk0 hk1 q1 q2 q3 q4 q5 (Nat.le_trans q7 hRf) (by
          rw [mV_cats]
          have h40 := Nat.le_trans q8 hRl
          have h9 : nativeFrameWords "java/lang/System" "arraycopy" 5 + 11 ≤ 32 := by decide +kernel
          omega) hH (hdg.at (by simp [mLen])) (fun H1 locs1 hH1 => kk H1 locs1 cells slots hH1 (by simp [mPut]) (by rw [show mPut σ (k1 + 1) _ = σ.set k1 _ from rfl, mSl_set hk1 (by simp [mSz])]))
      · cases h
     · cases h
    · split at h
      · next h7 =>
        split at h
        · next y2 x r =>
          split at h
          · next hq =>
            cases h
            obtain ⟨h1, h2, h3, h4⟩ := (hOi y i _ hi).2.2.2.2.2.2.2.2.1 h7
            exact va_mmax hexec hb hml hown (hts _ h1) (hts _ h2) (hts _ h3) (hts _ h4) (Nat.le_trans hq.2.1 hRf) (by
              rw [mV_cats]
              have h30 := Nat.le_trans hq.2.2 hRl
              omega) (by dsimp only at hrc; omega) (by dsimp only at hrs; omega) (hdg.at (by simp [mLen])) (kk H locs cells slots hH rfl rfl)
          · cases h
        · cases h
      · split at h
        · next h8 =>
          split at h
          · next y2 x r =>
            split at h
            · next hq =>
              cases h
              obtain ⟨h1, h2, h3, h4⟩ := (hOi y i _ hi).2.2.2.2.2.2.2.2.2 h8
              exact va_mmin hexec hb hml hown (hts _ h1) (hts _ h2) (hts _ h3) (hts _ h4) (Nat.le_trans hq.2.1 hRf) (by
                rw [mV_cats]
                have h30 := Nat.le_trans hq.2.2 hRl
                omega) (by dsimp only at hrc; omega) (by dsimp only at hrs; omega) (hdg.at (by simp [mLen])) (kk H locs cells slots hH rfl rfl)
            · cases h
          · cases h
        · cases h
  | _ => simp [mHeap, mHeapC] at h
end MC1
end
section
/-! THE STORE ONLY GROWS -/
theorem mPut_len (σ : List MC) (a : Nat) (e : MC) : (mPut σ a e).length = σ.length := by cases a <;> simp [mPut]
theorem mPut_sl {σ : List MC} {a : Nat} {e0 e : MC} (h : mCell σ a = some e0) (hz : mSz e = mSz e0) : mSl (mPut σ a e) = mSl σ := by
  cases a with
  | zero => simp [mCell] at h
  | succ k => exact mSl_set h hz
def mLe (σ τ : List MC) : Prop := σ.length ≤ τ.length ∧ mSl σ ≤ mSl τ
theorem mLe.rf {σ : List MC} : mLe σ σ := ⟨Nat.le_refl _, Nat.le_refl _⟩
theorem mLe.tr {σ τ υ : List MC} (h1 : mLe σ τ) (h2 : mLe τ υ) : mLe σ υ := ⟨Nat.le_trans h1.1 h2.1, Nat.le_trans h1.2 h2.2⟩
theorem mLe.push {σ : List MC} {e : MC} : mLe σ (σ ++ [e]) := ⟨by simp, by rw [mSl_push]; omega⟩
theorem mLe.put {σ : List MC} {a : Nat} {e0 e : MC} (h : mCell σ a = some e0) (hz : mSz e = mSz e0) : mLe σ (mPut σ a e) := ⟨by rw [mPut_len]; exact Nat.le_refl _, by rw [mPut_sl h hz]; exact Nat.le_refl _⟩
theorem mLe.newa {σ : List MC} {pc t : Nat} {q : Int32 × List Value} {w : Nat × List Value × List MC} (h : mNewA σ pc t q = some w) : mLe σ w.2.2 := by
  unfold mNewA at h
  split at h
  · cases h
  · split at h
    · cases h; exact mLe.push
    · cases h
theorem mCellO {σ : List MC} {a : Nat} {o : Nat × List Value} (h : mObj σ a = some o) : mCell σ a = some (.inr o) := by
  obtain ⟨k, rfl, hk⟩ := mObj_eq h; exact hk
theorem mCellI {σ : List MC} {a : Nat} {g : Nat × (Nat → Int32)} (h : mCInts σ a = some g) : mCell σ a = some (.inl (0, g.1, .inl g.2)) := by
  obtain ⟨k, rfl, hk⟩ := mCInts_eq h; exact hk
theorem mCellZ {σ : List MC} {a : Nat} {g : Nat × (Nat → Int32)} (h : mBools σ a = some g) : mCell σ a = some (.inl (2, g.1, .inl g.2)) := by
  obtain ⟨k, rfl, hk⟩ := mBools_eq h; exact hk
theorem mCellL {σ : List MC} {a : Nat} {g : Nat × (Nat → Int64)} (h : mLongs σ a = some g) : mCell σ a = some (.inl (1, g.1, .inr (.inl g.2))) := by
  obtain ⟨k, rfl, hk⟩ := mLongs_eq h; exact hk
theorem mCellQ {σ : List MC} {a : Nat} {g : Nat × Nat × (Nat → Option Nat)} (h : mRefs σ a = some g) : mCell σ a = some (.inl (g.1, g.2.1, .inr (.inr (.inr (.inr g.2.2))))) := by
  obtain ⟨k, rfl, hk, -⟩ := mRefs_eq h; exact hk
theorem mHeap_mono {P : MP} {L : Nat} {xs : Nat → Int32} {y : Nat} {ins : Instr} {pc : Nat} {st : List Value} {σ : List MC} {q : Nat × List Value × List MC} (h : mHeap P L xs y ins pc st σ = some q) : mLe σ q.2.2 := by
  cases ins with
  | getfield i =>
    simp only [mHeap, mHeapC] at h
    split at h
    · simp only [Option.bind_eq_some_iff] at h
      obtain ⟨o, ho, w, hw, h⟩ := h
      split at h
      · simp only [Option.map_eq_some_iff] at h
        obtain ⟨v, hv, rfl⟩ := h
        exact mLe.rf
      · cases h
    · cases h
  | putfield i =>
    simp only [mHeap, mHeapC] at h
    split at h
    · simp only [Option.bind_eq_some_iff] at h
      obtain ⟨o, ho, w, hw, h⟩ := h
      split at h
      · cases h; exact mLe.put (mCellO ho) (by simp [mSz])
      · cases h
    · cases h
  | iaload =>
    simp only [mHeap, mHeapC, Option.bind_eq_some_iff] at h
    obtain ⟨w, hw, g, hg, h⟩ := h
    split at h
    · cases h; exact mLe.rf
    · cases h
  | laload =>
    simp only [mHeap, mHeapC, Option.bind_eq_some_iff] at h
    obtain ⟨w, hw, g, hg, h⟩ := h
    split at h
    · cases h; exact mLe.rf
    · cases h
  | baload =>
    simp only [mHeap, mHeapC, Option.bind_eq_some_iff] at h
    obtain ⟨w, hw, g, hg, h⟩ := h
    split at h
    · cases h; exact mLe.rf
    · cases h
  | aaload =>
    simp only [mHeap, mHeapC, Option.bind_eq_some_iff] at h
    obtain ⟨w, hw, g, hg, h⟩ := h
    split at h
    · cases h; exact mLe.rf
    · cases h
  | iastore =>
    simp only [mHeap, mHeapC] at h
    split at h
    · simp only [Option.bind_eq_some_iff] at h
      obtain ⟨g, hg, h⟩ := h
      split at h
      · cases h; exact mLe.put (mCellI hg) (by simp [mSz])
      · cases h
    · cases h
  | lastore =>
    simp only [mHeap, mHeapC] at h
    split at h
    · simp only [Option.bind_eq_some_iff] at h
      obtain ⟨g, hg, h⟩ := h
      split at h
      · cases h; exact mLe.put (mCellL hg) (by simp [mSz])
      · cases h
    · cases h
  | bastore =>
    simp only [mHeap, mHeapC] at h
    split at h
    · simp only [Option.bind_eq_some_iff] at h
      obtain ⟨g, hg, h⟩ := h
      split at h
      · cases h; exact mLe.put (mCellZ hg) (by simp [mSz])
      · cases h
    · cases h
  | aastore =>
    simp only [mHeap, mHeapC] at h
    split at h
    · simp only [Option.bind_eq_some_iff] at h
      obtain ⟨g, hg, h⟩ := h
      split at h
      · cases h; exact mLe.put (mCellQ hg) (by simp [mSz])
      · cases h
    · simp only [Option.bind_eq_some_iff] at h
      obtain ⟨g, hg, ev, hev, h⟩ := h
      split at h
      · cases h; exact mLe.put (mCellQ hg) (by simp [mSz])
      · cases h
    · cases h
  | arraylength =>
    simp only [mHeap, mHeapC] at h
    split at h
    · simp only [Option.map_eq_some_iff] at h
      obtain ⟨n, hn, rfl⟩ := h
      exact mLe.rf
    · cases h
  | newarray t =>
    simp only [mHeap, mHeapC, Option.bind_eq_some_iff] at h
    obtain ⟨w, hw, k, hk, h⟩ := h
    exact mLe.newa h
  | anewarray i =>
    simp only [mHeap, mHeapC, Option.bind_eq_some_iff] at h
    obtain ⟨w, hw, k, hk, h⟩ := h
    split at h
    · exact mLe.newa h
    · cases h
  | new i =>
    simp only [mHeap, mHeapC, Option.map_eq_some_iff] at h
    obtain ⟨w, hw, rfl⟩ := h
    exact mLe.push
  | invokespecial i =>
    simp only [mHeap, mHeapC, Option.bind_eq_some_iff] at h
    obtain ⟨w, hi, h⟩ := h
    split at h
    · split at h
      · split at h
        · cases h; exact mLe.rf
        · cases h
      · cases h
    · cases h
  | invokestatic i =>
    simp only [mHeap, mHeapC, Option.bind_eq_some_iff] at h
    obtain ⟨w, hi, h⟩ := h
    split at h
    · split at h
      · simp only [Option.bind_eq_some_iff] at h
        obtain ⟨f, hf, g, hg, h⟩ := h
        split at h
        · cases h; exact mLe.put (mCellI hg) (by simp [mSz])
        · cases h
      · cases h
    · split at h
      · split at h
        · split at h
          · cases h; exact mLe.rf
          · cases h
        · cases h
      · split at h
        · split at h
          · split at h
            · cases h; exact mLe.rf
            · cases h
          · cases h
        · cases h
  | _ => simp [mHeap, mHeapC] at h
theorem mStep_mono {P : MP} {L : Nat} {xs : Nat → Int32} {y : Nat} {ins : Instr} {pc : Nat} {lv : MLv} {st : List Value} {σ : List MC} {q : MR} (h : mStep P L xs y ins pc lv st σ = some q) : mLe σ q.2.2.2 := by
  unfold mStep at h
  split at h
  · cases h; exact mLe.rf
  · simp only [Option.map_eq_some_iff] at h
    obtain ⟨w, hw, rfl⟩ := h
    exact mHeap_mono hw
theorem mRun_mono {P : MP} {L : Nat} {xs : Nat → Int32} {call : Nat → List Value → List MC → Option MRes} (hc : ∀ y as σ r, call y as σ = some r → mLe σ r.2) {y : Nat} : ∀ (n pc : Nat) (lv : MLv) (st : List Value) (σ : List MC) (r : MRes), mRun P L xs call y n pc lv st σ = some r → mLe σ r.2 := by
  intro n
  induction n with
  | zero => intro pc lv st σ r h; simp [mRun] at h
  | succ n ih =>
    intro pc lv st σ r h
    rw [mRun] at h
    split at h
    · cases h
    · split at h
      · cases h; exact mLe.rf
      · split at h
        · split at h
          · next hr => exact (hc _ _ _ _ hr).tr (ih _ _ _ _ _ h)
          · cases h
        · split at h
          · next hq => exact (mStep_mono hq).tr (ih _ _ _ _ _ h)
          · cases h
theorem mExec_mono {P : MP} {L : Nat} {xs : Nat → Int32} {N : Nat} : ∀ (d y : Nat) (as : List Value) (σ : List MC) (r : MRes), mExec P L xs N d y as σ = some r → mLe σ r.2 := by
  intro d
  induction d with
  | zero => intro y as σ r h; simp [mExec] at h
  | succ d ih => intro y as σ r h; exact mRun_mono (fun y as σ r h => ih y as σ r h) _ _ _ _ _ _ h
end
section
/-! CALLS -/
section MK
variable (D : va_G) (cl : List vw_C) (aC : Nat → ClassId) (tyL : List FieldType) (Ts Ns : List Cond) (b0 base L : Nat) (xs : Nat → Int32) (P : MP) (nm : Nat → MethodName) (byt : Nat → ByteArray) (rt : Nat → Option FieldType)
def mPcc (as : List Value) (σ : List MC) : Array Value → State → Prop := va_Pc (as.map (mV b0 base)) (fun U => va_P D cl (mW b0 base aC σ) U.heap ∧ U.heap.size = base + σ.length ∧ va_K D cl (mTys aC tyL) U ∧ mAr aC tyL U ∧ va_X b0 L xs U U.heap ∧ mNs Ns U)
def mQcc (r : Option Value) (σ : List MC) : Array Value → State → Outcome → State → Prop := fun _ st oc t => oc = .returned (r.map (mV b0 base)) ∧ (va_P D cl (mW b0 base aC σ) t.heap ∧ t.heap.size = base + σ.length) ∧ va_F (fun q => base ≤ q) st t
def mWs (y : Nat) : List Cond := Cond.code (nm y) (byt y) (mpInfo P y).1 (rt y) :: Ts
def mRm (y mc ms : Nat) : Room := { frames := (mpInfo P y).2.1, cells := mc, slots := ms, locals := (mpInfo P y).2.2.1 }
def mMet (l : Launch) (y : Nat) (as : List Value) (σ : List MC) (r : Option Value) (τ : List MC) : Prop :=
  Met l (nm y) (mWs Ts P nm byt rt y) (mRm P y (τ.length - σ.length) (mSl τ - mSl σ)) (mPcc D cl aC tyL Ns b0 base L xs as σ) (mQcc D cl aC b0 base r τ) (τ.length - σ.length) (mSl τ - mSl σ) (fun q => base ≤ q)
end MK
section MK2
variable {p : Program} {l : Launch} {e : Env} {R : Room} {s : State} {m : MethodId} {args : Array Value} {below : List Frame} {meth : Method} {c : Code} {H : Heap} {locs : List Loc} {cells slots : Nat} {Q : State → Prop}
variable {cc : ByteArray} {pc : Nat} {ls : Array Slot} {b0 base : Nat} {P : MP} {y : Nat} {D : va_G} {cl : List vw_C} {aC : Nat → ClassId} {tyL : List FieldType} {Ts Ns : List Cond} {σ τ : List MC} {nm : Nat → MethodName} {byt : Nat → ByteArray} {rt : Nat → Option FieldType} {L : Nat} {xs : Nat → Int32}
theorem mPcc_blind (hN : mOKns Ns) {as : List Value} : FrameBlind (mPcc D cl aC tyL Ns b0 base L xs as σ) := by
  intro a U g mk q
  obtain ⟨q0, q1, q2, q3, q4, q5, q6⟩ := q
  exact ⟨q0, q1, q2, va_K.moved (u := U) (U := U.calling g mk a) (Vm.Alike.refl U.vm) q3, mAr.moved (u := U) (U := U.calling g mk a) (Vm.Alike.refl U.vm) q4, va_X.moved (u := U) (U := U.calling g mk a) (Vm.Alike.refl U.vm) q5, mNs.same (s := U) (U := U.calling g mk a) hN rfl q6⟩
theorem mPcc_at (hN : mOKns Ns) {as : List Value} (hH : mHp D cl aC b0 base s σ H locs) (hK : va_K D cl (mTys aC tyL) s) (hAr : mAr aC tyL s) (hX : va_X b0 L xs s s.heap) (hb0 : b0 < base) (hbs : base ≤ s.heap.size) (hns : mNs Ns s) {U : State} (hU : U.heap = H) (hW : s.WarmedH U.vm) : mPcc D cl aC tyL Ns b0 base L xs as σ (as.map (mV b0 base)).toArray U := by
  refine ⟨rfl, by rw [hU]; exact hH.1, by rw [hU]; exact hH.2.1, va_K.moved hW.alike hK, mAr.moved hW.alike hAr, ?_, mNs.warm hN hW hns⟩
  rw [hU]
  refine va_X.moved hW.alike (va_X.kept hX ?_)
  exact hH.2.2.2.1 b0 (Nat.lt_of_lt_of_le hb0 hbs) (Nat.not_le.mpr hb0)
/-- behind a call -/
theorem mBack_sound {mc ms : Nat} {a : Array Value} {r : Option Value} {rest : List Value} {st0 : List Value} (hr : va_Run p l e R s m args below meth c H locs cells slots mc ms (F0 m pc ls st0) (rest.map (mV b0 base)) (mQcc D cl aC b0 base r τ a) (fun q => base ≤ q)) (hH : mHp D cl aC b0 base s σ H locs)
    (kk : ∀ (H1 : Heap) (locs1 : List Loc), mHp D cl aC b0 base s τ H1 locs1 → W p l e R s m args below meth c H1 locs1 (cells + mc) (slots + ms) Q (F0 m (pc + 3) ls ((r.toList ++ rest).map (mV b0 base)))) :
    W p l e R s m args below meth c H locs cells slots Q (F0 m pc ls st0) := by
  intro T hT X
  obtain ⟨v, st₀, t, T', L9, h0, X', hL, e1, e2, ⟨hv, ⟨hP1, hz1⟩, hzF, hkF⟩, stp⟩ := hr T hT X
  have hv : v = r.map (mV b0 base) := by cases hv; rfl
  subst hv
  rw [h0] at hzF hkF
  obtain ⟨hP, hz, hS⟩ := hH
  obtain ⟨t2, a1, b1⟩ := kk T'.heap (locs ++ L9) ⟨by rw [e1]; exact hP1, by rw [e1]; exact hz1, Nat.le_trans hS.1 (by rw [e1]; exact hzF), fun q h1 h2 => by
      rw [e1, hkF q (Nat.lt_of_lt_of_le h1 hS.1) h2]
      exact hS.2.1 q h1 h2, fun q hq => by
      rcases List.mem_append.mp hq with h | h
      · exact hS.2.2 q h
      · exact hL q h⟩ T' rfl X'
  refine ⟨t2, stp t2 ?_, b1⟩
  have hst : (r.toList ++ rest).map (mV b0 base) = (r.map (mV b0 base)).toList ++ rest.map (mV b0 base) := by cases r <;> simp
  rw [hst] at a1
  exact a1
theorem mGood {Ts : List Cond} (hg : ∀ w ∈ Ts, (w.onTables && w.keeps) = true ∨ ∃ ty, w = .arrayClass ty) {w0 : Cond} (h0 : w0 ∈ Ts) : GoodIn Ts (w0 :: Ts) := by
  intro w hw
  rcases List.mem_cons.mp hw with rfl | hw
  · exact ⟨h0, hg _ h0⟩
  · exact ⟨hw, hg _ hw⟩
theorem mTake {st : List Value} {n : Nat} (b0 base : Nat) (h : n ≤ st.length) : st.map (mV b0 base) = (((st.take n).reverse).map (mV b0 base)).reverse ++ (st.drop n).map (mV b0 base) := by
  rw [List.map_reverse, List.reverse_reverse, ← List.map_append, List.take_append_drop]
set_option maxHeartbeats 4000000 in
theorem mCall_sound (hexec : p.tables.exec = Jvm.exec) (hb : c.code = cc) (hml : c.maxLocals = ls.size) (hown : s.vm.findClass (nm y).cls = some m.cls) (hts : ∀ w ∈ Ts, w.before args s = true) (hg : ∀ w ∈ Ts, (w.onTables && w.keeps) = true ∨ ∃ ty, w = .arrayClass ty) (hN : mOKns Ns) (hns : mNs Ns s) (hO : mOK Ts Ns cl tyL P nm byt rt) (hK : va_K D cl (mTys aC tyL) s) (hAr : mAr aC tyL s)
    (hX : va_X b0 L xs s s.heap) (hb0 : b0 < base) (hbs : base ≤ s.heap.size) (hRf : (mpInfo P y).2.1 ≤ R.frames) (hRl : (mpInfo P y).2.2.1 ≤ R.locals)
    {ins : Instr} (hdg : mDec cc pc ins) {st : List Value} {w : Nat × List Value × List Value} (h : mCallOf P y ins st σ = some w) {r : Option Value} (hM : mMet D cl aC tyL Ts Ns b0 base L xs P nm byt rt l w.1 w.2.1 σ r τ) (hle : mLe σ τ) (hH : mHp D cl aC b0 base s σ H locs) (hrc : cells + τ.length ≤ R.cells + σ.length) (hrs : slots + mSl τ ≤ R.slots + mSl σ)
    (kk : ∀ (H1 : Heap) (locs1 : List Loc) (cells1 slots1 : Nat), mHp D cl aC b0 base s τ H1 locs1 → cells1 + σ.length = cells + τ.length → slots1 + mSl σ = slots + mSl τ → W p l e R s m args below meth c H1 locs1 cells1 slots1 Q (F0 m (pc + 3) ls ((r.toList ++ w.2.2).map (mV b0 base)))) :
    W p l e R s m args below meth c H locs cells slots Q (F0 m pc ls (st.map (mV b0 base))) := by
  obtain ⟨hl1, hl2⟩ := hle
  obtain ⟨-, -, -, -, -, -, -, hOi, -⟩ := hO
  have fin := fun H1 locs1 hH1 => kk H1 locs1 (cells + (τ.length - σ.length)) (slots + (mSl τ - mSl σ)) hH1 (by omega) (by omega)
  have hf : cells + (τ.length - σ.length) ≤ R.cells ∧ slots + (mSl τ - mSl σ) ≤ R.slots := ⟨by omega, by omega⟩
  have S : CallFix p m c cc ls.size s args Ts (nm y).cls := ⟨hexec, hb, hml, hown, hts⟩
  have room : ∀ rest : List Value, (rest.map fun v => v.category).sum ≤ 8 → 2 * (F0 m pc ls (st.map (mV b0 base))).monitorRoom + ((rest.map (mV b0 base)).map fun v => v.category).sum ≤ 8 := by
    intro rest hr
    exact lv_room (m := m) (pc := pc) (ls := ls) (rest := st.map (mV b0 base)) (st := rest.map (mV b0 base)) (by rw [mV_cats]; exact hr)
  cases ins with
  | invokevirtual i =>
    simp only [mCallOf, mCallOfC, Option.bind_eq_some_iff] at h
    obtain ⟨q, hq, h⟩ := h
    split at h
    · next h1 =>
      obtain ⟨hcode, hlink, -, -, hv, -⟩ := hOi y i q hq
      obtain ⟨c1, c2, c3, c4, c5⟩ := hcode (by omega)
      obtain ⟨v1, v2, v3, T, N, v4⟩ := hv h1
      have hlk := hlink (Or.inr (Or.inl h1))
      unfold mCallK at h
      split at h
      · next hc =>
        obtain ⟨g1, g2, g3, g4, g5⟩ := hc
        simp only at h
        split at h
        · next a As has =>
          split at h
          · next o ho =>
            split at h
            · next hci =>
              cases h
              obtain ⟨k, rfl, hk⟩ := mObj_eq ho
              have hd9 : (parseMethodDescriptor (nm q.2.1).desc).map (fun d => d.parameters.length) = some As.length := by
                have hlen : q.2.2 = As.length + 1 := by
                  have := congrArg List.length has
                  simp at this
                  omega
                cases hpd : parseMethodDescriptor (nm q.2.1).desc with
                | none => rw [hpd] at v3; cases v3
                | some d => rw [hpd] at v3; simp at v3 ⊢; omega
              rw [has] at hM
              refine mBack_sound (va_runV (As := As.map (mV b0 base)) (b := base + k) (C := (nm q.2.1).cls) S hM ⟨callB_of As.length hts (mGood hg c1) rfl rfl rfl (hts _ c2) (hts _ hlk) ⟨c4, c5, hd9⟩ ⟨Nat.le_trans g3 hRf, Nat.le_trans g4 hRl⟩, hts _ v1, hts _ v2⟩
                ⟨mPcc_blind hN, va_recv hK hH.1 (ci := (mpInfo P q.2.1).2.2.2.2.2) (q0 := k) v4 (by rw [← hci]; exact mW_get hk), fun U hU hW => mPcc_at hN hH hK hAr hX hb0 hbs hns hU hW⟩ rfl (by simp) rfl (by
                  show st.map (mV b0 base) = _
                  rw [mTake b0 base g1, has]
                  simp [mV, mAd]) (room _ g2) (hdg.at (by simp [mLen])) hf) hH fin
            · cases h
          · cases h
        · cases h
      · cases h
    · cases h
  | invokestatic i =>
    simp only [mCallOf, mCallOfC, Option.bind_eq_some_iff] at h
    obtain ⟨q, hq, h⟩ := h
    split at h
    · next h1 =>
      obtain ⟨hcode, hlink, hnest, hstat, -⟩ := hOi y i q hq
      obtain ⟨c1, c2, c3, c4, c5⟩ := hcode (by omega)
      obtain ⟨v1, v2⟩ := hstat h1
      unfold mCallK at h
      split at h
      · next hc =>
        obtain ⟨g1, g2, g3, g4, g5⟩ := hc
        have hw : w = (q.2.1, (st.take q.2.2).reverse, st.drop q.2.2) := by
          rcases h1 with h1 | h1 <;> (rw [h1] at h; simp at h; exact h.symm)
        subst hw
        have hlen : ((st.take q.2.2).reverse.map (mV b0 base)).length = q.2.2 := by simp; omega
        rcases h1 with h1 | h1
        · exact mBack_sound (va_runS (As := (st.take q.2.2).reverse.map (mV b0 base)) S hM ⟨callB_of q.2.2 hts (mGood hg c1) rfl rfl rfl (hts _ c2) (hts _ (hlink (Or.inl h1))) ⟨c4, c5, v2⟩ ⟨Nat.le_trans g3 hRf, Nat.le_trans g4 hRl⟩, hts _ v1⟩
            ⟨mPcc_blind hN, fun U hU hW => mPcc_at hN hH hK hAr hX hb0 hbs hns hU hW⟩ rfl hlen rfl (mTake b0 base g1) (room _ g2) (hdg.at (by simp [mLen])) hf) hH fin
        · obtain ⟨host, hh⟩ := hnest (Or.inr h1)
          exact mBack_sound (va_runSN (As := (st.take q.2.2).reverse.map (mV b0 base)) S hM ⟨va_cnB q.2.2 hts (mGood hg c1) rfl rfl rfl (hns _ hh) (hts _ c2) ⟨c4, c5, v2⟩ ⟨Nat.le_trans g3 hRf, Nat.le_trans g4 hRl⟩, hts _ v1, trivial⟩
            ⟨mPcc_blind hN, fun U hU hW => mPcc_at hN hH hK hAr hX hb0 hbs hns hU hW⟩ rfl hlen rfl (mTake b0 base g1) (room _ g2) (hdg.at (by simp [mLen])) hf) hH fin
      · cases h
    · cases h
  | invokespecial i =>
    simp only [mCallOf, mCallOfC, Option.bind_eq_some_iff] at h
    obtain ⟨q, hq, h⟩ := h
    split at h
    · next h1 =>
      obtain ⟨hcode, hlink, hnest, -, -, hsp, -⟩ := hOi y i q hq
      obtain ⟨c1, c2, c3, c4, c5⟩ := hcode (by omega)
      obtain ⟨v1, v2, v3, v4⟩ := hsp h1
      rw [v3] at c1
      unfold mCallK at h
      split at h
      · next hc =>
        obtain ⟨g1, g2, g3, g4, g5⟩ := hc
        obtain ⟨a, As, has, hw⟩ : ∃ a As, (st.take q.2.2).reverse = .ref a :: As ∧ w = (q.2.1, (st.take q.2.2).reverse, st.drop q.2.2) := by
          rcases h1 with h1 | h1 <;>
          · rw [h1] at h
            simp only at h
            split at h
            · next a As has => exact ⟨a, As, has, (Option.some.inj h).symm⟩
            · cases h
        subst hw
        have hd9 : (parseMethodDescriptor (nm q.2.1).desc).map (fun d => d.parameters.length) = some As.length := by
          have hlen : q.2.2 = As.length + 1 := by
            have := congrArg List.length has
            simp at this
            omega
          cases hpd : parseMethodDescriptor (nm q.2.1).desc with
          | none => rw [hpd] at v4; cases v4
          | some d => rw [hpd] at v4; simp at v4 ⊢; omega
        have hst : st.map (mV b0 base) = (As.map (mV b0 base)).reverse ++ .ref (mAd b0 base a) :: (st.drop q.2.2).map (mV b0 base) := by
          rw [mTake b0 base g1, has]
          simp [mV]
        have hM2 := hM
        unfold mMet mWs at hM2
        dsimp only at hM2
        rw [has, v3] at hM2
        rcases h1 with h1 | h1
        · exact mBack_sound (va_runI (As := As.map (mV b0 base)) (b := mAd b0 base a) S hM2 ⟨callB_of As.length hts (mGood hg c1) rfl rfl rfl (hts _ c2) (hts _ (hlink (Or.inr (Or.inr h1)))) ⟨c4, c5, hd9⟩ ⟨Nat.le_trans g3 hRf, Nat.le_trans g4 hRl⟩, v2, hts _ v1⟩
            ⟨mPcc_blind hN, fun U hU hW => mPcc_at hN hH hK hAr hX hb0 hbs hns hU hW⟩ rfl (by simp) rfl hst (room _ g2) (hdg.at (by simp [mLen])) hf) hH fin
        · obtain ⟨host, hh⟩ := hnest (Or.inl h1)
          exact mBack_sound (va_runIN (As := As.map (mV b0 base)) (b := mAd b0 base a) S hM2 ⟨va_cnB As.length hts (mGood hg c1) rfl rfl rfl (hns _ hh) (hts _ c2) ⟨c4, c5, hd9⟩ ⟨Nat.le_trans g3 hRf, Nat.le_trans g4 hRl⟩, v2, hts _ v1⟩
            ⟨mPcc_blind hN, fun U hU hW => mPcc_at hN hH hK hAr hX hb0 hbs hns hU hW⟩ rfl (by simp) rfl hst (room _ g2) (hdg.at (by simp [mLen])) hf) hH fin
      · cases h
    · cases h
  | _ => simp [mCallOf, mCallOfC] at h
end MK2
end
section
/-! A RUN OF THE SMALL MACHINE IS A RUN OF THE MACHINE -/
theorem mCallK_len {P : MP} {y k y2 n : Nat} {st : List Value} {σ : List MC} {w : Nat × List Value × List Value} (h : mCallK P y k y2 n st σ = some w) : (lg_sl w.2.1).length ≤ (mpInfo P w.1).1 := by
  unfold mCallK at h
  split at h
  · next hc =>
    have key : w = (y2, (st.take n).reverse, st.drop n) := by
      split at h
      · exact (Option.some.inj h).symm
      · exact (Option.some.inj h).symm
      · split at h
        · split at h
          · split at h
            · exact (Option.some.inj h).symm
            · cases h
          · cases h
        · cases h
      · split at h
        · exact (Option.some.inj h).symm
        · cases h
      · split at h
        · exact (Option.some.inj h).symm
        · cases h
      · cases h
    rw [key]
    exact hc.2.2.2.2
  · cases h
theorem mCallOf_len {P : MP} {y : Nat} {ins : Instr} {st : List Value} {σ : List MC} {w : Nat × List Value × List Value} (h : mCallOf P y ins st σ = some w) : (lg_sl w.2.1).length ≤ (mpInfo P w.1).1 := by
  cases ins with
  | invokevirtual i =>
    simp only [mCallOf, mCallOfC, Option.bind_eq_some_iff] at h
    obtain ⟨q, hq, h⟩ := h
    split at h
    · exact mCallK_len h
    · cases h
  | invokestatic i =>
    simp only [mCallOf, mCallOfC, Option.bind_eq_some_iff] at h
    obtain ⟨q, hq, h⟩ := h
    split at h
    · exact mCallK_len h
    · cases h
  | invokespecial i =>
    simp only [mCallOf, mCallOfC, Option.bind_eq_some_iff] at h
    obtain ⟨q, hq, h⟩ := h
    split at h
    · exact mCallK_len h
    · cases h
  | _ => simp [mCallOf, mCallOfC] at h
section MRu
variable {p : Program} {l : Launch} {e : Env} {R : Room} {s : State} {m : MethodId} {args : Array Value} {below : List Frame} {meth : Method} {c : Code} {Q : State → Prop}
variable {cc : ByteArray} {b0 base : Nat} {P : MP} {y : Nat} {D : va_G} {cl : List vw_C} {aC : Nat → ClassId} {tyL : List FieldType} {Ts Ns : List Cond} {nm : Nat → MethodName} {byt : Nat → ByteArray} {rt : Nat → Option FieldType} {L : Nat} {xs : Nat → Int32}
theorem mRun_sound (hexec : p.tables.exec = Jvm.exec) (hb : c.code = byt y) (hml : c.maxLocals = (mpInfo P y).1) (hown : s.vm.findClass (nm y).cls = some m.cls) (hts : ∀ w ∈ Ts, w.before args s = true) (hg : ∀ w ∈ Ts, (w.onTables && w.keeps) = true ∨ ∃ ty, w = .arrayClass ty) (hN : mOKns Ns) (hns : mNs Ns s) (hO : mOK Ts Ns cl tyL P nm byt rt) (hK : va_K D cl (mTys aC tyL) s) (hAr : mAr aC tyL s)
    (hX : va_X b0 L xs s s.heap) (hb0 : b0 < base) (hbs : base ≤ s.heap.size) (hin : (mpInfo P y).2.2.2.2.1 = true → meth.name = "<init>") (hRf : (mpInfo P y).2.1 ≤ R.frames) (hRl : (mpInfo P y).2.2.1 ≤ R.locals)
    {call : Nat → List Value → List MC → Option MRes} (hmono : ∀ y as σ r, call y as σ = some r → mLe σ r.2) (hcall : ∀ y as σ r, call y as σ = some r → (lg_sl as).length ≤ (mpInfo P y).1 → mMet D cl aC tyL Ts Ns b0 base L xs P nm byt rt l y as σ r.1 r.2) :
    ∀ (n pc : Nat) (lv : MLv) (st : List Value) (σ : List MC) (r : MRes), mRun P L xs call y n pc lv st σ = some r → ∀ (H : Heap) (locs : List Loc) (cells slots : Nat) (ls : Array Slot), mHp D cl aC b0 base s σ H locs → lv_has ls (mpInfo P y).1 (mLvT b0 base lv) →
      cells + r.2.length ≤ R.cells + σ.length → slots + mSl r.2 ≤ R.slots + mSl σ →
      (∀ (pc1 : Nat) (ls1 : Array Slot) (st1 : List Value) (H1 : Heap) (locs1 : List Loc) (cells1 slots1 : Nat) (ins : Instr), mDec (byt y) pc1 ins → mEnd P y ins st1 = some r.1 → mHp D cl aC b0 base s r.2 H1 locs1 → cells1 + σ.length = cells + r.2.length → slots1 + mSl σ = slots + mSl r.2 → W p l e R s m args below meth c H1 locs1 cells1 slots1 Q (F0 m pc1 ls1 (st1.map (mV b0 base)))) →
      W p l e R s m args below meth c H locs cells slots Q (F0 m pc ls (st.map (mV b0 base))) := by
  intro n
  induction n with
  | zero => intro pc lv st σ r h; simp [mRun] at h
  | succ n ih =>
    intro pc lv st σ r h H locs cells slots ls hH hl hrc hrs kk
    have hsz : c.maxLocals = ls.size := by rw [hml]; exact hl.1.symm
    rw [mRun] at h
    split at h
    · cases h
    · next ins hins =>
      have hdg : mDec (byt y) pc ins := hO.1 y pc ins hins
      split at h
      · next r0 hr0 =>
        cases h
        exact kk pc ls st H locs cells slots ins hdg hr0 hH rfl rfl
      · split at h
        · next w hw =>
          split at h
          · next r1 hr1 =>
            have hm1 := hmono _ _ _ _ hr1
            have hm2 := mRun_mono hmono _ _ _ _ _ _ h
            obtain ⟨l1, l2⟩ := hm1
            obtain ⟨l3, l4⟩ := hm2
            refine mCall_sound hexec hb hsz hown hts hg hN hns hO hK hAr hX hb0 hbs hRf hRl hdg hw (hcall _ _ _ _ hr1 (mCallOf_len hw)) ⟨l1, l2⟩ hH (by omega) (by omega) (fun H1 locs1 cells1 slots1 hH1 hc1 hs1 => ?_)
            refine ih _ _ _ _ _ h H1 locs1 cells1 slots1 ls hH1 hl (by omega) (by omega) (fun pc2 ls2 st2 H2 locs2 cells2 slots2 ins2 d2 e2 hH2 hc2 hs2 => ?_)
            exact kk pc2 ls2 st2 H2 locs2 cells2 slots2 ins2 d2 e2 hH2 (by omega) (by omega)
          · cases h
        · split at h
          · next q hq =>
            have hm1 := mStep_mono hq
            have hm2 := mRun_mono hmono _ _ _ _ _ _ h
            obtain ⟨l1, l2⟩ := hm1
            obtain ⟨l3, l4⟩ := hm2
            unfold mStep at hq
            split at hq
            · next q0 hq0 =>
              cases hq
              refine mLocal_sound hexec hb hown (fun i v hv => hts _ (hO.2.1.1 y i v hv)) (fun i v hv => hts _ (hO.2.1.2 y i v hv)) hdg hq0 hl (fun ls1 hl1 => ?_)
              exact ih _ _ _ _ _ h H locs cells slots ls1 hH hl1 hrc hrs kk
            · simp only [Option.map_eq_some_iff] at hq
              obtain ⟨q0, hq0, rfl⟩ := hq
              refine mHeap_sound hexec hb hsz hown hts hns hO hK hAr hX hb0 hbs hin hRf hRl hdg hq0 hH (by dsimp only at l3; omega) (by dsimp only at l4; omega) (fun H1 locs1 cells1 slots1 hH1 hc1 hs1 => ?_)
              refine ih _ _ _ _ _ h H1 locs1 cells1 slots1 ls hH1 hl (by dsimp only at *; omega) (by dsimp only at *; omega) (fun pc2 ls2 st2 H2 locs2 cells2 slots2 ins2 d2 e2 hH2 hc2 hs2 => ?_)
              exact kk pc2 ls2 st2 H2 locs2 cells2 slots2 ins2 d2 e2 hH2 (by dsimp only at *; omega) (by dsimp only at *; omega)
          · cases h
theorem mEnd_sound (hexec : p.tables.exec = Jvm.exec) (hb : c.code = cc) (hlocks : meth.locks = false) (hr : meth.sig.returnType = rt y) (hO : mOKret P nm rt) {pc : Nat} {ls : Array Slot} {st : List Value} {H : Heap} {locs : List Loc} {cells slots : Nat} {σ : List MC} {ins : Instr} (hdg : mDec cc pc ins) {r : Option Value} (h : mEnd P y ins st = some r) (hH : mHp D cl aC b0 base s σ H locs) :
    W p l e R s m args below meth c H locs cells slots (MQ below (mQcc D cl aC b0 base r σ) args s cells slots (fun q => base ≤ q)) (F0 m pc ls (st.map (mV b0 base))) := by
  obtain ⟨o0, o1, o2, o3, o4, -⟩ := hO y
  obtain ⟨hP, hz, hS⟩ := hH
  have hw : ∀ t : State, t.heap = H → ((va_P D cl (mW b0 base aC σ) t.heap ∧ t.heap.size = base + σ.length) ∧ va_F (fun q => base ≤ q) s t) := fun t ht => ⟨⟨by rw [ht]; exact hP, by rw [ht]; exact hz⟩, hS.F ht⟩
  cases ins with
  | ireturn =>
    simp only [mEnd, mEndC] at h
    split at h
    · next x =>
      split at h
      · next hq =>
        cases h
        rcases hq with hq | ⟨hq, hx⟩
        · exact W.iret hexec hb (hr.trans (o1 hq)) (fun t ht hW => ⟨rfl, hw t ht⟩) hS.2.2 (hdg.at (by simp [mLen])) hlocks
        · exact W.zret (ty := .boolean) hexec hb (hr.trans (o4 hq)) (by simp [narrow, hx]) (fun t ht hW => ⟨rfl, hw t ht⟩) hS.2.2 (hdg.at (by simp [mLen])) hlocks
      · cases h
    · cases h
  | lreturn =>
    simp only [mEnd, mEndC] at h
    split at h
    · next x =>
      split at h
      · next hq =>
        cases h
        exact W.lret hexec hb (hr.trans (o2 hq)) (fun t ht hW => ⟨rfl, hw t ht⟩) hS.2.2 (hdg.at (by simp [mLen])) hlocks
      · cases h
    · cases h
  | areturn =>
    simp only [mEnd, mEndC] at h
    split at h
    · next x =>
      split at h
      · next hq =>
        cases h
        obtain ⟨t, ht, ht2⟩ := o3 hq
        exact W.aret hexec hb (hr.trans ht) ht2 (Or.inr ⟨_, rfl⟩) (fun t ht hW => ⟨rfl, hw t ht⟩) hS.2.2 (hdg.at (by simp [mLen])) hlocks
      · cases h
    · split at h
      · next hq =>
        cases h
        obtain ⟨t, ht, ht2⟩ := o3 hq
        exact W.aret hexec hb (hr.trans ht) ht2 (Or.inl rfl) (fun t ht hW => ⟨rfl, hw t ht⟩) hS.2.2 (hdg.at (by simp [mLen])) hlocks
      · cases h
    · cases h
  | return_ =>
    simp only [mEnd, mEndC] at h
    split at h
    · split at h
      · next hq =>
        cases h
        exact W.vret hexec hb (hr.trans (o0 hq)) (fun t ht hW => ⟨rfl, hw t ht⟩) hS.2.2 (hdg.at (by simp [mLen])) hlocks
      · cases h
    · cases h
  | _ => simp [mEnd, mEndC] at h
/-- what the small machine does, the method does -/
theorem mExec_sound (hg : ∀ w ∈ Ts, (w.onTables && w.keeps) = true ∨ ∃ ty, w = .arrayClass ty) (hN : mOKns Ns) (hO : mOK Ts Ns cl tyL P nm byt rt) (hpl : ∀ y, plainName (nm y).cls = true) (hb0 : b0 < base) {N : Nat} :
    ∀ (d y : Nat) (as : List Value) (σ : List MC) (r : MRes), mExec P L xs N d y as σ = some r → (lg_sl as).length ≤ (mpInfo P y).1 → mMet D cl aC tyL Ts Ns b0 base L xs P nm byt rt l y as σ r.1 r.2 := by
  intro d
  induction d with
  | zero => intro y as σ r h; simp [mExec] at h
  | succ d ih =>
    intro y as σ r h hlen
    rw [mExec] at h
    refine Met.ofW (cc := byt y) (maxL := (mpInfo P y).1) (ret := rt y) (hpl y) rfl ?_
    intro p e s m args below meth c s₁ B hml hv
    obtain ⟨rfl, hP, hz, hK, hAr, hX, hns⟩ := hv
    have hts : ∀ w ∈ Ts, w.before _ s = true := fun w hw => atoms_spec (ws := mWs Ts P nm byt rt y) B.pre w (List.mem_cons_of_mem _ hw)
    have hown : s.vm.findClass (nm y).cls = some m.cls := findClass_of_methodNamed B.named
    have hname : meth.name = (nm y).name := (name_of_methodNamed B.named B.method).1
    have hbs : base ≤ s.heap.size := by omega
    have hH : mHp D cl aC b0 base s σ s.heap [] := ⟨hP, hz, va_S.rf⟩
    have hl := lv_entry (as.map (mV b0 base)) (n := (mpInfo P y).1) (by rw [mSl_T]; exact hlen)
    rw [lg_entry_eq]
    generalize (lg_sl (as.map (mV b0 base)) ++ List.replicate ((mpInfo P y).1 - (lg_sl (as.map (mV b0 base))).length) Slot.unset).toArray = ls at hl ⊢
    rw [mArgs_T] at hl
    have hmo := mExec_mono (P := P) (L := L) (xs := xs) (N := N) d
    obtain ⟨m1, m2⟩ := mRun_mono hmo _ _ _ _ _ _ h
    refine mRun_sound (Ts := Ts) (call := mExec P L xs N d) B.exec B.bytes hml hown hts hg hN hns hO hK hAr hX hb0 hbs (fun hi => hname.trans ((hO.2.2.2.2.2.2.2.2 y).2.2.2.2.2 hi)) (Nat.le_refl _) (Nat.le_refl _) hmo (fun y as σ r h hl => ih y as σ r h hl) N 0 (lv_args 0 as) [] σ r h s.heap [] 0 0 ls hH hl (by show 0 + _ ≤ (r.2.length - σ.length) + _; omega) (by show 0 + _ ≤ (mSl r.2 - mSl σ) + _; omega) (fun pc1 ls1 st1 H1 locs1 cells1 slots1 ins d1 e1 hH1 hc1 hs1 => ?_)
    have k1 : cells1 = r.2.length - σ.length := by omega
    have k2 : slots1 = mSl r.2 - mSl σ := by omega
    subst k1; subst k2
    exact mEnd_sound B.exec B.bytes B.notSynchronized B.returns hO.2.2.2.2.2.2.2.2 d1 e1 hH1
end MRu
end
section
/-! THE SYMBOLIC MACHINE: the small machine over values some of which are ints of the script, known to lie between bounds; where a comparison can't be told, the bounds are split -/
/-- a value, or int i of the script (below 100), or that as a long (100 + i) -/
abbrev SA : Type := Value ⊕ Nat
abbrev SCx : Type := List (Int × Int)
abbrev SLv : Type := List (Nat × SA)
def sVal (xs : Nat → Int32) (a : SA) : Value := match a with
  | .inl v => v
  | .inr i => if i < 100 then .int (xs i) else .long (xs (i - 100)).toInt64
def sIn (cx : SCx) (xs : Nat → Int32) : Prop := ∀ (i : Nat) (p : Int × Int), cx[i]? = some p → p.1 ≤ (xs i).toInt ∧ (xs i).toInt ≤ p.2
def sCat (a : SA) : Nat := match a with
  | .inl v => v.category
  | .inr i => if i < 100 then 1 else 2
/-- its bounds, if it is an int -/
def sIv (cx : SCx) (a : SA) : Option (Int × Int) := match a with
  | .inl (.int x) => some (x.toInt, x.toInt)
  | .inr i => if i < 100 then cx[i]? else none
  | _ => none
/-- its bounds, if it is a long -/
def sLv (cx : SCx) (a : SA) : Option (Int × Int) := match a with
  | .inl (.long x) => some (x.toInt, x.toInt)
  | .inr i => if i < 100 then none else cx[i - 100]?
  | _ => none
/-- its value, if that is known -/
def sCon (cx : SCx) (a : SA) : Option Value := match a with
  | .inl v => some v
  | .inr i => if i < 100 then match cx[i]? with
    | some p => if p.1 = p.2 then some (.int (Int32.ofInt p.1)) else none
    | none => none
  else none
def sCons (cx : SCx) : List SA → Option (List Value)
  | [] => some []
  | a :: r => match sCon cx a with
    | some v => match sCons cx r with
      | some vs => some (v :: vs)
      | none => none
    | none => none
theorem sVal_cat (xs : Nat → Int32) (a : SA) : (sVal xs a).category = sCat a := by
  cases a with
  | inl w => rfl
  | inr i => simp only [sVal, sCat]; split <;> rfl
theorem sCon_ok {cx : SCx} {xs : Nat → Int32} (h : sIn cx xs) {a : SA} {v : Value} (hv : sCon cx a = some v) : sVal xs a = v := by
  cases a with
  | inl w => simp [sCon] at hv; exact hv
  | inr i =>
    simp only [sCon] at hv
    split at hv
    · next hi =>
      split at hv
      · next p hp =>
        split at hv
        · next he =>
          cases hv
          obtain ⟨h1, h2⟩ := h i p hp
          have : (xs i).toInt = p.1 := by omega
          simp only [sVal, if_pos hi, ← this, Int32.ofInt_toInt]
        · cases hv
      · cases hv
    · cases hv
theorem sCons_ok {cx : SCx} {xs : Nat → Int32} (h : sIn cx xs) : ∀ {l : List SA} {vs : List Value}, sCons cx l = some vs → l.map (sVal xs) = vs
  | [], vs, hv => by simp [sCons] at hv; subst hv; rfl
  | a :: r, vs, hv => by
    simp only [sCons] at hv
    split at hv
    · next v hv1 =>
      split at hv
      · next ws hw =>
        cases hv
        rw [List.map_cons, sCon_ok h hv1, sCons_ok h hw]
      · cases hv
    · cases hv
theorem sIv_ok {cx : SCx} {xs : Nat → Int32} (h : sIn cx xs) {a : SA} {p : Int × Int} (hp : sIv cx a = some p) : ∃ x : Int32, sVal xs a = .int x ∧ p.1 ≤ x.toInt ∧ x.toInt ≤ p.2 := by
  cases a with
  | inl w =>
    cases w <;> simp [sIv] at hp
    next x => subst hp; exact ⟨x, rfl, Int.le_refl _, Int.le_refl _⟩
  | inr i =>
    simp only [sIv] at hp
    split at hp
    · next hi => exact ⟨xs i, by simp only [sVal, if_pos hi], h i p hp⟩
    · cases hp
theorem sLv_ok {cx : SCx} {xs : Nat → Int32} (h : sIn cx xs) {a : SA} {p : Int × Int} (hp : sLv cx a = some p) : ∃ x : Int64, sVal xs a = .long x ∧ p.1 ≤ x.toInt ∧ x.toInt ≤ p.2 := by
  cases a with
  | inl w =>
    cases w <;> simp [sLv] at hp
    next x => subst hp; exact ⟨x, rfl, Int.le_refl _, Int.le_refl _⟩
  | inr i =>
    simp only [sLv] at hp
    split at hp
    · cases hp
    · next hi =>
      refine ⟨(xs (i - 100)).toInt64, by simp only [sVal, if_neg hi], ?_⟩
      rw [Int32.toInt_toInt64]
      exact h (i - 100) p hp
/-- how many of the stack an instruction reads, of those that touch no locals -/
def sAr (ins : Instr) : Option Nat := match ins with
  | .iconst _ | .bipush _ | .sipush _ | .lconst _ | .aconst_null | .ldc _ | .ldc2_w _ | .goto _ | .new _ => some 0
  | .ineg | .i2l | .l2i | .ifnull _ | .ifnonnull _ | .tableswitch _ _ _ _ | .lookupswitch _ _ | .getfield _ | .arraylength | .newarray _ | .anewarray _ => some 1
  | .iadd | .isub | .imul | .iand | .ior | .ishl | .ishr | .iushr | .idiv | .irem | .ladd | .lsub | .lmul | .lcmp | .putfield _ | .iaload | .laload | .baload | .aaload => some 2
  | .iastore | .lastore | .bastore | .aastore => some 3
  | _ => none
/-- of calls that are steps -/
def sArC (P : MP) (y : Nat) (ins : Instr) : Option Nat := match ins with
  | .invokespecial i => match mpInv P y i with
    | some q => if q.1 = 5 then some 1 else none
    | none => none
  | .invokestatic i => match mpInv P y i with
    | some q => if q.1 = 6 then some 5 else if q.1 = 7 ∨ q.1 = 8 then some 2 else none
    | none => none
  | _ => none
theorem mI1_app {l r : List Value} (hl : l.length = 1) : mI1 (l ++ r) = (mI1 l).map (fun q => (q.1, q.2 ++ r)) := by
  match l, hl with
  | [a], _ => cases a <;> rfl
theorem mI2_app {l r : List Value} (hl : l.length = 2) : mI2 (l ++ r) = (mI2 l).map (fun q => (q.1, q.2.1, q.2.2 ++ r)) := by
  match l, hl with
  | [a, b], _ => cases a <;> cases b <;> rfl
theorem mL1_app {l r : List Value} (hl : l.length = 1) : mL1 (l ++ r) = (mL1 l).map (fun q => (q.1, q.2 ++ r)) := by
  match l, hl with
  | [a], _ => cases a <;> rfl
theorem mL2_app {l r : List Value} (hl : l.length = 2) : mL2 (l ++ r) = (mL2 l).map (fun q => (q.1, q.2.1, q.2.2 ++ r)) := by
  match l, hl with
  | [a, b], _ => cases a <;> cases b <;> rfl
theorem mA1_app {l r : List Value} (hl : l.length = 1) : mA1 (l ++ r) = (mA1 l).map (fun q => (q.1, q.2 ++ r)) := by
  match l, hl with
  | [a], _ => cases a <;> rfl
theorem mIA_app {l r : List Value} (hl : l.length = 2) : mIA (l ++ r) = (mIA l).map (fun q => (q.1, q.2.1, q.2.2 ++ r)) := by
  match l, hl with
  | [a, b], _ => cases a <;> cases b <;> rfl
set_option maxHeartbeats 4000000 in
theorem mLocal_app {P : MP} {y : Nat} {ins : Instr} {n pc : Nat} {lv : MLv} {ops r : List Value} {q : Nat × MLv × List Value} (hn : sAr ins = some n) (hl : ops.length = n) (h : mLocal y P ins pc [] ops = some q) : mLocal y P ins pc lv (ops ++ r) = some (q.1, lv, q.2.2 ++ r) := by
  cases ins with
  | iconst k =>
    cases hn
    match ops, hl with
    | [], _ => cases h; rfl
  | bipush k =>
    cases hn
    match ops, hl with
    | [], _ => cases h; rfl
  | sipush k =>
    cases hn
    match ops, hl with
    | [], _ => cases h; rfl
  | lconst k =>
    cases hn
    match ops, hl with
    | [], _ => cases h; rfl
  | aconst_null =>
    cases hn
    match ops, hl with
    | [], _ => cases h; rfl
  | ldc k =>
    cases hn
    match ops, hl with
    | [], _ =>
      simp only [mLocal, mLocalC, Option.map_eq_some_iff] at h
      obtain ⟨w, hw, rfl⟩ := h
      simp only [mLocal, mLocalC, hw, Option.map_some]
      rfl
  | ldc2_w k =>
    cases hn
    match ops, hl with
    | [], _ =>
      simp only [mLocal, mLocalC, Option.map_eq_some_iff] at h
      obtain ⟨w, hw, rfl⟩ := h
      simp only [mLocal, mLocalC, hw, Option.map_some]
      rfl
  | goto k =>
    cases hn
    match ops, hl with
    | [], _ =>
      simp only [mLocal, mLocalC, Option.map_eq_some_iff] at h
      obtain ⟨w, hw, rfl⟩ := h
      simp only [mLocal, mLocalC, hw, Option.map_some]
  | ineg =>
    cases hn
    simp only [mLocal, mLocalC, Option.map_eq_some_iff] at h
    obtain ⟨w, hw, rfl⟩ := h
    simp only [mLocal, mLocalC, mI1_app hl, hw, Option.map_some]
    rfl
  | i2l =>
    cases hn
    simp only [mLocal, mLocalC, Option.map_eq_some_iff] at h
    obtain ⟨w, hw, rfl⟩ := h
    simp only [mLocal, mLocalC, mI1_app hl, hw, Option.map_some]
    rfl
  | l2i =>
    cases hn
    simp only [mLocal, mLocalC, Option.map_eq_some_iff] at h
    obtain ⟨w, hw, rfl⟩ := h
    simp only [mLocal, mLocalC, mL1_app hl, hw, Option.map_some]
    rfl
  | iadd =>
    cases hn
    simp only [mLocal, mLocalC, Option.map_eq_some_iff] at h
    obtain ⟨w, hw, rfl⟩ := h
    simp only [mLocal, mLocalC, mI2_app hl, hw, Option.map_some]
    rfl
  | isub =>
    cases hn
    simp only [mLocal, mLocalC, Option.map_eq_some_iff] at h
    obtain ⟨w, hw, rfl⟩ := h
    simp only [mLocal, mLocalC, mI2_app hl, hw, Option.map_some]
    rfl
  | imul =>
    cases hn
    simp only [mLocal, mLocalC, Option.map_eq_some_iff] at h
    obtain ⟨w, hw, rfl⟩ := h
    simp only [mLocal, mLocalC, mI2_app hl, hw, Option.map_some]
    rfl
  | iand =>
    cases hn
    simp only [mLocal, mLocalC, Option.map_eq_some_iff] at h
    obtain ⟨w, hw, rfl⟩ := h
    simp only [mLocal, mLocalC, mI2_app hl, hw, Option.map_some]
    rfl
  | ior =>
    cases hn
    simp only [mLocal, mLocalC, Option.map_eq_some_iff] at h
    obtain ⟨w, hw, rfl⟩ := h
    simp only [mLocal, mLocalC, mI2_app hl, hw, Option.map_some]
    rfl
  | ishl =>
    cases hn
    simp only [mLocal, mLocalC, Option.map_eq_some_iff] at h
    obtain ⟨w, hw, rfl⟩ := h
    simp only [mLocal, mLocalC, mI2_app hl, hw, Option.map_some]
    rfl
  | ishr =>
    cases hn
    simp only [mLocal, mLocalC, Option.map_eq_some_iff] at h
    obtain ⟨w, hw, rfl⟩ := h
    simp only [mLocal, mLocalC, mI2_app hl, hw, Option.map_some]
    rfl
  | iushr =>
    cases hn
    simp only [mLocal, mLocalC, Option.map_eq_some_iff] at h
    obtain ⟨w, hw, rfl⟩ := h
    simp only [mLocal, mLocalC, mI2_app hl, hw, Option.map_some]
    rfl
  | ladd =>
    cases hn
    simp only [mLocal, mLocalC, Option.map_eq_some_iff] at h
    obtain ⟨w, hw, rfl⟩ := h
    simp only [mLocal, mLocalC, mL2_app hl, hw, Option.map_some]
    rfl
  | lsub =>
    cases hn
    simp only [mLocal, mLocalC, Option.map_eq_some_iff] at h
    obtain ⟨w, hw, rfl⟩ := h
    simp only [mLocal, mLocalC, mL2_app hl, hw, Option.map_some]
    rfl
  | lmul =>
    cases hn
    simp only [mLocal, mLocalC, Option.map_eq_some_iff] at h
    obtain ⟨w, hw, rfl⟩ := h
    simp only [mLocal, mLocalC, mL2_app hl, hw, Option.map_some]
    rfl
  | lcmp =>
    cases hn
    simp only [mLocal, mLocalC, Option.map_eq_some_iff] at h
    obtain ⟨w, hw, rfl⟩ := h
    simp only [mLocal, mLocalC, mL2_app hl, hw, Option.map_some]
    rfl
  | idiv =>
    cases hn
    simp only [mLocal, mLocalC, Option.bind_eq_some_iff] at h
    obtain ⟨w, hw, h⟩ := h
    simp only [mLocal, mLocalC, mI2_app hl, hw, Option.map_some, Option.bind_some]
    split at h
    · cases h
    · next h0 => cases h; rw [if_neg h0]; rfl
  | irem =>
    cases hn
    simp only [mLocal, mLocalC, Option.bind_eq_some_iff] at h
    obtain ⟨w, hw, h⟩ := h
    simp only [mLocal, mLocalC, mI2_app hl, hw, Option.map_some, Option.bind_some]
    split at h
    · cases h
    · next h0 => cases h; rw [if_neg h0]; rfl
  | ifnull k =>
    cases hn
    simp only [mLocal, mLocalC, Option.bind_eq_some_iff, Option.map_eq_some_iff] at h
    obtain ⟨w, hw, t, ht, rfl⟩ := h
    simp only [mLocal, mLocalC, mA1_app hl, hw, Option.map_some, Option.bind_some, ht]
  | ifnonnull k =>
    cases hn
    simp only [mLocal, mLocalC, Option.bind_eq_some_iff, Option.map_eq_some_iff] at h
    obtain ⟨w, hw, t, ht, rfl⟩ := h
    simp only [mLocal, mLocalC, mA1_app hl, hw, Option.map_some, Option.bind_some, ht]
  | tableswitch d lo hi offs =>
    cases hn
    simp only [mLocal, mLocalC, Option.bind_eq_some_iff] at h
    obtain ⟨w, hw, h⟩ := h
    simp only [mLocal, mLocalC, mI1_app hl, hw, Option.map_some, Option.bind_some]
    split at h
    · next h0 =>
      simp only [Option.map_eq_some_iff] at h
      obtain ⟨t, ht, rfl⟩ := h
      rw [if_pos h0, ht]; rfl
    · next h0 =>
      simp only [Option.bind_eq_some_iff, Option.map_eq_some_iff] at h
      obtain ⟨o, ho, t, ht, rfl⟩ := h
      rw [if_neg h0, ho]
      simp only [Option.bind_some, ht, Option.map_some]
  | lookupswitch d ps =>
    cases hn
    simp only [mLocal, mLocalC, Option.bind_eq_some_iff] at h
    obtain ⟨w, hw, h⟩ := h
    simp only [mLocal, mLocalC, mI1_app hl, hw, Option.map_some, Option.bind_some]
    split at h
    · next h0 =>
      simp only [Option.map_eq_some_iff] at h
      obtain ⟨t, ht, rfl⟩ := h
      rw [if_pos h0, ht]; rfl
    · cases h
  | _ => first | (simp [sAr] at hn; done) | (simp [mLocal, mLocalC] at h; done)
theorem mHeap_app {P : MP} {L : Nat} {xs : Nat → Int32} {y : Nat} {ins : Instr} {n pc : Nat} {ops r : List Value} {σ : List MC} {q : Nat × List Value × List MC} (hn : sAr ins = some n) (hl : ops.length = n) (h : mHeap P L xs y ins pc ops σ = some q) : mHeap P L xs y ins pc (ops ++ r) σ = some (q.1, q.2.1 ++ r, q.2.2) := by
  cases ins with
  | getfield i =>
    cases hn
    match ops, hl with
    | [a], _ =>
      cases a with
      | ref a =>
        simp only [mHeap, mHeapC, Option.bind_eq_some_iff] at h
        obtain ⟨o, ho, w, hw, h⟩ := h
        simp only [List.cons_append, List.nil_append, mHeap, mHeapC, ho, hw, Option.bind_some]
        split at h
        · next h0 =>
          simp only [Option.map_eq_some_iff] at h
          obtain ⟨v, hv, rfl⟩ := h
          rw [if_pos h0, hv]; rfl
        · cases h
      | _ => simp [mHeap, mHeapC] at h
  | putfield i =>
    cases hn
    match ops, hl with
    | [v, a], _ =>
      cases a with
      | ref a =>
        simp only [mHeap, mHeapC, Option.bind_eq_some_iff] at h
        obtain ⟨o, ho, w, hw, h⟩ := h
        simp only [List.cons_append, List.nil_append, mHeap, mHeapC, ho, hw, Option.bind_some]
        split at h
        · next h0 => cases h; rw [if_pos h0]; rfl
        · cases h
      | _ => simp [mHeap, mHeapC] at h
  | iaload =>
    cases hn
    simp only [mHeap, mHeapC, Option.bind_eq_some_iff] at h
    obtain ⟨w, hw, g, hg, h⟩ := h
    simp only [mHeap, mHeapC, mIA_app hl, hw, Option.map_some, Option.bind_some, hg]
    split at h
    · next h0 => cases h; rw [if_pos h0]; rfl
    · cases h
  | laload =>
    cases hn
    simp only [mHeap, mHeapC, Option.bind_eq_some_iff] at h
    obtain ⟨w, hw, g, hg, h⟩ := h
    simp only [mHeap, mHeapC, mIA_app hl, hw, Option.map_some, Option.bind_some, hg]
    split at h
    · next h0 => cases h; rw [if_pos h0]; rfl
    · cases h
  | baload =>
    cases hn
    simp only [mHeap, mHeapC, Option.bind_eq_some_iff] at h
    obtain ⟨w, hw, g, hg, h⟩ := h
    simp only [mHeap, mHeapC, mIA_app hl, hw, Option.map_some, Option.bind_some, hg]
    split at h
    · next h0 => cases h; rw [if_pos h0]; rfl
    · cases h
  | aaload =>
    cases hn
    simp only [mHeap, mHeapC, Option.bind_eq_some_iff] at h
    obtain ⟨w, hw, g, hg, h⟩ := h
    simp only [mHeap, mHeapC, mIA_app hl, hw, Option.map_some, Option.bind_some, hg]
    split at h
    · next h0 => cases h; rw [if_pos h0]; rfl
    · cases h
  | iastore =>
    cases hn
    match ops, hl with
    | [v, i, a], _ =>
      cases v <;> cases i <;> cases a <;> first | (simp [mHeap, mHeapC] at h; done) | skip
      simp only [mHeap, mHeapC, Option.bind_eq_some_iff] at h
      obtain ⟨g, hg, h⟩ := h
      simp only [List.cons_append, List.nil_append, mHeap, mHeapC, hg, Option.bind_some]
      split at h
      · next h0 => cases h; rw [if_pos h0]; rfl
      · cases h
  | lastore =>
    cases hn
    match ops, hl with
    | [v, i, a], _ =>
      cases v <;> cases i <;> cases a <;> first | (simp [mHeap, mHeapC] at h; done) | skip
      simp only [mHeap, mHeapC, Option.bind_eq_some_iff] at h
      obtain ⟨g, hg, h⟩ := h
      simp only [List.cons_append, List.nil_append, mHeap, mHeapC, hg, Option.bind_some]
      split at h
      · next h0 => cases h; rw [if_pos h0]; rfl
      · cases h
  | bastore =>
    cases hn
    match ops, hl with
    | [v, i, a], _ =>
      cases v <;> cases i <;> cases a <;> first | (simp [mHeap, mHeapC] at h; done) | skip
      simp only [mHeap, mHeapC, Option.bind_eq_some_iff] at h
      obtain ⟨g, hg, h⟩ := h
      simp only [List.cons_append, List.nil_append, mHeap, mHeapC, hg, Option.bind_some]
      split at h
      · next h0 => cases h; rw [if_pos h0]; rfl
      · cases h
  | aastore =>
    cases hn
    match ops, hl with
    | [v, i, a], _ =>
      cases v <;> cases i <;> cases a <;> first | (simp [mHeap, mHeapC] at h; done) | skip
      · simp only [mHeap, mHeapC, Option.bind_eq_some_iff] at h
        obtain ⟨g, hg, h⟩ := h
        simp only [List.cons_append, List.nil_append, mHeap, mHeapC, hg, Option.bind_some]
        split at h
        · next h0 => cases h; rw [if_pos h0]; rfl
        · cases h
      · simp only [mHeap, mHeapC, Option.bind_eq_some_iff] at h
        obtain ⟨g, hg, ev, hev, h⟩ := h
        simp only [List.cons_append, List.nil_append, mHeap, mHeapC, hg, hev, Option.bind_some]
        split at h
        · next h0 => cases h; rw [if_pos h0]; rfl
        · cases h
  | arraylength =>
    cases hn
    match ops, hl with
    | [a], _ =>
      cases a with
      | ref a =>
        simp only [mHeap, mHeapC, Option.map_eq_some_iff] at h
        obtain ⟨v, hv, rfl⟩ := h
        simp only [List.cons_append, List.nil_append, mHeap, mHeapC, hv, Option.map_some]
      | _ => simp [mHeap, mHeapC] at h
  | newarray t =>
    cases hn
    simp only [mHeap, mHeapC, Option.bind_eq_some_iff] at h
    obtain ⟨w, hw, k, hk, h⟩ := h
    simp only [mHeap, mHeapC, mI1_app hl, hw, Option.map_some, Option.bind_some, hk]
    unfold mNewA at h ⊢
    split at h
    · cases h
    · next h0 =>
      split at h
      · next h1 => cases h; rw [if_neg h0, if_pos h1]; rfl
      · cases h
  | anewarray t =>
    cases hn
    simp only [mHeap, mHeapC, Option.bind_eq_some_iff] at h
    obtain ⟨w, hw, k, hk, h⟩ := h
    simp only [mHeap, mHeapC, mI1_app hl, hw, Option.map_some, Option.bind_some, hk]
    split at h
    · next h3 =>
      rw [if_pos h3]
      unfold mNewA at h ⊢
      split at h
      · cases h
      · next h0 =>
        split at h
        · next h1 => cases h; rw [if_neg h0, if_pos h1]; rfl
        · cases h
    · cases h
  | new i =>
    cases hn
    match ops, hl with
    | [], _ =>
      simp only [mHeap, mHeapC, Option.map_eq_some_iff] at h
      obtain ⟨w, hw, rfl⟩ := h
      simp only [mHeap, mHeapC, hw, Option.map_some]
      rfl
  | _ => first | (simp [sAr] at hn; done) | (simp [mHeap, mHeapC] at h; done)
theorem mHeap_appC {P : MP} {L : Nat} {xs : Nat → Int32} {y : Nat} {ins : Instr} {n pc : Nat} {ops r : List Value} {σ : List MC} {q : Nat × List Value × List MC} (hn : sArC P y ins = some n) (hl : ops.length = n) (hr : (r.map (fun v => v.category)).sum ≤ 8) (h : mHeap P L xs y ins pc ops σ = some q) : mHeap P L xs y ins pc (ops ++ r) σ = some (q.1, q.2.1 ++ r, q.2.2) := by
  cases ins with
  | invokespecial i =>
    simp only [sArC] at hn
    split at hn
    · next w hw =>
      split at hn
      · next h5 =>
        cases hn
        match ops, hl with
        | [a], _ =>
          simp only [mHeap, mHeapC, hw, Option.bind_some, if_pos h5] at h
          simp only [List.cons_append, List.nil_append, mHeap, mHeapC, hw, Option.bind_some, if_pos h5]
          cases a with
          | ref a =>
            simp only at h ⊢
            split at h
            · next h0 => cases h; rw [if_pos ⟨hr, h0.2⟩]; rfl
            · cases h
          | _ => simp at h
      · cases hn
    · cases hn
  | invokestatic i =>
    simp only [sArC] at hn
    split at hn
    · next w hw =>
      split at hn
      · next h6 =>
        cases hn
        match ops, hl with
        | [a, b, c, d, e], _ =>
          simp only [mHeap, mHeapC, hw, Option.bind_some, if_pos h6] at h
          simp only [List.cons_append, List.nil_append, mHeap, mHeapC, hw, Option.bind_some, if_pos h6]
          cases a <;> cases b <;> cases c <;> first | (simp at h; done) | skip
          cases d <;> cases e <;> first | (simp at h; done) | skip
          simp only [Option.bind_eq_some_iff] at h
          obtain ⟨f, hf, g, hg, h⟩ := h
          simp only [hf, hg, Option.bind_some]
          split at h
          · next h0 =>
            cases h
            rw [if_pos ⟨h0.1, h0.2.1, h0.2.2.1, h0.2.2.2.1, h0.2.2.2.2.1, hr, h0.2.2.2.2.2.2⟩]
            rfl
          · cases h
      · next h6 =>
        split at hn
        · next h78 =>
          cases hn
          match ops, hl with
          | [a, b], _ =>
            simp only [mHeap, mHeapC, hw, Option.bind_some, if_neg h6] at h
            simp only [List.cons_append, List.nil_append, mHeap, mHeapC, hw, Option.bind_some, if_neg h6]
            by_cases h7 : w.1 = 7
            · rw [if_pos h7] at h ⊢
              cases a <;> cases b <;> first | (simp at h; done) | skip
              simp only at h ⊢
              split at h
              · next h0 => cases h; rw [if_pos ⟨hr, h0.2⟩]; rfl
              · cases h
            · rw [if_neg h7] at h ⊢
              have h8 : w.1 = 8 := by rcases h78 with q | q; exact absurd q h7; exact q
              rw [if_pos h8] at h ⊢
              cases a <;> cases b <;> first | (simp at h; done) | skip
              simp only at h ⊢
              split at h
              · next h0 => cases h; rw [if_pos ⟨hr, h0.2⟩]; rfl
              · cases h
        · cases hn
    · cases hn
  | _ => simp [sArC] at hn
end
section
def sIsI (a : SA) : Bool := match a with
  | .inl (.int _) => true
  | .inr i => Nat.blt i 100
  | _ => false
def sIsL (a : SA) : Bool := match a with
  | .inl (.long _) => true
  | .inr i => !(Nat.blt i 100)
  | _ => false
def sLook (lv : SLv) (i : Nat) : Option SA := match lv with
  | [] => none
  | q :: r => bif Nat.beq q.1 i then some q.2 else sLook r i
def sSt1 (lv : SLv) (i : Nat) (v : SA) : SLv := (i, v) :: lv.filter (fun q => !(q.1 == i) && !(q.1 + 1 == i && sCat q.2 == 2))
def sSt2 (lv : SLv) (i : Nat) (v : SA) : SLv := (i, v) :: lv.filter (fun q => !(q.1 == i) && (!(q.1 == i + 1) && !(q.1 + 1 == i && sCat q.2 == 2)))
def sLvT (v : Nat → Int32) (lv : SLv) : MLv := lv.map (fun q => (q.1, sVal v q.2))
def sLdI (lv : SLv) (i pc : Nat) (st : List SA) : Option (Nat × SLv × List SA) := match sLook lv i with
  | some a => if sIsI a = true then some (pc, lv, a :: st) else none
  | none => none
def sLdA (lv : SLv) (i pc : Nat) (st : List SA) : Option (Nat × SLv × List SA) := match sLook lv i with
  | some (.inl (.ref x)) => some (pc, lv, .inl (.ref x) :: st)
  | some (.inl .null) => some (pc, lv, .inl .null :: st)
  | _ => none
def sLdL (lv : SLv) (i pc : Nat) (st : List SA) : Option (Nat × SLv × List SA) := match sLook lv i with
  | some a => if sIsL a = true then some (pc, lv, a :: st) else none
  | none => none
def sStI (lv : SLv) (nL i pc : Nat) (st : List SA) : Option (Nat × SLv × List SA) := match st with
  | a :: r => if sIsI a = true ∧ i < nL then some (pc, sSt1 lv i a, r) else none
  | [] => none
def sStA (lv : SLv) (nL i pc : Nat) (st : List SA) : Option (Nat × SLv × List SA) := match st with
  | .inl (.ref x) :: r => if i < nL then some (pc, sSt1 lv i (.inl (.ref x)), r) else none
  | .inl .null :: r => if i < nL then some (pc, sSt1 lv i (.inl .null), r) else none
  | _ => none
def sStL (lv : SLv) (nL i pc : Nat) (st : List SA) : Option (Nat × SLv × List SA) := match st with
  | a :: r => if sIsL a = true ∧ i + 1 < nL then some (pc, sSt2 lv i a, r) else none
  | [] => none
def sInc (cx : SCx) (lv : SLv) (nL i : Nat) (n : Int) (pc : Nat) (st : List SA) : Option (Nat × SLv × List SA) := match sLook lv i with
  | some a => match sCon cx a with
    | some (.int x) => if i < nL then some (pc, sSt1 lv i (.inl (.int (x + Int32.ofInt n))), st) else none
    | _ => none
  | none => none
def sDup (pc : Nat) (lv : SLv) (st : List SA) : Option (Nat × SLv × List SA) := match st with
  | a :: r => if sCat a = 1 then some (pc, lv, a :: a :: r) else none
  | [] => none
def sPop (pc : Nat) (lv : SLv) (st : List SA) : Option (Nat × SLv × List SA) := match st with
  | a :: r => if sCat a = 1 then some (pc, lv, r) else none
  | [] => none
def sDup2 (pc : Nat) (lv : SLv) (st : List SA) : Option (Nat × SLv × List SA) := match st with
  | a :: b :: r => if sCat a = 1 ∧ sCat b = 1 then some (pc, lv, a :: b :: a :: b :: r) else none
  | _ => none
def sLocalC (ins : Instr) : MP → Nat → SCx → Nat → SLv → List SA → Option (Nat × SLv × List SA) := match ins with
  | .iload_n k => fun P y cx pc lv st => sLdI lv k (pc + 1) st
  | .iload i => fun P y cx pc lv st => sLdI lv i (pc + 2) st
  | .aload_n k => fun P y cx pc lv st => sLdA lv k (pc + 1) st
  | .aload i => fun P y cx pc lv st => sLdA lv i (pc + 2) st
  | .lload_n k => fun P y cx pc lv st => sLdL lv k (pc + 1) st
  | .lload i => fun P y cx pc lv st => sLdL lv i (pc + 2) st
  | .istore_n k => fun P y cx pc lv st => sStI lv (mpInfo P y).1 k (pc + 1) st
  | .istore i => fun P y cx pc lv st => sStI lv (mpInfo P y).1 i (pc + 2) st
  | .astore_n k => fun P y cx pc lv st => sStA lv (mpInfo P y).1 k (pc + 1) st
  | .astore i => fun P y cx pc lv st => sStA lv (mpInfo P y).1 i (pc + 2) st
  | .lstore_n k => fun P y cx pc lv st => sStL lv (mpInfo P y).1 k (pc + 1) st
  | .lstore i => fun P y cx pc lv st => sStL lv (mpInfo P y).1 i (pc + 2) st
  | .iinc i n => fun P y cx pc lv st => sInc cx lv (mpInfo P y).1 i n (pc + 3) st
  | .dup => fun P y cx pc lv st => sDup (pc + 1) lv st
  | .pop => fun P y cx pc lv st => sPop (pc + 1) lv st
  | .dup2 => fun P y cx pc lv st => sDup2 (pc + 1) lv st
  | _ => fun P y cx pc lv st => none
def sLocal (P : MP) (y : Nat) (cx : SCx) (ins : Instr) (pc : Nat) (lv : SLv) (st : List SA) : Option (Nat × SLv × List SA) := sLocalC ins P y cx pc lv st
def sLcmp (A B : Int × Int) : Option Int32 := if A.2 < B.1 then some (-1) else if B.2 < A.1 then some 1 else if A.1 = A.2 ∧ B.1 = B.2 ∧ A.1 = B.1 then some 0 else none
/-- an int of the script; its lowest six bits have number 6 -/
def sScrC (ins : Instr) : SCx → Nat → Nat → SLv → List SA → Option (Nat × SLv × List SA) := match ins with
  | .iaload => fun cx L pc lv st => match st with
    | i :: .inl (.ref 0) :: r => match sCon cx i with
      | some (.int x) => if mIn x L = true then some (pc + 1, lv, .inr (mIx x) :: r) else none
      | _ => none
    | _ => none
  | .iand => fun cx L pc lv st => match st with
    | .inl (.int c) :: .inr 0 :: r => if c = 63 then some (pc + 1, lv, .inr 6 :: r) else none
    | _ => none
  | .arraylength => fun cx L pc lv st => match st with
    | .inl (.ref 0) :: r => some (pc + 1, lv, .inl (.int (Int32.ofNat L)) :: r)
    | _ => none
  | .i2l => fun cx L pc lv st => match st with
    | .inr i :: r => if i < 100 then some (pc + 1, lv, .inr (100 + i) :: r) else none
    | _ => none
  | .lcmp => fun cx L pc lv st => match st with
    | b :: a :: r => match sLv cx a, sLv cx b with
      | some A, some B => match sLcmp A B with
        | some x => some (pc + 1, lv, .inl (.int x) :: r)
        | none => none
      | _, _ => none
    | _ => none
  | .tableswitch d lo hi _ => fun cx L pc lv st => match st with
    | .inr i :: r => if i < 100 then match cx[i]? with
        | some p => if p.2 < lo ∨ hi < p.1 then (mTo pc d).map (fun t => (t, lv, r)) else none
        | none => none
      else none
    | _ => none
  | _ => fun cx L pc lv st => none
def sScr (cx : SCx) (L : Nat) (ins : Instr) (pc : Nat) (lv : SLv) (st : List SA) : Option (Nat × SLv × List SA) := sScrC ins cx L pc lv st
/-- no ref to the script among them -/
def sNoScr (l : List Value) : Bool := l.all (fun v => match v with
  | .ref 0 => false
  | _ => true)
def sPlain (P : MP) (L : Nat) (y : Nat) (cx : SCx) (ins : Instr) (pc n : Nat) (lv : SLv) (st : List SA) (σ : List MC) : Option (Nat × SLv × List SA × List MC) :=
  match sCons cx (st.take n) with
  | none => none
  | some ops => if ops.length = n ∧ sNoScr ops = true then
      match mLocal y P ins pc [] ops with
      | some q => some (q.1, lv, q.2.2.map Sum.inl ++ st.drop n, σ)
      | none => match mHeap P L (fun _ => 0) y ins pc ops σ with
        | some q => some (q.1, lv, q.2.1.map Sum.inl ++ st.drop n, q.2.2)
        | none => none
    else none
def sStep (P : MP) (L : Nat) (y : Nat) (cx : SCx) (ins : Instr) (pc : Nat) (lv : SLv) (st : List SA) (σ : List MC) : Option (Nat × SLv × List SA × List MC) :=
  match sLocal P y cx ins pc lv st with
  | some q => some (q.1, q.2.1, q.2.2, σ)
  | none => match sScr cx L ins pc lv st with
    | some q => some (q.1, q.2.1, q.2.2, σ)
    | none => match sAr ins with
      | some n => sPlain P L y cx ins pc n lv st σ
      | none => match sArC P y ins with
        | some n => if ((st.drop n).map sCat).sum ≤ 8 then sPlain P L y cx ins pc n lv st σ else none
        | none => none
def sTell (c : Jvm.ClassFile.Cond) (A B : Int × Int) : Option Bool := match c with
  | .eq => if A.1 = A.2 ∧ B.1 = B.2 ∧ A.1 = B.1 then some true else if A.2 < B.1 ∨ B.2 < A.1 then some false else none
  | .ne => if A.1 = A.2 ∧ B.1 = B.2 ∧ A.1 = B.1 then some false else if A.2 < B.1 ∨ B.2 < A.1 then some true else none
  | .lt => if A.2 < B.1 then some true else if B.2 ≤ A.1 then some false else none
  | .ge => if A.2 < B.1 then some false else if B.2 ≤ A.1 then some true else none
  | .gt => if B.2 < A.1 then some true else if A.2 ≤ B.1 then some false else none
  | .le => if B.2 < A.1 then some false else if A.2 ≤ B.1 then some true else none
def sSame (c : Jvm.ClassFile.Cond) : Bool := match c with
  | .eq | .ge | .le => true
  | _ => false
def sIfC (ins : Instr) : SCx → Nat → List SA → Option (Nat × List SA) := match ins with
  | .ifCond c off => fun cx pc st => match st with
    | a :: r => match sIv cx a with
      | some A => match sTell c A (0, 0) with
        | some b => (mTo pc off).map (fun t => (if b = true then t else pc + 3, r))
        | none => none
      | none => none
    | [] => none
  | .if_icmp c off => fun cx pc st => match st with
    | b :: a :: r => match sIv cx a, sIv cx b with
      | some A, some B => match sTell c A B with
        | some b => (mTo pc off).map (fun t => (if b = true then t else pc + 3, r))
        | none => match a, b with
          | .inr i, .inr j => if i = j then (mTo pc off).map (fun t => (if sSame c = true then t else pc + 3, r)) else none
          | _, _ => none
      | _, _ => none
    | _ => none
  | _ => fun cx pc st => none
def sIf (cx : SCx) (ins : Instr) (pc : Nat) (st : List SA) : Option (Nat × List SA) := sIfC ins cx pc st
def sEndC (ins : Instr) : MP → Nat → SCx → List SA → Option (Option SA) := match ins with
  | .ireturn => fun P y cx st => match st with
    | [.inr i] => if (mpInfo P y).2.2.2.1 = 1 ∧ i < 100 then some (some (.inr i)) else none
    | [.inl v] => match mEnd P y .ireturn [v] with
      | some r => some (r.map Sum.inl)
      | none => none
    | _ => none
  | .lreturn => fun P y cx st => match sCons cx st with
    | some vs => match mEnd P y .lreturn vs with
      | some r => some (r.map Sum.inl)
      | none => none
    | none => none
  | .areturn => fun P y cx st => match sCons cx st with
    | some vs => match mEnd P y .areturn vs with
      | some r => some (r.map Sum.inl)
      | none => none
    | none => none
  | .return_ => fun P y cx st => match st with
    | [] => match mEnd P y .return_ [] with
      | some r => some (r.map Sum.inl)
      | none => none
    | _ => none
  | _ => fun P y cx st => none
def sEnd (P : MP) (y : Nat) (ins : Instr) (cx : SCx) (st : List SA) : Option (Option SA) := sEndC ins P y cx st
def sDum (a : SA) : Value := match a with
  | .inl v => v
  | .inr i => if i < 100 then .int 0 else .long 0
def sCallOf (P : MP) (y : Nat) (ins : Instr) (st : List SA) (σ : List MC) : Option (Nat × List SA × List SA) :=
  match mCallOf P y ins (st.map sDum) σ with
  | some w => some (w.1, (st.take w.2.1.length).reverse, st.drop w.2.1.length)
  | none => none
/-- split the bounds of int i at c -/
def sCut (cx : SCx) (i : Nat) (c : Int) : List SCx := match cx[i]? with
  | some p => if p.1 ≤ c ∧ c ≤ p.2 then (if p.1 < c then [cx.set i (p.1, c - 1)] else []) ++ [cx.set i (c, c)] ++ (if c < p.2 then [cx.set i (c + 1, p.2)] else []) else []
  | none => []
def sEnum (cx : SCx) (i : Nat) : List SCx := match cx[i]? with
  | some p => if p.2 - p.1 ≤ 300 ∧ p.1 < p.2 then (List.range ((p.2 - p.1).toNat + 1)).map (fun k : Nat => cx.set i (p.1 + (k : Int), p.1 + (k : Int))) else []
  | none => []
def sPick (cx : SCx) : List SA → List SCx
  | [] => []
  | .inr i :: r => match sEnum cx i with
    | [] => sPick cx r
    | l => l
  | .inl _ :: r => sPick cx r
def sForkC (ins : Instr) : SCx → List SA → List SCx := match ins with
  | .ifCond _ _ => fun cx st => match st with
    | .inr i :: _ => sCut cx i 0
    | _ => []
  | .if_icmp _ _ => fun cx st => match st with
    | b :: .inr i :: _ => match sCon cx b with
      | some (.int c) => sCut cx i c.toInt
      | _ => match b with
        | .inr j => match sEnum cx j with
          | [] => sEnum cx i
          | l => l
        | _ => []
    | .inr i :: a :: _ => match sCon cx a with
      | some (.int c) => sCut cx i c.toInt
      | _ => []
    | _ => []
  | .lcmp => fun cx st => match st with
    | .inl (.long c) :: .inr i :: _ => sCut cx (i - 100) c.toInt
    | .inr i :: .inl (.long c) :: _ => sCut cx (i - 100) c.toInt
    | .inr j :: .inr i :: _ => match sEnum cx (j - 100) with
      | [] => sEnum cx (i - 100)
      | l => l
    | _ => []
  | .tableswitch _ lo hi _ => fun cx st => match st with
    | .inr i :: _ => match cx[i]? with
      | some p => if p.1 < lo ∧ lo ≤ p.2 then sCut cx i lo else if p.1 ≤ hi ∧ hi < p.2 then sCut cx i hi else sEnum cx i
      | none => []
    | _ => []
  | _ => fun cx st => sPick cx (st.take 5)
def sFork (cx : SCx) (ins : Instr) (st : List SA) : List SCx := sForkC ins cx st
abbrev SK : Type := SCx → Option SA → List MC → Bool
def sAny (l : List SCx) (f : SCx → Bool) : Bool := match l with
  | [] => false
  | a :: r => (a :: r).all f
/-- which functions may serve an instruction: 0 locals, 1 a test, 2 a call, 3 an end, 4 the rest -/
def sKind (ins : Instr) : Nat := match ins with
  | .iload_n _ | .iload _ | .aload_n _ | .aload _ | .lload_n _ | .lload _ | .istore_n _ | .istore _ | .astore_n _ | .astore _ | .lstore_n _ | .lstore _ | .iinc _ _ | .dup | .pop | .dup2 => 0
  | .ifCond _ _ | .if_icmp _ _ => 1
  | .invokevirtual _ | .invokestatic _ | .invokespecial _ => 2
  | .ireturn | .lreturn | .areturn | .return_ => 3
  | _ => 4
def sRun (P : MP) (L : Nat) (call : SCx → Nat → List SA → List MC → SK → Bool) (y : Nat) : Nat → SCx → Nat → SLv → List SA → List MC → SK → Bool
  | 0, _, _, _, _, _, _ => false
  | n + 1, cx, pc, lv, st, σ, k => match mpCode P y pc with
    | none => false
    | some ins => match sKind ins with
      | 0 => match sLocal P y cx ins pc lv st with
        | some q => sRun P L call y n cx q.1 q.2.1 q.2.2 σ k
        | none => sAny (sFork cx ins st) (fun cx2 => sRun P L call y n cx2 pc lv st σ k)
      | 1 => match sIf cx ins pc st with
        | some q => sRun P L call y n cx q.1 lv q.2 σ k
        | none => sAny (sFork cx ins st) (fun cx2 => sRun P L call y n cx2 pc lv st σ k)
      | 3 => match sEnd P y ins cx st with
        | some r => k cx r σ
        | none => false
      | 2 => match sCallOf P y ins st σ with
        | some w => call cx w.1 w.2.1 σ (fun cx2 r σ2 => sRun P L call y n cx2 (pc + 3) lv (r.toList ++ w.2.2) σ2 k)
        | none => match sStep P L y cx ins pc lv st σ with
          | some q => sRun P L call y n cx q.1 q.2.1 q.2.2.1 q.2.2.2 k
          | none => sAny (sFork cx ins st) (fun cx2 => sRun P L call y n cx2 pc lv st σ k)
      | _ => match sStep P L y cx ins pc lv st σ with
        | some q => sRun P L call y n cx q.1 q.2.1 q.2.2.1 q.2.2.2 k
        | none => sAny (sFork cx ins st) (fun cx2 => sRun P L call y n cx2 pc lv st σ k)
def sExec (P : MP) (L N : Nat) : Nat → SCx → Nat → List SA → List MC → SK → Bool
  | 0, _, _, _, _, _ => false
  | d + 1, cx, y, as, σ, k => sRun P L (sExec P L N d) y N cx 0 (sArgs 0 as) [] σ k
where sArgs : Nat → List SA → SLv
  | _, [] => []
  | i, v :: vs => (i, v) :: sArgs (if sCat v = 2 then i + 2 else i + 1) vs
end
section
/-! what the symbolic machine finds, the small machine does, for every script within the bounds -/
section SO
variable {P : MP} {L : Nat} {xs v : Nat → Int32} {y : Nat}
theorem sLook_ok {lv : SLv} {i : Nat} {a : SA} (h : sLook lv i = some a) : mLook (sLvT v lv) i = some (sVal v a) := by
  induction lv with
  | nil => simp [sLook] at h
  | cons q r ih =>
    rw [sLook] at h
    cases hb : Nat.beq q.1 i with
    | true =>
      rw [hb] at h
      have h : some q.2 = some a := h
      cases h
      have e : q.1 = i := Nat.eq_of_beq_eq_true hb
      simp [mLook, sLvT, List.find?, e]
    | false =>
      rw [hb] at h
      have e : ¬ q.1 = i := fun e => by rw [e, Nat.beq_refl] at hb; cases hb
      have h2 := ih h
      simp only [mLook, sLvT, List.map_cons, List.find?] at h2 ⊢
      have : (q.1 == i) = false := by simpa using e
      rw [this]
      exact h2
theorem sSt1_T (lv : SLv) (i : Nat) (a : SA) : mSt1 (sLvT v lv) i (sVal v a) = sLvT v (sSt1 lv i a) := by
  simp only [sLvT, sSt1, mSt1, List.map_cons, List.filter_map, Function.comp_def, sVal_cat]
theorem sSt2_T (lv : SLv) (i : Nat) (a : SA) : mSt2 (sLvT v lv) i (sVal v a) = sLvT v (sSt2 lv i a) := by
  simp only [sLvT, sSt2, mSt2, List.map_cons, List.filter_map, Function.comp_def, sVal_cat]
theorem sIsI_ok {a : SA} (h : sIsI a = true) : ∃ x : Int32, sVal v a = .int x := by
  cases a with
  | inl w => cases w <;> simp [sIsI] at h; exact ⟨_, rfl⟩
  | inr i =>
    have hi : i < 100 := by simp [sIsI, Nat.blt] at h; omega
    exact ⟨v i, by simp only [sVal, if_pos hi]⟩
theorem sIsL_ok {a : SA} (h : sIsL a = true) : ∃ x : Int64, sVal v a = .long x := by
  cases a with
  | inl w => cases w <;> simp [sIsL] at h; exact ⟨_, rfl⟩
  | inr i =>
    have hi : ¬ i < 100 := by
      intro hi
      have : Nat.blt i 100 = true := by simp [Nat.blt]; omega
      simp [sIsL, this] at h
    exact ⟨(v (i - 100)).toInt64, by simp only [sVal, if_neg hi]⟩
theorem sStI_ok {lv : SLv} {st : List SA} {q : Nat × SLv × List SA} (i p : Nat) (h : sStI lv (mpInfo P y).1 i p st = some q) : (mI1 (st.map (sVal v))).bind (fun w : Int32 × List Value => if i < (mpInfo P y).1 then some (p, mSt1 (sLvT v lv) i (.int w.1), w.2) else none) = some (q.1, sLvT v q.2.1, q.2.2.map (sVal v)) := by
  cases st with
  | nil => simp [sStI] at h
  | cons a r =>
    simp only [sStI] at h
    split at h
    · next hi =>
      cases h
      obtain ⟨x, hx⟩ := sIsI_ok (v := v) hi.1
      have := sSt1_T (v := v) lv i a
      rw [hx] at this
      simp [mI1, hx, hi.2, this]
    · cases h
theorem sStA_ok {lv : SLv} {st : List SA} {q : Nat × SLv × List SA} (i p : Nat) (h : sStA lv (mpInfo P y).1 i p st = some q) : (mA1 (st.map (sVal v))).bind (fun w : Option Nat × List Value => if i < (mpInfo P y).1 then some (p, mSt1 (sLvT v lv) i (va_rf w.1), w.2) else none) = some (q.1, sLvT v q.2.1, q.2.2.map (sVal v)) := by
  unfold sStA at h
  split at h
  · next x r =>
    split at h
    · next hi => cases h; have := sSt1_T (v := v) lv i (.inl (.ref x)); simp [mA1, sVal, hi, va_rf] at this ⊢; exact this
    · cases h
  · next r =>
    split at h
    · next hi => cases h; have := sSt1_T (v := v) lv i (.inl .null); simp [mA1, sVal, hi, va_rf] at this ⊢; exact this
    · cases h
  · cases h
theorem sStL_ok {lv : SLv} {st : List SA} {q : Nat × SLv × List SA} (i p : Nat) (h : sStL lv (mpInfo P y).1 i p st = some q) : (mL1 (st.map (sVal v))).bind (fun w : Int64 × List Value => if i + 1 < (mpInfo P y).1 then some (p, mSt2 (sLvT v lv) i (.long w.1), w.2) else none) = some (q.1, sLvT v q.2.1, q.2.2.map (sVal v)) := by
  cases st with
  | nil => simp [sStL] at h
  | cons a r =>
    simp only [sStL] at h
    split at h
    · next hi =>
      cases h
      obtain ⟨x, hx⟩ := sIsL_ok (v := v) hi.1
      have := sSt2_T (v := v) lv i a
      rw [hx] at this
      simp [mL1, hx, hi.2, this]
    · cases h
theorem sLocal_ok {cx : SCx} {ins : Instr} {pc : Nat} {lv : SLv} {st : List SA} {q : Nat × SLv × List SA} (hc : sIn cx v) (h : sLocal P y cx ins pc lv st = some q) : mLocal y P ins pc (sLvT v lv) (st.map (sVal v)) = some (q.1, sLvT v q.2.1, q.2.2.map (sVal v)) := by
  have ldI : ∀ (i p : Nat), sLdI lv i p st = some q → (mLookI (sLvT v lv) i).map (fun w => (p, sLvT v lv, Value.int w :: st.map (sVal v))) = some (q.1, sLvT v q.2.1, q.2.2.map (sVal v)) := by
    intro i p h
    unfold sLdI at h
    split at h
    · next a ha =>
      split at h
      · next hi =>
        cases h
        obtain ⟨x, hx⟩ := sIsI_ok (v := v) hi
        have := sLook_ok (v := v) ha
        simp [mLookI, this, hx]
      · cases h
    · cases h
  have ldA : ∀ (i p : Nat), sLdA lv i p st = some q → (mLookA (sLvT v lv) i).map (fun w => (p, sLvT v lv, va_rf w :: st.map (sVal v))) = some (q.1, sLvT v q.2.1, q.2.2.map (sVal v)) := by
    intro i p h
    unfold sLdA at h
    split at h
    · next x ha => cases h; have := sLook_ok (v := v) ha; simp [mLookA, this, sVal, va_rf]
    · next ha => cases h; have := sLook_ok (v := v) ha; simp [mLookA, this, sVal, va_rf]
    · cases h
  have ldL : ∀ (i p : Nat), sLdL lv i p st = some q → (mLookL (sLvT v lv) i).map (fun w => (p, sLvT v lv, Value.long w :: st.map (sVal v))) = some (q.1, sLvT v q.2.1, q.2.2.map (sVal v)) := by
    intro i p h
    unfold sLdL at h
    split at h
    · next a ha =>
      split at h
      · next hi =>
        cases h
        obtain ⟨x, hx⟩ := sIsL_ok (v := v) hi
        have := sLook_ok (v := v) ha
        simp [mLookL, this, hx]
      · cases h
    · cases h
  have stI := fun (i p : Nat) => sStI_ok (P := P) (v := v) (y := y) (lv := lv) (st := st) (q := q) i p
  have stA := fun (i p : Nat) => sStA_ok (P := P) (v := v) (y := y) (lv := lv) (st := st) (q := q) i p
  have stL := fun (i p : Nat) => sStL_ok (P := P) (v := v) (y := y) (lv := lv) (st := st) (q := q) i p
  cases ins with
  | iload_n k => exact ldI _ _ h
  | iload i => exact ldI _ _ h
  | aload_n k => exact ldA _ _ h
  | aload i => exact ldA _ _ h
  | lload_n k => exact ldL _ _ h
  | lload i => exact ldL _ _ h
  | istore_n k => exact stI _ _ h
  | istore i => exact stI _ _ h
  | astore_n k => exact stA _ _ h
  | astore i => exact stA _ _ h
  | lstore_n k => exact stL _ _ h
  | lstore i => exact stL _ _ h
  | iinc i n =>
    simp only [sLocal, sLocalC, sInc] at h
    split at h
    · next a ha =>
      split at h
      · next x hx =>
        split at h
        · next hi =>
          cases h
          have h1 := sLook_ok (v := v) ha
          rw [sCon_ok hc hx] at h1
          have h2 := sSt1_T (v := v) lv i (.inl (.int (x + Int32.ofInt n)))
          simp only [mLocal, mLocalC, mLookI, h1, Option.bind_some, if_pos hi]
          simp only [sVal] at h2
          rw [h2]
        · cases h
      · cases h
    · cases h
  | dup =>
    simp only [sLocal, sLocalC, sDup] at h
    split at h
    · next a r =>
      split at h
      · next hi => cases h; simp [mLocal, mLocalC, sVal_cat, hi]
      · cases h
    · cases h
  | pop =>
    simp only [sLocal, sLocalC, sPop] at h
    split at h
    · next a r =>
      split at h
      · next hi => cases h; simp [mLocal, mLocalC, sVal_cat, hi]
      · cases h
    · cases h
  | dup2 =>
    simp only [sLocal, sLocalC, sDup2] at h
    split at h
    · next a b r =>
      split at h
      · next hi => cases h; simp [mLocal, mLocalC, sVal_cat, hi.1, hi.2]
      · cases h
    · cases h
  | _ => simp [sLocal, sLocalC] at h
theorem mHeap_xs {xs2 : Nat → Int32} {ins : Instr} {pc : Nat} {ops : List Value} {σ : List MC} (hs : sNoScr ops = true) : mHeap P L xs y ins pc ops σ = mHeap P L xs2 y ins pc ops σ := by
  cases ins with
  | iaload =>
    simp only [mHeap, mHeapC]
    cases hq : mIA ops with
    | none => rfl
    | some q =>
      have he := mIA_eq hq
      rw [he] at hs
      have ha : q.2.1 ≠ 0 := by
        intro e
        rw [e] at hs
        simp [sNoScr] at hs
      simp only [Option.bind_some]
      cases hk : q.2.1 with
      | zero => exact absurd hk ha
      | succ k => rfl
  | _ => rfl
theorem mHeap_noLocal {ins : Instr} {pc : Nat} {ops : List Value} {σ : List MC} {q : Nat × List Value × List MC} (h : mHeap P L xs y ins pc ops σ = some q) (lv : MLv) (st : List Value) : mLocal y P ins pc lv st = none := by
  cases ins <;> first | rfl | (simp [mHeap, mHeapC] at h; done)
theorem mHeap_noEnd {ins : Instr} {pc : Nat} {ops : List Value} {σ : List MC} {q : Nat × List Value × List MC} (h : mHeap P L xs y ins pc ops σ = some q) (st : List Value) : mEnd P y ins st = none := by
  cases ins <;> first | rfl | (simp [mHeap, mHeapC] at h; done)
theorem mLocal_noEnd {ins : Instr} {pc : Nat} {lv : MLv} {ops : List Value} {q : Nat × MLv × List Value} (h : mLocal y P ins pc lv ops = some q) (st : List Value) : mEnd P y ins st = none := by
  cases ins <;> first | rfl | (simp [mLocal, mLocalC] at h; done)
theorem mLocal_noCall {ins : Instr} {pc : Nat} {lv : MLv} {ops : List Value} {q : Nat × MLv × List Value} (h : mLocal y P ins pc lv ops = some q) (st : List Value) (σ : List MC) : mCallOf P y ins st σ = none := by
  cases ins <;> first | rfl | (simp [mLocal, mLocalC] at h; done)
theorem mHeap_noCall {ins : Instr} {pc : Nat} {ops : List Value} {σ : List MC} {q : Nat × List Value × List MC} (h : mHeap P L xs y ins pc ops σ = some q) (st : List Value) (τ : List MC) : mCallOf P y ins st τ = none := by
  cases ins with
  | invokevirtual i => simp [mHeap, mHeapC] at h
  | invokespecial i =>
    simp only [mHeap, mHeapC, Option.bind_eq_some_iff] at h
    obtain ⟨w, hw, h⟩ := h
    split at h
    · next h5 => simp [mCallOf, mCallOfC, hw, h5]
    · cases h
  | invokestatic i =>
    simp only [mHeap, mHeapC, Option.bind_eq_some_iff] at h
    obtain ⟨w, hw, h⟩ := h
    split at h
    · next h5 => simp [mCallOf, mCallOfC, hw, h5]
    · split at h
      · next h5 => simp [mCallOf, mCallOfC, hw, h5]
      · split at h
        · next h5 => simp [mCallOf, mCallOfC, hw, h5]
        · cases h
  | _ => first | rfl | (simp [mHeap, mHeapC] at h; done)
theorem mCallOf_noEnd {ins : Instr} {ops : List Value} {σ : List MC} {w : Nat × List Value × List Value} (h : mCallOf P y ins ops σ = some w) (st : List Value) : mEnd P y ins st = none := by
  cases ins <;> first | rfl | (simp [mCallOf, mCallOfC] at h; done)
end SO
end
section
section SP
variable {P : MP} {L : Nat} {xs v : Nat → Int32} {y : Nat}
theorem lg_cat (vs : List Value) : (lg_sl vs).length = (vs.map (fun v => v.category)).sum := by
  induction vs with
  | nil => rfl
  | cons a t ih =>
    simp only [lg_sl, List.flatMap_cons, List.length_append, List.map_cons, List.sum_cons] at ih ⊢
    rw [ih]
    rcases lv_cat a with h | h <;> simp [h]
theorem sDum_cat (a : SA) : (sDum a).category = sCat a := by
  cases a with
  | inl w => rfl
  | inr i => simp only [sDum, sCat]; split <;> rfl
theorem sCallK_ok {k y2 n : Nat} {st : List SA} {σ : List MC} {w : Nat × List Value × List Value} (h : mCallK P y k y2 n (st.map sDum) σ = some w) : w.2.1.length = n ∧ mCallK P y k y2 n (st.map (sVal v)) σ = some (w.1, ((st.take n).reverse).map (sVal v), (st.drop n).map (sVal v)) := by
  have e0 : ∀ f : SA → Value, ((st.map f).take n).reverse = ((st.take n).reverse).map f := fun f => by rw [← List.map_take, ← List.map_reverse]
  have e1 : ∀ f : SA → Value, (st.map f).drop n = (st.drop n).map f := fun f => by rw [← List.map_drop]
  have c1 : ∀ l : List SA, ((l.map sDum).map (fun v => v.category)) = (l.map (sVal v)).map (fun v => v.category) := by
    intro l
    simp only [List.map_map]
    apply List.map_congr_left
    intro a _
    simp only [Function.comp_def, sDum_cat, sVal_cat]
  unfold mCallK at h ⊢
  rw [e0, e1] at h
  rw [e0, e1]
  split at h
  · next hc =>
    obtain ⟨g1, g2, g3, g4, g5⟩ := hc
    rw [c1] at g2
    rw [lg_cat, c1, ← lg_cat] at g5
    have hl : n ≤ st.length := by simpa using g1
    have hlen : ((st.take n).reverse).length = n := by simp; omega
    rw [if_pos ⟨by simpa using g1, g2, g3, g4, g5⟩]
    generalize (st.take n).reverse = u at h hlen ⊢
    split at h
    · cases h; exact ⟨by simpa using hlen, rfl⟩
    · cases h; exact ⟨by simpa using hlen, rfl⟩
    · cases u with
      | nil => simp at h
      | cons a t =>
        cases a with
        | inr i => by_cases hi : i < 100 <;> simp [sDum, hi] at h
        | inl b =>
          cases b <;> simp only [List.map_cons, sDum] at h <;> try (cases h; done)
          next r =>
          simp only [List.map_cons, sVal]
          split at h
          · next o ho =>
            split at h
            · next hi => cases h; exact ⟨by simpa using hlen, by rw [if_pos hi]⟩
            · cases h
          · cases h
    · cases u with
      | nil => simp at h
      | cons a t =>
        cases a with
        | inr i => by_cases hi : i < 100 <;> simp [sDum, hi] at h
        | inl b =>
          cases b <;> simp only [List.map_cons, sDum] at h <;> try (cases h; done)
          cases h; exact ⟨by simpa using hlen, rfl⟩
    · cases u with
      | nil => simp at h
      | cons a t =>
        cases a with
        | inr i => by_cases hi : i < 100 <;> simp [sDum, hi] at h
        | inl b =>
          cases b <;> simp only [List.map_cons, sDum] at h <;> try (cases h; done)
          cases h; exact ⟨by simpa using hlen, rfl⟩
    · cases h
  · cases h
theorem sCallOf_ok {ins : Instr} {st : List SA} {σ : List MC} {w : Nat × List SA × List SA} (h : sCallOf P y ins st σ = some w) : mCallOf P y ins (st.map (sVal v)) σ = some (w.1, w.2.1.map (sVal v), w.2.2.map (sVal v)) := by
  unfold sCallOf at h
  split at h
  · next u hu =>
    cases h
    cases ins with
    | invokevirtual i =>
      simp only [mCallOf, mCallOfC, Option.bind_eq_some_iff] at hu
      obtain ⟨q, hq, hu⟩ := hu
      split at hu
      · next h1 =>
        obtain ⟨h2, h3⟩ := sCallK_ok (v := v) hu
        simp only [mCallOf, mCallOfC, hq, Option.bind_some, if_pos h1, h3, h2]
      · cases hu
    | invokestatic i =>
      simp only [mCallOf, mCallOfC, Option.bind_eq_some_iff] at hu
      obtain ⟨q, hq, hu⟩ := hu
      split at hu
      · next h1 =>
        obtain ⟨h2, h3⟩ := sCallK_ok (v := v) hu
        simp only [mCallOf, mCallOfC, hq, Option.bind_some, if_pos h1, h3, h2]
      · cases hu
    | invokespecial i =>
      simp only [mCallOf, mCallOfC, Option.bind_eq_some_iff] at hu
      obtain ⟨q, hq, hu⟩ := hu
      split at hu
      · next h1 =>
        obtain ⟨h2, h3⟩ := sCallK_ok (v := v) hu
        simp only [mCallOf, mCallOfC, hq, Option.bind_some, if_pos h1, h3, h2]
      · cases hu
    | _ => simp [mCallOf, mCallOfC] at hu
  · cases h
theorem sTell_ok {c : Jvm.ClassFile.Cond} {A B : Int × Int} {b : Bool} {x z : Int32} (h : sTell c A B = some b) (h1 : A.1 ≤ x.toInt) (h2 : x.toInt ≤ A.2) (h3 : B.1 ≤ z.toInt) (h4 : z.toInt ≤ B.2) : mIf c x z = b := by
  have hl : ∀ a b : Int32, (a < b) ↔ a.toInt < b.toInt := fun a b => Int32.lt_iff_toInt_lt
  have hle : ∀ a b : Int32, (a ≤ b) ↔ a.toInt ≤ b.toInt := fun a b => Int32.le_iff_toInt_le
  have he : ∀ a b : Int32, (a = b) ↔ a.toInt = b.toInt := fun a b => ⟨fun h => by rw [h], fun h => Int32.toInt_inj.mp h⟩
  cases c <;> simp only [sTell] at h <;> split at h <;> first | (cases h; simp [mIf, hl, hle, he]; omega) | (split at h <;> first | (cases h; done) | (cases h; simp [mIf, hl, hle, he]; omega))
theorem sIf_ok {cx : SCx} {ins : Instr} {pc : Nat} {lv : MLv} {st : List SA} {q : Nat × List SA} (hc : sIn cx v) (h : sIf cx ins pc st = some q) : mLocal y P ins pc lv (st.map (sVal v)) = some (q.1, lv, q.2.map (sVal v)) := by
  cases ins with
  | ifCond c off =>
    simp only [sIf, sIfC] at h
    split at h
    · next a r =>
      split at h
      · next A hA =>
        split at h
        · next b hb =>
          simp only [Option.map_eq_some_iff] at h
          obtain ⟨t, ht, rfl⟩ := h
          obtain ⟨x, hx, l1, l2⟩ := sIv_ok hc hA
          have hm := sTell_ok (z := 0) hb l1 l2 (by decide) (by decide)
          simp only [List.map_cons, mLocal, mLocalC, hx, mI1, Option.bind_some, ht, Option.map_some, hm]
        · cases h
      · cases h
    · cases h
  | if_icmp c off =>
    simp only [sIf, sIfC] at h
    split at h
    · next b a r =>
      split at h
      · next A B hA hB =>
        obtain ⟨x, hx, l1, l2⟩ := sIv_ok hc hA
        obtain ⟨z, hz, l3, l4⟩ := sIv_ok hc hB
        split at h
        · next b9 hb =>
          simp only [Option.map_eq_some_iff] at h
          obtain ⟨t, ht, rfl⟩ := h
          have hm := sTell_ok hb l1 l2 l3 l4
          simp only [List.map_cons, mLocal, mLocalC, hx, hz, mI2, Option.bind_some, ht, Option.map_some, hm]
        · split at h
          · next i j =>
            split at h
            · next hij =>
              simp only [Option.map_eq_some_iff] at h
              obtain ⟨t, ht, rfl⟩ := h
              subst hij
              have hm : ∀ x : Int32, mIf c x x = sSame c := by
                intro x
                cases c <;> simp [mIf, sSame]
              have hi9 : i < 100 := by
                by_cases hi : i < 100
                · exact hi
                · simp [sIv, hi] at hA
              simp only [List.map_cons, mLocal, mLocalC, sVal, if_pos hi9, mI2, Option.bind_some, ht, Option.map_some, hm]
            · cases h
          · cases h
      · cases h
    · cases h
  | _ => simp [sIf, sIfC] at h
theorem sEnd_ok {cx : SCx} {ins : Instr} {st : List SA} {r : Option SA} (hc : sIn cx v) (h : sEnd P y ins cx st = some r) : mEnd P y ins (st.map (sVal v)) = some (r.map (sVal v)) := by
  have inlm : ∀ r : Option Value, (r.map Sum.inl).map (sVal v) = r := fun r => by cases r <;> rfl
  cases ins with
  | ireturn =>
    simp only [sEnd, sEndC] at h
    split at h
    · next i =>
      split at h
      · next hi => cases h; simp [mEnd, mEndC, sVal, hi.1, hi.2]
      · cases h
    · next w =>
      split at h
      · next r0 hr => cases h; rw [inlm]; exact hr
      · cases h
    · cases h
  | lreturn =>
    simp only [sEnd, sEndC] at h
    split at h
    · next vs hvs =>
      split at h
      · next r0 hr => cases h; rw [inlm, sCons_ok hc hvs]; exact hr
      · cases h
    · cases h
  | areturn =>
    simp only [sEnd, sEndC] at h
    split at h
    · next vs hvs =>
      split at h
      · next r0 hr => cases h; rw [inlm, sCons_ok hc hvs]; exact hr
      · cases h
    · cases h
  | return_ =>
    simp only [sEnd, sEndC] at h
    split at h
    · split at h
      · next r0 hr => cases h; rw [inlm]; exact hr
      · cases h
    · cases h
  | _ => simp [sEnd, sEndC] at h
theorem sPlain_ok {cx : SCx} {ins : Instr} {pc n : Nat} {lv : SLv} {st : List SA} {σ : List MC} {q : Nat × SLv × List SA × List MC} (hc : sIn cx v) (hn : sAr ins = some n ∨ (sArC P y ins = some n ∧ ((st.drop n).map sCat).sum ≤ 8)) (h : sPlain P L y cx ins pc n lv st σ = some q) :
    (∃ q0, mLocal y P ins pc (sLvT v lv) (st.map (sVal v)) = some q0 ∧ (q0.1, q0.2.1, q0.2.2, σ) = (q.1, sLvT v q.2.1, q.2.2.1.map (sVal v), q.2.2.2)) ∨
    (∃ q0 : Nat × List Value × List MC, mHeap P L xs y ins pc (st.map (sVal v)) σ = some q0 ∧ (q0.1, sLvT v lv, q0.2.1, q0.2.2) = (q.1, sLvT v q.2.1, q.2.2.1.map (sVal v), q.2.2.2)) := by
  have inl2 : ∀ l : List Value, (l.map Sum.inl).map (sVal v) = l := fun l => by induction l <;> simp_all [sVal]
  unfold sPlain at h
  split at h
  · cases h
  · next ops hops =>
    split at h
    · next hl =>
      have e : st.map (sVal v) = ops ++ (st.drop n).map (sVal v) := by
        rw [← sCons_ok hc hops, ← List.map_append, List.take_append_drop]
      split at h
      · next q1 hq1 =>
        cases h
        left
        rcases hn with hn | hn
        · refine ⟨_, by rw [e]; exact mLocal_app hn hl.1 hq1, ?_⟩
          simp only [List.map_append, inl2]
        · exfalso
          cases ins <;> simp [sArC] at hn <;> simp [mLocal, mLocalC] at hq1
      · split at h
        · next q1 hq1 =>
          cases h
          right
          rw [mHeap_xs (xs2 := xs) hl.2] at hq1
          rcases hn with hn | ⟨hn, hr⟩
          · refine ⟨_, by rw [e]; exact mHeap_app hn hl.1 hq1, ?_⟩
            simp only [List.map_append, inl2]
          · refine ⟨_, by rw [e]; exact mHeap_appC hn hl.1 (by simp only [List.map_map]; rw [show ((fun v => v.category) ∘ sVal v) = sCat from funext (sVal_cat v)]; exact hr) hq1, ?_⟩
            simp only [List.map_append, inl2]
        · cases h
    · cases h
theorem mStep_L {ins : Instr} {pc : Nat} {lv : MLv} {st : List Value} {σ : List MC} {q : Nat × MLv × List Value} (h : mLocal y P ins pc lv st = some q) : mStep P L xs y ins pc lv st σ = some (q.1, q.2.1, q.2.2, σ) := by
  simp only [mStep, h]
theorem mStep_H {ins : Instr} {pc : Nat} {lv : MLv} {st : List Value} {σ : List MC} {q : Nat × List Value × List MC} (h : mHeap P L xs y ins pc st σ = some q) : mStep P L xs y ins pc lv st σ = some (q.1, lv, q.2.1, q.2.2) := by
  simp only [mStep, mHeap_noLocal h, h, Option.map_some]
/-- a step, with that nothing else comes first -/
def mPure (P : MP) (L : Nat) (xs : Nat → Int32) (y : Nat) (ins : Instr) (pc : Nat) (lv : MLv) (st : List Value) (σ : List MC) (q : MR) : Prop := mEnd P y ins st = none ∧ mCallOf P y ins st σ = none ∧ mStep P L xs y ins pc lv st σ = some q
theorem sStep_ok (hL : L ≤ 90) (hv : ∀ i, i < L → v i = xs i) (hw : v 6 = v 0 &&& 63) {cx : SCx} {ins : Instr} {pc : Nat} {lv : SLv} {st : List SA} {σ : List MC} {q : Nat × SLv × List SA × List MC} (hc : sIn cx v) (h : sStep P L y cx ins pc lv st σ = some q) : mPure P L xs y ins pc (sLvT v lv) (st.map (sVal v)) σ (q.1, sLvT v q.2.1, q.2.2.1.map (sVal v), q.2.2.2) := by
  have loc : ∀ {q0 : Nat × MLv × List Value} {r : MR}, mLocal y P ins pc (sLvT v lv) (st.map (sVal v)) = some q0 → (q0.1, q0.2.1, q0.2.2, σ) = r → mPure P L xs y ins pc (sLvT v lv) (st.map (sVal v)) σ r := by
    intro q0 r h1 h2
    exact ⟨mLocal_noEnd h1 _, mLocal_noCall h1 _ _, by rw [mStep_L h1, h2]⟩
  have hea : ∀ {q0 : Nat × List Value × List MC} {r : MR}, mHeap P L xs y ins pc (st.map (sVal v)) σ = some q0 → (q0.1, sLvT v lv, q0.2.1, q0.2.2) = r → mPure P L xs y ins pc (sLvT v lv) (st.map (sVal v)) σ r := by
    intro q0 r h1 h2
    exact ⟨mHeap_noEnd h1 _, mHeap_noCall h1 _ _, by rw [mStep_H h1, h2]⟩
  unfold sStep at h
  split at h
  · next q1 hq1 =>
    cases h
    exact loc (sLocal_ok hc hq1) rfl
  · split at h
    · next q1 hq1 =>
      cases h
      cases ins with
      | iaload =>
        simp only [sScr, sScrC] at hq1
        split at hq1
        · next i r _ =>
          split at hq1
          · next x hx =>
            split at hq1
            · next hin =>
              cases hq1
              have hi := sCon_ok hc hx
              have hlt : mIx x < L := by simp only [mIn, Bool.and_eq_true, decide_eq_true_eq] at hin; exact hin.2
              refine hea (q0 := (pc + 1, .int (xs (mIx x)) :: r.map (sVal v), σ)) ?_ ?_
              · have e2 : sVal v (.inl (.ref 0)) = .ref 0 := rfl
                simp only [List.map_cons, hi, e2, mHeap, mHeapC, mIA, mInts, Option.bind_some, if_pos hin]
              · have h100 : mIx x < 100 := by omega
                simp only [List.map_cons, sVal, if_pos h100, hv _ hlt]
            · cases hq1
          · cases hq1
        · cases hq1
      | iand =>
        simp only [sScr, sScrC] at hq1
        split at hq1
        · next c r _ =>
          split at hq1
          · next hc63 =>
            cases hq1
            subst hc63
            refine loc (q0 := (pc + 1, sLvT v lv, .int (v 0 &&& 63) :: r.map (sVal v))) ?_ ?_
            · simp only [List.map_cons, sVal, mLocal, mLocalC, mI2, Option.map_some]; rfl
            · simp only [List.map_cons, sVal, hw]; rfl
          · cases hq1
        · cases hq1
      | arraylength =>
        simp only [sScr, sScrC] at hq1
        split at hq1
        · next r _ =>
          cases hq1
          refine hea (q0 := (pc + 1, .int (Int32.ofNat L) :: r.map (sVal v), σ)) ?_ rfl
          simp only [List.map_cons, sVal, mHeap, mHeapC, mLong, Option.map_some]
        · cases hq1
      | i2l =>
        simp only [sScr, sScrC] at hq1
        split at hq1
        · next i r _ =>
          split at hq1
          · next hi =>
            cases hq1
            have h2 : ¬ 100 + i < 100 := by omega
            have h3 : 100 + i - 100 = i := by omega
            refine loc (q0 := (pc + 1, sLvT v lv, .long (v i).toInt64 :: r.map (sVal v))) ?_ ?_
            · simp only [List.map_cons, sVal, if_pos hi, mLocal, mLocalC, mI1, Option.map_some]
            · simp only [List.map_cons, sVal, if_neg h2, h3]
          · cases hq1
        · cases hq1
      | lcmp =>
        simp only [sScr, sScrC] at hq1
        split at hq1
        · next b a r _ =>
          split at hq1
          · next A B hA hB =>
            split at hq1
            · next x hx =>
              cases hq1
              obtain ⟨p, hp, l1, l2⟩ := sLv_ok hc hA
              obtain ⟨z, hz, l3, l4⟩ := sLv_ok hc hB
              have hcmp : lg_cmp p z = x := by
                have hl : (p < z) ↔ p.toInt < z.toInt := Int64.lt_iff_toInt_lt
                have hg : (z < p) ↔ z.toInt < p.toInt := Int64.lt_iff_toInt_lt
                have he : (p = z) ↔ p.toInt = z.toInt := ⟨fun h => by rw [h], fun h => Int64.toInt_inj.mp h⟩
                unfold sLcmp at hx
                unfold lg_cmp
                split at hx
                · cases hx
                  rw [if_neg (fun q => by have := hg.mp q; omega), if_neg (fun q => by have := he.mp q; omega)]
                · split at hx
                  · cases hx
                    rw [if_pos (hg.mpr (by omega))]
                  · split at hx
                    · cases hx
                      rw [if_neg (fun q => by have := hg.mp q; omega), if_pos (he.mpr (by omega))]
                    · cases hx
              refine loc (q0 := (pc + 1, sLvT v lv, .int x :: r.map (sVal v))) ?_ rfl
              simp only [List.map_cons, hp, hz, mLocal, mLocalC, mL2, Option.map_some, hcmp]
            · cases hq1
          · cases hq1
        · cases hq1
      | tableswitch d lo hi offs =>
        simp only [sScr, sScrC] at hq1
        split at hq1
        · next i r _ =>
          split at hq1
          · next hi9 =>
            split at hq1
            · next p hp =>
              split at hq1
              · next ho =>
                simp only [Option.map_eq_some_iff] at hq1
                obtain ⟨t, ht, rfl⟩ := hq1
                obtain ⟨b1, b2⟩ := hc i p hp
                have hout : (v i).toInt < lo ∨ hi < (v i).toInt := by omega
                refine loc (q0 := (t, sLvT v lv, r.map (sVal v))) ?_ rfl
                simp only [List.map_cons, sVal, if_pos hi9, mLocal, mLocalC, mI1, Option.bind_some, if_pos hout, ht, Option.map_some]
              · cases hq1
            · cases hq1
          · cases hq1
        · cases hq1
      | _ => simp [sScr, sScrC] at hq1
    · split at h
      · next n hn =>
        rcases sPlain_ok (xs := xs) hc (Or.inl hn) h with ⟨q0, h1, h2⟩ | ⟨q0, h1, h2⟩
        · exact loc h1 h2
        · exact hea h1 h2
      · split at h
        · next n hn =>
          split at h
          · next hr =>
            rcases sPlain_ok (xs := xs) hc (Or.inr ⟨hn, hr⟩) h with ⟨q0, h1, h2⟩ | ⟨q0, h1, h2⟩
            · exact loc h1 h2
            · exact hea h1 h2
          · cases h
        · cases h
end SP
end
section
section SQ
variable {P : MP} {L : Nat} {xs v : Nat → Int32} {y : Nat}
theorem sIn_set {cx : SCx} (h : sIn cx v) {i : Nat} {p : Int × Int} (h1 : p.1 ≤ (v i).toInt) (h2 : (v i).toInt ≤ p.2) : sIn (cx.set i p) v := by
  intro j q hq
  by_cases hj : i = j
  · subst hj
    rw [List.getElem?_set_self'] at hq
    cases hc : cx[i]? with
    | none => rw [hc] at hq; cases hq
    | some z => rw [hc] at hq; cases hq; exact ⟨h1, h2⟩
  · rw [List.getElem?_set_ne hj] at hq
    exact h j q hq
theorem sCut_ok {cx : SCx} (h : sIn cx v) {i : Nat} {c : Int} (hne : sCut cx i c ≠ []) : ∃ cx2 ∈ sCut cx i c, sIn cx2 v := by
  unfold sCut at hne ⊢
  split
  · next p hp =>
    rw [hp] at hne
    obtain ⟨h1, h2⟩ := h i p hp
    split
    · next hc =>
      rcases Int.lt_trichotomy (v i).toInt c with q | q | q
      · exact ⟨cx.set i (p.1, c - 1), List.mem_append_left _ (List.mem_append_left _ (by rw [if_pos (by omega)]; exact List.mem_singleton.mpr rfl)), sIn_set (p := (p.1, c - 1)) h h1 (by show _ ≤ c - 1; omega)⟩
      · exact ⟨cx.set i (c, c), List.mem_append_left _ (List.mem_append_right _ (List.mem_singleton.mpr rfl)), sIn_set (p := (c, c)) h (by show c ≤ _; omega) (by show _ ≤ c; omega)⟩
      · exact ⟨cx.set i (c + 1, p.2), List.mem_append_right _ (by rw [if_pos (by omega)]; exact List.mem_singleton.mpr rfl), sIn_set (p := (c + 1, p.2)) h (by show c + 1 ≤ _; omega) h2⟩
    · next hc => simp [hc] at hne
  · next hp => rw [hp] at hne; exact absurd rfl hne
theorem sEnum_ok {cx : SCx} (h : sIn cx v) {i : Nat} (hne : sEnum cx i ≠ []) : ∃ cx2 ∈ sEnum cx i, sIn cx2 v := by
  unfold sEnum at hne ⊢
  split
  · next p hp =>
    rw [hp] at hne
    obtain ⟨h1, h2⟩ := h i p hp
    split
    · next hc =>
      refine ⟨_, List.mem_map.mpr ⟨((v i).toInt - p.1).toNat, List.mem_range.mpr (by omega), rfl⟩, sIn_set h (by simp; omega) (by simp; omega)⟩
    · next hc => simp [hc] at hne
  · next hp => rw [hp] at hne; exact absurd rfl hne
theorem sPick_ok {cx : SCx} (h : sIn cx v) : ∀ {l : List SA}, sPick cx l ≠ [] → ∃ cx2 ∈ sPick cx l, sIn cx2 v
  | [], hne => absurd rfl hne
  | .inl _ :: r, hne => by
    rw [sPick] at hne ⊢
    exact sPick_ok h hne
  | .inr i :: r, hne => by
    rw [sPick] at hne ⊢
    split
    · next he => rw [he] at hne; exact sPick_ok h hne
    · next he => exact sEnum_ok h (fun e => he e)
theorem sFork_ok {cx : SCx} (h : sIn cx v) {ins : Instr} {st : List SA} (hne : sFork cx ins st ≠ []) : ∃ cx2 ∈ sFork cx ins st, sIn cx2 v := by
  cases ins with
  | ifCond c off =>
    match st with
    | [] => exact absurd rfl hne
    | .inl _ :: _ => exact absurd rfl hne
    | .inr i :: _ => exact sCut_ok h hne
  | if_icmp c off =>
    match st with
    | [] => exact absurd rfl hne
    | [.inl _] => exact absurd rfl hne
    | [.inr _] => exact absurd rfl hne
    | .inl b :: .inl _ :: _ => exact absurd rfl hne
    | .inl b :: .inr i :: _ =>
      cases b with
      | int c => exact sCut_ok h hne
      | _ => exact absurd rfl hne
    | .inr j :: .inr i :: r =>
      have e : sFork cx (.if_icmp c off) (.inr j :: .inr i :: r) = match sCon cx (.inr j) with
        | some (.int c) => sCut cx i c.toInt
        | _ => match sEnum cx j with
          | [] => sEnum cx i
          | l => l := rfl
      rw [e] at hne ⊢
      split at hne
      · exact sCut_ok h hne
      · split at hne
        · exact sEnum_ok h hne
        · exact sEnum_ok h hne
    | .inr i :: .inl a :: _ =>
      cases a with
      | int c => exact sCut_ok h hne
      | _ => exact absurd rfl hne
  | lcmp =>
    match st with
    | [] => exact absurd rfl hne
    | [.inl b] => cases b <;> exact absurd rfl hne
    | [.inr _] => exact absurd rfl hne
    | .inl b :: .inl _ :: _ => cases b <;> exact absurd rfl hne
    | .inl b :: .inr i :: _ =>
      cases b with
      | long c => exact sCut_ok h hne
      | _ => exact absurd rfl hne
    | .inr j :: .inr i :: r =>
      have e : sFork cx .lcmp (.inr j :: .inr i :: r) = match sEnum cx (j - 100) with
        | [] => sEnum cx (i - 100)
        | l => l := rfl
      rw [e] at hne ⊢
      split at hne
      · exact sEnum_ok h hne
      · exact sEnum_ok h hne
    | .inr i :: .inl a :: _ =>
      cases a with
      | long c => exact sCut_ok h hne
      | _ => exact absurd rfl hne
  | tableswitch d lo hi offs =>
    match st with
    | [] => exact absurd rfl hne
    | .inl _ :: _ => exact absurd rfl hne
    | .inr i :: r =>
      have e : sFork cx (.tableswitch d lo hi offs) (.inr i :: r) = match cx[i]? with
        | some p => if p.1 < lo ∧ lo ≤ p.2 then sCut cx i lo else if p.1 ≤ hi ∧ hi < p.2 then sCut cx i hi else sEnum cx i
        | none => [] := rfl
      rw [e] at hne ⊢
      cases hp : cx[i]? with
      | none => rw [hp] at hne; exact absurd rfl hne
      | some p =>
        rw [hp] at hne
        simp only at hne ⊢
        split at hne
        · next h1 => rw [if_pos h1]; exact sCut_ok h hne
        · next h1 =>
          rw [if_neg h1]
          split at hne
          · next h2 => rw [if_pos h2]; exact sCut_ok h hne
          · next h2 => rw [if_neg h2]; exact sEnum_ok h hne
  | _ => exact sPick_ok h hne
theorem sAny_ok {l : List SCx} {f : SCx → Bool} (h : sAny l f = true) : l ≠ [] ∧ ∀ a ∈ l, f a = true := by
  unfold sAny at h
  split at h
  · cases h
  · exact ⟨by simp, fun a ha => List.all_eq_true.mp h a ha⟩
theorem mRun_fuel {call : Nat → List Value → List MC → Option MRes} : ∀ (n pc : Nat) (lv : MLv) (st : List Value) (σ : List MC) (r : MRes), mRun P L xs call y n pc lv st σ = some r → mRun P L xs call y (n + 1) pc lv st σ = some r := by
  intro n
  induction n with
  | zero => intro pc lv st σ r h; simp [mRun] at h
  | succ n ih =>
    intro pc lv st σ r h
    rw [mRun] at h
    rw [mRun]
    split at h
    · cases h
    · next ins hins =>
      try simp only [hins]
      split at h
      · next r0 hr0 => (try simp only [hr0]); exact h
      · next hr0 =>
        try simp only [hr0]
        split at h
        · next w hw =>
          try simp only [hw]
          split at h
          · next r1 hr1 => (try simp only [hr1]); exact ih _ _ _ _ _ h
          · cases h
        · next hw =>
          try simp only [hw]
          split at h
          · next q hq => (try simp only [hq]); exact ih _ _ _ _ _ h
          · cases h
theorem sRun_sound (hL : L ≤ 90) (hv : ∀ i, i < L → v i = xs i) (hw : v 6 = v 0 &&& 63) {call : SCx → Nat → List SA → List MC → SK → Bool} {callM : Nat → List Value → List MC → Option MRes}
    (hcall : ∀ cx y as σ k, call cx y as σ k = true → sIn cx v → ∃ r σ2 cx2, callM y (as.map (sVal v)) σ = some (r.map (sVal v), σ2) ∧ sIn cx2 v ∧ k cx2 r σ2 = true) :
    ∀ (n : Nat) (cx : SCx) (pc : Nat) (lv : SLv) (st : List SA) (σ : List MC) (k : SK), sRun P L call y n cx pc lv st σ k = true → sIn cx v → ∃ r σ2 cx2, mRun P L xs callM y n pc (sLvT v lv) (st.map (sVal v)) σ = some (r.map (sVal v), σ2) ∧ sIn cx2 v ∧ k cx2 r σ2 = true := by
  intro n
  induction n with
  | zero => intro cx pc lv st σ k h; simp [sRun] at h
  | succ n ih =>
    intro cx pc lv st σ k h hc
    rw [sRun] at h
    split at h
    · cases h
    · next ins hins =>
      have fork : sAny (sFork cx ins st) (fun cx2 => sRun P L call y n cx2 pc lv st σ k) = true → ∃ r σ2 cx2, mRun P L xs callM y (n + 1) pc (sLvT v lv) (st.map (sVal v)) σ = some (r.map (sVal v), σ2) ∧ sIn cx2 v ∧ k cx2 r σ2 = true := by
        intro h
        obtain ⟨hne, hall⟩ := sAny_ok h
        obtain ⟨cx2, hm, hin2⟩ := sFork_ok hc hne
        obtain ⟨r3, σ3, cx3, g1, g2, g3⟩ := ih _ _ _ _ _ _ (hall cx2 hm) hin2
        exact ⟨r3, σ3, cx3, mRun_fuel _ _ _ _ _ _ g1, g2, g3⟩
      have step : ∀ q, sStep P L y cx ins pc lv st σ = some q → sRun P L call y n cx q.1 q.2.1 q.2.2.1 q.2.2.2 k = true → ∃ r σ2 cx2, mRun P L xs callM y (n + 1) pc (sLvT v lv) (st.map (sVal v)) σ = some (r.map (sVal v), σ2) ∧ sIn cx2 v ∧ k cx2 r σ2 = true := by
        intro q hq h
        obtain ⟨e1, e2, e3⟩ := sStep_ok hL hv hw hc hq
        obtain ⟨r3, σ3, cx3, g1, g2, g3⟩ := ih _ _ _ _ _ _ h hc
        refine ⟨r3, σ3, cx3, ?_, g2, g3⟩
        rw [mRun]
        simp only [hins, e1, e2, e3]
        exact g1
      split at h
      · split at h
        · next q hq =>
          have hl := sLocal_ok hc hq
          obtain ⟨r3, σ3, cx3, g1, g2, g3⟩ := ih _ _ _ _ _ _ h hc
          refine ⟨r3, σ3, cx3, ?_, g2, g3⟩
          rw [mRun]
          simp only [hins, mLocal_noEnd hl, mLocal_noCall hl, mStep_L hl]
          exact g1
        · exact fork h
      · split at h
        · next q hq =>
          have hl := sIf_ok (P := P) (y := y) (lv := sLvT v lv) hc hq
          obtain ⟨r3, σ3, cx3, g1, g2, g3⟩ := ih _ _ _ _ _ _ h hc
          refine ⟨r3, σ3, cx3, ?_, g2, g3⟩
          rw [mRun]
          simp only [hins, mLocal_noEnd hl, mLocal_noCall hl, mStep_L hl]
          exact g1
        · exact fork h
      · split at h
        · next r hr =>
          refine ⟨r, σ, cx, ?_, hc, h⟩
          rw [mRun]
          simp only [hins, sEnd_ok hc hr]
        · cases h
      · split at h
        · next w hw2 =>
          obtain ⟨r, σ2, cx2, h1, h2, h3⟩ := hcall _ _ _ _ _ h hc
          obtain ⟨r3, σ3, cx3, g1, g2, g3⟩ := ih _ _ _ _ _ _ h3 h2
          refine ⟨r3, σ3, cx3, ?_, g2, g3⟩
          have hco := sCallOf_ok (v := v) hw2
          rw [mRun]
          simp only [hins, mCallOf_noEnd hco, hco, h1]
          rw [← g1]
          congr 1
          cases r <;> simp
        · split at h
          · next q hq => exact step q hq h
          · exact fork h
      · split at h
        · next q hq => exact step q hq h
        · exact fork h
theorem sArgs_T : ∀ (i : Nat) (as : List SA), sLvT v (sExec.sArgs i as) = lv_args i (as.map (sVal v))
  | _, [] => rfl
  | i, a :: as => by
    simp only [sExec.sArgs, List.map_cons, lv_args, sVal_cat]
    rw [← sArgs_T _ as]
    rfl
theorem sExec_sound (hL : L ≤ 90) (hv : ∀ i, i < L → v i = xs i) (hw : v 6 = v 0 &&& 63) {N : Nat} : ∀ (d : Nat) (cx : SCx) (y : Nat) (as : List SA) (σ : List MC) (k : SK), sExec P L N d cx y as σ k = true → sIn cx v → ∃ r σ2 cx2, mExec P L xs N d y (as.map (sVal v)) σ = some (r.map (sVal v), σ2) ∧ sIn cx2 v ∧ k cx2 r σ2 = true := by
  intro d
  induction d with
  | zero => intro cx y as σ k h; simp [sExec] at h
  | succ d ih =>
    intro cx y as σ k h hc
    rw [sExec] at h
    rw [mExec, ← sArgs_T]
    exact sRun_sound hL hv hw (fun cx y as σ k h hc => ih cx y as σ k h hc) N cx 0 _ [] σ k h hc
end SQ
end
