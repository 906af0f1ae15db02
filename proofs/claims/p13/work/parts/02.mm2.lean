def mFit (ty : FieldType) (v : Value) : Bool := decide (narrow ty v = v) && fits ty v
def mCInts (σ : List MC) (a : Nat) : Option (Nat × (Nat → Int32)) := match mCell σ a with
  | some (.inl (0, n, .inl f)) => some (n, f)
  | _ => none
/-- an array's first contents, by its type's number -/
def mBlank (t : Nat) : (Nat → Int32) ⊕ (Nat → Int64) ⊕ (Nat → UInt32) ⊕ (Nat → UInt64) ⊕ (Nat → Option Nat) := match t with
  | 0 => .inl (fun _ => 0)
  | 1 => .inr (.inl (fun _ => 0))
  | 2 => .inl (fun _ => 0)
  | _ => .inr (.inr (.inr (.inr (fun _ => none))))
def mATy (t : Jvm.ClassFile.ArrayType) : Option Nat := match t with
  | .int => some 0
  | .long => some 1
  | .boolean => some 2
  | _ => none
def mNewA (σ : List MC) (pc t : Nat) (q : Int32 × List Value) : Option (Nat × List Value × List MC) :=
  if q.1 < 0 then none else if mIx q.1 ≤ 1000000 then some (pc, .ref (σ.length + 1) :: q.2, σ ++ [.inl (t, mIx q.1, mBlank t)]) else none
def mHeapC (ins : Instr) : MP → Nat → (Nat → Int32) → Nat → Nat → List Value → List MC → Option (Nat × List Value × List MC) := match ins with
  | .getfield i => fun P L xs y pc st σ => match st with
    | .ref a :: r => (mObj σ a).bind (fun o => (mpFld P y i).bind (fun q => if q.1 = o.1 then (o.2[q.2]?).map (fun v => (pc + 3, v :: r, σ)) else none))
    | _ => none
  | .putfield i => fun P L xs y pc st σ => match st with
    | v :: .ref a :: r => (mObj σ a).bind (fun o => (mpFld P y i).bind (fun q => if q.1 = o.1 ∧ q.2 < o.2.length ∧ mFit (mpFty P q.1 q.2).1 v = true ∧ ((mpFty P q.1 q.2).2 = true → (mpInfo P y).2.2.2.2.1 = true ∧ (mpInfo P y).2.2.2.2.2 = q.1) then some (pc + 3, r, mPut σ a (.inr (o.1, o.2.set q.2 v))) else none))
    | _ => none
  | .iaload => fun P L xs y pc st σ => (mIA st).bind (fun q : Int32 × Nat × List Value => (mInts L xs σ q.2.1).bind (fun g => if mIn q.1 g.1 = true then some (pc + 1, .int (g.2 (mIx q.1)) :: q.2.2, σ) else none))
  | .laload => fun P L xs y pc st σ => (mIA st).bind (fun q : Int32 × Nat × List Value => (mLongs σ q.2.1).bind (fun g => if mIn q.1 g.1 = true then some (pc + 1, .long (g.2 (mIx q.1)) :: q.2.2, σ) else none))
  | .baload => fun P L xs y pc st σ => (mIA st).bind (fun q : Int32 × Nat × List Value => (mBools σ q.2.1).bind (fun g => if mIn q.1 g.1 = true then some (pc + 1, .int (g.2 (mIx q.1)) :: q.2.2, σ) else none))
  | .aaload => fun P L xs y pc st σ => (mIA st).bind (fun q : Int32 × Nat × List Value => (mRefs σ q.2.1).bind (fun g => if mIn q.1 g.2.1 = true then some (pc + 1, va_rf (g.2.2 (mIx q.1)) :: q.2.2, σ) else none))
  | .iastore => fun P L xs y pc st σ => match st with
    | .int x :: .int i :: .ref a :: r => (mCInts σ a).bind (fun g => if mIn i g.1 = true then some (pc + 1, r, mPut σ a (.inl (0, g.1, .inl (upd g.2 (mIx i) x)))) else none)
    | _ => none
  | .lastore => fun P L xs y pc st σ => match st with
    | .long x :: .int i :: .ref a :: r => (mLongs σ a).bind (fun g => if mIn i g.1 = true then some (pc + 1, r, mPut σ a (.inl (1, g.1, .inr (.inl (vp_updL g.2 (mIx i) x))))) else none)
    | _ => none
  | .bastore => fun P L xs y pc st σ => match st with
    | .int x :: .int i :: .ref a :: r => (mBools σ a).bind (fun g => if mIn i g.1 = true then some (pc + 1, r, mPut σ a (.inl (2, g.1, .inl (upd g.2 (mIx i) (vp_nar .boolean x))))) else none)
    | _ => none
  | .aastore => fun P L xs y pc st σ => match st with
    | .null :: .int i :: .ref a :: r => (mRefs σ a).bind (fun g => if mIn i g.2.1 = true then some (pc + 1, r, mPut σ a (.inl (g.1, g.2.1, .inr (.inr (.inr (.inr (va_up g.2.2 (mIx i) none))))))) else none)
    | .ref v :: .int i :: .ref a :: r => (mRefs σ a).bind (fun g => (mCell σ v).bind (fun e => if mIn i g.2.1 = true ∧ mpElem P g.1 e = true then some (pc + 1, r, mPut σ a (.inl (g.1, g.2.1, .inr (.inr (.inr (.inr (va_up g.2.2 (mIx i) (some v)))))))) else none))
    | _ => none
  | .arraylength => fun P L xs y pc st σ => match st with
    | .ref a :: r => (mLong σ L a).map (fun n => (pc + 1, .int (Int32.ofNat n) :: r, σ))
    | _ => none
  | .newarray t => fun P L xs y pc st σ => (mI1 st).bind (fun q => (mATy t).bind (fun k => mNewA σ (pc + 2) k q))
  | .anewarray i => fun P L xs y pc st σ => (mI1 st).bind (fun q => (mpArr P y i).bind (fun k => if 3 ≤ k then mNewA σ (pc + 3) k q else none))
  | .new i => fun P L xs y pc st σ => (mpNew P y i).map (fun q => (pc + 3, .ref (σ.length + 1) :: st, σ ++ [.inr q]))
  | .invokespecial i => fun P L xs y pc st σ => (mpInv P y i).bind (fun q => if q.1 = 5 then match st with
      | .ref _ :: r => if (r.map (fun v => v.category)).sum ≤ 8 ∧ 1 ≤ (mpInfo P y).2.1 ∧ 20 ≤ (mpInfo P y).2.2.1 then some (pc + 3, r, σ) else none
      | _ => none
    else none)
  | .invokestatic i => fun P L xs y pc st σ => (mpInv P y i).bind (fun q => if q.1 = 6 then match st with
      | .int n :: .int dp :: .ref a1 :: .int sp :: .ref a0 :: r => (mCInts σ a0).bind (fun f => (mCInts σ a1).bind (fun g => if ¬ sp < 0 ∧ ¬ dp < 0 ∧ ¬ n < 0 ∧ mIx sp + mIx n ≤ f.1 ∧ mIx dp + mIx n ≤ g.1 ∧ (r.map (fun v => v.category)).sum ≤ 8 ∧ 1 ≤ (mpInfo P y).2.1 ∧ 40 ≤ (mpInfo P y).2.2.1 then some (pc + 3, r, mPut σ a1 (.inl (0, g.1, .inl (va_cpy f.2 g.2 (mIx sp) (mIx dp) (mIx n))))) else none))
      | _ => none
    else if q.1 = 7 then match st with
      | .int y2 :: .int x :: r => if (r.map (fun v => v.category)).sum ≤ 8 ∧ 1 ≤ (mpInfo P y).2.1 ∧ 30 ≤ (mpInfo P y).2.2.1 then some (pc + 3, .int (if x < y2 then y2 else x) :: r, σ) else none
      | _ => none
    else if q.1 = 8 then match st with
      | .int y2 :: .int x :: r => if (r.map (fun v => v.category)).sum ≤ 8 ∧ 1 ≤ (mpInfo P y).2.1 ∧ 30 ≤ (mpInfo P y).2.2.1 then some (pc + 3, .int (if y2 < x then y2 else x) :: r, σ) else none
      | _ => none
    else none)
  | .invokevirtual i => fun P L xs y pc st σ => (mpInv P y i).bind (fun q => if q.1 = 9 then match st with
      | .ref a :: r => (mCInts σ a).bind (fun f => if (r.map (fun v => v.category)).sum ≤ 8 ∧ 1 ≤ (mpInfo P y).2.1 ∧ 30 ≤ (mpInfo P y).2.2.1 then some (pc + 3, .ref (σ.length + 1) :: r, σ ++ [.inl (0, f.1, .inl f.2)]) else none)
      | _ => none
    else none)
  | .checkcast i => fun P L xs y pc st σ => match st with
    | .ref a :: r => (mCInts σ a).bind (fun _ => if mpArr P y i = some 3 then some (pc + 3, .ref a :: r, σ) else none)
    | _ => none
  | _ => fun P L xs y pc st σ => none
def mHeap (P : MP) (L : Nat) (xs : Nat → Int32) (y : Nat) (ins : Instr) (pc : Nat) (st : List Value) (σ : List MC) : Option (Nat × List Value × List MC) := mHeapC ins P L xs y pc st σ
/-- a method's end -/
def mEndC (ins : Instr) : MP → Nat → List Value → Option (Option Value) := match ins with
  | .ireturn => fun P y st => match st with
    | [.int x] => if (mpInfo P y).2.2.2.1 = 1 ∨ ((mpInfo P y).2.2.2.1 = 4 ∧ x &&& 1 = x) then some (some (.int x)) else none
    | _ => none
  | .lreturn => fun P y st => match st with
    | [.long x] => if (mpInfo P y).2.2.2.1 = 2 then some (some (.long x)) else none
    | _ => none
  | .areturn => fun P y st => match st with
    | [.ref x] => if (mpInfo P y).2.2.2.1 = 3 then some (some (.ref x)) else none
    | [.null] => if (mpInfo P y).2.2.2.1 = 3 then some (some .null) else none
    | _ => none
  | .return_ => fun P y st => match st with
    | [] => if (mpInfo P y).2.2.2.1 = 0 then some none else none
    | _ => none
  | _ => fun P y st => none
def mEnd (P : MP) (y : Nat) (ins : Instr) (st : List Value) : Option (Option Value) := mEndC ins P y st
/-- a call: its kind, the method, its arguments in order, what stays on the stack -/
def mCallK (P : MP) (y k y2 n : Nat) (st : List Value) (σ : List MC) : Option (Nat × List Value × List Value) :=
  if n ≤ st.length ∧ ((st.drop n).map (fun v => v.category)).sum ≤ 8 ∧ (mpInfo P y2).2.1 + 1 ≤ (mpInfo P y).2.1 ∧ 8 + ((mpInfo P y2).1 + 11) + (mpInfo P y2).2.2.1 ≤ (mpInfo P y).2.2.1 ∧ (lg_sl ((st.take n).reverse)).length ≤ (mpInfo P y2).1 then
    match k with
    | 0 => some (y2, (st.take n).reverse, st.drop n)
    | 4 => some (y2, (st.take n).reverse, st.drop n)
    | 1 => match (st.take n).reverse with
      | .ref a :: _ => match mObj σ a with
        | some o => if o.1 = (mpInfo P y2).2.2.2.2.2 then some (y2, (st.take n).reverse, st.drop n) else none
        | none => none
      | _ => none
    | 2 => match (st.take n).reverse with
      | .ref _ :: _ => some (y2, (st.take n).reverse, st.drop n)
      | _ => none
    | 3 => match (st.take n).reverse with
      | .ref _ :: _ => some (y2, (st.take n).reverse, st.drop n)
      | _ => none
    | _ => none
  else none
def mCallOfC (ins : Instr) : MP → Nat → List Value → List MC → Option (Nat × List Value × List Value) := match ins with
  | .invokevirtual i => fun P y st σ => (mpInv P y i).bind (fun q => if q.1 = 1 then mCallK P y 1 q.2.1 q.2.2 st σ else none)
  | .invokestatic i => fun P y st σ => (mpInv P y i).bind (fun q => if q.1 = 0 ∨ q.1 = 4 then mCallK P y q.1 q.2.1 q.2.2 st σ else none)
  | .invokespecial i => fun P y st σ => (mpInv P y i).bind (fun q => if q.1 = 2 ∨ q.1 = 3 then mCallK P y q.1 q.2.1 q.2.2 st σ else none)
  | _ => fun P y st σ => none
def mCallOf (P : MP) (y : Nat) (ins : Instr) (st : List Value) (σ : List MC) : Option (Nat × List Value × List Value) := mCallOfC ins P y st σ
def mStep (P : MP) (L : Nat) (xs : Nat → Int32) (y : Nat) (ins : Instr) (pc : Nat) (lv : MLv) (st : List Value) (σ : List MC) : Option MR :=
  match mLocal y P ins pc lv st with
  | some q => some (q.1, q.2.1, q.2.2, σ)
  | none => (mHeap P L xs y ins pc st σ).map (fun q => (q.1, lv, q.2.1, q.2.2))
abbrev MRes : Type := Option Value × List MC
def mRun (P : MP) (L : Nat) (xs : Nat → Int32) (call : Nat → List Value → List MC → Option MRes) (y : Nat) : Nat → Nat → MLv → List Value → List MC → Option MRes
  | 0, _, _, _, _ => none
  | n + 1, pc, lv, st, σ => match mpCode P y pc with
    | none => none
    | some ins => match mEnd P y ins st with
      | some r => some (r, σ)
      | none => match mCallOf P y ins st σ with
        | some c => match call c.1 c.2.1 σ with
          | some r => mRun P L xs call y n (pc + 3) lv (r.1.toList ++ c.2.2) r.2
          | none => none
        | none => match mStep P L xs y ins pc lv st σ with
          | some q => mRun P L xs call y n q.1 q.2.1 q.2.2.1 q.2.2.2
          | none => none
def mExec (P : MP) (L : Nat) (xs : Nat → Int32) (N : Nat) : Nat → Nat → List Value → List MC → Option MRes
  | 0, _, _, _ => none
  | d + 1, y, as, σ => mRun P L xs (mExec P L xs N d) y N 0 (lv_args 0 as) [] σ
/-- how many slots a cell has -/
def mSz (e : MC) : Nat := match e with
  | .inl a => a.2.1
  | .inr o => o.2.length
def mSl (σ : List MC) : Nat := (σ.map mSz).sum
