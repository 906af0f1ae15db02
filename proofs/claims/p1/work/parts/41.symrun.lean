def sIsI (a : SA) : Bool := match a with
  | .inl (.int _) => true
  | .inr i => Nat.blt i 100
  | _ => false
def sIsL (a : SA) : Bool := match a with
  | .inl (.long _) => true
  | .inr i => !(Nat.blt i 100)
  | _ => false
def sLook (lv : SLv) (i : Nat) : Option SA := match lv with
  | [] => none
  | q :: r => bif Nat.beq q.1 i then some q.2 else sLook r i
def sSt1 (lv : SLv) (i : Nat) (v : SA) : SLv := (i, v) :: lv.filter (fun q => !(q.1 == i) && !(q.1 + 1 == i && sCat q.2 == 2))
def sSt2 (lv : SLv) (i : Nat) (v : SA) : SLv := (i, v) :: lv.filter (fun q => !(q.1 == i) && (!(q.1 == i + 1) && !(q.1 + 1 == i && sCat q.2 == 2)))
def sLvT (v : Nat → Int32) (lv : SLv) : MLv := lv.map (fun q => (q.1, sVal v q.2))
def sLdI (lv : SLv) (i pc : Nat) (st : List SA) : Option (Nat × SLv × List SA) := match sLook lv i with
  | some a => if sIsI a = true then some (pc, lv, a :: st) else none
  | none => none
def sLdA (lv : SLv) (i pc : Nat) (st : List SA) : Option (Nat × SLv × List SA) := match sLook lv i with
  | some (.inl (.ref x)) => some (pc, lv, .inl (.ref x) :: st)
  | some (.inl .null) => some (pc, lv, .inl .null :: st)
  | _ => none
def sLdL (lv : SLv) (i pc : Nat) (st : List SA) : Option (Nat × SLv × List SA) := match sLook lv i with
  | some a => if sIsL a = true then some (pc, lv, a :: st) else none
  | none => none
def sStI (lv : SLv) (nL i pc : Nat) (st : List SA) : Option (Nat × SLv × List SA) := match st with
  | a :: r => if sIsI a = true ∧ i < nL then some (pc, sSt1 lv i a, r) else none
  | [] => none
def sStA (lv : SLv) (nL i pc : Nat) (st : List SA) : Option (Nat × SLv × List SA) := match st with
  | .inl (.ref x) :: r => if i < nL then some (pc, sSt1 lv i (.inl (.ref x)), r) else none
  | .inl .null :: r => if i < nL then some (pc, sSt1 lv i (.inl .null), r) else none
  | _ => none
def sStL (lv : SLv) (nL i pc : Nat) (st : List SA) : Option (Nat × SLv × List SA) := match st with
  | a :: r => if sIsL a = true ∧ i + 1 < nL then some (pc, sSt2 lv i a, r) else none
  | [] => none
def sInc (cx : SCx) (lv : SLv) (nL i : Nat) (n : Int) (pc : Nat) (st : List SA) : Option (Nat × SLv × List SA) := match sLook lv i with
  | some a => match sCon cx a with
    | some (.int x) => if i < nL then some (pc, sSt1 lv i (.inl (.int (x + Int32.ofInt n))), st) else none
    | _ => none
  | none => none
def sDup (pc : Nat) (lv : SLv) (st : List SA) : Option (Nat × SLv × List SA) := match st with
  | a :: r => if sCat a = 1 then some (pc, lv, a :: a :: r) else none
  | [] => none
def sPop (pc : Nat) (lv : SLv) (st : List SA) : Option (Nat × SLv × List SA) := match st with
  | a :: r => if sCat a = 1 then some (pc, lv, r) else none
  | [] => none
def sDup2 (pc : Nat) (lv : SLv) (st : List SA) : Option (Nat × SLv × List SA) := match st with
  | a :: b :: r => if sCat a = 1 ∧ sCat b = 1 then some (pc, lv, a :: b :: a :: b :: r) else none
  | _ => none
def sLocalC (ins : Instr) : MP → Nat → SCx → Nat → SLv → List SA → Option (Nat × SLv × List SA) := match ins with
  | .iload_n k => fun P y cx pc lv st => sLdI lv k (pc + 1) st
  | .iload i => fun P y cx pc lv st => sLdI lv i (pc + 2) st
  | .aload_n k => fun P y cx pc lv st => sLdA lv k (pc + 1) st
  | .aload i => fun P y cx pc lv st => sLdA lv i (pc + 2) st
  | .lload_n k => fun P y cx pc lv st => sLdL lv k (pc + 1) st
  | .lload i => fun P y cx pc lv st => sLdL lv i (pc + 2) st
  | .istore_n k => fun P y cx pc lv st => sStI lv (mpInfo P y).1 k (pc + 1) st
  | .istore i => fun P y cx pc lv st => sStI lv (mpInfo P y).1 i (pc + 2) st
  | .astore_n k => fun P y cx pc lv st => sStA lv (mpInfo P y).1 k (pc + 1) st
  | .astore i => fun P y cx pc lv st => sStA lv (mpInfo P y).1 i (pc + 2) st
  | .lstore_n k => fun P y cx pc lv st => sStL lv (mpInfo P y).1 k (pc + 1) st
  | .lstore i => fun P y cx pc lv st => sStL lv (mpInfo P y).1 i (pc + 2) st
  | .iinc i n => fun P y cx pc lv st => sInc cx lv (mpInfo P y).1 i n (pc + 3) st
  | .dup => fun P y cx pc lv st => sDup (pc + 1) lv st
  | .pop => fun P y cx pc lv st => sPop (pc + 1) lv st
  | .dup2 => fun P y cx pc lv st => sDup2 (pc + 1) lv st
  | _ => fun P y cx pc lv st => none
def sLocal (P : MP) (y : Nat) (cx : SCx) (ins : Instr) (pc : Nat) (lv : SLv) (st : List SA) : Option (Nat × SLv × List SA) := sLocalC ins P y cx pc lv st
def sLcmp (A B : Int × Int) : Option Int32 := if A.2 < B.1 then some (-1) else if B.2 < A.1 then some 1 else if A.1 = A.2 ∧ B.1 = B.2 ∧ A.1 = B.1 then some 0 else none
/-- an int of the script; its lowest six bits have number 6 -/
def sScrC (ins : Instr) : SCx → Nat → Nat → SLv → List SA → Option (Nat × SLv × List SA) := match ins with
  | .iaload => fun cx L pc lv st => match st with
    | i :: .inl (.ref 0) :: r => match sCon cx i with
      | some (.int x) => if mIn x L = true then some (pc + 1, lv, .inr (mIx x) :: r) else none
      | _ => none
    | _ => none
  | .iand => fun cx L pc lv st => match st with
    | .inl (.int c) :: .inr 0 :: r => if c = 63 then some (pc + 1, lv, .inr 6 :: r) else none
    | _ => none
  | .arraylength => fun cx L pc lv st => match st with
    | .inl (.ref 0) :: r => some (pc + 1, lv, .inl (.int (Int32.ofNat L)) :: r)
    | _ => none
  | .i2l => fun cx L pc lv st => match st with
    | .inr i :: r => if i < 100 then some (pc + 1, lv, .inr (100 + i) :: r) else none
    | _ => none
  | .lcmp => fun cx L pc lv st => match st with
    | b :: a :: r => match sLv cx a, sLv cx b with
      | some A, some B => match sLcmp A B with
        | some x => some (pc + 1, lv, .inl (.int x) :: r)
        | none => none
      | _, _ => none
    | _ => none
  | .tableswitch d lo hi _ => fun cx L pc lv st => match st with
    | .inr i :: r => if i < 100 then match cx[i]? with
        | some p => if p.2 < lo ∨ hi < p.1 then (mTo pc d).map (fun t => (t, lv, r)) else none
        | none => none
      else none
    | _ => none
  | _ => fun cx L pc lv st => none
def sScr (cx : SCx) (L : Nat) (ins : Instr) (pc : Nat) (lv : SLv) (st : List SA) : Option (Nat × SLv × List SA) := sScrC ins cx L pc lv st
/-- no ref to the script among them -/
def sNoScr (l : List Value) : Bool := l.all (fun v => match v with
  | .ref 0 => false
  | _ => true)
def sPlain (P : MP) (L : Nat) (y : Nat) (cx : SCx) (ins : Instr) (pc n : Nat) (lv : SLv) (st : List SA) (σ : List MC) : Option (Nat × SLv × List SA × List MC) :=
  match sCons cx (st.take n) with
  | none => none
  | some ops => if ops.length = n ∧ sNoScr ops = true then
      match mLocal y P ins pc [] ops with
      | some q => some (q.1, lv, q.2.2.map Sum.inl ++ st.drop n, σ)
      | none => match mHeap P L (fun _ => 0) y ins pc ops σ with
        | some q => some (q.1, lv, q.2.1.map Sum.inl ++ st.drop n, q.2.2)
        | none => none
    else none
def sStep (P : MP) (L : Nat) (y : Nat) (cx : SCx) (ins : Instr) (pc : Nat) (lv : SLv) (st : List SA) (σ : List MC) : Option (Nat × SLv × List SA × List MC) :=
  match sLocal P y cx ins pc lv st with
  | some q => some (q.1, q.2.1, q.2.2, σ)
  | none => match sScr cx L ins pc lv st with
    | some q => some (q.1, q.2.1, q.2.2, σ)
    | none => match sAr ins with
      | some n => sPlain P L y cx ins pc n lv st σ
      | none => match sArC P y ins with
        | some n => if ((st.drop n).map sCat).sum ≤ 8 then sPlain P L y cx ins pc n lv st σ else none
        | none => none
def sTell (c : Jvm.ClassFile.Cond) (A B : Int × Int) : Option Bool := match c with
  | .eq => if A.1 = A.2 ∧ B.1 = B.2 ∧ A.1 = B.1 then some true else if A.2 < B.1 ∨ B.2 < A.1 then some false else none
  | .ne => if A.1 = A.2 ∧ B.1 = B.2 ∧ A.1 = B.1 then some false else if A.2 < B.1 ∨ B.2 < A.1 then some true else none
  | .lt => if A.2 < B.1 then some true else if B.2 ≤ A.1 then some false else none
  | .ge => if A.2 < B.1 then some false else if B.2 ≤ A.1 then some true else none
  | .gt => if B.2 < A.1 then some true else if A.2 ≤ B.1 then some false else none
  | .le => if B.2 < A.1 then some false else if A.2 ≤ B.1 then some true else none
def sSame (c : Jvm.ClassFile.Cond) : Bool := match c with
  | .eq | .ge | .le => true
  | _ => false
def sIfC (ins : Instr) : SCx → Nat → List SA → Option (Nat × List SA) := match ins with
  | .ifCond c off => fun cx pc st => match st with
    | a :: r => match sIv cx a with
      | some A => match sTell c A (0, 0) with
        | some b => (mTo pc off).map (fun t => (if b = true then t else pc + 3, r))
        | none => none
      | none => none
    | [] => none
  | .if_icmp c off => fun cx pc st => match st with
    | b :: a :: r => match sIv cx a, sIv cx b with
      | some A, some B => match sTell c A B with
        | some b => (mTo pc off).map (fun t => (if b = true then t else pc + 3, r))
        | none => match a, b with
          | .inr i, .inr j => if i = j then (mTo pc off).map (fun t => (if sSame c = true then t else pc + 3, r)) else none
          | _, _ => none
      | _, _ => none
    | _ => none
  | _ => fun cx pc st => none
def sIf (cx : SCx) (ins : Instr) (pc : Nat) (st : List SA) : Option (Nat × List SA) := sIfC ins cx pc st
def sEndC (ins : Instr) : MP → Nat → SCx → List SA → Option (Option SA) := match ins with
  | .ireturn => fun P y cx st => match st with
    | [.inr i] => if (mpInfo P y).2.2.2.1 = 1 ∧ i < 100 then some (some (.inr i)) else none
    | [.inl v] => match mEnd P y .ireturn [v] with
      | some r => some (r.map Sum.inl)
      | none => none
    | _ => none
  | .lreturn => fun P y cx st => match sCons cx st with
    | some vs => match mEnd P y .lreturn vs with
      | some r => some (r.map Sum.inl)
      | none => none
    | none => none
  | .areturn => fun P y cx st => match sCons cx st with
    | some vs => match mEnd P y .areturn vs with
      | some r => some (r.map Sum.inl)
      | none => none
    | none => none
  | .return_ => fun P y cx st => match st with
    | [] => match mEnd P y .return_ [] with
      | some r => some (r.map Sum.inl)
      | none => none
    | _ => none
  | _ => fun P y cx st => none
def sEnd (P : MP) (y : Nat) (ins : Instr) (cx : SCx) (st : List SA) : Option (Option SA) := sEndC ins P y cx st
def sDum (a : SA) : Value := match a with
  | .inl v => v
  | .inr i => if i < 100 then .int 0 else .long 0
def sCallOf (P : MP) (y : Nat) (ins : Instr) (st : List SA) (σ : List MC) : Option (Nat × List SA × List SA) :=
  match mCallOf P y ins (st.map sDum) σ with
  | some w => some (w.1, (st.take w.2.1.length).reverse, st.drop w.2.1.length)
  | none => none
/-- split the bounds of int i at c -/
def sCut (cx : SCx) (i : Nat) (c : Int) : List SCx := match cx[i]? with
  | some p => if p.1 ≤ c ∧ c ≤ p.2 then (if p.1 < c then [cx.set i (p.1, c - 1)] else []) ++ [cx.set i (c, c)] ++ (if c < p.2 then [cx.set i (c + 1, p.2)] else []) else []
  | none => []
def sEnum (cx : SCx) (i : Nat) : List SCx := match cx[i]? with
  | some p => if p.2 - p.1 ≤ 300 ∧ p.1 < p.2 then (List.range ((p.2 - p.1).toNat + 1)).map (fun k : Nat => cx.set i (p.1 + (k : Int), p.1 + (k : Int))) else []
  | none => []
def sPick (cx : SCx) : List SA → List SCx
  | [] => []
  | .inr i :: r => match sEnum cx i with
    | [] => sPick cx r
    | l => l
  | .inl _ :: r => sPick cx r
def sForkC (ins : Instr) : SCx → List SA → List SCx := match ins with
  | .ifCond _ _ => fun cx st => match st with
    | .inr i :: _ => sCut cx i 0
    | _ => []
  | .if_icmp _ _ => fun cx st => match st with
    | b :: .inr i :: _ => match sCon cx b with
      | some (.int c) => sCut cx i c.toInt
      | _ => match b with
        | .inr j => match sEnum cx j with
          | [] => sEnum cx i
          | l => l
        | _ => []
    | .inr i :: a :: _ => match sCon cx a with
      | some (.int c) => sCut cx i c.toInt
      | _ => []
    | _ => []
  | .lcmp => fun cx st => match st with
    | .inl (.long c) :: .inr i :: _ => sCut cx (i - 100) c.toInt
    | .inr i :: .inl (.long c) :: _ => sCut cx (i - 100) c.toInt
    | .inr j :: .inr i :: _ => match sEnum cx (j - 100) with
      | [] => sEnum cx (i - 100)
      | l => l
    | _ => []
  | .tableswitch _ lo hi _ => fun cx st => match st with
    | .inr i :: _ => match cx[i]? with
      | some p => if p.1 < lo ∧ lo ≤ p.2 then sCut cx i lo else if p.1 ≤ hi ∧ hi < p.2 then sCut cx i hi else sEnum cx i
      | none => []
    | _ => []
  | _ => fun cx st => sPick cx (st.take 5)
def sFork (cx : SCx) (ins : Instr) (st : List SA) : List SCx := sForkC ins cx st
abbrev SK : Type := SCx → Option SA → List MC → Bool
def sAny (l : List SCx) (f : SCx → Bool) : Bool := match l with
  | [] => false
  | a :: r => (a :: r).all f
/-- which functions may serve an instruction: 0 locals, 1 a test, 2 a call, 3 an end, 4 the rest -/
def sKind (ins : Instr) : Nat := match ins with
  | .iload_n _ | .iload _ | .aload_n _ | .aload _ | .lload_n _ | .lload _ | .istore_n _ | .istore _ | .astore_n _ | .astore _ | .lstore_n _ | .lstore _ | .iinc _ _ | .dup | .pop | .dup2 => 0
  | .ifCond _ _ | .if_icmp _ _ => 1
  | .invokevirtual _ | .invokestatic _ | .invokespecial _ => 2
  | .ireturn | .lreturn | .areturn | .return_ => 3
  | _ => 4
def sRun (P : MP) (L : Nat) (call : SCx → Nat → List SA → List MC → SK → Bool) (y : Nat) : Nat → SCx → Nat → SLv → List SA → List MC → SK → Bool
  | 0, _, _, _, _, _, _ => false
  | n + 1, cx, pc, lv, st, σ, k => match mpCode P y pc with
    | none => false
    | some ins => match sKind ins with
      | 0 => match sLocal P y cx ins pc lv st with
        | some q => sRun P L call y n cx q.1 q.2.1 q.2.2 σ k
        | none => sAny (sFork cx ins st) (fun cx2 => sRun P L call y n cx2 pc lv st σ k)
      | 1 => match sIf cx ins pc st with
        | some q => sRun P L call y n cx q.1 lv q.2 σ k
        | none => sAny (sFork cx ins st) (fun cx2 => sRun P L call y n cx2 pc lv st σ k)
      | 3 => match sEnd P y ins cx st with
        | some r => k cx r σ
        | none => false
      | 2 => match sCallOf P y ins st σ with
        | some w => call cx w.1 w.2.1 σ (fun cx2 r σ2 => sRun P L call y n cx2 (pc + 3) lv (r.toList ++ w.2.2) σ2 k)
        | none => match sStep P L y cx ins pc lv st σ with
          | some q => sRun P L call y n cx q.1 q.2.1 q.2.2.1 q.2.2.2 k
          | none => sAny (sFork cx ins st) (fun cx2 => sRun P L call y n cx2 pc lv st σ k)
      | _ => match sStep P L y cx ins pc lv st σ with
        | some q => sRun P L call y n cx q.1 q.2.1 q.2.2.1 q.2.2.2 k
        | none => sAny (sFork cx ins st) (fun cx2 => sRun P L call y n cx2 pc lv st σ k)
def sExec (P : MP) (L N : Nat) : Nat → SCx → Nat → List SA → List MC → SK → Bool
  | 0, _, _, _, _, _ => false
  | d + 1, cx, y, as, σ, k => sRun P L (sExec P L N d) y N cx 0 (sArgs 0 as) [] σ k
where sArgs : Nat → List SA → SLv
  | _, [] => []
  | i, v :: vs => (i, v) :: sArgs (if sCat v = 2 then i + 2 else i + 1) vs
