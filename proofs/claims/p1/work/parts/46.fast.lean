/-! THE FAST MACHINE: the symbolic machine over natural numbers, written for the kernel: numbers are counted at once, cells lie in a tree of seven levels, instructions have their operands resolved -/
/-- a value: an int, a ref (0: null, k + 1: ref k), an int of the script, a long, an int of the script as a long -/
abbrev FV : Type := Nat ⊕ Nat ⊕ Nat ⊕ Nat ⊕ Nat
abbrev FL : Type := List (Nat × FV)
/-- an array: its type's number, its length, what was put in; an object -/
abbrev FC : Type := (Nat × FV × FL) ⊕ (Nat × List FV)
def TT : Nat → Type
  | 0 => Option FC
  | d + 1 => TT d × TT d
abbrev FK : Type := SCx → Option FV → TT 7 → Nat → Bool
abbrev FN : Type := SCx → List Instr → FL → List FV → TT 7 → Nat → FK → Bool
abbrev FCl : Type := SCx → Nat → List FV → TT 7 → Nat → FK → Bool
abbrev FAl : Type := Nat → FB → FCl → FN → SCx → List Instr → List Instr → FL → List FV → TT 7 → Nat → FK → Bool
noncomputable def fIf {α : Type} (b : Bool) (x z : α) : α := Bool.rec (motive := fun _ => α) z x b
noncomputable def fE (x : FV) (kI kA kS kL kT : Nat → Bool) : Bool := Sum.rec (motive := fun _ => Bool) kI (fun x1 => Sum.rec (motive := fun _ => Bool) kA (fun x2 => Sum.rec (motive := fun _ => Bool) kS (fun x3 => Sum.rec (motive := fun _ => Bool) kL kT x3) x2) x1) x
noncomputable def fCat (x : FV) : Nat := Sum.rec (motive := fun _ => Nat) (fun _ => 1) (fun x1 => Sum.rec (motive := fun _ => Nat) (fun _ => 1) (fun x2 => Sum.rec (motive := fun _ => Nat) (fun _ => 1) (fun _ => 2) x2) x1) x
def fNo (_ : Nat) : Bool := false
def fYes (_ : Nat) : Bool := true
noncomputable def fF (n : Nat) (k : Nat → Bool) : Bool := Nat.rec (motive := fun _ => Bool) (k 0) (fun m _ => k (Nat.succ m)) n
noncomputable def fLs {α : Type} (l : List α) (s : α → List α → Bool) : Bool := List.rec (motive := fun _ => Bool) false (fun a r _ => s a r) l
noncomputable def fNil {α : Type} (l : List α) (b : Bool) : Bool := List.rec (motive := fun _ => Bool) b (fun _ _ _ => false) l
noncomputable def fLd (lv : FL) (i : Nat) (k : FV → Bool) : Bool := List.rec (motive := fun _ => Bool) false (fun q _ ih => fIf (Nat.beq q.1 i) (k q.2) ih) lv
noncomputable def fGt (c : FL) (i : Nat) (d : FV) (k : FV → Bool) : Bool := List.rec (motive := fun _ => Bool) (k d) (fun q _ ih => fIf (Nat.beq q.1 i) (k q.2) ih) c
noncomputable def fAt (c : FL) (i : Nat) (d : FV) : FV := List.rec (motive := fun _ => FV) d (fun q _ ih => fIf (Nat.beq q.1 i) q.2 ih) c
noncomputable def fKp (i : Nat) (q : Nat × FV) : Bool := fE q.2 fYes fYes fYes (fun _ => fIf (Nat.beq (Nat.succ q.1) i) false true) (fun _ => fIf (Nat.beq (Nat.succ q.1) i) false true)
noncomputable def fK1 (i : Nat) (q : Nat × FV) : Bool := fIf (Nat.beq q.1 i) false (fKp i q)
noncomputable def fK2 (i : Nat) (q : Nat × FV) : Bool := fIf (Nat.beq q.1 i) false (fIf (Nat.beq q.1 (Nat.succ i)) false (fKp i q))
noncomputable def fFl (p : Nat × FV → Bool) (lv : FL) : FL := List.rec (motive := fun _ => FL) [] (fun q _ ih => fIf (p q) (q :: ih) ih) lv
noncomputable def fSt1 (lv : FL) (i : Nat) (x : FV) : FL := (i, x) :: fFl (fK1 i) lv
noncomputable def fSt2 (lv : FL) (i : Nat) (x : FV) : FL := (i, x) :: fFl (fK2 i) lv
noncomputable def fTg (d : Nat) : TT d → Nat → (FC → Bool) → Bool := Nat.rec (motive := fun d => TT d → Nat → (FC → Bool) → Bool) (fun o _ K => Option.rec (motive := fun _ => Bool) false K (o : Option FC)) (fun d ih p k K => fIf (Nat.beq (Nat.mod k 2) 0) (ih (p : TT d × TT d).1 (Nat.div k 2) K) (ih (p : TT d × TT d).2 (Nat.div k 2) K)) d
noncomputable def fTp (d : Nat) : TT d → Nat → FC → TT d := Nat.rec (motive := fun d => TT d → Nat → FC → TT d) (fun _ _ e => (some e : Option FC)) (fun d ih p k e => fIf (Nat.beq (Nat.mod k 2) 0) ((ih (p : TT d × TT d).1 (Nat.div k 2) e, (p : TT d × TT d).2) : TT d × TT d) ((p : TT d × TT d).1, ih (p : TT d × TT d).2 (Nat.div k 2) e)) d
noncomputable def fT0 (d : Nat) : TT d := Nat.rec (motive := fun d => TT d) (none : Option FC) (fun d ih => ((ih, ih) : TT d × TT d)) d
noncomputable def fNth {α : Type} (l : List α) (i : Nat) (K : α → Bool) : Bool := List.rec (motive := fun _ => Nat → Bool) (fun _ => false) (fun a _ ih i => Nat.rec (motive := fun _ => Bool) (K a) (fun j _ => ih j) i) l i
noncomputable def fSet (l : List FV) (i : Nat) (x : FV) : List FV := List.rec (motive := fun _ => Nat → List FV) (fun _ => []) (fun a r ih i => Nat.rec (motive := fun _ => List FV) (x :: r) (fun j _ => a :: ih j) i) l i
noncomputable def fLen {α : Type} (l : List α) : Nat := List.rec (motive := fun _ => Nat) 0 (fun _ _ ih => Nat.succ ih) l
noncomputable def fSum (l : List FV) : Nat := List.rec (motive := fun _ => Nat) 0 (fun x _ ih => Nat.add (fCat x) ih) l
noncomputable def fBk (B : FB) (t : Nat) : List Instr := List.rec (motive := fun _ => List Instr) [] (fun q _ ih => fIf (Nat.beq q.1 t) q.2 ih) B
noncomputable def fIsI (x : FV) (b : Bool) : Bool := fE x (fun _ => b) fNo (fun _ => b) fNo fNo
noncomputable def fIsA (x : FV) (b : Bool) : Bool := fE x fNo (fun _ => b) fNo fNo fNo
noncomputable def fIsL (x : FV) (b : Bool) : Bool := fE x fNo fNo fNo (fun _ => b) (fun _ => b)
def fOfI (c : Int) : Nat := (c % 4294967296).toNat
def fOfL (c : Int) : Nat := (c % 18446744073709551616).toNat
def fTi (n : Nat) : Int := (((n + 2147483648) % 4294967296 : Nat) : Int) - 2147483648
def fTl (n : Nat) : Int := (((n + 9223372036854775808) % 18446744073709551616 : Nat) : Int) - 9223372036854775808
def fSym (cx : SCx) (j : Nat) (again : SCx → Bool) (K : Nat → Bool) : Bool := match cx[j]? with
  | some p => if p.1 = p.2 then K (fOfI p.1) else sAny (sEnum cx j) again
  | none => false
/-- an int's number -/
noncomputable def fNum (cx : SCx) (x : FV) (again : SCx → Bool) (K : Nat → Bool) : Bool := fE x K fNo (fun j => fSym cx j again K) fNo fNo
noncomputable def fCell (T : TT 7) (x : FV) (K : Nat → FC → Bool) : Bool := fE x fNo (fun n => fIf (Nat.ble 2 n) (fIf (Nat.ble n 129) (fTg 7 T (Nat.sub n 2) (K (Nat.sub n 2))) false) false) fNo fNo fNo
noncomputable def fOb (e : FC) (K : Nat → List FV → Bool) : Bool := Sum.rec (motive := fun _ => Bool) (fun _ => false) (fun o => K o.1 o.2) e
noncomputable def fAr (e : FC) (K : Nat → FV → FL → Bool) : Bool := Sum.rec (motive := fun _ => Bool) (fun a => K a.1 a.2.1 a.2.2) (fun _ => false) e
def fLow (cx : SCx) (j m : Nat) (b : Bool) : Bool := match cx[j]? with
  | some p => if (m : Int) < p.1 then b else false
  | none => false
/-- m is a place of an array of that length -/
noncomputable def fInB (cx : SCx) (m : Nat) (len : FV) (b : Bool) : Bool := fE len (fun n => fIf (Nat.ble (Nat.succ m) n) (fIf (Nat.ble n 1000000) b false) false) fNo (fun j => fLow cx j m b) fNo fNo
def fMay (cx : SCx) (j : Nat) (b : Bool) : Bool := match cx[j]? with
  | some p => if 0 ≤ p.1 ∧ p.2 ≤ 1000000 then b else false
  | none => false
/-- a length -/
noncomputable def fLng (cx : SCx) (len : FV) (b : Bool) : Bool := fE len (fun n => fIf (Nat.ble n 1000000) b false) fNo (fun j => fMay cx j b) fNo fNo
noncomputable def fFit (kd : Nat) (x : FV) (b : Bool) : Bool := fE x (fun n => fIf (Nat.beq kd 0) b (fIf (Nat.beq kd 2) (fIf (Nat.ble n 1) b false) false)) (fun _ => fIf (Nat.beq kd 3) b false) (fun _ => fIf (Nat.beq kd 0) b false) (fun _ => fIf (Nat.beq kd 1) b false) (fun _ => fIf (Nat.beq kd 1) b false)
noncomputable def fOff (n : Nat) : Nat := Nat.mod (Nat.add n 2147483648) 4294967296
noncomputable def fNot (b : Bool) : Bool := fIf b false true
noncomputable def fCmp (c : Jvm.ClassFile.Cond) (a b : Nat) : Bool := Jvm.ClassFile.Cond.rec (motive := fun _ => Bool) (Nat.beq a b) (fNot (Nat.beq a b)) (Nat.ble (Nat.succ a) b) (Nat.ble b a) (Nat.ble (Nat.succ b) a) (Nat.ble a b) c
def fBd (cx : SCx) (x : FV) : Option (Int × Int) := match x with
  | .inl n => some (fTi n, fTi n)
  | .inr (.inr (.inl j)) => cx[j]?
  | _ => none
def fBl (cx : SCx) (x : FV) : Option (Int × Int) := match x with
  | .inr (.inr (.inr (.inl n))) => some (fTl n, fTl n)
  | .inr (.inr (.inr (.inr j))) => cx[j]?
  | _ => none
def fSlow (c : Jvm.ClassFile.Cond) (A B : Option (Int × Int)) (yes no other : Bool) : Bool := match A with
  | some a => match B with
    | some b => match sTell c a b with
      | some true => yes
      | some false => no
      | none => other
    | none => false
  | none => false
def fVr (x : FV) : Option Nat := match x with
  | .inr (.inr (.inl j)) => some j
  | .inr (.inr (.inr (.inr j))) => some j
  | _ => none
/-- split the bounds of int i: below c, from c on -/
def fCut (cx : SCx) (i : Nat) (c : Int) : List SCx := match cx[i]? with
  | some p => if p.1 < c ∧ c ≤ p.2 then [cx.set i (p.1, c - 1), cx.set i (c, p.2)] else []
  | none => []
def fCc (cd : Jvm.ClassFile.Cond) (cx : SCx) (j : Nat) (c : Int) : List SCx := match cd with
  | .eq => sCut cx j c
  | .ne => sCut cx j c
  | .lt => fCut cx j c
  | .ge => fCut cx j c
  | .gt => fCut cx j (c + 1)
  | .le => fCut cx j (c + 1)
def fMir (cd : Jvm.ClassFile.Cond) : Jvm.ClassFile.Cond := match cd with
  | .eq => .eq
  | .ne => .ne
  | .lt => .gt
  | .ge => .le
  | .gt => .lt
  | .le => .ge
def fFk1 (cd : Jvm.ClassFile.Cond) (cx : SCx) (A : Option (Int × Int)) (y : FV) : List SCx := match A with
  | some p => if p.1 = p.2 then match fVr y with
      | some j => fCc cd cx j p.1
      | none => []
    else []
  | none => []
def fFk2 (cx : SCx) (y : FV) : List SCx := match fVr y with
  | some j => sEnum cx j
  | none => []
def fOr (l m : List SCx) : List SCx := match l with
  | [] => m
  | _ => l
def fFk (cd : Jvm.ClassFile.Cond) (cx : SCx) (A B : Option (Int × Int)) (a b : FV) : List SCx := fOr (fFk1 cd cx B a) (fOr (fFk1 (fMir cd) cx A b) (fOr (fFk2 cx b) (fFk2 cx a)))
def fSame (a b : FV) : Bool := match a with
  | .inr (.inr (.inl i)) => match b with
    | .inr (.inr (.inl j)) => Nat.beq i j
    | _ => false
  | _ => false
noncomputable def gBad : FAl := fun _ _ _ _ _ _ _ _ _ _ _ _ => false
noncomputable def gPush (x : FV) : FAl := fun _ _ _ go cx _ r lv st T N k => go cx r lv (x :: st) T N k
noncomputable def gIld (i : Nat) : FAl := fun _ _ _ go cx _ r lv st T N k => fLd lv i (fun x => fIsI x (go cx r lv (x :: st) T N k))
noncomputable def gAld (i : Nat) : FAl := fun _ _ _ go cx _ r lv st T N k => fLd lv i (fun x => fIsA x (go cx r lv (x :: st) T N k))
noncomputable def gLld (i : Nat) : FAl := fun _ _ _ go cx _ r lv st T N k => fLd lv i (fun x => fIsL x (go cx r lv (x :: st) T N k))
noncomputable def gIst (i : Nat) : FAl := fun _ _ _ go cx _ r lv st T N k => fLs st (fun x s => fIsI x (go cx r (fSt1 lv i x) s T N k))
noncomputable def gAst (i : Nat) : FAl := fun _ _ _ go cx _ r lv st T N k => fLs st (fun x s => fIsA x (go cx r (fSt1 lv i x) s T N k))
noncomputable def gLst (i : Nat) : FAl := fun _ _ _ go cx _ r lv st T N k => fLs st (fun x s => fIsL x (go cx r (fSt2 lv i x) s T N k))
noncomputable def gInc (i : Nat) (c : Int) : FAl := fun _ _ _ go cx w r lv st T N k => fLd lv i (fun x => fNum cx x (fun cx2 => go cx2 w lv st T N k) (fun m => fF (Nat.mod (Nat.add m c.toNat) 4294967296) (fun z => go cx r (fSt1 lv i (.inl z)) st T N k)))
noncomputable def gBin (op : Nat → Nat → Nat) : FAl := fun _ _ _ go cx w r lv st T N k => fLs st (fun b s1 => fLs s1 (fun a s => fNum cx a (fun cx2 => go cx2 w lv st T N k) (fun m => fNum cx b (fun cx2 => go cx2 w lv st T N k) (fun n => fF (op m n) (fun z => go cx r lv (.inl z :: s) T N k)))))
noncomputable def oAdd (m n : Nat) : Nat := Nat.mod (Nat.add m n) 4294967296
noncomputable def oSub (m n : Nat) : Nat := Nat.mod (Nat.add m (Nat.sub 4294967296 (Nat.mod n 4294967296))) 4294967296
noncomputable def oMul (m n : Nat) : Nat := Nat.mod (Nat.mul m n) 4294967296
def oOf (x : Int32) : Nat := fOfI x.toInt
/-- 0 + an int of the script is that int -/
noncomputable def gAdd : FAl := fun L B call go cx w r lv st T N k => fLs st (fun b s1 => fLs s1 (fun a s => fE a (fun m => fE b (fun n => fF (oAdd m n) (fun z => go cx r lv (.inl z :: s) T N k)) fNo (fun _ => fIf (Nat.beq m 0) (go cx r lv (b :: s) T N k) (gBin oAdd L B call go cx w r lv st T N k)) fNo fNo) fNo (fun _ => fE b (fun n => fIf (Nat.beq n 0) (go cx r lv (a :: s) T N k) (gBin oAdd L B call go cx w r lv st T N k)) fNo (fun _ => gBin oAdd L B call go cx w r lv st T N k) fNo fNo) fNo fNo))
/-- the lowest six bits of the script's first int are its int 6 -/
noncomputable def gAnd : FAl := fun L B call go cx w r lv st T N k => fLs st (fun b s1 => fLs s1 (fun a s => fE a (fun _ => gBin (fun m n => oOf (Int32.ofNat m &&& Int32.ofNat n)) L B call go cx w r lv st T N k) fNo (fun j => fE b (fun n => fIf (Nat.beq j 0) (fIf (Nat.beq n 63) (go cx r lv (.inr (.inr (.inl 6)) :: s) T N k) false) false) fNo fNo fNo fNo) fNo fNo))
noncomputable def gDiv (op : Nat → Nat → Nat) : FAl := fun _ _ _ go cx w r lv st T N k => fLs st (fun b s1 => fLs s1 (fun a s => fNum cx a (fun cx2 => go cx2 w lv st T N k) (fun m => fNum cx b (fun cx2 => go cx2 w lv st T N k) (fun n => fIf (Nat.beq (Nat.mod n 4294967296) 0) false (fF (op m n) (fun z => go cx r lv (.inl z :: s) T N k))))))
noncomputable def gNeg : FAl := fun _ _ _ go cx w r lv st T N k => fLs st (fun b s => fNum cx b (fun cx2 => go cx2 w lv st T N k) (fun n => fF (oOf (-(Int32.ofNat n))) (fun z => go cx r lv (.inl z :: s) T N k)))
noncomputable def gI2l : FAl := fun _ _ _ go cx _ r lv st T N k => fLs st (fun b s => fE b (fun n => fF (fOfL (fTi n)) (fun z => go cx r lv (.inr (.inr (.inr (.inl z))) :: s) T N k)) fNo (fun j => go cx r lv (.inr (.inr (.inr (.inr j))) :: s) T N k) fNo fNo)
noncomputable def gLadd : FAl := fun _ _ _ go cx _ r lv st T N k => fLs st (fun b s1 => fLs s1 (fun a s => fE a fNo fNo fNo (fun m => fE b fNo fNo fNo (fun n => fF (Nat.mod (Nat.add m n) 18446744073709551616) (fun z => go cx r lv (.inr (.inr (.inr (.inl z))) :: s) T N k)) fNo) fNo))
def fLcm (A B : Option (Int × Int)) (yes : Int32 → Bool) (other : Bool) : Bool := match A with
  | some a => match B with
    | some b => match sLcmp a b with
      | some x => yes x
      | none => other
    | none => false
  | none => false
noncomputable def gLcmp : FAl := fun _ _ _ go cx w r lv st T N k => fLs st (fun b s1 => fLs s1 (fun a s => fLcm (fBl cx a) (fBl cx b) (fun x => fF (oOf x) (fun z => go cx r lv (.inl z :: s) T N k)) (sAny (fFk .eq cx (fBl cx a) (fBl cx b) a b) (fun cx2 => go cx2 w lv st T N k))))
def fCd (c : Nat) : Jvm.ClassFile.Cond := match c with
  | 0 => .eq
  | 1 => .ne
  | 2 => .lt
  | 3 => .ge
  | 4 => .gt
  | _ => .le
/-- lcmp and the test behind it, in one -/
noncomputable def gLif (t c : Nat) : FAl := fun _ B _ go cx w r lv st T N k => fLs st (fun b s1 => fLs s1 (fun a s => fSlow (fCd c) (fBl cx a) (fBl cx b) (go cx (fBk B t) lv s T N k) (go cx r lv s T N k) (sAny (fFk (fCd c) cx (fBl cx a) (fBl cx b) a b) (fun cx2 => go cx2 w lv st T N k))))
noncomputable def gDup : FAl := fun _ _ _ go cx _ r lv st T N k => fLs st (fun x s => fIf (Nat.beq (fCat x) 1) (go cx r lv (x :: x :: s) T N k) false)
noncomputable def gPop : FAl := fun _ _ _ go cx _ r lv st T N k => fLs st (fun x s => fIf (Nat.beq (fCat x) 1) (go cx r lv s T N k) false)
noncomputable def gDup2 : FAl := fun _ _ _ go cx _ r lv st T N k => fLs st (fun x s1 => fLs s1 (fun y s => fIf (Nat.beq (fCat x) 1) (fIf (Nat.beq (fCat y) 1) (go cx r lv (x :: y :: x :: y :: s) T N k) false) false))
noncomputable def gGo (t : Int) : FAl := fun _ B _ go cx _ _ lv st T N k => go cx (fBk B t.toNat) lv st T N k
noncomputable def gIfc (c : Jvm.ClassFile.Cond) (t : Int) : FAl := fun _ B _ go cx w r lv st T N k => fLs st (fun x s => fE x (fun n => fIf (fCmp c (fOff n) 2147483648) (go cx (fBk B t.toNat) lv s T N k) (go cx r lv s T N k)) fNo (fun j => fSlow c cx[j]? (some (0, 0)) (go cx (fBk B t.toNat) lv s T N k) (go cx r lv s T N k) (sAny (fCc c cx j 0) (fun cx2 => go cx2 w lv st T N k))) fNo fNo)
noncomputable def fIcs (c : Jvm.ClassFile.Cond) (cx : SCx) (a b : FV) (yes no : Bool) (again : SCx → Bool) : Bool := fSlow c (fBd cx a) (fBd cx b) yes no (fIf (fSame a b) (fIf (sSame c) yes no) (sAny (fFk c cx (fBd cx a) (fBd cx b) a b) again))
noncomputable def gIcmp (c : Jvm.ClassFile.Cond) (t : Int) : FAl := fun _ B _ go cx w r lv st T N k => fLs st (fun b s1 => fLs s1 (fun a s => fE b (fun n => fE a (fun m => fIf (fCmp c (fOff m) (fOff n)) (go cx (fBk B t.toNat) lv s T N k) (go cx r lv s T N k)) fNo (fun _ => fIcs c cx a b (go cx (fBk B t.toNat) lv s T N k) (go cx r lv s T N k) (fun cx2 => go cx2 w lv st T N k)) fNo fNo) fNo (fun _ => fIcs c cx a b (go cx (fBk B t.toNat) lv s T N k) (go cx r lv s T N k) (fun cx2 => go cx2 w lv st T N k)) fNo fNo))
noncomputable def gNull (yes : Bool) (t : Int) : FAl := fun _ B _ go cx _ r lv st T N k => fLs st (fun x s => fE x fNo (fun n => fIf (Nat.beq n 0) (fIf yes (go cx (fBk B t.toNat) lv s T N k) (go cx r lv s T N k)) (fIf yes (go cx r lv s T N k) (go cx (fBk B t.toNat) lv s T N k))) fNo fNo fNo)
def fSw (z d lo hi : Int) (ts : Array Int) (K : Nat → Bool) : Bool := if z < lo ∨ hi < z then K d.toNat else match ts[(z - lo).toNat]? with
  | some t => K t.toNat
  | none => false
def fTs (cx : SCx) (j : Nat) (d lo hi : Int) (ts : Array Int) (K : Nat → Bool) (again : SCx → Bool) : Bool := match cx[j]? with
  | some p => if p.2 < lo ∨ hi < p.1 then K d.toNat else if p.1 = p.2 then fSw p.1 d lo hi ts K else sAny (if p.1 < lo ∧ lo ≤ p.2 then sCut cx j lo else if p.1 ≤ hi ∧ hi < p.2 then sCut cx j hi else sEnum cx j) again
  | none => false
noncomputable def gTsw (d lo hi : Int) (ts : Array Int) : FAl := fun _ B _ go cx w _ lv st T N k => fLs st (fun x s => fE x (fun n => fSw (fTi n) d lo hi ts (fun t => go cx (fBk B t) lv s T N k)) fNo (fun j => fTs cx j d lo hi ts (fun t => go cx (fBk B t) lv s T N k) (fun cx2 => go cx2 w lv st T N k)) fNo fNo)
noncomputable def gGetf (m : Nat) : FAl := fun _ _ _ go cx _ r lv st T N k => fLs st (fun x s => fCell T x (fun _ e => fOb e (fun c fs => fIf (Nat.beq c (Nat.div m 1000)) (fNth fs (Nat.mod m 1000) (fun y => go cx r lv (y :: s) T N k)) false)))
noncomputable def gPutf (m : Nat) : FAl := fun _ _ _ go cx _ r lv st T N k => fLs st (fun y s1 => fLs s1 (fun x s => fCell T x (fun n e => fOb e (fun c fs => fIf (Nat.beq c (Nat.mod (Nat.div m 1000) 1000)) (fFit (Nat.div m 1000000) y (fNth fs (Nat.mod m 1000) (fun _ => go cx r lv s (fTp 7 T n (.inr (c, fSet fs (Nat.mod m 1000) y))) N k))) false))))
noncomputable def gIald : FAl := fun L _ _ go cx w r lv st T N k => fLs st (fun i s1 => fLs s1 (fun a s => fE a fNo (fun n => fIf (Nat.beq n 1) (fNum cx i (fun cx2 => go cx2 w lv st T N k) (fun m => fF m (fun m2 => fIf (Nat.ble (Nat.succ m2) L) (go cx r lv (.inr (.inr (.inl m2)) :: s) T N k) false))) (fCell T a (fun _ e => fAr e (fun t len c => fIf (Nat.beq t 0) (fNum cx i (fun cx2 => go cx2 w lv st T N k) (fun m => fInB cx m len (fGt c m (.inl 0) (fun y => fIsI y (go cx r lv (y :: s) T N k))))) false)))) fNo fNo fNo))
noncomputable def gBald : FAl := fun _ _ _ go cx w r lv st T N k => fLs st (fun i s1 => fLs s1 (fun a s => fCell T a (fun _ e => fAr e (fun t len c => fIf (Nat.beq t 2) (fNum cx i (fun cx2 => go cx2 w lv st T N k) (fun m => fInB cx m len (fGt c m (.inl 0) (fun y => fIsI y (go cx r lv (y :: s) T N k))))) false))))
noncomputable def gAald : FAl := fun _ _ _ go cx w r lv st T N k => fLs st (fun i s1 => fLs s1 (fun a s => fCell T a (fun _ e => fAr e (fun t len c => fIf (Nat.ble 3 t) (fIf (Nat.ble t 9) (fNum cx i (fun cx2 => go cx2 w lv st T N k) (fun m => fInB cx m len (fGt c m (.inr (.inl 0)) (fun y => fIsA y (go cx r lv (y :: s) T N k))))) false) false))))
noncomputable def gIast : FAl := fun _ _ _ go cx w r lv st T N k => fLs st (fun y s2 => fLs s2 (fun i s1 => fLs s1 (fun a s => fIsI y (fCell T a (fun n e => fAr e (fun t len c => fIf (Nat.beq t 0) (fNum cx i (fun cx2 => go cx2 w lv st T N k) (fun m => fInB cx m len (fF m (fun m2 => go cx r lv s (fTp 7 T n (.inl (0, len, (m2, y) :: c))) N k)))) false))))))
noncomputable def gBast : FAl := fun _ _ _ go cx w r lv st T N k => fLs st (fun y s2 => fLs s2 (fun i s1 => fLs s1 (fun a s => fE y (fun q => fIf (Nat.ble q 1) (fCell T a (fun n e => fAr e (fun t len c => fIf (Nat.beq t 2) (fNum cx i (fun cx2 => go cx2 w lv st T N k) (fun m => fInB cx m len (fF m (fun m2 => go cx r lv s (fTp 7 T n (.inl (2, len, (m2, y) :: c))) N k)))) false))) false) fNo fNo fNo fNo)))
noncomputable def fEl (t : Nat) (e : FC) : Bool := Sum.rec (motive := fun _ => Bool) (fun a => fIf (Nat.beq t 3) (Nat.beq a.1 0) false) (fun o => pgElem t (.inr (o.1, []))) e
noncomputable def gAast : FAl := fun _ _ _ go cx w r lv st T N k => fLs st (fun y s2 => fLs s2 (fun i s1 => fLs s1 (fun a s => fCell T a (fun n e => fAr e (fun t len c => fIf (Nat.ble 3 t) (fIf (Nat.ble t 9) (fNum cx i (fun cx2 => go cx2 w lv st T N k) (fun m => fInB cx m len (fE y fNo (fun q => fF m (fun m2 => fIf (Nat.beq q 0) (go cx r lv s (fTp 7 T n (.inl (t, len, (m2, y) :: c))) N k) (fCell T y (fun _ e2 => fIf (fEl t e2) (go cx r lv s (fTp 7 T n (.inl (t, len, (m2, y) :: c))) N k) false)))) fNo fNo fNo))) false) false)))))
noncomputable def gAlen : FAl := fun L _ _ go cx _ r lv st T N k => fLs st (fun x s => fE x fNo (fun n => fIf (Nat.beq n 1) (go cx r lv (.inl L :: s) T N k) (fCell T x (fun _ e => fAr e (fun t len _ => fIf (Nat.ble t 9) (fLng cx len (go cx r lv (len :: s) T N k)) false)))) fNo fNo fNo)
noncomputable def gNewA (t : Nat) : FAl := fun _ _ _ go cx _ r lv st T N k => fLs st (fun x s => fLng cx x (fIf (Nat.ble (Nat.succ N) 128) (go cx r lv (.inr (.inl (Nat.succ (Nat.succ N))) :: s) (fTp 7 T N (.inl (t, x, []))) (Nat.succ N) k) false))
noncomputable def fAty (t : Jvm.ClassFile.ArrayType) : FAl := match t with
  | .int => gNewA 0
  | .long => gNewA 1
  | .boolean => gNewA 2
  | _ => gBad
def fOfV (x : Value) : FV := match x with
  | .int _ => .inl 0
  | .long _ => .inr (.inr (.inr (.inl 0)))
  | _ => .inr (.inl 0)
noncomputable def gNewO (c : Nat) : FAl := fun _ _ _ go cx _ r lv st T N k => fIf (Nat.ble (Nat.succ N) 128) (go cx r lv (.inr (.inl (Nat.succ (Nat.succ N))) :: st) (fTp 7 T N (.inr (c, (pgBl c).map fOfV))) (Nat.succ N) k) false
noncomputable def gOini : FAl := fun _ _ _ go cx _ r lv st T N k => fLs st (fun x s => fE x fNo (fun n => fIf (Nat.beq n 0) false (fIf (Nat.ble (fLen s) 4) (go cx r lv s T N k) false)) fNo fNo fNo)
noncomputable def fCp (c : FL) (sp dp n : Nat) (c2 : FL) : FL := Nat.rec (motive := fun _ => FL) c2 (fun k ih => (Nat.add dp k, fAt c (Nat.add sp k) (.inl 0)) :: ih) n
noncomputable def gCopy : FAl := fun _ _ _ go cx w r lv st T N k => fLs st (fun z s4 => fLs s4 (fun y s3 => fLs s3 (fun a1 s2 => fLs s2 (fun x s1 => fLs s1 (fun a0 s => fIf (Nat.ble (fLen s) 4) (fNum cx z (fun cx2 => go cx2 w lv st T N k) (fun n => fNum cx y (fun cx2 => go cx2 w lv st T N k) (fun dp => fNum cx x (fun cx2 => go cx2 w lv st T N k) (fun sp => fCell T a0 (fun _ e0 => fAr e0 (fun t0 len0 c0 => fIf (Nat.beq t0 0) (fE len0 (fun l0 => fIf (Nat.ble (Nat.add sp n) l0) (fIf (Nat.ble l0 1000000) (fCell T a1 (fun q e1 => fAr e1 (fun t1 len1 c1 => fIf (Nat.beq t1 0) (fE len1 (fun l1 => fIf (Nat.ble (Nat.add dp n) l1) (fIf (Nat.ble l1 1000000) (go cx r lv s (fTp 7 T q (.inl (0, len1, fCp c0 sp dp n c1))) N k) false) false) fNo fNo fNo fNo) false))) false) false) fNo fNo fNo fNo) false)))))) false)))))
noncomputable def gMin : FAl := fun _ _ _ go cx w r lv st T N k => fLs st (fun b s1 => fLs s1 (fun a s => fNum cx a (fun cx2 => go cx2 w lv st T N k) (fun m => fNum cx b (fun cx2 => go cx2 w lv st T N k) (fun n => fIf (Nat.ble (fLen s) 4) (fIf (fCmp .lt (fOff n) (fOff m)) (go cx r lv (.inl n :: s) T N k) (go cx r lv (.inl m :: s) T N k)) false))))
noncomputable def fTk (n : Nat) (st as : List FV) (K : List FV → List FV → Bool) : Bool := Nat.rec (motive := fun _ => List FV → List FV → Bool) (fun st as => K as st) (fun _ ih st as => fLs st (fun x s => ih s (x :: as))) n st as
noncomputable def fApp (o : Option FV) (s : List FV) : List FV := Option.rec (motive := fun _ => List FV) s (fun x => x :: s) o
noncomputable def gCall (y2 n ml : Nat) : FAl := fun _ _ call go cx _ r lv st T N k => fTk n st [] (fun as s => fIf (Nat.ble (fLen s) 4) (fIf (Nat.ble (fSum as) ml) (call cx y2 as T N (fun cx2 o T2 N2 => go cx2 r lv (fApp o s) T2 N2 k)) false) false)
noncomputable def gVirt (y2 n ml cl : Nat) : FAl := fun _ _ call go cx _ r lv st T N k => fTk n st [] (fun as s => fIf (Nat.ble (fLen s) 4) (fIf (Nat.ble (fSum as) ml) (fLs as (fun x _ => fCell T x (fun _ e => fOb e (fun c _ => fIf (Nat.beq c cl) (call cx y2 as T N (fun cx2 o T2 N2 => go cx2 r lv (fApp o s) T2 N2 k)) false)))) false) false)
noncomputable def gSpec (y2 n ml : Nat) : FAl := fun _ _ call go cx _ r lv st T N k => fTk n st [] (fun as s => fIf (Nat.ble (fLen s) 4) (fIf (Nat.ble (fSum as) ml) (fLs as (fun x _ => fE x fNo (fun q => fIf (Nat.beq q 0) false (call cx y2 as T N (fun cx2 o T2 N2 => go cx2 r lv (fApp o s) T2 N2 k))) fNo fNo fNo)) false) false)
noncomputable def gIret : FAl := fun _ _ _ _ cx _ _ _ st T N k => fLs st (fun x s => fNil s (fIsI x (k cx (some x) T N)))
noncomputable def gZret : FAl := fun _ _ _ _ cx _ _ _ st T N k => fLs st (fun x s => fNil s (fE x (fun n => fIf (Nat.ble n 1) (k cx (some x) T N) false) fNo fNo fNo fNo))
noncomputable def gLret : FAl := fun _ _ _ _ cx _ _ _ st T N k => fLs st (fun x s => fNil s (fIsL x (k cx (some x) T N)))
noncomputable def gAret : FAl := fun _ _ _ _ cx _ _ _ st T N k => fLs st (fun x s => fNil s (fIsA x (k cx (some x) T N)))
noncomputable def gVret : FAl := fun _ _ _ _ cx _ _ _ st T N k => fNil st (k cx none T N)
