/-! which instruction of the program a resolved one stands for -/
def fLn (ins : Instr) : Nat := match ins with
  | .aload_n _ | .iload_n _ | .lload_n _ | .iconst _ | .lconst _ | .aconst_null | .istore_n _ | .astore_n _ | .lstore_n _ | .iadd | .isub | .imul | .iand | .ior | .ishl | .ishr | .iushr | .idiv | .irem | .ineg | .i2l | .l2i | .ladd | .lsub | .lmul | .lcmp | .dup | .pop | .dup2 | .iaload | .laload | .baload | .aaload | .iastore | .lastore | .bastore | .aastore | .arraylength => 1
  | .aload _ | .iload _ | .lload _ | .bipush _ | .ldc _ | .istore _ | .astore _ | .lstore _ | .newarray _ => 2
  | _ => 3
def fKd (kd : Nat) (ty : FieldType) : Bool := match ty with
  | .int => Nat.beq kd 0
  | .long => Nat.beq kd 1
  | .boolean => Nat.beq kd 2
  | .object _ => Nat.beq kd 3
  | .array _ => Nat.beq kd 3
  | _ => false
def fCs (P : MP) (y y2 ml : Nat) : Bool := decide ((mpInfo P y2).2.1 + 1 ≤ (mpInfo P y).2.1 ∧ 8 + ((mpInfo P y2).1 + 11) + (mpInfo P y2).2.2.1 ≤ (mpInfo P y).2.2.1 ∧ ml = (mpInfo P y2).1)
def fStep (P : MP) (y i want room : Nat) : Bool := match mpInv P y i with
  | some q => decide (q.1 = want ∧ 1 ≤ (mpInfo P y).2.1 ∧ room ≤ (mpInfo P y).2.2.1)
  | none => false
def chkC (f : Instr) : MP → Nat → Nat → Instr → Bool := match f with
  | .ldc n => fun P y pc ins => match ins with
    | .iconst k => decide (Int32.ofInt k = Int32.ofNat n)
    | .bipush k => decide ((Int8.ofInt k).toInt32 = Int32.ofNat n)
    | .sipush k => decide ((Int16.ofInt k).toInt32 = Int32.ofNat n)
    | .ldc i => decide (mpLdc P y i = some (Int32.ofNat n))
    | _ => false
  | .ldc2_w n => fun P y pc ins => match ins with
    | .lconst k => decide (Int64.ofNat (k : Nat) = Int64.ofNat n)
    | .ldc2_w i => decide (mpLdc2 P y i = some (Int64.ofNat n))
    | _ => false
  | .aconst_null => fun P y pc ins => match ins with
    | .aconst_null => true
    | _ => false
  | .iload i => fun P y pc ins => match ins with
    | .iload_n k => decide ((k : Nat) = i)
    | .iload j => decide (j = i)
    | _ => false
  | .aload i => fun P y pc ins => match ins with
    | .aload_n k => decide ((k : Nat) = i)
    | .aload j => decide (j = i)
    | _ => false
  | .lload i => fun P y pc ins => match ins with
    | .lload_n k => decide ((k : Nat) = i)
    | .lload j => decide (j = i)
    | _ => false
  | .istore i => fun P y pc ins => match ins with
    | .istore_n k => decide ((k : Nat) = i ∧ i < (mpInfo P y).1)
    | .istore j => decide (j = i ∧ i < (mpInfo P y).1)
    | _ => false
  | .astore i => fun P y pc ins => match ins with
    | .astore_n k => decide ((k : Nat) = i ∧ i < (mpInfo P y).1)
    | .astore j => decide (j = i ∧ i < (mpInfo P y).1)
    | _ => false
  | .lstore i => fun P y pc ins => match ins with
    | .lstore_n k => decide ((k : Nat) = i ∧ i + 1 < (mpInfo P y).1)
    | .lstore j => decide (j = i ∧ i + 1 < (mpInfo P y).1)
    | _ => false
  | .iinc i c => fun P y pc ins => match ins with
    | .iinc j k => decide (j = i ∧ Int32.ofInt k = Int32.ofNat c.toNat ∧ i < (mpInfo P y).1)
    | _ => false
  | .iadd => fun P y pc ins => match ins with
    | .iadd => true
    | _ => false
  | .isub => fun P y pc ins => match ins with
    | .isub => true
    | _ => false
  | .imul => fun P y pc ins => match ins with
    | .imul => true
    | _ => false
  | .iand => fun P y pc ins => match ins with
    | .iand => true
    | _ => false
  | .ior => fun P y pc ins => match ins with
    | .ior => true
    | _ => false
  | .ishl => fun P y pc ins => match ins with
    | .ishl => true
    | _ => false
  | .ishr => fun P y pc ins => match ins with
    | .ishr => true
    | _ => false
  | .idiv => fun P y pc ins => match ins with
    | .idiv => true
    | _ => false
  | .irem => fun P y pc ins => match ins with
    | .irem => true
    | _ => false
  | .ineg => fun P y pc ins => match ins with
    | .ineg => true
    | _ => false
  | .i2l => fun P y pc ins => match ins with
    | .i2l => true
    | _ => false
  | .ladd => fun P y pc ins => match ins with
    | .ladd => true
    | _ => false
  | .lcmp => fun P y pc ins => match ins with
    | .lcmp => true
    | _ => false
  | .invokeinterface t c => fun P y pc ins => match ins with
    | .lcmp => match mpCode P y (pc + 1) with
      | some (.ifCond d off) => decide (d = fCd c ∧ mTo (pc + 1) off = some t)
      | _ => false
    | _ => false
  | .dup => fun P y pc ins => match ins with
    | .dup => true
    | _ => false
  | .pop => fun P y pc ins => match ins with
    | .pop => true
    | _ => false
  | .dup2 => fun P y pc ins => match ins with
    | .dup2 => true
    | _ => false
  | .goto t => fun P y pc ins => match ins with
    | .goto off => decide (mTo pc off = some t.toNat)
    | _ => false
  | .ifCond c t => fun P y pc ins => match ins with
    | .ifCond d off => decide (d = c ∧ mTo pc off = some t.toNat)
    | _ => false
  | .if_icmp c t => fun P y pc ins => match ins with
    | .if_icmp d off => decide (d = c ∧ mTo pc off = some t.toNat)
    | _ => false
  | .ifnull t => fun P y pc ins => match ins with
    | .ifnull off => decide (mTo pc off = some t.toNat)
    | _ => false
  | .ifnonnull t => fun P y pc ins => match ins with
    | .ifnonnull off => decide (mTo pc off = some t.toNat)
    | _ => false
  | .tableswitch d lo hi ts => fun P y pc ins => match ins with
    | .tableswitch d2 lo2 hi2 offs => decide (lo2 = lo ∧ hi2 = hi ∧ mTo pc d2 = some d.toNat ∧ offs.toList.map (mTo pc) = ts.toList.map (fun t => some t.toNat))
    | _ => false
  | .getfield m => fun P y pc ins => match ins with
    | .getfield i => decide (mpFld P y i = some (m / 1000, m % 1000))
    | _ => false
  | .putfield m => fun P y pc ins => match ins with
    | .putfield i => decide (mpFld P y i = some (m / 1000 % 1000, m % 1000)) && (fKd (m / 1000000) (mpFty P (m / 1000 % 1000) (m % 1000)).1 && decide ((mpFty P (m / 1000 % 1000) (m % 1000)).2 = true → (mpInfo P y).2.2.2.2.1 = true ∧ (mpInfo P y).2.2.2.2.2 = m / 1000 % 1000))
    | _ => false
  | .iaload => fun P y pc ins => match ins with
    | .iaload => true
    | _ => false
  | .baload => fun P y pc ins => match ins with
    | .baload => true
    | _ => false
  | .aaload => fun P y pc ins => match ins with
    | .aaload => true
    | _ => false
  | .iastore => fun P y pc ins => match ins with
    | .iastore => true
    | _ => false
  | .bastore => fun P y pc ins => match ins with
    | .bastore => true
    | _ => false
  | .aastore => fun P y pc ins => match ins with
    | .aastore => true
    | _ => false
  | .arraylength => fun P y pc ins => match ins with
    | .arraylength => true
    | _ => false
  | .newarray t => fun P y pc ins => match ins with
    | .newarray u => decide (u = t)
    | _ => false
  | .anewarray k => fun P y pc ins => match ins with
    | .anewarray i => decide (mpArr P y i = some k ∧ 3 ≤ k)
    | _ => false
  | .new c => fun P y pc ins => match ins with
    | .new i => decide (mpNew P y i = some (c, pgBl c) ∧ (pgBl c).map (fun x => match x with
        | .int _ => Value.int 0
        | .long _ => .long 0
        | _ => .null) = pgBl c)
    | _ => false
  | .nop => fun P y pc ins => match ins with
    | .invokespecial i => fStep P y i 5 20
    | _ => false
  | .swap => fun P y pc ins => match ins with
    | .invokestatic i => fStep P y i 6 40
    | _ => false
  | .dup_x2 => fun P y pc ins => match ins with
    | .invokestatic i => fStep P y i 8 30
    | _ => false
  | .invokestatic m => fun P y pc ins => match ins with
    | .invokestatic i => decide (mpInv P y i = some (0, m / 65536, m / 256 % 256) ∨ mpInv P y i = some (4, m / 65536, m / 256 % 256)) && fCs P y (m / 65536) (m % 256)
    | _ => false
  | .invokespecial m => fun P y pc ins => match ins with
    | .invokespecial i => decide (mpInv P y i = some (2, m / 65536, m / 256 % 256) ∨ mpInv P y i = some (3, m / 65536, m / 256 % 256)) && fCs P y (m / 65536) (m % 256)
    | _ => false
  | .invokevirtual m => fun P y pc ins => match ins with
    | .invokevirtual i => decide (mpInv P y i = some (1, m / 16777216, m / 65536 % 256) ∧ (mpInfo P (m / 16777216)).2.2.2.2.2 = m % 256) && fCs P y (m / 16777216) (m / 256 % 256)
    | _ => false
  | .ireturn => fun P y pc ins => match ins with
    | .ireturn => decide ((mpInfo P y).2.2.2.1 = 1)
    | _ => false
  | .freturn => fun P y pc ins => match ins with
    | .ireturn => decide ((mpInfo P y).2.2.2.1 = 4)
    | _ => false
  | .lreturn => fun P y pc ins => match ins with
    | .lreturn => decide ((mpInfo P y).2.2.2.1 = 2)
    | _ => false
  | .areturn => fun P y pc ins => match ins with
    | .areturn => decide ((mpInfo P y).2.2.2.1 = 3)
    | _ => false
  | .return_ => fun P y pc ins => match ins with
    | .return_ => decide ((mpInfo P y).2.2.2.1 = 0)
    | _ => false
  | .athrow => fun P y pc ins => true
  | _ => fun P y pc ins => false
def chk (P : MP) (y pc : Nat) (f ins : Instr) : Bool := chkC f P y pc ins
def fJsr (f : Instr) : Option Int := match f with
  | .jsr t => some t
  | _ => none
def fLg (f ins : Instr) : Nat := match f with
  | .invokeinterface _ _ => 4
  | _ => fLn ins
def cor (P : MP) (y : Nat) : Nat → List Instr → Bool
  | _, [] => true
  | pc, f :: r => match fJsr f with
    | some t => decide (t.toNat = pc)
    | none => match mpCode P y pc with
      | some ins => chk P y pc f ins && cor P y (pc + fLg f ins) r
      | none => false
theorem cor_cons {P : MP} {y pc : Nat} {f : Instr} {r : List Instr} (h : cor P y pc (f :: r) = true) : (∃ t, f = .jsr t ∧ t.toNat = pc) ∨ (∃ ins, mpCode P y pc = some ins ∧ chk P y pc f ins = true ∧ cor P y (pc + fLg f ins) r = true) := by
  rw [cor] at h
  split at h
  · next t ht =>
    left
    refine ⟨t, ?_, by simpa using h⟩
    cases f <;> simp [fJsr] at ht
    rw [ht]
  · right
    split at h
    · next ins hins =>
      rw [Bool.and_eq_true] at h
      exact ⟨ins, hins, h.1, h.2⟩
    · cases h
