/-! THE SYMBOLIC MACHINE: the small machine over values some of which are ints of the script, known to lie between bounds; where a comparison can't be told, the bounds are split -/
/-- a value, or int i of the script (below 100), or that as a long (100 + i) -/
abbrev SA : Type := Value ⊕ Nat
abbrev SCx : Type := List (Int × Int)
abbrev SLv : Type := List (Nat × SA)
def sVal (xs : Nat → Int32) (a : SA) : Value := match a with
  | .inl v => v
  | .inr i => if i < 100 then .int (xs i) else .long (xs (i - 100)).toInt64
def sIn (cx : SCx) (xs : Nat → Int32) : Prop := ∀ (i : Nat) (p : Int × Int), cx[i]? = some p → p.1 ≤ (xs i).toInt ∧ (xs i).toInt ≤ p.2
def sCat (a : SA) : Nat := match a with
  | .inl v => v.category
  | .inr i => if i < 100 then 1 else 2
/-- its bounds, if it is an int -/
def sIv (cx : SCx) (a : SA) : Option (Int × Int) := match a with
  | .inl (.int x) => some (x.toInt, x.toInt)
  | .inr i => if i < 100 then cx[i]? else none
  | _ => none
/-- its bounds, if it is a long -/
def sLv (cx : SCx) (a : SA) : Option (Int × Int) := match a with
  | .inl (.long x) => some (x.toInt, x.toInt)
  | .inr i => if i < 100 then none else cx[i - 100]?
  | _ => none
/-- its value, if that is known -/
def sCon (cx : SCx) (a : SA) : Option Value := match a with
  | .inl v => some v
  | .inr i => if i < 100 then match cx[i]? with
    | some p => if p.1 = p.2 then some (.int (Int32.ofInt p.1)) else none
    | none => none
  else none
def sCons (cx : SCx) : List SA → Option (List Value)
  | [] => some []
  | a :: r => match sCon cx a with
    | some v => match sCons cx r with
      | some vs => some (v :: vs)
      | none => none
    | none => none
theorem sVal_cat (xs : Nat → Int32) (a : SA) : (sVal xs a).category = sCat a := by
  cases a with
  | inl w => rfl
  | inr i => simp only [sVal, sCat]; split <;> rfl
theorem sCon_ok {cx : SCx} {xs : Nat → Int32} (h : sIn cx xs) {a : SA} {v : Value} (hv : sCon cx a = some v) : sVal xs a = v := by
  cases a with
  | inl w => simp [sCon] at hv; exact hv
  | inr i =>
    simp only [sCon] at hv
    split at hv
    · next hi =>
      split at hv
      · next p hp =>
        split at hv
        · next he =>
          cases hv
          obtain ⟨h1, h2⟩ := h i p hp
          have : (xs i).toInt = p.1 := by omega
          simp only [sVal, if_pos hi, ← this, Int32.ofInt_toInt]
        · cases hv
      · cases hv
    · cases hv
theorem sCons_ok {cx : SCx} {xs : Nat → Int32} (h : sIn cx xs) : ∀ {l : List SA} {vs : List Value}, sCons cx l = some vs → l.map (sVal xs) = vs
  | [], vs, hv => by simp [sCons] at hv; subst hv; rfl
  | a :: r, vs, hv => by
    simp only [sCons] at hv
    split at hv
    · next v hv1 =>
      split at hv
      · next ws hw =>
        cases hv
        rw [List.map_cons, sCon_ok h hv1, sCons_ok h hw]
      · cases hv
    · cases hv
theorem sIv_ok {cx : SCx} {xs : Nat → Int32} (h : sIn cx xs) {a : SA} {p : Int × Int} (hp : sIv cx a = some p) : ∃ x : Int32, sVal xs a = .int x ∧ p.1 ≤ x.toInt ∧ x.toInt ≤ p.2 := by
  cases a with
  | inl w =>
    cases w <;> simp [sIv] at hp
    next x => subst hp; exact ⟨x, rfl, Int.le_refl _, Int.le_refl _⟩
  | inr i =>
    simp only [sIv] at hp
    split at hp
    · next hi => exact ⟨xs i, by simp only [sVal, if_pos hi], h i p hp⟩
    · cases hp
theorem sLv_ok {cx : SCx} {xs : Nat → Int32} (h : sIn cx xs) {a : SA} {p : Int × Int} (hp : sLv cx a = some p) : ∃ x : Int64, sVal xs a = .long x ∧ p.1 ≤ x.toInt ∧ x.toInt ≤ p.2 := by
  cases a with
  | inl w =>
    cases w <;> simp [sLv] at hp
    next x => subst hp; exact ⟨x, rfl, Int.le_refl _, Int.le_refl _⟩
  | inr i =>
    simp only [sLv] at hp
    split at hp
    · cases hp
    · next hi =>
      refine ⟨(xs (i - 100)).toInt64, by simp only [sVal, if_neg hi], ?_⟩
      rw [Int32.toInt_toInt64]
      exact h (i - 100) p hp
/-- how many of the stack an instruction reads, of those that touch no locals -/
def sAr (ins : Instr) : Option Nat := match ins with
  | .iconst _ | .bipush _ | .sipush _ | .lconst _ | .aconst_null | .ldc _ | .ldc2_w _ | .goto _ | .new _ => some 0
  | .ineg | .i2l | .l2i | .ifnull _ | .ifnonnull _ | .tableswitch _ _ _ _ | .lookupswitch _ _ | .getfield _ | .arraylength | .newarray _ | .anewarray _ => some 1
  | .iadd | .isub | .imul | .iand | .ior | .ishl | .ishr | .iushr | .idiv | .irem | .ladd | .lsub | .lmul | .lcmp | .putfield _ | .iaload | .laload | .baload | .aaload => some 2
  | .iastore | .lastore | .bastore | .aastore => some 3
  | _ => none
/-- of calls that are steps -/
def sArC (P : MP) (y : Nat) (ins : Instr) : Option Nat := match ins with
  | .invokespecial i => match mpInv P y i with
    | some q => if q.1 = 5 then some 1 else none
    | none => none
  | .invokestatic i => match mpInv P y i with
    | some q => if q.1 = 6 then some 5 else if q.1 = 7 ∨ q.1 = 8 then some 2 else none
    | none => none
  | _ => none
theorem mI1_app {l r : List Value} (hl : l.length = 1) : mI1 (l ++ r) = (mI1 l).map (fun q => (q.1, q.2 ++ r)) := by
  match l, hl with
  | [a], _ => cases a <;> rfl
theorem mI2_app {l r : List Value} (hl : l.length = 2) : mI2 (l ++ r) = (mI2 l).map (fun q => (q.1, q.2.1, q.2.2 ++ r)) := by
  match l, hl with
  | [a, b], _ => cases a <;> cases b <;> rfl
theorem mL1_app {l r : List Value} (hl : l.length = 1) : mL1 (l ++ r) = (mL1 l).map (fun q => (q.1, q.2 ++ r)) := by
  match l, hl with
  | [a], _ => cases a <;> rfl
theorem mL2_app {l r : List Value} (hl : l.length = 2) : mL2 (l ++ r) = (mL2 l).map (fun q => (q.1, q.2.1, q.2.2 ++ r)) := by
  match l, hl with
  | [a, b], _ => cases a <;> cases b <;> rfl
theorem mA1_app {l r : List Value} (hl : l.length = 1) : mA1 (l ++ r) = (mA1 l).map (fun q => (q.1, q.2 ++ r)) := by
  match l, hl with
  | [a], _ => cases a <;> rfl
theorem mIA_app {l r : List Value} (hl : l.length = 2) : mIA (l ++ r) = (mIA l).map (fun q => (q.1, q.2.1, q.2.2 ++ r)) := by
  match l, hl with
  | [a, b], _ => cases a <;> cases b <;> rfl
set_option maxHeartbeats 4000000 in
theorem mLocal_app {P : MP} {y : Nat} {ins : Instr} {n pc : Nat} {lv : MLv} {ops r : List Value} {q : Nat × MLv × List Value} (hn : sAr ins = some n) (hl : ops.length = n) (h : mLocal y P ins pc [] ops = some q) : mLocal y P ins pc lv (ops ++ r) = some (q.1, lv, q.2.2 ++ r) := by
  cases ins with
  | iconst k =>
    cases hn
    match ops, hl with
    | [], _ => cases h; rfl
  | bipush k =>
    cases hn
    match ops, hl with
    | [], _ => cases h; rfl
  | sipush k =>
    cases hn
    match ops, hl with
    | [], _ => cases h; rfl
  | lconst k =>
    cases hn
    match ops, hl with
    | [], _ => cases h; rfl
  | aconst_null =>
    cases hn
    match ops, hl with
    | [], _ => cases h; rfl
  | ldc k =>
    cases hn
    match ops, hl with
    | [], _ =>
      simp only [mLocal, mLocalC, Option.map_eq_some_iff] at h
      obtain ⟨w, hw, rfl⟩ := h
      simp only [mLocal, mLocalC, hw, Option.map_some]
      rfl
  | ldc2_w k =>
    cases hn
    match ops, hl with
    | [], _ =>
      simp only [mLocal, mLocalC, Option.map_eq_some_iff] at h
      obtain ⟨w, hw, rfl⟩ := h
      simp only [mLocal, mLocalC, hw, Option.map_some]
      rfl
  | goto k =>
    cases hn
    match ops, hl with
    | [], _ =>
      simp only [mLocal, mLocalC, Option.map_eq_some_iff] at h
      obtain ⟨w, hw, rfl⟩ := h
      simp only [mLocal, mLocalC, hw, Option.map_some]
  | ineg =>
    cases hn
    simp only [mLocal, mLocalC, Option.map_eq_some_iff] at h
    obtain ⟨w, hw, rfl⟩ := h
    simp only [mLocal, mLocalC, mI1_app hl, hw, Option.map_some]
    rfl
  | i2l =>
    cases hn
    simp only [mLocal, mLocalC, Option.map_eq_some_iff] at h
    obtain ⟨w, hw, rfl⟩ := h
    simp only [mLocal, mLocalC, mI1_app hl, hw, Option.map_some]
    rfl
  | l2i =>
    cases hn
    simp only [mLocal, mLocalC, Option.map_eq_some_iff] at h
    obtain ⟨w, hw, rfl⟩ := h
    simp only [mLocal, mLocalC, mL1_app hl, hw, Option.map_some]
    rfl
  | iadd =>
    cases hn
    simp only [mLocal, mLocalC, Option.map_eq_some_iff] at h
    obtain ⟨w, hw, rfl⟩ := h
    simp only [mLocal, mLocalC, mI2_app hl, hw, Option.map_some]
    rfl
  | isub =>
    cases hn
    simp only [mLocal, mLocalC, Option.map_eq_some_iff] at h
    obtain ⟨w, hw, rfl⟩ := h
    simp only [mLocal, mLocalC, mI2_app hl, hw, Option.map_some]
    rfl
  | imul =>
    cases hn
    simp only [mLocal, mLocalC, Option.map_eq_some_iff] at h
    obtain ⟨w, hw, rfl⟩ := h
    simp only [mLocal, mLocalC, mI2_app hl, hw, Option.map_some]
    rfl
  | iand =>
    cases hn
    simp only [mLocal, mLocalC, Option.map_eq_some_iff] at h
    obtain ⟨w, hw, rfl⟩ := h
    simp only [mLocal, mLocalC, mI2_app hl, hw, Option.map_some]
    rfl
  | ior =>
    cases hn
    simp only [mLocal, mLocalC, Option.map_eq_some_iff] at h
    obtain ⟨w, hw, rfl⟩ := h
    simp only [mLocal, mLocalC, mI2_app hl, hw, Option.map_some]
    rfl
  | ishl =>
    cases hn
    simp only [mLocal, mLocalC, Option.map_eq_some_iff] at h
    obtain ⟨w, hw, rfl⟩ := h
    simp only [mLocal, mLocalC, mI2_app hl, hw, Option.map_some]
    rfl
  | ishr =>
    cases hn
    simp only [mLocal, mLocalC, Option.map_eq_some_iff] at h
    obtain ⟨w, hw, rfl⟩ := h
    simp only [mLocal, mLocalC, mI2_app hl, hw, Option.map_some]
    rfl
  | iushr =>
    cases hn
    simp only [mLocal, mLocalC, Option.map_eq_some_iff] at h
    obtain ⟨w, hw, rfl⟩ := h
    simp only [mLocal, mLocalC, mI2_app hl, hw, Option.map_some]
    rfl
  | ladd =>
    cases hn
    simp only [mLocal, mLocalC, Option.map_eq_some_iff] at h
    obtain ⟨w, hw, rfl⟩ := h
    simp only [mLocal, mLocalC, mL2_app hl, hw, Option.map_some]
    rfl
  | lsub =>
    cases hn
    simp only [mLocal, mLocalC, Option.map_eq_some_iff] at h
    obtain ⟨w, hw, rfl⟩ := h
    simp only [mLocal, mLocalC, mL2_app hl, hw, Option.map_some]
    rfl
  | lmul =>
    cases hn
    simp only [mLocal, mLocalC, Option.map_eq_some_iff] at h
    obtain ⟨w, hw, rfl⟩ := h
    simp only [mLocal, mLocalC, mL2_app hl, hw, Option.map_some]
    rfl
  | lcmp =>
    cases hn
    simp only [mLocal, mLocalC, Option.map_eq_some_iff] at h
    obtain ⟨w, hw, rfl⟩ := h
    simp only [mLocal, mLocalC, mL2_app hl, hw, Option.map_some]
    rfl
  | idiv =>
    cases hn
    simp only [mLocal, mLocalC, Option.bind_eq_some_iff] at h
    obtain ⟨w, hw, h⟩ := h
    simp only [mLocal, mLocalC, mI2_app hl, hw, Option.map_some, Option.bind_some]
    split at h
    · cases h
    · next h0 => cases h; rw [if_neg h0]; rfl
  | irem =>
    cases hn
    simp only [mLocal, mLocalC, Option.bind_eq_some_iff] at h
    obtain ⟨w, hw, h⟩ := h
    simp only [mLocal, mLocalC, mI2_app hl, hw, Option.map_some, Option.bind_some]
    split at h
    · cases h
    · next h0 => cases h; rw [if_neg h0]; rfl
  | ifnull k =>
    cases hn
    simp only [mLocal, mLocalC, Option.bind_eq_some_iff, Option.map_eq_some_iff] at h
    obtain ⟨w, hw, t, ht, rfl⟩ := h
    simp only [mLocal, mLocalC, mA1_app hl, hw, Option.map_some, Option.bind_some, ht]
  | ifnonnull k =>
    cases hn
    simp only [mLocal, mLocalC, Option.bind_eq_some_iff, Option.map_eq_some_iff] at h
    obtain ⟨w, hw, t, ht, rfl⟩ := h
    simp only [mLocal, mLocalC, mA1_app hl, hw, Option.map_some, Option.bind_some, ht]
  | tableswitch d lo hi offs =>
    cases hn
    simp only [mLocal, mLocalC, Option.bind_eq_some_iff] at h
    obtain ⟨w, hw, h⟩ := h
    simp only [mLocal, mLocalC, mI1_app hl, hw, Option.map_some, Option.bind_some]
    split at h
    · next h0 =>
      simp only [Option.map_eq_some_iff] at h
      obtain ⟨t, ht, rfl⟩ := h
      rw [if_pos h0, ht]; rfl
    · next h0 =>
      simp only [Option.bind_eq_some_iff, Option.map_eq_some_iff] at h
      obtain ⟨o, ho, t, ht, rfl⟩ := h
      rw [if_neg h0, ho]
      simp only [Option.bind_some, ht, Option.map_some]
  | lookupswitch d ps =>
    cases hn
    simp only [mLocal, mLocalC, Option.bind_eq_some_iff] at h
    obtain ⟨w, hw, h⟩ := h
    simp only [mLocal, mLocalC, mI1_app hl, hw, Option.map_some, Option.bind_some]
    split at h
    · next h0 =>
      simp only [Option.map_eq_some_iff] at h
      obtain ⟨t, ht, rfl⟩ := h
      rw [if_pos h0, ht]; rfl
    · cases h
  | _ => first | (simp [sAr] at hn; done) | (simp [mLocal, mLocalC] at h; done)
theorem mHeap_app {P : MP} {L : Nat} {xs : Nat → Int32} {y : Nat} {ins : Instr} {n pc : Nat} {ops r : List Value} {σ : List MC} {q : Nat × List Value × List MC} (hn : sAr ins = some n) (hl : ops.length = n) (h : mHeap P L xs y ins pc ops σ = some q) : mHeap P L xs y ins pc (ops ++ r) σ = some (q.1, q.2.1 ++ r, q.2.2) := by
  cases ins with
  | getfield i =>
    cases hn
    match ops, hl with
    | [a], _ =>
      cases a with
      | ref a =>
        simp only [mHeap, mHeapC, Option.bind_eq_some_iff] at h
        obtain ⟨o, ho, w, hw, h⟩ := h
        simp only [List.cons_append, List.nil_append, mHeap, mHeapC, ho, hw, Option.bind_some]
        split at h
        · next h0 =>
          simp only [Option.map_eq_some_iff] at h
          obtain ⟨v, hv, rfl⟩ := h
          rw [if_pos h0, hv]; rfl
        · cases h
      | _ => simp [mHeap, mHeapC] at h
  | putfield i =>
    cases hn
    match ops, hl with
    | [v, a], _ =>
      cases a with
      | ref a =>
        simp only [mHeap, mHeapC, Option.bind_eq_some_iff] at h
        obtain ⟨o, ho, w, hw, h⟩ := h
        simp only [List.cons_append, List.nil_append, mHeap, mHeapC, ho, hw, Option.bind_some]
        split at h
        · next h0 => cases h; rw [if_pos h0]; rfl
        · cases h
      | _ => simp [mHeap, mHeapC] at h
  | iaload =>
    cases hn
    simp only [mHeap, mHeapC, Option.bind_eq_some_iff] at h
    obtain ⟨w, hw, g, hg, h⟩ := h
    simp only [mHeap, mHeapC, mIA_app hl, hw, Option.map_some, Option.bind_some, hg]
    split at h
    · next h0 => cases h; rw [if_pos h0]; rfl
    · cases h
  | laload =>
    cases hn
    simp only [mHeap, mHeapC, Option.bind_eq_some_iff] at h
    obtain ⟨w, hw, g, hg, h⟩ := h
    simp only [mHeap, mHeapC, mIA_app hl, hw, Option.map_some, Option.bind_some, hg]
    split at h
    · next h0 => cases h; rw [if_pos h0]; rfl
    · cases h
  | baload =>
    cases hn
    simp only [mHeap, mHeapC, Option.bind_eq_some_iff] at h
    obtain ⟨w, hw, g, hg, h⟩ := h
    simp only [mHeap, mHeapC, mIA_app hl, hw, Option.map_some, Option.bind_some, hg]
    split at h
    · next h0 => cases h; rw [if_pos h0]; rfl
    · cases h
  | aaload =>
    cases hn
    simp only [mHeap, mHeapC, Option.bind_eq_some_iff] at h
    obtain ⟨w, hw, g, hg, h⟩ := h
    simp only [mHeap, mHeapC, mIA_app hl, hw, Option.map_some, Option.bind_some, hg]
    split at h
    · next h0 => cases h; rw [if_pos h0]; rfl
    · cases h
  | iastore =>
    cases hn
    match ops, hl with
    | [v, i, a], _ =>
      cases v <;> cases i <;> cases a <;> first | (simp [mHeap, mHeapC] at h; done) | skip
      simp only [mHeap, mHeapC, Option.bind_eq_some_iff] at h
      obtain ⟨g, hg, h⟩ := h
      simp only [List.cons_append, List.nil_append, mHeap, mHeapC, hg, Option.bind_some]
      split at h
      · next h0 => cases h; rw [if_pos h0]; rfl
      · cases h
  | lastore =>
    cases hn
    match ops, hl with
    | [v, i, a], _ =>
      cases v <;> cases i <;> cases a <;> first | (simp [mHeap, mHeapC] at h; done) | skip
      simp only [mHeap, mHeapC, Option.bind_eq_some_iff] at h
      obtain ⟨g, hg, h⟩ := h
      simp only [List.cons_append, List.nil_append, mHeap, mHeapC, hg, Option.bind_some]
      split at h
      · next h0 => cases h; rw [if_pos h0]; rfl
      · cases h
  | bastore =>
    cases hn
    match ops, hl with
    | [v, i, a], _ =>
      cases v <;> cases i <;> cases a <;> first | (simp [mHeap, mHeapC] at h; done) | skip
      simp only [mHeap, mHeapC, Option.bind_eq_some_iff] at h
      obtain ⟨g, hg, h⟩ := h
      simp only [List.cons_append, List.nil_append, mHeap, mHeapC, hg, Option.bind_some]
      split at h
      · next h0 => cases h; rw [if_pos h0]; rfl
      · cases h
  | aastore =>
    cases hn
    match ops, hl with
    | [v, i, a], _ =>
      cases v <;> cases i <;> cases a <;> first | (simp [mHeap, mHeapC] at h; done) | skip
      · simp only [mHeap, mHeapC, Option.bind_eq_some_iff] at h
        obtain ⟨g, hg, h⟩ := h
        simp only [List.cons_append, List.nil_append, mHeap, mHeapC, hg, Option.bind_some]
        split at h
        · next h0 => cases h; rw [if_pos h0]; rfl
        · cases h
      · simp only [mHeap, mHeapC, Option.bind_eq_some_iff] at h
        obtain ⟨g, hg, ev, hev, h⟩ := h
        simp only [List.cons_append, List.nil_append, mHeap, mHeapC, hg, hev, Option.bind_some]
        split at h
        · next h0 => cases h; rw [if_pos h0]; rfl
        · cases h
  | arraylength =>
    cases hn
    match ops, hl with
    | [a], _ =>
      cases a with
      | ref a =>
        simp only [mHeap, mHeapC, Option.map_eq_some_iff] at h
        obtain ⟨v, hv, rfl⟩ := h
        simp only [List.cons_append, List.nil_append, mHeap, mHeapC, hv, Option.map_some]
      | _ => simp [mHeap, mHeapC] at h
  | newarray t =>
    cases hn
    simp only [mHeap, mHeapC, Option.bind_eq_some_iff] at h
    obtain ⟨w, hw, k, hk, h⟩ := h
    simp only [mHeap, mHeapC, mI1_app hl, hw, Option.map_some, Option.bind_some, hk]
    unfold mNewA at h ⊢
    split at h
    · cases h
    · next h0 =>
      split at h
      · next h1 => cases h; rw [if_neg h0, if_pos h1]; rfl
      · cases h
  | anewarray t =>
    cases hn
    simp only [mHeap, mHeapC, Option.bind_eq_some_iff] at h
    obtain ⟨w, hw, k, hk, h⟩ := h
    simp only [mHeap, mHeapC, mI1_app hl, hw, Option.map_some, Option.bind_some, hk]
    split at h
    · next h3 =>
      rw [if_pos h3]
      unfold mNewA at h ⊢
      split at h
      · cases h
      · next h0 =>
        split at h
        · next h1 => cases h; rw [if_neg h0, if_pos h1]; rfl
        · cases h
    · cases h
  | new i =>
    cases hn
    match ops, hl with
    | [], _ =>
      simp only [mHeap, mHeapC, Option.map_eq_some_iff] at h
      obtain ⟨w, hw, rfl⟩ := h
      simp only [mHeap, mHeapC, hw, Option.map_some]
      rfl
  | _ => first | (simp [sAr] at hn; done) | (simp [mHeap, mHeapC] at h; done)
theorem mHeap_appC {P : MP} {L : Nat} {xs : Nat → Int32} {y : Nat} {ins : Instr} {n pc : Nat} {ops r : List Value} {σ : List MC} {q : Nat × List Value × List MC} (hn : sArC P y ins = some n) (hl : ops.length = n) (hr : (r.map (fun v => v.category)).sum ≤ 8) (h : mHeap P L xs y ins pc ops σ = some q) : mHeap P L xs y ins pc (ops ++ r) σ = some (q.1, q.2.1 ++ r, q.2.2) := by
  cases ins with
  | invokespecial i =>
    simp only [sArC] at hn
    split at hn
    · next w hw =>
      split at hn
      · next h5 =>
        cases hn
        match ops, hl with
        | [a], _ =>
          simp only [mHeap, mHeapC, hw, Option.bind_some, if_pos h5] at h
          simp only [List.cons_append, List.nil_append, mHeap, mHeapC, hw, Option.bind_some, if_pos h5]
          cases a with
          | ref a =>
            simp only at h ⊢
            split at h
            · next h0 => cases h; rw [if_pos ⟨hr, h0.2⟩]; rfl
            · cases h
          | _ => simp at h
      · cases hn
    · cases hn
  | invokestatic i =>
    simp only [sArC] at hn
    split at hn
    · next w hw =>
      split at hn
      · next h6 =>
        cases hn
        match ops, hl with
        | [a, b, c, d, e], _ =>
          simp only [mHeap, mHeapC, hw, Option.bind_some, if_pos h6] at h
          simp only [List.cons_append, List.nil_append, mHeap, mHeapC, hw, Option.bind_some, if_pos h6]
          cases a <;> cases b <;> cases c <;> first | (simp at h; done) | skip
          cases d <;> cases e <;> first | (simp at h; done) | skip
          simp only [Option.bind_eq_some_iff] at h
          obtain ⟨f, hf, g, hg, h⟩ := h
          simp only [hf, hg, Option.bind_some]
          split at h
          · next h0 =>
            cases h
            rw [if_pos ⟨h0.1, h0.2.1, h0.2.2.1, h0.2.2.2.1, h0.2.2.2.2.1, hr, h0.2.2.2.2.2.2⟩]
            rfl
          · cases h
      · next h6 =>
        split at hn
        · next h78 =>
          cases hn
          match ops, hl with
          | [a, b], _ =>
            simp only [mHeap, mHeapC, hw, Option.bind_some, if_neg h6] at h
            simp only [List.cons_append, List.nil_append, mHeap, mHeapC, hw, Option.bind_some, if_neg h6]
            by_cases h7 : w.1 = 7
            · rw [if_pos h7] at h ⊢
              cases a <;> cases b <;> first | (simp at h; done) | skip
              simp only at h ⊢
              split at h
              · next h0 => cases h; rw [if_pos ⟨hr, h0.2⟩]; rfl
              · cases h
            · rw [if_neg h7] at h ⊢
              have h8 : w.1 = 8 := by rcases h78 with q | q; exact absurd q h7; exact q
              rw [if_pos h8] at h ⊢
              cases a <;> cases b <;> first | (simp at h; done) | skip
              simp only at h ⊢
              split at h
              · next h0 => cases h; rw [if_pos ⟨hr, h0.2⟩]; rfl
              · cases h
        · cases hn
    · cases hn
  | _ => simp [sArC] at hn
