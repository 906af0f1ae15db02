/-! WHAT A PROGRAM'S TABLES MUST HOLD -/
def mOKcode (P : MP) (byt : Nat → ByteArray) : Prop := ∀ y pc ins, mpCode P y pc = some ins → mDec (byt y) pc ins
def mOKldc (Ts : List Cond) (P : MP) (nm : Nat → MethodName) : Prop := (∀ y i v, mpLdc P y i = some v → Cond.constant (nm y).cls i v ∈ Ts) ∧ ∀ y i v, mpLdc2 P y i = some v → Cond.constantLong (nm y).cls i v ∈ Ts
def mOKfld (Ts : List Cond) (cl : List vw_C) (P : MP) (nm : Nat → MethodName) : Prop := ∀ y i q, mpFld P y i = some q → ∃ C T N, cl[q.1]? = some (C, T, N) ∧ q.2 < N ∧ Cond.fieldLink (nm y).cls i (T q.2).1 (T q.2).2.1 (T q.2).2.2.1 ∈ Ts
def mOKcls (Ts : List Cond) (cl : List vw_C) (P : MP) (nm : Nat → MethodName) : Prop := ∀ ci C T N, cl[ci]? = some (C, T, N) → (∀ w ∈ u_ws C T N, w ∈ Ts) ∧ (∀ k, k < N → parseFieldDescriptor (T k).2.2.1 = some (mpFty P ci k).1) ∧ (∀ k, k < N → (mpFty P ci k).2 = (T k).2.2.2 ∧ (T k).1 = C) ∧ (∀ a, a < N → ∀ b, b < N → a ≠ b → (T a).2.1 ≠ (T b).2.1) ∧ ∀ y, (mpInfo P y).2.2.2.2.1 = true → (mpInfo P y).2.2.2.2.2 = ci → (nm y).cls = C
def mOKnew (Ts : List Cond) (cl : List vw_C) (P : MP) (nm : Nat → MethodName) : Prop := ∀ y i q, mpNew P y i = some q → ∃ C T N, cl[q.1]? = some (C, T, N) ∧ q.2.length = N ∧ Cond.classLink (nm y).cls i C ∈ Ts ∧ Cond.instantiable C N ∈ Ts ∧ Cond.initialized C ∈ Ts ∧ ∀ j, j < N → q.2[j]? = some (defaultValue (mpFty P q.1 j).1)
def mOKarr (Ts Ns : List Cond) (tyL : List FieldType) (P : MP) (nm : Nat → MethodName) : Prop := (tyL[0]? = some .int ∧ tyL[1]? = some .long ∧ tyL[2]? = some .boolean ∧ tyL[3]? = some (.array .int)) ∧ (Cond.arrayClass .int ∈ Ts ∧ Cond.arrayClass .long ∈ Ts ∧ Cond.arrayClass .boolean ∈ Ts) ∧ (tyL.length = 10 ∧ ∀ k t, tyL[k]? = some t → 3 ≤ k → t.isReference = true) ∧ ∀ y i k, mpArr P y i = some k → (∃ C, tyL[k]? = some (.object C) ∧ Cond.classLink (nm y).cls i C ∈ Ts ∧ Cond.arrayOver (.object C) ∈ Ns) ∨ ∃ t, tyL[k]? = some (.array t) ∧ Cond.classLink (nm y).cls i (FieldType.array t).toString ∈ Ts ∧ Cond.arrayOver (.array t) ∈ Ns
def mOKelem (cl : List vw_C) (tyL : List FieldType) (P : MP) : Prop := ∀ t e, mpElem P t e = true → (∃ ci fs C T N, e = .inr (ci, fs) ∧ cl[ci]? = some (C, T, N) ∧ tyL[t]? = some (.object C)) ∨ ∃ k u n x, e = .inl (k, n, x) ∧ tyL[k]? = some u ∧ tyL[t]? = some (.array u)
/-- the calls: 0 static, 1 by the receiver's class, 2 a constructor, 3 a nest mate's constructor, 4 a nest mate's static method, 5 Object's constructor, 6 arraycopy, 7 Math.max, 8 Math.min -/
def mOKinv (Ts Ns : List Cond) (cl : List vw_C) (P : MP) (nm : Nat → MethodName) (byt : Nat → ByteArray) (rt : Nat → Option FieldType) : Prop := ∀ y i q, mpInv P y i = some q →
  (q.1 < 5 → Cond.code (nm q.2.1) (byt q.2.1) (mpInfo P q.2.1).1 (rt q.2.1) ∈ Ts ∧ Cond.initialized (nm q.2.1).cls ∈ Ts ∧ plainName (nm q.2.1).cls = true ∧ (nm q.2.1).cls ≠ "java/lang/invoke/MethodHandle" ∧ (nm q.2.1).cls ≠ "java/lang/invoke/VarHandle") ∧
  (q.1 = 0 ∨ q.1 = 1 ∨ q.1 = 2 → Cond.methodLink (nm y).cls i (nm q.2.1) ∈ Ts) ∧
  (q.1 = 3 ∨ q.1 = 4 → ∃ host, Cond.methodLinkNest (nm y).cls i (nm q.2.1) host ∈ Ns) ∧
  (q.1 = 0 ∨ q.1 = 4 → Cond.static (nm q.2.1) ∈ Ts ∧ (parseMethodDescriptor (nm q.2.1).desc).map (fun d => d.parameters.length) = some q.2.2) ∧
  (q.1 = 1 → Cond.instanceMethod (nm q.2.1) ∈ Ts ∧ Cond.selects (nm q.2.1).cls (nm q.2.1) (nm q.2.1) ∈ Ts ∧ (parseMethodDescriptor (nm q.2.1).desc).map (fun d => d.parameters.length + 1) = some q.2.2 ∧ ∃ T N, cl[(mpInfo P q.2.1).2.2.2.2.2]? = some ((nm q.2.1).cls, T, N)) ∧
  (q.1 = 2 ∨ q.1 = 3 → Cond.instanceMethod (nm q.2.1) ∈ Ts ∧ (nm q.2.1).name = "<init>" ∧ rt q.2.1 = none ∧ (parseMethodDescriptor (nm q.2.1).desc).map (fun d => d.parameters.length + 1) = some q.2.2) ∧
  (q.1 = 5 → Cond.methodLink (nm y).cls i Lib.objectInit ∈ Ts ∧ Cond.instanceMethod Lib.objectInit ∈ Ts ∧ Cond.code Lib.objectInit ⟨#[0xb1]⟩ 1 none ∈ Ts) ∧
  (q.1 = 6 → Cond.methodLink (nm y).cls i arraycopyName ∈ Ts ∧ Cond.native arraycopyName ∈ Ts ∧ Cond.static arraycopyName ∈ Ts ∧ Cond.initialized "java/lang/System" ∈ Ts) ∧
  (q.1 = 7 → Cond.methodLink (nm y).cls i Lib.Math.max.name ∈ Ts ∧ Cond.static Lib.Math.max.name ∈ Ts ∧ Cond.initialized "java/lang/Math" ∈ Ts ∧ Cond.code Lib.Math.max.name Lib.Math.max.code 2 (some .int) ∈ Ts) ∧
  (q.1 = 8 → Cond.methodLink (nm y).cls i Lib.Math.min.name ∈ Ts ∧ Cond.static Lib.Math.min.name ∈ Ts ∧ Cond.initialized "java/lang/Math" ∈ Ts ∧ Cond.code Lib.Math.min.name Lib.Math.min.code 2 (some .int) ∈ Ts) ∧
  (q.1 = 9 → Cond.methodLink (nm y).cls i ⟨"[I", "clone", "()Ljava/lang/Object;"⟩ ∈ Ts ∧ Cond.sameMethod "[I" "java/lang/Object" "clone" "()Ljava/lang/Object;" ∈ Ts ∧ Cond.native ⟨"java/lang/Object", "clone", "()Ljava/lang/Object;"⟩ ∈ Ts ∧ Cond.instanceMethod ⟨"java/lang/Object", "clone", "()Ljava/lang/Object;"⟩ ∈ Ts ∧ Cond.selects "[I" ⟨"[I", "clone", "()Ljava/lang/Object;"⟩ ⟨"java/lang/Object", "clone", "()Ljava/lang/Object;"⟩ ∈ Ts ∧ Cond.castable "[I" "java/lang/Cloneable" ∈ Ns)
def mOKret (P : MP) (nm : Nat → MethodName) (rt : Nat → Option FieldType) : Prop := ∀ y, ((mpInfo P y).2.2.2.1 = 0 → rt y = none) ∧ ((mpInfo P y).2.2.2.1 = 1 → rt y = some .int) ∧ ((mpInfo P y).2.2.2.1 = 2 → rt y = some .long) ∧ ((mpInfo P y).2.2.2.1 = 3 → ∃ t, rt y = some t ∧ ((∃ n, t = .object n) ∨ ∃ u, t = .array u)) ∧ ((mpInfo P y).2.2.2.1 = 4 → rt y = some .boolean) ∧ ((mpInfo P y).2.2.2.2.1 = true → (nm y).name = "<init>")
def mOK (Ts Ns : List Cond) (cl : List vw_C) (tyL : List FieldType) (P : MP) (nm : Nat → MethodName) (byt : Nat → ByteArray) (rt : Nat → Option FieldType) : Prop :=
  mOKcode P byt ∧ mOKldc Ts P nm ∧ mOKfld Ts cl P nm ∧ mOKcls Ts cl P nm ∧ mOKnew Ts cl P nm ∧ mOKarr Ts Ns tyL P nm ∧ mOKelem cl tyL P ∧ mOKinv Ts Ns cl P nm byt rt ∧ mOKret P nm rt
theorem mIA_eq {st : List Value} {q : Int32 × Nat × List Value} (h : mIA st = some q) : st = .int q.1 :: .ref q.2.1 :: q.2.2 := by
  unfold mIA at h
  split at h
  · cases h; rfl
  · cases h
theorem mInts_eq {L : Nat} {xs : Nat → Int32} {σ : List MC} {a : Nat} {g : Nat × (Nat → Int32)} (h : mInts L xs σ a = some g) : (a = 0 ∧ g = (L, xs)) ∨ ∃ k, a = k + 1 ∧ σ[k]? = some (.inl (0, g.1, .inl g.2)) := by
  unfold mInts at h
  cases a with
  | zero => simp at h; exact Or.inl ⟨rfl, h.symm⟩
  | succ k =>
    refine Or.inr ⟨k, rfl, ?_⟩
    simp only at h
    split at h
    · next h2 => cases h; exact h2
    · cases h
theorem mLong_eq {L : Nat} {σ : List MC} {a n : Nat} (h : mLong σ L a = some n) : (a = 0 ∧ n = L) ∨ ∃ k t x, a = k + 1 ∧ σ[k]? = some (.inl (t, n, x)) ∧ t < 10 := by
  unfold mLong at h
  cases a with
  | zero => simp at h; exact Or.inl ⟨rfl, h.symm⟩
  | succ k =>
    simp only at h
    split at h
    · next h2 =>
      split at h
      · next h3 => cases h; exact Or.inr ⟨k, _, _, rfl, h2, h3⟩
      · cases h
    · cases h
theorem mC_i (cA : ClassId) (n j : Nat) (f : Nat → Int32) (x : Int32) : (vp_cell cA (n, .inl f)).setSlot j (.int x) = vp_cell cA (n, .inl (upd f j x)) := by
  rw [vp_cell_i, vp_cell_i, arrV_store]
  congr 1
  funext q
  by_cases hq : q = j <;> simp [updV, upd, hq]
theorem mC_l (cA : ClassId) (n j : Nat) (f : Nat → Int64) (x : Int64) : (vp_cell cA (n, .inr (.inl f))).setSlot j (.long x) = vp_cell cA (n, .inr (.inl (vp_updL f j x))) := by
  rw [vp_cell_l, vp_cell_l, arrV_store]
  congr 1
  funext q
  by_cases hq : q = j <;> simp [updV, vp_updL, hq]
theorem mC_q (cA : ClassId) (n j : Nat) (f : Nat → Option Nat) (x : Option Nat) : (vp_cell cA (n, .inr (.inr (.inr (.inr f))))).setSlot j (va_rf x) = vp_cell cA (n, .inr (.inr (.inr (.inr (va_up f j x))))) := by
  rw [vp_cell_q, vp_cell_q, arrV_store]
  congr 1
  funext q
  by_cases hq : q = j <;> simp [updV, va_up, hq]
theorem mUp_map (g : Nat → Nat) (f : Nat → Option Nat) (j : Nat) (x : Option Nat) : (fun k => (va_up f j x k).map g) = va_up (fun k => (f k).map g) j (x.map g) := by
  funext q
  by_cases hq : q = j <;> simp [va_up, hq]
theorem mV_default (b0 base : Nat) (t : FieldType) : mV b0 base (defaultValue t) = defaultValue t := by cases t <;> rfl
/-- the words that are no tables' words of the kit's kind: links to nest mates, arrays over a class -/
def mNs (Ns : List Cond) (U : State) : Prop := ∀ w ∈ Ns, va_Nw w U
def mOKns (Ns : List Cond) : Prop := ∀ w ∈ Ns, (∃ a i x h, w = .methodLinkNest a i x h) ∨ (∃ C, w = .arrayOver (.object C)) ∨ (∃ t, w = .arrayOver (.array t)) ∨ ∃ C t, w = .castable C t
theorem mAOA_moved {t : FieldType} {u U : State} (hvm : u.vm.Alike U.vm) (h : va_Nw (.arrayOver (.array t)) u) : va_Nw (.arrayOver (.array t)) U := by
  obtain ⟨comp, c, k, h1, h2, h3, h4, h5⟩ := arrayOverA_spec h
  obtain ⟨k', hk', he⟩ := hvm.2.2 _ _ h3
  have hi : (U.vm.classes.findIdx? fun (x : Class) => match x.kind with | .array component _ => component == comp | _ => false) = some c := by
    rw [hvm.findIdx?_eq _ (fun _ => rfl)]
    exact h2
  have hkind : k'.kind = .array comp (.array t) := by rw [he]; exact h4
  have f1 : U.vm.findClass (FieldType.array t).toString = some comp := by rw [hvm.findClass]; exact h1
  have f2 : U.vm.findClass ("[" ++ (FieldType.array t).toString) = some c := by rw [hvm.findClass]; exact h5
  unfold va_Nw Cond.before Cond.holds
  simp only [Cond.value]
  rw [f1, Option.bind_some]
  refine (congrArg (fun o : Option Nat => (o.bind (fun c => (U.vm.classes[c]?).map fun (k : Class) => match k.kind with | .array _ ty => decide (ty = FieldType.array t) && decide (U.vm.findClass ("[" ++ (FieldType.array t).toString) = some c) | _ => false) == some true)) hi).trans ?_
  simp [hk', hkind, f2]
theorem mNs.warm {Ns : List Cond} (hN : mOKns Ns) {s U : State} (hW : s.WarmedH U.vm) (h : mNs Ns s) : mNs Ns U := by
  intro w hw
  rcases hN w hw with ⟨a, i, x, hh, rfl⟩ | ⟨C, rfl⟩ | ⟨t, rfl⟩ | ⟨C, t, rfl⟩
  · exact va_Nw.warmM hW (h _ hw)
  · exact va_AO.moved hW.alike (h _ hw)
  · exact mAOA_moved hW.alike (h _ hw)
  · exact va_Nw.warmC hW (h _ hw)
theorem mNs.same {Ns : List Cond} (hN : mOKns Ns) {s U : State} (hv : s.vm = U.vm) (h : mNs Ns s) : mNs Ns U := by
  intro w hw
  rcases hN w hw with ⟨a, i, x, hh, rfl⟩ | ⟨C, rfl⟩ | ⟨t, rfl⟩ | ⟨C, t, rfl⟩
  · exact va_Nw.same rfl hv (h _ hw)
  · exact va_AO.moved (by rw [hv]; exact Vm.Alike.refl _) (h _ hw)
  · exact mAOA_moved (by rw [hv]; exact Vm.Alike.refl _) (h _ hw)
  · exact va_Nw.same rfl hv (h _ hw)
