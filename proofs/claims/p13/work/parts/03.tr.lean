/-! FROM THE SMALL MACHINE TO THE MACHINE: refs, cells, locals -/
def mAd (b0 base i : Nat) : Nat := match i with
  | 0 => b0
  | k + 1 => base + k
def mV (b0 base : Nat) (v : Value) : Value := match v with
  | .ref i => .ref (mAd b0 base i)
  | w => w
theorem mV_cat (b0 base : Nat) (v : Value) : (mV b0 base v).category = v.category := by cases v <;> rfl
theorem mV_rf (b0 base : Nat) (o : Option Nat) : mV b0 base (va_rf o) = va_rf (o.map (mAd b0 base)) := by cases o <;> rfl
theorem mV_int (b0 base : Nat) (x : Int32) : mV b0 base (.int x) = .int x := rfl
theorem mV_long (b0 base : Nat) (x : Int64) : mV b0 base (.long x) = .long x := rfl
theorem mV_null (b0 base : Nat) : mV b0 base .null = .null := rfl
theorem mV_ref (b0 base i : Nat) : mV b0 base (.ref i) = .ref (mAd b0 base i) := rfl
theorem mV_cats (b0 base : Nat) (st : List Value) : ((st.map (mV b0 base)).map fun v => v.category) = st.map fun v => v.category := by
  simp [List.map_map, Function.comp_def, mV_cat]
theorem mV_fit {b0 base : Nat} {ty : FieldType} {v : Value} (h : mFit ty v = true) : narrow ty (mV b0 base v) = mV b0 base v ∧ fits ty (mV b0 base v) = true := by
  simp only [mFit, Bool.and_eq_true, decide_eq_true_eq] at h
  cases v with
  | ref i =>
    refine ⟨?_, ?_⟩
    · cases ty <;> rfl
    · have h2 := h.2
      cases ty <;> first | rfl | (simp [fits] at h2) | (simp [fits, mV])
  | _ => exact h
def mX (b0 base : Nat) (x : (Nat → Int32) ⊕ (Nat → Int64) ⊕ (Nat → UInt32) ⊕ (Nat → UInt64) ⊕ (Nat → Option Nat)) : (Nat → Int32) ⊕ (Nat → Int64) ⊕ (Nat → UInt32) ⊕ (Nat → UInt64) ⊕ (Nat → Option Nat) := match x with
  | .inr (.inr (.inr (.inr f))) => .inr (.inr (.inr (.inr (fun k => (f k).map (mAd b0 base)))))
  | .inl f => .inl f
  | .inr (.inl f) => .inr (.inl f)
  | .inr (.inr (.inl f)) => .inr (.inr (.inl f))
  | .inr (.inr (.inr (.inl f))) => .inr (.inr (.inr (.inl f)))
def mE (b0 base : Nat) (aC : Nat → ClassId) (e : MC) : va_E := match e with
  | .inl a => .inl (aC a.1, a.2.1, mX b0 base a.2.2)
  | .inr o => .inr (o.1, o.2.map (mV b0 base))
def mW (b0 base : Nat) (aC : Nat → ClassId) (σ : List MC) : va_W := σ.mapIdx (fun i e => (base + i, mE b0 base aC e))
theorem mW_get {b0 base : Nat} {aC : Nat → ClassId} {σ : List MC} {k : Nat} {e : MC} (h : σ[k]? = some e) : (mW b0 base aC σ)[k]? = some (base + k, mE b0 base aC e) := by
  simp [mW, h]
theorem mW_inv {b0 base : Nat} {aC : Nat → ClassId} {σ : List MC} {k : Nat} {q : Nat × va_E} (h : (mW b0 base aC σ)[k]? = some q) : ∃ e, σ[k]? = some e ∧ q = (base + k, mE b0 base aC e) := by
  simp only [mW, List.getElem?_mapIdx] at h
  cases hk : σ[k]? with
  | none => simp [hk] at h
  | some e =>
    simp [hk] at h
    exact ⟨e, rfl, h.symm⟩
theorem mW_set {b0 base : Nat} {aC : Nat → ClassId} {σ : List MC} {k : Nat} {e : MC} : mW b0 base aC (σ.set k e) = (mW b0 base aC σ).set k (base + k, mE b0 base aC e) := by
  apply List.ext_getElem?
  intro i
  simp only [mW, List.getElem?_mapIdx, List.getElem?_set, List.length_mapIdx]
  by_cases hik : k = i
  · subst hik
    by_cases hl : k < σ.length
    · simp [hl]
    · simp [hl]
  · simp [hik]
theorem mW_push {b0 base : Nat} {aC : Nat → ClassId} {σ : List MC} {e : MC} : mW b0 base aC (σ ++ [e]) = mW b0 base aC σ ++ [(base + σ.length, mE b0 base aC e)] := by
  simp [mW, List.mapIdx_append]
theorem mW_len {b0 base : Nat} {aC : Nat → ClassId} {σ : List MC} : (mW b0 base aC σ).length = σ.length := by simp [mW]
theorem mW_D {b0 base : Nat} {aC : Nat → ClassId} {σ : List MC} : va_D (fun q => base ≤ q) (mW b0 base aC σ) := by
  refine ⟨fun i j x z hi hj hxz => ?_, fun k q hk => ?_⟩
  · obtain ⟨e1, -, rfl⟩ := mW_inv hi
    obtain ⟨e2, -, rfl⟩ := mW_inv hj
    simpa using hxz
  · obtain ⟨e1, -, rfl⟩ := mW_inv hk
    exact Nat.le_add_right _ _
def mLvT (b0 base : Nat) (lv : MLv) : MLv := lv.map (fun q => (q.1, mV b0 base q.2))
theorem mLook_mem {lv : MLv} {i : Nat} {v : Value} (h : mLook lv i = some v) : (i, v) ∈ lv := by
  simp only [mLook, Option.map_eq_some_iff] at h
  obtain ⟨q, hq, rfl⟩ := h
  have h1 := List.find?_some hq
  have h2 := List.mem_of_find?_eq_some hq
  simp only [beq_iff_eq] at h1
  rw [← h1]
  exact h2
theorem mLook_at {b0 base nL : Nat} {ls : Array Slot} {lv : MLv} {i : Nat} {v : Value} (hl : lv_has ls nL (mLvT b0 base lv)) (h : mLook lv i = some v) : ls[i]? = some (.val (mV b0 base v)) :=
  hl.2.2 (i, mV b0 base v) (List.mem_map.mpr ⟨(i, v), mLook_mem h, rfl⟩)
theorem mLook_pos {lv : MLv} {i : Nat} {v : Value} (b0 base : Nat) (h : mLook lv i = some v) : ∃ k : Nat, (mLvT b0 base lv)[k]? = some (i, mV b0 base v) :=
  List.getElem?_of_mem (List.mem_map.mpr ⟨(i, v), mLook_mem h, rfl⟩)
theorem mSt1_T (b0 base : Nat) (lv : MLv) (i : Nat) (v : Value) : (i, mV b0 base v) :: (mLvT b0 base lv).filter (fun q => !(q.1 == i) && !(q.1 + 1 == i && q.2.category == 2)) = mLvT b0 base (mSt1 lv i v) := by
  simp only [mLvT, mSt1, List.map_cons, List.filter_map, Function.comp_def, mV_cat]
theorem mSt2_T (b0 base : Nat) (lv : MLv) (i : Nat) (v : Value) : (i, mV b0 base v) :: (mLvT b0 base lv).filter (fun q => !(q.1 == i) && (!(q.1 == i + 1) && !(q.1 + 1 == i && q.2.category == 2))) = mLvT b0 base (mSt2 lv i v) := by
  simp only [mLvT, mSt2, List.map_cons, List.filter_map, Function.comp_def, mV_cat]
theorem mArgs_T (b0 base : Nat) : ∀ (i : Nat) (vs : List Value), lv_args i (vs.map (mV b0 base)) = mLvT b0 base (lv_args i vs)
  | _, [] => rfl
  | i, v :: vs => by
    simp only [List.map_cons, lv_args, mLvT, mV_cat]
    rw [mArgs_T b0 base _ vs]
    rfl
theorem mSl_T (b0 base : Nat) (vs : List Value) : (lg_sl (vs.map (mV b0 base))).length = (lg_sl vs).length := by
  induction vs with
  | nil => rfl
  | cons v t ih =>
    simp only [List.map_cons, lg_sl, List.flatMap_cons, List.length_append, mV_cat] at ih ⊢
    split <;> simp_all
theorem mTo_eq {pc : Nat} {off : Int} {t : Nat} (h : mTo pc off = some t) : (pc : Int) + off = (t : Int) := by
  unfold mTo at h
  split at h
  · next h0 => cases h; exact (Int.toNat_of_nonneg h0).symm
  · cases h
theorem mI1_eq {st : List Value} {q : Int32 × List Value} (h : mI1 st = some q) : st = .int q.1 :: q.2 := by
  unfold mI1 at h
  split at h
  · cases h; rfl
  · cases h
theorem mI2_eq {st : List Value} {q : Int32 × Int32 × List Value} (h : mI2 st = some q) : st = .int q.2.1 :: .int q.1 :: q.2.2 := by
  unfold mI2 at h
  split at h
  · cases h; rfl
  · cases h
theorem mL1_eq {st : List Value} {q : Int64 × List Value} (h : mL1 st = some q) : st = .long q.1 :: q.2 := by
  unfold mL1 at h
  split at h
  · cases h; rfl
  · cases h
theorem mL2_eq {st : List Value} {q : Int64 × Int64 × List Value} (h : mL2 st = some q) : st = .long q.2.1 :: .long q.1 :: q.2.2 := by
  unfold mL2 at h
  split at h
  · cases h; rfl
  · cases h
theorem mA1_eq {st : List Value} {q : Option Nat × List Value} (h : mA1 st = some q) : st = va_rf q.1 :: q.2 := by
  unfold mA1 at h
  split at h
  · cases h; rfl
  · cases h; rfl
  · cases h
theorem mLookI_eq {lv : MLv} {i : Nat} {x : Int32} (h : mLookI lv i = some x) : mLook lv i = some (.int x) := by
  unfold mLookI at h
  split at h
  · next h2 => cases h; exact h2
  · cases h
theorem mLookL_eq {lv : MLv} {i : Nat} {x : Int64} (h : mLookL lv i = some x) : mLook lv i = some (.long x) := by
  unfold mLookL at h
  split at h
  · next h2 => cases h; exact h2
  · cases h
theorem mLookA_eq {lv : MLv} {i : Nat} {x : Option Nat} (h : mLookA lv i = some x) : mLook lv i = some (va_rf x) := by
  unfold mLookA at h
  split at h
  · next h2 => cases h; exact h2
  · next h2 => cases h; exact h2
  · cases h
