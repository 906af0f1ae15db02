/-! THE SMALL MACHINE'S STORE IN THE HEAP -/
def mHp (D : va_G) (cl : List vw_C) (aC : Nat → ClassId) (b0 base : Nat) (s : State) (σ : List MC) (H : Heap) (locs : List Loc) : Prop :=
  va_P D cl (mW b0 base aC σ) H ∧ H.size = base + σ.length ∧ va_S (fun q => base ≤ q) s.heap H locs
theorem mHp.upd {D : va_G} {cl : List vw_C} {aC : Nat → ClassId} {b0 base : Nat} {s : State} {σ : List MC} {H H1 : Heap} {locs : List Loc} (h : mHp D cl aC b0 base s σ H locs) {k : Nat} {e0 e : MC} (hk : σ[k]? = some e0) (he : va_at D cl (base + k, mE b0 base aC e) H1) (z : H1.size = H.size) (oq : ∀ q, q ≠ base + k → H1[q]? = H[q]?) (i : Nat) : mHp D cl aC b0 base s (σ.set k e) H1 (locs ++ [⟨base + k, i⟩]) := by
  obtain ⟨hP, hz, hS⟩ := h
  refine ⟨?_, by rw [z, hz, List.length_set], hS.put z oq (Nat.le_add_right _ _)⟩
  rw [mW_set]
  exact hP.set mW_D (mW_get hk) he oq
theorem mHp.push {D : va_G} {cl : List vw_C} {aC : Nat → ClassId} {b0 base : Nat} {s : State} {σ : List MC} {H H1 : Heap} {locs : List Loc} (h : mHp D cl aC b0 base s σ H locs) {e : MC} (he : va_at D cl (H.size, mE b0 base aC e) H1) (z : H1.size = H.size + 1) (oq : ∀ q, q < H.size → H1[q]? = H[q]?) : mHp D cl aC b0 base s (σ ++ [e]) H1 locs := by
  obtain ⟨hP, hz, hS⟩ := h
  refine ⟨?_, by rw [z, hz, List.length_append]; simp; omega, ⟨Nat.le_trans hS.1 (by omega), fun x h1 h2 => (oq x (Nat.lt_of_lt_of_le h1 hS.1)).trans (hS.2.1 x h1 h2), hS.2.2⟩⟩
  rw [mW_push]
  refine va_P.app (hP.kept fun k x hx => oq x.1 ((hP k x hx).lt)) (fun k x hx => ?_)
  have hk : k < 1 := (List.getElem?_eq_some_iff.mp hx).1
  rw [show k = 0 by omega] at hx
  cases hx
  rw [← hz]
  exact he
theorem mSl_set {σ : List MC} {k : Nat} {e0 e : MC} (hk : σ[k]? = some e0) (hz : mSz e = mSz e0) : mSl (σ.set k e) = mSl σ := by
  induction σ generalizing k with
  | nil => simp at hk
  | cons a t ih =>
    cases k with
    | zero => simp at hk; subst hk; simp [mSl, hz]
    | succ k =>
      simp at hk
      have := ih hk
      simp only [mSl, List.set_cons_succ, List.map_cons, List.sum_cons] at this ⊢
      rw [this]
theorem mSl_push {σ : List MC} {e : MC} : mSl (σ ++ [e]) = mSl σ + mSz e := by simp [mSl]
theorem mObj_eq {σ : List MC} {a : Nat} {o : Nat × List Value} (h : mObj σ a = some o) : ∃ k, a = k + 1 ∧ σ[k]? = some (.inr o) := by
  unfold mObj mCell at h
  cases a with
  | zero => simp at h
  | succ k =>
    refine ⟨k, rfl, ?_⟩
    simp only at h
    split at h
    · next h2 => cases h; exact h2
    · cases h
theorem mCInts_eq {σ : List MC} {a : Nat} {g : Nat × (Nat → Int32)} (h : mCInts σ a = some g) : ∃ k, a = k + 1 ∧ σ[k]? = some (.inl (0, g.1, .inl g.2)) := by
  unfold mCInts mCell at h
  cases a with
  | zero => simp at h
  | succ k =>
    refine ⟨k, rfl, ?_⟩
    simp only at h
    split at h
    · next h2 => cases h; exact h2
    · cases h
theorem mBools_eq {σ : List MC} {a : Nat} {g : Nat × (Nat → Int32)} (h : mBools σ a = some g) : ∃ k, a = k + 1 ∧ σ[k]? = some (.inl (2, g.1, .inl g.2)) := by
  unfold mBools mCell at h
  cases a with
  | zero => simp at h
  | succ k =>
    refine ⟨k, rfl, ?_⟩
    simp only at h
    split at h
    · next h2 => cases h; exact h2
    · cases h
theorem mLongs_eq {σ : List MC} {a : Nat} {g : Nat × (Nat → Int64)} (h : mLongs σ a = some g) : ∃ k, a = k + 1 ∧ σ[k]? = some (.inl (1, g.1, .inr (.inl g.2))) := by
  unfold mLongs mCell at h
  cases a with
  | zero => simp at h
  | succ k =>
    refine ⟨k, rfl, ?_⟩
    simp only at h
    split at h
    · next h2 => cases h; exact h2
    · cases h
theorem mRefs_eq {σ : List MC} {a : Nat} {g : Nat × Nat × (Nat → Option Nat)} (h : mRefs σ a = some g) : ∃ k, a = k + 1 ∧ σ[k]? = some (.inl (g.1, g.2.1, .inr (.inr (.inr (.inr g.2.2))))) ∧ 3 ≤ g.1 ∧ g.1 < 10 := by
  unfold mRefs mCell at h
  cases a with
  | zero => simp at h
  | succ k =>
    refine ⟨k, rfl, ?_⟩
    simp only at h
    split at h
    · next h2 =>
      split at h
      · next h3 => cases h; exact ⟨h2, h3⟩
      · cases h
    · cases h
theorem mIn_eq {i : Int32} {n : Nat} (h : mIn i n = true) : vp_in i n := by
  simp only [mIn, Bool.and_eq_true, Bool.not_eq_true', decide_eq_false_iff_not, decide_eq_true_eq] at h
  exact fun q => q.elim h.1 (fun z => absurd h.2 (Nat.not_lt.mpr z))
/-- the array types of the small machine, by their numbers -/
def mTys (aC : Nat → ClassId) (tyL : List FieldType) : List (ClassId × FieldType) := tyL.mapIdx (fun i t => (aC i, t))
theorem mTys_at {aC : Nat → ClassId} {tyL : List FieldType} {k : Nat} {t : FieldType} (h : tyL[k]? = some t) : (mTys aC tyL)[k]? = some (aC k, t) := by simp [mTys, h]
/-- of each array type, its class: the first found by its name; its component -/
def mAr (aC : Nat → ClassId) (tyL : List FieldType) (s : State) : Prop := ∀ (k : Nat) (t : FieldType), tyL[k]? = some t → ∃ (kA : Class) (comp : ClassId), s.vm.classes[aC k]? = some kA ∧ kA.kind = .array comp t ∧ s.vm.findClass ("[" ++ t.toString) = some (aC k) ∧ (t.isReference = true → s.vm.findClass (match t with | .object C => C | u => u.toString) = some comp)
theorem mAr.arr {aC : Nat → ClassId} {tyL : List FieldType} {s : State} (h : mAr aC tyL s) {k : Nat} {t : FieldType} (hk : tyL[k]? = some t) : ArrOfT s (aC k) t := by
  obtain ⟨kA, comp, h1, h2, -, -⟩ := h k t hk
  exact fun n z => ⟨(fun q h => by cases h), kA, h1, comp, h2⟩
theorem mAr.moved {aC : Nat → ClassId} {tyL : List FieldType} {u U : State} (hvm : u.vm.Alike U.vm) (h : mAr aC tyL u) : mAr aC tyL U := by
  intro k t hk
  obtain ⟨kA, comp, h1, h2, h3, h4⟩ := h k t hk
  obtain ⟨k', hk', he⟩ := hvm.2.2 _ _ h1
  exact ⟨k', comp, hk', by rw [he]; exact h2, by rw [hvm.findClass]; exact h3, fun hr => by rw [hvm.findClass]; exact h4 hr⟩
