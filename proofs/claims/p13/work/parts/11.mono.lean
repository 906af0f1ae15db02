/-! THE STORE ONLY GROWS -/
theorem mPut_len (σ : List MC) (a : Nat) (e : MC) : (mPut σ a e).length = σ.length := by cases a <;> simp [mPut]
theorem mPut_sl {σ : List MC} {a : Nat} {e0 e : MC} (h : mCell σ a = some e0) (hz : mSz e = mSz e0) : mSl (mPut σ a e) = mSl σ := by
  cases a with
  | zero => simp [mCell] at h
  | succ k => exact mSl_set h hz
def mLe (σ τ : List MC) : Prop := σ.length ≤ τ.length ∧ mSl σ ≤ mSl τ
theorem mLe.rf {σ : List MC} : mLe σ σ := ⟨Nat.le_refl _, Nat.le_refl _⟩
theorem mLe.tr {σ τ υ : List MC} (h1 : mLe σ τ) (h2 : mLe τ υ) : mLe σ υ := ⟨Nat.le_trans h1.1 h2.1, Nat.le_trans h1.2 h2.2⟩
theorem mLe.push {σ : List MC} {e : MC} : mLe σ (σ ++ [e]) := ⟨by simp, by rw [mSl_push]; omega⟩
theorem mLe.put {σ : List MC} {a : Nat} {e0 e : MC} (h : mCell σ a = some e0) (hz : mSz e = mSz e0) : mLe σ (mPut σ a e) := ⟨by rw [mPut_len]; exact Nat.le_refl _, by rw [mPut_sl h hz]; exact Nat.le_refl _⟩
theorem mLe.newa {σ : List MC} {pc t : Nat} {q : Int32 × List Value} {w : Nat × List Value × List MC} (h : mNewA σ pc t q = some w) : mLe σ w.2.2 := by
  unfold mNewA at h
  split at h
  · cases h
  · split at h
    · cases h; exact mLe.push
    · cases h
theorem mCellO {σ : List MC} {a : Nat} {o : Nat × List Value} (h : mObj σ a = some o) : mCell σ a = some (.inr o) := by
  obtain ⟨k, rfl, hk⟩ := mObj_eq h; exact hk
theorem mCellI {σ : List MC} {a : Nat} {g : Nat × (Nat → Int32)} (h : mCInts σ a = some g) : mCell σ a = some (.inl (0, g.1, .inl g.2)) := by
  obtain ⟨k, rfl, hk⟩ := mCInts_eq h; exact hk
theorem mCellZ {σ : List MC} {a : Nat} {g : Nat × (Nat → Int32)} (h : mBools σ a = some g) : mCell σ a = some (.inl (2, g.1, .inl g.2)) := by
  obtain ⟨k, rfl, hk⟩ := mBools_eq h; exact hk
theorem mCellL {σ : List MC} {a : Nat} {g : Nat × (Nat → Int64)} (h : mLongs σ a = some g) : mCell σ a = some (.inl (1, g.1, .inr (.inl g.2))) := by
  obtain ⟨k, rfl, hk⟩ := mLongs_eq h; exact hk
theorem mCellQ {σ : List MC} {a : Nat} {g : Nat × Nat × (Nat → Option Nat)} (h : mRefs σ a = some g) : mCell σ a = some (.inl (g.1, g.2.1, .inr (.inr (.inr (.inr g.2.2))))) := by
  obtain ⟨k, rfl, hk, -⟩ := mRefs_eq h; exact hk
theorem mHeap_mono {P : MP} {L : Nat} {xs : Nat → Int32} {y : Nat} {ins : Instr} {pc : Nat} {st : List Value} {σ : List MC} {q : Nat × List Value × List MC} (h : mHeap P L xs y ins pc st σ = some q) : mLe σ q.2.2 := by
  cases ins with
  | getfield i =>
    simp only [mHeap, mHeapC] at h
    split at h
    · simp only [Option.bind_eq_some_iff] at h
      obtain ⟨o, ho, w, hw, h⟩ := h
      split at h
      · simp only [Option.map_eq_some_iff] at h
        obtain ⟨v, hv, rfl⟩ := h
        exact mLe.rf
      · cases h
    · cases h
  | putfield i =>
    simp only [mHeap, mHeapC] at h
    split at h
    · simp only [Option.bind_eq_some_iff] at h
      obtain ⟨o, ho, w, hw, h⟩ := h
      split at h
      · cases h; exact mLe.put (mCellO ho) (by simp [mSz])
      · cases h
    · cases h
  | iaload =>
    simp only [mHeap, mHeapC, Option.bind_eq_some_iff] at h
    obtain ⟨w, hw, g, hg, h⟩ := h
    split at h
    · cases h; exact mLe.rf
    · cases h
  | laload =>
    simp only [mHeap, mHeapC, Option.bind_eq_some_iff] at h
    obtain ⟨w, hw, g, hg, h⟩ := h
    split at h
    · cases h; exact mLe.rf
    · cases h
  | baload =>
    simp only [mHeap, mHeapC, Option.bind_eq_some_iff] at h
    obtain ⟨w, hw, g, hg, h⟩ := h
    split at h
    · cases h; exact mLe.rf
    · cases h
  | aaload =>
    simp only [mHeap, mHeapC, Option.bind_eq_some_iff] at h
    obtain ⟨w, hw, g, hg, h⟩ := h
    split at h
    · cases h; exact mLe.rf
    · cases h
  | iastore =>
    simp only [mHeap, mHeapC] at h
    split at h
    · simp only [Option.bind_eq_some_iff] at h
      obtain ⟨g, hg, h⟩ := h
      split at h
      · cases h; exact mLe.put (mCellI hg) (by simp [mSz])
      · cases h
    · cases h
  | lastore =>
    simp only [mHeap, mHeapC] at h
    split at h
    · simp only [Option.bind_eq_some_iff] at h
      obtain ⟨g, hg, h⟩ := h
      split at h
      · cases h; exact mLe.put (mCellL hg) (by simp [mSz])
      · cases h
    · cases h
  | bastore =>
    simp only [mHeap, mHeapC] at h
    split at h
    · simp only [Option.bind_eq_some_iff] at h
      obtain ⟨g, hg, h⟩ := h
      split at h
      · cases h; exact mLe.put (mCellZ hg) (by simp [mSz])
      · cases h
    · cases h
  | aastore =>
    simp only [mHeap, mHeapC] at h
    split at h
    · simp only [Option.bind_eq_some_iff] at h
      obtain ⟨g, hg, h⟩ := h
      split at h
      · cases h; exact mLe.put (mCellQ hg) (by simp [mSz])
      · cases h
    · simp only [Option.bind_eq_some_iff] at h
      obtain ⟨g, hg, ev, hev, h⟩ := h
      split at h
      · cases h; exact mLe.put (mCellQ hg) (by simp [mSz])
      · cases h
    · cases h
  | arraylength =>
    simp only [mHeap, mHeapC] at h
    split at h
    · simp only [Option.map_eq_some_iff] at h
      obtain ⟨n, hn, rfl⟩ := h
      exact mLe.rf
    · cases h
  | newarray t =>
    simp only [mHeap, mHeapC, Option.bind_eq_some_iff] at h
    obtain ⟨w, hw, k, hk, h⟩ := h
    exact mLe.newa h
  | anewarray i =>
    simp only [mHeap, mHeapC, Option.bind_eq_some_iff] at h
    obtain ⟨w, hw, k, hk, h⟩ := h
    split at h
    · exact mLe.newa h
    · cases h
  | new i =>
    simp only [mHeap, mHeapC, Option.map_eq_some_iff] at h
    obtain ⟨w, hw, rfl⟩ := h
    exact mLe.push
  | invokespecial i =>
    simp only [mHeap, mHeapC, Option.bind_eq_some_iff] at h
    obtain ⟨w, hi, h⟩ := h
    split at h
    · split at h
      · split at h
        · cases h; exact mLe.rf
        · cases h
      · cases h
    · cases h
  | invokestatic i =>
    simp only [mHeap, mHeapC, Option.bind_eq_some_iff] at h
    obtain ⟨w, hi, h⟩ := h
    split at h
    · split at h
      · simp only [Option.bind_eq_some_iff] at h
        obtain ⟨f, hf, g, hg, h⟩ := h
        split at h
        · cases h; exact mLe.put (mCellI hg) (by simp [mSz])
        · cases h
      · cases h
    · split at h
      · split at h
        · split at h
          · cases h; exact mLe.rf
          · cases h
        · cases h
      · split at h
        · split at h
          · split at h
            · cases h; exact mLe.rf
            · cases h
          · cases h
        · cases h
  | invokevirtual i =>
    simp only [mHeap, mHeapC, Option.bind_eq_some_iff] at h
    obtain ⟨w, hi, h⟩ := h
    split at h
    · split at h
      · simp only [Option.bind_eq_some_iff] at h
        obtain ⟨f, hf, h⟩ := h
        split at h
        · cases h; exact mLe.push
        · cases h
      · cases h
    · cases h
  | checkcast i =>
    simp only [mHeap, mHeapC] at h
    split at h
    · simp only [Option.bind_eq_some_iff] at h
      obtain ⟨f, hf, h⟩ := h
      split at h
      · cases h; exact mLe.rf
      · cases h
    · cases h
  | _ => simp [mHeap, mHeapC] at h
theorem mStep_mono {P : MP} {L : Nat} {xs : Nat → Int32} {y : Nat} {ins : Instr} {pc : Nat} {lv : MLv} {st : List Value} {σ : List MC} {q : MR} (h : mStep P L xs y ins pc lv st σ = some q) : mLe σ q.2.2.2 := by
  unfold mStep at h
  split at h
  · cases h; exact mLe.rf
  · simp only [Option.map_eq_some_iff] at h
    obtain ⟨w, hw, rfl⟩ := h
    exact mHeap_mono hw
theorem mRun_mono {P : MP} {L : Nat} {xs : Nat → Int32} {call : Nat → List Value → List MC → Option MRes} (hc : ∀ y as σ r, call y as σ = some r → mLe σ r.2) {y : Nat} : ∀ (n pc : Nat) (lv : MLv) (st : List Value) (σ : List MC) (r : MRes), mRun P L xs call y n pc lv st σ = some r → mLe σ r.2 := by
  intro n
  induction n with
  | zero => intro pc lv st σ r h; simp [mRun] at h
  | succ n ih =>
    intro pc lv st σ r h
    rw [mRun] at h
    split at h
    · cases h
    · split at h
      · cases h; exact mLe.rf
      · split at h
        · split at h
          · next hr => exact (hc _ _ _ _ hr).tr (ih _ _ _ _ _ h)
          · cases h
        · split at h
          · next hq => exact (mStep_mono hq).tr (ih _ _ _ _ _ h)
          · cases h
theorem mExec_mono {P : MP} {L : Nat} {xs : Nat → Int32} {N : Nat} : ∀ (d y : Nat) (as : List Value) (σ : List MC) (r : MRes), mExec P L xs N d y as σ = some r → mLe σ r.2 := by
  intro d
  induction d with
  | zero => intro y as σ r h; simp [mExec] at h
  | succ d ih => intro y as σ r h; exact mRun_mono (fun y as σ r h => ih y as σ r h) _ _ _ _ _ _ h
