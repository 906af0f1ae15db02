/-! what the symbolic machine finds, the small machine does, for every script within the bounds -/
section SO
variable {P : MP} {L : Nat} {xs v : Nat → Int32} {y : Nat}
theorem sLook_ok {lv : SLv} {i : Nat} {a : SA} (h : sLook lv i = some a) : mLook (sLvT v lv) i = some (sVal v a) := by
  induction lv with
  | nil => simp [sLook] at h
  | cons q r ih =>
    rw [sLook] at h
    cases hb : Nat.beq q.1 i with
    | true =>
      rw [hb] at h
      have h : some q.2 = some a := h
      cases h
      have e : q.1 = i := Nat.eq_of_beq_eq_true hb
      simp [mLook, sLvT, List.find?, e]
    | false =>
      rw [hb] at h
      have e : ¬ q.1 = i := fun e => by rw [e, Nat.beq_refl] at hb; cases hb
      have h2 := ih h
      simp only [mLook, sLvT, List.map_cons, List.find?] at h2 ⊢
      have : (q.1 == i) = false := by simpa using e
      rw [this]
      exact h2
theorem sSt1_T (lv : SLv) (i : Nat) (a : SA) : mSt1 (sLvT v lv) i (sVal v a) = sLvT v (sSt1 lv i a) := by
  simp only [sLvT, sSt1, mSt1, List.map_cons, List.filter_map, Function.comp_def, sVal_cat]
theorem sSt2_T (lv : SLv) (i : Nat) (a : SA) : mSt2 (sLvT v lv) i (sVal v a) = sLvT v (sSt2 lv i a) := by
  simp only [sLvT, sSt2, mSt2, List.map_cons, List.filter_map, Function.comp_def, sVal_cat]
theorem sIsI_ok {a : SA} (h : sIsI a = true) : ∃ x : Int32, sVal v a = .int x := by
  cases a with
  | inl w => cases w <;> simp [sIsI] at h; exact ⟨_, rfl⟩
  | inr i =>
    have hi : i < 100 := by simp [sIsI, Nat.blt] at h; omega
    exact ⟨v i, by simp only [sVal, if_pos hi]⟩
theorem sIsL_ok {a : SA} (h : sIsL a = true) : ∃ x : Int64, sVal v a = .long x := by
  cases a with
  | inl w => cases w <;> simp [sIsL] at h; exact ⟨_, rfl⟩
  | inr i =>
    have hi : ¬ i < 100 := by
      intro hi
      have : Nat.blt i 100 = true := by simp [Nat.blt]; omega
      simp [sIsL, this] at h
    exact ⟨(v (i - 100)).toInt64, by simp only [sVal, if_neg hi]⟩
theorem sStI_ok {lv : SLv} {st : List SA} {q : Nat × SLv × List SA} (i p : Nat) (h : sStI lv (mpInfo P y).1 i p st = some q) : (mI1 (st.map (sVal v))).bind (fun w : Int32 × List Value => if i < (mpInfo P y).1 then some (p, mSt1 (sLvT v lv) i (.int w.1), w.2) else none) = some (q.1, sLvT v q.2.1, q.2.2.map (sVal v)) := by
  cases st with
  | nil => simp [sStI] at h
  | cons a r =>
    simp only [sStI] at h
    split at h
    · next hi =>
      cases h
      obtain ⟨x, hx⟩ := sIsI_ok (v := v) hi.1
      have := sSt1_T (v := v) lv i a
      rw [hx] at this
      simp [mI1, hx, hi.2, this]
    · cases h
theorem sStA_ok {lv : SLv} {st : List SA} {q : Nat × SLv × List SA} (i p : Nat) (h : sStA lv (mpInfo P y).1 i p st = some q) : (mA1 (st.map (sVal v))).bind (fun w : Option Nat × List Value => if i < (mpInfo P y).1 then some (p, mSt1 (sLvT v lv) i (va_rf w.1), w.2) else none) = some (q.1, sLvT v q.2.1, q.2.2.map (sVal v)) := by
  unfold sStA at h
  split at h
  · next x r =>
    split at h
    · next hi => cases h; have := sSt1_T (v := v) lv i (.inl (.ref x)); simp [mA1, sVal, hi, va_rf] at this ⊢; exact this
    · cases h
  · next r =>
    split at h
    · next hi => cases h; have := sSt1_T (v := v) lv i (.inl .null); simp [mA1, sVal, hi, va_rf] at this ⊢; exact this
    · cases h
  · cases h
theorem sStL_ok {lv : SLv} {st : List SA} {q : Nat × SLv × List SA} (i p : Nat) (h : sStL lv (mpInfo P y).1 i p st = some q) : (mL1 (st.map (sVal v))).bind (fun w : Int64 × List Value => if i + 1 < (mpInfo P y).1 then some (p, mSt2 (sLvT v lv) i (.long w.1), w.2) else none) = some (q.1, sLvT v q.2.1, q.2.2.map (sVal v)) := by
  cases st with
  | nil => simp [sStL] at h
  | cons a r =>
    simp only [sStL] at h
    split at h
    · next hi =>
      cases h
      obtain ⟨x, hx⟩ := sIsL_ok (v := v) hi.1
      have := sSt2_T (v := v) lv i a
      rw [hx] at this
      simp [mL1, hx, hi.2, this]
    · cases h
theorem sLocal_ok {cx : SCx} {ins : Instr} {pc : Nat} {lv : SLv} {st : List SA} {q : Nat × SLv × List SA} (hc : sIn cx v) (h : sLocal P y cx ins pc lv st = some q) : mLocal y P ins pc (sLvT v lv) (st.map (sVal v)) = some (q.1, sLvT v q.2.1, q.2.2.map (sVal v)) := by
  have ldI : ∀ (i p : Nat), sLdI lv i p st = some q → (mLookI (sLvT v lv) i).map (fun w => (p, sLvT v lv, Value.int w :: st.map (sVal v))) = some (q.1, sLvT v q.2.1, q.2.2.map (sVal v)) := by
    intro i p h
    unfold sLdI at h
    split at h
    · next a ha =>
      split at h
      · next hi =>
        cases h
        obtain ⟨x, hx⟩ := sIsI_ok (v := v) hi
        have := sLook_ok (v := v) ha
        simp [mLookI, this, hx]
      · cases h
    · cases h
  have ldA : ∀ (i p : Nat), sLdA lv i p st = some q → (mLookA (sLvT v lv) i).map (fun w => (p, sLvT v lv, va_rf w :: st.map (sVal v))) = some (q.1, sLvT v q.2.1, q.2.2.map (sVal v)) := by
    intro i p h
    unfold sLdA at h
    split at h
    · next x ha => cases h; have := sLook_ok (v := v) ha; simp [mLookA, this, sVal, va_rf]
    · next ha => cases h; have := sLook_ok (v := v) ha; simp [mLookA, this, sVal, va_rf]
    · cases h
  have ldL : ∀ (i p : Nat), sLdL lv i p st = some q → (mLookL (sLvT v lv) i).map (fun w => (p, sLvT v lv, Value.long w :: st.map (sVal v))) = some (q.1, sLvT v q.2.1, q.2.2.map (sVal v)) := by
    intro i p h
    unfold sLdL at h
    split at h
    · next a ha =>
      split at h
      · next hi =>
        cases h
        obtain ⟨x, hx⟩ := sIsL_ok (v := v) hi
        have := sLook_ok (v := v) ha
        simp [mLookL, this, hx]
      · cases h
    · cases h
  have stI := fun (i p : Nat) => sStI_ok (P := P) (v := v) (y := y) (lv := lv) (st := st) (q := q) i p
  have stA := fun (i p : Nat) => sStA_ok (P := P) (v := v) (y := y) (lv := lv) (st := st) (q := q) i p
  have stL := fun (i p : Nat) => sStL_ok (P := P) (v := v) (y := y) (lv := lv) (st := st) (q := q) i p
  cases ins with
  | iload_n k => exact ldI _ _ h
  | iload i => exact ldI _ _ h
  | aload_n k => exact ldA _ _ h
  | aload i => exact ldA _ _ h
  | lload_n k => exact ldL _ _ h
  | lload i => exact ldL _ _ h
  | istore_n k => exact stI _ _ h
  | istore i => exact stI _ _ h
  | astore_n k => exact stA _ _ h
  | astore i => exact stA _ _ h
  | lstore_n k => exact stL _ _ h
  | lstore i => exact stL _ _ h
  | iinc i n =>
    simp only [sLocal, sLocalC, sInc] at h
    split at h
    · next a ha =>
      split at h
      · next x hx =>
        split at h
        · next hi =>
          cases h
          have h1 := sLook_ok (v := v) ha
          rw [sCon_ok hc hx] at h1
          have h2 := sSt1_T (v := v) lv i (.inl (.int (x + Int32.ofInt n)))
          simp only [mLocal, mLocalC, mLookI, h1, Option.bind_some, if_pos hi]
          simp only [sVal] at h2
          rw [h2]
        · cases h
      · cases h
    · cases h
  | dup =>
    simp only [sLocal, sLocalC, sDup] at h
    split at h
    · next a r =>
      split at h
      · next hi => cases h; simp [mLocal, mLocalC, sVal_cat, hi]
      · cases h
    · cases h
  | pop =>
    simp only [sLocal, sLocalC, sPop] at h
    split at h
    · next a r =>
      split at h
      · next hi => cases h; simp [mLocal, mLocalC, sVal_cat, hi]
      · cases h
    · cases h
  | dup2 =>
    simp only [sLocal, sLocalC, sDup2] at h
    split at h
    · next a b r =>
      split at h
      · next hi => cases h; simp [mLocal, mLocalC, sVal_cat, hi.1, hi.2]
      · cases h
    · cases h
  | _ => simp [sLocal, sLocalC] at h
theorem mHeap_xs {xs2 : Nat → Int32} {ins : Instr} {pc : Nat} {ops : List Value} {σ : List MC} (hs : sNoScr ops = true) : mHeap P L xs y ins pc ops σ = mHeap P L xs2 y ins pc ops σ := by
  cases ins with
  | iaload =>
    simp only [mHeap, mHeapC]
    cases hq : mIA ops with
    | none => rfl
    | some q =>
      have he := mIA_eq hq
      rw [he] at hs
      have ha : q.2.1 ≠ 0 := by
        intro e
        rw [e] at hs
        simp [sNoScr] at hs
      simp only [Option.bind_some]
      cases hk : q.2.1 with
      | zero => exact absurd hk ha
      | succ k => rfl
  | _ => rfl
theorem mHeap_noLocal {ins : Instr} {pc : Nat} {ops : List Value} {σ : List MC} {q : Nat × List Value × List MC} (h : mHeap P L xs y ins pc ops σ = some q) (lv : MLv) (st : List Value) : mLocal y P ins pc lv st = none := by
  cases ins <;> first | rfl | (simp [mHeap, mHeapC] at h; done)
theorem mHeap_noEnd {ins : Instr} {pc : Nat} {ops : List Value} {σ : List MC} {q : Nat × List Value × List MC} (h : mHeap P L xs y ins pc ops σ = some q) (st : List Value) : mEnd P y ins st = none := by
  cases ins <;> first | rfl | (simp [mHeap, mHeapC] at h; done)
theorem mLocal_noEnd {ins : Instr} {pc : Nat} {lv : MLv} {ops : List Value} {q : Nat × MLv × List Value} (h : mLocal y P ins pc lv ops = some q) (st : List Value) : mEnd P y ins st = none := by
  cases ins <;> first | rfl | (simp [mLocal, mLocalC] at h; done)
theorem mLocal_noCall {ins : Instr} {pc : Nat} {lv : MLv} {ops : List Value} {q : Nat × MLv × List Value} (h : mLocal y P ins pc lv ops = some q) (st : List Value) (σ : List MC) : mCallOf P y ins st σ = none := by
  cases ins <;> first | rfl | (simp [mLocal, mLocalC] at h; done)
theorem mHeap_noCall {ins : Instr} {pc : Nat} {ops : List Value} {σ : List MC} {q : Nat × List Value × List MC} (h : mHeap P L xs y ins pc ops σ = some q) (st : List Value) (τ : List MC) : mCallOf P y ins st τ = none := by
  cases ins with
  | invokevirtual i => simp [mHeap, mHeapC] at h
  | invokespecial i =>
    simp only [mHeap, mHeapC, Option.bind_eq_some_iff] at h
    obtain ⟨w, hw, h⟩ := h
    split at h
    · next h5 => simp [mCallOf, mCallOfC, hw, h5]
    · cases h
  | invokestatic i =>
    simp only [mHeap, mHeapC, Option.bind_eq_some_iff] at h
    obtain ⟨w, hw, h⟩ := h
    split at h
    · next h5 => simp [mCallOf, mCallOfC, hw, h5]
    · split at h
      · next h5 => simp [mCallOf, mCallOfC, hw, h5]
      · split at h
        · next h5 => simp [mCallOf, mCallOfC, hw, h5]
        · cases h
  | _ => first | rfl | (simp [mHeap, mHeapC] at h; done)
theorem mCallOf_noEnd {ins : Instr} {ops : List Value} {σ : List MC} {w : Nat × List Value × List Value} (h : mCallOf P y ins ops σ = some w) (st : List Value) : mEnd P y ins st = none := by
  cases ins <;> first | rfl | (simp [mCallOf, mCallOfC] at h; done)
end SO
