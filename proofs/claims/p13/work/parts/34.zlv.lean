/-! locals may be put in order and dropped -/
def mGe (lv lv2 : MLv) : Prop := ∀ q ∈ lv2, mLook lv q.1 = some q.2
theorem mLook_cons (i j : Nat) (v : Value) (lv : MLv) : mLook ((i, v) :: lv) j = if i = j then some v else mLook lv j := by
  by_cases e : i = j
  · simp [mLook, e]
  · simp only [mLook]
    rw [List.find?_cons_of_neg (by simpa using e), if_neg e]
theorem mLook_flt (f : Nat × Value → Bool) : ∀ (lv : MLv) (j : Nat) (w : Value), mLook lv j = some w → f (j, w) = true → mLook (lv.filter f) j = some w
  | [], j, w, h, _ => by simp [mLook] at h
  | (k, v) :: r, j, w, h, hf => by
    rw [mLook_cons] at h
    by_cases e : k = j
    · subst e
      rw [if_pos rfl] at h
      injection h with h
      subst h
      rw [List.filter_cons, if_pos hf, mLook_cons, if_pos rfl]
    · rw [if_neg e] at h
      rw [List.filter_cons]
      split
      · rw [mLook_cons, if_neg e]; exact mLook_flt f r j w h hf
      · exact mLook_flt f r j w h hf
theorem mLook_mm {lv : MLv} {j : Nat} {w : Value} (h : mLook lv j = some w) : (j, w) ∈ lv := by
  simp only [mLook, Option.map_eq_some_iff] at h
  obtain ⟨q, hq, rfl⟩ := h
  have h1 := List.mem_of_find?_eq_some hq
  have h2 : q.1 = j := by simpa using List.find?_some hq
  rw [← h2]; exact h1
theorem mGe_look {lv lv2 : MLv} (h : mGe lv lv2) {j : Nat} {w : Value} (hw : mLook lv2 j = some w) : mLook lv j = some w := h _ (mLook_mm hw)
theorem mGe_st1 {lv lv2 : MLv} (h : mGe lv lv2) (i : Nat) (v : Value) : mGe (mSt1 lv i v) (mSt1 lv2 i v) := by
  intro q hq
  simp only [mSt1, List.mem_cons] at hq
  rcases hq with rfl | hq
  · rw [mSt1, mLook_cons, if_pos rfl]
  · obtain ⟨h1, h2⟩ := List.mem_filter.mp hq
    have hne : ¬ i = q.1 := fun e => by simp [e] at h2
    rw [mSt1, mLook_cons, if_neg hne]
    exact mLook_flt _ lv q.1 q.2 (h q h1) h2
theorem mGe_st2 {lv lv2 : MLv} (h : mGe lv lv2) (i : Nat) (v : Value) : mGe (mSt2 lv i v) (mSt2 lv2 i v) := by
  intro q hq
  simp only [mSt2, List.mem_cons] at hq
  rcases hq with rfl | hq
  · rw [mSt2, mLook_cons, if_pos rfl]
  · obtain ⟨h1, h2⟩ := List.mem_filter.mp hq
    have hne : ¬ i = q.1 := fun e => by simp [e] at h2
    rw [mSt2, mLook_cons, if_neg hne]
    exact mLook_flt _ lv q.1 q.2 (h q h1) h2
theorem mGe_I {lv lv2 : MLv} (h : mGe lv lv2) {i : Nat} {v : Int32} (hv : mLookI lv2 i = some v) : mLookI lv i = some v := by
  unfold mLookI at hv
  split at hv
  · next x hx => injection hv with hv; subst hv; simp only [mLookI, mGe_look h hx]
  · cases hv
theorem mGe_L {lv lv2 : MLv} (h : mGe lv lv2) {i : Nat} {v : Int64} (hv : mLookL lv2 i = some v) : mLookL lv i = some v := by
  unfold mLookL at hv
  split at hv
  · next x hx => injection hv with hv; subst hv; simp only [mLookL, mGe_look h hx]
  · cases hv
theorem mGe_A {lv lv2 : MLv} (h : mGe lv lv2) {i : Nat} {v : Option Nat} (hv : mLookA lv2 i = some v) : mLookA lv i = some v := by
  unfold mLookA at hv
  split at hv
  · next x hx => injection hv with hv; subst hv; simp only [mLookA, mGe_look h hx]
  · next hx => injection hv with hv; subst hv; simp only [mLookA, mGe_look h hx]
  · cases hv
theorem mLocal_ge {P : MP} {y : Nat} {ins : Instr} {pc : Nat} {lv lv2 : MLv} {st : List Value} {q : Nat × MLv × List Value} (hg : mGe lv lv2) (h : mLocal y P ins pc lv2 st = some q) : ∃ lv3, mLocal y P ins pc lv st = some (q.1, lv3, q.2.2) ∧ mGe lv3 q.2.1 := by
  cases ins with
  | aload_n k =>
    simp only [mLocal, mLocalC, Option.map_eq_some_iff] at h
    obtain ⟨v, hv, rfl⟩ := h
    exact ⟨lv, by simp only [mLocal, mLocalC, mGe_A hg hv, Option.map_some], hg⟩
  | aload k =>
    simp only [mLocal, mLocalC, Option.map_eq_some_iff] at h
    obtain ⟨v, hv, rfl⟩ := h
    exact ⟨lv, by simp only [mLocal, mLocalC, mGe_A hg hv, Option.map_some], hg⟩
  | iload_n k =>
    simp only [mLocal, mLocalC, Option.map_eq_some_iff] at h
    obtain ⟨v, hv, rfl⟩ := h
    exact ⟨lv, by simp only [mLocal, mLocalC, mGe_I hg hv, Option.map_some], hg⟩
  | iload k =>
    simp only [mLocal, mLocalC, Option.map_eq_some_iff] at h
    obtain ⟨v, hv, rfl⟩ := h
    exact ⟨lv, by simp only [mLocal, mLocalC, mGe_I hg hv, Option.map_some], hg⟩
  | lload_n k =>
    simp only [mLocal, mLocalC, Option.map_eq_some_iff] at h
    obtain ⟨v, hv, rfl⟩ := h
    exact ⟨lv, by simp only [mLocal, mLocalC, mGe_L hg hv, Option.map_some], hg⟩
  | lload k =>
    simp only [mLocal, mLocalC, Option.map_eq_some_iff] at h
    obtain ⟨v, hv, rfl⟩ := h
    exact ⟨lv, by simp only [mLocal, mLocalC, mGe_L hg hv, Option.map_some], hg⟩
  | istore_n k =>
    simp only [mLocal, mLocalC, Option.bind_eq_some_iff] at h
    obtain ⟨v, hv, h⟩ := h
    split at h
    · next hlt =>
      injection h with h
      subst h
      exact ⟨_, by simp only [mLocal, mLocalC, hv, Option.bind_some, if_pos hlt], mGe_st1 hg _ _⟩
    · cases h
  | istore k =>
    simp only [mLocal, mLocalC, Option.bind_eq_some_iff] at h
    obtain ⟨v, hv, h⟩ := h
    split at h
    · next hlt =>
      injection h with h
      subst h
      exact ⟨_, by simp only [mLocal, mLocalC, hv, Option.bind_some, if_pos hlt], mGe_st1 hg _ _⟩
    · cases h
  | astore_n k =>
    simp only [mLocal, mLocalC, Option.bind_eq_some_iff] at h
    obtain ⟨v, hv, h⟩ := h
    split at h
    · next hlt =>
      injection h with h
      subst h
      exact ⟨_, by simp only [mLocal, mLocalC, hv, Option.bind_some, if_pos hlt], mGe_st1 hg _ _⟩
    · cases h
  | astore k =>
    simp only [mLocal, mLocalC, Option.bind_eq_some_iff] at h
    obtain ⟨v, hv, h⟩ := h
    split at h
    · next hlt =>
      injection h with h
      subst h
      exact ⟨_, by simp only [mLocal, mLocalC, hv, Option.bind_some, if_pos hlt], mGe_st1 hg _ _⟩
    · cases h
  | lstore_n k =>
    simp only [mLocal, mLocalC, Option.bind_eq_some_iff] at h
    obtain ⟨v, hv, h⟩ := h
    split at h
    · next hlt =>
      injection h with h
      subst h
      exact ⟨_, by simp only [mLocal, mLocalC, hv, Option.bind_some, if_pos hlt], mGe_st2 hg _ _⟩
    · cases h
  | lstore k =>
    simp only [mLocal, mLocalC, Option.bind_eq_some_iff] at h
    obtain ⟨v, hv, h⟩ := h
    split at h
    · next hlt =>
      injection h with h
      subst h
      exact ⟨_, by simp only [mLocal, mLocalC, hv, Option.bind_some, if_pos hlt], mGe_st2 hg _ _⟩
    · cases h
  | iinc i n =>
    simp only [mLocal, mLocalC, Option.bind_eq_some_iff] at h
    obtain ⟨v, hv, h⟩ := h
    split at h
    · next hlt =>
      injection h with h
      subst h
      exact ⟨_, by simp only [mLocal, mLocalC, mGe_I hg hv, Option.bind_some, if_pos hlt], mGe_st1 hg _ _⟩
    · cases h
  | iconst n =>
    simp only [mLocal, mLocalC, Option.some.injEq] at h
    subst h
    exact ⟨lv, rfl, hg⟩
  | bipush n =>
    simp only [mLocal, mLocalC, Option.some.injEq] at h
    subst h
    exact ⟨lv, rfl, hg⟩
  | sipush n =>
    simp only [mLocal, mLocalC, Option.some.injEq] at h
    subst h
    exact ⟨lv, rfl, hg⟩
  | lconst n =>
    simp only [mLocal, mLocalC, Option.some.injEq] at h
    subst h
    exact ⟨lv, rfl, hg⟩
  | aconst_null  =>
    simp only [mLocal, mLocalC, Option.some.injEq] at h
    subst h
    exact ⟨lv, rfl, hg⟩
  | ldc i =>
    simp only [mLocal, mLocalC, Option.map_eq_some_iff] at h
    obtain ⟨v, hv, rfl⟩ := h
    exact ⟨lv, by simp only [mLocal, mLocalC, hv, Option.map_some], hg⟩
  | ldc2_w i =>
    simp only [mLocal, mLocalC, Option.map_eq_some_iff] at h
    obtain ⟨v, hv, rfl⟩ := h
    exact ⟨lv, by simp only [mLocal, mLocalC, hv, Option.map_some], hg⟩
  | iadd  =>
    simp only [mLocal, mLocalC, Option.map_eq_some_iff] at h
    obtain ⟨v, hv, rfl⟩ := h
    exact ⟨lv, by simp only [mLocal, mLocalC, hv, Option.map_some], hg⟩
  | isub  =>
    simp only [mLocal, mLocalC, Option.map_eq_some_iff] at h
    obtain ⟨v, hv, rfl⟩ := h
    exact ⟨lv, by simp only [mLocal, mLocalC, hv, Option.map_some], hg⟩
  | imul  =>
    simp only [mLocal, mLocalC, Option.map_eq_some_iff] at h
    obtain ⟨v, hv, rfl⟩ := h
    exact ⟨lv, by simp only [mLocal, mLocalC, hv, Option.map_some], hg⟩
  | iand  =>
    simp only [mLocal, mLocalC, Option.map_eq_some_iff] at h
    obtain ⟨v, hv, rfl⟩ := h
    exact ⟨lv, by simp only [mLocal, mLocalC, hv, Option.map_some], hg⟩
  | ior  =>
    simp only [mLocal, mLocalC, Option.map_eq_some_iff] at h
    obtain ⟨v, hv, rfl⟩ := h
    exact ⟨lv, by simp only [mLocal, mLocalC, hv, Option.map_some], hg⟩
  | ishl  =>
    simp only [mLocal, mLocalC, Option.map_eq_some_iff] at h
    obtain ⟨v, hv, rfl⟩ := h
    exact ⟨lv, by simp only [mLocal, mLocalC, hv, Option.map_some], hg⟩
  | ishr  =>
    simp only [mLocal, mLocalC, Option.map_eq_some_iff] at h
    obtain ⟨v, hv, rfl⟩ := h
    exact ⟨lv, by simp only [mLocal, mLocalC, hv, Option.map_some], hg⟩
  | iushr  =>
    simp only [mLocal, mLocalC, Option.map_eq_some_iff] at h
    obtain ⟨v, hv, rfl⟩ := h
    exact ⟨lv, by simp only [mLocal, mLocalC, hv, Option.map_some], hg⟩
  | ineg  =>
    simp only [mLocal, mLocalC, Option.map_eq_some_iff] at h
    obtain ⟨v, hv, rfl⟩ := h
    exact ⟨lv, by simp only [mLocal, mLocalC, hv, Option.map_some], hg⟩
  | i2l  =>
    simp only [mLocal, mLocalC, Option.map_eq_some_iff] at h
    obtain ⟨v, hv, rfl⟩ := h
    exact ⟨lv, by simp only [mLocal, mLocalC, hv, Option.map_some], hg⟩
  | l2i  =>
    simp only [mLocal, mLocalC, Option.map_eq_some_iff] at h
    obtain ⟨v, hv, rfl⟩ := h
    exact ⟨lv, by simp only [mLocal, mLocalC, hv, Option.map_some], hg⟩
  | ladd  =>
    simp only [mLocal, mLocalC, Option.map_eq_some_iff] at h
    obtain ⟨v, hv, rfl⟩ := h
    exact ⟨lv, by simp only [mLocal, mLocalC, hv, Option.map_some], hg⟩
  | lsub  =>
    simp only [mLocal, mLocalC, Option.map_eq_some_iff] at h
    obtain ⟨v, hv, rfl⟩ := h
    exact ⟨lv, by simp only [mLocal, mLocalC, hv, Option.map_some], hg⟩
  | lmul  =>
    simp only [mLocal, mLocalC, Option.map_eq_some_iff] at h
    obtain ⟨v, hv, rfl⟩ := h
    exact ⟨lv, by simp only [mLocal, mLocalC, hv, Option.map_some], hg⟩
  | lcmp  =>
    simp only [mLocal, mLocalC, Option.map_eq_some_iff] at h
    obtain ⟨v, hv, rfl⟩ := h
    exact ⟨lv, by simp only [mLocal, mLocalC, hv, Option.map_some], hg⟩
  | goto off =>
    simp only [mLocal, mLocalC, Option.map_eq_some_iff] at h
    obtain ⟨v, hv, rfl⟩ := h
    exact ⟨lv, by simp only [mLocal, mLocalC, hv, Option.map_some], hg⟩
  | idiv =>
    simp only [mLocal, mLocalC, Option.bind_eq_some_iff] at h
    obtain ⟨v, hv, h⟩ := h
    split at h
    · cases h
    · next hlt =>
      injection h with h
      subst h
      exact ⟨lv, by simp only [mLocal, mLocalC, hv, Option.bind_some, if_neg hlt], hg⟩
  | irem =>
    simp only [mLocal, mLocalC, Option.bind_eq_some_iff] at h
    obtain ⟨v, hv, h⟩ := h
    split at h
    · cases h
    · next hlt =>
      injection h with h
      subst h
      exact ⟨lv, by simp only [mLocal, mLocalC, hv, Option.bind_some, if_neg hlt], hg⟩
  | dup =>
    cases st with
    | nil => simp [mLocal, mLocalC] at h
    | cons v r =>
      simp only [mLocal, mLocalC] at h
      split at h
      · next hlt =>
        injection h with h
        subst h
        exact ⟨lv, by simp only [mLocal, mLocalC, if_pos hlt], hg⟩
      · cases h
  | pop =>
    cases st with
    | nil => simp [mLocal, mLocalC] at h
    | cons v r =>
      simp only [mLocal, mLocalC] at h
      split at h
      · next hlt =>
        injection h with h
        subst h
        exact ⟨lv, by simp only [mLocal, mLocalC, if_pos hlt], hg⟩
      · cases h
  | pop2 =>
    cases st with
    | nil => simp [mLocal, mLocalC] at h
    | cons v r =>
      simp only [mLocal, mLocalC] at h
      split at h
      · next hlt =>
        injection h with h
        subst h
        exact ⟨lv, by simp only [mLocal, mLocalC, if_pos hlt], hg⟩
      · cases h
  | dup2 =>
    cases st with
    | nil => simp [mLocal, mLocalC] at h
    | cons v r =>
      cases r with
      | nil => simp [mLocal, mLocalC] at h
      | cons u r =>
        simp only [mLocal, mLocalC] at h
        split at h
        · next hlt =>
          injection h with h
          subst h
          exact ⟨lv, by simp only [mLocal, mLocalC, if_pos hlt], hg⟩
        · cases h
  | ifCond c off =>
    simp only [mLocal, mLocalC, Option.bind_eq_some_iff, Option.map_eq_some_iff] at h
    obtain ⟨v, hv, t, ht, rfl⟩ := h
    exact ⟨lv, by simp only [mLocal, mLocalC, hv, ht, Option.bind_some, Option.map_some], hg⟩
  | if_icmp c off =>
    simp only [mLocal, mLocalC, Option.bind_eq_some_iff, Option.map_eq_some_iff] at h
    obtain ⟨v, hv, t, ht, rfl⟩ := h
    exact ⟨lv, by simp only [mLocal, mLocalC, hv, ht, Option.bind_some, Option.map_some], hg⟩
  | ifnull off =>
    simp only [mLocal, mLocalC, Option.bind_eq_some_iff, Option.map_eq_some_iff] at h
    obtain ⟨v, hv, t, ht, rfl⟩ := h
    exact ⟨lv, by simp only [mLocal, mLocalC, hv, ht, Option.bind_some, Option.map_some], hg⟩
  | ifnonnull off =>
    simp only [mLocal, mLocalC, Option.bind_eq_some_iff, Option.map_eq_some_iff] at h
    obtain ⟨v, hv, t, ht, rfl⟩ := h
    exact ⟨lv, by simp only [mLocal, mLocalC, hv, ht, Option.bind_some, Option.map_some], hg⟩
  | tableswitch d lo hi offs =>
    simp only [mLocal, mLocalC, Option.bind_eq_some_iff] at h
    obtain ⟨v, hv, h⟩ := h
    split at h
    · next hlt =>
      simp only [Option.map_eq_some_iff] at h
      obtain ⟨t, ht, rfl⟩ := h
      exact ⟨lv, by simp only [mLocal, mLocalC, hv, ht, Option.bind_some, if_pos hlt, Option.map_some], hg⟩
    · next hlt =>
      simp only [Option.bind_eq_some_iff, Option.map_eq_some_iff] at h
      obtain ⟨o2, ho, t, ht, rfl⟩ := h
      exact ⟨lv, by simp only [mLocal, mLocalC, hv, ho, ht, Option.bind_some, if_neg hlt, Option.map_some], hg⟩
  | lookupswitch d ps =>
    simp only [mLocal, mLocalC, Option.bind_eq_some_iff] at h
    obtain ⟨v, hv, h⟩ := h
    split at h
    · next hlt =>
      simp only [Option.map_eq_some_iff] at h
      obtain ⟨t, ht, rfl⟩ := h
      exact ⟨lv, by simp only [mLocal, mLocalC, hv, ht, Option.bind_some, if_pos hlt, Option.map_some], hg⟩
    · cases h
  | _ => simp [mLocal, mLocalC] at h
theorem mRun_ge {P : MP} {L : Nat} {xs : Nat → Int32} {y : Nat} {call : Nat → List Value → List MC → Option MRes} : ∀ (n pc : Nat) (lv lv2 : MLv) (st : List Value) (σ : List MC) (r : MRes), mGe lv lv2 → mRun P L xs call y n pc lv2 st σ = some r → mRun P L xs call y n pc lv st σ = some r := by
  intro n
  induction n with
  | zero => intro pc lv lv2 st σ r _ h; simp [mRun] at h
  | succ n ih =>
    intro pc lv lv2 st σ r hg h
    rw [mRun] at h
    rw [mRun]
    split at h
    · cases h
    · next ins hins =>
      try simp only [hins]
      split at h
      · next r0 hr0 => (try simp only [hr0]); exact h
      · next hr0 =>
        try simp only [hr0]
        split at h
        · next w hw =>
          try simp only [hw]
          split at h
          · next r1 hr1 => (try simp only [hr1]); exact ih _ _ _ _ _ _ hg h
          · cases h
        · next hw =>
          try simp only [hw]
          split at h
          · next q hq =>
            unfold mStep at hq
            split at hq
            · next q1 hq1 =>
              injection hq with hq
              subst hq
              obtain ⟨lv3, h1, h2⟩ := mLocal_ge hg hq1
              simp only [mStep, h1]
              exact ih _ _ _ _ _ _ h2 h
            · next hq1 =>
              simp only [Option.map_eq_some_iff] at hq
              obtain ⟨q2, hq2, rfl⟩ := hq
              simp only [mStep_H hq2]
              exact ih _ _ _ _ _ _ hg h
          · cases h
def zSub (lv : List (Nat × zV)) : List (Nat × zV) → Prop
  | [] => True
  | q :: r => zLk lv q.1 = some q.2 ∧ zSub lv r
theorem zSub_ok {lv : List (Nat × zV)} : ∀ {lv2 : List (Nat × zV)}, zSub lv lv2 → mGe (zLv lv) (zLv lv2)
  | [], _ => fun q hq => by simp [zLv] at hq
  | q :: r, h => by
    intro q2 hq2
    simp only [zLv, List.map_cons, List.mem_cons] at hq2
    rcases hq2 with rfl | hq2
    · exact zLk_ok _ _ _ h.1
    · exact zSub_ok h.2 q2 hq2
/-- locals put in order; those that are no longer needed dropped -/
theorem z_lv {M : zM} {L : Nat} {xs : Nat → Int32} {y pc : Nat} {lv lv2 : List (Nat × zV)} {st : List zV} {h : zH} {K : List zV → zH → Prop} (hs : zSub lv lv2) (hb : zB M L xs y pc lv2 st h K) : zB M L xs y pc lv st h K := by
  intro σ hσ
  obtain ⟨N, d, n, r, hr, hQ⟩ := hb σ hσ
  exact ⟨N, d, n, r, mRun_ge _ _ _ _ _ _ _ (zSub_ok hs) hr, hQ⟩
