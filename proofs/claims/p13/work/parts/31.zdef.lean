/-! THE TYPED HEAP: cells have types that stay, what lies in them is told by functions; rules, one for each instruction, over the small machine. Ints are told as integers (the machine's int is Int32.ofInt of it). -/
/-- a cell's type: 0 none, 1 an object, 2 an array; its class or array type; what stays of it (an array: first its length) -/
abbrev zT : Type := Nat × Nat × List Int
/-- an int, a reference, a long -/
abbrev zV : Type := Int ⊕ Option Nat ⊕ Int
/-- how many cells, how many slots, types, ints, references, longs -/
abbrev zH : Type := Nat × Nat × (Nat → zT) × (Nat → Nat → Int) × (Nat → Nat → Option Nat) × (Nat → Nat → Int)
/-- what ints and references may lie at a place -/
abbrev zM : Type := (zT → Nat → Int → Prop) × ((Nat → zT) → zT → Nat → Option Nat → Prop)
abbrev zR (e : Int) : Prop := -2147483648 ≤ e ∧ e ≤ 2147483647
abbrev zR2 (e : Int) : Prop := -9223372036854775808 ≤ e ∧ e ≤ 9223372036854775807
def zC (v : zV) : Value := match v with
  | .inl e => .int (Int32.ofInt e)
  | .inr (.inl r) => va_rf r
  | .inr (.inr g) => .long (Int64.ofInt g)
def zCat (v : zV) : Nat := match v with
  | .inl _ => 1
  | .inr (.inl _) => 1
  | .inr (.inr _) => 2
def zLv (lv : List (Nat × zV)) : MLv := lv.map (fun q => (q.1, zC q.2))
def zLk (lv : List (Nat × zV)) (i : Nat) : Option zV := match lv with
  | [] => none
  | q :: r => bif Nat.beq q.1 i then some q.2 else zLk r i
def zDel (lv : List (Nat × zV)) (i : Nat) : List (Nat × zV) := match lv with
  | [] => []
  | q :: r => bif (Nat.beq q.1 i || (Nat.beq (q.1 + 1) i && Nat.beq (zCat q.2) 2)) then zDel r i else q :: zDel r i
def zDel2 (lv : List (Nat × zV)) (i : Nat) : List (Nat × zV) := match lv with
  | [] => []
  | q :: r => bif (Nat.beq q.1 i || (Nat.beq q.1 (i + 1) || (Nat.beq (q.1 + 1) i && Nat.beq (zCat q.2) 2))) then zDel2 r i else q :: zDel2 r i
def zF (k i : Nat) (I : Nat → Int) (P : Nat → Option Nat) (G : Nat → Int) : Value :=
  if k = 3 then va_rf (P i) else if k = 1 then .long (Int64.ofInt (G i)) else .int (Int32.ofInt (I i))
def zFs (ks : List Nat) (I : Nat → Int) (P : Nat → Option Nat) (G : Nat → Int) : List Value := ks.zipIdx.map (fun q => zF q.1 q.2 I P G)
def zAr (k : Nat) (I : Nat → Int) (P : Nat → Option Nat) (G : Nat → Int) : (Nat → Int32) ⊕ (Nat → Int64) ⊕ (Nat → UInt32) ⊕ (Nat → UInt64) ⊕ (Nat → Option Nat) :=
  if k = 1 then .inr (.inl (fun i => Int64.ofInt (G i))) else if 3 ≤ k then .inr (.inr (.inr (.inr P))) else .inl (fun i => Int32.ofInt (I i))
def zCell (t : zT) (I : Nat → Int) (P : Nat → Option Nat) (G : Nat → Int) : Option MC := match t with
  | (1, c, _) => some (.inr (c, zFs (zK c) I P G))
  | (2, k, n :: _) => some (.inl (k, n.toNat, zAr k I P G))
  | _ => none
def zWf (M : zM) (h : zH) : Prop := (∀ a k, zR (h.2.2.2.1 a k)) ∧ (∀ a k, M.1 (h.2.2.1 a) k (h.2.2.2.1 a k)) ∧ (∀ a k, M.2 h.2.2.1 (h.2.2.1 a) k (h.2.2.2.2.1 a k))
def zA (M : zM) (σ : List MC) (h : zH) : Prop := σ.length = h.1 ∧ mSl σ = h.2.1 ∧ (∀ a, mCell σ a = zCell (h.2.2.1 a) (h.2.2.2.1 a) (h.2.2.2.2.1 a) (h.2.2.2.2.2 a)) ∧ zWf M h
def zW (L : Nat) (xs : Nat → Int32) (y pc : Nat) (lv : MLv) (st : List Value) (σ : List MC) (Q : Option Value → List MC → Prop) : Prop := ∃ (N d n : Nat) (r : MRes), mRun pg L xs (mExec pg L xs N d) y n pc lv st σ = some r ∧ Q r.1 r.2
/-- from here on the method ends, and K holds of what it answers and of the heap -/
def zB (M : zM) (L : Nat) (xs : Nat → Int32) (y pc : Nat) (lv : List (Nat × zV)) (st : List zV) (h : zH) (K : List zV → zH → Prop) : Prop :=
  ∀ σ, zA M σ h → zW L xs y pc (zLv lv) (st.map zC) σ (fun r τ => ∃ (rs : List zV) (h2 : zH), zA M τ h2 ∧ r.toList = rs.map zC ∧ K rs h2)
/-- a method called with these arguments ends, and K holds -/
def zX (M : zM) (L : Nat) (xs : Nat → Int32) (y : Nat) (as : List zV) (h : zH) (K : List zV → zH → Prop) : Prop :=
  ∀ σ, zA M σ h → ∃ (N d : Nat) (r : MRes), mExec pg L xs N d y (as.map zC) σ = some r ∧ ∃ (rs : List zV) (h2 : zH), zA M r.2 h2 ∧ r.1.toList = rs.map zC ∧ K rs h2
def zArgs (i : Nat) (as : List zV) : List (Nat × zV) := match as with
  | [] => []
  | v :: r => (i, v) :: zArgs (bif Nat.beq (zCat v) 2 then i + 2 else i + 1) r
def zU {α : Type} (I : Nat → Nat → α) (a k : Nat) (v : α) : Nat → Nat → α := fun b j => if b = a ∧ j = k then v else I b j
def zRow {α : Type} (I : Nat → Nat → α) (a : Nat) (f : Nat → α) : Nat → Nat → α := fun b j => if b = a then f j else I b j
def zUT (T : Nat → zT) (a : Nat) (t : zT) : Nat → zT := fun b => if b = a then t else T b
theorem zC_cat (v : zV) : (zC v).category = zCat v := by
  rcases v with e | r | g
  · rfl
  · cases r <;> rfl
  · rfl
theorem zbq (a b : Nat) : Nat.beq a b = decide (a = b) := by
  cases hb : Nat.beq a b with
  | true => have := Nat.eq_of_beq_eq_true hb; simp [this]
  | false => have : ¬ a = b := fun e => by rw [e, Nat.beq_refl] at hb; cases hb
             simp [this]
theorem zLk_ok : ∀ (lv : List (Nat × zV)) (i : Nat) (v : zV), zLk lv i = some v → mLook (zLv lv) i = some (zC v)
  | [], i, v, h => by simp [zLk] at h
  | q :: r, i, v, h => by
    rw [zLk, zbq] at h
    by_cases e : q.1 = i
    · simp only [e, decide_true, cond_true] at h
      injection h with h
      simp [mLook, zLv, e, h]
    · simp only [e, decide_false, cond_false] at h
      have := zLk_ok r i v h
      simp only [mLook, zLv, List.map_cons] at this ⊢
      rw [List.find?_cons_of_neg (by simpa using e)]
      exact this
theorem zDel_ok : ∀ (lv : List (Nat × zV)) (i : Nat), (zLv lv).filter (fun q => !(q.1 == i) && !(q.1 + 1 == i && q.2.category == 2)) = zLv (zDel lv i)
  | [], i => rfl
  | q :: r, i => by
    have ih := zDel_ok r i
    show ((q.1, zC q.2) :: zLv r).filter _ = _
    rw [List.filter_cons, ih, zDel]
    simp only [zC_cat, zbq]
    by_cases e : q.1 = i
    · simp [e]
    · by_cases e3 : q.1 + 1 = i
      · by_cases e4 : zCat q.2 = 2
        · simp [e, e3, e4]
        · simp [e, e3, e4, zLv]
      · simp [e, e3, zLv]
theorem zDel2_ok : ∀ (lv : List (Nat × zV)) (i : Nat), (zLv lv).filter (fun q => !(q.1 == i) && (!(q.1 == i + 1) && !(q.1 + 1 == i && q.2.category == 2))) = zLv (zDel2 lv i)
  | [], i => rfl
  | q :: r, i => by
    have ih := zDel2_ok r i
    show ((q.1, zC q.2) :: zLv r).filter _ = _
    rw [List.filter_cons, ih, zDel2]
    simp only [zC_cat, zbq]
    by_cases e : q.1 = i
    · simp [e]
    · by_cases e1 : q.1 = i + 1
      · simp [e1]
      · by_cases e3 : q.1 + 1 = i
        · by_cases e4 : zCat q.2 = 2
          · simp [e, e1, e3, e4]
          · simp [e, e1, e3, e4, zLv]
        · simp [e, e1, e3, zLv]
theorem zSt1_ok (lv : List (Nat × zV)) (i : Nat) (v : zV) : mSt1 (zLv lv) i (zC v) = zLv ((i, v) :: zDel lv i) := by
  rw [mSt1, zDel_ok]; rfl
theorem zSt2_ok (lv : List (Nat × zV)) (i : Nat) (v : zV) : mSt2 (zLv lv) i (zC v) = zLv ((i, v) :: zDel2 lv i) := by
  rw [mSt2, zDel2_ok]; rfl
theorem zArgs_ok : ∀ (as : List zV) (i : Nat), lv_args i (as.map zC) = zLv (zArgs i as)
  | [], i => rfl
  | v :: r, i => by
    simp only [List.map_cons, lv_args, zArgs, zLv]
    rw [zC_cat]
    have ih := zArgs_ok r (bif Nat.beq (zCat v) 2 then i + 2 else i + 1)
    have e : (if zCat v = 2 then i + 2 else i + 1) = (bif Nat.beq (zCat v) 2 then i + 2 else i + 1) := by
      rw [zbq]; by_cases h : zCat v = 2 <;> simp [h]
    rw [e, ih]
    rfl
theorem zFs_get (ks : List Nat) (I : Nat → Int) (P : Nat → Option Nat) (G : Nat → Int) (j : Nat) : (zFs ks I P G)[j]? = (ks[j]?).map (fun k => zF k j I P G) := by
  simp only [zFs, List.getElem?_map, List.getElem?_zipIdx]
  cases ks[j]? <;> simp
theorem zFs_len (ks : List Nat) (I : Nat → Int) (P : Nat → Option Nat) (G : Nat → Int) : (zFs ks I P G).length = ks.length := by simp [zFs]
theorem zFs_set {ks : List Nat} {I I2 : Nat → Int} {P P2 : Nat → Option Nat} {G G2 : Nat → Int} {j k : Nat} {v : Value} (hk : ks[j]? = some k) (hv : v = zF k j I2 P2 G2) (ho : ∀ i k, i ≠ j → zF k i I2 P2 G2 = zF k i I P G) : (zFs ks I P G).set j v = zFs ks I2 P2 G2 := by
  apply List.ext_getElem?
  intro i
  rw [List.getElem?_set, zFs_get, zFs_get, zFs_len]
  have hlt : j < ks.length := (List.getElem?_eq_some_iff.mp hk).1
  by_cases e : j = i
  · subst e
    rw [if_pos rfl, if_pos hlt, hk, hv]; rfl
  · simp only [e, if_false]
    cases h : ks[i]? with
    | none => rfl
    | some k2 => simp only [Option.map_some]; rw [ho i k2 (fun h => e h.symm)]
/-! more fuel, more frames -/
theorem mRun_more {P : MP} {L : Nat} {xs : Nat → Int32} {y : Nat} {call call2 : Nat → List Value → List MC → Option MRes} (hcall : ∀ y as σ r, call y as σ = some r → call2 y as σ = some r) : ∀ (n m pc : Nat) (lv : MLv) (st : List Value) (σ : List MC) (r : MRes), n ≤ m → mRun P L xs call y n pc lv st σ = some r → mRun P L xs call2 y m pc lv st σ = some r := by
  intro n
  induction n with
  | zero => intro m pc lv st σ r _ h; simp [mRun] at h
  | succ n ih =>
    intro m pc lv st σ r hm h
    obtain ⟨m, rfl⟩ : ∃ m2, m = m2 + 1 := ⟨m - 1, by omega⟩
    have hm : n ≤ m := by omega
    rw [mRun] at h
    rw [mRun]
    split at h
    · cases h
    · next ins hins =>
      try simp only [hins]
      split at h
      · next r0 hr0 => (try simp only [hr0]); exact h
      · next hr0 =>
        try simp only [hr0]
        split at h
        · next w hw =>
          try simp only [hw]
          split at h
          · next r1 hr1 =>
            simp only [hcall _ _ _ _ hr1]
            exact ih _ _ _ _ _ _ hm h
          · cases h
        · next hw =>
          try simp only [hw]
          split at h
          · next q hq => (try simp only [hq]); exact ih _ _ _ _ _ _ hm h
          · cases h
theorem mExec_more {P : MP} {L : Nat} {xs : Nat → Int32} {N N2 : Nat} (hN : N ≤ N2) : ∀ (d d2 y : Nat) (as : List Value) (σ : List MC) (r : MRes), d ≤ d2 → mExec P L xs N d y as σ = some r → mExec P L xs N2 d2 y as σ = some r := by
  intro d
  induction d with
  | zero => intro d2 y as σ r _ h; simp [mExec] at h
  | succ d ih =>
    intro d2 y as σ r hd h
    obtain ⟨d2, rfl⟩ : ∃ m2, d2 = m2 + 1 := ⟨d2 - 1, by omega⟩
    rw [mExec] at h ⊢
    exact mRun_more (fun y as σ r h => ih d2 y as σ r (by omega) h) _ _ _ _ _ _ _ hN h
theorem mHeap_noLocal {P : MP} {L : Nat} {xs : Nat → Int32} {y : Nat} {ins : Instr} {pc : Nat} {ops : List Value} {σ : List MC} {q : Nat × List Value × List MC} (h : mHeap P L xs y ins pc ops σ = some q) (lv : MLv) (st : List Value) : mLocal y P ins pc lv st = none := by
  cases ins <;> first | rfl | (simp [mHeap, mHeapC] at h; done)
theorem mHeap_noEnd {P : MP} {L : Nat} {xs : Nat → Int32} {y : Nat} {ins : Instr} {pc : Nat} {ops : List Value} {σ : List MC} {q : Nat × List Value × List MC} (h : mHeap P L xs y ins pc ops σ = some q) (st : List Value) : mEnd P y ins st = none := by
  cases ins <;> first | rfl | (simp [mHeap, mHeapC] at h; done)
theorem mLocal_noEnd {P : MP} {y : Nat} {ins : Instr} {pc : Nat} {lv : MLv} {ops : List Value} {q : Nat × MLv × List Value} (h : mLocal y P ins pc lv ops = some q) (st : List Value) : mEnd P y ins st = none := by
  cases ins <;> first | rfl | (simp [mLocal, mLocalC] at h; done)
theorem mLocal_noCall {P : MP} {y : Nat} {ins : Instr} {pc : Nat} {lv : MLv} {ops : List Value} {q : Nat × MLv × List Value} (h : mLocal y P ins pc lv ops = some q) (st : List Value) (σ : List MC) : mCallOf P y ins st σ = none := by
  cases ins <;> first | rfl | (simp [mLocal, mLocalC] at h; done)
theorem mStep_L {P : MP} {L : Nat} {xs : Nat → Int32} {y : Nat} {ins : Instr} {pc : Nat} {lv : MLv} {st : List Value} {σ : List MC} {q : Nat × MLv × List Value} (h : mLocal y P ins pc lv st = some q) : mStep P L xs y ins pc lv st σ = some (q.1, q.2.1, q.2.2, σ) := by
  simp only [mStep, h]
theorem mStep_H {P : MP} {L : Nat} {xs : Nat → Int32} {y : Nat} {ins : Instr} {pc : Nat} {lv : MLv} {st : List Value} {σ : List MC} {q : Nat × List Value × List MC} (h : mHeap P L xs y ins pc st σ = some q) : mStep P L xs y ins pc lv st σ = some (q.1, lv, q.2.1, q.2.2) := by
  simp only [mStep, mHeap_noLocal h, h, Option.map_some]
section ZS
variable {M : zM} {L : Nat} {xs : Nat → Int32} {y pc : Nat} {lv : List (Nat × zV)} {st : List zV} {h : zH} {K : List zV → zH → Prop}
theorem z_loc {ins : Instr} {pc2 : Nat} {lv2 : List (Nat × zV)} {st2 : List zV} (hc : mpCode pg y pc = some ins) (hl : mLocal y pg ins pc (zLv lv) (st.map zC) = some (pc2, zLv lv2, st2.map zC)) (hb : zB M L xs y pc2 lv2 st2 h K) : zB M L xs y pc lv st h K := by
  intro σ hσ
  obtain ⟨N, d, n, r, hr, hQ⟩ := hb σ hσ
  refine ⟨N, d, n + 1, r, ?_, hQ⟩
  rw [mRun]
  simp only [hc, mLocal_noEnd hl, mLocal_noCall hl, mStep_L hl]
  exact hr
theorem z_hp {ins : Instr} {pc2 : Nat} {st2 : List zV} {h2 : zH} (hc : mpCode pg y pc = some ins) (hno : ∀ st σ, mCallOf pg y ins st σ = none)
    (hl : ∀ σ, zA M σ h → ∃ σ2, mHeap pg L xs y ins pc (st.map zC) σ = some (pc2, st2.map zC, σ2) ∧ zA M σ2 h2) (hb : zB M L xs y pc2 lv st2 h2 K) : zB M L xs y pc lv st h K := by
  intro σ hσ
  obtain ⟨σ2, h1, h2⟩ := hl σ hσ
  obtain ⟨N, d, n, r, hr, hQ⟩ := hb σ2 h2
  refine ⟨N, d, n + 1, r, ?_, hQ⟩
  rw [mRun]
  simp only [hc, mHeap_noEnd h1, hno, mStep_H h1]
  exact hr
theorem z_end {ins : Instr} {r : Option Value} {rs : List zV} (hc : mpCode pg y pc = some ins) (he : mEnd pg y ins (st.map zC) = some r) (hr : r.toList = rs.map zC) (hK : K rs h) : zB M L xs y pc lv st h K := by
  intro σ hσ
  refine ⟨0, 0, 1, (r, σ), ?_, rs, h, hσ, hr, hK⟩
  rw [mRun]
  simp only [hc, he]
theorem z_callR {ins : Instr} {y2 : Nat} {as rest : List zV} (hc : mpCode pg y pc = some ins) (hne : mEnd pg y ins (st.map zC) = none) (hk : ∀ σ, zA M σ h → mCallOf pg y ins (st.map zC) σ = some (y2, as.map zC, rest.map zC))
    (hX : zX M L xs y2 as h (fun rs h2 => zB M L xs y (pc + 3) lv (rs ++ rest) h2 K)) : zB M L xs y pc lv st h K := by
  intro σ hσ
  obtain ⟨N, d, r, hr, rs, h2, hA, hrs, hB⟩ := hX σ hσ
  obtain ⟨N2, d2, n2, r2, hr2, hQ⟩ := hB r.2 hA
  refine ⟨N + N2, d + d2, n2 + 1, r2, ?_, hQ⟩
  rw [mRun]
  simp only [hc, hne, hk σ hσ, mExec_more (Nat.le_add_right N N2) _ _ _ _ _ _ (Nat.le_add_right d d2) hr, hrs]
  rw [← List.map_append]
  exact mRun_more (fun y as σ r h => mExec_more (Nat.le_add_left N2 N) _ _ _ _ _ _ (Nat.le_add_left d2 d) h) _ _ _ _ _ _ _ (Nat.le_refl n2) hr2
/-- a call, walked into -/
theorem z_inl {as : List zV} (hb : zB M L xs y 0 (zArgs 0 as) [] h K) : zX M L xs y as h K := by
  intro σ hσ
  obtain ⟨N, d, n, r, hr, hQ⟩ := hb σ hσ
  refine ⟨N + n, d + 1, r, ?_, hQ⟩
  rw [mExec, zArgs_ok]
  exact mRun_more (fun y as σ r h => mExec_more (Nat.le_add_right N n) _ _ _ _ _ _ (Nat.le_refl d) h) _ _ _ _ _ _ _ (Nat.le_add_left n N) hr
theorem zX_mono {as : List zV} {K2 : List zV → zH → Prop} (hX : zX M L xs y as h K2) (hK : ∀ rs h2, K2 rs h2 → K rs h2) : zX M L xs y as h K := by
  intro σ hσ
  obtain ⟨N, d, r, hr, rs, h2, hA, hrs, hB⟩ := hX σ hσ
  exact ⟨N, d, r, hr, rs, h2, hA, hrs, hK rs h2 hB⟩
theorem zB_mono {K2 : List zV → zH → Prop} (hX : zB M L xs y pc lv st h K2) (hK : ∀ rs h2, K2 rs h2 → K rs h2) : zB M L xs y pc lv st h K := by
  intro σ hσ
  obtain ⟨N, d, n, r, hr, rs, h2, hA, hrs, hB⟩ := hX σ hσ
  exact ⟨N, d, n, r, hr, rs, h2, hA, hrs, hK rs h2 hB⟩
/-- the heap is well typed all along -/
theorem zB_wf (hb : zWf M h → zB M L xs y pc lv st h K) : zB M L xs y pc lv st h K := fun σ hσ => hb hσ.2.2.2 σ hσ
end ZS
