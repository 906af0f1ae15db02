/-! what the fast machine finds, the small machine does: instructions of stack and locals -/
def Good (P : MP) (L : Nat) (xs v : Nat → Int32) (y : Nat) (callM : Nat → List Value → List MC → Option MRes) (n pc : Nat) (lv : MLv) (st : List Value) (σ : List MC) (k : FK) : Prop := ∃ r σ2 T2 N2 cx2, mRun P L xs callM y n pc lv st σ = some (Option.map (fv v) r, σ2) ∧ FR v T2 N2 σ2 ∧ sIn cx2 v ∧ k cx2 r T2 N2 = true
def FGo (P : MP) (L : Nat) (xs v : Nat → Int32) (y : Nat) (callM : Nat → List Value → List MC → Option MRes) (go : FN) (n : Nat) : Prop := ∀ (cx : SCx) (pc : Nat) (w : List Instr) (lv : FL) (st : List FV) (T : TT 7) (N : Nat) (k : FK) (σ : List MC), go cx w lv st T N k = true → cor P y pc w = true → sIn cx v → FR v T N σ → Good P L xs v y callM n pc (fLT v lv) (st.map (fv v)) σ k
def FCa (v : Nat → Int32) (callM : Nat → List Value → List MC → Option MRes) (call : FCl) : Prop := ∀ (cx : SCx) (y : Nat) (as : List FV) (T : TT 7) (N : Nat) (k : FK) (σ : List MC), call cx y as T N k = true → sIn cx v → FR v T N σ → ∃ r σ2 T2 N2 cx2, callM y (as.map (fv v)) σ = some (Option.map (fv v) r, σ2) ∧ FR v T2 N2 σ2 ∧ sIn cx2 v ∧ k cx2 r T2 N2 = true
def FX (P : MP) (L : Nat) (xs v : Nat → Int32) (y : Nat) (callM : Nat → List Value → List MC → Option MRes) (B : FB) (call : FCl) (go : FN) (n : Nat) (cx : SCx) (w : List Instr) (T : TT 7) (N : Nat) (σ : List MC) (pc : Nat) : Prop := FGo P L xs v y callM go n ∧ (∀ q ∈ B, cor P y q.1 q.2 = true) ∧ cor P y pc w = true ∧ sIn cx v ∧ FR v T N σ ∧ FCa v callM call ∧ L ≤ 90 ∧ (∀ i, i < L → v i = xs i) ∧ v 6 = v 0 &&& 63 ∧ (∀ t e, fEl t e = true → mpElem P t (fc v e) = true)
section FG
variable {P : MP} {L : Nat} {xs v : Nat → Int32} {y : Nat} {callM : Nat → List Value → List MC → Option MRes} {n pc : Nat} {lv : MLv} {st : List Value} {σ : List MC} {k : FK}
theorem good_up (h : Good P L xs v y callM n pc lv st σ k) : Good P L xs v y callM (n + 1) pc lv st σ k := by
  obtain ⟨r3, σ3, T3, N3, cx3, g1, g2, g3, g4⟩ := h
  exact ⟨r3, σ3, T3, N3, cx3, mRun_fuel _ _ _ _ _ _ g1, g2, g3, g4⟩
theorem good_up2 (h : Good P L xs v y callM n pc lv st σ k) : Good P L xs v y callM (n + 2) pc lv st σ k := good_up (good_up h)
theorem good_l1 {ins : Instr} (hins : mpCode P y pc = some ins) {q : Nat × MLv × List Value} (hl : mLocal y P ins pc lv st = some q) (h : Good P L xs v y callM n q.1 q.2.1 q.2.2 σ k) : Good P L xs v y callM (n + 1) pc lv st σ k := by
  obtain ⟨r3, σ3, T3, N3, cx3, g1, g2, g3, g4⟩ := h
  refine ⟨r3, σ3, T3, N3, cx3, ?_, g2, g3, g4⟩
  rw [mRun]
  simp only [hins, mLocal_noEnd hl, mLocal_noCall hl, mStep_L hl]
  exact g1
theorem good_loc {ins : Instr} (hins : mpCode P y pc = some ins) {q : Nat × MLv × List Value} (hl : mLocal y P ins pc lv st = some q) (h : Good P L xs v y callM n q.1 q.2.1 q.2.2 σ k) : Good P L xs v y callM (n + 2) pc lv st σ k := good_up (good_l1 hins hl h)
theorem good_heap {ins : Instr} (hins : mpCode P y pc = some ins) {q : Nat × List Value × List MC} (hl : mHeap P L xs y ins pc st σ = some q) (h : Good P L xs v y callM n q.1 lv q.2.1 q.2.2 k) : Good P L xs v y callM (n + 2) pc lv st σ k := by
  apply good_up
  obtain ⟨r3, σ3, T3, N3, cx3, g1, g2, g3, g4⟩ := h
  refine ⟨r3, σ3, T3, N3, cx3, ?_, g2, g3, g4⟩
  rw [mRun]
  simp only [hins, mHeap_noEnd hl, mHeap_noCall hl, mStep_H hl]
  exact g1
theorem good_call {ins : Instr} (hins : mpCode P y pc = some ins) {y2 : Nat} {as rest : List Value} (hco : mCallOf P y ins st σ = some (y2, as, rest)) {ro : Option Value} {σ2 : List MC} (hcl : callM y2 as σ = some (ro, σ2)) (h : Good P L xs v y callM n (pc + 3) lv (ro.toList ++ rest) σ2 k) : Good P L xs v y callM (n + 2) pc lv st σ k := by
  apply good_up
  obtain ⟨r3, σ3, T3, N3, cx3, g1, g2, g3, g4⟩ := h
  refine ⟨r3, σ3, T3, N3, cx3, ?_, g2, g3, g4⟩
  rw [mRun]
  simp only [hins, mCallOf_noEnd hco, hco, hcl]
  exact g1
theorem good_end {ins : Instr} (hins : mpCode P y pc = some ins) {ro : Option FV} (he : mEnd P y ins st = some (Option.map (fv v) ro)) {cx : SCx} {T : TT 7} {N : Nat} (hF : FR v T N σ) (hc : sIn cx v) (h : k cx ro T N = true) : Good P L xs v y callM (n + 2) pc lv st σ k := by
  apply good_up
  refine ⟨ro, σ, T, N, cx, ?_, hF, hc, h⟩
  rw [mRun]
  simp only [hins, he]
theorem fE_i (n : Nat) (a b c d e : Nat → Bool) : fE (.inl n) a b c d e = a n := rfl
theorem mA1_va (o : Option Nat) (s : List Value) : mA1 (va_rf o :: s) = some (o, s) := by cases o <;> rfl
theorem fSlow_ok {c : Jvm.ClassFile.Cond} {A B : Option (Int × Int)} {yes no other : Bool} (h : fSlow c A B yes no other = true) : ∃ a b, A = some a ∧ B = some b ∧ ((sTell c a b = some true ∧ yes = true) ∨ (sTell c a b = some false ∧ no = true) ∨ other = true) := by
  unfold fSlow at h
  split at h
  · next a =>
    split at h
    · next b =>
      split at h
      · next ht => exact ⟨a, b, rfl, rfl, Or.inl ⟨ht, h⟩⟩
      · next ht => exact ⟨a, b, rfl, rfl, Or.inr (Or.inl ⟨ht, h⟩)⟩
      · exact ⟨a, b, rfl, rfl, Or.inr (Or.inr h)⟩
    · cases h
  · cases h
theorem lg_tell {c : Jvm.ClassFile.Cond} {A B : Int × Int} {b : Bool} {x z : Int64} (h : sTell c A B = some b) (h1 : A.1 ≤ x.toInt) (h2 : x.toInt ≤ A.2) (h3 : B.1 ≤ z.toInt) (h4 : z.toInt ≤ B.2) : mIf c (lg_cmp x z) 0 = b := by
  have hg : (z < x) ↔ z.toInt < x.toInt := Int64.lt_iff_toInt_lt
  have he : (x = z) ↔ x.toInt = z.toInt := ⟨fun h => by rw [h], fun h => Int64.toInt_inj.mp h⟩
  have k1 : z.toInt < x.toInt → lg_cmp x z = 1 := fun q => by unfold lg_cmp; rw [if_pos (hg.mpr q)]
  have k2 : x.toInt = z.toInt → lg_cmp x z = 0 := fun q => by unfold lg_cmp; rw [if_neg (fun p => by have := hg.mp p; omega), if_pos (he.mpr q)]
  have k3 : x.toInt < z.toInt → lg_cmp x z = -1 := fun q => by unfold lg_cmp; rw [if_neg (fun p => by have := hg.mp p; omega), if_neg (fun p => by have := he.mp p; omega)]
  rcases Int.lt_trichotomy x.toInt z.toInt with q | q | q
  · rw [k3 q]
    cases c <;> simp only [sTell] at h <;> split at h <;> first | (exfalso; omega) | (cases h; decide) | (split at h <;> first | (exfalso; omega) | (cases h; done) | (cases h; decide))
  · rw [k2 q]
    cases c <;> simp only [sTell] at h <;> split at h <;> first | (exfalso; omega) | (cases h; decide) | (split at h <;> first | (exfalso; omega) | (cases h; done) | (cases h; decide))
  · rw [k1 q]
    cases c <;> simp only [sTell] at h <;> split at h <;> first | (exfalso; omega) | (cases h; decide) | (split at h <;> first | (exfalso; omega) | (cases h; done) | (cases h; decide))
theorem fSw_ok {z d lo hi d2 : Int} {ts offs : Array Int} {K : Nat → Bool} (h : fSw z d lo hi ts K = true) (h1 : mTo pc d2 = some d.toNat) (h2 : offs.toList.map (mTo pc) = ts.toList.map (fun t => some t.toNat)) : ∃ t, K t = true ∧ (if z < lo ∨ hi < z then mTo pc d2 = some t else ∃ o, offs[(z - lo).toNat]? = some o ∧ mTo pc o = some t) := by
  unfold fSw at h
  split at h
  · next hz => exact ⟨_, h, by rw [if_pos hz]; exact h1⟩
  · next hz =>
    split at h
    · next t ht =>
      refine ⟨_, h, ?_⟩
      rw [if_neg hz]
      have h3 : (offs.toList.map (mTo pc))[(z - lo).toNat]? = some (some t.toNat) := by
        rw [h2, List.getElem?_map, Array.getElem?_toList, ht]; rfl
      rw [List.getElem?_map, Array.getElem?_toList] at h3
      cases ho : offs[(z - lo).toNat]? with
      | none => rw [ho] at h3; cases h3
      | some o =>
        rw [ho] at h3
        have h3 : some (mTo pc o) = some (some t.toNat) := h3
        injection h3 with h3
        exact ⟨o, rfl, h3⟩
    · cases h
end FG
theorem gBin_ok {P : MP} {L : Nat} {xs v : Nat → Int32} {y : Nat} {callM : Nat → List Value → List MC → Option MRes} {B : FB} {call : FCl} {go : FN} {n : Nat} {cx : SCx} {w r : List Instr} {lv : FL} {st : List FV} {T : TT 7} {N : Nat} {k : FK} {σ : List MC} {pc : Nat} {ins : Instr} {op : Nat → Nat → Nat} (X : FX P L xs v y callM B call go n cx w T N σ pc) (hins : mpCode P y pc = some ins) (hr : cor P y (pc + 1) r = true)
    (hop : ∀ (m n : Nat) (s : List Value), mLocal y P ins pc (fLT v lv) (.int (Int32.ofNat n) :: .int (Int32.ofNat m) :: s) = some (pc + 1, fLT v lv, .int (Int32.ofNat (op m n)) :: s)) (h : gBin op L B call go cx w r lv st T N k = true) : Good P L xs v y callM (n + 2) pc (fLT v lv) (st.map (fv v)) σ k := by
  obtain ⟨hgo, hB, hw, hc, hF, hcall, hL, hv, h6, hEl⟩ := X
  obtain ⟨b, s1, rfl, h⟩ := fLs_ok h
  obtain ⟨a, s, rfl, h⟩ := fLs_ok h
  rcases fNum_ok hc h with ⟨m, hm, h⟩ | ⟨cx2, hc2, h⟩
  · rcases fNum_ok hc h with ⟨q, hq, h⟩ | ⟨cx2, hc2, h⟩
    · rw [fF_ok] at h
      refine good_loc hins (q := (pc + 1, fLT v lv, (.inl (op m q) :: s : List FV).map (fv v))) ?_ (hgo _ _ _ _ _ _ _ _ _ h hr hc hF)
      simp only [List.map_cons, hm, hq]
      exact hop m q _
    · exact good_up2 (hgo _ _ _ _ _ _ _ _ _ h hw hc2 hF)
  · exact good_up2 (hgo _ _ _ _ _ _ _ _ _ h hw hc2 hF)
theorem gDiv_ok {P : MP} {L : Nat} {xs v : Nat → Int32} {y : Nat} {callM : Nat → List Value → List MC → Option MRes} {B : FB} {call : FCl} {go : FN} {n : Nat} {cx : SCx} {w r : List Instr} {lv : FL} {st : List FV} {T : TT 7} {N : Nat} {k : FK} {σ : List MC} {pc : Nat} {ins : Instr} {op : Nat → Nat → Nat} (X : FX P L xs v y callM B call go n cx w T N σ pc) (hins : mpCode P y pc = some ins) (hr : cor P y (pc + 1) r = true)
    (hop : ∀ (m n : Nat) (s : List Value), ¬ Int32.ofNat n = 0 → mLocal y P ins pc (fLT v lv) (.int (Int32.ofNat n) :: .int (Int32.ofNat m) :: s) = some (pc + 1, fLT v lv, .int (Int32.ofNat (op m n)) :: s)) (h : gDiv op L B call go cx w r lv st T N k = true) : Good P L xs v y callM (n + 2) pc (fLT v lv) (st.map (fv v)) σ k := by
  obtain ⟨hgo, hB, hw, hc, hF, hcall, hL, hv, h6, hEl⟩ := X
  obtain ⟨b, s1, rfl, h⟩ := fLs_ok h
  obtain ⟨a, s, rfl, h⟩ := fLs_ok h
  rcases fNum_ok hc h with ⟨m, hm, h⟩ | ⟨cx2, hc2, h⟩
  · rcases fNum_ok hc h with ⟨q, hq, h⟩ | ⟨cx2, hc2, h⟩
    · obtain ⟨h0, h⟩ := fIf_na h
      rw [fF_ok] at h
      have hn0 : ¬ Int32.ofNat q = 0 := fun e => by
        have h0 := fNe h0
        have e : Int32.ofNat q = Int32.ofNat 0 := e
        rw [fEq] at e
        have h0 : q % 4294967296 ≠ 0 := h0
        omega
      refine good_loc hins (q := (pc + 1, fLT v lv, (.inl (op m q) :: s : List FV).map (fv v))) ?_ (hgo _ _ _ _ _ _ _ _ _ h hr hc hF)
      simp only [List.map_cons, hm, hq]
      exact hop m q _ hn0
    · exact good_up2 (hgo _ _ _ _ _ _ _ _ _ h hw hc2 hF)
  · exact good_up2 (hgo _ _ _ _ _ _ _ _ _ h hw hc2 hF)
theorem fd_ldc {P : MP} {L : Nat} {xs v : Nat → Int32} {y : Nat} {callM : Nat → List Value → List MC → Option MRes} {B : FB} {call : FCl} {go : FN} {n : Nat} {cx : SCx} {w r : List Instr} {lv : FL} {st : List FV} {T : TT 7} {N : Nat} {k : FK} {σ : List MC} {pc : Nat} {ins : Instr} {m : Nat} (X : FX P L xs v y callM B call go n cx w T N σ pc) (hins : mpCode P y pc = some ins) (hk : chk P y pc (.ldc m) ins = true) (hr : cor P y (pc + fLg (.ldc m) ins) r = true) (h : fDo (.ldc m) L B call go cx w r lv st T N k = true) : Good P L xs v y callM (n + 2) pc (fLT v lv) (st.map (fv v)) σ k := by
  obtain ⟨hgo, hB, hw, hc, hF, hcall, hL, hv, h6, hEl⟩ := X
  have h : go cx r lv (.inl m :: st) T N k = true := h
  simp only [chk, chkC] at hk
  split at hk
  · next k1 =>
    have hk := of_decide_eq_true hk
    refine good_loc hins (q := (pc + 1, fLT v lv, (.inl m :: st : List FV).map (fv v))) ?_ (hgo _ _ _ _ _ _ _ _ _ h hr hc hF)
    show some (pc + 1, fLT v lv, Value.int (Int32.ofInt k1) :: st.map (fv v)) = some (pc + 1, fLT v lv, Value.int (Int32.ofNat m) :: st.map (fv v))
    rw [hk]
  · next k1 =>
    have hk := of_decide_eq_true hk
    refine good_loc hins (q := (pc + 2, fLT v lv, (.inl m :: st : List FV).map (fv v))) ?_ (hgo _ _ _ _ _ _ _ _ _ h hr hc hF)
    show some (pc + 2, fLT v lv, Value.int (Int8.ofInt k1).toInt32 :: st.map (fv v)) = some (pc + 2, fLT v lv, Value.int (Int32.ofNat m) :: st.map (fv v))
    rw [hk]
  · next k1 =>
    have hk := of_decide_eq_true hk
    refine good_loc hins (q := (pc + 3, fLT v lv, (.inl m :: st : List FV).map (fv v))) ?_ (hgo _ _ _ _ _ _ _ _ _ h hr hc hF)
    show some (pc + 3, fLT v lv, Value.int (Int16.ofInt k1).toInt32 :: st.map (fv v)) = some (pc + 3, fLT v lv, Value.int (Int32.ofNat m) :: st.map (fv v))
    rw [hk]
  · next k1 =>
    have hk := of_decide_eq_true hk
    refine good_loc hins (q := (pc + 2, fLT v lv, (.inl m :: st : List FV).map (fv v))) ?_ (hgo _ _ _ _ _ _ _ _ _ h hr hc hF)
    show (mpLdc P y k1).map (fun z => (pc + 2, fLT v lv, Value.int z :: st.map (fv v))) = _
    rw [hk]
    rfl
  · cases hk
theorem fd_ldc2_w {P : MP} {L : Nat} {xs v : Nat → Int32} {y : Nat} {callM : Nat → List Value → List MC → Option MRes} {B : FB} {call : FCl} {go : FN} {n : Nat} {cx : SCx} {w r : List Instr} {lv : FL} {st : List FV} {T : TT 7} {N : Nat} {k : FK} {σ : List MC} {pc : Nat} {ins : Instr} {m : Nat} (X : FX P L xs v y callM B call go n cx w T N σ pc) (hins : mpCode P y pc = some ins) (hk : chk P y pc (.ldc2_w m) ins = true) (hr : cor P y (pc + fLg (.ldc2_w m) ins) r = true) (h : fDo (.ldc2_w m) L B call go cx w r lv st T N k = true) : Good P L xs v y callM (n + 2) pc (fLT v lv) (st.map (fv v)) σ k := by
  obtain ⟨hgo, hB, hw, hc, hF, hcall, hL, hv, h6, hEl⟩ := X
  have h : go cx r lv (.inr (.inr (.inr (.inl m))) :: st) T N k = true := h
  simp only [chk, chkC] at hk
  split at hk
  · next k1 =>
    have hk := of_decide_eq_true hk
    refine good_loc hins (q := (pc + 1, fLT v lv, (.inr (.inr (.inr (.inl m))) :: st : List FV).map (fv v))) ?_ (hgo _ _ _ _ _ _ _ _ _ h hr hc hF)
    show some (pc + 1, fLT v lv, Value.long (Int64.ofNat (k1 : Nat)) :: st.map (fv v)) = some (pc + 1, fLT v lv, Value.long (Int64.ofNat m) :: st.map (fv v))
    rw [hk]
  · next k1 =>
    have hk := of_decide_eq_true hk
    refine good_loc hins (q := (pc + 3, fLT v lv, (.inr (.inr (.inr (.inl m))) :: st : List FV).map (fv v))) ?_ (hgo _ _ _ _ _ _ _ _ _ h hr hc hF)
    show (mpLdc2 P y k1).map (fun z => (pc + 3, fLT v lv, Value.long z :: st.map (fv v))) = _
    rw [hk]
    rfl
  · cases hk
theorem fd_aconst_null {P : MP} {L : Nat} {xs v : Nat → Int32} {y : Nat} {callM : Nat → List Value → List MC → Option MRes} {B : FB} {call : FCl} {go : FN} {n : Nat} {cx : SCx} {w r : List Instr} {lv : FL} {st : List FV} {T : TT 7} {N : Nat} {k : FK} {σ : List MC} {pc : Nat} {ins : Instr}  (X : FX P L xs v y callM B call go n cx w T N σ pc) (hins : mpCode P y pc = some ins) (hk : chk P y pc (.aconst_null) ins = true) (hr : cor P y (pc + fLg (.aconst_null) ins) r = true) (h : fDo (.aconst_null) L B call go cx w r lv st T N k = true) : Good P L xs v y callM (n + 2) pc (fLT v lv) (st.map (fv v)) σ k := by
  obtain ⟨hgo, hB, hw, hc, hF, hcall, hL, hv, h6, hEl⟩ := X
  have h : go cx r lv (.inr (.inl 0) :: st) T N k = true := h
  simp only [chk, chkC] at hk
  split at hk
  · exact good_loc hins (q := (pc + 1, fLT v lv, (.inr (.inl 0) :: st : List FV).map (fv v))) rfl (hgo _ _ _ _ _ _ _ _ _ h hr hc hF)
  · cases hk
theorem fd_iload {P : MP} {L : Nat} {xs v : Nat → Int32} {y : Nat} {callM : Nat → List Value → List MC → Option MRes} {B : FB} {call : FCl} {go : FN} {n : Nat} {cx : SCx} {w r : List Instr} {lv : FL} {st : List FV} {T : TT 7} {N : Nat} {k : FK} {σ : List MC} {pc : Nat} {ins : Instr} {i : Nat} (X : FX P L xs v y callM B call go n cx w T N σ pc) (hins : mpCode P y pc = some ins) (hk : chk P y pc (.iload i) ins = true) (hr : cor P y (pc + fLg (.iload i) ins) r = true) (h : fDo (.iload i) L B call go cx w r lv st T N k = true) : Good P L xs v y callM (n + 2) pc (fLT v lv) (st.map (fv v)) σ k := by
  obtain ⟨hgo, hB, hw, hc, hF, hcall, hL, hv, h6, hEl⟩ := X
  have h : fLd lv i (fun x => fIsI x (go cx r lv (x :: st) T N k)) = true := h
  obtain ⟨x, hx, h⟩ := fLd_ok (v := v) h
  obtain ⟨hi, h⟩ := fIsI_ok (v := v) h
  have hm : mLookI (fLT v lv) i = some (fInt v x) := by simp only [mLookI, hx, hi]
  simp only [chk, chkC] at hk
  split at hk
  · next k1 =>
    have hk := of_decide_eq_true hk
    refine good_loc hins (q := (pc + 1, fLT v lv, (x :: st).map (fv v))) ?_ (hgo _ _ _ _ _ _ _ _ _ h hr hc hF)
    show (mLookI (fLT v lv) (k1 : Nat)).map (fun z => (pc + 1, fLT v lv, Value.int z :: st.map (fv v))) = some (pc + 1, fLT v lv, fv v x :: st.map (fv v))
    rw [hk, hm, hi]
    rfl
  · next k1 =>
    have hk := of_decide_eq_true hk
    refine good_loc hins (q := (pc + 2, fLT v lv, (x :: st).map (fv v))) ?_ (hgo _ _ _ _ _ _ _ _ _ h hr hc hF)
    show (mLookI (fLT v lv) k1).map (fun z => (pc + 2, fLT v lv, Value.int z :: st.map (fv v))) = some (pc + 2, fLT v lv, fv v x :: st.map (fv v))
    rw [hk, hm, hi]
    rfl
  · cases hk
theorem fd_aload {P : MP} {L : Nat} {xs v : Nat → Int32} {y : Nat} {callM : Nat → List Value → List MC → Option MRes} {B : FB} {call : FCl} {go : FN} {n : Nat} {cx : SCx} {w r : List Instr} {lv : FL} {st : List FV} {T : TT 7} {N : Nat} {k : FK} {σ : List MC} {pc : Nat} {ins : Instr} {i : Nat} (X : FX P L xs v y callM B call go n cx w T N σ pc) (hins : mpCode P y pc = some ins) (hk : chk P y pc (.aload i) ins = true) (hr : cor P y (pc + fLg (.aload i) ins) r = true) (h : fDo (.aload i) L B call go cx w r lv st T N k = true) : Good P L xs v y callM (n + 2) pc (fLT v lv) (st.map (fv v)) σ k := by
  obtain ⟨hgo, hB, hw, hc, hF, hcall, hL, hv, h6, hEl⟩ := X
  have h : fLd lv i (fun x => fIsA x (go cx r lv (x :: st) T N k)) = true := h
  obtain ⟨x, hx, h⟩ := fLd_ok (v := v) h
  obtain ⟨hi, h⟩ := fIsA_ok (v := v) h
  have hm : mLookA (fLT v lv) i = some (fOpR x) := by
    unfold mLookA
    rw [hx, hi]
    cases fOpR x <;> rfl
  simp only [chk, chkC] at hk
  split at hk
  · next k1 =>
    have hk := of_decide_eq_true hk
    refine good_loc hins (q := (pc + 1, fLT v lv, (x :: st).map (fv v))) ?_ (hgo _ _ _ _ _ _ _ _ _ h hr hc hF)
    show (mLookA (fLT v lv) (k1 : Nat)).map (fun z => (pc + 1, fLT v lv, va_rf z :: st.map (fv v))) = some (pc + 1, fLT v lv, fv v x :: st.map (fv v))
    rw [hk, hm, hi]
    rfl
  · next k1 =>
    have hk := of_decide_eq_true hk
    refine good_loc hins (q := (pc + 2, fLT v lv, (x :: st).map (fv v))) ?_ (hgo _ _ _ _ _ _ _ _ _ h hr hc hF)
    show (mLookA (fLT v lv) k1).map (fun z => (pc + 2, fLT v lv, va_rf z :: st.map (fv v))) = some (pc + 2, fLT v lv, fv v x :: st.map (fv v))
    rw [hk, hm, hi]
    rfl
  · cases hk
theorem fd_lload {P : MP} {L : Nat} {xs v : Nat → Int32} {y : Nat} {callM : Nat → List Value → List MC → Option MRes} {B : FB} {call : FCl} {go : FN} {n : Nat} {cx : SCx} {w r : List Instr} {lv : FL} {st : List FV} {T : TT 7} {N : Nat} {k : FK} {σ : List MC} {pc : Nat} {ins : Instr} {i : Nat} (X : FX P L xs v y callM B call go n cx w T N σ pc) (hins : mpCode P y pc = some ins) (hk : chk P y pc (.lload i) ins = true) (hr : cor P y (pc + fLg (.lload i) ins) r = true) (h : fDo (.lload i) L B call go cx w r lv st T N k = true) : Good P L xs v y callM (n + 2) pc (fLT v lv) (st.map (fv v)) σ k := by
  obtain ⟨hgo, hB, hw, hc, hF, hcall, hL, hv, h6, hEl⟩ := X
  have h : fLd lv i (fun x => fIsL x (go cx r lv (x :: st) T N k)) = true := h
  obtain ⟨x, hx, h⟩ := fLd_ok (v := v) h
  obtain ⟨hi, h⟩ := fIsL_ok (v := v) h
  obtain ⟨z0, hi⟩ := hi
  have hm : mLookL (fLT v lv) i = some z0 := by simp only [mLookL, hx, hi]
  simp only [chk, chkC] at hk
  split at hk
  · next k1 =>
    have hk := of_decide_eq_true hk
    refine good_loc hins (q := (pc + 1, fLT v lv, (x :: st).map (fv v))) ?_ (hgo _ _ _ _ _ _ _ _ _ h hr hc hF)
    show (mLookL (fLT v lv) (k1 : Nat)).map (fun z => (pc + 1, fLT v lv, Value.long z :: st.map (fv v))) = some (pc + 1, fLT v lv, fv v x :: st.map (fv v))
    rw [hk, hm, hi]
    rfl
  · next k1 =>
    have hk := of_decide_eq_true hk
    refine good_loc hins (q := (pc + 2, fLT v lv, (x :: st).map (fv v))) ?_ (hgo _ _ _ _ _ _ _ _ _ h hr hc hF)
    show (mLookL (fLT v lv) k1).map (fun z => (pc + 2, fLT v lv, Value.long z :: st.map (fv v))) = some (pc + 2, fLT v lv, fv v x :: st.map (fv v))
    rw [hk, hm, hi]
    rfl
  · cases hk
theorem fd_istore {P : MP} {L : Nat} {xs v : Nat → Int32} {y : Nat} {callM : Nat → List Value → List MC → Option MRes} {B : FB} {call : FCl} {go : FN} {n : Nat} {cx : SCx} {w r : List Instr} {lv : FL} {st : List FV} {T : TT 7} {N : Nat} {k : FK} {σ : List MC} {pc : Nat} {ins : Instr} {i : Nat} (X : FX P L xs v y callM B call go n cx w T N σ pc) (hins : mpCode P y pc = some ins) (hk : chk P y pc (.istore i) ins = true) (hr : cor P y (pc + fLg (.istore i) ins) r = true) (h : fDo (.istore i) L B call go cx w r lv st T N k = true) : Good P L xs v y callM (n + 2) pc (fLT v lv) (st.map (fv v)) σ k := by
  obtain ⟨hgo, hB, hw, hc, hF, hcall, hL, hv, h6, hEl⟩ := X
  have h : fLs st (fun x s => fIsI x (go cx r (fSt1 lv i x) s T N k)) = true := h
  obtain ⟨x, s, rfl, h⟩ := fLs_ok h
  obtain ⟨hi, h⟩ := fIsI_ok (v := v) h
  simp only [chk, chkC] at hk
  split at hk
  · next k1 =>
    obtain ⟨hk, hlt⟩ := of_decide_eq_true hk
    refine good_loc hins (q := (pc + 1, fLT v (fSt1 lv i x), s.map (fv v))) ?_ (hgo _ _ _ _ _ _ _ _ _ h hr hc hF)
    rw [← fSt1_ok]
    show (mI1 (fv v x :: s.map (fv v))).bind (fun q : Int32 × List Value => if (k1 : Nat) < (mpInfo P y).1 then some (pc + 1, mSt1 (fLT v lv) (k1 : Nat) (.int q.1), q.2) else none) = _
    rw [hk, hi]
    simp only [mI1, Option.bind_some, if_pos hlt]
  · next k1 =>
    obtain ⟨hk, hlt⟩ := of_decide_eq_true hk
    refine good_loc hins (q := (pc + 2, fLT v (fSt1 lv i x), s.map (fv v))) ?_ (hgo _ _ _ _ _ _ _ _ _ h hr hc hF)
    rw [← fSt1_ok]
    show (mI1 (fv v x :: s.map (fv v))).bind (fun q : Int32 × List Value => if k1 < (mpInfo P y).1 then some (pc + 2, mSt1 (fLT v lv) k1 (.int q.1), q.2) else none) = _
    rw [hk, hi]
    simp only [mI1, Option.bind_some, if_pos hlt]
  · cases hk
theorem fd_astore {P : MP} {L : Nat} {xs v : Nat → Int32} {y : Nat} {callM : Nat → List Value → List MC → Option MRes} {B : FB} {call : FCl} {go : FN} {n : Nat} {cx : SCx} {w r : List Instr} {lv : FL} {st : List FV} {T : TT 7} {N : Nat} {k : FK} {σ : List MC} {pc : Nat} {ins : Instr} {i : Nat} (X : FX P L xs v y callM B call go n cx w T N σ pc) (hins : mpCode P y pc = some ins) (hk : chk P y pc (.astore i) ins = true) (hr : cor P y (pc + fLg (.astore i) ins) r = true) (h : fDo (.astore i) L B call go cx w r lv st T N k = true) : Good P L xs v y callM (n + 2) pc (fLT v lv) (st.map (fv v)) σ k := by
  obtain ⟨hgo, hB, hw, hc, hF, hcall, hL, hv, h6, hEl⟩ := X
  have h : fLs st (fun x s => fIsA x (go cx r (fSt1 lv i x) s T N k)) = true := h
  obtain ⟨x, s, rfl, h⟩ := fLs_ok h
  obtain ⟨hi, h⟩ := fIsA_ok (v := v) h
  simp only [chk, chkC] at hk
  split at hk
  · next k1 =>
    obtain ⟨hk, hlt⟩ := of_decide_eq_true hk
    refine good_loc hins (q := (pc + 1, fLT v (fSt1 lv i x), s.map (fv v))) ?_ (hgo _ _ _ _ _ _ _ _ _ h hr hc hF)
    rw [← fSt1_ok]
    show (mA1 (fv v x :: s.map (fv v))).bind (fun q : Option Nat × List Value => if (k1 : Nat) < (mpInfo P y).1 then some (pc + 1, mSt1 (fLT v lv) (k1 : Nat) (va_rf q.1), q.2) else none) = _
    rw [hk, hi]
    simp only [mA1_va, Option.bind_some, if_pos hlt]
  · next k1 =>
    obtain ⟨hk, hlt⟩ := of_decide_eq_true hk
    refine good_loc hins (q := (pc + 2, fLT v (fSt1 lv i x), s.map (fv v))) ?_ (hgo _ _ _ _ _ _ _ _ _ h hr hc hF)
    rw [← fSt1_ok]
    show (mA1 (fv v x :: s.map (fv v))).bind (fun q : Option Nat × List Value => if k1 < (mpInfo P y).1 then some (pc + 2, mSt1 (fLT v lv) k1 (va_rf q.1), q.2) else none) = _
    rw [hk, hi]
    simp only [mA1_va, Option.bind_some, if_pos hlt]
  · cases hk
theorem fd_lstore {P : MP} {L : Nat} {xs v : Nat → Int32} {y : Nat} {callM : Nat → List Value → List MC → Option MRes} {B : FB} {call : FCl} {go : FN} {n : Nat} {cx : SCx} {w r : List Instr} {lv : FL} {st : List FV} {T : TT 7} {N : Nat} {k : FK} {σ : List MC} {pc : Nat} {ins : Instr} {i : Nat} (X : FX P L xs v y callM B call go n cx w T N σ pc) (hins : mpCode P y pc = some ins) (hk : chk P y pc (.lstore i) ins = true) (hr : cor P y (pc + fLg (.lstore i) ins) r = true) (h : fDo (.lstore i) L B call go cx w r lv st T N k = true) : Good P L xs v y callM (n + 2) pc (fLT v lv) (st.map (fv v)) σ k := by
  obtain ⟨hgo, hB, hw, hc, hF, hcall, hL, hv, h6, hEl⟩ := X
  have h : fLs st (fun x s => fIsL x (go cx r (fSt2 lv i x) s T N k)) = true := h
  obtain ⟨x, s, rfl, h⟩ := fLs_ok h
  obtain ⟨hi, h⟩ := fIsL_ok (v := v) h
  obtain ⟨z0, hi⟩ := hi
  simp only [chk, chkC] at hk
  split at hk
  · next k1 =>
    obtain ⟨hk, hlt⟩ := of_decide_eq_true hk
    refine good_loc hins (q := (pc + 1, fLT v (fSt2 lv i x), s.map (fv v))) ?_ (hgo _ _ _ _ _ _ _ _ _ h hr hc hF)
    rw [← fSt2_ok]
    show (mL1 (fv v x :: s.map (fv v))).bind (fun q : Int64 × List Value => if (k1 : Nat) + 1 < (mpInfo P y).1 then some (pc + 1, mSt2 (fLT v lv) (k1 : Nat) (.long q.1), q.2) else none) = _
    rw [hk, hi]
    simp only [mL1, Option.bind_some, if_pos hlt]
  · next k1 =>
    obtain ⟨hk, hlt⟩ := of_decide_eq_true hk
    refine good_loc hins (q := (pc + 2, fLT v (fSt2 lv i x), s.map (fv v))) ?_ (hgo _ _ _ _ _ _ _ _ _ h hr hc hF)
    rw [← fSt2_ok]
    show (mL1 (fv v x :: s.map (fv v))).bind (fun q : Int64 × List Value => if k1 + 1 < (mpInfo P y).1 then some (pc + 2, mSt2 (fLT v lv) k1 (.long q.1), q.2) else none) = _
    rw [hk, hi]
    simp only [mL1, Option.bind_some, if_pos hlt]
  · cases hk
theorem fd_iinc {P : MP} {L : Nat} {xs v : Nat → Int32} {y : Nat} {callM : Nat → List Value → List MC → Option MRes} {B : FB} {call : FCl} {go : FN} {n : Nat} {cx : SCx} {w r : List Instr} {lv : FL} {st : List FV} {T : TT 7} {N : Nat} {k : FK} {σ : List MC} {pc : Nat} {ins : Instr} {i : Nat} {c : Int} (X : FX P L xs v y callM B call go n cx w T N σ pc) (hins : mpCode P y pc = some ins) (hk : chk P y pc (.iinc i c) ins = true) (hr : cor P y (pc + fLg (.iinc i c) ins) r = true) (h : fDo (.iinc i c) L B call go cx w r lv st T N k = true) : Good P L xs v y callM (n + 2) pc (fLT v lv) (st.map (fv v)) σ k := by
  obtain ⟨hgo, hB, hw, hc, hF, hcall, hL, hv, h6, hEl⟩ := X
  have h : fLd lv i (fun x => fNum cx x (fun cx2 => go cx2 w lv st T N k) (fun m => fF (Nat.mod (Nat.add m c.toNat) 4294967296) (fun z => go cx r (fSt1 lv i (.inl z)) st T N k))) = true := h
  obtain ⟨x, hx, h⟩ := fLd_ok (v := v) h
  rcases fNum_ok hc h with ⟨m, hm, h⟩ | ⟨cx2, hc2, h⟩
  · rw [fF_ok] at h
    have h : go cx r (fSt1 lv i (.inl ((m + c.toNat) % 4294967296))) st T N k = true := h
    simp only [chk, chkC] at hk
    split at hk
    · next j k1 =>
      obtain ⟨hj, hk2, hlt⟩ := of_decide_eq_true hk
      subst hj
      refine good_loc hins (q := (pc + 3, fLT v (fSt1 lv j (.inl ((m + c.toNat) % 4294967296))), st.map (fv v))) ?_ (hgo _ _ _ _ _ _ _ _ _ h hr hc hF)
      rw [← fSt1_ok]
      show (mLookI (fLT v lv) j).bind (fun z => if j < (mpInfo P y).1 then some (pc + 3, mSt1 (fLT v lv) j (.int (z + Int32.ofInt k1)), st.map (fv v)) else none) = some (pc + 3, mSt1 (fLT v lv) j (.int (Int32.ofNat ((m + c.toNat) % 4294967296))), st.map (fv v))
      have hl : mLookI (fLT v lv) j = some (Int32.ofNat m) := by simp only [mLookI, hx, hm]
      rw [hl, hk2, oAdd_ok]
      simp only [Option.bind_some, if_pos hlt]
    · cases hk
  · exact good_up2 (hgo _ _ _ _ _ _ _ _ _ h hw hc2 hF)
theorem fd_iadd {P : MP} {L : Nat} {xs v : Nat → Int32} {y : Nat} {callM : Nat → List Value → List MC → Option MRes} {B : FB} {call : FCl} {go : FN} {n : Nat} {cx : SCx} {w r : List Instr} {lv : FL} {st : List FV} {T : TT 7} {N : Nat} {k : FK} {σ : List MC} {pc : Nat} {ins : Instr}  (X : FX P L xs v y callM B call go n cx w T N σ pc) (hins : mpCode P y pc = some ins) (hk : chk P y pc (.iadd) ins = true) (hr : cor P y (pc + fLg (.iadd) ins) r = true) (h : fDo (.iadd) L B call go cx w r lv st T N k = true) : Good P L xs v y callM (n + 2) pc (fLT v lv) (st.map (fv v)) σ k := by
  obtain ⟨hgo, hB, hw, hc, hF, hcall, hL, hv, h6, hEl⟩ := X
  have X : FX P L xs v y callM B call go n cx w T N σ pc := ⟨hgo, hB, hw, hc, hF, hcall, hL, hv, h6, hEl⟩
  simp only [chk, chkC] at hk
  split at hk
  · have hbin : gBin oAdd L B call go cx w r lv st T N k = true → Good P L xs v y callM (n + 2) pc (fLT v lv) (st.map (fv v)) σ k := fun h => gBin_ok X hins hr (fun m n s => by
      show some (pc + 1, fLT v lv, Value.int (Int32.ofNat m + Int32.ofNat n) :: s) = _
      rw [← oAdd_ok]
      rfl) h
    have h0 : Int32.ofNat 0 = 0 := rfl
    obtain ⟨b, s1, rfl, h⟩ := fLs_ok h
    obtain ⟨a, s, rfl, h⟩ := fLs_ok h
    rcases a with m | m | m | m | m
    · rcases b with q | q | q | q | q
      · have h : fF (oAdd m q) (fun z => go cx r lv (.inl z :: s) T N k) = true := h
        rw [fF_ok] at h
        refine good_loc hins (q := (pc + 1, fLT v lv, (.inl (oAdd m q) :: s : List FV).map (fv v))) ?_ (hgo _ _ _ _ _ _ _ _ _ h hr hc hF)
        show some (pc + 1, fLT v lv, Value.int (Int32.ofNat m + Int32.ofNat q) :: s.map (fv v)) = _
        rw [← oAdd_ok]
        rfl
      · cases h
      · rcases fIf_of h with ⟨hb, h⟩ | ⟨hb, h⟩
        · have hb := Nat.eq_of_beq_eq_true hb
          subst hb
          refine good_loc hins (q := (pc + 1, fLT v lv, (.inr (.inr (.inl q)) :: s : List FV).map (fv v))) ?_ (hgo _ _ _ _ _ _ _ _ _ h hr hc hF)
          show some (pc + 1, fLT v lv, Value.int (Int32.ofNat 0 + v q) :: s.map (fv v)) = some (pc + 1, fLT v lv, Value.int (v q) :: s.map (fv v))
          rw [h0, Int32.zero_add]
        · exact hbin h
      · cases h
      · cases h
    · cases h
    · rcases b with q | q | q | q | q
      · rcases fIf_of h with ⟨hb, h⟩ | ⟨hb, h⟩
        · have hb := Nat.eq_of_beq_eq_true hb
          subst hb
          refine good_loc hins (q := (pc + 1, fLT v lv, (.inr (.inr (.inl m)) :: s : List FV).map (fv v))) ?_ (hgo _ _ _ _ _ _ _ _ _ h hr hc hF)
          show some (pc + 1, fLT v lv, Value.int (v m + Int32.ofNat 0) :: s.map (fv v)) = some (pc + 1, fLT v lv, Value.int (v m) :: s.map (fv v))
          rw [h0, Int32.add_zero]
        · exact hbin h
      · cases h
      · exact hbin h
      · cases h
      · cases h
    · cases h
    · cases h
  · cases hk
theorem fd_isub {P : MP} {L : Nat} {xs v : Nat → Int32} {y : Nat} {callM : Nat → List Value → List MC → Option MRes} {B : FB} {call : FCl} {go : FN} {n : Nat} {cx : SCx} {w r : List Instr} {lv : FL} {st : List FV} {T : TT 7} {N : Nat} {k : FK} {σ : List MC} {pc : Nat} {ins : Instr}  (X : FX P L xs v y callM B call go n cx w T N σ pc) (hins : mpCode P y pc = some ins) (hk : chk P y pc (.isub) ins = true) (hr : cor P y (pc + fLg (.isub) ins) r = true) (h : fDo (.isub) L B call go cx w r lv st T N k = true) : Good P L xs v y callM (n + 2) pc (fLT v lv) (st.map (fv v)) σ k := by
  obtain ⟨hgo, hB, hw, hc, hF, hcall, hL, hv, h6, hEl⟩ := X
  have X : FX P L xs v y callM B call go n cx w T N σ pc := ⟨hgo, hB, hw, hc, hF, hcall, hL, hv, h6, hEl⟩
  simp only [chk, chkC] at hk
  split at hk
  · exact gBin_ok X hins hr (fun m n s => by
      show some (pc + 1, fLT v lv, Value.int (Int32.ofNat m - Int32.ofNat n) :: s) = _
      rw [← oSub_ok]
      rfl) h
  · cases hk
theorem fd_imul {P : MP} {L : Nat} {xs v : Nat → Int32} {y : Nat} {callM : Nat → List Value → List MC → Option MRes} {B : FB} {call : FCl} {go : FN} {n : Nat} {cx : SCx} {w r : List Instr} {lv : FL} {st : List FV} {T : TT 7} {N : Nat} {k : FK} {σ : List MC} {pc : Nat} {ins : Instr}  (X : FX P L xs v y callM B call go n cx w T N σ pc) (hins : mpCode P y pc = some ins) (hk : chk P y pc (.imul) ins = true) (hr : cor P y (pc + fLg (.imul) ins) r = true) (h : fDo (.imul) L B call go cx w r lv st T N k = true) : Good P L xs v y callM (n + 2) pc (fLT v lv) (st.map (fv v)) σ k := by
  obtain ⟨hgo, hB, hw, hc, hF, hcall, hL, hv, h6, hEl⟩ := X
  have X : FX P L xs v y callM B call go n cx w T N σ pc := ⟨hgo, hB, hw, hc, hF, hcall, hL, hv, h6, hEl⟩
  simp only [chk, chkC] at hk
  split at hk
  · exact gBin_ok X hins hr (fun m n s => by
      show some (pc + 1, fLT v lv, Value.int (Int32.ofNat m * Int32.ofNat n) :: s) = _
      rw [← oMul_ok]
      rfl) h
  · cases hk
theorem fd_ior {P : MP} {L : Nat} {xs v : Nat → Int32} {y : Nat} {callM : Nat → List Value → List MC → Option MRes} {B : FB} {call : FCl} {go : FN} {n : Nat} {cx : SCx} {w r : List Instr} {lv : FL} {st : List FV} {T : TT 7} {N : Nat} {k : FK} {σ : List MC} {pc : Nat} {ins : Instr}  (X : FX P L xs v y callM B call go n cx w T N σ pc) (hins : mpCode P y pc = some ins) (hk : chk P y pc (.ior) ins = true) (hr : cor P y (pc + fLg (.ior) ins) r = true) (h : fDo (.ior) L B call go cx w r lv st T N k = true) : Good P L xs v y callM (n + 2) pc (fLT v lv) (st.map (fv v)) σ k := by
  obtain ⟨hgo, hB, hw, hc, hF, hcall, hL, hv, h6, hEl⟩ := X
  have X : FX P L xs v y callM B call go n cx w T N σ pc := ⟨hgo, hB, hw, hc, hF, hcall, hL, hv, h6, hEl⟩
  simp only [chk, chkC] at hk
  split at hk
  · exact gBin_ok X hins hr (fun m n s => by
      show some (pc + 1, fLT v lv, Value.int (Int32.ofNat m ||| Int32.ofNat n) :: s) = some (pc + 1, fLT v lv, Value.int (Int32.ofNat (oOf (Int32.ofNat m ||| Int32.ofNat n))) :: s)
      rw [oOf, fOfI_x]) h
  · cases hk
theorem fd_ishl {P : MP} {L : Nat} {xs v : Nat → Int32} {y : Nat} {callM : Nat → List Value → List MC → Option MRes} {B : FB} {call : FCl} {go : FN} {n : Nat} {cx : SCx} {w r : List Instr} {lv : FL} {st : List FV} {T : TT 7} {N : Nat} {k : FK} {σ : List MC} {pc : Nat} {ins : Instr}  (X : FX P L xs v y callM B call go n cx w T N σ pc) (hins : mpCode P y pc = some ins) (hk : chk P y pc (.ishl) ins = true) (hr : cor P y (pc + fLg (.ishl) ins) r = true) (h : fDo (.ishl) L B call go cx w r lv st T N k = true) : Good P L xs v y callM (n + 2) pc (fLT v lv) (st.map (fv v)) σ k := by
  obtain ⟨hgo, hB, hw, hc, hF, hcall, hL, hv, h6, hEl⟩ := X
  have X : FX P L xs v y callM B call go n cx w T N σ pc := ⟨hgo, hB, hw, hc, hF, hcall, hL, hv, h6, hEl⟩
  simp only [chk, chkC] at hk
  split at hk
  · exact gBin_ok X hins hr (fun m n s => by
      show some (pc + 1, fLT v lv, Value.int (Int32.ofNat m <<< (Int32.ofNat n &&& 31)) :: s) = some (pc + 1, fLT v lv, Value.int (Int32.ofNat (oOf (Int32.ofNat m <<< (Int32.ofNat n &&& 31)))) :: s)
      rw [oOf, fOfI_x]) h
  · cases hk
theorem fd_ishr {P : MP} {L : Nat} {xs v : Nat → Int32} {y : Nat} {callM : Nat → List Value → List MC → Option MRes} {B : FB} {call : FCl} {go : FN} {n : Nat} {cx : SCx} {w r : List Instr} {lv : FL} {st : List FV} {T : TT 7} {N : Nat} {k : FK} {σ : List MC} {pc : Nat} {ins : Instr}  (X : FX P L xs v y callM B call go n cx w T N σ pc) (hins : mpCode P y pc = some ins) (hk : chk P y pc (.ishr) ins = true) (hr : cor P y (pc + fLg (.ishr) ins) r = true) (h : fDo (.ishr) L B call go cx w r lv st T N k = true) : Good P L xs v y callM (n + 2) pc (fLT v lv) (st.map (fv v)) σ k := by
  obtain ⟨hgo, hB, hw, hc, hF, hcall, hL, hv, h6, hEl⟩ := X
  have X : FX P L xs v y callM B call go n cx w T N σ pc := ⟨hgo, hB, hw, hc, hF, hcall, hL, hv, h6, hEl⟩
  simp only [chk, chkC] at hk
  split at hk
  · exact gBin_ok X hins hr (fun m n s => by
      show some (pc + 1, fLT v lv, Value.int (Int32.ofNat m >>> (Int32.ofNat n &&& 31)) :: s) = some (pc + 1, fLT v lv, Value.int (Int32.ofNat (oOf (Int32.ofNat m >>> (Int32.ofNat n &&& 31)))) :: s)
      rw [oOf, fOfI_x]) h
  · cases hk
theorem fd_idiv {P : MP} {L : Nat} {xs v : Nat → Int32} {y : Nat} {callM : Nat → List Value → List MC → Option MRes} {B : FB} {call : FCl} {go : FN} {n : Nat} {cx : SCx} {w r : List Instr} {lv : FL} {st : List FV} {T : TT 7} {N : Nat} {k : FK} {σ : List MC} {pc : Nat} {ins : Instr}  (X : FX P L xs v y callM B call go n cx w T N σ pc) (hins : mpCode P y pc = some ins) (hk : chk P y pc (.idiv) ins = true) (hr : cor P y (pc + fLg (.idiv) ins) r = true) (h : fDo (.idiv) L B call go cx w r lv st T N k = true) : Good P L xs v y callM (n + 2) pc (fLT v lv) (st.map (fv v)) σ k := by
  obtain ⟨hgo, hB, hw, hc, hF, hcall, hL, hv, h6, hEl⟩ := X
  have X : FX P L xs v y callM B call go n cx w T N σ pc := ⟨hgo, hB, hw, hc, hF, hcall, hL, hv, h6, hEl⟩
  simp only [chk, chkC] at hk
  split at hk
  · exact gDiv_ok X hins hr (fun m n s hn => by
      show (if Int32.ofNat n = 0 then none else some (pc + 1, fLT v lv, Value.int (Int32.ofNat m / Int32.ofNat n) :: s)) = some (pc + 1, fLT v lv, Value.int (Int32.ofNat (oOf (Int32.ofNat m / Int32.ofNat n))) :: s)
      rw [if_neg hn, oOf, fOfI_x]) h
  · cases hk
theorem fd_irem {P : MP} {L : Nat} {xs v : Nat → Int32} {y : Nat} {callM : Nat → List Value → List MC → Option MRes} {B : FB} {call : FCl} {go : FN} {n : Nat} {cx : SCx} {w r : List Instr} {lv : FL} {st : List FV} {T : TT 7} {N : Nat} {k : FK} {σ : List MC} {pc : Nat} {ins : Instr}  (X : FX P L xs v y callM B call go n cx w T N σ pc) (hins : mpCode P y pc = some ins) (hk : chk P y pc (.irem) ins = true) (hr : cor P y (pc + fLg (.irem) ins) r = true) (h : fDo (.irem) L B call go cx w r lv st T N k = true) : Good P L xs v y callM (n + 2) pc (fLT v lv) (st.map (fv v)) σ k := by
  obtain ⟨hgo, hB, hw, hc, hF, hcall, hL, hv, h6, hEl⟩ := X
  have X : FX P L xs v y callM B call go n cx w T N σ pc := ⟨hgo, hB, hw, hc, hF, hcall, hL, hv, h6, hEl⟩
  simp only [chk, chkC] at hk
  split at hk
  · exact gDiv_ok X hins hr (fun m n s hn => by
      show (if Int32.ofNat n = 0 then none else some (pc + 1, fLT v lv, Value.int (Int32.ofNat m - Int32.ofNat m / Int32.ofNat n * Int32.ofNat n) :: s)) = some (pc + 1, fLT v lv, Value.int (Int32.ofNat (oOf (Int32.ofNat m - Int32.ofNat m / Int32.ofNat n * Int32.ofNat n))) :: s)
      rw [if_neg hn, oOf, fOfI_x]) h
  · cases hk
theorem fd_iand {P : MP} {L : Nat} {xs v : Nat → Int32} {y : Nat} {callM : Nat → List Value → List MC → Option MRes} {B : FB} {call : FCl} {go : FN} {n : Nat} {cx : SCx} {w r : List Instr} {lv : FL} {st : List FV} {T : TT 7} {N : Nat} {k : FK} {σ : List MC} {pc : Nat} {ins : Instr}  (X : FX P L xs v y callM B call go n cx w T N σ pc) (hins : mpCode P y pc = some ins) (hk : chk P y pc (.iand) ins = true) (hr : cor P y (pc + fLg (.iand) ins) r = true) (h : fDo (.iand) L B call go cx w r lv st T N k = true) : Good P L xs v y callM (n + 2) pc (fLT v lv) (st.map (fv v)) σ k := by
  obtain ⟨hgo, hB, hw, hc, hF, hcall, hL, hv, h6, hEl⟩ := X
  have X : FX P L xs v y callM B call go n cx w T N σ pc := ⟨hgo, hB, hw, hc, hF, hcall, hL, hv, h6, hEl⟩
  simp only [chk, chkC] at hk
  split at hk
  · have hbin : gBin (fun m n => oOf (Int32.ofNat m &&& Int32.ofNat n)) L B call go cx w r lv st T N k = true → Good P L xs v y callM (n + 2) pc (fLT v lv) (st.map (fv v)) σ k := fun h => gBin_ok X hins hr (fun m n s => by
      show some (pc + 1, fLT v lv, Value.int (Int32.ofNat m &&& Int32.ofNat n) :: s) = some (pc + 1, fLT v lv, Value.int (Int32.ofNat (oOf (Int32.ofNat m &&& Int32.ofNat n))) :: s)
      rw [oOf, fOfI_x]) h
    obtain ⟨b, s1, rfl, h⟩ := fLs_ok h
    obtain ⟨a, s, rfl, h⟩ := fLs_ok h
    rcases a with m | m | m | m | m
    · exact hbin h
    · cases h
    · rcases b with q | q | q | q | q
      · obtain ⟨h1, h⟩ := fIf_an h
        obtain ⟨h2, h⟩ := fIf_an h
        have h1 := Nat.eq_of_beq_eq_true h1
        have h2 := Nat.eq_of_beq_eq_true h2
        subst h1
        subst h2
        refine good_loc hins (q := (pc + 1, fLT v lv, (.inr (.inr (.inl 6)) :: s : List FV).map (fv v))) ?_ (hgo _ _ _ _ _ _ _ _ _ h hr hc hF)
        show some (pc + 1, fLT v lv, Value.int (v 0 &&& Int32.ofNat 63) :: s.map (fv v)) = some (pc + 1, fLT v lv, Value.int (v 6) :: s.map (fv v))
        rw [h6]
        rfl
      · cases h
      · cases h
      · cases h
      · cases h
    · cases h
    · cases h
  · cases hk
theorem fd_ineg {P : MP} {L : Nat} {xs v : Nat → Int32} {y : Nat} {callM : Nat → List Value → List MC → Option MRes} {B : FB} {call : FCl} {go : FN} {n : Nat} {cx : SCx} {w r : List Instr} {lv : FL} {st : List FV} {T : TT 7} {N : Nat} {k : FK} {σ : List MC} {pc : Nat} {ins : Instr}  (X : FX P L xs v y callM B call go n cx w T N σ pc) (hins : mpCode P y pc = some ins) (hk : chk P y pc (.ineg) ins = true) (hr : cor P y (pc + fLg (.ineg) ins) r = true) (h : fDo (.ineg) L B call go cx w r lv st T N k = true) : Good P L xs v y callM (n + 2) pc (fLT v lv) (st.map (fv v)) σ k := by
  obtain ⟨hgo, hB, hw, hc, hF, hcall, hL, hv, h6, hEl⟩ := X
  simp only [chk, chkC] at hk
  split at hk
  · obtain ⟨b, s, rfl, h⟩ := fLs_ok h
    rcases fNum_ok hc h with ⟨m, hm, h⟩ | ⟨cx2, hc2, h⟩
    · rw [fF_ok] at h
      refine good_loc hins (q := (pc + 1, fLT v lv, (.inl (oOf (-(Int32.ofNat m))) :: s : List FV).map (fv v))) ?_ (hgo _ _ _ _ _ _ _ _ _ h hr hc hF)
      simp only [List.map_cons, hm]
      show some (pc + 1, fLT v lv, Value.int (-(Int32.ofNat m)) :: s.map (fv v)) = some (pc + 1, fLT v lv, Value.int (Int32.ofNat (oOf (-(Int32.ofNat m)))) :: s.map (fv v))
      rw [oOf, fOfI_x]
    · exact good_up2 (hgo _ _ _ _ _ _ _ _ _ h hw hc2 hF)
  · cases hk
theorem fd_i2l {P : MP} {L : Nat} {xs v : Nat → Int32} {y : Nat} {callM : Nat → List Value → List MC → Option MRes} {B : FB} {call : FCl} {go : FN} {n : Nat} {cx : SCx} {w r : List Instr} {lv : FL} {st : List FV} {T : TT 7} {N : Nat} {k : FK} {σ : List MC} {pc : Nat} {ins : Instr}  (X : FX P L xs v y callM B call go n cx w T N σ pc) (hins : mpCode P y pc = some ins) (hk : chk P y pc (.i2l) ins = true) (hr : cor P y (pc + fLg (.i2l) ins) r = true) (h : fDo (.i2l) L B call go cx w r lv st T N k = true) : Good P L xs v y callM (n + 2) pc (fLT v lv) (st.map (fv v)) σ k := by
  obtain ⟨hgo, hB, hw, hc, hF, hcall, hL, hv, h6, hEl⟩ := X
  have h : gI2l L B call go cx w r lv st T N k = true := h
  unfold gI2l at h
  simp only [chk, chkC] at hk
  split at hk
  · obtain ⟨b, s, rfl, h⟩ := fLs_ok h
    rcases b with m | m | m | m | m
    · simp only [fE_i, fF_ok] at h
      refine good_loc hins (q := (pc + 1, fLT v lv, (.inr (.inr (.inr (.inl (fOfL (fTi m))))) :: s : List FV).map (fv v))) ?_ (hgo _ _ _ _ _ _ _ _ _ h hr hc hF)
      show some (pc + 1, fLT v lv, Value.long (Int32.ofNat m).toInt64 :: s.map (fv v)) = some (pc + 1, fLT v lv, Value.long (Int64.ofNat (fOfL (fTi m))) :: s.map (fv v))
      rw [← fTi_ok, fOfL_x]
    · cases h
    · exact good_loc hins (q := (pc + 1, fLT v lv, (.inr (.inr (.inr (.inr m))) :: s : List FV).map (fv v))) rfl (hgo _ _ _ _ _ _ _ _ _ h hr hc hF)
    · cases h
    · cases h
  · cases hk
theorem fd_ladd {P : MP} {L : Nat} {xs v : Nat → Int32} {y : Nat} {callM : Nat → List Value → List MC → Option MRes} {B : FB} {call : FCl} {go : FN} {n : Nat} {cx : SCx} {w r : List Instr} {lv : FL} {st : List FV} {T : TT 7} {N : Nat} {k : FK} {σ : List MC} {pc : Nat} {ins : Instr}  (X : FX P L xs v y callM B call go n cx w T N σ pc) (hins : mpCode P y pc = some ins) (hk : chk P y pc (.ladd) ins = true) (hr : cor P y (pc + fLg (.ladd) ins) r = true) (h : fDo (.ladd) L B call go cx w r lv st T N k = true) : Good P L xs v y callM (n + 2) pc (fLT v lv) (st.map (fv v)) σ k := by
  obtain ⟨hgo, hB, hw, hc, hF, hcall, hL, hv, h6, hEl⟩ := X
  simp only [chk, chkC] at hk
  split at hk
  · obtain ⟨b, s1, rfl, h⟩ := fLs_ok h
    obtain ⟨a, s, rfl, h⟩ := fLs_ok h
    rcases a with m | m | m | m | m
    · cases h
    · cases h
    · cases h
    · rcases b with q | q | q | q | q
      · cases h
      · cases h
      · cases h
      · have h : fF (Nat.mod (Nat.add m q) 18446744073709551616) (fun z => go cx r lv (.inr (.inr (.inr (.inl z))) :: s) T N k) = true := h
        rw [fF_ok] at h
        refine good_loc hins (q := (pc + 1, fLT v lv, (.inr (.inr (.inr (.inl (Nat.mod (Nat.add m q) 18446744073709551616)))) :: s : List FV).map (fv v))) ?_ (hgo _ _ _ _ _ _ _ _ _ h hr hc hF)
        show some (pc + 1, fLT v lv, Value.long (Int64.ofNat m + Int64.ofNat q) :: s.map (fv v)) = _
        rw [← ladd_ok]
        rfl
      · cases h
    · cases h
  · cases hk
theorem fd_lcmp {P : MP} {L : Nat} {xs v : Nat → Int32} {y : Nat} {callM : Nat → List Value → List MC → Option MRes} {B : FB} {call : FCl} {go : FN} {n : Nat} {cx : SCx} {w r : List Instr} {lv : FL} {st : List FV} {T : TT 7} {N : Nat} {k : FK} {σ : List MC} {pc : Nat} {ins : Instr}  (X : FX P L xs v y callM B call go n cx w T N σ pc) (hins : mpCode P y pc = some ins) (hk : chk P y pc (.lcmp) ins = true) (hr : cor P y (pc + fLg (.lcmp) ins) r = true) (h : fDo (.lcmp) L B call go cx w r lv st T N k = true) : Good P L xs v y callM (n + 2) pc (fLT v lv) (st.map (fv v)) σ k := by
  obtain ⟨hgo, hB, hw, hc, hF, hcall, hL, hv, h6, hEl⟩ := X
  simp only [chk, chkC] at hk
  split at hk
  · obtain ⟨b, s1, rfl, h⟩ := fLs_ok h
    obtain ⟨a, s, rfl, h⟩ := fLs_ok h
    have h : fLcm (fBl cx a) (fBl cx b) (fun x => fF (oOf x) (fun z => go cx r lv (.inl z :: s) T N k)) (sAny (fFk .eq cx (fBl cx a) (fBl cx b) a b) (fun cx2 => go cx2 w lv (b :: a :: s) T N k)) = true := h
    unfold fLcm at h
    split at h
    · next A hA =>
      split at h
      · next D hD =>
        obtain ⟨p, hp, l1, l2⟩ := fBl_ok hc hA
        obtain ⟨z, hz, l3, l4⟩ := fBl_ok hc hD
        split at h
        · next x hx =>
          have h : fF (oOf x) (fun z => go cx r lv (.inl z :: s) T N k) = true := h
          rw [fF_ok] at h
          have hcmp : lg_cmp p z = x := by
            have hg : (z < p) ↔ z.toInt < p.toInt := Int64.lt_iff_toInt_lt
            have he : (p = z) ↔ p.toInt = z.toInt := ⟨fun h => by rw [h], fun h => Int64.toInt_inj.mp h⟩
            unfold sLcmp at hx
            unfold lg_cmp
            split at hx
            · cases hx
              rw [if_neg (fun q => by have := hg.mp q; omega), if_neg (fun q => by have := he.mp q; omega)]
            · split at hx
              · cases hx
                rw [if_pos (hg.mpr (by omega))]
              · split at hx
                · cases hx
                  rw [if_neg (fun q => by have := hg.mp q; omega), if_pos (he.mpr (by omega))]
                · cases hx
          refine good_loc hins (q := (pc + 1, fLT v lv, (.inl (oOf x) :: s : List FV).map (fv v))) ?_ (hgo _ _ _ _ _ _ _ _ _ h hr hc hF)
          simp only [List.map_cons, hp, hz]
          show some (pc + 1, fLT v lv, Value.int (lg_cmp p z) :: s.map (fv v)) = some (pc + 1, fLT v lv, Value.int (Int32.ofNat (oOf x)) :: s.map (fv v))
          rw [oOf, fOfI_x, hcmp]
        · obtain ⟨hne, hall⟩ := sAny_ok h
          obtain ⟨cx2, hm, hc2⟩ := fFk_ok hc hne
          exact good_up2 (hgo _ _ _ _ _ _ _ _ _ (hall cx2 hm) hw hc2 hF)
      · cases h
    · cases h
  · cases hk
theorem fd_lif {P : MP} {L : Nat} {xs v : Nat → Int32} {y : Nat} {callM : Nat → List Value → List MC → Option MRes} {B : FB} {call : FCl} {go : FN} {n : Nat} {cx : SCx} {w r : List Instr} {lv : FL} {st : List FV} {T : TT 7} {N : Nat} {k : FK} {σ : List MC} {pc : Nat} {ins : Instr} {t c : Nat} (X : FX P L xs v y callM B call go n cx w T N σ pc) (hins : mpCode P y pc = some ins) (hk : chk P y pc (.invokeinterface t c) ins = true) (hr : cor P y (pc + fLg (.invokeinterface t c) ins) r = true) (h : fDo (.invokeinterface t c) L B call go cx w r lv st T N k = true) : Good P L xs v y callM (n + 2) pc (fLT v lv) (st.map (fv v)) σ k := by
  obtain ⟨hgo, hB, hw, hc, hF, hcall, hL, hv, h6, hEl⟩ := X
  have hj : ∀ t : Nat, cor P y t (fBk B t) = true := fun t => fBk_ok (p := fun t c => cor P y t c = true) rfl hB

  simp only [chk, chkC] at hk
  split at hk
  · split at hk
    · next d off hoff =>
      obtain ⟨hd, hto⟩ := of_decide_eq_true hk
      subst hd
      obtain ⟨b, s1, rfl, h⟩ := fLs_ok h
      obtain ⟨a, s, rfl, h⟩ := fLs_ok h
      obtain ⟨A, D, hA, hD, h⟩ := fSlow_ok h
      obtain ⟨p, hp, l1, l2⟩ := fBl_ok hc hA
      obtain ⟨z, hz, l3, l4⟩ := fBl_ok hc hD
      have two : ∀ (t2 : Nat), (if mIf (fCd c) (lg_cmp p z) 0 = true then t else pc + 1 + 3) = t2 → Good P L xs v y callM n t2 (fLT v lv) (s.map (fv v)) σ k → Good P L xs v y callM (n + 2) pc (fLT v lv) ((b :: a :: s).map (fv v)) σ k := by
        intro t2 ht hg
        refine good_l1 hins (q := (pc + 1, fLT v lv, Value.int (lg_cmp p z) :: s.map (fv v))) ?_ (good_l1 hoff (q := (t2, fLT v lv, s.map (fv v))) ?_ hg)
        · simp only [List.map_cons, hp, hz]
          rfl
        · show (mTo (pc + 1) off).map (fun t3 => (if mIf (fCd c) (lg_cmp p z) 0 = true then t3 else pc + 1 + 3, fLT v lv, s.map (fv v))) = _
          rw [hto]
          show some (if mIf (fCd c) (lg_cmp p z) 0 = true then t else pc + 1 + 3, fLT v lv, s.map (fv v)) = _
          rw [ht]
      rcases h with ⟨ht, h⟩ | ⟨ht, h⟩ | h
      · exact two t (by rw [lg_tell ht l1 l2 l3 l4]; rfl) (hgo _ _ _ _ _ _ _ _ _ h (hj t) hc hF)
      · exact two (pc + 4) (by rw [lg_tell ht l1 l2 l3 l4]; rfl) (hgo _ _ _ _ _ _ _ _ _ h hr hc hF)
      · obtain ⟨hne, hall⟩ := sAny_ok h
        obtain ⟨cx2, hm, hc2⟩ := fFk_ok hc hne
        exact good_up2 (hgo _ _ _ _ _ _ _ _ _ (hall cx2 hm) hw hc2 hF)
    · cases hk
  · cases hk
theorem fd_dup {P : MP} {L : Nat} {xs v : Nat → Int32} {y : Nat} {callM : Nat → List Value → List MC → Option MRes} {B : FB} {call : FCl} {go : FN} {n : Nat} {cx : SCx} {w r : List Instr} {lv : FL} {st : List FV} {T : TT 7} {N : Nat} {k : FK} {σ : List MC} {pc : Nat} {ins : Instr}  (X : FX P L xs v y callM B call go n cx w T N σ pc) (hins : mpCode P y pc = some ins) (hk : chk P y pc (.dup) ins = true) (hr : cor P y (pc + fLg (.dup) ins) r = true) (h : fDo (.dup) L B call go cx w r lv st T N k = true) : Good P L xs v y callM (n + 2) pc (fLT v lv) (st.map (fv v)) σ k := by
  obtain ⟨hgo, hB, hw, hc, hF, hcall, hL, hv, h6, hEl⟩ := X
  simp only [chk, chkC] at hk
  split at hk
  · obtain ⟨x, s, rfl, h⟩ := fLs_ok h
    obtain ⟨h1, h⟩ := fIf_an h
    have h1 := Nat.eq_of_beq_eq_true h1
    refine good_loc hins (q := (pc + 1, fLT v lv, (x :: x :: s).map (fv v))) ?_ (hgo _ _ _ _ _ _ _ _ _ h hr hc hF)
    simp [mLocal, mLocalC, fv_cat, h1]
  · cases hk
theorem fd_pop {P : MP} {L : Nat} {xs v : Nat → Int32} {y : Nat} {callM : Nat → List Value → List MC → Option MRes} {B : FB} {call : FCl} {go : FN} {n : Nat} {cx : SCx} {w r : List Instr} {lv : FL} {st : List FV} {T : TT 7} {N : Nat} {k : FK} {σ : List MC} {pc : Nat} {ins : Instr}  (X : FX P L xs v y callM B call go n cx w T N σ pc) (hins : mpCode P y pc = some ins) (hk : chk P y pc (.pop) ins = true) (hr : cor P y (pc + fLg (.pop) ins) r = true) (h : fDo (.pop) L B call go cx w r lv st T N k = true) : Good P L xs v y callM (n + 2) pc (fLT v lv) (st.map (fv v)) σ k := by
  obtain ⟨hgo, hB, hw, hc, hF, hcall, hL, hv, h6, hEl⟩ := X
  simp only [chk, chkC] at hk
  split at hk
  · obtain ⟨x, s, rfl, h⟩ := fLs_ok h
    obtain ⟨h1, h⟩ := fIf_an h
    have h1 := Nat.eq_of_beq_eq_true h1
    refine good_loc hins (q := (pc + 1, fLT v lv, (s).map (fv v))) ?_ (hgo _ _ _ _ _ _ _ _ _ h hr hc hF)
    simp [mLocal, mLocalC, fv_cat, h1]
  · cases hk
theorem fd_dup2 {P : MP} {L : Nat} {xs v : Nat → Int32} {y : Nat} {callM : Nat → List Value → List MC → Option MRes} {B : FB} {call : FCl} {go : FN} {n : Nat} {cx : SCx} {w r : List Instr} {lv : FL} {st : List FV} {T : TT 7} {N : Nat} {k : FK} {σ : List MC} {pc : Nat} {ins : Instr}  (X : FX P L xs v y callM B call go n cx w T N σ pc) (hins : mpCode P y pc = some ins) (hk : chk P y pc (.dup2) ins = true) (hr : cor P y (pc + fLg (.dup2) ins) r = true) (h : fDo (.dup2) L B call go cx w r lv st T N k = true) : Good P L xs v y callM (n + 2) pc (fLT v lv) (st.map (fv v)) σ k := by
  obtain ⟨hgo, hB, hw, hc, hF, hcall, hL, hv, h6, hEl⟩ := X
  simp only [chk, chkC] at hk
  split at hk
  · obtain ⟨x, s1, rfl, h⟩ := fLs_ok h
    obtain ⟨x2, s, rfl, h⟩ := fLs_ok h
    obtain ⟨h1, h⟩ := fIf_an h
    obtain ⟨h2, h⟩ := fIf_an h
    have h1 := Nat.eq_of_beq_eq_true h1
    have h2 := Nat.eq_of_beq_eq_true h2
    refine good_loc hins (q := (pc + 1, fLT v lv, (x :: x2 :: x :: x2 :: s).map (fv v))) ?_ (hgo _ _ _ _ _ _ _ _ _ h hr hc hF)
    simp [mLocal, mLocalC, fv_cat, h1, h2]
  · cases hk
theorem fd_goto {P : MP} {L : Nat} {xs v : Nat → Int32} {y : Nat} {callM : Nat → List Value → List MC → Option MRes} {B : FB} {call : FCl} {go : FN} {n : Nat} {cx : SCx} {w r : List Instr} {lv : FL} {st : List FV} {T : TT 7} {N : Nat} {k : FK} {σ : List MC} {pc : Nat} {ins : Instr} {t : Int} (X : FX P L xs v y callM B call go n cx w T N σ pc) (hins : mpCode P y pc = some ins) (hk : chk P y pc (.goto t) ins = true) (hr : cor P y (pc + fLg (.goto t) ins) r = true) (h : fDo (.goto t) L B call go cx w r lv st T N k = true) : Good P L xs v y callM (n + 2) pc (fLT v lv) (st.map (fv v)) σ k := by
  obtain ⟨hgo, hB, hw, hc, hF, hcall, hL, hv, h6, hEl⟩ := X
  have hj : ∀ t : Nat, cor P y t (fBk B t) = true := fun t => fBk_ok (p := fun t c => cor P y t c = true) rfl hB

  have h : go cx (fBk B t.toNat) lv st T N k = true := h
  simp only [chk, chkC] at hk
  split at hk
  · next off =>
    have hk := of_decide_eq_true hk
    refine good_loc hins (q := (t.toNat, fLT v lv, st.map (fv v))) ?_ (hgo _ _ _ _ _ _ _ _ _ h (hj _) hc hF)
    show (mTo pc off).map (fun t => (t, fLT v lv, st.map (fv v))) = _
    rw [hk]
    rfl
  · cases hk
theorem fd_ifCond {P : MP} {L : Nat} {xs v : Nat → Int32} {y : Nat} {callM : Nat → List Value → List MC → Option MRes} {B : FB} {call : FCl} {go : FN} {n : Nat} {cx : SCx} {w r : List Instr} {lv : FL} {st : List FV} {T : TT 7} {N : Nat} {k : FK} {σ : List MC} {pc : Nat} {ins : Instr} {c : Jvm.ClassFile.Cond} {t : Int} (X : FX P L xs v y callM B call go n cx w T N σ pc) (hins : mpCode P y pc = some ins) (hk : chk P y pc (.ifCond c t) ins = true) (hr : cor P y (pc + fLg (.ifCond c t) ins) r = true) (h : fDo (.ifCond c t) L B call go cx w r lv st T N k = true) : Good P L xs v y callM (n + 2) pc (fLT v lv) (st.map (fv v)) σ k := by
  obtain ⟨hgo, hB, hw, hc, hF, hcall, hL, hv, h6, hEl⟩ := X
  have hj : ∀ t : Nat, cor P y t (fBk B t) = true := fun t => fBk_ok (p := fun t c => cor P y t c = true) rfl hB

  simp only [chk, chkC] at hk
  split at hk
  · next d off =>
    obtain ⟨hd, hto⟩ := of_decide_eq_true hk
    subst hd
    obtain ⟨x, s, rfl, h⟩ := fLs_ok h
    have one : ∀ (x0 : Int32) (t2 : Nat), fv v x = .int x0 → (if mIf d x0 0 = true then t.toNat else pc + 3) = t2 → Good P L xs v y callM n t2 (fLT v lv) (s.map (fv v)) σ k → Good P L xs v y callM (n + 2) pc (fLT v lv) ((x :: s).map (fv v)) σ k := by
      intro x0 t2 hx ht hg
      refine good_loc hins (q := (t2, fLT v lv, s.map (fv v))) ?_ hg
      simp only [List.map_cons, hx]
      show (mTo pc off).map (fun t3 => (if mIf d x0 0 = true then t3 else pc + 3, fLT v lv, s.map (fv v))) = _
      rw [hto]
      show some (if mIf d x0 0 = true then t.toNat else pc + 3, fLT v lv, s.map (fv v)) = _
      rw [ht]
    rcases x with m | m | m | m | m
    · have e0 : fOff 0 = 2147483648 := rfl
      have h : fIf (fCmp d (fOff m) 2147483648) (go cx (fBk B t.toNat) lv s T N k) (go cx r lv s T N k) = true := h
      have hm := fCmp_ok d m 0
      rw [e0] at hm
      rcases fIf_of h with ⟨hb, h⟩ | ⟨hb, h⟩
      · exact one _ t.toNat rfl (by rw [hm] at hb; have hb : mIf d (Int32.ofNat m) 0 = true := hb; rw [hb]; rfl) (hgo _ _ _ _ _ _ _ _ _ h (hj _) hc hF)
      · exact one _ (pc + 3) rfl (by rw [hm] at hb; have hb : mIf d (Int32.ofNat m) 0 = false := hb; rw [hb]; rfl) (hgo _ _ _ _ _ _ _ _ _ h hr hc hF)
    · cases h
    · have h : fSlow d cx[m]? (some (0, 0)) (go cx (fBk B t.toNat) lv s T N k) (go cx r lv s T N k) (sAny (fCc d cx m 0) (fun cx2 => go cx2 w lv (.inr (.inr (.inl m)) :: s) T N k)) = true := h
      obtain ⟨A, D, hA, hD, h⟩ := fSlow_ok h
      injection hD with hD
      obtain ⟨l1, l2⟩ := hc m A hA
      have tl : ∀ b, sTell d A D = some b → mIf d (v m) 0 = b := fun b hb => sTell_ok (z := 0) hb l1 l2 (by rw [← hD]; decide) (by rw [← hD]; decide)
      rcases h with ⟨ht, h⟩ | ⟨ht, h⟩ | h
      · exact one _ t.toNat rfl (by rw [tl _ ht]; rfl) (hgo _ _ _ _ _ _ _ _ _ h (hj _) hc hF)
      · exact one _ (pc + 3) rfl (by rw [tl _ ht]; rfl) (hgo _ _ _ _ _ _ _ _ _ h hr hc hF)
      · obtain ⟨hne, hall⟩ := sAny_ok h
        obtain ⟨cx2, hm, hc2⟩ := fCc_ok hc hne
        exact good_up2 (hgo _ _ _ _ _ _ _ _ _ (hall cx2 hm) hw hc2 hF)
    · cases h
    · cases h
  · cases hk
theorem fd_if_icmp {P : MP} {L : Nat} {xs v : Nat → Int32} {y : Nat} {callM : Nat → List Value → List MC → Option MRes} {B : FB} {call : FCl} {go : FN} {n : Nat} {cx : SCx} {w r : List Instr} {lv : FL} {st : List FV} {T : TT 7} {N : Nat} {k : FK} {σ : List MC} {pc : Nat} {ins : Instr} {c : Jvm.ClassFile.Cond} {t : Int} (X : FX P L xs v y callM B call go n cx w T N σ pc) (hins : mpCode P y pc = some ins) (hk : chk P y pc (.if_icmp c t) ins = true) (hr : cor P y (pc + fLg (.if_icmp c t) ins) r = true) (h : fDo (.if_icmp c t) L B call go cx w r lv st T N k = true) : Good P L xs v y callM (n + 2) pc (fLT v lv) (st.map (fv v)) σ k := by
  obtain ⟨hgo, hB, hw, hc, hF, hcall, hL, hv, h6, hEl⟩ := X
  have hj : ∀ t : Nat, cor P y t (fBk B t) = true := fun t => fBk_ok (p := fun t c => cor P y t c = true) rfl hB

  simp only [chk, chkC] at hk
  split at hk
  · next d off =>
    obtain ⟨hd, hto⟩ := of_decide_eq_true hk
    subst hd
    obtain ⟨b, s1, rfl, h⟩ := fLs_ok h
    obtain ⟨a, s, rfl, h⟩ := fLs_ok h
    have one : ∀ (x0 z0 : Int32) (t2 : Nat), fv v a = .int x0 → fv v b = .int z0 → (if mIf d x0 z0 = true then t.toNat else pc + 3) = t2 → Good P L xs v y callM n t2 (fLT v lv) (s.map (fv v)) σ k → Good P L xs v y callM (n + 2) pc (fLT v lv) ((b :: a :: s).map (fv v)) σ k := by
      intro x0 z0 t2 hx hz ht hg
      refine good_loc hins (q := (t2, fLT v lv, s.map (fv v))) ?_ hg
      simp only [List.map_cons, hx, hz]
      show (mTo pc off).map (fun t3 => (if mIf d x0 z0 = true then t3 else pc + 3, fLT v lv, s.map (fv v))) = _
      rw [hto]
      show some (if mIf d x0 z0 = true then t.toNat else pc + 3, fLT v lv, s.map (fv v)) = _
      rw [ht]
    have slow : fIcs d cx a b (go cx (fBk B t.toNat) lv s T N k) (go cx r lv s T N k) (fun cx2 => go cx2 w lv (b :: a :: s) T N k) = true → Good P L xs v y callM (n + 2) pc (fLT v lv) ((b :: a :: s).map (fv v)) σ k := by
      intro h
      obtain ⟨A, D, hA, hD, h⟩ := fSlow_ok h
      obtain ⟨hx, l1, l2⟩ := fBd_ok hc hA
      obtain ⟨hz, l3, l4⟩ := fBd_ok hc hD
      rcases h with ⟨ht, h⟩ | ⟨ht, h⟩ | h
      · exact one _ _ t.toNat hx hz (by rw [sTell_ok ht l1 l2 l3 l4]; rfl) (hgo _ _ _ _ _ _ _ _ _ h (hj _) hc hF)
      · exact one _ _ (pc + 3) hx hz (by rw [sTell_ok ht l1 l2 l3 l4]; rfl) (hgo _ _ _ _ _ _ _ _ _ h hr hc hF)
      · rcases fIf_of h with ⟨hs, h7⟩ | ⟨hs, h7⟩
        · have hab : a = b := by
            rcases a with m | m | m | m | m
            · cases hs
            · cases hs
            · rcases b with q | q | q | q | q
              · cases hs
              · cases hs
              · rw [Nat.eq_of_beq_eq_true (show Nat.beq m q = true from hs)]
              · cases hs
              · cases hs
            · cases hs
            · cases hs
          subst hab
          have hm : ∀ x : Int32, mIf d x x = sSame d := by
            intro x
            cases d <;> simp [mIf, sSame]
          rcases fIf_of h7 with ⟨hb, h8⟩ | ⟨hb, h8⟩
          · exact one _ _ t.toNat hx hx (by rw [hm, hb]; rfl) (hgo _ _ _ _ _ _ _ _ _ h8 (hj _) hc hF)
          · exact one _ _ (pc + 3) hx hx (by rw [hm, hb]; rfl) (hgo _ _ _ _ _ _ _ _ _ h8 hr hc hF)
        · obtain ⟨hne, hall⟩ := sAny_ok h7
          obtain ⟨cx2, hm, hc2⟩ := fFk_ok hc hne
          exact good_up2 (hgo _ _ _ _ _ _ _ _ _ (hall cx2 hm) hw hc2 hF)
    rcases b with q | q | q | q | q
    · rcases a with m | m | m | m | m
      · have h : fIf (fCmp d (fOff m) (fOff q)) (go cx (fBk B t.toNat) lv s T N k) (go cx r lv s T N k) = true := h
        rw [fCmp_ok] at h
        rcases fIf_of h with ⟨hb, h⟩ | ⟨hb, h⟩
        · exact one _ _ t.toNat rfl rfl (by rw [hb]; rfl) (hgo _ _ _ _ _ _ _ _ _ h (hj _) hc hF)
        · exact one _ _ (pc + 3) rfl rfl (by rw [hb]; rfl) (hgo _ _ _ _ _ _ _ _ _ h hr hc hF)
      · cases h
      · exact slow h
      · cases h
      · cases h
    · cases h
    · exact slow h
    · cases h
    · cases h
  · cases hk
theorem fd_ifnull {P : MP} {L : Nat} {xs v : Nat → Int32} {y : Nat} {callM : Nat → List Value → List MC → Option MRes} {B : FB} {call : FCl} {go : FN} {n : Nat} {cx : SCx} {w r : List Instr} {lv : FL} {st : List FV} {T : TT 7} {N : Nat} {k : FK} {σ : List MC} {pc : Nat} {ins : Instr} {t : Int} (X : FX P L xs v y callM B call go n cx w T N σ pc) (hins : mpCode P y pc = some ins) (hk : chk P y pc (.ifnull t) ins = true) (hr : cor P y (pc + fLg (.ifnull t) ins) r = true) (h : fDo (.ifnull t) L B call go cx w r lv st T N k = true) : Good P L xs v y callM (n + 2) pc (fLT v lv) (st.map (fv v)) σ k := by
  obtain ⟨hgo, hB, hw, hc, hF, hcall, hL, hv, h6, hEl⟩ := X
  have hj : ∀ t : Nat, cor P y t (fBk B t) = true := fun t => fBk_ok (p := fun t c => cor P y t c = true) rfl hB

  simp only [chk, chkC] at hk
  split at hk
  · next off =>
    have hto := of_decide_eq_true hk
    obtain ⟨x, s, rfl, h⟩ := fLs_ok h
    have one : ∀ (x0 : Option Nat) (t2 : Nat), fv v x = va_rf x0 → (if x0 = none then t.toNat else pc + 3) = t2 → Good P L xs v y callM n t2 (fLT v lv) (s.map (fv v)) σ k → Good P L xs v y callM (n + 2) pc (fLT v lv) ((x :: s).map (fv v)) σ k := by
      intro x0 t2 hx ht hg
      refine good_loc hins (q := (t2, fLT v lv, s.map (fv v))) ?_ hg
      simp only [List.map_cons, hx]
      show (mA1 (va_rf x0 :: s.map (fv v))).bind (fun q : Option Nat × List Value => (mTo pc off).map (fun t3 => (if q.1 = none then t3 else pc + 3, fLT v lv, q.2))) = _
      rw [mA1_va, hto]
      show some (if x0 = none then t.toNat else pc + 3, fLT v lv, s.map (fv v)) = _
      rw [ht]
    rcases x with m | m | m | m | m
    · cases h
    · cases m with
      | zero => exact one none t.toNat rfl rfl (hgo _ _ _ _ _ _ _ _ _ (show go cx (fBk B t.toNat) lv s T N k = true from h) (hj _) hc hF)
      | succ m => exact one (some m) (pc + 3) rfl rfl (hgo _ _ _ _ _ _ _ _ _ (show go cx r lv s T N k = true from h) hr hc hF)
    · cases h
    · cases h
    · cases h
  · cases hk
theorem fd_ifnonnull {P : MP} {L : Nat} {xs v : Nat → Int32} {y : Nat} {callM : Nat → List Value → List MC → Option MRes} {B : FB} {call : FCl} {go : FN} {n : Nat} {cx : SCx} {w r : List Instr} {lv : FL} {st : List FV} {T : TT 7} {N : Nat} {k : FK} {σ : List MC} {pc : Nat} {ins : Instr} {t : Int} (X : FX P L xs v y callM B call go n cx w T N σ pc) (hins : mpCode P y pc = some ins) (hk : chk P y pc (.ifnonnull t) ins = true) (hr : cor P y (pc + fLg (.ifnonnull t) ins) r = true) (h : fDo (.ifnonnull t) L B call go cx w r lv st T N k = true) : Good P L xs v y callM (n + 2) pc (fLT v lv) (st.map (fv v)) σ k := by
  obtain ⟨hgo, hB, hw, hc, hF, hcall, hL, hv, h6, hEl⟩ := X
  have hj : ∀ t : Nat, cor P y t (fBk B t) = true := fun t => fBk_ok (p := fun t c => cor P y t c = true) rfl hB

  simp only [chk, chkC] at hk
  split at hk
  · next off =>
    have hto := of_decide_eq_true hk
    obtain ⟨x, s, rfl, h⟩ := fLs_ok h
    have one : ∀ (x0 : Option Nat) (t2 : Nat), fv v x = va_rf x0 → (if x0 = none then pc + 3 else t.toNat) = t2 → Good P L xs v y callM n t2 (fLT v lv) (s.map (fv v)) σ k → Good P L xs v y callM (n + 2) pc (fLT v lv) ((x :: s).map (fv v)) σ k := by
      intro x0 t2 hx ht hg
      refine good_loc hins (q := (t2, fLT v lv, s.map (fv v))) ?_ hg
      simp only [List.map_cons, hx]
      show (mA1 (va_rf x0 :: s.map (fv v))).bind (fun q : Option Nat × List Value => (mTo pc off).map (fun t3 => (if q.1 = none then pc + 3 else t3, fLT v lv, q.2))) = _
      rw [mA1_va, hto]
      show some (if x0 = none then pc + 3 else t.toNat, fLT v lv, s.map (fv v)) = _
      rw [ht]
    rcases x with m | m | m | m | m
    · cases h
    · cases m with
      | zero => exact one none (pc + 3) rfl rfl (hgo _ _ _ _ _ _ _ _ _ (show go cx r lv s T N k = true from h) hr hc hF)
      | succ m => exact one (some m) t.toNat rfl rfl (hgo _ _ _ _ _ _ _ _ _ (show go cx (fBk B t.toNat) lv s T N k = true from h) (hj _) hc hF)
    · cases h
    · cases h
    · cases h
  · cases hk
theorem fd_tableswitch {P : MP} {L : Nat} {xs v : Nat → Int32} {y : Nat} {callM : Nat → List Value → List MC → Option MRes} {B : FB} {call : FCl} {go : FN} {n : Nat} {cx : SCx} {w r : List Instr} {lv : FL} {st : List FV} {T : TT 7} {N : Nat} {k : FK} {σ : List MC} {pc : Nat} {ins : Instr} {d lo hi : Int} {ts : Array Int} (X : FX P L xs v y callM B call go n cx w T N σ pc) (hins : mpCode P y pc = some ins) (hk : chk P y pc (.tableswitch d lo hi ts) ins = true) (hr : cor P y (pc + fLg (.tableswitch d lo hi ts) ins) r = true) (h : fDo (.tableswitch d lo hi ts) L B call go cx w r lv st T N k = true) : Good P L xs v y callM (n + 2) pc (fLT v lv) (st.map (fv v)) σ k := by
  obtain ⟨hgo, hB, hw, hc, hF, hcall, hL, hv, h6, hEl⟩ := X
  have hj : ∀ t : Nat, cor P y t (fBk B t) = true := fun t => fBk_ok (p := fun t c => cor P y t c = true) rfl hB

  simp only [chk, chkC] at hk
  split at hk
  · next d2 lo2 hi2 offs =>
    obtain ⟨e1, e2, hd, hts⟩ := of_decide_eq_true hk
    subst e1
    subst e2
    obtain ⟨x, s, rfl, h⟩ := fLs_ok h
    have one : ∀ (x0 : Int32), fv v x = .int x0 → fSw x0.toInt d lo2 hi2 ts (fun t => go cx (fBk B t) lv s T N k) = true → Good P L xs v y callM (n + 2) pc (fLT v lv) ((x :: s).map (fv v)) σ k := by
      intro x0 hx h
      obtain ⟨t, h, ht⟩ := fSw_ok h hd hts
      refine good_loc hins (q := (t, fLT v lv, s.map (fv v))) ?_ (hgo _ _ _ _ _ _ _ _ _ h (hj _) hc hF)
      simp only [List.map_cons, hx]
      show (if x0.toInt < lo2 ∨ hi2 < x0.toInt then (mTo pc d2).map (fun t => (t, fLT v lv, s.map (fv v))) else (offs[(x0.toInt - lo2).toNat]?).bind (fun o => (mTo pc o).map (fun t => (t, fLT v lv, s.map (fv v))))) = _
      by_cases hz : x0.toInt < lo2 ∨ hi2 < x0.toInt
      · rw [if_pos hz] at ht
        rw [if_pos hz, ht]
        rfl
      · rw [if_neg hz] at ht
        obtain ⟨o, ho, ht⟩ := ht
        rw [if_neg hz, ho, Option.bind_some, ht]
        rfl
    rcases x with m | m | m | m | m
    · have h : fSw (fTi m) d lo2 hi2 ts (fun t => go cx (fBk B t) lv s T N k) = true := h
      rw [← fTi_ok] at h
      exact one _ rfl h
    · cases h
    · have h : fTs cx m d lo2 hi2 ts (fun t => go cx (fBk B t) lv s T N k) (fun cx2 => go cx2 w lv (.inr (.inr (.inl m)) :: s) T N k) = true := h
      unfold fTs at h
      split at h
      · next p hp =>
        obtain ⟨b1, b2⟩ := hc m p hp
        split at h
        · next ho =>
          refine one _ rfl ?_
          unfold fSw
          rw [if_pos (by omega)]
          exact h
        · split at h
          · next he =>
            refine one (v m) rfl ?_
            rw [show (v m).toInt = p.1 by omega]
            exact h
          · obtain ⟨hne, hall⟩ := sAny_ok h
            have hex : ∃ cx2 ∈ (if p.1 < lo2 ∧ lo2 ≤ p.2 then sCut cx m lo2 else if p.1 ≤ hi2 ∧ hi2 < p.2 then sCut cx m hi2 else sEnum cx m), sIn cx2 v := by
              split at hne
              · next q => rw [if_pos q]; exact sCut_ok hc hne
              · next q =>
                rw [if_neg q]
                split at hne
                · next q2 => rw [if_pos q2]; exact sCut_ok hc hne
                · next q2 => rw [if_neg q2]; exact sEnum_ok hc hne
            obtain ⟨cx2, hm, hc2⟩ := hex
            exact good_up2 (hgo _ _ _ _ _ _ _ _ _ (hall cx2 hm) hw hc2 hF)
      · cases h
    · cases h
    · cases h
  · cases hk
