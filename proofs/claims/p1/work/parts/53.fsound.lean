/-! what the fast machine finds, the small machine does: calls, ends, whole runs -/
theorem fIf_t {x z : Bool} : fIf true x z = x := rfl
theorem fIf_f {x z : Bool} : fIf false x z = z := rfl
theorem fOff_eq (a : Nat) : fOff a = (a + 2147483648) % 4294967296 := rfl
theorem mMin_of {P : MP} {L : Nat} {xs : Nat → Int32} {y i pc : Nat} {σ : List MC} {q : Nat × Nat × Nat} (hq : mpInv P y i = some q) (h5 : q.1 = 8) {x z : Int32} {s : List Value} (h4 : (s.map (fun v => v.category)).sum ≤ 8) (hf : 1 ≤ (mpInfo P y).2.1) (hl : 30 ≤ (mpInfo P y).2.2.1) : mHeap P L xs y (.invokestatic i) pc (.int z :: .int x :: s) σ = some (pc + 3, .int (if z < x then z else x) :: s, σ) := by
  simp only [mHeap, mHeapC, hq, Option.bind_some, h5]
  rw [if_neg (by decide), if_neg (by decide), if_pos trivial, if_pos ⟨h4, hf, hl⟩]
theorem fStep_ok {P : MP} {y i want room : Nat} (h : fStep P y i want room = true) : ∃ q, mpInv P y i = some q ∧ q.1 = want ∧ 1 ≤ (mpInfo P y).2.1 ∧ room ≤ (mpInfo P y).2.2.1 := by
  unfold fStep at h
  split at h
  · next q hq =>
    obtain ⟨a, b, c⟩ := of_decide_eq_true h
    exact ⟨q, hq, a, b, c⟩
  · cases h
theorem fApp_ok (v : Nat → Int32) (o : Option FV) (s : List FV) : (fApp o s).map (fv v) = (Option.map (fv v) o).toList ++ s.map (fv v) := by cases o <;> rfl
def CK (P : MP) (y y2 n2 : Nat) (st : List Value) : Prop := n2 ≤ st.length ∧ ((st.drop n2).map (fun v => v.category)).sum ≤ 8 ∧ (mpInfo P y2).2.1 + 1 ≤ (mpInfo P y).2.1 ∧ 8 + ((mpInfo P y2).1 + 11) + (mpInfo P y2).2.2.1 ≤ (mpInfo P y).2.2.1 ∧ (lg_sl ((st.take n2).reverse)).length ≤ (mpInfo P y2).1
theorem fCallK {P : MP} {y : Nat} {v : Nat → Int32} {y2 n2 ml : Nat} {st : List FV} (hn : n2 ≤ st.length) (h4 : Nat.ble (fLen (st.drop n2)) 4 = true) (hs : Nat.ble (fSum ((st.take n2).reverse)) ml = true) (hcs : fCs P y y2 ml = true) : CK P y y2 n2 (st.map (fv v)) ∧ ((st.map (fv v)).take n2).reverse = ((st.take n2).reverse).map (fv v) ∧ (st.map (fv v)).drop n2 = (st.drop n2).map (fv v) := by
  have e1 : ((st.map (fv v)).take n2).reverse = ((st.take n2).reverse).map (fv v) := by rw [← List.map_take, ← List.map_reverse]
  have e2 : (st.map (fv v)).drop n2 = (st.drop n2).map (fv v) := by rw [← List.map_drop]
  obtain ⟨c1, c2, c3⟩ := of_decide_eq_true (show decide _ = true from hcs)
  refine ⟨⟨by simpa using hn, ?_, c1, c2, ?_⟩, e1, e2⟩
  · rw [e2]; exact fShort h4
  · rw [e1, lg_cat, fSum_ok, ← c3]; exact Nat.le_of_ble_eq_true hs
theorem mCallK_0 {P : MP} {y k y2 n2 : Nat} {st as rest : List Value} {σ : List MC} (hk : k = 0 ∨ k = 4) (h : CK P y y2 n2 st) (e1 : (st.take n2).reverse = as) (e2 : st.drop n2 = rest) : mCallK P y k y2 n2 st σ = some (y2, as, rest) := by
  unfold CK at h
  unfold mCallK
  rw [if_pos h, e1, e2]
  rcases hk with rfl | rfl <;> rfl
theorem mCallK_s {P : MP} {y k y2 n2 u : Nat} {st as rest : List Value} {σ : List MC} (hk : k = 2 ∨ k = 3) (h : CK P y y2 n2 st) (e1 : (st.take n2).reverse = .ref u :: as) (e2 : st.drop n2 = rest) : mCallK P y k y2 n2 st σ = some (y2, .ref u :: as, rest) := by
  unfold CK at h
  unfold mCallK
  rw [if_pos h, e1, e2]
  rcases hk with rfl | rfl <;> rfl
theorem mCallK_v {P : MP} {y y2 n2 u : Nat} {st as rest : List Value} {σ : List MC} {o : Nat × List Value} (h : CK P y y2 n2 st) (e1 : (st.take n2).reverse = .ref u :: as) (e2 : st.drop n2 = rest) (ho : mObj σ u = some o) (hc : o.1 = (mpInfo P y2).2.2.2.2.2) : mCallK P y 1 y2 n2 st σ = some (y2, .ref u :: as, rest) := by
  unfold CK at h
  unfold mCallK
  rw [if_pos h, e1, e2]
  simp only [ho]
  rw [if_pos hc]
theorem fd_nop {P : MP} {L : Nat} {xs v : Nat → Int32} {y : Nat} {callM : Nat → List Value → List MC → Option MRes} {B : FB} {call : FCl} {go : FN} {n : Nat} {cx : SCx} {w r : List Instr} {lv : FL} {st : List FV} {T : TT 7} {N : Nat} {k : FK} {σ : List MC} {pc : Nat} {ins : Instr}  (X : FX P L xs v y callM B call go n cx w T N σ pc) (hins : mpCode P y pc = some ins) (hk : chk P y pc (.nop) ins = true) (hr : cor P y (pc + fLg (.nop) ins) r = true) (h : fDo (.nop) L B call go cx w r lv st T N k = true) : Good P L xs v y callM (n + 2) pc (fLT v lv) (st.map (fv v)) σ k := by
  obtain ⟨hgo, hB, hw, hc, hF, hcall, hL, hv, h6, hEl⟩ := X
  simp only [chk, chkC] at hk
  split at hk
  · next i =>
    obtain ⟨q, hq, h5, hf, hl⟩ := fStep_ok hk
    replace h : gOini L B call go cx w r lv st T N k = true := h
    unfold gOini at h
    replace h := fLs_ok h
    obtain ⟨x, s, rfl, h⟩ := h
    rcases x with u | u | u | u | u
    · cases h
    · cases u with
      | zero => cases h
      | succ u =>
        obtain ⟨h4, h⟩ := fIf_an (show fIf (Nat.ble (fLen s) 4) (go cx r lv s T N k) false = true from h)
        refine good_heap hins (q := (pc + 3, s.map (fv v), σ)) ?_ (hgo _ _ _ _ _ _ _ _ _ h hr hc hF)
        show (mpInv P y i).bind (fun q => if q.1 = 5 then (if ((s.map (fv v)).map (fun v => v.category)).sum ≤ 8 ∧ 1 ≤ (mpInfo P y).2.1 ∧ 20 ≤ (mpInfo P y).2.2.1 then some (pc + 3, s.map (fv v), σ) else none) else none) = _
        rw [hq, Option.bind_some, if_pos h5, if_pos ⟨fShort h4, hf, hl⟩]
    · cases h
    · cases h
    · cases h
  · cases hk
theorem fd_dup_x2 {P : MP} {L : Nat} {xs v : Nat → Int32} {y : Nat} {callM : Nat → List Value → List MC → Option MRes} {B : FB} {call : FCl} {go : FN} {n : Nat} {cx : SCx} {w r : List Instr} {lv : FL} {st : List FV} {T : TT 7} {N : Nat} {k : FK} {σ : List MC} {pc : Nat} {ins : Instr}  (X : FX P L xs v y callM B call go n cx w T N σ pc) (hins : mpCode P y pc = some ins) (hk : chk P y pc (.dup_x2) ins = true) (hr : cor P y (pc + fLg (.dup_x2) ins) r = true) (h : fDo (.dup_x2) L B call go cx w r lv st T N k = true) : Good P L xs v y callM (n + 2) pc (fLT v lv) (st.map (fv v)) σ k := by
  obtain ⟨hgo, hB, hw, hc, hF, hcall, hL, hv, h6, hEl⟩ := X
  simp only [chk, chkC] at hk
  split at hk
  · next i =>
    obtain ⟨q, hq, h5, hf, hl⟩ := fStep_ok hk
    replace h : gMin L B call go cx w r lv st T N k = true := h
    unfold gMin at h
    replace h := fLs_ok h
    obtain ⟨b, s1, rfl, h⟩ := h
    replace h := fLs_ok h
    obtain ⟨a, s, rfl, h⟩ := h
    rcases fNum_ok hc h with ⟨m, hm, h⟩ | ⟨cx2, hc2, h⟩
    · rcases fNum_ok hc h with ⟨u, hu, h⟩ | ⟨cx2, hc2, h⟩
      · obtain ⟨h4, h⟩ := fIf_an h
        rw [fCmp_ok] at h
        rcases fIf_of h with ⟨hb, h⟩ | ⟨hb, h⟩
        · refine good_heap hins (q := (pc + 3, (.inl u :: s : List FV).map (fv v), σ)) ?_ (hgo _ _ _ _ _ _ _ _ _ h hr hc hF)
          simp only [List.map_cons, hm, hu]
          rw [mMin_of hq h5 (fShort h4) hf hl, if_pos (of_decide_eq_true hb)]
          rfl
        · refine good_heap hins (q := (pc + 3, (.inl m :: s : List FV).map (fv v), σ)) ?_ (hgo _ _ _ _ _ _ _ _ _ h hr hc hF)
          simp only [List.map_cons, hm, hu]
          rw [mMin_of hq h5 (fShort h4) hf hl, if_neg (of_decide_eq_false hb)]
          rfl
      · exact good_up2 (hgo _ _ _ _ _ _ _ _ _ h hw hc2 hF)
    · exact good_up2 (hgo _ _ _ _ _ _ _ _ _ h hw hc2 hF)
  · cases hk
theorem fd_swap {P : MP} {L : Nat} {xs v : Nat → Int32} {y : Nat} {callM : Nat → List Value → List MC → Option MRes} {B : FB} {call : FCl} {go : FN} {n : Nat} {cx : SCx} {w r : List Instr} {lv : FL} {st : List FV} {T : TT 7} {N : Nat} {k : FK} {σ : List MC} {pc : Nat} {ins : Instr}  (X : FX P L xs v y callM B call go n cx w T N σ pc) (hins : mpCode P y pc = some ins) (hk : chk P y pc (.swap) ins = true) (hr : cor P y (pc + fLg (.swap) ins) r = true) (h : fDo (.swap) L B call go cx w r lv st T N k = true) : Good P L xs v y callM (n + 2) pc (fLT v lv) (st.map (fv v)) σ k := by
  obtain ⟨hgo, hB, hw, hc, hF, hcall, hL, hv, h6, hEl⟩ := X
  simp only [chk, chkC] at hk
  split at hk
  · next i =>
    obtain ⟨q, hq, h5, hf, hl⟩ := fStep_ok hk
    replace h : gCopy L B call go cx w r lv st T N k = true := h
    unfold gCopy at h
    replace h := fLs_ok h
    obtain ⟨z, s4, rfl, h⟩ := h
    replace h := fLs_ok h
    obtain ⟨y1, s3, rfl, h⟩ := h
    replace h := fLs_ok h
    obtain ⟨a1, s2, rfl, h⟩ := h
    replace h := fLs_ok h
    obtain ⟨x, s1, rfl, h⟩ := h
    replace h := fLs_ok h
    obtain ⟨a0, s, rfl, h⟩ := h
    obtain ⟨h4, h⟩ := fIf_an h
    rcases fNum_ok hc h with ⟨m, hm, h⟩ | ⟨cx2, hc2, h⟩
    · rcases fNum_ok hc h with ⟨dp, hdp, h⟩ | ⟨cx2, hc2, h⟩
      · rcases fNum_ok hc h with ⟨sp, hsp, h⟩ | ⟨cx2, hc2, h⟩
        · replace h := fCell_ok hF h
          obtain ⟨q0, e0, hq0, rfl, ht0, hs0, h⟩ := h
          rcases e0 with ⟨t0, len0, c0⟩ | o
          · obtain ⟨hb, h⟩ := fIf_an (show fIf (Nat.beq t0 0) (fE len0 (fun l0 => fIf (Nat.ble (Nat.add sp m) l0) (fIf (Nat.ble l0 1000000) (fCell T a1 (fun q e1 => fAr e1 (fun t1 len1 c1 => fIf (Nat.beq t1 0) (fE len1 (fun l1 => fIf (Nat.ble (Nat.add dp m) l1) (fIf (Nat.ble l1 1000000) (go cx r lv s (fTp 7 T q (.inl (0, len1, fCp c0 sp dp m c1))) N k) false) false) fNo fNo fNo fNo) false))) false) false) fNo fNo fNo fNo) false = true from h)
            have hb := Nat.eq_of_beq_eq_true hb
            subst hb
            rcases len0 with l0 | l0 | l0 | l0 | l0
            · obtain ⟨g1, h⟩ := fIf_an h
              obtain ⟨g2, h⟩ := fIf_an h
              have g1 : sp + m ≤ l0 := Nat.le_of_ble_eq_true g1
              have g2 := Nat.le_of_ble_eq_true g2
              replace h := fCell_ok hF h
              obtain ⟨q1, e1, hq1, rfl, ht1, hs1, h⟩ := h
              rcases e1 with ⟨t1, len1, c1⟩ | o
              · obtain ⟨hb, h⟩ := fIf_an (show fIf (Nat.beq t1 0) (fE len1 (fun l1 => fIf (Nat.ble (Nat.add dp m) l1) (fIf (Nat.ble l1 1000000) (go cx r lv s (fTp 7 T q1 (.inl (0, len1, fCp c0 sp dp m c1))) N k) false) false) fNo fNo fNo fNo) false = true from h)
                have hb := Nat.eq_of_beq_eq_true hb
                subst hb
                rcases len1 with l1 | l1 | l1 | l1 | l1
                · obtain ⟨g3, h⟩ := fIf_an h
                  obtain ⟨g4, h⟩ := fIf_an h
                  have g3 : dp + m ≤ l1 := Nat.le_of_ble_eq_true g3
                  have g4 := Nat.le_of_ble_eq_true g4
                  have hF2 := FR_put hF hq1 ht1 (.inl (0, .inl l1, fCp c0 sp dp m c1))
                  have k0 : mIx (fInt v (.inl l0)) = l0 := fIx g2
                  have k1 : mIx (fInt v (.inl l1)) = l1 := fIx g4
                  have i0 : mIx (Int32.ofNat sp) = sp := fIx (by omega)
                  have i1 : mIx (Int32.ofNat dp) = dp := fIx (by omega)
                  have i2 : mIx (Int32.ofNat m) = m := fIx (by omega)
                  refine good_heap hins (q := (pc + 3, s.map (fv v), σ.set q1 (fc v (.inl (0, .inl l1, fCp c0 sp dp m c1))))) ?_ (hgo _ _ _ _ _ _ _ _ _ h hr hc hF2)
                  simp only [List.map_cons, hm, hdp, hsp]
                  show (mpInv P y i).bind (fun q => if q.1 = 6 then ((mCInts σ (q0 + 1)).bind (fun f => (mCInts σ (q1 + 1)).bind (fun g => if ¬ Int32.ofNat sp < 0 ∧ ¬ Int32.ofNat dp < 0 ∧ ¬ Int32.ofNat m < 0 ∧ mIx (Int32.ofNat sp) + mIx (Int32.ofNat m) ≤ f.1 ∧ mIx (Int32.ofNat dp) + mIx (Int32.ofNat m) ≤ g.1 ∧ ((s.map (fv v)).map (fun v => v.category)).sum ≤ 8 ∧ 1 ≤ (mpInfo P y).2.1 ∧ 40 ≤ (mpInfo P y).2.2.1 then some (pc + 3, s.map (fv v), mPut σ (q1 + 1) (.inl (0, g.1, .inl (va_cpy f.2 g.2 (mIx (Int32.ofNat sp)) (mIx (Int32.ofNat dp)) (mIx (Int32.ofNat m)))))) else none))) else _) = _
                  rw [hq, Option.bind_some, if_pos h5, mCInts_of hs0, mCInts_of hs1]
                  simp only [Option.bind_some]
                  rw [i0, i1, i2, k0, k1, if_pos ⟨fNng (by omega), fNng (by omega), fNng (by omega), g1, g3, fShort h4, hf, hl⟩]
                  show some (pc + 3, s.map (fv v), σ.set q1 (Sum.inl (0, l1, Sum.inl (va_cpy (fArr v c0) (fArr v c1) sp dp m)))) = some (pc + 3, s.map (fv v), σ.set q1 (Sum.inl (0, mIx (fInt v (.inl l1)), Sum.inl (fArr v (fCp c0 sp dp m c1)))))
                  rw [fCp_ok, k1]
                · cases h
                · cases h
                · cases h
                · cases h
              · cases h
            · cases h
            · cases h
            · cases h
            · cases h
          · cases h
        · exact good_up2 (hgo _ _ _ _ _ _ _ _ _ h hw hc2 hF)
      · exact good_up2 (hgo _ _ _ _ _ _ _ _ _ h hw hc2 hF)
    · exact good_up2 (hgo _ _ _ _ _ _ _ _ _ h hw hc2 hF)
  · cases hk
theorem fd_invokestatic {P : MP} {L : Nat} {xs v : Nat → Int32} {y : Nat} {callM : Nat → List Value → List MC → Option MRes} {B : FB} {call : FCl} {go : FN} {n : Nat} {cx : SCx} {w r : List Instr} {lv : FL} {st : List FV} {T : TT 7} {N : Nat} {k : FK} {σ : List MC} {pc : Nat} {ins : Instr} {m : Nat} (X : FX P L xs v y callM B call go n cx w T N σ pc) (hins : mpCode P y pc = some ins) (hk : chk P y pc (.invokestatic m) ins = true) (hr : cor P y (pc + fLg (.invokestatic m) ins) r = true) (h : fDo (.invokestatic m) L B call go cx w r lv st T N k = true) : Good P L xs v y callM (n + 2) pc (fLT v lv) (st.map (fv v)) σ k := by
  obtain ⟨hgo, hB, hw, hc, hF, hcall, hL, hv, h6, hEl⟩ := X
  simp only [chk, chkC] at hk
  split at hk
  · next i =>
    rw [Bool.and_eq_true] at hk
    obtain ⟨hi, hcs⟩ := hk
    have hi := of_decide_eq_true hi
    replace h : gCall (Nat.div m 65536) (Nat.mod (Nat.div m 256) 256) (Nat.mod m 256) L B call go cx w r lv st T N k = true := h
    unfold gCall at h
    obtain ⟨hn, h⟩ := fTk_ok h
    rw [List.append_nil] at h
    obtain ⟨h4, h⟩ := fIf_an h
    obtain ⟨hs, h⟩ := fIf_an h
    obtain ⟨hK, e1, e2⟩ := fCallK (v := v) hn h4 hs hcs
    obtain ⟨ro, σ2, T2, N2, cx2, c1, c2, c3, c4⟩ := hcall _ _ _ _ _ _ _ h hc hF
    have g := hgo _ (pc + 3) _ _ _ _ _ _ _ c4 hr c3 c2
    rw [fApp_ok] at g

    refine good_call hins (y2 := m / 65536) (as := ((st.take (m / 256 % 256)).reverse).map (fv v)) (rest := (st.drop (m / 256 % 256)).map (fv v)) ?_ c1 g
    rcases hi with hi | hi
    · show (mpInv P y i).bind (fun q => if q.1 = 0 ∨ q.1 = 4 then mCallK P y q.1 q.2.1 q.2.2 (st.map (fv v)) σ else none) = _
      rw [hi, Option.bind_some, if_pos (Or.inl rfl)]
      exact mCallK_0 (Or.inl rfl) hK e1 e2
    · show (mpInv P y i).bind (fun q => if q.1 = 0 ∨ q.1 = 4 then mCallK P y q.1 q.2.1 q.2.2 (st.map (fv v)) σ else none) = _
      rw [hi, Option.bind_some, if_pos (Or.inr rfl)]
      exact mCallK_0 (Or.inr rfl) hK e1 e2
  · cases hk
theorem fd_invokespecial {P : MP} {L : Nat} {xs v : Nat → Int32} {y : Nat} {callM : Nat → List Value → List MC → Option MRes} {B : FB} {call : FCl} {go : FN} {n : Nat} {cx : SCx} {w r : List Instr} {lv : FL} {st : List FV} {T : TT 7} {N : Nat} {k : FK} {σ : List MC} {pc : Nat} {ins : Instr} {m : Nat} (X : FX P L xs v y callM B call go n cx w T N σ pc) (hins : mpCode P y pc = some ins) (hk : chk P y pc (.invokespecial m) ins = true) (hr : cor P y (pc + fLg (.invokespecial m) ins) r = true) (h : fDo (.invokespecial m) L B call go cx w r lv st T N k = true) : Good P L xs v y callM (n + 2) pc (fLT v lv) (st.map (fv v)) σ k := by
  obtain ⟨hgo, hB, hw, hc, hF, hcall, hL, hv, h6, hEl⟩ := X
  simp only [chk, chkC] at hk
  split at hk
  · next i =>
    rw [Bool.and_eq_true] at hk
    obtain ⟨hi, hcs⟩ := hk
    have hi := of_decide_eq_true hi
    replace h : gSpec (Nat.div m 65536) (Nat.mod (Nat.div m 256) 256) (Nat.mod m 256) L B call go cx w r lv st T N k = true := h
    unfold gSpec at h
    obtain ⟨hn, h⟩ := fTk_ok h
    rw [List.append_nil] at h
    obtain ⟨h4, h⟩ := fIf_an h
    obtain ⟨hs, h⟩ := fIf_an h
    obtain ⟨hK, e1, e2⟩ := fCallK (v := v) hn h4 hs hcs

    obtain ⟨x, as, has, h⟩ := fLs_ok h
    rcases x with u | u | u | u | u
    · cases h
    · cases u with
      | zero => cases h
      | succ u =>
        replace h : call cx (Nat.div m 65536) (List.take (Nat.mod (Nat.div m 256) 256) st).reverse T N (fun cx2 o T2 N2 => go cx2 r lv (fApp o (List.drop (Nat.mod (Nat.div m 256) 256) st)) T2 N2 k) = true := h
        obtain ⟨ro, σ2, T2, N2, cx2, c1, c2, c3, c4⟩ := hcall _ _ _ _ _ _ _ h hc hF
        have g := hgo _ (pc + 3) _ _ _ _ _ _ _ c4 hr c3 c2
        rw [fApp_ok] at g
        refine good_call hins (y2 := m / 65536) (as := ((st.take (m / 256 % 256)).reverse).map (fv v)) (rest := (st.drop (m / 256 % 256)).map (fv v)) ?_ c1 g
        have e4 : ((st.take (m / 256 % 256)).reverse).map (fv v) = Value.ref u :: as.map (fv v) := by
          rw [show (st.take (m / 256 % 256)).reverse = _ from has]
          rfl
        have e3 : ((st.map (fv v)).take (m / 256 % 256)).reverse = Value.ref u :: as.map (fv v) := Eq.trans e1 e4
        rw [e4]
        rcases hi with hi | hi
        · show (mpInv P y i).bind (fun q => if q.1 = 2 ∨ q.1 = 3 then mCallK P y q.1 q.2.1 q.2.2 (st.map (fv v)) σ else none) = _
          rw [hi, Option.bind_some, if_pos (Or.inl rfl)]
          exact mCallK_s (Or.inl rfl) hK e3 e2
        · show (mpInv P y i).bind (fun q => if q.1 = 2 ∨ q.1 = 3 then mCallK P y q.1 q.2.1 q.2.2 (st.map (fv v)) σ else none) = _
          rw [hi, Option.bind_some, if_pos (Or.inr rfl)]
          exact mCallK_s (Or.inr rfl) hK e3 e2
    · cases h
    · cases h
    · cases h
  · cases hk
theorem fd_invokevirtual {P : MP} {L : Nat} {xs v : Nat → Int32} {y : Nat} {callM : Nat → List Value → List MC → Option MRes} {B : FB} {call : FCl} {go : FN} {n : Nat} {cx : SCx} {w r : List Instr} {lv : FL} {st : List FV} {T : TT 7} {N : Nat} {k : FK} {σ : List MC} {pc : Nat} {ins : Instr} {m : Nat} (X : FX P L xs v y callM B call go n cx w T N σ pc) (hins : mpCode P y pc = some ins) (hk : chk P y pc (.invokevirtual m) ins = true) (hr : cor P y (pc + fLg (.invokevirtual m) ins) r = true) (h : fDo (.invokevirtual m) L B call go cx w r lv st T N k = true) : Good P L xs v y callM (n + 2) pc (fLT v lv) (st.map (fv v)) σ k := by
  obtain ⟨hgo, hB, hw, hc, hF, hcall, hL, hv, h6, hEl⟩ := X
  simp only [chk, chkC] at hk
  split at hk
  · next i =>
    rw [Bool.and_eq_true] at hk
    obtain ⟨hi, hcs⟩ := hk
    obtain ⟨hi, hcl⟩ := of_decide_eq_true hi
    replace h : gVirt (Nat.div m 16777216) (Nat.mod (Nat.div m 65536) 256) (Nat.mod (Nat.div m 256) 256) (Nat.mod m 256) L B call go cx w r lv st T N k = true := h
    unfold gVirt at h
    obtain ⟨hn, h⟩ := fTk_ok h
    rw [List.append_nil] at h
    obtain ⟨h4, h⟩ := fIf_an h
    obtain ⟨hs, h⟩ := fIf_an h
    obtain ⟨hK, e1, e2⟩ := fCallK (v := v) hn h4 hs hcs

    obtain ⟨x, as, has, h⟩ := fLs_ok h
    replace h := fCell_ok hF h
    obtain ⟨q0, e0, hq0, rfl, ht0, hs0, h⟩ := h
    rcases e0 with a | ⟨c, fs⟩
    · cases h
    · obtain ⟨hb, h⟩ := fIf_an (show fIf (Nat.beq c (Nat.mod m 256)) (call cx (Nat.div m 16777216) (List.take (Nat.mod (Nat.div m 65536) 256) st).reverse T N (fun cx2 o T2 N2 => go cx2 r lv (fApp o (List.drop (Nat.mod (Nat.div m 65536) 256) st)) T2 N2 k)) false = true from h)
      have hb : c = m % 256 := Nat.eq_of_beq_eq_true hb
      obtain ⟨ro, σ2, T2, N2, cx2, c1, c2, c3, c4⟩ := hcall _ _ _ _ _ _ _ h hc hF
      have g := hgo _ (pc + 3) _ _ _ _ _ _ _ c4 hr c3 c2
      rw [fApp_ok] at g
      refine good_call hins (y2 := m / 16777216) (as := ((st.take (m / 65536 % 256)).reverse).map (fv v)) (rest := (st.drop (m / 65536 % 256)).map (fv v)) ?_ c1 g
      have e4 : ((st.take (m / 65536 % 256)).reverse).map (fv v) = Value.ref (q0 + 1) :: as.map (fv v) := by
        rw [show (st.take (m / 65536 % 256)).reverse = _ from has]
        rfl
      have e3 : ((st.map (fv v)).take (m / 65536 % 256)).reverse = Value.ref (q0 + 1) :: as.map (fv v) := Eq.trans e1 e4
      rw [e4]
      show (mpInv P y i).bind (fun q => if q.1 = 1 then mCallK P y 1 q.2.1 q.2.2 (st.map (fv v)) σ else none) = _
      rw [hi, Option.bind_some, if_pos rfl]
      exact mCallK_v hK e3 e2 (mObj_of hs0) (hb.trans hcl.symm)
  · cases hk
theorem fd_ireturn {P : MP} {L : Nat} {xs v : Nat → Int32} {y : Nat} {callM : Nat → List Value → List MC → Option MRes} {B : FB} {call : FCl} {go : FN} {n : Nat} {cx : SCx} {w r : List Instr} {lv : FL} {st : List FV} {T : TT 7} {N : Nat} {k : FK} {σ : List MC} {pc : Nat} {ins : Instr}  (X : FX P L xs v y callM B call go n cx w T N σ pc) (hins : mpCode P y pc = some ins) (hk : chk P y pc (.ireturn) ins = true) (hr : cor P y (pc + fLg (.ireturn) ins) r = true) (h : fDo (.ireturn) L B call go cx w r lv st T N k = true) : Good P L xs v y callM (n + 2) pc (fLT v lv) (st.map (fv v)) σ k := by
  obtain ⟨hgo, hB, hw, hc, hF, hcall, hL, hv, h6, hEl⟩ := X
  simp only [chk, chkC] at hk
  split at hk
  · have hk := of_decide_eq_true hk
    replace h : gIret L B call go cx w r lv st T N k = true := h
    unfold gIret at h
    replace h := fLs_ok h
    obtain ⟨x, s, rfl, h⟩ := h
    obtain ⟨hs, h⟩ := fNil_ok h
    subst hs
    obtain ⟨hx, h⟩ := fIsI_ok (v := v) h
    refine good_end hins (ro := some x) ?_ hF hc h
    simp only [List.map_cons, List.map_nil, hx, Option.map_some]
    show (if (mpInfo P y).2.2.2.1 = 1 ∨ ((mpInfo P y).2.2.2.1 = 4 ∧ fInt v x &&& 1 = fInt v x) then some (some (Value.int (fInt v x))) else none) = _
    rw [if_pos (Or.inl hk)]
  · cases hk
theorem fd_lreturn {P : MP} {L : Nat} {xs v : Nat → Int32} {y : Nat} {callM : Nat → List Value → List MC → Option MRes} {B : FB} {call : FCl} {go : FN} {n : Nat} {cx : SCx} {w r : List Instr} {lv : FL} {st : List FV} {T : TT 7} {N : Nat} {k : FK} {σ : List MC} {pc : Nat} {ins : Instr}  (X : FX P L xs v y callM B call go n cx w T N σ pc) (hins : mpCode P y pc = some ins) (hk : chk P y pc (.lreturn) ins = true) (hr : cor P y (pc + fLg (.lreturn) ins) r = true) (h : fDo (.lreturn) L B call go cx w r lv st T N k = true) : Good P L xs v y callM (n + 2) pc (fLT v lv) (st.map (fv v)) σ k := by
  obtain ⟨hgo, hB, hw, hc, hF, hcall, hL, hv, h6, hEl⟩ := X
  simp only [chk, chkC] at hk
  split at hk
  · have hk := of_decide_eq_true hk
    replace h : gLret L B call go cx w r lv st T N k = true := h
    unfold gLret at h
    replace h := fLs_ok h
    obtain ⟨x, s, rfl, h⟩ := h
    obtain ⟨hs, h⟩ := fNil_ok h
    subst hs
    obtain ⟨hx, h⟩ := fIsL_ok (v := v) h
    obtain ⟨z, hx⟩ := hx
    refine good_end hins (ro := some x) ?_ hF hc h
    simp only [List.map_cons, List.map_nil, hx, Option.map_some]
    show (if (mpInfo P y).2.2.2.1 = 2 then some (some (Value.long z)) else none) = _
    rw [if_pos hk]
  · cases hk
theorem fd_areturn {P : MP} {L : Nat} {xs v : Nat → Int32} {y : Nat} {callM : Nat → List Value → List MC → Option MRes} {B : FB} {call : FCl} {go : FN} {n : Nat} {cx : SCx} {w r : List Instr} {lv : FL} {st : List FV} {T : TT 7} {N : Nat} {k : FK} {σ : List MC} {pc : Nat} {ins : Instr}  (X : FX P L xs v y callM B call go n cx w T N σ pc) (hins : mpCode P y pc = some ins) (hk : chk P y pc (.areturn) ins = true) (hr : cor P y (pc + fLg (.areturn) ins) r = true) (h : fDo (.areturn) L B call go cx w r lv st T N k = true) : Good P L xs v y callM (n + 2) pc (fLT v lv) (st.map (fv v)) σ k := by
  obtain ⟨hgo, hB, hw, hc, hF, hcall, hL, hv, h6, hEl⟩ := X
  simp only [chk, chkC] at hk
  split at hk
  · have hk := of_decide_eq_true hk
    replace h : gAret L B call go cx w r lv st T N k = true := h
    unfold gAret at h
    replace h := fLs_ok h
    obtain ⟨x, s, rfl, h⟩ := h
    obtain ⟨hs, h⟩ := fNil_ok h
    subst hs
    obtain ⟨hx, h⟩ := fIsA_ok (v := v) h
    refine good_end hins (ro := some x) ?_ hF hc h
    simp only [List.map_cons, List.map_nil, hx, Option.map_some]
    cases hz : fOpR x with
    | none =>
      show (if (mpInfo P y).2.2.2.1 = 3 then some (some Value.null) else none) = _
      rw [if_pos hk]
      rfl
    | some z =>
      show (if (mpInfo P y).2.2.2.1 = 3 then some (some (Value.ref z)) else none) = _
      rw [if_pos hk]
      rfl
  · cases hk
theorem fd_freturn {P : MP} {L : Nat} {xs v : Nat → Int32} {y : Nat} {callM : Nat → List Value → List MC → Option MRes} {B : FB} {call : FCl} {go : FN} {n : Nat} {cx : SCx} {w r : List Instr} {lv : FL} {st : List FV} {T : TT 7} {N : Nat} {k : FK} {σ : List MC} {pc : Nat} {ins : Instr}  (X : FX P L xs v y callM B call go n cx w T N σ pc) (hins : mpCode P y pc = some ins) (hk : chk P y pc (.freturn) ins = true) (hr : cor P y (pc + fLg (.freturn) ins) r = true) (h : fDo (.freturn) L B call go cx w r lv st T N k = true) : Good P L xs v y callM (n + 2) pc (fLT v lv) (st.map (fv v)) σ k := by
  obtain ⟨hgo, hB, hw, hc, hF, hcall, hL, hv, h6, hEl⟩ := X
  simp only [chk, chkC] at hk
  split at hk
  · have hk := of_decide_eq_true hk
    replace h : gZret L B call go cx w r lv st T N k = true := h
    unfold gZret at h
    replace h := fLs_ok h
    obtain ⟨x, s, rfl, h⟩ := h
    obtain ⟨hs, h⟩ := fNil_ok h
    subst hs
    rcases x with u | u | u | u | u
    · obtain ⟨hu, h⟩ := fIf_an h
      have hu := Nat.le_of_ble_eq_true hu
      have he : Int32.ofNat u &&& 1 = Int32.ofNat u := by
        have h2 : u = 0 ∨ u = 1 := by omega
        rcases h2 with rfl | rfl <;> decide
      refine good_end hins (ro := some (.inl u)) ?_ hF hc h
      show (if (mpInfo P y).2.2.2.1 = 1 ∨ ((mpInfo P y).2.2.2.1 = 4 ∧ Int32.ofNat u &&& 1 = Int32.ofNat u) then some (some (Value.int (Int32.ofNat u))) else none) = some (some (Value.int (Int32.ofNat u)))
      rw [if_pos (Or.inr ⟨hk, he⟩)]
    · cases h
    · cases h
    · cases h
    · cases h
  · cases hk
theorem fd_return_ {P : MP} {L : Nat} {xs v : Nat → Int32} {y : Nat} {callM : Nat → List Value → List MC → Option MRes} {B : FB} {call : FCl} {go : FN} {n : Nat} {cx : SCx} {w r : List Instr} {lv : FL} {st : List FV} {T : TT 7} {N : Nat} {k : FK} {σ : List MC} {pc : Nat} {ins : Instr}  (X : FX P L xs v y callM B call go n cx w T N σ pc) (hins : mpCode P y pc = some ins) (hk : chk P y pc (.return_) ins = true) (hr : cor P y (pc + fLg (.return_) ins) r = true) (h : fDo (.return_) L B call go cx w r lv st T N k = true) : Good P L xs v y callM (n + 2) pc (fLT v lv) (st.map (fv v)) σ k := by
  obtain ⟨hgo, hB, hw, hc, hF, hcall, hL, hv, h6, hEl⟩ := X
  simp only [chk, chkC] at hk
  split at hk
  · have hk := of_decide_eq_true hk
    replace h : gVret L B call go cx w r lv st T N k = true := h
    unfold gVret at h
    obtain ⟨hs, h⟩ := fNil_ok h
    subst hs
    refine good_end hins (ro := none) ?_ hF hc h
    show (if (mpInfo P y).2.2.2.1 = 0 then some none else none) = _
    rw [if_pos hk]
    rfl
  · cases hk
theorem fDo_sound {P : MP} {L : Nat} {xs v : Nat → Int32} {y : Nat} {callM : Nat → List Value → List MC → Option MRes} {B : FB} {call : FCl} {go : FN} {n : Nat} {cx : SCx} {w r : List Instr} {lv : FL} {st : List FV} {T : TT 7} {N : Nat} {k : FK} {σ : List MC} {pc : Nat} {ins : Instr} {f : Instr} (X : FX P L xs v y callM B call go n cx w T N σ pc) (hins : mpCode P y pc = some ins) (hk : chk P y pc f ins = true) (hr : cor P y (pc + fLg f ins) r = true) (h : fDo f L B call go cx w r lv st T N k = true) : Good P L xs v y callM (n + 2) pc (fLT v lv) (st.map (fv v)) σ k := by
  cases f with
  | ldc _ => exact fd_ldc X hins hk hr h
  | ldc2_w _ => exact fd_ldc2_w X hins hk hr h
  | aconst_null => exact fd_aconst_null X hins hk hr h
  | iload _ => exact fd_iload X hins hk hr h
  | aload _ => exact fd_aload X hins hk hr h
  | lload _ => exact fd_lload X hins hk hr h
  | istore _ => exact fd_istore X hins hk hr h
  | astore _ => exact fd_astore X hins hk hr h
  | lstore _ => exact fd_lstore X hins hk hr h
  | iinc _ _ => exact fd_iinc X hins hk hr h
  | iadd => exact fd_iadd X hins hk hr h
  | isub => exact fd_isub X hins hk hr h
  | imul => exact fd_imul X hins hk hr h
  | iand => exact fd_iand X hins hk hr h
  | ior => exact fd_ior X hins hk hr h
  | ishl => exact fd_ishl X hins hk hr h
  | ishr => exact fd_ishr X hins hk hr h
  | idiv => exact fd_idiv X hins hk hr h
  | irem => exact fd_irem X hins hk hr h
  | ineg => exact fd_ineg X hins hk hr h
  | i2l => exact fd_i2l X hins hk hr h
  | ladd => exact fd_ladd X hins hk hr h
  | lcmp => exact fd_lcmp X hins hk hr h
  | invokeinterface _ _ => exact fd_lif X hins hk hr h
  | dup => exact fd_dup X hins hk hr h
  | pop => exact fd_pop X hins hk hr h
  | dup2 => exact fd_dup2 X hins hk hr h
  | goto _ => exact fd_goto X hins hk hr h
  | ifCond _ _ => exact fd_ifCond X hins hk hr h
  | if_icmp _ _ => exact fd_if_icmp X hins hk hr h
  | ifnull _ => exact fd_ifnull X hins hk hr h
  | ifnonnull _ => exact fd_ifnonnull X hins hk hr h
  | tableswitch _ _ _ _ => exact fd_tableswitch X hins hk hr h
  | getfield _ => exact fd_getfield X hins hk hr h
  | putfield _ => exact fd_putfield X hins hk hr h
  | iaload => exact fd_iaload X hins hk hr h
  | baload => exact fd_baload X hins hk hr h
  | aaload => exact fd_aaload X hins hk hr h
  | iastore => exact fd_iastore X hins hk hr h
  | bastore => exact fd_bastore X hins hk hr h
  | aastore => exact fd_aastore X hins hk hr h
  | arraylength => exact fd_arraylength X hins hk hr h
  | newarray _ => exact fd_newarray X hins hk hr h
  | anewarray _ => exact fd_anewarray X hins hk hr h
  | new _ => exact fd_new X hins hk hr h
  | nop => exact fd_nop X hins hk hr h
  | swap => exact fd_swap X hins hk hr h
  | dup_x2 => exact fd_dup_x2 X hins hk hr h
  | invokestatic _ => exact fd_invokestatic X hins hk hr h
  | invokespecial _ => exact fd_invokespecial X hins hk hr h
  | invokevirtual _ => exact fd_invokevirtual X hins hk hr h
  | ireturn => exact fd_ireturn X hins hk hr h
  | freturn => exact fd_freturn X hins hk hr h
  | lreturn => exact fd_lreturn X hins hk hr h
  | areturn => exact fd_areturn X hins hk hr h
  | return_ => exact fd_return_ X hins hk hr h
  | jsr t => cases hk
  | _ => cases h
theorem fRun_sound {P : MP} {L : Nat} {xs v : Nat → Int32} {y : Nat} {callM : Nat → List Value → List MC → Option MRes} {B : FB} {call : FCl} (hB : ∀ q ∈ B, cor P y q.1 q.2 = true) (hcall : FCa v callM call) (hL : L ≤ 90) (hv : ∀ i, i < L → v i = xs i) (h6 : v 6 = v 0 &&& 63) (hEl : ∀ t e, fEl t e = true → mpElem P t (fc v e) = true) : ∀ n : Nat, FGo P L xs v y callM (fRun L B call n) (2 * n)
  | 0 => fun cx pc w lv st T N k σ h => by cases h
  | n + 1 => fun cx pc w lv st T N k σ h hw hc hF => by
    have ih := fRun_sound hB hcall hL hv h6 hEl n
    cases w with
    | nil => cases h
    | cons f r =>
      replace h : fDo f L B call (fRun L B call n) cx (f :: r) r lv st T N k = true := h
      rcases cor_cons hw with ⟨t, rfl, ht⟩ | ⟨ins, hins, hk, hr⟩
      · replace h : fRun L B call n cx (fBk B t.toNat) lv st T N k = true := h
        have hj : cor P y t.toNat (fBk B t.toNat) = true := fBk_ok (p := fun t c => cor P y t c = true) rfl hB
        rw [ht] at hj h
        exact good_up2 (ih _ _ _ _ _ _ _ _ _ h hj hc hF)
      · exact fDo_sound ⟨ih, hB, hw, hc, hF, hcall, hL, hv, h6, hEl⟩ hins hk hr h
theorem fExec_sound {P : MP} {L : Nat} {xs v : Nat → Int32} (hB : ∀ y, ∀ q ∈ fB y, cor P y q.1 q.2 = true) (hL : L ≤ 90) (hv : ∀ i, i < L → v i = xs i) (h6 : v 6 = v 0 &&& 63) (hEl : ∀ t e, fEl t e = true → mpElem P t (fc v e) = true) (F : Nat) : ∀ d : Nat, FCa v (mExec P L xs (2 * F) d) (fExec L F d)
  | 0 => fun cx y as T N k σ h => by cases h
  | d + 1 => fun cx y as T N k σ h hc hF => by
    replace h : fRun L (fB y) (fExec L F d) F cx (fBk (fB y) 0) (fArgs as 0) [] T N k = true := h
    have hj : cor P y 0 (fBk (fB y) 0) = true := fBk_ok (p := fun t c => cor P y t c = true) rfl (hB y)
    have hg := fRun_sound (hB y) (fExec_sound hB hL hv h6 hEl F d) hL hv h6 hEl F cx 0 _ _ _ _ _ _ σ h hj hc hF
    rw [mExec, ← fArgs_ok]
    exact hg
