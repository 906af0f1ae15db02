/-! what the fast machine finds, the small machine does: instructions of the heap -/
theorem mObj_of {v : Nat → Int32} {σ : List MC} {q c : Nat} {fs : List FV} (hs : σ[q]? = some (fc v (.inr (c, fs)))) : mObj σ (q + 1) = some (c, fs.map (fv v)) := by simp only [mObj, mCell, hs, fc]
theorem mInts_of {v : Nat → Int32} {L : Nat} {xs : Nat → Int32} {σ : List MC} {q : Nat} {len : FV} {c : FL} (hs : σ[q]? = some (fc v (.inl (0, len, c)))) : mInts L xs σ (q + 1) = some (mIx (fInt v len), fArr v c) := by simp only [mInts, hs, fc, fCt]
theorem mCInts_of {v : Nat → Int32} {σ : List MC} {q : Nat} {len : FV} {c : FL} (hs : σ[q]? = some (fc v (.inl (0, len, c)))) : mCInts σ (q + 1) = some (mIx (fInt v len), fArr v c) := by simp only [mCInts, mCell, hs, fc, fCt]
theorem mBools_of {v : Nat → Int32} {σ : List MC} {q : Nat} {len : FV} {c : FL} (hs : σ[q]? = some (fc v (.inl (2, len, c)))) : mBools σ (q + 1) = some (mIx (fInt v len), fArr v c) := by simp only [mBools, mCell, hs, fc, fCt]
theorem fCt_ref (v : Nat → Int32) {t : Nat} (h : 3 ≤ t) (c : FL) : fCt v t c = .inr (.inr (.inr (.inr (fRrr c)))) := by
  match t, h with
  | t + 3, _ => rfl
theorem mRefs_of {v : Nat → Int32} {σ : List MC} {q t : Nat} {len : FV} {c : FL} (h1 : 3 ≤ t) (h2 : t ≤ 9) (hs : σ[q]? = some (fc v (.inl (t, len, c)))) : mRefs σ (q + 1) = some (t, mIx (fInt v len), fRrr c) := by
  have hs : σ[q]? = some (.inl (t, mIx (fInt v len), fCt v t c)) := hs
  rw [fCt_ref v h1] at hs
  simp only [mRefs, mCell, hs]
  rw [if_pos ⟨h1, by omega⟩]
theorem fIn_ok {m n : Nat} (h1 : m < n) (h2 : n ≤ 1000000) : mIn (Int32.ofNat m) n = true ∧ mIx (Int32.ofNat m) = m := by
  have hx : (Int32.ofNat m).toNatClampNeg = m := fIx (by omega)
  have hn : ¬ Int32.ofNat m < 0 := fNng (by omega)
  refine ⟨?_, hx⟩
  simp only [mIn, hx, Bool.and_eq_true, decide_eq_true_eq, Bool.not_eq_true', decide_eq_false_iff_not]
  exact ⟨hn, h1⟩
theorem fFit_ok {v : Nat → Int32} {kd : Nat} {ty : FieldType} {x : FV} {b : Bool} (h : fFit kd x b = true) (hk : fKd kd ty = true) : mFit ty (fv v x) = true ∧ b = true := by
  cases ty with
  | int =>
    have e := Nat.eq_of_beq_eq_true (show Nat.beq kd 0 = true from hk)
    subst e
    rcases x with m | m | m | m | m
    · exact ⟨by simp [mFit, fv, narrow, fits], h⟩
    · cases h
    · exact ⟨by simp [mFit, fv, narrow, fits], h⟩
    · cases h
    · cases h
  | long =>
    have e := Nat.eq_of_beq_eq_true (show Nat.beq kd 1 = true from hk)
    subst e
    rcases x with m | m | m | m | m
    · cases h
    · cases h
    · cases h
    · exact ⟨by simp [mFit, fv, narrow, fits], h⟩
    · exact ⟨by simp [mFit, fv, narrow, fits], h⟩
  | boolean =>
    have e := Nat.eq_of_beq_eq_true (show Nat.beq kd 2 = true from hk)
    subst e
    rcases x with m | m | m | m | m
    · obtain ⟨h1, h⟩ := fIf_an (show fIf (Nat.ble m 1) b false = true from h)
      have h1 := Nat.le_of_ble_eq_true h1
      have h2 : m = 0 ∨ m = 1 := by omega
      refine ⟨?_, h⟩
      rcases h2 with rfl | rfl
      · show mFit .boolean (.int (Int32.ofNat 0)) = true
        decide
      · show mFit .boolean (.int (Int32.ofNat 1)) = true
        decide
    · cases h
    · cases h
    · cases h
    · cases h
  | object C =>
    have e := Nat.eq_of_beq_eq_true (show Nat.beq kd 3 = true from hk)
    subst e
    rcases x with m | m | m | m | m
    · cases h
    · exact ⟨by cases m <;> simp [mFit, fv, fRf, narrow, fits], h⟩
    · cases h
    · cases h
    · cases h
  | array C =>
    have e := Nat.eq_of_beq_eq_true (show Nat.beq kd 3 = true from hk)
    subst e
    rcases x with m | m | m | m | m
    · cases h
    · exact ⟨by cases m <;> simp [mFit, fv, fRf, narrow, fits], h⟩
    · cases h
    · cases h
    · cases h
  | _ => cases hk
theorem fCt_nil (v : Nat → Int32) (t : Nat) : fCt v t [] = mBlank t := by
  match t with
  | 0 => rfl
  | 1 => rfl
  | 2 => rfl
  | t + 3 => rfl
theorem gNewA_ok {P : MP} {L : Nat} {xs v : Nat → Int32} {y : Nat} {callM : Nat → List Value → List MC → Option MRes} {B : FB} {call : FCl} {go : FN} {n : Nat} {cx : SCx} {w r : List Instr} {lv : FL} {st : List FV} {T : TT 7} {N : Nat} {k : FK} {σ : List MC} {pc : Nat} {ins : Instr} {t pc2 : Nat} (X : FX P L xs v y callM B call go n cx w T N σ pc) (hins : mpCode P y pc = some ins) (hr : cor P y pc2 r = true)
    (hop : ∀ (z : Int32) (s : List Value), mHeap P L xs y ins pc (.int z :: s) σ = mNewA σ pc2 t (z, s)) (h : gNewA t L B call go cx w r lv st T N k = true) : Good P L xs v y callM (n + 2) pc (fLT v lv) (st.map (fv v)) σ k := by
  obtain ⟨hgo, hB, hw, hc, hF, hcall, hL, hv, h6, hEl⟩ := X
  replace h := fLs_ok h
  obtain ⟨x, s, rfl, h⟩ := h
  obtain ⟨⟨hx, h0, hm, hn⟩, h⟩ := fLng_ok (v := v) hc h
  obtain ⟨hN, h⟩ := fIf_an h
  have hN := Nat.le_of_ble_eq_true hN
  have hF2 := FR_new hF (by omega) (.inl (t, x, []))
  refine good_heap hins (q := (pc2, (.inr (.inl (N + 2)) :: s : List FV).map (fv v), σ ++ [fc v (.inl (t, x, []))])) ?_ (hgo _ _ _ _ _ _ _ _ _ h hr hc hF2)
  simp only [List.map_cons, hx]
  rw [hop]
  unfold mNewA
  simp only
  rw [if_neg h0, if_pos hm, hF.2.1]
  show some (pc2, Value.ref (N + 1) :: s.map (fv v), σ ++ [Sum.inl (t, mIx (fInt v x), mBlank t)]) = some (pc2, Value.ref (N + 1) :: s.map (fv v), σ ++ [Sum.inl (t, mIx (fInt v x), fCt v t [])])
  rw [fCt_nil]
theorem fd_getfield {P : MP} {L : Nat} {xs v : Nat → Int32} {y : Nat} {callM : Nat → List Value → List MC → Option MRes} {B : FB} {call : FCl} {go : FN} {n : Nat} {cx : SCx} {w r : List Instr} {lv : FL} {st : List FV} {T : TT 7} {N : Nat} {k : FK} {σ : List MC} {pc : Nat} {ins : Instr} {m : Nat} (X : FX P L xs v y callM B call go n cx w T N σ pc) (hins : mpCode P y pc = some ins) (hk : chk P y pc (.getfield m) ins = true) (hr : cor P y (pc + fLg (.getfield m) ins) r = true) (h : fDo (.getfield m) L B call go cx w r lv st T N k = true) : Good P L xs v y callM (n + 2) pc (fLT v lv) (st.map (fv v)) σ k := by
  obtain ⟨hgo, hB, hw, hc, hF, hcall, hL, hv, h6, hEl⟩ := X
  simp only [chk, chkC] at hk
  split at hk
  · next i =>
    have hf := of_decide_eq_true hk
    replace h : gGetf m L B call go cx w r lv st T N k = true := h
    unfold gGetf at h
    replace h := fLs_ok h
    obtain ⟨x, s, rfl, h⟩ := h
    replace h := fCell_ok hF h
    obtain ⟨q, e, hq, rfl, ht, hs, h⟩ := h
    rcases e with a | ⟨c, fs⟩
    · cases h
    · replace h : fIf (Nat.beq c (Nat.div m 1000)) (fNth fs (Nat.mod m 1000) (fun y => go cx r lv (y :: s) T N k)) false = true := h
      obtain ⟨hb, h⟩ := fIf_an h
      obtain ⟨y1, hy, h⟩ := fNth_ok h
      have hb : c = m / 1000 := Nat.eq_of_beq_eq_true hb
      have hy : fs[m % 1000]? = some y1 := hy
      refine good_heap hins (q := (pc + 3, (y1 :: s).map (fv v), σ)) ?_ (hgo _ _ _ _ _ _ _ _ _ h hr hc hF)
      show (mObj σ (q + 1)).bind (fun o => (mpFld P y i).bind (fun q => if q.1 = o.1 then (o.2[q.2]?).map (fun z => (pc + 3, z :: s.map (fv v), σ)) else none)) = _
      rw [mObj_of hs, hf]
      simp only [Option.bind_some]
      rw [if_pos hb.symm, List.getElem?_map, hy]
      rfl
  · cases hk
theorem fd_putfield {P : MP} {L : Nat} {xs v : Nat → Int32} {y : Nat} {callM : Nat → List Value → List MC → Option MRes} {B : FB} {call : FCl} {go : FN} {n : Nat} {cx : SCx} {w r : List Instr} {lv : FL} {st : List FV} {T : TT 7} {N : Nat} {k : FK} {σ : List MC} {pc : Nat} {ins : Instr} {m : Nat} (X : FX P L xs v y callM B call go n cx w T N σ pc) (hins : mpCode P y pc = some ins) (hk : chk P y pc (.putfield m) ins = true) (hr : cor P y (pc + fLg (.putfield m) ins) r = true) (h : fDo (.putfield m) L B call go cx w r lv st T N k = true) : Good P L xs v y callM (n + 2) pc (fLT v lv) (st.map (fv v)) σ k := by
  obtain ⟨hgo, hB, hw, hc, hF, hcall, hL, hv, h6, hEl⟩ := X
  simp only [chk, chkC] at hk
  split at hk
  · next i =>
    rw [Bool.and_eq_true, Bool.and_eq_true] at hk
    obtain ⟨hf, hkd, hfin⟩ := hk
    have hf := of_decide_eq_true hf
    have hfin := of_decide_eq_true hfin
    replace h : gPutf m L B call go cx w r lv st T N k = true := h
    unfold gPutf at h
    replace h := fLs_ok h
    obtain ⟨y1, s1, rfl, h⟩ := h
    replace h := fLs_ok h
    obtain ⟨x, s, rfl, h⟩ := h
    replace h := fCell_ok hF h
    obtain ⟨q, e, hq, rfl, ht, hs, h⟩ := h
    rcases e with a | ⟨c, fs⟩
    · cases h
    · replace h : fIf (Nat.beq c (Nat.mod (Nat.div m 1000) 1000)) (fFit (Nat.div m 1000000) y1 (fNth fs (Nat.mod m 1000) (fun _ => go cx r lv s (fTp 7 T q (.inr (c, fSet fs (Nat.mod m 1000) y1))) N k))) false = true := h
      obtain ⟨hb, h⟩ := fIf_an h
      have hb : c = m / 1000 % 1000 := Nat.eq_of_beq_eq_true hb
      obtain ⟨hfit, h⟩ := fFit_ok (v := v) (ty := (mpFty P (m / 1000 % 1000) (m % 1000)).1) h hkd
      obtain ⟨y2, hy, h⟩ := fNth_ok h
      have hlt : m % 1000 < fs.length := (List.getElem?_eq_some_iff.mp hy).1
      have hF2 := FR_put hF hq ht (.inr (c, fSet fs (Nat.mod m 1000) y1))
      refine good_heap hins (q := (pc + 3, s.map (fv v), σ.set q (fc v (.inr (c, fSet fs (Nat.mod m 1000) y1))))) ?_ (hgo _ _ _ _ _ _ _ _ _ h hr hc hF2)
      show (mObj σ (q + 1)).bind (fun o => (mpFld P y i).bind (fun q2 => if q2.1 = o.1 ∧ q2.2 < o.2.length ∧ mFit (mpFty P q2.1 q2.2).1 (fv v y1) = true ∧ ((mpFty P q2.1 q2.2).2 = true → (mpInfo P y).2.2.2.2.1 = true ∧ (mpInfo P y).2.2.2.2.2 = q2.1) then some (pc + 3, s.map (fv v), mPut σ (q + 1) (.inr (o.1, o.2.set q2.2 (fv v y1)))) else none)) = _
      rw [mObj_of hs, hf]
      simp only [Option.bind_some]
      rw [if_pos ⟨hb.symm, by simpa using hlt, hfit, hfin⟩, ← List.map_set]
      show some (pc + 3, s.map (fv v), σ.set q (.inr (c, (fs.set (m % 1000) y1).map (fv v)))) = some (pc + 3, s.map (fv v), σ.set q (.inr (c, (fSet fs (m % 1000) y1).map (fv v))))
      rw [fSet_ok]
  · cases hk
theorem fd_iaload {P : MP} {L : Nat} {xs v : Nat → Int32} {y : Nat} {callM : Nat → List Value → List MC → Option MRes} {B : FB} {call : FCl} {go : FN} {n : Nat} {cx : SCx} {w r : List Instr} {lv : FL} {st : List FV} {T : TT 7} {N : Nat} {k : FK} {σ : List MC} {pc : Nat} {ins : Instr}  (X : FX P L xs v y callM B call go n cx w T N σ pc) (hins : mpCode P y pc = some ins) (hk : chk P y pc (.iaload) ins = true) (hr : cor P y (pc + fLg (.iaload) ins) r = true) (h : fDo (.iaload) L B call go cx w r lv st T N k = true) : Good P L xs v y callM (n + 2) pc (fLT v lv) (st.map (fv v)) σ k := by
  obtain ⟨hgo, hB, hw, hc, hF, hcall, hL, hv, h6, hEl⟩ := X
  simp only [chk, chkC] at hk
  split at hk
  · replace h : gIald L B call go cx w r lv st T N k = true := h
    unfold gIald at h
    replace h := fLs_ok h
    obtain ⟨i, s1, rfl, h⟩ := h
    replace h := fLs_ok h
    obtain ⟨a, s, rfl, h⟩ := h
    rcases a with u | u | u | u | u
    · cases h
    · rcases fIf_of h with ⟨hb, h⟩ | ⟨hb, h⟩
      · have hb := Nat.eq_of_beq_eq_true hb
        subst hb
        rcases fNum_ok hc h with ⟨m, hm, h⟩ | ⟨cx2, hc2, h⟩
        · rw [fF_ok] at h
          obtain ⟨hl, h⟩ := fIf_an h
          have hl := Nat.le_of_ble_eq_true hl
          obtain ⟨h1, h2⟩ := fIn_ok (m := m) (n := L) hl (by omega)
          refine good_heap hins (q := (pc + 1, (.inr (.inr (.inl m)) :: s : List FV).map (fv v), σ)) ?_ (hgo _ _ _ _ _ _ _ _ _ h hr hc hF)
          simp only [List.map_cons, hm]
          show (if mIn (Int32.ofNat m) L = true then some (pc + 1, Value.int (xs (mIx (Int32.ofNat m))) :: s.map (fv v), σ) else none) = some (pc + 1, Value.int (v m) :: s.map (fv v), σ)
          rw [if_pos h1, h2, hv m hl]
        · exact good_up2 (hgo _ _ _ _ _ _ _ _ _ h hw hc2 hF)
      · replace h := fCell_ok hF h
        obtain ⟨q, e, hq, hu, ht, hs, h⟩ := h
        cases hu
        rcases e with ⟨t, len, c⟩ | o
        · obtain ⟨hb, h⟩ := fIf_an (show fIf (Nat.beq t 0) (fNum cx i (fun cx2 => go cx2 w lv (i :: .inr (.inl (q + 2)) :: s) T N k) (fun m => fInB cx m len (fGt c m (.inl 0) (fun y => fIsI y (go cx r lv (y :: s) T N k))))) false = true from h)
          have hb := Nat.eq_of_beq_eq_true hb
          subst hb
          rcases fNum_ok hc h with ⟨m, hm, h⟩ | ⟨cx2, hc2, h⟩
          · obtain ⟨h1, h2, h⟩ := fInB_ok (v := v) hc h
            have h := fGt_ok h
            obtain ⟨hy, h⟩ := fIsI_ok (v := v) h
            refine good_heap hins (q := (pc + 1, (fAt c m (.inl 0) :: s).map (fv v), σ)) ?_ (hgo _ _ _ _ _ _ _ _ _ h hr hc hF)
            simp only [List.map_cons, hm, hy, fArr_at]
            show (mInts L xs σ (q + 1)).bind (fun g => if mIn (Int32.ofNat m) g.1 = true then some (pc + 1, Value.int (g.2 (mIx (Int32.ofNat m))) :: s.map (fv v), σ) else none) = _
            rw [mInts_of hs]
            simp only [Option.bind_some]
            rw [if_pos h1, h2]
          · exact good_up2 (hgo _ _ _ _ _ _ _ _ _ h hw hc2 hF)
        · cases h
    · cases h
    · cases h
    · cases h
  · cases hk
theorem fd_baload {P : MP} {L : Nat} {xs v : Nat → Int32} {y : Nat} {callM : Nat → List Value → List MC → Option MRes} {B : FB} {call : FCl} {go : FN} {n : Nat} {cx : SCx} {w r : List Instr} {lv : FL} {st : List FV} {T : TT 7} {N : Nat} {k : FK} {σ : List MC} {pc : Nat} {ins : Instr}  (X : FX P L xs v y callM B call go n cx w T N σ pc) (hins : mpCode P y pc = some ins) (hk : chk P y pc (.baload) ins = true) (hr : cor P y (pc + fLg (.baload) ins) r = true) (h : fDo (.baload) L B call go cx w r lv st T N k = true) : Good P L xs v y callM (n + 2) pc (fLT v lv) (st.map (fv v)) σ k := by
  obtain ⟨hgo, hB, hw, hc, hF, hcall, hL, hv, h6, hEl⟩ := X
  simp only [chk, chkC] at hk
  split at hk
  · replace h : gBald L B call go cx w r lv st T N k = true := h
    unfold gBald at h
    replace h := fLs_ok h
    obtain ⟨i, s1, rfl, h⟩ := h
    replace h := fLs_ok h
    obtain ⟨a, s, rfl, h⟩ := h
    replace h := fCell_ok hF h
    obtain ⟨q, e, hq, rfl, ht, hs, h⟩ := h
    rcases e with ⟨t, len, c⟩ | o
    · obtain ⟨hb, h⟩ := fIf_an (show fIf (Nat.beq t 2) (fNum cx i (fun cx2 => go cx2 w lv (i :: .inr (.inl (q + 2)) :: s) T N k) (fun m => fInB cx m len (fGt c m (.inl 0) (fun y => fIsI y (go cx r lv (y :: s) T N k))))) false = true from h)
      have hb := Nat.eq_of_beq_eq_true hb
      subst hb
      rcases fNum_ok hc h with ⟨m, hm, h⟩ | ⟨cx2, hc2, h⟩
      · obtain ⟨h1, h2, h⟩ := fInB_ok (v := v) hc h
        have h := fGt_ok h
        obtain ⟨hy, h⟩ := fIsI_ok (v := v) h
        refine good_heap hins (q := (pc + 1, (fAt c m (.inl 0) :: s).map (fv v), σ)) ?_ (hgo _ _ _ _ _ _ _ _ _ h hr hc hF)
        simp only [List.map_cons, hm, hy, fArr_at]
        show (mBools σ (q + 1)).bind (fun g => if mIn (Int32.ofNat m) g.1 = true then some (pc + 1, Value.int (g.2 (mIx (Int32.ofNat m))) :: s.map (fv v), σ) else none) = _
        rw [mBools_of hs]
        simp only [Option.bind_some]
        rw [if_pos h1, h2]
      · exact good_up2 (hgo _ _ _ _ _ _ _ _ _ h hw hc2 hF)
    · cases h
  · cases hk
theorem fd_aaload {P : MP} {L : Nat} {xs v : Nat → Int32} {y : Nat} {callM : Nat → List Value → List MC → Option MRes} {B : FB} {call : FCl} {go : FN} {n : Nat} {cx : SCx} {w r : List Instr} {lv : FL} {st : List FV} {T : TT 7} {N : Nat} {k : FK} {σ : List MC} {pc : Nat} {ins : Instr}  (X : FX P L xs v y callM B call go n cx w T N σ pc) (hins : mpCode P y pc = some ins) (hk : chk P y pc (.aaload) ins = true) (hr : cor P y (pc + fLg (.aaload) ins) r = true) (h : fDo (.aaload) L B call go cx w r lv st T N k = true) : Good P L xs v y callM (n + 2) pc (fLT v lv) (st.map (fv v)) σ k := by
  obtain ⟨hgo, hB, hw, hc, hF, hcall, hL, hv, h6, hEl⟩ := X
  simp only [chk, chkC] at hk
  split at hk
  · replace h : gAald L B call go cx w r lv st T N k = true := h
    unfold gAald at h
    replace h := fLs_ok h
    obtain ⟨i, s1, rfl, h⟩ := h
    replace h := fLs_ok h
    obtain ⟨a, s, rfl, h⟩ := h
    replace h := fCell_ok hF h
    obtain ⟨q, e, hq, rfl, ht, hs, h⟩ := h
    rcases e with ⟨t, len, c⟩ | o
    · obtain ⟨hb, h⟩ := fIf_an (show fIf (Nat.ble 3 t) (fIf (Nat.ble t 9) (fNum cx i (fun cx2 => go cx2 w lv (i :: .inr (.inl (q + 2)) :: s) T N k) (fun m => fInB cx m len (fGt c m (.inr (.inl 0)) (fun y => fIsA y (go cx r lv (y :: s) T N k))))) false) false = true from h)
      obtain ⟨hb2, h⟩ := fIf_an h
      have hb := Nat.le_of_ble_eq_true hb
      have hb2 := Nat.le_of_ble_eq_true hb2
      rcases fNum_ok hc h with ⟨m, hm, h⟩ | ⟨cx2, hc2, h⟩
      · obtain ⟨h1, h2, h⟩ := fInB_ok (v := v) hc h
        have h := fGt_ok h
        obtain ⟨hy, h⟩ := fIsA_ok (v := v) h
        refine good_heap hins (q := (pc + 1, (fAt c m (.inr (.inl 0)) :: s).map (fv v), σ)) ?_ (hgo _ _ _ _ _ _ _ _ _ h hr hc hF)
        simp only [List.map_cons, hm, hy, fRrr_at]
        show (mRefs σ (q + 1)).bind (fun g => if mIn (Int32.ofNat m) g.2.1 = true then some (pc + 1, va_rf (g.2.2 (mIx (Int32.ofNat m))) :: s.map (fv v), σ) else none) = _
        rw [mRefs_of hb hb2 hs]
        simp only [Option.bind_some]
        rw [if_pos h1, h2]
      · exact good_up2 (hgo _ _ _ _ _ _ _ _ _ h hw hc2 hF)
    · cases h
  · cases hk
theorem fd_iastore {P : MP} {L : Nat} {xs v : Nat → Int32} {y : Nat} {callM : Nat → List Value → List MC → Option MRes} {B : FB} {call : FCl} {go : FN} {n : Nat} {cx : SCx} {w r : List Instr} {lv : FL} {st : List FV} {T : TT 7} {N : Nat} {k : FK} {σ : List MC} {pc : Nat} {ins : Instr}  (X : FX P L xs v y callM B call go n cx w T N σ pc) (hins : mpCode P y pc = some ins) (hk : chk P y pc (.iastore) ins = true) (hr : cor P y (pc + fLg (.iastore) ins) r = true) (h : fDo (.iastore) L B call go cx w r lv st T N k = true) : Good P L xs v y callM (n + 2) pc (fLT v lv) (st.map (fv v)) σ k := by
  obtain ⟨hgo, hB, hw, hc, hF, hcall, hL, hv, h6, hEl⟩ := X
  simp only [chk, chkC] at hk
  split at hk
  · replace h : gIast L B call go cx w r lv st T N k = true := h
    unfold gIast at h
    replace h := fLs_ok h
    obtain ⟨y1, s2, rfl, h⟩ := h
    replace h := fLs_ok h
    obtain ⟨i, s1, rfl, h⟩ := h
    replace h := fLs_ok h
    obtain ⟨a, s, rfl, h⟩ := h
    obtain ⟨hy, h⟩ := fIsI_ok (v := v) h
    replace h := fCell_ok hF h
    obtain ⟨q, e, hq, rfl, ht, hs, h⟩ := h
    rcases e with ⟨t, len, c⟩ | o
    · obtain ⟨hb, h⟩ := fIf_an (show fIf (Nat.beq t 0) (fNum cx i (fun cx2 => go cx2 w lv (y1 :: i :: .inr (.inl (q + 2)) :: s) T N k) (fun m => fInB cx m len (fF m (fun m2 => go cx r lv s (fTp 7 T q (.inl (0, len, (m2, y1) :: c))) N k)))) false = true from h)
      have hb := Nat.eq_of_beq_eq_true hb
      subst hb
      rcases fNum_ok hc h with ⟨m, hm, h⟩ | ⟨cx2, hc2, h⟩
      · obtain ⟨h1, h2, h⟩ := fInB_ok (v := v) hc h
        rw [fF_ok] at h
        have hF2 := FR_put hF hq ht (.inl (0, len, (m, y1) :: c))
        refine good_heap hins (q := (pc + 1, s.map (fv v), σ.set q (fc v (.inl (0, len, (m, y1) :: c))))) ?_ (hgo _ _ _ _ _ _ _ _ _ h hr hc hF2)
        simp only [List.map_cons, hm, hy]
        show (mCInts σ (q + 1)).bind (fun g => if mIn (Int32.ofNat m) g.1 = true then some (pc + 1, s.map (fv v), mPut σ (q + 1) (.inl (0, g.1, .inl (upd g.2 (mIx (Int32.ofNat m)) (fInt v y1))))) else none) = _
        rw [mCInts_of hs]
        simp only [Option.bind_some]
        rw [if_pos h1, h2]
        rfl
      · exact good_up2 (hgo _ _ _ _ _ _ _ _ _ h hw hc2 hF)
    · cases h
  · cases hk
theorem fd_bastore {P : MP} {L : Nat} {xs v : Nat → Int32} {y : Nat} {callM : Nat → List Value → List MC → Option MRes} {B : FB} {call : FCl} {go : FN} {n : Nat} {cx : SCx} {w r : List Instr} {lv : FL} {st : List FV} {T : TT 7} {N : Nat} {k : FK} {σ : List MC} {pc : Nat} {ins : Instr}  (X : FX P L xs v y callM B call go n cx w T N σ pc) (hins : mpCode P y pc = some ins) (hk : chk P y pc (.bastore) ins = true) (hr : cor P y (pc + fLg (.bastore) ins) r = true) (h : fDo (.bastore) L B call go cx w r lv st T N k = true) : Good P L xs v y callM (n + 2) pc (fLT v lv) (st.map (fv v)) σ k := by
  obtain ⟨hgo, hB, hw, hc, hF, hcall, hL, hv, h6, hEl⟩ := X
  simp only [chk, chkC] at hk
  split at hk
  · replace h : gBast L B call go cx w r lv st T N k = true := h
    unfold gBast at h
    replace h := fLs_ok h
    obtain ⟨y1, s2, rfl, h⟩ := h
    replace h := fLs_ok h
    obtain ⟨i, s1, rfl, h⟩ := h
    replace h := fLs_ok h
    obtain ⟨a, s, rfl, h⟩ := h
    rcases y1 with u | u | u | u | u
    · obtain ⟨hu, h⟩ := fIf_an h
      have hu := Nat.le_of_ble_eq_true hu
      have hnar : vp_nar .boolean (Int32.ofNat u) = Int32.ofNat u := by
        have h2 : u = 0 ∨ u = 1 := by omega
        rcases h2 with rfl | rfl <;> decide
      replace h := fCell_ok hF h
      obtain ⟨q, e, hq, rfl, ht, hs, h⟩ := h
      rcases e with ⟨t, len, c⟩ | o
      · obtain ⟨hb, h⟩ := fIf_an (show fIf (Nat.beq t 2) (fNum cx i (fun cx2 => go cx2 w lv (.inl u :: i :: .inr (.inl (q + 2)) :: s) T N k) (fun m => fInB cx m len (fF m (fun m2 => go cx r lv s (fTp 7 T q (.inl (2, len, (m2, .inl u) :: c))) N k)))) false = true from h)
        have hb := Nat.eq_of_beq_eq_true hb
        subst hb
        rcases fNum_ok hc h with ⟨m, hm, h⟩ | ⟨cx2, hc2, h⟩
        · obtain ⟨h1, h2, h⟩ := fInB_ok (v := v) hc h
          rw [fF_ok] at h
          have hF2 := FR_put hF hq ht (.inl (2, len, (m, .inl u) :: c))
          refine good_heap hins (q := (pc + 1, s.map (fv v), σ.set q (fc v (.inl (2, len, (m, .inl u) :: c))))) ?_ (hgo _ _ _ _ _ _ _ _ _ h hr hc hF2)
          simp only [List.map_cons, hm]
          show (mBools σ (q + 1)).bind (fun g => if mIn (Int32.ofNat m) g.1 = true then some (pc + 1, s.map (fv v), mPut σ (q + 1) (.inl (2, g.1, .inl (upd g.2 (mIx (Int32.ofNat m)) (vp_nar .boolean (Int32.ofNat u)))))) else none) = _
          rw [mBools_of hs]
          simp only [Option.bind_some]
          rw [if_pos h1, h2, hnar]
          rfl
        · exact good_up2 (hgo _ _ _ _ _ _ _ _ _ h hw hc2 hF)
      · cases h
    · cases h
    · cases h
    · cases h
    · cases h
  · cases hk
theorem fd_aastore {P : MP} {L : Nat} {xs v : Nat → Int32} {y : Nat} {callM : Nat → List Value → List MC → Option MRes} {B : FB} {call : FCl} {go : FN} {n : Nat} {cx : SCx} {w r : List Instr} {lv : FL} {st : List FV} {T : TT 7} {N : Nat} {k : FK} {σ : List MC} {pc : Nat} {ins : Instr}  (X : FX P L xs v y callM B call go n cx w T N σ pc) (hins : mpCode P y pc = some ins) (hk : chk P y pc (.aastore) ins = true) (hr : cor P y (pc + fLg (.aastore) ins) r = true) (h : fDo (.aastore) L B call go cx w r lv st T N k = true) : Good P L xs v y callM (n + 2) pc (fLT v lv) (st.map (fv v)) σ k := by
  obtain ⟨hgo, hB, hw, hc, hF, hcall, hL, hv, h6, hEl⟩ := X
  simp only [chk, chkC] at hk
  split at hk
  · replace h : gAast L B call go cx w r lv st T N k = true := h
    unfold gAast at h
    replace h := fLs_ok h
    obtain ⟨y1, s2, rfl, h⟩ := h
    replace h := fLs_ok h
    obtain ⟨i, s1, rfl, h⟩ := h
    replace h := fLs_ok h
    obtain ⟨a, s, rfl, h⟩ := h
    replace h := fCell_ok hF h
    obtain ⟨q, e, hq, rfl, ht, hs, h⟩ := h
    rcases e with ⟨t, len, c⟩ | o
    · obtain ⟨hb, h⟩ := fIf_an (show fIf (Nat.ble 3 t) (fIf (Nat.ble t 9) (fNum cx i (fun cx2 => go cx2 w lv (y1 :: i :: .inr (.inl (q + 2)) :: s) T N k) (fun m => fInB cx m len (fE y1 fNo (fun u => fF m (fun m2 => fIf (Nat.beq u 0) (go cx r lv s (fTp 7 T q (.inl (t, len, (m2, y1) :: c))) N k) (fCell T y1 (fun _ e2 => fIf (fEl t e2) (go cx r lv s (fTp 7 T q (.inl (t, len, (m2, y1) :: c))) N k) false)))) fNo fNo fNo))) false) false = true from h)
      obtain ⟨hb2, h⟩ := fIf_an h
      have hb := Nat.le_of_ble_eq_true hb
      have hb2 := Nat.le_of_ble_eq_true hb2
      rcases fNum_ok hc h with ⟨m, hm, h⟩ | ⟨cx2, hc2, h⟩
      · obtain ⟨h1, h2, h⟩ := fInB_ok (v := v) hc h
        have hF2 := FR_put hF hq ht (.inl (t, len, (m, y1) :: c))
        have fin : fc v (.inl (t, len, (m, y1) :: c)) = .inl (t, mIx (fInt v len), .inr (.inr (.inr (.inr (va_up (fRrr c) m (fOpR y1)))))) := by
          show Sum.inl (t, mIx (fInt v len), fCt v t ((m, y1) :: c)) = _
          rw [fCt_ref v hb]
          rfl
        rcases y1 with u | u | u | u | u
        · cases h
        · replace h : fF m (fun m2 => fIf (Nat.beq u 0) (go cx r lv s (fTp 7 T q (.inl (t, len, (m2, .inr (.inl u)) :: c))) N k) (fCell T (.inr (.inl u)) (fun _ e2 => fIf (fEl t e2) (go cx r lv s (fTp 7 T q (.inl (t, len, (m2, .inr (.inl u)) :: c))) N k) false))) = true := h
          rw [fF_ok] at h
          rcases fIf_of h with ⟨hu, h⟩ | ⟨hu, h⟩
          · have hu := Nat.eq_of_beq_eq_true hu
            subst hu
            refine good_heap hins (q := (pc + 1, s.map (fv v), σ.set q (fc v (.inl (t, len, (m, .inr (.inl 0)) :: c))))) ?_ (hgo _ _ _ _ _ _ _ _ _ h hr hc hF2)
            rw [fin]
            simp only [List.map_cons, hm]
            show (mRefs σ (q + 1)).bind (fun g => if mIn (Int32.ofNat m) g.2.1 = true then some (pc + 1, s.map (fv v), mPut σ (q + 1) (.inl (g.1, g.2.1, .inr (.inr (.inr (.inr (va_up g.2.2 (mIx (Int32.ofNat m)) none))))))) else none) = _
            rw [mRefs_of hb hb2 hs]
            simp only [Option.bind_some]
            rw [if_pos h1, h2]
            rfl
          · replace h := fCell_ok hF h
            obtain ⟨q2, e2, hq2, hu2, ht2, hs2, h⟩ := h
            cases hu2
            obtain ⟨hel, h⟩ := fIf_an h
            refine good_heap hins (q := (pc + 1, s.map (fv v), σ.set q (fc v (.inl (t, len, (m, .inr (.inl (q2 + 2))) :: c))))) ?_ (hgo _ _ _ _ _ _ _ _ _ h hr hc hF2)
            rw [fin]
            simp only [List.map_cons, hm]
            show (mRefs σ (q + 1)).bind (fun g => (mCell σ (q2 + 1)).bind (fun e => if mIn (Int32.ofNat m) g.2.1 = true ∧ mpElem P g.1 e = true then some (pc + 1, s.map (fv v), mPut σ (q + 1) (.inl (g.1, g.2.1, .inr (.inr (.inr (.inr (va_up g.2.2 (mIx (Int32.ofNat m)) (some (q2 + 1))))))))) else none)) = _
            rw [mRefs_of hb hb2 hs, show mCell σ (q2 + 1) = some (fc v e2) from hs2]
            simp only [Option.bind_some]
            rw [if_pos ⟨h1, hEl t e2 hel⟩, h2]
            rfl
        · cases h
        · cases h
        · cases h
      · exact good_up2 (hgo _ _ _ _ _ _ _ _ _ h hw hc2 hF)
    · cases h
  · cases hk
theorem fd_arraylength {P : MP} {L : Nat} {xs v : Nat → Int32} {y : Nat} {callM : Nat → List Value → List MC → Option MRes} {B : FB} {call : FCl} {go : FN} {n : Nat} {cx : SCx} {w r : List Instr} {lv : FL} {st : List FV} {T : TT 7} {N : Nat} {k : FK} {σ : List MC} {pc : Nat} {ins : Instr}  (X : FX P L xs v y callM B call go n cx w T N σ pc) (hins : mpCode P y pc = some ins) (hk : chk P y pc (.arraylength) ins = true) (hr : cor P y (pc + fLg (.arraylength) ins) r = true) (h : fDo (.arraylength) L B call go cx w r lv st T N k = true) : Good P L xs v y callM (n + 2) pc (fLT v lv) (st.map (fv v)) σ k := by
  obtain ⟨hgo, hB, hw, hc, hF, hcall, hL, hv, h6, hEl⟩ := X
  simp only [chk, chkC] at hk
  split at hk
  · replace h : gAlen L B call go cx w r lv st T N k = true := h
    unfold gAlen at h
    replace h := fLs_ok h
    obtain ⟨x, s, rfl, h⟩ := h
    rcases x with u | u | u | u | u
    · cases h
    · rcases fIf_of h with ⟨hb, h⟩ | ⟨hb, h⟩
      · have hb := Nat.eq_of_beq_eq_true hb
        subst hb
        exact good_heap hins (q := (pc + 1, (.inl L :: s : List FV).map (fv v), σ)) rfl (hgo _ _ _ _ _ _ _ _ _ h hr hc hF)
      · replace h := fCell_ok hF h
        obtain ⟨q, e, hq, hu, ht, hs, h⟩ := h
        cases hu
        rcases e with ⟨t, len, c⟩ | o
        · obtain ⟨hb, h⟩ := fIf_an (show fIf (Nat.ble t 9) (fLng cx len (go cx r lv (len :: s) T N k)) false = true from h)
          have hb := Nat.le_of_ble_eq_true hb
          obtain ⟨⟨hx, h0, hm, hn⟩, h⟩ := fLng_ok (v := v) hc h
          refine good_heap hins (q := (pc + 1, (len :: s).map (fv v), σ)) ?_ (hgo _ _ _ _ _ _ _ _ _ h hr hc hF)
          have hl : mLong σ L (q + 1) = some (mIx (fInt v len)) := by
            simp only [mLong, hs, fc]
            rw [if_pos (by omega)]
          show (mLong σ L (q + 1)).map (fun n => (pc + 1, Value.int (Int32.ofNat n) :: s.map (fv v), σ)) = _
          rw [hl]
          simp only [Option.map_some, List.map_cons, hx, hn]
        · cases h
    · cases h
    · cases h
    · cases h
  · cases hk
theorem fd_newarray {P : MP} {L : Nat} {xs v : Nat → Int32} {y : Nat} {callM : Nat → List Value → List MC → Option MRes} {B : FB} {call : FCl} {go : FN} {n : Nat} {cx : SCx} {w r : List Instr} {lv : FL} {st : List FV} {T : TT 7} {N : Nat} {k : FK} {σ : List MC} {pc : Nat} {ins : Instr} {t : Jvm.ClassFile.ArrayType} (X : FX P L xs v y callM B call go n cx w T N σ pc) (hins : mpCode P y pc = some ins) (hk : chk P y pc (.newarray t) ins = true) (hr : cor P y (pc + fLg (.newarray t) ins) r = true) (h : fDo (.newarray t) L B call go cx w r lv st T N k = true) : Good P L xs v y callM (n + 2) pc (fLT v lv) (st.map (fv v)) σ k := by
  obtain ⟨hgo, hB, hw, hc, hF, hcall, hL, hv, h6, hEl⟩ := X
  have X : FX P L xs v y callM B call go n cx w T N σ pc := ⟨hgo, hB, hw, hc, hF, hcall, hL, hv, h6, hEl⟩
  simp only [chk, chkC] at hk
  split at hk
  · next u =>
    have hk := of_decide_eq_true hk
    subst hk
    replace h : fAty u L B call go cx w r lv st T N k = true := h
    cases u with
    | int => exact gNewA_ok (t := 0) (pc2 := pc + 2) X hins hr (fun z s => rfl) h
    | long => exact gNewA_ok (t := 1) (pc2 := pc + 2) X hins hr (fun z s => rfl) h
    | boolean => exact gNewA_ok (t := 2) (pc2 := pc + 2) X hins hr (fun z s => rfl) h
    | _ => cases h
  · cases hk
theorem fd_anewarray {P : MP} {L : Nat} {xs v : Nat → Int32} {y : Nat} {callM : Nat → List Value → List MC → Option MRes} {B : FB} {call : FCl} {go : FN} {n : Nat} {cx : SCx} {w r : List Instr} {lv : FL} {st : List FV} {T : TT 7} {N : Nat} {k : FK} {σ : List MC} {pc : Nat} {ins : Instr} {t : Nat} (X : FX P L xs v y callM B call go n cx w T N σ pc) (hins : mpCode P y pc = some ins) (hk : chk P y pc (.anewarray t) ins = true) (hr : cor P y (pc + fLg (.anewarray t) ins) r = true) (h : fDo (.anewarray t) L B call go cx w r lv st T N k = true) : Good P L xs v y callM (n + 2) pc (fLT v lv) (st.map (fv v)) σ k := by
  obtain ⟨hgo, hB, hw, hc, hF, hcall, hL, hv, h6, hEl⟩ := X
  have X : FX P L xs v y callM B call go n cx w T N σ pc := ⟨hgo, hB, hw, hc, hF, hcall, hL, hv, h6, hEl⟩
  simp only [chk, chkC] at hk
  split at hk
  · next i =>
    obtain ⟨ha, h3⟩ := of_decide_eq_true hk
    replace h : gNewA t L B call go cx w r lv st T N k = true := h
    exact gNewA_ok (t := t) (pc2 := pc + 3) X hins hr (fun z s => by
      show (mpArr P y i).bind (fun k => if 3 ≤ k then mNewA σ (pc + 3) k (z, s) else none) = _
      rw [ha, Option.bind_some, if_pos h3]) h
  · cases hk
theorem fd_new {P : MP} {L : Nat} {xs v : Nat → Int32} {y : Nat} {callM : Nat → List Value → List MC → Option MRes} {B : FB} {call : FCl} {go : FN} {n : Nat} {cx : SCx} {w r : List Instr} {lv : FL} {st : List FV} {T : TT 7} {N : Nat} {k : FK} {σ : List MC} {pc : Nat} {ins : Instr} {c : Nat} (X : FX P L xs v y callM B call go n cx w T N σ pc) (hins : mpCode P y pc = some ins) (hk : chk P y pc (.new c) ins = true) (hr : cor P y (pc + fLg (.new c) ins) r = true) (h : fDo (.new c) L B call go cx w r lv st T N k = true) : Good P L xs v y callM (n + 2) pc (fLT v lv) (st.map (fv v)) σ k := by
  obtain ⟨hgo, hB, hw, hc, hF, hcall, hL, hv, h6, hEl⟩ := X
  simp only [chk, chkC] at hk
  split at hk
  · next i =>
    obtain ⟨hn, hbl⟩ := of_decide_eq_true hk
    replace h : gNewO c L B call go cx w r lv st T N k = true := h
    unfold gNewO at h
    obtain ⟨hN, h⟩ := fIf_an h
    have hN := Nat.le_of_ble_eq_true hN
    have hF2 := FR_new hF (by omega) (.inr (c, (pgBl c).map fOfV))
    refine good_heap hins (q := (pc + 3, (.inr (.inl (N + 2)) :: st : List FV).map (fv v), σ ++ [fc v (.inr (c, (pgBl c).map fOfV))])) ?_ (hgo _ _ _ _ _ _ _ _ _ h hr hc hF2)
    show (mpNew P y i).map (fun q => (pc + 3, Value.ref (σ.length + 1) :: st.map (fv v), σ ++ [Sum.inr q])) = some (pc + 3, Value.ref (N + 1) :: st.map (fv v), σ ++ [Sum.inr (c, ((pgBl c).map fOfV).map (fv v))])
    have e : ((pgBl c).map fOfV).map (fv v) = pgBl c := by
      rw [List.map_map]
      refine Eq.trans ?_ hbl
      apply List.map_congr_left
      intro x _
      cases x <;> rfl
    rw [hn, e, hF.2.1]
    rfl
  · cases hk
