section MC1
variable {p : Program} {l : Launch} {e : Env} {R : Room} {s : State} {m : MethodId} {args : Array Value} {below : List Frame} {meth : Method} {c : Code} {H : Heap} {locs : List Loc} {cells slots : Nat} {Q : State → Prop}
variable {cc : ByteArray} {pc : Nat} {ls : Array Slot} {b0 base : Nat} {P : MP} {y : Nat} {D : va_G} {cl : List vw_C} {aC : Nat → ClassId} {tyL : List FieldType} {Ts Ns : List Cond} {σ : List MC} {nm : Nat → MethodName} {byt : Nat → ByteArray} {rt : Nat → Option FieldType} {L : Nat} {xs : Nat → Int32}
set_option maxHeartbeats 4000000 in
theorem mHeap_sound (hexec : p.tables.exec = Jvm.exec) (hb : c.code = cc) (hml : c.maxLocals = ls.size) (hown : s.vm.findClass (nm y).cls = some m.cls) (hts : ∀ w ∈ Ts, w.before args s = true) (hns : mNs Ns s) (hO : mOK Ts Ns cl tyL P nm byt rt) (hK : va_K D cl (mTys aC tyL) s) (hAr : mAr aC tyL s)
    (hX : va_X b0 L xs s s.heap) (hb0 : b0 < base) (hbs : base ≤ s.heap.size) (hin : (mpInfo P y).2.2.2.2.1 = true → meth.name = "<init>") (hRf : (mpInfo P y).2.1 ≤ R.frames) (hRl : (mpInfo P y).2.2.1 ≤ R.locals)
    {ins : Instr} (hdg : mDec cc pc ins) {st : List Value} {q : Nat × List Value × List MC} (h : mHeap P L xs y ins pc st σ = some q) (hH : mHp D cl aC b0 base s σ H locs) (hrc : cells + q.2.2.length ≤ R.cells + σ.length) (hrs : slots + mSl q.2.2 ≤ R.slots + mSl σ)
    (kk : ∀ (H1 : Heap) (locs1 : List Loc) (cells1 slots1 : Nat), mHp D cl aC b0 base s q.2.2 H1 locs1 → cells1 + σ.length = cells + q.2.2.length → slots1 + mSl σ = slots + mSl q.2.2 → W p l e R s m args below meth c H1 locs1 cells1 slots1 Q (F0 m q.1 ls (q.2.1.map (mV b0 base)))) :
    W p l e R s m args below meth c H locs cells slots Q (F0 m pc ls (st.map (mV b0 base))) := by
  obtain ⟨hOc, hOl, hOf, hOk, hOn, hOa, hOe, hOi, hOr⟩ := hO
  have hbA : ¬ (fun q => base ≤ q) b0 := Nat.not_le.mpr hb0
  have hbl : b0 < s.heap.size := Nat.lt_of_lt_of_le hb0 hbs
  cases ins with
  | getfield i =>
    simp only [mHeap, mHeapC] at h
    split at h
    · next a r =>
      simp only [Option.bind_eq_some_iff] at h
      obtain ⟨o, ho, w, hw, h⟩ := h
      split at h
      · next hq =>
        simp only [Option.map_eq_some_iff] at h
        obtain ⟨v, hv, rfl⟩ := h
        obtain ⟨k, rfl, hk⟩ := mObj_eq ho
        obtain ⟨C, T, N, hc, hN, hlink⟩ := hOf y i w hw
        obtain ⟨hin', -, -, -, -⟩ := hOk w.1 C T N hc
        exact va_get (D := D) (ci := o.1) (v := mV b0 base v) hexec hb hts hin' hown hK hH.1 k (mW_get hk) (by rw [← hq]; exact hc) w.2 hN (hts _ hlink) (fun _ h9 => h9) (by rw [List.getElem?_map, hv]; rfl) (hdg.at (by simp [mLen])) (kk H locs cells slots hH rfl rfl)
      · cases h
    · cases h
  | putfield i =>
    simp only [mHeap, mHeapC] at h
    split at h
    · next v a r =>
      simp only [Option.bind_eq_some_iff] at h
      obtain ⟨o, ho, w, hw, h⟩ := h
      split at h
      · next hq =>
        cases h
        obtain ⟨hq1, hq2, hq3, hq4⟩ := hq
        obtain ⟨k, rfl, hk⟩ := mObj_eq ho
        obtain ⟨C, T, N, hc, hN, hlink⟩ := hOf y i w hw
        rw [hq1] at hc hq3 hq4
        exact mPut_sound hexec hb hown hts hOk hK hin rfl hk hc hN hlink hq2 hq3 hq4 hH (hdg.at (by simp [mLen])) (fun H1 locs1 hH1 => kk H1 locs1 cells slots hH1 (by simp [mPut]) (by rw [show mPut σ (k + 1) _ = σ.set k _ from rfl, mSl_set hk (by simp [mSz])]))
      · cases h
    · cases h
  | iaload =>
    simp only [mHeap, mHeapC, Option.bind_eq_some_iff] at h
    obtain ⟨w, hw, g, hg, h⟩ := h
    split at h
    · next hi =>
      cases h
      rw [mIA_eq hw]
      rcases mInts_eq hg with ⟨ha, rfl⟩ | ⟨k, ha, hk⟩
      · rw [ha]
        exact va_sld hexec hb hX hbl hbA hH.2.2 (mIn_eq hi) (hdg.at (by simp [mLen])) (kk H locs cells slots hH rfl rfl)
      · rw [ha]
        exact va_iald hexec hb hK hH.1 k 0 (mW_get hk) (mTys_at hOa.1.1) (mIn_eq hi) (hdg.at (by simp [mLen])) (kk H locs cells slots hH rfl rfl)
    · cases h
  | laload =>
    simp only [mHeap, mHeapC, Option.bind_eq_some_iff] at h
    obtain ⟨w, hw, g, hg, h⟩ := h
    split at h
    · next hi =>
      cases h
      rw [mIA_eq hw]
      obtain ⟨k, ha, hk⟩ := mLongs_eq hg
      rw [ha]
      exact va_lald hexec hb hK hH.1 k 1 (mW_get hk) (mTys_at hOa.1.2.1) (mIn_eq hi) (hdg.at (by simp [mLen])) (kk H locs cells slots hH rfl rfl)
    · cases h
  | baload =>
    simp only [mHeap, mHeapC, Option.bind_eq_some_iff] at h
    obtain ⟨w, hw, g, hg, h⟩ := h
    split at h
    · next hi =>
      cases h
      rw [mIA_eq hw]
      obtain ⟨k, ha, hk⟩ := mBools_eq hg
      rw [ha]
      exact va_zald hexec hb hK hH.1 k 2 (mW_get hk) (mTys_at hOa.1.2.2.1) (mIn_eq hi) (hdg.at (by simp [mLen])) (kk H locs cells slots hH rfl rfl)
    · cases h
  | aaload =>
    simp only [mHeap, mHeapC, Option.bind_eq_some_iff] at h
    obtain ⟨w, hw, g, hg, h⟩ := h
    split at h
    · next hi =>
      cases h
      rw [mIA_eq hw]
      obtain ⟨k, ha, hk, h3, h10⟩ := mRefs_eq hg
      rw [ha]
      have hc : H[base + k]? = some (vp_cell (aC g.1) (g.2.1, .inr (.inr (.inr (.inr (fun j => (g.2.2 j).map (mAd b0 base))))))) := hH.1 k _ (mW_get hk)
      have hin9 := mIn_eq hi
      have hlt : w.1.toNatClampNeg < g.2.1 := Nat.not_le.mp fun q => hin9 (Or.inr q)
      cases ht : tyL[g.1]? with
      | none => exact absurd (List.getElem?_eq_none_iff.mp ht) (by rw [hOa.2.2.1.1]; omega)
      | some u =>
        refine W.aald (v := va_rf ((g.2.2 w.1.toNatClampNeg).map (mAd b0 base))) (ty := u) hexec hb hc (hAr.arr ht g.2.1 (fun j => va_rf ((g.2.2 j).map (mAd b0 base)))) (hOa.2.2.1.2 _ _ ht h3) (fun q => by cases q) (by show ¬ (w.1 < 0 ∨ (arrV _ _ _).slots.size ≤ _); rw [arrV_size]; exact hin9) (by show (arrV _ _ _).slots[_]? = _; rw [arrV_read _ _ hlt]) rfl rfl (hdg.at (by simp [mLen])) ?_
        have k2 := kk H locs cells slots hH rfl rfl
        simp only [List.map_cons, mV_rf] at k2
        exact k2
    · cases h
  | iastore =>
    simp only [mHeap, mHeapC] at h
    split at h
    · next x i a r =>
      simp only [Option.bind_eq_some_iff] at h
      obtain ⟨g, hg, h⟩ := h
      split at h
      · next hi =>
        cases h
        obtain ⟨k, rfl, hk⟩ := mCInts_eq hg
        exact mIast_sound hexec hb hAr hOa.1.1 hk (mIn_eq hi) hH (hdg.at (by simp [mLen])) (fun H1 locs1 hH1 => kk H1 locs1 cells slots hH1 (by simp [mPut]) (by rw [show mPut σ (k + 1) _ = σ.set k _ from rfl, mSl_set hk (by simp [mSz])]))
      · cases h
    · cases h
  | lastore =>
    simp only [mHeap, mHeapC] at h
    split at h
    · next x i a r =>
      simp only [Option.bind_eq_some_iff] at h
      obtain ⟨g, hg, h⟩ := h
      split at h
      · next hi =>
        cases h
        obtain ⟨k, rfl, hk⟩ := mLongs_eq hg
        exact mLast_sound hexec hb hAr hOa.1.2.1 hk (mIn_eq hi) hH (hdg.at (by simp [mLen])) (fun H1 locs1 hH1 => kk H1 locs1 cells slots hH1 (by simp [mPut]) (by rw [show mPut σ (k + 1) _ = σ.set k _ from rfl, mSl_set hk (by simp [mSz])]))
      · cases h
    · cases h
  | bastore =>
    simp only [mHeap, mHeapC] at h
    split at h
    · next x i a r =>
      simp only [Option.bind_eq_some_iff] at h
      obtain ⟨g, hg, h⟩ := h
      split at h
      · next hi =>
        cases h
        obtain ⟨k, rfl, hk⟩ := mBools_eq hg
        exact mZast_sound hexec hb hAr hOa.1.2.2.1 hk (mIn_eq hi) hH (hdg.at (by simp [mLen])) (fun H1 locs1 hH1 => kk H1 locs1 cells slots hH1 (by simp [mPut]) (by rw [show mPut σ (k + 1) _ = σ.set k _ from rfl, mSl_set hk (by simp [mSz])]))
      · cases h
    · cases h
  | aastore =>
    simp only [mHeap, mHeapC] at h
    split at h
    · next i a r =>
      simp only [Option.bind_eq_some_iff] at h
      obtain ⟨g, hg, h⟩ := h
      split at h
      · next hi =>
        cases h
        obtain ⟨k, rfl, hk, h3, h10⟩ := mRefs_eq hg
        cases ht : tyL[g.1]? with
        | none => exact absurd (List.getElem?_eq_none_iff.mp ht) (by rw [hOa.2.2.1.1]; omega)
        | some u =>
          exact mAastN_sound hexec hb hK hAr ht (hOa.2.2.1.2 _ _ ht h3) hk (mIn_eq hi) hH (hdg.at (by simp [mLen])) (fun H1 locs1 hH1 => kk H1 locs1 cells slots hH1 (by simp [mPut]) (by rw [show mPut σ (k + 1) _ = σ.set k _ from rfl, mSl_set hk (by simp [mSz])]))
      · cases h
    · next v i a r =>
      simp only [Option.bind_eq_some_iff] at h
      obtain ⟨g, hg, ev, hev, h⟩ := h
      split at h
      · next hi =>
        cases h
        obtain ⟨k, rfl, hk, h3, h10⟩ := mRefs_eq hg
        cases v with
        | zero => simp [mCell] at hev
        | succ v =>
          exact mAast_sound hexec hb hK hAr hk hev (hOe _ _ hi.2) (mIn_eq hi.1) hH (hdg.at (by simp [mLen])) (fun H1 locs1 hH1 => kk H1 locs1 cells slots hH1 (by simp [mPut]) (by rw [show mPut σ (k + 1) _ = σ.set k _ from rfl, mSl_set hk (by simp [mSz])]))
      · cases h
    · cases h
  | arraylength =>
    simp only [mHeap, mHeapC] at h
    split at h
    · next a r =>
      simp only [Option.map_eq_some_iff] at h
      obtain ⟨n, hn, rfl⟩ := h
      rcases mLong_eq hn with ⟨rfl, rfl⟩ | ⟨k, t, x, rfl, hk, h10⟩
      · exact va_slen hexec hb hX hbl hbA hH.2.2 (hdg.at (by simp [mLen])) (kk H locs cells slots hH rfl rfl)
      · cases ht : tyL[t]? with
        | none => exact absurd (List.getElem?_eq_none_iff.mp ht) (by rw [hOa.2.2.1.1]; omega)
        | some u =>
          exact va_alen hexec hb hK hH.1 k t (mW_get hk) (mTys_at ht) rfl (hdg.at (by simp [mLen])) (kk H locs cells slots hH rfl rfl)
    · cases h
  | newarray t =>
    simp only [mHeap, mHeapC, Option.bind_eq_some_iff] at h
    obtain ⟨w, hw, k, hk, h⟩ := h
    rw [mI1_eq hw]
    unfold mNewA at h
    split at h
    · cases h
    · next hn =>
      split at h
      · next hN =>
        cases h
        simp only [List.length_append, List.length_cons, List.length_nil, mSl_push, mSz] at hrc hrs
        have k2 := fun H1 hH1 => kk H1 locs (cells + 1) (slots + mIx w.1) hH1 (by simp; omega) (by rw [mSl_push]; simp only [mSz]; omega)
        unfold mATy at hk
        split at hk
        · cases hk
          exact mNewP_sound hexec hb (at_ := .int) (k := 0) hOa.1.1 (hts _ hOa.2.1.1) hAr hn hN (by decide) (fun cA => rfl) hH (by omega) (by unfold mIx at hrs; omega) (hdg.at (by simp [mLen])) k2
        · cases hk
          exact mNewP_sound hexec hb (at_ := .long) (k := 1) hOa.1.2.1 (hts _ hOa.2.1.2.1) hAr hn hN (by decide) (fun cA => rfl) hH (by omega) (by unfold mIx at hrs; omega) (hdg.at (by simp [mLen])) k2
        · cases hk
          exact mNewP_sound hexec hb (at_ := .boolean) (k := 2) hOa.1.2.2.1 (hts _ hOa.2.1.2.2) hAr hn hN (by decide) (fun cA => rfl) hH (by omega) (by unfold mIx at hrs; omega) (hdg.at (by simp [mLen])) k2
        · cases hk
      · cases h
  | anewarray i =>
    simp only [mHeap, mHeapC, Option.bind_eq_some_iff] at h
    obtain ⟨w, hw, k, hk, h⟩ := h
    rw [mI1_eq hw]
    split at h
    · next h3 =>
      unfold mNewA at h
      split at h
      · cases h
      · next hn =>
        split at h
        · next hN =>
          cases h
          simp only [List.length_append, List.length_cons, List.length_nil, mSl_push, mSz] at hrc hrs
          exact mNewQ_sound hexec hb hown hts hns h3 (hOa.2.2.2 y i k hk) hAr hn hN hH (by omega) (by unfold mIx at hrs; omega) (hdg.at (by simp [mLen])) (fun H1 hH1 => kk H1 locs (cells + 1) (slots + mIx w.1) hH1 (by simp; omega) (by rw [mSl_push]; simp only [mSz]; omega))
        · cases h
    · cases h
  | new i =>
    simp only [mHeap, mHeapC, Option.map_eq_some_iff] at h
    obtain ⟨w, hw, rfl⟩ := h
    obtain ⟨C, T, N, hc, hlen, hcl, hinst, hini, hfs⟩ := hOn y i w hw
    simp only [List.length_append, List.length_cons, List.length_nil, mSl_push, mSz] at hrc hrs
    exact mNew_sound hexec hb hown hts hOk hK hc hlen hcl hinst hini hfs hH (by omega) (by omega) (hdg.at (by simp [mLen])) (fun H1 hH1 => kk H1 locs (cells + 1) (slots + N) hH1 (by simp; omega) (by rw [mSl_push]; simp only [mSz]; omega))
  | invokespecial i =>
    simp only [mHeap, mHeapC, Option.bind_eq_some_iff] at h
    obtain ⟨w, hi, h⟩ := h
    split at h
    · next h5 =>
     split at h
     · next a r =>
      split at h
      · next hq =>
        cases h
        obtain ⟨h1, h2, h3⟩ := (hOi y i _ hi).2.2.2.2.2.2.1 h5
        exact W.objInit hexec hb hown (hts _ h1) (hts _ h2) (hts _ h3) rfl (by exact hml.symm) rfl (hdg.at (by simp [mLen])) (Nat.le_trans hq.2.1 hRf) (by
          have := lv_room (m := m) (pc := pc) (ls := ls) (rest := []) (st := r.map (mV b0 base)) (by rw [mV_cats]; exact hq.1)
          have h20 := Nat.le_trans hq.2.2 hRl
          show 2 * (F0 m pc ls _).monitorRoom + _ + 12 ≤ R.locals
          have h9 : 2 * (F0 m pc ls []).monitorRoom + ((r.map (mV b0 base)).map fun v => v.category).sum ≤ 8 := this
          have h8 : (F0 m pc ls []).monitorRoom = (F0 m pc ls ((Value.ref a :: r).map (mV b0 base))).monitorRoom := rfl
          omega) (kk H locs cells slots hH rfl rfl)
      · cases h
     · cases h
    · cases h
  | invokestatic i =>
    simp only [mHeap, mHeapC, Option.bind_eq_some_iff] at h
    obtain ⟨w, hi, h⟩ := h
    split at h
    · next h6 =>
     split at h
     · next n dp a1 sp a0 r =>
      simp only [Option.bind_eq_some_iff] at h
      obtain ⟨f, hf, g, hg, h⟩ := h
      split at h
      · next hq =>
        cases h
        obtain ⟨q1, q2, q3, q4, q5, q6, q7, q8⟩ := hq
        obtain ⟨h1, h2, h3, h4⟩ := (hOi y i _ hi).2.2.2.2.2.2.2.1 h6
        obtain ⟨k0, rfl, hk0⟩ := mCInts_eq hf
        obtain ⟨k1, rfl, hk1⟩ := mCInts_eq hg
        exact mCopy_sound hexec hb hml hown (hts _ h1) (hts _ h2) (hts _ h3) (hts _ h4) hAr hOa.1.1 hk0 hk1 q1 q2 q3 q4 q5 (Nat.le_trans q7 hRf) (by
          rw [mV_cats]
          have h40 := Nat.le_trans q8 hRl
          have h9 : nativeFrameWords "java/lang/System" "arraycopy" 5 + 11 ≤ 32 := by decide +kernel
          omega) hH (hdg.at (by simp [mLen])) (fun H1 locs1 hH1 => kk H1 locs1 cells slots hH1 (by simp [mPut]) (by rw [show mPut σ (k1 + 1) _ = σ.set k1 _ from rfl, mSl_set hk1 (by simp [mSz])]))
      · cases h
     · cases h
    · split at h
      · next h7 =>
        split at h
        · next y2 x r =>
          split at h
          · next hq =>
            cases h
            obtain ⟨h1, h2, h3, h4⟩ := (hOi y i _ hi).2.2.2.2.2.2.2.2.1 h7
            exact va_mmax hexec hb hml hown (hts _ h1) (hts _ h2) (hts _ h3) (hts _ h4) (Nat.le_trans hq.2.1 hRf) (by
              rw [mV_cats]
              have h30 := Nat.le_trans hq.2.2 hRl
              omega) (by dsimp only at hrc; omega) (by dsimp only at hrs; omega) (hdg.at (by simp [mLen])) (kk H locs cells slots hH rfl rfl)
          · cases h
        · cases h
      · split at h
        · next h8 =>
          split at h
          · next y2 x r =>
            split at h
            · next hq =>
              cases h
              obtain ⟨h1, h2, h3, h4⟩ := (hOi y i _ hi).2.2.2.2.2.2.2.2.2.1 h8
              exact va_mmin hexec hb hml hown (hts _ h1) (hts _ h2) (hts _ h3) (hts _ h4) (Nat.le_trans hq.2.1 hRf) (by
                rw [mV_cats]
                have h30 := Nat.le_trans hq.2.2 hRl
                omega) (by dsimp only at hrc; omega) (by dsimp only at hrs; omega) (hdg.at (by simp [mLen])) (kk H locs cells slots hH rfl rfl)
            · cases h
          · cases h
        · cases h
  | invokevirtual i =>
    simp only [mHeap, mHeapC, Option.bind_eq_some_iff] at h
    obtain ⟨w, hi, h⟩ := h
    split at h
    · next h9 =>
      split at h
      · next a r =>
        simp only [Option.bind_eq_some_iff] at h
        obtain ⟨f, hf, h⟩ := h
        split at h
        · next hq =>
          cases h
          obtain ⟨h1, h2, h3, h4, h5, h6⟩ := (hOi y i _ hi).2.2.2.2.2.2.2.2.2.2 h9
          obtain ⟨k0, rfl, hk0⟩ := mCInts_eq hf
          simp only [List.length_append, List.length_cons, List.length_nil, mSl_push, mSz] at hrc hrs
          exact mClone_sound hexec hb hml hown (hts _ h1) (hts _ h2) (hts _ h3) (hts _ h4) (hts _ h5) (hns _ h6) hAr hOa.1.1 hk0 (Nat.le_trans hq.2.1 hRf) (by
            rw [mV_cats]
            have h30 := Nat.le_trans hq.2.2 hRl
            omega) hH (by omega) (by omega) (hdg.at (by simp [mLen])) (fun H1 hH1 => kk H1 locs (cells + 1) (slots + f.1) hH1 (by simp; omega) (by rw [mSl_push]; simp only [mSz]; omega))
        · cases h
      · cases h
    · cases h
  | checkcast i =>
    simp only [mHeap, mHeapC] at h
    split at h
    · next a r =>
      simp only [Option.bind_eq_some_iff] at h
      obtain ⟨f, hf, h⟩ := h
      split at h
      · next h3 =>
        cases h
        obtain ⟨k0, rfl, hk0⟩ := mCInts_eq hf
        have hl : Cond.classLink (nm y).cls i "[I" ∈ Ts := by
          rcases hOa.2.2.2 y i 3 h3 with ⟨C, q1, q2, -⟩ | ⟨t, q1, q2, -⟩
          · rw [hOa.1.2.2.2] at q1; cases q1
          · rw [hOa.1.2.2.2] at q1; cases q1
            have e : (FieldType.array .int).toString = "[I" := by decide +kernel
            rw [e] at q2; exact q2
        exact va_castA hexec hb hown (hts _ hl) hH.1 k0 (mW_get hk0) (mI_nm hAr hOa.1.1) (hdg.at (by simp [mLen])) (kk H locs cells slots hH rfl rfl)
      · cases h
    · cases h
  | _ => simp [mHeap, mHeapC] at h
end MC1
