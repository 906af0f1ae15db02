/-! CALLS -/
section MK
variable (D : va_G) (cl : List vw_C) (aC : Nat → ClassId) (tyL : List FieldType) (Ts Ns : List Cond) (b0 base L : Nat) (xs : Nat → Int32) (P : MP) (nm : Nat → MethodName) (byt : Nat → ByteArray) (rt : Nat → Option FieldType)
def mPcc (as : List Value) (σ : List MC) : Array Value → State → Prop := va_Pc (as.map (mV b0 base)) (fun U => va_P D cl (mW b0 base aC σ) U.heap ∧ U.heap.size = base + σ.length ∧ va_K D cl (mTys aC tyL) U ∧ mAr aC tyL U ∧ va_X b0 L xs U U.heap ∧ mNs Ns U)
def mQcc (r : Option Value) (σ : List MC) : Array Value → State → Outcome → State → Prop := fun _ st oc t => oc = .returned (r.map (mV b0 base)) ∧ (va_P D cl (mW b0 base aC σ) t.heap ∧ t.heap.size = base + σ.length) ∧ va_F (fun q => base ≤ q) st t
def mWs (y : Nat) : List Cond := Cond.code (nm y) (byt y) (mpInfo P y).1 (rt y) :: Ts
def mRm (y mc ms : Nat) : Room := { frames := (mpInfo P y).2.1, cells := mc, slots := ms, locals := (mpInfo P y).2.2.1 }
def mMet (l : Launch) (y : Nat) (as : List Value) (σ : List MC) (r : Option Value) (τ : List MC) : Prop :=
  Met l (nm y) (mWs Ts P nm byt rt y) (mRm P y (τ.length - σ.length) (mSl τ - mSl σ)) (mPcc D cl aC tyL Ns b0 base L xs as σ) (mQcc D cl aC b0 base r τ) (τ.length - σ.length) (mSl τ - mSl σ) (fun q => base ≤ q)
end MK
section MK2
variable {p : Program} {l : Launch} {e : Env} {R : Room} {s : State} {m : MethodId} {args : Array Value} {below : List Frame} {meth : Method} {c : Code} {H : Heap} {locs : List Loc} {cells slots : Nat} {Q : State → Prop}
variable {cc : ByteArray} {pc : Nat} {ls : Array Slot} {b0 base : Nat} {P : MP} {y : Nat} {D : va_G} {cl : List vw_C} {aC : Nat → ClassId} {tyL : List FieldType} {Ts Ns : List Cond} {σ τ : List MC} {nm : Nat → MethodName} {byt : Nat → ByteArray} {rt : Nat → Option FieldType} {L : Nat} {xs : Nat → Int32}
theorem mPcc_blind (hN : mOKns Ns) {as : List Value} : FrameBlind (mPcc D cl aC tyL Ns b0 base L xs as σ) := by
  intro a U g mk q
  obtain ⟨q0, q1, q2, q3, q4, q5, q6⟩ := q
  exact ⟨q0, q1, q2, va_K.moved (u := U) (U := U.calling g mk a) (Vm.Alike.refl U.vm) q3, mAr.moved (u := U) (U := U.calling g mk a) (Vm.Alike.refl U.vm) q4, va_X.moved (u := U) (U := U.calling g mk a) (Vm.Alike.refl U.vm) q5, mNs.same (s := U) (U := U.calling g mk a) hN rfl q6⟩
theorem mPcc_at (hN : mOKns Ns) {as : List Value} (hH : mHp D cl aC b0 base s σ H locs) (hK : va_K D cl (mTys aC tyL) s) (hAr : mAr aC tyL s) (hX : va_X b0 L xs s s.heap) (hb0 : b0 < base) (hbs : base ≤ s.heap.size) (hns : mNs Ns s) {U : State} (hU : U.heap = H) (hW : s.WarmedH U.vm) : mPcc D cl aC tyL Ns b0 base L xs as σ (as.map (mV b0 base)).toArray U := by
  refine ⟨rfl, by rw [hU]; exact hH.1, by rw [hU]; exact hH.2.1, va_K.moved hW.alike hK, mAr.moved hW.alike hAr, ?_, mNs.warm hN hW hns⟩
  rw [hU]
  refine va_X.moved hW.alike (va_X.kept hX ?_)
  exact hH.2.2.2.1 b0 (Nat.lt_of_lt_of_le hb0 hbs) (Nat.not_le.mpr hb0)
/-- behind a call -/
theorem mBack_sound {mc ms : Nat} {a : Array Value} {r : Option Value} {rest : List Value} {st0 : List Value} (hr : va_Run p l e R s m args below meth c H locs cells slots mc ms (F0 m pc ls st0) (rest.map (mV b0 base)) (mQcc D cl aC b0 base r τ a) (fun q => base ≤ q)) (hH : mHp D cl aC b0 base s σ H locs)
    (kk : ∀ (H1 : Heap) (locs1 : List Loc), mHp D cl aC b0 base s τ H1 locs1 → W p l e R s m args below meth c H1 locs1 (cells + mc) (slots + ms) Q (F0 m (pc + 3) ls ((r.toList ++ rest).map (mV b0 base)))) :
    W p l e R s m args below meth c H locs cells slots Q (F0 m pc ls st0) := by
  intro T hT X
  obtain ⟨v, st₀, t, T', L9, h0, X', hL, e1, e2, ⟨hv, ⟨hP1, hz1⟩, hzF, hkF⟩, stp⟩ := hr T hT X
  have hv : v = r.map (mV b0 base) := by cases hv; rfl
  subst hv
  rw [h0] at hzF hkF
  obtain ⟨hP, hz, hS⟩ := hH
  obtain ⟨t2, a1, b1⟩ := kk T'.heap (locs ++ L9) ⟨by rw [e1]; exact hP1, by rw [e1]; exact hz1, Nat.le_trans hS.1 (by rw [e1]; exact hzF), fun q h1 h2 => by
      rw [e1, hkF q (Nat.lt_of_lt_of_le h1 hS.1) h2]
      exact hS.2.1 q h1 h2, fun q hq => by
      rcases List.mem_append.mp hq with h | h
      · exact hS.2.2 q h
      · exact hL q h⟩ T' rfl X'
  refine ⟨t2, stp t2 ?_, b1⟩
  have hst : (r.toList ++ rest).map (mV b0 base) = (r.map (mV b0 base)).toList ++ rest.map (mV b0 base) := by cases r <;> simp
  rw [hst] at a1
  exact a1
theorem mGood {Ts : List Cond} (hg : ∀ w ∈ Ts, (w.onTables && w.keeps) = true ∨ ∃ ty, w = .arrayClass ty) {w0 : Cond} (h0 : w0 ∈ Ts) : GoodIn Ts (w0 :: Ts) := by
  intro w hw
  rcases List.mem_cons.mp hw with rfl | hw
  · exact ⟨h0, hg _ h0⟩
  · exact ⟨hw, hg _ hw⟩
theorem mTake {st : List Value} {n : Nat} (b0 base : Nat) (h : n ≤ st.length) : st.map (mV b0 base) = (((st.take n).reverse).map (mV b0 base)).reverse ++ (st.drop n).map (mV b0 base) := by
  rw [List.map_reverse, List.reverse_reverse, ← List.map_append, List.take_append_drop]
set_option maxHeartbeats 4000000 in
theorem mCall_sound (hexec : p.tables.exec = Jvm.exec) (hb : c.code = cc) (hml : c.maxLocals = ls.size) (hown : s.vm.findClass (nm y).cls = some m.cls) (hts : ∀ w ∈ Ts, w.before args s = true) (hg : ∀ w ∈ Ts, (w.onTables && w.keeps) = true ∨ ∃ ty, w = .arrayClass ty) (hN : mOKns Ns) (hns : mNs Ns s) (hO : mOK Ts Ns cl tyL P nm byt rt) (hK : va_K D cl (mTys aC tyL) s) (hAr : mAr aC tyL s)
    (hX : va_X b0 L xs s s.heap) (hb0 : b0 < base) (hbs : base ≤ s.heap.size) (hRf : (mpInfo P y).2.1 ≤ R.frames) (hRl : (mpInfo P y).2.2.1 ≤ R.locals)
    {ins : Instr} (hdg : mDec cc pc ins) {st : List Value} {w : Nat × List Value × List Value} (h : mCallOf P y ins st σ = some w) {r : Option Value} (hM : mMet D cl aC tyL Ts Ns b0 base L xs P nm byt rt l w.1 w.2.1 σ r τ) (hle : mLe σ τ) (hH : mHp D cl aC b0 base s σ H locs) (hrc : cells + τ.length ≤ R.cells + σ.length) (hrs : slots + mSl τ ≤ R.slots + mSl σ)
    (kk : ∀ (H1 : Heap) (locs1 : List Loc) (cells1 slots1 : Nat), mHp D cl aC b0 base s τ H1 locs1 → cells1 + σ.length = cells + τ.length → slots1 + mSl σ = slots + mSl τ → W p l e R s m args below meth c H1 locs1 cells1 slots1 Q (F0 m (pc + 3) ls ((r.toList ++ w.2.2).map (mV b0 base)))) :
    W p l e R s m args below meth c H locs cells slots Q (F0 m pc ls (st.map (mV b0 base))) := by
  obtain ⟨hl1, hl2⟩ := hle
  obtain ⟨-, -, -, -, -, -, -, hOi, -⟩ := hO
  have fin := fun H1 locs1 hH1 => kk H1 locs1 (cells + (τ.length - σ.length)) (slots + (mSl τ - mSl σ)) hH1 (by omega) (by omega)
  have hf : cells + (τ.length - σ.length) ≤ R.cells ∧ slots + (mSl τ - mSl σ) ≤ R.slots := ⟨by omega, by omega⟩
  have S : CallFix p m c cc ls.size s args Ts (nm y).cls := ⟨hexec, hb, hml, hown, hts⟩
  have room : ∀ rest : List Value, (rest.map fun v => v.category).sum ≤ 8 → 2 * (F0 m pc ls (st.map (mV b0 base))).monitorRoom + ((rest.map (mV b0 base)).map fun v => v.category).sum ≤ 8 := by
    intro rest hr
    exact lv_room (m := m) (pc := pc) (ls := ls) (rest := st.map (mV b0 base)) (st := rest.map (mV b0 base)) (by rw [mV_cats]; exact hr)
  cases ins with
  | invokevirtual i =>
    simp only [mCallOf, mCallOfC, Option.bind_eq_some_iff] at h
    obtain ⟨q, hq, h⟩ := h
    split at h
    · next h1 =>
      obtain ⟨hcode, hlink, -, -, hv, -⟩ := hOi y i q hq
      obtain ⟨c1, c2, c3, c4, c5⟩ := hcode (by omega)
      obtain ⟨v1, v2, v3, T, N, v4⟩ := hv h1
      have hlk := hlink (Or.inr (Or.inl h1))
      unfold mCallK at h
      split at h
      · next hc =>
        obtain ⟨g1, g2, g3, g4, g5⟩ := hc
        simp only at h
        split at h
        · next a As has =>
          split at h
          · next o ho =>
            split at h
            · next hci =>
              cases h
              obtain ⟨k, rfl, hk⟩ := mObj_eq ho
              have hd9 : (parseMethodDescriptor (nm q.2.1).desc).map (fun d => d.parameters.length) = some As.length := by
                have hlen : q.2.2 = As.length + 1 := by
                  have := congrArg List.length has
                  simp at this
                  omega
                cases hpd : parseMethodDescriptor (nm q.2.1).desc with
                | none => rw [hpd] at v3; cases v3
                | some d => rw [hpd] at v3; simp at v3 ⊢; omega
              rw [has] at hM
              refine mBack_sound (va_runV (As := As.map (mV b0 base)) (b := base + k) (C := (nm q.2.1).cls) S hM ⟨callB_of As.length hts (mGood hg c1) rfl rfl rfl (hts _ c2) (hts _ hlk) ⟨c4, c5, hd9⟩ ⟨Nat.le_trans g3 hRf, Nat.le_trans g4 hRl⟩, hts _ v1, hts _ v2⟩
                ⟨mPcc_blind hN, va_recv hK hH.1 (ci := (mpInfo P q.2.1).2.2.2.2.2) (q0 := k) v4 (by rw [← hci]; exact mW_get hk), fun U hU hW => mPcc_at hN hH hK hAr hX hb0 hbs hns hU hW⟩ rfl (by simp) rfl (by
                  show st.map (mV b0 base) = _
                  rw [mTake b0 base g1, has]
                  simp [mV, mAd]) (room _ g2) (hdg.at (by simp [mLen])) hf) hH fin
            · cases h
          · cases h
        · cases h
      · cases h
    · cases h
  | invokestatic i =>
    simp only [mCallOf, mCallOfC, Option.bind_eq_some_iff] at h
    obtain ⟨q, hq, h⟩ := h
    split at h
    · next h1 =>
      obtain ⟨hcode, hlink, hnest, hstat, -⟩ := hOi y i q hq
      obtain ⟨c1, c2, c3, c4, c5⟩ := hcode (by omega)
      obtain ⟨v1, v2⟩ := hstat h1
      unfold mCallK at h
      split at h
      · next hc =>
        obtain ⟨g1, g2, g3, g4, g5⟩ := hc
        have hw : w = (q.2.1, (st.take q.2.2).reverse, st.drop q.2.2) := by
          rcases h1 with h1 | h1 <;> (rw [h1] at h; simp at h; exact h.symm)
        subst hw
        have hlen : ((st.take q.2.2).reverse.map (mV b0 base)).length = q.2.2 := by simp; omega
        rcases h1 with h1 | h1
        · exact mBack_sound (va_runS (As := (st.take q.2.2).reverse.map (mV b0 base)) S hM ⟨callB_of q.2.2 hts (mGood hg c1) rfl rfl rfl (hts _ c2) (hts _ (hlink (Or.inl h1))) ⟨c4, c5, v2⟩ ⟨Nat.le_trans g3 hRf, Nat.le_trans g4 hRl⟩, hts _ v1⟩
            ⟨mPcc_blind hN, fun U hU hW => mPcc_at hN hH hK hAr hX hb0 hbs hns hU hW⟩ rfl hlen rfl (mTake b0 base g1) (room _ g2) (hdg.at (by simp [mLen])) hf) hH fin
        · obtain ⟨host, hh⟩ := hnest (Or.inr h1)
          exact mBack_sound (va_runSN (As := (st.take q.2.2).reverse.map (mV b0 base)) S hM ⟨va_cnB q.2.2 hts (mGood hg c1) rfl rfl rfl (hns _ hh) (hts _ c2) ⟨c4, c5, v2⟩ ⟨Nat.le_trans g3 hRf, Nat.le_trans g4 hRl⟩, hts _ v1, trivial⟩
            ⟨mPcc_blind hN, fun U hU hW => mPcc_at hN hH hK hAr hX hb0 hbs hns hU hW⟩ rfl hlen rfl (mTake b0 base g1) (room _ g2) (hdg.at (by simp [mLen])) hf) hH fin
      · cases h
    · cases h
  | invokespecial i =>
    simp only [mCallOf, mCallOfC, Option.bind_eq_some_iff] at h
    obtain ⟨q, hq, h⟩ := h
    split at h
    · next h1 =>
      obtain ⟨hcode, hlink, hnest, -, -, hsp, -⟩ := hOi y i q hq
      obtain ⟨c1, c2, c3, c4, c5⟩ := hcode (by omega)
      obtain ⟨v1, v2, v3, v4⟩ := hsp h1
      rw [v3] at c1
      unfold mCallK at h
      split at h
      · next hc =>
        obtain ⟨g1, g2, g3, g4, g5⟩ := hc
        obtain ⟨a, As, has, hw⟩ : ∃ a As, (st.take q.2.2).reverse = .ref a :: As ∧ w = (q.2.1, (st.take q.2.2).reverse, st.drop q.2.2) := by
          rcases h1 with h1 | h1 <;>
          · rw [h1] at h
            simp only at h
            split at h
            · next a As has => exact ⟨a, As, has, (Option.some.inj h).symm⟩
            · cases h
        subst hw
        have hd9 : (parseMethodDescriptor (nm q.2.1).desc).map (fun d => d.parameters.length) = some As.length := by
          have hlen : q.2.2 = As.length + 1 := by
            have := congrArg List.length has
            simp at this
            omega
          cases hpd : parseMethodDescriptor (nm q.2.1).desc with
          | none => rw [hpd] at v4; cases v4
          | some d => rw [hpd] at v4; simp at v4 ⊢; omega
        have hst : st.map (mV b0 base) = (As.map (mV b0 base)).reverse ++ .ref (mAd b0 base a) :: (st.drop q.2.2).map (mV b0 base) := by
          rw [mTake b0 base g1, has]
          simp [mV]
        have hM2 := hM
        unfold mMet mWs at hM2
        dsimp only at hM2
        rw [has, v3] at hM2
        rcases h1 with h1 | h1
        · exact mBack_sound (va_runI (As := As.map (mV b0 base)) (b := mAd b0 base a) S hM2 ⟨callB_of As.length hts (mGood hg c1) rfl rfl rfl (hts _ c2) (hts _ (hlink (Or.inr (Or.inr h1)))) ⟨c4, c5, hd9⟩ ⟨Nat.le_trans g3 hRf, Nat.le_trans g4 hRl⟩, v2, hts _ v1⟩
            ⟨mPcc_blind hN, fun U hU hW => mPcc_at hN hH hK hAr hX hb0 hbs hns hU hW⟩ rfl (by simp) rfl hst (room _ g2) (hdg.at (by simp [mLen])) hf) hH fin
        · obtain ⟨host, hh⟩ := hnest (Or.inl h1)
          exact mBack_sound (va_runIN (As := As.map (mV b0 base)) (b := mAd b0 base a) S hM2 ⟨va_cnB As.length hts (mGood hg c1) rfl rfl rfl (hns _ hh) (hts _ c2) ⟨c4, c5, hd9⟩ ⟨Nat.le_trans g3 hRf, Nat.le_trans g4 hRl⟩, v2, hts _ v1⟩
            ⟨mPcc_blind hN, fun U hU hW => mPcc_at hN hH hK hAr hX hb0 hbs hns hU hW⟩ rfl (by simp) rfl hst (room _ g2) (hdg.at (by simp [mLen])) hf) hH fin
      · cases h
    · cases h
  | _ => simp [mCallOf, mCallOfC] at h
end MK2
