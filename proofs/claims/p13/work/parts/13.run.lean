/-! A RUN OF THE SMALL MACHINE IS A RUN OF THE MACHINE -/
theorem mCallK_len {P : MP} {y k y2 n : Nat} {st : List Value} {σ : List MC} {w : Nat × List Value × List Value} (h : mCallK P y k y2 n st σ = some w) : (lg_sl w.2.1).length ≤ (mpInfo P w.1).1 := by
  unfold mCallK at h
  split at h
  · next hc =>
    have key : w = (y2, (st.take n).reverse, st.drop n) := by
      split at h
      · exact (Option.some.inj h).symm
      · exact (Option.some.inj h).symm
      · split at h
        · split at h
          · split at h
            · exact (Option.some.inj h).symm
            · cases h
          · cases h
        · cases h
      · split at h
        · exact (Option.some.inj h).symm
        · cases h
      · split at h
        · exact (Option.some.inj h).symm
        · cases h
      · cases h
    rw [key]
    exact hc.2.2.2.2
  · cases h
theorem mCallOf_len {P : MP} {y : Nat} {ins : Instr} {st : List Value} {σ : List MC} {w : Nat × List Value × List Value} (h : mCallOf P y ins st σ = some w) : (lg_sl w.2.1).length ≤ (mpInfo P w.1).1 := by
  cases ins with
  | invokevirtual i =>
    simp only [mCallOf, mCallOfC, Option.bind_eq_some_iff] at h
    obtain ⟨q, hq, h⟩ := h
    split at h
    · exact mCallK_len h
    · cases h
  | invokestatic i =>
    simp only [mCallOf, mCallOfC, Option.bind_eq_some_iff] at h
    obtain ⟨q, hq, h⟩ := h
    split at h
    · exact mCallK_len h
    · cases h
  | invokespecial i =>
    simp only [mCallOf, mCallOfC, Option.bind_eq_some_iff] at h
    obtain ⟨q, hq, h⟩ := h
    split at h
    · exact mCallK_len h
    · cases h
  | _ => simp [mCallOf, mCallOfC] at h
section MRu
variable {p : Program} {l : Launch} {e : Env} {R : Room} {s : State} {m : MethodId} {args : Array Value} {below : List Frame} {meth : Method} {c : Code} {Q : State → Prop}
variable {cc : ByteArray} {b0 base : Nat} {P : MP} {y : Nat} {D : va_G} {cl : List vw_C} {aC : Nat → ClassId} {tyL : List FieldType} {Ts Ns : List Cond} {nm : Nat → MethodName} {byt : Nat → ByteArray} {rt : Nat → Option FieldType} {L : Nat} {xs : Nat → Int32}
theorem mRun_sound (hexec : p.tables.exec = Jvm.exec) (hb : c.code = byt y) (hml : c.maxLocals = (mpInfo P y).1) (hown : s.vm.findClass (nm y).cls = some m.cls) (hts : ∀ w ∈ Ts, w.before args s = true) (hg : ∀ w ∈ Ts, (w.onTables && w.keeps) = true ∨ ∃ ty, w = .arrayClass ty) (hN : mOKns Ns) (hns : mNs Ns s) (hO : mOK Ts Ns cl tyL P nm byt rt) (hK : va_K D cl (mTys aC tyL) s) (hAr : mAr aC tyL s)
    (hX : va_X b0 L xs s s.heap) (hb0 : b0 < base) (hbs : base ≤ s.heap.size) (hin : (mpInfo P y).2.2.2.2.1 = true → meth.name = "<init>") (hRf : (mpInfo P y).2.1 ≤ R.frames) (hRl : (mpInfo P y).2.2.1 ≤ R.locals)
    {call : Nat → List Value → List MC → Option MRes} (hmono : ∀ y as σ r, call y as σ = some r → mLe σ r.2) (hcall : ∀ y as σ r, call y as σ = some r → (lg_sl as).length ≤ (mpInfo P y).1 → mMet D cl aC tyL Ts Ns b0 base L xs P nm byt rt l y as σ r.1 r.2) :
    ∀ (n pc : Nat) (lv : MLv) (st : List Value) (σ : List MC) (r : MRes), mRun P L xs call y n pc lv st σ = some r → ∀ (H : Heap) (locs : List Loc) (cells slots : Nat) (ls : Array Slot), mHp D cl aC b0 base s σ H locs → lv_has ls (mpInfo P y).1 (mLvT b0 base lv) →
      cells + r.2.length ≤ R.cells + σ.length → slots + mSl r.2 ≤ R.slots + mSl σ →
      (∀ (pc1 : Nat) (ls1 : Array Slot) (st1 : List Value) (H1 : Heap) (locs1 : List Loc) (cells1 slots1 : Nat) (ins : Instr), mDec (byt y) pc1 ins → mEnd P y ins st1 = some r.1 → mHp D cl aC b0 base s r.2 H1 locs1 → cells1 + σ.length = cells + r.2.length → slots1 + mSl σ = slots + mSl r.2 → W p l e R s m args below meth c H1 locs1 cells1 slots1 Q (F0 m pc1 ls1 (st1.map (mV b0 base)))) →
      W p l e R s m args below meth c H locs cells slots Q (F0 m pc ls (st.map (mV b0 base))) := by
  intro n
  induction n with
  | zero => intro pc lv st σ r h; simp [mRun] at h
  | succ n ih =>
    intro pc lv st σ r h H locs cells slots ls hH hl hrc hrs kk
    have hsz : c.maxLocals = ls.size := by rw [hml]; exact hl.1.symm
    rw [mRun] at h
    split at h
    · cases h
    · next ins hins =>
      have hdg : mDec (byt y) pc ins := hO.1 y pc ins hins
      split at h
      · next r0 hr0 =>
        cases h
        exact kk pc ls st H locs cells slots ins hdg hr0 hH rfl rfl
      · split at h
        · next w hw =>
          split at h
          · next r1 hr1 =>
            have hm1 := hmono _ _ _ _ hr1
            have hm2 := mRun_mono hmono _ _ _ _ _ _ h
            obtain ⟨l1, l2⟩ := hm1
            obtain ⟨l3, l4⟩ := hm2
            refine mCall_sound hexec hb hsz hown hts hg hN hns hO hK hAr hX hb0 hbs hRf hRl hdg hw (hcall _ _ _ _ hr1 (mCallOf_len hw)) ⟨l1, l2⟩ hH (by omega) (by omega) (fun H1 locs1 cells1 slots1 hH1 hc1 hs1 => ?_)
            refine ih _ _ _ _ _ h H1 locs1 cells1 slots1 ls hH1 hl (by omega) (by omega) (fun pc2 ls2 st2 H2 locs2 cells2 slots2 ins2 d2 e2 hH2 hc2 hs2 => ?_)
            exact kk pc2 ls2 st2 H2 locs2 cells2 slots2 ins2 d2 e2 hH2 (by omega) (by omega)
          · cases h
        · split at h
          · next q hq =>
            have hm1 := mStep_mono hq
            have hm2 := mRun_mono hmono _ _ _ _ _ _ h
            obtain ⟨l1, l2⟩ := hm1
            obtain ⟨l3, l4⟩ := hm2
            unfold mStep at hq
            split at hq
            · next q0 hq0 =>
              cases hq
              refine mLocal_sound hexec hb hown (fun i v hv => hts _ (hO.2.1.1 y i v hv)) (fun i v hv => hts _ (hO.2.1.2 y i v hv)) hdg hq0 hl (fun ls1 hl1 => ?_)
              exact ih _ _ _ _ _ h H locs cells slots ls1 hH hl1 hrc hrs kk
            · simp only [Option.map_eq_some_iff] at hq
              obtain ⟨q0, hq0, rfl⟩ := hq
              refine mHeap_sound hexec hb hsz hown hts hns hO hK hAr hX hb0 hbs hin hRf hRl hdg hq0 hH (by dsimp only at l3; omega) (by dsimp only at l4; omega) (fun H1 locs1 cells1 slots1 hH1 hc1 hs1 => ?_)
              refine ih _ _ _ _ _ h H1 locs1 cells1 slots1 ls hH1 hl (by dsimp only at *; omega) (by dsimp only at *; omega) (fun pc2 ls2 st2 H2 locs2 cells2 slots2 ins2 d2 e2 hH2 hc2 hs2 => ?_)
              exact kk pc2 ls2 st2 H2 locs2 cells2 slots2 ins2 d2 e2 hH2 (by dsimp only at *; omega) (by dsimp only at *; omega)
          · cases h
theorem mEnd_sound (hexec : p.tables.exec = Jvm.exec) (hb : c.code = cc) (hlocks : meth.locks = false) (hr : meth.sig.returnType = rt y) (hO : mOKret P nm rt) {pc : Nat} {ls : Array Slot} {st : List Value} {H : Heap} {locs : List Loc} {cells slots : Nat} {σ : List MC} {ins : Instr} (hdg : mDec cc pc ins) {r : Option Value} (h : mEnd P y ins st = some r) (hH : mHp D cl aC b0 base s σ H locs) :
    W p l e R s m args below meth c H locs cells slots (MQ below (mQcc D cl aC b0 base r σ) args s cells slots (fun q => base ≤ q)) (F0 m pc ls (st.map (mV b0 base))) := by
  obtain ⟨o0, o1, o2, o3, o4, -⟩ := hO y
  obtain ⟨hP, hz, hS⟩ := hH
  have hw : ∀ t : State, t.heap = H → ((va_P D cl (mW b0 base aC σ) t.heap ∧ t.heap.size = base + σ.length) ∧ va_F (fun q => base ≤ q) s t) := fun t ht => ⟨⟨by rw [ht]; exact hP, by rw [ht]; exact hz⟩, hS.F ht⟩
  cases ins with
  | ireturn =>
    simp only [mEnd, mEndC] at h
    split at h
    · next x =>
      split at h
      · next hq =>
        cases h
        rcases hq with hq | ⟨hq, hx⟩
        · exact W.iret hexec hb (hr.trans (o1 hq)) (fun t ht hW => ⟨rfl, hw t ht⟩) hS.2.2 (hdg.at (by simp [mLen])) hlocks
        · exact W.zret (ty := .boolean) hexec hb (hr.trans (o4 hq)) (by simp [narrow, hx]) (fun t ht hW => ⟨rfl, hw t ht⟩) hS.2.2 (hdg.at (by simp [mLen])) hlocks
      · cases h
    · cases h
  | lreturn =>
    simp only [mEnd, mEndC] at h
    split at h
    · next x =>
      split at h
      · next hq =>
        cases h
        exact W.lret hexec hb (hr.trans (o2 hq)) (fun t ht hW => ⟨rfl, hw t ht⟩) hS.2.2 (hdg.at (by simp [mLen])) hlocks
      · cases h
    · cases h
  | areturn =>
    simp only [mEnd, mEndC] at h
    split at h
    · next x =>
      split at h
      · next hq =>
        cases h
        obtain ⟨t, ht, ht2⟩ := o3 hq
        exact W.aret hexec hb (hr.trans ht) ht2 (Or.inr ⟨_, rfl⟩) (fun t ht hW => ⟨rfl, hw t ht⟩) hS.2.2 (hdg.at (by simp [mLen])) hlocks
      · cases h
    · split at h
      · next hq =>
        cases h
        obtain ⟨t, ht, ht2⟩ := o3 hq
        exact W.aret hexec hb (hr.trans ht) ht2 (Or.inl rfl) (fun t ht hW => ⟨rfl, hw t ht⟩) hS.2.2 (hdg.at (by simp [mLen])) hlocks
      · cases h
    · cases h
  | return_ =>
    simp only [mEnd, mEndC] at h
    split at h
    · split at h
      · next hq =>
        cases h
        exact W.vret hexec hb (hr.trans (o0 hq)) (fun t ht hW => ⟨rfl, hw t ht⟩) hS.2.2 (hdg.at (by simp [mLen])) hlocks
      · cases h
    · cases h
  | _ => simp [mEnd, mEndC] at h
/-- what the small machine does, the method does -/
theorem mExec_sound (hg : ∀ w ∈ Ts, (w.onTables && w.keeps) = true ∨ ∃ ty, w = .arrayClass ty) (hN : mOKns Ns) (hO : mOK Ts Ns cl tyL P nm byt rt) (hpl : ∀ y, plainName (nm y).cls = true) (hb0 : b0 < base) {N : Nat} :
    ∀ (d y : Nat) (as : List Value) (σ : List MC) (r : MRes), mExec P L xs N d y as σ = some r → (lg_sl as).length ≤ (mpInfo P y).1 → mMet D cl aC tyL Ts Ns b0 base L xs P nm byt rt l y as σ r.1 r.2 := by
  intro d
  induction d with
  | zero => intro y as σ r h; simp [mExec] at h
  | succ d ih =>
    intro y as σ r h hlen
    rw [mExec] at h
    refine Met.ofW (cc := byt y) (maxL := (mpInfo P y).1) (ret := rt y) (hpl y) rfl ?_
    intro p e s m args below meth c s₁ B hml hv
    obtain ⟨rfl, hP, hz, hK, hAr, hX, hns⟩ := hv
    have hts : ∀ w ∈ Ts, w.before _ s = true := fun w hw => atoms_spec (ws := mWs Ts P nm byt rt y) B.pre w (List.mem_cons_of_mem _ hw)
    have hown : s.vm.findClass (nm y).cls = some m.cls := findClass_of_methodNamed B.named
    have hname : meth.name = (nm y).name := (name_of_methodNamed B.named B.method).1
    have hbs : base ≤ s.heap.size := by omega
    have hH : mHp D cl aC b0 base s σ s.heap [] := ⟨hP, hz, va_S.rf⟩
    have hl := lv_entry (as.map (mV b0 base)) (n := (mpInfo P y).1) (by rw [mSl_T]; exact hlen)
    rw [lg_entry_eq]
    generalize (lg_sl (as.map (mV b0 base)) ++ List.replicate ((mpInfo P y).1 - (lg_sl (as.map (mV b0 base))).length) Slot.unset).toArray = ls at hl ⊢
    rw [mArgs_T] at hl
    have hmo := mExec_mono (P := P) (L := L) (xs := xs) (N := N) d
    obtain ⟨m1, m2⟩ := mRun_mono hmo _ _ _ _ _ _ h
    refine mRun_sound (Ts := Ts) (call := mExec P L xs N d) B.exec B.bytes hml hown hts hg hN hns hO hK hAr hX hb0 hbs (fun hi => hname.trans ((hO.2.2.2.2.2.2.2.2 y).2.2.2.2.2 hi)) (Nat.le_refl _) (Nat.le_refl _) hmo (fun y as σ r h hl => ih y as σ r h hl) N 0 (lv_args 0 as) [] σ r h s.heap [] 0 0 ls hH hl (by show 0 + _ ≤ (r.2.length - σ.length) + _; omega) (by show 0 + _ ≤ (mSl r.2 - mSl σ) + _; omega) (fun pc1 ls1 st1 H1 locs1 cells1 slots1 ins d1 e1 hH1 hc1 hs1 => ?_)
    have k1 : cells1 = r.2.length - σ.length := by omega
    have k2 : slots1 = mSl r.2 - mSl σ := by omega
    subst k1; subst k2
    exact mEnd_sound B.exec B.bytes B.notSynchronized B.returns hO.2.2.2.2.2.2.2.2 d1 e1 hH1
end MRu
