/-! THE SMALL MACHINE'S STEPS OVER LOCALS AND THE STACK ARE THE MACHINE'S -/
def mLen (ins : Instr) : Nat := match ins with
  | .aload _ | .iload _ | .lload _ | .istore _ | .astore _ | .lstore _ | .bipush _ | .ldc _ | .newarray _ => 2
  | .sipush _ | .ldc2_w _ | .iinc _ _ | .goto _ | .ifCond _ _ | .if_icmp _ _ | .ifnull _ | .ifnonnull _ | .getfield _ | .putfield _ | .anewarray _ | .new _ | .invokevirtual _ | .invokestatic _ | .invokespecial _ | .checkcast _ => 3
  | .tableswitch _ _ _ _ | .lookupswitch _ _ => 0
  | _ => 1
def mDec (cc : ByteArray) (pc : Nat) (ins : Instr) : Prop := ∃ len, decode cc pc = .ok (ins, len) ∧ (mLen ins = 0 ∨ len = mLen ins)
theorem mDec.at {cc : ByteArray} {pc : Nat} {ins : Instr} (h : mDec cc pc ins) (hl : ¬ mLen ins = 0) : decode cc pc = .ok (ins, mLen ins) := by
  obtain ⟨len, h1, h2⟩ := h
  rcases h2 with h2 | h2
  · exact absurd h2 hl
  · rw [← h2]; exact h1
section ML
variable {p : Program} {l : Launch} {e : Env} {R : Room} {s : State} {m : MethodId} {args : Array Value} {below : List Frame} {meth : Method} {c : Code} {H : Heap} {locs : List Loc} {cells slots : Nat} {Q : State → Prop}
variable {cc : ByteArray} {pc : Nat} {ls : Array Slot} {b0 base : Nat} {own : String} {P : MP} {y : Nat}
theorem mCond_sound (hexec : p.tables.exec = Jvm.exec) (hb : c.code = cc) {k : Jvm.ClassFile.Cond} {x : Int32} {off : Int} {tgt : Nat} {rest : List Value} (hdg : decode cc pc = .ok (.ifCond k off, 3)) (h1 : mTo pc off = some tgt)
    (kk : W p l e R s m args below meth c H locs cells slots Q (F0 m (if mIf k x 0 = true then tgt else pc + 3) ls rest)) :
    W p l e R s m args below meth c H locs cells slots Q (F0 m pc ls (.int x :: rest)) := by
  have ht := mTo_eq h1
  cases k with
  | eq => exact lv_if_eq hexec hb hdg ht (fun q => by simpa [mIf, q] using kk) (fun q => by simpa [mIf, q] using kk)
  | ne => exact lv_if_ne hexec hb hdg ht (fun q => by simpa [mIf, q] using kk) (fun q => by simpa [mIf, q] using kk)
  | lt => exact lv_if_lt hexec hb hdg ht (fun q => by simpa [mIf, q] using kk) (fun q => by simpa [mIf, q] using kk)
  | ge => exact lv_if_ge hexec hb hdg ht (fun q => by simpa [mIf, q] using kk) (fun q => by simpa [mIf, q] using kk)
  | gt => exact lv_if_gt hexec hb hdg ht (fun q => by simpa [mIf, q] using kk) (fun q => by simpa [mIf, q] using kk)
  | le => exact lv_if_le hexec hb hdg ht (fun q => by simpa [mIf, q] using kk) (fun q => by simpa [mIf, q] using kk)
theorem mIcmp_sound (hexec : p.tables.exec = Jvm.exec) (hb : c.code = cc) {k : Jvm.ClassFile.Cond} {x z : Int32} {off : Int} {tgt : Nat} {rest : List Value} (hdg : decode cc pc = .ok (.if_icmp k off, 3)) (h1 : mTo pc off = some tgt)
    (kk : W p l e R s m args below meth c H locs cells slots Q (F0 m (if mIf k x z = true then tgt else pc + 3) ls rest)) :
    W p l e R s m args below meth c H locs cells slots Q (F0 m pc ls (.int z :: .int x :: rest)) := by
  have ht := mTo_eq h1
  cases k with
  | eq => exact lv_icmp_eq hexec hb hdg ht (fun q => by simpa [mIf, q] using kk) (fun q => by simpa [mIf, q] using kk)
  | ne => exact lv_icmp_ne hexec hb hdg ht (fun q => by simpa [mIf, q] using kk) (fun q => by simpa [mIf, q] using kk)
  | lt => exact lv_icmp_lt hexec hb hdg ht (fun q => by simpa [mIf, q] using kk) (fun q => by simpa [mIf, q] using kk)
  | ge => exact lv_icmp_ge hexec hb hdg ht (fun q => by simpa [mIf, q] using kk) (fun q => by simpa [mIf, q] using kk)
  | gt => exact lv_icmp_gt hexec hb hdg ht (fun q => by simpa [mIf, q] using kk) (fun q => by simpa [mIf, q] using kk)
  | le => exact lv_icmp_le hexec hb hdg ht (fun q => by simpa [mIf, q] using kk) (fun q => by simpa [mIf, q] using kk)
set_option maxHeartbeats 4000000 in
theorem mLocal_sound (hexec : p.tables.exec = Jvm.exec) (hb : c.code = cc) (hown : s.vm.findClass own = some m.cls)
    (hldc : ∀ i v, mpLdc P y i = some v → (Jvm.Cond.constant own i v).before args s = true) (hldc2 : ∀ i v, mpLdc2 P y i = some v → (Jvm.Cond.constantLong own i v).before args s = true)
    {ins : Instr} (hdg : mDec cc pc ins) {lv : MLv} {st : List Value} {q : Nat × MLv × List Value} (h : mLocal y P ins pc lv st = some q) (hl : lv_has ls (mpInfo P y).1 (mLvT b0 base lv))
    (kk : ∀ ls' : Array Slot, lv_has ls' (mpInfo P y).1 (mLvT b0 base q.2.1) → W p l e R s m args below meth c H locs cells slots Q (F0 m q.1 ls' (q.2.2.map (mV b0 base)))) :
    W p l e R s m args below meth c H locs cells slots Q (F0 m pc ls (st.map (mV b0 base))) := by
  cases ins with
  | aload_n k =>
    simp only [mLocal, mLocalC, Option.map_eq_some_iff] at h
    obtain ⟨v, hv, rfl⟩ := h
    have h2 := mLook_at hl (mLookA_eq hv)
    have k2 := kk ls hl
    rw [mV_rf] at h2
    simp only [List.map_cons, mV_rf] at k2
    cases v with
    | none => exact lv_aload_nN hexec hb (hdg.at (by simp [mLen])) rfl h2 k2
    | some x => exact lv_aload_n hexec hb (hdg.at (by simp [mLen])) rfl h2 k2
  | aload i =>
    simp only [mLocal, mLocalC, Option.map_eq_some_iff] at h
    obtain ⟨v, hv, rfl⟩ := h
    have h2 := mLook_at hl (mLookA_eq hv)
    have k2 := kk ls hl
    rw [mV_rf] at h2
    simp only [List.map_cons, mV_rf] at k2
    cases v with
    | none => exact lv_aloadN hexec hb (hdg.at (by simp [mLen])) h2 k2
    | some x => exact lv_aload hexec hb (hdg.at (by simp [mLen])) h2 k2
  | iload_n k =>
    simp only [mLocal, mLocalC, Option.map_eq_some_iff] at h
    obtain ⟨v, hv, rfl⟩ := h
    exact lv_iload_n hexec hb (hdg.at (by simp [mLen])) rfl (mLook_at hl (mLookI_eq hv)) (kk ls hl)
  | iload i =>
    simp only [mLocal, mLocalC, Option.map_eq_some_iff] at h
    obtain ⟨v, hv, rfl⟩ := h
    exact lv_iload hexec hb (hdg.at (by simp [mLen])) (mLook_at hl (mLookI_eq hv)) (kk ls hl)
  | lload_n k =>
    simp only [mLocal, mLocalC, Option.map_eq_some_iff] at h
    obtain ⟨v, hv, rfl⟩ := h
    exact lv_lload_n hexec hb (hdg.at (by simp [mLen])) rfl (mLook_at hl (mLookL_eq hv)) (kk ls hl)
  | lload i =>
    simp only [mLocal, mLocalC, Option.map_eq_some_iff] at h
    obtain ⟨v, hv, rfl⟩ := h
    exact lv_lload hexec hb (hdg.at (by simp [mLen])) (mLook_at hl (mLookL_eq hv)) (kk ls hl)
  | iconst n =>
    cases h
    exact lv_iconst hexec hb (hdg.at (by simp [mLen])) rfl (kk ls hl)
  | bipush n =>
    cases h
    exact lv_bipush hexec hb (hdg.at (by simp [mLen])) rfl (kk ls hl)
  | sipush n =>
    cases h
    exact lv_sipush hexec hb (hdg.at (by simp [mLen])) rfl (kk ls hl)
  | lconst n =>
    cases h
    exact lv_lconst hexec hb (hdg.at (by simp [mLen])) rfl (kk ls hl)
  | aconst_null =>
    cases h
    exact lv_null hexec hb (hdg.at (by simp [mLen])) (kk ls hl)
  | ldc i =>
    simp only [mLocal, mLocalC, Option.map_eq_some_iff] at h
    obtain ⟨v, hv, rfl⟩ := h
    exact lv_ldc hexec hb hown (hldc i v hv) (hdg.at (by simp [mLen])) (kk ls hl)
  | ldc2_w i =>
    simp only [mLocal, mLocalC, Option.map_eq_some_iff] at h
    obtain ⟨v, hv, rfl⟩ := h
    exact lv_ldc2 hexec hb hown (hldc2 i v hv) (hdg.at (by simp [mLen])) (kk ls hl)
  | istore_n k =>
    simp only [mLocal, mLocalC, Option.bind_eq_some_iff] at h
    obtain ⟨w, hw, h⟩ := h
    split at h
    · next hn =>
      cases h
      rw [mI1_eq hw]
      exact lv_istore_n hexec hb (hdg.at (by simp [mLen])) rfl hl hn (mSt1_T b0 base lv k (.int w.1)) (fun ls' hl' => kk ls' hl')
    · cases h
  | istore i =>
    simp only [mLocal, mLocalC, Option.bind_eq_some_iff] at h
    obtain ⟨w, hw, h⟩ := h
    split at h
    · next hn =>
      cases h
      rw [mI1_eq hw]
      exact lv_istore hexec hb (hdg.at (by simp [mLen])) hl hn (mSt1_T b0 base lv i (.int w.1)) (fun ls' hl' => kk ls' hl')
    · cases h
  | lstore_n k =>
    simp only [mLocal, mLocalC, Option.bind_eq_some_iff] at h
    obtain ⟨w, hw, h⟩ := h
    split at h
    · next hn =>
      cases h
      rw [mL1_eq hw]
      exact lv_lstore_n hexec hb (hdg.at (by simp [mLen])) rfl hl hn (mSt2_T b0 base lv k (.long w.1)) (fun ls' hl' => kk ls' hl')
    · cases h
  | lstore i =>
    simp only [mLocal, mLocalC, Option.bind_eq_some_iff] at h
    obtain ⟨w, hw, h⟩ := h
    split at h
    · next hn =>
      cases h
      rw [mL1_eq hw]
      exact lv_lstore hexec hb (hdg.at (by simp [mLen])) hl hn (mSt2_T b0 base lv i (.long w.1)) (fun ls' hl' => kk ls' hl')
    · cases h
  | astore_n k =>
    simp only [mLocal, mLocalC, Option.bind_eq_some_iff] at h
    obtain ⟨w, hw, h⟩ := h
    split at h
    · next hn =>
      cases h
      rw [mA1_eq hw]
      obtain ⟨w1, w2⟩ := w
      have k2 := mSt1_T b0 base lv k (va_rf w1)
      cases w1 with
      | none => exact lv_astore_nN hexec hb (hdg.at (by simp [mLen])) rfl hl hn k2 (fun ls' hl' => kk ls' hl')
      | some x => exact lv_astore_n hexec hb (hdg.at (by simp [mLen])) rfl hl hn k2 (fun ls' hl' => kk ls' hl')
    · cases h
  | astore i =>
    simp only [mLocal, mLocalC, Option.bind_eq_some_iff] at h
    obtain ⟨w, hw, h⟩ := h
    split at h
    · next hn =>
      cases h
      rw [mA1_eq hw]
      obtain ⟨w1, w2⟩ := w
      have k2 := mSt1_T b0 base lv i (va_rf w1)
      cases w1 with
      | none => exact lv_astoreN hexec hb (hdg.at (by simp [mLen])) hl hn k2 (fun ls' hl' => kk ls' hl')
      | some x => exact lv_astore hexec hb (hdg.at (by simp [mLen])) hl hn k2 (fun ls' hl' => kk ls' hl')
    · cases h
  | iinc i n =>
    simp only [mLocal, mLocalC, Option.bind_eq_some_iff] at h
    obtain ⟨w, hw, h⟩ := h
    split at h
    · next hn =>
      cases h
      obtain ⟨k, hk⟩ := mLook_pos b0 base (mLookI_eq hw)
      exact lv_iinc hexec hb (hdg.at (by simp [mLen])) hl hk rfl hn (mSt1_T b0 base lv i (.int (w + Int32.ofInt n))) (fun ls' hl' => kk ls' hl')
    · cases h
  | iadd =>
    simp only [mLocal, mLocalC, Option.map_eq_some_iff] at h
    obtain ⟨w, hw, rfl⟩ := h
    rw [mI2_eq hw]
    exact lv_iadd hexec hb (hdg.at (by simp [mLen])) (kk ls hl)
  | isub =>
    simp only [mLocal, mLocalC, Option.map_eq_some_iff] at h
    obtain ⟨w, hw, rfl⟩ := h
    rw [mI2_eq hw]
    exact lv_isub hexec hb (hdg.at (by simp [mLen])) (kk ls hl)
  | imul =>
    simp only [mLocal, mLocalC, Option.map_eq_some_iff] at h
    obtain ⟨w, hw, rfl⟩ := h
    rw [mI2_eq hw]
    exact lv_imul hexec hb (hdg.at (by simp [mLen])) (kk ls hl)
  | iand =>
    simp only [mLocal, mLocalC, Option.map_eq_some_iff] at h
    obtain ⟨w, hw, rfl⟩ := h
    rw [mI2_eq hw]
    exact lv_iand hexec hb (hdg.at (by simp [mLen])) (kk ls hl)
  | ior =>
    simp only [mLocal, mLocalC, Option.map_eq_some_iff] at h
    obtain ⟨w, hw, rfl⟩ := h
    rw [mI2_eq hw]
    exact lv_ior hexec hb (hdg.at (by simp [mLen])) (kk ls hl)
  | ishl =>
    simp only [mLocal, mLocalC, Option.map_eq_some_iff] at h
    obtain ⟨w, hw, rfl⟩ := h
    rw [mI2_eq hw]
    exact lv_ishl hexec hb (hdg.at (by simp [mLen])) (kk ls hl)
  | ishr =>
    simp only [mLocal, mLocalC, Option.map_eq_some_iff] at h
    obtain ⟨w, hw, rfl⟩ := h
    rw [mI2_eq hw]
    exact lv_ishr hexec hb (hdg.at (by simp [mLen])) (kk ls hl)
  | ladd =>
    simp only [mLocal, mLocalC, Option.map_eq_some_iff] at h
    obtain ⟨w, hw, rfl⟩ := h
    rw [mL2_eq hw]
    exact lv_ladd hexec hb (hdg.at (by simp [mLen])) (kk ls hl)
  | lsub =>
    simp only [mLocal, mLocalC, Option.map_eq_some_iff] at h
    obtain ⟨w, hw, rfl⟩ := h
    rw [mL2_eq hw]
    exact lv_lsub hexec hb (hdg.at (by simp [mLen])) (kk ls hl)
  | lmul =>
    simp only [mLocal, mLocalC, Option.map_eq_some_iff] at h
    obtain ⟨w, hw, rfl⟩ := h
    rw [mL2_eq hw]
    exact lv_lmul hexec hb (hdg.at (by simp [mLen])) (kk ls hl)
  | ineg =>
    simp only [mLocal, mLocalC, Option.map_eq_some_iff] at h
    obtain ⟨w, hw, rfl⟩ := h
    rw [mI1_eq hw]
    exact lv_ineg hexec hb (hdg.at (by simp [mLen])) (kk ls hl)
  | iushr =>
    simp only [mLocal, mLocalC, Option.map_eq_some_iff] at h
    obtain ⟨w, hw, rfl⟩ := h
    rw [mI2_eq hw]
    exact lv_iushr hexec hb (hdg.at (by simp [mLen])) rfl (kk ls hl)
  | i2l =>
    simp only [mLocal, mLocalC, Option.map_eq_some_iff] at h
    obtain ⟨w, hw, rfl⟩ := h
    rw [mI1_eq hw]
    exact lv_i2l hexec hb (hdg.at (by simp [mLen])) rfl (kk ls hl)
  | l2i =>
    simp only [mLocal, mLocalC, Option.map_eq_some_iff] at h
    obtain ⟨w, hw, rfl⟩ := h
    rw [mL1_eq hw]
    exact lv_l2i hexec hb (hdg.at (by simp [mLen])) rfl (kk ls hl)
  | idiv =>
    simp only [mLocal, mLocalC, Option.bind_eq_some_iff] at h
    obtain ⟨w, hw, h⟩ := h
    split at h
    · cases h
    · next hn =>
      cases h
      rw [mI2_eq hw]
      exact lv_idiv hexec hb (hdg.at (by simp [mLen])) hn (kk ls hl)
  | irem =>
    simp only [mLocal, mLocalC, Option.bind_eq_some_iff] at h
    obtain ⟨w, hw, h⟩ := h
    split at h
    · cases h
    · next hn =>
      cases h
      rw [mI2_eq hw]
      exact lv_irem hexec hb (hdg.at (by simp [mLen])) hn (kk ls hl)
  | lcmp =>
    simp only [mLocal, mLocalC, Option.map_eq_some_iff] at h
    obtain ⟨w, hw, rfl⟩ := h
    rw [mL2_eq hw]
    exact W.lcmp hexec hb (hdg.at (by simp [mLen])) (kk ls hl)
  | dup =>
    simp only [mLocal, mLocalC] at h
    split at h
    · next v r =>
      split at h
      · next hv =>
        cases h
        exact lv_dup hexec hb (hdg.at (by simp [mLen])) (by rw [mV_cat]; exact hv) (kk ls hl)
      · cases h
    · cases h
  | pop =>
    simp only [mLocal, mLocalC] at h
    split at h
    · next v r =>
      split at h
      · next hv =>
        cases h
        exact lv_pop hexec hb (hdg.at (by simp [mLen])) (by rw [mV_cat]; exact hv) (kk ls hl)
      · cases h
    · cases h
  | dup2 =>
    simp only [mLocal, mLocalC] at h
    split at h
    · next v w r =>
      split at h
      · next hv =>
        cases h
        exact lv_dup2_11 hexec hb (hdg.at (by simp [mLen])) (by rw [mV_cat]; exact hv.1) (by rw [mV_cat]; exact hv.2) (kk ls hl)
      · cases h
    · cases h
  | pop2 =>
    simp only [mLocal, mLocalC] at h
    split at h
    · next v r =>
      split at h
      · next hv =>
        cases h
        exact lv_pop2_2 hexec hb (hdg.at (by simp [mLen])) (by rw [mV_cat]; exact hv) (kk ls hl)
      · cases h
    · cases h
  | goto off =>
    simp only [mLocal, mLocalC, Option.map_eq_some_iff] at h
    obtain ⟨t, ht, rfl⟩ := h
    exact lv_goto hexec hb (hdg.at (by simp [mLen])) (mTo_eq ht) (kk ls hl)
  | ifCond k off =>
    simp only [mLocal, mLocalC, Option.bind_eq_some_iff, Option.map_eq_some_iff] at h
    obtain ⟨w, hw, t, ht, rfl⟩ := h
    rw [mI1_eq hw]
    exact mCond_sound hexec hb (hdg.at (by simp [mLen])) ht (kk ls hl)
  | if_icmp k off =>
    simp only [mLocal, mLocalC, Option.bind_eq_some_iff, Option.map_eq_some_iff] at h
    obtain ⟨w, hw, t, ht, rfl⟩ := h
    rw [mI2_eq hw]
    exact mIcmp_sound hexec hb (hdg.at (by simp [mLen])) ht (kk ls hl)
  | ifnull off =>
    simp only [mLocal, mLocalC, Option.bind_eq_some_iff, Option.map_eq_some_iff] at h
    obtain ⟨w, hw, t, ht, rfl⟩ := h
    rw [mA1_eq hw]
    obtain ⟨w1, w2⟩ := w
    have k2 := kk ls hl
    cases w1 with
    | none => exact lv_ifnullN hexec hb (hdg.at (by simp [mLen])) (mTo_eq ht) (by simpa using k2)
    | some x => exact lv_ifnull hexec hb (hdg.at (by simp [mLen])) (by simpa using k2)
  | ifnonnull off =>
    simp only [mLocal, mLocalC, Option.bind_eq_some_iff, Option.map_eq_some_iff] at h
    obtain ⟨w, hw, t, ht, rfl⟩ := h
    rw [mA1_eq hw]
    obtain ⟨w1, w2⟩ := w
    have k2 := kk ls hl
    cases w1 with
    | none => exact lv_ifnonnullN hexec hb (hdg.at (by simp [mLen])) (by simpa using k2)
    | some x => exact lv_ifnonnull hexec hb (hdg.at (by simp [mLen])) (mTo_eq ht) (by simpa using k2)
  | tableswitch d lo hi offs =>
    simp only [mLocal, mLocalC, Option.bind_eq_some_iff] at h
    obtain ⟨w, hw, h⟩ := h
    rw [mI1_eq hw]
    obtain ⟨len, hd, -⟩ := hdg
    split at h
    · next hn =>
      simp only [Option.map_eq_some_iff] at h
      obtain ⟨t, ht, rfl⟩ := h
      exact lv_tableOut hexec hb hd hn (mTo_eq ht) (kk ls hl)
    · next hn =>
      simp only [Option.bind_eq_some_iff, Option.map_eq_some_iff] at h
      obtain ⟨o, ho, t, ht, rfl⟩ := h
      exact lv_tableIn hexec hb hd (fun z => hn (Or.inl z)) (fun z => hn (Or.inr z)) ho (mTo_eq ht) (kk ls hl)
  | lookupswitch d ps =>
    simp only [mLocal, mLocalC, Option.bind_eq_some_iff] at h
    obtain ⟨w, hw, h⟩ := h
    rw [mI1_eq hw]
    obtain ⟨len, hd, -⟩ := hdg
    split at h
    · next hn =>
      simp only [Option.map_eq_some_iff] at h
      obtain ⟨t, ht, rfl⟩ := h
      exact lv_lookup hexec hb hd hn rfl (mTo_eq ht) (kk ls hl)
    · cases h
  | _ => simp [mLocal, mLocalC] at h
end ML
