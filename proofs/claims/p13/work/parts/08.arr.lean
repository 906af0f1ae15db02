section MA
variable {p : Program} {l : Launch} {e : Env} {R : Room} {s : State} {m : MethodId} {args : Array Value} {below : List Frame} {meth : Method} {c : Code} {H : Heap} {locs : List Loc} {cells slots : Nat} {Q : State → Prop}
variable {cc : ByteArray} {pc : Nat} {ls : Array Slot} {b0 base : Nat} {own : String} {P : MP} {y : Nat} {D : va_G} {cl : List vw_C} {aC : Nat → ClassId} {tyL : List FieldType} {Ts : List Cond} {σ : List MC}
/-- a new row of numbers -/
theorem mNewP_sound (hexec : p.tables.exec = Jvm.exec) (hb : c.code = cc) {at_ : Jvm.ClassFile.ArrayType} {k : Nat} (hk : tyL[k]? = some (newarray.typeOf at_)) (hca : (Cond.arrayClass (newarray.typeOf at_)).before args s = true) (hAr : mAr aC tyL s)
    {n : Int32} {rest : List Value} (hn : ¬ n < 0) (hN : n.toNatClampNeg ≤ 1000000) (hby : componentBytes (newarray.typeOf at_) ≤ 8) (hcell : ∀ cA : ClassId, vp_cell cA (n.toNatClampNeg, mX b0 base (mBlank k)) = arrV cA n.toNatClampNeg (fun _ => defaultValue (newarray.typeOf at_)))
    (hH : mHp D cl aC b0 base s σ H locs) (hrc : cells + 1 ≤ R.cells) (hrs : slots + n.toNatClampNeg ≤ R.slots) (hdg : decode cc pc = .ok (.newarray at_, 2))
    (kk : ∀ (H1 : Heap), mHp D cl aC b0 base s (σ ++ [.inl (k, n.toNatClampNeg, mBlank k)]) H1 locs → W p l e R s m args below meth c H1 locs (cells + 1) (slots + n.toNatClampNeg) Q (F0 m (pc + 2) ls (.ref (base + σ.length) :: rest))) :
    W p l e R s m args below meth c H locs cells slots Q (F0 m pc ls (.int n :: rest)) := by
  refine va_newaK hexec hb hca rfl hdg rfl hn rfl (by
    have := Nat.mul_le_mul hN hby
    omega) hrc hrs rfl fun H1 cA e1 z1 o1 _ hf => ?_
  obtain ⟨kA, comp, h1, h2, h3, -⟩ := hAr k _ hk
  have hA : cA = aC k := Option.some.inj (hf.symm.trans h3)
  rw [hH.2.1]
  refine kk H1 (hH.push ?_ z1 o1)
  show H1[H.size]? = some (vp_cell (aC k) (n.toNatClampNeg, mX b0 base (mBlank k)))
  rw [hcell, ← hA]
  exact e1
/-- a new row of references -/
theorem mNewQ_sound (hexec : p.tables.exec = Jvm.exec) (hb : c.code = cc) (hown : s.vm.findClass own = some m.cls) (hts : ∀ w ∈ Ts, w.before args s = true) {Ns : List Cond} (hns : mNs Ns s) {i k : Nat} (hk3 : 3 ≤ k)
    (hk : (∃ C, tyL[k]? = some (.object C) ∧ Cond.classLink own i C ∈ Ts ∧ Cond.arrayOver (.object C) ∈ Ns) ∨ ∃ t, tyL[k]? = some (.array t) ∧ Cond.classLink own i (FieldType.array t).toString ∈ Ts ∧ Cond.arrayOver (.array t) ∈ Ns) (hAr : mAr aC tyL s)
    {n : Int32} {rest : List Value} (hn : ¬ n < 0) (hN : n.toNatClampNeg ≤ 1000000)
    (hH : mHp D cl aC b0 base s σ H locs) (hrc : cells + 1 ≤ R.cells) (hrs : slots + n.toNatClampNeg ≤ R.slots) (hdg : decode cc pc = .ok (.anewarray i, 3))
    (kk : ∀ (H1 : Heap), mHp D cl aC b0 base s (σ ++ [.inl (k, n.toNatClampNeg, mBlank k)]) H1 locs → W p l e R s m args below meth c H1 locs (cells + 1) (slots + n.toNatClampNeg) Q (F0 m (pc + 3) ls (.ref (base + σ.length) :: rest))) :
    W p l e R s m args below meth c H locs cells slots Q (F0 m pc ls (.int n :: rest)) := by
  have hbl : mBlank k = .inr (.inr (.inr (.inr (fun _ => none)))) := by
    match k, hk3 with
    | k + 3, _ => rfl
  have fin : ∀ cA : ClassId, cA = aC k → mHp D cl aC b0 base s (σ ++ [.inl (k, n.toNatClampNeg, mBlank k)]) (H.push { cls := cA, slots := Array.replicate n.toNatClampNeg .null, vm := .none }) locs := by
    intro cA hA
    refine hH.push ?_ (Array.size_push _) (fun q hq => by rw [Array.getElem?_push, if_neg (Nat.ne_of_lt hq)])
    show (H.push _)[H.size]? = some (vp_cell (aC k) (n.toNatClampNeg, mX b0 base (mBlank k)))
    rw [hbl, Array.getElem?_push_size, arrV_new, ← hA]
    rfl
  rcases hk with ⟨C, hk, h1, h2⟩ | ⟨t, hk, h1, h2⟩
  · refine W.anew hexec hb hown (hts _ h1) (hns _ h2) rfl hdg rfl hn (by omega) hrc hrs fun cA kA comp f1 f2 f3 f4 => ?_
    obtain ⟨_, _, _, _, g3, _⟩ := hAr k _ hk
    rw [hH.2.1]
    exact kk _ (fin cA (Option.some.inj (f1.symm.trans g3)))
  · refine W.anewA hexec hb hown (hts _ h1) (hns _ h2) rfl hdg rfl hn (by omega) hrc hrs fun cA kA comp f1 f2 f3 f4 => ?_
    obtain ⟨_, _, _, _, g3, _⟩ := hAr k _ hk
    rw [hH.2.1]
    exact kk _ (fin cA (Option.some.inj (f1.symm.trans g3)))
theorem mIast_sound (hexec : p.tables.exec = Jvm.exec) (hb : c.code = cc) (hAr : mAr aC tyL s) (h0 : tyL[0]? = some .int) {k n : Nat} {f : Nat → Int32} (hk : σ[k]? = some (.inl (0, n, .inl f))) {i x : Int32} {rest : List Value} (hin : vp_in i n) (hH : mHp D cl aC b0 base s σ H locs) (hdg : decode cc pc = .ok (.iastore, 1))
    (kk : ∀ (H1 : Heap) (locs1 : List Loc), mHp D cl aC b0 base s (σ.set k (.inl (0, n, .inl (upd f i.toNatClampNeg x)))) H1 locs1 → W p l e R s m args below meth c H1 locs1 cells slots Q (F0 m (pc + 1) ls rest)) :
    W p l e R s m args below meth c H locs cells slots Q (F0 m pc ls (.int x :: .int i :: .ref (base + k) :: rest)) := by
  have hc : H[base + k]? = some (vp_cell (aC 0) (n, .inl f)) := hH.1 k _ (mW_get hk)
  refine W.iast hexec hb hc (hAr.arr h0 n (fun j => .int (f j))) (fun q => by cases q) (by rw [vp_cell_i, arrV_size]; exact hin) rfl rfl hdg fun H1 e1 z oq => ?_
  refine kk H1 _ (hH.upd hk ?_ z oq _)
  show H1[base + k]? = some (vp_cell (aC 0) (n, .inl (upd f i.toNatClampNeg x)))
  rw [e1, mC_i]
theorem mZast_sound (hexec : p.tables.exec = Jvm.exec) (hb : c.code = cc) (hAr : mAr aC tyL s) (h0 : tyL[2]? = some .boolean) {k n : Nat} {f : Nat → Int32} (hk : σ[k]? = some (.inl (2, n, .inl f))) {i x : Int32} {rest : List Value} (hin : vp_in i n) (hH : mHp D cl aC b0 base s σ H locs) (hdg : decode cc pc = .ok (.bastore, 1))
    (kk : ∀ (H1 : Heap) (locs1 : List Loc), mHp D cl aC b0 base s (σ.set k (.inl (2, n, .inl (upd f i.toNatClampNeg (vp_nar .boolean x))))) H1 locs1 → W p l e R s m args below meth c H1 locs1 cells slots Q (F0 m (pc + 1) ls rest)) :
    W p l e R s m args below meth c H locs cells slots Q (F0 m pc ls (.int x :: .int i :: .ref (base + k) :: rest)) := by
  have hc : H[base + k]? = some (vp_cell (aC 2) (n, .inl f)) := hH.1 k _ (mW_get hk)
  refine W.zast hexec hb hc (hAr.arr h0 n (fun j => .int (f j))) (fun q => by cases q) (by rw [vp_cell_i, arrV_size]; exact hin) rfl rfl hdg fun H1 e1 z oq => ?_
  refine kk H1 _ (hH.upd hk ?_ z oq _)
  show H1[base + k]? = some (vp_cell (aC 2) (n, .inl (upd f i.toNatClampNeg (vp_nar .boolean x))))
  rw [e1, ← mC_i]
  rfl
theorem mLast_sound (hexec : p.tables.exec = Jvm.exec) (hb : c.code = cc) (hAr : mAr aC tyL s) (h0 : tyL[1]? = some .long) {k n : Nat} {f : Nat → Int64} (hk : σ[k]? = some (.inl (1, n, .inr (.inl f)))) {i : Int32} {x : Int64} {rest : List Value} (hin : vp_in i n) (hH : mHp D cl aC b0 base s σ H locs) (hdg : decode cc pc = .ok (.lastore, 1))
    (kk : ∀ (H1 : Heap) (locs1 : List Loc), mHp D cl aC b0 base s (σ.set k (.inl (1, n, .inr (.inl (vp_updL f i.toNatClampNeg x))))) H1 locs1 → W p l e R s m args below meth c H1 locs1 cells slots Q (F0 m (pc + 1) ls rest)) :
    W p l e R s m args below meth c H locs cells slots Q (F0 m pc ls (.long x :: .int i :: .ref (base + k) :: rest)) := by
  have hc : H[base + k]? = some (vp_cell (aC 1) (n, .inr (.inl f))) := hH.1 k _ (mW_get hk)
  refine W.last hexec hb hc (hAr.arr h0 n (fun j => .long (f j))) (fun q => by cases q) (by rw [vp_cell_l, arrV_size]; exact hin) rfl rfl hdg fun H1 e1 z oq => ?_
  refine kk H1 _ (hH.upd hk ?_ z oq _)
  show H1[base + k]? = some (vp_cell (aC 1) (n, .inr (.inl (vp_updL f i.toNatClampNeg x))))
  rw [e1, mC_l]
theorem mAastN_sound (hexec : p.tables.exec = Jvm.exec) (hb : c.code = cc) (hK : va_K D cl (mTys aC tyL) s) (hAr : mAr aC tyL s) {t k n : Nat} {u : FieldType} (ht : tyL[t]? = some u) (hu : u.isReference = true) {f : Nat → Option Nat} (hk : σ[k]? = some (.inl (t, n, .inr (.inr (.inr (.inr f)))))) {i : Int32} {rest : List Value} (hin : vp_in i n) (hH : mHp D cl aC b0 base s σ H locs) (hdg : decode cc pc = .ok (.aastore, 1))
    (kk : ∀ (H1 : Heap) (locs1 : List Loc), mHp D cl aC b0 base s (σ.set k (.inl (t, n, .inr (.inr (.inr (.inr (va_up f i.toNatClampNeg none))))))) H1 locs1 → W p l e R s m args below meth c H1 locs1 cells slots Q (F0 m (pc + 1) ls rest)) :
    W p l e R s m args below meth c H locs cells slots Q (F0 m pc ls (.null :: .int i :: .ref (base + k) :: rest)) := by
  have hc : H[base + k]? = some (vp_cell (aC t) (n, .inr (.inr (.inr (.inr (fun j => (f j).map (mAd b0 base))))))) := hH.1 k _ (mW_get hk)
  have hin2 : ¬ (i < 0 ∨ (vp_cell (aC t) (n, .inr (.inr (.inr (.inr (fun j => (f j).map (mAd b0 base))))))).slots.size ≤ i.toNatClampNeg) := by rw [vp_cell_q, arrV_size]; exact hin
  intro T hT X
  have hT' : T.heap[base + k]? = some (vp_cell (aC t) (n, .inr (.inr (.inr (.inr (fun j => (f j).map (mAd b0 base))))))) := by rw [hT]; exact hc
  have hal := X.warmed.alike
  have hA2 := State.isArrayOf_alike hal (hAr.arr ht n (fun j => va_rf ((f j).map (mAd b0 base))))
  have hlt : base + k < T.heap.size := (Array.getElem?_eq_some_iff.mp hT').1
  have X' := X.stored hT' i.toNatClampNeg .null
  have hfit : T.fitsSlot (vp_cell (aC t) (n, .inr (.inr (.inr (.inr (fun j => (f j).map (mAd b0 base))))))).cls (vp_cell (aC t) (n, .inr (.inr (.inr (.inr (fun j => (f j).map (mAd b0 base))))))).vm i.toNatClampNeg .null = true := by
    obtain ⟨hobj, k9, hk9, comp, hkind⟩ := hA2
    have hk9 : T.vm.classes[aC t]? = some k9 := hk9
    show T.fitsSlot (aC t) .none i.toNatClampNeg .null = true
    cases u <;> simp [FieldType.isReference] at hu <;> simp [State.fitsSlot, State.slotType?, hk9, hkind, fits]
  obtain ⟨t', a1, b1⟩ := kk (T.setCell (base + k) ((vp_cell (aC t) (n, .inr (.inr (.inr (.inr (fun j => (f j).map (mAd b0 base))))))).setSlot i.toNatClampNeg .null)).heap (locs ++ [⟨base + k, i.toNatClampNeg⟩]) (by
    refine hH.upd hk ?_ (by rw [size_setCell, hT]) (fun q hq => by rw [heapAt_setCell_ne _ (Ne.symm hq), hT]) _
    show (T.setCell _ _).heap[base + k]? = some (vp_cell (aC t) (n, mX b0 base (.inr (.inr (.inr (.inr (va_up f i.toNatClampNeg none)))))))
    rw [heapAt_setCell_self _ hlt]
    show some ((vp_cell _ _).setSlot _ (va_rf none)) = some (vp_cell (aC t) (n, .inr (.inr (.inr (.inr (fun j => (va_up f i.toNatClampNeg none j).map (mAd b0 base)))))))
    rw [mC_q, mUp_map]
    rfl) _ rfl X'
  refine ⟨t', ?_, b1⟩
  jvm_step X.here [hexec, hb, hdg]
  refine aastore.wp_of_null (c := vp_cell (aC t) (n, .inr (.inr (.inr (.inr (fun j => (f j).map (mAd b0 base))))))) (t := u) X.here.top rfl hT' hA2 hin2 (fun h => by cases h) (Nat.not_le.mp fun q => hin2 (Or.inr q)) hfit ?_
  intro acts
  rw [afterInstr_ok]
  exact a1
theorem mI_nm (hAr : mAr aC tyL s) (h0 : tyL[0]? = some .int) : s.vm.findClass "[I" = some (aC 0) := by
  obtain ⟨kA, comp, h1, h2, h3, -⟩ := hAr 0 _ h0
  have e : "[" ++ FieldType.int.toString = "[I" := by decide +kernel
  rw [← e]
  exact h3
/-- a row of ints, copied whole -/
theorem mClone_sound (hexec : p.tables.exec = Jvm.exec) (hb : c.code = cc) (hml : c.maxLocals = ls.size) {i : Nat} (hown : s.vm.findClass own = some m.cls)
    (hlink : (Cond.methodLink own i ⟨"[I", "clone", "()Ljava/lang/Object;"⟩).before args s = true) (hsame : (Cond.sameMethod "[I" "java/lang/Object" "clone" "()Ljava/lang/Object;").before args s = true)
    (hnat : (Cond.native ⟨"java/lang/Object", "clone", "()Ljava/lang/Object;"⟩).before args s = true) (hinst : (Cond.instanceMethod ⟨"java/lang/Object", "clone", "()Ljava/lang/Object;"⟩).before args s = true)
    (hsel : (Cond.selects "[I" ⟨"[I", "clone", "()Ljava/lang/Object;"⟩ ⟨"java/lang/Object", "clone", "()Ljava/lang/Object;"⟩).before args s = true) (hcl : va_Nw (.castable "[I" "java/lang/Cloneable") s)
    (hAr : mAr aC tyL s) (h0 : tyL[0]? = some .int) {k n : Nat} {f : Nat → Int32} (hk : σ[k]? = some (.inl (0, n, .inl f))) {rest : List Value}
    (hframes : 1 ≤ R.frames) (hlocals : (rest.map fun v => v.category).sum + 14 ≤ R.locals) (hH : mHp D cl aC b0 base s σ H locs) (hrc : cells + 1 ≤ R.cells) (hrs : slots + n ≤ R.slots) (hdg : decode cc pc = .ok (.invokevirtual i, 3))
    (kk : ∀ (H1 : Heap), mHp D cl aC b0 base s (σ ++ [.inl (0, n, .inl f)]) H1 locs → W p l e R s m args below meth c H1 locs (cells + 1) (slots + n) Q (F0 m (pc + 3) ls (.ref (base + σ.length) :: rest))) :
    W p l e R s m args below meth c H locs cells slots Q (F0 m pc ls (.ref (base + k) :: rest)) := by
  have hnm := mI_nm hAr h0
  have hc : H[base + k]? = some (vp_cell (aC 0) (n, .inl f)) := hH.1 k _ (mW_get hk)
  have hsz : (vp_cell (aC 0) (n, .inl f)).slots.size = n := arrV_size _ _ _
  have hcellE : ({ cls := (vp_cell (aC 0) (n, .inl f)).cls, slots := (vp_cell (aC 0) (n, .inl f)).slots } : Cell) = vp_cell (aC 0) (n, .inl f) := rfl
  obtain ⟨c0, t0, f1, f2, f3⟩ := Cond.castable_spec (va_Nw.use (A := args) rfl hcl)
  cases hnm.symm.trans f1
  intro T hT X
  have hcellT : T.heap[base + k]? = some (vp_cell (aC 0) (n, .inl f)) := by rw [hT]; exact hc
  obtain ⟨-, kA, hkA, comp, hkind⟩ := State.isArrayOf_alike X.warmed.alike (hAr.arr h0 0 (fun _ => .null))
  obtain ⟨-, kS, hkS, compS, hkindS⟩ := hAr.arr h0 0 (fun _ => .null)
  obtain ⟨vm', X', st⟩ := X.cloneArray hexec hown hlink hsame hnat hinst hsel (a := base + k) (cell := vp_cell (aC 0) (n, .inl f)) hcellT (fun k h => by cases h) (fun h => by cases h) hnm f2 f3
    (fun i v hv => by
      have hk' : T.vm.classes[aC 0]? = some kA := hkA
      show T.fitsSlot (aC 0) .none i v = true
      simpa [State.fitsSlot, State.slotType?, hk', hkind] using va_fit (F := fun j => .int (f j)) (ty := .int) (fun i hi => rfl) i v hv)
    (g := F0 m pc ls (.ref (base + k) :: rest)) rfl (by rw [hml]) rfl (by rw [hb]; exact hdg) hframes (by show 2 * 0 + _ + 14 ≤ _; omega) hrc (by rw [hsz]; exact hrs) (hloader := Vm.clonesLoader_of_array hkS hkindS)
  rw [hcellE, hsz] at X'
  have h1 := kk (H.push (vp_cell (aC 0) (n, .inl f))) (hH.push (Array.getElem?_push_size ..) (Array.size_push _) (fun q hq => by rw [Array.getElem?_push, if_neg (Nat.ne_of_lt hq)]))
  rw [← hH.2.1] at h1
  obtain ⟨t, b1, b2⟩ := h1 ((T.setVm vm').pushCell (vp_cell (aC 0) (n, .inl f))) (by rw [← hT]; rfl) X'
  refine ⟨t, st t ?_, b2⟩
  rw [hcellE, hT]
  exact b1
end MA
