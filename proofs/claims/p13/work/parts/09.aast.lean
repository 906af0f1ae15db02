section MB
variable {p : Program} {l : Launch} {e : Env} {R : Room} {s : State} {m : MethodId} {args : Array Value} {below : List Frame} {meth : Method} {c : Code} {H : Heap} {locs : List Loc} {cells slots : Nat} {Q : State → Prop}
variable {cc : ByteArray} {pc : Nat} {ls : Array Slot} {b0 base : Nat} {own : String} {P : MP} {y : Nat} {D : va_G} {cl : List vw_C} {aC : Nat → ClassId} {tyL : List FieldType} {Ts : List Cond} {σ : List MC}
theorem mAast_sound (hexec : p.tables.exec = Jvm.exec) (hb : c.code = cc) (hK : va_K D cl (mTys aC tyL) s) (hAr : mAr aC tyL s) {t k n : Nat} {f : Nat → Option Nat} (hk : σ[k]? = some (.inl (t, n, .inr (.inr (.inr (.inr f)))))) {v : Nat} {ev : MC} (hv : σ[v]? = some ev)
    (hel : (∃ ci fs C T N, ev = .inr (ci, fs) ∧ cl[ci]? = some (C, T, N) ∧ tyL[t]? = some (.object C)) ∨ ∃ k u n x, ev = .inl (k, n, x) ∧ tyL[k]? = some u ∧ tyL[t]? = some (.array u))
    {i : Int32} {rest : List Value} (hin : vp_in i n) (hH : mHp D cl aC b0 base s σ H locs) (hdg : decode cc pc = .ok (.aastore, 1))
    (kk : ∀ (H1 : Heap) (locs1 : List Loc), mHp D cl aC b0 base s (σ.set k (.inl (t, n, .inr (.inr (.inr (.inr (va_up f i.toNatClampNeg (some (v + 1)))))))) ) H1 locs1 → W p l e R s m args below meth c H1 locs1 cells slots Q (F0 m (pc + 1) ls rest)) :
    W p l e R s m args below meth c H locs cells slots Q (F0 m pc ls (.ref (base + v) :: .int i :: .ref (base + k) :: rest)) := by
  have hc : H[base + k]? = some (vp_cell (aC t) (n, .inr (.inr (.inr (.inr (fun j => (f j).map (mAd b0 base))))))) := hH.1 k _ (mW_get hk)
  have hlt : i.toNatClampNeg < n := Nat.not_le.mp fun q => hin (Or.inr q)
  have h0 : ¬ i < 0 := fun q => hin (Or.inl q)
  have fin : ∀ H1 : Heap, H1[base + k]? = some ((vp_cell (aC t) (n, .inr (.inr (.inr (.inr (fun j => (f j).map (mAd b0 base))))))).setSlot i.toNatClampNeg (.ref (base + v))) → H1.size = H.size → (∀ q, q ≠ base + k → H1[q]? = H[q]?) → W p l e R s m args below meth c H1 (locs ++ [⟨base + k, i.toNatClampNeg⟩]) cells slots Q (F0 m (pc + 1) ls rest) := by
    intro H1 e1 z oq
    refine kk H1 _ (hH.upd hk ?_ z oq _)
    show H1[base + k]? = some (vp_cell (aC t) (n, .inr (.inr (.inr (.inr (fun j => (va_up f i.toNatClampNeg (some (v + 1)) j).map (mAd b0 base)))))))
    rw [e1, mUp_map]
    show some ((vp_cell _ _).setSlot _ (va_rf (some (base + v)))) = _
    rw [mC_q]
    rfl
  rcases hel with ⟨ci, fs, C, T, N, rfl, hcl, ht⟩ | ⟨k0, u, n0, x0, rfl, hk0, ht⟩
  · obtain ⟨kA, comp, k1, k2, k3, k4⟩ := hAr t _ ht
    obtain ⟨r', hr', cellV, g1, g2, g3, -⟩ := hH.1 v _ (mW_get hv)
    have hcls := (hK.1 ci _ hcl).2
    have hcomp : comp = D.1 ci := Option.some.inj ((k4 rfl).symm.trans hcls.1)
    subst hcomp
    obtain ⟨kC, hkC, -⟩ := hcls.2
    exact W.aast hexec hb hc (fun q h => by cases h) (fun h => by cases h) k1 k2 rfl hkC ⟨h0, by show _ < (arrV _ _ _).slots.size; rw [arrV_size]; exact hlt⟩ g1 (fun q h => by rw [g3] at h; cases h) (by rw [g2]; exact hkC) (by rw [g2]; exact va_asg _ _) rfl rfl hdg fin
  · obtain ⟨kA, comp, k1, k2, k3, k4⟩ := hAr t _ ht
    obtain ⟨kB, compB, j1, j2, j3, -⟩ := hAr k0 _ hk0
    have hcv : H[base + v]? = some (vp_cell (aC k0) (n0, mX b0 base x0)) := hH.1 v _ (mW_get hv)
    have hcomp : comp = aC k0 := Option.some.inj ((k4 rfl).symm.trans j3)
    subst hcomp
    have hvc : ∀ (cA : ClassId) (a : vp_A), (vp_cell cA a).cls = cA ∧ (vp_cell cA a).vm = .none := by
      rintro cA ⟨n9, f9 | f9 | f9 | f9 | f9⟩ <;> exact ⟨rfl, rfl⟩
    exact W.aast hexec hb hc (fun q h => by cases h) (fun h => by cases h) k1 k2 rfl j1 ⟨h0, by show _ < (arrV _ _ _).slots.size; rw [arrV_size]; exact hlt⟩ hcv (fun q h => by rw [(hvc _ _).2] at h; cases h) (by rw [(hvc _ _).1]; exact j1) (by rw [(hvc _ _).1]; exact va_asg _ _) rfl rfl hdg fin
theorem mCopy_sound (hexec : p.tables.exec = Jvm.exec) (hb : c.code = cc) (hml : c.maxLocals = ls.size) (hown : s.vm.findClass own = some m.cls) {index : Nat} (hlink : (Cond.methodLink own index arraycopyName).before args s = true) (hnat : (Cond.native arraycopyName).before args s = true) (hstat : (Cond.static arraycopyName).before args s = true) (hini : (Cond.initialized "java/lang/System").before args s = true)
    (hAr : mAr aC tyL s) (h0 : tyL[0]? = some .int) {k0 k1 n0 n1 : Nat} {f g : Nat → Int32} (hk0 : σ[k0]? = some (.inl (0, n0, .inl f))) (hk1 : σ[k1]? = some (.inl (0, n1, .inl g))) {sp dp n : Int32} {rest : List Value} (h1 : ¬ sp < 0) (h2 : ¬ dp < 0) (h3 : ¬ n < 0) (h4 : sp.toNatClampNeg + n.toNatClampNeg ≤ n0) (h5 : dp.toNatClampNeg + n.toNatClampNeg ≤ n1)
    (hframes : 1 ≤ R.frames) (hlocals : (rest.map fun v => v.category).sum + (nativeFrameWords "java/lang/System" "arraycopy" 5 + 11) ≤ R.locals) (hH : mHp D cl aC b0 base s σ H locs) (hdg : decode cc pc = .ok (.invokestatic index, 3))
    (kk : ∀ (H1 : Heap) (locs1 : List Loc), mHp D cl aC b0 base s (σ.set k1 (.inl (0, n1, .inl (va_cpy f g sp.toNatClampNeg dp.toNatClampNeg n.toNatClampNeg)))) H1 locs1 → W p l e R s m args below meth c H1 locs1 cells slots Q (F0 m (pc + 3) ls rest)) :
    W p l e R s m args below meth c H locs cells slots Q (F0 m pc ls (.int n :: .int dp :: .ref (base + k1) :: .int sp :: .ref (base + k0) :: rest)) := by
  have nn : ∀ z : Int32, ¬ z < 0 → z.toInt = (z.toNatClampNeg : Int) := by
    intro z hz
    have hz0 : (0 : Int) ≤ z.toInt := by
      have := Int32.not_lt.mp hz
      simpa using Int32.le_iff_toInt_le.mp this
    show z.toInt = ((z.toInt.toNat : Nat) : Int)
    omega
  intro T hT X
  have hc0 : H[base + k0]? = some (vp_cell (aC 0) (n0, .inl f)) := hH.1 k0 _ (mW_get hk0)
  have hc1 : H[base + k1]? = some (vp_cell (aC 0) (n1, .inl g)) := hH.1 k1 _ (mW_get hk1)
  obtain ⟨-, j0, hj0, cm0, hkk0⟩ := hAr.arr h0 n0 (fun j => .int (f j))
  obtain ⟨-, j1, hj1, cm1, hkk1⟩ := hAr.arr h0 n1 (fun j => .int (g j))
  obtain ⟨vm', X', step⟩ := X.arraycopy hexec hown hlink hnat hstat hini (src := base + k0) (dst := base + k1) (cs := vp_cell (aC 0) (n0, .inl f)) (cd := vp_cell (aC 0) (n1, .inl g)) (srcPos := sp) (destPos := dp) (n := n) (by rw [hT]; exact hc0) (by rw [hT]; exact hc1)
    (fun _ h => by cases h) (fun _ h => by cases h) (fun h => by cases h) (fun h => by cases h) hj0 hj1 hkk0 hkk1 (by simp [refKind]) h1 h2 h3
    (by rw [nn sp h1, nn n h3]; show ¬ _ > ((arrV (aC 0) n0 (fun j => .int (f j))).slots.size : Int); rw [arrV_size]; omega)
    (by rw [nn dp h2, nn n h3]; show ¬ _ > ((arrV (aC 0) n1 (fun j => .int (g j))).slots.size : Int); rw [arrV_size]; omega)
    (fun vm₁ _ i hi => by
      have e : (vp_cell (aC 0) (n0, .inl f)).slots.getD (sp.toNatClampNeg + i) .null = .int (f (sp.toNatClampNeg + i)) := by
        show (arrV (aC 0) n0 (fun j => .int (f j))).slots.getD _ _ = _
        rw [Array.getD_eq_getD_getElem?, arrV_read _ _ (by omega)]
        rfl
      exact ⟨by rw [e]; rfl, by rw [e]; exact trivial⟩)
    (g := F0 m pc ls (.int n :: .int dp :: .ref (base + k1) :: .int sp :: .ref (base + k0) :: rest)) rfl (by rw [hml]) (rest := rest) rfl (by rw [hb]; exact hdg) hframes (by show 2 * 0 + _ + _ ≤ _; omega)
  have e1 : copied (vp_cell (aC 0) (n0, .inl f)) (vp_cell (aC 0) (n1, .inl g)) sp dp n = vp_cell (aC 0) (n1, .inl (va_cpy f g sp.toNatClampNeg dp.toNatClampNeg n.toNatClampNeg)) := va_copied (fun z => .int z) (aC 0) (aC 0) f g h4
  rw [e1] at X' step
  have hl : base + k1 < H.size := (Array.getElem?_eq_some_iff.mp hc1).1
  obtain ⟨hP, hz, hS⟩ := hH
  have oq : ∀ q : Nat, q ≠ base + k1 → (H.setIfInBounds (base + k1) (vp_cell (aC 0) (n1, .inl (va_cpy f g sp.toNatClampNeg dp.toNatClampNeg n.toNatClampNeg))))[q]? = H[q]? := fun q hq => by simp [Array.getElem?_setIfInBounds, Ne.symm hq]
  obtain ⟨t, a1, b1⟩ := kk (H.setIfInBounds (base + k1) (vp_cell (aC 0) (n1, .inl (va_cpy f g sp.toNatClampNeg dp.toNatClampNeg n.toNatClampNeg)))) _ ⟨by
      rw [mW_set]
      exact hP.set mW_D (mW_get hk1) (show (H.setIfInBounds (base + k1) _)[base + k1]? = some _ by simp [Array.getElem?_setIfInBounds, hl]; rfl) oq, by simpa using hz, by simp; exact hS.1, fun q g1 g2 => by
      rw [oq q (fun e => g2 (by rw [e]; exact Nat.le_add_right _ _))]
      exact hS.2.1 q g1 g2, fun q hq => by
      rcases List.mem_append.mp hq with h | h
      · exact hS.2.2 q h
      · obtain ⟨z, -, hz⟩ := List.mem_map.mp h
        rw [← hz]
        exact Nat.le_add_right _ _⟩ ((T.setVm vm').setCell (base + k1) (vp_cell (aC 0) (n1, .inl (va_cpy f g sp.toNatClampNeg dp.toNatClampNeg n.toNatClampNeg)))) (by rw [← hT]; rfl) X'
  exact ⟨t, step t a1, b1⟩
end MB
