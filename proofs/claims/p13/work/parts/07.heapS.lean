/-! THE SMALL MACHINE'S STEPS OVER THE HEAP ARE THE MACHINE'S -/
section MH
variable {p : Program} {l : Launch} {e : Env} {R : Room} {s : State} {m : MethodId} {args : Array Value} {below : List Frame} {meth : Method} {c : Code} {H : Heap} {locs : List Loc} {cells slots : Nat} {Q : State → Prop}
variable {cc : ByteArray} {pc : Nat} {ls : Array Slot} {b0 base : Nat} {own : String} {P : MP} {y : Nat} {D : va_G} {cl : List vw_C} {aC : Nat → ClassId} {tyL : List FieldType} {Ts : List Cond} {σ : List MC}
theorem mPut_sound (hexec : p.tables.exec = Jvm.exec) (hb : c.code = cc) (hown : s.vm.findClass own = some m.cls) (hts : ∀ w ∈ Ts, w.before args s = true) {nm : Nat → MethodName} (hO : mOKcls Ts cl P nm) (hK : va_K D cl (mTys aC tyL) s)
    (hin : (mpInfo P y).2.2.2.2.1 = true → meth.name = "<init>") (hny : (nm y).cls = own) {i k ci f : Nat} {fs : List Value} {v : Value} {rest : List Value} (hk : σ[k]? = some (.inr (ci, fs))) {C : String} {T : u_T} {N : Nat} (hc : cl[ci]? = some (C, T, N)) (hf : f < N) (hlink : Cond.fieldLink own i (T f).1 (T f).2.1 (T f).2.2.1 ∈ Ts)
    (hlt : f < fs.length) (hfit : mFit (mpFty P ci f).1 v = true) (hfin : (mpFty P ci f).2 = true → (mpInfo P y).2.2.2.2.1 = true ∧ (mpInfo P y).2.2.2.2.2 = ci) (hH : mHp D cl aC b0 base s σ H locs) (hdg : decode cc pc = .ok (.putfield i, 3))
    (kk : ∀ (H1 : Heap) (locs1 : List Loc), mHp D cl aC b0 base s (σ.set k (.inr (ci, fs.set f v))) H1 locs1 → W p l e R s m args below meth c H1 locs1 cells slots Q (F0 m (pc + 3) ls rest)) :
    W p l e R s m args below meth c H locs cells slots Q (F0 m pc ls (mV b0 base v :: .ref (base + k) :: rest)) := by
  obtain ⟨hin', hty, hfl, hnm, hcl⟩ := hO ci C T N hc
  have hap := va_apart (own := own) hts hin' (fun j => (mpFty P ci j).1) hty hnm hK hc
  obtain ⟨r, h1, cell, q1, q2, q3, q4⟩ := hH.1 k _ (mW_get hk)
  have hr : r = (C, T, N) := Option.some.inj (h1.symm.trans hc)
  subst hr
  obtain ⟨hSl, hfc, kC, hkC, hkind⟩ := hK.1 ci _ hc
  obtain ⟨cf, kf, fi, fd, hi, hsl⟩ := hSl f hf
  have hlay := hts _ (hin' _ (u_in_lay hf))
  have hst := (u_facts hfc hkC (u_lays hts hin' hf) hi).1
  obtain ⟨hn, hft⟩ := mV_fit (b0 := b0) (base := base) hfit
  have hl9 : f < (fs.map (mV b0 base)).length := by simpa using hlt
  have hset : mE b0 base aC (.inr (ci, fs.set f v)) = .inr (ci, (fs.map (mV b0 base)).set f (mV b0 base v)) := by simp [mE, List.map_set]
  unfold u_lay at hlay
  by_cases hfi : (T f).2.2.2 = true
  · rw [if_pos hfi] at hlay
    obtain ⟨hi1, hi2⟩ := hfin (by rw [(hfl f hf).1]; exact hfi)
    have hC : own = C := by rw [← hny]; exact hcl y hi1 hi2
    have hcf : m.cls = cf := by
      obtain ⟨_, _, c', _, _, _, -, -, hf', -, -, -, hown2, -⟩ := Cond.laysFinal_spec hlay
      have e1 : c' = cf := by have := hi.symm.trans hf'; simp at this; exact this.1.symm
      rw [(hfl f hf).2, ← hC] at hown2
      rw [← e1]; exact Option.some.inj (hown.symm.trans hown2)
    have h6 := u_fits hfc hkC hkind (Or.inr hlay) hi (hty f hf) hn hft
    refine W.putFinK hexec hb hown (hts _ hlink) hi hst hcf (hin hi1) (by rw [q2]; exact h6) q1 q3 (by rw [hsl]; exact k2_hasslot (q4 f hf)) rfl rfl hdg fun H' e1 e2 e3 => ?_
    rw [hsl] at e1 ⊢
    refine kk H' _ (hH.upd hk ?_ e2 e3 _)
    rw [hset]
    exact ⟨_, hc, t_OB.to (V := updV (vp_V (fs.map (mV b0 base))) f (mV b0 base v)) ⟨_, e1, q2, q3, t_set q4 hap hf _⟩ (fun j _ => vp_updV_set hl9 _ j)⟩
  · rw [if_neg hfi] at hlay
    have h6 := u_store hfc hkC hkind hlay hi (hty f hf) hn hft
    refine W.putK hexec hb (f := fd) ⟨hown, hts _ hlink, ⟨_, _, _, hi⟩, hst⟩ (by rw [q2]; exact h6) q1 q3 (by rw [hsl]; exact k2_hasslot (q4 f hf)) rfl rfl hdg fun H' e1 e2 e3 => ?_
    rw [hsl] at e1 ⊢
    refine kk H' _ (hH.upd hk ?_ e2 e3 _)
    rw [hset]
    exact ⟨_, hc, t_OB.to (V := updV (vp_V (fs.map (mV b0 base))) f (mV b0 base v)) ⟨_, e1, q2, q3, t_set q4 hap hf _⟩ (fun j _ => vp_updV_set hl9 _ j)⟩
theorem mNew_sound (hexec : p.tables.exec = Jvm.exec) (hb : c.code = cc) (hown : s.vm.findClass own = some m.cls) (hts : ∀ w ∈ Ts, w.before args s = true) {nm : Nat → MethodName} (hO : mOKcls Ts cl P nm) (hK : va_K D cl (mTys aC tyL) s)
    {i ci : Nat} {fs : List Value} {rest : List Value} {C : String} {T : u_T} {N : Nat} (hc : cl[ci]? = some (C, T, N)) (hlen : fs.length = N) (hcl : Cond.classLink own i C ∈ Ts) (hinst : Cond.instantiable C N ∈ Ts) (hini : Cond.initialized C ∈ Ts) (hfs : ∀ j, j < N → fs[j]? = some (defaultValue (mpFty P ci j).1))
    (hH : mHp D cl aC b0 base s σ H locs) (hrc : cells + 1 ≤ R.cells) (hrs : slots + N ≤ R.slots) (hdg : decode cc pc = .ok (.new i, 3))
    (kk : ∀ (H1 : Heap), mHp D cl aC b0 base s (σ ++ [.inr (ci, fs)]) H1 locs → W p l e R s m args below meth c H1 locs (cells + 1) (slots + N) Q (F0 m (pc + 3) ls (.ref (base + σ.length) :: rest))) :
    W p l e R s m args below meth c H locs cells slots Q (F0 m pc ls rest) := by
  obtain ⟨hin', hty, -, -, -⟩ := hO ci C T N hc
  have hKn := hK.1 ci _ hc
  refine W.newcK hexec hb hown (hts _ hcl) (hts _ hinst) (hts _ hini) rfl hdg hrc hrs hKn.2.1 rfl fun H1 kC hkC e1 z1 o1 => ?_
  rw [hH.2.1]
  refine kk H1 (hH.push ?_ z1 o1)
  refine ⟨_, hc, (u_born (fun j => (mpFty P ci j).1) hts hin' hKn hkC e1 hty).to (fun j hj => ?_)⟩
  show defaultValue _ = vp_V (fs.map (mV b0 base)) j
  have h1 := hfs j hj
  simp only [vp_V, List.getD_eq_getElem?_getD, List.getElem?_map, h1, Option.map_some, Option.getD_some, mV_default]
end MH
