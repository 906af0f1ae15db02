/-! rules over the typed heap: fields and arrays -/
theorem mCell_pos {σ : List MC} {a : Nat} {e : MC} (h : mCell σ a = some e) : ∃ k, a = k + 1 ∧ σ[k]? = some e := by
  cases a with
  | zero => simp [mCell] at h
  | succ k => exact ⟨k, rfl, h⟩
theorem mCell_put {σ : List MC} {a b : Nat} {e e0 : MC} (h : mCell σ a = some e0) : mCell (mPut σ a e) b = if b = a then some e else mCell σ b := by
  obtain ⟨k, rfl, hk⟩ := mCell_pos h
  have hlt : k < σ.length := (List.getElem?_eq_some_iff.mp hk).1
  cases b with
  | zero => simp [mCell]
  | succ j =>
    show (σ.set k e)[j]? = _
    rw [List.getElem?_set]
    by_cases e1 : k = j
    · subst e1; simp [hlt]
    · rw [if_neg e1, if_neg (fun h => e1 (by omega))]; rfl
theorem mSl_put {σ : List MC} {a : Nat} {e e0 : MC} (h : mCell σ a = some e0) (hs : mSz e = mSz e0) : mSl (mPut σ a e) = mSl σ := by
  obtain ⟨k, rfl, hk⟩ := mCell_pos h
  show ((σ.set k e).map mSz).sum = _
  have hlt : k < σ.length := (List.getElem?_eq_some_iff.mp hk).1
  have e1 : σ[k]'hlt = e0 := by
    have := List.getElem?_eq_getElem hlt
    rw [hk] at this
    exact (Option.some.inj this).symm
  rw [List.map_set, hs, ← e1]
  have e2 : (σ.map mSz).set k (mSz (σ[k]'hlt)) = σ.map mSz := by
    apply List.ext_getElem?
    intro i
    rw [List.getElem?_set]
    by_cases e3 : k = i
    · subst e3; simp [hlt]
    · rw [if_neg e3]
  rw [e2]; rfl
section ZH
variable {M : zM} {L : Nat} {xs : Nat → Int32} {y pc pc2 n sl a : Nat} {lv lv2 : List (Nat × zV)} {r : List zV} {K : List zV → zH → Prop} {T : Nat → zT} {I I2 : Nat → Nat → Int} {P P2 : Nat → Nat → Option Nat} {G G2 : Nat → Nat → Int} {gs : List Int}
theorem zA_put {σ : List MC} {e e0 : MC} (hA : zA M σ (n, sl, T, I, P, G)) (h0 : mCell σ a = some e0) (hs : mSz e = mSz e0) (he : zCell (T a) (I2 a) (P2 a) (G2 a) = some e) (ho : ∀ b, b ≠ a → I2 b = I b ∧ P2 b = P b ∧ G2 b = G b) (hw : zWf M (n, sl, T, I2, P2, G2)) : zA M (mPut σ a e) (n, sl, T, I2, P2, G2) := by
  obtain ⟨h1, h2, h3, h4⟩ := hA
  refine ⟨?_, ?_, ?_, hw⟩
  · rw [mPut_len]; exact h1
  · rw [mSl_put h0 hs]; exact h2
  · intro b
    rw [mCell_put h0]
    by_cases e1 : b = a
    · subst e1; rw [if_pos rfl]; exact he.symm
    · obtain ⟨i1, i2, i3⟩ := ho b e1
      rw [if_neg e1, h3 b]
      show _ = zCell (T b) (I2 b) (P2 b) (G2 b)
      rw [i1, i2, i3]
theorem zU_same {α : Type} (F : Nat → Nat → α) (a k : Nat) (v : α) : zU F a k v a k = v := by simp [zU]
theorem zU_row {α : Type} (F : Nat → Nat → α) {a b : Nat} (k : Nat) (v : α) (h : b ≠ a) : zU F a k v b = F b := by funext j; simp [zU, h]
theorem zU_at {α : Type} (F : Nat → Nat → α) (a : Nat) {k j : Nat} (v : α) (h : j ≠ k) : zU F a k v a j = F a j := by simp [zU, h]
theorem zWf_I {k : Nat} {v : Int} (hw : zWf M (n, sl, T, I, P, G)) (hr : zR v) (hv : M.1 (T a) k v) : zWf M (n, sl, T, zU I a k v, P, G) := by
  obtain ⟨h1, h2, h3⟩ := hw
  refine ⟨?_, ?_, h3⟩
  · intro b j
    show zR (zU I a k v b j)
    unfold zU
    split
    · exact hr
    · exact h1 b j
  · intro b j
    show M.1 (T b) j (zU I a k v b j)
    unfold zU
    split
    · next e => obtain ⟨rfl, rfl⟩ := e; exact hv
    · exact h2 b j
theorem zWf_P {k : Nat} {p : Option Nat} (hw : zWf M (n, sl, T, I, P, G)) (hp : M.2 T (T a) k p) : zWf M (n, sl, T, I, zU P a k p, G) := by
  obtain ⟨h1, h2, h3⟩ := hw
  refine ⟨h1, h2, ?_⟩
  intro b j
  show M.2 T (T b) j (zU P a k p b j)
  unfold zU
  split
  · next e => obtain ⟨rfl, rfl⟩ := e; exact hp
  · exact h3 b j
theorem z_getI {i c k : Nat} (kd : Nat) (hc : mpCode pg y pc = some (.getfield i)) (hp : pc + 3 = pc2) (hf : mpFld pg y i = some (c, k)) (hkd : (zK c)[k]? = some kd) (hk2 : (Nat.beq kd 0 || Nat.beq kd 2) = true) (hT : T a = (1, c, gs)) (hb : ∀ v, v = I a k → zR v → M.1 (1, c, gs) k v → zB M L xs y pc2 lv (.inl v :: r) (n, sl, T, I, P, G) K) : zB M L xs y pc lv (.inr (.inl (some a)) :: r) (n, sl, T, I, P, G) K := by
  subst hp
  intro σ hσ
  have hw := hσ.2.2.2
  have hv : M.1 (1, c, gs) k (I a k) := by have := hw.2.1 a k; rw [← hT]; exact this
  refine z_hp (st2 := .inl (I a k) :: r) hc (fun _ _ => rfl) (fun σ hσ => ⟨σ, ?_, hσ⟩) (hb _ rfl (hw.1 a k) hv) σ hσ
  have hce := hσ.2.2.1 a
  simp only [hT, zCell] at hce
  have ho : mObj σ a = some (c, zFs (zK c) (I a) (P a) (G a)) := by simp only [mObj, hce]
  have hz : zF kd k (I a) (P a) (G a) = .int (Int32.ofInt (I a k)) := by
    simp only [Bool.or_eq_true, Nat.beq_eq] at hk2
    rcases hk2 with rfl | rfl <;> simp [zF]
  simp only [mHeap, mHeapC, List.map_cons, zC, va_rf, ho, hf, Option.bind_some, if_true, zFs_get, hkd, Option.map_some, hz]
theorem z_getP {i c k : Nat} (hc : mpCode pg y pc = some (.getfield i)) (hp : pc + 3 = pc2) (hf : mpFld pg y i = some (c, k)) (hkd : (zK c)[k]? = some 3) (hT : T a = (1, c, gs)) (hb : ∀ p, p = P a k → M.2 T (1, c, gs) k p → zB M L xs y pc2 lv (.inr (.inl p) :: r) (n, sl, T, I, P, G) K) : zB M L xs y pc lv (.inr (.inl (some a)) :: r) (n, sl, T, I, P, G) K := by
  subst hp
  intro σ hσ
  have hw := hσ.2.2.2
  have hv : M.2 T (1, c, gs) k (P a k) := by have := hw.2.2 a k; rw [← hT]; exact this
  refine z_hp (st2 := .inr (.inl (P a k)) :: r) hc (fun _ _ => rfl) (fun σ hσ => ⟨σ, ?_, hσ⟩) (hb _ rfl hv) σ hσ
  have hce := hσ.2.2.1 a
  simp only [hT, zCell] at hce
  have ho : mObj σ a = some (c, zFs (zK c) (I a) (P a) (G a)) := by simp only [mObj, hce]
  have hz : zF 3 k (I a) (P a) (G a) = va_rf (P a k) := by simp [zF]
  simp only [mHeap, mHeapC, List.map_cons, zC, va_rf, ho, hf, Option.bind_some, if_true, zFs_get, hkd, Option.map_some, hz]
theorem z_fitI (v : Int) : mFit .int (.int (Int32.ofInt v)) = true := by simp [mFit, narrow, fits]
theorem z_fitB {v : Int} (h : v = 0 ∨ v = 1) : mFit .boolean (.int (Int32.ofInt v)) = true := by rcases h with rfl | rfl <;> decide
theorem z_fitO (C : String) (p : Option Nat) : mFit (.object C) (va_rf p) = true := by cases p <;> simp [mFit, va_rf, narrow, fits]
theorem z_fitA (C : FieldType) (p : Option Nat) : mFit (.array C) (va_rf p) = true := by cases p <;> simp [mFit, va_rf, narrow, fits]
/-- a field's write: its kind, and a final one only in its class's constructor -/
def zFin (y c k : Nat) : Bool := !(mpFty pg c k).2 || ((mpInfo pg y).2.2.2.2.1 && Nat.beq (mpInfo pg y).2.2.2.2.2 c)
theorem zFin_ok {c k : Nat} (h : zFin y c k = true) : (mpFty pg c k).2 = true → (mpInfo pg y).2.2.2.2.1 = true ∧ (mpInfo pg y).2.2.2.2.2 = c := by
  intro hf
  simp only [zFin, hf, Bool.not_true, Bool.false_or, Bool.and_eq_true, Nat.beq_eq] at h
  exact h
theorem z_putI {i c k : Nat} {v : Int} (hc : mpCode pg y pc = some (.putfield i)) (hp : pc + 3 = pc2) (hf : mpFld pg y i = some (c, k)) (hkd : (zK c)[k]? = some 0) (hty : (mpFty pg c k).1 = .int) (hfin : zFin y c k = true) (hT : T a = (1, c, gs)) (hr : zR v) (hv : M.1 (1, c, gs) k v) (hb : zB M L xs y pc2 lv r (n, sl, T, zU I a k v, P, G) K) : zB M L xs y pc lv (.inl v :: .inr (.inl (some a)) :: r) (n, sl, T, I, P, G) K := by
  subst hp
  refine z_hp (st2 := r) (h2 := (n, sl, T, zU I a k v, P, G)) hc (fun _ _ => rfl) (fun σ hσ => ⟨mPut σ a (.inr (c, (zFs (zK c) (I a) (P a) (G a)).set k (.int (Int32.ofInt v)))), ?_, ?_⟩) hb
  · have hce := hσ.2.2.1 a
    simp only [hT, zCell] at hce
    have ho : mObj σ a = some (c, zFs (zK c) (I a) (P a) (G a)) := by simp only [mObj, hce]
    have hlt : k < (zFs (zK c) (I a) (P a) (G a)).length := by rw [zFs_len]; exact (List.getElem?_eq_some_iff.mp hkd).1
    simp only [mHeap, mHeapC, List.map_cons, zC, va_rf, ho, hf, Option.bind_some]
    rw [if_pos ⟨trivial, hlt, by rw [hty]; exact z_fitI v, zFin_ok hfin⟩]
  · have hce := hσ.2.2.1 a
    simp only [hT, zCell] at hce
    refine zA_put hσ hce (by simp [mSz]) ?_ (fun b hb => ⟨zU_row I k v hb, rfl, rfl⟩) (zWf_I hσ.2.2.2 hr (by rw [hT]; exact hv))
    simp only [hT, zCell]
    rw [zFs_set hkd (I2 := zU I a k v a) (P2 := P a) (G2 := G a) (by simp [zF, zU]) (fun i k2 hi => by simp [zF, zU, hi])]
theorem z_putI_any {i c k : Nat} {v : Int} (hc : mpCode pg y pc = some (.putfield i)) (hp : pc + 3 = pc2) (hf : mpFld pg y i = some (c, k)) (hkd : (zK c)[k]? = some 0) (hty : (mpFty pg c k).1 = .int) (hfin : zFin y c k = true) (hT : T a = (1, c, gs)) (hv : ∀ u, zR u → M.1 (1, c, gs) k u) (hb : ∀ u, zR u → zB M L xs y pc2 lv r (n, sl, T, zU I a k u, P, G) K) : zB M L xs y pc lv (.inl v :: .inr (.inl (some a)) :: r) (n, sl, T, I, P, G) K := by
  have hr : zR (Int32.ofInt v).toInt := ⟨Int32.le_toInt _, Int.le_of_lt_add_one (Int32.toInt_lt _)⟩
  have e := z_putI (M := M) (L := L) (xs := xs) (lv := lv) (r := r) (n := n) (sl := sl) (P := P) (G := G) (I := I) (K := K) (v := (Int32.ofInt v).toInt) hc hp hf hkd hty hfin hT hr (hv _ hr) (hb _ hr)
  intro σ hσ
  have := e σ hσ
  simpa only [List.map_cons, zC, Int32.ofInt_toInt] using this
theorem z_putZ {i c k : Nat} {v : Int} (hc : mpCode pg y pc = some (.putfield i)) (hp : pc + 3 = pc2) (hf : mpFld pg y i = some (c, k)) (hkd : (zK c)[k]? = some 2) (hty : (mpFty pg c k).1 = .boolean) (hfin : zFin y c k = true) (hT : T a = (1, c, gs)) (h01 : v = 0 ∨ v = 1) (hv : M.1 (1, c, gs) k v) (hb : zB M L xs y pc2 lv r (n, sl, T, zU I a k v, P, G) K) : zB M L xs y pc lv (.inl v :: .inr (.inl (some a)) :: r) (n, sl, T, I, P, G) K := by
  subst hp
  refine z_hp (st2 := r) (h2 := (n, sl, T, zU I a k v, P, G)) hc (fun _ _ => rfl) (fun σ hσ => ⟨mPut σ a (.inr (c, (zFs (zK c) (I a) (P a) (G a)).set k (.int (Int32.ofInt v)))), ?_, ?_⟩) hb
  · have hce := hσ.2.2.1 a
    simp only [hT, zCell] at hce
    have ho : mObj σ a = some (c, zFs (zK c) (I a) (P a) (G a)) := by simp only [mObj, hce]
    have hlt : k < (zFs (zK c) (I a) (P a) (G a)).length := by rw [zFs_len]; exact (List.getElem?_eq_some_iff.mp hkd).1
    simp only [mHeap, mHeapC, List.map_cons, zC, va_rf, ho, hf, Option.bind_some]
    rw [if_pos ⟨trivial, hlt, by rw [hty]; exact z_fitB h01, zFin_ok hfin⟩]
  · have hce := hσ.2.2.1 a
    simp only [hT, zCell] at hce
    refine zA_put hσ hce (by simp [mSz]) ?_ (fun b hb => ⟨zU_row I k v hb, rfl, rfl⟩) (zWf_I hσ.2.2.2 (by omega) (by rw [hT]; exact hv))
    simp only [hT, zCell]
    rw [zFs_set hkd (I2 := zU I a k v a) (P2 := P a) (G2 := G a) (by simp [zF, zU]) (fun i k2 hi => by simp [zF, zU, hi])]
theorem z_putP {i c k : Nat} {p : Option Nat} (hc : mpCode pg y pc = some (.putfield i)) (hp : pc + 3 = pc2) (hf : mpFld pg y i = some (c, k)) (hkd : (zK c)[k]? = some 3) (hty : mFit (mpFty pg c k).1 (va_rf p) = true) (hfin : zFin y c k = true) (hT : T a = (1, c, gs)) (hv : M.2 T (1, c, gs) k p) (hb : zB M L xs y pc2 lv r (n, sl, T, I, zU P a k p, G) K) : zB M L xs y pc lv (.inr (.inl p) :: .inr (.inl (some a)) :: r) (n, sl, T, I, P, G) K := by
  subst hp
  refine z_hp (st2 := r) (h2 := (n, sl, T, I, zU P a k p, G)) hc (fun _ _ => rfl) (fun σ hσ => ⟨mPut σ a (.inr (c, (zFs (zK c) (I a) (P a) (G a)).set k (va_rf p))), ?_, ?_⟩) hb
  · have hce := hσ.2.2.1 a
    simp only [hT, zCell] at hce
    have ho : mObj σ a = some (c, zFs (zK c) (I a) (P a) (G a)) := by simp only [mObj, hce]
    have hlt : k < (zFs (zK c) (I a) (P a) (G a)).length := by rw [zFs_len]; exact (List.getElem?_eq_some_iff.mp hkd).1
    simp only [mHeap, mHeapC, List.map_cons, zC]
    show (mObj σ a).bind _ = _
    simp only [ho, hf, Option.bind_some]
    rw [if_pos ⟨trivial, hlt, hty, zFin_ok hfin⟩]
  · have hce := hσ.2.2.1 a
    simp only [hT, zCell] at hce
    refine zA_put hσ hce (by simp [mSz]) ?_ (fun b hb => ⟨rfl, zU_row P k p hb, rfl⟩) (zWf_P hσ.2.2.2 (by rw [hT]; exact hv))
    simp only [hT, zCell]
    rw [zFs_set hkd (I2 := I a) (P2 := zU P a k p a) (G2 := G a) (by simp [zF, zU]) (fun i k2 hi => by simp [zF, zU, hi])]
theorem z_iald {i len : Int} (hc : mpCode pg y pc = some .iaload) (hp : pc + 1 = pc2) (hT : T a = (2, 0, len :: gs)) (h0 : 0 ≤ i) (h1 : i < len) (hl : len ≤ 2147483647) (hb : ∀ v, v = I a i.toNat → zR v → M.1 (2, 0, len :: gs) i.toNat v → zB M L xs y pc2 lv (.inl v :: r) (n, sl, T, I, P, G) K) : zB M L xs y pc lv (.inl i :: .inr (.inl (some a)) :: r) (n, sl, T, I, P, G) K := by
  subst hp
  intro σ hσ
  have hw := hσ.2.2.2
  have hv : M.1 (2, 0, len :: gs) i.toNat (I a i.toNat) := by have := hw.2.1 a i.toNat; rw [← hT]; exact this
  refine z_hp (st2 := .inl (I a i.toNat) :: r) hc (fun _ _ => rfl) (fun σ hσ => ⟨σ, ?_, hσ⟩) (hb _ rfl (hw.1 a i.toNat) hv) σ hσ
  have hce := hσ.2.2.1 a
  simp only [hT, zCell] at hce
  obtain ⟨k, rfl, hk⟩ := mCell_pos hce
  have ho : mInts L xs σ (k + 1) = some (len.toNat, fun j => Int32.ofInt (I (k + 1) j)) := by
    simp only [mInts, hk, zAr]; simp
  simp only [mHeap, mHeapC, List.map_cons, zC, va_rf, mIA, Option.bind_some, ho, z_in (e := i) (n := len) (by omega) h0 h1, if_true, z_ix (e := i) (by omega)]
theorem z_bald {i len : Int} (hc : mpCode pg y pc = some .baload) (hp : pc + 1 = pc2) (hT : T a = (2, 2, len :: gs)) (h0 : 0 ≤ i) (h1 : i < len) (hl : len ≤ 2147483647) (hb : ∀ v, v = I a i.toNat → zR v → M.1 (2, 2, len :: gs) i.toNat v → zB M L xs y pc2 lv (.inl v :: r) (n, sl, T, I, P, G) K) : zB M L xs y pc lv (.inl i :: .inr (.inl (some a)) :: r) (n, sl, T, I, P, G) K := by
  subst hp
  intro σ hσ
  have hw := hσ.2.2.2
  have hv : M.1 (2, 2, len :: gs) i.toNat (I a i.toNat) := by have := hw.2.1 a i.toNat; rw [← hT]; exact this
  refine z_hp (st2 := .inl (I a i.toNat) :: r) hc (fun _ _ => rfl) (fun σ hσ => ⟨σ, ?_, hσ⟩) (hb _ rfl (hw.1 a i.toNat) hv) σ hσ
  have hce := hσ.2.2.1 a
  simp only [hT, zCell] at hce
  have ho : mBools σ a = some (len.toNat, fun j => Int32.ofInt (I a j)) := by
    simp only [mBools, hce, zAr]; simp
  simp only [mHeap, mHeapC, List.map_cons, zC, va_rf, mIA, Option.bind_some, ho, z_in (e := i) (n := len) (by omega) h0 h1, if_true, z_ix (e := i) (by omega)]
theorem z_lald {i len : Int} (hc : mpCode pg y pc = some .laload) (hp : pc + 1 = pc2) (hT : T a = (2, 1, len :: gs)) (h0 : 0 ≤ i) (h1 : i < len) (hl : len ≤ 2147483647) (hb : ∀ v, v = G a i.toNat → zB M L xs y pc2 lv (.inr (.inr v) :: r) (n, sl, T, I, P, G) K) : zB M L xs y pc lv (.inl i :: .inr (.inl (some a)) :: r) (n, sl, T, I, P, G) K := by
  subst hp
  refine z_hp (st2 := .inr (.inr (G a i.toNat)) :: r) hc (fun _ _ => rfl) (fun σ hσ => ⟨σ, ?_, hσ⟩) (hb _ rfl)
  have hce := hσ.2.2.1 a
  simp only [hT, zCell] at hce
  have ho : mLongs σ a = some (len.toNat, fun j => Int64.ofInt (G a j)) := by
    simp only [mLongs, hce, zAr]; simp
  simp only [mHeap, mHeapC, List.map_cons, zC, va_rf, mIA, Option.bind_some, ho, z_in (e := i) (n := len) (by omega) h0 h1, if_true, z_ix (e := i) (by omega)]
theorem z_refs {σ : List MC} {t : Nat} {len : Int} (hσ : zA M σ (n, sl, T, I, P, G)) (hT : T a = (2, t, len :: gs)) (ht : (Nat.ble 3 t && Nat.blt t 10) = true) : mRefs σ a = some (t, len.toNat, P a) := by
  simp only [Bool.and_eq_true, Nat.ble_eq] at ht
  have h3 := ht.1
  have h10 := z_blt ht.2
  have hce := hσ.2.2.1 a
  simp only [hT, zCell] at hce
  have e : zAr t (I a) (P a) (G a) = .inr (.inr (.inr (.inr (P a)))) := by
    unfold zAr; rw [if_neg (by omega), if_pos h3]
  rw [e] at hce
  simp only [mRefs, hce]
  rw [if_pos ⟨h3, h10⟩]
theorem z_aald {i len : Int} {t : Nat} (hc : mpCode pg y pc = some .aaload) (hp : pc + 1 = pc2) (hT : T a = (2, t, len :: gs)) (ht : (Nat.ble 3 t && Nat.blt t 10) = true) (h0 : 0 ≤ i) (h1 : i < len) (hl : len ≤ 2147483647) (hb : ∀ p, p = P a i.toNat → M.2 T (2, t, len :: gs) i.toNat p → zB M L xs y pc2 lv (.inr (.inl p) :: r) (n, sl, T, I, P, G) K) : zB M L xs y pc lv (.inl i :: .inr (.inl (some a)) :: r) (n, sl, T, I, P, G) K := by
  subst hp
  intro σ hσ
  have hw := hσ.2.2.2
  have hv : M.2 T (2, t, len :: gs) i.toNat (P a i.toNat) := by have := hw.2.2 a i.toNat; rw [← hT]; exact this
  refine z_hp (st2 := .inr (.inl (P a i.toNat)) :: r) hc (fun _ _ => rfl) (fun σ hσ => ⟨σ, ?_, hσ⟩) (hb _ rfl hv) σ hσ
  simp only [mHeap, mHeapC, List.map_cons, zC, va_rf, mIA, Option.bind_some, z_refs hσ hT ht, z_in (e := i) (n := len) (by omega) h0 h1, if_true, z_ix (e := i) (by omega)]
theorem z_iast {i len v : Int} (hc : mpCode pg y pc = some .iastore) (hp : pc + 1 = pc2) (hT : T a = (2, 0, len :: gs)) (h0 : 0 ≤ i) (h1 : i < len) (hl : len ≤ 2147483647) (hr : zR v) (hv : M.1 (2, 0, len :: gs) i.toNat v) (hb : zB M L xs y pc2 lv r (n, sl, T, zU I a i.toNat v, P, G) K) : zB M L xs y pc lv (.inl v :: .inl i :: .inr (.inl (some a)) :: r) (n, sl, T, I, P, G) K := by
  subst hp
  refine z_hp (st2 := r) (h2 := (n, sl, T, zU I a i.toNat v, P, G)) hc (fun _ _ => rfl) (fun σ hσ => ⟨mPut σ a (.inl (0, len.toNat, .inl (upd (fun j => Int32.ofInt (I a j)) i.toNat (Int32.ofInt v)))), ?_, ?_⟩) hb
  · have hce := hσ.2.2.1 a
    simp only [hT, zCell] at hce
    have ho : mCInts σ a = some (len.toNat, fun j => Int32.ofInt (I a j)) := by
      simp only [mCInts, hce, zAr]; simp
    simp only [mHeap, mHeapC, List.map_cons, zC, va_rf, Option.bind_some, ho, z_in (e := i) (n := len) (by omega) h0 h1, if_true, z_ix (e := i) (by omega)]
  · have hce := hσ.2.2.1 a
    simp only [hT, zCell] at hce
    refine zA_put hσ hce rfl ?_ (fun b hb => ⟨zU_row I _ v hb, rfl, rfl⟩) (zWf_I hσ.2.2.2 hr (by rw [hT]; exact hv))
    simp only [hT, zCell, zAr]
    simp only [Nat.zero_ne_one, if_false, show ¬ (3 ≤ 0) from by omega]
    congr 5
    funext j
    by_cases e : j = i.toNat <;> simp [upd, zU, e]
theorem z_iast_any {i len v : Int} (hc : mpCode pg y pc = some .iastore) (hp : pc + 1 = pc2) (hT : T a = (2, 0, len :: gs)) (h0 : 0 ≤ i) (h1 : i < len) (hl : len ≤ 2147483647) (hv : ∀ u, zR u → M.1 (2, 0, len :: gs) i.toNat u) (hb : ∀ u, zR u → zB M L xs y pc2 lv r (n, sl, T, zU I a i.toNat u, P, G) K) : zB M L xs y pc lv (.inl v :: .inl i :: .inr (.inl (some a)) :: r) (n, sl, T, I, P, G) K := by
  have hr : zR (Int32.ofInt v).toInt := ⟨Int32.le_toInt _, Int.le_of_lt_add_one (Int32.toInt_lt _)⟩
  have e := z_iast (M := M) (L := L) (xs := xs) (lv := lv) (r := r) (n := n) (sl := sl) (P := P) (G := G) (I := I) (K := K) (v := (Int32.ofInt v).toInt) hc hp hT h0 h1 hl hr (hv _ hr) (hb _ hr)
  intro σ hσ
  have := e σ hσ
  simpa only [List.map_cons, zC, Int32.ofInt_toInt] using this
theorem z_bast {i len v : Int} (hc : mpCode pg y pc = some .bastore) (hp : pc + 1 = pc2) (hT : T a = (2, 2, len :: gs)) (h0 : 0 ≤ i) (h1 : i < len) (hl : len ≤ 2147483647) (h01 : v = 0 ∨ v = 1) (hv : M.1 (2, 2, len :: gs) i.toNat v) (hb : zB M L xs y pc2 lv r (n, sl, T, zU I a i.toNat v, P, G) K) : zB M L xs y pc lv (.inl v :: .inl i :: .inr (.inl (some a)) :: r) (n, sl, T, I, P, G) K := by
  subst hp
  refine z_hp (st2 := r) (h2 := (n, sl, T, zU I a i.toNat v, P, G)) hc (fun _ _ => rfl) (fun σ hσ => ⟨mPut σ a (.inl (2, len.toNat, .inl (upd (fun j => Int32.ofInt (I a j)) i.toNat (Int32.ofInt v)))), ?_, ?_⟩) hb
  · have hce := hσ.2.2.1 a
    simp only [hT, zCell] at hce
    have ho : mBools σ a = some (len.toNat, fun j => Int32.ofInt (I a j)) := by
      simp only [mBools, hce, zAr]; simp
    have hn : vp_nar .boolean (Int32.ofInt v) = Int32.ofInt v := by rcases h01 with rfl | rfl <;> decide
    simp only [mHeap, mHeapC, List.map_cons, zC, va_rf, Option.bind_some, ho, z_in (e := i) (n := len) (by omega) h0 h1, if_true, z_ix (e := i) (by omega), hn]
  · have hce := hσ.2.2.1 a
    simp only [hT, zCell] at hce
    refine zA_put hσ hce rfl ?_ (fun b hb => ⟨zU_row I _ v hb, rfl, rfl⟩) (zWf_I hσ.2.2.2 (by omega) (by rw [hT]; exact hv))
    simp only [hT, zCell, zAr]
    simp only [show ¬ (2 = 1) from by omega, if_false, show ¬ (3 ≤ 2) from by omega]
    congr 5
    funext j
    by_cases e : j = i.toNat <;> simp [upd, zU, e]
theorem z_last {i len v : Int} (hc : mpCode pg y pc = some .lastore) (hp : pc + 1 = pc2) (hT : T a = (2, 1, len :: gs)) (h0 : 0 ≤ i) (h1 : i < len) (hl : len ≤ 2147483647) (hb : zB M L xs y pc2 lv r (n, sl, T, I, P, zU G a i.toNat v) K) : zB M L xs y pc lv (.inr (.inr v) :: .inl i :: .inr (.inl (some a)) :: r) (n, sl, T, I, P, G) K := by
  subst hp
  refine z_hp (st2 := r) (h2 := (n, sl, T, I, P, zU G a i.toNat v)) hc (fun _ _ => rfl) (fun σ hσ => ⟨mPut σ a (.inl (1, len.toNat, .inr (.inl (vp_updL (fun j => Int64.ofInt (G a j)) i.toNat (Int64.ofInt v))))), ?_, ?_⟩) hb
  · have hce := hσ.2.2.1 a
    simp only [hT, zCell] at hce
    have ho : mLongs σ a = some (len.toNat, fun j => Int64.ofInt (G a j)) := by
      simp only [mLongs, hce, zAr]; simp
    simp only [mHeap, mHeapC, List.map_cons, zC, va_rf, Option.bind_some, ho, z_in (e := i) (n := len) (by omega) h0 h1, if_true, z_ix (e := i) (by omega)]
  · have hce := hσ.2.2.1 a
    simp only [hT, zCell] at hce
    have hw := hσ.2.2.2
    refine zA_put hσ hce rfl ?_ (fun b hb => ⟨rfl, rfl, zU_row G _ v hb⟩) ⟨hw.1, hw.2.1, hw.2.2⟩
    simp only [hT, zCell, zAr, if_true]
    congr 6
    funext j
    by_cases e : j = i.toNat <;> simp [vp_updL, zU, e]
theorem z_aast {i len : Int} {t : Nat} {p : Option Nat} (hc : mpCode pg y pc = some .aastore) (hp : pc + 1 = pc2) (hT : T a = (2, t, len :: gs)) (ht : (Nat.ble 3 t && Nat.blt t 10) = true) (h0 : 0 ≤ i) (h1 : i < len) (hl : len ≤ 2147483647) (he : ∀ b, p = some b → ∃ e, zCell (T b) (I b) (P b) (G b) = some e ∧ mpElem pg t e = true) (hv : M.2 T (2, t, len :: gs) i.toNat p) (hb : zB M L xs y pc2 lv r (n, sl, T, I, zU P a i.toNat p, G) K) : zB M L xs y pc lv (.inr (.inl p) :: .inl i :: .inr (.inl (some a)) :: r) (n, sl, T, I, P, G) K := by
  subst hp
  refine z_hp (st2 := r) (h2 := (n, sl, T, I, zU P a i.toNat p, G)) hc (fun _ _ => rfl) (fun σ hσ => ⟨mPut σ a (.inl (t, len.toNat, .inr (.inr (.inr (.inr (va_up (P a) i.toNat p)))))), ?_, ?_⟩) hb
  · cases p with
    | none => simp only [mHeap, mHeapC, List.map_cons, zC, va_rf, Option.bind_some, z_refs hσ hT ht, z_in (e := i) (n := len) (by omega) h0 h1, if_true, z_ix (e := i) (by omega)]
    | some b =>
      obtain ⟨e, he1, he2⟩ := he b rfl
      have hce := hσ.2.2.1 b
      have hce : mCell σ b = some e := by rw [hce]; exact he1
      simp only [mHeap, mHeapC, List.map_cons, zC, va_rf, Option.bind_some, z_refs hσ hT ht, hce, z_in (e := i) (n := len) (by omega) h0 h1, he2, and_self, if_true, z_ix (e := i) (by omega)]
  · have hce := hσ.2.2.1 a
    simp only [hT, zCell] at hce
    refine zA_put hσ hce rfl ?_ (fun b hb => ⟨rfl, zU_row P _ p hb, rfl⟩) (zWf_P hσ.2.2.2 (by rw [hT]; exact hv))
    simp only [Bool.and_eq_true, Nat.ble_eq] at ht
    have h3 := ht.1
    simp only [hT, zCell, zAr]
    rw [if_neg (by omega), if_pos h3]
    congr 8
    funext j
    by_cases e : j = i.toNat <;> simp [va_up, zU, e]
theorem z_alen {len : Int} {t : Nat} (hc : mpCode pg y pc = some .arraylength) (hp : pc + 1 = pc2) (hT : T a = (2, t, len :: gs)) (ht : Nat.blt t 10 = true) (h0 : 0 ≤ len) (hb : zB M L xs y pc2 lv (.inl len :: r) (n, sl, T, I, P, G) K) : zB M L xs y pc lv (.inr (.inl (some a)) :: r) (n, sl, T, I, P, G) K := by
  subst hp
  refine z_hp (st2 := .inl len :: r) hc (fun _ _ => rfl) (fun σ hσ => ⟨σ, ?_, hσ⟩) hb
  have ht := z_blt ht
  have hce := hσ.2.2.1 a
  simp only [hT, zCell] at hce
  obtain ⟨k, rfl, hk⟩ := mCell_pos hce
  have ho : mLong σ L (k + 1) = some len.toNat := by simp only [mLong, hk, ht, if_true]
  have e : Int32.ofNat len.toNat = Int32.ofInt len := by rw [← Int32.ofInt_eq_ofNat]; congr 1; omega
  simp only [mHeap, mHeapC, List.map_cons, zC, va_rf, ho, Option.map_some, e]
theorem z_max {i : Nat} {x z : Int} (hc : mpCode pg y pc = some (.invokestatic i)) (hp : pc + 3 = pc2) (hi : mpInv pg y i = some (7, 0, 2)) (hk : (Nat.ble ((r.map zCat).sum) 8 && (Nat.ble 1 (mpInfo pg y).2.1 && Nat.ble 30 (mpInfo pg y).2.2.1)) = true) (hx : zR x) (hz : zR z) (hb : ∀ v, (x < z → v = z) → (z ≤ x → v = x) → zB M L xs y pc2 lv (.inl v :: r) (n, sl, T, I, P, G) K) : zB M L xs y pc lv (.inl z :: .inl x :: r) (n, sl, T, I, P, G) K := by
  subst hp
  simp only [Bool.and_eq_true, Nat.ble_eq] at hk
  refine z_hp (st2 := .inl (if x < z then z else x) :: r) hc (fun st σ => by simp [mCallOf, mCallOfC, hi]) (fun σ hσ => ⟨σ, ?_, hσ⟩) (hb _ (fun h => by rw [if_pos h]) (fun h => by rw [if_neg (by omega)]))
  have hcat : ((r.map zC).map (fun v => v.category)).sum ≤ 8 := by rw [List.map_map, show ((fun v => v.category) ∘ zC) = zCat from funext zC_cat]; exact hk.1
  simp only [mHeap, mHeapC, List.map_cons, zC, hi, Option.bind_some, show ¬ (7 = 6) from by omega, if_false, if_true]
  rw [if_pos ⟨hcat, hk.2.1, hk.2.2⟩]
  simp only [z_lt hx hz]
  by_cases e : x < z <;> simp [e]
theorem z_min {i : Nat} {x z : Int} (hc : mpCode pg y pc = some (.invokestatic i)) (hp : pc + 3 = pc2) (hi : mpInv pg y i = some (8, 0, 2)) (hk : (Nat.ble ((r.map zCat).sum) 8 && (Nat.ble 1 (mpInfo pg y).2.1 && Nat.ble 30 (mpInfo pg y).2.2.1)) = true) (hx : zR x) (hz : zR z) (hb : ∀ v, (z < x → v = z) → (x ≤ z → v = x) → zB M L xs y pc2 lv (.inl v :: r) (n, sl, T, I, P, G) K) : zB M L xs y pc lv (.inl z :: .inl x :: r) (n, sl, T, I, P, G) K := by
  subst hp
  simp only [Bool.and_eq_true, Nat.ble_eq] at hk
  refine z_hp (st2 := .inl (if z < x then z else x) :: r) hc (fun st σ => by simp [mCallOf, mCallOfC, hi]) (fun σ hσ => ⟨σ, ?_, hσ⟩) (hb _ (fun h => by rw [if_pos h]) (fun h => by rw [if_neg (by omega)]))
  have hcat : ((r.map zC).map (fun v => v.category)).sum ≤ 8 := by rw [List.map_map, show ((fun v => v.category) ∘ zC) = zCat from funext zC_cat]; exact hk.1
  simp only [mHeap, mHeapC, List.map_cons, zC, hi, Option.bind_some, show ¬ (8 = 6) from by omega, show ¬ (8 = 7) from by omega, if_false, if_true]
  rw [if_pos ⟨hcat, hk.2.1, hk.2.2⟩]
  simp only [z_lt hz hx]
  by_cases e : z < x <;> simp [e]
end ZH
