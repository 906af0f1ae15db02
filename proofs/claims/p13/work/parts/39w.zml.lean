/-! lines are made -/
def zIn (n a k : Nat) : Prop := a ≤ n ∧ k = k
def zIm (n a k : Nat) : Prop := a ≤ n ∧ ¬ (a = 9 ∧ k = 16)
/-- how many places of a row, from a on, have what f counts -/
def zCt (f : Int → Int) (r : Nat → Int) (a : Nat) : Nat → Int
  | 0 => 0
  | m + 1 => zCt f r a m + f (r (a + m))
def zOne (v : Int) : Int := if v = 6 ∨ v = 7 then 0 else 1
def zSev (v : Int) : Int := if v = 7 then 1 else 0
theorem zOne_b (v : Int) : 0 ≤ zOne v ∧ zOne v ≤ 1 := by unfold zOne; split <;> omega
theorem zSev_b (v : Int) : 0 ≤ zSev v ∧ zSev v ≤ 1 := by unfold zSev; split <;> omega
theorem zCt_le {f : Int → Int} {r : Nat → Int} {a : Nat} (hf : ∀ v, 0 ≤ f v ∧ f v ≤ 1) {m : Nat} : ∀ {k : Nat}, m ≤ k → zCt f r a m ≤ zCt f r a k
  | 0, h => by rw [show m = 0 by omega]; exact Int.le_refl _
  | k + 1, h => by
    by_cases e : m = k + 1
    · rw [e]; exact Int.le_refl _
    · have h1 := zCt_le (r := r) (a := a) hf (m := m) (k := k) (by omega)
      have h2 := hf (r (a + k))
      show _ ≤ zCt f r a k + f (r (a + k))
      omega
theorem zCt_b {f : Int → Int} {r : Nat → Int} {a : Nat} (hf : ∀ v, 0 ≤ f v ∧ f v ≤ 1) : ∀ k : Nat, 0 ≤ zCt f r a k ∧ zCt f r a k ≤ k
  | 0 => by show (0 : Int) ≤ 0 ∧ (0 : Int) ≤ _; omega
  | k + 1 => by
    have h1 := zCt_b (r := r) (a := a) hf k
    have h2 := hf (r (a + k))
    show 0 ≤ zCt f r a k + f (r (a + k)) ∧ zCt f r a k + f (r (a + k)) ≤ _
    omega
theorem zCt_eq {f : Int → Int} {r r2 : Nat → Int} {a : Nat} (h : ∀ j, r2 j = r j) : ∀ k, zCt f r2 a k = zCt f r a k
  | 0 => rfl
  | k + 1 => by
    show zCt f r2 a k + f (r2 (a + k)) = zCt f r a k + f (r (a + k))
    rw [zCt_eq h k, h]
/-- a step on: at k -/
theorem zCt_s {f : Int → Int} {r : Nat → Int} {a k s v : Int} (h0 : 0 ≤ a ∧ a ≤ k) (hs : s = zCt f r a.toNat (k - a).toNat) (hv : v = r k.toNat) : s + f v = zCt f r a.toNat (k + 1 - a).toNat := by
  rw [show (k + 1 - a).toNat = (k - a).toNat + 1 by omega]
  show _ = zCt f r a.toNat (k - a).toNat + f (r (a.toNat + (k - a).toNat))
  rw [← hs, hv, show a.toNat + (k - a).toNat = k.toNat by omega]
theorem zCt_lt {f : Int → Int} {r : Nat → Int} {a k w s v : Int} (hf : ∀ v, 0 ≤ f v ∧ f v ≤ 1) (h0 : 0 ≤ a ∧ a ≤ k ∧ k < w) (hs : s = zCt f r a.toNat (k - a).toNat) (hv : v = r k.toNat) (h1 : f v = 1) : s + 1 ≤ zCt f r a.toNat (w - a).toNat := by
  have e := zCt_s (f := f) ⟨h0.1, h0.2.1⟩ hs hv
  have l := zCt_le (f := f) (r := r) (a := a.toNat) hf (m := (k + 1 - a).toNat) (k := (w - a).toNat) (by omega)
  omega
theorem zOne_1 {v : Int} (h : v ≠ 6 ∧ v ≠ 7) : zOne v = 1 := by unfold zOne; rw [if_neg (by omega)]
theorem zOne_0 {v : Int} (h : v = 6 ∨ v = 7) : zOne v = 0 := by unfold zOne; rw [if_pos h]
theorem zSev_1 {v : Int} (h : v = 7) : zSev v = 1 := by unfold zSev; rw [if_pos h]
theorem zSev_0 {v : Int} (h : v ≠ 7) : zSev v = 0 := by unfold zSev; rw [if_neg h]
def zJf (I I2 : Nat → Nat → Int) : Prop := ∀ a k, ¬ (a = 9 ∧ (k = 2 ∨ 14 ≤ k)) → I2 a k = I a k
theorem zJf_rf {I : Nat → Nat → Int} : zJf I I := fun _ _ _ => rfl
theorem zJf_u {I I2 : Nat → Nat → Int} {k : Nat} {v : Int} (h : zJf I I2) (hk : k = 2 ∨ 14 ≤ k) : zJf I (zU I2 9 k v) := fun a j hj => by
  have e : ¬ (a = 9 ∧ j = k) := by omega
  rw [← h a j hj]; simp [zU, e]
/-- a row that is filled while more is made -/
def zRq (T : Nat → zT) (P : Nat → Nat → Option Nat) (ar : Nat) (j : Int) : Prop := ∀ i : Nat, (i : Int) < j → zE T (P ar i) zSS
theorem zRq_m {T T2 : Nat → zT} {P P2 : Nat → Nat → Option Nat} {ar : Nat} {j : Int} (h : zRq T P ar j) (hm : zTm T T2) (hp : ∀ i, P2 ar i = P ar i) : zRq T2 P2 ar j := fun i hi => by
  rw [hp]; exact zE_mono zSS_f hm (h i hi)
theorem zRq_s {T : Nat → zT} {P : Nat → Nat → Option Nat} {ar : Nat} {j : Int} {p : Option Nat} (h : zRq T P ar j) (h0 : 0 ≤ j) (hp : zE T p zSS) : zRq T (zU P ar j.toNat p) ar (j + 1) := fun i hi => by
  by_cases e : i = j.toNat
  · subst e; rw [zU_same]; exact hp
  · rw [zU_at _ _ _ e]; exact h i (by omega)
theorem zLine_I {f : Nat → Int} : ∀ k, zok (1, 4, [1]) k (f k) := fun _ => True.intro
theorem zLine_P {T : Nat → zT} {f : Nat → Option Nat} {u m l : Int} {fo q r : Nat} (h1 : f 1 = some fo) (h5 : f 5 = some q) (h6 : f 6 = some r) (h9 : 91 ≤ fo ∧ 91 ≤ q ∧ 91 ≤ r) (tf : T fo = (1, 3, [u])) (tq : T q = (2, 9, [m, 2])) (tr : T r = (2, 0, [l, 9])) (hu : 0 ≤ u ∧ u ≤ 24) (hm : 0 ≤ m ∧ m ≤ 41) (hl : 0 ≤ l ∧ l ≤ 40) : ∀ k, zop T (1, 4, [1]) k (f k) := by
  intro k
  show zopC T 4 1 [] k (f k)
  match k with
  | 0 => trivial
  | 1 => exact ⟨fo, h1, h9.1, u, tf, hu⟩
  | 2 => trivial
  | 3 => trivial
  | 4 => trivial
  | 5 => exact ⟨q, h5, h9.2.1, m, tq, hm⟩
  | 6 => exact ⟨r, h6, h9.2.2, l, tr, hl⟩
  | _ + 7 => trivial
