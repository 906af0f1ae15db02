/-! pages: notes as bits -/
def zPn (b : Nat) : Nat := b % 2 + b / 2 % 2 + b / 4 % 2 + b / 8 % 2 + b / 16 % 2 + b / 32 % 2 + b / 64 % 2 + b / 128 % 2 + b / 256 % 2 + b / 512 % 2 + b / 1024 % 2 + b / 2048 % 2
def zPop (b : Int) : Int := ((zPn b.toNat : Nat) : Int)
def zPck (b p : Nat) : Bool := !(Nat.beq (Nat.land b (2 ^ p)) 0) || (Nat.blt (Nat.lor b (2 ^ p)) 4096 && Nat.beq (zPn (Nat.lor b (2 ^ p))) (zPn b + 1))
noncomputable def zPal : Nat → Nat → Bool := fun n p => Nat.rec (motive := fun _ => Bool) true (fun b ih => zPck b p && ih) n
theorem zPal_at {n p : Nat} (h : zPal n p = true) : ∀ b, b < n → zPck b p = true := by
  induction n with
  | zero => intro b hb; omega
  | succ n ih =>
    intro b hb
    have h : (zPck n p && zPal n p) = true := h
    simp only [Bool.and_eq_true] at h
    by_cases e : b = n
    · subst e; exact h.1
    · exact ih h.2 b (by omega)
theorem zPal_all : (zPal 4096 0 && (zPal 4096 1 && (zPal 4096 2 && (zPal 4096 3 && (zPal 4096 4 && (zPal 4096 5 && (zPal 4096 6 && (zPal 4096 7 && (zPal 4096 8 && (zPal 4096 9 && (zPal 4096 10 && zPal 4096 11))))))))))) = true := by decide +kernel
theorem zPn_bit (b : Fin 4096) (p : Fin 12) (hz : (b.val &&& 2 ^ p.val) = 0) : (b.val ||| 2 ^ p.val) < 4096 ∧ zPn (b.val ||| 2 ^ p.val) = zPn b.val + 1 := by
  have h := zPal_all
  simp only [Bool.and_eq_true] at h
  have hp : zPal 4096 p.val = true := by
    obtain ⟨p, hp⟩ := p
    show zPal 4096 p = true
    match p, hp with
    | 0, _ => exact h.1
    | 1, _ => exact h.2.1
    | 2, _ => exact h.2.2.1
    | 3, _ => exact h.2.2.2.1
    | 4, _ => exact h.2.2.2.2.1
    | 5, _ => exact h.2.2.2.2.2.1
    | 6, _ => exact h.2.2.2.2.2.2.1
    | 7, _ => exact h.2.2.2.2.2.2.2.1
    | 8, _ => exact h.2.2.2.2.2.2.2.2.1
    | 9, _ => exact h.2.2.2.2.2.2.2.2.2.1
    | 10, _ => exact h.2.2.2.2.2.2.2.2.2.2.1
    | 11, _ => exact h.2.2.2.2.2.2.2.2.2.2.2
    | p + 12, hp => omega
  have hc := zPal_at hp b.val b.isLt
  have hz2 : Nat.land b.val (2 ^ p.val) = 0 := hz
  unfold zPck at hc
  rw [hz2] at hc
  simp only [Nat.beq_refl, Bool.not_true, Bool.false_or, Bool.and_eq_true, Nat.beq_eq] at hc
  exact ⟨z_blt hc.1, hc.2⟩
theorem zPop_le (b : Int) : 0 ≤ zPop b ∧ zPop b ≤ 12 := by unfold zPop zPn; omega
theorem z_andN {a b : Int} (ha : 0 ≤ a ∧ a < 4294967296) (hb : 0 ≤ b ∧ b < 4294967296) : Int32.ofInt a &&& Int32.ofInt b = Int32.ofInt ((a.toNat &&& b.toNat : Nat) : Int) := by
  apply z_ofEq
  show ((Int32.ofInt a).toBitVec &&& (Int32.ofInt b).toBitVec).toNat = _
  rw [BitVec.toNat_and, z_toNat, z_toNat, show (a % 4294967296).toNat = a.toNat by omega, show (b % 4294967296).toNat = b.toNat by omega]
  have := Nat.and_le_left (n := a.toNat) (m := b.toNat)
  omega
theorem z_orN {a b : Int} (ha : 0 ≤ a ∧ a < 4294967296) (hb : 0 ≤ b ∧ b < 4294967296) (hl : (a.toNat ||| b.toNat) < 4096) : Int32.ofInt a ||| Int32.ofInt b = Int32.ofInt ((a.toNat ||| b.toNat : Nat) : Int) := by
  apply z_ofEq
  show ((Int32.ofInt a).toBitVec ||| (Int32.ofInt b).toBitVec).toNat = _
  rw [BitVec.toNat_or, z_toNat, z_toNat, show (a % 4294967296).toNat = a.toNat by omega, show (b % 4294967296).toNat = b.toNat by omega]
  omega
def zTwo (p : Int) : Nat := 2 ^ p.toNat
theorem z_2p {p : Int} (h : 0 ≤ p ∧ p ≤ 11) : zTwo p ≤ 2048 := by
  unfold zTwo
  have := Nat.pow_le_pow_right (n := 2) (by omega) (show p.toNat ≤ 11 by omega)
  omega
section ZPB
variable {M : zM} {L : Nat} {xs : Nat → Int32} {y pc pc2 : Nat} {lv : List (Nat × zV)} {r : List zV} {h : zH} {K : List zV → zH → Prop}
theorem z_bit {p : Int} (hc : mpCode pg y pc = some .ishl) (hp : pc + 1 = pc2) (h0 : 0 ≤ p ∧ p ≤ 11) (hb : ∀ t : Int, t = ((zTwo p : Nat) : Int) → (0 ≤ t ∧ t ≤ 2048) → zB M L xs y pc2 lv (.inl t :: r) h K) : zB M L xs y pc lv (.inl p :: .inl 1 :: r) h K := by
  subst hp
  have h2 := z_2p h0
  refine z_loc hc ?_ (hb _ rfl (by omega))
  have e := z_shlE 1 p.toNat (by omega)
  rw [show ((p.toNat : Nat) : Int) = p by omega] at e
  have e3 : (1 : Int) * 2 ^ p.toNat = ((zTwo p : Nat) : Int) := by unfold zTwo; rw [Int.one_mul, Int.natCast_pow]; rfl
  rw [e3] at e
  simp only [mLocal, mLocalC, zC, List.map_cons, mI2, Option.map_some, e]
theorem z_andb {b t p : Int} (hc : mpCode pg y pc = some .iand) (hp : pc + 1 = pc2) (ht : t = ((zTwo p : Nat) : Int)) (h0 : 0 ≤ p ∧ p ≤ 11) (hb0 : 0 ≤ b ∧ b ≤ 4095) (hb : ∀ e : Int, zR e → (e = 0 → (b.toNat &&& zTwo p) = 0) → zB M L xs y pc2 lv (.inl e :: r) h K) : zB M L xs y pc lv (.inl t :: .inl b :: r) h K := by
  subst hp
  have h2 := z_2p h0
  have e := z_andN (a := b) (b := t) (by omega) (by omega)
  have et : t.toNat = zTwo p := by omega
  rw [et] at e
  have hle := Nat.and_le_left (n := b.toNat) (m := zTwo p)
  refine z_loc hc ?_ (hb ((b.toNat &&& zTwo p : Nat) : Int) (by omega) (fun h => by omega))
  simp only [mLocal, mLocalC, zC, List.map_cons, mI2, Option.map_some, e]
theorem z_orb {b t p : Int} (hc : mpCode pg y pc = some .ior) (hp : pc + 1 = pc2) (ht : t = ((zTwo p : Nat) : Int)) (h0 : 0 ≤ p ∧ p ≤ 11) (hb0 : 0 ≤ b ∧ b ≤ 4095) (hz : (b.toNat &&& zTwo p) = 0) (hb : ∀ e : Int, (0 ≤ e ∧ e ≤ 4095) → zPop e = zPop b + 1 → zB M L xs y pc2 lv (.inl e :: r) h K) : zB M L xs y pc lv (.inl t :: .inl b :: r) h K := by
  subst hp
  have h2 := z_2p h0
  have et : t.toNat = zTwo p := by omega
  obtain ⟨k1, k2⟩ := zPn_bit ⟨b.toNat, by omega⟩ ⟨p.toNat, by omega⟩ hz
  have k1 : (b.toNat ||| zTwo p) < 4096 := k1
  have k2 : zPn (b.toNat ||| zTwo p) = zPn b.toNat + 1 := k2
  have e := z_orN (a := b) (b := t) (by omega) (by omega) (by rw [et]; exact k1)
  rw [et] at e
  refine z_loc hc ?_ (hb ((b.toNat ||| zTwo p : Nat) : Int) (by omega) (by unfold zPop; rw [show (((b.toNat ||| zTwo p : Nat) : Int)).toNat = b.toNat ||| zTwo p by omega, k2]; omega))
  simp only [mLocal, mLocalC, zC, List.map_cons, mI2, Option.map_some, e]
theorem z_i2l_r {a : Int} (hc : mpCode pg y pc = some .i2l) (hp : pc + 1 = pc2) (hb : ∀ g, zR g → zB M L xs y pc2 lv (.inr (.inr g) :: r) h K) : zB M L xs y pc lv (.inl a :: r) h K := by
  subst hp
  refine z_loc hc ?_ (hb (Int32.ofInt a).toInt ⟨Int32.le_toInt _, Int.le_of_lt_add_one (Int32.toInt_lt _)⟩)
  simp only [mLocal, mLocalC, zC, List.map_cons, mI1, Option.map_some]
  have e : (Int32.ofInt a).toInt64 = Int64.ofInt (Int32.ofInt a).toInt := by
    rw [← Int64.toInt_inj, Int32.toInt_toInt64, Int64.toInt_ofInt_of_le] <;> (have := Int32.le_toInt (Int32.ofInt a); have := Int32.toInt_lt (Int32.ofInt a); omega)
  rw [e]
end ZPB
/-- of the pager its measuring alone has changed -/
def zPgr (I I2 : Nat → Nat → Int) : Prop := ∀ a k, ¬ (a = 14 ∧ 6 ≤ k) → a ≠ 17 → I2 a k = I a k
theorem zPgr_rf {I : Nat → Nat → Int} : zPgr I I := fun _ _ _ _ => rfl
theorem zPgr_tr {I I2 I3 : Nat → Nat → Int} (h : zPgr I I2) (h2 : zPgr I2 I3) : zPgr I I3 := fun a k h1 h3 => by rw [h2 a k h1 h3, h a k h1 h3]
theorem zPgr_f {I I2 : Nat → Nat → Int} {k : Nat} {v : Int} (h : zPgr I I2) (hk : 6 ≤ k) : zPgr I (zU I2 14 k v) := fun a j h1 h3 => by
  have e : ¬ (a = 14 ∧ j = k) := by omega
  rw [← h a j h1 h3]; simp [zU, e]
theorem zPgr_n {I I2 : Nat → Nat → Int} {k : Nat} {v : Int} (h : zPgr I I2) : zPgr I (zU I2 17 k v) := fun a j h1 h3 => by
  rw [zU_row _ _ _ h3]; exact h a j h1 h3
theorem zNn {P : Nat → Nat → Option Nat} {a i : Nat} {N : Int} (hpre : ∀ j : Nat, (j : Int) < N → ∃ q, P a j = some q) (he : none = P a i) (hi : (i : Int) < N) : False := by
  obtain ⟨q, h⟩ := hpre i hi
  rw [← he] at h
  cases h
