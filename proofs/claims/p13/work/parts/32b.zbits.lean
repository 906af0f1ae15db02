/-! bits as arithmetic -/
theorem z_toNat (a : Int) : (Int32.ofInt a).toBitVec.toNat = (a % 4294967296).toNat := by
  show (BitVec.ofInt 32 a).toNat = _
  rw [BitVec.toNat_ofInt]; rfl
theorem z_ofEq {x : Int32} {e : Int} (h : x.toBitVec.toNat = (e % 4294967296).toNat) : x = Int32.ofInt e := by
  apply Int32.toBitVec.inj
  apply BitVec.eq_of_toNat_eq
  rw [h, z_toNat]
theorem z_sh31 : ∀ n : Nat, n < 32 → ((Int32.ofInt n &&& 31).toBitVec.smod 32).toNat = n := by decide +kernel
theorem z_shlE (a : Int) (n : Nat) (hn : n < 32) : Int32.ofInt a <<< (Int32.ofInt n &&& 31) = Int32.ofInt (a * 2 ^ n) := by
  apply z_ofEq
  show ((Int32.ofInt a).toBitVec <<< ((Int32.ofInt n &&& 31).toBitVec.smod 32)).toNat = _
  rw [BitVec.shiftLeft_eq', z_sh31 n hn, BitVec.toNat_shiftLeft, z_toNat, Nat.shiftLeft_eq]
  have h1 : (((a % 4294967296).toNat * 2 ^ n % 2 ^ 32 : Nat) : Int) = (a * 2 ^ n) % 4294967296 := by
    rw [Int.natCast_emod, Int.natCast_mul, Int.toNat_of_nonneg (by omega)]
    show (a % 4294967296 * ((2 ^ n : Nat) : Int)) % 4294967296 = _
    rw [Int.natCast_pow, Int.mul_emod, Int.emod_emod_of_dvd _ (Int.dvd_refl _), ← Int.mul_emod]; rfl
  omega
theorem z_shrE (a : Int) (n : Nat) (hn : n < 32) (ha : zR a) : Int32.ofInt a >>> (Int32.ofInt n &&& 31) = Int32.ofInt (a / 2 ^ n) := by
  rw [← Int32.toInt_inj]
  have h1 : (Int32.ofInt a >>> (Int32.ofInt n &&& 31)).toInt = a / 2 ^ n := by
    show (BitVec.sshiftRight' (Int32.ofInt a).toBitVec ((Int32.ofInt n &&& 31).toBitVec.smod 32)).toInt = _
    rw [BitVec.sshiftRight_eq', z_sh31 n hn, BitVec.toInt_sshiftRight]
    show (Int32.ofInt a).toInt >>> n = _
    rw [z_rng ha, Int.shiftRight_eq_div_pow]; rfl
  rw [h1, z_rng]
  have h2 : (0 : Int) < 2 ^ n := Int.pow_pos (by omega)
  constructor
  · have := Int.ediv_le_ediv h2 ha.1
    have h3 : -2147483648 ≤ -2147483648 / (2 ^ n : Int) := by
      rw [Int.le_ediv_iff_mul_le h2]
      have : (1 : Int) ≤ 2 ^ n := h2
      omega
    omega
  · have h4 : a / 2 ^ n ≤ 2147483647 := by
      apply Int.le_of_lt_add_one
      rw [Int.ediv_lt_iff_lt_mul h2]
      have : (1 : Int) ≤ 2 ^ n := h2
      omega
    exact h4
section ZBt
variable {M : zM} {L : Nat} {xs : Nat → Int32} {y pc pc2 : Nat} {lv : List (Nat × zV)} {r : List zV} {h : zH} {K : List zV → zH → Prop}
theorem z_and_1 {a : Int} (hc : mpCode pg y pc = some .iand) (hp : pc + 1 = pc2) (hb : zB M L xs y pc2 lv (.inl (a % 2) :: r) h K) : zB M L xs y pc lv (.inl 1 :: .inl a :: r) h K := by
  subst hp
  refine z_loc hc ?_ hb
  have e : Int32.ofInt a &&& Int32.ofInt 1 = Int32.ofInt (a % 2) := by
    apply z_ofEq
    rw [Int32.toBitVec_and, BitVec.toNat_and, z_toNat, z_toNat, show (((1 : Int) % 4294967296).toNat) = 2 ^ 1 - 1 from rfl, Nat.and_two_pow_sub_one_eq_mod]
    omega
  simp only [mLocal, mLocalC, zC, List.map_cons, mI2, Option.map_some, e]
theorem z_and_3 {a : Int} (hc : mpCode pg y pc = some .iand) (hp : pc + 1 = pc2) (hb : zB M L xs y pc2 lv (.inl (a % 4) :: r) h K) : zB M L xs y pc lv (.inl 3 :: .inl a :: r) h K := by
  subst hp
  refine z_loc hc ?_ hb
  have e : Int32.ofInt a &&& Int32.ofInt 3 = Int32.ofInt (a % 4) := by
    apply z_ofEq
    rw [Int32.toBitVec_and, BitVec.toNat_and, z_toNat, z_toNat, show (((3 : Int) % 4294967296).toNat) = 2 ^ 2 - 1 from rfl, Nat.and_two_pow_sub_one_eq_mod]
    omega
  simp only [mLocal, mLocalC, zC, List.map_cons, mI2, Option.map_some, e]
theorem z_and_7 {a : Int} (hc : mpCode pg y pc = some .iand) (hp : pc + 1 = pc2) (hb : zB M L xs y pc2 lv (.inl (a % 8) :: r) h K) : zB M L xs y pc lv (.inl 7 :: .inl a :: r) h K := by
  subst hp
  refine z_loc hc ?_ hb
  have e : Int32.ofInt a &&& Int32.ofInt 7 = Int32.ofInt (a % 8) := by
    apply z_ofEq
    rw [Int32.toBitVec_and, BitVec.toNat_and, z_toNat, z_toNat, show (((7 : Int) % 4294967296).toNat) = 2 ^ 3 - 1 from rfl, Nat.and_two_pow_sub_one_eq_mod]
    omega
  simp only [mLocal, mLocalC, zC, List.map_cons, mI2, Option.map_some, e]
theorem z_and_31 {a : Int} (hc : mpCode pg y pc = some .iand) (hp : pc + 1 = pc2) (hb : zB M L xs y pc2 lv (.inl (a % 32) :: r) h K) : zB M L xs y pc lv (.inl 31 :: .inl a :: r) h K := by
  subst hp
  refine z_loc hc ?_ hb
  have e : Int32.ofInt a &&& Int32.ofInt 31 = Int32.ofInt (a % 32) := by
    apply z_ofEq
    rw [Int32.toBitVec_and, BitVec.toNat_and, z_toNat, z_toNat, show (((31 : Int) % 4294967296).toNat) = 2 ^ 5 - 1 from rfl, Nat.and_two_pow_sub_one_eq_mod]
    omega
  simp only [mLocal, mLocalC, zC, List.map_cons, mI2, Option.map_some, e]
theorem z_and_63 {a : Int} (hc : mpCode pg y pc = some .iand) (hp : pc + 1 = pc2) (hb : zB M L xs y pc2 lv (.inl (a % 64) :: r) h K) : zB M L xs y pc lv (.inl 63 :: .inl a :: r) h K := by
  subst hp
  refine z_loc hc ?_ hb
  have e : Int32.ofInt a &&& Int32.ofInt 63 = Int32.ofInt (a % 64) := by
    apply z_ofEq
    rw [Int32.toBitVec_and, BitVec.toNat_and, z_toNat, z_toNat, show (((63 : Int) % 4294967296).toNat) = 2 ^ 6 - 1 from rfl, Nat.and_two_pow_sub_one_eq_mod]
    omega
  simp only [mLocal, mLocalC, zC, List.map_cons, mI2, Option.map_some, e]
theorem z_and_255 {a : Int} (hc : mpCode pg y pc = some .iand) (hp : pc + 1 = pc2) (hb : zB M L xs y pc2 lv (.inl (a % 256) :: r) h K) : zB M L xs y pc lv (.inl 255 :: .inl a :: r) h K := by
  subst hp
  refine z_loc hc ?_ hb
  have e : Int32.ofInt a &&& Int32.ofInt 255 = Int32.ofInt (a % 256) := by
    apply z_ofEq
    rw [Int32.toBitVec_and, BitVec.toNat_and, z_toNat, z_toNat, show (((255 : Int) % 4294967296).toNat) = 2 ^ 8 - 1 from rfl, Nat.and_two_pow_sub_one_eq_mod]
    omega
  simp only [mLocal, mLocalC, zC, List.map_cons, mI2, Option.map_some, e]
theorem z_and_524287 {a : Int} (hc : mpCode pg y pc = some .iand) (hp : pc + 1 = pc2) (hb : zB M L xs y pc2 lv (.inl (a % 524288) :: r) h K) : zB M L xs y pc lv (.inl 524287 :: .inl a :: r) h K := by
  subst hp
  refine z_loc hc ?_ hb
  have e : Int32.ofInt a &&& Int32.ofInt 524287 = Int32.ofInt (a % 524288) := by
    apply z_ofEq
    rw [Int32.toBitVec_and, BitVec.toNat_and, z_toNat, z_toNat, show (((524287 : Int) % 4294967296).toNat) = 2 ^ 19 - 1 from rfl, Nat.and_two_pow_sub_one_eq_mod]
    omega
  simp only [mLocal, mLocalC, zC, List.map_cons, mI2, Option.map_some, e]
theorem z_shr_1 {a : Int} (hc : mpCode pg y pc = some .ishr) (hp : pc + 1 = pc2) (ha : zR a) (hb : zB M L xs y pc2 lv (.inl (a / 2) :: r) h K) : zB M L xs y pc lv (.inl 1 :: .inl a :: r) h K := by
  subst hp
  refine z_loc hc ?_ hb
  have e : Int32.ofInt a >>> (Int32.ofInt 1 &&& 31) = Int32.ofInt (a / 2) := z_shrE a 1 (by omega) ha
  simp only [mLocal, mLocalC, zC, List.map_cons, mI2, Option.map_some, e]
theorem z_shl_1 {a : Int} (hc : mpCode pg y pc = some .ishl) (hp : pc + 1 = pc2) (hb : zB M L xs y pc2 lv (.inl (a * 2) :: r) h K) : zB M L xs y pc lv (.inl 1 :: .inl a :: r) h K := by
  subst hp
  refine z_loc hc ?_ hb
  have e : Int32.ofInt a <<< (Int32.ofInt 1 &&& 31) = Int32.ofInt (a * 2) := z_shlE a 1 (by omega)
  simp only [mLocal, mLocalC, zC, List.map_cons, mI2, Option.map_some, e]
theorem z_shr_3 {a : Int} (hc : mpCode pg y pc = some .ishr) (hp : pc + 1 = pc2) (ha : zR a) (hb : zB M L xs y pc2 lv (.inl (a / 8) :: r) h K) : zB M L xs y pc lv (.inl 3 :: .inl a :: r) h K := by
  subst hp
  refine z_loc hc ?_ hb
  have e : Int32.ofInt a >>> (Int32.ofInt 3 &&& 31) = Int32.ofInt (a / 8) := z_shrE a 3 (by omega) ha
  simp only [mLocal, mLocalC, zC, List.map_cons, mI2, Option.map_some, e]
theorem z_shl_3 {a : Int} (hc : mpCode pg y pc = some .ishl) (hp : pc + 1 = pc2) (hb : zB M L xs y pc2 lv (.inl (a * 8) :: r) h K) : zB M L xs y pc lv (.inl 3 :: .inl a :: r) h K := by
  subst hp
  refine z_loc hc ?_ hb
  have e : Int32.ofInt a <<< (Int32.ofInt 3 &&& 31) = Int32.ofInt (a * 8) := z_shlE a 3 (by omega)
  simp only [mLocal, mLocalC, zC, List.map_cons, mI2, Option.map_some, e]
theorem z_shr_11 {a : Int} (hc : mpCode pg y pc = some .ishr) (hp : pc + 1 = pc2) (ha : zR a) (hb : zB M L xs y pc2 lv (.inl (a / 2048) :: r) h K) : zB M L xs y pc lv (.inl 11 :: .inl a :: r) h K := by
  subst hp
  refine z_loc hc ?_ hb
  have e : Int32.ofInt a >>> (Int32.ofInt 11 &&& 31) = Int32.ofInt (a / 2048) := z_shrE a 11 (by omega) ha
  simp only [mLocal, mLocalC, zC, List.map_cons, mI2, Option.map_some, e]
theorem z_shl_11 {a : Int} (hc : mpCode pg y pc = some .ishl) (hp : pc + 1 = pc2) (hb : zB M L xs y pc2 lv (.inl (a * 2048) :: r) h K) : zB M L xs y pc lv (.inl 11 :: .inl a :: r) h K := by
  subst hp
  refine z_loc hc ?_ hb
  have e : Int32.ofInt a <<< (Int32.ofInt 11 &&& 31) = Int32.ofInt (a * 2048) := z_shlE a 11 (by omega)
  simp only [mLocal, mLocalC, zC, List.map_cons, mI2, Option.map_some, e]
theorem z_shr_19 {a : Int} (hc : mpCode pg y pc = some .ishr) (hp : pc + 1 = pc2) (ha : zR a) (hb : zB M L xs y pc2 lv (.inl (a / 524288) :: r) h K) : zB M L xs y pc lv (.inl 19 :: .inl a :: r) h K := by
  subst hp
  refine z_loc hc ?_ hb
  have e : Int32.ofInt a >>> (Int32.ofInt 19 &&& 31) = Int32.ofInt (a / 524288) := z_shrE a 19 (by omega) ha
  simp only [mLocal, mLocalC, zC, List.map_cons, mI2, Option.map_some, e]
theorem z_shl_19 {a : Int} (hc : mpCode pg y pc = some .ishl) (hp : pc + 1 = pc2) (hb : zB M L xs y pc2 lv (.inl (a * 524288) :: r) h K) : zB M L xs y pc lv (.inl 19 :: .inl a :: r) h K := by
  subst hp
  refine z_loc hc ?_ hb
  have e : Int32.ofInt a <<< (Int32.ofInt 19 &&& 31) = Int32.ofInt (a * 524288) := z_shlE a 19 (by omega)
  simp only [mLocal, mLocalC, zC, List.map_cons, mI2, Option.map_some, e]
/-- an or with a number below 2^1 and a multiple of it -/
theorem z_or_1 {a c : Int} (hc : mpCode pg y pc = some .ior) (hp : pc + 1 = pc2) (ha : 0 ≤ a ∧ a < 2) (hb : zB M L xs y pc2 lv (.inl (a + c * 2) :: r) h K) : zB M L xs y pc lv (.inl (c * 2) :: .inl a :: r) h K := by
  subst hp
  refine z_loc hc ?_ hb
  have e : Int32.ofInt a ||| Int32.ofInt (c * 2) = Int32.ofInt (a + c * 2) := by
    apply z_ofEq
    rw [Int32.toBitVec_or, BitVec.toNat_or, z_toNat, z_toNat]
    have h1 : (c * 2 % 4294967296).toNat = 2 ^ 1 * (c % 2147483648).toNat := by show _ = 2 * _; omega
    have h2 : (a % 4294967296).toNat < 2 ^ 1 := by show _ < 2; omega
    rw [Nat.or_comm, h1, ← Nat.two_pow_add_eq_or_of_lt h2]
    show 2 * _ + _ = _
    omega
  simp only [mLocal, mLocalC, zC, List.map_cons, mI2, Option.map_some, e]
/-- an or with a number below 2^3 and a multiple of it -/
theorem z_or_3 {a c : Int} (hc : mpCode pg y pc = some .ior) (hp : pc + 1 = pc2) (ha : 0 ≤ a ∧ a < 8) (hb : zB M L xs y pc2 lv (.inl (a + c * 8) :: r) h K) : zB M L xs y pc lv (.inl (c * 8) :: .inl a :: r) h K := by
  subst hp
  refine z_loc hc ?_ hb
  have e : Int32.ofInt a ||| Int32.ofInt (c * 8) = Int32.ofInt (a + c * 8) := by
    apply z_ofEq
    rw [Int32.toBitVec_or, BitVec.toNat_or, z_toNat, z_toNat]
    have h1 : (c * 8 % 4294967296).toNat = 2 ^ 3 * (c % 536870912).toNat := by show _ = 8 * _; omega
    have h2 : (a % 4294967296).toNat < 2 ^ 3 := by show _ < 8; omega
    rw [Nat.or_comm, h1, ← Nat.two_pow_add_eq_or_of_lt h2]
    show 8 * _ + _ = _
    omega
  simp only [mLocal, mLocalC, zC, List.map_cons, mI2, Option.map_some, e]
/-- an or with a number below 2^11 and a multiple of it -/
theorem z_or_11 {a c : Int} (hc : mpCode pg y pc = some .ior) (hp : pc + 1 = pc2) (ha : 0 ≤ a ∧ a < 2048) (hb : zB M L xs y pc2 lv (.inl (a + c * 2048) :: r) h K) : zB M L xs y pc lv (.inl (c * 2048) :: .inl a :: r) h K := by
  subst hp
  refine z_loc hc ?_ hb
  have e : Int32.ofInt a ||| Int32.ofInt (c * 2048) = Int32.ofInt (a + c * 2048) := by
    apply z_ofEq
    rw [Int32.toBitVec_or, BitVec.toNat_or, z_toNat, z_toNat]
    have h1 : (c * 2048 % 4294967296).toNat = 2 ^ 11 * (c % 2097152).toNat := by show _ = 2048 * _; omega
    have h2 : (a % 4294967296).toNat < 2 ^ 11 := by show _ < 2048; omega
    rw [Nat.or_comm, h1, ← Nat.two_pow_add_eq_or_of_lt h2]
    show 2048 * _ + _ = _
    omega
  simp only [mLocal, mLocalC, zC, List.map_cons, mI2, Option.map_some, e]
/-- an or with a number below 2^19 and a multiple of it -/
theorem z_or_19 {a c : Int} (hc : mpCode pg y pc = some .ior) (hp : pc + 1 = pc2) (ha : 0 ≤ a ∧ a < 524288) (hb : zB M L xs y pc2 lv (.inl (a + c * 524288) :: r) h K) : zB M L xs y pc lv (.inl (c * 524288) :: .inl a :: r) h K := by
  subst hp
  refine z_loc hc ?_ hb
  have e : Int32.ofInt a ||| Int32.ofInt (c * 524288) = Int32.ofInt (a + c * 524288) := by
    apply z_ofEq
    rw [Int32.toBitVec_or, BitVec.toNat_or, z_toNat, z_toNat]
    have h1 : (c * 524288 % 4294967296).toNat = 2 ^ 19 * (c % 8192).toNat := by show _ = 524288 * _; omega
    have h2 : (a % 4294967296).toNat < 2 ^ 19 := by show _ < 524288; omega
    rw [Nat.or_comm, h1, ← Nat.two_pow_add_eq_or_of_lt h2]
    show 524288 * _ + _ = _
    omega
  simp only [mLocal, mLocalC, zC, List.map_cons, mI2, Option.map_some, e]
theorem z_or_big {a : Int} (hc : mpCode pg y pc = some .ior) (hp : pc + 1 = pc2) (ha : 0 ≤ a ∧ a < 524288) (hb : zB M L xs y pc2 lv (.inl (a + 268435456) :: r) h K) : zB M L xs y pc lv (.inl 268435456 :: .inl a :: r) h K := by
  have e := z_or_19 (M := M) (L := L) (xs := xs) (lv := lv) (r := r) (h := h) (K := K) (a := a) (c := 512) hc hp ha
  exact e hb
end ZBt
