/-! ints and longs as natural numbers -/
theorem i32_bm (n : Nat) : (Int32.ofNat n).toInt = (n : Int).bmod 4294967296 := by simp
theorem i64_bm (n : Nat) : (Int64.ofNat n).toInt = (n : Int).bmod 18446744073709551616 := by simp
theorem fTi_ok (n : Nat) : (Int32.ofNat n).toInt = fTi n := by
  rw [i32_bm, fTi, Int.bmod_def]
  split <;> omega
theorem fTl_ok (n : Nat) : (Int64.ofNat n).toInt = fTl n := by
  rw [i64_bm, fTl, Int.bmod_def]
  split <;> omega
theorem fOfI_x (x : Int32) : Int32.ofNat (fOfI x.toInt) = x := by
  apply Int32.toInt_inj.mp
  have h1 := Int32.le_toInt x
  have h2 := Int32.toInt_lt x
  rw [fTi_ok, fTi, fOfI]
  omega
theorem fOfL_x (x : Int32) : Int64.ofNat (fOfL x.toInt) = x.toInt64 := by
  apply Int64.toInt_inj.mp
  have h1 := Int32.le_toInt x
  have h2 := Int32.toInt_lt x
  rw [fTl_ok, fTl, fOfL, Int32.toInt_toInt64]
  omega
theorem fOfI_of {x : Int32} {c : Int} (h : x.toInt = c) : Int32.ofNat (fOfI c) = x := by rw [← h]; exact fOfI_x x
theorem i32_eq {a b : Nat} (h : a % 4294967296 = b % 4294967296) : Int32.ofNat a = Int32.ofNat b := by
  apply Int32.toInt_inj.mp
  rw [fTi_ok, fTi_ok, fTi, fTi]
  omega
theorem i32_mod (n : Nat) : Int32.ofNat (n % 4294967296) = Int32.ofNat n := i32_eq (by omega)
theorem i64_mod (n : Nat) : Int64.ofNat (n % 18446744073709551616) = Int64.ofNat n := by
  apply Int64.toInt_inj.mp
  rw [fTl_ok, fTl_ok, fTl, fTl]
  omega
theorem oAdd_ok (m n : Nat) : Int32.ofNat ((m + n) % 4294967296) = Int32.ofNat m + Int32.ofNat n := by
  rw [i32_mod, Int32.ofNat_add]
theorem oMul_ok (m n : Nat) : Int32.ofNat ((m * n) % 4294967296) = Int32.ofNat m * Int32.ofNat n := by
  rw [i32_mod, Int32.ofNat_mul]
theorem oSub_ok (m n : Nat) : Int32.ofNat ((m + (4294967296 - n % 4294967296)) % 4294967296) = Int32.ofNat m - Int32.ofNat n := by
  have h : Int32.ofNat ((m + (4294967296 - n % 4294967296)) % 4294967296) + Int32.ofNat n = Int32.ofNat m := by
    rw [← Int32.ofNat_add]
    exact i32_eq (by omega)
  rw [← h]
  simp
theorem ladd_ok (m n : Nat) : Int64.ofNat ((m + n) % 18446744073709551616) = Int64.ofNat m + Int64.ofNat n := by
  rw [i64_mod, Int64.ofNat_add]
theorem fIx {n : Nat} (h : n ≤ 1000000) : (Int32.ofNat n).toNatClampNeg = n := by
  have := fTi_ok n
  rw [Int32.toNatClampNeg, this, fTi]; omega
theorem fNng {n : Nat} (h : n ≤ 1000000) : ¬ Int32.ofNat n < 0 := by
  have := fTi_ok n
  rw [Int32.lt_iff_toInt_lt, this, fTi]; simp; omega
theorem fLt (a b : Nat) : (Int32.ofNat a < Int32.ofNat b) ↔ (a + 2147483648) % 4294967296 < (b + 2147483648) % 4294967296 := by
  rw [Int32.lt_iff_toInt_lt, fTi_ok, fTi_ok, fTi, fTi]; omega
theorem fLe (a b : Nat) : (Int32.ofNat a ≤ Int32.ofNat b) ↔ (a + 2147483648) % 4294967296 ≤ (b + 2147483648) % 4294967296 := by
  rw [Int32.le_iff_toInt_le, fTi_ok, fTi_ok, fTi, fTi]; omega
theorem fEq (a b : Nat) : (Int32.ofNat a = Int32.ofNat b) ↔ (a + 2147483648) % 4294967296 = (b + 2147483648) % 4294967296 := by
  rw [← Int32.toInt_inj, fTi_ok, fTi_ok, fTi, fTi]; omega
