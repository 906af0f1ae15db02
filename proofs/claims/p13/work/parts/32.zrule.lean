/-! rules over the typed heap, one for each instruction -/
theorem z_rng {e : Int} (h : zR e) : (Int32.ofInt e).toInt = e := Int32.toInt_ofInt_of_le (by omega) (by omega)
theorem z_rng2 {e : Int} (h : zR2 e) : (Int64.ofInt e).toInt = e := Int64.toInt_ofInt_of_le (by omega) (by omega)
theorem z_lt {a b : Int} (ha : zR a) (hb : zR b) : (Int32.ofInt a < Int32.ofInt b) ↔ a < b := by rw [Int32.lt_iff_toInt_lt, z_rng ha, z_rng hb]
theorem z_le {a b : Int} (ha : zR a) (hb : zR b) : (Int32.ofInt a ≤ Int32.ofInt b) ↔ a ≤ b := by rw [Int32.le_iff_toInt_le, z_rng ha, z_rng hb]
theorem z_eq {a b : Int} (ha : zR a) (hb : zR b) : (Int32.ofInt a = Int32.ofInt b) ↔ a = b := by rw [← Int32.toInt_inj, z_rng ha, z_rng hb]
theorem z_ix {e : Int} (h : zR e) : mIx (Int32.ofInt e) = e.toNat := Int32.toNatClampNeg_ofInt_of_le (by omega) (by omega)
theorem z_nn {e : Int} (h : zR e) (h0 : 0 ≤ e) : ¬ Int32.ofInt e < 0 := by
  rw [show (0 : Int32) = Int32.ofInt 0 from rfl, z_lt h (by omega)]; omega
theorem z_in {e n : Int} (h : zR e) (h0 : 0 ≤ e) (h1 : e < n) : mIn (Int32.ofInt e) n.toNat = true := by
  have hx : (Int32.ofInt e).toNatClampNeg = e.toNat := z_ix h
  simp only [mIn, hx, Bool.and_eq_true, decide_eq_true_eq, Bool.not_eq_true', decide_eq_false_iff_not]
  exact ⟨z_nn h h0, by omega⟩
theorem z_blt {a b : Nat} (h : Nat.blt a b = true) : a < b := Nat.le_of_ble_eq_true h
section ZL
variable {M : zM} {L : Nat} {xs : Nat → Int32} {y pc pc2 : Nat} {lv lv2 : List (Nat × zV)} {r : List zV} {h : zH} {K : List zV → zH → Prop}
theorem z_iload_n {k : Fin 4} {e : Int} (hc : mpCode pg y pc = some (.iload_n k)) (hp : pc + 1 = pc2) (hv : zLk lv k = some (.inl e)) (hb : zB M L xs y pc2 lv (.inl e :: r) h K) : zB M L xs y pc lv r h K := by
  subst hp
  exact z_loc hc (by simp only [mLocal, mLocalC, mLookI, zLk_ok _ _ _ hv, zC, Option.map_some, List.map_cons]) hb
theorem z_iload {k : Nat} {e : Int} (hc : mpCode pg y pc = some (.iload k)) (hp : pc + 2 = pc2) (hv : zLk lv k = some (.inl e)) (hb : zB M L xs y pc2 lv (.inl e :: r) h K) : zB M L xs y pc lv r h K := by
  subst hp
  exact z_loc hc (by simp only [mLocal, mLocalC, mLookI, zLk_ok _ _ _ hv, zC, Option.map_some, List.map_cons]) hb
theorem z_lload_n {k : Fin 4} {e : Int} (hc : mpCode pg y pc = some (.lload_n k)) (hp : pc + 1 = pc2) (hv : zLk lv k = some (.inr (.inr e))) (hb : zB M L xs y pc2 lv (.inr (.inr e) :: r) h K) : zB M L xs y pc lv r h K := by
  subst hp
  exact z_loc hc (by simp only [mLocal, mLocalC, mLookL, zLk_ok _ _ _ hv, zC, Option.map_some, List.map_cons]) hb
theorem z_lload {k : Nat} {e : Int} (hc : mpCode pg y pc = some (.lload k)) (hp : pc + 2 = pc2) (hv : zLk lv k = some (.inr (.inr e))) (hb : zB M L xs y pc2 lv (.inr (.inr e) :: r) h K) : zB M L xs y pc lv r h K := by
  subst hp
  exact z_loc hc (by simp only [mLocal, mLocalC, mLookL, zLk_ok _ _ _ hv, zC, Option.map_some, List.map_cons]) hb
theorem z_aload_n {k : Fin 4} {p : Option Nat} (hc : mpCode pg y pc = some (.aload_n k)) (hp : pc + 1 = pc2) (hv : zLk lv k = some (.inr (.inl p))) (hb : zB M L xs y pc2 lv (.inr (.inl p) :: r) h K) : zB M L xs y pc lv r h K := by
  subst hp
  exact z_loc hc (by cases p <;> simp only [mLocal, mLocalC, mLookA, zLk_ok _ _ _ hv, zC, va_rf, Option.map_some, List.map_cons]) hb
theorem z_aload {k : Nat} {p : Option Nat} (hc : mpCode pg y pc = some (.aload k)) (hp : pc + 2 = pc2) (hv : zLk lv k = some (.inr (.inl p))) (hb : zB M L xs y pc2 lv (.inr (.inl p) :: r) h K) : zB M L xs y pc lv r h K := by
  subst hp
  exact z_loc hc (by cases p <;> simp only [mLocal, mLocalC, mLookA, zLk_ok _ _ _ hv, zC, va_rf, Option.map_some, List.map_cons]) hb
theorem z_istore_n {k : Fin 4} {e : Int} (hc : mpCode pg y pc = some (.istore_n k)) (hp : pc + 1 = pc2) (hlt : Nat.blt ((k : Nat)) (mpInfo pg y).1 = true) (hl : ((k : Nat), .inl e) :: zDel lv (k : Nat) = lv2) (hb : zB M L xs y pc2 lv2 r h K) : zB M L xs y pc lv (.inl e :: r) h K := by
  subst hp hl
  refine z_loc hc ?_ hb
  have hlt := z_blt hlt
  rw [← zSt1_ok]
  simp only [mLocal, mLocalC, List.map_cons, zC, va_rf, mI1, Option.bind_some, if_pos hlt]
theorem z_istore {k : Nat} {e : Int} (hc : mpCode pg y pc = some (.istore k)) (hp : pc + 2 = pc2) (hlt : Nat.blt (k) (mpInfo pg y).1 = true) (hl : (k, .inl e) :: zDel lv k = lv2) (hb : zB M L xs y pc2 lv2 r h K) : zB M L xs y pc lv (.inl e :: r) h K := by
  subst hp hl
  refine z_loc hc ?_ hb
  have hlt := z_blt hlt
  rw [← zSt1_ok]
  simp only [mLocal, mLocalC, List.map_cons, zC, va_rf, mI1, Option.bind_some, if_pos hlt]
theorem z_astore_n {k : Fin 4} {e : Option Nat} (hc : mpCode pg y pc = some (.astore_n k)) (hp : pc + 1 = pc2) (hlt : Nat.blt ((k : Nat)) (mpInfo pg y).1 = true) (hl : ((k : Nat), .inr (.inl e)) :: zDel lv (k : Nat) = lv2) (hb : zB M L xs y pc2 lv2 r h K) : zB M L xs y pc lv (.inr (.inl e) :: r) h K := by
  subst hp hl
  refine z_loc hc ?_ hb
  have hlt := z_blt hlt
  rw [← zSt1_ok]
  cases e <;> simp only [mLocal, mLocalC, List.map_cons, zC, va_rf, mA1, Option.bind_some, if_pos hlt]
theorem z_astore {k : Nat} {e : Option Nat} (hc : mpCode pg y pc = some (.astore k)) (hp : pc + 2 = pc2) (hlt : Nat.blt (k) (mpInfo pg y).1 = true) (hl : (k, .inr (.inl e)) :: zDel lv k = lv2) (hb : zB M L xs y pc2 lv2 r h K) : zB M L xs y pc lv (.inr (.inl e) :: r) h K := by
  subst hp hl
  refine z_loc hc ?_ hb
  have hlt := z_blt hlt
  rw [← zSt1_ok]
  cases e <;> simp only [mLocal, mLocalC, List.map_cons, zC, va_rf, mA1, Option.bind_some, if_pos hlt]
theorem z_lstore_n {k : Fin 4} {e : Int} (hc : mpCode pg y pc = some (.lstore_n k)) (hp : pc + 1 = pc2) (hlt : Nat.blt ((k : Nat) + 1) (mpInfo pg y).1 = true) (hl : ((k : Nat), .inr (.inr e)) :: zDel2 lv (k : Nat) = lv2) (hb : zB M L xs y pc2 lv2 r h K) : zB M L xs y pc lv (.inr (.inr e) :: r) h K := by
  subst hp hl
  refine z_loc hc ?_ hb
  have hlt := z_blt hlt
  rw [← zSt2_ok]
  simp only [mLocal, mLocalC, List.map_cons, zC, va_rf, mL1, Option.bind_some, if_pos hlt]
theorem z_lstore {k : Nat} {e : Int} (hc : mpCode pg y pc = some (.lstore k)) (hp : pc + 2 = pc2) (hlt : Nat.blt (k + 1) (mpInfo pg y).1 = true) (hl : (k, .inr (.inr e)) :: zDel2 lv k = lv2) (hb : zB M L xs y pc2 lv2 r h K) : zB M L xs y pc lv (.inr (.inr e) :: r) h K := by
  subst hp hl
  refine z_loc hc ?_ hb
  have hlt := z_blt hlt
  rw [← zSt2_ok]
  simp only [mLocal, mLocalC, List.map_cons, zC, va_rf, mL1, Option.bind_some, if_pos hlt]
theorem z_iinc {k : Nat} {n e : Int} (hc : mpCode pg y pc = some (.iinc k n)) (hp : pc + 3 = pc2) (hlt : Nat.blt k (mpInfo pg y).1 = true) (hv : zLk lv k = some (.inl e)) (hl : (k, .inl (e + n)) :: zDel lv k = lv2) (hb : zB M L xs y pc2 lv2 r h K) : zB M L xs y pc lv r h K := by
  subst hp hl
  refine z_loc hc ?_ hb
  have hlt := z_blt hlt
  rw [← zSt1_ok]
  simp only [mLocal, mLocalC, mLookI, zLk_ok _ _ _ hv, zC, Option.bind_some, if_pos hlt, Int32.ofInt_add]
theorem z_iconst {n : Int} (hc : mpCode pg y pc = some (.iconst n)) (hp : pc + 1 = pc2) (hb : zB M L xs y pc2 lv (.inl n :: r) h K) : zB M L xs y pc lv r h K := by
  subst hp
  exact z_loc hc (by simp only [mLocal, mLocalC, zC, List.map_cons]) hb
theorem z_bipush {n : Int} (hc : mpCode pg y pc = some (.bipush n)) (hp : pc + 2 = pc2) (hn : (Int8.ofInt n).toInt32 = Int32.ofInt n) (hb : zB M L xs y pc2 lv (.inl n :: r) h K) : zB M L xs y pc lv r h K := by
  subst hp
  exact z_loc hc (by simp only [mLocal, mLocalC, zC, List.map_cons, hn]) hb
theorem z_sipush {n : Int} (hc : mpCode pg y pc = some (.sipush n)) (hp : pc + 3 = pc2) (hn : (Int16.ofInt n).toInt32 = Int32.ofInt n) (hb : zB M L xs y pc2 lv (.inl n :: r) h K) : zB M L xs y pc lv r h K := by
  subst hp
  exact z_loc hc (by simp only [mLocal, mLocalC, zC, List.map_cons, hn]) hb
theorem z_ldc {i : Nat} (n : Int) (hc : mpCode pg y pc = some (.ldc i)) (hp : pc + 2 = pc2) (hn : mpLdc pg y i = some (Int32.ofInt n)) (hb : zB M L xs y pc2 lv (.inl n :: r) h K) : zB M L xs y pc lv r h K := by
  subst hp
  exact z_loc hc (by simp only [mLocal, mLocalC, zC, List.map_cons, hn, Option.map_some]) hb
theorem z_ldc2 {i : Nat} (n : Int) (hc : mpCode pg y pc = some (.ldc2_w i)) (hp : pc + 3 = pc2) (hn : mpLdc2 pg y i = some (Int64.ofInt n)) (hb : zB M L xs y pc2 lv (.inr (.inr n) :: r) h K) : zB M L xs y pc lv r h K := by
  subst hp
  exact z_loc hc (by simp only [mLocal, mLocalC, zC, List.map_cons, hn, Option.map_some]) hb
theorem z_lconst {l : Fin 2} (n : Int) (hc : mpCode pg y pc = some (.lconst l)) (hp : pc + 1 = pc2) (hn : Int64.ofNat (l : Nat) = Int64.ofInt n) (hb : zB M L xs y pc2 lv (.inr (.inr n) :: r) h K) : zB M L xs y pc lv r h K := by
  subst hp
  exact z_loc hc (by simp only [mLocal, mLocalC, zC, List.map_cons, hn]) hb
theorem z_aconst_null (hc : mpCode pg y pc = some .aconst_null) (hp : pc + 1 = pc2) (hb : zB M L xs y pc2 lv (.inr (.inl none) :: r) h K) : zB M L xs y pc lv r h K := by
  subst hp
  exact z_loc hc (by simp only [mLocal, mLocalC, zC, va_rf, List.map_cons]) hb
theorem z_iadd {a b : Int} (hc : mpCode pg y pc = some .iadd) (hp : pc + 1 = pc2) (hb : zB M L xs y pc2 lv (.inl (a + b) :: r) h K) : zB M L xs y pc lv (.inl b :: .inl a :: r) h K := by
  subst hp
  exact z_loc hc (by simp only [mLocal, mLocalC, zC, List.map_cons, mI2, Option.map_some, Int32.ofInt_add]) hb
theorem z_isub {a b : Int} (hc : mpCode pg y pc = some .isub) (hp : pc + 1 = pc2) (hb : zB M L xs y pc2 lv (.inl (a - b) :: r) h K) : zB M L xs y pc lv (.inl b :: .inl a :: r) h K := by
  subst hp
  exact z_loc hc (by simp only [mLocal, mLocalC, zC, List.map_cons, mI2, Option.map_some, Int32.ofInt_sub]) hb
theorem z_imul {a b : Int} (hc : mpCode pg y pc = some .imul) (hp : pc + 1 = pc2) (hb : zB M L xs y pc2 lv (.inl (a * b) :: r) h K) : zB M L xs y pc lv (.inl b :: .inl a :: r) h K := by
  subst hp
  exact z_loc hc (by simp only [mLocal, mLocalC, zC, List.map_cons, mI2, Option.map_some, Int32.ofInt_mul]) hb
theorem z_ineg {a : Int} (hc : mpCode pg y pc = some .ineg) (hp : pc + 1 = pc2) (hb : zB M L xs y pc2 lv (.inl (-a) :: r) h K) : zB M L xs y pc lv (.inl a :: r) h K := by
  subst hp
  exact z_loc hc (by simp only [mLocal, mLocalC, zC, List.map_cons, mI1, Option.map_some, Int32.ofInt_neg]) hb
def zAnd (a b : Int) : Int := (Int32.ofInt a &&& Int32.ofInt b).toInt
theorem z_iand {a b : Int} (hc : mpCode pg y pc = some .iand) (hp : pc + 1 = pc2) (hb : zR (zAnd a b) → zB M L xs y pc2 lv (.inl (zAnd a b) :: r) h K) : zB M L xs y pc lv (.inl b :: .inl a :: r) h K := by
  subst hp
  refine z_loc hc ?_ (hb ⟨Int32.le_toInt _, Int.le_of_lt_add_one (Int32.toInt_lt _)⟩)
  simp only [mLocal, mLocalC, zC, List.map_cons, mI2, Option.map_some, zAnd, Int32.ofInt_toInt]
def zOr (a b : Int) : Int := (Int32.ofInt a ||| Int32.ofInt b).toInt
theorem z_ior {a b : Int} (hc : mpCode pg y pc = some .ior) (hp : pc + 1 = pc2) (hb : zR (zOr a b) → zB M L xs y pc2 lv (.inl (zOr a b) :: r) h K) : zB M L xs y pc lv (.inl b :: .inl a :: r) h K := by
  subst hp
  refine z_loc hc ?_ (hb ⟨Int32.le_toInt _, Int.le_of_lt_add_one (Int32.toInt_lt _)⟩)
  simp only [mLocal, mLocalC, zC, List.map_cons, mI2, Option.map_some, zOr, Int32.ofInt_toInt]
def zShl (a b : Int) : Int := (Int32.ofInt a <<< (Int32.ofInt b &&& 31)).toInt
theorem z_ishl {a b : Int} (hc : mpCode pg y pc = some .ishl) (hp : pc + 1 = pc2) (hb : zR (zShl a b) → zB M L xs y pc2 lv (.inl (zShl a b) :: r) h K) : zB M L xs y pc lv (.inl b :: .inl a :: r) h K := by
  subst hp
  refine z_loc hc ?_ (hb ⟨Int32.le_toInt _, Int.le_of_lt_add_one (Int32.toInt_lt _)⟩)
  simp only [mLocal, mLocalC, zC, List.map_cons, mI2, Option.map_some, zShl, Int32.ofInt_toInt]
def zShr (a b : Int) : Int := (Int32.ofInt a >>> (Int32.ofInt b &&& 31)).toInt
theorem z_ishr {a b : Int} (hc : mpCode pg y pc = some .ishr) (hp : pc + 1 = pc2) (hb : zR (zShr a b) → zB M L xs y pc2 lv (.inl (zShr a b) :: r) h K) : zB M L xs y pc lv (.inl b :: .inl a :: r) h K := by
  subst hp
  refine z_loc hc ?_ (hb ⟨Int32.le_toInt _, Int.le_of_lt_add_one (Int32.toInt_lt _)⟩)
  simp only [mLocal, mLocalC, zC, List.map_cons, mI2, Option.map_some, zShr, Int32.ofInt_toInt]
def zUshr (a b : Int) : Int := (((Int32.ofInt a).toUInt32 >>> ((Int32.ofInt b).toUInt32 &&& Int32.toUInt32 31)).toInt32).toInt
theorem z_iushr {a b : Int} (hc : mpCode pg y pc = some .iushr) (hp : pc + 1 = pc2) (hb : zR (zUshr a b) → zB M L xs y pc2 lv (.inl (zUshr a b) :: r) h K) : zB M L xs y pc lv (.inl b :: .inl a :: r) h K := by
  subst hp
  refine z_loc hc ?_ (hb ⟨Int32.le_toInt _, Int.le_of_lt_add_one (Int32.toInt_lt _)⟩)
  simp only [mLocal, mLocalC, zC, List.map_cons, mI2, Option.map_some, zUshr, Int32.ofInt_toInt]
def zDiv (a b : Int) : Int := (Int32.ofInt a / Int32.ofInt b).toInt
theorem z_idiv {a b : Int} (hc : mpCode pg y pc = some .idiv) (hp : pc + 1 = pc2) (h0 : ¬ Int32.ofInt b = 0) (hb : zR (zDiv a b) → zB M L xs y pc2 lv (.inl (zDiv a b) :: r) h K) : zB M L xs y pc lv (.inl b :: .inl a :: r) h K := by
  subst hp
  refine z_loc hc ?_ (hb ⟨Int32.le_toInt _, Int.le_of_lt_add_one (Int32.toInt_lt _)⟩)
  simp only [mLocal, mLocalC, zC, List.map_cons, mI2, Option.bind_some, if_neg h0, zDiv, Int32.ofInt_toInt]
def zRem (a b : Int) : Int := (Int32.ofInt a - Int32.ofInt a / Int32.ofInt b * Int32.ofInt b).toInt
theorem z_irem {a b : Int} (hc : mpCode pg y pc = some .irem) (hp : pc + 1 = pc2) (h0 : ¬ Int32.ofInt b = 0) (hb : zR (zRem a b) → zB M L xs y pc2 lv (.inl (zRem a b) :: r) h K) : zB M L xs y pc lv (.inl b :: .inl a :: r) h K := by
  subst hp
  refine z_loc hc ?_ (hb ⟨Int32.le_toInt _, Int.le_of_lt_add_one (Int32.toInt_lt _)⟩)
  simp only [mLocal, mLocalC, zC, List.map_cons, mI2, Option.bind_some, if_neg h0, zRem, Int32.ofInt_toInt]
theorem z_i2l {a : Int} (hc : mpCode pg y pc = some .i2l) (hp : pc + 1 = pc2) (ha : zR a) (hb : zB M L xs y pc2 lv (.inr (.inr a) :: r) h K) : zB M L xs y pc lv (.inl a :: r) h K := by
  subst hp
  refine z_loc hc ?_ hb
  have e : (Int32.ofInt a).toInt64 = Int64.ofInt a := by rw [← Int64.ofInt_int32ToInt, z_rng ha]
  simp only [mLocal, mLocalC, zC, List.map_cons, mI1, Option.map_some, e]
theorem z_i2l_any {a : Int} (hc : mpCode pg y pc = some .i2l) (hp : pc + 1 = pc2) (hb : ∀ g, zB M L xs y pc2 lv (.inr (.inr g) :: r) h K) : zB M L xs y pc lv (.inl a :: r) h K := by
  subst hp
  refine z_loc hc ?_ (hb ((Int32.ofInt a).toInt64.toInt))
  simp only [mLocal, mLocalC, zC, List.map_cons, mI1, Option.map_some, Int64.ofInt_toInt]
theorem z_l2i {a : Int} (hc : mpCode pg y pc = some .l2i) (hp : pc + 1 = pc2) (hb : zB M L xs y pc2 lv (.inl a :: r) h K) : zB M L xs y pc lv (.inr (.inr a) :: r) h K := by
  subst hp
  exact z_loc hc (by simp only [mLocal, mLocalC, zC, List.map_cons, mL1, Option.map_some, Int64.toInt32_ofInt]) hb
theorem z_ladd {a b : Int} (hc : mpCode pg y pc = some .ladd) (hp : pc + 1 = pc2) (hb : zB M L xs y pc2 lv (.inr (.inr (a + b)) :: r) h K) : zB M L xs y pc lv (.inr (.inr b) :: .inr (.inr a) :: r) h K := by
  subst hp
  exact z_loc hc (by simp only [mLocal, mLocalC, zC, List.map_cons, mL2, Option.map_some, Int64.ofInt_add]) hb
theorem z_lsub {a b : Int} (hc : mpCode pg y pc = some .lsub) (hp : pc + 1 = pc2) (hb : zB M L xs y pc2 lv (.inr (.inr (a - b)) :: r) h K) : zB M L xs y pc lv (.inr (.inr b) :: .inr (.inr a) :: r) h K := by
  subst hp
  exact z_loc hc (by simp only [mLocal, mLocalC, zC, List.map_cons, mL2, Option.map_some, Int64.ofInt_sub]) hb
theorem z_lmul {a b : Int} (hc : mpCode pg y pc = some .lmul) (hp : pc + 1 = pc2) (hb : zB M L xs y pc2 lv (.inr (.inr (a * b)) :: r) h K) : zB M L xs y pc lv (.inr (.inr b) :: .inr (.inr a) :: r) h K := by
  subst hp
  exact z_loc hc (by simp only [mLocal, mLocalC, zC, List.map_cons, mL2, Option.map_some, Int64.ofInt_mul]) hb
theorem z_lcmp {a b : Int} (hc : mpCode pg y pc = some .lcmp) (hp : pc + 1 = pc2) (ha : zR2 a) (hbb : zR2 b) (hb : ∀ e : Int, (a > b → e = 1) → (a = b → e = 0) → (a < b → e = -1) → zB M L xs y pc2 lv (.inl e :: r) h K) : zB M L xs y pc lv (.inr (.inr b) :: .inr (.inr a) :: r) h K := by
  subst hp
  have hl : (Int64.ofInt a > Int64.ofInt b) ↔ a > b := by
    show Int64.ofInt b < Int64.ofInt a ↔ b < a
    rw [Int64.lt_iff_toInt_lt, z_rng2 ha, z_rng2 hbb]
  have he : (Int64.ofInt a = Int64.ofInt b) ↔ a = b := by rw [← Int64.toInt_inj, z_rng2 ha, z_rng2 hbb]
  refine z_loc (st2 := .inl (if a > b then 1 else if a = b then 0 else -1) :: r) hc ?_ (hb _ ?_ ?_ ?_)
  · by_cases h1 : a > b
    · simp only [mLocal, mLocalC, zC, List.map_cons, mL2, Option.map_some, lg_cmp, hl, he, h1, if_true]; rfl
    · by_cases h2 : a = b
      · simp only [mLocal, mLocalC, zC, List.map_cons, mL2, Option.map_some, lg_cmp, hl, he, h1, h2, if_true, if_false]
        simp [h2]
      · simp only [mLocal, mLocalC, zC, List.map_cons, mL2, Option.map_some, lg_cmp, hl, he, h1, h2, if_true, if_false]; rfl
  · intro h1; simp [h1]
  · intro h1; simp [h1]
  · intro h1; rw [if_neg (by omega), if_neg (by omega)]
theorem z_lcmp_any {a b : Int} (hc : mpCode pg y pc = some .lcmp) (hp : pc + 1 = pc2) (hb : ∀ e : Int, -1 ≤ e ∧ e ≤ 1 → zB M L xs y pc2 lv (.inl e :: r) h K) : zB M L xs y pc lv (.inr (.inr b) :: .inr (.inr a) :: r) h K := by
  subst hp
  refine z_loc (st2 := .inl (if Int64.ofInt a > Int64.ofInt b then 1 else if Int64.ofInt a = Int64.ofInt b then 0 else -1) :: r) hc ?_ (hb _ ?_)
  · simp only [mLocal, mLocalC, zC, List.map_cons, mL2, Option.map_some, lg_cmp]
    split
    · rfl
    · split <;> rfl
  · split
    · omega
    · split <;> omega
theorem z_dup {v : zV} (hc : mpCode pg y pc = some .dup) (hp : pc + 1 = pc2) (hv : Nat.beq (zCat v) 1 = true) (hb : zB M L xs y pc2 lv (v :: v :: r) h K) : zB M L xs y pc lv (v :: r) h K := by
  subst hp
  have hv := Nat.eq_of_beq_eq_true hv
  exact z_loc hc (by simp only [mLocal, mLocalC, List.map_cons, zC_cat, hv, if_true]) hb
theorem z_pop {v : zV} (hc : mpCode pg y pc = some .pop) (hp : pc + 1 = pc2) (hv : Nat.beq (zCat v) 1 = true) (hb : zB M L xs y pc2 lv r h K) : zB M L xs y pc lv (v :: r) h K := by
  subst hp
  have hv := Nat.eq_of_beq_eq_true hv
  exact z_loc hc (by simp only [mLocal, mLocalC, List.map_cons, zC_cat, hv, if_true]) hb
theorem z_dup2 {v u : zV} (hc : mpCode pg y pc = some .dup2) (hp : pc + 1 = pc2) (hv : Nat.beq (zCat v) 1 = true) (hu : Nat.beq (zCat u) 1 = true) (hb : zB M L xs y pc2 lv (v :: u :: v :: u :: r) h K) : zB M L xs y pc lv (v :: u :: r) h K := by
  subst hp
  have hv := Nat.eq_of_beq_eq_true hv
  have hu := Nat.eq_of_beq_eq_true hu
  exact z_loc hc (by simp only [mLocal, mLocalC, List.map_cons, zC_cat, hv, hu, and_self, if_true]) hb
theorem z_goto {off : Int} (hc : mpCode pg y pc = some (.goto off)) (hp : mTo pc off = some pc2) (hb : zB M L xs y pc2 lv r h K) : zB M L xs y pc lv r h K := by
  exact z_loc hc (by simp only [mLocal, mLocalC, hp, Option.map_some]) hb
theorem z_icmp0 {c : Jvm.ClassFile.Cond} {off a b : Int} {t : Nat} (hc : mpCode pg y pc = some (.if_icmp c off)) (ht : mTo pc off = some t) (hp : pc + 3 = pc2) (h1 : mIf c (Int32.ofInt a) (Int32.ofInt b) = true → zB M L xs y t lv r h K) (h2 : mIf c (Int32.ofInt a) (Int32.ofInt b) = false → zB M L xs y pc2 lv r h K) : zB M L xs y pc lv (.inl b :: .inl a :: r) h K := by
  subst hp
  cases hh : mIf c (Int32.ofInt a) (Int32.ofInt b) with
  | true => exact z_loc hc (by simp only [mLocal, mLocalC, zC, List.map_cons, mI2, Option.bind_some, ht, Option.map_some, hh, if_true]) (h1 hh)
  | false => exact z_loc hc (by simp only [mLocal, mLocalC, zC, List.map_cons, mI2, Option.bind_some, ht, Option.map_some, hh, Bool.false_eq_true, if_false]) (h2 hh)
theorem z_if0 {c : Jvm.ClassFile.Cond} {off a : Int} {t : Nat} (hc : mpCode pg y pc = some (.ifCond c off)) (ht : mTo pc off = some t) (hp : pc + 3 = pc2) (h1 : mIf c (Int32.ofInt a) (Int32.ofInt 0) = true → zB M L xs y t lv r h K) (h2 : mIf c (Int32.ofInt a) (Int32.ofInt 0) = false → zB M L xs y pc2 lv r h K) : zB M L xs y pc lv (.inl a :: r) h K := by
  subst hp
  have e0 : (0 : Int32) = Int32.ofInt 0 := rfl
  cases hh : mIf c (Int32.ofInt a) (Int32.ofInt 0) with
  | true => exact z_loc hc (by simp only [mLocal, mLocalC, zC, List.map_cons, mI1, Option.bind_some, ht, Option.map_some, e0, hh, if_true]) (h1 hh)
  | false => exact z_loc hc (by simp only [mLocal, mLocalC, zC, List.map_cons, mI1, Option.bind_some, ht, Option.map_some, e0, hh, Bool.false_eq_true, if_false]) (h2 hh)
theorem z_icmp_any {c : Jvm.ClassFile.Cond} {off a b : Int} {t : Nat} (hc : mpCode pg y pc = some (.if_icmp c off)) (ht : mTo pc off = some t) (hp : pc + 3 = pc2) (h1 : zB M L xs y t lv r h K) (h2 : zB M L xs y pc2 lv r h K) : zB M L xs y pc lv (.inl b :: .inl a :: r) h K := z_icmp0 hc ht hp (fun _ => h1) (fun _ => h2)
theorem z_if_any {c : Jvm.ClassFile.Cond} {off a : Int} {t : Nat} (hc : mpCode pg y pc = some (.ifCond c off)) (ht : mTo pc off = some t) (hp : pc + 3 = pc2) (h1 : zB M L xs y t lv r h K) (h2 : zB M L xs y pc2 lv r h K) : zB M L xs y pc lv (.inl a :: r) h K := z_if0 hc ht hp (fun _ => h1) (fun _ => h2)
theorem z_icmp_eq {off a b : Int} {t : Nat} (hc : mpCode pg y pc = some (.if_icmp .eq off)) (ht : mTo pc off = some t) (hp : pc + 3 = pc2) (ha : zR a) (hb : zR b) (h1 : a = b → zB M L xs y t lv r h K) (h2 : a ≠ b → zB M L xs y pc2 lv r h K) : zB M L xs y pc lv (.inl b :: .inl a :: r) h K := by
  have e := z_eq ha hb
  refine z_icmp0 hc ht hp (fun hh => h1 ?_) (fun hh => h2 ?_)
  · simp only [mIf, decide_eq_true_eq, Bool.not_eq_true', decide_eq_false_iff_not, e] at hh; omega
  · simp only [mIf, decide_eq_true_eq, Bool.not_eq_false', decide_eq_false_iff_not, e] at hh; omega
theorem z_if_eq {off a : Int} {t : Nat} (hc : mpCode pg y pc = some (.ifCond .eq off)) (ht : mTo pc off = some t) (hp : pc + 3 = pc2) (ha : zR a) (h1 : a = 0 → zB M L xs y t lv r h K) (h2 : a ≠ 0 → zB M L xs y pc2 lv r h K) : zB M L xs y pc lv (.inl a :: r) h K := by
  have e := z_eq ha (by omega : zR 0)
  refine z_if0 hc ht hp (fun hh => h1 ?_) (fun hh => h2 ?_)
  · simp only [mIf, decide_eq_true_eq, Bool.not_eq_true', decide_eq_false_iff_not, e] at hh; omega
  · simp only [mIf, decide_eq_true_eq, Bool.not_eq_false', decide_eq_false_iff_not, e] at hh; omega
theorem z_icmp_ne {off a b : Int} {t : Nat} (hc : mpCode pg y pc = some (.if_icmp .ne off)) (ht : mTo pc off = some t) (hp : pc + 3 = pc2) (ha : zR a) (hb : zR b) (h1 : a ≠ b → zB M L xs y t lv r h K) (h2 : a = b → zB M L xs y pc2 lv r h K) : zB M L xs y pc lv (.inl b :: .inl a :: r) h K := by
  have e := z_eq ha hb
  refine z_icmp0 hc ht hp (fun hh => h1 ?_) (fun hh => h2 ?_)
  · simp only [mIf, decide_eq_true_eq, Bool.not_eq_true', decide_eq_false_iff_not, e] at hh; omega
  · simp only [mIf, decide_eq_true_eq, Bool.not_eq_false', decide_eq_false_iff_not, e] at hh; omega
theorem z_if_ne {off a : Int} {t : Nat} (hc : mpCode pg y pc = some (.ifCond .ne off)) (ht : mTo pc off = some t) (hp : pc + 3 = pc2) (ha : zR a) (h1 : a ≠ 0 → zB M L xs y t lv r h K) (h2 : a = 0 → zB M L xs y pc2 lv r h K) : zB M L xs y pc lv (.inl a :: r) h K := by
  have e := z_eq ha (by omega : zR 0)
  refine z_if0 hc ht hp (fun hh => h1 ?_) (fun hh => h2 ?_)
  · simp only [mIf, decide_eq_true_eq, Bool.not_eq_true', decide_eq_false_iff_not, e] at hh; omega
  · simp only [mIf, decide_eq_true_eq, Bool.not_eq_false', decide_eq_false_iff_not, e] at hh; omega
theorem z_icmp_lt {off a b : Int} {t : Nat} (hc : mpCode pg y pc = some (.if_icmp .lt off)) (ht : mTo pc off = some t) (hp : pc + 3 = pc2) (ha : zR a) (hb : zR b) (h1 : a < b → zB M L xs y t lv r h K) (h2 : b ≤ a → zB M L xs y pc2 lv r h K) : zB M L xs y pc lv (.inl b :: .inl a :: r) h K := by
  have e := z_lt ha hb
  refine z_icmp0 hc ht hp (fun hh => h1 ?_) (fun hh => h2 ?_)
  · simp only [mIf, decide_eq_true_eq, Bool.not_eq_true', decide_eq_false_iff_not, e] at hh; omega
  · simp only [mIf, decide_eq_true_eq, Bool.not_eq_false', decide_eq_false_iff_not, e] at hh; omega
theorem z_if_lt {off a : Int} {t : Nat} (hc : mpCode pg y pc = some (.ifCond .lt off)) (ht : mTo pc off = some t) (hp : pc + 3 = pc2) (ha : zR a) (h1 : a < 0 → zB M L xs y t lv r h K) (h2 : 0 ≤ a → zB M L xs y pc2 lv r h K) : zB M L xs y pc lv (.inl a :: r) h K := by
  have e := z_lt ha (by omega : zR 0)
  refine z_if0 hc ht hp (fun hh => h1 ?_) (fun hh => h2 ?_)
  · simp only [mIf, decide_eq_true_eq, Bool.not_eq_true', decide_eq_false_iff_not, e] at hh; omega
  · simp only [mIf, decide_eq_true_eq, Bool.not_eq_false', decide_eq_false_iff_not, e] at hh; omega
theorem z_icmp_ge {off a b : Int} {t : Nat} (hc : mpCode pg y pc = some (.if_icmp .ge off)) (ht : mTo pc off = some t) (hp : pc + 3 = pc2) (ha : zR a) (hb : zR b) (h1 : b ≤ a → zB M L xs y t lv r h K) (h2 : a < b → zB M L xs y pc2 lv r h K) : zB M L xs y pc lv (.inl b :: .inl a :: r) h K := by
  have e := z_le hb ha
  refine z_icmp0 hc ht hp (fun hh => h1 ?_) (fun hh => h2 ?_)
  · simp only [mIf, decide_eq_true_eq, Bool.not_eq_true', decide_eq_false_iff_not, e] at hh; omega
  · simp only [mIf, decide_eq_true_eq, Bool.not_eq_false', decide_eq_false_iff_not, e] at hh; omega
theorem z_if_ge {off a : Int} {t : Nat} (hc : mpCode pg y pc = some (.ifCond .ge off)) (ht : mTo pc off = some t) (hp : pc + 3 = pc2) (ha : zR a) (h1 : 0 ≤ a → zB M L xs y t lv r h K) (h2 : a < 0 → zB M L xs y pc2 lv r h K) : zB M L xs y pc lv (.inl a :: r) h K := by
  have e := z_le (by omega : zR 0) ha
  refine z_if0 hc ht hp (fun hh => h1 ?_) (fun hh => h2 ?_)
  · simp only [mIf, decide_eq_true_eq, Bool.not_eq_true', decide_eq_false_iff_not, e] at hh; omega
  · simp only [mIf, decide_eq_true_eq, Bool.not_eq_false', decide_eq_false_iff_not, e] at hh; omega
theorem z_icmp_gt {off a b : Int} {t : Nat} (hc : mpCode pg y pc = some (.if_icmp .gt off)) (ht : mTo pc off = some t) (hp : pc + 3 = pc2) (ha : zR a) (hb : zR b) (h1 : b < a → zB M L xs y t lv r h K) (h2 : a ≤ b → zB M L xs y pc2 lv r h K) : zB M L xs y pc lv (.inl b :: .inl a :: r) h K := by
  have e := z_lt hb ha
  refine z_icmp0 hc ht hp (fun hh => h1 ?_) (fun hh => h2 ?_)
  · simp only [mIf, decide_eq_true_eq, Bool.not_eq_true', decide_eq_false_iff_not, e] at hh; omega
  · simp only [mIf, decide_eq_true_eq, Bool.not_eq_false', decide_eq_false_iff_not, e] at hh; omega
theorem z_if_gt {off a : Int} {t : Nat} (hc : mpCode pg y pc = some (.ifCond .gt off)) (ht : mTo pc off = some t) (hp : pc + 3 = pc2) (ha : zR a) (h1 : 0 < a → zB M L xs y t lv r h K) (h2 : a ≤ 0 → zB M L xs y pc2 lv r h K) : zB M L xs y pc lv (.inl a :: r) h K := by
  have e := z_lt (by omega : zR 0) ha
  refine z_if0 hc ht hp (fun hh => h1 ?_) (fun hh => h2 ?_)
  · simp only [mIf, decide_eq_true_eq, Bool.not_eq_true', decide_eq_false_iff_not, e] at hh; omega
  · simp only [mIf, decide_eq_true_eq, Bool.not_eq_false', decide_eq_false_iff_not, e] at hh; omega
theorem z_icmp_le {off a b : Int} {t : Nat} (hc : mpCode pg y pc = some (.if_icmp .le off)) (ht : mTo pc off = some t) (hp : pc + 3 = pc2) (ha : zR a) (hb : zR b) (h1 : a ≤ b → zB M L xs y t lv r h K) (h2 : b < a → zB M L xs y pc2 lv r h K) : zB M L xs y pc lv (.inl b :: .inl a :: r) h K := by
  have e := z_le ha hb
  refine z_icmp0 hc ht hp (fun hh => h1 ?_) (fun hh => h2 ?_)
  · simp only [mIf, decide_eq_true_eq, Bool.not_eq_true', decide_eq_false_iff_not, e] at hh; omega
  · simp only [mIf, decide_eq_true_eq, Bool.not_eq_false', decide_eq_false_iff_not, e] at hh; omega
theorem z_if_le {off a : Int} {t : Nat} (hc : mpCode pg y pc = some (.ifCond .le off)) (ht : mTo pc off = some t) (hp : pc + 3 = pc2) (ha : zR a) (h1 : a ≤ 0 → zB M L xs y t lv r h K) (h2 : 0 < a → zB M L xs y pc2 lv r h K) : zB M L xs y pc lv (.inl a :: r) h K := by
  have e := z_le ha (by omega : zR 0)
  refine z_if0 hc ht hp (fun hh => h1 ?_) (fun hh => h2 ?_)
  · simp only [mIf, decide_eq_true_eq, Bool.not_eq_true', decide_eq_false_iff_not, e] at hh; omega
  · simp only [mIf, decide_eq_true_eq, Bool.not_eq_false', decide_eq_false_iff_not, e] at hh; omega
theorem z_ifnull {off : Int} {t : Nat} {p : Option Nat} (hc : mpCode pg y pc = some (.ifnull off)) (ht : mTo pc off = some t) (hp : pc + 3 = pc2) (h1 : p = none → zB M L xs y t lv r h K) (h2 : ∀ a, p = some a → zB M L xs y pc2 lv r h K) : zB M L xs y pc lv (.inr (.inl p) :: r) h K := by
  subst hp
  cases p with
  | none => exact z_loc hc (by simp only [mLocal, mLocalC, zC, va_rf, List.map_cons, mA1, Option.bind_some, ht, Option.map_some, if_true]) (h1 rfl)
  | some a => exact z_loc hc (by simp only [mLocal, mLocalC, zC, va_rf, List.map_cons, mA1, Option.bind_some, ht, Option.map_some, reduceCtorEq, if_false]) (h2 a rfl)
theorem z_ifnonnull {off : Int} {t : Nat} {p : Option Nat} (hc : mpCode pg y pc = some (.ifnonnull off)) (ht : mTo pc off = some t) (hp : pc + 3 = pc2) (h1 : ∀ a, p = some a → zB M L xs y t lv r h K) (h2 : p = none → zB M L xs y pc2 lv r h K) : zB M L xs y pc lv (.inr (.inl p) :: r) h K := by
  subst hp
  cases p with
  | none => exact z_loc hc (by simp only [mLocal, mLocalC, zC, va_rf, List.map_cons, mA1, Option.bind_some, ht, Option.map_some, if_true]) (h2 rfl)
  | some a => exact z_loc hc (by simp only [mLocal, mLocalC, zC, va_rf, List.map_cons, mA1, Option.bind_some, ht, Option.map_some, reduceCtorEq, if_false]) (h1 a rfl)
theorem z_tsw {d lo hi e : Int} {offs : Array Int} {td : Nat} (hc : mpCode pg y pc = some (.tableswitch d lo hi offs)) (htd : mTo pc d = some td) (he : zR e) (hd : e < lo ∨ hi < e → zB M L xs y td lv r h K) (hk : ∀ j : Nat, e = lo + j → e ≤ hi → ∃ o t, offs[j]? = some o ∧ mTo pc o = some t ∧ zB M L xs y t lv r h K) : zB M L xs y pc lv (.inl e :: r) h K := by
  by_cases hh : e < lo ∨ hi < e
  · exact z_loc hc (by simp only [mLocal, mLocalC, zC, List.map_cons, mI1, Option.bind_some, z_rng he, if_pos hh, htd, Option.map_some]) (hd hh)
  · obtain ⟨o, t, ho, ht, hb⟩ := hk (e - lo).toNat (by omega) (by omega)
    exact z_loc hc (by simp only [mLocal, mLocalC, zC, List.map_cons, mI1, Option.bind_some, z_rng he, if_neg hh, ho, ht, Option.map_some]) hb
theorem z_iret {e : Int} (hc : mpCode pg y pc = some .ireturn) (hk : Nat.beq (mpInfo pg y).2.2.2.1 1 = true) (hK : K [.inl e] h) : zB M L xs y pc lv [.inl e] h K := by
  have hk := Nat.eq_of_beq_eq_true hk
  exact z_end (r := some (.int (Int32.ofInt e))) hc (by simp only [mEnd, mEndC, List.map_cons, List.map_nil, zC, hk, true_or, if_true]) rfl hK
theorem z_zret {e : Int} (hc : mpCode pg y pc = some .ireturn) (hk : Nat.beq (mpInfo pg y).2.2.2.1 4 = true) (he : e = 0 ∨ e = 1) (hK : K [.inl e] h) : zB M L xs y pc lv [.inl e] h K := by
  have hk := Nat.eq_of_beq_eq_true hk
  have h1 : Int32.ofInt e &&& 1 = Int32.ofInt e := by rcases he with rfl | rfl <;> decide
  exact z_end (r := some (.int (Int32.ofInt e))) hc (by simp only [mEnd, mEndC, List.map_cons, List.map_nil, zC, hk, h1, and_self, or_true, if_true]) rfl hK
theorem z_lret {e : Int} (hc : mpCode pg y pc = some .lreturn) (hk : Nat.beq (mpInfo pg y).2.2.2.1 2 = true) (hK : K [.inr (.inr e)] h) : zB M L xs y pc lv [.inr (.inr e)] h K := by
  have hk := Nat.eq_of_beq_eq_true hk
  exact z_end (r := some (.long (Int64.ofInt e))) hc (by simp only [mEnd, mEndC, List.map_cons, List.map_nil, zC, hk, if_true]) rfl hK
theorem z_aret {p : Option Nat} (hc : mpCode pg y pc = some .areturn) (hk : Nat.beq (mpInfo pg y).2.2.2.1 3 = true) (hK : K [.inr (.inl p)] h) : zB M L xs y pc lv [.inr (.inl p)] h K := by
  have hk := Nat.eq_of_beq_eq_true hk
  exact z_end (r := some (va_rf p)) hc (by cases p <;> simp only [mEnd, mEndC, List.map_cons, List.map_nil, zC, va_rf, hk, if_true]) rfl hK
theorem z_ret (hc : mpCode pg y pc = some .return_) (hk : Nat.beq (mpInfo pg y).2.2.2.1 0 = true) (hK : K [] h) : zB M L xs y pc lv [] h K := by
  have hk := Nat.eq_of_beq_eq_true hk
  exact z_end (r := none) hc (by simp only [mEnd, mEndC, List.map_nil, hk, if_true]) rfl hK
def zCk (y i k y2 : Nat) (ca cr : List Nat) : Bool := match mpInv pg y i with
  | some q => Nat.beq q.1 k && (Nat.beq q.2.1 y2 && (Nat.beq q.2.2 ca.length && (Nat.ble cr.sum 8 && (Nat.ble ((mpInfo pg y2).2.1 + 1) (mpInfo pg y).2.1 && (Nat.ble (8 + ((mpInfo pg y2).1 + 11) + (mpInfo pg y2).2.2.1) (mpInfo pg y).2.2.1 && Nat.ble ca.sum (mpInfo pg y2).1)))))
  | none => false
theorem zSl (as : List zV) : (lg_sl (as.map zC)).length = (as.map zCat).sum := by
  induction as with
  | nil => rfl
  | cons v r ih =>
    simp only [lg_sl, List.map_cons, List.flatMap_cons, List.length_append, List.sum_cons] at ih ⊢
    rw [ih, zC_cat]
    rcases v with e | p | g <;> rfl
theorem zCk_ok {i k y2 : Nat} {as rest : List zV} (h : zCk y i k y2 (as.map zCat) (rest.map zCat) = true) : mpInv pg y i = some (k, y2, as.length) ∧ ((as.reverse ++ rest).map zC).take as.length = (as.reverse).map zC ∧ ((as.reverse ++ rest).map zC).drop as.length = rest.map zC ∧ (as.length ≤ ((as.reverse ++ rest).map zC).length ∧ ((rest.map zC).map (fun v => v.category)).sum ≤ 8 ∧ (mpInfo pg y2).2.1 + 1 ≤ (mpInfo pg y).2.1 ∧ 8 + ((mpInfo pg y2).1 + 11) + (mpInfo pg y2).2.2.1 ≤ (mpInfo pg y).2.2.1 ∧ (lg_sl (as.map zC)).length ≤ (mpInfo pg y2).1) := by
  unfold zCk at h
  split at h
  · next q hq =>
    simp only [Bool.and_eq_true, Nat.beq_eq, Nat.ble_eq, List.length_map] at h
    obtain ⟨h1, h2, h3, h4, h5, h6, h7⟩ := h
    refine ⟨?_, ?_, ?_, ?_, ?_, h5, h6, ?_⟩
    · rw [hq]; obtain ⟨q1, q2, q3⟩ := q; simp only at h1 h2 h3; subst h1 h2 h3; rfl
    · rw [List.map_append]; exact List.take_left' (by simp)
    · rw [List.map_append]; exact List.drop_left' (by simp)
    · simp
    · rw [List.map_map, show ((fun v => v.category) ∘ zC) = zCat from funext zC_cat]; exact h4
    · rw [zSl]; exact h7
  · cases h
theorem z_callS {i y2 : Nat} {st as rest : List zV} (hc : mpCode pg y pc = some (.invokestatic i)) (hp : pc + 3 = pc2) (hst : st = as.reverse ++ rest) (hck : (zCk y i 0 y2 (as.map zCat) (rest.map zCat) || zCk y i 4 y2 (as.map zCat) (rest.map zCat)) = true) (hX : zX M L xs y2 as h (fun rs h2 => zB M L xs y pc2 lv (rs ++ rest) h2 K)) : zB M L xs y pc lv st h K := by
  subst hp hst
  rw [Bool.or_eq_true] at hck
  refine z_callR hc rfl (fun σ _ => ?_) hX
  rcases hck with hck | hck
  · obtain ⟨h1, h2, h3, h4⟩ := zCk_ok hck
    simp only [mCallOf, mCallOfC, h1, Option.bind_some, true_or, if_true, mCallK, h2, h3]
    rw [← List.map_reverse, List.reverse_reverse, if_pos h4]
  · obtain ⟨h1, h2, h3, h4⟩ := zCk_ok hck
    simp only [mCallOf, mCallOfC, h1, Option.bind_some, or_true, if_true, mCallK, h2, h3]
    rw [← List.map_reverse, List.reverse_reverse, if_pos h4]
theorem z_callV {i y2 a c n sl : Nat} {gs : List Int} {T : Nat → zT} {I : Nat → Nat → Int} {P : Nat → Nat → Option Nat} {G : Nat → Nat → Int} {st as rest : List zV} (hc : mpCode pg y pc = some (.invokevirtual i)) (hp : pc + 3 = pc2) (hst : st = as.reverse ++ (.inr (.inl (some a)) :: rest)) (hck : zCk y i 1 y2 (1 :: as.map zCat) (rest.map zCat) = true) (hT : T a = (1, c, gs)) (hcl : Nat.beq (mpInfo pg y2).2.2.2.2.2 c = true) (hX : zX M L xs y2 (.inr (.inl (some a)) :: as) (n, sl, T, I, P, G) (fun rs h2 => zB M L xs y pc2 lv (rs ++ rest) h2 K)) : zB M L xs y pc lv st (n, sl, T, I, P, G) K := by
  subst hp
  have hst : st = (.inr (.inl (some a)) :: as).reverse ++ rest := by rw [hst]; simp
  subst hst
  have hcl := Nat.eq_of_beq_eq_true hcl
  obtain ⟨h1, h2, h3, h4⟩ := zCk_ok (as := .inr (.inl (some a)) :: as) hck
  refine z_callR hc rfl (fun σ hσ => ?_) hX
  have hce := hσ.2.2.1 a
  simp only [hT, zCell] at hce
  have ho : mObj σ a = some (c, zFs (zK c) (I a) (P a) (G a)) := by simp only [mObj, hce]
  simp only [mCallOf, mCallOfC, h1, Option.bind_some, if_true, mCallK, h2, h3]
  rw [← List.map_reverse, List.reverse_reverse, if_pos h4]
  simp only [List.map_cons, zC, va_rf, ho, hcl, if_true]
theorem z_callP {i y2 a : Nat} {st as rest : List zV} (hc : mpCode pg y pc = some (.invokespecial i)) (hp : pc + 3 = pc2) (hst : st = as.reverse ++ (.inr (.inl (some a)) :: rest)) (hck : (zCk y i 2 y2 (1 :: as.map zCat) (rest.map zCat) || zCk y i 3 y2 (1 :: as.map zCat) (rest.map zCat)) = true) (hX : zX M L xs y2 (.inr (.inl (some a)) :: as) h (fun rs h2 => zB M L xs y pc2 lv (rs ++ rest) h2 K)) : zB M L xs y pc lv st h K := by
  subst hp
  have hst : st = (.inr (.inl (some a)) :: as).reverse ++ rest := by rw [hst]; simp
  subst hst
  rw [Bool.or_eq_true] at hck
  have hne : mEnd pg y (.invokespecial i) (((.inr (.inl (some a)) :: as).reverse ++ rest).map zC) = none := rfl
  refine z_callR hc hne (fun σ _ => ?_) hX
  rcases hck with hck | hck
  · obtain ⟨h1, h2, h3, h4⟩ := zCk_ok (as := .inr (.inl (some a)) :: as) hck
    simp only [mCallOf, mCallOfC, h1, Option.bind_some, true_or, if_true, mCallK, h2, h3]
    rw [← List.map_reverse, List.reverse_reverse, if_pos h4]
    simp only [List.map_cons, zC, va_rf]
  · obtain ⟨h1, h2, h3, h4⟩ := zCk_ok (as := .inr (.inl (some a)) :: as) hck
    simp only [mCallOf, mCallOfC, h1, Option.bind_some, or_true, if_true, mCallK, h2, h3]
    rw [← List.map_reverse, List.reverse_reverse, if_pos h4]
    simp only [List.map_cons, zC, va_rf]
end ZL
