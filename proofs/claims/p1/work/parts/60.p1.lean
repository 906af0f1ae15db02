/-! p1: at most one call -/
theorem fSz_ok {v : Nat → Int32} {cx : SCx} (hc : sIn cx v) (e : FC) : mSz (fc v e) ≤ fSz cx e := by
  rcases e with ⟨t, len, c⟩ | ⟨c, fs⟩
  · show mIx (fInt v len) ≤ fSz cx (.inl (t, len, c))
    rcases len with n | n | n | n | n
    · show (Int32.ofNat n).toNatClampNeg ≤ n
      rw [Int32.toNatClampNeg, fTi_ok, fTi]; omega
    · show (0 : Int32).toNatClampNeg ≤ 4294967296
      exact Nat.zero_le _
    · show (v n).toInt.toNat ≤ (match cx[n]? with
        | some p => p.2.toNat
        | none => 4294967296)
      cases hp : cx[n]? with
      | none =>
        have := Int32.toInt_lt (v n)
        simp only
        omega
      | some p =>
        obtain ⟨b1, b2⟩ := hc n p hp
        simp only
        omega
    · show (0 : Int32).toNatClampNeg ≤ 4294967296
      exact Nat.zero_le _
    · show (0 : Int32).toNatClampNeg ≤ 4294967296
      exact Nat.zero_le _
  · show (fs.map (fv v)).length ≤ fs.length
    simp
def fTo (cx : SCx) (T : TT 7) (N z : Nat) : Prop := (Nat.rec (motive := fun _ => Nat → Bool) (fun z => Nat.ble z 7302250) (fun i ih z => fTg 7 T i (fun e => fF (Nat.add z (fSz cx e)) ih)) N z : Bool) = true
theorem fTot_ok {v : Nat → Int32} {cx : SCx} (hc : sIn cx v) {T : TT 7} {N : Nat} {σ : List MC} (hF : FR v T N σ) : ∀ (i z : Nat), i ≤ N → fTo cx T i z → z + ((σ.take i).map mSz).sum ≤ 7302250
  | 0, z, _, h => by
    have h : Nat.ble z 7302250 = true := h
    have := Nat.le_of_ble_eq_true h
    simpa using this
  | i + 1, z, hi, h => by
    have h : fTg 7 T i (fun e => fF (Nat.add z (fSz cx e)) (fun z => Nat.rec (motive := fun _ => Nat → Bool) (fun z => Nat.ble z 7302250) (fun i ih z => fTg 7 T i (fun e => fF (Nat.add z (fSz cx e)) ih)) i z)) = true := h
    obtain ⟨e, he, h⟩ := fTg_ok _ _ _ _ h
    rw [fF_ok] at h
    have ih := fTot_ok hc hF i (z + fSz cx e) (by omega) h
    have h128 := hF.1
    have hs := hF.2.2 i (by omega)
    rw [he] at hs
    rw [List.take_add_one, hs]
    have := fSz_ok (v := v) hc e
    simp only [Option.map_some, Option.toList_some, List.map_append, List.map_cons, List.map_nil, List.sum_append, List.sum_cons, List.sum_nil]
    omega
theorem fFin_ok {v : Nat → Int32} {cx : SCx} (hc : sIn cx v) {T : TT 7} {N : Nat} {σ : List MC} (hF : FR v T N σ) {o : Option FV} (h : fFin cx o T N = true) : Option.map (fv v) o = some (.int 1) ∧ σ.length ≤ 600000 ∧ mSl σ ≤ 7302250 := by
  cases o with
  | none => cases h
  | some x =>
    rcases x with n | n | n | n | n
    · obtain ⟨h1, h⟩ := fIf_an (show fIf (Nat.beq n 1) (fTot cx T N) false = true from h)
      have h1 := Nat.eq_of_beq_eq_true h1
      subst h1
      have ht := fTot_ok hc hF N 0 (Nat.le_refl _) h
      have h2 := hF.2.1
      have h3 := hF.1
      rw [← h2, List.take_length] at ht
      refine ⟨rfl, by omega, ?_⟩
      unfold mSl
      omega
    · cases h
    · cases h
    · cases h
    · cases h
theorem p1_of {L : Nat} (hL : L ≤ 6) {cx : SCx} (xs : Nat → Int32) (h : fLaw L cx = true) (hc : sIn cx (fun i => if i = 6 then xs 0 &&& 63 else xs i)) : lawRuns L xs := by
  have hv : ∀ i, i < L → (fun i => if i = 6 then xs 0 &&& 63 else xs i) i = xs i := by
    intro i hi
    have : ¬ i = 6 := by omega
    simp [this]
  have h6 : (fun i => if i = 6 then xs 0 &&& 63 else xs i) 6 = (fun i => if i = 6 then xs 0 &&& 63 else xs i) 0 &&& 63 := by simp
  have hj : cor pg pgLaw 0 (fBk (fB pgLaw) 0) = true := fBk_ok (p := fun t c => cor pg pgLaw t c = true) rfl (fB_ok pgLaw)
  obtain ⟨r, τ, T2, N2, cx2, h1, h2, h3, h4⟩ := fRun_sound (P := pg) (xs := xs) (fB_ok pgLaw) (fExec_sound (P := pg) (xs := xs) fB_ok (by omega) hv h6 (fEl_ok _) 60000 8) (by omega) hv h6 (fEl_ok _) 60000 cx 0 _ _ _ _ _ _ [] h hj hc (FR_zero _)
  obtain ⟨k1, k2, k3⟩ := fFin_ok h3 h2 h4
  rw [k1] at h1
  exact ⟨2 * 60000, 8, τ, h1, k2, k3⟩
theorem p1_in (xs : Nat → Int32) {a b : Int} (h1 : a ≤ (xs 0 &&& 63).toInt) (h2 : (xs 0 &&& 63).toInt ≤ b) : sIn (sCx a b) (fun i => if i = 6 then xs 0 &&& 63 else xs i) := by
  have fl : ∀ x : Int32, sFull.1 ≤ x.toInt ∧ x.toInt ≤ sFull.2 := fun x => ⟨by have := Int32.le_toInt x; simpa [sFull] using this, by have := Int32.toInt_lt x; simp only [sFull]; omega⟩
  intro i q hq
  match i, hq with
  | 0, hq => cases hq; exact fl _
  | 1, hq => cases hq; exact fl _
  | 2, hq => cases hq; exact fl _
  | 3, hq => cases hq; exact fl _
  | 4, hq => cases hq; exact fl _
  | 5, hq => cases hq; exact fl _
  | 6, hq => cases hq; simp only [if_pos]; exact ⟨h1, h2⟩
  | k + 7, hq => simp [sCx] at hq
theorem p1_63 (x : Int32) : 0 ≤ (x &&& 63).toInt ∧ (x &&& 63).toInt ≤ 63 := by
  have h : (x &&& 63).toBitVec.toNat ≤ 63 := by
    show (x.toBitVec &&& 63#32).toNat ≤ 63
    rw [BitVec.toNat_and]
    exact Nat.and_le_right
  have h2 : (x &&& 63).toInt = ((x &&& 63).toBitVec.toNat : Int) := by
    show (x &&& 63).toBitVec.toInt = _
    rw [BitVec.toInt_eq_toNat_cond, if_pos (by omega)]
  omega
theorem law_runs {L : Nat} (hL : L ≤ 6) (xs : Nat → Int32) : lawRuns L xs := by
  have nil : ∀ v : Nat → Int32, sIn [] v := fun v i p h => by simp at h
  obtain ⟨b1, b2⟩ := p1_63 (xs 0)
  rcases (by omega : L = 0 ∨ L = 1 ∨ L = 2 ∨ L = 3 ∨ L = 4 ∨ L = 5 ∨ L = 6) with rfl | rfl | rfl | rfl | rfl | rfl | rfl
  · exact p1_of hL xs p1len_0 (nil _)
  · exact p1_of hL xs p1len_1 (nil _)
  · exact p1_of hL xs p1len_2 (nil _)
  · exact p1_of hL xs p1len_3 (nil _)
  · exact p1_of hL xs p1len_4 (nil _)
  · exact p1_of hL xs p1len_5 (nil _)
  · by_cases hx : 36 ≤ (xs 0 &&& 63).toInt
    · exact p1_of hL xs p1op_36 (p1_in xs hx b2)
    · rcases (by omega : (xs 0 &&& 63).toInt = 0 ∨ (xs 0 &&& 63).toInt = 1 ∨ (xs 0 &&& 63).toInt = 2 ∨ (xs 0 &&& 63).toInt = 3 ∨ (xs 0 &&& 63).toInt = 4 ∨ (xs 0 &&& 63).toInt = 5 ∨ (xs 0 &&& 63).toInt = 6 ∨ (xs 0 &&& 63).toInt = 7 ∨ (xs 0 &&& 63).toInt = 8 ∨ (xs 0 &&& 63).toInt = 9 ∨ (xs 0 &&& 63).toInt = 10 ∨ (xs 0 &&& 63).toInt = 11 ∨ (xs 0 &&& 63).toInt = 12 ∨ (xs 0 &&& 63).toInt = 13 ∨ (xs 0 &&& 63).toInt = 14 ∨ (xs 0 &&& 63).toInt = 15 ∨ (xs 0 &&& 63).toInt = 16 ∨ (xs 0 &&& 63).toInt = 17 ∨ (xs 0 &&& 63).toInt = 18 ∨ (xs 0 &&& 63).toInt = 19 ∨ (xs 0 &&& 63).toInt = 20 ∨ (xs 0 &&& 63).toInt = 21 ∨ (xs 0 &&& 63).toInt = 22 ∨ (xs 0 &&& 63).toInt = 23 ∨ (xs 0 &&& 63).toInt = 24 ∨ (xs 0 &&& 63).toInt = 25 ∨ (xs 0 &&& 63).toInt = 26 ∨ (xs 0 &&& 63).toInt = 27 ∨ (xs 0 &&& 63).toInt = 28 ∨ (xs 0 &&& 63).toInt = 29 ∨ (xs 0 &&& 63).toInt = 30 ∨ (xs 0 &&& 63).toInt = 31 ∨ (xs 0 &&& 63).toInt = 32 ∨ (xs 0 &&& 63).toInt = 33 ∨ (xs 0 &&& 63).toInt = 34 ∨ (xs 0 &&& 63).toInt = 35) with h | h | h | h | h | h | h | h | h | h | h | h | h | h | h | h | h | h | h | h | h | h | h | h | h | h | h | h | h | h | h | h | h | h | h | h
      · exact p1_of hL xs p1op_0 (p1_in xs (by omega) (by omega))
      · exact p1_of hL xs p1op_1 (p1_in xs (by omega) (by omega))
      · exact p1_of hL xs p1op_2 (p1_in xs (by omega) (by omega))
      · exact p1_of hL xs p1op_3 (p1_in xs (by omega) (by omega))
      · exact p1_of hL xs p1op_4 (p1_in xs (by omega) (by omega))
      · exact p1_of hL xs p1op_5 (p1_in xs (by omega) (by omega))
      · exact p1_of hL xs p1op_6 (p1_in xs (by omega) (by omega))
      · exact p1_of hL xs p1op_7 (p1_in xs (by omega) (by omega))
      · exact p1_of hL xs p1op_8 (p1_in xs (by omega) (by omega))
      · exact p1_of hL xs p1op_9 (p1_in xs (by omega) (by omega))
      · exact p1_of hL xs p1op_10 (p1_in xs (by omega) (by omega))
      · exact p1_of hL xs p1op_11 (p1_in xs (by omega) (by omega))
      · exact p1_of hL xs p1op_12 (p1_in xs (by omega) (by omega))
      · exact p1_of hL xs p1op_13 (p1_in xs (by omega) (by omega))
      · exact p1_of hL xs p1op_14 (p1_in xs (by omega) (by omega))
      · exact p1_of hL xs p1op_15 (p1_in xs (by omega) (by omega))
      · exact p1_of hL xs p1op_16 (p1_in xs (by omega) (by omega))
      · exact p1_of hL xs p1op_17 (p1_in xs (by omega) (by omega))
      · exact p1_of hL xs p1op_18 (p1_in xs (by omega) (by omega))
      · exact p1_of hL xs p1op_19 (p1_in xs (by omega) (by omega))
      · exact p1_of hL xs p1op_20 (p1_in xs (by omega) (by omega))
      · exact p1_of hL xs p1op_21 (p1_in xs (by omega) (by omega))
      · exact p1_of hL xs p1op_22 (p1_in xs (by omega) (by omega))
      · exact p1_of hL xs p1op_23 (p1_in xs (by omega) (by omega))
      · exact p1_of hL xs p1op_24 (p1_in xs (by omega) (by omega))
      · exact p1_of hL xs p1op_25 (p1_in xs (by omega) (by omega))
      · exact p1_of hL xs p1op_26 (p1_in xs (by omega) (by omega))
      · exact p1_of hL xs p1op_27 (p1_in xs (by omega) (by omega))
      · exact p1_of hL xs p1op_28 (p1_in xs (by omega) (by omega))
      · exact p1_of hL xs p1op_29 (p1_in xs (by omega) (by omega))
      · exact p1_of hL xs p1op_30 (p1_in xs (by omega) (by omega))
      · exact p1_of hL xs p1op_31 (p1_in xs (by omega) (by omega))
      · exact p1_of hL xs p1op_32 (p1_in xs (by omega) (by omega))
      · exact p1_of hL xs p1op_33 (p1_in xs (by omega) (by omega))
      · exact p1_of hL xs p1op_34 (p1_in xs (by omega) (by omega))
      · exact p1_of hL xs p1op_35 (p1_in xs (by omega) (by omega))
