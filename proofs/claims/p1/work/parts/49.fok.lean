/-! what the fast machine's values and cells stand for -/
def fRf (n : Nat) : Value := match n with
  | 0 => .null
  | k + 1 => .ref k
def fv (v : Nat → Int32) (x : FV) : Value := match x with
  | .inl n => .int (Int32.ofNat n)
  | .inr (.inl n) => fRf n
  | .inr (.inr (.inl j)) => .int (v j)
  | .inr (.inr (.inr (.inl n))) => .long (Int64.ofNat n)
  | .inr (.inr (.inr (.inr j))) => .long (v j).toInt64
def fInt (v : Nat → Int32) (x : FV) : Int32 := match x with
  | .inl n => Int32.ofNat n
  | .inr (.inr (.inl j)) => v j
  | _ => 0
def fOpR (x : FV) : Option Nat := match x with
  | .inr (.inl (k + 1)) => some k
  | _ => none
def fArr (v : Nat → Int32) : FL → Nat → Int32
  | [] => fun _ => 0
  | q :: r => upd (fArr v r) q.1 (fInt v q.2)
def fRrr : FL → Nat → Option Nat
  | [] => fun _ => none
  | q :: r => va_up (fRrr r) q.1 (fOpR q.2)
def fCt (v : Nat → Int32) (t : Nat) (c : FL) : (Nat → Int32) ⊕ (Nat → Int64) ⊕ (Nat → UInt32) ⊕ (Nat → UInt64) ⊕ (Nat → Option Nat) := match t with
  | 0 => .inl (fArr v c)
  | 1 => .inr (.inl (fun _ => 0))
  | 2 => .inl (fArr v c)
  | _ => .inr (.inr (.inr (.inr (fRrr c))))
def fc (v : Nat → Int32) (e : FC) : MC := match e with
  | .inl a => .inl (a.1, mIx (fInt v a.2.1), fCt v a.1 a.2.2)
  | .inr o => .inr (o.1, o.2.map (fv v))
def fLT (v : Nat → Int32) (lv : FL) : MLv := lv.map (fun q => (q.1, fv v q.2))
def tg : (d : Nat) → TT d → Nat → Option FC
  | 0, o, _ => (o : Option FC)
  | d + 1, p, k => if k % 2 = 0 then tg d (p : TT d × TT d).1 (k / 2) else tg d (p : TT d × TT d).2 (k / 2)
theorem fIf_of {b x z : Bool} (h : fIf b x z = true) : (b = true ∧ x = true) ∨ (b = false ∧ z = true) := by
  cases b
  · exact Or.inr ⟨rfl, h⟩
  · exact Or.inl ⟨rfl, h⟩
theorem fIf_an {b x : Bool} (h : fIf b x false = true) : b = true ∧ x = true := by
  cases b
  · cases h
  · exact ⟨rfl, h⟩
theorem fIf_na {b x : Bool} (h : fIf b false x = true) : b = false ∧ x = true := by
  cases b
  · exact ⟨rfl, h⟩
  · cases h
theorem fF_ok (n : Nat) (k : Nat → Bool) : fF n k = k n := by cases n <;> rfl
theorem fNe {a b : Nat} (h : Nat.beq a b = false) : a ≠ b := fun e => by rw [e, Nat.beq_refl] at h; cases h
theorem fLs_ok {α : Type} {l : List α} {s : α → List α → Bool} (h : fLs l s = true) : ∃ a r, l = a :: r ∧ s a r = true := by
  cases l with
  | nil => cases h
  | cons a r => exact ⟨a, r, rfl, h⟩
theorem fNil_ok {α : Type} {l : List α} {b : Bool} (h : fNil l b = true) : l = [] ∧ b = true := by
  cases l with
  | nil => exact ⟨rfl, h⟩
  | cons a r => cases h
theorem fTg_ok : ∀ (d : Nat) (T : TT d) (k : Nat) (K : FC → Bool), fTg d T k K = true → ∃ e, tg d T k = some e ∧ K e = true
  | 0, T, k, K, h => by
    have h2 : (Option.rec (motive := fun _ => Bool) false K (T : Option FC)) = true := h
    cases hT : (T : Option FC) with
    | none => rw [hT] at h2; cases h2
    | some e => rw [hT] at h2; exact ⟨e, rfl, h2⟩
  | d + 1, T, k, K, h => by
    have h2 : fIf (Nat.beq (k % 2) 0) (fTg d (T : TT d × TT d).1 (k / 2) K) (fTg d (T : TT d × TT d).2 (k / 2) K) = true := h
    rcases fIf_of h2 with ⟨hb, hx⟩ | ⟨hb, hx⟩
    · obtain ⟨e, h3, h4⟩ := fTg_ok d _ _ _ hx
      refine ⟨e, ?_, h4⟩
      rw [tg, if_pos (Nat.eq_of_beq_eq_true hb)]
      exact h3
    · obtain ⟨e, h3, h4⟩ := fTg_ok d _ _ _ hx
      refine ⟨e, ?_, h4⟩
      rw [tg, if_neg (fNe hb)]
      exact h3
theorem tg_e {d : Nat} (T : TT (d + 1)) {j : Nat} (h : j % 2 = 0) : tg (d + 1) T j = tg d (T : TT d × TT d).1 (j / 2) := by rw [tg, if_pos h]
theorem tg_o {d : Nat} (T : TT (d + 1)) {j : Nat} (h : ¬ j % 2 = 0) : tg (d + 1) T j = tg d (T : TT d × TT d).2 (j / 2) := by rw [tg, if_neg h]
theorem fBeq (a b : Nat) : Nat.beq a b = (a == b) := by
  cases h : Nat.beq a b with
  | true => simp [Nat.eq_of_beq_eq_true h]
  | false => simp [fNe h]
theorem fTp_ok : ∀ (d : Nat) (T : TT d) (k : Nat) (e : FC) (j : Nat), j < 2 ^ d → k < 2 ^ d → tg d (fTp d T k e) j = if j = k then some e else tg d T j
  | 0, T, k, e, j, hj, hk => by
    have : j = k := by omega
    rw [if_pos this]
    rfl
  | d + 1, T, k, e, j, hj, hk => by
    have hj2 : j / 2 < 2 ^ d := by rw [Nat.pow_succ] at hj; omega
    have hk2 : k / 2 < 2 ^ d := by rw [Nat.pow_succ] at hk; omega
    have e0 : fTp (d + 1) T k e = fIf (Nat.beq (k % 2) 0) ((fTp d (T : TT d × TT d).1 (k / 2) e, (T : TT d × TT d).2) : TT d × TT d) ((T : TT d × TT d).1, fTp d (T : TT d × TT d).2 (k / 2) e) := rfl
    cases hb : Nat.beq (k % 2) 0 with
    | true =>
      have hk0 : k % 2 = 0 := Nat.eq_of_beq_eq_true hb
      rw [hb] at e0
      have e1 : fTp (d + 1) T k e = ((fTp d (T : TT d × TT d).1 (k / 2) e, (T : TT d × TT d).2) : TT d × TT d) := e0
      by_cases hj0 : j % 2 = 0
      · refine (tg_e _ hj0).trans ?_
        rw [e1]
        refine (fTp_ok d (T : TT d × TT d).1 (k / 2) e (j / 2) hj2 hk2).trans ?_
        by_cases hjk : j = k
        · rw [if_pos hjk, if_pos (by rw [hjk])]
        · rw [if_neg hjk, if_neg (by omega)]
          exact (tg_e T hj0).symm
      · refine (tg_o _ hj0).trans ?_
        rw [e1, if_neg (by intro q; rw [q] at hj0; exact hj0 hk0)]
        exact (tg_o T hj0).symm
    | false =>
      have hk0 : k % 2 ≠ 0 := fNe hb
      rw [hb] at e0
      have e1 : fTp (d + 1) T k e = (((T : TT d × TT d).1, fTp d (T : TT d × TT d).2 (k / 2) e) : TT d × TT d) := e0
      by_cases hj0 : j % 2 = 0
      · refine (tg_e _ hj0).trans ?_
        rw [e1, if_neg (by intro q; rw [q] at hj0; exact hk0 hj0)]
        exact (tg_e T hj0).symm
      · refine (tg_o _ hj0).trans ?_
        rw [e1]
        refine (fTp_ok d (T : TT d × TT d).2 (k / 2) e (j / 2) hj2 hk2).trans ?_
        by_cases hjk : j = k
        · rw [if_pos hjk, if_pos (by rw [hjk])]
        · rw [if_neg hjk, if_neg (by omega)]
          exact (tg_o T hj0).symm
theorem fT0_ok : ∀ (d k : Nat), tg d (fT0 d) k = none
  | 0, k => rfl
  | d + 1, k => by
    rw [tg]
    split
    · exact fT0_ok d _
    · exact fT0_ok d _
def FR (v : Nat → Int32) (T : TT 7) (N : Nat) (σ : List MC) : Prop := N ≤ 128 ∧ σ.length = N ∧ ∀ k, k < 128 → σ[k]? = (tg 7 T k).map (fc v)
theorem FR_zero (v : Nat → Int32) : FR v (fT0 7) 0 [] := ⟨by omega, rfl, fun k _ => by rw [fT0_ok]; rfl⟩
theorem FR_put {v : Nat → Int32} {T : TT 7} {N : Nat} {σ : List MC} (h : FR v T N σ) {k : Nat} {e : FC} (hk : k < 128) (ht : tg 7 T k = some e) (e2 : FC) : FR v (fTp 7 T k e2) N (σ.set k (fc v e2)) := by
  obtain ⟨h1, h2, h3⟩ := h
  refine ⟨h1, by rw [List.length_set]; exact h2, fun j hj => ?_⟩
  rw [fTp_ok 7 T k e2 j hj hk]
  by_cases hjk : j = k
  · subst hjk
    have := h3 j hj
    rw [ht] at this
    rw [if_pos rfl, List.getElem?_set_self', this]
    rfl
  · rw [if_neg hjk, List.getElem?_set_ne (fun q => hjk q.symm)]
    exact h3 j hj
theorem FR_new {v : Nat → Int32} {T : TT 7} {N : Nat} {σ : List MC} (h : FR v T N σ) (hN : N < 128) (e2 : FC) : FR v (fTp 7 T N e2) (N + 1) (σ ++ [fc v e2]) := by
  obtain ⟨h1, h2, h3⟩ := h
  refine ⟨by omega, by simp [h2], fun j hj => ?_⟩
  rw [fTp_ok 7 T N e2 j hj hN]
  by_cases hjk : j = N
  · subst hjk
    rw [if_pos rfl, ← h2, List.getElem?_concat_length]
    rfl
  · rw [if_neg hjk, ← h3 j hj]
    by_cases hl : j < N
    · rw [List.getElem?_append_left (by omega)]
    · rw [List.getElem?_eq_none (by simp; omega), List.getElem?_eq_none (by omega)]
theorem fCell_ok {v : Nat → Int32} {T : TT 7} {N : Nat} {σ : List MC} (h : FR v T N σ) {x : FV} {K : Nat → FC → Bool} (hc : fCell T x K = true) : ∃ k e, k < 128 ∧ x = .inr (.inl (k + 2)) ∧ tg 7 T k = some e ∧ σ[k]? = some (fc v e) ∧ K k e = true := by
  rcases x with n | n | n | n | n
  · cases hc
  · have hc : fIf (Nat.ble 2 n) (fIf (Nat.ble n 129) (fTg 7 T (n - 2) (K (n - 2))) false) false = true := hc
    obtain ⟨h1, hc⟩ := fIf_an hc
    obtain ⟨h2, hc⟩ := fIf_an hc
    have h1 := Nat.le_of_ble_eq_true h1
    have h2 := Nat.le_of_ble_eq_true h2
    obtain ⟨e, he, hK⟩ := fTg_ok _ _ _ _ hc
    have := h.2.2 (n - 2) (by omega)
    rw [he] at this
    exact ⟨n - 2, e, by omega, by rw [show n - 2 + 2 = n by omega], he, this, hK⟩
  · cases hc
  · cases hc
  · cases hc
theorem fIsI_ok {v : Nat → Int32} {x : FV} {b : Bool} (h : fIsI x b = true) : fv v x = .int (fInt v x) ∧ b = true := by
  rcases x with n | n | n | n | n
  · exact ⟨rfl, h⟩
  · cases h
  · exact ⟨rfl, h⟩
  · cases h
  · cases h
theorem fRf_va (n : Nat) : fRf n = va_rf (fOpR (.inr (.inl n))) := by cases n <;> rfl
theorem fIsA_ok {v : Nat → Int32} {x : FV} {b : Bool} (h : fIsA x b = true) : fv v x = va_rf (fOpR x) ∧ b = true := by
  rcases x with n | n | n | n | n
  · cases h
  · exact ⟨fRf_va n, h⟩
  · cases h
  · cases h
  · cases h
theorem fIsL_ok {v : Nat → Int32} {x : FV} {b : Bool} (h : fIsL x b = true) : (∃ z : Int64, fv v x = .long z) ∧ b = true := by
  rcases x with n | n | n | n | n
  · cases h
  · cases h
  · cases h
  · exact ⟨⟨_, rfl⟩, h⟩
  · exact ⟨⟨_, rfl⟩, h⟩
theorem fv_cat (v : Nat → Int32) (x : FV) : (fv v x).category = fCat x := by
  rcases x with n | n | n | n | n
  · rfl
  · cases n <;> rfl
  · rfl
  · rfl
  · rfl
theorem fLd_ok {v : Nat → Int32} {lv : FL} {i : Nat} {k : FV → Bool} (h : fLd lv i k = true) : ∃ x, mLook (fLT v lv) i = some (fv v x) ∧ k x = true := by
  induction lv with
  | nil => cases h
  | cons q r ih =>
    have h : fIf (Nat.beq q.1 i) (k q.2) (fLd r i k) = true := h
    rcases fIf_of h with ⟨hb, hx⟩ | ⟨hb, hx⟩
    · refine ⟨q.2, ?_, hx⟩
      simp [mLook, fLT, List.find?, Nat.eq_of_beq_eq_true hb]
    · obtain ⟨x, h2, h3⟩ := ih hx
      refine ⟨x, ?_, h3⟩
      simp only [mLook, fLT, List.map_cons, List.find?] at h2 ⊢
      have : (q.1 == i) = false := by simpa using fNe hb
      rw [this]
      exact h2
theorem fKp_ok (v : Nat → Int32) (i : Nat) (q : Nat × FV) : fKp i q = !(q.1 + 1 == i && (fv v q.2).category == 2) := by
  obtain ⟨a, x⟩ := q
  rcases x with n | n | n | n | n
  · simp [fKp, fE, fYes, fv, Value.category]
  · cases n <;> simp [fKp, fE, fYes, fv, fRf, Value.category]
  · simp [fKp, fE, fYes, fv, Value.category]
  · show fIf (Nat.beq (a + 1) i) false true = _
    rw [fBeq]
    cases h : (a + 1 == i) <;> simp [fIf, fv, Value.category, h]
  · show fIf (Nat.beq (a + 1) i) false true = _
    rw [fBeq]
    cases h : (a + 1 == i) <;> simp [fIf, fv, Value.category, h]
theorem fFl_ok {v : Nat → Int32} {p : Nat × FV → Bool} {p2 : Nat × Value → Bool} (hp : ∀ q : Nat × FV, p q = p2 (q.1, fv v q.2)) (lv : FL) : fLT v (fFl p lv) = (fLT v lv).filter p2 := by
  induction lv with
  | nil => rfl
  | cons q r ih =>
    have e : fFl p (q :: r) = fIf (p q) (q :: fFl p r) (fFl p r) := rfl
    rw [e]
    simp only [fLT, List.map_cons, List.filter_cons] at ih ⊢
    rw [← hp]
    cases p q
    · simp only [fIf]; exact ih
    · simp only [fIf, List.map_cons]; rw [ih]; rfl
theorem fSt1_ok (v : Nat → Int32) (lv : FL) (i : Nat) (x : FV) : mSt1 (fLT v lv) i (fv v x) = fLT v (fSt1 lv i x) := by
  have h := fFl_ok (v := v) (p := fK1 i) (p2 := fun q => !(q.1 == i) && !(q.1 + 1 == i && q.2.category == 2)) (fun q => by
    show fIf (Nat.beq q.1 i) false (fKp i q) = _
    rw [fKp_ok v]
    rw [fBeq]
    cases h : (q.1 == i) <;> simp [fIf, h]) lv
  show _ = (i, fv v x) :: fLT v (fFl (fK1 i) lv)
  rw [h]
  rfl
theorem fSt2_ok (v : Nat → Int32) (lv : FL) (i : Nat) (x : FV) : mSt2 (fLT v lv) i (fv v x) = fLT v (fSt2 lv i x) := by
  have h := fFl_ok (v := v) (p := fK2 i) (p2 := fun q => !(q.1 == i) && (!(q.1 == i + 1) && !(q.1 + 1 == i && q.2.category == 2))) (fun q => by
    show fIf (Nat.beq q.1 i) false (fIf (Nat.beq q.1 (i + 1)) false (fKp i q)) = _
    rw [fKp_ok v]
    rw [fBeq, fBeq]
    cases h : (q.1 == i) <;> cases h2 : (q.1 == i + 1) <;> simp [fIf, h, h2]) lv
  show _ = (i, fv v x) :: fLT v (fFl (fK2 i) lv)
  rw [h]
  rfl
theorem fNum_ok {v : Nat → Int32} {cx : SCx} (hc : sIn cx v) {x : FV} {again : SCx → Bool} {K : Nat → Bool} (h : fNum cx x again K = true) : (∃ n, fv v x = .int (Int32.ofNat n) ∧ K n = true) ∨ ∃ cx2, sIn cx2 v ∧ again cx2 = true := by
  rcases x with n | n | n | n | n
  · exact Or.inl ⟨n, rfl, h⟩
  · cases h
  · have h : fSym cx n again K = true := h
    unfold fSym at h
    split at h
    · next p hp =>
      obtain ⟨b1, b2⟩ := hc n p hp
      split at h
      · next he =>
        refine Or.inl ⟨fOfI p.1, ?_, h⟩
        rw [fOfI_of (x := v n) (by omega)]
        rfl
      · obtain ⟨hne, hall⟩ := sAny_ok h
        obtain ⟨cx2, hm, hin⟩ := sEnum_ok hc hne
        exact Or.inr ⟨cx2, hin, hall cx2 hm⟩
    · cases h
  · cases h
  · cases h
theorem fInt_of {v : Nat → Int32} {x : FV} {n : Int32} (h : fv v x = .int n) : fInt v x = n := by
  rcases x with m | m | m | m | m
  · cases h; rfl
  · cases m <;> cases h
  · cases h; rfl
  · cases h
  · cases h
theorem fInB_ok {v : Nat → Int32} {cx : SCx} (hc : sIn cx v) {m : Nat} {len : FV} {b : Bool} (h : fInB cx m len b = true) : mIn (Int32.ofNat m) (mIx (fInt v len)) = true ∧ mIx (Int32.ofNat m) = m ∧ b = true := by
  have key : ∀ n, m < n → n ≤ 2147483647 → mIn (Int32.ofNat m) n = true ∧ mIx (Int32.ofNat m) = m := by
    intro n h1 h2
    have hx : (Int32.ofNat m).toNatClampNeg = m := by
      rw [Int32.toNatClampNeg, fTi_ok, fTi]; omega
    have hn : ¬ Int32.ofNat m < 0 := by
      rw [Int32.lt_iff_toInt_lt, fTi_ok, fTi]; simp; omega
    refine ⟨?_, hx⟩
    simp only [mIn, hx, Bool.and_eq_true, decide_eq_true_eq, Bool.not_eq_true', decide_eq_false_iff_not]
    exact ⟨hn, h1⟩
  rcases len with n | n | n | n | n
  · have h : fIf (Nat.ble (m + 1) n) (fIf (Nat.ble n 1000000) b false) false = true := h
    obtain ⟨h1, h⟩ := fIf_an h
    obtain ⟨h2, h⟩ := fIf_an h
    have h1 := Nat.le_of_ble_eq_true h1
    have h2 := Nat.le_of_ble_eq_true h2
    have e : mIx (fInt v (.inl n)) = n := fIx h2
    rw [e]
    obtain ⟨k1, k2⟩ := key n (by omega) (by omega)
    exact ⟨k1, k2, h⟩
  · cases h
  · have h : fLow cx n m b = true := h
    unfold fLow at h
    split at h
    · next p hp =>
      obtain ⟨b1, b2⟩ := hc n p hp
      split at h
      · next hlt =>
        have e : ((mIx (fInt v (.inr (.inr (.inl n)))) : Nat) : Int) = (v n).toInt := by
          show (((v n).toInt.toNat : Nat) : Int) = _
          omega
        have h9 := Int32.toInt_lt (v n)
        obtain ⟨k1, k2⟩ := key _ (show m < mIx (fInt v (.inr (.inr (.inl n)))) by omega) (by omega)
        exact ⟨k1, k2, h⟩
      · cases h
    · cases h
  · cases h
  · cases h
theorem fLng_ok {v : Nat → Int32} {cx : SCx} (hc : sIn cx v) {len : FV} {b : Bool} (h : fLng cx len b = true) : (fv v len = .int (fInt v len) ∧ ¬ fInt v len < 0 ∧ mIx (fInt v len) ≤ 1000000 ∧ Int32.ofNat (mIx (fInt v len)) = fInt v len) ∧ b = true := by
  rcases len with n | n | n | n | n
  · obtain ⟨h1, h⟩ := fIf_an (show fIf (Nat.ble n 1000000) b false = true from h)
    have h1 := Nat.le_of_ble_eq_true h1
    have e : mIx (fInt v (.inl n)) = n := fIx h1
    refine ⟨⟨rfl, fNng h1, by rw [e]; exact h1, by rw [e]; rfl⟩, h⟩
  · cases h
  · have h : fMay cx n b = true := h
    unfold fMay at h
    split at h
    · next p hp =>
      obtain ⟨b1, b2⟩ := hc n p hp
      split at h
      · next hlt =>
        have e : ((mIx (v n) : Nat) : Int) = (v n).toInt := by
          show (((v n).toInt.toNat : Nat) : Int) = _
          omega
        refine ⟨⟨rfl, ?_, ?_, ?_⟩, h⟩
        · show ¬ v n < 0
          rw [Int32.lt_iff_toInt_lt]; simp; omega
        · show mIx (v n) ≤ 1000000
          omega
        · show Int32.ofNat (mIx (v n)) = v n
          apply Int32.toInt_inj.mp
          rw [fTi_ok, fTi]; omega
      · cases h
    · cases h
  · cases h
  · cases h
theorem fGt_ok {c : FL} {i : Nat} {d : FV} {k : FV → Bool} (h : fGt c i d k = true) : k (fAt c i d) = true := by
  induction c with
  | nil => exact h
  | cons q r ih =>
    have h : fIf (Nat.beq q.1 i) (k q.2) (fGt r i d k) = true := h
    have e : fAt (q :: r) i d = fIf (Nat.beq q.1 i) q.2 (fAt r i d) := rfl
    rw [e]
    rcases fIf_of h with ⟨hb, hx⟩ | ⟨hb, hx⟩
    · rw [hb]; exact hx
    · rw [hb]; exact ih hx
theorem fArr_at (v : Nat → Int32) (c : FL) (i : Nat) : fInt v (fAt c i (.inl 0)) = fArr v c i := by
  induction c with
  | nil => rfl
  | cons q r ih =>
    have e : fAt (q :: r) i (.inl 0) = fIf (Nat.beq q.1 i) q.2 (fAt r i (.inl 0)) := rfl
    rw [e, fArr, upd]
    cases hb : Nat.beq q.1 i with
    | true => rw [if_pos (Nat.eq_of_beq_eq_true hb).symm]; rfl
    | false => rw [if_neg (fun q => fNe hb q.symm)]; exact ih
theorem fRrr_at (c : FL) (i : Nat) : fOpR (fAt c i (.inr (.inl 0))) = fRrr c i := by
  induction c with
  | nil => rfl
  | cons q r ih =>
    have e : fAt (q :: r) i (.inr (.inl 0)) = fIf (Nat.beq q.1 i) q.2 (fAt r i (.inr (.inl 0))) := rfl
    rw [e, fRrr, va_up]
    cases hb : Nat.beq q.1 i with
    | true => rw [if_pos (Nat.eq_of_beq_eq_true hb).symm]; rfl
    | false => rw [if_neg (fun q => fNe hb q.symm)]; exact ih
theorem fNth_ok {α : Type} : ∀ {l : List α} {i : Nat} {K : α → Bool}, fNth l i K = true → ∃ a, l[i]? = some a ∧ K a = true
  | [], _, _, h => by cases h
  | a :: r, 0, K, h => ⟨a, rfl, h⟩
  | a :: r, i + 1, K, h => by
    have h : fNth r i K = true := h
    obtain ⟨b, h1, h2⟩ := fNth_ok h
    exact ⟨b, by simpa using h1, h2⟩
theorem fSet_ok : ∀ (l : List FV) (i : Nat) (x : FV), fSet l i x = l.set i x
  | [], _, _ => rfl
  | a :: r, 0, x => rfl
  | a :: r, i + 1, x => by
    show a :: fSet r i x = _
    rw [fSet_ok r i x]
    rfl
theorem fLen_ok {α : Type} (l : List α) : fLen l = l.length := by
  induction l with
  | nil => rfl
  | cons a r ih => show Nat.succ (fLen r) = _; rw [ih]; rfl
theorem fSum_ok (v : Nat → Int32) (l : List FV) : ((l.map (fv v)).map (fun x => x.category)).sum = fSum l := by
  induction l with
  | nil => rfl
  | cons a r ih => show _ = fCat a + fSum r; simp only [List.map_cons, List.sum_cons, fv_cat]; rw [ih]
theorem fShort {v : Nat → Int32} {s : List FV} (h : Nat.ble (fLen s) 4 = true) : ((s.map (fv v)).map (fun x => x.category)).sum ≤ 8 := by
  have h := Nat.le_of_ble_eq_true h
  rw [fLen_ok] at h
  have : ∀ l : List FV, ((l.map (fv v)).map (fun x => x.category)).sum ≤ 2 * l.length := by
    intro l
    induction l with
    | nil => simp
    | cons a r ih =>
      simp only [List.map_cons, List.sum_cons, List.length_cons]
      have : (fv v a).category ≤ 2 := by rcases lv_cat (fv v a) with q | q <;> omega
      omega
  have := this s
  omega
theorem fBk_ok {B : FB} {t : Nat} {p : Nat → List Instr → Prop} (h0 : p t []) (h : ∀ q ∈ B, p q.1 q.2) : p t (fBk B t) := by
  induction B with
  | nil => exact h0
  | cons q r ih =>
    have e : fBk (q :: r) t = fIf (Nat.beq q.1 t) q.2 (fBk r t) := rfl
    rw [e]
    cases hb : Nat.beq q.1 t with
    | true =>
      have := h q (List.mem_cons_self ..)
      rw [Nat.eq_of_beq_eq_true hb] at this
      exact this
    | false => exact ih (fun q hq => h q (List.mem_cons_of_mem _ hq))
theorem fCmp_ok (c : Jvm.ClassFile.Cond) (m n : Nat) : fCmp c (fOff m) (fOff n) = mIf c (Int32.ofNat m) (Int32.ofNat n) := by
  have hb : ∀ a b : Nat, Nat.beq a b = decide (a = b) := fun a b => by
    cases h : Nat.beq a b
    · simp [fNe h]
    · simp [Nat.eq_of_beq_eq_true h]
  have hl : ∀ a b : Nat, Nat.ble a b = decide (a ≤ b) := fun a b => by
    cases h : Nat.ble a b
    · have hn : ¬ a ≤ b := fun q => by rw [Nat.ble_eq_true_of_le q] at h; cases h
      rw [decide_eq_false hn]
    · simp [Nat.le_of_ble_eq_true h]
  have o : ∀ a, fOff a = (a + 2147483648) % 4294967296 := fun _ => rfl
  cases c
  · show Nat.beq _ _ = decide _
    rw [hb, o, o]; simp only [fEq]
  · show fIf (Nat.beq (fOff m) (fOff n)) false true = !(decide (Int32.ofNat m = Int32.ofNat n))
    rw [hb, o, o]; simp only [fEq]
    cases decide ((m + 2147483648) % 4294967296 = (n + 2147483648) % 4294967296) <;> rfl
  · show Nat.ble (_ + 1) _ = decide _
    rw [hl, o, o]; simp only [fLt]; rfl
  · show Nat.ble _ _ = decide _
    rw [hl, o, o]; simp only [fLe]
  · show Nat.ble (_ + 1) _ = decide _
    rw [hl, o, o]; simp only [fLt]; rfl
  · show Nat.ble _ _ = decide _
    rw [hl, o, o]; simp only [fLe]
theorem fBd_ok {v : Nat → Int32} {cx : SCx} (hc : sIn cx v) {x : FV} {p : Int × Int} (h : fBd cx x = some p) : fv v x = .int (fInt v x) ∧ p.1 ≤ (fInt v x).toInt ∧ (fInt v x).toInt ≤ p.2 := by
  rcases x with n | n | n | n | n
  · have h : some (fTi n, fTi n) = some p := h
    injection h with h
    rw [← h]
    exact ⟨rfl, by show fTi n ≤ (Int32.ofNat n).toInt; rw [fTi_ok]; exact Int.le_refl _, by show (Int32.ofNat n).toInt ≤ fTi n; rw [fTi_ok]; exact Int.le_refl _⟩
  · cases h
  · exact ⟨rfl, hc n p h⟩
  · cases h
  · cases h
theorem fBl_ok {v : Nat → Int32} {cx : SCx} (hc : sIn cx v) {x : FV} {p : Int × Int} (h : fBl cx x = some p) : ∃ z : Int64, fv v x = .long z ∧ p.1 ≤ z.toInt ∧ z.toInt ≤ p.2 := by
  rcases x with n | n | n | n | n
  · cases h
  · cases h
  · cases h
  · have h : some (fTl n, fTl n) = some p := h
    injection h with h
    rw [← h]
    exact ⟨Int64.ofNat n, rfl, by show fTl n ≤ (Int64.ofNat n).toInt; rw [fTl_ok]; exact Int.le_refl _, by show (Int64.ofNat n).toInt ≤ fTl n; rw [fTl_ok]; exact Int.le_refl _⟩
  · exact ⟨_, rfl, by rw [Int32.toInt_toInt64]; exact hc n p h⟩
theorem fCut_ok {v : Nat → Int32} {cx : SCx} (h : sIn cx v) {i : Nat} {c : Int} (hne : fCut cx i c ≠ []) : ∃ cx2 ∈ fCut cx i c, sIn cx2 v := by
  unfold fCut at hne ⊢
  split
  · next p hp =>
    rw [hp] at hne
    obtain ⟨h1, h2⟩ := h i p hp
    split
    · next hc =>
      by_cases q : (v i).toInt < c
      · exact ⟨cx.set i (p.1, c - 1), List.mem_cons_self .., sIn_set (p := (p.1, c - 1)) h h1 (by show _ ≤ c - 1; omega)⟩
      · exact ⟨cx.set i (c, p.2), List.mem_cons_of_mem _ (List.mem_cons_self ..), sIn_set (p := (c, p.2)) h (by show c ≤ _; omega) h2⟩
    · next hc => simp [hc] at hne
  · next hp => rw [hp] at hne; exact absurd rfl hne
theorem fCc_ok {v : Nat → Int32} {cx : SCx} (h : sIn cx v) {cd : Jvm.ClassFile.Cond} {j : Nat} {c : Int} (hne : fCc cd cx j c ≠ []) : ∃ cx2 ∈ fCc cd cx j c, sIn cx2 v := by
  cases cd
  · exact sCut_ok h hne
  · exact sCut_ok h hne
  · exact fCut_ok h hne
  · exact fCut_ok h hne
  · exact fCut_ok h hne
  · exact fCut_ok h hne
theorem fFk_ok {v : Nat → Int32} {cx : SCx} (hc : sIn cx v) {cd : Jvm.ClassFile.Cond} {A B : Option (Int × Int)} {a b : FV} (hne : fFk cd cx A B a b ≠ []) : ∃ cx2 ∈ fFk cd cx A B a b, sIn cx2 v := by
  have or : ∀ {l m : List SCx}, (l ≠ [] → ∃ cx2 ∈ l, sIn cx2 v) → (m ≠ [] → ∃ cx2 ∈ m, sIn cx2 v) → (fOr l m ≠ [] → ∃ cx2 ∈ fOr l m, sIn cx2 v) := by
    intro l m h1 h2 h3
    cases l with
    | nil => exact h2 h3
    | cons q r => exact h1 (by simp)
  have k1 : ∀ (cd : Jvm.ClassFile.Cond) (A : Option (Int × Int)) (y : FV), fFk1 cd cx A y ≠ [] → ∃ cx2 ∈ fFk1 cd cx A y, sIn cx2 v := by
    intro cd A y h
    cases A with
    | none => exact absurd rfl h
    | some p =>
      simp only [fFk1] at h ⊢
      by_cases he : p.1 = p.2
      · rw [if_pos he] at h ⊢
        cases hj : fVr y with
        | none => rw [hj] at h; exact absurd rfl h
        | some j => rw [hj] at h; exact fCc_ok hc h
      · rw [if_neg he] at h; exact absurd rfl h
  have k2 : ∀ y : FV, fFk2 cx y ≠ [] → ∃ cx2 ∈ fFk2 cx y, sIn cx2 v := by
    intro y h
    unfold fFk2 at h ⊢
    cases hj : fVr y with
    | none => rw [hj] at h; exact absurd rfl h
    | some j => rw [hj] at h; exact sEnum_ok hc h
  exact or (k1 _ _ _) (or (k1 _ _ _) (or (k2 _) (k2 _))) hne
theorem fCp_ok (v : Nat → Int32) (c : FL) (sp dp n : Nat) (c2 : FL) : fArr v (fCp c sp dp n c2) = va_cpy (fArr v c) (fArr v c2) sp dp n := by
  induction n with
  | zero =>
    funext k
    show fArr v c2 k = _
    unfold va_cpy
    rw [if_neg (by omega)]
  | succ n ih =>
    funext k
    have e : fCp c sp dp (n + 1) c2 = (dp + n, fAt c (sp + n) (.inl 0)) :: fCp c sp dp n c2 := rfl
    rw [e, fArr, upd, ih]
    show (if k = dp + n then fInt v (fAt c (sp + n) (.inl 0)) else _) = _
    unfold va_cpy
    by_cases h : k = dp + n
    · rw [if_pos h, fArr_at, if_pos (by omega)]
      congr 1; omega
    · rw [if_neg h]
      by_cases h2 : dp ≤ k ∧ k < dp + n
      · rw [if_pos h2, if_pos (by omega)]
      · rw [if_neg h2, if_neg (by omega)]
theorem fTk_ok : ∀ {n : Nat} {st as : List FV} {K : List FV → List FV → Bool}, fTk n st as K = true → n ≤ st.length ∧ K ((st.take n).reverse ++ as) (st.drop n) = true
  | 0, st, as, K, h => by
    have h : K as st = true := h
    exact ⟨by omega, by simpa using h⟩
  | n + 1, st, as, K, h => by
    have h : fLs st (fun x s => fTk n s (x :: as) K) = true := h
    obtain ⟨x, s, rfl, h⟩ := fLs_ok h
    obtain ⟨h1, h2⟩ := fTk_ok h
    refine ⟨by simp; omega, ?_⟩
    simpa using h2
theorem fArgs_ok (v : Nat → Int32) : ∀ (as : List FV) (i : Nat), fLT v (fArgs as i) = lv_args i (as.map (fv v))
  | [], i => rfl
  | x :: r, i => by
    show (i, fv v x) :: fLT v (fArgs r (i + fCat x)) = _
    rw [fArgs_ok v r]
    simp only [List.map_cons, lv_args, fv_cat]
    congr 2
    rcases x with n | n | n | n | n <;> rfl
