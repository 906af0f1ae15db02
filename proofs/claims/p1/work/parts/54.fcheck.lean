/-! the fast machine's code is the program's -/
def ckCol (y : Nat) : List FB → Bool
  | [] => true
  | B :: r => B.all (fun q => cor pg y q.1 q.2) && ckCol (y + 1) r
def ckAll (y : Nat) : List (List FB) → Bool
  | [] => true
  | row :: r => ckCol y row && ckAll (y + 16) r
theorem ckCol_ok : ∀ {row : List FB} {y j : Nat} {B : FB}, ckCol y row = true → row[j]? = some B → ∀ q ∈ B, cor pg (y + j) q.1 q.2 = true
  | [], y, j, B, _, h => by simp at h
  | D :: r, y, 0, B, hk, h => by
    rw [ckCol, Bool.and_eq_true] at hk
    have h : some D = some B := h
    injection h with h
    subst h
    exact List.all_eq_true.mp hk.1
  | D :: r, y, j + 1, B, hk, h => by
    rw [ckCol, Bool.and_eq_true] at hk
    have h : r[j]? = some B := by simpa using h
    have := ckCol_ok hk.2 h
    rw [show y + 1 + j = y + (j + 1) by omega] at this
    exact this
theorem ckAll_ok : ∀ {t : List (List FB)} {y i j : Nat} {row : List FB} {B : FB}, ckAll y t = true → t[i]? = some row → row[j]? = some B → ∀ q ∈ B, cor pg (y + 16 * i + j) q.1 q.2 = true
  | [], y, i, j, row, B, _, h, _ => by simp at h
  | D :: r, y, 0, j, row, B, hk, h, hj => by
    rw [ckAll, Bool.and_eq_true] at hk
    have h : some D = some row := h
    injection h with h
    subst h
    exact ckCol_ok hk.1 hj
  | D :: r, y, i + 1, j, row, B, hk, h, hj => by
    rw [ckAll, Bool.and_eq_true] at hk
    have h : r[i]? = some row := by simpa using h
    have := ckAll_ok hk.2 h hj
    rw [show y + 16 + 16 * i + j = y + 16 * (i + 1) + j by omega] at this
    exact this
theorem fNd_ok {α : Type} : ∀ (l : List α) (d : α) (i : Nat), fNd l d i = (l[i]?).getD d
  | [], d, i => by simp; rfl
  | a :: r, d, 0 => rfl
  | a :: r, d, i + 1 => by
    show fNd r d i = _
    rw [fNd_ok r d i]
    simp
set_option maxRecDepth 1000000 in
theorem ckr_0 : ckCol 0 fBr_0 = true := by decide +kernel
set_option maxRecDepth 1000000 in
theorem ckr_1 : ckCol 16 fBr_1 = true := by decide +kernel
set_option maxRecDepth 1000000 in
theorem ckr_2 : ckCol 32 fBr_2 = true := by decide +kernel
set_option maxRecDepth 1000000 in
theorem ckr_3 : ckCol 48 fBr_3 = true := by decide +kernel
set_option maxRecDepth 1000000 in
theorem ckr_4 : ckCol 64 fBr_4 = true := by decide +kernel
set_option maxRecDepth 1000000 in
theorem ckr_5 : ckCol 80 fBr_5 = true := by decide +kernel
set_option maxRecDepth 1000000 in
theorem ckr_6 : ckCol 96 fBr_6 = true := by decide +kernel
set_option maxRecDepth 1000000 in
theorem ckr_7 : ckCol 112 fBr_7 = true := by decide +kernel
set_option maxRecDepth 1000000 in
theorem ckr_8 : ckCol 128 fBr_8 = true := by decide +kernel
set_option maxRecDepth 1000000 in
theorem ckr_9 : ckCol 144 fBr_9 = true := by decide +kernel
set_option maxRecDepth 1000000 in
theorem ckr_10 : ckCol 160 fBr_10 = true := by decide +kernel
set_option maxRecDepth 1000000 in
theorem ckr_11 : ckCol 176 fBr_11 = true := by decide +kernel
set_option maxRecDepth 1000000 in
theorem ckr_12 : ckCol 192 fBr_12 = true := by decide +kernel
set_option maxRecDepth 1000000 in
theorem ckr_13 : ckCol 208 fBr_13 = true := by decide +kernel
set_option maxRecDepth 1000000 in
theorem ckr_14 : ckCol 224 fBr_14 = true := by decide +kernel
set_option maxRecDepth 1000000 in
theorem ckr_15 : ckCol 240 fBr_15 = true := by decide +kernel
set_option maxRecDepth 1000000 in
theorem ckr_16 : ckCol 256 fBr_16 = true := by decide +kernel
theorem ck_all : ckAll 0 fBt = true := by
  unfold fBt
  simp only [ckAll, Nat.reduceAdd, ckr_0, ckr_1, ckr_2, ckr_3, ckr_4, ckr_5, ckr_6, ckr_7, ckr_8, ckr_9, ckr_10, ckr_11, ckr_12, ckr_13, ckr_14, ckr_15, ckr_16, Bool.and_self]
theorem fB_ok : ∀ y : Nat, ∀ q ∈ fB y, cor pg y q.1 q.2 = true := by
  intro y q hq
  have e : fB y = (((fBt[y / 16]?).getD [])[y % 16]?).getD [] := by
    show fNd (fNd fBt [] (y / 16)) [] (y % 16) = _
    rw [fNd_ok, fNd_ok]
  rw [e] at hq
  cases hr : fBt[y / 16]? with
  | none => rw [hr] at hq; simp at hq
  | some row =>
    rw [hr] at hq
    cases hb : row[y % 16]? with
    | none => simp [hb] at hq
    | some B =>
      have hq : q ∈ B := by simpa [hb] using hq
      have := ckAll_ok ck_all hr hb q hq
      rw [show 0 + 16 * (y / 16) + y % 16 = y by omega] at this
      exact this
theorem fEl_ok (v : Nat → Int32) : ∀ t e, fEl t e = true → mpElem pg t (fc v e) = true := by
  intro t e h
  rcases e with ⟨t2, len, c⟩ | ⟨c, fs⟩
  · obtain ⟨h1, h2⟩ := fIf_an (show fIf (Nat.beq t 3) (Nat.beq t2 0) false = true from h)
    have h1 := Nat.eq_of_beq_eq_true h1
    have h2 := Nat.eq_of_beq_eq_true h2
    subst h1
    subst h2
    rfl
  · exact h
