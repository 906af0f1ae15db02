/-! what may lie where: the reference's cells -/
def zMA (k : Nat) : Option Nat := match k with
  | 0 => some 57
  | 1 => some 58
  | 2 => some 59
  | 8 => some 60
  | 9 => some 61
  | 10 => some 62
  | 11 => some 63
  | 12 => some 64
  | 13 => some 65
  | 14 => some 66
  | 15 => some 67
  | 16 => some 68
  | 17 => some 69
  | 18 => some 70
  | 19 => some 71
  | 20 => some 72
  | 21 => some 73
  | 22 => some 74
  | 23 => some 75
  | 24 => some 76
  | 25 => some 77
  | 26 => some 78
  | 27 => some 79
  | 29 => some 80
  | 30 => some 81
  | 32 => some 82
  | 34 => some 83
  | 40 => some 84
  | 41 => some 85
  | 42 => some 86
  | 43 => some 87
  | 46 => some 88
  | 47 => some 89
  | 48 => some 90
  | _ => none
def zokM (k : Nat) (v : Int) : Prop := match k with
  | 3 => 0 ≤ v ∧ v ≤ 1
  | 7 => 0 ≤ v ∧ v ≤ 1000000
  | 28 => 0 ≤ v ∧ v ≤ 40
  | 31 => 0 ≤ v ∧ v ≤ 42
  | 33 => 0 ≤ v ∧ v ≤ 12
  | 36 => 0 ≤ v ∧ v ≤ 42
  | 37 => 0 ≤ v ∧ v ≤ 126
  | 38 => 0 ≤ v ∧ v ≤ 1
  | 39 => 0 ≤ v ∧ v ≤ 41
  | 45 => 0 ≤ v ∧ v ≤ 12
  | 44 => 0 ≤ v ∧ v ≤ 20000
  | _ => True
abbrev zPt (p : Int) : Prop := (p % 2 = 1 → p / 8 ≤ 5) ∧ p / 8 ≤ 23
/-- a sort's number, or 0, or a paragraph's: all that asks it finds a place that is there -/
def zGd (s : Int) : Prop := zPt (s / 8 % 256) ∧ zPt (s / 2048 % 256) ∧ (s % 8 = 0 ∨ s % 8 = 5 ∨ s % 8 = 7 → s / 8 % 256 / 8 ≤ 3)
theorem zGd_0 : zGd 0 := by unfold zGd; refine ⟨⟨?_, ?_⟩, ⟨?_, ?_⟩, ?_⟩ <;> omega
def zokL (j : Nat) (v : Int) : Prop := (j = 1 → 0 ≤ v ∧ v ≤ 3) ∧ (j = 3 → 0 ≤ v ∧ v ≤ 42) ∧ (j = 11 → 0 ≤ v ∧ v ≤ 12) ∧ (12 ≤ j ∧ j < 24 → 0 ≤ v ∧ v ≤ 11) ∧ (24 ≤ j → zGd v)
def zokN (i : Nat) (v : Int) : Prop := (i % 56100 = 154 → -1 ≤ v ∧ v ≤ 8) ∧ (i % 56100 = 164 ∨ i % 56100 = 165 → 0 ≤ v ∧ v ≤ 89) ∧ (i % 56100 = 166 → 0 ≤ v ∧ v ≤ 12) ∧ (i % 56100 = 167 → 0 ≤ v ∧ v ≤ 720) ∧ ((144 ≤ i % 56100 ∧ i % 56100 < 154) ∨ (156 ≤ i % 56100 ∧ i % 56100 < 164) → zGd v) ∧
  (170 ≤ i % 56100 ∧ i % 56100 < 1887 → ((i % 56100 - 170) % 17 = 1 → 0 ≤ v ∧ v ≤ 60) ∧ ((i % 56100 - 170) % 17 = 4 → 0 ≤ v ∧ v ≤ 12)) ∧ (1900 ≤ i % 56100 ∧ i % 56100 < 1940 ∧ i % 56100 % 2 = 1 → 0 ≤ v ∧ v ≤ 60) ∧ (1940 ≤ i % 56100 ∧ i % 56100 < 56060 → zokL ((i % 56100 - 1940) % 66) v)
def zokA (g : Int) (r : List Int) (i : Nat) (v : Int) : Prop := match g with
  | 1 => zokN i v
  | 8 => zGd v
  | 20 => 0 ≤ v ∧ v ≤ 7
  | 21 => 0 ≤ v ∧ v ≤ 23
  | 22 => 0 ≤ v ∧ v ≤ 40
  | 23 => 0 ≤ v ∧ v ≤ 40
  | 25 => 0 ≤ v ∧ v ≤ 127
  | 2 => -1 ≤ v ∧ v ≤ 24
  | 3 => 0 ≤ v ∧ v ≤ 6
  | 4 => 0 ≤ v ∧ v ≤ 23
  | 5 => -1 ≤ v ∧ v ≤ 23
  | 6 => -1 ≤ v ∧ v ≤ 40
  | 7 => 0 ≤ v ∧ v ≤ 127
  | 9 => 0 ≤ v ∧ v ≤ 11
  | 10 => 0 ≤ v ∧ v ≤ 40
  | 11 => -4 ≤ v ∧ v ≤ 41
  | 12 => 0 ≤ v ∧ v ≤ 9
  | 13 => 0 ≤ v ∧ v ≤ 3
  | 14 => 0 ≤ v ∧ v ≤ 100
  | 26 => -1 ≤ v ∧ v ≤ 23 ∧ (i % 3 ≠ 2 → 0 ≤ v) ∧ (match r with
    | n :: _ => v < n ∨ v ≤ 0
    | _ => True)
  | _ => True
/-- the class's objects: what ints may lie in their fields; one without a ghost is still being made -/
def zokD (c : Nat) (g : Int) (gs : List Int) (k : Nat) (v : Int) : Prop := match c with
  | 0 => (match k with
    | 1 => 0 ≤ v ∧ v ≤ 40
    | 10 => 0 ≤ v ∧ v ≤ 100
    | 11 => 0 ≤ v ∧ v ≤ 100
    | 12 => 0 ≤ v ∧ v ≤ 100
    | 13 => -1 ≤ v ∧ v ≤ 23
    | _ => True)
  | 1 => (match k with
    | 4 => -1 ≤ v ∧ v ≤ 8
    | 6 => 0 ≤ v ∧ v ≤ 89
    | 8 => 0 ≤ v ∧ v ≤ 89
    | 10 => 0 ≤ v ∧ v ≤ 12
    | _ => True)
  | 3 => (match k with
    | 0 => 0 ≤ v ∧ v ≤ 3
    | 1 => v = g
    | 7 => (0 ≤ v ∧ v ≤ 6) ∧ (g = 0 → v = 0)
    | _ => True)
  | 5 => (match k with
    | 0 => v = g
    | 1 => (match gs with
      | l :: _ => v = l
      | _ => True)
    | _ => True)
  | 6 => (match k with
    | 7 => 0 ≤ v ∧ v ≤ 12
    | 8 => 0 ≤ v ∧ v ≤ 4095
    | _ => True)
  | 7 => (match k with
    | 3 => 0 ≤ v ∧ v ≤ 40
    | _ => True)
  | 9 => (match k with
    | 0 => (match gs with
      | kd :: _ => v = kd
      | _ => True)
    | 2 => (match gs with
      | kd :: n :: _ => (kd = 0 → 0 ≤ v ∧ v < n) ∧ (kd = 1 → 0 ≤ v ∧ v ≤ 5) ∧ (kd = 4 → 0 ≤ v ∧ v ≤ 3)
      | _ => True)
    | _ => True)
  | 10 => (match k with
    | 1 => 0 ≤ v ∧ v ≤ 1000000
    | _ => True)
  | 11 => (match k with
    | 6 => 0 ≤ v ∧ v ≤ 1
    | _ => True)
  | _ => True
def zokC (c : Nat) (g : List Int) (k : Nat) (v : Int) : Prop := match g with
  | [] => True
  | g0 :: gs => zokD c g0 gs k v
def zok (t : zT) (k : Nat) (v : Int) : Prop := match t with
  | (1, 12, _) => zokM k v
  | (1, c, g) => zokC c g k v
  | (2, 0, _ :: g :: r) => zokA g r k v
  | _ => True
/-- what may lie behind a reference -/
def zE (T : Nat → zT) (p : Option Nat) (S : zT → Prop) : Prop := ∃ q, p = some q ∧ 91 ≤ q ∧ S (T q)
def zFn (t : zT) : Prop := match t with
  | (1, _, _ :: _) => True
  | (2, _, _ :: _ :: _) => True
  | _ => False
def zTm (T T2 : Nat → zT) : Prop := ∀ q t, T q = t → zFn t → T2 q = t
def zSF (t : zT) : Prop := ∃ n, t = (1, 3, [n]) ∧ 0 ≤ n ∧ n ≤ 24
def zSN (n : Int) (t : zT) : Prop := t = (1, 3, [n]) ∧ 0 ≤ n ∧ n ≤ 24
def zSS (t : zT) : Prop := ∃ k n, t = (1, 9, [1, k, n]) ∧ (0 ≤ k ∧ k ≤ 5) ∧ 0 ≤ n ∧ n ≤ 24
def zS1 (t : zT) : Prop := ∃ k n, t = (1, 9, [1, k, n]) ∧ (0 ≤ k ∧ k ≤ 1) ∧ 0 ≤ n ∧ n ≤ 24
def zSL (t : zT) : Prop := t = (1, 4, [1])
def zSP (t : zT) : Prop := ∃ f l, t = (1, 5, [f, l])
def zSO (t : zT) : Prop := t = (1, 2, [1])
/-- ints, of this tag, at most so many -/
def zSA (g hi : Int) (t : zT) : Prop := ∃ m, t = (2, 0, [m, g]) ∧ 0 ≤ m ∧ m ≤ hi
/-- a full row, at most so many -/
def zSR (ty : Nat) (hi : Int) (t : zT) : Prop := ∃ m, t = (2, ty, [m, 2]) ∧ 0 ≤ m ∧ m ≤ hi
def zST (u t : zT) : Prop := t = u ∧ zFn u
def zopC (T : Nat → zT) (c : Nat) (g : Int) (gs : List Int) (k : Nat) (p : Option Nat) : Prop := match c with
  | 0 => (match k with
    | 0 => p = some 10
    | 3 => p = some 11
    | 4 => p = some 12
    | 5 => p = some 13
    | 6 => p = none ∨ p = some 5
    | 7 => p = none ∨ zE T p zSF
    | _ => True)
  | 1 => (match k with
    | 0 => p = some (g.toNat + 1)
    | 1 => p = some (g.toNat + 2)
    | 2 => p = some (g.toNat + 3)
    | 5 => p = some (g.toNat + 4)
    | 7 => p = some (g.toNat + 5)
    | 9 => p = some (g.toNat + 6)
    | _ => True)
  | 2 => (match k with
    | 1 => zE T p (zSR 6 89)
    | _ => True)
  | 3 => (match k with
    | 2 => zE T p (zST (2, 0, [g, 0]))
    | 3 => zE T p (zST (2, 3, [g, 2]))
    | 4 => zE T p (zST (2, 0, [18, 26, g]))
    | 5 => zE T p (zST (2, 0, [6, 0]))
    | 6 => zE T p (zST (2, 0, [4, 0]))
    | _ => True)
  | 4 => (match k with
    | 1 => zE T p zSF
    | 5 => zE T p (zSR 9 41)
    | 6 => zE T p (zSA 9 40)
    | _ => True)
  | 5 => (match k with
    | 4 => zE T p (zSA 9 12)
    | _ => True)
  | 6 => (match k with
    | 0 => p = some 15
    | 1 => p = some 16
    | 2 => p = some 17
    | 3 => p = none ∨ p = some 23 ∨ p = some 30 ∨ p = some 42 ∨ p = some 49
    | 4 => p = none ∨ p = some 22 ∨ p = some 41
    | _ => True)
  | 7 => (match k with
    | 0 => p = some 6
    | 1 => p = some 7
    | 2 => p = some 8
    | 4 => p = none ∨ zE T p zSF
    | 5 => p = none ∨ zE T p (zSA 25 40)
    | _ => True)
  | 8 => (match k with
    | 0 => p = some (g.toNat + 1)
    | 1 => p = some (g.toNat + 2)
    | 2 => p = some (g.toNat + 3)
    | 3 => p = some (g.toNat + 4)
    | 4 => p = some (g.toNat + 5) ∨ p = some (g.toNat + 12)
    | 5 => p = some (g.toNat + 5) ∨ p = some (g.toNat + 12)
    | _ => True)
  | 9 => (match gs with
    | kd :: n :: _ => (match k with
      | 1 => zE T p (zSN n)
      | 4 => (kd = 5 ∧ zE T p zS1) ∨ (kd ≠ 5 ∧ p = none)
      | 5 => (kd = 5 ∧ zE T p zS1) ∨ (kd ≠ 5 ∧ p = none)
      | _ => True)
    | _ => True)
  | 10 => (match k with
    | 0 => p = some 4
    | _ => True)
  | 11 => (match k with
    | 0 => p = some 2
    | 1 => p = some 3
    | 2 => p = some 5
    | 3 => p = some 9
    | 4 => p = some 14
    | 5 => p = some 18 ∨ p = some 37
    | _ => True)
  | _ => True
def zopA (T : Nat → zT) (ty : Nat) (len g : Int) (k : Nat) (p : Option Nat) : Prop := match ty with
  | 3 => (match g with
    | 1 => p = none ∨ zE T p (zSA 25 40)
    | 2 => p = none ∨ zE T p (zSA 0 24)
    | _ => True)
  | 4 => (match g with
    | 1 => p = none ∨ zE T p zSO
    | _ => True)
  | 5 => (match g with
    | 1 => p = none ∨ zE T p zSF
    | _ => True)
  | 6 => (match g with
    | 1 => p = none ∨ zE T p zSL
    | 2 => (k : Int) < len → zE T p zSL
    | _ => True)
  | 7 => (match g with
    | 1 => p = none ∨ zE T p zSP
    | _ => True)
  | 8 => (k = 0 → p = some 18) ∧ (k = 1 → p = some 37)
  | 9 => (match g with
    | 1 => p = none ∨ zE T p zSS
    | 2 => (k : Int) < len → zE T p zSS
    | _ => True)
  | _ => True
def zop (T : Nat → zT) (t : zT) (k : Nat) (p : Option Nat) : Prop := match t with
  | (1, 12, _ :: _) => p = zMA k
  | (1, c, g :: gs) => zopC T c g gs k p
  | (2, ty, len :: g :: _) => zopA T ty len g k p
  | _ => True
abbrev zMd : zM := (zok, zop)
def zFix (a : Nat) : zT := match a with
  | 56 => (1, 12, [1])
  | 57 => (2, 0, [112200, 1])
  | 58 => (2, 0, [112200, 1])
  | 59 => (2, 2, [2, 0])
  | 60 => (2, 0, [60, 0])
  | 61 => (2, 0, [8, 2])
  | 62 => (2, 0, [192, 0])
  | 63 => (2, 0, [192, 2])
  | 64 => (2, 0, [4608, 0])
  | 65 => (2, 0, [8, 3])
  | 66 => (2, 0, [48, 4])
  | 67 => (2, 0, [48, 4])
  | 68 => (2, 0, [48, 5])
  | 69 => (2, 0, [48, 0])
  | 70 => (2, 0, [32, 0])
  | 71 => (2, 0, [8, 0])
  | 72 => (2, 0, [8, 0])
  | 73 => (2, 0, [8, 0])
  | 74 => (2, 0, [8, 13])
  | 75 => (2, 0, [8, 0])
  | 76 => (2, 0, [2, 0])
  | 77 => (2, 0, [24, 6])
  | 78 => (2, 0, [960, 7])
  | 79 => (2, 0, [24, 12])
  | 80 => (2, 0, [40, 0])
  | 81 => (2, 0, [40, 8])
  | 82 => (2, 0, [42, 8])
  | 83 => (2, 0, [12, 9])
  | 84 => (2, 0, [42, 10])
  | 85 => (2, 0, [42, 11])
  | 86 => (2, 1, [42, 0])
  | 87 => (2, 0, [144, 0])
  | 88 => (2, 0, [12, 9])
  | 89 => (2, 0, [100, 14])
  | 90 => (2, 1, [101, 0])
  | _ => (0, 0, [])
/-- the class's cells that are made first -/
def zFixC (a : Nat) : zT := match a with
  | 1 => (1, 11, [1])
  | 2 => (2, 8, [2, 3])
  | 3 => (1, 10, [1])
  | 4 => (2, 0, [60, 0])
  | 5 => (1, 7, [1])
  | 6 => (2, 0, [40, 20])
  | 7 => (2, 0, [40, 21])
  | 8 => (2, 0, [40, 21])
  | 9 => (1, 0, [1])
  | 10 => (2, 6, [40, 1])
  | 11 => (2, 0, [41, 0])
  | 12 => (2, 0, [41, 22])
  | 13 => (2, 0, [144, 0])
  | 14 => (1, 6, [1])
  | 15 => (2, 1, [41, 0])
  | 16 => (2, 0, [41, 23])
  | 17 => (2, 0, [12, 9])
  | 18 => (1, 8, [18])
  | 19 => (2, 5, [4, 1])
  | 20 => (2, 0, [4, 0])
  | 21 => (2, 3, [12, 1])
  | 22 => (2, 0, [12, 12])
  | 23 => (1, 1, [23])
  | 24 => (2, 0, [144, 0])
  | 25 => (2, 9, [10, 1])
  | 26 => (2, 9, [8, 1])
  | 27 => (2, 6, [89, 1])
  | 28 => (2, 7, [89, 1])
  | 29 => (2, 4, [12, 1])
  | 30 => (1, 1, [30])
  | 31 => (2, 0, [144, 0])
  | 32 => (2, 9, [10, 1])
  | 33 => (2, 9, [8, 1])
  | 34 => (2, 6, [89, 1])
  | 35 => (2, 7, [89, 1])
  | 36 => (2, 4, [12, 1])
  | 37 => (1, 8, [37])
  | 38 => (2, 5, [4, 1])
  | 39 => (2, 0, [4, 0])
  | 40 => (2, 3, [12, 1])
  | 41 => (2, 0, [12, 12])
  | 42 => (1, 1, [42])
  | 43 => (2, 0, [144, 0])
  | 44 => (2, 9, [10, 1])
  | 45 => (2, 9, [8, 1])
  | 46 => (2, 6, [89, 1])
  | 47 => (2, 7, [89, 1])
  | 48 => (2, 4, [12, 1])
  | 49 => (1, 1, [49])
  | 50 => (2, 0, [144, 0])
  | 51 => (2, 9, [10, 1])
  | 52 => (2, 9, [8, 1])
  | 53 => (2, 6, [89, 1])
  | 54 => (2, 7, [89, 1])
  | 55 => (2, 4, [12, 1])
  | _ => (0, 0, [])
theorem ok_tray {i : Nat} {v : Int} (h : zok (2, 0, [112200, 1]) i v) (hi : i % 56100 = 154) : -1 ≤ v ∧ v ≤ 8 := by
  have h : zokN i v := h
  exact h.1 hi
theorem ok_lines {i : Nat} {v : Int} (h : zok (2, 0, [112200, 1]) i v) (hi : i % 56100 = 164 ∨ i % 56100 = 165) : 0 ≤ v ∧ v ≤ 89 := by
  have h : zokN i v := h
  exact h.2.1 hi
theorem ok_formes {i : Nat} {v : Int} (h : zok (2, 0, [112200, 1]) i v) (hi : i % 56100 = 166) : 0 ≤ v ∧ v ≤ 12 := by
  have h : zokN i v := h
  exact h.2.2.1 hi
theorem ok_sets {i : Nat} {v : Int} (h : zok (2, 0, [112200, 1]) i v) (hi : i % 56100 = 167) : 0 ≤ v ∧ v ≤ 720 := by
  have h : zokN i v := h
  exact h.2.2.2.1 hi
theorem ok_stick {i : Nat} {v : Int} (h : zok (2, 0, [112200, 1]) i v) (hi : (144 ≤ i % 56100 ∧ i % 56100 < 154) ∨ (156 ≤ i % 56100 ∧ i % 56100 < 164)) : zGd v := by
  have h : zokN i v := h
  exact h.2.2.2.2.1 hi
theorem ok_pm {i : Nat} {v : Int} (h : zok (2, 0, [112200, 1]) i v) (hi : 170 ≤ i % 56100 ∧ i % 56100 < 1887 ∧ (i % 56100 - 170) % 17 = 1) : 0 ≤ v ∧ v ≤ 60 := by
  have h : zokN i v := h
  exact (h.2.2.2.2.2.1 ⟨hi.1, hi.2.1⟩).1 hi.2.2
theorem ok_pn {i : Nat} {v : Int} (h : zok (2, 0, [112200, 1]) i v) (hi : 170 ≤ i % 56100 ∧ i % 56100 < 1887 ∧ (i % 56100 - 170) % 17 = 4) : 0 ≤ v ∧ v ≤ 12 := by
  have h : zokN i v := h
  exact (h.2.2.2.2.2.1 ⟨hi.1, hi.2.1⟩).2 hi.2.2
theorem ok_fl {i : Nat} {v : Int} (h : zok (2, 0, [112200, 1]) i v) (hi : 1900 ≤ i % 56100 ∧ i % 56100 < 1940 ∧ i % 56100 % 2 = 1) : 0 ≤ v ∧ v ≤ 60 := by
  have h : zokN i v := h
  exact h.2.2.2.2.2.2.1 hi
theorem ok_lfount {i : Nat} {v : Int} (h : zok (2, 0, [112200, 1]) i v) (hi : 1940 ≤ i % 56100 ∧ i % 56100 < 56060 ∧ (i % 56100 - 1940) % 66 = 1) : 0 ≤ v ∧ v ≤ 3 := by
  have h : zokN i v := h
  exact (h.2.2.2.2.2.2.2 ⟨hi.1, hi.2.1⟩).1 hi.2.2
theorem ok_lsorts {i : Nat} {v : Int} (h : zok (2, 0, [112200, 1]) i v) (hi : 1940 ≤ i % 56100 ∧ i % 56100 < 56060 ∧ (i % 56100 - 1940) % 66 = 3) : 0 ≤ v ∧ v ≤ 42 := by
  have h : zokN i v := h
  exact (h.2.2.2.2.2.2.2 ⟨hi.1, hi.2.1⟩).2.1 hi.2.2
theorem ok_lnotes {i : Nat} {v : Int} (h : zok (2, 0, [112200, 1]) i v) (hi : 1940 ≤ i % 56100 ∧ i % 56100 < 56060 ∧ (i % 56100 - 1940) % 66 = 11) : 0 ≤ v ∧ v ≤ 12 := by
  have h : zokN i v := h
  exact (h.2.2.2.2.2.2.2 ⟨hi.1, hi.2.1⟩).2.2.1 hi.2.2
theorem ok_lnote {i : Nat} {v : Int} (h : zok (2, 0, [112200, 1]) i v) (hi : 1940 ≤ i % 56100 ∧ i % 56100 < 56060 ∧ 12 ≤ (i % 56100 - 1940) % 66 ∧ (i % 56100 - 1940) % 66 < 24) : 0 ≤ v ∧ v ≤ 11 := by
  have h : zokN i v := h
  exact (h.2.2.2.2.2.2.2 ⟨hi.1, hi.2.1⟩).2.2.2.1 hi.2.2
theorem ok_lsort {i : Nat} {v : Int} (h : zok (2, 0, [112200, 1]) i v) (hi : 1940 ≤ i % 56100 ∧ i % 56100 < 56060 ∧ 24 ≤ (i % 56100 - 1940) % 66) : zGd v := by
  have h : zokN i v := h
  exact (h.2.2.2.2.2.2.2 ⟨hi.1, hi.2.1⟩).2.2.2.2 hi.2.2
theorem st_tray {i : Nat} {v : Int} (hi : i % 56100 = 154) (hv : -1 ≤ v ∧ v ≤ 8) : zok (2, 0, [112200, 1]) i v := by
  show zokN i v
  refine ⟨fun h => ?_, fun h => ?_, fun h => ?_, fun h => ?_, fun h => ?_, fun h => ⟨fun h2 => ?_, fun h2 => ?_⟩, fun h => ?_, fun h => ⟨fun h2 => ?_, fun h2 => ?_, fun h2 => ?_, fun h2 => ?_, fun h2 => ?_⟩⟩ <;> first | (exfalso; omega) | exact hv | omega
theorem st_lines {i : Nat} {v : Int} (hi : i % 56100 = 164 ∨ i % 56100 = 165) (hv : 0 ≤ v ∧ v ≤ 89) : zok (2, 0, [112200, 1]) i v := by
  show zokN i v
  refine ⟨fun h => ?_, fun h => ?_, fun h => ?_, fun h => ?_, fun h => ?_, fun h => ⟨fun h2 => ?_, fun h2 => ?_⟩, fun h => ?_, fun h => ⟨fun h2 => ?_, fun h2 => ?_, fun h2 => ?_, fun h2 => ?_, fun h2 => ?_⟩⟩ <;> first | (exfalso; omega) | exact hv | omega
theorem st_formes {i : Nat} {v : Int} (hi : i % 56100 = 166) (hv : 0 ≤ v ∧ v ≤ 12) : zok (2, 0, [112200, 1]) i v := by
  show zokN i v
  refine ⟨fun h => ?_, fun h => ?_, fun h => ?_, fun h => ?_, fun h => ?_, fun h => ⟨fun h2 => ?_, fun h2 => ?_⟩, fun h => ?_, fun h => ⟨fun h2 => ?_, fun h2 => ?_, fun h2 => ?_, fun h2 => ?_, fun h2 => ?_⟩⟩ <;> first | (exfalso; omega) | exact hv | omega
theorem st_sets {i : Nat} {v : Int} (hi : i % 56100 = 167) (hv : 0 ≤ v ∧ v ≤ 720) : zok (2, 0, [112200, 1]) i v := by
  show zokN i v
  refine ⟨fun h => ?_, fun h => ?_, fun h => ?_, fun h => ?_, fun h => ?_, fun h => ⟨fun h2 => ?_, fun h2 => ?_⟩, fun h => ?_, fun h => ⟨fun h2 => ?_, fun h2 => ?_, fun h2 => ?_, fun h2 => ?_, fun h2 => ?_⟩⟩ <;> first | (exfalso; omega) | exact hv | omega
theorem st_stick {i : Nat} {v : Int} (hi : (144 ≤ i % 56100 ∧ i % 56100 < 154) ∨ (156 ≤ i % 56100 ∧ i % 56100 < 164)) (hv : zGd v) : zok (2, 0, [112200, 1]) i v := by
  show zokN i v
  refine ⟨fun h => ?_, fun h => ?_, fun h => ?_, fun h => ?_, fun h => ?_, fun h => ⟨fun h2 => ?_, fun h2 => ?_⟩, fun h => ?_, fun h => ⟨fun h2 => ?_, fun h2 => ?_, fun h2 => ?_, fun h2 => ?_, fun h2 => ?_⟩⟩ <;> first | (exfalso; omega) | exact hv | omega
theorem st_pm {i : Nat} {v : Int} (hi : 170 ≤ i % 56100 ∧ i % 56100 < 1887 ∧ (i % 56100 - 170) % 17 = 1) (hv : 0 ≤ v ∧ v ≤ 60) : zok (2, 0, [112200, 1]) i v := by
  show zokN i v
  refine ⟨fun h => ?_, fun h => ?_, fun h => ?_, fun h => ?_, fun h => ?_, fun h => ⟨fun h2 => ?_, fun h2 => ?_⟩, fun h => ?_, fun h => ⟨fun h2 => ?_, fun h2 => ?_, fun h2 => ?_, fun h2 => ?_, fun h2 => ?_⟩⟩ <;> first | (exfalso; omega) | exact hv | omega
theorem st_pn {i : Nat} {v : Int} (hi : 170 ≤ i % 56100 ∧ i % 56100 < 1887 ∧ (i % 56100 - 170) % 17 = 4) (hv : 0 ≤ v ∧ v ≤ 12) : zok (2, 0, [112200, 1]) i v := by
  show zokN i v
  refine ⟨fun h => ?_, fun h => ?_, fun h => ?_, fun h => ?_, fun h => ?_, fun h => ⟨fun h2 => ?_, fun h2 => ?_⟩, fun h => ?_, fun h => ⟨fun h2 => ?_, fun h2 => ?_, fun h2 => ?_, fun h2 => ?_, fun h2 => ?_⟩⟩ <;> first | (exfalso; omega) | exact hv | omega
theorem st_fl {i : Nat} {v : Int} (hi : 1900 ≤ i % 56100 ∧ i % 56100 < 1940 ∧ i % 56100 % 2 = 1) (hv : 0 ≤ v ∧ v ≤ 60) : zok (2, 0, [112200, 1]) i v := by
  show zokN i v
  refine ⟨fun h => ?_, fun h => ?_, fun h => ?_, fun h => ?_, fun h => ?_, fun h => ⟨fun h2 => ?_, fun h2 => ?_⟩, fun h => ?_, fun h => ⟨fun h2 => ?_, fun h2 => ?_, fun h2 => ?_, fun h2 => ?_, fun h2 => ?_⟩⟩ <;> first | (exfalso; omega) | exact hv | omega
theorem st_lfount {i : Nat} {v : Int} (hi : 1940 ≤ i % 56100 ∧ i % 56100 < 56060 ∧ (i % 56100 - 1940) % 66 = 1) (hv : 0 ≤ v ∧ v ≤ 3) : zok (2, 0, [112200, 1]) i v := by
  show zokN i v
  refine ⟨fun h => ?_, fun h => ?_, fun h => ?_, fun h => ?_, fun h => ?_, fun h => ⟨fun h2 => ?_, fun h2 => ?_⟩, fun h => ?_, fun h => ⟨fun h2 => ?_, fun h2 => ?_, fun h2 => ?_, fun h2 => ?_, fun h2 => ?_⟩⟩ <;> first | (exfalso; omega) | exact hv | omega
theorem st_lsorts {i : Nat} {v : Int} (hi : 1940 ≤ i % 56100 ∧ i % 56100 < 56060 ∧ (i % 56100 - 1940) % 66 = 3) (hv : 0 ≤ v ∧ v ≤ 42) : zok (2, 0, [112200, 1]) i v := by
  show zokN i v
  refine ⟨fun h => ?_, fun h => ?_, fun h => ?_, fun h => ?_, fun h => ?_, fun h => ⟨fun h2 => ?_, fun h2 => ?_⟩, fun h => ?_, fun h => ⟨fun h2 => ?_, fun h2 => ?_, fun h2 => ?_, fun h2 => ?_, fun h2 => ?_⟩⟩ <;> first | (exfalso; omega) | exact hv | omega
theorem st_lnotes {i : Nat} {v : Int} (hi : 1940 ≤ i % 56100 ∧ i % 56100 < 56060 ∧ (i % 56100 - 1940) % 66 = 11) (hv : 0 ≤ v ∧ v ≤ 12) : zok (2, 0, [112200, 1]) i v := by
  show zokN i v
  refine ⟨fun h => ?_, fun h => ?_, fun h => ?_, fun h => ?_, fun h => ?_, fun h => ⟨fun h2 => ?_, fun h2 => ?_⟩, fun h => ?_, fun h => ⟨fun h2 => ?_, fun h2 => ?_, fun h2 => ?_, fun h2 => ?_, fun h2 => ?_⟩⟩ <;> first | (exfalso; omega) | exact hv | omega
theorem st_lnote {i : Nat} {v : Int} (hi : 1940 ≤ i % 56100 ∧ i % 56100 < 56060 ∧ 12 ≤ (i % 56100 - 1940) % 66 ∧ (i % 56100 - 1940) % 66 < 24) (hv : 0 ≤ v ∧ v ≤ 11) : zok (2, 0, [112200, 1]) i v := by
  show zokN i v
  refine ⟨fun h => ?_, fun h => ?_, fun h => ?_, fun h => ?_, fun h => ?_, fun h => ⟨fun h2 => ?_, fun h2 => ?_⟩, fun h => ?_, fun h => ⟨fun h2 => ?_, fun h2 => ?_, fun h2 => ?_, fun h2 => ?_, fun h2 => ?_⟩⟩ <;> first | (exfalso; omega) | exact hv | omega
theorem st_lsort {i : Nat} {v : Int} (hi : 1940 ≤ i % 56100 ∧ i % 56100 < 56060 ∧ 24 ≤ (i % 56100 - 1940) % 66) (hv : zGd v) : zok (2, 0, [112200, 1]) i v := by
  show zokN i v
  refine ⟨fun h => ?_, fun h => ?_, fun h => ?_, fun h => ?_, fun h => ?_, fun h => ⟨fun h2 => ?_, fun h2 => ?_⟩, fun h => ?_, fun h => ⟨fun h2 => ?_, fun h2 => ?_, fun h2 => ?_, fun h2 => ?_, fun h2 => ?_⟩⟩ <;> first | (exfalso; omega) | exact hv | omega
theorem st_box {i : Nat} {v : Int} (hi : i % 56100 < 144 ∨ i % 56100 = 155) : zok (2, 0, [112200, 1]) i v := by
  show zokN i v
  refine ⟨fun h => ?_, fun h => ?_, fun h => ?_, fun h => ?_, fun h => ?_, fun h => ⟨fun h2 => ?_, fun h2 => ?_⟩, fun h => ?_, fun h => ⟨fun h2 => ?_, fun h2 => ?_, fun h2 => ?_, fun h2 => ?_, fun h2 => ?_⟩⟩ <;> first | (exfalso; omega) | exact hv | omega
theorem st_pany {i : Nat} {v : Int} (hi : 170 ≤ i % 56100 ∧ i % 56100 < 1887 ∧ ¬ (i % 56100 - 170) % 17 = 1 ∧ ¬ (i % 56100 - 170) % 17 = 4) : zok (2, 0, [112200, 1]) i v := by
  show zokN i v
  refine ⟨fun h => ?_, fun h => ?_, fun h => ?_, fun h => ?_, fun h => ?_, fun h => ⟨fun h2 => ?_, fun h2 => ?_⟩, fun h => ?_, fun h => ⟨fun h2 => ?_, fun h2 => ?_, fun h2 => ?_, fun h2 => ?_, fun h2 => ?_⟩⟩ <;> first | (exfalso; omega) | exact hv | omega
theorem st_fnum {i : Nat} {v : Int} (hi : 1900 ≤ i % 56100 ∧ i % 56100 < 1940 ∧ i % 56100 % 2 = 0) : zok (2, 0, [112200, 1]) i v := by
  show zokN i v
  refine ⟨fun h => ?_, fun h => ?_, fun h => ?_, fun h => ?_, fun h => ?_, fun h => ⟨fun h2 => ?_, fun h2 => ?_⟩, fun h => ?_, fun h => ⟨fun h2 => ?_, fun h2 => ?_, fun h2 => ?_, fun h2 => ?_, fun h2 => ?_⟩⟩ <;> first | (exfalso; omega) | exact hv | omega
theorem st_lany {i : Nat} {v : Int} (hi : 1940 ≤ i % 56100 ∧ i % 56100 < 56060 ∧ (i % 56100 - 1940) % 66 < 12 ∧ ¬ (i % 56100 - 1940) % 66 = 1 ∧ ¬ (i % 56100 - 1940) % 66 = 3 ∧ ¬ (i % 56100 - 1940) % 66 = 11) : zok (2, 0, [112200, 1]) i v := by
  show zokN i v
  refine ⟨fun h => ?_, fun h => ?_, fun h => ?_, fun h => ?_, fun h => ?_, fun h => ⟨fun h2 => ?_, fun h2 => ?_⟩, fun h => ?_, fun h => ⟨fun h2 => ?_, fun h2 => ?_, fun h2 => ?_, fun h2 => ?_, fun h2 => ?_⟩⟩ <;> first | (exfalso; omega) | exact hv | omega
