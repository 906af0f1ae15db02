/-! what may lie where: the reference's cells -/
def zMA (k : Nat) : Option Nat := match k with
  | 0 => some 57
  | 1 => some 58
  | 2 => some 59
  | 8 => some 60
  | 9 => some 61
  | 10 => some 62
  | 11 => some 63
  | 12 => some 64
  | 13 => some 65
  | 14 => some 66
  | 15 => some 67
  | 16 => some 68
  | 17 => some 69
  | 18 => some 70
  | 19 => some 71
  | 20 => some 72
  | 21 => some 73
  | 22 => some 74
  | 23 => some 75
  | 24 => some 76
  | 25 => some 77
  | 26 => some 78
  | 27 => some 79
  | 29 => some 80
  | 30 => some 81
  | 32 => some 82
  | 34 => some 83
  | 40 => some 84
  | 41 => some 85
  | 42 => some 86
  | 43 => some 87
  | 46 => some 88
  | 47 => some 89
  | 48 => some 90
  | _ => none
def zokM (k : Nat) (v : Int) : Prop := match k with
  | 3 => 0 ≤ v ∧ v ≤ 1
  | 7 => 0 ≤ v ∧ v ≤ 1000000
  | 28 => 0 ≤ v ∧ v ≤ 40
  | 31 => 0 ≤ v ∧ v ≤ 42
  | 33 => 0 ≤ v ∧ v ≤ 12
  | 36 => 0 ≤ v ∧ v ≤ 42
  | 37 => 0 ≤ v ∧ v ≤ 126
  | 38 => 0 ≤ v ∧ v ≤ 1
  | 39 => 0 ≤ v ∧ v ≤ 41
  | 45 => 0 ≤ v ∧ v ≤ 12
  | 44 => 0 ≤ v ∧ v ≤ 20000
  | _ => True
abbrev zPt (p : Int) : Prop := (p % 2 = 1 → p / 8 ≤ 5) ∧ p / 8 ≤ 23
/-- a sort's number, or 0, or a paragraph's: all that asks it finds a place that is there -/
def zGd (s : Int) : Prop := zPt (s / 8 % 256) ∧ zPt (s / 2048 % 256) ∧ (s % 8 = 0 ∨ s % 8 = 5 ∨ s % 8 = 7 → s / 8 % 256 / 8 ≤ 3)
theorem zGd_0 : zGd 0 := by unfold zGd; refine ⟨⟨?_, ?_⟩, ⟨?_, ?_⟩, ?_⟩ <;> omega
def zokL (j : Nat) (v : Int) : Prop := (j = 1 → 0 ≤ v ∧ v ≤ 3) ∧ (j = 3 → 0 ≤ v ∧ v ≤ 42) ∧ (j = 11 → 0 ≤ v ∧ v ≤ 12) ∧ (12 ≤ j ∧ j < 24 → 0 ≤ v ∧ v ≤ 11) ∧ (24 ≤ j → zGd v)
def zokN (i : Nat) (v : Int) : Prop := (i % 56100 = 154 → -1 ≤ v ∧ v ≤ 8) ∧ (i % 56100 = 164 ∨ i % 56100 = 165 → 0 ≤ v ∧ v ≤ 89) ∧ (i % 56100 = 166 → 0 ≤ v ∧ v ≤ 12) ∧ (i % 56100 = 167 → 0 ≤ v ∧ v ≤ 720) ∧ ((144 ≤ i % 56100 ∧ i % 56100 < 154) ∨ (156 ≤ i % 56100 ∧ i % 56100 < 164) → zGd v) ∧
  (170 ≤ i % 56100 ∧ i % 56100 < 1887 → ((i % 56100 - 170) % 17 = 1 → 0 ≤ v ∧ v ≤ 60) ∧ ((i % 56100 - 170) % 17 = 4 → 0 ≤ v ∧ v ≤ 12)) ∧ (1900 ≤ i % 56100 ∧ i % 56100 < 1940 ∧ i % 56100 % 2 = 1 → 0 ≤ v ∧ v ≤ 60) ∧ (1940 ≤ i % 56100 ∧ i % 56100 < 56060 → zokL ((i % 56100 - 1940) % 66) v)
def zokA (g : Int) (i : Nat) (v : Int) : Prop := match g with
  | 1 => zokN i v
  | 8 => zGd v
  | 2 => -1 ≤ v ∧ v ≤ 24
  | 3 => 0 ≤ v ∧ v ≤ 6
  | 4 => 0 ≤ v ∧ v ≤ 23
  | 5 => -1 ≤ v ∧ v ≤ 23
  | 6 => -1 ≤ v ∧ v ≤ 40
  | 7 => 0 ≤ v ∧ v ≤ 127
  | 9 => 0 ≤ v ∧ v ≤ 11
  | 10 => 0 ≤ v ∧ v ≤ 40
  | 11 => -4 ≤ v ∧ v ≤ 41
  | 12 => 0 ≤ v ∧ v ≤ 9
  | 13 => 0 ≤ v ∧ v ≤ 3
  | 14 => 0 ≤ v ∧ v ≤ 100
  | _ => True
def zok (t : zT) (k : Nat) (v : Int) : Prop := match t with
  | (1, 12, _) => zokM k v
  | (2, 0, _ :: g :: _) => zokA g k v
  | _ => True
def zop (_ : Nat → zT) (t : zT) (k : Nat) (p : Option Nat) : Prop := match t with
  | (1, 12, _) => p = zMA k
  | _ => True
abbrev zMd : zM := (zok, zop)
def zFix (a : Nat) : zT := match a with
  | 56 => (1, 12, [1])
  | 57 => (2, 0, [112200, 1])
  | 58 => (2, 0, [112200, 1])
  | 59 => (2, 2, [2, 0])
  | 60 => (2, 0, [60, 0])
  | 61 => (2, 0, [8, 2])
  | 62 => (2, 0, [192, 0])
  | 63 => (2, 0, [192, 2])
  | 64 => (2, 0, [4608, 0])
  | 65 => (2, 0, [8, 3])
  | 66 => (2, 0, [48, 4])
  | 67 => (2, 0, [48, 4])
  | 68 => (2, 0, [48, 5])
  | 69 => (2, 0, [48, 0])
  | 70 => (2, 0, [32, 0])
  | 71 => (2, 0, [8, 0])
  | 72 => (2, 0, [8, 0])
  | 73 => (2, 0, [8, 0])
  | 74 => (2, 0, [8, 13])
  | 75 => (2, 0, [8, 0])
  | 76 => (2, 0, [2, 0])
  | 77 => (2, 0, [24, 6])
  | 78 => (2, 0, [960, 7])
  | 79 => (2, 0, [24, 12])
  | 80 => (2, 0, [40, 0])
  | 81 => (2, 0, [40, 8])
  | 82 => (2, 0, [42, 8])
  | 83 => (2, 0, [12, 9])
  | 84 => (2, 0, [42, 10])
  | 85 => (2, 0, [42, 11])
  | 86 => (2, 1, [42, 0])
  | 87 => (2, 0, [144, 0])
  | 88 => (2, 0, [12, 9])
  | 89 => (2, 0, [100, 14])
  | 90 => (2, 1, [101, 0])
  | _ => (0, 0, [])
theorem ok_tray {i : Nat} {v : Int} (h : zok (2, 0, [112200, 1]) i v) (hi : i % 56100 = 154) : -1 ≤ v ∧ v ≤ 8 := by
  have h : zokN i v := h
  exact h.1 hi
theorem ok_lines {i : Nat} {v : Int} (h : zok (2, 0, [112200, 1]) i v) (hi : i % 56100 = 164 ∨ i % 56100 = 165) : 0 ≤ v ∧ v ≤ 89 := by
  have h : zokN i v := h
  exact h.2.1 hi
theorem ok_formes {i : Nat} {v : Int} (h : zok (2, 0, [112200, 1]) i v) (hi : i % 56100 = 166) : 0 ≤ v ∧ v ≤ 12 := by
  have h : zokN i v := h
  exact h.2.2.1 hi
theorem ok_sets {i : Nat} {v : Int} (h : zok (2, 0, [112200, 1]) i v) (hi : i % 56100 = 167) : 0 ≤ v ∧ v ≤ 720 := by
  have h : zokN i v := h
  exact h.2.2.2.1 hi
theorem ok_stick {i : Nat} {v : Int} (h : zok (2, 0, [112200, 1]) i v) (hi : (144 ≤ i % 56100 ∧ i % 56100 < 154) ∨ (156 ≤ i % 56100 ∧ i % 56100 < 164)) : zGd v := by
  have h : zokN i v := h
  exact h.2.2.2.2.1 hi
theorem ok_pm {i : Nat} {v : Int} (h : zok (2, 0, [112200, 1]) i v) (hi : 170 ≤ i % 56100 ∧ i % 56100 < 1887 ∧ (i % 56100 - 170) % 17 = 1) : 0 ≤ v ∧ v ≤ 60 := by
  have h : zokN i v := h
  exact (h.2.2.2.2.2.1 ⟨hi.1, hi.2.1⟩).1 hi.2.2
theorem ok_pn {i : Nat} {v : Int} (h : zok (2, 0, [112200, 1]) i v) (hi : 170 ≤ i % 56100 ∧ i % 56100 < 1887 ∧ (i % 56100 - 170) % 17 = 4) : 0 ≤ v ∧ v ≤ 12 := by
  have h : zokN i v := h
  exact (h.2.2.2.2.2.1 ⟨hi.1, hi.2.1⟩).2 hi.2.2
theorem ok_fl {i : Nat} {v : Int} (h : zok (2, 0, [112200, 1]) i v) (hi : 1900 ≤ i % 56100 ∧ i % 56100 < 1940 ∧ i % 56100 % 2 = 1) : 0 ≤ v ∧ v ≤ 60 := by
  have h : zokN i v := h
  exact h.2.2.2.2.2.2.1 hi
theorem ok_lfount {i : Nat} {v : Int} (h : zok (2, 0, [112200, 1]) i v) (hi : 1940 ≤ i % 56100 ∧ i % 56100 < 56060 ∧ (i % 56100 - 1940) % 66 = 1) : 0 ≤ v ∧ v ≤ 3 := by
  have h : zokN i v := h
  exact (h.2.2.2.2.2.2.2 ⟨hi.1, hi.2.1⟩).1 hi.2.2
theorem ok_lsorts {i : Nat} {v : Int} (h : zok (2, 0, [112200, 1]) i v) (hi : 1940 ≤ i % 56100 ∧ i % 56100 < 56060 ∧ (i % 56100 - 1940) % 66 = 3) : 0 ≤ v ∧ v ≤ 42 := by
  have h : zokN i v := h
  exact (h.2.2.2.2.2.2.2 ⟨hi.1, hi.2.1⟩).2.1 hi.2.2
theorem ok_lnotes {i : Nat} {v : Int} (h : zok (2, 0, [112200, 1]) i v) (hi : 1940 ≤ i % 56100 ∧ i % 56100 < 56060 ∧ (i % 56100 - 1940) % 66 = 11) : 0 ≤ v ∧ v ≤ 12 := by
  have h : zokN i v := h
  exact (h.2.2.2.2.2.2.2 ⟨hi.1, hi.2.1⟩).2.2.1 hi.2.2
theorem ok_lnote {i : Nat} {v : Int} (h : zok (2, 0, [112200, 1]) i v) (hi : 1940 ≤ i % 56100 ∧ i % 56100 < 56060 ∧ 12 ≤ (i % 56100 - 1940) % 66 ∧ (i % 56100 - 1940) % 66 < 24) : 0 ≤ v ∧ v ≤ 11 := by
  have h : zokN i v := h
  exact (h.2.2.2.2.2.2.2 ⟨hi.1, hi.2.1⟩).2.2.2.1 hi.2.2
theorem ok_lsort {i : Nat} {v : Int} (h : zok (2, 0, [112200, 1]) i v) (hi : 1940 ≤ i % 56100 ∧ i % 56100 < 56060 ∧ 24 ≤ (i % 56100 - 1940) % 66) : zGd v := by
  have h : zokN i v := h
  exact (h.2.2.2.2.2.2.2 ⟨hi.1, hi.2.1⟩).2.2.2.2 hi.2.2
theorem st_tray {i : Nat} {v : Int} (hi : i % 56100 = 154) (hv : -1 ≤ v ∧ v ≤ 8) : zok (2, 0, [112200, 1]) i v := by
  show zokN i v
  refine ⟨fun h => ?_, fun h => ?_, fun h => ?_, fun h => ?_, fun h => ?_, fun h => ⟨fun h2 => ?_, fun h2 => ?_⟩, fun h => ?_, fun h => ⟨fun h2 => ?_, fun h2 => ?_, fun h2 => ?_, fun h2 => ?_, fun h2 => ?_⟩⟩ <;> first | (exfalso; omega) | exact hv | omega
theorem st_lines {i : Nat} {v : Int} (hi : i % 56100 = 164 ∨ i % 56100 = 165) (hv : 0 ≤ v ∧ v ≤ 89) : zok (2, 0, [112200, 1]) i v := by
  show zokN i v
  refine ⟨fun h => ?_, fun h => ?_, fun h => ?_, fun h => ?_, fun h => ?_, fun h => ⟨fun h2 => ?_, fun h2 => ?_⟩, fun h => ?_, fun h => ⟨fun h2 => ?_, fun h2 => ?_, fun h2 => ?_, fun h2 => ?_, fun h2 => ?_⟩⟩ <;> first | (exfalso; omega) | exact hv | omega
theorem st_formes {i : Nat} {v : Int} (hi : i % 56100 = 166) (hv : 0 ≤ v ∧ v ≤ 12) : zok (2, 0, [112200, 1]) i v := by
  show zokN i v
  refine ⟨fun h => ?_, fun h => ?_, fun h => ?_, fun h => ?_, fun h => ?_, fun h => ⟨fun h2 => ?_, fun h2 => ?_⟩, fun h => ?_, fun h => ⟨fun h2 => ?_, fun h2 => ?_, fun h2 => ?_, fun h2 => ?_, fun h2 => ?_⟩⟩ <;> first | (exfalso; omega) | exact hv | omega
theorem st_sets {i : Nat} {v : Int} (hi : i % 56100 = 167) (hv : 0 ≤ v ∧ v ≤ 720) : zok (2, 0, [112200, 1]) i v := by
  show zokN i v
  refine ⟨fun h => ?_, fun h => ?_, fun h => ?_, fun h => ?_, fun h => ?_, fun h => ⟨fun h2 => ?_, fun h2 => ?_⟩, fun h => ?_, fun h => ⟨fun h2 => ?_, fun h2 => ?_, fun h2 => ?_, fun h2 => ?_, fun h2 => ?_⟩⟩ <;> first | (exfalso; omega) | exact hv | omega
theorem st_stick {i : Nat} {v : Int} (hi : (144 ≤ i % 56100 ∧ i % 56100 < 154) ∨ (156 ≤ i % 56100 ∧ i % 56100 < 164)) (hv : zGd v) : zok (2, 0, [112200, 1]) i v := by
  show zokN i v
  refine ⟨fun h => ?_, fun h => ?_, fun h => ?_, fun h => ?_, fun h => ?_, fun h => ⟨fun h2 => ?_, fun h2 => ?_⟩, fun h => ?_, fun h => ⟨fun h2 => ?_, fun h2 => ?_, fun h2 => ?_, fun h2 => ?_, fun h2 => ?_⟩⟩ <;> first | (exfalso; omega) | exact hv | omega
theorem st_pm {i : Nat} {v : Int} (hi : 170 ≤ i % 56100 ∧ i % 56100 < 1887 ∧ (i % 56100 - 170) % 17 = 1) (hv : 0 ≤ v ∧ v ≤ 60) : zok (2, 0, [112200, 1]) i v := by
  show zokN i v
  refine ⟨fun h => ?_, fun h => ?_, fun h => ?_, fun h => ?_, fun h => ?_, fun h => ⟨fun h2 => ?_, fun h2 => ?_⟩, fun h => ?_, fun h => ⟨fun h2 => ?_, fun h2 => ?_, fun h2 => ?_, fun h2 => ?_, fun h2 => ?_⟩⟩ <;> first | (exfalso; omega) | exact hv | omega
theorem st_pn {i : Nat} {v : Int} (hi : 170 ≤ i % 56100 ∧ i % 56100 < 1887 ∧ (i % 56100 - 170) % 17 = 4) (hv : 0 ≤ v ∧ v ≤ 12) : zok (2, 0, [112200, 1]) i v := by
  show zokN i v
  refine ⟨fun h => ?_, fun h => ?_, fun h => ?_, fun h => ?_, fun h => ?_, fun h => ⟨fun h2 => ?_, fun h2 => ?_⟩, fun h => ?_, fun h => ⟨fun h2 => ?_, fun h2 => ?_, fun h2 => ?_, fun h2 => ?_, fun h2 => ?_⟩⟩ <;> first | (exfalso; omega) | exact hv | omega
theorem st_fl {i : Nat} {v : Int} (hi : 1900 ≤ i % 56100 ∧ i % 56100 < 1940 ∧ i % 56100 % 2 = 1) (hv : 0 ≤ v ∧ v ≤ 60) : zok (2, 0, [112200, 1]) i v := by
  show zokN i v
  refine ⟨fun h => ?_, fun h => ?_, fun h => ?_, fun h => ?_, fun h => ?_, fun h => ⟨fun h2 => ?_, fun h2 => ?_⟩, fun h => ?_, fun h => ⟨fun h2 => ?_, fun h2 => ?_, fun h2 => ?_, fun h2 => ?_, fun h2 => ?_⟩⟩ <;> first | (exfalso; omega) | exact hv | omega
theorem st_lfount {i : Nat} {v : Int} (hi : 1940 ≤ i % 56100 ∧ i % 56100 < 56060 ∧ (i % 56100 - 1940) % 66 = 1) (hv : 0 ≤ v ∧ v ≤ 3) : zok (2, 0, [112200, 1]) i v := by
  show zokN i v
  refine ⟨fun h => ?_, fun h => ?_, fun h => ?_, fun h => ?_, fun h => ?_, fun h => ⟨fun h2 => ?_, fun h2 => ?_⟩, fun h => ?_, fun h => ⟨fun h2 => ?_, fun h2 => ?_, fun h2 => ?_, fun h2 => ?_, fun h2 => ?_⟩⟩ <;> first | (exfalso; omega) | exact hv | omega
theorem st_lsorts {i : Nat} {v : Int} (hi : 1940 ≤ i % 56100 ∧ i % 56100 < 56060 ∧ (i % 56100 - 1940) % 66 = 3) (hv : 0 ≤ v ∧ v ≤ 42) : zok (2, 0, [112200, 1]) i v := by
  show zokN i v
  refine ⟨fun h => ?_, fun h => ?_, fun h => ?_, fun h => ?_, fun h => ?_, fun h => ⟨fun h2 => ?_, fun h2 => ?_⟩, fun h => ?_, fun h => ⟨fun h2 => ?_, fun h2 => ?_, fun h2 => ?_, fun h2 => ?_, fun h2 => ?_⟩⟩ <;> first | (exfalso; omega) | exact hv | omega
theorem st_lnotes {i : Nat} {v : Int} (hi : 1940 ≤ i % 56100 ∧ i % 56100 < 56060 ∧ (i % 56100 - 1940) % 66 = 11) (hv : 0 ≤ v ∧ v ≤ 12) : zok (2, 0, [112200, 1]) i v := by
  show zokN i v
  refine ⟨fun h => ?_, fun h => ?_, fun h => ?_, fun h => ?_, fun h => ?_, fun h => ⟨fun h2 => ?_, fun h2 => ?_⟩, fun h => ?_, fun h => ⟨fun h2 => ?_, fun h2 => ?_, fun h2 => ?_, fun h2 => ?_, fun h2 => ?_⟩⟩ <;> first | (exfalso; omega) | exact hv | omega
theorem st_lnote {i : Nat} {v : Int} (hi : 1940 ≤ i % 56100 ∧ i % 56100 < 56060 ∧ 12 ≤ (i % 56100 - 1940) % 66 ∧ (i % 56100 - 1940) % 66 < 24) (hv : 0 ≤ v ∧ v ≤ 11) : zok (2, 0, [112200, 1]) i v := by
  show zokN i v
  refine ⟨fun h => ?_, fun h => ?_, fun h => ?_, fun h => ?_, fun h => ?_, fun h => ⟨fun h2 => ?_, fun h2 => ?_⟩, fun h => ?_, fun h => ⟨fun h2 => ?_, fun h2 => ?_, fun h2 => ?_, fun h2 => ?_, fun h2 => ?_⟩⟩ <;> first | (exfalso; omega) | exact hv | omega
theorem st_lsort {i : Nat} {v : Int} (hi : 1940 ≤ i % 56100 ∧ i % 56100 < 56060 ∧ 24 ≤ (i % 56100 - 1940) % 66) (hv : zGd v) : zok (2, 0, [112200, 1]) i v := by
  show zokN i v
  refine ⟨fun h => ?_, fun h => ?_, fun h => ?_, fun h => ?_, fun h => ?_, fun h => ⟨fun h2 => ?_, fun h2 => ?_⟩, fun h => ?_, fun h => ⟨fun h2 => ?_, fun h2 => ?_, fun h2 => ?_, fun h2 => ?_, fun h2 => ?_⟩⟩ <;> first | (exfalso; omega) | exact hv | omega
theorem st_box {i : Nat} {v : Int} (hi : i % 56100 < 144 ∨ i % 56100 = 155) : zok (2, 0, [112200, 1]) i v := by
  show zokN i v
  refine ⟨fun h => ?_, fun h => ?_, fun h => ?_, fun h => ?_, fun h => ?_, fun h => ⟨fun h2 => ?_, fun h2 => ?_⟩, fun h => ?_, fun h => ⟨fun h2 => ?_, fun h2 => ?_, fun h2 => ?_, fun h2 => ?_, fun h2 => ?_⟩⟩ <;> first | (exfalso; omega) | exact hv | omega
theorem st_pany {i : Nat} {v : Int} (hi : 170 ≤ i % 56100 ∧ i % 56100 < 1887 ∧ ¬ (i % 56100 - 170) % 17 = 1 ∧ ¬ (i % 56100 - 170) % 17 = 4) : zok (2, 0, [112200, 1]) i v := by
  show zokN i v
  refine ⟨fun h => ?_, fun h => ?_, fun h => ?_, fun h => ?_, fun h => ?_, fun h => ⟨fun h2 => ?_, fun h2 => ?_⟩, fun h => ?_, fun h => ⟨fun h2 => ?_, fun h2 => ?_, fun h2 => ?_, fun h2 => ?_, fun h2 => ?_⟩⟩ <;> first | (exfalso; omega) | exact hv | omega
theorem st_fnum {i : Nat} {v : Int} (hi : 1900 ≤ i % 56100 ∧ i % 56100 < 1940 ∧ i % 56100 % 2 = 0) : zok (2, 0, [112200, 1]) i v := by
  show zokN i v
  refine ⟨fun h => ?_, fun h => ?_, fun h => ?_, fun h => ?_, fun h => ?_, fun h => ⟨fun h2 => ?_, fun h2 => ?_⟩, fun h => ?_, fun h => ⟨fun h2 => ?_, fun h2 => ?_, fun h2 => ?_, fun h2 => ?_, fun h2 => ?_⟩⟩ <;> first | (exfalso; omega) | exact hv | omega
theorem st_lany {i : Nat} {v : Int} (hi : 1940 ≤ i % 56100 ∧ i % 56100 < 56060 ∧ (i % 56100 - 1940) % 66 < 12 ∧ ¬ (i % 56100 - 1940) % 66 = 1 ∧ ¬ (i % 56100 - 1940) % 66 = 3 ∧ ¬ (i % 56100 - 1940) % 66 = 11) : zok (2, 0, [112200, 1]) i v := by
  show zokN i v
  refine ⟨fun h => ?_, fun h => ?_, fun h => ?_, fun h => ?_, fun h => ?_, fun h => ⟨fun h2 => ?_, fun h2 => ?_⟩, fun h => ?_, fun h => ⟨fun h2 => ?_, fun h2 => ?_, fun h2 => ?_, fun h2 => ?_, fun h2 => ?_⟩⟩ <;> first | (exfalso; omega) | exact hv | omega
