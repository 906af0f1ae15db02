/-! what a method of the class leaves as it was -/
def zIr (a k : Nat) : Prop := ((a = 23 ∨ a = 30 ∨ a = 42 ∨ a = 49) ∧ (k = 6 ∨ k = 8 ∨ k = 10)) ∨ (a = 1 ∧ k = 6) ∨ a = 22 ∨ a = 41 ∨ (56 ≤ a ∧ a ≤ 90)
def zPr (a k : Nat) : Prop := (a = 1 ∧ k = 5) ∨ ((a = 18 ∨ a = 37) ∧ (k = 4 ∨ k = 5)) ∨ (27 ≤ a ∧ a ≤ 29) ∨ (34 ≤ a ∧ a ≤ 36) ∨ (46 ≤ a ∧ a ≤ 48) ∨ (53 ≤ a ∧ a ≤ 55)
def zQi (I I2 : Nat → Nat → Int) : Prop := ∀ a k, zIr a k → I2 a k = I a k
def zQp (P P2 : Nat → Nat → Option Nat) : Prop := ∀ a k, zPr a k → P2 a k = P a k
def zTn (n : Nat) (T T2 : Nat → zT) : Prop := ∀ q, q ≤ n → T2 q = T q
theorem zTn_rf {n : Nat} {T : Nat → zT} : zTn n T T := fun _ _ => rfl
theorem zTn_n {n m : Nat} {t : zT} {T T2 T3 : Nat → zT} {I I2 : Nat → Nat → Int} {P P2 : Nat → Nat → Option Nat} {G G2 : Nat → Nat → Int} (h : zTn n T T2) (hw : zNw m t T2 T3 I I2 P P2 G G2) (hm : n < m) : zTn n T T3 := fun q hq => by
  rw [(hw.1 q (by omega)).1, h q hq]
theorem zTn_t {n m : Nat} {T T2 T3 : Nat → zT} (h : zTn n T T2) (h2 : zTn m T2 T3) (hm : n ≤ m) : zTn n T T3 := fun q hq => by rw [h2 q (by omega), h q hq]
theorem zTn_r {n a : Nat} {T T2 T3 : Nat → zT} (h : zTn n T T2) (h2 : ∀ b, b ≠ a → T3 b = T2 b) (hm : n < a) : zTn n T T3 := fun q hq => by rw [h2 q (by omega), h q hq]
theorem zTn_m {n m : Nat} {T T2 : Nat → zT} (h : zTn n T T2) (hm : m ≤ n) : zTn m T T2 := fun q hq => h q (by omega)
theorem zQi_rf {I : Nat → Nat → Int} : zQi I I := fun _ _ _ => rfl
theorem zQi_t {I I2 I3 : Nat → Nat → Int} (h : zQi I I2) (h2 : zQi I2 I3) : zQi I I3 := fun a k hk => by rw [h2 a k hk, h a k hk]
theorem zQi_u {I I2 : Nat → Nat → Int} {a k : Nat} {v : Int} (h : zQi I I2) (ha : ¬ zIr a k) : zQi I (zU I2 a k v) := fun b j hj => by
  have e : ¬ (b = a ∧ j = k) := fun e => by obtain ⟨rfl, rfl⟩ := e; exact ha hj
  rw [← h b j hj]
  simp [zU, e]
theorem zQi_n {m : Nat} {t : zT} {T T2 : Nat → zT} {I I2 I3 : Nat → Nat → Int} {P P2 : Nat → Nat → Option Nat} {G G2 : Nat → Nat → Int} (h : zQi I I2) (hw : zNw m t T T2 I2 I3 P P2 G G2) (hm : 90 < m) : zQi I I3 := fun a k hk => by
  rw [(hw.1 a (by unfold zIr at hk; omega)).2.1, h a k hk]
theorem zQp_rf {P : Nat → Nat → Option Nat} : zQp P P := fun _ _ _ => rfl
theorem zQp_t {P P2 P3 : Nat → Nat → Option Nat} (h : zQp P P2) (h2 : zQp P2 P3) : zQp P P3 := fun a k hk => by rw [h2 a k hk, h a k hk]
theorem zQp_u {P P2 : Nat → Nat → Option Nat} {a k : Nat} {v : Option Nat} (h : zQp P P2) (ha : ¬ zPr a k) : zQp P (zU P2 a k v) := fun b j hj => by
  have e : ¬ (b = a ∧ j = k) := fun e => by obtain ⟨rfl, rfl⟩ := e; exact ha hj
  rw [← h b j hj]
  simp [zU, e]
theorem zQp_n {m : Nat} {t : zT} {T T2 : Nat → zT} {I I2 : Nat → Nat → Int} {P P2 P3 : Nat → Nat → Option Nat} {G G2 : Nat → Nat → Int} (h : zQp P P2) (hw : zNw m t T T2 I I2 P2 P3 G G2) (hm : 90 < m) : zQp P P3 := fun a k hk => by
  rw [(hw.1 a (by unfold zPr at hk; omega)).2.2.1, h a k hk]
def zCq (n : Nat) (T T2 : Nat → zT) (I I2 : Nat → Nat → Int) (P P2 : Nat → Nat → Option Nat) : Prop := zTn n T T2 ∧ zQi I I2 ∧ zQp P P2
/-- a room's cells, a floor's -/
theorem zRm_t {T : Nat → zT} (hC : ∀ a, 1 ≤ a → a ≤ 55 → T a = zFixC a) {b : Nat} (hb : b = 18 ∨ b = 37) : T b = (1, 8, [(b : Int)]) ∧ T (b + 1) = (2, 5, [4, 1]) ∧ T (b + 2) = (2, 0, [4, 0]) ∧ T (b + 3) = (2, 3, [12, 1]) ∧ T (b + 4) = (2, 0, [12, 12]) := by
  rcases hb with rfl | rfl
  · exact ⟨hC 18 (by decide) (by decide), hC 19 (by decide) (by decide), hC 20 (by decide) (by decide), hC 21 (by decide) (by decide), hC 22 (by decide) (by decide)⟩
  · exact ⟨hC 37 (by decide) (by decide), hC 38 (by decide) (by decide), hC 39 (by decide) (by decide), hC 40 (by decide) (by decide), hC 41 (by decide) (by decide)⟩
def zIsX (x : Nat) : Prop := x = 23 ∨ x = 30 ∨ x = 42 ∨ x = 49
theorem zFl_t {T : Nat → zT} (hC : ∀ a, 1 ≤ a → a ≤ 55 → T a = zFixC a) {x : Nat} (hx : x = 23 ∨ x = 30 ∨ x = 42 ∨ x = 49) : T x = (1, 1, [(x : Int)]) ∧ T (x + 1) = (2, 0, [144, 0]) ∧ T (x + 2) = (2, 9, [10, 1]) ∧ T (x + 3) = (2, 9, [8, 1]) ∧ T (x + 4) = (2, 6, [89, 1]) ∧ T (x + 5) = (2, 7, [89, 1]) ∧ T (x + 6) = (2, 4, [12, 1]) := by
  rcases hx with rfl | rfl | rfl | rfl
  · exact ⟨hC 23 (by decide) (by decide), hC 24 (by decide) (by decide), hC 25 (by decide) (by decide), hC 26 (by decide) (by decide), hC 27 (by decide) (by decide), hC 28 (by decide) (by decide), hC 29 (by decide) (by decide)⟩
  · exact ⟨hC 30 (by decide) (by decide), hC 31 (by decide) (by decide), hC 32 (by decide) (by decide), hC 33 (by decide) (by decide), hC 34 (by decide) (by decide), hC 35 (by decide) (by decide), hC 36 (by decide) (by decide)⟩
  · exact ⟨hC 42 (by decide) (by decide), hC 43 (by decide) (by decide), hC 44 (by decide) (by decide), hC 45 (by decide) (by decide), hC 46 (by decide) (by decide), hC 47 (by decide) (by decide), hC 48 (by decide) (by decide)⟩
  · exact ⟨hC 49 (by decide) (by decide), hC 50 (by decide) (by decide), hC 51 (by decide) (by decide), hC 52 (by decide) (by decide), hC 53 (by decide) (by decide), hC 54 (by decide) (by decide), hC 55 (by decide) (by decide)⟩
theorem zHere {p : Option Nat} (h : p = some 18 ∨ p = some 37) : ∃ b, p = some b ∧ (b = 18 ∨ b = 37) := by
  rcases h with h | h
  · exact ⟨18, h, Or.inl rfl⟩
  · exact ⟨37, h, Or.inr rfl⟩
theorem zFloorOf {p : Option Nat} {b : Nat} (h : p = some (b + 5) ∨ p = some (b + 12)) : ∃ x, p = some x ∧ (x = b + 5 ∨ x = b + 12) := by
  rcases h with h | h
  · exact ⟨_, h, Or.inl rfl⟩
  · exact ⟨_, h, Or.inr rfl⟩
/-- a sort that was made -/
theorem zSort_I {f : Nat → Int} {kd n cd : Int} (h0 : f 0 = kd) (h2 : f 2 = cd) (hv : (kd = 0 → 0 ≤ cd ∧ cd < n) ∧ (kd = 1 → 0 ≤ cd ∧ cd ≤ 5) ∧ (kd = 4 → 0 ≤ cd ∧ cd ≤ 3)) : ∀ k, zok (1, 9, [1, kd, n]) k (f k) := by
  subst h2
  intro k
  show zokD 9 1 [kd, n] k (f k)
  match k with
  | 0 => exact h0
  | 1 => trivial
  | 2 => exact hv
  | _ + 3 => trivial
theorem zSort_P {T : Nat → zT} {f : Nat → Option Nat} {kd n : Int} {q : Nat} (h1 : f 1 = some q) (hq : 91 ≤ q) (tq : T q = (1, 3, [n])) (hn : 0 ≤ n ∧ n ≤ 24) (h4 : f 4 = none) (h5 : f 5 = none) (hk : kd ≠ 5) : ∀ k, zop T (1, 9, [1, kd, n]) k (f k) := by
  intro k
  show zopC T 9 1 [kd, n] k (f k)
  match k with
  | 0 => trivial
  | 1 => exact ⟨q, h1, hq, tq, hn⟩
  | 2 => trivial
  | 3 => trivial
  | 4 => exact Or.inr ⟨hk, h4⟩
  | 5 => exact Or.inr ⟨hk, h5⟩
  | _ + 6 => trivial
theorem zStk_P {T : Nat → zT} {f : Nat → Option Nat} {n : Int} {q a b : Nat} (h1 : f 1 = some q) (hq : 91 ≤ q) (tq : T q = (1, 3, [n])) (hn : 0 ≤ n ∧ n ≤ 24) (h4 : f 4 = some a) (h5 : f 5 = some b) (ha : 91 ≤ a) (hb : 91 ≤ b) (ta : zS1 (T a)) (tb : zS1 (T b)) : ∀ k, zop T (1, 9, [1, 5, n]) k (f k) := by
  intro k
  show zopC T 9 1 [5, n] k (f k)
  match k with
  | 0 => trivial
  | 1 => exact ⟨q, h1, hq, tq, hn⟩
  | 2 => trivial
  | 3 => trivial
  | 4 => exact Or.inl ⟨rfl, a, h4, ha, ta⟩
  | 5 => exact Or.inl ⟨rfl, b, h5, hb, tb⟩
  | _ + 6 => trivial
/-- a fount that was made -/
theorem zFou_I {f : Nat → Int} {n : Int} (h0 : 0 ≤ f 0 ∧ f 0 ≤ 3) (h1 : f 1 = n) (h7 : f 7 = 0) : ∀ k, zok (1, 3, [n]) k (f k) := by
  intro k
  show zokD 3 n [] k (f k)
  match k with
  | 0 => exact h0
  | 1 => exact h1
  | 2 => trivial
  | 3 => trivial
  | 4 => trivial
  | 5 => trivial
  | 6 => trivial
  | 7 => exact ⟨by omega, fun _ => h7⟩
  | _ + 8 => trivial
theorem zFou_P {T : Nat → zT} {f : Nat → Option Nat} {n : Int} {a b c d e : Nat} (h2 : f 2 = some a) (h3 : f 3 = some b) (h4 : f 4 = some c) (h5 : f 5 = some d) (h6 : f 6 = some e) (h9 : 91 ≤ a ∧ 91 ≤ b ∧ 91 ≤ c ∧ 91 ≤ d ∧ 91 ≤ e) (ta : T a = (2, 0, [n, 0])) (tb : T b = (2, 3, [n, 2])) (tc : T c = (2, 0, [18, 26, n])) (td : T d = (2, 0, [6, 0])) (te : T e = (2, 0, [4, 0])) : ∀ k, zop T (1, 3, [n]) k (f k) := by
  intro k
  show zopC T 3 n [] k (f k)
  match k with
  | 0 => trivial
  | 1 => trivial
  | 2 => exact ⟨a, h2, h9.1, ta, trivial⟩
  | 3 => exact ⟨b, h3, h9.2.1, tb, trivial⟩
  | 4 => exact ⟨c, h4, h9.2.2.1, tc, trivial⟩
  | 5 => exact ⟨d, h5, h9.2.2.2.1, td, trivial⟩
  | 6 => exact ⟨e, h6, h9.2.2.2.2, te, trivial⟩
  | _ + 7 => trivial
/-! what holds of the class's cells together -/
def zFlr (T : Nat → zT) (I : Nat → Nat → Int) (P : Nat → Nat → Option Nat) (x : Nat) : Prop :=
  (∀ j : Nat, (j : Int) < I x 6 → ∃ q, P (x + 4) j = some q) ∧ (∀ j : Nat, (j : Int) < I x 8 → ∃ q f l, P (x + 5) j = some q ∧ T q = (1, 5, [f, l]) ∧ 0 ≤ f ∧ 0 ≤ l ∧ f + l ≤ I x 6) ∧ (∀ j : Nat, (j : Int) < I x 10 → ∃ q, P (x + 6) j = some q)
def zCR (T : Nat → zT) (I : Nat → Nat → Int) (P : Nat → Nat → Option Nat) : Prop :=
  P 1 5 = some (18 + 19 * (I 1 6).toNat) ∧ (∀ b, b = 18 ∨ b = 37 → (P b 4 = some (b + 5) ∧ P b 5 = some (b + 12)) ∨ (P b 4 = some (b + 12) ∧ P b 5 = some (b + 5))) ∧ (∀ x, x = 23 ∨ x = 30 ∨ x = 42 ∨ x = 49 → zFlr T I P x)
theorem zFlr_eq {T T2 : Nat → zT} {I I2 : Nat → Nat → Int} {P P2 : Nat → Nat → Option Nat} {x : Nat} (h : zFlr T I P x) (hm : zTm T T2) (h6 : I2 x 6 = I x 6) (h8 : I2 x 8 = I x 8) (h10 : I2 x 10 = I x 10) (hp : ∀ k, P2 (x + 4) k = P (x + 4) k ∧ P2 (x + 5) k = P (x + 5) k ∧ P2 (x + 6) k = P (x + 6) k) : zFlr T2 I2 P2 x := by
  obtain ⟨g1, g2, g3⟩ := h
  refine ⟨fun j hj => ?_, fun j hj => ?_, fun j hj => ?_⟩
  · rw [(hp j).1]; rw [h6] at hj; exact g1 j hj
  · rw [(hp j).2.1, h6]; rw [h8] at hj
    obtain ⟨q, f, l, e1, e2, e3⟩ := g2 j hj
    exact ⟨q, f, l, e1, hm q _ e2 trivial, e3⟩
  · rw [(hp j).2.2]; rw [h10] at hj; exact g3 j hj
/-- what a call of the class leaves as it was -/
def zCP (n : Nat) (T T2 : Nat → zT) (I I2 : Nat → Nat → Int) (P P2 : Nat → Nat → Option Nat) : Prop :=
  zTn n T T2 ∧ (zCR T I P → zCR T2 I2 P2) ∧ (∀ a k, (a = 1 ∧ k = 6) ∨ a = 22 ∨ a = 41 ∨ (56 ≤ a ∧ a ≤ 90) → I2 a k = I a k)
theorem zCP_q {n : Nat} {T T2 : Nat → zT} {I I2 : Nat → Nat → Int} {P P2 : Nat → Nat → Option Nat} (h : zCq n T T2 I I2 P P2) (hm : zTm T T2) : zCP n T T2 I I2 P P2 := by
  obtain ⟨h1, h2, h3⟩ := h
  refine ⟨h1, fun hr => ?_, fun a k ha => h2 a k (by unfold zIr; omega)⟩
  obtain ⟨g1, g2, g3⟩ := hr
  refine ⟨?_, fun b hb => ?_, fun x hx => ?_⟩
  · rw [h3 1 5 (by unfold zPr; omega), h2 1 6 (by unfold zIr; omega)]; exact g1
  · rw [h3 b 4 (by unfold zPr; omega), h3 b 5 (by unfold zPr; omega)]; exact g2 b hb
  · exact zFlr_eq (g3 x hx) hm (h2 x 6 (by unfold zIr; omega)) (h2 x 8 (by unfold zIr; omega)) (h2 x 10 (by unfold zIr; omega)) (fun k => ⟨h3 _ k (by unfold zPr; omega), h3 _ k (by unfold zPr; omega), h3 _ k (by unfold zPr; omega)⟩)
theorem zCP_tr {n m : Nat} {T T2 T3 : Nat → zT} {I I2 I3 : Nat → Nat → Int} {P P2 P3 : Nat → Nat → Option Nat} (h : zCP n T T2 I I2 P P2) (h2 : zCP m T2 T3 I2 I3 P2 P3) (hm : n ≤ m) : zCP n T T3 I I3 P P3 :=
  ⟨zTn_t h.1 h2.1 hm, fun hr => h2.2.1 (h.2.1 hr), fun a k ha => by rw [h2.2.2 a k ha, h.2.2 a k ha]⟩
theorem zRoomAt {p : Option Nat} {r : Int} (h : (r.toNat = 0 → p = some 18) ∧ (r.toNat = 1 → p = some 37)) (hr : 0 ≤ r ∧ r ≤ 1) : ∃ b, p = some b ∧ (b : Int) = 18 + 19 * r := by
  by_cases e : r = 0
  · subst e; exact ⟨18, h.1 rfl, by omega⟩
  · have e1 : r = 1 := by omega
    subst e1; exact ⟨37, h.2 rfl, by omega⟩
/-- another room is taken to hand -/
theorem zCR_room {T : Nat → zT} {I : Nat → Nat → Int} {P : Nat → Nat → Option Nat} {r v : Int} {b : Nat} (hr : 0 ≤ r ∧ r ≤ 1) (hb : (b : Int) = 18 + 19 * r) (h : zCR T I P) : zCR T (zU (zU I 1 6 r) 1 9 v) (zU P 1 5 (some b)) := by
  obtain ⟨g1, g2, g3⟩ := h
  refine ⟨?_, fun c hc => ?_, fun x hx => ?_⟩
  · rw [zU_same, zU_at _ _ _ (by omega), zU_same]
    congr 1
    omega
  · rw [zU_row _ _ _ (by omega)]; exact g2 c hc
  · refine zFlr_eq (g3 x hx) (fun _ _ h _ => h) ?_ ?_ ?_ (fun k => ?_)
    · rw [zU_row _ _ _ (by omega), zU_row _ _ _ (by omega)]
    · rw [zU_row _ _ _ (by omega), zU_row _ _ _ (by omega)]
    · rw [zU_row _ _ _ (by omega), zU_row _ _ _ (by omega)]
    · rw [zU_row _ _ _ (by omega), zU_row _ _ _ (by omega), zU_row _ _ _ (by omega)]; exact ⟨rfl, rfl, rfl⟩
theorem st_26 {i : Nat} {v n : Int} (h : -1 ≤ v ∧ v ≤ 23) (h2 : i % 3 ≠ 2 → 0 ≤ v) (h3 : v < n ∨ v ≤ 0) : zok (2, 0, [18, 26, n]) i v := ⟨h.1, h.2, h2, h3⟩
theorem ok_26 {i : Nat} {v n : Int} (h : zok (2, 0, [18, 26, n]) i v) : (-1 ≤ v ∧ v ≤ 23) ∧ (i % 3 ≠ 2 → 0 ≤ v) ∧ (v < n ∨ v ≤ 0) := ⟨⟨h.1, h.2.1⟩, h.2.2.1, h.2.2.2⟩
theorem st_joins {v n : Int} (h : 0 ≤ v ∧ v ≤ 6) (h2 : n = 0 → v = 0) : zok (1, 3, [n]) 7 v := ⟨h, h2⟩
theorem zNeT {T : Nat → zT} {a b : Nat} {t u : zT} (h1 : T a = t) (h2 : T b = u) (h : t ≠ u) : a ≠ b := fun e => h (by rw [← h1, ← h2, e])
