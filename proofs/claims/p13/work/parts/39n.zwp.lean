/-! pages are weighed and made -/
def zWp (c : Int) (I I2 : Nat → Nat → Int) : Prop := ∀ b k, ¬ (b = 14 ∧ 6 ≤ k) → b ≠ 17 → ¬ (b = 16 ∧ k = c.toNat) → I2 b k = I b k
theorem zWp_p {c : Int} {I I2 : Nat → Nat → Int} (h : zPgr I I2) : zWp c I I2 := fun b k h1 h2 _ => h b k h1 h2
theorem zWp_a {c : Int} {I I2 I3 : Nat → Nat → Int} (h : zWp c I I2) (h2 : zPgr I2 I3) : zWp c I I3 := fun b k h1 h3 h4 => by rw [h2 b k h1 h3, h b k h1 h3 h4]
theorem zWp_u {c v : Int} {I I2 : Nat → Nat → Int} (h : zWp c I I2) : zWp c I (zU I2 16 c.toNat v) := fun b k h1 h3 h4 => by
  rw [← h b k h1 h3 h4]; simp [zU, h4]
theorem zG_u {c v : Int} {G G2 : Nat → Nat → Int} (h : ∀ b j, ¬ (b = 15 ∧ j = c.toNat) → G2 b j = G b j) : ∀ b j, ¬ (b = 15 ∧ j = c.toNat) → zU G2 15 c.toNat v b j = G b j := fun b j hb => by
  rw [← h b j hb]; simp [zU, hb]
def zWq (I I2 : Nat → Nat → Int) : Prop := ∀ b k, ¬ (b = 14 ∧ 6 ≤ k) → b ≠ 17 → b ≠ 16 → I2 b k = I b k
theorem zWq_s {c : Int} {I I2 I3 : Nat → Nat → Int} (h : zWq I I2) (h2 : zWp c I2 I3) : zWq I I3 := fun b k h1 h3 h4 => by rw [h2 b k h1 h3 (by omega), h b k h1 h3 h4]
def zGb (N k : Int) (G : Nat → Nat → Int) : Prop := ∀ j : Nat, k < (j : Int) → (j : Int) ≤ N → -3000000000 * (N - j) ≤ G 15 j ∧ G 15 j ≤ 3000000000 * (N - j)
theorem zGb_s {N k : Int} {G G2 : Nat → Nat → Int} (h0 : 0 ≤ k) (h : zGb N k G) (hG : ∀ b j, ¬ (b = 15 ∧ j = k.toNat) → G2 b j = G b j) (hk : -3000000000 * (N - k) ≤ G2 15 k.toNat ∧ G2 15 k.toNat ≤ 3000000000 * (N - k)) : zGb N (k + -1) G2 := by
  intro j h1 h2
  by_cases e : j = k.toNat
  · subst e
    rw [show ((k.toNat : Nat) : Int) = k by omega]; exact hk
  · rw [hG 15 j (by omega)]; exact h j (by omega) h2
def zTk2 (N k : Int) (I : Nat → Nat → Int) : Prop := ∀ j : Nat, k < (j : Int) → (j : Int) < N → 1 ≤ I 16 j ∧ I 16 j ≤ N - j
theorem zTk2_s {N k : Int} {I I2 : Nat → Nat → Int} (h0 : 0 ≤ k) (h : zTk2 N k I) (hW : zWp k I I2) (hk : 1 ≤ I2 16 k.toNat ∧ I2 16 k.toNat ≤ N - k) : zTk2 N (k + -1) I2 := by
  intro j h1 h2
  by_cases e : j = k.toNat
  · subst e
    rw [show ((k.toNat : Nat) : Int) = k by omega]; exact hk
  · rw [hW 16 j (by omega) (by omega) (by omega)]; exact h j (by omega) h2
theorem zPage_I {f : Nat → Int} {a w : Int} (h0 : f 0 = a) (h1 : f 1 = w) : ∀ k, zok (1, 5, [a, w]) k (f k) := by
  intro k
  show zokD 5 a [w] k (f k)
  match k with
  | 0 => exact h0
  | 1 => exact h1
  | _ + 2 => trivial
theorem zPage_P {T : Nat → zT} {f : Nat → Option Nat} {a w m : Int} {q : Nat} (h4 : f 4 = some q) (hq : 91 ≤ q) (tq : T q = (2, 0, [m, 9])) (hm : 0 ≤ m ∧ m ≤ 12) : ∀ k, zop T (1, 5, [a, w]) k (f k) := by
  intro k
  show zopC T 5 a [w] k (f k)
  match k with
  | 0 => trivial
  | 1 => trivial
  | 2 => trivial
  | 3 => trivial
  | 4 => exact ⟨q, h4, hq, m, tq, hm⟩
  | _ + 5 => trivial
def zIp (x n a k : Nat) : Prop := a ≤ n ∧ ¬ (a = 14 ∧ 6 ≤ k) ∧ a ≠ 17 ∧ ¬ (a = x ∧ k = 8)
def zPp (x n a k : Nat) : Prop := a ≤ n ∧ a ≠ x + 5 ∧ k = k
/-- the pages that are made -/
def zPps (x : Nat) (N c : Int) (T : Nat → zT) (P : Nat → Nat → Option Nat) : Prop := ∀ j : Nat, (j : Int) < c → ∃ q f l, P (x + 5) j = some q ∧ T q = (1, 5, [f, l]) ∧ 0 ≤ f ∧ 0 ≤ l ∧ f + l ≤ N
theorem zPps_s {x q : Nat} {N c f l : Int} {T T2 : Nat → zT} {P P2 : Nat → Nat → Option Nat} (h : zPps x N c T P) (hm : zTm T T2) (hP : ∀ j, P2 (x + 5) j = P (x + 5) j) (h0 : 0 ≤ c) (tq : T2 q = (1, 5, [f, l])) (hb : 0 ≤ f ∧ 0 ≤ l ∧ f + l ≤ N) : zPps x N (c + 1) T2 (zU P2 (x + 5) c.toNat (some q)) := by
  intro j hj
  by_cases e : j = c.toNat
  · subst e; exact ⟨q, f, l, zU_same _ _ _ _, tq, hb⟩
  · obtain ⟨q9, f9, l9, h1, h2, h3⟩ := h j (by omega)
    exact ⟨q9, f9, l9, by rw [zU_at _ _ _ e, hP]; exact h1, hm q9 _ h2 trivial, h3⟩
theorem zCP_mk {n x : Nat} {N : Int} {T T2 : Nat → zT} {I I2 : Nat → Nat → Int} {P P2 : Nat → Nat → Option Nat} (hn : 90 ≤ n) (ix : x = 23 ∨ x = 30 ∨ x = 42 ∨ x = 49) (hT : zTn n T T2) (hm : zTm T T2) (hI : zQs (fun a k => a ≤ n ∧ a ≠ 14 ∧ a ≠ 16 ∧ a ≠ 17 ∧ ¬ (a = x ∧ k = 8)) I I2) (hP : zPs2 (fun a k => a ≤ n ∧ a ≠ 14 ∧ a ≠ x + 5 ∧ k = k) P P2) (hN : I x 6 = N) (hps : zPps x N (I2 x 8) T2 P2) : zCP n T T2 I I2 P P2 := by
  refine ⟨hT, fun hr => ?_, fun a k ha => hI a k ⟨by omega, by omega, by omega, by omega, by omega⟩⟩
  obtain ⟨g1, g2, g3⟩ := hr
  refine ⟨?_, fun c hc => ?_, fun y hy => ?_⟩
  · rw [hI 1 6 ⟨by omega, by omega, by omega, by omega, by omega⟩, hP 1 5 ⟨by omega, by omega, by omega, rfl⟩]; exact g1
  · rw [hP c 4 ⟨by omega, by omega, by omega, rfl⟩, hP c 5 ⟨by omega, by omega, by omega, rfl⟩]; exact g2 c hc
  · by_cases e : y = x
    · subst e
      obtain ⟨k1, k2, k3⟩ := g3 y hy
      have e6 : I2 y 6 = I y 6 := hI y 6 ⟨by omega, by omega, by omega, by omega, by omega⟩
      refine ⟨fun j hj => ?_, fun j hj => ?_, fun j hj => ?_⟩
      · rw [hP _ _ ⟨by omega, by omega, by omega, rfl⟩]; exact k1 j (by omega)
      · obtain ⟨q, f, l, h1, h2, h3⟩ := hps j hj
        exact ⟨q, f, l, h1, h2, by omega⟩
      · rw [hP _ _ ⟨by omega, by omega, by omega, rfl⟩]
        rw [hI y 10 ⟨by omega, by omega, by omega, by omega, by omega⟩] at hj
        exact k3 j hj
    · exact zFlr_eq (g3 y hy) hm (hI y 6 ⟨by omega, by omega, by omega, by omega, by omega⟩) (hI y 8 ⟨by omega, by omega, by omega, by omega, by omega⟩) (hI y 10 ⟨by omega, by omega, by omega, by omega, by omega⟩) (fun k => ⟨hP _ _ ⟨by omega, by omega, by omega, rfl⟩, hP _ _ ⟨by omega, by omega, by omega, rfl⟩, hP _ _ ⟨by omega, by omega, by omega, rfl⟩⟩)
theorem zMk_e {I : Nat → Nat → Int} {x : Nat} {h v : Int} : ∀ a k, a ≠ 14 → a ≠ 16 → a ≠ 17 → ¬ (a = x ∧ k = 8) → zU (zU I 14 5 h) x 8 v a k = I a k := fun a k h1 _ _ h2 => by
  have e : ¬ (a = 14 ∧ k = 5) := by omega
  simp [zU, e, h2]
theorem zMk_q {n x : Nat} {I I2 I3 : Nat → Nat → Int} (h : ∀ a k, a ≠ 14 → a ≠ 16 → a ≠ 17 → ¬ (a = x ∧ k = 8) → I2 a k = I a k) (h2 : zQs (zIp x n) I2 I3) : zQs (fun a k => a ≤ n ∧ a ≠ 14 ∧ a ≠ 16 ∧ a ≠ 17 ∧ ¬ (a = x ∧ k = 8)) I I3 := fun a k ha => by
  rw [h2 a k ⟨ha.1, by omega, ha.2.2.2.1, ha.2.2.2.2⟩, h a k ha.2.1 ha.2.2.1 ha.2.2.2.1 ha.2.2.2.2]
theorem zMk_p {n x : Nat} {p q : Option Nat} {P P3 : Nat → Nat → Option Nat} (h2 : zPs2 (zPp x n) (zU (zU P 14 3 p) 14 4 q) P3) : zPs2 (fun a k => a ≤ n ∧ a ≠ 14 ∧ a ≠ x + 5 ∧ k = k) P P3 := fun a k ha => by
  rw [h2 a k ⟨ha.1, ha.2.2.1, rfl⟩, zU_row _ _ _ ha.2.1, zU_row _ _ _ ha.2.1]
