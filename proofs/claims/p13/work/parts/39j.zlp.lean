/-! locking up: frames by a predicate -/
def zQs (S : Nat → Nat → Prop) (I I2 : Nat → Nat → Int) : Prop := ∀ a k, S a k → I2 a k = I a k
def zPs2 (S : Nat → Nat → Prop) (P P2 : Nat → Nat → Option Nat) : Prop := ∀ a k, S a k → P2 a k = P a k
theorem zQs_rf {S : Nat → Nat → Prop} {I : Nat → Nat → Int} : zQs S I I := fun _ _ _ => rfl
theorem zQs_t {S : Nat → Nat → Prop} {I I2 I3 : Nat → Nat → Int} (h : zQs S I I2) (h2 : zQs S I2 I3) : zQs S I I3 := fun a k hk => by rw [h2 a k hk, h a k hk]
theorem zQs_u {S : Nat → Nat → Prop} {I I2 : Nat → Nat → Int} {a k : Nat} {v : Int} (h : zQs S I I2) (ha : ¬ S a k) : zQs S I (zU I2 a k v) := fun b j hj => by
  have e : ¬ (b = a ∧ j = k) := fun e => by obtain ⟨rfl, rfl⟩ := e; exact ha hj
  rw [← h b j hj]
  simp [zU, e]
theorem zQs_n {S : Nat → Nat → Prop} {m : Nat} {t : zT} {T T2 : Nat → zT} {I I2 I3 : Nat → Nat → Int} {P P2 : Nat → Nat → Option Nat} {G G2 : Nat → Nat → Int} (h : zQs S I I2) (hw : zNw m t T T2 I2 I3 P P2 G G2) (hm : ∀ k, ¬ S m k) : zQs S I I3 := fun a k hk => by
  rw [(hw.1 a (fun e => hm k (by rw [← e]; exact hk))).2.1, h a k hk]
theorem zPs_rf {S : Nat → Nat → Prop} {P : Nat → Nat → Option Nat} : zPs2 S P P := fun _ _ _ => rfl
theorem zPs_t {S : Nat → Nat → Prop} {P P2 P3 : Nat → Nat → Option Nat} (h : zPs2 S P P2) (h2 : zPs2 S P2 P3) : zPs2 S P P3 := fun a k hk => by rw [h2 a k hk, h a k hk]
theorem zPs_v {S : Nat → Nat → Prop} {P P2 : Nat → Nat → Option Nat} {a k : Nat} {v : Option Nat} (h : zPs2 S P P2) (ha : ¬ S a k) : zPs2 S P (zU P2 a k v) := fun b j hj => by
  have e : ¬ (b = a ∧ j = k) := fun e => by obtain ⟨rfl, rfl⟩ := e; exact ha hj
  rw [← h b j hj]
  simp [zU, e]
theorem zPs_n {S : Nat → Nat → Prop} {m : Nat} {t : zT} {T T2 : Nat → zT} {I I2 : Nat → Nat → Int} {P P2 P3 : Nat → Nat → Option Nat} {G G2 : Nat → Nat → Int} (h : zPs2 S P P2) (hw : zNw m t T T2 I I2 P2 P3 G G2) (hm : ∀ k, ¬ S m k) : zPs2 S P P3 := fun a k hk => by
  rw [(hw.1 a (fun e => hm k (by rw [← e]; exact hk))).2.2.1, h a k hk]
def zRw (T : Nat → zT) (ar : Nat) (S : zT → Prop) (k : Int) (P P2 : Nat → Nat → Option Nat) : Prop := (∀ b j, b ≠ ar → P2 b j = P b j) ∧ ∀ j : Nat, (j : Int) < k → zE T (P2 ar j) S
theorem zRw_0 {T : Nat → zT} {ar : Nat} {S : zT → Prop} {P : Nat → Nat → Option Nat} : zRw T ar S 0 P P := ⟨fun _ _ _ => rfl, fun j hj => by omega⟩
theorem zRw_s {T : Nat → zT} {ar : Nat} {S : zT → Prop} {k : Int} {p : Option Nat} {P P2 : Nat → Nat → Option Nat} (h : zRw T ar S k P P2) (h0 : 0 ≤ k) (hp : zE T p S) : zRw T ar S (k + 1) P (zU P2 ar k.toNat p) := by
  refine ⟨fun b j hb => by rw [zU_row _ _ _ hb]; exact h.1 b j hb, fun j hj => ?_⟩
  by_cases e : j = k.toNat
  · subst e; rw [zU_same]; exact hp
  · rw [zU_at _ _ _ e]; exact h.2 j (by omega)
theorem zForme_P {T : Nat → zT} {f : Nat → Option Nat} {m : Int} {q : Nat} (h1 : f 1 = some q) (hq : 91 ≤ q) (tq : T q = (2, 6, [m, 2])) (hm : 0 ≤ m ∧ m ≤ 89) : ∀ k, zop T (1, 2, [1]) k (f k) := by
  intro k
  show zopC T 2 1 [] k (f k)
  match k with
  | 0 => trivial
  | 1 => exact ⟨q, h1, hq, m, tq, hm⟩
  | _ + 2 => trivial
theorem zForme_I {f : Nat → Int} : ∀ k, zok (1, 2, [1]) k (f k) := fun _ => True.intro
theorem zPage_b {T T2 : Nat → zT} {I : Nat → Nat → Int} {P P2 : Nat → Nat → Option Nat} {x j q : Nat} {f l : Int} (hfl : zFlr T I P x) (hj : (j : Int) < I x 8) (he : some q = P2 (x + 5) j) (hp : P2 (x + 5) j = P (x + 5) j) (hm : zTm T T2) (tq : T2 q = (1, 5, [f, l])) : 0 ≤ f ∧ 0 ≤ l ∧ f + l ≤ I x 6 := by
  obtain ⟨q9, f9, l9, h9, t9, b1, b2, b3⟩ := hfl.2.1 j hj
  have e : q = q9 := Option.some.inj (he.trans (hp.trans h9))
  subst e
  have e2 := (hm q _ t9 trivial).symm.trans tq
  simp only [Prod.mk.injEq, List.cons.injEq, and_true, true_and] at e2
  omega
def zIx (x n a k : Nat) : Prop := a ≤ n ∧ ¬ (a = x ∧ k = 10)
def zPx (x n a k : Nat) : Prop := a ≤ n ∧ a ≠ x + 6 ∧ k = k
theorem zPre_s {x : Nat} {k : Int} {q : Nat} {P P2 : Nat → Nat → Option Nat} (h : ∀ j : Nat, (j : Int) < k → ∃ q, P (x + 6) j = some q) (h0 : 0 ≤ k) (hp : ∀ j, P2 (x + 6) j = P (x + 6) j) : ∀ j : Nat, (j : Int) < k + 1 → ∃ r, zU P2 (x + 6) k.toNat (some q) (x + 6) j = some r := by
  intro j hj
  by_cases e : j = k.toNat
  · subst e; exact ⟨q, zU_same _ _ _ _⟩
  · rw [zU_at _ _ _ e, hp]; exact h j (by omega)
theorem zCP_lk {n x : Nat} {T T2 : Nat → zT} {I I2 : Nat → Nat → Int} {P P2 : Nat → Nat → Option Nat} (hn : 90 ≤ n) (ix : x = 23 ∨ x = 30 ∨ x = 42 ∨ x = 49) (hT : zTn n T T2) (hm : zTm T T2) (hI : zQs (fun a k => a ≤ n ∧ ¬ (a = x ∧ (k = 6 ∨ k = 8 ∨ k = 10))) I I2) (hP : zPs2 (zPx x n) P P2) (h6 : I2 x 6 = 0) (h8 : I2 x 8 = 0) (hpx : ∀ j : Nat, (j : Int) < I2 x 10 → ∃ q, P2 (x + 6) j = some q) : zCP n T T2 I I2 P P2 := by
  refine ⟨hT, fun hr => ?_, fun a k ha => hI a k ⟨by omega, by omega⟩⟩
  obtain ⟨g1, g2, g3⟩ := hr
  refine ⟨?_, fun c hc => ?_, fun y hy => ?_⟩
  · rw [hI 1 6 ⟨by omega, by omega⟩, hP 1 5 ⟨by omega, by omega, rfl⟩]; exact g1
  · rw [hP c 4 ⟨by omega, by omega, rfl⟩, hP c 5 ⟨by omega, by omega, rfl⟩]; exact g2 c hc
  · by_cases e : y = x
    · subst e
      exact ⟨fun j hj => by omega, fun j hj => by omega, hpx⟩
    · exact zFlr_eq (g3 y hy) hm (hI y 6 ⟨by omega, by omega⟩) (hI y 8 ⟨by omega, by omega⟩) (hI y 10 ⟨by omega, by omega⟩) (fun k => ⟨hP _ _ ⟨by omega, by omega, rfl⟩, hP _ _ ⟨by omega, by omega, rfl⟩, hP _ _ ⟨by omega, by omega, rfl⟩⟩)
theorem zLp_i {x n : Nat} {v w : Int} {I I2 : Nat → Nat → Int} (h : zQs (zIx x n) I I2) : zQs (fun a k => a ≤ n ∧ ¬ (a = x ∧ (k = 6 ∨ k = 8 ∨ k = 10))) I (zU (zU I2 x 6 v) x 8 w) := fun c j hc => by
  have e1 : ¬ (c = x ∧ j = 8) := by omega
  have e2 : ¬ (c = x ∧ j = 6) := by omega
  have e3 : zU (zU I2 x 6 v) x 8 w c j = I2 c j := by simp [zU, e1, e2]
  rw [e3]
  exact h c j ⟨hc.1, by omega⟩
