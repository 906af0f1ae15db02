/-! sums, a step on -/
theorem zSum_s {f : Nat → Int} {o i : Nat} {s v k : Int} (h0 : 0 ≤ k) (hs : s = zSum f o 2 k.toNat) (hv : v = f i) (hi : (i : Int) = o + 2 * k) : s + v = zSum f o 2 (k + 1).toNat := by
  rw [show (k + 1).toNat = k.toNat + 1 by omega]
  show _ = zSum f o 2 k.toNat + f (o + 2 * k.toNat)
  rw [← hs, hv, show o + 2 * k.toNat = i by omega]
theorem zQ01 {n sl : Nat} {T : Nat → zT} {I : Nat → Nat → Int} {P : Nat → Nat → Option Nat} {G : Nat → Nat → Int} (hT : ∀ a, 56 ≤ a → a ≤ 90 → T a = zFix a) (hw : zWf zMd (n, sl, T, I, P, G)) : 0 ≤ I 56 3 ∧ I 56 3 ≤ 1 := by
  have h1 := hw.2.1 56 3
  rw [show (n, sl, T, I, P, G).2.2.1 56 = T 56 from rfl, hT 56 (by decide) (by decide)] at h1
  exact h1
