/-! a token is measured -/
theorem c_add2 {L : Nat} {xs : Nat → Int32} {n sl : Nat} {T : Nat → zT} {I : Nat → Nat → Int} {P : Nat → Nat → Option Nat} {G : Nat → Nat → Int} {K : List zV → zH → Prop} {un q k : Int} {fo : Nat} (hn : 90 ≤ n) (hC : ∀ a, 1 ≤ a → a ≤ 55 → T a = zFixC a) (hk : 0 ≤ k ∧ k ≤ 39) (hun : 0 ≤ un ∧ un ≤ 24) (hq : 0 ≤ q ∧ q ≤ 60) (hrd : P 9 6 = some 5) (hcf : P 9 7 = some fo) (tfo : T fo = (1, 3, [un])) (fol : fo ≤ n) (fo9 : 91 ≤ fo) (htw : zTw un (I 6 k.toNat) (I 7 k.toNat) (I 8 k.toNat)) (hms : zMs un q I)
    (hK : ∀ I2, zCm I I2 → zMs un (q + 1) I2 → (I 6 k.toNat = 6 ∨ I 6 k.toNat = 7 → I2 9 12 = I 9 12) → (I 6 k.toNat ≠ 6 → I 6 k.toNat ≠ 7 → I2 9 12 = I 9 12 + 1) → K [] (n, sl, T, I2, P, G)) : zX zMd L xs 8 [.inr (.inl (some 9)), .inl k] (n, sl, T, I, P, G) K := by
  refine zX_wf2 (fun hw => ?_)
  have b6 : 0 ≤ I 6 k.toNat ∧ I 6 k.toNat ≤ 7 := by have h1 := hw.2.1 6 k.toNat; rw [show (n, sl, T, I, P, G).2.2.1 6 = T 6 from rfl, hC 6 (by decide) (by decide)] at h1; exact h1
  have b7 : 0 ≤ I 7 k.toNat ∧ I 7 k.toNat ≤ 23 := by have h1 := hw.2.1 7 k.toNat; rw [show (n, sl, T, I, P, G).2.2.1 7 = T 7 from rfl, hC 7 (by decide) (by decide)] at h1; exact h1
  have b8 : 0 ≤ I 8 k.toNat ∧ I 8 k.toNat ≤ 23 := by have h1 := hw.2.1 8 k.toNat; rw [show (n, sl, T, I, P, G).2.2.1 8 = T 8 from rfl, hC 8 (by decide) (by decide)] at h1; exact h1
  have hm := hms
  unfold zMs at hm
  exact c_Composer_add (q := q) hn hC hk hun b6 b7 b8 (by omega) (by omega) (by omega) (by omega) hq hrd hcf tfo fol fo9 rfl rfl rfl htw rfl rfl rfl rfl hms hK
theorem zTw_e {un f : Int} {I I2 : Nat → Nat → Int} {j : Nat} (h : zTw un (I 6 j) (I 7 j) (I 8 j)) (hc : zCe f I I2) : zTw un (I2 6 j) (I2 7 j) (I2 8 j) := by
  rw [hc 6 j (by omega) (by omega) (by omega), hc 7 j (by omega) (by omega) (by omega), hc 8 j (by omega) (by omega) (by omega)]; exact h
theorem zNx_off {c f k v : Int} {I : Nat → Nat → Int} (h6 : I 6 k.toNat = 2 ∨ I 6 k.toNat = 6) (hk : 0 ≤ f ∧ f ≤ k ∧ k + 1 ≤ c) : zNx c f (zU (zU I 11 f.toNat v) 12 f.toNat (k + 1)) := by
  unfold zNx
  rw [zU_same, zU_row _ _ _ (by omega), zU_row _ _ _ (by omega), show k + 1 - 1 = k by omega]
  exact ⟨by omega, by omega, Or.inr h6⟩
theorem zNx_end {c f v : Int} {I : Nat → Nat → Int} (hk : (f < c ∨ c = 0) ∧ 0 ≤ c) : zNx c f (zU (zU I 11 f.toNat v) 12 f.toNat c) := by
  unfold zNx
  rw [zU_same]
  exact ⟨hk.1, by omega, Or.inl rfl⟩
theorem zAllN_m {c f g : Int} {I : Nat → Nat → Int} (h : zAllN c f I) (hg : f ≤ g) : zAllN c g I := fun j h1 h2 h3 h4 => h j (by omega) h2 h3 h4
theorem zAllN_c {c f : Int} {I : Nat → Nat → Int} (hf : c ≤ f + 1) : zAllN c f I := fun j h1 h2 _ _ => by omega
theorem zTkn_f2 {un c : Int} {I I2 : Nat → Nat → Int} (h : zTkn un c I) (hc : zCf I I2) : zTkn un c I2 := fun i hi => by
  rw [hc 6 i (by omega) (by omega) (by omega), hc 7 i (by omega) (by omega) (by omega), hc 8 i (by omega) (by omega) (by omega)]; exact h i hi
