/-! rules for what is made: objects, rows, copies; types that only grow -/
theorem zE_mono {T T2 : Nat → zT} {p : Option Nat} {S : zT → Prop} (hS : ∀ t, S t → zFn t) (hm : zTm T T2) (h : zE T p S) : zE T2 p S := by
  obtain ⟨q, rfl, h9, hq⟩ := h
  exact ⟨q, rfl, h9, by rw [hm q _ rfl (hS _ hq)]; exact hq⟩
theorem zN_mono {T T2 : Nat → zT} {p : Option Nat} {S : zT → Prop} (hS : ∀ t, S t → zFn t) (hm : zTm T T2) (h : p = none ∨ zE T p S) : p = none ∨ zE T2 p S := h.imp id (zE_mono hS hm)
theorem zSF_f : ∀ t, zSF t → zFn t := fun t ⟨n, h, _⟩ => by subst h; trivial
theorem zSN_f {n : Int} : ∀ t, zSN n t → zFn t := fun t ⟨h, _⟩ => by subst h; trivial
theorem zSS_f : ∀ t, zSS t → zFn t := fun t ⟨k, n, h, _⟩ => by subst h; trivial
theorem zS1_f : ∀ t, zS1 t → zFn t := fun t ⟨k, n, h, _⟩ => by subst h; trivial
theorem zSL_f : ∀ t, zSL t → zFn t := fun t h => by cases h; trivial
theorem zSP_f : ∀ t, zSP t → zFn t := fun t ⟨f, l, h⟩ => by subst h; trivial
theorem zSO_f : ∀ t, zSO t → zFn t := fun t h => by cases h; trivial
theorem zSA_f {g hi : Int} : ∀ t, zSA g hi t → zFn t := fun t ⟨m, h, _⟩ => by subst h; trivial
theorem zSR_f {ty : Nat} {hi : Int} : ∀ t, zSR ty hi t → zFn t := fun t ⟨m, h, _⟩ => by subst h; trivial
theorem zST_f {u : zT} : ∀ t, zST u t → zFn t := fun t ⟨h, h2⟩ => by subst h; exact h2
theorem zopC_mono {T T2 : Nat → zT} (hm : zTm T T2) {c : Nat} {g : Int} {gs : List Int} {k : Nat} {p : Option Nat} (h : zopC T c g gs k p) : zopC T2 c g gs k p := by
  unfold zopC at h ⊢
  repeat' split at h
  all_goals first
    | exact h
    | exact zE_mono zSF_f hm h
    | exact zE_mono zSN_f hm h
    | exact zE_mono zSA_f hm h
    | exact zE_mono zSR_f hm h
    | exact zE_mono zST_f hm h
    | exact zN_mono zSF_f hm h
    | exact zN_mono zSA_f hm h
    | exact zN_mono zST_f hm h
    | exact h.imp (fun x => ⟨x.1, zE_mono zS1_f hm x.2⟩) id
theorem zopA_mono {T T2 : Nat → zT} (hm : zTm T T2) {ty : Nat} {len g : Int} {k : Nat} {p : Option Nat} (h : zopA T ty len g k p) : zopA T2 ty len g k p := by
  unfold zopA at h ⊢
  repeat' split at h
  all_goals first
    | exact h
    | exact zN_mono zSA_f hm h
    | exact zN_mono zSO_f hm h
    | exact zN_mono zSF_f hm h
    | exact zN_mono zSL_f hm h
    | exact zN_mono zSP_f hm h
    | exact zN_mono zSS_f hm h
    | exact fun hk => zE_mono zSL_f hm (h hk)
    | exact fun hk => zE_mono zSS_f hm (h hk)
theorem zop_mono {T T2 : Nat → zT} (hm : zTm T T2) {t : zT} {k : Nat} {p : Option Nat} (h : zop T t k p) : zop T2 t k p := by
  unfold zop at h ⊢
  repeat' split at h
  all_goals first
    | exact h
    | exact zopC_mono hm h
    | exact zopA_mono hm h
theorem zTm_rf (T : Nat → zT) : zTm T T := fun _ _ h _ => h
theorem zTm_tr {T T2 T3 : Nat → zT} (h : zTm T T2) (h2 : zTm T2 T3) : zTm T T3 := fun q t ht hf => h2 q t (h q t ht hf) hf
/-- a type of a cell that is there -/
def zCl (t : zT) : Prop := match t with
  | (1, _, _) => True
  | (2, _, _ :: _) => True
  | _ => False
theorem zCl_f {t : zT} (h : zFn t) : zCl t := by
  unfold zFn at h
  split at h
  · trivial
  · trivial
  · exact h.elim
/-- all cells that were there have their types -/
def zTk (T T2 : Nat → zT) : Prop := ∀ q, zCl (T q) → T2 q = T q
theorem zTk_rf (T : Nat → zT) : zTk T T := fun _ _ => rfl
theorem zTk_tr {T T2 T3 : Nat → zT} (h : zTk T T2) (h2 : zTk T2 T3) : zTk T T3 := fun q hq => by
  rw [h2 q (by rw [h q hq]; exact hq), h q hq]
theorem zTk_at {T T2 : Nat → zT} (h : zTk T T2) {q : Nat} {t : zT} (hc : zCl t) (ht : T q = t) : T2 q = t := by
  rw [h q (by rw [ht]; exact hc), ht]
theorem zTk_m {T T2 : Nat → zT} (h : zTk T T2) : zTm T T2 := fun q t ht hf => zTk_at h (zCl_f hf) ht
/-- what a cell that was made new is; all else as it was -/
def zNw (a : Nat) (t : zT) (T T2 : Nat → zT) (I I2 : Nat → Nat → Int) (P P2 : Nat → Nat → Option Nat) (G G2 : Nat → Nat → Int) : Prop :=
  (∀ b, b ≠ a → T2 b = T b ∧ I2 b = I b ∧ P2 b = P b ∧ G2 b = G b) ∧ T2 a = t ∧ (∀ k, I2 a k = 0) ∧ (∀ k, P2 a k = none) ∧ zTk T T2
section ZC
variable {L : Nat} {xs : Nat → Int32} {y pc pc2 : Nat} {lv : List (Nat × zV)} {r : List zV} {n sl : Nat} {T : Nat → zT} {I : Nat → Nat → Int} {P : Nat → Nat → Option Nat} {G : Nat → Nat → Int} {K : List zV → zH → Prop}
theorem zCell_ty {t : zT} {f : Nat → Int} {p : Nat → Option Nat} {g : Nat → Int} (h : zCell t f p g = none) : ¬ zFn t := by
  unfold zFn
  split
  · simp [zCell] at h
  · simp [zCell] at h
  · exact fun h => h
theorem zCell_cl {t : zT} {f : Nat → Int} {p : Nat → Option Nat} {g : Nat → Int} (h : zCell t f p g = none) : ¬ zCl t := by
  unfold zCl
  split
  · simp [zCell] at h
  · simp [zCell] at h
  · exact fun h => h
theorem zA_none {M : zM} {σ : List MC} {h : zH} (hA : zA M σ h) {a : Nat} (ha : h.1 < a) : zCell (h.2.2.1 a) (h.2.2.2.1 a) (h.2.2.2.2.1 a) (h.2.2.2.2.2 a) = none := by
  rw [← hA.2.2.1 a]
  obtain ⟨k, rfl⟩ : ∃ k, a = k + 1 := ⟨a - 1, by omega⟩
  have := hA.1
  exact List.getElem?_eq_none (by omega)
theorem zA_le {M : zM} {σ : List MC} {h : zH} (hA : zA M σ h) {a : Nat} (ht : zCl (h.2.2.1 a)) : a ≤ h.1 := by
  by_cases e : a ≤ h.1
  · exact e
  · exact absurd ht (zCell_cl (zA_none hA (a := a) (by omega)))
theorem zB_le {a : Nat} {t : zT} {st : List zV} (ht : T a = t) (hc : zCl t) (hb : a ≤ n → zB zMd L xs y pc lv st (n, sl, T, I, P, G) K) : zB zMd L xs y pc lv st (n, sl, T, I, P, G) K := by
  intro σ hσ
  exact hb (zA_le hσ (a := a) (by show zCl (T a); rw [ht]; exact hc)) σ hσ
theorem mCell_push {σ : List MC} {e : MC} (a : Nat) : mCell (σ ++ [e]) a = if a = σ.length + 1 then some e else mCell σ a := by
  cases a with
  | zero => simp [mCell]
  | succ k =>
    simp only [mCell]
    by_cases h : k = σ.length
    · subst h; simp
    · rw [if_neg (by omega)]
      by_cases h2 : k < σ.length
      · rw [List.getElem?_append_left h2]
      · rw [List.getElem?_eq_none (by simp; omega), List.getElem?_eq_none (by omega)]
/-- a cell of this type comes behind the last -/
theorem zA_push {σ : List MC} {e : MC} {t : zT} {s : Nat} (hA : zA zMd σ (n, sl, T, I, P, G)) (he : zCell t (fun _ => 0) (fun _ => none) (fun _ => 0) = some e) (hs : mSz e = s) (h1 : ∀ k, zok t k 0) (h2 : ∀ T' k, zop T' t k none) :
    zA zMd (σ ++ [e]) (n + 1, sl + s, zUT T (n + 1) t, zRow I (n + 1) (fun _ => 0), zRow P (n + 1) (fun _ => none), zRow G (n + 1) (fun _ => 0)) ∧ zNw (n + 1) t T (zUT T (n + 1) t) I (zRow I (n + 1) (fun _ => 0)) P (zRow P (n + 1) (fun _ => none)) G (zRow G (n + 1) (fun _ => 0)) := by
  have hn := zA_none hA (a := n + 1) (Nat.lt_succ_self n)
  obtain ⟨g1, g2, g3, g4, g5, g6⟩ := hA
  have g1 : σ.length = n := g1
  have g2 : mSl σ = sl := g2
  have hU : zUT T (n + 1) t (n + 1) = t := by simp [zUT]
  have ho : ∀ b, b ≠ n + 1 → zUT T (n + 1) t b = T b := fun b hb => by simp [zUT, hb]
  have hRI : zRow I (n + 1) (fun _ => 0) (n + 1) = fun _ => 0 := by funext j; simp [zRow]
  have hRP : zRow P (n + 1) (fun _ => none) (n + 1) = fun _ => none := by funext j; simp [zRow]
  have hRG : zRow G (n + 1) (fun _ => 0) (n + 1) = fun _ => 0 := by funext j; simp [zRow]
  have oI : ∀ b, b ≠ n + 1 → zRow I (n + 1) (fun _ => 0) b = I b := fun b hb => by funext j; simp [zRow, hb]
  have oP : ∀ b, b ≠ n + 1 → zRow P (n + 1) (fun _ => none) b = P b := fun b hb => by funext j; simp [zRow, hb]
  have oG : ∀ b, b ≠ n + 1 → zRow G (n + 1) (fun _ => 0) b = G b := fun b hb => by funext j; simp [zRow, hb]
  have hnf : ¬ zFn (T (n + 1)) := zCell_ty hn
  have hk : zTk T (zUT T (n + 1) t) := by
    intro q hq
    by_cases e1 : q = n + 1
    · subst e1
      exact absurd hq (zCell_cl hn)
    · exact ho q e1
  refine ⟨⟨by simp [g1], by rw [mSl_push, g2, hs], fun a => ?_, fun a k => ?_, fun a k => ?_, fun a k => ?_⟩, fun b hb => ⟨ho b hb, oI b hb, oP b hb, oG b hb⟩, hU, fun k => by rw [hRI], fun k => by rw [hRP], hk⟩
  · rw [mCell_push, g1]
    show _ = zCell (zUT T (n + 1) t a) (zRow I (n + 1) (fun _ => 0) a) (zRow P (n + 1) (fun _ => none) a) (zRow G (n + 1) (fun _ => 0) a)
    by_cases e1 : a = n + 1
    · subst e1; rw [if_pos rfl, hU, hRI, hRP, hRG, he]
    · rw [if_neg e1, ho a e1, oI a e1, oP a e1, oG a e1]; exact g3 a
  · show zR (zRow I (n + 1) (fun _ => 0) a k)
    by_cases e1 : a = n + 1
    · subst e1; rw [hRI]; exact (by decide : zR 0)
    · rw [oI a e1]; exact g4 a k
  · show zok (zUT T (n + 1) t a) k (zRow I (n + 1) (fun _ => 0) a k)
    by_cases e1 : a = n + 1
    · subst e1; rw [hU, hRI]; exact h1 k
    · rw [ho a e1, oI a e1]; exact g5 a k
  · show zop (zUT T (n + 1) t) (zUT T (n + 1) t a) k (zRow P (n + 1) (fun _ => none) a k)
    by_cases e1 : a = n + 1
    · subst e1; rw [hU, hRP]; exact h2 _ k
    · rw [ho a e1, oP a e1]
      refine zop_mono (fun q t' hq hf => ?_) (g6 a k)
      by_cases e2 : q = n + 1
      · subst e2
        have hq : T (n + 1) = t' := hq
        exact absurd (by rw [hq]; exact hf) hnf
      · rw [ho q e2]; exact hq
theorem zK_len (c : Nat) (I : Nat → Int) (P : Nat → Option Nat) (G : Nat → Int) : (zFs (zK c) I P G).length = (zK c).length := zFs_len _ _ _ _
theorem zop_raw (T' : Nat → zT) (c k : Nat) : zop T' (1, c, []) k none := by
  unfold zop
  split
  · next e => cases e
  · next e => cases e
  · next e => cases e
  · trivial
/-- an object is made: raw, all its fields blank -/
theorem z_new {i c s : Nat} (hc : mpCode pg y pc = some (.new i)) (hp : pc + 3 = pc2) (hn : mpNew pg y i = some (c, zFs (zK c) (fun _ => 0) (fun _ => none) (fun _ => 0))) (hs : (zK c).length = s) (hzk : ∀ k, zok (1, c, []) k 0)
    (hb : ∀ T2 I2 P2 G2, zNw (n + 1) (1, c, []) T T2 I I2 P P2 G G2 → zB zMd L xs y pc2 lv (.inr (.inl (some (n + 1))) :: r) (n + 1, sl + s, T2, I2, P2, G2) K) : zB zMd L xs y pc lv r (n, sl, T, I, P, G) K := by
  subst hp
  intro σ hσ
  have hz := zA_push (e := .inr (c, zFs (zK c) (fun _ => 0) (fun _ => none) (fun _ => 0))) (t := (1, c, [])) (s := s) hσ rfl (by rw [← hs]; exact zK_len _ _ _ _) hzk (fun T' k => zop_raw T' c k)
  refine z_hp (st2 := .inr (.inl (some (n + 1))) :: r) hc (fun _ _ => rfl) (fun σ' hσ' => ⟨σ' ++ [.inr (c, zFs (zK c) (fun _ => 0) (fun _ => none) (fun _ => 0))], ?_, (zA_push hσ' rfl (by rw [← hs]; exact zK_len _ _ _ _) hzk (fun T' k => zop_raw T' c k)).1⟩) (hb _ _ _ _ hz.2) σ hσ
  have hl : σ'.length = n := hσ'.1
  simp only [mHeap, mHeapC, hn, Option.map_some, List.map_cons, zC, va_rf, hl]
theorem zCell_int (len : Int) (gs : List Int) : zCell (2, 0, len :: gs) (fun _ => 0) (fun _ => none) (fun _ => 0) = some (.inl (0, len.toNat, mBlank 0)) := by
  simp [zCell, zAr, mBlank]
/-- a row of ints is made -/
theorem z_newI {len : Int} {gs : List Int} (hc : mpCode pg y pc = some (.newarray .int)) (hp : pc + 2 = pc2) (h0 : 0 ≤ len) (h1 : len ≤ 1000000) (hz : ∀ k, zok (2, 0, len :: gs) k 0)
    (hb : ∀ T2 I2 P2 G2, zNw (n + 1) (2, 0, len :: gs) T T2 I I2 P P2 G G2 → zB zMd L xs y pc2 lv (.inr (.inl (some (n + 1))) :: r) (n + 1, sl + len.toNat, T2, I2, P2, G2) K) : zB zMd L xs y pc lv (.inl len :: r) (n, sl, T, I, P, G) K := by
  subst hp
  intro σ hσ
  have hzp : ∀ (T' : Nat → zT) (k : Nat), zop T' (2, 0, len :: gs) k none := fun T' k => by
    unfold zop
    split
    · next e => cases e
    · next e => cases e
    · next e => cases e; trivial
    · trivial
  have hz2 := zA_push (e := .inl (0, len.toNat, mBlank 0)) (t := (2, 0, len :: gs)) (s := len.toNat) hσ (zCell_int _ _) rfl hz hzp
  refine z_hp (st2 := .inr (.inl (some (n + 1))) :: r) hc (fun _ _ => rfl) (fun σ' hσ' => ⟨σ' ++ [.inl (0, len.toNat, mBlank 0)], ?_, (zA_push hσ' (zCell_int _ _) rfl hz hzp).1⟩) (hb _ _ _ _ hz2.2) σ hσ
  have hl : σ'.length = n := hσ'.1
  have hix := z_ix (e := len) (by omega)
  simp only [mHeap, mHeapC, mI1, mATy, mNewA, Option.bind_some, List.map_cons, zC, va_rf, hl, if_neg (z_nn (e := len) (by omega) h0), hix, if_pos (show len.toNat ≤ 1000000 by omega)]
theorem zCell_ref {t : Nat} (h3 : 3 ≤ t) (len : Int) (gs : List Int) : zCell (2, t, len :: gs) (fun _ => 0) (fun _ => none) (fun _ => 0) = some (.inl (t, len.toNat, mBlank t)) := by
  have hbl : mBlank t = .inr (.inr (.inr (.inr (fun _ => none)))) := by
    match t, h3 with
    | t + 3, _ => rfl
  rw [hbl]
  simp only [zCell, zAr]
  rw [if_neg (by omega), if_pos h3]
/-- a row of references is made -/
theorem z_newR {i t : Nat} {len : Int} {gs : List Int} (hc : mpCode pg y pc = some (.anewarray i)) (hp : pc + 3 = pc2) (ht : mpArr pg y i = some t) (h3 : Nat.ble 3 t = true) (h0 : 0 ≤ len) (h1 : len ≤ 1000000) (hz : ∀ (T' : Nat → zT) (k : Nat), zop T' (2, t, len :: gs) k none)
    (hb : ∀ T2 I2 P2 G2, zNw (n + 1) (2, t, len :: gs) T T2 I I2 P P2 G G2 → zB zMd L xs y pc2 lv (.inr (.inl (some (n + 1))) :: r) (n + 1, sl + len.toNat, T2, I2, P2, G2) K) : zB zMd L xs y pc lv (.inl len :: r) (n, sl, T, I, P, G) K := by
  subst hp
  intro σ hσ
  have h3 : 3 ≤ t := Nat.le_of_ble_eq_true h3
  have hzk : ∀ k, zok (2, t, len :: gs) k 0 := fun k => by
    unfold zok
    split
    · next e => cases e
    · next e => cases e
    · next e => cases e; omega
    · trivial
  have hz2 := zA_push (e := .inl (t, len.toNat, mBlank t)) (t := (2, t, len :: gs)) (s := len.toNat) hσ (zCell_ref h3 _ _) rfl hzk hz
  refine z_hp (st2 := .inr (.inl (some (n + 1))) :: r) hc (fun _ _ => rfl) (fun σ' hσ' => ⟨σ' ++ [.inl (t, len.toNat, mBlank t)], ?_, (zA_push hσ' (zCell_ref h3 _ _) rfl hzk hz).1⟩) (hb _ _ _ _ hz2.2) σ hσ
  have hl : σ'.length = n := hσ'.1
  have hix := z_ix (e := len) (by omega)
  simp only [mHeap, mHeapC, mI1, ht, mNewA, Option.bind_some, List.map_cons, zC, va_rf, hl, if_pos h3, if_neg (z_nn (e := len) (by omega) h0), hix, if_pos (show len.toNat ≤ 1000000 by omega)]
/-- what was raw gets its type -/
theorem zA_rt {σ : List MC} {a : Nat} {t0 t : zT} (hA : zA zMd σ (n, sl, T, I, P, G)) (h0 : T a = t0) (hr : ¬ zFn t0) (hcl : zCl t0) (hce : ∀ f p g, zCell t0 f p g = zCell t f p g) (h1 : ∀ k, zok t k (I a k)) (h2 : ∀ k, zop T t k (P a k)) :
    zA zMd σ (n, sl, zUT T a t, I, P, G) ∧ zTm T (zUT T a t) := by
  have ho : ∀ b, b ≠ a → zUT T a t b = T b := fun b hb => by simp [zUT, hb]
  have hU : zUT T a t a = t := by simp [zUT]
  have hm : zTm T (zUT T a t) := fun q u hq hf => by
    by_cases e : q = a
    · subst e; rw [h0] at hq; subst hq; exact absurd hf hr
    · rw [ho q e]; exact hq
  obtain ⟨g1, g2, g3, g4, g5, g6⟩ := hA
  refine ⟨⟨g1, g2, fun b => ?_, g4, fun b k => ?_, fun b k => ?_⟩, hm⟩
  · show _ = zCell (zUT T a t b) (I b) (P b) (G b)
    by_cases e : b = a
    · subst e; rw [hU, ← hce, ← h0]; exact g3 b
    · rw [ho b e]; exact g3 b
  · show zok (zUT T a t b) k (I b k)
    by_cases e : b = a
    · subst e; rw [hU]; exact h1 k
    · rw [ho b e]; exact g5 b k
  · show zop (zUT T a t) (zUT T a t b) k (P b k)
    by_cases e : b = a
    · subst e; rw [hU]; exact zop_mono hm (h2 k)
    · rw [ho b e]; exact zop_mono hm (g6 b k)
theorem zB_rtO {a c : Nat} {g : Int} {gs : List Int} {st : List zV} (h0 : T a = (1, c, [])) (h1 : ∀ k, zok (1, c, g :: gs) k (I a k)) (h2 : ∀ k, zop T (1, c, g :: gs) k (P a k))
    (hb : ∀ T2, (∀ b, b ≠ a → T2 b = T b) → T2 a = (1, c, g :: gs) → zTm T T2 → zB zMd L xs y pc lv st (n, sl, T2, I, P, G) K) : zB zMd L xs y pc lv st (n, sl, T, I, P, G) K := by
  intro σ hσ
  have h := zA_rt hσ h0 (fun h => h) trivial (t := (1, c, g :: gs)) (fun f p g => rfl) h1 h2
  exact hb _ (fun b hb => by simp [zUT, hb]) (by simp [zUT]) h.2 σ h.1
theorem zB_rtR {a ty : Nat} {len g : Int} {gs : List Int} {st : List zV} (h0 : T a = (2, ty, [len])) (h1 : ∀ k, zok (2, ty, len :: g :: gs) k (I a k)) (h2 : ∀ k, zop T (2, ty, len :: g :: gs) k (P a k))
    (hb : ∀ T2, (∀ b, b ≠ a → T2 b = T b) → T2 a = (2, ty, len :: g :: gs) → zTm T T2 → zB zMd L xs y pc lv st (n, sl, T2, I, P, G) K) : zB zMd L xs y pc lv st (n, sl, T, I, P, G) K := by
  intro σ hσ
  have h := zA_rt hσ h0 (fun h => h) trivial (t := (2, ty, len :: g :: gs)) (fun f p g => rfl) h1 h2
  exact hb _ (fun b hb => by simp [zUT, hb]) (by simp [zUT]) h.2 σ h.1
/-- Object's constructor -/
theorem z_obj {i a : Nat} (hc : mpCode pg y pc = some (.invokespecial i)) (hp : pc + 3 = pc2) (hi : mpInv pg y i = some (5, 0, 1)) (hk : (Nat.ble ((r.map zCat).sum) 8 && (Nat.ble 1 (mpInfo pg y).2.1 && Nat.ble 20 (mpInfo pg y).2.2.1)) = true) (hb : zB zMd L xs y pc2 lv r (n, sl, T, I, P, G) K) : zB zMd L xs y pc lv (.inr (.inl (some a)) :: r) (n, sl, T, I, P, G) K := by
  subst hp
  refine z_hp (st2 := r) hc (fun st σ => ?_) (fun σ hσ => ⟨σ, ?_, hσ⟩) hb
  · simp [mCallOf, mCallOfC, hi]
  · simp only [Bool.and_eq_true, Nat.ble_eq] at hk
    have hcat : ((r.map zC).map (fun v => v.category)).sum ≤ 8 := by
      rw [List.map_map, show ((fun v => v.category) ∘ zC) = zCat from by funext v; exact zC_cat v]
      exact hk.1
    simp only [mHeap, mHeapC, hi, Option.bind_some, if_true, List.map_cons, zC, va_rf]
    rw [if_pos ⟨hcat, hk.2.1, hk.2.2⟩]
/-- a row of ints, copied from its first place on -/
theorem z_acopy {i a0 a1 : Nat} {len l0 l1 : Int} {g0 g1 : List Int} (hc : mpCode pg y pc = some (.invokestatic i)) (hp : pc + 3 = pc2) (hi : mpInv pg y i = some (6, 0, 5)) (hk : (Nat.ble ((r.map zCat).sum) 8 && (Nat.ble 1 (mpInfo pg y).2.1 && Nat.ble 40 (mpInfo pg y).2.2.1)) = true)
    (h0 : T a0 = (2, 0, l0 :: g0)) (h1 : T a1 = (2, 0, l1 :: g1)) (hl : 0 ≤ len ∧ len ≤ l0 ∧ len ≤ l1 ∧ l0 ≤ 2147483647 ∧ l1 ≤ 2147483647) (hv : ∀ j v, zok (2, 0, l0 :: g0) j v → zok (2, 0, l1 :: g1) j v)
    (hb : ∀ I2, (∀ b j, b ≠ a1 → I2 b j = I b j) → zB zMd L xs y pc2 lv r (n, sl, T, I2, P, G) K) : zB zMd L xs y pc lv (.inl len :: .inl 0 :: .inr (.inl (some a1)) :: .inl 0 :: .inr (.inl (some a0)) :: r) (n, sl, T, I, P, G) K := by
  subst hp
  refine z_hp (st2 := r) (h2 := (n, sl, T, zRow I a1 (fun j : Nat => if (j : Int) < len then I a0 j else I a1 j), P, G)) hc (fun st σ => by simp [mCallOf, mCallOfC, hi]) (fun σ hσ => ⟨mPut σ a1 (.inl (0, l1.toNat, .inl (va_cpy (fun j => Int32.ofInt (I a0 j)) (fun j => Int32.ofInt (I a1 j)) 0 0 len.toNat))), ?_, ?_⟩) (hb _ (fun b j hb => by simp [zRow, hb]))
  · simp only [Bool.and_eq_true, Nat.ble_eq] at hk
    have hcat : ((r.map zC).map (fun v => v.category)).sum ≤ 8 := by
      rw [List.map_map, show ((fun v => v.category) ∘ zC) = zCat from by funext v; exact zC_cat v]
      exact hk.1
    have e0 := hσ.2.2.1 a0
    have e1 := hσ.2.2.1 a1
    simp only [h0, zCell] at e0
    simp only [h1, zCell] at e1
    have o0 : mCInts σ a0 = some (l0.toNat, fun j => Int32.ofInt (I a0 j)) := by
      simp only [mCInts, e0, zAr]; simp
    have o1 : mCInts σ a1 = some (l1.toNat, fun j => Int32.ofInt (I a1 j)) := by
      simp only [mCInts, e1, zAr]; simp
    have hix := z_ix (e := len) (by omega)
    have hi0 := z_ix (e := 0) (by omega)
    simp only [mHeap, mHeapC, hi, Option.bind_some, if_true, List.map_cons, zC, va_rf, o0, o1]
    rw [if_pos ⟨z_nn (by omega) (by omega), z_nn (by omega) (by omega), z_nn (by omega) (by omega), by rw [hix, hi0]; omega, by rw [hix, hi0]; omega, hcat, hk.2.1, hk.2.2⟩, hix, hi0]
    rfl
  · have e1 := hσ.2.2.1 a1
    simp only [h1, zCell] at e1
    have hw := hσ.2.2.2
    have hrow : zRow I a1 (fun j : Nat => if (j : Int) < len then I a0 j else I a1 j) a1 = fun j : Nat => if (j : Int) < len then I a0 j else I a1 j := by funext j; simp [zRow]
    have ho : ∀ b, b ≠ a1 → zRow I a1 (fun j : Nat => if (j : Int) < len then I a0 j else I a1 j) b = I b := fun b hb => by funext j; simp [zRow, hb]
    refine zA_put hσ e1 rfl ?_ (fun b hb => ⟨ho b hb, rfl, rfl⟩) ⟨fun b k => ?_, fun b k => ?_, hw.2.2⟩
    · simp only [h1, zCell, zAr]
      simp only [Nat.zero_ne_one, if_false, show ¬ (3 ≤ 0) from by omega]
      rw [hrow]
      congr 5
      funext j
      simp only [va_cpy]
      by_cases e : (j : Int) < len
      · rw [if_pos e, if_pos (by omega)]; simp
      · rw [if_neg e, if_neg (by omega)]
    · show zR (zRow I a1 (fun j : Nat => if (j : Int) < len then I a0 j else I a1 j) b k)
      by_cases e : b = a1
      · subst e; rw [hrow]
        by_cases e2 : (k : Int) < len
        · simp only [e2, if_true]; exact hw.1 a0 k
        · simp only [e2, if_false]; exact hw.1 b k
      · rw [ho b e]; exact hw.1 b k
    · show zok (T b) k (zRow I a1 (fun j : Nat => if (j : Int) < len then I a0 j else I a1 j) b k)
      by_cases e : b = a1
      · subst e; rw [hrow, h1]
        by_cases e2 : (k : Int) < len
        · simp only [e2, if_true]
          refine hv k _ ?_
          have := hw.2.1 a0 k
          rw [← h0]; exact this
        · simp only [e2, if_false]
          have := hw.2.1 b k
          rw [← h1]; exact this
      · rw [ho b e]; exact hw.2.1 b k
/-- a row of ints is copied whole -/
theorem z_clone {i a : Nat} {len : Int} {g0 gs : List Int} (hc : mpCode pg y pc = some (.invokevirtual i)) (hp : pc + 3 = pc2) (hi : mpInv pg y i = some (9, 0, 1)) (hk : (Nat.ble ((r.map zCat).sum) 8 && (Nat.ble 1 (mpInfo pg y).2.1 && Nat.ble 30 (mpInfo pg y).2.2.1)) = true)
    (h0 : T a = (2, 0, len :: g0)) (hl : 0 ≤ len) (hv : ∀ j v, zok (2, 0, len :: g0) j v → zok (2, 0, len :: gs) j v)
    (hb : ∀ T2 I2 P2 G2, (∀ b, b ≠ n + 1 → T2 b = T b ∧ I2 b = I b ∧ P2 b = P b ∧ G2 b = G b) → T2 (n + 1) = (2, 0, len :: gs) → zTk T T2 → zB zMd L xs y pc2 lv (.inr (.inl (some (n + 1))) :: r) (n + 1, sl + len.toNat, T2, I2, P2, G2) K) : zB zMd L xs y pc lv (.inr (.inl (some a)) :: r) (n, sl, T, I, P, G) K := by
  subst hp
  intro σ hσ
  have hnl : ∀ σ', zA zMd σ' (n, sl, T, I, P, G) → zA zMd (σ' ++ [.inl (0, len.toNat, .inl (fun j => Int32.ofInt (I a j)))]) (n + 1, sl + len.toNat, zUT T (n + 1) (2, 0, len :: gs), zRow I (n + 1) (I a), zRow P (n + 1) (fun _ => none), zRow G (n + 1) (fun _ => 0)) ∧ zTk T (zUT T (n + 1) (2, 0, len :: gs)) := by
    intro σ' hA
    have hn := zA_none hA (a := n + 1) (Nat.lt_succ_self n)
    have hne : a ≠ n + 1 := fun e => by
      subst e
      exact zCell_cl hn (by show zCl (T (n + 1)); rw [h0]; trivial)
    have hwf := hA.2.2.2
    have hva : ∀ k, zok (2, 0, len :: gs) k (I a k) := fun k => hv k _ (by have := hwf.2.1 a k; rw [← h0]; exact this)
    obtain ⟨g1, g2, g3, g4, g5, g6⟩ := hA
    have g1 : σ'.length = n := g1
    have g2 : mSl σ' = sl := g2
    have hU : zUT T (n + 1) (2, 0, len :: gs) (n + 1) = (2, 0, len :: gs) := by simp [zUT]
    have ho : ∀ b, b ≠ n + 1 → zUT T (n + 1) (2, 0, len :: gs) b = T b := fun b hb => by simp [zUT, hb]
    have hRI : zRow I (n + 1) (I a) (n + 1) = I a := by funext j; simp [zRow]
    have hRP : zRow P (n + 1) (fun _ => none) (n + 1) = fun _ => none := by funext j; simp [zRow]
    have hRG : zRow G (n + 1) (fun _ => 0) (n + 1) = fun _ => 0 := by funext j; simp [zRow]
    have oI : ∀ b, b ≠ n + 1 → zRow I (n + 1) (I a) b = I b := fun b hb => by funext j; simp [zRow, hb]
    have oP : ∀ b, b ≠ n + 1 → zRow P (n + 1) (fun _ => none) b = P b := fun b hb => by funext j; simp [zRow, hb]
    have oG : ∀ b, b ≠ n + 1 → zRow G (n + 1) (fun _ => 0) b = G b := fun b hb => by funext j; simp [zRow, hb]
    have hk : zTk T (zUT T (n + 1) (2, 0, len :: gs)) := by
      intro q hq
      by_cases e1 : q = n + 1
      · subst e1; exact absurd hq (zCell_cl hn)
      · exact ho q e1
    refine ⟨⟨by simp [g1], by rw [mSl_push, g2]; rfl, fun b => ?_, fun b k => ?_, fun b k => ?_, fun b k => ?_⟩, hk⟩
    · rw [mCell_push, g1]
      show _ = zCell (zUT T (n + 1) (2, 0, len :: gs) b) (zRow I (n + 1) (I a) b) (zRow P (n + 1) (fun _ => none) b) (zRow G (n + 1) (fun _ => 0) b)
      by_cases e1 : b = n + 1
      · subst e1; rw [if_pos rfl, hU, hRI, hRP, hRG]; simp [zCell, zAr]
      · rw [if_neg e1, ho b e1, oI b e1, oP b e1, oG b e1]; exact g3 b
    · show zR (zRow I (n + 1) (I a) b k)
      by_cases e1 : b = n + 1
      · subst e1; rw [hRI]; exact g4 a k
      · rw [oI b e1]; exact g4 b k
    · show zok (zUT T (n + 1) (2, 0, len :: gs) b) k (zRow I (n + 1) (I a) b k)
      by_cases e1 : b = n + 1
      · subst e1; rw [hU, hRI]; exact hva k
      · rw [ho b e1, oI b e1]; exact g5 b k
    · show zop (zUT T (n + 1) (2, 0, len :: gs)) (zUT T (n + 1) (2, 0, len :: gs) b) k (zRow P (n + 1) (fun _ => none) b k)
      by_cases e1 : b = n + 1
      · subst e1
        rw [hU]
        unfold zop
        split
        · next e => cases e
        · next e => cases e
        · next e => cases e; trivial
        · trivial
      · rw [ho b e1, oP b e1]
        exact zop_mono (zTk_m hk) (g6 b k)
  refine z_hp (st2 := .inr (.inl (some (n + 1))) :: r) hc (fun st σ => by simp [mCallOf, mCallOfC, hi]) (fun σ' hσ' => ⟨σ' ++ [.inl (0, len.toNat, .inl (fun j => Int32.ofInt (I a j)))], ?_, (hnl σ' hσ').1⟩) (hb _ _ _ _ (fun b hb => ⟨by simp [zUT, hb], by funext j; simp [zRow, hb], by funext j; simp [zRow, hb], by funext j; simp [zRow, hb]⟩) (by simp [zUT]) (hnl σ hσ).2) σ hσ
  simp only [Bool.and_eq_true, Nat.ble_eq] at hk
  have hcat : ((r.map zC).map (fun v => v.category)).sum ≤ 8 := by
    rw [List.map_map, show ((fun v => v.category) ∘ zC) = zCat from by funext v; exact zC_cat v]
    exact hk.1
  have hl : σ'.length = n := hσ'.1
  have e0 := hσ'.2.2.1 a
  simp only [h0, zCell] at e0
  have o0 : mCInts σ' a = some (len.toNat, fun j => Int32.ofInt (I a j)) := by
    simp only [mCInts, e0, zAr]; simp
  simp only [mHeap, mHeapC, hi, Option.bind_some, if_true, List.map_cons, zC, va_rf, o0, hl]
  rw [if_pos ⟨hcat, hk.2.1, hk.2.2⟩]
theorem z_cast {i a : Nat} {len : Int} {g0 : List Int} (hc : mpCode pg y pc = some (.checkcast i)) (hp : pc + 3 = pc2) (hi : mpArr pg y i = some 3) (h0 : T a = (2, 0, len :: g0)) (hb : zB zMd L xs y pc2 lv (.inr (.inl (some a)) :: r) (n, sl, T, I, P, G) K) : zB zMd L xs y pc lv (.inr (.inl (some a)) :: r) (n, sl, T, I, P, G) K := by
  subst hp
  refine z_hp (st2 := .inr (.inl (some a)) :: r) hc (fun _ _ => rfl) (fun σ hσ => ⟨σ, ?_, hσ⟩) hb
  have e0 := hσ.2.2.1 a
  simp only [h0, zCell] at e0
  have o0 : mCInts σ a = some (len.toNat, fun j => Int32.ofInt (I a j)) := by
    simp only [mCInts, e0, zAr]; simp
  simp only [mHeap, mHeapC, List.map_cons, zC, va_rf, o0, Option.bind_some, hi, if_true]
theorem z_lsw {d e : Int} {ps : Array (Int × Int)} {t : Nat} (hc : mpCode pg y pc = some (.lookupswitch d ps)) (he : zR e) (hs : (ps.toList.zip (ps.toList.drop 1)).all (fun (a, next) => a.1 < next.1) = true) (ht : mTo pc (Op.lookupswitch.offset ps.toList d e) = some t) (hb : zB zMd L xs y t lv r (n, sl, T, I, P, G) K) : zB zMd L xs y pc lv (.inl e :: r) (n, sl, T, I, P, G) K := by
  refine z_loc (st2 := r) hc ?_ hb
  simp only [mLocal, mLocalC, mI1, List.map_cons, zC, Option.bind_some, hs, if_true, z_rng he, ht, Option.map_some]
end ZC
