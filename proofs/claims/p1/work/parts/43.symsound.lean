section SP
variable {P : MP} {L : Nat} {xs v : Nat → Int32} {y : Nat}
theorem lg_cat (vs : List Value) : (lg_sl vs).length = (vs.map (fun v => v.category)).sum := by
  induction vs with
  | nil => rfl
  | cons a t ih =>
    simp only [lg_sl, List.flatMap_cons, List.length_append, List.map_cons, List.sum_cons] at ih ⊢
    rw [ih]
    rcases lv_cat a with h | h <;> simp [h]
theorem sDum_cat (a : SA) : (sDum a).category = sCat a := by
  cases a with
  | inl w => rfl
  | inr i => simp only [sDum, sCat]; split <;> rfl
theorem sCallK_ok {k y2 n : Nat} {st : List SA} {σ : List MC} {w : Nat × List Value × List Value} (h : mCallK P y k y2 n (st.map sDum) σ = some w) : w.2.1.length = n ∧ mCallK P y k y2 n (st.map (sVal v)) σ = some (w.1, ((st.take n).reverse).map (sVal v), (st.drop n).map (sVal v)) := by
  have e0 : ∀ f : SA → Value, ((st.map f).take n).reverse = ((st.take n).reverse).map f := fun f => by rw [← List.map_take, ← List.map_reverse]
  have e1 : ∀ f : SA → Value, (st.map f).drop n = (st.drop n).map f := fun f => by rw [← List.map_drop]
  have c1 : ∀ l : List SA, ((l.map sDum).map (fun v => v.category)) = (l.map (sVal v)).map (fun v => v.category) := by
    intro l
    simp only [List.map_map]
    apply List.map_congr_left
    intro a _
    simp only [Function.comp_def, sDum_cat, sVal_cat]
  unfold mCallK at h ⊢
  rw [e0, e1] at h
  rw [e0, e1]
  split at h
  · next hc =>
    obtain ⟨g1, g2, g3, g4, g5⟩ := hc
    rw [c1] at g2
    rw [lg_cat, c1, ← lg_cat] at g5
    have hl : n ≤ st.length := by simpa using g1
    have hlen : ((st.take n).reverse).length = n := by simp; omega
    rw [if_pos ⟨by simpa using g1, g2, g3, g4, g5⟩]
    generalize (st.take n).reverse = u at h hlen ⊢
    split at h
    · cases h; exact ⟨by simpa using hlen, rfl⟩
    · cases h; exact ⟨by simpa using hlen, rfl⟩
    · cases u with
      | nil => simp at h
      | cons a t =>
        cases a with
        | inr i => by_cases hi : i < 100 <;> simp [sDum, hi] at h
        | inl b =>
          cases b <;> simp only [List.map_cons, sDum] at h <;> try (cases h; done)
          next r =>
          simp only [List.map_cons, sVal]
          split at h
          · next o ho =>
            split at h
            · next hi => cases h; exact ⟨by simpa using hlen, by rw [if_pos hi]⟩
            · cases h
          · cases h
    · cases u with
      | nil => simp at h
      | cons a t =>
        cases a with
        | inr i => by_cases hi : i < 100 <;> simp [sDum, hi] at h
        | inl b =>
          cases b <;> simp only [List.map_cons, sDum] at h <;> try (cases h; done)
          cases h; exact ⟨by simpa using hlen, rfl⟩
    · cases u with
      | nil => simp at h
      | cons a t =>
        cases a with
        | inr i => by_cases hi : i < 100 <;> simp [sDum, hi] at h
        | inl b =>
          cases b <;> simp only [List.map_cons, sDum] at h <;> try (cases h; done)
          cases h; exact ⟨by simpa using hlen, rfl⟩
    · cases h
  · cases h
theorem sCallOf_ok {ins : Instr} {st : List SA} {σ : List MC} {w : Nat × List SA × List SA} (h : sCallOf P y ins st σ = some w) : mCallOf P y ins (st.map (sVal v)) σ = some (w.1, w.2.1.map (sVal v), w.2.2.map (sVal v)) := by
  unfold sCallOf at h
  split at h
  · next u hu =>
    cases h
    cases ins with
    | invokevirtual i =>
      simp only [mCallOf, mCallOfC, Option.bind_eq_some_iff] at hu
      obtain ⟨q, hq, hu⟩ := hu
      split at hu
      · next h1 =>
        obtain ⟨h2, h3⟩ := sCallK_ok (v := v) hu
        simp only [mCallOf, mCallOfC, hq, Option.bind_some, if_pos h1, h3, h2]
      · cases hu
    | invokestatic i =>
      simp only [mCallOf, mCallOfC, Option.bind_eq_some_iff] at hu
      obtain ⟨q, hq, hu⟩ := hu
      split at hu
      · next h1 =>
        obtain ⟨h2, h3⟩ := sCallK_ok (v := v) hu
        simp only [mCallOf, mCallOfC, hq, Option.bind_some, if_pos h1, h3, h2]
      · cases hu
    | invokespecial i =>
      simp only [mCallOf, mCallOfC, Option.bind_eq_some_iff] at hu
      obtain ⟨q, hq, hu⟩ := hu
      split at hu
      · next h1 =>
        obtain ⟨h2, h3⟩ := sCallK_ok (v := v) hu
        simp only [mCallOf, mCallOfC, hq, Option.bind_some, if_pos h1, h3, h2]
      · cases hu
    | _ => simp [mCallOf, mCallOfC] at hu
  · cases h
theorem sTell_ok {c : Jvm.ClassFile.Cond} {A B : Int × Int} {b : Bool} {x z : Int32} (h : sTell c A B = some b) (h1 : A.1 ≤ x.toInt) (h2 : x.toInt ≤ A.2) (h3 : B.1 ≤ z.toInt) (h4 : z.toInt ≤ B.2) : mIf c x z = b := by
  have hl : ∀ a b : Int32, (a < b) ↔ a.toInt < b.toInt := fun a b => Int32.lt_iff_toInt_lt
  have hle : ∀ a b : Int32, (a ≤ b) ↔ a.toInt ≤ b.toInt := fun a b => Int32.le_iff_toInt_le
  have he : ∀ a b : Int32, (a = b) ↔ a.toInt = b.toInt := fun a b => ⟨fun h => by rw [h], fun h => Int32.toInt_inj.mp h⟩
  cases c <;> simp only [sTell] at h <;> split at h <;> first | (cases h; simp [mIf, hl, hle, he]; omega) | (split at h <;> first | (cases h; done) | (cases h; simp [mIf, hl, hle, he]; omega))
theorem sIf_ok {cx : SCx} {ins : Instr} {pc : Nat} {lv : MLv} {st : List SA} {q : Nat × List SA} (hc : sIn cx v) (h : sIf cx ins pc st = some q) : mLocal y P ins pc lv (st.map (sVal v)) = some (q.1, lv, q.2.map (sVal v)) := by
  cases ins with
  | ifCond c off =>
    simp only [sIf, sIfC] at h
    split at h
    · next a r =>
      split at h
      · next A hA =>
        split at h
        · next b hb =>
          simp only [Option.map_eq_some_iff] at h
          obtain ⟨t, ht, rfl⟩ := h
          obtain ⟨x, hx, l1, l2⟩ := sIv_ok hc hA
          have hm := sTell_ok (z := 0) hb l1 l2 (by decide) (by decide)
          simp only [List.map_cons, mLocal, mLocalC, hx, mI1, Option.bind_some, ht, Option.map_some, hm]
        · cases h
      · cases h
    · cases h
  | if_icmp c off =>
    simp only [sIf, sIfC] at h
    split at h
    · next b a r =>
      split at h
      · next A B hA hB =>
        obtain ⟨x, hx, l1, l2⟩ := sIv_ok hc hA
        obtain ⟨z, hz, l3, l4⟩ := sIv_ok hc hB
        split at h
        · next b9 hb =>
          simp only [Option.map_eq_some_iff] at h
          obtain ⟨t, ht, rfl⟩ := h
          have hm := sTell_ok hb l1 l2 l3 l4
          simp only [List.map_cons, mLocal, mLocalC, hx, hz, mI2, Option.bind_some, ht, Option.map_some, hm]
        · split at h
          · next i j =>
            split at h
            · next hij =>
              simp only [Option.map_eq_some_iff] at h
              obtain ⟨t, ht, rfl⟩ := h
              subst hij
              have hm : ∀ x : Int32, mIf c x x = sSame c := by
                intro x
                cases c <;> simp [mIf, sSame]
              have hi9 : i < 100 := by
                by_cases hi : i < 100
                · exact hi
                · simp [sIv, hi] at hA
              simp only [List.map_cons, mLocal, mLocalC, sVal, if_pos hi9, mI2, Option.bind_some, ht, Option.map_some, hm]
            · cases h
          · cases h
      · cases h
    · cases h
  | _ => simp [sIf, sIfC] at h
theorem sEnd_ok {cx : SCx} {ins : Instr} {st : List SA} {r : Option SA} (hc : sIn cx v) (h : sEnd P y ins cx st = some r) : mEnd P y ins (st.map (sVal v)) = some (r.map (sVal v)) := by
  have inlm : ∀ r : Option Value, (r.map Sum.inl).map (sVal v) = r := fun r => by cases r <;> rfl
  cases ins with
  | ireturn =>
    simp only [sEnd, sEndC] at h
    split at h
    · next i =>
      split at h
      · next hi => cases h; simp [mEnd, mEndC, sVal, hi.1, hi.2]
      · cases h
    · next w =>
      split at h
      · next r0 hr => cases h; rw [inlm]; exact hr
      · cases h
    · cases h
  | lreturn =>
    simp only [sEnd, sEndC] at h
    split at h
    · next vs hvs =>
      split at h
      · next r0 hr => cases h; rw [inlm, sCons_ok hc hvs]; exact hr
      · cases h
    · cases h
  | areturn =>
    simp only [sEnd, sEndC] at h
    split at h
    · next vs hvs =>
      split at h
      · next r0 hr => cases h; rw [inlm, sCons_ok hc hvs]; exact hr
      · cases h
    · cases h
  | return_ =>
    simp only [sEnd, sEndC] at h
    split at h
    · split at h
      · next r0 hr => cases h; rw [inlm]; exact hr
      · cases h
    · cases h
  | _ => simp [sEnd, sEndC] at h
theorem sPlain_ok {cx : SCx} {ins : Instr} {pc n : Nat} {lv : SLv} {st : List SA} {σ : List MC} {q : Nat × SLv × List SA × List MC} (hc : sIn cx v) (hn : sAr ins = some n ∨ (sArC P y ins = some n ∧ ((st.drop n).map sCat).sum ≤ 8)) (h : sPlain P L y cx ins pc n lv st σ = some q) :
    (∃ q0, mLocal y P ins pc (sLvT v lv) (st.map (sVal v)) = some q0 ∧ (q0.1, q0.2.1, q0.2.2, σ) = (q.1, sLvT v q.2.1, q.2.2.1.map (sVal v), q.2.2.2)) ∨
    (∃ q0 : Nat × List Value × List MC, mHeap P L xs y ins pc (st.map (sVal v)) σ = some q0 ∧ (q0.1, sLvT v lv, q0.2.1, q0.2.2) = (q.1, sLvT v q.2.1, q.2.2.1.map (sVal v), q.2.2.2)) := by
  have inl2 : ∀ l : List Value, (l.map Sum.inl).map (sVal v) = l := fun l => by induction l <;> simp_all [sVal]
  unfold sPlain at h
  split at h
  · cases h
  · next ops hops =>
    split at h
    · next hl =>
      have e : st.map (sVal v) = ops ++ (st.drop n).map (sVal v) := by
        rw [← sCons_ok hc hops, ← List.map_append, List.take_append_drop]
      split at h
      · next q1 hq1 =>
        cases h
        left
        rcases hn with hn | hn
        · refine ⟨_, by rw [e]; exact mLocal_app hn hl.1 hq1, ?_⟩
          simp only [List.map_append, inl2]
        · exfalso
          cases ins <;> simp [sArC] at hn <;> simp [mLocal, mLocalC] at hq1
      · split at h
        · next q1 hq1 =>
          cases h
          right
          rw [mHeap_xs (xs2 := xs) hl.2] at hq1
          rcases hn with hn | ⟨hn, hr⟩
          · refine ⟨_, by rw [e]; exact mHeap_app hn hl.1 hq1, ?_⟩
            simp only [List.map_append, inl2]
          · refine ⟨_, by rw [e]; exact mHeap_appC hn hl.1 (by simp only [List.map_map]; rw [show ((fun v => v.category) ∘ sVal v) = sCat from funext (sVal_cat v)]; exact hr) hq1, ?_⟩
            simp only [List.map_append, inl2]
        · cases h
    · cases h
theorem mStep_L {ins : Instr} {pc : Nat} {lv : MLv} {st : List Value} {σ : List MC} {q : Nat × MLv × List Value} (h : mLocal y P ins pc lv st = some q) : mStep P L xs y ins pc lv st σ = some (q.1, q.2.1, q.2.2, σ) := by
  simp only [mStep, h]
theorem mStep_H {ins : Instr} {pc : Nat} {lv : MLv} {st : List Value} {σ : List MC} {q : Nat × List Value × List MC} (h : mHeap P L xs y ins pc st σ = some q) : mStep P L xs y ins pc lv st σ = some (q.1, lv, q.2.1, q.2.2) := by
  simp only [mStep, mHeap_noLocal h, h, Option.map_some]
/-- a step, with that nothing else comes first -/
def mPure (P : MP) (L : Nat) (xs : Nat → Int32) (y : Nat) (ins : Instr) (pc : Nat) (lv : MLv) (st : List Value) (σ : List MC) (q : MR) : Prop := mEnd P y ins st = none ∧ mCallOf P y ins st σ = none ∧ mStep P L xs y ins pc lv st σ = some q
theorem sStep_ok (hL : L ≤ 90) (hv : ∀ i, i < L → v i = xs i) (hw : v 6 = v 0 &&& 63) {cx : SCx} {ins : Instr} {pc : Nat} {lv : SLv} {st : List SA} {σ : List MC} {q : Nat × SLv × List SA × List MC} (hc : sIn cx v) (h : sStep P L y cx ins pc lv st σ = some q) : mPure P L xs y ins pc (sLvT v lv) (st.map (sVal v)) σ (q.1, sLvT v q.2.1, q.2.2.1.map (sVal v), q.2.2.2) := by
  have loc : ∀ {q0 : Nat × MLv × List Value} {r : MR}, mLocal y P ins pc (sLvT v lv) (st.map (sVal v)) = some q0 → (q0.1, q0.2.1, q0.2.2, σ) = r → mPure P L xs y ins pc (sLvT v lv) (st.map (sVal v)) σ r := by
    intro q0 r h1 h2
    exact ⟨mLocal_noEnd h1 _, mLocal_noCall h1 _ _, by rw [mStep_L h1, h2]⟩
  have hea : ∀ {q0 : Nat × List Value × List MC} {r : MR}, mHeap P L xs y ins pc (st.map (sVal v)) σ = some q0 → (q0.1, sLvT v lv, q0.2.1, q0.2.2) = r → mPure P L xs y ins pc (sLvT v lv) (st.map (sVal v)) σ r := by
    intro q0 r h1 h2
    exact ⟨mHeap_noEnd h1 _, mHeap_noCall h1 _ _, by rw [mStep_H h1, h2]⟩
  unfold sStep at h
  split at h
  · next q1 hq1 =>
    cases h
    exact loc (sLocal_ok hc hq1) rfl
  · split at h
    · next q1 hq1 =>
      cases h
      cases ins with
      | iaload =>
        simp only [sScr, sScrC] at hq1
        split at hq1
        · next i r _ =>
          split at hq1
          · next x hx =>
            split at hq1
            · next hin =>
              cases hq1
              have hi := sCon_ok hc hx
              have hlt : mIx x < L := by simp only [mIn, Bool.and_eq_true, decide_eq_true_eq] at hin; exact hin.2
              refine hea (q0 := (pc + 1, .int (xs (mIx x)) :: r.map (sVal v), σ)) ?_ ?_
              · have e2 : sVal v (.inl (.ref 0)) = .ref 0 := rfl
                simp only [List.map_cons, hi, e2, mHeap, mHeapC, mIA, mInts, Option.bind_some, if_pos hin]
              · have h100 : mIx x < 100 := by omega
                simp only [List.map_cons, sVal, if_pos h100, hv _ hlt]
            · cases hq1
          · cases hq1
        · cases hq1
      | iand =>
        simp only [sScr, sScrC] at hq1
        split at hq1
        · next c r _ =>
          split at hq1
          · next hc63 =>
            cases hq1
            subst hc63
            refine loc (q0 := (pc + 1, sLvT v lv, .int (v 0 &&& 63) :: r.map (sVal v))) ?_ ?_
            · simp only [List.map_cons, sVal, mLocal, mLocalC, mI2, Option.map_some]; rfl
            · simp only [List.map_cons, sVal, hw]; rfl
          · cases hq1
        · cases hq1
      | arraylength =>
        simp only [sScr, sScrC] at hq1
        split at hq1
        · next r _ =>
          cases hq1
          refine hea (q0 := (pc + 1, .int (Int32.ofNat L) :: r.map (sVal v), σ)) ?_ rfl
          simp only [List.map_cons, sVal, mHeap, mHeapC, mLong, Option.map_some]
        · cases hq1
      | i2l =>
        simp only [sScr, sScrC] at hq1
        split at hq1
        · next i r _ =>
          split at hq1
          · next hi =>
            cases hq1
            have h2 : ¬ 100 + i < 100 := by omega
            have h3 : 100 + i - 100 = i := by omega
            refine loc (q0 := (pc + 1, sLvT v lv, .long (v i).toInt64 :: r.map (sVal v))) ?_ ?_
            · simp only [List.map_cons, sVal, if_pos hi, mLocal, mLocalC, mI1, Option.map_some]
            · simp only [List.map_cons, sVal, if_neg h2, h3]
          · cases hq1
        · cases hq1
      | lcmp =>
        simp only [sScr, sScrC] at hq1
        split at hq1
        · next b a r _ =>
          split at hq1
          · next A B hA hB =>
            split at hq1
            · next x hx =>
              cases hq1
              obtain ⟨p, hp, l1, l2⟩ := sLv_ok hc hA
              obtain ⟨z, hz, l3, l4⟩ := sLv_ok hc hB
              have hcmp : lg_cmp p z = x := by
                have hl : (p < z) ↔ p.toInt < z.toInt := Int64.lt_iff_toInt_lt
                have hg : (z < p) ↔ z.toInt < p.toInt := Int64.lt_iff_toInt_lt
                have he : (p = z) ↔ p.toInt = z.toInt := ⟨fun h => by rw [h], fun h => Int64.toInt_inj.mp h⟩
                unfold sLcmp at hx
                unfold lg_cmp
                split at hx
                · cases hx
                  rw [if_neg (fun q => by have := hg.mp q; omega), if_neg (fun q => by have := he.mp q; omega)]
                · split at hx
                  · cases hx
                    rw [if_pos (hg.mpr (by omega))]
                  · split at hx
                    · cases hx
                      rw [if_neg (fun q => by have := hg.mp q; omega), if_pos (he.mpr (by omega))]
                    · cases hx
              refine loc (q0 := (pc + 1, sLvT v lv, .int x :: r.map (sVal v))) ?_ rfl
              simp only [List.map_cons, hp, hz, mLocal, mLocalC, mL2, Option.map_some, hcmp]
            · cases hq1
          · cases hq1
        · cases hq1
      | tableswitch d lo hi offs =>
        simp only [sScr, sScrC] at hq1
        split at hq1
        · next i r _ =>
          split at hq1
          · next hi9 =>
            split at hq1
            · next p hp =>
              split at hq1
              · next ho =>
                simp only [Option.map_eq_some_iff] at hq1
                obtain ⟨t, ht, rfl⟩ := hq1
                obtain ⟨b1, b2⟩ := hc i p hp
                have hout : (v i).toInt < lo ∨ hi < (v i).toInt := by omega
                refine loc (q0 := (t, sLvT v lv, r.map (sVal v))) ?_ rfl
                simp only [List.map_cons, sVal, if_pos hi9, mLocal, mLocalC, mI1, Option.bind_some, if_pos hout, ht, Option.map_some]
              · cases hq1
            · cases hq1
          · cases hq1
        · cases hq1
      | _ => simp [sScr, sScrC] at hq1
    · split at h
      · next n hn =>
        rcases sPlain_ok (xs := xs) hc (Or.inl hn) h with ⟨q0, h1, h2⟩ | ⟨q0, h1, h2⟩
        · exact loc h1 h2
        · exact hea h1 h2
      · split at h
        · next n hn =>
          split at h
          · next hr =>
            rcases sPlain_ok (xs := xs) hc (Or.inr ⟨hn, hr⟩) h with ⟨q0, h1, h2⟩ | ⟨q0, h1, h2⟩
            · exact loc h1 h2
            · exact hea h1 h2
          · cases h
        · cases h
end SP
