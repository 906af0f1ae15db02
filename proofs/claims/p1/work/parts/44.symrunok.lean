section SQ
variable {P : MP} {L : Nat} {xs v : Nat → Int32} {y : Nat}
theorem sIn_set {cx : SCx} (h : sIn cx v) {i : Nat} {p : Int × Int} (h1 : p.1 ≤ (v i).toInt) (h2 : (v i).toInt ≤ p.2) : sIn (cx.set i p) v := by
  intro j q hq
  by_cases hj : i = j
  · subst hj
    rw [List.getElem?_set_self'] at hq
    cases hc : cx[i]? with
    | none => rw [hc] at hq; cases hq
    | some z => rw [hc] at hq; cases hq; exact ⟨h1, h2⟩
  · rw [List.getElem?_set_ne hj] at hq
    exact h j q hq
theorem sCut_ok {cx : SCx} (h : sIn cx v) {i : Nat} {c : Int} (hne : sCut cx i c ≠ []) : ∃ cx2 ∈ sCut cx i c, sIn cx2 v := by
  unfold sCut at hne ⊢
  split
  · next p hp =>
    rw [hp] at hne
    obtain ⟨h1, h2⟩ := h i p hp
    split
    · next hc =>
      rcases Int.lt_trichotomy (v i).toInt c with q | q | q
      · exact ⟨cx.set i (p.1, c - 1), List.mem_append_left _ (List.mem_append_left _ (by rw [if_pos (by omega)]; exact List.mem_singleton.mpr rfl)), sIn_set (p := (p.1, c - 1)) h h1 (by show _ ≤ c - 1; omega)⟩
      · exact ⟨cx.set i (c, c), List.mem_append_left _ (List.mem_append_right _ (List.mem_singleton.mpr rfl)), sIn_set (p := (c, c)) h (by show c ≤ _; omega) (by show _ ≤ c; omega)⟩
      · exact ⟨cx.set i (c + 1, p.2), List.mem_append_right _ (by rw [if_pos (by omega)]; exact List.mem_singleton.mpr rfl), sIn_set (p := (c + 1, p.2)) h (by show c + 1 ≤ _; omega) h2⟩
    · next hc => simp [hc] at hne
  · next hp => rw [hp] at hne; exact absurd rfl hne
theorem sEnum_ok {cx : SCx} (h : sIn cx v) {i : Nat} (hne : sEnum cx i ≠ []) : ∃ cx2 ∈ sEnum cx i, sIn cx2 v := by
  unfold sEnum at hne ⊢
  split
  · next p hp =>
    rw [hp] at hne
    obtain ⟨h1, h2⟩ := h i p hp
    split
    · next hc =>
      refine ⟨_, List.mem_map.mpr ⟨((v i).toInt - p.1).toNat, List.mem_range.mpr (by omega), rfl⟩, sIn_set h (by simp; omega) (by simp; omega)⟩
    · next hc => simp [hc] at hne
  · next hp => rw [hp] at hne; exact absurd rfl hne
theorem sPick_ok {cx : SCx} (h : sIn cx v) : ∀ {l : List SA}, sPick cx l ≠ [] → ∃ cx2 ∈ sPick cx l, sIn cx2 v
  | [], hne => absurd rfl hne
  | .inl _ :: r, hne => by
    rw [sPick] at hne ⊢
    exact sPick_ok h hne
  | .inr i :: r, hne => by
    rw [sPick] at hne ⊢
    split
    · next he => rw [he] at hne; exact sPick_ok h hne
    · next he => exact sEnum_ok h (fun e => he e)
theorem sFork_ok {cx : SCx} (h : sIn cx v) {ins : Instr} {st : List SA} (hne : sFork cx ins st ≠ []) : ∃ cx2 ∈ sFork cx ins st, sIn cx2 v := by
  cases ins with
  | ifCond c off =>
    match st with
    | [] => exact absurd rfl hne
    | .inl _ :: _ => exact absurd rfl hne
    | .inr i :: _ => exact sCut_ok h hne
  | if_icmp c off =>
    match st with
    | [] => exact absurd rfl hne
    | [.inl _] => exact absurd rfl hne
    | [.inr _] => exact absurd rfl hne
    | .inl b :: .inl _ :: _ => exact absurd rfl hne
    | .inl b :: .inr i :: _ =>
      cases b with
      | int c => exact sCut_ok h hne
      | _ => exact absurd rfl hne
    | .inr j :: .inr i :: r =>
      have e : sFork cx (.if_icmp c off) (.inr j :: .inr i :: r) = match sCon cx (.inr j) with
        | some (.int c) => sCut cx i c.toInt
        | _ => match sEnum cx j with
          | [] => sEnum cx i
          | l => l := rfl
      rw [e] at hne ⊢
      split at hne
      · exact sCut_ok h hne
      · split at hne
        · exact sEnum_ok h hne
        · exact sEnum_ok h hne
    | .inr i :: .inl a :: _ =>
      cases a with
      | int c => exact sCut_ok h hne
      | _ => exact absurd rfl hne
  | lcmp =>
    match st with
    | [] => exact absurd rfl hne
    | [.inl b] => cases b <;> exact absurd rfl hne
    | [.inr _] => exact absurd rfl hne
    | .inl b :: .inl _ :: _ => cases b <;> exact absurd rfl hne
    | .inl b :: .inr i :: _ =>
      cases b with
      | long c => exact sCut_ok h hne
      | _ => exact absurd rfl hne
    | .inr j :: .inr i :: r =>
      have e : sFork cx .lcmp (.inr j :: .inr i :: r) = match sEnum cx (j - 100) with
        | [] => sEnum cx (i - 100)
        | l => l := rfl
      rw [e] at hne ⊢
      split at hne
      · exact sEnum_ok h hne
      · exact sEnum_ok h hne
    | .inr i :: .inl a :: _ =>
      cases a with
      | long c => exact sCut_ok h hne
      | _ => exact absurd rfl hne
  | tableswitch d lo hi offs =>
    match st with
    | [] => exact absurd rfl hne
    | .inl _ :: _ => exact absurd rfl hne
    | .inr i :: r =>
      have e : sFork cx (.tableswitch d lo hi offs) (.inr i :: r) = match cx[i]? with
        | some p => if p.1 < lo ∧ lo ≤ p.2 then sCut cx i lo else if p.1 ≤ hi ∧ hi < p.2 then sCut cx i hi else sEnum cx i
        | none => [] := rfl
      rw [e] at hne ⊢
      cases hp : cx[i]? with
      | none => rw [hp] at hne; exact absurd rfl hne
      | some p =>
        rw [hp] at hne
        simp only at hne ⊢
        split at hne
        · next h1 => rw [if_pos h1]; exact sCut_ok h hne
        · next h1 =>
          rw [if_neg h1]
          split at hne
          · next h2 => rw [if_pos h2]; exact sCut_ok h hne
          · next h2 => rw [if_neg h2]; exact sEnum_ok h hne
  | _ => exact sPick_ok h hne
theorem sAny_ok {l : List SCx} {f : SCx → Bool} (h : sAny l f = true) : l ≠ [] ∧ ∀ a ∈ l, f a = true := by
  unfold sAny at h
  split at h
  · cases h
  · exact ⟨by simp, fun a ha => List.all_eq_true.mp h a ha⟩
theorem mRun_fuel {call : Nat → List Value → List MC → Option MRes} : ∀ (n pc : Nat) (lv : MLv) (st : List Value) (σ : List MC) (r : MRes), mRun P L xs call y n pc lv st σ = some r → mRun P L xs call y (n + 1) pc lv st σ = some r := by
  intro n
  induction n with
  | zero => intro pc lv st σ r h; simp [mRun] at h
  | succ n ih =>
    intro pc lv st σ r h
    rw [mRun] at h
    rw [mRun]
    split at h
    · cases h
    · next ins hins =>
      try simp only [hins]
      split at h
      · next r0 hr0 => (try simp only [hr0]); exact h
      · next hr0 =>
        try simp only [hr0]
        split at h
        · next w hw =>
          try simp only [hw]
          split at h
          · next r1 hr1 => (try simp only [hr1]); exact ih _ _ _ _ _ h
          · cases h
        · next hw =>
          try simp only [hw]
          split at h
          · next q hq => (try simp only [hq]); exact ih _ _ _ _ _ h
          · cases h
theorem sRun_sound (hL : L ≤ 90) (hv : ∀ i, i < L → v i = xs i) (hw : v 6 = v 0 &&& 63) {call : SCx → Nat → List SA → List MC → SK → Bool} {callM : Nat → List Value → List MC → Option MRes}
    (hcall : ∀ cx y as σ k, call cx y as σ k = true → sIn cx v → ∃ r σ2 cx2, callM y (as.map (sVal v)) σ = some (r.map (sVal v), σ2) ∧ sIn cx2 v ∧ k cx2 r σ2 = true) :
    ∀ (n : Nat) (cx : SCx) (pc : Nat) (lv : SLv) (st : List SA) (σ : List MC) (k : SK), sRun P L call y n cx pc lv st σ k = true → sIn cx v → ∃ r σ2 cx2, mRun P L xs callM y n pc (sLvT v lv) (st.map (sVal v)) σ = some (r.map (sVal v), σ2) ∧ sIn cx2 v ∧ k cx2 r σ2 = true := by
  intro n
  induction n with
  | zero => intro cx pc lv st σ k h; simp [sRun] at h
  | succ n ih =>
    intro cx pc lv st σ k h hc
    rw [sRun] at h
    split at h
    · cases h
    · next ins hins =>
      have fork : sAny (sFork cx ins st) (fun cx2 => sRun P L call y n cx2 pc lv st σ k) = true → ∃ r σ2 cx2, mRun P L xs callM y (n + 1) pc (sLvT v lv) (st.map (sVal v)) σ = some (r.map (sVal v), σ2) ∧ sIn cx2 v ∧ k cx2 r σ2 = true := by
        intro h
        obtain ⟨hne, hall⟩ := sAny_ok h
        obtain ⟨cx2, hm, hin2⟩ := sFork_ok hc hne
        obtain ⟨r3, σ3, cx3, g1, g2, g3⟩ := ih _ _ _ _ _ _ (hall cx2 hm) hin2
        exact ⟨r3, σ3, cx3, mRun_fuel _ _ _ _ _ _ g1, g2, g3⟩
      have step : ∀ q, sStep P L y cx ins pc lv st σ = some q → sRun P L call y n cx q.1 q.2.1 q.2.2.1 q.2.2.2 k = true → ∃ r σ2 cx2, mRun P L xs callM y (n + 1) pc (sLvT v lv) (st.map (sVal v)) σ = some (r.map (sVal v), σ2) ∧ sIn cx2 v ∧ k cx2 r σ2 = true := by
        intro q hq h
        obtain ⟨e1, e2, e3⟩ := sStep_ok hL hv hw hc hq
        obtain ⟨r3, σ3, cx3, g1, g2, g3⟩ := ih _ _ _ _ _ _ h hc
        refine ⟨r3, σ3, cx3, ?_, g2, g3⟩
        rw [mRun]
        simp only [hins, e1, e2, e3]
        exact g1
      split at h
      · split at h
        · next q hq =>
          have hl := sLocal_ok hc hq
          obtain ⟨r3, σ3, cx3, g1, g2, g3⟩ := ih _ _ _ _ _ _ h hc
          refine ⟨r3, σ3, cx3, ?_, g2, g3⟩
          rw [mRun]
          simp only [hins, mLocal_noEnd hl, mLocal_noCall hl, mStep_L hl]
          exact g1
        · exact fork h
      · split at h
        · next q hq =>
          have hl := sIf_ok (P := P) (y := y) (lv := sLvT v lv) hc hq
          obtain ⟨r3, σ3, cx3, g1, g2, g3⟩ := ih _ _ _ _ _ _ h hc
          refine ⟨r3, σ3, cx3, ?_, g2, g3⟩
          rw [mRun]
          simp only [hins, mLocal_noEnd hl, mLocal_noCall hl, mStep_L hl]
          exact g1
        · exact fork h
      · split at h
        · next r hr =>
          refine ⟨r, σ, cx, ?_, hc, h⟩
          rw [mRun]
          simp only [hins, sEnd_ok hc hr]
        · cases h
      · split at h
        · next w hw2 =>
          obtain ⟨r, σ2, cx2, h1, h2, h3⟩ := hcall _ _ _ _ _ h hc
          obtain ⟨r3, σ3, cx3, g1, g2, g3⟩ := ih _ _ _ _ _ _ h3 h2
          refine ⟨r3, σ3, cx3, ?_, g2, g3⟩
          have hco := sCallOf_ok (v := v) hw2
          rw [mRun]
          simp only [hins, mCallOf_noEnd hco, hco, h1]
          rw [← g1]
          congr 1
          cases r <;> simp
        · split at h
          · next q hq => exact step q hq h
          · exact fork h
      · split at h
        · next q hq => exact step q hq h
        · exact fork h
theorem sArgs_T : ∀ (i : Nat) (as : List SA), sLvT v (sExec.sArgs i as) = lv_args i (as.map (sVal v))
  | _, [] => rfl
  | i, a :: as => by
    simp only [sExec.sArgs, List.map_cons, lv_args, sVal_cat]
    rw [← sArgs_T _ as]
    rfl
theorem sExec_sound (hL : L ≤ 90) (hv : ∀ i, i < L → v i = xs i) (hw : v 6 = v 0 &&& 63) {N : Nat} : ∀ (d : Nat) (cx : SCx) (y : Nat) (as : List SA) (σ : List MC) (k : SK), sExec P L N d cx y as σ k = true → sIn cx v → ∃ r σ2 cx2, mExec P L xs N d y (as.map (sVal v)) σ = some (r.map (sVal v), σ2) ∧ sIn cx2 v ∧ k cx2 r σ2 = true := by
  intro d
  induction d with
  | zero => intro cx y as σ k h; simp [sExec] at h
  | succ d ih =>
    intro cx y as σ k h hc
    rw [sExec] at h
    rw [mExec, ← sArgs_T]
    exact sRun_sound hL hv hw (fun cx y as σ k h hc => ih cx y as σ k h hc) N cx 0 _ [] σ k h hc
end SQ
