/-! the law runs to 1, from the empty store, within the room -/
theorem zA_nil : zA zMd [] (0, 0, (fun _ => (0, 0, [])), (fun _ _ => 0), (fun _ _ => none), (fun _ _ => 0)) := by
  refine ⟨rfl, rfl, fun a => ?_, fun a k => ?_, fun a k => True.intro, fun a k => True.intro⟩
  · cases a <;> simp [mCell, zCell]
  · exact (by decide : zR 0)
theorem law_runs {L : Nat} (hL : L ≤ 3072) (xs : Nat → Int32) : lawRuns L xs := by
  have h : zB zMd L xs 271 0 [(0, .inr (.inl (some 0)))] [] (0, 0, (fun _ => (0, 0, [])), (fun _ _ => 0), (fun _ _ => none), (fun _ _ => 0)) (fun rs h => rs = [.inl 1] ∧ h.1 ≤ 200000 ∧ h.2.1 ≤ 4000000) := by
    refine z_lawA (fun T I P G hC g5 g6 ga gb gc gd gf23 gf30 gf42 gf49 h22 => ?_)
    refine z_lawB hC g5 g6 ga gb gc gd gf23 gf30 gf42 gf49 h22 (fun T I P G hC hT hr hcr e1 e2 n1 n2 => ?_)
    refine z_law hL (fun n sl T I P G b1 b2 => ⟨rfl, b1, b2⟩) _ 90 233526 T I P G 0 (by omega) (by omega) ⟨Nat.le_refl _, hC, hT, hr, hcr, by rw [e1, e2], by rw [e1]; omega, fun k hk => ?_, by omega, by omega⟩ (Nat.lt_succ_self _)
    rw [(n1 k hk).1, (n1 k hk).2, n2 k (by omega), n2 (12 + k) (by omega)]
    exact ⟨rfl, rfl⟩
  obtain ⟨N, d, n, r, hr, rs, h2, hA, hrs, rfl, hn, hsl⟩ := h [] zA_nil
  obtain ⟨r1, r2⟩ := r
  have e : r1 = some (.int 1) := by
    cases r1 with
    | none => cases hrs
    | some v =>
      have hrs : [v] = [zC (.inl 1)] := hrs
      injection hrs with h1 _
      rw [h1]; rfl
  subst e
  refine ⟨N + n, d, r2, ?_, ?_, ?_⟩
  · exact mRun_more (fun y as σ r h => mExec_more (Nat.le_add_right N n) _ _ _ _ _ _ (Nat.le_refl d) h) _ _ _ _ _ _ _ (Nat.le_add_left n N) hr
  · rw [hA.1]; omega
  · rw [hA.2.1]; omega
