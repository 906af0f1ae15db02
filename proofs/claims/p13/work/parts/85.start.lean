/-! THE CLAIM OUT OF ONE WALK OF THE LAW'S BODY. Your part is whole_start (and what it stands on); all else here is the same for every law, but numbers. -/
def R_law : String := "TypeRoomLaw"
def lw_P (b : Addr) (xs : List Int32) (args : Array Value) (s : State) : Prop := args = #[.ref b] ∧ s.IntsAt b xs ∧ xs.length ≤ 3072 ∧ (Jvm.Cond.and given_1 narrow_1).before args s = true
def lw_Q (_ : Array Value) (s : State) (o : Outcome) (t : State) : Prop := o = .returned (some (.int 1)) ∧ Framed s o t [] 600000 7302250
def lw_Z (below : List Frame) (a : Array Value) (s : State) : State → Prop := fun t => ∃ o, t.status = .running ∧ Ended t below o ∧ lw_Q a s o t
/-- the law's own end, with 1 on the stack, nothing written that was there before, its room as the claim has it -/
theorem lw_ret {p : Program} {l : Launch} {e : Env} {s : State} {m : MethodId} {below : List Frame} {meth : Method} {c : Code} {b : Nat} (hx : p.tables.exec = Jvm.exec) (hb : c.code = code) (hr : meth.sig.returnType = ret) (hlocks : meth.locks = false) {pc : Nat} {H : Heap} {ls : Array Slot} (hdg : decode code pc = .ok (.ireturn, 1)) : W p l e room_1 s m #[Value.ref b] below meth c H [] 600000 7302250 (lw_Z below #[Value.ref b] s) (F0 m pc ls [.int 1]) := by
  intro T hT X
  obtain ⟨fs, hret, hrun, hended, hW, hframe⟩ := X.leave (v := some (.int 1)) (hlocks := hlocks) (fun h => by rw [hr] at h; cases h)
  have hmeth' : T.vm.method? m = some meth := X.method'
  refine ⟨T.setFrames fs, ?_, .returned (some (.int 1)), hrun, hended, rfl, ⟨_, rfl⟩, hW, hframe⟩
  jvm_step X.here [X.here.top, hx, hb, hdg, hmeth', hr, ret, narrow_b1]
  (try refine ⟨rfl, ?_⟩); (try refine ⟨rfl, ?_⟩)
  first | (intro acts; rw [hret _ acts rfl rfl rfl]) | rw [hret _ _ rfl rfl rfl]
  exact Steps.refl _
/-- what holds at the law's entry: the machine, the code, the tables' words (any of lw_tbl by 'hts w (by decide +kernel)'), the script of L ints xs at the cell b, what the Statement gives of the start (any of its parts by flat_of_before) -/
def lw_At (p : Program) (s : State) (m : MethodId) (meth : Method) (c : Code) (b L : Nat) (xs : Nat → Int32) : Prop :=
  p.tables.exec = Jvm.exec ∧ c.code = code ∧ meth.sig.returnType = ret ∧ c.maxLocals = 4 ∧ s.vm.findClass R_law = some m.cls ∧ (∀ w ∈ lw_tbl, w.before #[Value.ref b] s = true) ∧ va_X b L xs s s.heap ∧ b < s.heap.size ∧ meth.locks = false ∧ (Jvm.Cond.and given_1 narrow_1).before #[Value.ref b] s = true
def pgIns : List Nat := [1074, 1181, 5072, 2094, 4072, 5006, 1137, 1044, 1171, 3027, 1029, 1019, 5155]
set_option maxRecDepth 100000 in
theorem ckIns : (vwCl.zip pgIns).all (fun q => ckT q.2 (.instantiable q.1.1 q.1.2.2)) = true := by decide +kernel
theorem pg_inst {ci : Nat} {q : vw_C} (h : vwCl[ci]? = some q) : Cond.instantiable q.1 q.2.2 ∈ mTs := by
  have hl : vwCl.length = pgIns.length := rfl
  have hlt : ci < vwCl.length := (List.getElem?_eq_some_iff.mp h).1
  have h2 : (vwCl.zip pgIns)[ci]? = some (q, pgIns[ci]'(by rw [← hl]; exact hlt)) := by
    rw [List.getElem?_zip_eq_some]
    exact ⟨h, List.getElem?_eq_getElem _⟩
  exact ckT_ok (List.all_eq_true.mp ckIns _ (List.mem_of_getElem? h2))
theorem mAr_K {D : va_G} {aC : Nat → ClassId} {s : State} (h1 : ∀ (c : Nat) (q : vw_C), vwCl[c]? = some q → u_Kn s q.1 q.2.1 q.2.2 (D.1 c) (D.2 c)) (h : mAr aC pgTL s) : va_K D vwCl (mTys aC pgTL) s := by
  refine ⟨h1, fun k q hq => ?_⟩
  cases ht : pgTL[k]? with
  | none => simp [mTys, ht] at hq
  | some t =>
    rw [mTys_at ht] at hq
    cases hq
    refine ⟨h.arr ht, ?_⟩
    obtain ⟨kA, comp, k1, k2, k3, k4⟩ := h k t ht
    cases t with
    | object C => exact ⟨kA, comp, k1, k2, k4 rfl, k3⟩
    | _ => exact k3
theorem pg_begin {s : State} {args : Array Value} (hts : ∀ w ∈ lw_tbl, w.before args s = true) : ∃ (D : va_G) (aC : Nat → ClassId), va_K D vwCl (mTys aC pgTL) s ∧ mAr aC pgTL s ∧ mNs mNL s := by
  have htT : ∀ w ∈ mTs, w.before args s = true := fun w h => hts w (List.mem_filter.mp h).1
  have hC : ∀ ci : Nat, ∃ (cC : ClassId) (iS : Nat → Nat), ∀ q : vw_C, vwCl[ci]? = some q → u_Kn s q.1 q.2.1 q.2.2 cC iS := by
    intro ci
    cases hq : vwCl[ci]? with
    | none => exact ⟨0, fun _ => 0, fun q h => by cases h⟩
    | some q =>
      obtain ⟨C, T, N⟩ := q
      obtain ⟨cC, iS, hKn⟩ := u_known (C := C) (T := T) (N := N) (n := N) htT (pg_cls ci C T N hq).1 (htT _ (pg_inst hq))
      exact ⟨cC, iS, fun q h => by cases h; exact hKn⟩
  have hns : mNs mNL s := by
    intro w hw
    have h1 := hts w (mNL_in w hw)
    rcases mNL_ok w hw with ⟨a, i, x, hh, rfl⟩ | ⟨C, rfl⟩ | ⟨t, rfl⟩ | ⟨C, t, rfl⟩
    · exact va_Nw.of rfl h1
    · exact h1
    · exact h1
    · exact va_Nw.of rfl h1
  have hA : ∀ k : Nat, ∃ c : ClassId, ∀ t : FieldType, pgTL[k]? = some t → ∃ (kA : Class) (comp : ClassId), s.vm.classes[c]? = some kA ∧ kA.kind = .array comp t ∧ s.vm.findClass ("[" ++ t.toString) = some c ∧ (t.isReference = true → s.vm.findClass (match t with | .object C => C | u => u.toString) = some comp) := by
    intro k
    have pr : ∀ t : FieldType, Cond.arrayClass t ∈ mTs → t.isReference = false → ∃ c : ClassId, ∀ u : FieldType, (some t : Option FieldType) = some u → ∃ (kA : Class) (comp : ClassId), s.vm.classes[c]? = some kA ∧ kA.kind = .array comp u ∧ s.vm.findClass ("[" ++ u.toString) = some c ∧ (u.isReference = true → s.vm.findClass (match u with | .object C => C | u => u.toString) = some comp) := by
      intro t ht hr
      obtain ⟨c, kA, comp, f1, f2, f3⟩ := Cond.arrayClass_spec (htT _ ht)
      exact ⟨c, fun u hu => by cases hu; exact ⟨kA, comp, f2, f3, f1, fun h => by rw [hr] at h; cases h⟩⟩
    have ob : ∀ C : String, Cond.arrayOver (.object C) ∈ mNL → ∃ c : ClassId, ∀ u : FieldType, (some (.object C) : Option FieldType) = some u → ∃ (kA : Class) (comp : ClassId), s.vm.classes[c]? = some kA ∧ kA.kind = .array comp u ∧ s.vm.findClass ("[" ++ u.toString) = some c ∧ (u.isReference = true → s.vm.findClass (match u with | .object C => C | u => u.toString) = some comp) := by
      intro C hC
      obtain ⟨comp, c, kA, f1, -, f2, f3, f4⟩ := Cond.arrayOver_spec (hns _ hC)
      exact ⟨c, fun u hu => by cases hu; exact ⟨kA, comp, f2, f3, f4, fun _ => f1⟩⟩
    have ar : ∀ t : FieldType, Cond.arrayOver (.array t) ∈ mNL → ∃ c : ClassId, ∀ u : FieldType, (some (.array t) : Option FieldType) = some u → ∃ (kA : Class) (comp : ClassId), s.vm.classes[c]? = some kA ∧ kA.kind = .array comp u ∧ s.vm.findClass ("[" ++ u.toString) = some c ∧ (u.isReference = true → s.vm.findClass (match u with | .object C => C | u => u.toString) = some comp) := by
      intro t hC
      obtain ⟨comp, c, kA, f1, -, f2, f3, f4⟩ := arrayOverA_spec (hns _ hC)
      exact ⟨c, fun u hu => by cases hu; exact ⟨kA, comp, f2, f3, f4, fun _ => f1⟩⟩
    match k with
    | 0 => exact pr _ pg_arr.2.1.1 rfl
    | 1 => exact pr _ pg_arr.2.1.2.1 rfl
    | 2 => exact pr _ pg_arr.2.1.2.2 rfl
    | 3 => exact ar _ (by decide +kernel)
    | 4 => exact ob _ (by decide +kernel)
    | 5 => exact ob _ (by decide +kernel)
    | 6 => exact ob _ (by decide +kernel)
    | 7 => exact ob _ (by decide +kernel)
    | 8 => exact ob _ (by decide +kernel)
    | 9 => exact ob _ (by decide +kernel)
    | k + 10 => exact ⟨0, fun t h => by simp [pgTL] at h⟩
  refine ⟨(fun ci => Classical.choose (hC ci), fun ci => Classical.choose (Classical.choose_spec (hC ci))), fun k => Classical.choose (hA k), ?_, fun k => Classical.choose_spec (hA k), hns⟩
  exact mAr_K (fun ci q hq => Classical.choose_spec (Classical.choose_spec (hC ci)) q hq) (fun k => Classical.choose_spec (hA k))
/-- what is left: the small machine runs the law to 1, in the claim's room -/
def lawRuns (L : Nat) (xs : Nat → Int32) : Prop := ∃ (N d : Nat) (τ : List MC), mRun pg L xs (mExec pg L xs N d) pgLaw N 0 [(0, .ref 0)] [] [] = some (some (.int 1), τ) ∧ τ.length ≤ 600000 ∧ mSl τ ≤ 7302250
theorem start_of_runs {p : Program} {e : Env} {s : State} {m : MethodId} {below : List Frame} {meth : Method} {c : Code} (l : Launch) {b L : Nat} {xs : Nat → Int32} (hrun : lawRuns L xs) (C0 : lw_At p s m meth c b L xs) : W p l e room_1 s m #[Value.ref b] below meth c s.heap [] 0 0 (lw_Z below #[Value.ref b] s) (entryFrame m ([Value.ref b] : List Value).toArray 4) := by
  obtain ⟨hx, hb, hr, hml, hown, hts, hX, hbl, hlocks, hgv⟩ := C0
  obtain ⟨N, d, τ, hrun, hlen, hsl⟩ := hrun
  obtain ⟨D, aC, hK, hAr, hns⟩ := pg_begin hts
  have htT : ∀ w ∈ mTs, w.before #[Value.ref b] s = true := fun w h => hts w (List.mem_filter.mp h).1
  have hH : mHp D vwCl aC b s.heap.size s [] s.heap [] := ⟨fun k q h => by simp [mW] at h, rfl, va_S.rf⟩
  have hl := lv_entry ([.ref b]) (n := 4) (Nat.le_of_ble_eq_true rfl)
  rw [lg_entry_eq]
  generalize (lg_sl ([.ref b]) ++ List.replicate (4 - (lg_sl ([.ref b])).length) Slot.unset).toArray = ls at hl ⊢
  have hl : lv_has ls (mpInfo pg pgLaw).1 (mLvT b s.heap.size [(0, .ref 0)]) := hl
  refine mRun_sound (D := D) (cl := vwCl) (aC := aC) (tyL := pgTL) (Ts := mTs) (Ns := mNL) (nm := pgNm) (byt := pgBy) (rt := pgRt) (b0 := b) (base := s.heap.size) (y := pgLaw) (P := pg) (R := room_1) (call := mExec pg L xs N d) hx hb hml hown htT mTs_good mNL_ok hns pg_ok hK hAr hX hbl (Nat.le_refl _) (fun h => by cases h) (by decide +kernel) (by decide +kernel) (mExec_mono d) (fun y as σ r h hl => mExec_sound mTs_good mNL_ok pg_ok pg_plain hbl d y as σ r h hl) N 0 [(0, .ref 0)] [] [] _ hrun s.heap [] 0 0 ls hH hl (by simpa [room_1] using hlen) (by simpa [room_1, mSl] using hsl) (fun pc1 ls1 st1 H1 locs1 cells1 slots1 ins d1 e1 hH1 hc1 hs1 => ?_)
  have h1 : ins = .ireturn ∧ st1 = [.int 1] := by
    cases ins with
    | ireturn =>
      simp only [mEnd, mEndC] at e1
      split at e1
      · split at e1
        · cases e1; exact ⟨rfl, rfl⟩
        · cases e1
      · cases e1
    | lreturn =>
      simp only [mEnd, mEndC] at e1
      split at e1
      · split at e1 <;> cases e1
      · cases e1
    | areturn =>
      simp only [mEnd, mEndC] at e1
      split at e1
      · split at e1 <;> cases e1
      · split at e1 <;> cases e1
      · cases e1
    | return_ =>
      simp only [mEnd, mEndC] at e1
      split at e1
      · split at e1 <;> cases e1
      · cases e1
    | _ => simp [mEnd, mEndC] at e1
  obtain ⟨rfl, rfl⟩ := h1
  refine va_forget (fun q hq => hH1.2.2.2.2 q hq) ?_
  have h0 : mSl ([] : List MC) = 0 := rfl
  rw [h0] at hs1
  dsimp only at hs1 hc1
  refine W.widen (k := 600000) (n := 7302250) (by simp at hc1; omega) (by omega) ?_
  exact lw_ret hx hb hr hlocks (d1.at (by simp [mLen]))
