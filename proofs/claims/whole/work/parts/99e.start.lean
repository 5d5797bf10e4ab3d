/-! the claim: the law's end, its entry -/
def R_law : String := "StackPolicyKernelLaw"
def lw_P (b : Addr) (xs : List Int32) (args : Array Value) (s : State) : Prop := args = #[.ref b] ∧ s.IntsAt b xs ∧ xs.length ≤ 2560 ∧ (Jvm.Cond.and given_1 narrow_1).before args s = true
def lw_Q (_ : Array Value) (s : State) (o : Outcome) (t : State) : Prop := o = .returned (some (.int 1)) ∧ Framed s o t [] 600000 7302250
def lw_Z (below : List Frame) (a : Array Value) (s : State) : State → Prop := fun t => ∃ o, t.status = .running ∧ Ended t below o ∧ lw_Q a s o t
/-- the law's own end, with 1 on the stack, nothing written that was there before, its room as the claim has it -/
theorem lw_ret {p : Program} {l : Launch} {e : Env} {s : State} {m : MethodId} {below : List Frame} {meth : Method} {c : Code} {b : Nat} (hx : p.tables.exec = Jvm.exec) (hb : c.code = code) (hr : meth.sig.returnType = ret) (hlocks : meth.locks = false) {pc : Nat} {H : Heap} {ls : Array Slot} (hdg : decode code pc = .ok (.ireturn, 1)) : W p l e room_1 s m #[Value.ref b] below meth c H [] 600000 7302250 (lw_Z below #[Value.ref b] s) (F0 m pc ls [.int 1]) := by
  intro T hT X
  obtain ⟨fs, hret, hrun, hended, hW, hframe⟩ := X.leave (v := some (.int 1)) (hlocks := hlocks) (fun h => by rw [hr] at h; cases h)
  have hmeth' : T.vm.method? m = some meth := X.method'
  refine ⟨T.setFrames fs, ?_, .returned (some (.int 1)), hrun, hended, rfl, ⟨_, rfl⟩, hW, hframe⟩
  jvm_step X.here [X.here.top, hx, hb, hdg, hmeth', hr, ret, narrow_b1]
  (try refine ⟨rfl, ?_⟩); (try refine ⟨rfl, ?_⟩)
  first | (intro acts; rw [hret _ acts rfl rfl rfl]) | rw [hret _ _ rfl rfl rfl]
  exact Steps.refl _
/-- what holds at the law's entry: the machine, the code, the tables' words (any of lw_tbl by 'hts w (by decide +kernel)'), the script of L ints xs at the cell b, what the Statement gives of the start (any of its parts by flat_of_before) -/
def lw_At (p : Program) (s : State) (m : MethodId) (meth : Method) (c : Code) (b L : Nat) (xs : Nat → Int32) : Prop :=
  p.tables.exec = Jvm.exec ∧ c.code = code ∧ meth.sig.returnType = ret ∧ c.maxLocals = 4 ∧ s.vm.findClass R_law = some m.cls ∧ (∀ w ∈ lw_tbl, w.before #[Value.ref b] s = true) ∧ va_X b L xs s s.heap ∧ b < s.heap.size ∧ meth.locks = false ∧ (Jvm.Cond.and given_1 narrow_1).before #[Value.ref b] s = true ∧ meth.name = x.name
/-- the script as the machine of our own has it -/
def lw_sc (L : Nat) (xs : Nat → Int32) : List Int := (List.range L).map fun j => (xs j).toInt
theorem lw_sc_len (L : Nat) (xs : Nat → Int32) : (lw_sc L xs).length = L := by unfold lw_sc; rw [List.length_map, List.length_range]
theorem lw_sc_at {L : Nat} {xs : Nat → Int32} {j : Nat} (h : j < L) : (lw_sc L xs).getD j 0 = (xs j).toInt := by
  unfold lw_sc
  rw [List.getD_eq_getElem?_getD, List.getElem?_map, List.getElem?_range h]
  rfl
theorem lw_sc_R (L : Nat) (xs : Nat → Int32) (k : Nat) : io_R ((lw_sc L xs).getD k 0) := by
  by_cases h : k < L
  · rw [lw_sc_at h]
    exact ⟨Int32.le_toInt _, Int32.toInt_lt _⟩
  · rw [List.getD_eq_getElem?_getD, List.getElem?_eq_none (by rw [lw_sc_len]; omega)]
    decide
theorem lw_cls {s : State} {args : Array Value} (hts : ∀ w ∈ pg_AL, w.before args s = true) : ∃ f : Nat → ClassId × (Nat → Nat), ∀ ci, ci < 7 → u_Kn s (mm_ck pg_S ci).1 (mm_ck pg_S ci).2.1 (mm_sl pg_S.1 ci) (f ci).1 (f ci).2 := by
  have h : ∀ ci : Nat, ∃ q : ClassId × (Nat → Nat), ci < 7 → u_Kn s (mm_ck pg_S ci).1 (mm_ck pg_S ci).2.1 (mm_sl pg_S.1 ci) q.1 q.2 := by
    intro ci
    by_cases hc : ci < 7
    · have g := pg_cok ci hc
      obtain ⟨cC, iS, hk⟩ := u_known hts g.1 (hts _ g.2.1)
      exact ⟨(cC, iS), fun _ => hk⟩
    · exact ⟨(0, fun _ => 0), fun z => absurd z hc⟩
  obtain ⟨f, hf⟩ := Classical.axiomOfChoice h
  exact ⟨f, hf⟩
theorem lw_arI {s : State} {args : Array Value} (h : (Cond.arrayClass .int).before args s = true) : ∃ cA : ClassId, ArrOfT s cA .int ∧ va_RA s cA .int := by
  obtain ⟨cA, kA, comp, h1, h2, h3⟩ := Cond.arrayClass_spec h
  exact ⟨cA, fun n z => ⟨fun k h => (by cases h), kA, h2, comp, h3⟩, h1⟩
theorem lw_arO {s : State} {args : Array Value} {C : String} (h : (Cond.arrayOver (.object C)).before args s = true) : ∃ cA : ClassId, ArrOfT s cA (.object C) ∧ va_RA s cA (.object C) ∧ va_AO C s := by
  obtain ⟨comp, cA, kA, h1, -, h2, h3, h4⟩ := Cond.arrayOver_spec h
  exact ⟨cA, fun n z => ⟨fun k h => (by cases h), kA, h2, comp, h3⟩, ⟨kA, comp, h2, h3, h1, h4⟩, va_AO.of h⟩
theorem lw_wT : Cond.arrayOver (.object "StackPolicyKernel$Task") ∈ lw_tbl := by
  unfold lw_tbl
  exact List.mem_append_right _ (by decide +kernel)
theorem lw_wS : Cond.arrayOver (.object "StackPolicyKernel$Section") ∈ lw_tbl := by
  unfold lw_tbl
  exact List.mem_append_right _ (by decide +kernel)
theorem lw_wI : Cond.arrayClass .int ∈ lw_tbl := pg_AL_in _ pg_good.2.2.2.2.1
/-- from the entry, for every script of at most 2560 ints, the law comes to its end with true -/
theorem whole_start {p : Program} {e : Env} {s : State} {m : MethodId} {below : List Frame} {meth : Method} {c : Code} (l : Launch) {b L : Nat} {xs : Nat → Int32} (hL : L ≤ 2560) (C0 : lw_At p s m meth c b L xs) : W p l e room_1 s m #[Value.ref b] below meth c s.heap [] 0 0 (lw_Z below #[Value.ref b] s) (entryFrame m ([Value.ref b] : List Value).toArray 4) := by
  obtain ⟨hx, hbb, hr, hml, hown, hts, hX, hbl, hlocks, hgv, hnm⟩ := C0
  have hal : ∀ w ∈ pg_AL, w.before #[Value.ref b] s = true := fun w hw => hts w (pg_AL_in w hw)
  obtain ⟨f, hf⟩ := lw_cls hal
  obtain ⟨aI, i1, i2⟩ := lw_arI (hts _ lw_wI)
  obtain ⟨aT, t1, t2, t3⟩ := lw_arO (hts _ lw_wT)
  obtain ⟨aS, s1, s2, s3⟩ := lw_arO (hts _ lw_wS)
  obtain ⟨Y, hY⟩ : ∃ Y : mm_Y, Y = ((fun ci => (f ci).1, fun ci => (f ci).2), fun kd => if kd = 100 then aI else if kd = 102 then aT else aS, s.heap.size) := ⟨_, rfl⟩
  have hCK : mm_CK pg_S Y s := by
    subst hY
    refine ⟨hf, ⟨i1, i2⟩, fun kd hk => ?_⟩
    rcases hk with rfl | rfl
    · exact ⟨t1, t2, t3⟩
    · exact ⟨s1, s2, s3⟩
  have hNK : mm_NK pg_S s := by
    intro w hw
    have hb := hts w (pg_NL_in w hw)
    obtain ⟨a, i, y, q, rfl⟩ := pg_NL_good w hw
    exact va_Nw.of rfl hb
  have hY2 : Y.2.2 = s.heap.size := by rw [hY]
  have hF : mm_Fix pg_S Y p room_1 s m #[Value.ref b] meth c 104 7 := ⟨hx, hbb, hml, hown, hal, hnm, hCK, ⟨by decide, hNK⟩, by decide⟩
  obtain ⟨E, c', n', hc', hn', k, hk⟩ := lw_end1 (s := lw_sc L xs) (lw_sc_R L xs) (by rw [lw_sc_len]; exact hL) (u1 := .retAddr 0) (u2 := .retAddr 0) (u3 := .retAddr 0)
  have hHR : mm_HR Y s (fun _ => b) (lw_g (lw_sc L xs)).1 (lw_g (lw_sc L xs)).2.1 s.heap := by
    have hT : ∀ z, (lw_g (lw_sc L xs)).1 z ≠ none → z = 7 := by
      intro z hz
      by_cases e : z = 7
      · exact e
      · exact absurd (show lw_T (lw_sc L xs).length z = none by unfold lw_T; rw [if_neg e]) hz
    refine ⟨fun z kd len hz => ?_, fun z y hz hy _ => (hT z hz).trans (hT y hy).symm⟩
    have e := hT z (by rw [hz]; exact fun w => by cases w)
    subst e
    have e2 : some (101, L) = some (kd, len) := by rw [← hz]; show _ = lw_T (lw_sc L xs).length 7; unfold lw_T; rw [if_pos rfl, lw_sc_len]
    cases e2
    refine ⟨?_, hbl, fun w => absurd rfl w, fun j hj => trivial⟩
    obtain ⟨scr, x1, x2, x3, x4, x5⟩ := hX
    unfold mm_cell
    rw [if_neg (by decide), if_pos rfl]
    refine ⟨scr, x1, x2, x3, x4, fun j hj => ?_⟩
    rw [x5 j hj]
    have : (lw_g (lw_sc L xs)).2.1 7 j = .int (xs j) := by
      show io_v (lw_0 (lw_sc L xs) 7 j) = .int (xs j)
      unfold lw_0
      rw [if_pos rfl, lw_sc_at hj]
      show Value.int (Int32.ofInt (xs j).toInt) = .int (xs j)
      rw [Int32.ofInt_toInt]
    rw [this]
    rfl
  rw [lg_entry_eq]
  refine (mm_all pg_good k _ _ _ _ _ _ _ hk).2 p l e room_1 s m #[Value.ref b] below meth c (lw_Z below #[Value.ref b] s) hF hc' hn' s.heap [] _ (fun _ => b) hHR (by rw [hY2]; exact Nat.le_refl _) (fun q hq => by cases hq) (mm_LR.entry (vs := [.ref 7]) (n := 4) (fun w hw => ?_) (by decide) (fun w hw => ?_)) (fun v hv => by cases hv) ?_
  · rw [List.mem_singleton.mp hw]; rfl
  · rw [List.mem_singleton.mp hw]; exact fun z => by cases z
  intro φ' H' locs' pcR lsR hHR' hB' hL' hE
  refine ⟨fun y hy hb hd => ?_, fun hy => by cases hy⟩
  have ey : y = 1 := by
    cases hy
    rfl
  subst ey
  exact va_forget (fun q hq => by rw [← hY2]; exact hL' q hq) (W.widen hc' hn' (lw_ret hx hbb hr hlocks hd))
