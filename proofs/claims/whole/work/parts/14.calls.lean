/-! calls -/
def mm_Pc (S : mm_S) (Y : mm_Y) (φ : Nat → Nat) (T : mm_T) (V : mm_V) (vs : List Value) : Array Value → State → Prop := fun a U => a = (vs.map (mm_cv φ)).toArray ∧ mm_HR Y U φ T V U.heap ∧ Y.2.2 ≤ U.heap.size ∧ mm_CK S Y U ∧ mm_NK S U
def mm_Qc (Y : mm_Y) (φ : Nat → Nat) (T : mm_T) (r : mm_R) : Array Value → State → Outcome → State → Prop := fun _ _ o t => ∃ φ' : Nat → Nat, o = .returned r.1 ∧ mm_HR Y t φ' r.2.1 r.2.2.1 t.heap ∧ Y.2.2 ≤ t.heap.size ∧ mm_ext φ T φ' r.2.1
abbrev mm_rm (d : Nat) (r : mm_R) : Room := { frames := d, cells := r.2.2.2.1, slots := r.2.2.2.2, locals := 27 * d }
abbrev mm_ws (S : mm_S) (μ : Nat) : List Cond := Cond.code (mm_mn S μ) (mm_mb S μ) (mm_mx S.1 μ) (mm_mr S μ) :: mm_AL S
theorem mm_met {S : mm_S} {Y : mm_Y} {n d μ : Nat} {vs : List Value} {T : mm_T} {V : mm_V} {r : mm_R} (φ : Nat → Nat) (hG : mm_Good S) (ih : mm_IH S Y n) (hμ : μ < mm_nm S) (h : mm_run S.1 n d μ 0 (vs ++ List.replicate (mm_mx S.1 μ - vs.length) (.retAddr 0)) [] (T, V, 0, 0) = some r)
    (hc : ∀ w ∈ vs, mm_ar w = true) (hn : vs.length ≤ mm_mx S.1 μ) (hv : ∀ w ∈ vs, mm_lv T w) (l : Launch) : Met l (mm_mn S μ) (mm_ws S μ) (mm_rm d r) (mm_Pc S Y φ T V vs) (mm_Qc Y φ T r) r.2.2.2.1 r.2.2.2.2 (fun q => Y.2.2 ≤ q) := by
  obtain ⟨⟨hpl, -, -, -, -⟩, -, hret, -⟩ := hG.2.2.2.1.1 μ hμ
  refine Met.ofW (cc := mm_mb S μ) (maxL := mm_mx S.1 μ) (ret := mm_mr S μ) hpl rfl ?_
  intro p e s m args below meth c s₁ B hml hv'
  obtain ⟨rfl, hHR, hB, hCK, hNK⟩ := hv'
  have hts := atoms_spec (ws := mm_ws S μ) B.pre
  have hlocks := B.notSynchronized
  have hF : mm_Fix S Y p (headSpec (mm_ws S μ) (mm_rm d r)).room s m (vs.map (mm_cv φ)).toArray meth c μ d :=
    ⟨B.exec, B.bytes, hml, findClass_of_methodNamed B.named, fun w hw => hts w (List.mem_cons_of_mem _ hw), (name_of_methodNamed B.named B.method).1, hCK, ⟨Nat.le_refl _, hNK⟩, Nat.le_refl _⟩
  rw [lg_entry_eq]
  refine (ih _ _ _ _ _ _ _ h).2 p l e _ s m _ below meth c _ hF (Nat.le_refl _) (Nat.le_refl _) s.heap [] _ φ hHR hB (fun q hq => by cases hq) (mm_LR.entry hc hn hv) (fun v hv => by cases hv) ?_
  intro φ' H' locs' pcR lsR hHR' hB' hL' hE
  refine ⟨fun x hx hb hd => ?_, fun hx hb hd => ?_⟩
  · have hq : ∀ t : State, t.heap = H' → s.WarmedH t.vm → mm_Qc Y φ T r (vs.map (mm_cv φ)).toArray s (.returned (some (.int x))) t := fun t ht hW => ⟨φ', by rw [hx], by rw [ht]; exact hHR'.moved hW.alike, by rw [ht]; exact hB', hE⟩
    rcases hret with ⟨h1, h2⟩ | ⟨h1, h2⟩ | ⟨h1, h2⟩
    · omega
    · exact W.zret (ty := .int) B.exec B.bytes (B.returns.trans h2) rfl hq hL' hd hlocks
    · refine W.zret (ty := .boolean) B.exec B.bytes (B.returns.trans h2) ?_ hq hL' hd hlocks
      rcases hb with hb | ⟨-, rfl | rfl⟩
      · omega
      · rfl
      · rfl
  · rcases hret with ⟨h1, h2⟩ | ⟨h1, h2⟩ | ⟨h1, h2⟩
    · exact W.vret B.exec B.bytes (B.returns.trans h2) (fun t ht hW => ⟨φ', by rw [hx], by rw [ht]; exact hHR'.moved hW.alike, by rw [ht]; exact hB', hE⟩) hL' hd hlocks
    · omega
    · omega
theorem mm_blind {S : mm_S} {Y : mm_Y} {φ : Nat → Nat} {T : mm_T} {V : mm_V} {vs : List Value} (hn : mm_NG S) : FrameBlind (mm_Pc S Y φ T V vs) := by
  intro a U g mk h
  obtain ⟨h1, h2, h3, h4, h5⟩ := h
  exact ⟨h1, mm_HR.moved (u := U) (U := U.calling g mk a) (Vm.Alike.refl U.vm) h2, h3, mm_CK.moved (u := U) (U := U.calling g mk a) (Vm.Alike.refl U.vm) h4, mm_NK.same (s := U) (U := U.calling g mk a) hn rfl h5⟩
theorem mm_goodin {S : mm_S} {μ : Nat} (hG : mm_Good S) (hμ : μ < mm_nm S) : GoodIn (mm_AL S) (mm_ws S μ) := by
  intro w hw
  rcases List.mem_cons.mp hw with rfl | h
  · have hc := (hG.2.2.2.1.1 μ hμ).1.2.1
    exact ⟨hc, hG.2.1 _ hc⟩
  · exact ⟨h, hG.2.1 _ h⟩
theorem mm_int_cv {φ : Nat → Nat} {o : Option Value} (h : o = none ∨ ∃ x, o = some (.int x)) : o.toList.map (mm_cv φ) = o.toList := by
  rcases h with rfl | ⟨x, rfl⟩ <;> rfl
theorem mm_int_lv {T : mm_T} {o : Option Value} (h : o = none ∨ ∃ x, o = some (.int x)) : ∀ v ∈ o.toList, mm_lv T v := by
  rcases h with rfl | ⟨x, rfl⟩
  · intro v hv; cases hv
  · intro v hv
    rw [show (some (Value.int x)).toList = [Value.int x] from rfl, List.mem_singleton] at hv
    rw [hv]; trivial
theorem mm_take_ref {st : List Value} {k x : Nat} (h : st[k]? = some (.ref x)) : st.take (k + 1) = st.take k ++ [.ref x] := by
  rw [List.take_succ, h]
  rfl
/-- behind a call -/
theorem mm_after {S : mm_S} {Y : mm_Y} {n d μ pc k : Nat} {ls st : List Value} {g : mm_M} {q r : mm_R} (ih : mm_IH S Y n) (hres : q.1 = none ∨ ∃ x, q.1 = some (.int x))
    (hk : mm_run S.1 n d μ (pc + 3) ls (q.1.toList ++ st.drop k) (q.2.1, q.2.2.1, g.2.2.1 + q.2.2.2.1, g.2.2.2 + q.2.2.2.2) = some r)
    {p : Program} {l : Launch} {e : Env} {R : Room} {s : State} {m : MethodId} {args : Array Value} {below : List Frame} {meth : Method} {c : Code} {Q : State → Prop} {H : Heap} {locs : List Loc} {lsA : Array Slot} {φ : Nat → Nat} {a : Array Value}
    (hF : mm_Fix S Y p R s m args meth c μ d) (hc : r.2.2.2.1 ≤ R.cells) (hs : r.2.2.2.2 ≤ R.slots) (hL : ∀ q ∈ locs, Y.2.2 ≤ q.base) (hLR : mm_LR φ g.1 ls lsA (mm_mx S.1 μ)) (hst : ∀ v ∈ st, mm_lv g.1 v) (hret : mm_Ret S Y p l e R s m args below meth c Q μ φ g.1 r)
    (hrun : va_Run p l e R s m args below meth c H locs g.2.2.1 g.2.2.2 q.2.2.2.1 q.2.2.2.2 (F0 m pc lsA (st.map (mm_cv φ))) ((st.drop k).map (mm_cv φ)) (mm_Qc Y φ g.1 q a) (fun x => Y.2.2 ≤ x)) :
    W p l e R s m args below meth c H locs g.2.2.1 g.2.2.2 Q (F0 m pc lsA (st.map (mm_cv φ))) := by
  intro T0 hT0 X
  obtain ⟨v, st₀, t, T', L, h0, X', hL2, e1, e2, ⟨φ', ho, hHR', hB', hE⟩, go⟩ := hrun T0 hT0 X
  cases ho
  have hdr : ∀ v ∈ st.drop k, mm_lv g.1 v := fun v hv => hst v (List.mem_of_mem_drop hv)
  have hal : t.vm.Alike s.vm := by rw [← e2]; exact X'.warmed.alike.symm
  have h1 := (ih _ _ _ _ _ _ _ hk).2 p l e R s m args below meth c Q hF hc hs T'.heap (locs ++ L) lsA φ' (by rw [e1]; exact hHR'.moved hal) (by rw [e1]; exact hB')
    (fun q hq => by
      rcases List.mem_append.mp hq with h | h
      · exact hL q h
      · exact hL2 q h) (hLR.ext hE) (fun v hv => by
      rcases List.mem_append.mp hv with h | h
      · exact mm_int_lv hres v h
      · exact mm_lv_ext hE (hdr v h)) (hret.ext hE)
  obtain ⟨t2, a1, b1⟩ := h1 T' rfl X'
  rw [List.map_append, mm_int_cv hres, mm_map_ext hE hdr] at a1
  exact ⟨t2, go t2 a1, b1⟩
