/-! one memory for both: a class's call leaves the reference's cells, a reference's call the class's -/
def cl_cell (u : Nat) : Prop := u < 7 ∨ 32 ≤ u
def rf_cell (u : Nat) : Prop := 8 ≤ u ∧ u ≤ 27
theorem rl_co {I I' J J' : sp_I} (e : ∀ u v, cl_cell u → I' u v = I u v) (f : ∀ u v, rf_cell u → J' u v = J u v) (hR : sp_R I') (hRJ : sp_R J') (h : rl I J) : rl I' J' := by
  unfold cl_cell at e
  unfold rf_cell at f
  obtain ⟨-, -, hc, hm, hC, h5⟩ := rl_split.1 h
  have e51 : I' 5 1 = I 5 1 := e 5 1 (by omega)
  have en : sp_n I' = sp_n I := by unfold sp_n; rw [e 0 4 (by omega)]
  refine rl_split.2 ⟨hR, hRJ, ?_, ⟨fun j hj => ?_, fun j a b => ?_⟩, ?_, by rw [e51]; exact h5⟩
  · rw [e51, rlc_co (I := I) (J := J) (fun u v q => e u v (by omega)) (fun u v q => f u v (by omega))]
    exact hc
  · rw [en] at hj
    rw [e51, e _ _ (by unfold ad_t; omega), f 25 j (by omega)]
    exact hm.1 j hj
  · rw [en] at a
    rw [f 25 j (by omega)]
    exact hm.2 j a b
  · obtain ⟨⟨q1, q2, q3, q4⟩, q5, q6, q7⟩ := hC
    unfold rl_C
    rw [e51, e 5 2 (by omega), e 5 3 (by omega), f 8 9 (by omega), f 8 33 (by omega), f 8 31 (by omega), f 8 32 (by omega)]
    refine ⟨⟨q1, q2, q3, q4⟩, q5, q6, fun k hk => ?_⟩
    rw [e 6 k (by omega), f 27 k (by omega)]
    exact q7 k hk
/-- what the law's loop keeps behind m calls: M is the whole memory, s the script -/
def lw_in (s : List Int) (m : Nat) (M : sp_I) : Prop := rl M M ∧ (M 0 5 = 0 → ∀ j, j < sp_n M → M (ad_j j) 1 = 0) ∧ M 0 6 ≤ m ∧ M 5 1 ≤ 200 * m ∧ (∀ k, M 7 k = s.getD k 0) ∧ M 30 0 = s.length
/-- a call that leaves the memory as it is -/
theorem lw_same {s : List Int} {m : Nat} {M : sp_I} (h : lw_in s m M) : lw_in s (m + 1) M := by
  obtain ⟨a, b, c, d, e, f⟩ := h
  exact ⟨a, b, by omega, by omega, e, f⟩
/-- the class's call led to C, the reference's from C to E -/
theorem lw_two {s : List Int} {m : Nat} {M C E X Y : sp_I} (h : lw_in s m M) (hr : rl X Y) (ex : ∀ u v, cl_cell u → X u v = E u v) (ey : ∀ u v, rf_cell u → Y u v = E u v) (hE : sp_R E) (h7 : ∀ u v, u = 7 ∨ u = 30 → E u v = M u v) (hns : E 0 5 = 0 → ∀ j, j < sp_n E → E (ad_j j) 1 = 0) (h6 : E 0 6 ≤ M 0 6 + 1) (h5 : E 5 1 ≤ M 5 1 + 200) : lw_in s (m + 1) E := by
  obtain ⟨a, b, c, d, e, f⟩ := h
  refine ⟨rl_co (fun u v q => (ex u v q).symm) (fun u v q => (ey u v q).symm) hE hE hr, hns, by omega, by omega, fun k => ?_, ?_⟩
  · rw [h7 7 k (by omega)]; exact e k
  · rw [h7 30 0 (by omega)]; exact f
/-- the memory at the beginning -/
def lw_0 (s : List Int) : sp_I := fun u v => if u = 7 then s.getD v 0 else if u = 30 ∧ v = 0 then s.length else 0
theorem lw_00 (s : List Int) {u v : Nat} (h : u ≠ 7 ∧ u ≠ 30) : lw_0 s u v = 0 := by
  unfold lw_0
  rw [if_neg h.1, if_neg (fun z => h.2 z.1)]
theorem lw_0n (s : List Int) : sp_n (lw_0 s) = 0 := by unfold sp_n; rw [lw_00 s (by decide)]; rfl
theorem rf_ce_0 (s : List Int) (r : Int) : rf_ce (lw_0 s) r = 0 := by
  unfold rf_ce
  rw [show rf_n (lw_0 s) = 0 by unfold rf_n; rw [lw_00 s (by decide)]; rfl]
  rfl
theorem lw_0in (s : List Int) (hs : ∀ k, io_R (s.getD k 0)) (hl : s.length ≤ 2560) : lw_in s 0 (lw_0 s) := by
  have z : ∀ u v, u ≠ 7 ∧ u ≠ 30 → lw_0 s u v = 0 := fun u v h => lw_00 s h
  have hR : sp_R (lw_0 s) := fun u v => by
    unfold lw_0
    split
    · exact hs v
    · split
      · omega
      · decide
  have n0 := lw_0n s
  refine ⟨rl_split.2 ⟨hR, hR, ⟨⟨⟨?_, ?_⟩, ?_, ?_, ?_, ?_⟩, ?_, ?_, ?_, ?_, ?_, ?_, ?_, ?_⟩, ⟨?_, ?_⟩, ⟨?_, ?_, ?_, ?_⟩, ?_⟩, ?_, ?_, ?_, ?_, ?_⟩
  · rw [z 0 4 (by decide)]; decide
  · rw [z 8 0 (by decide), z 0 4 (by decide)]
  · intro i hi; rw [n0] at hi; omega
  · intro i _ _; rw [z 12 i (by omega), z 10 i (by omega)]; exact ⟨rfl, rfl⟩
  · intro k _; rw [z 13 k (by omega), z 14 k (by omega), z 15 k (by omega)]; decide
  · intro r _; rw [z 2 r (by omega), rf_ce_0]
  · unfold rl_V cl_V cl_nd
    simp (disch := omega) only [z]
    refine ⟨⟨by decide, by decide, by decide, by decide, by decide, by decide, by decide, by decide, fun _ _ => by decide⟩, by decide, fun k hk => absurd hk (by omega), fun _ _ => by decide, Or.inl (by decide), by decide, by decide⟩
  · unfold rl_K'
    simp (disch := omega) only [z]
    decide
  · intro i hi; rw [n0] at hi; omega
  · intro i _ _
    unfold rl_Z'
    simp (disch := omega) only [z]
    decide
  · intro j i hj; rw [n0] at hj; omega
  · intro j i hj; rw [n0] at hj; omega
  · intro j i hj; rw [n0] at hj; omega
  · intro j i hj; rw [n0] at hj; omega
  · intro i hi; rw [n0] at hi; omega
  · intro i _ _; rw [z 25 i (by omega)]
  · simp (disch := omega) only [z]; decide
  · simp (disch := omega) only [z]; decide
  · simp (disch := omega) only [z]; decide
  · intro k _; rw [z 6 k (by omega), z 27 k (by omega)]
  · rw [z 5 1 (by decide)]; decide
  · intro _ j hj; rw [n0] at hj; omega
  · rw [z 0 6 (by decide)]; decide
  · rw [z 5 1 (by decide)]; decide
  · intro k; unfold lw_0; rw [if_pos rfl]
  · unfold lw_0; rw [if_neg (by decide), if_pos ⟨rfl, rfl⟩]
