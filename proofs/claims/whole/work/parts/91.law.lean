/-! the law's beginning: values -/
theorem lw_4a (s : List Int) (y j : Nat) (h : y < 8 ∨ 28 ≤ y) : (lw_g4 s).2.1 y j = (lw_g2 s).2.1 y j := by
  unfold lw_g4 mk_68
  simp (disch := omega) only [mk_cv, mk_zv, mk_v2, mk_av]
  unfold lw_g3
  rw [mk_av (by omega)]
theorem lw_2a (s : List Int) (y j : Nat) (h : 7 ≤ y) : (lw_g2 s).2.1 y j = sp_V (lw_0 s) y j := by
  unfold lw_g2 mk_32
  simp (disch := omega) only [mk_cv, mk_zv, mk_v2, mk_av, mk_21, mk_29]
  unfold lw_g1
  rw [mk_av (by omega)]
  rfl
theorem lw_zv (s : List Int) (x k : Nat) (h : x ≠ 7 ∧ x ≠ 30) : io_v (lw_0 s x k) = io_v 0 := by rw [lw_00 s h]
theorem lw_arr (s : List Int) {y : Nat} (h : y = 2 ∨ y = 4 ∨ y = 6 ∨ (9 ≤ y ∧ y ≤ 27)) (j : Nat) : sp_V (lw_0 s) y j = io_v 0 := by
  have e := lw_zv s y j (by omega)
  unfold sp_V
  rw [if_pos (by omega)]
  unfold sp_V0
  split <;> first | omega | exact e
theorem mk_ft0 {j : Nat} (h : 8 ≤ j) : defaultValue (mm_ft pg_G 0 j) = io_v 0 := by
  obtain ⟨k, rfl⟩ : ∃ k, j = k + 8 := ⟨j - 8, by omega⟩
  rfl
theorem mk_ft1 {j : Nat} (h : 9 ≤ j) : defaultValue (mm_ft pg_G 1 j) = io_v 0 := by
  obtain ⟨k, rfl⟩ : ∃ k, j = k + 9 := ⟨j - 9, by omega⟩
  rfl
theorem mk_ft2 {j : Nat} (h : 4 ≤ j) : defaultValue (mm_ft pg_G 2 j) = io_v 0 := by
  obtain ⟨k, rfl⟩ : ∃ k, j = k + 4 := ⟨j - 4, by omega⟩
  rfl
theorem mk_ft6 {j : Nat} (h : 35 ≤ j) : defaultValue (mm_ft pg_G 6 j) = io_v 0 := by
  obtain ⟨k, rfl⟩ : ∃ k, j = k + 35 := ⟨j - 35, by omega⟩
  rfl
theorem lw_v1 (s : List Int) (j : Nat) : (lw_g2 s).2.1 1 j = sp_V (lw_0 s) 1 j := by
  have e : sp_V (lw_0 s) 1 j = .null := by
    show (if j < sp_n (lw_0 s) then Value.ref (ad_t j) else Value.null) = Value.null
    rw [lw_0n, if_neg (by omega)]
  rw [e]
  unfold lw_g2 mk_32
  simp (disch := omega) only [mk_cv, mk_zv, mk_v2, mk_av, mk_aa, mk_21, mk_29]
theorem lw_v246 (s : List Int) (y j : Nat) (h : y = 2 ∨ y = 4 ∨ y = 6) : (lw_g2 s).2.1 y j = sp_V (lw_0 s) y j := by
  rw [lw_arr s (by omega)]
  unfold lw_g2 mk_32
  rcases h with z | z | z <;> subst z <;> simp (disch := omega) only [mk_cv, mk_zv, mk_v2, mk_av, mk_aa, mk_21, mk_29] <;> rfl
theorem lw_v0 (s : List Int) (j : Nat) : (lw_g2 s).2.1 0 j = sp_V (lw_0 s) 0 j := by
  have e := lw_zv s 0 j (by decide)
  rcases (by omega : j = 0 ∨ j = 1 ∨ j = 2 ∨ j = 3 ∨ (4 ≤ j ∧ j ≤ 7) ∨ 8 ≤ j) with z | z | z | z | z | z
  · subst z; rfl
  · subst z; rfl
  · subst z; rfl
  · subst z; rfl
  · have e2 : sp_V (lw_0 s) 0 j = io_v 0 := by
      rw [← e]
      rcases (by omega : j = 4 ∨ j = 5 ∨ j = 6 ∨ j = 7) with y | y | y | y <;> subst y <;> rfl
    rw [e2]
    rcases (by omega : j = 4 ∨ j = 5 ∨ j = 6 ∨ j = 7) with y | y | y | y <;> subst y <;> rfl
  · have e2 : sp_V (lw_0 s) 0 j = io_v 0 := by
      rw [← e]
      obtain ⟨k, rfl⟩ : ∃ k, j = k + 8 := ⟨j - 8, by omega⟩
      rfl
    rw [e2]
    unfold lw_g2 mk_32 lw_g1
    simp (disch := omega) only [mk_cv, mk_zv, mk_v2, mk_v3, mk_av, mk_aa, mk_21, mk_29, mk_ft0]
theorem lw_v3 (s : List Int) (j : Nat) : (lw_g2 s).2.1 3 j = sp_V (lw_0 s) 3 j := by
  have e := lw_zv s 3 j (by decide)
  by_cases z0 : j = 0
  · subst z0; rfl
  · have e2 : sp_V (lw_0 s) 3 j = io_v 0 := by
      rw [← e]
      obtain ⟨k, rfl⟩ : ∃ k, j = k + 1 := ⟨j - 1, by omega⟩
      rfl
    rw [e2]
    rcases (by omega : (1 ≤ j ∧ j ≤ 8) ∨ 9 ≤ j) with z | z
    · rcases (by omega : j = 1 ∨ j = 2 ∨ j = 3 ∨ j = 4 ∨ j = 5 ∨ j = 6 ∨ j = 7 ∨ j = 8) with y | y | y | y | y | y | y | y <;> subst y <;> rfl
    · unfold lw_g2 mk_32
      simp (disch := omega) only [mk_cv, mk_zv, mk_v2, mk_v3, mk_av, mk_aa, mk_21, mk_29, mk_ft1]
theorem lw_v5 (s : List Int) (j : Nat) : (lw_g2 s).2.1 5 j = sp_V (lw_0 s) 5 j := by
  have e := lw_zv s 5 j (by decide)
  by_cases z0 : j = 0
  · subst z0; rfl
  · have e2 : sp_V (lw_0 s) 5 j = io_v 0 := by
      rw [← e]
      obtain ⟨k, rfl⟩ : ∃ k, j = k + 1 := ⟨j - 1, by omega⟩
      rfl
    rw [e2]
    rcases (by omega : (1 ≤ j ∧ j ≤ 3) ∨ 4 ≤ j) with z | z
    · rcases (by omega : j = 1 ∨ j = 2 ∨ j = 3) with y | y | y <;> subst y <;> rfl
    · unfold lw_g2 mk_32
      simp (disch := omega) only [mk_cv, mk_zv, mk_v2, mk_v3, mk_av, mk_aa, mk_21, mk_29, mk_ft2]
theorem lw_v8 (s : List Int) (j : Nat) : (lw_g4 s).2.1 8 j = sp_V (lw_0 s) 8 j := by
  have e := lw_zv s 8 j (by decide)
  by_cases z : 35 ≤ j
  · have e2 : sp_V (lw_0 s) 8 j = io_v 0 := by
      rw [← e]
      obtain ⟨k, rfl⟩ : ∃ k, j = k + 35 := ⟨j - 35, by omega⟩
      rfl
    rw [e2]
    unfold lw_g4 mk_68 lw_g3
    simp (disch := omega) only [mk_cv, mk_zv, mk_v2, mk_v3, mk_av, mk_aa, mk_ft6]
  · have hz : ∀ k, lw_0 s 8 k = 0 := fun k => lw_00 s (by decide)
    rcases (by omega : j = 0 ∨ j = 1 ∨ j = 2 ∨ j = 3 ∨ j = 4 ∨ j = 5 ∨ j = 6 ∨ j = 7 ∨ j = 8 ∨ j = 9 ∨ j = 10 ∨ j = 11 ∨ j = 12 ∨ j = 13 ∨ j = 14 ∨ j = 15 ∨ j = 16 ∨ j = 17 ∨ j = 18 ∨ j = 19 ∨ j = 20 ∨ j = 21 ∨ j = 22 ∨ j = 23 ∨ j = 24 ∨ j = 25 ∨ j = 26 ∨ j = 27 ∨ j = 28 ∨ j = 29 ∨ j = 30 ∨ j = 31 ∨ j = 32 ∨ j = 33 ∨ j = 34) with y | y | y | y | y | y | y | y | y | y | y | y | y | y | y | y | y | y | y | y | y | y | y | y | y | y | y | y | y | y | y | y | y | y | y <;> subst y
    all_goals rfl
theorem lw_v9 (s : List Int) (y j : Nat) (h : 9 ≤ y ∧ y ≤ 27) : (lw_g4 s).2.1 y j = sp_V (lw_0 s) y j := by
  rw [lw_arr s (by omega)]
  unfold lw_g4 mk_68
  rcases (by omega : y = 9 ∨ y = 10 ∨ y = 11 ∨ y = 12 ∨ y = 13 ∨ y = 14 ∨ y = 15 ∨ y = 16 ∨ y = 17 ∨ y = 18 ∨ y = 19 ∨ y = 20 ∨ y = 21 ∨ y = 22 ∨ y = 23 ∨ y = 24 ∨ y = 25 ∨ y = 26 ∨ y = 27) with z | z | z | z | z | z | z | z | z | z | z | z | z | z | z | z | z | z | z <;> subst z <;> simp (disch := omega) only [mk_cv, mk_zv, mk_v2, mk_av, mk_aa] <;> rfl
theorem lw_4V (s : List Int) : (lw_g4 s).2.1 = sp_V (lw_0 s) := by
  funext y j
  by_cases h8 : y = 8
  · subst h8; exact lw_v8 s j
  by_cases h9 : 9 ≤ y ∧ y ≤ 27
  · exact lw_v9 s y j h9
  rw [lw_4a s y j (by omega)]
  by_cases h7 : 7 ≤ y
  · exact lw_2a s y j h7
  rcases (by omega : y = 0 ∨ y = 1 ∨ y = 3 ∨ y = 5 ∨ (y = 2 ∨ y = 4 ∨ y = 6)) with z | z | z | z | z
  · subst z; exact lw_v0 s j
  · subst z; exact lw_v1 s j
  · subst z; exact lw_v3 s j
  · subst z; exact lw_v5 s j
  · exact lw_v246 s y j z
theorem mk_sw {g : mm_M} {x k : Nat} {v : Value} : (mm_wr g x k v).2.2.2 = g.2.2.2 := rfl
theorem mk_sa {g : mm_M} {x kd len : Nat} {z : Nat → Value} : (mm_al g x kd len z).2.2.2 = g.2.2.2 + len := rfl
theorem mk_sc {g q : mm_M} : (mk_cl g q).2.2.2 = g.2.2.2 + q.2.2.2 := rfl
theorem mk_sz {g : mm_M} : (mk_z g).2.2.2 = 0 := rfl
theorem mk_sg (s : List Int) : (lw_g s).2.2.2 = 0 := rfl
theorem lw_4s (s : List Int) : (lw_g4 s).2.2.2 ≤ 2000 := by
  unfold lw_g4 mk_68 lw_g3 lw_g2 mk_32 lw_g1
  simp only [mk_sw, mk_sa, mk_sc, mk_sz, mk_sg, mk_21, mk_29]
  omega
theorem lw_4e (s : List Int) : ∃ c n, lw_g4 s = sp_me (lw_0 s) c n ∧ c ≤ 100 ∧ n ≤ 2000 := by
  refine ⟨(lw_g4 s).2.2.1, (lw_g4 s).2.2.2, ?_, ?_, ?_⟩
  · unfold sp_me
    rw [← lw_4T, ← lw_4V]
  · show 27 ≤ 100
    decide
  · exact lw_4s s
