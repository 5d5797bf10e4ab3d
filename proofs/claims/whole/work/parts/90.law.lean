/-! the law's beginning: both objects are made -/
def lw_T (n : Nat) : mm_T := fun y => if y = 7 then some (101, n) else none
def lw_g (s : List Int) : mm_M := (lw_T s.length, sp_V (lw_0 s), 0, 0)
def lw_g1 (s : List Int) : mm_M := mm_al (lw_g s) 0 0 8 fun k => defaultValue (mm_ft pg_G 0 k)
def lw_g2 (s : List Int) : mm_M := mk_cl (lw_g1 s) (mk_32 (mk_z (lw_g1 s)) 0)
def lw_g3 (s : List Int) : mm_M := mm_al (lw_g2 s) 8 6 35 fun k => defaultValue (mm_ft pg_G 6 k)
def lw_g4 (s : List Int) : mm_M := mk_cl (lw_g3 s) (mk_68 (mk_z (lw_g3 s)) 8)
theorem lw_T1 (s : List Int) (y : Nat) (h : y ≠ 0) : (lw_g1 s).1 y = lw_T s.length y := mk_a2 h
theorem lw_T2 (s : List Int) (y : Nat) (h : 7 ≤ y) : (lw_g2 s).1 y = lw_T s.length y := by
  unfold lw_g2 mk_32
  simp (disch := omega) only [mk_w1, mk_c1, mk_z1, mk_21, mk_29, mk_a2]
  exact lw_T1 s y (by omega)
theorem lw_T4 (s : List Int) (y : Nat) (h : 28 ≤ y) : (lw_g4 s).1 y = none := by
  unfold lw_g4 mk_68
  simp (disch := omega) only [mk_w1, mk_c1, mk_z1, mk_a2]
  unfold lw_g3
  rw [mk_a2 (by omega), lw_T2 s y (by omega)]
  unfold lw_T
  rw [if_neg (by omega)]
theorem lw_n30 (s : List Int) : (lw_0 s 30 0).toNat = s.length := by
  unfold lw_0
  rw [if_neg (by decide), if_pos ⟨rfl, rfl⟩]
  omega
theorem lw_4T (s : List Int) : (lw_g4 s).1 = sp_T (lw_0 s) := by
  funext y
  by_cases h : 28 ≤ y
  · rw [lw_T4 s y h]
    unfold sp_T
    by_cases h2 : y < 32
    · rw [if_pos h2]
      rcases (by omega : y = 28 ∨ y = 29 ∨ y = 30 ∨ y = 31) with z | z | z | z <;> subst z <;> rfl
    · rw [if_neg h2, lw_0n, if_neg (by omega)]
  · unfold sp_T
    rw [if_pos (by omega)]
    rcases (by omega : y = 0 ∨ y = 1 ∨ y = 2 ∨ y = 3 ∨ y = 4 ∨ y = 5 ∨ y = 6 ∨ y = 7 ∨ y = 8 ∨ y = 9 ∨ y = 10 ∨ y = 11 ∨ y = 12 ∨ y = 13 ∨ y = 14 ∨ y = 15 ∨ y = 16 ∨ y = 17 ∨ y = 18 ∨ y = 19 ∨ y = 20 ∨ y = 21 ∨ y = 22 ∨ y = 23 ∨ y = 24 ∨ y = 25 ∨ y = 26 ∨ y = 27) with z | z | z | z | z | z | z | z | z | z | z | z | z | z | z | z | z | z | z | z | z | z | z | z | z | z | z | z <;> subst z
    all_goals first
      | rfl
      | (show some (101, s.length) = some (101, (lw_0 s 30 0).toNat); rw [lw_n30])
