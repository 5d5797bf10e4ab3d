/-! the law up to its loop -/
theorem gs_104_4 {d : Nat} {ls t : List Value} {g q : mm_M} {r : mm_R} {y : Nat} (hl : t.length ≤ 4) (hq : mm_Rn pg_G d 32 0 [.ref y] [] (mk_z g) (none, q)) : mm_Rn pg_G (d + 1) 104 4 ls (.ref y :: t) g r ↔ mm_Rn pg_G (d + 1) 104 7 ls t (mk_cl g q) r := rn_spec (g := g) (st := .ref y :: t) tb_104_4 (by decide) rfl ⟨Nat.le_add_left _ t.length, hl, rfl⟩ hq r
theorem gs_104_12 {d : Nat} {ls t : List Value} {g q : mm_M} {r : mm_R} {y : Nat} (hl : t.length ≤ 4) (hq : mm_Rn pg_G d 68 0 [.ref y] [] (mk_z g) (none, q)) : mm_Rn pg_G (d + 1) 104 12 ls (.ref y :: t) g r ↔ mm_Rn pg_G (d + 1) 104 15 ls t (mk_cl g q) r := rn_spec (g := g) (st := .ref y :: t) tb_104_12 (by decide) rfl ⟨Nat.le_add_left _ t.length, hl, rfl⟩ hq r
theorem lw_n1 (s : List Int) (y : Nat) (h : y ≠ 0 ∧ y ≠ 7) : (mk_z (lw_g1 s)).1 y = none := by
  rw [mk_z1, lw_T1 s y h.1]
  unfold lw_T
  rw [if_neg h.2]
theorem lw_n3 (s : List Int) (y : Nat) (h : 9 ≤ y) : (mk_z (lw_g3 s)).1 y = none := by
  rw [mk_z1]
  unfold lw_g3
  rw [mk_a2 (by omega), lw_T2 s y (by omega)]
  unfold lw_T
  rw [if_neg (by omega)]
theorem lw_pre (s : List Int) {d : Nat} {u1 u2 u3 : Value} {r : mm_R} : mm_Rn pg_G (d + 3) 104 0 [.ref 7, u1, u2, u3] [] (lw_g s) r ↔ mm_Rn pg_G (d + 3) 104 18 [.ref 7, .ref 0, .ref 8, io_v 0] [] (lw_g4 s) r := by
  have k32 := sm_k32 (d := d) (g := mk_z (lw_g1 s)) (show (mk_z (lw_g1 s)).1 0 = some (0, 8) from rfl) (lw_n1 s 1 (by decide)) (lw_n1 s 2 (by decide)) (lw_n1 s 3 (by decide)) (lw_n1 s 5 (by decide)) (lw_n1 s 4 (by decide)) (lw_n1 s 6 (by decide))
  have k68 := sm_k68 (d := d + 1) (g := mk_z (lw_g3 s)) (show (mk_z (lw_g3 s)).1 8 = some (6, 35) from rfl) (lw_n3 s 9 (by decide)) (lw_n3 s 10 (by decide)) (lw_n3 s 11 (by decide)) (lw_n3 s 12 (by decide)) (lw_n3 s 13 (by decide)) (lw_n3 s 14 (by decide)) (lw_n3 s 15 (by decide)) (lw_n3 s 16 (by decide)) (lw_n3 s 17 (by decide)) (lw_n3 s 18 (by decide)) (lw_n3 s 19 (by decide)) (lw_n3 s 20 (by decide)) (lw_n3 s 21 (by decide)) (lw_n3 s 22 (by decide)) (lw_n3 s 23 (by decide)) (lw_n3 s 24 (by decide)) (lw_n3 s 25 (by decide)) (lw_n3 s 26 (by decide)) (lw_n3 s 27 (by decide))
  have n8 : (lw_g2 s).1 8 = none := by rw [lw_T2 s 8 (by decide)]; rfl
  rw [st_104_0 (x := 0) rfl rfl, st_104_3 (mm_c1_r _)]
  rw [show (mm_al (lw_g s) 0 0 8 fun k => defaultValue (mm_ft pg_G 0 k)) = lw_g1 s from rfl, gs_104_4 (Nat.le_of_ble_eq_true rfl) k32]
  rw [show mk_cl (lw_g1 s) (mk_32 (mk_z (lw_g1 s)) 0) = lw_g2 s from rfl, st_104_7 (mm_c1_r _), st_104_8 (x := 8) rfl n8, st_104_11 (mm_c1_r _)]
  rw [show (mm_al (lw_g2 s) 8 6 35 fun k => defaultValue (mm_ft pg_G 6 k)) = lw_g3 s from rfl, gs_104_12 (Nat.le_of_ble_eq_true rfl) k68]
  rw [show mk_cl (lw_g3 s) (mk_68 (mk_z (lw_g3 s)) 8) = lw_g4 s from rfl, st_104_15 (mm_c1_r _), st_104_16, st_104_17 (mm_c1_r _)]
