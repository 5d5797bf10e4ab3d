/-! the class's jobs, server, trace -/
section JB
variable {I : sp_I} {d i k : Nat}
theorem sp_22 (hR : sp_R I) : mm_Rn pg_G d 22 0 [.ref 3] [] (sp_me I 0 0) (some (io_v (pb_z (0 < I 3 3))), sp_me I 0 0) := by
  simp (disch := (first | assumption | exact mm_c1_i _ | exact mm_c1_r _ | exact mm_c1_u _ | omega | exact hR _ _ | exact Nat.le_of_ble_eq_true rfl | decide | rfl | exact pb_dec _)) only [st_22_0, sm_22_1, st_22_4, st_22_7, st_22_8, st_22_11, st_22_12, reduceIte, Int.reduceEq, Int.reduceLE, Int.reduceLT, Int.reduceAdd, Int.reduceSub, Int.reduceMul, Int.reduceNeg, Int.reduceToNat, io_add, io_sub, io_mul, io_lt, io_le, io_eq, io_lt0, io_le0, io_0lt, io_0le, io_eq0, io_max2, Int.toNat_natCast, Nat.add_zero, Nat.zero_add]
  split
  · rw [pb_neg (by omega)]
  · rw [pb_pos (by omega)]
theorem sp_23 {a b : Int} : mm_Rn pg_G d 23 0 [.ref 3, io_v a, io_v b] [] (sp_me I 0 0) (none, sp_me (up_I (up_I (up_I I 3 3 a) 3 4 b) 3 5 a) 0 0) := by
  simp (disch := (first | assumption | exact mm_c1_i _ | exact mm_c1_r _ | exact mm_c1_u _ | omega | exact hR _ _ | exact Nat.le_of_ble_eq_true rfl | decide | rfl | exact pb_dec _ | (simp only [sp_n_t, sp_n_j, sp_n_c, sp_n_s, sp_n_k]; assumption) | (simp only [ad_t, ad_a, ad_j, ad_c, ad_s]; omega))) only [st_23_0, st_23_1, sm_23_2, st_23_5, st_23_6, sm_23_7, st_23_10, st_23_11, sm_23_12, st_23_15, reduceIte, Int.reduceEq, Int.reduceLE, Int.reduceLT, Int.reduceAdd, Int.reduceSub, Int.reduceMul, Int.reduceNeg, Int.reduceToNat, io_add, io_sub, io_mul, io_lt, io_le, io_eq, io_lt0, io_le0, io_0lt, io_0le, io_eq0, io_max2, Int.toNat_natCast, Nat.add_zero, Nat.zero_add, up_same, up_slot, up_cell]
theorem sp_25 {a : Int} (h : 0 ≤ I 3 1 + a ∧ I 3 1 + a < 2147483648) : mm_Rn pg_G d 25 0 [.ref 3, io_v a] [] (sp_me I 0 0) (some (io_v ((I 3 1 + a) % 8)), sp_me I 0 0) := by
  simp (disch := (first | assumption | exact mm_c1_i _ | exact mm_c1_r _ | exact mm_c1_u _ | omega | exact hR _ _ | exact Nat.le_of_ble_eq_true rfl | decide | rfl | exact pb_dec _)) only [st_25_0, sm_25_1, st_25_4, st_25_5, st_25_6, st_25_8, st_25_9, reduceIte, Int.reduceEq, Int.reduceLE, Int.reduceLT, Int.reduceAdd, Int.reduceSub, Int.reduceMul, Int.reduceNeg, Int.reduceToNat, io_add, io_sub, io_mul, io_lt, io_le, io_eq, io_lt0, io_le0, io_0lt, io_0le, io_eq0, io_max2, Int.toNat_natCast, Nat.add_zero, Nat.zero_add, io_and7 h]
theorem sp_31 (hR : sp_R I) {a : Int} (ha : io_R a) (h0 : 0 ≤ I 5 1) : mm_Rn pg_G d 31 0 [.ref 5, io_v a] [] (sp_me I 0 0) (some (io_v (if 0 ≤ a ∧ a < 64 ∧ a < I 5 1 then I 6 ((I 5 1 - 1 - a) % 64).toNat else -1)), sp_me I 0 0) := by
  have h5 := hR 5 1
  by_cases h : 0 ≤ a ∧ a < 64 ∧ a < I 5 1
  · rw [if_pos h]
    simp (disch := (first | assumption | exact mm_c1_i _ | exact mm_c1_r _ | exact mm_c1_u _ | omega | exact hR _ _ | exact Nat.le_of_ble_eq_true rfl | decide | rfl | exact pb_dec _)) only [st_31_0, st_31_1, st_31_4, st_31_5, st_31_7, st_31_10, st_31_11, sm_31_12, st_31_15, st_31_18, st_31_19, st_31_20, sm_31_21, st_31_24, sm_31_25, st_31_28, st_31_29, st_31_30, st_31_31, st_31_32, st_31_34, sm_31_35, st_31_36, reduceIte, Int.reduceEq, Int.reduceLE, Int.reduceLT, Int.reduceAdd, Int.reduceSub, Int.reduceMul, Int.reduceNeg, Int.reduceToNat, io_add, io_sub, io_mul, io_lt, io_le, io_eq, io_lt0, io_le0, io_0lt, io_0le, io_eq0, io_max2, Int.toNat_natCast, Nat.add_zero, Nat.zero_add, io_and63 (show 0 ≤ I 5 1 - 1 - a ∧ I 5 1 - 1 - a < 2147483648 by omega)]
    rw [if_neg (by omega), if_neg (by omega), if_pos (by omega)]; trivial
  · rw [if_neg h]
    simp (disch := (first | assumption | exact mm_c1_i _ | exact mm_c1_r _ | exact mm_c1_u _ | omega | exact hR _ _ | exact Nat.le_of_ble_eq_true rfl | decide | rfl | exact pb_dec _)) only [st_31_0, st_31_1, st_31_4, st_31_5, st_31_7, st_31_10, st_31_11, sm_31_12, st_31_15, st_31_18, st_31_19, sm_31_21, st_31_24, sm_31_25, st_31_28, st_31_29, st_31_30, st_31_31, st_31_32, st_31_34, sm_31_35, st_31_36, reduceIte, Int.reduceEq, Int.reduceLE, Int.reduceLT, Int.reduceAdd, Int.reduceSub, Int.reduceMul, Int.reduceNeg, Int.reduceToNat, io_add, io_sub, io_mul, io_lt, io_le, io_eq, io_lt0, io_le0, io_0lt, io_0le, io_eq0, io_max2, Int.toNat_natCast, Nat.add_zero, Nat.zero_add]
    repeat' split
    all_goals first | rfl | trivial | omega
theorem sp_7l (hi : i < sp_n I) : ∀ (m q : Nat) (J : sp_I), q + m = 6 → i < sp_n J → ∀ x y z : Value, mm_c1 z = true → mm_Rn pg_G d 7 35 [.ref (ad_j i), x, y, z, io_v q] [] (sp_me J 0 0) (none, sp_me (fun u v => if u = ad_c i ∧ q ≤ v ∧ v < 6 then 0 else J u v) 0 0)
  | 0, q, J, hm, hj, x, y, z, hz => by
    rw [st_7_35]
    simp (disch := (first | assumption | exact mm_c1_i _ | exact mm_c1_r _ | exact mm_c1_u _ | omega | exact hR _ _ | exact Nat.le_of_ble_eq_true rfl | decide | rfl | exact pb_dec _)) only [st_7_0, st_7_1, sm_7_2, st_7_5, st_7_6, sm_7_7, st_7_10, st_7_11, sm_7_12, st_7_15, st_7_16, st_7_17, st_7_18, sm_7_19, st_7_22, st_7_23, sm_7_24, st_7_27, st_7_28, sm_7_29, st_7_32, st_7_33, st_7_37, st_7_39, st_7_42, sm_7_43, st_7_46, st_7_48, sm_7_49, st_7_50, st_7_53, st_7_56, reduceIte, Int.reduceEq, Int.reduceLE, Int.reduceLT, Int.reduceAdd, Int.reduceSub, Int.reduceMul, Int.reduceNeg, Int.reduceToNat, io_add, io_sub, io_mul, io_lt, io_le, io_eq, io_lt0, io_le0, io_0lt, io_0le, io_eq0, io_max2, Int.toNat_natCast, Nat.add_zero, Nat.zero_add]
    rw [if_pos (by omega)]
    congr 2
    funext u v
    rw [if_neg (by omega)]
  | m + 1, q, J, hm, hj, x, y, z, hz => by
    rw [st_7_35]
    simp (disch := (first | assumption | exact mm_c1_i _ | exact mm_c1_r _ | exact mm_c1_u _ | omega | exact hR _ _ | exact Nat.le_of_ble_eq_true rfl | decide | rfl | exact pb_dec _ | (simp only [sp_n_t, sp_n_j, sp_n_c, sp_n_s, sp_n_k]; assumption) | (simp only [ad_t, ad_a, ad_j, ad_c, ad_s]; omega))) only [st_7_0, st_7_1, sm_7_2, st_7_5, st_7_6, sm_7_7, st_7_10, st_7_11, sm_7_12, st_7_15, st_7_16, st_7_17, st_7_18, sm_7_19, st_7_22, st_7_23, sm_7_24, st_7_27, st_7_28, sm_7_29, st_7_32, st_7_33, st_7_37, st_7_39, st_7_42, sm_7_43, st_7_46, st_7_48, sm_7_49, st_7_50, st_7_53, st_7_56, reduceIte, Int.reduceEq, Int.reduceLE, Int.reduceLT, Int.reduceAdd, Int.reduceSub, Int.reduceMul, Int.reduceNeg, Int.reduceToNat, io_add, io_sub, io_mul, io_lt, io_le, io_eq, io_lt0, io_le0, io_0lt, io_0le, io_eq0, io_max2, Int.toNat_natCast, Nat.add_zero, Nat.zero_add, up_same, up_slot, up_cell]
    rw [if_neg (by omega)]
    have ih := sp_7l hi m (q + 1) (up_I J (ad_c i) q 0) (by omega) (by rw [sp_n_c]; exact hj) x y z hz
    have e : (fun u v => if u = ad_c i ∧ q + 1 ≤ v ∧ v < 6 then (0 : Int) else up_I J (ad_c i) q 0 u v) = (fun u v => if u = ad_c i ∧ q ≤ v ∧ v < 6 then 0 else J u v) := by
      funext u v
      unfold up_I
      by_cases h1 : u = ad_c i ∧ q + 1 ≤ v ∧ v < 6
      · rw [if_pos h1, if_pos ⟨h1.1, by omega, h1.2.2⟩]
      · rw [if_neg h1]
        by_cases h2 : u = ad_c i ∧ v = q
        · rw [if_pos h2, if_pos ⟨h2.1, by omega, by omega⟩]
        · rw [if_neg h2, if_neg (fun h3 => by rcases Nat.lt_or_ge q v with z | z; exact h1 ⟨h3.1, z, h3.2.2⟩; exact h2 ⟨h3.1, by omega⟩)]
    rw [e] at ih
    exact ih
/-- the job of task i begins -/
def cl_begin (I : sp_I) (i : Nat) (a now span : Int) : sp_I := fun u v => if u = ad_c i ∧ v < 6 then 0 else up_I (up_I (up_I (up_I (up_I (up_I I (ad_j i) 1 a) (ad_j i) 2 0) (ad_j i) 3 now) (ad_j i) 4 (now + span)) (ad_j i) 5 0) (ad_j i) 6 0 u v
theorem sp_7 (hi : i < sp_n I) {a now span : Int} : mm_Rn pg_G d 7 0 [.ref (ad_j i), io_v a, io_v now, io_v span, .retAddr 0] [] (sp_me I 0 0) (none, sp_me (cl_begin I i a now span) 0 0) := by
  simp (disch := (first | assumption | exact mm_c1_i _ | exact mm_c1_r _ | exact mm_c1_u _ | omega | exact hR _ _ | exact Nat.le_of_ble_eq_true rfl | decide | rfl | exact pb_dec _ | (simp only [sp_n_t, sp_n_j, sp_n_c, sp_n_s, sp_n_k]; assumption) | (simp only [ad_t, ad_a, ad_j, ad_c, ad_s]; omega))) only [st_7_0, st_7_1, sm_7_2, st_7_5, st_7_6, sm_7_7, st_7_10, st_7_11, sm_7_12, st_7_15, st_7_16, st_7_17, st_7_18, sm_7_19, st_7_22, st_7_23, sm_7_24, st_7_27, st_7_28, sm_7_29, st_7_32, st_7_33, st_7_37, st_7_39, st_7_42, sm_7_43, st_7_46, st_7_48, sm_7_49, st_7_50, st_7_53, st_7_56, reduceIte, Int.reduceEq, Int.reduceLE, Int.reduceLT, Int.reduceAdd, Int.reduceSub, Int.reduceMul, Int.reduceNeg, Int.reduceToNat, io_add, io_sub, io_mul, io_lt, io_le, io_eq, io_lt0, io_le0, io_0lt, io_0le, io_eq0, io_max2, Int.toNat_natCast, Nat.add_zero, Nat.zero_add, up_same, up_slot, up_cell]
  have h := sp_7l (I := I) (d := d) hi 6 0 (up_I (up_I (up_I (up_I (up_I (up_I I (ad_j i) 1 a) (ad_j i) 2 0) (ad_j i) 3 now) (ad_j i) 4 (now + span)) (ad_j i) 5 0) (ad_j i) 6 0) (by omega) (by simp only [sp_n_j]; exact hi) (io_v a) (io_v now) (io_v span) rfl
  have e : cl_begin I i a now span = (fun u v => if u = ad_c i ∧ 0 ≤ v ∧ v < 6 then 0 else up_I (up_I (up_I (up_I (up_I (up_I I (ad_j i) 1 a) (ad_j i) 2 0) (ad_j i) 3 now) (ad_j i) 4 (now + span)) (ad_j i) 5 0) (ad_j i) 6 0 u v) := by
    funext u v
    unfold cl_begin
    simp only [Nat.zero_le, true_and]
  rw [e]
  exact h
/-- a tick of a blocked job -/
noncomputable def cl_block (I : sp_I) (i : Nat) (run spell : Int) : sp_I :=
  @ite _ (spell ≠ 0 ∧ I (ad_c i) run.toNat ≠ spell) (Classical.propDecidable _) (up_I (up_I (up_I I (ad_j i) 6 (I (ad_j i) 6 + 1)) (ad_c i) run.toNat spell) (ad_j i) 5 (I (ad_j i) 5 + 1)) (up_I I (ad_j i) 6 (I (ad_j i) 6 + 1))
theorem sp_8 (hR : sp_R I) (hi : i < sp_n I) {run spell : Int} (hs : io_R spell) (h0 : 0 ≤ run) (h1 : run < 6) : mm_Rn pg_G d 8 0 [.ref (ad_j i), io_v run, io_v spell] [] (sp_me I 0 0) (none, sp_me (cl_block I i run spell) 0 0) := by
  unfold cl_block
  by_cases h2 : spell = 0
  · rw [if_neg (fun z => z.1 h2)]
    subst h2
    simp (disch := (first | assumption | exact mm_c1_i _ | exact mm_c1_r _ | exact mm_c1_u _ | omega | exact hR _ _ | exact Nat.le_of_ble_eq_true rfl | decide | rfl | exact pb_dec _ | (simp only [sp_n_t, sp_n_j, sp_n_c, sp_n_s, sp_n_k]; assumption) | (simp only [ad_t, ad_a, ad_j, ad_c, ad_s]; omega))) only [st_8_0, st_8_1, sm_8_2, st_8_5, st_8_6, sm_8_7, st_8_10, st_8_11, st_8_14, sm_8_15, st_8_18, sm_8_19, st_8_20, st_8_21, st_8_24, sm_8_25, st_8_28, st_8_29, sm_8_30, st_8_31, st_8_32, sm_8_33, st_8_36, st_8_37, sm_8_38, st_8_41, reduceIte, Int.reduceEq, Int.reduceLE, Int.reduceLT, Int.reduceAdd, Int.reduceSub, Int.reduceMul, Int.reduceNeg, Int.reduceToNat, io_add, io_sub, io_mul, io_lt, io_le, io_eq, io_lt0, io_le0, io_0lt, io_0le, io_eq0, io_max2, Int.toNat_natCast, Nat.add_zero, Nat.zero_add, up_same, up_slot, up_cell]
  · by_cases h3 : I (ad_c i) run.toNat = spell
    · rw [if_neg (fun z => z.2 h3)]
      simp (disch := (first | assumption | exact mm_c1_i _ | exact mm_c1_r _ | exact mm_c1_u _ | omega | exact hR _ _ | exact Nat.le_of_ble_eq_true rfl | decide | rfl | exact pb_dec _ | (simp only [sp_n_t, sp_n_j, sp_n_c, sp_n_s, sp_n_k]; assumption) | (simp only [ad_t, ad_a, ad_j, ad_c, ad_s]; omega))) only [st_8_0, st_8_1, sm_8_2, st_8_5, st_8_6, sm_8_7, st_8_10, st_8_11, st_8_14, sm_8_15, st_8_18, sm_8_19, st_8_20, st_8_21, st_8_24, sm_8_25, st_8_28, st_8_29, sm_8_30, st_8_31, st_8_32, sm_8_33, st_8_36, st_8_37, sm_8_38, st_8_41, reduceIte, Int.reduceEq, Int.reduceLE, Int.reduceLT, Int.reduceAdd, Int.reduceSub, Int.reduceMul, Int.reduceNeg, Int.reduceToNat, io_add, io_sub, io_mul, io_lt, io_le, io_eq, io_lt0, io_le0, io_0lt, io_0le, io_eq0, io_max2, Int.toNat_natCast, Nat.add_zero, Nat.zero_add, up_same, up_slot, up_cell, h2, h3]
    · rw [if_pos ⟨h2, h3⟩]
      simp (disch := (first | assumption | exact mm_c1_i _ | exact mm_c1_r _ | exact mm_c1_u _ | omega | exact hR _ _ | exact Nat.le_of_ble_eq_true rfl | decide | rfl | exact pb_dec _ | (simp only [sp_n_t, sp_n_j, sp_n_c, sp_n_s, sp_n_k]; assumption) | (simp only [ad_t, ad_a, ad_j, ad_c, ad_s]; omega))) only [st_8_0, st_8_1, sm_8_2, st_8_5, st_8_6, sm_8_7, st_8_10, st_8_11, st_8_14, sm_8_15, st_8_18, sm_8_19, st_8_20, st_8_21, st_8_24, sm_8_25, st_8_28, st_8_29, sm_8_30, st_8_31, st_8_32, sm_8_33, st_8_36, st_8_37, sm_8_38, st_8_41, reduceIte, Int.reduceEq, Int.reduceLE, Int.reduceLT, Int.reduceAdd, Int.reduceSub, Int.reduceMul, Int.reduceNeg, Int.reduceToNat, io_add, io_sub, io_mul, io_lt, io_le, io_eq, io_lt0, io_le0, io_0lt, io_0le, io_eq0, io_max2, Int.toNat_natCast, Nat.add_zero, Nat.zero_add, up_same, up_slot, up_cell, h2, h3]
end JB
