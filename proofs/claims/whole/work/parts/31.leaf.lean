/-! the class's small methods -/
section LF
variable {I : sp_I} {d i k : Nat}
theorem sp_5 (hR : sp_R I) (hi : i < sp_n I) : mm_Rn pg_G d 5 0 [.ref (ad_j i)] [] (sp_me I 0 0) (some (io_v (pb_z (cl_pend I i))), sp_me I 0 0) := by
  simp (disch := (first | assumption | exact mm_c1_i _ | exact mm_c1_r _ | exact mm_c1_u _ | omega | exact hR _ _ | exact Nat.le_of_ble_eq_true rfl | decide | rfl | exact pb_dec _)) only [st_5_0, sm_5_1, st_5_4, sm_5_5, st_5_8, st_5_11, st_5_12, st_5_15, st_5_16, reduceIte, Int.reduceEq, Int.reduceLE, Int.reduceLT, Int.reduceAdd, Int.reduceSub, Int.reduceMul, Int.reduceNeg, Int.reduceToNat, io_add, io_sub, io_mul, io_lt, io_le, io_eq, io_lt0, io_le0, io_0lt, io_0le, io_eq0, io_max2, Int.toNat_natCast, Nat.add_zero, Nat.zero_add]
  unfold cl_pend
  split
  · rw [pb_neg (by omega)]
  · rw [pb_pos (by omega)]
theorem sp_4 (hR : sp_R I) (hi : i < sp_n I) : mm_Rn pg_G d 4 0 [.ref (ad_j i)] [] (sp_me I 0 0) (some (io_v (pb_z (0 < I (ad_j i) 1))), sp_me I 0 0) := by
  simp (disch := (first | assumption | exact mm_c1_i _ | exact mm_c1_r _ | exact mm_c1_u _ | omega | exact hR _ _ | exact Nat.le_of_ble_eq_true rfl | decide | rfl | exact pb_dec _)) only [st_4_0, sm_4_1, st_4_4, st_4_7, st_4_8, st_4_11, st_4_12, reduceIte, Int.reduceEq, Int.reduceLE, Int.reduceLT, Int.reduceAdd, Int.reduceSub, Int.reduceMul, Int.reduceNeg, Int.reduceToNat, io_add, io_sub, io_mul, io_lt, io_le, io_eq, io_lt0, io_le0, io_0lt, io_0le, io_eq0, io_max2, Int.toNat_natCast, Nat.add_zero, Nat.zero_add]
  split
  · rw [pb_neg (by omega)]
  · rw [pb_pos (by omega)]
theorem sp_6 (hR : sp_R I) (hi : i < sp_n I) : mm_Rn pg_G d 6 0 [.ref (ad_j i)] [] (sp_me I 0 0) (some (io_v (pb_z (0 < I (ad_j i) 2))), sp_me I 0 0) := by
  simp (disch := (first | assumption | exact mm_c1_i _ | exact mm_c1_r _ | exact mm_c1_u _ | omega | exact hR _ _ | exact Nat.le_of_ble_eq_true rfl | decide | rfl | exact pb_dec _)) only [st_6_0, sm_6_1, st_6_4, st_6_7, st_6_8, st_6_11, st_6_12, reduceIte, Int.reduceEq, Int.reduceLE, Int.reduceLT, Int.reduceAdd, Int.reduceSub, Int.reduceMul, Int.reduceNeg, Int.reduceToNat, io_add, io_sub, io_mul, io_lt, io_le, io_eq, io_lt0, io_le0, io_0lt, io_0le, io_eq0, io_max2, Int.toNat_natCast, Nat.add_zero, Nat.zero_add]
  split
  · rw [pb_neg (by omega)]
  · rw [pb_pos (by omega)]
theorem sp_2 (hR : sp_R I) (hi : i < sp_n I) (h4 : k < 4) (hk : k < sp_c I i) {a : Int} (ha : io_R a) : mm_Rn pg_G d 2 0 [.ref (ad_s i k), io_v a] [] (sp_me I 0 0) (some (io_v (pb_z (I (ad_s i k) 1 < a ∧ a < I (ad_s i k) 2))), sp_me I 0 0) := by
  simp (disch := (first | assumption | exact mm_c1_i _ | exact mm_c1_r _ | exact mm_c1_u _ | omega | exact hR _ _ | exact Nat.le_of_ble_eq_true rfl | decide | rfl | exact pb_dec _)) only [st_2_0, sm_2_1, st_2_4, st_2_5, st_2_8, st_2_9, sm_2_10, st_2_13, st_2_16, st_2_17, st_2_20, st_2_21, reduceIte, Int.reduceEq, Int.reduceLE, Int.reduceLT, Int.reduceAdd, Int.reduceSub, Int.reduceMul, Int.reduceNeg, Int.reduceToNat, io_add, io_sub, io_mul, io_lt, io_le, io_eq, io_lt0, io_le0, io_0lt, io_0le, io_eq0, io_max2, Int.toNat_natCast, Nat.add_zero, Nat.zero_add]
  repeat' split
  · rw [pb_neg (by omega)]
  · rw [pb_neg (by omega)]
  · rw [pb_pos (by omega)]
theorem sp_1 (hR : sp_R I) (hi : i < sp_n I) (h4 : k < 4) (hk : k < sp_c I i) {r f t : Int} (hr : io_R r) (hf : io_R f) (ht : io_R t) : mm_Rn pg_G d 1 0 [.ref (ad_s i k), io_v r, io_v f, io_v t, .retAddr 0, .retAddr 0, .retAddr 0] [] (sp_me I 0 0) (some (io_v (pb_z (cl_agree I i r f t k))), sp_me I 0 0) := by
  unfold cl_agree
  have e1 : ∀ q, mm_Rn pg_G d 1 0 [.ref (ad_s i k), io_v r, io_v f, io_v t, .retAddr 0, .retAddr 0, .retAddr 0] [] (sp_me I 0 0) q ↔ mm_Rn pg_G d 1 21 [.ref (ad_s i k), io_v r, io_v f, io_v t, .retAddr 0, .retAddr 0, .retAddr 0] [io_v (pb_z (t ≤ I (ad_s i k) 1 ∨ I (ad_s i k) 2 ≤ f))] (sp_me I 0 0) q := by
    intro q
    simp (disch := (first | assumption | exact mm_c1_i _ | exact mm_c1_r _ | exact mm_c1_u _ | omega | exact hR _ _ | exact Nat.le_of_ble_eq_true rfl | decide | rfl | exact pb_dec _)) only [st_1_0, st_1_1, sm_1_2, st_1_5, st_1_8, sm_1_9, st_1_12, st_1_13, st_1_16, st_1_17, st_1_20, st_1_23, sm_1_24, st_1_27, st_1_28, st_1_31, st_1_32, sm_1_33, st_1_36, st_1_39, st_1_40, st_1_43, st_1_44, st_1_46, st_1_47, sm_1_48, st_1_51, st_1_54, sm_1_55, st_1_58, st_1_59, st_1_62, st_1_63, st_1_66, st_1_67, st_1_69, st_1_71, st_1_74, st_1_75, sm_1_76, st_1_79, st_1_82, st_1_84, st_1_87, st_1_89, st_1_92, st_1_93, st_1_96, st_1_97, reduceIte, Int.reduceEq, Int.reduceLE, Int.reduceLT, Int.reduceAdd, Int.reduceSub, Int.reduceMul, Int.reduceNeg, Int.reduceToNat, io_add, io_sub, io_mul, io_lt, io_le, io_eq, io_lt0, io_le0, io_0lt, io_0le, io_eq0, io_max2, Int.toNat_natCast, Nat.add_zero, Nat.zero_add]
    repeat' split
    all_goals first | (rw [pb_neg (by omega)]; done) | (rw [pb_pos (by omega)]; done)
  have e2 : ∀ q u, mm_Rn pg_G d 1 23 [.ref (ad_s i k), io_v r, io_v f, io_v t, io_v u, .retAddr 0, .retAddr 0] [] (sp_me I 0 0) q ↔ mm_Rn pg_G d 1 44 [.ref (ad_s i k), io_v r, io_v f, io_v t, io_v u, .retAddr 0, .retAddr 0] [io_v (pb_z (I (ad_s i k) 1 ≤ f ∧ t ≤ I (ad_s i k) 2))] (sp_me I 0 0) q := by
    intro q u
    simp (disch := (first | assumption | exact mm_c1_i _ | exact mm_c1_r _ | exact mm_c1_u _ | omega | exact hR _ _ | exact Nat.le_of_ble_eq_true rfl | decide | rfl | exact pb_dec _)) only [st_1_0, st_1_1, sm_1_2, st_1_5, st_1_8, sm_1_9, st_1_12, st_1_13, st_1_16, st_1_17, st_1_20, st_1_21, st_1_23, sm_1_24, st_1_27, st_1_28, st_1_31, st_1_32, sm_1_33, st_1_36, st_1_39, st_1_40, st_1_43, st_1_46, st_1_47, sm_1_48, st_1_51, st_1_54, sm_1_55, st_1_58, st_1_59, st_1_62, st_1_63, st_1_66, st_1_67, st_1_69, st_1_71, st_1_74, st_1_75, sm_1_76, st_1_79, st_1_82, st_1_84, st_1_87, st_1_89, st_1_92, st_1_93, st_1_96, st_1_97, reduceIte, Int.reduceEq, Int.reduceLE, Int.reduceLT, Int.reduceAdd, Int.reduceSub, Int.reduceMul, Int.reduceNeg, Int.reduceToNat, io_add, io_sub, io_mul, io_lt, io_le, io_eq, io_lt0, io_le0, io_0lt, io_0le, io_eq0, io_max2, Int.toNat_natCast, Nat.add_zero, Nat.zero_add]
    repeat' split
    all_goals first | (rw [pb_neg (by omega)]; done) | (rw [pb_pos (by omega)]; done)
  have e3 : ∀ q u v, mm_Rn pg_G d 1 46 [.ref (ad_s i k), io_v r, io_v f, io_v t, io_v u, io_v v, .retAddr 0] [] (sp_me I 0 0) q ↔ mm_Rn pg_G d 1 67 [.ref (ad_s i k), io_v r, io_v f, io_v t, io_v u, io_v v, .retAddr 0] [io_v (pb_z (f ≤ I (ad_s i k) 1 ∧ I (ad_s i k) 2 ≤ t))] (sp_me I 0 0) q := by
    intro q u v
    simp (disch := (first | assumption | exact mm_c1_i _ | exact mm_c1_r _ | exact mm_c1_u _ | omega | exact hR _ _ | exact Nat.le_of_ble_eq_true rfl | decide | rfl | exact pb_dec _)) only [st_1_0, st_1_1, sm_1_2, st_1_5, st_1_8, sm_1_9, st_1_12, st_1_13, st_1_16, st_1_17, st_1_20, st_1_21, st_1_23, sm_1_24, st_1_27, st_1_28, st_1_31, st_1_32, sm_1_33, st_1_36, st_1_39, st_1_40, st_1_43, st_1_44, st_1_46, st_1_47, sm_1_48, st_1_51, st_1_54, sm_1_55, st_1_58, st_1_59, st_1_62, st_1_63, st_1_66, st_1_69, st_1_71, st_1_74, st_1_75, sm_1_76, st_1_79, st_1_82, st_1_84, st_1_87, st_1_89, st_1_92, st_1_93, st_1_96, st_1_97, reduceIte, Int.reduceEq, Int.reduceLE, Int.reduceLT, Int.reduceAdd, Int.reduceSub, Int.reduceMul, Int.reduceNeg, Int.reduceToNat, io_add, io_sub, io_mul, io_lt, io_le, io_eq, io_lt0, io_le0, io_0lt, io_0le, io_eq0, io_max2, Int.toNat_natCast, Nat.add_zero, Nat.zero_add]
    repeat' split
    all_goals first | (rw [pb_neg (by omega)]; done) | (rw [pb_pos (by omega)]; done)
  rw [e1, st_1_21 (mm_c1_i _), e2, st_1_44 (mm_c1_i _), e3, st_1_67 (mm_c1_i _)]
  generalize hA : (t ≤ I (ad_s i k) 1 ∨ I (ad_s i k) 2 ≤ f) = A
  generalize hB : (I (ad_s i k) 1 ≤ f ∧ t ≤ I (ad_s i k) 2) = B
  generalize hC : (f ≤ I (ad_s i k) 1 ∧ I (ad_s i k) 2 ≤ t) = C
  by_cases a1 : A <;> by_cases b1 : B <;> by_cases c1 : C <;> by_cases r1 : r = I (ad_s i k) 0
  all_goals
    first | rw [pb_pos a1] | rw [pb_neg a1]
    first | rw [pb_pos b1] | rw [pb_neg b1]
    first | rw [pb_pos c1] | rw [pb_neg c1]
    first
      | (have hh : A ∨ (r ≠ I (ad_s i k) 0 ∧ (B ∨ C)) := by (first | exact Or.inl a1 | exact Or.inr ⟨r1, Or.inl b1⟩ | exact Or.inr ⟨r1, Or.inr c1⟩)
         rw [pb_pos hh])
      | (have hh : ¬ (A ∨ (r ≠ I (ad_s i k) 0 ∧ (B ∨ C))) := by (first | exact fun h => h.elim a1 (fun h => h.1 r1) | exact fun h => h.elim a1 (fun h => h.2.elim b1 c1))
         rw [pb_neg hh])
    simp (disch := (first | assumption | exact mm_c1_i _ | exact mm_c1_r _ | exact mm_c1_u _ | omega | exact hR _ _ | exact Nat.le_of_ble_eq_true rfl | decide | rfl | exact pb_dec _)) only [st_1_0, st_1_1, sm_1_2, st_1_5, st_1_8, sm_1_9, st_1_12, st_1_13, st_1_16, st_1_17, st_1_20, st_1_21, st_1_23, sm_1_24, st_1_27, st_1_28, st_1_31, st_1_32, sm_1_33, st_1_36, st_1_39, st_1_40, st_1_43, st_1_44, st_1_46, st_1_47, sm_1_48, st_1_51, st_1_54, sm_1_55, st_1_58, st_1_59, st_1_62, st_1_63, st_1_66, st_1_67, st_1_69, st_1_71, st_1_74, st_1_75, sm_1_76, st_1_79, st_1_82, st_1_84, st_1_87, st_1_89, st_1_92, st_1_93, st_1_96, st_1_97, reduceIte, Int.reduceEq, Int.reduceLE, Int.reduceLT, Int.reduceAdd, Int.reduceSub, Int.reduceMul, Int.reduceNeg, Int.reduceToNat, io_add, io_sub, io_mul, io_lt, io_le, io_eq, io_lt0, io_le0, io_0lt, io_0le, io_eq0, io_max2, Int.toNat_natCast, Nat.add_zero, Nat.zero_add, r1]
theorem sp_11 (hi : i < sp_n I) : mm_Rn pg_G d 11 0 [.ref (ad_t i)] [] (sp_me I 0 0) (some (io_v (101 - I (ad_t i) 1)), sp_me I 0 0) := by
  simp (disch := (first | assumption | exact mm_c1_i _ | exact mm_c1_r _ | exact mm_c1_u _ | omega | exact hR _ _ | exact Nat.le_of_ble_eq_true rfl | decide | rfl | exact pb_dec _)) only [st_11_0, st_11_2, sm_11_3, st_11_6, st_11_7, reduceIte, Int.reduceEq, Int.reduceLE, Int.reduceLT, Int.reduceAdd, Int.reduceSub, Int.reduceMul, Int.reduceNeg, Int.reduceToNat, io_add, io_sub, io_mul, io_lt, io_le, io_eq, io_lt0, io_le0, io_0lt, io_0le, io_eq0, io_max2, Int.toNat_natCast, Nat.add_zero, Nat.zero_add]
theorem sp_15 (hR : sp_R I) (hi : i < sp_n I) (h4 : k < 4) (hk : k < sp_c I i) : mm_Rn pg_G (d + 1) 15 0 [.ref (ad_t i), .ref (ad_s i k)] [] (sp_me I 0 0) (some (io_v (pb_z (cl_held I i k))), sp_me I 0 0) := by
  simp (disch := (first | assumption | exact mm_c1_i _ | exact mm_c1_r _ | exact mm_c1_u _ | omega | exact hR _ _ | exact Nat.le_of_ble_eq_true rfl | decide | rfl | exact pb_dec _)) only [st_15_0, sm_15_1, st_15_7, st_15_10, st_15_11, sm_15_12, sm_15_15, st_15_21, st_15_24, st_15_25, st_15_28, st_15_29, reduceIte, Int.reduceEq, Int.reduceLE, Int.reduceLT, Int.reduceAdd, Int.reduceSub, Int.reduceMul, Int.reduceNeg, Int.reduceToNat, io_add, io_sub, io_mul, io_lt, io_le, io_eq, io_lt0, io_le0, io_0lt, io_0le, io_eq0, io_max2, Int.toNat_natCast, Nat.add_zero, Nat.zero_add]
  rw [st_15_4 (Nat.le_of_ble_eq_true rfl) (sp_T_j hi) (sp_5 hR hi)]
  by_cases h1 : cl_pend I i
  · rw [pb_pos h1]
    simp (disch := (first | assumption | exact mm_c1_i _ | exact mm_c1_r _ | exact mm_c1_u _ | omega | exact hR _ _ | exact Nat.le_of_ble_eq_true rfl | decide | rfl | exact pb_dec _)) only [st_15_0, sm_15_1, st_15_7, st_15_10, st_15_11, sm_15_12, sm_15_15, st_15_21, st_15_24, st_15_25, st_15_28, st_15_29, reduceIte, Int.reduceEq, Int.reduceLE, Int.reduceLT, Int.reduceAdd, Int.reduceSub, Int.reduceMul, Int.reduceNeg, Int.reduceToNat, io_add, io_sub, io_mul, io_lt, io_le, io_eq, io_lt0, io_le0, io_0lt, io_0le, io_eq0, io_max2, Int.toNat_natCast, Nat.add_zero, Nat.zero_add]
    rw [st_15_18 (Nat.le_of_ble_eq_true rfl) (sp_T_s hi h4 hk) (sp_2 hR hi h4 hk (hR _ _))]
    by_cases h2 : I (ad_s i k) 1 < I (ad_j i) 2 ∧ I (ad_j i) 2 < I (ad_s i k) 2
    · rw [pb_pos h2, pb_pos (show cl_held I i k from ⟨h1, h2⟩)]
      simp (disch := (first | assumption | exact mm_c1_i _ | exact mm_c1_r _ | exact mm_c1_u _ | omega | exact hR _ _ | exact Nat.le_of_ble_eq_true rfl | decide | rfl | exact pb_dec _)) only [st_15_0, sm_15_1, st_15_7, st_15_10, st_15_11, sm_15_12, sm_15_15, st_15_21, st_15_24, st_15_25, st_15_28, st_15_29, reduceIte, Int.reduceEq, Int.reduceLE, Int.reduceLT, Int.reduceAdd, Int.reduceSub, Int.reduceMul, Int.reduceNeg, Int.reduceToNat, io_add, io_sub, io_mul, io_lt, io_le, io_eq, io_lt0, io_le0, io_0lt, io_0le, io_eq0, io_max2, Int.toNat_natCast, Nat.add_zero, Nat.zero_add]
    · rw [pb_neg h2, pb_neg (show ¬ cl_held I i k from fun h => h2 h.2)]
      simp (disch := (first | assumption | exact mm_c1_i _ | exact mm_c1_r _ | exact mm_c1_u _ | omega | exact hR _ _ | exact Nat.le_of_ble_eq_true rfl | decide | rfl | exact pb_dec _)) only [st_15_0, sm_15_1, st_15_7, st_15_10, st_15_11, sm_15_12, sm_15_15, st_15_21, st_15_24, st_15_25, st_15_28, st_15_29, reduceIte, Int.reduceEq, Int.reduceLE, Int.reduceLT, Int.reduceAdd, Int.reduceSub, Int.reduceMul, Int.reduceNeg, Int.reduceToNat, io_add, io_sub, io_mul, io_lt, io_le, io_eq, io_lt0, io_le0, io_0lt, io_0le, io_eq0, io_max2, Int.toNat_natCast, Nat.add_zero, Nat.zero_add]
  · rw [pb_neg h1, pb_neg (show ¬ cl_held I i k from fun h => h1 h.1)]
    simp (disch := (first | assumption | exact mm_c1_i _ | exact mm_c1_r _ | exact mm_c1_u _ | omega | exact hR _ _ | exact Nat.le_of_ble_eq_true rfl | decide | rfl | exact pb_dec _)) only [st_15_0, sm_15_1, st_15_7, st_15_10, st_15_11, sm_15_12, sm_15_15, st_15_21, st_15_24, st_15_25, st_15_28, st_15_29, reduceIte, Int.reduceEq, Int.reduceLE, Int.reduceLT, Int.reduceAdd, Int.reduceSub, Int.reduceMul, Int.reduceNeg, Int.reduceToNat, io_add, io_sub, io_mul, io_lt, io_le, io_eq, io_lt0, io_le0, io_0lt, io_0le, io_eq0, io_max2, Int.toNat_natCast, Nat.add_zero, Nat.zero_add]
theorem sp_17l (hR : sp_R I) (hi : i < sp_n I) (hS : cl_S I i) : ∀ m q : Nat, q + m = sp_c I i → mm_Rn pg_G (d + 2) 17 2 [.ref (ad_t i), io_v q] [] (sp_me I 0 0) (some (io_v (pb_z (∃ k, q ≤ k ∧ k < sp_c I i ∧ cl_held I i k))), sp_me I 0 0)
  | 0, q, hm => by
    have hc := cl_cnt hS
    rw [pb_neg (fun ⟨k, h1, h2, _⟩ => by omega)]
    simp (disch := (first | assumption | exact mm_c1_i _ | exact mm_c1_r _ | exact mm_c1_u _ | omega | exact hR _ _ | exact Nat.le_of_ble_eq_true rfl | decide | rfl | exact pb_dec _)) only [st_17_0, st_17_1, st_17_2, st_17_3, sm_17_4, st_17_7, st_17_10, st_17_11, sm_17_12, st_17_15, sm_17_16, st_17_20, st_17_23, st_17_24, st_17_25, st_17_28, st_17_31, st_17_32, reduceIte, Int.reduceEq, Int.reduceLE, Int.reduceLT, Int.reduceAdd, Int.reduceSub, Int.reduceMul, Int.reduceNeg, Int.reduceToNat, io_add, io_sub, io_mul, io_lt, io_le, io_eq, io_lt0, io_le0, io_0lt, io_0le, io_eq0, io_max2, Int.toNat_natCast, Nat.add_zero, Nat.zero_add]
    rw [if_pos (by omega)]; trivial
  | m + 1, q, hm => by
    have hc := cl_cnt hS
    have hS' := hS
    unfold cl_S at hS'
    simp (disch := (first | assumption | exact mm_c1_i _ | exact mm_c1_r _ | exact mm_c1_u _ | omega | exact hR _ _ | exact Nat.le_of_ble_eq_true rfl | decide | rfl | exact pb_dec _)) only [st_17_0, st_17_1, st_17_2, st_17_3, sm_17_4, st_17_7, st_17_10, st_17_11, sm_17_12, st_17_15, sm_17_16, st_17_20, st_17_23, st_17_24, st_17_25, st_17_28, st_17_31, st_17_32, reduceIte, Int.reduceEq, Int.reduceLE, Int.reduceLT, Int.reduceAdd, Int.reduceSub, Int.reduceMul, Int.reduceNeg, Int.reduceToNat, io_add, io_sub, io_mul, io_lt, io_le, io_eq, io_lt0, io_le0, io_0lt, io_0le, io_eq0, io_max2, Int.toNat_natCast, Nat.add_zero, Nat.zero_add]
    rw [if_neg (by omega)]
    rw [st_17_17 (Nat.le_of_ble_eq_true rfl) (sp_T_t hi) (sp_15 (d := d) hR hi (show q < 4 by omega) (show q < sp_c I i by omega))]
    by_cases h1 : cl_held I i q
    · rw [pb_pos h1, pb_pos (show ∃ k, q ≤ k ∧ k < sp_c I i ∧ cl_held I i k from ⟨q, by omega, by omega, h1⟩)]
      simp (disch := (first | assumption | exact mm_c1_i _ | exact mm_c1_r _ | exact mm_c1_u _ | omega | exact hR _ _ | exact Nat.le_of_ble_eq_true rfl | decide | rfl | exact pb_dec _)) only [st_17_0, st_17_1, st_17_3, sm_17_4, st_17_7, st_17_10, st_17_11, sm_17_12, st_17_15, sm_17_16, st_17_20, st_17_23, st_17_24, st_17_25, st_17_28, st_17_31, st_17_32, reduceIte, Int.reduceEq, Int.reduceLE, Int.reduceLT, Int.reduceAdd, Int.reduceSub, Int.reduceMul, Int.reduceNeg, Int.reduceToNat, io_add, io_sub, io_mul, io_lt, io_le, io_eq, io_lt0, io_le0, io_0lt, io_0le, io_eq0, io_max2, Int.toNat_natCast, Nat.add_zero, Nat.zero_add]
    · rw [pb_neg h1, pb_iff (show (∃ k, q ≤ k ∧ k < sp_c I i ∧ cl_held I i k) ↔ (∃ k, q + 1 ≤ k ∧ k < sp_c I i ∧ cl_held I i k) from ⟨fun ⟨k, a, b, c⟩ => ⟨k, by rcases Nat.lt_or_ge q k with h | h; exact h; exact absurd (show cl_held I i q by rwa [show q = k by omega]) h1, b, c⟩, fun ⟨k, a, b, c⟩ => ⟨k, by omega, b, c⟩⟩)]
      simp (disch := (first | assumption | exact mm_c1_i _ | exact mm_c1_r _ | exact mm_c1_u _ | omega | exact hR _ _ | exact Nat.le_of_ble_eq_true rfl | decide | rfl | exact pb_dec _)) only [st_17_0, st_17_1, st_17_3, sm_17_4, st_17_7, st_17_10, st_17_11, sm_17_12, st_17_15, sm_17_16, st_17_20, st_17_23, st_17_24, st_17_25, st_17_28, st_17_31, st_17_32, reduceIte, Int.reduceEq, Int.reduceLE, Int.reduceLT, Int.reduceAdd, Int.reduceSub, Int.reduceMul, Int.reduceNeg, Int.reduceToNat, io_add, io_sub, io_mul, io_lt, io_le, io_eq, io_lt0, io_le0, io_0lt, io_0le, io_eq0, io_max2, Int.toNat_natCast, Nat.add_zero, Nat.zero_add]
      exact sp_17l hR hi hS m (q + 1) (by omega)
end LF
