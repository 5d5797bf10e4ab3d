/-! the kernel's order -/
theorem cl_n {I : sp_I} (h : 0 ≤ I 0 4 ∧ I 0 4 ≤ 6) : ((sp_n I : Nat) : Int) = I 0 4 ∧ sp_n I ≤ 6 := by unfold sp_n; omega
def cl_in (I : sp_I) (c : Int) : Prop := (c = 1 ∧ 0 < I 3 2) ∨ (c ≠ 1 ∧ cl_pend I (c - 2).toNat)
def cl_dl (I : sp_I) (c : Int) : Int := if c = 1 then I 3 6 else I (ad_j (c - 2).toNat) 4
def cl_bf (I : sp_I) (a b : Int) : Prop := cl_dl I a < cl_dl I b ∨ (cl_dl I a = cl_dl I b ∧ a ≠ 1 ∧ (b = 1 ∨ a < b))
def cl_TS (I : sp_I) : Prop := ∀ i, i < sp_n I → cl_S I i ∧ cl_Q I i
noncomputable def cl_fs (I : sp_I) : Nat → Int
  | 0 => 0
  | q + 1 => @ite _ (cl_in I (q + 1) ∧ (cl_fs I q = 0 ∨ cl_bf I (q + 1) (cl_fs I q))) (Classical.propDecidable _) (q + 1) (cl_fs I q)
theorem cl_fs_rng (I : sp_I) : ∀ q : Nat, 0 ≤ cl_fs I q ∧ cl_fs I q ≤ q
  | 0 => by rw [cl_fs]; omega
  | q + 1 => by
    have := cl_fs_rng I q
    rw [cl_fs]
    split <;> omega
noncomputable def cl_top (I : sp_I) : Int := pf_max (sp_n I) (cl_hi I)
theorem cl_hi_rng {I : sp_I} (hR : sp_R I) (i : Nat) : 0 ≤ cl_hi I i ∧ cl_hi I i ≤ 2147483647 := by
  have h1 := cl_hv_rng hR i (sp_c I i)
  have h2 := pf_max_nonneg (cl_hv I i) (sp_c I i)
  unfold cl_hi
  omega
theorem cl_top_rng {I : sp_I} (hR : sp_R I) (q : Nat) : 0 ≤ pf_max q (cl_hi I) ∧ pf_max q (cl_hi I) ≤ 2147483647 :=
  ⟨pf_max_nonneg _ _, pf_max_le q (by decide) (fun i _ => (cl_hi_rng hR i).2)⟩
section OR
variable {I : sp_I} {d i k : Nat}
theorem sp_52 (hR : sp_R I) {t : Int} (ht : io_R t) : mm_Rn pg_G d 52 0 [.ref 0, io_v t] [] (sp_me I 0 0) (some (io_v (pb_z (0 ≤ t ∧ t < I 0 4))), sp_me I 0 0) := by
  simp (disch := (first | assumption | exact mm_c1_i _ | exact mm_c1_r _ | exact mm_c1_u _ | omega | exact hR _ _ | exact Nat.le_of_ble_eq_true rfl | decide | rfl | exact pb_dec _)) only [st_52_0, st_52_1, st_52_2, st_52_5, st_52_6, sm_52_7, st_52_10, st_52_13, st_52_14, st_52_17, st_52_18, reduceIte, Int.reduceEq, Int.reduceLE, Int.reduceLT, Int.reduceAdd, Int.reduceSub, Int.reduceMul, Int.reduceNeg, Int.reduceToNat, io_add, io_sub, io_mul, io_lt, io_le, io_eq, io_lt0, io_le0, io_0lt, io_0le, io_eq0, io_max2, Int.toNat_natCast, Nat.add_zero, Nat.zero_add]
  repeat' split
  all_goals first | (rw [pb_neg (by omega)]; done) | (rw [pb_pos (by omega)]; done)
theorem sp_53 {t : Int} (ht : io_R t) : mm_Rn pg_G d 53 0 [io_v t] [] (sp_me I 0 0) (some (io_v (pb_z (0 ≤ t ∧ t < 4))), sp_me I 0 0) := by
  simp (disch := (first | assumption | exact mm_c1_i _ | exact mm_c1_r _ | exact mm_c1_u _ | omega | exact hR _ _ | exact Nat.le_of_ble_eq_true rfl | decide | rfl | exact pb_dec _)) only [st_53_0, st_53_1, st_53_2, st_53_5, st_53_6, st_53_7, st_53_10, st_53_11, st_53_14, st_53_15, reduceIte, Int.reduceEq, Int.reduceLE, Int.reduceLT, Int.reduceAdd, Int.reduceSub, Int.reduceMul, Int.reduceNeg, Int.reduceToNat, io_add, io_sub, io_mul, io_lt, io_le, io_eq, io_lt0, io_le0, io_0lt, io_0le, io_eq0, io_max2, Int.toNat_natCast, Nat.add_zero, Nat.zero_add]
  repeat' split
  all_goals first | (rw [pb_neg (by omega)]; done) | (rw [pb_pos (by omega)]; done)
theorem sp_57 (hR : sp_R I) (h6 : 0 ≤ I 0 4 ∧ I 0 4 ≤ 6) {c : Int} (hc : 1 ≤ c ∧ c < 2 + I 0 4) : mm_Rn pg_G (d + 1) 57 0 [.ref 0, io_v c] [] (sp_me I 0 0) (some (io_v (pb_z (cl_in I c))), sp_me I 0 0) := by
  have hn := cl_n h6
  by_cases h1 : c = 1
  · subst h1
    rw [pb_iff (show cl_in I 1 ↔ 0 < I 3 2 from ⟨fun z => z.elim (fun z => z.2) (fun z => absurd rfl z.1), fun z => Or.inl ⟨rfl, z⟩⟩)]
    simp (disch := (first | assumption | exact mm_c1_i _ | exact mm_c1_r _ | exact mm_c1_u _ | omega | exact hR _ _ | exact Nat.le_of_ble_eq_true rfl | decide | rfl | exact pb_dec _)) only [st_57_0, st_57_1, st_57_2, st_57_5, sm_57_6, sm_57_9, st_57_12, st_57_15, st_57_16, st_57_19, st_57_20, st_57_21, sm_57_22, st_57_25, st_57_26, st_57_27, sm_57_28, sm_57_29, st_57_35, reduceIte, Int.reduceEq, Int.reduceLE, Int.reduceLT, Int.reduceAdd, Int.reduceSub, Int.reduceMul, Int.reduceNeg, Int.reduceToNat, io_add, io_sub, io_mul, io_lt, io_le, io_eq, io_lt0, io_le0, io_0lt, io_0le, io_eq0, io_max2, Int.toNat_natCast, Nat.add_zero, Nat.zero_add]
    split
    · rw [pb_neg (by omega)]
    · rw [pb_pos (by omega)]
  · have hi : (c - 2).toNat < sp_n I := by omega
    rw [pb_iff (show cl_in I c ↔ cl_pend I (c - 2).toNat from ⟨fun z => z.elim (fun z => absurd z.1 h1) (fun z => z.2), fun z => Or.inr ⟨h1, z⟩⟩)]
    simp (disch := (first | assumption | exact mm_c1_i _ | exact mm_c1_r _ | exact mm_c1_u _ | omega | exact hR _ _ | exact Nat.le_of_ble_eq_true rfl | decide | rfl | exact pb_dec _)) only [st_57_0, st_57_1, st_57_2, st_57_5, sm_57_6, sm_57_9, st_57_12, st_57_15, st_57_16, st_57_19, st_57_20, st_57_21, sm_57_22, st_57_25, st_57_26, st_57_27, sm_57_28, sm_57_29, st_57_35, reduceIte, Int.reduceEq, Int.reduceLE, Int.reduceLT, Int.reduceAdd, Int.reduceSub, Int.reduceMul, Int.reduceNeg, Int.reduceToNat, io_add, io_sub, io_mul, io_lt, io_le, io_eq, io_lt0, io_le0, io_0lt, io_0le, io_eq0, io_max2, Int.toNat_natCast, Nat.add_zero, Nat.zero_add, h1]
    rw [st_57_32 (Nat.le_of_ble_eq_true rfl) (sp_T_j hi) (sp_5 (d := d) hR hi)]
    simp (disch := (first | assumption | exact mm_c1_i _ | exact mm_c1_r _ | exact mm_c1_u _ | omega | exact hR _ _ | exact Nat.le_of_ble_eq_true rfl | decide | rfl | exact pb_dec _)) only [st_57_0, st_57_1, st_57_2, st_57_5, sm_57_6, sm_57_9, st_57_12, st_57_15, st_57_16, st_57_19, st_57_20, st_57_21, sm_57_22, st_57_25, st_57_26, st_57_27, sm_57_28, sm_57_29, st_57_35, reduceIte, Int.reduceEq, Int.reduceLE, Int.reduceLT, Int.reduceAdd, Int.reduceSub, Int.reduceMul, Int.reduceNeg, Int.reduceToNat, io_add, io_sub, io_mul, io_lt, io_le, io_eq, io_lt0, io_le0, io_0lt, io_0le, io_eq0, io_max2, Int.toNat_natCast, Nat.add_zero, Nat.zero_add]
theorem sp_58 (hR : sp_R I) (h6 : 0 ≤ I 0 4 ∧ I 0 4 ≤ 6) {c : Int} (hc : 1 ≤ c ∧ c < 2 + I 0 4) : mm_Rn pg_G d 58 0 [.ref 0, io_v c] [] (sp_me I 0 0) (some (io_v (cl_dl I c)), sp_me I 0 0) := by
  have hn := cl_n h6
  unfold cl_dl
  by_cases h1 : c = 1
  · subst h1
    simp (disch := (first | assumption | exact mm_c1_i _ | exact mm_c1_r _ | exact mm_c1_u _ | omega | exact hR _ _ | exact Nat.le_of_ble_eq_true rfl | decide | rfl | exact pb_dec _)) only [st_58_0, st_58_1, st_58_2, st_58_5, sm_58_6, sm_58_9, st_58_12, st_58_13, sm_58_14, st_58_17, st_58_18, st_58_19, sm_58_20, sm_58_21, sm_58_24, st_58_27, reduceIte, Int.reduceEq, Int.reduceLE, Int.reduceLT, Int.reduceAdd, Int.reduceSub, Int.reduceMul, Int.reduceNeg, Int.reduceToNat, io_add, io_sub, io_mul, io_lt, io_le, io_eq, io_lt0, io_le0, io_0lt, io_0le, io_eq0, io_max2, Int.toNat_natCast, Nat.add_zero, Nat.zero_add]
  · have hi : (c - 2).toNat < sp_n I := by omega
    simp (disch := (first | assumption | exact mm_c1_i _ | exact mm_c1_r _ | exact mm_c1_u _ | omega | exact hR _ _ | exact Nat.le_of_ble_eq_true rfl | decide | rfl | exact pb_dec _)) only [st_58_0, st_58_1, st_58_2, st_58_5, sm_58_6, sm_58_9, st_58_12, st_58_13, sm_58_14, st_58_17, st_58_18, st_58_19, sm_58_20, sm_58_21, sm_58_24, st_58_27, reduceIte, Int.reduceEq, Int.reduceLE, Int.reduceLT, Int.reduceAdd, Int.reduceSub, Int.reduceMul, Int.reduceNeg, Int.reduceToNat, io_add, io_sub, io_mul, io_lt, io_le, io_eq, io_lt0, io_le0, io_0lt, io_0le, io_eq0, io_max2, Int.toNat_natCast, Nat.add_zero, Nat.zero_add, h1]
theorem cl_dl_rng (hR : sp_R I) (c : Int) : io_R (cl_dl I c) := by
  unfold cl_dl
  split
  · exact hR _ _
  · exact hR _ _
theorem sp_59 (hR : sp_R I) (h6 : 0 ≤ I 0 4 ∧ I 0 4 ≤ 6) {a b : Int} (ha : 1 ≤ a ∧ a < 2 + I 0 4) (hb : 1 ≤ b ∧ b < 2 + I 0 4) : mm_Rn pg_G (d + 1) 59 0 [.ref 0, io_v a, io_v b, .retAddr 0, .retAddr 0] [] (sp_me I 0 0) (some (io_v (pb_z (cl_bf I a b))), sp_me I 0 0) := by
  have r1 := cl_dl_rng hR a
  have r2 := cl_dl_rng hR b
  simp (disch := (first | assumption | exact mm_c1_i _ | exact mm_c1_r _ | exact mm_c1_u _ | omega | exact hR _ _ | exact Nat.le_of_ble_eq_true rfl | decide | rfl | exact pb_dec _)) only [st_59_0, st_59_1, st_59_5, st_59_6, st_59_7, st_59_11, st_59_13, st_59_14, st_59_16, st_59_19, st_59_20, st_59_22, st_59_25, st_59_26, st_59_29, st_59_30, st_59_31, st_59_32, st_59_33, st_59_36, st_59_37, st_59_38, st_59_41, st_59_42, st_59_43, st_59_46, st_59_47, st_59_50, st_59_51, reduceIte, Int.reduceEq, Int.reduceLE, Int.reduceLT, Int.reduceAdd, Int.reduceSub, Int.reduceMul, Int.reduceNeg, Int.reduceToNat, io_add, io_sub, io_mul, io_lt, io_le, io_eq, io_lt0, io_le0, io_0lt, io_0le, io_eq0, io_max2, Int.toNat_natCast, Nat.add_zero, Nat.zero_add]
  rw [st_59_2 (Nat.le_of_ble_eq_true rfl) rfl (sp_58 (d := d) hR h6 ha)]
  simp (disch := (first | assumption | exact mm_c1_i _ | exact mm_c1_r _ | exact mm_c1_u _ | omega | exact hR _ _ | exact Nat.le_of_ble_eq_true rfl | decide | rfl | exact pb_dec _)) only [st_59_0, st_59_1, st_59_5, st_59_6, st_59_7, st_59_11, st_59_13, st_59_14, st_59_16, st_59_19, st_59_20, st_59_22, st_59_25, st_59_26, st_59_29, st_59_30, st_59_31, st_59_32, st_59_33, st_59_36, st_59_37, st_59_38, st_59_41, st_59_42, st_59_43, st_59_46, st_59_47, st_59_50, st_59_51, reduceIte, Int.reduceEq, Int.reduceLE, Int.reduceLT, Int.reduceAdd, Int.reduceSub, Int.reduceMul, Int.reduceNeg, Int.reduceToNat, io_add, io_sub, io_mul, io_lt, io_le, io_eq, io_lt0, io_le0, io_0lt, io_0le, io_eq0, io_max2, Int.toNat_natCast, Nat.add_zero, Nat.zero_add]
  rw [st_59_8 (Nat.le_of_ble_eq_true rfl) rfl (sp_58 (d := d) hR h6 hb)]
  unfold cl_bf
  generalize cl_dl I a = x at r1 ⊢
  generalize cl_dl I b = y at r2 ⊢
  simp (disch := (first | assumption | exact mm_c1_i _ | exact mm_c1_r _ | exact mm_c1_u _ | omega | exact hR _ _ | exact Nat.le_of_ble_eq_true rfl | decide | rfl | exact pb_dec _)) only [st_59_0, st_59_1, st_59_5, st_59_6, st_59_7, st_59_11, st_59_13, st_59_14, st_59_16, st_59_19, st_59_20, st_59_22, st_59_25, st_59_26, st_59_29, st_59_30, st_59_31, st_59_32, st_59_33, st_59_36, st_59_37, st_59_38, st_59_41, st_59_42, st_59_43, st_59_46, st_59_47, st_59_50, st_59_51, reduceIte, Int.reduceEq, Int.reduceLE, Int.reduceLT, Int.reduceAdd, Int.reduceSub, Int.reduceMul, Int.reduceNeg, Int.reduceToNat, io_add, io_sub, io_mul, io_lt, io_le, io_eq, io_lt0, io_le0, io_0lt, io_0le, io_eq0, io_max2, Int.toNat_natCast, Nat.add_zero, Nat.zero_add]
  repeat' split
  all_goals first | (rw [pb_neg (by omega)]; done) | (rw [pb_pos (by omega)]; done)
theorem sp_60l (hR : sp_R I) (h6 : 0 ≤ I 0 4 ∧ I 0 4 ≤ 6) {c : Int} (hc : 1 ≤ c ∧ c < 2 + I 0 4) : ∀ m q : Nat, q + m = sp_n I + 1 → mm_Rn pg_G (d + 2) 60 4 [.ref 0, io_v c, io_v (pf_cnt q (fun o => cl_in I (o + 1) ∧ cl_bf I (o + 1) c)), io_v (q + 1)] [] (sp_me I 0 0) (some (io_v (pf_cnt (sp_n I + 1) (fun o => cl_in I (o + 1) ∧ cl_bf I (o + 1) c))), sp_me I 0 0)
  | 0, q, hm => by
    have hn := cl_n h6
    rw [st_60_4]
    simp (disch := (first | assumption | exact mm_c1_i _ | exact mm_c1_r _ | exact mm_c1_u _ | omega | exact hR _ _ | exact Nat.le_of_ble_eq_true rfl | decide | rfl | exact pb_dec _)) only [st_60_0, st_60_1, st_60_2, st_60_3, st_60_5, st_60_6, sm_60_7, st_60_10, st_60_11, st_60_14, st_60_15, st_60_19, st_60_22, st_60_23, st_60_24, st_60_28, st_60_31, st_60_34, st_60_37, st_60_40, st_60_41, reduceIte, Int.reduceEq, Int.reduceLE, Int.reduceLT, Int.reduceAdd, Int.reduceSub, Int.reduceMul, Int.reduceNeg, Int.reduceToNat, io_add, io_sub, io_mul, io_lt, io_le, io_eq, io_lt0, io_le0, io_0lt, io_0le, io_eq0, io_max2, Int.toNat_natCast, Nat.add_zero, Nat.zero_add]
    rw [if_pos (by omega), show sp_n I + 1 = q by omega]
  | m + 1, q, hm => by
    have hn := cl_n h6
    have ih := sp_60l hR h6 hc m (q + 1) (by omega)
    rw [show (((q + 1 : Nat) : Int) + 1) = (q : Int) + 1 + 1 from rfl] at ih
    rw [st_60_4]
    simp (disch := (first | assumption | exact mm_c1_i _ | exact mm_c1_r _ | exact mm_c1_u _ | omega | exact hR _ _ | exact Nat.le_of_ble_eq_true rfl | decide | rfl | exact pb_dec _)) only [st_60_0, st_60_1, st_60_2, st_60_3, st_60_5, st_60_6, sm_60_7, st_60_10, st_60_11, st_60_14, st_60_15, st_60_19, st_60_22, st_60_23, st_60_24, st_60_28, st_60_31, st_60_34, st_60_37, st_60_40, st_60_41, reduceIte, Int.reduceEq, Int.reduceLE, Int.reduceLT, Int.reduceAdd, Int.reduceSub, Int.reduceMul, Int.reduceNeg, Int.reduceToNat, io_add, io_sub, io_mul, io_lt, io_le, io_eq, io_lt0, io_le0, io_0lt, io_0le, io_eq0, io_max2, Int.toNat_natCast, Nat.add_zero, Nat.zero_add]
    rw [if_neg (by omega), st_60_16 (Nat.le_of_ble_eq_true rfl) rfl (sp_57 (d := d) hR h6 (c := (q : Int) + 1) (by omega))]
    rw [pf_cnt] at ih
    by_cases h1 : cl_in I ((q : Int) + 1)
    · rw [pb_pos h1]
      simp (disch := (first | assumption | exact mm_c1_i _ | exact mm_c1_r _ | exact mm_c1_u _ | omega | exact hR _ _ | exact Nat.le_of_ble_eq_true rfl | decide | rfl | exact pb_dec _)) only [st_60_0, st_60_1, st_60_2, st_60_3, st_60_5, st_60_6, sm_60_7, st_60_10, st_60_11, st_60_14, st_60_15, st_60_19, st_60_22, st_60_23, st_60_24, st_60_28, st_60_31, st_60_34, st_60_37, st_60_40, st_60_41, reduceIte, Int.reduceEq, Int.reduceLE, Int.reduceLT, Int.reduceAdd, Int.reduceSub, Int.reduceMul, Int.reduceNeg, Int.reduceToNat, io_add, io_sub, io_mul, io_lt, io_le, io_eq, io_lt0, io_le0, io_0lt, io_0le, io_eq0, io_max2, Int.toNat_natCast, Nat.add_zero, Nat.zero_add]
      rw [st_60_25 (Nat.le_of_ble_eq_true rfl) rfl (sp_59 (d := d) hR h6 (a := (q : Int) + 1) (b := c) (by omega) hc)]
      by_cases h2 : cl_bf I ((q : Int) + 1) c
      · rw [pb_pos h2]
        rw [pb_pos ⟨h1, h2⟩] at ih
        simp (disch := (first | assumption | exact mm_c1_i _ | exact mm_c1_r _ | exact mm_c1_u _ | omega | exact hR _ _ | exact Nat.le_of_ble_eq_true rfl | decide | rfl | exact pb_dec _)) only [st_60_0, st_60_1, st_60_2, st_60_3, st_60_5, st_60_6, sm_60_7, st_60_10, st_60_11, st_60_14, st_60_15, st_60_19, st_60_22, st_60_23, st_60_24, st_60_28, st_60_31, st_60_34, st_60_37, st_60_40, st_60_41, reduceIte, Int.reduceEq, Int.reduceLE, Int.reduceLT, Int.reduceAdd, Int.reduceSub, Int.reduceMul, Int.reduceNeg, Int.reduceToNat, io_add, io_sub, io_mul, io_lt, io_le, io_eq, io_lt0, io_le0, io_0lt, io_0le, io_eq0, io_max2, Int.toNat_natCast, Nat.add_zero, Nat.zero_add]
        exact ih
      · rw [pb_neg h2]
        rw [pb_neg (fun z => h2 z.2), Int.add_zero] at ih
        simp (disch := (first | assumption | exact mm_c1_i _ | exact mm_c1_r _ | exact mm_c1_u _ | omega | exact hR _ _ | exact Nat.le_of_ble_eq_true rfl | decide | rfl | exact pb_dec _)) only [st_60_0, st_60_1, st_60_2, st_60_3, st_60_5, st_60_6, sm_60_7, st_60_10, st_60_11, st_60_14, st_60_15, st_60_19, st_60_22, st_60_23, st_60_24, st_60_28, st_60_31, st_60_34, st_60_37, st_60_40, st_60_41, reduceIte, Int.reduceEq, Int.reduceLE, Int.reduceLT, Int.reduceAdd, Int.reduceSub, Int.reduceMul, Int.reduceNeg, Int.reduceToNat, io_add, io_sub, io_mul, io_lt, io_le, io_eq, io_lt0, io_le0, io_0lt, io_0le, io_eq0, io_max2, Int.toNat_natCast, Nat.add_zero, Nat.zero_add]
        exact ih
    · rw [pb_neg h1]
      rw [pb_neg (fun z => h1 z.1), Int.add_zero] at ih
      simp (disch := (first | assumption | exact mm_c1_i _ | exact mm_c1_r _ | exact mm_c1_u _ | omega | exact hR _ _ | exact Nat.le_of_ble_eq_true rfl | decide | rfl | exact pb_dec _)) only [st_60_0, st_60_1, st_60_2, st_60_3, st_60_5, st_60_6, sm_60_7, st_60_10, st_60_11, st_60_14, st_60_15, st_60_19, st_60_22, st_60_23, st_60_24, st_60_28, st_60_31, st_60_34, st_60_37, st_60_40, st_60_41, reduceIte, Int.reduceEq, Int.reduceLE, Int.reduceLT, Int.reduceAdd, Int.reduceSub, Int.reduceMul, Int.reduceNeg, Int.reduceToNat, io_add, io_sub, io_mul, io_lt, io_le, io_eq, io_lt0, io_le0, io_0lt, io_0le, io_eq0, io_max2, Int.toNat_natCast, Nat.add_zero, Nat.zero_add]
      exact ih
theorem sp_60 (hR : sp_R I) (h6 : 0 ≤ I 0 4 ∧ I 0 4 ≤ 6) {c : Int} (hc : 1 ≤ c ∧ c < 2 + I 0 4) : mm_Rn pg_G (d + 2) 60 0 [.ref 0, io_v c, .retAddr 0, .retAddr 0] [] (sp_me I 0 0) (some (io_v (pf_cnt (sp_n I + 1) (fun o => cl_in I (o + 1) ∧ cl_bf I (o + 1) c))), sp_me I 0 0) := by
  simp (disch := (first | assumption | exact mm_c1_i _ | exact mm_c1_r _ | exact mm_c1_u _ | omega | exact hR _ _ | exact Nat.le_of_ble_eq_true rfl | decide | rfl | exact pb_dec _)) only [st_60_0, st_60_1, st_60_2, st_60_3, st_60_5, st_60_6, sm_60_7, st_60_10, st_60_11, st_60_14, st_60_15, st_60_19, st_60_22, st_60_23, st_60_24, st_60_28, st_60_31, st_60_34, st_60_37, st_60_40, st_60_41, reduceIte, Int.reduceEq, Int.reduceLE, Int.reduceLT, Int.reduceAdd, Int.reduceSub, Int.reduceMul, Int.reduceNeg, Int.reduceToNat, io_add, io_sub, io_mul, io_lt, io_le, io_eq, io_lt0, io_le0, io_0lt, io_0le, io_eq0, io_max2, Int.toNat_natCast, Nat.add_zero, Nat.zero_add]
  exact sp_60l hR h6 hc (sp_n I + 1) 0 (by omega)
theorem sp_61l (hR : sp_R I) (h6 : 0 ≤ I 0 4 ∧ I 0 4 ≤ 6) : ∀ m q : Nat, q + m = sp_n I + 1 → mm_Rn pg_G (d + 2) 61 4 [.ref 0, io_v (cl_fs I q), io_v (q + 1)] [] (sp_me I 0 0) (some (io_v (cl_fs I (sp_n I + 1))), sp_me I 0 0)
  | 0, q, hm => by
    have hn := cl_n h6
    rw [st_61_4]
    simp (disch := (first | assumption | exact mm_c1_i _ | exact mm_c1_r _ | exact mm_c1_u _ | omega | exact hR _ _ | exact Nat.le_of_ble_eq_true rfl | decide | rfl | exact pb_dec _)) only [st_61_0, st_61_1, st_61_2, st_61_3, st_61_5, st_61_6, sm_61_7, st_61_10, st_61_11, st_61_14, st_61_15, st_61_19, st_61_22, st_61_23, st_61_26, st_61_27, st_61_28, st_61_32, st_61_35, st_61_36, st_61_37, st_61_40, st_61_43, st_61_44, reduceIte, Int.reduceEq, Int.reduceLE, Int.reduceLT, Int.reduceAdd, Int.reduceSub, Int.reduceMul, Int.reduceNeg, Int.reduceToNat, io_add, io_sub, io_mul, io_lt, io_le, io_eq, io_lt0, io_le0, io_0lt, io_0le, io_eq0, io_max2, Int.toNat_natCast, Nat.add_zero, Nat.zero_add]
    rw [if_pos (by omega), show sp_n I + 1 = q by omega]
  | m + 1, q, hm => by
    have hn := cl_n h6
    have hf := cl_fs_rng I q
    have ih := sp_61l hR h6 m (q + 1) (by omega)
    rw [show (((q + 1 : Nat) : Int) + 1) = (q : Int) + 1 + 1 from rfl, cl_fs] at ih
    rw [st_61_4]
    simp (disch := (first | assumption | exact mm_c1_i _ | exact mm_c1_r _ | exact mm_c1_u _ | omega | exact hR _ _ | exact Nat.le_of_ble_eq_true rfl | decide | rfl | exact pb_dec _)) only [st_61_0, st_61_1, st_61_2, st_61_3, st_61_5, st_61_6, sm_61_7, st_61_10, st_61_11, st_61_14, st_61_15, st_61_19, st_61_22, st_61_23, st_61_26, st_61_27, st_61_28, st_61_32, st_61_35, st_61_36, st_61_37, st_61_40, st_61_43, st_61_44, reduceIte, Int.reduceEq, Int.reduceLE, Int.reduceLT, Int.reduceAdd, Int.reduceSub, Int.reduceMul, Int.reduceNeg, Int.reduceToNat, io_add, io_sub, io_mul, io_lt, io_le, io_eq, io_lt0, io_le0, io_0lt, io_0le, io_eq0, io_max2, Int.toNat_natCast, Nat.add_zero, Nat.zero_add]
    rw [if_neg (by omega), st_61_16 (Nat.le_of_ble_eq_true rfl) rfl (sp_57 (d := d + 0) hR h6 (c := (q : Int) + 1) (by omega))]
    by_cases h1 : cl_in I ((q : Int) + 1)
    · rw [pb_pos h1]
      by_cases h0 : cl_fs I q = 0
      · rw [if_pos ⟨h1, Or.inl h0⟩] at ih
        simp (disch := (first | assumption | exact mm_c1_i _ | exact mm_c1_r _ | exact mm_c1_u _ | omega | exact hR _ _ | exact Nat.le_of_ble_eq_true rfl | decide | rfl | exact pb_dec _)) only [st_61_0, st_61_1, st_61_2, st_61_3, st_61_5, st_61_6, sm_61_7, st_61_10, st_61_11, st_61_14, st_61_15, st_61_19, st_61_22, st_61_23, st_61_26, st_61_27, st_61_28, st_61_32, st_61_35, st_61_36, st_61_37, st_61_40, st_61_43, st_61_44, reduceIte, Int.reduceEq, Int.reduceLE, Int.reduceLT, Int.reduceAdd, Int.reduceSub, Int.reduceMul, Int.reduceNeg, Int.reduceToNat, io_add, io_sub, io_mul, io_lt, io_le, io_eq, io_lt0, io_le0, io_0lt, io_0le, io_eq0, io_max2, Int.toNat_natCast, Nat.add_zero, Nat.zero_add, h0]
        exact ih
      · simp (disch := (first | assumption | exact mm_c1_i _ | exact mm_c1_r _ | exact mm_c1_u _ | omega | exact hR _ _ | exact Nat.le_of_ble_eq_true rfl | decide | rfl | exact pb_dec _)) only [st_61_0, st_61_1, st_61_2, st_61_3, st_61_5, st_61_6, sm_61_7, st_61_10, st_61_11, st_61_14, st_61_15, st_61_19, st_61_22, st_61_23, st_61_26, st_61_27, st_61_28, st_61_32, st_61_35, st_61_36, st_61_37, st_61_40, st_61_43, st_61_44, reduceIte, Int.reduceEq, Int.reduceLE, Int.reduceLT, Int.reduceAdd, Int.reduceSub, Int.reduceMul, Int.reduceNeg, Int.reduceToNat, io_add, io_sub, io_mul, io_lt, io_le, io_eq, io_lt0, io_le0, io_0lt, io_0le, io_eq0, io_max2, Int.toNat_natCast, Nat.add_zero, Nat.zero_add, h0]
        rw [st_61_29 (Nat.le_of_ble_eq_true rfl) rfl (sp_59 (d := d) hR h6 (a := (q : Int) + 1) (b := cl_fs I q) (by omega) (by omega))]
        by_cases h2 : cl_bf I ((q : Int) + 1) (cl_fs I q)
        · rw [pb_pos h2]
          rw [if_pos ⟨h1, Or.inr h2⟩] at ih
          simp (disch := (first | assumption | exact mm_c1_i _ | exact mm_c1_r _ | exact mm_c1_u _ | omega | exact hR _ _ | exact Nat.le_of_ble_eq_true rfl | decide | rfl | exact pb_dec _)) only [st_61_0, st_61_1, st_61_2, st_61_3, st_61_5, st_61_6, sm_61_7, st_61_10, st_61_11, st_61_14, st_61_15, st_61_19, st_61_22, st_61_23, st_61_26, st_61_27, st_61_28, st_61_32, st_61_35, st_61_36, st_61_37, st_61_40, st_61_43, st_61_44, reduceIte, Int.reduceEq, Int.reduceLE, Int.reduceLT, Int.reduceAdd, Int.reduceSub, Int.reduceMul, Int.reduceNeg, Int.reduceToNat, io_add, io_sub, io_mul, io_lt, io_le, io_eq, io_lt0, io_le0, io_0lt, io_0le, io_eq0, io_max2, Int.toNat_natCast, Nat.add_zero, Nat.zero_add]
          exact ih
        · rw [pb_neg h2]
          rw [if_neg (fun z => z.2.elim h0 h2)] at ih
          simp (disch := (first | assumption | exact mm_c1_i _ | exact mm_c1_r _ | exact mm_c1_u _ | omega | exact hR _ _ | exact Nat.le_of_ble_eq_true rfl | decide | rfl | exact pb_dec _)) only [st_61_0, st_61_1, st_61_2, st_61_3, st_61_5, st_61_6, sm_61_7, st_61_10, st_61_11, st_61_14, st_61_15, st_61_19, st_61_22, st_61_23, st_61_26, st_61_27, st_61_28, st_61_32, st_61_35, st_61_36, st_61_37, st_61_40, st_61_43, st_61_44, reduceIte, Int.reduceEq, Int.reduceLE, Int.reduceLT, Int.reduceAdd, Int.reduceSub, Int.reduceMul, Int.reduceNeg, Int.reduceToNat, io_add, io_sub, io_mul, io_lt, io_le, io_eq, io_lt0, io_le0, io_0lt, io_0le, io_eq0, io_max2, Int.toNat_natCast, Nat.add_zero, Nat.zero_add]
          exact ih
    · rw [pb_neg h1]
      rw [if_neg (fun z => h1 z.1)] at ih
      simp (disch := (first | assumption | exact mm_c1_i _ | exact mm_c1_r _ | exact mm_c1_u _ | omega | exact hR _ _ | exact Nat.le_of_ble_eq_true rfl | decide | rfl | exact pb_dec _)) only [st_61_0, st_61_1, st_61_2, st_61_3, st_61_5, st_61_6, sm_61_7, st_61_10, st_61_11, st_61_14, st_61_15, st_61_19, st_61_22, st_61_23, st_61_26, st_61_27, st_61_28, st_61_32, st_61_35, st_61_36, st_61_37, st_61_40, st_61_43, st_61_44, reduceIte, Int.reduceEq, Int.reduceLE, Int.reduceLT, Int.reduceAdd, Int.reduceSub, Int.reduceMul, Int.reduceNeg, Int.reduceToNat, io_add, io_sub, io_mul, io_lt, io_le, io_eq, io_lt0, io_le0, io_0lt, io_0le, io_eq0, io_max2, Int.toNat_natCast, Nat.add_zero, Nat.zero_add]
      exact ih
theorem sp_61 (hR : sp_R I) (h6 : 0 ≤ I 0 4 ∧ I 0 4 ≤ 6) : mm_Rn pg_G (d + 2) 61 0 [.ref 0, .retAddr 0, .retAddr 0] [] (sp_me I 0 0) (some (io_v (cl_fs I (sp_n I + 1))), sp_me I 0 0) := by
  simp (disch := (first | assumption | exact mm_c1_i _ | exact mm_c1_r _ | exact mm_c1_u _ | omega | exact hR _ _ | exact Nat.le_of_ble_eq_true rfl | decide | rfl | exact pb_dec _)) only [st_61_0, st_61_1, st_61_2, st_61_3, st_61_5, st_61_6, sm_61_7, st_61_10, st_61_11, st_61_14, st_61_15, st_61_19, st_61_22, st_61_23, st_61_26, st_61_27, st_61_28, st_61_32, st_61_35, st_61_36, st_61_37, st_61_40, st_61_43, st_61_44, reduceIte, Int.reduceEq, Int.reduceLE, Int.reduceLT, Int.reduceAdd, Int.reduceSub, Int.reduceMul, Int.reduceNeg, Int.reduceToNat, io_add, io_sub, io_mul, io_lt, io_le, io_eq, io_lt0, io_le0, io_0lt, io_0le, io_eq0, io_max2, Int.toNat_natCast, Nat.add_zero, Nat.zero_add]
  exact sp_61l hR h6 (sp_n I + 1) 0 (by omega)
theorem sp_62l (hR : sp_R I) (h6 : 0 ≤ I 0 4 ∧ I 0 4 ≤ 6) (hT : cl_TS I) : ∀ m q : Nat, q + m = sp_n I → mm_Rn pg_G (d + 3) 62 4 [.ref 0, io_v (pf_max q (cl_hi I)), io_v q] [] (sp_me I 0 0) (some (io_v (cl_top I)), sp_me I 0 0)
  | 0, q, hm => by
    have hn := cl_n h6
    rw [st_62_4]
    simp (disch := (first | assumption | exact mm_c1_i _ | exact mm_c1_r _ | exact mm_c1_u _ | omega | exact hR _ _ | exact Nat.le_of_ble_eq_true rfl | decide | rfl | exact pb_dec _)) only [st_62_0, st_62_1, st_62_2, st_62_3, st_62_5, sm_62_6, st_62_9, st_62_12, st_62_13, sm_62_14, st_62_17, sm_62_18, st_62_19, sm_62_20, st_62_26, st_62_29, st_62_30, st_62_33, st_62_36, st_62_37, reduceIte, Int.reduceEq, Int.reduceLE, Int.reduceLT, Int.reduceAdd, Int.reduceSub, Int.reduceMul, Int.reduceNeg, Int.reduceToNat, io_add, io_sub, io_mul, io_lt, io_le, io_eq, io_lt0, io_le0, io_0lt, io_0le, io_eq0, io_max2, Int.toNat_natCast, Nat.add_zero, Nat.zero_add]
    rw [if_pos (by omega), show cl_top I = pf_max q (cl_hi I) by unfold cl_top; rw [show q = sp_n I by omega]]
  | m + 1, q, hm => by
    have hn := cl_n h6
    have hi : q < sp_n I := by omega
    have r1 := cl_hi_rng hR q
    have r2 := cl_top_rng hR q
    have ih := sp_62l hR h6 hT m (q + 1) (by omega)
    rw [pf_max] at ih
    rw [st_62_4]
    simp (disch := (first | assumption | exact mm_c1_i _ | exact mm_c1_r _ | exact mm_c1_u _ | omega | exact hR _ _ | exact Nat.le_of_ble_eq_true rfl | decide | rfl | exact pb_dec _)) only [st_62_0, st_62_1, st_62_2, st_62_3, st_62_5, sm_62_6, st_62_9, st_62_12, st_62_13, sm_62_14, st_62_17, sm_62_18, st_62_19, sm_62_20, st_62_26, st_62_29, st_62_30, st_62_33, st_62_36, st_62_37, reduceIte, Int.reduceEq, Int.reduceLE, Int.reduceLT, Int.reduceAdd, Int.reduceSub, Int.reduceMul, Int.reduceNeg, Int.reduceToNat, io_add, io_sub, io_mul, io_lt, io_le, io_eq, io_lt0, io_le0, io_0lt, io_0le, io_eq0, io_max2, Int.toNat_natCast, Nat.add_zero, Nat.zero_add]
    rw [if_neg (by omega), st_62_23 (Nat.le_of_ble_eq_true rfl) (sp_T_t hi) (sp_18 (d := d) hR hi (hT q hi).1 (hT q hi).2)]
    simp (disch := (first | assumption | exact mm_c1_i _ | exact mm_c1_r _ | exact mm_c1_u _ | omega | exact hR _ _ | exact Nat.le_of_ble_eq_true rfl | decide | rfl | exact pb_dec _)) only [st_62_0, st_62_1, st_62_2, st_62_3, st_62_5, sm_62_6, st_62_9, st_62_12, st_62_13, sm_62_14, st_62_17, sm_62_18, st_62_19, sm_62_20, st_62_26, st_62_29, st_62_30, st_62_33, st_62_36, st_62_37, reduceIte, Int.reduceEq, Int.reduceLE, Int.reduceLT, Int.reduceAdd, Int.reduceSub, Int.reduceMul, Int.reduceNeg, Int.reduceToNat, io_add, io_sub, io_mul, io_lt, io_le, io_eq, io_lt0, io_le0, io_0lt, io_0le, io_eq0, io_max2, Int.toNat_natCast, Nat.add_zero, Nat.zero_add]
    exact ih
theorem sp_62 (hR : sp_R I) (h6 : 0 ≤ I 0 4 ∧ I 0 4 ≤ 6) (hT : cl_TS I) : mm_Rn pg_G (d + 3) 62 0 [.ref 0, .retAddr 0, .retAddr 0] [] (sp_me I 0 0) (some (io_v (cl_top I)), sp_me I 0 0) := by
  simp (disch := (first | assumption | exact mm_c1_i _ | exact mm_c1_r _ | exact mm_c1_u _ | omega | exact hR _ _ | exact Nat.le_of_ble_eq_true rfl | decide | rfl | exact pb_dec _)) only [st_62_0, st_62_1, st_62_2, st_62_3, st_62_5, sm_62_6, st_62_9, st_62_12, st_62_13, sm_62_14, st_62_17, sm_62_18, st_62_19, sm_62_20, st_62_26, st_62_29, st_62_30, st_62_33, st_62_36, st_62_37, reduceIte, Int.reduceEq, Int.reduceLE, Int.reduceLT, Int.reduceAdd, Int.reduceSub, Int.reduceMul, Int.reduceNeg, Int.reduceToNat, io_add, io_sub, io_mul, io_lt, io_le, io_eq, io_lt0, io_le0, io_0lt, io_0le, io_eq0, io_max2, Int.toNat_natCast, Nat.add_zero, Nat.zero_add]
  exact sp_62l hR h6 hT (sp_n I) 0 (by omega)
end OR
