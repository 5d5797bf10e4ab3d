/-! the kernel's tick, whole -/
theorem cl_nb_04 {I : sp_I} {rc : Int} {q : Nat} {x v : Nat} (h : x < 32) : cl_nb I rc q x v = I x v := cl_nb_out q (fun k _ => ⟨(ad_k h).2.1, fun z => (ad_k h).1 z.1⟩)
theorem cl_nm_04 {I : sp_I} {q : Nat} {x v : Nat} (h : x < 32) : cl_nm I q x v = I x v := cl_nm_out q (fun k _ z => (ad_k h).2.2 z.1)
section MK
variable {I : sp_I} {d i k c : Nat}
theorem sp_66l (hR : sp_R I) (h6 : 0 ≤ I 0 4 ∧ I 0 4 ≤ 6) (hB : cl_B I) {rc : Int} (hc : 2 ≤ rc ∧ rc < 2 + I 0 4) : ∀ m q : Nat, q + m = sp_n I → mm_Rn pg_G (d + 2) 66 6 [.ref 0, io_v rc, io_v (rc - 2), io_v q] [] (sp_me (cl_nb I rc q) 0 0) (none, sp_me (cl_nb I rc (sp_n I)) 0 0)
  | 0, q, hm => by
    have hn := cl_n h6
    have e04 : cl_nb I rc q 0 4 = I 0 4 := cl_nb_04 (by decide)
    have hRJ := cl_nb_R hR hB rc q (by omega)
    rw [st_66_6, show sp_n I = q by omega]
    generalize cl_nb I rc q = J at *
    have hR := hRJ
    simp (disch := (first | assumption | exact mm_c1_i _ | exact mm_c1_r _ | exact mm_c1_u _ | omega | exact hR _ _ | exact Nat.le_of_ble_eq_true rfl | decide | rfl | exact pb_dec _)) only [st_66_0, st_66_1, st_66_2, st_66_3, st_66_4, st_66_5, st_66_7, sm_66_8, st_66_11, st_66_14, sm_66_15, st_66_18, sm_66_19, sm_66_20, st_66_26, st_66_29, st_66_30, st_66_31, st_66_32, st_66_33, st_66_37, st_66_40, sm_66_41, st_66_44, sm_66_45, sm_66_46, st_66_49, st_66_50, sm_66_51, st_66_54, sm_66_55, sm_66_56, st_66_62, st_66_65, st_66_68, reduceIte, Int.reduceEq, Int.reduceLE, Int.reduceLT, Int.reduceAdd, Int.reduceSub, Int.reduceMul, Int.reduceNeg, Int.reduceToNat, io_add, io_sub, io_mul, io_lt, io_le, io_eq, io_lt0, io_le0, io_0lt, io_0le, io_eq0, io_max2, Int.toNat_natCast, Nat.add_zero, Nat.zero_add]
    rw [if_pos (by omega)]; trivial
  | m + 1, q, hm => by
    have hn := cl_n h6
    have e04 : cl_nb I rc q 0 4 = I 0 4 := cl_nb_04 (by decide)
    have hRJ := cl_nb_R hR hB rc q (by omega)
    have hnJ : sp_n (cl_nb I rc q) = sp_n I := by unfold sp_n; rw [e04]
    have ih := sp_66l hR h6 hB hc m (q + 1) (by omega)
    rw [cl_nb] at ih
    generalize cl_nb I rc q = J at *
    have hR := hRJ
    have hi : q < sp_n J := by omega
    have h6J : 0 ≤ J 0 4 ∧ J 0 4 ≤ 6 := by omega
    have hr : (rc - 2).toNat < sp_n J := by omega
    rw [st_66_6]
    simp (disch := (first | assumption | exact mm_c1_i _ | exact mm_c1_r _ | exact mm_c1_u _ | omega | exact hR _ _ | exact Nat.le_of_ble_eq_true rfl | decide | rfl | exact pb_dec _)) only [st_66_0, st_66_1, st_66_2, st_66_3, st_66_4, st_66_5, st_66_7, sm_66_8, st_66_11, st_66_14, sm_66_15, st_66_18, sm_66_19, sm_66_20, st_66_26, st_66_29, st_66_30, st_66_31, st_66_32, st_66_33, st_66_37, st_66_40, sm_66_41, st_66_44, sm_66_45, sm_66_46, st_66_49, st_66_50, sm_66_51, st_66_54, sm_66_55, sm_66_56, st_66_62, st_66_65, st_66_68, reduceIte, Int.reduceEq, Int.reduceLE, Int.reduceLT, Int.reduceAdd, Int.reduceSub, Int.reduceMul, Int.reduceNeg, Int.reduceToNat, io_add, io_sub, io_mul, io_lt, io_le, io_eq, io_lt0, io_le0, io_0lt, io_0le, io_eq0, io_max2, Int.toNat_natCast, Nat.add_zero, Nat.zero_add]
    rw [if_neg (by omega), st_66_23 (Nat.le_of_ble_eq_true rfl) (sp_T_j hi) (sp_5 (d := d + 1) hRJ hi)]
    by_cases h1 : cl_pend J q
    · rw [pb_pos h1]
      simp (disch := (first | assumption | exact mm_c1_i _ | exact mm_c1_r _ | exact mm_c1_u _ | omega | exact hR _ _ | exact Nat.le_of_ble_eq_true rfl | decide | rfl | exact pb_dec _)) only [st_66_0, st_66_1, st_66_2, st_66_3, st_66_4, st_66_5, st_66_7, sm_66_8, st_66_11, st_66_14, sm_66_15, st_66_18, sm_66_19, sm_66_20, st_66_26, st_66_29, st_66_30, st_66_31, st_66_32, st_66_33, st_66_37, st_66_40, sm_66_41, st_66_44, sm_66_45, sm_66_46, st_66_49, st_66_50, sm_66_51, st_66_54, sm_66_55, sm_66_56, st_66_62, st_66_65, st_66_68, reduceIte, Int.reduceEq, Int.reduceLE, Int.reduceLT, Int.reduceAdd, Int.reduceSub, Int.reduceMul, Int.reduceNeg, Int.reduceToNat, io_add, io_sub, io_mul, io_lt, io_le, io_eq, io_lt0, io_le0, io_0lt, io_0le, io_eq0, io_max2, Int.toNat_natCast, Nat.add_zero, Nat.zero_add]
      rw [st_66_34 (Nat.le_of_ble_eq_true rfl) rfl (sp_59 (d := d) hRJ h6J (a := 2 + (q : Int)) (b := rc) (by omega) (by omega))]
      by_cases h2 : cl_bf J (2 + q) rc
      · rw [pb_pos h2]
        rw [if_pos ⟨h1, h2⟩] at ih
        simp (disch := (first | assumption | exact mm_c1_i _ | exact mm_c1_r _ | exact mm_c1_u _ | omega | exact hR _ _ | exact Nat.le_of_ble_eq_true rfl | decide | rfl | exact pb_dec _)) only [st_66_0, st_66_1, st_66_2, st_66_3, st_66_4, st_66_5, st_66_7, sm_66_8, st_66_11, st_66_14, sm_66_15, st_66_18, sm_66_19, sm_66_20, st_66_26, st_66_29, st_66_30, st_66_31, st_66_32, st_66_33, st_66_37, st_66_40, sm_66_41, st_66_44, sm_66_45, sm_66_46, st_66_49, st_66_50, sm_66_51, st_66_54, sm_66_55, sm_66_56, st_66_62, st_66_65, st_66_68, reduceIte, Int.reduceEq, Int.reduceLE, Int.reduceLT, Int.reduceAdd, Int.reduceSub, Int.reduceMul, Int.reduceNeg, Int.reduceToNat, io_add, io_sub, io_mul, io_lt, io_le, io_eq, io_lt0, io_le0, io_0lt, io_0le, io_eq0, io_max2, Int.toNat_natCast, Nat.add_zero, Nat.zero_add]
        rw [st_66_59 (Nat.le_of_ble_eq_true rfl) (sp_T_j hi) (sp_8 (d := d + 1) hRJ hi (run := rc - 2) (spell := J (ad_t (rc - 2).toNat) 9) (hRJ _ _) (by omega) (by omega))]
        simp (disch := (first | assumption | exact mm_c1_i _ | exact mm_c1_r _ | exact mm_c1_u _ | omega | exact hR _ _ | exact Nat.le_of_ble_eq_true rfl | decide | rfl | exact pb_dec _)) only [st_66_0, st_66_1, st_66_2, st_66_3, st_66_4, st_66_5, st_66_7, sm_66_8, st_66_11, st_66_14, sm_66_15, st_66_18, sm_66_19, sm_66_20, st_66_26, st_66_29, st_66_30, st_66_31, st_66_32, st_66_33, st_66_37, st_66_40, sm_66_41, st_66_44, sm_66_45, sm_66_46, st_66_49, st_66_50, sm_66_51, st_66_54, sm_66_55, sm_66_56, st_66_62, st_66_65, st_66_68, reduceIte, Int.reduceEq, Int.reduceLE, Int.reduceLT, Int.reduceAdd, Int.reduceSub, Int.reduceMul, Int.reduceNeg, Int.reduceToNat, io_add, io_sub, io_mul, io_lt, io_le, io_eq, io_lt0, io_le0, io_0lt, io_0le, io_eq0, io_max2, Int.toNat_natCast, Nat.add_zero, Nat.zero_add]
        exact ih
      · rw [pb_neg h2]
        rw [if_neg (fun z => h2 z.2)] at ih
        simp (disch := (first | assumption | exact mm_c1_i _ | exact mm_c1_r _ | exact mm_c1_u _ | omega | exact hR _ _ | exact Nat.le_of_ble_eq_true rfl | decide | rfl | exact pb_dec _)) only [st_66_0, st_66_1, st_66_2, st_66_3, st_66_4, st_66_5, st_66_7, sm_66_8, st_66_11, st_66_14, sm_66_15, st_66_18, sm_66_19, sm_66_20, st_66_26, st_66_29, st_66_30, st_66_31, st_66_32, st_66_33, st_66_37, st_66_40, sm_66_41, st_66_44, sm_66_45, sm_66_46, st_66_49, st_66_50, sm_66_51, st_66_54, sm_66_55, sm_66_56, st_66_62, st_66_65, st_66_68, reduceIte, Int.reduceEq, Int.reduceLE, Int.reduceLT, Int.reduceAdd, Int.reduceSub, Int.reduceMul, Int.reduceNeg, Int.reduceToNat, io_add, io_sub, io_mul, io_lt, io_le, io_eq, io_lt0, io_le0, io_0lt, io_0le, io_eq0, io_max2, Int.toNat_natCast, Nat.add_zero, Nat.zero_add]
        exact ih
    · rw [pb_neg h1]
      rw [if_neg (fun z => h1 z.1)] at ih
      simp (disch := (first | assumption | exact mm_c1_i _ | exact mm_c1_r _ | exact mm_c1_u _ | omega | exact hR _ _ | exact Nat.le_of_ble_eq_true rfl | decide | rfl | exact pb_dec _)) only [st_66_0, st_66_1, st_66_2, st_66_3, st_66_4, st_66_5, st_66_7, sm_66_8, st_66_11, st_66_14, sm_66_15, st_66_18, sm_66_19, sm_66_20, st_66_26, st_66_29, st_66_30, st_66_31, st_66_32, st_66_33, st_66_37, st_66_40, sm_66_41, st_66_44, sm_66_45, sm_66_46, st_66_49, st_66_50, sm_66_51, st_66_54, sm_66_55, sm_66_56, st_66_62, st_66_65, st_66_68, reduceIte, Int.reduceEq, Int.reduceLE, Int.reduceLT, Int.reduceAdd, Int.reduceSub, Int.reduceMul, Int.reduceNeg, Int.reduceToNat, io_add, io_sub, io_mul, io_lt, io_le, io_eq, io_lt0, io_le0, io_0lt, io_0le, io_eq0, io_max2, Int.toNat_natCast, Nat.add_zero, Nat.zero_add]
      exact ih
theorem sp_66 (hR : sp_R I) (h6 : 0 ≤ I 0 4 ∧ I 0 4 ≤ 6) (hB : cl_B I) {rc : Int} (hc : 2 ≤ rc ∧ rc < 2 + I 0 4) : mm_Rn pg_G (d + 2) 66 0 [.ref 0, io_v rc, .retAddr 0, .retAddr 0] [] (sp_me I 0 0) (none, sp_me (cl_nb I rc (sp_n I)) 0 0) := by
  simp (disch := (first | assumption | exact mm_c1_i _ | exact mm_c1_r _ | exact mm_c1_u _ | omega | exact hR _ _ | exact Nat.le_of_ble_eq_true rfl | decide | rfl | exact pb_dec _)) only [st_66_0, st_66_1, st_66_2, st_66_3, st_66_4, st_66_5, st_66_7, sm_66_8, st_66_11, st_66_14, sm_66_15, st_66_18, sm_66_19, sm_66_20, st_66_26, st_66_29, st_66_30, st_66_31, st_66_32, st_66_33, st_66_37, st_66_40, sm_66_41, st_66_44, sm_66_45, sm_66_46, st_66_49, st_66_50, sm_66_51, st_66_54, sm_66_55, sm_66_56, st_66_62, st_66_65, st_66_68, reduceIte, Int.reduceEq, Int.reduceLE, Int.reduceLT, Int.reduceAdd, Int.reduceSub, Int.reduceMul, Int.reduceNeg, Int.reduceToNat, io_add, io_sub, io_mul, io_lt, io_le, io_eq, io_lt0, io_le0, io_0lt, io_0le, io_eq0, io_max2, Int.toNat_natCast, Nat.add_zero, Nat.zero_add]
  exact sp_66l hR h6 hB hc (sp_n I) 0 (by omega)
theorem sp_67l (hR : sp_R I) (h6 : 0 ≤ I 0 4 ∧ I 0 4 ≤ 6) (hB : cl_B I) : ∀ m q : Nat, q + m = sp_n I → mm_Rn pg_G (d + 1) 67 2 [.ref 0, io_v q] [] (sp_me (cl_nm I q) 0 0) (none, sp_me (cl_nm I (sp_n I)) 0 0)
  | 0, q, hm => by
    have hn := cl_n h6
    have e04 : cl_nm I q 0 4 = I 0 4 := cl_nm_04 (by decide)
    have hRJ := cl_nm_R hR hB q (by omega)
    rw [st_67_2, show sp_n I = q by omega]
    generalize cl_nm I q = J at *
    have hR := hRJ
    simp (disch := (first | assumption | exact mm_c1_i _ | exact mm_c1_r _ | exact mm_c1_u _ | omega | exact hR _ _ | exact Nat.le_of_ble_eq_true rfl | decide | rfl | exact pb_dec _)) only [st_67_0, st_67_1, st_67_3, sm_67_4, st_67_7, st_67_10, sm_67_11, st_67_14, sm_67_15, sm_67_16, st_67_22, st_67_25, sm_67_26, st_67_29, sm_67_30, sm_67_31, sm_67_34, st_67_37, sm_67_38, sm_67_41, st_67_44, st_67_47, sm_67_48, st_67_51, sm_67_52, st_67_53, sm_67_54, st_67_57, st_67_58, sm_67_59, st_67_62, st_67_65, st_67_68, reduceIte, Int.reduceEq, Int.reduceLE, Int.reduceLT, Int.reduceAdd, Int.reduceSub, Int.reduceMul, Int.reduceNeg, Int.reduceToNat, io_add, io_sub, io_mul, io_lt, io_le, io_eq, io_lt0, io_le0, io_0lt, io_0le, io_eq0, io_max2, Int.toNat_natCast, Nat.add_zero, Nat.zero_add]
    rw [if_pos (by omega)]; trivial
  | m + 1, q, hm => by
    have hn := cl_n h6
    have e04 : cl_nm I q 0 4 = I 0 4 := cl_nm_04 (by decide)
    have hRJ := cl_nm_R hR hB q (by omega)
    have hnJ : sp_n (cl_nm I q) = sp_n I := by unfold sp_n; rw [e04]
    have ih := sp_67l hR h6 hB m (q + 1) (by omega)
    rw [cl_nm] at ih
    generalize cl_nm I q = J at *
    have hR := hRJ
    have hi : q < sp_n J := by omega
    have h6J : 0 ≤ J 0 4 ∧ J 0 4 ≤ 6 := by omega
    rw [st_67_2]
    simp (disch := (first | assumption | exact mm_c1_i _ | exact mm_c1_r _ | exact mm_c1_u _ | omega | exact hR _ _ | exact Nat.le_of_ble_eq_true rfl | decide | rfl | exact pb_dec _)) only [st_67_0, st_67_1, st_67_3, sm_67_4, st_67_7, st_67_10, sm_67_11, st_67_14, sm_67_15, sm_67_16, st_67_22, st_67_25, sm_67_26, st_67_29, sm_67_30, sm_67_31, sm_67_34, st_67_37, sm_67_38, sm_67_41, st_67_44, st_67_47, sm_67_48, st_67_51, sm_67_52, st_67_53, sm_67_54, st_67_57, st_67_58, sm_67_59, st_67_62, st_67_65, st_67_68, reduceIte, Int.reduceEq, Int.reduceLE, Int.reduceLT, Int.reduceAdd, Int.reduceSub, Int.reduceMul, Int.reduceNeg, Int.reduceToNat, io_add, io_sub, io_mul, io_lt, io_le, io_eq, io_lt0, io_le0, io_0lt, io_0le, io_eq0, io_max2, Int.toNat_natCast, Nat.add_zero, Nat.zero_add]
    rw [if_neg (by omega), st_67_19 (Nat.le_of_ble_eq_true rfl) (sp_T_j hi) (sp_5 (d := d) hRJ hi)]
    by_cases h1 : cl_pend J q
    · rw [pb_pos h1]
      by_cases h2 : J (ad_j q) 4 = J 5 1
      · rw [if_pos ⟨h1, h2⟩] at ih
        simp (disch := (first | assumption | exact mm_c1_i _ | exact mm_c1_r _ | exact mm_c1_u _ | omega | exact hR _ _ | exact Nat.le_of_ble_eq_true rfl | decide | rfl | exact pb_dec _ | (simp only [sp_n_t, sp_n_j, sp_n_c, sp_n_s, sp_n_k]; assumption) | (simp only [ad_t, ad_a, ad_j, ad_c, ad_s]; omega))) only [st_67_0, st_67_1, st_67_3, sm_67_4, st_67_7, st_67_10, sm_67_11, st_67_14, sm_67_15, sm_67_16, st_67_22, st_67_25, sm_67_26, st_67_29, sm_67_30, sm_67_31, sm_67_34, st_67_37, sm_67_38, sm_67_41, st_67_44, st_67_47, sm_67_48, st_67_51, sm_67_52, st_67_53, sm_67_54, st_67_57, st_67_58, sm_67_59, st_67_62, st_67_65, st_67_68, reduceIte, Int.reduceEq, Int.reduceLE, Int.reduceLT, Int.reduceAdd, Int.reduceSub, Int.reduceMul, Int.reduceNeg, Int.reduceToNat, io_add, io_sub, io_mul, io_lt, io_le, io_eq, io_lt0, io_le0, io_0lt, io_0le, io_eq0, io_max2, Int.toNat_natCast, Nat.add_zero, Nat.zero_add, up_same, up_slot, up_cell, h2]
        exact ih
      · rw [if_neg (fun z => h2 z.2)] at ih
        simp (disch := (first | assumption | exact mm_c1_i _ | exact mm_c1_r _ | exact mm_c1_u _ | omega | exact hR _ _ | exact Nat.le_of_ble_eq_true rfl | decide | rfl | exact pb_dec _ | (simp only [sp_n_t, sp_n_j, sp_n_c, sp_n_s, sp_n_k]; assumption) | (simp only [ad_t, ad_a, ad_j, ad_c, ad_s]; omega))) only [st_67_0, st_67_1, st_67_3, sm_67_4, st_67_7, st_67_10, sm_67_11, st_67_14, sm_67_15, sm_67_16, st_67_22, st_67_25, sm_67_26, st_67_29, sm_67_30, sm_67_31, sm_67_34, st_67_37, sm_67_38, sm_67_41, st_67_44, st_67_47, sm_67_48, st_67_51, sm_67_52, st_67_53, sm_67_54, st_67_57, st_67_58, sm_67_59, st_67_62, st_67_65, st_67_68, reduceIte, Int.reduceEq, Int.reduceLE, Int.reduceLT, Int.reduceAdd, Int.reduceSub, Int.reduceMul, Int.reduceNeg, Int.reduceToNat, io_add, io_sub, io_mul, io_lt, io_le, io_eq, io_lt0, io_le0, io_0lt, io_0le, io_eq0, io_max2, Int.toNat_natCast, Nat.add_zero, Nat.zero_add, up_same, up_slot, up_cell, h2]
        exact ih
    · rw [pb_neg h1]
      rw [if_neg (fun z => h1 z.1)] at ih
      simp (disch := (first | assumption | exact mm_c1_i _ | exact mm_c1_r _ | exact mm_c1_u _ | omega | exact hR _ _ | exact Nat.le_of_ble_eq_true rfl | decide | rfl | exact pb_dec _)) only [st_67_0, st_67_1, st_67_3, sm_67_4, st_67_7, st_67_10, sm_67_11, st_67_14, sm_67_15, sm_67_16, st_67_22, st_67_25, sm_67_26, st_67_29, sm_67_30, sm_67_31, sm_67_34, st_67_37, sm_67_38, sm_67_41, st_67_44, st_67_47, sm_67_48, st_67_51, sm_67_52, st_67_53, sm_67_54, st_67_57, st_67_58, sm_67_59, st_67_62, st_67_65, st_67_68, reduceIte, Int.reduceEq, Int.reduceLE, Int.reduceLT, Int.reduceAdd, Int.reduceSub, Int.reduceMul, Int.reduceNeg, Int.reduceToNat, io_add, io_sub, io_mul, io_lt, io_le, io_eq, io_lt0, io_le0, io_0lt, io_0le, io_eq0, io_max2, Int.toNat_natCast, Nat.add_zero, Nat.zero_add]
      exact ih
theorem sp_67 (hR : sp_R I) (h6 : 0 ≤ I 0 4 ∧ I 0 4 ≤ 6) (hB : cl_B I) : mm_Rn pg_G (d + 1) 67 0 [.ref 0, .retAddr 0] [] (sp_me I 0 0) (none, sp_me (cl_nm I (sp_n I)) 0 0) := by
  simp (disch := (first | assumption | exact mm_c1_i _ | exact mm_c1_r _ | exact mm_c1_u _ | omega | exact hR _ _ | exact Nat.le_of_ble_eq_true rfl | decide | rfl | exact pb_dec _)) only [st_67_0, st_67_1, st_67_3, sm_67_4, st_67_7, st_67_10, sm_67_11, st_67_14, sm_67_15, sm_67_16, st_67_22, st_67_25, sm_67_26, st_67_29, sm_67_30, sm_67_31, sm_67_34, st_67_37, sm_67_38, sm_67_41, st_67_44, st_67_47, sm_67_48, st_67_51, sm_67_52, st_67_53, sm_67_54, st_67_57, st_67_58, sm_67_59, st_67_62, st_67_65, st_67_68, reduceIte, Int.reduceEq, Int.reduceLE, Int.reduceLT, Int.reduceAdd, Int.reduceSub, Int.reduceMul, Int.reduceNeg, Int.reduceToNat, io_add, io_sub, io_mul, io_lt, io_le, io_eq, io_lt0, io_le0, io_0lt, io_0le, io_eq0, io_max2, Int.toNat_natCast, Nat.add_zero, Nat.zero_add]
  exact sp_67l hR h6 hB (sp_n I) 0 (by omega)
end MK
/-- first, runner; behind the run; behind the note; behind the tick -/
noncomputable def cl_f (I : sp_I) : Int := cl_fs I (sp_n I + 1)
noncomputable def cl_c (I : sp_I) : Int := cl_ch I (cl_f I)
noncomputable def cl_m1 (I : sp_I) : sp_I := if cl_c I = 1 then cl_sv2 (cl_sv1 I) else if cl_c I = 0 then I else if cl_c I = cl_f I then cl_rj I (cl_c I - 2).toNat else cl_nb (cl_rj I (cl_c I - 2).toNat) (cl_c I) (sp_n (cl_rj I (cl_c I - 2).toNat))
noncomputable def cl_m2 (I : sp_I) : sp_I := cl_nt3 (cl_nt2 (cl_nt1 (cl_m1 I) (cl_c I)) (cl_c I)) (cl_c I)
noncomputable def cl_mt (I : sp_I) : sp_I := cl_nm (cl_m2 I) (sp_n (cl_m2 I))
theorem cl_ch_rng {I : sp_I} {f : Int} (h6 : 0 ≤ I 0 4 ∧ I 0 4 ≤ 6) (hf : 0 ≤ f ∧ f < 2 + I 0 4) : 0 ≤ cl_ch I f ∧ cl_ch I f < 2 + I 0 4 := by
  have hn := cl_n h6
  unfold cl_ch
  repeat' split
  all_goals omega
theorem cl_c_rng {I : sp_I} (h6 : 0 ≤ I 0 4 ∧ I 0 4 ≤ 6) : (0 ≤ cl_c I ∧ cl_c I < 2 + I 0 4) ∧ 0 ≤ cl_f I ∧ cl_f I < 2 + I 0 4 := by
  have hn := cl_n h6
  have hf := cl_fs_rng I (sp_n I + 1)
  have h2 : 0 ≤ cl_f I ∧ cl_f I < 2 + I 0 4 := by unfold cl_f; omega
  exact ⟨cl_ch_rng h6 h2, h2⟩
theorem cl_rj_out {I : sp_I} {i u v : Nat} (h1 : ¬ (u = ad_j i ∧ v = 2)) (h2 : ¬ (u = ad_t i ∧ (v = 7 ∨ v = 8 ∨ v = 9))) (h3 : ¬ (u = 0 ∧ v = 7)) : cl_rj I i u v = I u v := by
  have e : cl_rt I i u v = I u v := cl_rt_out h1 (fun z => h2 ⟨z.1, Or.inr z.2⟩)
  unfold cl_rj
  split
  · exact e
  · unfold up_I
    rw [if_neg (fun z => h2 ⟨z.1, Or.inl z.2⟩), if_neg h3]
    exact e
theorem sp_63 {I : sp_I} {d : Nat} (h0 : cl_G I) (h1 : cl_G (cl_m1 I)) (h2 : cl_G (cl_m2 I)) (h3 : ∀ i, i < sp_n I → cl_G (cl_rj I i)) : mm_Rn pg_G (d + 5) 63 0 [.ref 0, .retAddr 0, .retAddr 0] [] (sp_me I 0 0) (none, sp_me (cl_mt I) 0 0) := by
  obtain ⟨hR, h6, hT, hV, h51, h52, h07, hP, hB, h3'⟩ := id h0
  have hn := cl_n h6
  obtain ⟨c1, c2⟩ := cl_c_rng h6
  have tail : ∀ J, J = cl_m1 I → mm_Rn pg_G (d + 5) 63 47 [.ref 0, io_v (cl_f I), io_v (cl_c I)] [] (sp_me J 0 0) (none, sp_me (cl_mt I) 0 0) := by
    intro J hJ
    rw [hJ]
    obtain ⟨kR, k6, kT, kV, k51, k52, k07, kP, kB, -⟩ := h1
    obtain ⟨lR, l6, lT, lV, l51, l52, l07, lP, lB, -⟩ := h2
    simp (disch := (first | assumption | exact mm_c1_i _ | exact mm_c1_r _ | exact mm_c1_u _ | omega | exact hR _ _ | exact Nat.le_of_ble_eq_true rfl | decide | rfl | exact pb_dec _)) only [st_63_0, st_63_4, st_63_5, st_63_6, st_63_10, st_63_11, st_63_12, st_63_13, st_63_16, sm_63_17, st_63_23, st_63_26, st_63_27, st_63_30, st_63_31, st_63_32, st_63_33, st_63_37, st_63_38, st_63_39, st_63_42, st_63_43, st_63_47, sm_63_48, st_63_51, st_63_55, st_63_59, reduceIte, Int.reduceEq, Int.reduceLE, Int.reduceLT, Int.reduceAdd, Int.reduceSub, Int.reduceMul, Int.reduceNeg, Int.reduceToNat, io_add, io_sub, io_mul, io_lt, io_le, io_eq, io_lt0, io_le0, io_0lt, io_0le, io_eq0, io_max2, Int.toNat_natCast, Nat.add_zero, Nat.zero_add]
    rw [st_63_52 (Nat.le_of_ble_eq_true rfl) rfl (sp_30 (d := d + 3) kR (code := cl_c I) (by omega) k51 k52)]
    simp (disch := (first | assumption | exact mm_c1_i _ | exact mm_c1_r _ | exact mm_c1_u _ | omega | exact hR _ _ | exact Nat.le_of_ble_eq_true rfl | decide | rfl | exact pb_dec _)) only [st_63_0, st_63_4, st_63_5, st_63_6, st_63_10, st_63_11, st_63_12, st_63_13, st_63_16, sm_63_17, st_63_23, st_63_26, st_63_27, st_63_30, st_63_31, st_63_32, st_63_33, st_63_37, st_63_38, st_63_39, st_63_42, st_63_43, st_63_47, sm_63_48, st_63_51, st_63_55, st_63_59, reduceIte, Int.reduceEq, Int.reduceLE, Int.reduceLT, Int.reduceAdd, Int.reduceSub, Int.reduceMul, Int.reduceNeg, Int.reduceToNat, io_add, io_sub, io_mul, io_lt, io_le, io_eq, io_lt0, io_le0, io_0lt, io_0le, io_eq0, io_max2, Int.toNat_natCast, Nat.add_zero, Nat.zero_add]
    rw [show cl_nt3 (cl_nt2 (cl_nt1 (cl_m1 I) (cl_c I)) (cl_c I)) (cl_c I) = cl_m2 I from rfl, st_63_56 (Nat.le_of_ble_eq_true rfl) rfl (sp_67 (d := d + 3) (I := cl_m2 I) lR l6 lB)]
    simp (disch := (first | assumption | exact mm_c1_i _ | exact mm_c1_r _ | exact mm_c1_u _ | omega | exact hR _ _ | exact Nat.le_of_ble_eq_true rfl | decide | rfl | exact pb_dec _)) only [st_63_0, st_63_4, st_63_5, st_63_6, st_63_10, st_63_11, st_63_12, st_63_13, st_63_16, sm_63_17, st_63_23, st_63_26, st_63_27, st_63_30, st_63_31, st_63_32, st_63_33, st_63_37, st_63_38, st_63_39, st_63_42, st_63_43, st_63_47, sm_63_48, st_63_51, st_63_55, st_63_59, reduceIte, Int.reduceEq, Int.reduceLE, Int.reduceLT, Int.reduceAdd, Int.reduceSub, Int.reduceMul, Int.reduceNeg, Int.reduceToNat, io_add, io_sub, io_mul, io_lt, io_le, io_eq, io_lt0, io_le0, io_0lt, io_0le, io_eq0, io_max2, Int.toNat_natCast, Nat.add_zero, Nat.zero_add]
    rfl
  simp (disch := (first | assumption | exact mm_c1_i _ | exact mm_c1_r _ | exact mm_c1_u _ | omega | exact hR _ _ | exact Nat.le_of_ble_eq_true rfl | decide | rfl | exact pb_dec _)) only [st_63_0, st_63_4, st_63_5, st_63_6, st_63_10, st_63_11, st_63_12, st_63_13, st_63_16, sm_63_17, st_63_23, st_63_26, st_63_27, st_63_30, st_63_31, st_63_32, st_63_33, st_63_37, st_63_38, st_63_39, st_63_42, st_63_43, sm_63_48, st_63_51, st_63_55, st_63_59, reduceIte, Int.reduceEq, Int.reduceLE, Int.reduceLT, Int.reduceAdd, Int.reduceSub, Int.reduceMul, Int.reduceNeg, Int.reduceToNat, io_add, io_sub, io_mul, io_lt, io_le, io_eq, io_lt0, io_le0, io_0lt, io_0le, io_eq0, io_max2, Int.toNat_natCast, Nat.add_zero, Nat.zero_add]
  rw [st_63_1 (Nat.le_of_ble_eq_true rfl) rfl (sp_61 (d := d + 2) hR h6)]
  simp (disch := (first | assumption | exact mm_c1_i _ | exact mm_c1_r _ | exact mm_c1_u _ | omega | exact hR _ _ | exact Nat.le_of_ble_eq_true rfl | decide | rfl | exact pb_dec _)) only [st_63_0, st_63_4, st_63_5, st_63_6, st_63_10, st_63_11, st_63_12, st_63_13, st_63_16, sm_63_17, st_63_23, st_63_26, st_63_27, st_63_30, st_63_31, st_63_32, st_63_33, st_63_37, st_63_38, st_63_39, st_63_42, st_63_43, sm_63_48, st_63_51, st_63_55, st_63_59, reduceIte, Int.reduceEq, Int.reduceLE, Int.reduceLT, Int.reduceAdd, Int.reduceSub, Int.reduceMul, Int.reduceNeg, Int.reduceToNat, io_add, io_sub, io_mul, io_lt, io_le, io_eq, io_lt0, io_le0, io_0lt, io_0le, io_eq0, io_max2, Int.toNat_natCast, Nat.add_zero, Nat.zero_add]
  rw [show cl_fs I (sp_n I + 1) = cl_f I from rfl, st_63_7 (Nat.le_of_ble_eq_true rfl) rfl (sp_64 (d := d) hR h6 hT hP c2)]
  rw [show cl_ch I (cl_f I) = cl_c I from rfl]
  by_cases e1 : cl_c I = 1
  · simp (disch := (first | assumption | exact mm_c1_i _ | exact mm_c1_r _ | exact mm_c1_u _ | omega | exact hR _ _ | exact Nat.le_of_ble_eq_true rfl | decide | rfl | exact pb_dec _)) only [st_63_0, st_63_4, st_63_5, st_63_6, st_63_10, st_63_11, st_63_12, st_63_13, st_63_16, sm_63_17, st_63_23, st_63_26, st_63_27, st_63_30, st_63_31, st_63_32, st_63_33, st_63_37, st_63_38, st_63_39, st_63_42, st_63_43, sm_63_48, st_63_51, st_63_55, st_63_59, reduceIte, Int.reduceEq, Int.reduceLE, Int.reduceLT, Int.reduceAdd, Int.reduceSub, Int.reduceMul, Int.reduceNeg, Int.reduceToNat, io_add, io_sub, io_mul, io_lt, io_le, io_eq, io_lt0, io_le0, io_0lt, io_0le, io_eq0, io_max2, Int.toNat_natCast, Nat.add_zero, Nat.zero_add, e1]
    rw [st_63_20 (Nat.le_of_ble_eq_true rfl) rfl (sp_26 (d := d + 3) hR hV)]
    simp (disch := (first | assumption | exact mm_c1_i _ | exact mm_c1_r _ | exact mm_c1_u _ | omega | exact hR _ _ | exact Nat.le_of_ble_eq_true rfl | decide | rfl | exact pb_dec _)) only [st_63_0, st_63_4, st_63_5, st_63_6, st_63_10, st_63_11, st_63_12, st_63_13, st_63_16, sm_63_17, st_63_23, st_63_26, st_63_27, st_63_30, st_63_31, st_63_32, st_63_33, st_63_37, st_63_38, st_63_39, st_63_42, st_63_43, sm_63_48, st_63_51, st_63_55, st_63_59, reduceIte, Int.reduceEq, Int.reduceLE, Int.reduceLT, Int.reduceAdd, Int.reduceSub, Int.reduceMul, Int.reduceNeg, Int.reduceToNat, io_add, io_sub, io_mul, io_lt, io_le, io_eq, io_lt0, io_le0, io_0lt, io_0le, io_eq0, io_max2, Int.toNat_natCast, Nat.add_zero, Nat.zero_add]
    have := tail (cl_sv2 (cl_sv1 I)) (by unfold cl_m1; rw [if_pos e1])
    rw [e1] at this
    exact this
  by_cases e0 : cl_c I = 0
  · simp (disch := (first | assumption | exact mm_c1_i _ | exact mm_c1_r _ | exact mm_c1_u _ | omega | exact hR _ _ | exact Nat.le_of_ble_eq_true rfl | decide | rfl | exact pb_dec _)) only [st_63_0, st_63_4, st_63_5, st_63_6, st_63_10, st_63_11, st_63_12, st_63_13, st_63_16, sm_63_17, st_63_23, st_63_26, st_63_27, st_63_30, st_63_31, st_63_32, st_63_33, st_63_37, st_63_38, st_63_39, st_63_42, st_63_43, sm_63_48, st_63_51, st_63_55, st_63_59, reduceIte, Int.reduceEq, Int.reduceLE, Int.reduceLT, Int.reduceAdd, Int.reduceSub, Int.reduceMul, Int.reduceNeg, Int.reduceToNat, io_add, io_sub, io_mul, io_lt, io_le, io_eq, io_lt0, io_le0, io_0lt, io_0le, io_eq0, io_max2, Int.toNat_natCast, Nat.add_zero, Nat.zero_add, e0]
    have := tail I (by unfold cl_m1; rw [if_neg e1, if_pos e0])
    rw [e0] at this
    exact this
  have hi : (cl_c I - 2).toNat < sp_n I := by omega
  have hz : (((cl_c I - 2).toNat : Nat) : Int) = cl_c I - 2 := by omega
  have k65 := sp_65 (d := d) h0 hi
  rw [hz] at k65
  obtain ⟨kR, k6, kT, kV, k51, k52, k07, kP, kB, -⟩ := h3 _ hi
  have e04 : cl_rj I (cl_c I - 2).toNat 0 4 = I 0 4 := cl_rj_out (fun z => (ad_k (show 0 < 32 by decide)).1 z.1) (fun z => (ad_k (show 0 < 32 by decide)).2.2 z.1) (by decide)
  simp (disch := (first | assumption | exact mm_c1_i _ | exact mm_c1_r _ | exact mm_c1_u _ | omega | exact hR _ _ | exact Nat.le_of_ble_eq_true rfl | decide | rfl | exact pb_dec _)) only [st_63_0, st_63_4, st_63_5, st_63_6, st_63_10, st_63_11, st_63_12, st_63_13, st_63_16, sm_63_17, st_63_23, st_63_26, st_63_27, st_63_30, st_63_31, st_63_32, st_63_33, st_63_37, st_63_38, st_63_39, st_63_42, st_63_43, sm_63_48, st_63_51, st_63_55, st_63_59, reduceIte, Int.reduceEq, Int.reduceLE, Int.reduceLT, Int.reduceAdd, Int.reduceSub, Int.reduceMul, Int.reduceNeg, Int.reduceToNat, io_add, io_sub, io_mul, io_lt, io_le, io_eq, io_lt0, io_le0, io_0lt, io_0le, io_eq0, io_max2, Int.toNat_natCast, Nat.add_zero, Nat.zero_add, e0, e1]
  rw [st_63_34 (Nat.le_of_ble_eq_true rfl) rfl k65]
  by_cases e2 : cl_c I = cl_f I
  · have := tail (cl_rj I (cl_c I - 2).toNat) (by unfold cl_m1; rw [if_neg e1, if_neg e0, if_pos e2])
    simp (disch := (first | assumption | exact mm_c1_i _ | exact mm_c1_r _ | exact mm_c1_u _ | omega | exact hR _ _ | exact Nat.le_of_ble_eq_true rfl | decide | rfl | exact pb_dec _)) only [st_63_0, st_63_4, st_63_5, st_63_6, st_63_10, st_63_11, st_63_12, st_63_13, st_63_16, sm_63_17, st_63_23, st_63_26, st_63_27, st_63_30, st_63_31, st_63_32, st_63_33, st_63_37, st_63_38, st_63_39, st_63_42, st_63_43, sm_63_48, st_63_51, st_63_55, st_63_59, reduceIte, Int.reduceEq, Int.reduceLE, Int.reduceLT, Int.reduceAdd, Int.reduceSub, Int.reduceMul, Int.reduceNeg, Int.reduceToNat, io_add, io_sub, io_mul, io_lt, io_le, io_eq, io_lt0, io_le0, io_0lt, io_0le, io_eq0, io_max2, Int.toNat_natCast, Nat.add_zero, Nat.zero_add]
    rw [if_pos e2]
    exact this
  · have := tail (cl_nb (cl_rj I (cl_c I - 2).toNat) (cl_c I) (sp_n (cl_rj I (cl_c I - 2).toNat))) (by unfold cl_m1; rw [if_neg e1, if_neg e0, if_neg e2])
    simp (disch := (first | assumption | exact mm_c1_i _ | exact mm_c1_r _ | exact mm_c1_u _ | omega | exact hR _ _ | exact Nat.le_of_ble_eq_true rfl | decide | rfl | exact pb_dec _)) only [st_63_0, st_63_4, st_63_5, st_63_6, st_63_10, st_63_11, st_63_12, st_63_13, st_63_16, sm_63_17, st_63_23, st_63_26, st_63_27, st_63_30, st_63_31, st_63_32, st_63_33, st_63_37, st_63_38, st_63_39, st_63_42, st_63_43, sm_63_48, st_63_51, st_63_55, st_63_59, reduceIte, Int.reduceEq, Int.reduceLE, Int.reduceLT, Int.reduceAdd, Int.reduceSub, Int.reduceMul, Int.reduceNeg, Int.reduceToNat, io_add, io_sub, io_mul, io_lt, io_le, io_eq, io_lt0, io_le0, io_0lt, io_0le, io_eq0, io_max2, Int.toNat_natCast, Nat.add_zero, Nat.zero_add]
    rw [if_neg e2, st_63_44 (Nat.le_of_ble_eq_true rfl) rfl (sp_66 (d := d + 2) kR k6 kB (rc := cl_c I) (by omega))]
    simp (disch := (first | assumption | exact mm_c1_i _ | exact mm_c1_r _ | exact mm_c1_u _ | omega | exact hR _ _ | exact Nat.le_of_ble_eq_true rfl | decide | rfl | exact pb_dec _)) only [st_63_0, st_63_4, st_63_5, st_63_6, st_63_10, st_63_11, st_63_12, st_63_13, st_63_16, sm_63_17, st_63_23, st_63_26, st_63_27, st_63_30, st_63_31, st_63_32, st_63_33, st_63_37, st_63_38, st_63_39, st_63_42, st_63_43, sm_63_48, st_63_51, st_63_55, st_63_59, reduceIte, Int.reduceEq, Int.reduceLE, Int.reduceLT, Int.reduceAdd, Int.reduceSub, Int.reduceMul, Int.reduceNeg, Int.reduceToNat, io_add, io_sub, io_mul, io_lt, io_le, io_eq, io_lt0, io_le0, io_0lt, io_0le, io_eq0, io_max2, Int.toNat_natCast, Nat.add_zero, Nat.zero_add]
    exact this
