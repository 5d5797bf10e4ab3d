/-! the reference: holders and ceilings -/
section RG
variable {I : sp_I} {d : Nat}
theorem rf_ix (i q : Nat) : (4 * (i : Int) + (q : Int)).toNat = 4 * i + q := by omega
theorem sp_86l (hR : sp_R I) (hW : rf_W I) {i : Nat} (hi : i < 6) {r : Int} (hr : io_R r) : ∀ m q : Nat, q + m = rf_p I i → mm_Rn pg_G d 86 16 [.ref 8, io_v i, io_v r, io_v (4 * i + q)] [] (sp_me I 0 0) (some (io_v (pb_z (∃ k, q ≤ k ∧ k < rf_p I i ∧ I 13 (4 * i + k) = r ∧ rf_at I i k))), sp_me I 0 0)
  | 0, q, hm => by
    have hp := rf_P hW hi
    rw [pb_neg (fun ⟨k, h1, h2, _⟩ => by omega), st_86_16]
    simp (disch := (first | assumption | exact mm_c1_i _ | exact mm_c1_r _ | exact mm_c1_u _ | omega | exact hR _ _ | exact Nat.le_of_ble_eq_true rfl | decide | rfl | exact pb_dec _)) only [st_86_0, sm_86_1, st_86_4, sm_86_5, st_86_6, st_86_7, st_86_10, st_86_11, st_86_12, st_86_13, st_86_14, st_86_15, st_86_17, st_86_18, st_86_19, st_86_20, sm_86_21, st_86_24, sm_86_25, st_86_26, st_86_27, st_86_30, sm_86_31, st_86_34, sm_86_35, st_86_36, st_86_37, st_86_40, sm_86_41, st_86_44, sm_86_45, st_86_46, sm_86_47, st_86_50, sm_86_51, st_86_52, st_86_55, sm_86_56, st_86_59, sm_86_60, st_86_61, sm_86_62, st_86_65, sm_86_66, st_86_67, st_86_70, st_86_71, st_86_72, st_86_75, st_86_78, st_86_79, reduceIte, Int.reduceEq, Int.reduceLE, Int.reduceLT, Int.reduceAdd, Int.reduceSub, Int.reduceMul, Int.reduceNeg, Int.reduceToNat, io_add, io_sub, io_mul, io_lt, io_le, io_eq, io_lt0, io_le0, io_0lt, io_0le, io_eq0, io_max2, Int.toNat_natCast, Nat.add_zero, Nat.zero_add]
    rw [if_pos (by omega)]; trivial
  | m + 1, q, hm => by
    have hp := rf_P hW hi
    have hk := hW.2.2 (4 * i + q) (by omega)
    have ih := sp_86l hR hW hi hr m (q + 1) (by omega)
    rw [show 4 * (i : Int) + ((q + 1 : Nat) : Int) = 4 * i + q + 1 by omega] at ih
    rw [pb_iff (pf_ex_succ (show q < rf_p I i by omega)), st_86_16]
    simp (disch := (first | assumption | exact mm_c1_i _ | exact mm_c1_r _ | exact mm_c1_u _ | omega | exact hR _ _ | exact Nat.le_of_ble_eq_true rfl | decide | rfl | exact pb_dec _)) only [st_86_0, sm_86_1, st_86_4, sm_86_5, st_86_6, st_86_7, st_86_10, st_86_11, st_86_12, st_86_13, st_86_14, st_86_15, st_86_17, st_86_18, st_86_19, st_86_20, sm_86_21, st_86_24, sm_86_25, st_86_26, st_86_27, st_86_30, sm_86_31, st_86_34, sm_86_35, st_86_36, st_86_37, st_86_40, sm_86_41, st_86_44, sm_86_45, st_86_46, sm_86_47, st_86_50, sm_86_51, st_86_52, st_86_55, sm_86_56, st_86_59, sm_86_60, st_86_61, sm_86_62, st_86_65, sm_86_66, st_86_67, st_86_70, st_86_71, st_86_72, st_86_75, st_86_78, st_86_79, reduceIte, Int.reduceEq, Int.reduceLE, Int.reduceLT, Int.reduceAdd, Int.reduceSub, Int.reduceMul, Int.reduceNeg, Int.reduceToNat, io_add, io_sub, io_mul, io_lt, io_le, io_eq, io_lt0, io_le0, io_0lt, io_0le, io_eq0, io_max2, Int.toNat_natCast, Nat.add_zero, Nat.zero_add, rf_ix]
    rw [if_neg (by omega)]
    unfold rf_at at ih ⊢
    repeat' split
    all_goals first
      | (rw [pb_pos (Or.inl ⟨by assumption, by omega, by omega⟩)]; done)
      | (rw [pb_iff (show (_ ∨ _) ↔ _ from ⟨fun z => z.elim (fun z => by exfalso; omega) id, Or.inr⟩)]; exact ih)
theorem sp_86 (hR : sp_R I) (hW : rf_W I) {i : Nat} (hi : i < 6) {r : Int} (hr : io_R r) : mm_Rn pg_G d 86 0 [.ref 8, io_v i, io_v r, .retAddr 0] [] (sp_me I 0 0) (some (io_v (pb_z (rf_h I i r))), sp_me I 0 0) := by
  by_cases h : I 17 i = 1
  · rw [pb_iff (show rf_h I i r ↔ (∃ k, 0 ≤ k ∧ k < rf_p I i ∧ I 13 (4 * i + k) = r ∧ rf_at I i k) from ⟨fun z => pf_ex_zero.mpr z.2, fun z => ⟨h, pf_ex_zero.mp z⟩⟩)]
    simp (disch := (first | assumption | exact mm_c1_i _ | exact mm_c1_r _ | exact mm_c1_u _ | omega | exact hR _ _ | exact Nat.le_of_ble_eq_true rfl | decide | rfl | exact pb_dec _)) only [st_86_0, sm_86_1, st_86_4, sm_86_5, st_86_6, st_86_7, st_86_10, st_86_11, st_86_12, st_86_13, st_86_14, st_86_15, st_86_17, st_86_18, st_86_19, st_86_20, sm_86_21, st_86_24, sm_86_25, st_86_26, st_86_27, st_86_30, sm_86_31, st_86_34, sm_86_35, st_86_36, st_86_37, st_86_40, sm_86_41, st_86_44, sm_86_45, st_86_46, sm_86_47, st_86_50, sm_86_51, st_86_52, st_86_55, sm_86_56, st_86_59, sm_86_60, st_86_61, sm_86_62, st_86_65, sm_86_66, st_86_67, st_86_70, st_86_71, st_86_72, st_86_75, st_86_78, st_86_79, reduceIte, Int.reduceEq, Int.reduceLE, Int.reduceLT, Int.reduceAdd, Int.reduceSub, Int.reduceMul, Int.reduceNeg, Int.reduceToNat, io_add, io_sub, io_mul, io_lt, io_le, io_eq, io_lt0, io_le0, io_0lt, io_0le, io_eq0, io_max2, Int.toNat_natCast, Nat.add_zero, Nat.zero_add, h]
    have := sp_86l (d := d) hR hW hi hr (rf_p I i) 0 (by omega)
    rw [show 4 * (i : Int) + ((0 : Nat) : Int) = 4 * i by omega] at this
    exact this
  · rw [pb_neg (fun z => h z.1)]
    simp (disch := (first | assumption | exact mm_c1_i _ | exact mm_c1_r _ | exact mm_c1_u _ | omega | exact hR _ _ | exact Nat.le_of_ble_eq_true rfl | decide | rfl | exact pb_dec _)) only [st_86_0, sm_86_1, st_86_4, sm_86_5, st_86_6, st_86_7, st_86_10, st_86_11, st_86_12, st_86_13, st_86_14, st_86_15, st_86_17, st_86_18, st_86_19, st_86_20, sm_86_21, st_86_24, sm_86_25, st_86_26, st_86_27, st_86_30, sm_86_31, st_86_34, sm_86_35, st_86_36, st_86_37, st_86_40, sm_86_41, st_86_44, sm_86_45, st_86_46, sm_86_47, st_86_50, sm_86_51, st_86_52, st_86_55, sm_86_56, st_86_59, sm_86_60, st_86_61, sm_86_62, st_86_65, sm_86_66, st_86_67, st_86_70, st_86_71, st_86_72, st_86_75, st_86_78, st_86_79, reduceIte, Int.reduceEq, Int.reduceLE, Int.reduceLT, Int.reduceAdd, Int.reduceSub, Int.reduceMul, Int.reduceNeg, Int.reduceToNat, io_add, io_sub, io_mul, io_lt, io_le, io_eq, io_lt0, io_le0, io_0lt, io_0le, io_eq0, io_max2, Int.toNat_natCast, Nat.add_zero, Nat.zero_add, h]
theorem sp_87 (hR : sp_R I) (hW : rf_W I) {i : Nat} (hi : i < 6) : mm_Rn pg_G (d + 1) 87 0 [.ref 8, io_v i] [] (sp_me I 0 0) (some (io_v (pb_z (rf_h I i 0 ∨ rf_h I i 1 ∨ rf_h I i 2 ∨ rf_h I i 3))), sp_me I 0 0) := by
  simp (disch := (first | assumption | exact mm_c1_i _ | exact mm_c1_r _ | exact mm_c1_u _ | omega | exact hR _ _ | exact Nat.le_of_ble_eq_true rfl | decide | rfl | exact pb_dec _)) only [st_87_0, st_87_1, st_87_2, st_87_6, st_87_9, st_87_10, st_87_11, st_87_15, st_87_18, st_87_19, st_87_20, st_87_24, st_87_27, st_87_28, st_87_29, st_87_33, st_87_36, st_87_37, st_87_40, st_87_41, reduceIte, Int.reduceEq, Int.reduceLE, Int.reduceLT, Int.reduceAdd, Int.reduceSub, Int.reduceMul, Int.reduceNeg, Int.reduceToNat, io_add, io_sub, io_mul, io_lt, io_le, io_eq, io_lt0, io_le0, io_0lt, io_0le, io_eq0, io_max2, Int.toNat_natCast, Nat.add_zero, Nat.zero_add]
  rw [st_87_3 (Nat.le_of_ble_eq_true rfl) rfl (sp_86 (d := d) hR hW hi (r := 0) (by decide))]
  by_cases h0 : rf_h I i 0
  · rw [pb_pos h0, pb_pos (Or.inl h0)]
    simp (disch := (first | assumption | exact mm_c1_i _ | exact mm_c1_r _ | exact mm_c1_u _ | omega | exact hR _ _ | exact Nat.le_of_ble_eq_true rfl | decide | rfl | exact pb_dec _)) only [st_87_0, st_87_1, st_87_2, st_87_6, st_87_9, st_87_10, st_87_11, st_87_15, st_87_18, st_87_19, st_87_20, st_87_24, st_87_27, st_87_28, st_87_29, st_87_33, st_87_36, st_87_37, st_87_40, st_87_41, reduceIte, Int.reduceEq, Int.reduceLE, Int.reduceLT, Int.reduceAdd, Int.reduceSub, Int.reduceMul, Int.reduceNeg, Int.reduceToNat, io_add, io_sub, io_mul, io_lt, io_le, io_eq, io_lt0, io_le0, io_0lt, io_0le, io_eq0, io_max2, Int.toNat_natCast, Nat.add_zero, Nat.zero_add]
  rw [pb_neg h0]
  simp (disch := (first | assumption | exact mm_c1_i _ | exact mm_c1_r _ | exact mm_c1_u _ | omega | exact hR _ _ | exact Nat.le_of_ble_eq_true rfl | decide | rfl | exact pb_dec _)) only [st_87_0, st_87_1, st_87_2, st_87_6, st_87_9, st_87_10, st_87_11, st_87_15, st_87_18, st_87_19, st_87_20, st_87_24, st_87_27, st_87_28, st_87_29, st_87_33, st_87_36, st_87_37, st_87_40, st_87_41, reduceIte, Int.reduceEq, Int.reduceLE, Int.reduceLT, Int.reduceAdd, Int.reduceSub, Int.reduceMul, Int.reduceNeg, Int.reduceToNat, io_add, io_sub, io_mul, io_lt, io_le, io_eq, io_lt0, io_le0, io_0lt, io_0le, io_eq0, io_max2, Int.toNat_natCast, Nat.add_zero, Nat.zero_add]
  rw [st_87_12 (Nat.le_of_ble_eq_true rfl) rfl (sp_86 (d := d) hR hW hi (r := 1) (by decide))]
  by_cases h1 : rf_h I i 1
  · rw [pb_pos h1, pb_pos (Or.inr (Or.inl h1))]
    simp (disch := (first | assumption | exact mm_c1_i _ | exact mm_c1_r _ | exact mm_c1_u _ | omega | exact hR _ _ | exact Nat.le_of_ble_eq_true rfl | decide | rfl | exact pb_dec _)) only [st_87_0, st_87_1, st_87_2, st_87_6, st_87_9, st_87_10, st_87_11, st_87_15, st_87_18, st_87_19, st_87_20, st_87_24, st_87_27, st_87_28, st_87_29, st_87_33, st_87_36, st_87_37, st_87_40, st_87_41, reduceIte, Int.reduceEq, Int.reduceLE, Int.reduceLT, Int.reduceAdd, Int.reduceSub, Int.reduceMul, Int.reduceNeg, Int.reduceToNat, io_add, io_sub, io_mul, io_lt, io_le, io_eq, io_lt0, io_le0, io_0lt, io_0le, io_eq0, io_max2, Int.toNat_natCast, Nat.add_zero, Nat.zero_add]
  rw [pb_neg h1]
  simp (disch := (first | assumption | exact mm_c1_i _ | exact mm_c1_r _ | exact mm_c1_u _ | omega | exact hR _ _ | exact Nat.le_of_ble_eq_true rfl | decide | rfl | exact pb_dec _)) only [st_87_0, st_87_1, st_87_2, st_87_6, st_87_9, st_87_10, st_87_11, st_87_15, st_87_18, st_87_19, st_87_20, st_87_24, st_87_27, st_87_28, st_87_29, st_87_33, st_87_36, st_87_37, st_87_40, st_87_41, reduceIte, Int.reduceEq, Int.reduceLE, Int.reduceLT, Int.reduceAdd, Int.reduceSub, Int.reduceMul, Int.reduceNeg, Int.reduceToNat, io_add, io_sub, io_mul, io_lt, io_le, io_eq, io_lt0, io_le0, io_0lt, io_0le, io_eq0, io_max2, Int.toNat_natCast, Nat.add_zero, Nat.zero_add]
  rw [st_87_21 (Nat.le_of_ble_eq_true rfl) rfl (sp_86 (d := d) hR hW hi (r := 2) (by decide))]
  by_cases h2 : rf_h I i 2
  · rw [pb_pos h2, pb_pos (Or.inr (Or.inr (Or.inl h2)))]
    simp (disch := (first | assumption | exact mm_c1_i _ | exact mm_c1_r _ | exact mm_c1_u _ | omega | exact hR _ _ | exact Nat.le_of_ble_eq_true rfl | decide | rfl | exact pb_dec _)) only [st_87_0, st_87_1, st_87_2, st_87_6, st_87_9, st_87_10, st_87_11, st_87_15, st_87_18, st_87_19, st_87_20, st_87_24, st_87_27, st_87_28, st_87_29, st_87_33, st_87_36, st_87_37, st_87_40, st_87_41, reduceIte, Int.reduceEq, Int.reduceLE, Int.reduceLT, Int.reduceAdd, Int.reduceSub, Int.reduceMul, Int.reduceNeg, Int.reduceToNat, io_add, io_sub, io_mul, io_lt, io_le, io_eq, io_lt0, io_le0, io_0lt, io_0le, io_eq0, io_max2, Int.toNat_natCast, Nat.add_zero, Nat.zero_add]
  rw [pb_neg h2]
  simp (disch := (first | assumption | exact mm_c1_i _ | exact mm_c1_r _ | exact mm_c1_u _ | omega | exact hR _ _ | exact Nat.le_of_ble_eq_true rfl | decide | rfl | exact pb_dec _)) only [st_87_0, st_87_1, st_87_2, st_87_6, st_87_9, st_87_10, st_87_11, st_87_15, st_87_18, st_87_19, st_87_20, st_87_24, st_87_27, st_87_28, st_87_29, st_87_33, st_87_36, st_87_37, st_87_40, st_87_41, reduceIte, Int.reduceEq, Int.reduceLE, Int.reduceLT, Int.reduceAdd, Int.reduceSub, Int.reduceMul, Int.reduceNeg, Int.reduceToNat, io_add, io_sub, io_mul, io_lt, io_le, io_eq, io_lt0, io_le0, io_0lt, io_0le, io_eq0, io_max2, Int.toNat_natCast, Nat.add_zero, Nat.zero_add]
  rw [st_87_30 (Nat.le_of_ble_eq_true rfl) rfl (sp_86 (d := d) hR hW hi (r := 3) (by decide))]
  by_cases h3 : rf_h I i 3
  · rw [pb_pos h3, pb_pos (Or.inr (Or.inr (Or.inr h3)))]
    simp (disch := (first | assumption | exact mm_c1_i _ | exact mm_c1_r _ | exact mm_c1_u _ | omega | exact hR _ _ | exact Nat.le_of_ble_eq_true rfl | decide | rfl | exact pb_dec _)) only [st_87_0, st_87_1, st_87_2, st_87_6, st_87_9, st_87_10, st_87_11, st_87_15, st_87_18, st_87_19, st_87_20, st_87_24, st_87_27, st_87_28, st_87_29, st_87_33, st_87_36, st_87_37, st_87_40, st_87_41, reduceIte, Int.reduceEq, Int.reduceLE, Int.reduceLT, Int.reduceAdd, Int.reduceSub, Int.reduceMul, Int.reduceNeg, Int.reduceToNat, io_add, io_sub, io_mul, io_lt, io_le, io_eq, io_lt0, io_le0, io_0lt, io_0le, io_eq0, io_max2, Int.toNat_natCast, Nat.add_zero, Nat.zero_add]
  · rw [pb_neg h3, pb_neg (fun z => z.elim h0 (fun z => z.elim h1 (fun z => z.elim h2 h3)))]
    simp (disch := (first | assumption | exact mm_c1_i _ | exact mm_c1_r _ | exact mm_c1_u _ | omega | exact hR _ _ | exact Nat.le_of_ble_eq_true rfl | decide | rfl | exact pb_dec _)) only [st_87_0, st_87_1, st_87_2, st_87_6, st_87_9, st_87_10, st_87_11, st_87_15, st_87_18, st_87_19, st_87_20, st_87_24, st_87_27, st_87_28, st_87_29, st_87_33, st_87_36, st_87_37, st_87_40, st_87_41, reduceIte, Int.reduceEq, Int.reduceLE, Int.reduceLT, Int.reduceAdd, Int.reduceSub, Int.reduceMul, Int.reduceNeg, Int.reduceToNat, io_add, io_sub, io_mul, io_lt, io_le, io_eq, io_lt0, io_le0, io_0lt, io_0le, io_eq0, io_max2, Int.toNat_natCast, Nat.add_zero, Nat.zero_add]
theorem sp_88l (hR : sp_R I) (hW : rf_W I) {r : Int} (hr : io_R r) : ∀ m q : Nat, q + m = rf_n I → (∀ j, j < q → ¬ rf_h I j r) → mm_Rn pg_G (d + 1) 88 13 [.ref 8, io_v r, io_v q] [] (sp_me I 0 0) (some (io_v (rf_hd I r)), sp_me I 0 0)
  | 0, q, hm, hn0 => by
    have hn := rf_N hW
    unfold rf_hd
    rw [pf_fst_none (rf_n I) (fun k hk => hn0 k (by omega)), if_neg (by omega), st_88_13]
    simp (disch := (first | assumption | exact mm_c1_i _ | exact mm_c1_r _ | exact mm_c1_u _ | omega | exact hR _ _ | exact Nat.le_of_ble_eq_true rfl | decide | rfl | exact pb_dec _)) only [st_88_0, st_88_1, st_88_4, st_88_5, st_88_6, st_88_9, st_88_10, st_88_11, st_88_12, st_88_14, sm_88_15, st_88_18, st_88_21, st_88_22, st_88_23, st_88_27, st_88_30, st_88_31, st_88_32, st_88_35, st_88_38, st_88_39, reduceIte, Int.reduceEq, Int.reduceLE, Int.reduceLT, Int.reduceAdd, Int.reduceSub, Int.reduceMul, Int.reduceNeg, Int.reduceToNat, io_add, io_sub, io_mul, io_lt, io_le, io_eq, io_lt0, io_le0, io_0lt, io_0le, io_eq0, io_max2, Int.toNat_natCast, Nat.add_zero, Nat.zero_add]
    rw [if_pos (by omega)]; trivial
  | m + 1, q, hm, hn0 => by
    have hn := rf_N hW
    have hi : q < rf_n I := by omega
    rw [st_88_13]
    simp (disch := (first | assumption | exact mm_c1_i _ | exact mm_c1_r _ | exact mm_c1_u _ | omega | exact hR _ _ | exact Nat.le_of_ble_eq_true rfl | decide | rfl | exact pb_dec _)) only [st_88_0, st_88_1, st_88_4, st_88_5, st_88_6, st_88_9, st_88_10, st_88_11, st_88_12, st_88_14, sm_88_15, st_88_18, st_88_21, st_88_22, st_88_23, st_88_27, st_88_30, st_88_31, st_88_32, st_88_35, st_88_38, st_88_39, reduceIte, Int.reduceEq, Int.reduceLE, Int.reduceLT, Int.reduceAdd, Int.reduceSub, Int.reduceMul, Int.reduceNeg, Int.reduceToNat, io_add, io_sub, io_mul, io_lt, io_le, io_eq, io_lt0, io_le0, io_0lt, io_0le, io_eq0, io_max2, Int.toNat_natCast, Nat.add_zero, Nat.zero_add]
    rw [if_neg (by omega), st_88_24 (Nat.le_of_ble_eq_true rfl) rfl (sp_86 (d := d) hR hW (i := q) (by omega) hr)]
    by_cases h1 : rf_h I q r
    · unfold rf_hd
      rw [pf_fst_some h1 hn0 (rf_n I) hi, if_pos hi, pb_pos h1]
      simp (disch := (first | assumption | exact mm_c1_i _ | exact mm_c1_r _ | exact mm_c1_u _ | omega | exact hR _ _ | exact Nat.le_of_ble_eq_true rfl | decide | rfl | exact pb_dec _)) only [st_88_0, st_88_1, st_88_4, st_88_5, st_88_6, st_88_9, st_88_10, st_88_11, st_88_12, st_88_14, sm_88_15, st_88_18, st_88_21, st_88_22, st_88_23, st_88_27, st_88_30, st_88_31, st_88_32, st_88_35, st_88_38, st_88_39, reduceIte, Int.reduceEq, Int.reduceLE, Int.reduceLT, Int.reduceAdd, Int.reduceSub, Int.reduceMul, Int.reduceNeg, Int.reduceToNat, io_add, io_sub, io_mul, io_lt, io_le, io_eq, io_lt0, io_le0, io_0lt, io_0le, io_eq0, io_max2, Int.toNat_natCast, Nat.add_zero, Nat.zero_add]
    · have ih := sp_88l hR hW hr m (q + 1) (by omega) (fun k hk => by
        rcases Nat.lt_or_ge k q with z | z
        · exact hn0 k z
        · rw [show k = q by omega]; exact h1)
      rw [pb_neg h1]
      simp (disch := (first | assumption | exact mm_c1_i _ | exact mm_c1_r _ | exact mm_c1_u _ | omega | exact hR _ _ | exact Nat.le_of_ble_eq_true rfl | decide | rfl | exact pb_dec _)) only [st_88_0, st_88_1, st_88_4, st_88_5, st_88_6, st_88_9, st_88_10, st_88_11, st_88_12, st_88_14, sm_88_15, st_88_18, st_88_21, st_88_22, st_88_23, st_88_27, st_88_30, st_88_31, st_88_32, st_88_35, st_88_38, st_88_39, reduceIte, Int.reduceEq, Int.reduceLE, Int.reduceLT, Int.reduceAdd, Int.reduceSub, Int.reduceMul, Int.reduceNeg, Int.reduceToNat, io_add, io_sub, io_mul, io_lt, io_le, io_eq, io_lt0, io_le0, io_0lt, io_0le, io_eq0, io_max2, Int.toNat_natCast, Nat.add_zero, Nat.zero_add]
      exact ih
theorem sp_88 (hR : sp_R I) (hW : rf_W I) {r : Int} (hr : io_R r) : mm_Rn pg_G (d + 1) 88 0 [.ref 8, io_v r, .retAddr 0] [] (sp_me I 0 0) (some (io_v (if 0 ≤ r ∧ r ≤ 3 then rf_hd I r else -1)), sp_me I 0 0) := by
  by_cases h : 0 ≤ r ∧ r ≤ 3
  · rw [if_pos h]
    simp (disch := (first | assumption | exact mm_c1_i _ | exact mm_c1_r _ | exact mm_c1_u _ | omega | exact hR _ _ | exact Nat.le_of_ble_eq_true rfl | decide | rfl | exact pb_dec _)) only [st_88_0, st_88_1, st_88_4, st_88_5, st_88_6, st_88_9, st_88_10, st_88_11, st_88_12, st_88_14, sm_88_15, st_88_18, st_88_21, st_88_22, st_88_23, st_88_27, st_88_30, st_88_31, st_88_32, st_88_35, st_88_38, st_88_39, reduceIte, Int.reduceEq, Int.reduceLE, Int.reduceLT, Int.reduceAdd, Int.reduceSub, Int.reduceMul, Int.reduceNeg, Int.reduceToNat, io_add, io_sub, io_mul, io_lt, io_le, io_eq, io_lt0, io_le0, io_0lt, io_0le, io_eq0, io_max2, Int.toNat_natCast, Nat.add_zero, Nat.zero_add]
    rw [if_neg (by omega), if_pos (by omega)]
    exact sp_88l hR hW hr (rf_n I) 0 (by omega) (fun j hj => by omega)
  · rw [if_neg h]
    simp (disch := (first | assumption | exact mm_c1_i _ | exact mm_c1_r _ | exact mm_c1_u _ | omega | exact hR _ _ | exact Nat.le_of_ble_eq_true rfl | decide | rfl | exact pb_dec _)) only [st_88_0, st_88_1, st_88_4, st_88_5, st_88_6, st_88_9, st_88_10, st_88_12, st_88_13, st_88_14, sm_88_15, st_88_18, st_88_21, st_88_22, st_88_23, st_88_27, st_88_30, st_88_31, st_88_32, st_88_35, st_88_38, st_88_39, reduceIte, Int.reduceEq, Int.reduceLE, Int.reduceLT, Int.reduceAdd, Int.reduceSub, Int.reduceMul, Int.reduceNeg, Int.reduceToNat, io_add, io_sub, io_mul, io_lt, io_le, io_eq, io_lt0, io_le0, io_0lt, io_0le, io_eq0, io_max2, Int.toNat_natCast, Nat.add_zero, Nat.zero_add]
    repeat' split
    all_goals first | rfl | trivial | (exfalso; omega)
theorem sp_76i (hR : sp_R I) (hW : rf_W I) {r : Int} (hr : io_R r) {i : Nat} (hi : i < 6) {q' : mm_R} {b : Int} (hb : 0 ≤ b ∧ b ≤ 101) : ∀ m q : Nat, q + m = rf_p I i → mm_Rn pg_G (d + 1) 76 75 [.ref 8, io_v r, io_v (max b (pb_z (∃ k, q ≤ k ∧ k < rf_p I i ∧ I 13 (4 * i + k) = r) * (101 - I 10 i))), io_v i, io_v (4 * i + rf_p I i)] [] (sp_me I 0 0) q' → mm_Rn pg_G (d + 1) 76 28 [.ref 8, io_v r, io_v b, io_v i, io_v (4 * i + q)] [] (sp_me I 0 0) q'
  | 0, q, hm, hend => by
    have hp := rf_P hW hi
    rw [pb_mul_neg (fun ⟨k, h1, h2, _⟩ => by omega), Int.max_eq_left hb.1, show rf_p I i = q by omega] at hend
    rw [st_76_28]
    simp (disch := (first | assumption | exact mm_c1_i _ | exact mm_c1_r _ | exact mm_c1_u _ | omega | exact hR _ _ | exact Nat.le_of_ble_eq_true rfl | decide | rfl | exact pb_dec _)) only [st_76_0, st_76_1, st_76_4, st_76_5, st_76_6, st_76_9, st_76_10, st_76_11, st_76_12, st_76_13, st_76_14, st_76_15, st_76_16, sm_76_17, st_76_20, st_76_23, st_76_24, st_76_25, st_76_26, st_76_30, st_76_31, st_76_32, st_76_33, sm_76_34, st_76_37, sm_76_38, st_76_39, st_76_40, st_76_43, sm_76_44, st_76_47, sm_76_49, st_76_50, st_76_51, st_76_54, st_76_55, st_76_59, st_76_60, st_76_63, st_76_64, st_76_68, st_76_69, st_76_72, st_76_78, st_76_81, st_76_82, reduceIte, Int.reduceEq, Int.reduceLE, Int.reduceLT, Int.reduceAdd, Int.reduceSub, Int.reduceMul, Int.reduceNeg, Int.reduceToNat, io_add, io_sub, io_mul, io_lt, io_le, io_eq, io_lt0, io_le0, io_0lt, io_0le, io_eq0, io_max2, Int.toNat_natCast, Nat.add_zero, Nat.zero_add]
    rw [if_pos (by omega)]
    exact hend
  | m + 1, q, hm, hend => by
    have hp := rf_P hW hi
    have hs := hW.2.1 i hi
    have hk := hW.2.2 (4 * i + q) (by omega)
    rw [pb_iff (pf_ex_succ (show q < rf_p I i by omega))] at hend
    rw [st_76_28]
    simp (disch := (first | assumption | exact mm_c1_i _ | exact mm_c1_r _ | exact mm_c1_u _ | omega | exact hR _ _ | exact Nat.le_of_ble_eq_true rfl | decide | rfl | exact pb_dec _)) only [st_76_0, st_76_1, st_76_4, st_76_5, st_76_6, st_76_9, st_76_10, st_76_11, st_76_12, st_76_13, st_76_14, st_76_15, st_76_16, sm_76_17, st_76_20, st_76_23, st_76_24, st_76_25, st_76_26, st_76_30, st_76_31, st_76_32, st_76_33, sm_76_34, st_76_37, sm_76_38, st_76_39, st_76_40, st_76_43, sm_76_44, st_76_47, sm_76_49, st_76_50, st_76_51, st_76_54, st_76_55, st_76_59, st_76_60, st_76_63, st_76_64, st_76_68, st_76_69, st_76_72, st_76_78, st_76_81, st_76_82, reduceIte, Int.reduceEq, Int.reduceLE, Int.reduceLT, Int.reduceAdd, Int.reduceSub, Int.reduceMul, Int.reduceNeg, Int.reduceToNat, io_add, io_sub, io_mul, io_lt, io_le, io_eq, io_lt0, io_le0, io_0lt, io_0le, io_eq0, io_max2, Int.toNat_natCast, Nat.add_zero, Nat.zero_add, rf_ix]
    rw [if_neg (by omega)]
    by_cases h1 : I 13 (4 * i + q) = r
    · rw [if_pos h1, st_76_56 (Nat.le_of_ble_eq_true rfl) rfl (sp_75 (d := d) hi)]
      rw [pb_mul_pos (Or.inl h1)] at hend
      by_cases h2 : 101 - I 10 i ≤ b
      · have ih := sp_76i hR hW hr hi (q' := q') hb m (q + 1) (by omega) (by
          have e : max b (pb_z (∃ k, q + 1 ≤ k ∧ k < rf_p I i ∧ I 13 (4 * i + k) = r) * (101 - I 10 i)) = max b (101 - I 10 i) := by
            rcases pb_01 (∃ k, q + 1 ≤ k ∧ k < rf_p I i ∧ I 13 (4 * i + k) = r) with e | e <;> rw [e] <;> omega
          rw [e]; exact hend)
        rw [show 4 * (i : Int) + ((q + 1 : Nat) : Int) = 4 * i + q + 1 by omega] at ih
        simp (disch := (first | assumption | exact mm_c1_i _ | exact mm_c1_r _ | exact mm_c1_u _ | omega | exact hR _ _ | exact Nat.le_of_ble_eq_true rfl | decide | rfl | exact pb_dec _)) only [st_76_0, st_76_1, st_76_4, st_76_5, st_76_6, st_76_9, st_76_10, st_76_11, st_76_12, st_76_13, st_76_14, st_76_15, st_76_16, sm_76_17, st_76_20, st_76_23, st_76_24, st_76_25, st_76_26, st_76_30, st_76_31, st_76_32, st_76_33, sm_76_34, st_76_37, sm_76_38, st_76_39, st_76_40, st_76_43, sm_76_44, st_76_47, sm_76_49, st_76_50, st_76_51, st_76_54, st_76_55, st_76_59, st_76_60, st_76_63, st_76_64, st_76_68, st_76_69, st_76_72, st_76_78, st_76_81, st_76_82, reduceIte, Int.reduceEq, Int.reduceLE, Int.reduceLT, Int.reduceAdd, Int.reduceSub, Int.reduceMul, Int.reduceNeg, Int.reduceToNat, io_add, io_sub, io_mul, io_lt, io_le, io_eq, io_lt0, io_le0, io_0lt, io_0le, io_eq0, io_max2, Int.toNat_natCast, Nat.add_zero, Nat.zero_add, h2]
        exact ih
      · have ih := sp_76i hR hW hr hi (q' := q') (b := 101 - I 10 i) (by omega) m (q + 1) (by omega) (by
          have e : max (101 - I 10 i) (pb_z (∃ k, q + 1 ≤ k ∧ k < rf_p I i ∧ I 13 (4 * i + k) = r) * (101 - I 10 i)) = max b (101 - I 10 i) := by
            rcases pb_01 (∃ k, q + 1 ≤ k ∧ k < rf_p I i ∧ I 13 (4 * i + k) = r) with e | e <;> rw [e] <;> omega
          rw [e]; exact hend)
        rw [show 4 * (i : Int) + ((q + 1 : Nat) : Int) = 4 * i + q + 1 by omega] at ih
        simp (disch := (first | assumption | exact mm_c1_i _ | exact mm_c1_r _ | exact mm_c1_u _ | omega | exact hR _ _ | exact Nat.le_of_ble_eq_true rfl | decide | rfl | exact pb_dec _)) only [st_76_0, st_76_1, st_76_4, st_76_5, st_76_6, st_76_9, st_76_10, st_76_11, st_76_12, st_76_13, st_76_14, st_76_15, st_76_16, sm_76_17, st_76_20, st_76_23, st_76_24, st_76_25, st_76_26, st_76_30, st_76_31, st_76_32, st_76_33, sm_76_34, st_76_37, sm_76_38, st_76_39, st_76_40, st_76_43, sm_76_44, st_76_47, sm_76_49, st_76_50, st_76_51, st_76_54, st_76_55, st_76_59, st_76_60, st_76_63, st_76_64, st_76_68, st_76_69, st_76_72, st_76_78, st_76_81, st_76_82, reduceIte, Int.reduceEq, Int.reduceLE, Int.reduceLT, Int.reduceAdd, Int.reduceSub, Int.reduceMul, Int.reduceNeg, Int.reduceToNat, io_add, io_sub, io_mul, io_lt, io_le, io_eq, io_lt0, io_le0, io_0lt, io_0le, io_eq0, io_max2, Int.toNat_natCast, Nat.add_zero, Nat.zero_add, h2]
        rw [st_76_65 (Nat.le_of_ble_eq_true rfl) rfl (sp_75 (d := d) hi)]
        simp (disch := (first | assumption | exact mm_c1_i _ | exact mm_c1_r _ | exact mm_c1_u _ | omega | exact hR _ _ | exact Nat.le_of_ble_eq_true rfl | decide | rfl | exact pb_dec _)) only [st_76_0, st_76_1, st_76_4, st_76_5, st_76_6, st_76_9, st_76_10, st_76_11, st_76_12, st_76_13, st_76_14, st_76_15, st_76_16, sm_76_17, st_76_20, st_76_23, st_76_24, st_76_25, st_76_26, st_76_30, st_76_31, st_76_32, st_76_33, sm_76_34, st_76_37, sm_76_38, st_76_39, st_76_40, st_76_43, sm_76_44, st_76_47, sm_76_49, st_76_50, st_76_51, st_76_54, st_76_55, st_76_59, st_76_60, st_76_63, st_76_64, st_76_68, st_76_69, st_76_72, st_76_78, st_76_81, st_76_82, reduceIte, Int.reduceEq, Int.reduceLE, Int.reduceLT, Int.reduceAdd, Int.reduceSub, Int.reduceMul, Int.reduceNeg, Int.reduceToNat, io_add, io_sub, io_mul, io_lt, io_le, io_eq, io_lt0, io_le0, io_0lt, io_0le, io_eq0, io_max2, Int.toNat_natCast, Nat.add_zero, Nat.zero_add]
        exact ih
    · rw [if_neg h1]
      have ih := sp_76i hR hW hr hi (q' := q') hb m (q + 1) (by omega) (by
        rw [pb_iff (show (I 13 (4 * i + q) = r ∨ _) ↔ _ from ⟨fun z => z.elim (fun z => absurd z h1) id, Or.inr⟩)] at hend
        exact hend)
      rw [show 4 * (i : Int) + ((q + 1 : Nat) : Int) = 4 * i + q + 1 by omega] at ih
      exact ih
theorem sp_76l (hR : sp_R I) (hW : rf_W I) {r : Int} (hr : io_R r) : ∀ m q : Nat, q + m = rf_n I → ∀ x : Value, mm_Rn pg_G (d + 1) 76 15 [.ref 8, io_v r, io_v (pf_max q (rf_cv I r)), io_v q, x] [] (sp_me I 0 0) (some (io_v (rf_ce I r)), sp_me I 0 0)
  | 0, q, hm, x => by
    have hn := rf_N hW
    rw [st_76_15]
    simp (disch := (first | assumption | exact mm_c1_i _ | exact mm_c1_r _ | exact mm_c1_u _ | omega | exact hR _ _ | exact Nat.le_of_ble_eq_true rfl | decide | rfl | exact pb_dec _)) only [st_76_0, st_76_1, st_76_4, st_76_5, st_76_6, st_76_9, st_76_10, st_76_11, st_76_12, st_76_13, st_76_14, st_76_16, sm_76_17, st_76_20, st_76_23, st_76_24, st_76_25, st_76_26, st_76_30, st_76_31, st_76_32, st_76_33, sm_76_34, st_76_37, sm_76_38, st_76_39, st_76_40, st_76_43, sm_76_44, st_76_47, sm_76_49, st_76_50, st_76_51, st_76_54, st_76_55, st_76_59, st_76_60, st_76_63, st_76_64, st_76_68, st_76_69, st_76_72, st_76_75, st_76_78, st_76_81, st_76_82, reduceIte, Int.reduceEq, Int.reduceLE, Int.reduceLT, Int.reduceAdd, Int.reduceSub, Int.reduceMul, Int.reduceNeg, Int.reduceToNat, io_add, io_sub, io_mul, io_lt, io_le, io_eq, io_lt0, io_le0, io_0lt, io_0le, io_eq0, io_max2, Int.toNat_natCast, Nat.add_zero, Nat.zero_add]
    rw [if_pos (by omega), show rf_ce I r = pf_max q (rf_cv I r) by unfold rf_ce; rw [show q = rf_n I by omega]]
  | m + 1, q, hm, x => by
    have hn := rf_N hW
    have hi : q < 6 := by omega
    have r1 := rf_ce_rng hW r (show q ≤ 6 by omega)
    rw [st_76_15]
    simp (disch := (first | assumption | exact mm_c1_i _ | exact mm_c1_r _ | exact mm_c1_u _ | omega | exact hR _ _ | exact Nat.le_of_ble_eq_true rfl | decide | rfl | exact pb_dec _)) only [st_76_0, st_76_1, st_76_4, st_76_5, st_76_6, st_76_9, st_76_10, st_76_11, st_76_12, st_76_13, st_76_14, st_76_16, sm_76_17, st_76_20, st_76_23, st_76_24, st_76_25, st_76_26, st_76_30, st_76_31, st_76_32, st_76_33, sm_76_34, st_76_37, sm_76_38, st_76_39, st_76_40, st_76_43, sm_76_44, st_76_47, sm_76_49, st_76_50, st_76_51, st_76_54, st_76_55, st_76_59, st_76_60, st_76_63, st_76_64, st_76_68, st_76_69, st_76_72, st_76_75, st_76_78, st_76_81, st_76_82, reduceIte, Int.reduceEq, Int.reduceLE, Int.reduceLT, Int.reduceAdd, Int.reduceSub, Int.reduceMul, Int.reduceNeg, Int.reduceToNat, io_add, io_sub, io_mul, io_lt, io_le, io_eq, io_lt0, io_le0, io_0lt, io_0le, io_eq0, io_max2, Int.toNat_natCast, Nat.add_zero, Nat.zero_add]
    rw [if_neg (by omega)]
    have ih := sp_76l hR hW hr m (q + 1) (by omega) (io_v (4 * q + rf_p I q))
    rw [pf_max, rf_cv, ← pb_iff (pf_ex_zero (n := rf_p I q) (p := fun k => I 13 (4 * q + k) = r))] at ih
    have := sp_76i (d := d) hR hW hr hi (b := pf_max q (rf_cv I r)) r1 (rf_p I q) 0 (by omega) (q' := (some (io_v (rf_ce I r)), sp_me I 0 0)) (by
      simp (disch := (first | assumption | exact mm_c1_i _ | exact mm_c1_r _ | exact mm_c1_u _ | omega | exact hR _ _ | exact Nat.le_of_ble_eq_true rfl | decide | rfl | exact pb_dec _)) only [st_76_0, st_76_1, st_76_4, st_76_5, st_76_6, st_76_9, st_76_10, st_76_11, st_76_12, st_76_13, st_76_14, st_76_16, sm_76_17, st_76_20, st_76_23, st_76_24, st_76_25, st_76_26, st_76_28, st_76_30, st_76_31, st_76_32, st_76_33, sm_76_34, st_76_37, sm_76_38, st_76_39, st_76_40, st_76_43, sm_76_44, st_76_47, sm_76_49, st_76_50, st_76_51, st_76_54, st_76_55, st_76_59, st_76_60, st_76_63, st_76_64, st_76_68, st_76_69, st_76_72, st_76_75, st_76_78, st_76_81, st_76_82, reduceIte, Int.reduceEq, Int.reduceLE, Int.reduceLT, Int.reduceAdd, Int.reduceSub, Int.reduceMul, Int.reduceNeg, Int.reduceToNat, io_add, io_sub, io_mul, io_lt, io_le, io_eq, io_lt0, io_le0, io_0lt, io_0le, io_eq0, io_max2, Int.toNat_natCast, Nat.add_zero, Nat.zero_add]
      exact ih)
    rw [show 4 * (q : Int) + ((0 : Nat) : Int) = 4 * q by omega] at this
    exact this
theorem sp_76 (hR : sp_R I) (hW : rf_W I) {r : Int} (hr : io_R r) : mm_Rn pg_G (d + 1) 76 0 [.ref 8, io_v r, .retAddr 0, .retAddr 0, .retAddr 0] [] (sp_me I 0 0) (some (io_v (if 0 ≤ r ∧ r ≤ 3 then rf_ce I r else -1)), sp_me I 0 0) := by
  by_cases h : 0 ≤ r ∧ r ≤ 3
  · rw [if_pos h]
    simp (disch := (first | assumption | exact mm_c1_i _ | exact mm_c1_r _ | exact mm_c1_u _ | omega | exact hR _ _ | exact Nat.le_of_ble_eq_true rfl | decide | rfl | exact pb_dec _)) only [st_76_0, st_76_1, st_76_4, st_76_5, st_76_6, st_76_9, st_76_10, st_76_11, st_76_12, st_76_13, st_76_14, st_76_16, sm_76_17, st_76_20, st_76_23, st_76_24, st_76_25, st_76_26, st_76_28, st_76_30, st_76_31, st_76_32, st_76_33, sm_76_34, st_76_37, sm_76_38, st_76_39, st_76_40, st_76_43, sm_76_44, st_76_47, sm_76_49, st_76_50, st_76_51, st_76_54, st_76_55, st_76_59, st_76_60, st_76_63, st_76_64, st_76_68, st_76_69, st_76_72, st_76_75, st_76_78, st_76_81, st_76_82, reduceIte, Int.reduceEq, Int.reduceLE, Int.reduceLT, Int.reduceAdd, Int.reduceSub, Int.reduceMul, Int.reduceNeg, Int.reduceToNat, io_add, io_sub, io_mul, io_lt, io_le, io_eq, io_lt0, io_le0, io_0lt, io_0le, io_eq0, io_max2, Int.toNat_natCast, Nat.add_zero, Nat.zero_add]
    rw [if_neg (by omega), if_pos (by omega)]
    exact sp_76l hR hW hr (rf_n I) 0 (by omega) _
  · rw [if_neg h]
    simp (disch := (first | assumption | exact mm_c1_i _ | exact mm_c1_r _ | exact mm_c1_u _ | omega | exact hR _ _ | exact Nat.le_of_ble_eq_true rfl | decide | rfl | exact pb_dec _)) only [st_76_0, st_76_1, st_76_4, st_76_5, st_76_6, st_76_9, st_76_10, st_76_12, st_76_13, st_76_14, st_76_15, st_76_16, sm_76_17, st_76_20, st_76_23, st_76_24, st_76_25, st_76_26, st_76_28, st_76_30, st_76_31, st_76_32, st_76_33, sm_76_34, st_76_37, sm_76_38, st_76_39, st_76_40, st_76_43, sm_76_44, st_76_47, sm_76_49, st_76_50, st_76_51, st_76_54, st_76_55, st_76_59, st_76_60, st_76_63, st_76_64, st_76_68, st_76_69, st_76_72, st_76_75, st_76_78, st_76_81, st_76_82, reduceIte, Int.reduceEq, Int.reduceLE, Int.reduceLT, Int.reduceAdd, Int.reduceSub, Int.reduceMul, Int.reduceNeg, Int.reduceToNat, io_add, io_sub, io_mul, io_lt, io_le, io_eq, io_lt0, io_le0, io_0lt, io_0le, io_eq0, io_max2, Int.toNat_natCast, Nat.add_zero, Nat.zero_add]
    repeat' split
    all_goals first | rfl | trivial | (exfalso; omega)
theorem rf_hd_rng (hW : rf_W I) (r : Int) : -1 ≤ rf_hd I r ∧ rf_hd I r ≤ 6 := by
  have hn := rf_N hW
  unfold rf_hd
  split <;> omega
theorem rf_top_rng (hW : rf_W I) (q : Nat) : 0 ≤ pf_max q (fun r => pb_z (rf_hd I r ≠ -1) * rf_ce I r) ∧ pf_max q (fun r => pb_z (rf_hd I r ≠ -1) * rf_ce I r) ≤ 101 :=
  ⟨pf_max_nonneg _ _, pf_max_le q (by decide) (fun r _ => pb_mul_le (by decide) (rf_ce_rng hW r (rf_N hW).2).2)⟩
theorem sp_89l (hR : sp_R I) (hW : rf_W I) : ∀ m q : Nat, q + m = 4 → ∀ x : Value, mm_Rn pg_G (d + 2) 89 4 [.ref 8, io_v (pf_max q (fun r => pb_z (rf_hd I r ≠ -1) * rf_ce I r)), io_v q, x] [] (sp_me I 0 0) (some (io_v (rf_top I)), sp_me I 0 0)
  | 0, q, hm, x => by
    rw [st_89_4, show q = 4 by omega]
    simp (disch := (first | assumption | exact mm_c1_i _ | exact mm_c1_r _ | exact mm_c1_u _ | omega | exact hR _ _ | exact Nat.le_of_ble_eq_true rfl | decide | rfl | exact pb_dec _)) only [st_89_0, st_89_1, st_89_2, st_89_3, st_89_5, st_89_6, st_89_9, st_89_10, st_89_14, st_89_15, st_89_16, st_89_20, st_89_21, st_89_24, st_89_25, st_89_26, st_89_29, st_89_30, st_89_31, st_89_34, st_89_37, st_89_38, reduceIte, Int.reduceEq, Int.reduceLE, Int.reduceLT, Int.reduceAdd, Int.reduceSub, Int.reduceMul, Int.reduceNeg, Int.reduceToNat, io_add, io_sub, io_mul, io_lt, io_le, io_eq, io_lt0, io_le0, io_0lt, io_0le, io_eq0, io_max2, Int.toNat_natCast, Nat.add_zero, Nat.zero_add]
    rw [if_pos (by decide)]; trivial
  | m + 1, q, hm, x => by
    have r1 := rf_top_rng hW q
    have r2 := rf_ce_rng hW (q : Int) (rf_N hW).2
    have r3 := rf_hd_rng hW (q : Int)
    have r4 : 0 ≤ rf_ce I q ∧ rf_ce I q ≤ 101 := r2
    have k1 := sp_76 (d := d) hR hW (r := (q : Int)) (by omega)
    have k2 := sp_88 (d := d) hR hW (r := (q : Int)) (by omega)
    rw [if_pos (by omega)] at k1 k2
    have ih := sp_89l hR hW m (q + 1) (by omega) (io_v (rf_ce I q))
    rw [pf_max] at ih
    rw [st_89_4]
    simp (disch := (first | assumption | exact mm_c1_i _ | exact mm_c1_r _ | exact mm_c1_u _ | omega | exact hR _ _ | exact Nat.le_of_ble_eq_true rfl | decide | rfl | exact pb_dec _)) only [st_89_0, st_89_1, st_89_2, st_89_3, st_89_5, st_89_6, st_89_9, st_89_10, st_89_14, st_89_15, st_89_16, st_89_20, st_89_21, st_89_24, st_89_25, st_89_26, st_89_29, st_89_30, st_89_31, st_89_34, st_89_37, st_89_38, reduceIte, Int.reduceEq, Int.reduceLE, Int.reduceLT, Int.reduceAdd, Int.reduceSub, Int.reduceMul, Int.reduceNeg, Int.reduceToNat, io_add, io_sub, io_mul, io_lt, io_le, io_eq, io_lt0, io_le0, io_0lt, io_0le, io_eq0, io_max2, Int.toNat_natCast, Nat.add_zero, Nat.zero_add]
    rw [if_neg (by omega), st_89_11 (Nat.le_of_ble_eq_true rfl) rfl k1]
    simp (disch := (first | assumption | exact mm_c1_i _ | exact mm_c1_r _ | exact mm_c1_u _ | omega | exact hR _ _ | exact Nat.le_of_ble_eq_true rfl | decide | rfl | exact pb_dec _)) only [st_89_0, st_89_1, st_89_2, st_89_3, st_89_5, st_89_6, st_89_9, st_89_10, st_89_14, st_89_15, st_89_16, st_89_20, st_89_21, st_89_24, st_89_25, st_89_26, st_89_29, st_89_30, st_89_31, st_89_34, st_89_37, st_89_38, reduceIte, Int.reduceEq, Int.reduceLE, Int.reduceLT, Int.reduceAdd, Int.reduceSub, Int.reduceMul, Int.reduceNeg, Int.reduceToNat, io_add, io_sub, io_mul, io_lt, io_le, io_eq, io_lt0, io_le0, io_0lt, io_0le, io_eq0, io_max2, Int.toNat_natCast, Nat.add_zero, Nat.zero_add]
    rw [st_89_17 (Nat.le_of_ble_eq_true rfl) rfl k2]
    by_cases h1 : rf_hd I q = -1
    · rw [pb_mul_neg (fun z => z h1), Int.max_eq_left r1.1] at ih
      simp (disch := (first | assumption | exact mm_c1_i _ | exact mm_c1_r _ | exact mm_c1_u _ | omega | exact hR _ _ | exact Nat.le_of_ble_eq_true rfl | decide | rfl | exact pb_dec _)) only [st_89_0, st_89_1, st_89_2, st_89_3, st_89_5, st_89_6, st_89_9, st_89_10, st_89_14, st_89_15, st_89_16, st_89_20, st_89_21, st_89_24, st_89_25, st_89_26, st_89_29, st_89_30, st_89_31, st_89_34, st_89_37, st_89_38, reduceIte, Int.reduceEq, Int.reduceLE, Int.reduceLT, Int.reduceAdd, Int.reduceSub, Int.reduceMul, Int.reduceNeg, Int.reduceToNat, io_add, io_sub, io_mul, io_lt, io_le, io_eq, io_lt0, io_le0, io_0lt, io_0le, io_eq0, io_max2, Int.toNat_natCast, Nat.add_zero, Nat.zero_add, h1]
      exact ih
    · rw [pb_mul_pos h1] at ih
      by_cases h2 : rf_ce I q ≤ pf_max q (fun r => pb_z (rf_hd I r ≠ -1) * rf_ce I r)
      · rw [Int.max_eq_left h2] at ih
        simp (disch := (first | assumption | exact mm_c1_i _ | exact mm_c1_r _ | exact mm_c1_u _ | omega | exact hR _ _ | exact Nat.le_of_ble_eq_true rfl | decide | rfl | exact pb_dec _)) only [st_89_0, st_89_1, st_89_2, st_89_3, st_89_5, st_89_6, st_89_9, st_89_10, st_89_14, st_89_15, st_89_16, st_89_20, st_89_21, st_89_24, st_89_25, st_89_26, st_89_29, st_89_30, st_89_31, st_89_34, st_89_37, st_89_38, reduceIte, Int.reduceEq, Int.reduceLE, Int.reduceLT, Int.reduceAdd, Int.reduceSub, Int.reduceMul, Int.reduceNeg, Int.reduceToNat, io_add, io_sub, io_mul, io_lt, io_le, io_eq, io_lt0, io_le0, io_0lt, io_0le, io_eq0, io_max2, Int.toNat_natCast, Nat.add_zero, Nat.zero_add]
        rw [if_neg h1, if_pos h2]
        exact ih
      · rw [Int.max_eq_right (by omega)] at ih
        simp (disch := (first | assumption | exact mm_c1_i _ | exact mm_c1_r _ | exact mm_c1_u _ | omega | exact hR _ _ | exact Nat.le_of_ble_eq_true rfl | decide | rfl | exact pb_dec _)) only [st_89_0, st_89_1, st_89_2, st_89_3, st_89_5, st_89_6, st_89_9, st_89_10, st_89_14, st_89_15, st_89_16, st_89_20, st_89_21, st_89_24, st_89_25, st_89_26, st_89_29, st_89_30, st_89_31, st_89_34, st_89_37, st_89_38, reduceIte, Int.reduceEq, Int.reduceLE, Int.reduceLT, Int.reduceAdd, Int.reduceSub, Int.reduceMul, Int.reduceNeg, Int.reduceToNat, io_add, io_sub, io_mul, io_lt, io_le, io_eq, io_lt0, io_le0, io_0lt, io_0le, io_eq0, io_max2, Int.toNat_natCast, Nat.add_zero, Nat.zero_add]
        rw [if_neg h1, if_neg h2]
        exact ih
theorem sp_89 (hR : sp_R I) (hW : rf_W I) : mm_Rn pg_G (d + 2) 89 0 [.ref 8, .retAddr 0, .retAddr 0, .retAddr 0] [] (sp_me I 0 0) (some (io_v (rf_top I)), sp_me I 0 0) := by
  simp (disch := (first | assumption | exact mm_c1_i _ | exact mm_c1_r _ | exact mm_c1_u _ | omega | exact hR _ _ | exact Nat.le_of_ble_eq_true rfl | decide | rfl | exact pb_dec _)) only [st_89_0, st_89_1, st_89_2, st_89_3, st_89_5, st_89_6, st_89_9, st_89_10, st_89_14, st_89_15, st_89_16, st_89_20, st_89_21, st_89_24, st_89_25, st_89_26, st_89_29, st_89_30, st_89_31, st_89_34, st_89_37, st_89_38, reduceIte, Int.reduceEq, Int.reduceLE, Int.reduceLT, Int.reduceAdd, Int.reduceSub, Int.reduceMul, Int.reduceNeg, Int.reduceToNat, io_add, io_sub, io_mul, io_lt, io_le, io_eq, io_lt0, io_le0, io_0lt, io_0le, io_eq0, io_max2, Int.toNat_natCast, Nat.add_zero, Nat.zero_add]
  exact sp_89l hR hW 4 0 (by omega) _
end RG
