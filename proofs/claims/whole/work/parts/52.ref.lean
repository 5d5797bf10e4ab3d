/-! the reference: verdict -/
/-- what section k of task j hangs over task i -/
noncomputable def rf_ov (I : sp_I) (i j k : Nat) : Int := pb_z (I 10 i < I 10 j ∧ 101 - I 10 i ≤ rf_ce I (I 13 (4 * j + k))) * (I 15 (4 * j + k) - I 14 (4 * j + k) - 1)
noncomputable def rf_oj (I : sp_I) (i j : Nat) : Int := pf_max (rf_p I j) (rf_ov I i j)
noncomputable def rf_oh (I : sp_I) (i : Nat) : Int := pf_max (rf_n I) (rf_oj I i)
theorem rf_oj_rng {I : sp_I} (hW : rf_W I) (i : Nat) {j : Nat} (hj : j < 6) {q : Nat} (hq : q ≤ rf_p I j) : 0 ≤ pf_max q (rf_ov I i j) ∧ pf_max q (rf_ov I i j) ≤ 100 :=
  ⟨pf_max_nonneg _ _, pf_max_le q (by decide) (fun k hk => pb_mul_le (by decide) (by have h1 := rf_P hW hj; have := hW.2.2 (4 * j + k) (by omega); omega))⟩
theorem rf_oh_rng {I : sp_I} (hW : rf_W I) (i : Nat) {q : Nat} (hq : q ≤ 6) : 0 ≤ pf_max q (rf_oj I i) ∧ pf_max q (rf_oj I i) ≤ 100 :=
  ⟨pf_max_nonneg _ _, pf_max_le q (by decide) (fun j hj => (rf_oj_rng hW i (by omega) (Nat.le_refl _)).2)⟩
/-- running maximum from q on -/
def pf_run (f : Nat → Int) : Nat → Nat → Int → Int
  | 0, _, b => b
  | m + 1, q, b => pf_run f m (q + 1) (max b (f q))
theorem pf_run_max (f : Nat → Int) : ∀ m q b, pf_run f m q (max b (pf_max q f)) = max b (pf_max (q + m) f)
  | 0, q, b => rfl
  | m + 1, q, b => by
    have := pf_run_max f m (q + 1) b
    rw [pf_run, show max (max b (pf_max q f)) (f q) = max b (pf_max (q + 1) f) by rw [pf_max]; omega, this, show q + 1 + m = q + (m + 1) by omega]
theorem pf_run_all {f : Nat → Int} {n : Nat} {b : Int} (hb : 0 ≤ b) : pf_run f n 0 b = max b (pf_max n f) := by
  have := pf_run_max f n 0 b
  rw [show pf_max 0 f = 0 from rfl, Int.max_eq_left hb, Nat.zero_add] at this
  exact this
section RV
variable {I : sp_I} {d : Nat}
theorem sp_77i (hR : sp_R I) (hW : rf_W I) {i j : Nat} (hi : i < 6) (hj : j < 6) {q' : mm_R} : ∀ (m q : Nat) (b : Int) (x : Value), 0 ≤ b ∧ b ≤ 100 → q + m = rf_p I j → (∀ y : Value, mm_Rn pg_G (d + 2) 77 123 [.ref 8, io_v i, io_v (pf_run (rf_ov I i j) m q b), io_v j, io_v (4 * j + rf_p I j), y] [] (sp_me I 0 0) q') → mm_Rn pg_G (d + 2) 77 17 [.ref 8, io_v i, io_v b, io_v j, io_v (4 * j + q), x] [] (sp_me I 0 0) q'
  | 0, q, b, x, hb, hm, hend => by
    have hp := rf_P hW hj
    rw [pf_run, show rf_p I j = q by omega] at hend
    rw [st_77_17]
    simp (disch := (first | assumption | exact mm_c1_i _ | exact mm_c1_r _ | exact mm_c1_u _ | omega | exact hR _ _ | exact Nat.le_of_ble_eq_true rfl | decide | rfl | exact pb_dec _)) only [st_77_0, st_77_1, st_77_2, st_77_3, st_77_4, st_77_5, sm_77_6, st_77_9, st_77_12, st_77_13, st_77_14, st_77_15, st_77_19, st_77_20, st_77_21, st_77_22, sm_77_23, st_77_26, sm_77_27, st_77_28, st_77_29, st_77_32, sm_77_33, st_77_36, sm_77_37, st_77_38, sm_77_39, st_77_42, sm_77_43, st_77_44, st_77_47, st_77_48, sm_77_49, st_77_52, sm_77_54, st_77_58, st_77_59, st_77_63, st_77_66, st_77_67, st_77_70, st_77_71, st_77_73, st_77_75, st_77_78, sm_77_79, st_77_82, sm_77_84, st_77_85, sm_77_86, st_77_89, sm_77_91, st_77_92, st_77_93, st_77_94, st_77_95, st_77_96, st_77_99, sm_77_100, st_77_103, sm_77_105, st_77_106, sm_77_107, st_77_110, sm_77_112, st_77_113, st_77_114, st_77_115, st_77_116, st_77_117, st_77_120, st_77_126, st_77_129, st_77_130, reduceIte, Int.reduceEq, Int.reduceLE, Int.reduceLT, Int.reduceAdd, Int.reduceSub, Int.reduceMul, Int.reduceNeg, Int.reduceToNat, io_add, io_sub, io_mul, io_lt, io_le, io_eq, io_lt0, io_le0, io_0lt, io_0le, io_eq0, io_max2, Int.toNat_natCast, Nat.add_zero, Nat.zero_add]
    rw [if_pos (by omega)]
    exact hend x
  | m + 1, q, b, x, hb, hm, hend => by
    have hp := rf_P hW hj
    have hs := hW.2.1 i hi
    have hs2 := hW.2.1 j hj
    have hk := hW.2.2 (4 * j + q) (by omega)
    rw [pf_run] at hend
    have r1 : 0 ≤ max b (rf_ov I i j q) ∧ max b (rf_ov I i j q) ≤ 100 := by
      have : rf_ov I i j q ≤ 100 := pb_mul_le (by decide) (by omega)
      omega
    have ih := fun x => sp_77i hR hW hi hj (q' := q') m (q + 1) (max b (rf_ov I i j q)) x r1 (by omega) hend
    rw [show 4 * (j : Int) + ((q + 1 : Nat) : Int) = 4 * j + q + 1 by omega] at ih
    have tail : ∀ z : Int, (z = 0 ∨ z = 1) → rf_ov I i j q = z * (I 15 (4 * j + q) - I 14 (4 * j + q) - 1) → mm_Rn pg_G (d + 2) 77 71 [.ref 8, io_v i, io_v b, io_v j, io_v (4 * j + q), x] [io_v z] (sp_me I 0 0) q' := by
      intro z hz he
      rcases hz with rfl | rfl
      · rw [he, Int.zero_mul, Int.max_eq_left hb.1] at ih
        simp (disch := (first | assumption | exact mm_c1_i _ | exact mm_c1_r _ | exact mm_c1_u _ | omega | exact hR _ _ | exact Nat.le_of_ble_eq_true rfl | decide | rfl | exact pb_dec _)) only [st_77_0, st_77_1, st_77_2, st_77_3, st_77_4, st_77_5, sm_77_6, st_77_9, st_77_12, st_77_13, st_77_14, st_77_15, st_77_19, st_77_20, st_77_21, st_77_22, sm_77_23, st_77_26, sm_77_27, st_77_28, st_77_29, st_77_32, sm_77_33, st_77_36, sm_77_37, st_77_38, sm_77_39, st_77_42, sm_77_43, st_77_44, st_77_47, st_77_48, sm_77_49, st_77_52, sm_77_54, st_77_58, st_77_59, st_77_63, st_77_66, st_77_67, st_77_70, st_77_71, st_77_73, st_77_75, st_77_78, sm_77_79, st_77_82, sm_77_84, st_77_85, sm_77_86, st_77_89, sm_77_91, st_77_92, st_77_93, st_77_94, st_77_95, st_77_96, st_77_99, sm_77_100, st_77_103, sm_77_105, st_77_106, sm_77_107, st_77_110, sm_77_112, st_77_113, st_77_114, st_77_115, st_77_116, st_77_117, st_77_120, st_77_123, st_77_126, st_77_129, st_77_130, reduceIte, Int.reduceEq, Int.reduceLE, Int.reduceLT, Int.reduceAdd, Int.reduceSub, Int.reduceMul, Int.reduceNeg, Int.reduceToNat, io_add, io_sub, io_mul, io_lt, io_le, io_eq, io_lt0, io_le0, io_0lt, io_0le, io_eq0, io_max2, Int.toNat_natCast, Nat.add_zero, Nat.zero_add]
        exact ih _
      · rw [he, Int.one_mul] at ih
        simp (disch := (first | assumption | exact mm_c1_i _ | exact mm_c1_r _ | exact mm_c1_u _ | omega | exact hR _ _ | exact Nat.le_of_ble_eq_true rfl | decide | rfl | exact pb_dec _)) only [st_77_0, st_77_1, st_77_2, st_77_3, st_77_4, st_77_5, sm_77_6, st_77_9, st_77_12, st_77_13, st_77_14, st_77_15, st_77_19, st_77_20, st_77_21, st_77_22, sm_77_23, st_77_26, sm_77_27, st_77_28, st_77_29, st_77_32, sm_77_33, st_77_36, sm_77_37, st_77_38, sm_77_39, st_77_42, sm_77_43, st_77_44, st_77_47, st_77_48, sm_77_49, st_77_52, sm_77_54, st_77_58, st_77_59, st_77_63, st_77_66, st_77_67, st_77_70, st_77_71, st_77_73, st_77_75, st_77_78, sm_77_79, st_77_82, sm_77_84, st_77_85, sm_77_86, st_77_89, sm_77_91, st_77_92, st_77_93, st_77_94, st_77_95, st_77_96, st_77_99, sm_77_100, st_77_103, sm_77_105, st_77_106, sm_77_107, st_77_110, sm_77_112, st_77_113, st_77_114, st_77_115, st_77_116, st_77_117, st_77_120, st_77_123, st_77_126, st_77_129, st_77_130, reduceIte, Int.reduceEq, Int.reduceLE, Int.reduceLT, Int.reduceAdd, Int.reduceSub, Int.reduceMul, Int.reduceNeg, Int.reduceToNat, io_add, io_sub, io_mul, io_lt, io_le, io_eq, io_lt0, io_le0, io_0lt, io_0le, io_eq0, io_max2, Int.toNat_natCast, Nat.add_zero, Nat.zero_add, rf_ix]
        by_cases h5 : I 15 (4 * j + q) - I 14 (4 * j + q) - 1 ≤ b
        · rw [if_pos h5]
          rw [Int.max_eq_left h5] at ih
          exact ih _
        · rw [if_neg h5]
          rw [Int.max_eq_right (by omega)] at ih
          exact ih _
    rw [st_77_17]
    simp (disch := (first | assumption | exact mm_c1_i _ | exact mm_c1_r _ | exact mm_c1_u _ | omega | exact hR _ _ | exact Nat.le_of_ble_eq_true rfl | decide | rfl | exact pb_dec _)) only [st_77_0, st_77_1, st_77_2, st_77_3, st_77_4, st_77_5, sm_77_6, st_77_9, st_77_12, st_77_13, st_77_14, st_77_15, st_77_19, st_77_20, st_77_21, st_77_22, sm_77_23, st_77_26, sm_77_27, st_77_28, st_77_29, st_77_32, sm_77_33, st_77_36, sm_77_37, st_77_38, sm_77_39, st_77_42, sm_77_43, st_77_44, st_77_47, st_77_48, sm_77_49, st_77_52, sm_77_54, st_77_58, st_77_59, st_77_63, st_77_66, st_77_67, st_77_70, st_77_73, st_77_75, st_77_78, sm_77_79, st_77_82, sm_77_84, st_77_85, sm_77_86, st_77_89, sm_77_91, st_77_92, st_77_93, st_77_94, st_77_95, st_77_96, st_77_99, sm_77_100, st_77_103, sm_77_105, st_77_106, sm_77_107, st_77_110, sm_77_112, st_77_113, st_77_114, st_77_115, st_77_116, st_77_117, st_77_120, st_77_123, st_77_126, st_77_129, st_77_130, reduceIte, Int.reduceEq, Int.reduceLE, Int.reduceLT, Int.reduceAdd, Int.reduceSub, Int.reduceMul, Int.reduceNeg, Int.reduceToNat, io_add, io_sub, io_mul, io_lt, io_le, io_eq, io_lt0, io_le0, io_0lt, io_0le, io_eq0, io_max2, Int.toNat_natCast, Nat.add_zero, Nat.zero_add, rf_ix]
    rw [if_neg (by omega)]
    by_cases h1 : I 10 j ≤ I 10 i
    · rw [if_pos h1]
      exact tail 0 (Or.inl rfl) (by unfold rf_ov; rw [pb_neg (fun z => by omega)])
    · rw [if_neg h1]
      have k1 := sp_76 (d := d) hR hW (r := I 13 (4 * j + q)) (by omega)
      rw [if_pos (by omega)] at k1
      have r2 : 0 ≤ rf_ce I (I 13 (4 * j + q)) ∧ rf_ce I (I 13 (4 * j + q)) ≤ 101 := rf_ce_rng hW _ (rf_N hW).2
      rw [st_77_55 (Nat.le_of_ble_eq_true rfl) rfl k1]
      simp (disch := (first | assumption | exact mm_c1_i _ | exact mm_c1_r _ | exact mm_c1_u _ | omega | exact hR _ _ | exact Nat.le_of_ble_eq_true rfl | decide | rfl | exact pb_dec _)) only [st_77_0, st_77_1, st_77_2, st_77_3, st_77_4, st_77_5, sm_77_6, st_77_9, st_77_12, st_77_13, st_77_14, st_77_15, st_77_19, st_77_20, st_77_21, st_77_22, sm_77_23, st_77_26, sm_77_27, st_77_28, st_77_29, st_77_32, sm_77_33, st_77_36, sm_77_37, st_77_38, sm_77_39, st_77_42, sm_77_43, st_77_44, st_77_47, st_77_48, sm_77_49, st_77_52, sm_77_54, st_77_58, st_77_59, st_77_63, st_77_66, st_77_67, st_77_70, st_77_73, st_77_75, st_77_78, sm_77_79, st_77_82, sm_77_84, st_77_85, sm_77_86, st_77_89, sm_77_91, st_77_92, st_77_93, st_77_94, st_77_95, st_77_96, st_77_99, sm_77_100, st_77_103, sm_77_105, st_77_106, sm_77_107, st_77_110, sm_77_112, st_77_113, st_77_114, st_77_115, st_77_116, st_77_117, st_77_120, st_77_123, st_77_126, st_77_129, st_77_130, reduceIte, Int.reduceEq, Int.reduceLE, Int.reduceLT, Int.reduceAdd, Int.reduceSub, Int.reduceMul, Int.reduceNeg, Int.reduceToNat, io_add, io_sub, io_mul, io_lt, io_le, io_eq, io_lt0, io_le0, io_0lt, io_0le, io_eq0, io_max2, Int.toNat_natCast, Nat.add_zero, Nat.zero_add]
      rw [st_77_60 (Nat.le_of_ble_eq_true rfl) rfl (sp_75 (d := d + 1) hi)]
      simp (disch := (first | assumption | exact mm_c1_i _ | exact mm_c1_r _ | exact mm_c1_u _ | omega | exact hR _ _ | exact Nat.le_of_ble_eq_true rfl | decide | rfl | exact pb_dec _)) only [st_77_0, st_77_1, st_77_2, st_77_3, st_77_4, st_77_5, sm_77_6, st_77_9, st_77_12, st_77_13, st_77_14, st_77_15, st_77_19, st_77_20, st_77_21, st_77_22, sm_77_23, st_77_26, sm_77_27, st_77_28, st_77_29, st_77_32, sm_77_33, st_77_36, sm_77_37, st_77_38, sm_77_39, st_77_42, sm_77_43, st_77_44, st_77_47, st_77_48, sm_77_49, st_77_52, sm_77_54, st_77_58, st_77_59, st_77_63, st_77_66, st_77_67, st_77_70, st_77_73, st_77_75, st_77_78, sm_77_79, st_77_82, sm_77_84, st_77_85, sm_77_86, st_77_89, sm_77_91, st_77_92, st_77_93, st_77_94, st_77_95, st_77_96, st_77_99, sm_77_100, st_77_103, sm_77_105, st_77_106, sm_77_107, st_77_110, sm_77_112, st_77_113, st_77_114, st_77_115, st_77_116, st_77_117, st_77_120, st_77_123, st_77_126, st_77_129, st_77_130, reduceIte, Int.reduceEq, Int.reduceLE, Int.reduceLT, Int.reduceAdd, Int.reduceSub, Int.reduceMul, Int.reduceNeg, Int.reduceToNat, io_add, io_sub, io_mul, io_lt, io_le, io_eq, io_lt0, io_le0, io_0lt, io_0le, io_eq0, io_max2, Int.toNat_natCast, Nat.add_zero, Nat.zero_add]
      by_cases h2 : rf_ce I (I 13 (4 * j + q)) < 101 - I 10 i
      · rw [if_pos h2]
        exact tail 0 (Or.inl rfl) (by unfold rf_ov; rw [pb_neg (fun z => by omega)])
      · rw [if_neg h2]
        exact tail 1 (Or.inr rfl) (by unfold rf_ov; rw [pb_pos ⟨by omega, by omega⟩])
theorem sp_77l (hR : sp_R I) (hW : rf_W I) {i : Nat} (hi : i < 6) : ∀ m q : Nat, q + m = rf_n I → ∀ x y : Value, mm_Rn pg_G (d + 2) 77 4 [.ref 8, io_v i, io_v (pf_max q (rf_oj I i)), io_v q, x, y] [] (sp_me I 0 0) (some (io_v (rf_oh I i)), sp_me I 0 0)
  | 0, q, hm, x, y => by
    have hn := rf_N hW
    rw [st_77_4]
    simp (disch := (first | assumption | exact mm_c1_i _ | exact mm_c1_r _ | exact mm_c1_u _ | omega | exact hR _ _ | exact Nat.le_of_ble_eq_true rfl | decide | rfl | exact pb_dec _)) only [st_77_0, st_77_1, st_77_2, st_77_3, st_77_5, sm_77_6, st_77_9, st_77_12, st_77_13, st_77_14, st_77_15, st_77_19, st_77_20, st_77_21, st_77_22, sm_77_23, st_77_26, sm_77_27, st_77_28, st_77_29, st_77_32, sm_77_33, st_77_36, sm_77_37, st_77_38, sm_77_39, st_77_42, sm_77_43, st_77_44, st_77_47, st_77_48, sm_77_49, st_77_52, sm_77_54, st_77_58, st_77_59, st_77_63, st_77_66, st_77_67, st_77_70, st_77_71, st_77_73, st_77_75, st_77_78, sm_77_79, st_77_82, sm_77_84, st_77_85, sm_77_86, st_77_89, sm_77_91, st_77_92, st_77_93, st_77_94, st_77_95, st_77_96, st_77_99, sm_77_100, st_77_103, sm_77_105, st_77_106, sm_77_107, st_77_110, sm_77_112, st_77_113, st_77_114, st_77_115, st_77_116, st_77_117, st_77_120, st_77_123, st_77_126, st_77_129, st_77_130, reduceIte, Int.reduceEq, Int.reduceLE, Int.reduceLT, Int.reduceAdd, Int.reduceSub, Int.reduceMul, Int.reduceNeg, Int.reduceToNat, io_add, io_sub, io_mul, io_lt, io_le, io_eq, io_lt0, io_le0, io_0lt, io_0le, io_eq0, io_max2, Int.toNat_natCast, Nat.add_zero, Nat.zero_add]
    rw [if_pos (by omega), show rf_oh I i = pf_max q (rf_oj I i) by unfold rf_oh; rw [show q = rf_n I by omega]]
  | m + 1, q, hm, x, y => by
    have hn := rf_N hW
    have r1 := rf_oh_rng hW i (show q ≤ 6 by omega)
    rw [st_77_4]
    simp (disch := (first | assumption | exact mm_c1_i _ | exact mm_c1_r _ | exact mm_c1_u _ | omega | exact hR _ _ | exact Nat.le_of_ble_eq_true rfl | decide | rfl | exact pb_dec _)) only [st_77_0, st_77_1, st_77_2, st_77_3, st_77_5, sm_77_6, st_77_9, st_77_12, st_77_13, st_77_14, st_77_15, st_77_19, st_77_20, st_77_21, st_77_22, sm_77_23, st_77_26, sm_77_27, st_77_28, st_77_29, st_77_32, sm_77_33, st_77_36, sm_77_37, st_77_38, sm_77_39, st_77_42, sm_77_43, st_77_44, st_77_47, st_77_48, sm_77_49, st_77_52, sm_77_54, st_77_58, st_77_59, st_77_63, st_77_66, st_77_67, st_77_70, st_77_71, st_77_73, st_77_75, st_77_78, sm_77_79, st_77_82, sm_77_84, st_77_85, sm_77_86, st_77_89, sm_77_91, st_77_92, st_77_93, st_77_94, st_77_95, st_77_96, st_77_99, sm_77_100, st_77_103, sm_77_105, st_77_106, sm_77_107, st_77_110, sm_77_112, st_77_113, st_77_114, st_77_115, st_77_116, st_77_117, st_77_120, st_77_123, st_77_126, st_77_129, st_77_130, reduceIte, Int.reduceEq, Int.reduceLE, Int.reduceLT, Int.reduceAdd, Int.reduceSub, Int.reduceMul, Int.reduceNeg, Int.reduceToNat, io_add, io_sub, io_mul, io_lt, io_le, io_eq, io_lt0, io_le0, io_0lt, io_0le, io_eq0, io_max2, Int.toNat_natCast, Nat.add_zero, Nat.zero_add]
    rw [if_neg (by omega)]
    have ih := fun y => sp_77l hR hW hi m (q + 1) (by omega) (io_v (4 * q + rf_p I q)) y
    rw [pf_max] at ih
    have := sp_77i (d := d) hR hW hi (show q < 6 by omega) (q' := (some (io_v (rf_oh I i)), sp_me I 0 0)) (rf_p I q) 0 (pf_max q (rf_oj I i)) y r1 (by omega) (fun z => by
      rw [pf_run_all r1.1]
      simp (disch := (first | assumption | exact mm_c1_i _ | exact mm_c1_r _ | exact mm_c1_u _ | omega | exact hR _ _ | exact Nat.le_of_ble_eq_true rfl | decide | rfl | exact pb_dec _)) only [st_77_0, st_77_1, st_77_2, st_77_3, st_77_5, sm_77_6, st_77_9, st_77_12, st_77_13, st_77_14, st_77_15, st_77_19, st_77_20, st_77_21, st_77_22, sm_77_23, st_77_26, sm_77_27, st_77_28, st_77_29, st_77_32, sm_77_33, st_77_36, sm_77_37, st_77_38, sm_77_39, st_77_42, sm_77_43, st_77_44, st_77_47, st_77_48, sm_77_49, st_77_52, sm_77_54, st_77_58, st_77_59, st_77_63, st_77_66, st_77_67, st_77_70, st_77_71, st_77_73, st_77_75, st_77_78, sm_77_79, st_77_82, sm_77_84, st_77_85, sm_77_86, st_77_89, sm_77_91, st_77_92, st_77_93, st_77_94, st_77_95, st_77_96, st_77_99, sm_77_100, st_77_103, sm_77_105, st_77_106, sm_77_107, st_77_110, sm_77_112, st_77_113, st_77_114, st_77_115, st_77_116, st_77_117, st_77_120, st_77_123, st_77_126, st_77_129, st_77_130, reduceIte, Int.reduceEq, Int.reduceLE, Int.reduceLT, Int.reduceAdd, Int.reduceSub, Int.reduceMul, Int.reduceNeg, Int.reduceToNat, io_add, io_sub, io_mul, io_lt, io_le, io_eq, io_lt0, io_le0, io_0lt, io_0le, io_eq0, io_max2, Int.toNat_natCast, Nat.add_zero, Nat.zero_add]
      exact ih z)
    rw [show 4 * (q : Int) + ((0 : Nat) : Int) = 4 * q by omega] at this
    exact this
theorem sp_77 (hR : sp_R I) (hW : rf_W I) {i : Nat} (hi : i < 6) : mm_Rn pg_G (d + 2) 77 0 [.ref 8, io_v i, .retAddr 0, .retAddr 0, .retAddr 0, .retAddr 0] [] (sp_me I 0 0) (some (io_v (rf_oh I i)), sp_me I 0 0) := by
  simp (disch := (first | assumption | exact mm_c1_i _ | exact mm_c1_r _ | exact mm_c1_u _ | omega | exact hR _ _ | exact Nat.le_of_ble_eq_true rfl | decide | rfl | exact pb_dec _)) only [st_77_0, st_77_1, st_77_2, st_77_3, st_77_5, sm_77_6, st_77_9, st_77_12, st_77_13, st_77_14, st_77_15, st_77_17, st_77_19, st_77_20, st_77_21, st_77_22, sm_77_23, st_77_26, sm_77_27, st_77_28, st_77_29, st_77_32, sm_77_33, st_77_36, sm_77_37, st_77_38, sm_77_39, st_77_42, sm_77_43, st_77_44, st_77_47, st_77_48, sm_77_49, st_77_52, sm_77_54, st_77_58, st_77_59, st_77_63, st_77_66, st_77_67, st_77_70, st_77_71, st_77_73, st_77_75, st_77_78, sm_77_79, st_77_82, sm_77_84, st_77_85, sm_77_86, st_77_89, sm_77_91, st_77_92, st_77_93, st_77_94, st_77_95, st_77_96, st_77_99, sm_77_100, st_77_103, sm_77_105, st_77_106, sm_77_107, st_77_110, sm_77_112, st_77_113, st_77_114, st_77_115, st_77_116, st_77_117, st_77_120, st_77_123, st_77_126, st_77_129, st_77_130, reduceIte, Int.reduceEq, Int.reduceLE, Int.reduceLT, Int.reduceAdd, Int.reduceSub, Int.reduceMul, Int.reduceNeg, Int.reduceToNat, io_add, io_sub, io_mul, io_lt, io_le, io_eq, io_lt0, io_le0, io_0lt, io_0le, io_eq0, io_max2, Int.toNat_natCast, Nat.add_zero, Nat.zero_add]
  exact sp_77l hR hW hi (rf_n I) 0 (by omega) _ _
end RV
