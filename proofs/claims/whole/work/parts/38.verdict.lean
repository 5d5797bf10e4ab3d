/-! the kernel's verdict and choice -/
noncomputable def cl_ag (I : sp_I) (c j : Nat) : Int := pb_z (I (ad_t c) 1 < I (ad_t j) 1) * cl_lh I (101 - I (ad_t c) 1) j
noncomputable def cl_lha (I : sp_I) (c : Nat) : Int := pf_max (sp_n I) (cl_ag I c)
/-- periods, spans, costs -/
def cl_P (I : sp_I) : Prop := ∀ i, i < sp_n I → 1 ≤ I (ad_t i) 2 ∧ I (ad_t i) 2 ≤ I (ad_t i) 1 ∧ I (ad_t i) 1 ≤ I (ad_t i) 0 ∧ I (ad_t i) 0 ≤ 100
theorem cl_lh_rng {I : sp_I} {i : Nat} (hQ : cl_Q I i) (lev : Int) : 0 ≤ cl_lh I lev i ∧ cl_lh I lev i ≤ 100 := cl_lv_rng hQ lev (Nat.le_refl _)
theorem cl_ag_rng {I : sp_I} (hT : cl_TS I) (c : Nat) {q : Nat} (hq : q ≤ sp_n I) : 0 ≤ pf_max q (cl_ag I c) ∧ pf_max q (cl_ag I c) ≤ 100 :=
  ⟨pf_max_nonneg _ _, pf_max_le q (by decide) (fun j hj => pb_mul_le (by decide) (cl_lh_rng (hT j (by omega)).2 _).2)⟩
/-- the fraction of the verdict -/
def cl_fr (I : sp_I) (c : Nat) (w : Int) : Nat → Int × Int
  | 0 => (w, I (ad_t c) 1)
  | q + 1 => if I (ad_t q) 1 ≤ I (ad_t c) 1 then ((cl_fr I c w q).1 * I (ad_t q) 1 + I (ad_t q) 2 * (cl_fr I c w q).2, (cl_fr I c w q).2 * I (ad_t q) 1) else cl_fr I c w q
def cl_fe (I : sp_I) (c : Nat) (w : Int) : Int × Int := if 0 < I 3 3 then ((cl_fr I c w (sp_n I)).1 * I 3 4 + I 3 3 * (cl_fr I c w (sp_n I)).2, (cl_fr I c w (sp_n I)).2 * I 3 4) else cl_fr I c w (sp_n I)
def cl_pw : Nat → Int
  | 0 => 100
  | q + 1 => 100 * cl_pw q
def cl_pa : Nat → Int
  | 0 => 100
  | q + 1 => 100 * cl_pa q + 100 * cl_pw q
theorem cl_pw_pos : ∀ q, 0 ≤ cl_pw q ∧ 0 ≤ cl_pa q ∧ cl_pw q ≤ cl_pw (q + 1) ∧ cl_pa q ≤ cl_pa (q + 1)
  | 0 => by decide
  | q + 1 => by
    have := cl_pw_pos q
    rw [show cl_pw (q + 1 + 1) = 100 * cl_pw (q + 1) from rfl, show cl_pa (q + 1 + 1) = 100 * cl_pa (q + 1) + 100 * cl_pw (q + 1) from rfl]
    omega
theorem cl_step {a b s k A B : Int} (ha : 0 ≤ a ∧ a ≤ A) (hb : 0 ≤ b ∧ b ≤ B) (hs : 0 ≤ s ∧ s ≤ 100) (hk : 0 ≤ k ∧ k ≤ 100) : (0 ≤ a * s + k * b ∧ a * s + k * b ≤ 100 * A + 100 * B) ∧ 0 ≤ b * s ∧ b * s ≤ 100 * B := by
  have e1 : 0 ≤ a * s := Int.mul_nonneg ha.1 hs.1
  have e2 : 0 ≤ k * b := Int.mul_nonneg hk.1 hb.1
  have e3 : 0 ≤ b * s := Int.mul_nonneg hb.1 hs.1
  have f1 : a * s ≤ a * 100 := Int.mul_le_mul_of_nonneg_left hs.2 ha.1
  have f2 : k * b ≤ 100 * b := Int.mul_le_mul_of_nonneg_right hk.2 hb.1
  have f3 : b * s ≤ b * 100 := Int.mul_le_mul_of_nonneg_left hs.2 hb.1
  omega
theorem cl_fr_rng {I : sp_I} (hP : cl_P I) {c : Nat} (hc : c < sp_n I) {w : Int} (hw : 0 ≤ w ∧ w ≤ 100) : ∀ q, q ≤ sp_n I → (0 ≤ (cl_fr I c w q).1 ∧ (cl_fr I c w q).1 ≤ cl_pa q) ∧ 0 ≤ (cl_fr I c w q).2 ∧ (cl_fr I c w q).2 ≤ cl_pw q
  | 0, _ => by
    have := hP c hc
    rw [cl_fr, show cl_pa 0 = 100 from rfl, show cl_pw 0 = 100 from rfl]
    exact ⟨hw, by show 0 ≤ I (ad_t c) 1; omega, by show I (ad_t c) 1 ≤ 100; omega⟩
  | q + 1, h => by
    have ih := cl_fr_rng hP hc hw q (by omega)
    have hq := hP q (by omega)
    have hm := cl_pw_pos q
    rw [cl_fr]
    split
    · exact cl_step ih.1 ih.2 (by omega) (by omega)
    · omega
theorem cl_fe_rng {I : sp_I} (hP : cl_P I) (h6 : 0 ≤ I 0 4 ∧ I 0 4 ≤ 6) {c : Nat} (hc : c < sp_n I) {w : Int} (hw : 0 ≤ w ∧ w ≤ 100) (h3 : 0 ≤ I 3 3 ∧ I 3 3 ≤ 100) (h4 : 0 ≤ I 3 4 ∧ I 3 4 ≤ 100) : jo_R (cl_fe I c w).1 ∧ jo_R (cl_fe I c w).2 := by
  have hn := cl_n h6
  have h := cl_fr_rng hP hc hw (sp_n I) (Nat.le_refl _)
  have mono : ∀ q, q ≤ 6 → cl_pw q ≤ cl_pw 6 ∧ cl_pa q ≤ cl_pa 6 := by decide
  have hm := mono (sp_n I) hn.2
  have e1 : cl_pw 6 = 100000000000000 := by decide
  have e2 : cl_pa 6 = 700000000000000 := by decide
  unfold cl_fe
  split
  · have := cl_step h.1 h.2 h4 h3
    exact ⟨by omega, by omega⟩
  · exact ⟨by omega, by omega⟩
section VD
variable {I : sp_I} {d i k c : Nat}
theorem sp_54l (hR : sp_R I) (h6 : 0 ≤ I 0 4 ∧ I 0 4 ≤ 6) : ∀ m q : Nat, q + m = sp_n I → mm_Rn pg_G (d + 1) 54 4 [.ref 0, io_v (pf_cnt q (fun i => cl_pend I i ∧ 0 < I (ad_j i) 2)), io_v q] [] (sp_me I 0 0) (some (io_v (pf_cnt (sp_n I) (fun i => cl_pend I i ∧ 0 < I (ad_j i) 2))), sp_me I 0 0)
  | 0, q, hm => by
    have hn := cl_n h6
    rw [st_54_4]
    simp (disch := (first | assumption | exact mm_c1_i _ | exact mm_c1_r _ | exact mm_c1_u _ | omega | exact hR _ _ | exact Nat.le_of_ble_eq_true rfl | decide | rfl | exact pb_dec _)) only [st_54_0, st_54_1, st_54_2, st_54_3, st_54_5, sm_54_6, st_54_9, st_54_12, sm_54_13, st_54_16, sm_54_17, sm_54_18, st_54_24, st_54_27, sm_54_28, st_54_31, sm_54_32, sm_54_33, st_54_39, st_54_42, st_54_45, st_54_48, st_54_51, st_54_52, reduceIte, Int.reduceEq, Int.reduceLE, Int.reduceLT, Int.reduceAdd, Int.reduceSub, Int.reduceMul, Int.reduceNeg, Int.reduceToNat, io_add, io_sub, io_mul, io_lt, io_le, io_eq, io_lt0, io_le0, io_0lt, io_0le, io_eq0, io_max2, Int.toNat_natCast, Nat.add_zero, Nat.zero_add]
    rw [if_pos (by omega), show sp_n I = q by omega]
  | m + 1, q, hm => by
    have hn := cl_n h6
    have hi : q < sp_n I := by omega
    have ih := sp_54l hR h6 m (q + 1) (by omega)
    rw [pf_cnt] at ih
    rw [st_54_4]
    simp (disch := (first | assumption | exact mm_c1_i _ | exact mm_c1_r _ | exact mm_c1_u _ | omega | exact hR _ _ | exact Nat.le_of_ble_eq_true rfl | decide | rfl | exact pb_dec _)) only [st_54_0, st_54_1, st_54_2, st_54_3, st_54_5, sm_54_6, st_54_9, st_54_12, sm_54_13, st_54_16, sm_54_17, sm_54_18, st_54_24, st_54_27, sm_54_28, st_54_31, sm_54_32, sm_54_33, st_54_39, st_54_42, st_54_45, st_54_48, st_54_51, st_54_52, reduceIte, Int.reduceEq, Int.reduceLE, Int.reduceLT, Int.reduceAdd, Int.reduceSub, Int.reduceMul, Int.reduceNeg, Int.reduceToNat, io_add, io_sub, io_mul, io_lt, io_le, io_eq, io_lt0, io_le0, io_0lt, io_0le, io_eq0, io_max2, Int.toNat_natCast, Nat.add_zero, Nat.zero_add]
    rw [if_neg (by omega), st_54_21 (Nat.le_of_ble_eq_true rfl) (sp_T_j hi) (sp_5 (d := d) hR hi)]
    by_cases h1 : cl_pend I q
    · rw [pb_pos h1]
      simp (disch := (first | assumption | exact mm_c1_i _ | exact mm_c1_r _ | exact mm_c1_u _ | omega | exact hR _ _ | exact Nat.le_of_ble_eq_true rfl | decide | rfl | exact pb_dec _)) only [st_54_0, st_54_1, st_54_2, st_54_3, st_54_5, sm_54_6, st_54_9, st_54_12, sm_54_13, st_54_16, sm_54_17, sm_54_18, st_54_24, st_54_27, sm_54_28, st_54_31, sm_54_32, sm_54_33, st_54_39, st_54_42, st_54_45, st_54_48, st_54_51, st_54_52, reduceIte, Int.reduceEq, Int.reduceLE, Int.reduceLT, Int.reduceAdd, Int.reduceSub, Int.reduceMul, Int.reduceNeg, Int.reduceToNat, io_add, io_sub, io_mul, io_lt, io_le, io_eq, io_lt0, io_le0, io_0lt, io_0le, io_eq0, io_max2, Int.toNat_natCast, Nat.add_zero, Nat.zero_add]
      rw [st_54_36 (Nat.le_of_ble_eq_true rfl) (sp_T_j hi) (sp_6 (d := d) hR hi)]
      by_cases h2 : 0 < I (ad_j q) 2
      · rw [pb_pos h2]
        rw [pb_pos ⟨h1, h2⟩] at ih
        simp (disch := (first | assumption | exact mm_c1_i _ | exact mm_c1_r _ | exact mm_c1_u _ | omega | exact hR _ _ | exact Nat.le_of_ble_eq_true rfl | decide | rfl | exact pb_dec _)) only [st_54_0, st_54_1, st_54_2, st_54_3, st_54_5, sm_54_6, st_54_9, st_54_12, sm_54_13, st_54_16, sm_54_17, sm_54_18, st_54_24, st_54_27, sm_54_28, st_54_31, sm_54_32, sm_54_33, st_54_39, st_54_42, st_54_45, st_54_48, st_54_51, st_54_52, reduceIte, Int.reduceEq, Int.reduceLE, Int.reduceLT, Int.reduceAdd, Int.reduceSub, Int.reduceMul, Int.reduceNeg, Int.reduceToNat, io_add, io_sub, io_mul, io_lt, io_le, io_eq, io_lt0, io_le0, io_0lt, io_0le, io_eq0, io_max2, Int.toNat_natCast, Nat.add_zero, Nat.zero_add]
        exact ih
      · rw [pb_neg h2]
        rw [pb_neg (fun z => h2 z.2), Int.add_zero] at ih
        simp (disch := (first | assumption | exact mm_c1_i _ | exact mm_c1_r _ | exact mm_c1_u _ | omega | exact hR _ _ | exact Nat.le_of_ble_eq_true rfl | decide | rfl | exact pb_dec _)) only [st_54_0, st_54_1, st_54_2, st_54_3, st_54_5, sm_54_6, st_54_9, st_54_12, sm_54_13, st_54_16, sm_54_17, sm_54_18, st_54_24, st_54_27, sm_54_28, st_54_31, sm_54_32, sm_54_33, st_54_39, st_54_42, st_54_45, st_54_48, st_54_51, st_54_52, reduceIte, Int.reduceEq, Int.reduceLE, Int.reduceLT, Int.reduceAdd, Int.reduceSub, Int.reduceMul, Int.reduceNeg, Int.reduceToNat, io_add, io_sub, io_mul, io_lt, io_le, io_eq, io_lt0, io_le0, io_0lt, io_0le, io_eq0, io_max2, Int.toNat_natCast, Nat.add_zero, Nat.zero_add]
        exact ih
    · rw [pb_neg h1]
      rw [pb_neg (fun z => h1 z.1), Int.add_zero] at ih
      simp (disch := (first | assumption | exact mm_c1_i _ | exact mm_c1_r _ | exact mm_c1_u _ | omega | exact hR _ _ | exact Nat.le_of_ble_eq_true rfl | decide | rfl | exact pb_dec _)) only [st_54_0, st_54_1, st_54_2, st_54_3, st_54_5, sm_54_6, st_54_9, st_54_12, sm_54_13, st_54_16, sm_54_17, sm_54_18, st_54_24, st_54_27, sm_54_28, st_54_31, sm_54_32, sm_54_33, st_54_39, st_54_42, st_54_45, st_54_48, st_54_51, st_54_52, reduceIte, Int.reduceEq, Int.reduceLE, Int.reduceLT, Int.reduceAdd, Int.reduceSub, Int.reduceMul, Int.reduceNeg, Int.reduceToNat, io_add, io_sub, io_mul, io_lt, io_le, io_eq, io_lt0, io_le0, io_0lt, io_0le, io_eq0, io_max2, Int.toNat_natCast, Nat.add_zero, Nat.zero_add]
      exact ih
theorem sp_54 (hR : sp_R I) (h6 : 0 ≤ I 0 4 ∧ I 0 4 ≤ 6) : mm_Rn pg_G (d + 1) 54 0 [.ref 0, .retAddr 0, .retAddr 0] [] (sp_me I 0 0) (some (io_v (pf_cnt (sp_n I) (fun i => cl_pend I i ∧ 0 < I (ad_j i) 2))), sp_me I 0 0) := by
  simp (disch := (first | assumption | exact mm_c1_i _ | exact mm_c1_r _ | exact mm_c1_u _ | omega | exact hR _ _ | exact Nat.le_of_ble_eq_true rfl | decide | rfl | exact pb_dec _)) only [st_54_0, st_54_1, st_54_2, st_54_3, st_54_5, sm_54_6, st_54_9, st_54_12, sm_54_13, st_54_16, sm_54_17, sm_54_18, st_54_24, st_54_27, sm_54_28, st_54_31, sm_54_32, sm_54_33, st_54_39, st_54_42, st_54_45, st_54_48, st_54_51, st_54_52, reduceIte, Int.reduceEq, Int.reduceLE, Int.reduceLT, Int.reduceAdd, Int.reduceSub, Int.reduceMul, Int.reduceNeg, Int.reduceToNat, io_add, io_sub, io_mul, io_lt, io_le, io_eq, io_lt0, io_le0, io_0lt, io_0le, io_eq0, io_max2, Int.toNat_natCast, Nat.add_zero, Nat.zero_add]
  exact sp_54l hR h6 (sp_n I) 0 (by omega)
theorem sp_56l (hR : sp_R I) (h6 : 0 ≤ I 0 4 ∧ I 0 4 ≤ 6) (hT : cl_TS I) (hP : cl_P I) (hc : c < sp_n I) : ∀ m q : Nat, q + m = sp_n I → mm_Rn pg_G (d + 2) 56 4 [.ref 0, .ref (ad_t c), io_v (pf_max q (cl_ag I c)), io_v q] [] (sp_me I 0 0) (some (io_v (cl_lha I c)), sp_me I 0 0)
  | 0, q, hm => by
    have hn := cl_n h6
    rw [st_56_4]
    simp (disch := (first | assumption | exact mm_c1_i _ | exact mm_c1_r _ | exact mm_c1_u _ | omega | exact hR _ _ | exact Nat.le_of_ble_eq_true rfl | decide | rfl | exact pb_dec _)) only [st_56_0, st_56_1, st_56_2, st_56_3, st_56_5, sm_56_6, st_56_9, st_56_12, sm_56_13, st_56_16, sm_56_17, sm_56_18, st_56_21, sm_56_22, st_56_25, st_56_28, st_56_29, sm_56_30, st_56_33, sm_56_34, st_56_35, sm_56_36, st_56_39, st_56_46, st_56_49, st_56_50, st_56_53, st_56_56, st_56_57, reduceIte, Int.reduceEq, Int.reduceLE, Int.reduceLT, Int.reduceAdd, Int.reduceSub, Int.reduceMul, Int.reduceNeg, Int.reduceToNat, io_add, io_sub, io_mul, io_lt, io_le, io_eq, io_lt0, io_le0, io_0lt, io_0le, io_eq0, io_max2, Int.toNat_natCast, Nat.add_zero, Nat.zero_add]
    rw [if_pos (by omega), show cl_lha I c = pf_max q (cl_ag I c) by unfold cl_lha; rw [show q = sp_n I by omega]]
  | m + 1, q, hm => by
    have hn := cl_n h6
    have hi : q < sp_n I := by omega
    have hp := hP c hc
    have r1 := cl_lh_rng (hT q hi).2 (101 - I (ad_t c) 1)
    have r2 := cl_ag_rng hT c (show q ≤ sp_n I by omega)
    have ih := sp_56l hR h6 hT hP hc m (q + 1) (by omega)
    rw [pf_max] at ih
    by_cases h1 : I (ad_t q) 1 ≤ I (ad_t c) 1
    · rw [show cl_ag I c q = 0 from pb_mul_neg (by omega) _, Int.max_eq_left r2.1] at ih
      rw [st_56_4]
      simp (disch := (first | assumption | exact mm_c1_i _ | exact mm_c1_r _ | exact mm_c1_u _ | omega | exact hR _ _ | exact Nat.le_of_ble_eq_true rfl | decide | rfl | exact pb_dec _)) only [st_56_0, st_56_1, st_56_2, st_56_3, st_56_5, sm_56_6, st_56_9, st_56_12, sm_56_13, st_56_16, sm_56_17, sm_56_18, st_56_21, sm_56_22, st_56_25, st_56_28, st_56_29, sm_56_30, st_56_33, sm_56_34, st_56_35, sm_56_36, st_56_39, st_56_46, st_56_49, st_56_50, st_56_53, st_56_56, st_56_57, reduceIte, Int.reduceEq, Int.reduceLE, Int.reduceLT, Int.reduceAdd, Int.reduceSub, Int.reduceMul, Int.reduceNeg, Int.reduceToNat, io_add, io_sub, io_mul, io_lt, io_le, io_eq, io_lt0, io_le0, io_0lt, io_0le, io_eq0, io_max2, Int.toNat_natCast, Nat.add_zero, Nat.zero_add]
      rw [if_neg (by omega), if_pos h1]
      exact ih
    · rw [show cl_ag I c q = cl_lh I (101 - I (ad_t c) 1) q from pb_mul_pos (by omega) _] at ih
      rw [st_56_4]
      simp (disch := (first | assumption | exact mm_c1_i _ | exact mm_c1_r _ | exact mm_c1_u _ | omega | exact hR _ _ | exact Nat.le_of_ble_eq_true rfl | decide | rfl | exact pb_dec _)) only [st_56_0, st_56_1, st_56_2, st_56_3, st_56_5, sm_56_6, st_56_9, st_56_12, sm_56_13, st_56_16, sm_56_17, sm_56_18, st_56_21, sm_56_22, st_56_25, st_56_28, st_56_29, sm_56_30, st_56_33, sm_56_34, st_56_35, sm_56_36, st_56_39, st_56_46, st_56_49, st_56_50, st_56_53, st_56_56, st_56_57, reduceIte, Int.reduceEq, Int.reduceLE, Int.reduceLT, Int.reduceAdd, Int.reduceSub, Int.reduceMul, Int.reduceNeg, Int.reduceToNat, io_add, io_sub, io_mul, io_lt, io_le, io_eq, io_lt0, io_le0, io_0lt, io_0le, io_eq0, io_max2, Int.toNat_natCast, Nat.add_zero, Nat.zero_add]
      rw [if_neg (by omega), if_neg h1]
      rw [st_56_40 (Nat.le_of_ble_eq_true rfl) (sp_T_t hc) (sp_11 (d := d + 1) hc)]
      simp (disch := (first | assumption | exact mm_c1_i _ | exact mm_c1_r _ | exact mm_c1_u _ | omega | exact hR _ _ | exact Nat.le_of_ble_eq_true rfl | decide | rfl | exact pb_dec _)) only [st_56_0, st_56_1, st_56_2, st_56_3, st_56_5, sm_56_6, st_56_9, st_56_12, sm_56_13, st_56_16, sm_56_17, sm_56_18, st_56_21, sm_56_22, st_56_25, st_56_28, st_56_29, sm_56_30, st_56_33, sm_56_34, st_56_35, sm_56_36, st_56_39, st_56_46, st_56_49, st_56_50, st_56_53, st_56_56, st_56_57, reduceIte, Int.reduceEq, Int.reduceLE, Int.reduceLT, Int.reduceAdd, Int.reduceSub, Int.reduceMul, Int.reduceNeg, Int.reduceToNat, io_add, io_sub, io_mul, io_lt, io_le, io_eq, io_lt0, io_le0, io_0lt, io_0le, io_eq0, io_max2, Int.toNat_natCast, Nat.add_zero, Nat.zero_add]
      rw [st_56_43 (Nat.le_of_ble_eq_true rfl) (sp_T_t hi) (sp_14 (d := d) hR hi (hT q hi).1 (hT q hi).2 (lev := 101 - I (ad_t c) 1) (by omega))]
      simp (disch := (first | assumption | exact mm_c1_i _ | exact mm_c1_r _ | exact mm_c1_u _ | omega | exact hR _ _ | exact Nat.le_of_ble_eq_true rfl | decide | rfl | exact pb_dec _)) only [st_56_0, st_56_1, st_56_2, st_56_3, st_56_5, sm_56_6, st_56_9, st_56_12, sm_56_13, st_56_16, sm_56_17, sm_56_18, st_56_21, sm_56_22, st_56_25, st_56_28, st_56_29, sm_56_30, st_56_33, sm_56_34, st_56_35, sm_56_36, st_56_39, st_56_46, st_56_49, st_56_50, st_56_53, st_56_56, st_56_57, reduceIte, Int.reduceEq, Int.reduceLE, Int.reduceLT, Int.reduceAdd, Int.reduceSub, Int.reduceMul, Int.reduceNeg, Int.reduceToNat, io_add, io_sub, io_mul, io_lt, io_le, io_eq, io_lt0, io_le0, io_0lt, io_0le, io_eq0, io_max2, Int.toNat_natCast, Nat.add_zero, Nat.zero_add]
      exact ih
theorem sp_56 (hR : sp_R I) (h6 : 0 ≤ I 0 4 ∧ I 0 4 ≤ 6) (hT : cl_TS I) (hP : cl_P I) (hc : c < sp_n I) : mm_Rn pg_G (d + 2) 56 0 [.ref 0, .ref (ad_t c), .retAddr 0, .retAddr 0] [] (sp_me I 0 0) (some (io_v (cl_lha I c)), sp_me I 0 0) := by
  simp (disch := (first | assumption | exact mm_c1_i _ | exact mm_c1_r _ | exact mm_c1_u _ | omega | exact hR _ _ | exact Nat.le_of_ble_eq_true rfl | decide | rfl | exact pb_dec _)) only [st_56_0, st_56_1, st_56_2, st_56_3, st_56_5, sm_56_6, st_56_9, st_56_12, sm_56_13, st_56_16, sm_56_17, sm_56_18, st_56_21, sm_56_22, st_56_25, st_56_28, st_56_29, sm_56_30, st_56_33, sm_56_34, st_56_35, sm_56_36, st_56_39, st_56_46, st_56_49, st_56_50, st_56_53, st_56_56, st_56_57, reduceIte, Int.reduceEq, Int.reduceLE, Int.reduceLT, Int.reduceAdd, Int.reduceSub, Int.reduceMul, Int.reduceNeg, Int.reduceToNat, io_add, io_sub, io_mul, io_lt, io_le, io_eq, io_lt0, io_le0, io_0lt, io_0le, io_eq0, io_max2, Int.toNat_natCast, Nat.add_zero, Nat.zero_add]
  exact sp_56l hR h6 hT hP hc (sp_n I) 0 (by omega)
theorem sp_55e (hR : sp_R I) (h6 : 0 ≤ I 0 4 ∧ I 0 4 ≤ 6) (hP : cl_P I) (hc : c < sp_n I) {w : Int} (hw : 0 ≤ w ∧ w ≤ 100) (h3 : 0 ≤ I 3 3 ∧ I 3 3 ≤ 100) (h4 : 0 ≤ I 3 4 ∧ I 3 4 ≤ 100) {x : Value} : mm_Rn pg_G (d + 1) 55 94 [.ref 0, .ref (ad_t c), .long (Int64.ofInt (cl_fr I c w (sp_n I)).1), .retAddr 0, .long (Int64.ofInt (cl_fr I c w (sp_n I)).2), .retAddr 0, x] [] (sp_me I 0 0) (some (io_v (pb_z ((cl_fe I c w).1 ≤ (cl_fe I c w).2))), sp_me I 0 0) := by
  obtain ⟨r1, r2⟩ := cl_fe_rng hP h6 hc hw h3 h4
  unfold cl_fe at r1 r2 ⊢
  simp (disch := (first | assumption | exact mm_c1_i _ | exact mm_c1_r _ | exact mm_c1_u _ | omega | exact hR _ _ | exact Nat.le_of_ble_eq_true rfl | decide | rfl | exact pb_dec _)) only [st_55_0, st_55_1, st_55_5, st_55_6, st_55_7, sm_55_8, st_55_11, st_55_12, st_55_14, st_55_15, st_55_17, st_55_19, sm_55_20, st_55_23, st_55_26, sm_55_27, st_55_30, sm_55_32, sm_55_33, st_55_36, sm_55_37, st_55_40, st_55_43, st_55_44, sm_55_45, st_55_48, sm_55_50, sm_55_51, st_55_54, st_55_55, st_55_56, sm_55_57, st_55_60, sm_55_62, sm_55_63, st_55_66, st_55_67, st_55_69, st_55_70, st_55_71, st_55_72, st_55_74, sm_55_75, st_55_78, sm_55_80, sm_55_81, st_55_84, st_55_85, st_55_86, st_55_88, st_55_91, st_55_94, sm_55_95, st_55_101, st_55_104, st_55_105, sm_55_106, sm_55_109, st_55_112, st_55_113, st_55_114, sm_55_115, sm_55_118, st_55_121, st_55_122, st_55_124, st_55_125, st_55_126, st_55_127, st_55_129, sm_55_130, sm_55_133, st_55_136, st_55_137, st_55_138, st_55_140, st_55_141, st_55_143, st_55_144, st_55_147, st_55_148, st_55_151, st_55_152, reduceIte, Int.reduceEq, Int.reduceLE, Int.reduceLT, Int.reduceAdd, Int.reduceSub, Int.reduceMul, Int.reduceNeg, Int.reduceToNat, io_add, io_sub, io_mul, io_lt, io_le, io_eq, io_lt0, io_le0, io_0lt, io_0le, io_eq0, io_max2, Int.toNat_natCast, Nat.add_zero, Nat.zero_add]
  rw [st_55_98 (Nat.le_of_ble_eq_true rfl) rfl (sp_22 (d := d) hR)]
  by_cases h0 : 0 < I 3 3
  · rw [if_pos h0] at r1 r2 ⊢
    rw [pb_pos h0]
    simp (disch := (first | assumption | exact mm_c1_i _ | exact mm_c1_r _ | exact mm_c1_u _ | omega | exact hR _ _ | exact Nat.le_of_ble_eq_true rfl | decide | rfl | exact pb_dec _)) only [st_55_0, st_55_1, st_55_5, st_55_6, st_55_7, sm_55_8, st_55_11, st_55_12, st_55_14, st_55_15, st_55_17, st_55_19, sm_55_20, st_55_23, st_55_26, sm_55_27, st_55_30, sm_55_32, sm_55_33, st_55_36, sm_55_37, st_55_40, st_55_43, st_55_44, sm_55_45, st_55_48, sm_55_50, sm_55_51, st_55_54, st_55_55, st_55_56, sm_55_57, st_55_60, sm_55_62, sm_55_63, st_55_66, st_55_67, st_55_69, st_55_70, st_55_71, st_55_72, st_55_74, sm_55_75, st_55_78, sm_55_80, sm_55_81, st_55_84, st_55_85, st_55_86, st_55_88, st_55_91, st_55_94, sm_55_95, st_55_101, st_55_104, st_55_105, sm_55_106, sm_55_109, st_55_112, st_55_113, st_55_114, sm_55_115, sm_55_118, st_55_121, st_55_122, st_55_124, st_55_125, st_55_126, st_55_127, st_55_129, sm_55_130, sm_55_133, st_55_136, st_55_137, st_55_138, st_55_140, st_55_141, st_55_143, st_55_144, st_55_147, st_55_148, st_55_151, st_55_152, reduceIte, Int.reduceEq, Int.reduceLE, Int.reduceLT, Int.reduceAdd, Int.reduceSub, Int.reduceMul, Int.reduceNeg, Int.reduceToNat, io_add, io_sub, io_mul, io_lt, io_le, io_eq, io_lt0, io_le0, io_0lt, io_0le, io_eq0, io_max2, Int.toNat_natCast, Nat.add_zero, Nat.zero_add, jo_i2l, jo_mul, jo_add, lg_cmp_gt, jo_lt]
    split
    · rw [pb_neg (by omega)]
    · rw [pb_pos (by omega)]
  · rw [if_neg h0] at r1 r2 ⊢
    rw [pb_neg h0]
    simp (disch := (first | assumption | exact mm_c1_i _ | exact mm_c1_r _ | exact mm_c1_u _ | omega | exact hR _ _ | exact Nat.le_of_ble_eq_true rfl | decide | rfl | exact pb_dec _)) only [st_55_0, st_55_1, st_55_5, st_55_6, st_55_7, sm_55_8, st_55_11, st_55_12, st_55_14, st_55_15, st_55_17, st_55_19, sm_55_20, st_55_23, st_55_26, sm_55_27, st_55_30, sm_55_32, sm_55_33, st_55_36, sm_55_37, st_55_40, st_55_43, st_55_44, sm_55_45, st_55_48, sm_55_50, sm_55_51, st_55_54, st_55_55, st_55_56, sm_55_57, st_55_60, sm_55_62, sm_55_63, st_55_66, st_55_67, st_55_69, st_55_70, st_55_71, st_55_72, st_55_74, sm_55_75, st_55_78, sm_55_80, sm_55_81, st_55_84, st_55_85, st_55_86, st_55_88, st_55_91, st_55_94, sm_55_95, st_55_101, st_55_104, st_55_105, sm_55_106, sm_55_109, st_55_112, st_55_113, st_55_114, sm_55_115, sm_55_118, st_55_121, st_55_122, st_55_124, st_55_125, st_55_126, st_55_127, st_55_129, sm_55_130, sm_55_133, st_55_136, st_55_137, st_55_138, st_55_140, st_55_141, st_55_143, st_55_144, st_55_147, st_55_148, st_55_151, st_55_152, reduceIte, Int.reduceEq, Int.reduceLE, Int.reduceLT, Int.reduceAdd, Int.reduceSub, Int.reduceMul, Int.reduceNeg, Int.reduceToNat, io_add, io_sub, io_mul, io_lt, io_le, io_eq, io_lt0, io_le0, io_0lt, io_0le, io_eq0, io_max2, Int.toNat_natCast, Nat.add_zero, Nat.zero_add, jo_i2l, jo_mul, jo_add, lg_cmp_gt, jo_lt]
    split
    · rw [pb_neg (by omega)]
    · rw [pb_pos (by omega)]
theorem sp_55l (hR : sp_R I) (h6 : 0 ≤ I 0 4 ∧ I 0 4 ≤ 6) (hP : cl_P I) (hc : c < sp_n I) {w : Int} (hw : 0 ≤ w ∧ w ≤ 100) (h3 : 0 ≤ I 3 3 ∧ I 3 3 ≤ 100) (h4 : 0 ≤ I 3 4 ∧ I 3 4 ≤ 100) : ∀ m q : Nat, q + m = sp_n I → mm_Rn pg_G (d + 1) 55 17 [.ref 0, .ref (ad_t c), .long (Int64.ofInt (cl_fr I c w q).1), .retAddr 0, .long (Int64.ofInt (cl_fr I c w q).2), .retAddr 0, io_v q] [] (sp_me I 0 0) (some (io_v (pb_z ((cl_fe I c w).1 ≤ (cl_fe I c w).2))), sp_me I 0 0)
  | 0, q, hm => by
    have hn := cl_n h6
    rw [st_55_17]
    simp (disch := (first | assumption | exact mm_c1_i _ | exact mm_c1_r _ | exact mm_c1_u _ | omega | exact hR _ _ | exact Nat.le_of_ble_eq_true rfl | decide | rfl | exact pb_dec _)) only [st_55_0, st_55_1, st_55_5, st_55_6, st_55_7, sm_55_8, st_55_11, st_55_12, st_55_14, st_55_15, st_55_19, sm_55_20, st_55_23, st_55_26, sm_55_27, st_55_30, sm_55_32, sm_55_33, st_55_36, sm_55_37, st_55_40, st_55_43, st_55_44, sm_55_45, st_55_48, sm_55_50, sm_55_51, st_55_54, st_55_55, st_55_56, sm_55_57, st_55_60, sm_55_62, sm_55_63, st_55_66, st_55_67, st_55_69, st_55_70, st_55_71, st_55_72, st_55_74, sm_55_75, st_55_78, sm_55_80, sm_55_81, st_55_84, st_55_85, st_55_86, st_55_88, st_55_91, sm_55_95, st_55_101, st_55_104, st_55_105, sm_55_106, sm_55_109, st_55_112, st_55_113, st_55_114, sm_55_115, sm_55_118, st_55_121, st_55_122, st_55_124, st_55_125, st_55_126, st_55_127, st_55_129, sm_55_130, sm_55_133, st_55_136, st_55_137, st_55_138, st_55_140, st_55_141, st_55_143, st_55_144, st_55_147, st_55_148, st_55_151, st_55_152, reduceIte, Int.reduceEq, Int.reduceLE, Int.reduceLT, Int.reduceAdd, Int.reduceSub, Int.reduceMul, Int.reduceNeg, Int.reduceToNat, io_add, io_sub, io_mul, io_lt, io_le, io_eq, io_lt0, io_le0, io_0lt, io_0le, io_eq0, io_max2, Int.toNat_natCast, Nat.add_zero, Nat.zero_add]
    rw [if_pos (by omega), show q = sp_n I by omega]
    exact sp_55e hR h6 hP hc hw h3 h4
  | m + 1, q, hm => by
    have hn := cl_n h6
    have hi : q < sp_n I := by omega
    have ih := sp_55l hR h6 hP hc hw h3 h4 m (q + 1) (by omega)
    rw [cl_fr] at ih
    by_cases h1 : I (ad_t q) 1 ≤ I (ad_t c) 1
    · rw [if_pos h1] at ih
      rw [st_55_17]
      simp (disch := (first | assumption | exact mm_c1_i _ | exact mm_c1_r _ | exact mm_c1_u _ | omega | exact hR _ _ | exact Nat.le_of_ble_eq_true rfl | decide | rfl | exact pb_dec _)) only [st_55_0, st_55_1, st_55_5, st_55_6, st_55_7, sm_55_8, st_55_11, st_55_12, st_55_14, st_55_15, st_55_19, sm_55_20, st_55_23, st_55_26, sm_55_27, st_55_30, sm_55_32, sm_55_33, st_55_36, sm_55_37, st_55_40, st_55_43, st_55_44, sm_55_45, st_55_48, sm_55_50, sm_55_51, st_55_54, st_55_55, st_55_56, sm_55_57, st_55_60, sm_55_62, sm_55_63, st_55_66, st_55_67, st_55_69, st_55_70, st_55_71, st_55_72, st_55_74, sm_55_75, st_55_78, sm_55_80, sm_55_81, st_55_84, st_55_85, st_55_86, st_55_88, st_55_91, sm_55_95, st_55_101, st_55_104, st_55_105, sm_55_106, sm_55_109, st_55_112, st_55_113, st_55_114, sm_55_115, sm_55_118, st_55_121, st_55_122, st_55_124, st_55_125, st_55_126, st_55_127, st_55_129, sm_55_130, sm_55_133, st_55_136, st_55_137, st_55_138, st_55_140, st_55_141, st_55_143, st_55_144, st_55_147, st_55_148, st_55_151, st_55_152, reduceIte, Int.reduceEq, Int.reduceLE, Int.reduceLT, Int.reduceAdd, Int.reduceSub, Int.reduceMul, Int.reduceNeg, Int.reduceToNat, io_add, io_sub, io_mul, io_lt, io_le, io_eq, io_lt0, io_le0, io_0lt, io_0le, io_eq0, io_max2, Int.toNat_natCast, Nat.add_zero, Nat.zero_add, jo_i2l, jo_mul, jo_add]
      rw [if_neg (by omega), if_neg (by omega)]
      exact ih
    · rw [if_neg h1] at ih
      rw [st_55_17]
      simp (disch := (first | assumption | exact mm_c1_i _ | exact mm_c1_r _ | exact mm_c1_u _ | omega | exact hR _ _ | exact Nat.le_of_ble_eq_true rfl | decide | rfl | exact pb_dec _)) only [st_55_0, st_55_1, st_55_5, st_55_6, st_55_7, sm_55_8, st_55_11, st_55_12, st_55_14, st_55_15, st_55_19, sm_55_20, st_55_23, st_55_26, sm_55_27, st_55_30, sm_55_32, sm_55_33, st_55_36, sm_55_37, st_55_40, st_55_43, st_55_44, sm_55_45, st_55_48, sm_55_50, sm_55_51, st_55_54, st_55_55, st_55_56, sm_55_57, st_55_60, sm_55_62, sm_55_63, st_55_66, st_55_67, st_55_69, st_55_70, st_55_71, st_55_72, st_55_74, sm_55_75, st_55_78, sm_55_80, sm_55_81, st_55_84, st_55_85, st_55_86, st_55_88, st_55_91, sm_55_95, st_55_101, st_55_104, st_55_105, sm_55_106, sm_55_109, st_55_112, st_55_113, st_55_114, sm_55_115, sm_55_118, st_55_121, st_55_122, st_55_124, st_55_125, st_55_126, st_55_127, st_55_129, sm_55_130, sm_55_133, st_55_136, st_55_137, st_55_138, st_55_140, st_55_141, st_55_143, st_55_144, st_55_147, st_55_148, st_55_151, st_55_152, reduceIte, Int.reduceEq, Int.reduceLE, Int.reduceLT, Int.reduceAdd, Int.reduceSub, Int.reduceMul, Int.reduceNeg, Int.reduceToNat, io_add, io_sub, io_mul, io_lt, io_le, io_eq, io_lt0, io_le0, io_0lt, io_0le, io_eq0, io_max2, Int.toNat_natCast, Nat.add_zero, Nat.zero_add, jo_i2l, jo_mul, jo_add]
      rw [if_neg (by omega), if_pos (by omega)]
      exact ih
theorem sp_55 (hR : sp_R I) (h6 : 0 ≤ I 0 4 ∧ I 0 4 ≤ 6) (hT : cl_TS I) (hP : cl_P I) (hc : c < sp_n I) (h3 : 0 ≤ I 3 3 ∧ I 3 3 ≤ 100) (h4 : 0 ≤ I 3 4 ∧ I 3 4 ≤ 100) : mm_Rn pg_G (d + 3) 55 0 [.ref 0, .ref (ad_t c), .retAddr 0, .retAddr 0, .retAddr 0, .retAddr 0, .retAddr 0] [] (sp_me I 0 0) (some (io_v (pb_z ((cl_fe I c (cl_lha I c)).1 ≤ (cl_fe I c (cl_lha I c)).2))), sp_me I 0 0) := by
  have hw := cl_ag_rng hT c (Nat.le_refl (sp_n I))
  simp (disch := (first | assumption | exact mm_c1_i _ | exact mm_c1_r _ | exact mm_c1_u _ | omega | exact hR _ _ | exact Nat.le_of_ble_eq_true rfl | decide | rfl | exact pb_dec _)) only [st_55_0, st_55_1, st_55_5, st_55_6, st_55_7, sm_55_8, st_55_11, st_55_12, st_55_14, st_55_15, st_55_17, st_55_19, sm_55_20, st_55_23, st_55_26, sm_55_27, st_55_30, sm_55_32, sm_55_33, st_55_36, sm_55_37, st_55_40, st_55_43, st_55_44, sm_55_45, st_55_48, sm_55_50, sm_55_51, st_55_54, st_55_55, st_55_56, sm_55_57, st_55_60, sm_55_62, sm_55_63, st_55_66, st_55_67, st_55_69, st_55_70, st_55_71, st_55_72, st_55_74, sm_55_75, st_55_78, sm_55_80, sm_55_81, st_55_84, st_55_85, st_55_86, st_55_88, st_55_91, st_55_94, sm_55_95, st_55_101, st_55_104, st_55_105, sm_55_106, sm_55_109, st_55_112, st_55_113, st_55_114, sm_55_115, sm_55_118, st_55_121, st_55_122, st_55_124, st_55_125, st_55_126, st_55_127, st_55_129, sm_55_130, sm_55_133, st_55_136, st_55_137, st_55_138, st_55_140, st_55_141, st_55_143, st_55_144, st_55_147, st_55_148, st_55_151, st_55_152, reduceIte, Int.reduceEq, Int.reduceLE, Int.reduceLT, Int.reduceAdd, Int.reduceSub, Int.reduceMul, Int.reduceNeg, Int.reduceToNat, io_add, io_sub, io_mul, io_lt, io_le, io_eq, io_lt0, io_le0, io_0lt, io_0le, io_eq0, io_max2, Int.toNat_natCast, Nat.add_zero, Nat.zero_add]
  rw [st_55_2 (Nat.le_of_ble_eq_true rfl) rfl (sp_56 (d := d) hR h6 hT hP hc)]
  have hw' : 0 ≤ cl_lha I c ∧ cl_lha I c ≤ 100 := hw
  simp (disch := (first | assumption | exact mm_c1_i _ | exact mm_c1_r _ | exact mm_c1_u _ | omega | exact hR _ _ | exact Nat.le_of_ble_eq_true rfl | decide | rfl | exact pb_dec _)) only [st_55_0, st_55_1, st_55_5, st_55_6, st_55_7, sm_55_8, st_55_11, st_55_12, st_55_14, st_55_15, st_55_19, sm_55_20, st_55_23, st_55_26, sm_55_27, st_55_30, sm_55_32, sm_55_33, st_55_36, sm_55_37, st_55_40, st_55_43, st_55_44, sm_55_45, st_55_48, sm_55_50, sm_55_51, st_55_54, st_55_55, st_55_56, sm_55_57, st_55_60, sm_55_62, sm_55_63, st_55_66, st_55_67, st_55_69, st_55_70, st_55_71, st_55_72, st_55_74, sm_55_75, st_55_78, sm_55_80, sm_55_81, st_55_84, st_55_85, st_55_86, st_55_88, st_55_91, st_55_94, sm_55_95, st_55_101, st_55_104, st_55_105, sm_55_106, sm_55_109, st_55_112, st_55_113, st_55_114, sm_55_115, sm_55_118, st_55_121, st_55_122, st_55_124, st_55_125, st_55_126, st_55_127, st_55_129, sm_55_130, sm_55_133, st_55_136, st_55_137, st_55_138, st_55_140, st_55_141, st_55_143, st_55_144, st_55_147, st_55_148, st_55_151, st_55_152, reduceIte, Int.reduceEq, Int.reduceLE, Int.reduceLT, Int.reduceAdd, Int.reduceSub, Int.reduceMul, Int.reduceNeg, Int.reduceToNat, io_add, io_sub, io_mul, io_lt, io_le, io_eq, io_lt0, io_le0, io_0lt, io_0le, io_eq0, io_max2, Int.toNat_natCast, Nat.add_zero, Nat.zero_add, jo_i2l]
  exact sp_55l (d := d + 2) hR h6 hP hc hw' h3 h4 (sp_n I) 0 (by omega)
end VD
