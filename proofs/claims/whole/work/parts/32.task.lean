/-! the class's tasks -/
theorem up_id (I : sp_I) (x k : Nat) : up_I I x k (I x k) = I := by
  funext y j
  unfold up_I
  split
  · rename_i h; rw [h.1, h.2]
  · rfl
theorem pb_mul_le {p : Prop} {a b : Int} (h0 : 0 ≤ b) (h : a ≤ b) : pb_z p * a ≤ b := by
  rcases pb_01 p with e | e <;> rw [e] <;> omega
theorem pb_mul_pos {p : Prop} (h : p) (a : Int) : pb_z p * a = a := by rw [pb_pos h]; omega
theorem pb_mul_neg {p : Prop} (h : ¬ p) (a : Int) : pb_z p * a = 0 := by rw [pb_neg h]; omega
def cl_any (I : sp_I) (i : Nat) : Prop := ∃ k, k < sp_c I i ∧ cl_held I i k
/-- resources; lengths -/
def cl_Q (I : sp_I) (i : Nat) : Prop := ∀ k, k < sp_c I i → (0 ≤ I (ad_s i k) 0 ∧ I (ad_s i k) 0 < 4) ∧ 0 ≤ I (ad_s i k) 1 ∧ I (ad_s i k) 1 < I (ad_s i k) 2 ∧ I (ad_s i k) 2 ≤ 100
noncomputable def cl_hv (I : sp_I) (i k : Nat) : Int := pb_z (cl_held I i k) * I 2 (I (ad_s i k) 0).toNat
noncomputable def cl_hi (I : sp_I) (i : Nat) : Int := pf_max (sp_c I i) (cl_hv I i)
noncomputable def cl_lv (I : sp_I) (lev : Int) (i k : Nat) : Int := pb_z (lev ≤ I 2 (I (ad_s i k) 0).toNat) * (I (ad_s i k) 2 - I (ad_s i k) 1 - 1)
noncomputable def cl_lh (I : sp_I) (lev : Int) (i : Nat) : Int := pf_max (sp_c I i) (cl_lv I lev i)
theorem cl_hv_rng {I : sp_I} (hR : sp_R I) (i q : Nat) : io_R (pf_max q (cl_hv I i)) := by
  have h1 := pf_max_nonneg (cl_hv I i) q
  have h2 := pf_max_le (f := cl_hv I i) (b := 2147483647) q (by decide) (fun k _ => pb_mul_le (by decide) (by have := hR 2 (I (ad_s i k) 0).toNat; omega))
  omega
theorem cl_lv_rng {I : sp_I} {i : Nat} (hQ : cl_Q I i) (lev : Int) {q : Nat} (hq : q ≤ sp_c I i) : 0 ≤ pf_max q (cl_lv I lev i) ∧ pf_max q (cl_lv I lev i) ≤ 100 := by
  have h1 := pf_max_nonneg (cl_lv I lev i) q
  have h2 := pf_max_le (f := cl_lv I lev i) (b := 100) q (by decide) (fun k hk => pb_mul_le (by decide) (by have := hQ k (by omega); omega))
  omega
section TA
variable {I : sp_I} {d i k : Nat}
theorem sp_17 (hR : sp_R I) (hi : i < sp_n I) (hS : cl_S I i) : mm_Rn pg_G (d + 2) 17 0 [.ref (ad_t i), .retAddr 0] [] (sp_me I 0 0) (some (io_v (pb_z (cl_any I i))), sp_me I 0 0) := by
  rw [pb_iff (show cl_any I i ↔ (∃ k, 0 ≤ k ∧ k < sp_c I i ∧ cl_held I i k) from ⟨fun ⟨k, a, b⟩ => ⟨k, by omega, a, b⟩, fun ⟨k, _, a, b⟩ => ⟨k, a, b⟩⟩)]
  simp (disch := (first | assumption | exact mm_c1_i _ | exact mm_c1_r _ | exact mm_c1_u _ | omega | exact hR _ _ | exact Nat.le_of_ble_eq_true rfl | decide | rfl | exact pb_dec _)) only [st_17_0, st_17_1, st_17_3, sm_17_4, st_17_7, st_17_10, st_17_11, sm_17_12, st_17_15, sm_17_16, st_17_20, st_17_23, st_17_24, st_17_25, st_17_28, st_17_31, st_17_32, reduceIte, Int.reduceEq, Int.reduceLE, Int.reduceLT, Int.reduceAdd, Int.reduceSub, Int.reduceMul, Int.reduceNeg, Int.reduceToNat, io_add, io_sub, io_mul, io_lt, io_le, io_eq, io_lt0, io_le0, io_0lt, io_0le, io_eq0, io_max2, Int.toNat_natCast, Nat.add_zero, Nat.zero_add]
  exact sp_17l hR hi hS (sp_c I i) 0 (by omega)
theorem sp_16l (hR : sp_R I) (hi : i < sp_n I) (hS : cl_S I i) {r : Int} (hr : io_R r) : ∀ m q : Nat, q + m = sp_c I i → mm_Rn pg_G (d + 2) 16 2 [.ref (ad_t i), io_v r, io_v q] [] (sp_me I 0 0) (some (io_v (pb_z (∃ k, q ≤ k ∧ k < sp_c I i ∧ I (ad_s i k) 0 = r ∧ cl_held I i k))), sp_me I 0 0)
  | 0, q, hm => by
    have hc := cl_cnt hS
    rw [pb_neg (fun ⟨k, h1, h2, _⟩ => by omega)]
    rw [st_16_2]
    simp (disch := (first | assumption | exact mm_c1_i _ | exact mm_c1_r _ | exact mm_c1_u _ | omega | exact hR _ _ | exact Nat.le_of_ble_eq_true rfl | decide | rfl | exact pb_dec _)) only [st_16_0, st_16_1, st_16_3, sm_16_4, st_16_7, st_16_10, sm_16_11, st_16_14, sm_16_15, sm_16_16, st_16_19, st_16_20, st_16_23, st_16_24, sm_16_25, st_16_28, sm_16_29, st_16_33, st_16_36, st_16_37, st_16_38, st_16_41, st_16_44, st_16_45, reduceIte, Int.reduceEq, Int.reduceLE, Int.reduceLT, Int.reduceAdd, Int.reduceSub, Int.reduceMul, Int.reduceNeg, Int.reduceToNat, io_add, io_sub, io_mul, io_lt, io_le, io_eq, io_lt0, io_le0, io_0lt, io_0le, io_eq0, io_max2, Int.toNat_natCast, Nat.add_zero, Nat.zero_add]
    rw [if_pos (by omega)]; trivial
  | m + 1, q, hm => by
    have hc := cl_cnt hS
    have hS' := hS
    unfold cl_S at hS'
    have h4 : q < 4 := by omega
    have hk : q < sp_c I i := by omega
    have key : ¬ (I (ad_s i q) 0 = r ∧ cl_held I i q) → ((∃ k, q ≤ k ∧ k < sp_c I i ∧ I (ad_s i k) 0 = r ∧ cl_held I i k) ↔ (∃ k, q + 1 ≤ k ∧ k < sp_c I i ∧ I (ad_s i k) 0 = r ∧ cl_held I i k)) := fun hn => ⟨fun ⟨k, a, b, c⟩ => ⟨k, by rcases Nat.lt_or_ge q k with h | h; exact h; exact absurd (show I (ad_s i q) 0 = r ∧ cl_held I i q by rwa [show q = k by omega]) hn, b, c⟩, fun ⟨k, a, b, c⟩ => ⟨k, by omega, b, c⟩⟩
    rw [st_16_2]
    simp (disch := (first | assumption | exact mm_c1_i _ | exact mm_c1_r _ | exact mm_c1_u _ | omega | exact hR _ _ | exact Nat.le_of_ble_eq_true rfl | decide | rfl | exact pb_dec _)) only [st_16_0, st_16_1, st_16_3, sm_16_4, st_16_7, st_16_10, sm_16_11, st_16_14, sm_16_15, sm_16_16, st_16_19, st_16_20, st_16_23, st_16_24, sm_16_25, st_16_28, sm_16_29, st_16_33, st_16_36, st_16_37, st_16_38, st_16_41, st_16_44, st_16_45, reduceIte, Int.reduceEq, Int.reduceLE, Int.reduceLT, Int.reduceAdd, Int.reduceSub, Int.reduceMul, Int.reduceNeg, Int.reduceToNat, io_add, io_sub, io_mul, io_lt, io_le, io_eq, io_lt0, io_le0, io_0lt, io_0le, io_eq0, io_max2, Int.toNat_natCast, Nat.add_zero, Nat.zero_add]
    rw [if_neg (by omega)]
    by_cases h0 : I (ad_s i q) 0 = r
    · rw [if_pos h0, st_16_30 (Nat.le_of_ble_eq_true rfl) (sp_T_t hi) (sp_15 (d := d) hR hi h4 hk)]
      by_cases h1 : cl_held I i q
      · rw [pb_pos h1, pb_pos (show ∃ k, q ≤ k ∧ k < sp_c I i ∧ I (ad_s i k) 0 = r ∧ cl_held I i k from ⟨q, by omega, by omega, h0, h1⟩)]
        simp (disch := (first | assumption | exact mm_c1_i _ | exact mm_c1_r _ | exact mm_c1_u _ | omega | exact hR _ _ | exact Nat.le_of_ble_eq_true rfl | decide | rfl | exact pb_dec _)) only [st_16_0, st_16_1, st_16_3, sm_16_4, st_16_7, st_16_10, sm_16_11, st_16_14, sm_16_15, sm_16_16, st_16_19, st_16_20, st_16_23, st_16_24, sm_16_25, st_16_28, sm_16_29, st_16_33, st_16_36, st_16_37, st_16_38, st_16_41, st_16_44, st_16_45, reduceIte, Int.reduceEq, Int.reduceLE, Int.reduceLT, Int.reduceAdd, Int.reduceSub, Int.reduceMul, Int.reduceNeg, Int.reduceToNat, io_add, io_sub, io_mul, io_lt, io_le, io_eq, io_lt0, io_le0, io_0lt, io_0le, io_eq0, io_max2, Int.toNat_natCast, Nat.add_zero, Nat.zero_add]
      · rw [pb_neg h1, pb_iff (key (fun z => h1 z.2))]
        simp (disch := (first | assumption | exact mm_c1_i _ | exact mm_c1_r _ | exact mm_c1_u _ | omega | exact hR _ _ | exact Nat.le_of_ble_eq_true rfl | decide | rfl | exact pb_dec _)) only [st_16_0, st_16_1, st_16_3, sm_16_4, st_16_7, st_16_10, sm_16_11, st_16_14, sm_16_15, sm_16_16, st_16_19, st_16_20, st_16_23, st_16_24, sm_16_25, st_16_28, sm_16_29, st_16_33, st_16_36, st_16_37, st_16_38, st_16_41, st_16_44, st_16_45, reduceIte, Int.reduceEq, Int.reduceLE, Int.reduceLT, Int.reduceAdd, Int.reduceSub, Int.reduceMul, Int.reduceNeg, Int.reduceToNat, io_add, io_sub, io_mul, io_lt, io_le, io_eq, io_lt0, io_le0, io_0lt, io_0le, io_eq0, io_max2, Int.toNat_natCast, Nat.add_zero, Nat.zero_add]
        exact sp_16l hR hi hS hr m (q + 1) (by omega)
    · rw [if_neg h0, pb_iff (key (fun z => h0 z.1))]
      exact sp_16l hR hi hS hr m (q + 1) (by omega)
theorem sp_16 (hR : sp_R I) (hi : i < sp_n I) (hS : cl_S I i) {r : Int} (hr : io_R r) : mm_Rn pg_G (d + 2) 16 0 [.ref (ad_t i), io_v r, .retAddr 0] [] (sp_me I 0 0) (some (io_v (pb_z (∃ k, k < sp_c I i ∧ I (ad_s i k) 0 = r ∧ cl_held I i k))), sp_me I 0 0) := by
  rw [pb_iff (show (∃ k, k < sp_c I i ∧ I (ad_s i k) 0 = r ∧ cl_held I i k) ↔ (∃ k, 0 ≤ k ∧ k < sp_c I i ∧ I (ad_s i k) 0 = r ∧ cl_held I i k) from ⟨fun ⟨k, a, b⟩ => ⟨k, by omega, a, b⟩, fun ⟨k, _, a, b⟩ => ⟨k, a, b⟩⟩)]
  simp (disch := (first | assumption | exact mm_c1_i _ | exact mm_c1_r _ | exact mm_c1_u _ | omega | exact hR _ _ | exact Nat.le_of_ble_eq_true rfl | decide | rfl | exact pb_dec _)) only [st_16_0, st_16_1, st_16_3, sm_16_4, st_16_7, st_16_10, sm_16_11, st_16_14, sm_16_15, sm_16_16, st_16_19, st_16_20, st_16_23, st_16_24, sm_16_25, st_16_28, sm_16_29, st_16_33, st_16_36, st_16_37, st_16_38, st_16_41, st_16_44, st_16_45, reduceIte, Int.reduceEq, Int.reduceLE, Int.reduceLT, Int.reduceAdd, Int.reduceSub, Int.reduceMul, Int.reduceNeg, Int.reduceToNat, io_add, io_sub, io_mul, io_lt, io_le, io_eq, io_lt0, io_le0, io_0lt, io_0le, io_eq0, io_max2, Int.toNat_natCast, Nat.add_zero, Nat.zero_add]
  exact sp_16l hR hi hS hr (sp_c I i) 0 (by omega)
theorem sp_18l (hR : sp_R I) (hi : i < sp_n I) (hS : cl_S I i) (hQ : cl_Q I i) : ∀ m q : Nat, q + m = sp_c I i → mm_Rn pg_G (d + 2) 18 4 [.ref (ad_t i), .ref 2, io_v (pf_max q (cl_hv I i)), io_v q] [] (sp_me I 0 0) (some (io_v (cl_hi I i)), sp_me I 0 0)
  | 0, q, hm => by
    have hc := cl_cnt hS
    rw [st_18_4]
    simp (disch := (first | assumption | exact mm_c1_i _ | exact mm_c1_r _ | exact mm_c1_u _ | omega | exact hR _ _ | exact Nat.le_of_ble_eq_true rfl | decide | rfl | exact pb_dec _)) only [st_18_0, st_18_1, st_18_2, st_18_3, st_18_5, sm_18_6, st_18_9, st_18_12, st_18_13, sm_18_14, st_18_17, sm_18_18, st_18_22, st_18_25, st_18_26, st_18_27, sm_18_28, st_18_31, sm_18_32, sm_18_33, sm_18_36, st_18_37, st_18_40, st_18_41, st_18_44, st_18_47, st_18_48, reduceIte, Int.reduceEq, Int.reduceLE, Int.reduceLT, Int.reduceAdd, Int.reduceSub, Int.reduceMul, Int.reduceNeg, Int.reduceToNat, io_add, io_sub, io_mul, io_lt, io_le, io_eq, io_lt0, io_le0, io_0lt, io_0le, io_eq0, io_max2, Int.toNat_natCast, Nat.add_zero, Nat.zero_add]
    rw [if_pos (by omega), show cl_hi I i = pf_max q (cl_hv I i) by unfold cl_hi; rw [show q = sp_c I i by omega]]
  | m + 1, q, hm => by
    have hc := cl_cnt hS
    have hS' := hS
    unfold cl_S at hS'
    have h4 : q < 4 := by omega
    have hk : q < sp_c I i := by omega
    have hq := hQ q hk
    have hr := cl_hv_rng hR i q
    rw [st_18_4]
    simp (disch := (first | assumption | exact mm_c1_i _ | exact mm_c1_r _ | exact mm_c1_u _ | omega | exact hR _ _ | exact Nat.le_of_ble_eq_true rfl | decide | rfl | exact pb_dec _)) only [st_18_0, st_18_1, st_18_2, st_18_3, st_18_5, sm_18_6, st_18_9, st_18_12, st_18_13, sm_18_14, st_18_17, sm_18_18, st_18_22, st_18_25, st_18_26, st_18_27, sm_18_28, st_18_31, sm_18_32, sm_18_33, sm_18_36, st_18_37, st_18_40, st_18_41, st_18_44, st_18_47, st_18_48, reduceIte, Int.reduceEq, Int.reduceLE, Int.reduceLT, Int.reduceAdd, Int.reduceSub, Int.reduceMul, Int.reduceNeg, Int.reduceToNat, io_add, io_sub, io_mul, io_lt, io_le, io_eq, io_lt0, io_le0, io_0lt, io_0le, io_eq0, io_max2, Int.toNat_natCast, Nat.add_zero, Nat.zero_add]
    rw [if_neg (by omega), st_18_19 (Nat.le_of_ble_eq_true rfl) (sp_T_t hi) (sp_15 (d := d) hR hi h4 hk)]
    have ih := sp_18l hR hi hS hQ m (q + 1) (by omega)
    by_cases h1 : cl_held I i q
    · rw [pb_pos h1]
      rw [pf_max, cl_hv, pb_mul_pos h1] at ih
      simp (disch := (first | assumption | exact mm_c1_i _ | exact mm_c1_r _ | exact mm_c1_u _ | omega | exact hR _ _ | exact Nat.le_of_ble_eq_true rfl | decide | rfl | exact pb_dec _)) only [st_18_0, st_18_1, st_18_2, st_18_3, st_18_5, sm_18_6, st_18_9, st_18_12, st_18_13, sm_18_14, st_18_17, sm_18_18, st_18_22, st_18_25, st_18_26, st_18_27, sm_18_28, st_18_31, sm_18_32, sm_18_33, sm_18_36, st_18_37, st_18_40, st_18_41, st_18_44, st_18_47, st_18_48, reduceIte, Int.reduceEq, Int.reduceLE, Int.reduceLT, Int.reduceAdd, Int.reduceSub, Int.reduceMul, Int.reduceNeg, Int.reduceToNat, io_add, io_sub, io_mul, io_lt, io_le, io_eq, io_lt0, io_le0, io_0lt, io_0le, io_eq0, io_max2, Int.toNat_natCast, Nat.add_zero, Nat.zero_add]
      exact ih
    · rw [pb_neg h1]
      rw [pf_max, cl_hv, pb_mul_neg h1, Int.max_eq_left (pf_max_nonneg _ _)] at ih
      simp (disch := (first | assumption | exact mm_c1_i _ | exact mm_c1_r _ | exact mm_c1_u _ | omega | exact hR _ _ | exact Nat.le_of_ble_eq_true rfl | decide | rfl | exact pb_dec _)) only [st_18_0, st_18_1, st_18_2, st_18_3, st_18_5, sm_18_6, st_18_9, st_18_12, st_18_13, sm_18_14, st_18_17, sm_18_18, st_18_22, st_18_25, st_18_26, st_18_27, sm_18_28, st_18_31, sm_18_32, sm_18_33, sm_18_36, st_18_37, st_18_40, st_18_41, st_18_44, st_18_47, st_18_48, reduceIte, Int.reduceEq, Int.reduceLE, Int.reduceLT, Int.reduceAdd, Int.reduceSub, Int.reduceMul, Int.reduceNeg, Int.reduceToNat, io_add, io_sub, io_mul, io_lt, io_le, io_eq, io_lt0, io_le0, io_0lt, io_0le, io_eq0, io_max2, Int.toNat_natCast, Nat.add_zero, Nat.zero_add]
      exact ih
theorem sp_18 (hR : sp_R I) (hi : i < sp_n I) (hS : cl_S I i) (hQ : cl_Q I i) : mm_Rn pg_G (d + 2) 18 0 [.ref (ad_t i), .ref 2, .retAddr 0, .retAddr 0] [] (sp_me I 0 0) (some (io_v (cl_hi I i)), sp_me I 0 0) := by
  simp (disch := (first | assumption | exact mm_c1_i _ | exact mm_c1_r _ | exact mm_c1_u _ | omega | exact hR _ _ | exact Nat.le_of_ble_eq_true rfl | decide | rfl | exact pb_dec _)) only [st_18_0, st_18_1, st_18_2, st_18_3, st_18_5, sm_18_6, st_18_9, st_18_12, st_18_13, sm_18_14, st_18_17, sm_18_18, st_18_22, st_18_25, st_18_26, st_18_27, sm_18_28, st_18_31, sm_18_32, sm_18_33, sm_18_36, st_18_37, st_18_40, st_18_41, st_18_44, st_18_47, st_18_48, reduceIte, Int.reduceEq, Int.reduceLE, Int.reduceLT, Int.reduceAdd, Int.reduceSub, Int.reduceMul, Int.reduceNeg, Int.reduceToNat, io_add, io_sub, io_mul, io_lt, io_le, io_eq, io_lt0, io_le0, io_0lt, io_0le, io_eq0, io_max2, Int.toNat_natCast, Nat.add_zero, Nat.zero_add]
  exact sp_18l hR hi hS hQ (sp_c I i) 0 (by omega)
theorem sp_14l (hR : sp_R I) (hi : i < sp_n I) (hS : cl_S I i) (hQ : cl_Q I i) {lev : Int} (hl : io_R lev) : ∀ m q : Nat, q + m = sp_c I i → mm_Rn pg_G (d + 1) 14 5 [.ref (ad_t i), .ref 2, io_v lev, io_v (pf_max q (cl_lv I lev i)), io_v q] [] (sp_me I 0 0) (some (io_v (cl_lh I lev i)), sp_me I 0 0)
  | 0, q, hm => by
    have hc := cl_cnt hS
    rw [st_14_5]
    simp (disch := (first | assumption | exact mm_c1_i _ | exact mm_c1_r _ | exact mm_c1_u _ | omega | exact hR _ _ | exact Nat.le_of_ble_eq_true rfl | decide | rfl | exact pb_dec _)) only [st_14_0, st_14_1, st_14_2, st_14_3, st_14_7, sm_14_8, st_14_11, st_14_14, st_14_15, sm_14_16, st_14_19, sm_14_21, sm_14_22, sm_14_25, st_14_26, st_14_27, st_14_30, st_14_31, sm_14_32, st_14_35, sm_14_37, sm_14_38, st_14_41, sm_14_42, st_14_45, sm_14_47, sm_14_48, st_14_51, st_14_52, st_14_53, st_14_54, st_14_57, st_14_58, st_14_61, st_14_64, st_14_65, reduceIte, Int.reduceEq, Int.reduceLE, Int.reduceLT, Int.reduceAdd, Int.reduceSub, Int.reduceMul, Int.reduceNeg, Int.reduceToNat, io_add, io_sub, io_mul, io_lt, io_le, io_eq, io_lt0, io_le0, io_0lt, io_0le, io_eq0, io_max2, Int.toNat_natCast, Nat.add_zero, Nat.zero_add]
    rw [if_pos (by omega), show cl_lh I lev i = pf_max q (cl_lv I lev i) by unfold cl_lh; rw [show q = sp_c I i by omega]]
  | m + 1, q, hm => by
    have hc := cl_cnt hS
    have hS' := hS
    unfold cl_S at hS'
    have h4 : q < 4 := by omega
    have hk : q < sp_c I i := by omega
    have hq := hQ q hk
    have hr := cl_lv_rng hQ lev (show q ≤ sp_c I i by omega)
    have ih := sp_14l hR hi hS hQ hl m (q + 1) (by omega)
    by_cases h1 : lev ≤ I 2 (I (ad_s i q) 0).toNat
    · rw [pf_max, cl_lv, pb_mul_pos h1] at ih
      rw [st_14_5]
      simp (disch := (first | assumption | exact mm_c1_i _ | exact mm_c1_r _ | exact mm_c1_u _ | omega | exact hR _ _ | exact Nat.le_of_ble_eq_true rfl | decide | rfl | exact pb_dec _)) only [st_14_0, st_14_1, st_14_2, st_14_3, st_14_7, sm_14_8, st_14_11, st_14_14, st_14_15, sm_14_16, st_14_19, sm_14_21, sm_14_22, sm_14_25, st_14_26, st_14_27, st_14_30, st_14_31, sm_14_32, st_14_35, sm_14_37, sm_14_38, st_14_41, sm_14_42, st_14_45, sm_14_47, sm_14_48, st_14_51, st_14_52, st_14_53, st_14_54, st_14_57, st_14_58, st_14_61, st_14_64, st_14_65, reduceIte, Int.reduceEq, Int.reduceLE, Int.reduceLT, Int.reduceAdd, Int.reduceSub, Int.reduceMul, Int.reduceNeg, Int.reduceToNat, io_add, io_sub, io_mul, io_lt, io_le, io_eq, io_lt0, io_le0, io_0lt, io_0le, io_eq0, io_max2, Int.toNat_natCast, Nat.add_zero, Nat.zero_add]
      rw [if_neg (by omega), if_neg (by omega)]
      exact ih
    · rw [pf_max, cl_lv, pb_mul_neg h1, Int.max_eq_left (pf_max_nonneg _ _)] at ih
      rw [st_14_5]
      simp (disch := (first | assumption | exact mm_c1_i _ | exact mm_c1_r _ | exact mm_c1_u _ | omega | exact hR _ _ | exact Nat.le_of_ble_eq_true rfl | decide | rfl | exact pb_dec _)) only [st_14_0, st_14_1, st_14_2, st_14_3, st_14_7, sm_14_8, st_14_11, st_14_14, st_14_15, sm_14_16, st_14_19, sm_14_21, sm_14_22, sm_14_25, st_14_26, st_14_27, st_14_30, st_14_31, sm_14_32, st_14_35, sm_14_37, sm_14_38, st_14_41, sm_14_42, st_14_45, sm_14_47, sm_14_48, st_14_51, st_14_52, st_14_53, st_14_54, st_14_57, st_14_58, st_14_61, st_14_64, st_14_65, reduceIte, Int.reduceEq, Int.reduceLE, Int.reduceLT, Int.reduceAdd, Int.reduceSub, Int.reduceMul, Int.reduceNeg, Int.reduceToNat, io_add, io_sub, io_mul, io_lt, io_le, io_eq, io_lt0, io_le0, io_0lt, io_0le, io_eq0, io_max2, Int.toNat_natCast, Nat.add_zero, Nat.zero_add]
      rw [if_neg (by omega), if_pos (by omega)]
      exact ih
theorem sp_14 (hR : sp_R I) (hi : i < sp_n I) (hS : cl_S I i) (hQ : cl_Q I i) {lev : Int} (hl : io_R lev) : mm_Rn pg_G (d + 1) 14 0 [.ref (ad_t i), .ref 2, io_v lev, .retAddr 0, .retAddr 0] [] (sp_me I 0 0) (some (io_v (cl_lh I lev i)), sp_me I 0 0) := by
  simp (disch := (first | assumption | exact mm_c1_i _ | exact mm_c1_r _ | exact mm_c1_u _ | omega | exact hR _ _ | exact Nat.le_of_ble_eq_true rfl | decide | rfl | exact pb_dec _)) only [st_14_0, st_14_1, st_14_2, st_14_3, st_14_7, sm_14_8, st_14_11, st_14_14, st_14_15, sm_14_16, st_14_19, sm_14_21, sm_14_22, sm_14_25, st_14_26, st_14_27, st_14_30, st_14_31, sm_14_32, st_14_35, sm_14_37, sm_14_38, st_14_41, sm_14_42, st_14_45, sm_14_47, sm_14_48, st_14_51, st_14_52, st_14_53, st_14_54, st_14_57, st_14_58, st_14_61, st_14_64, st_14_65, reduceIte, Int.reduceEq, Int.reduceLE, Int.reduceLT, Int.reduceAdd, Int.reduceSub, Int.reduceMul, Int.reduceNeg, Int.reduceToNat, io_add, io_sub, io_mul, io_lt, io_le, io_eq, io_lt0, io_le0, io_0lt, io_0le, io_eq0, io_max2, Int.toNat_natCast, Nat.add_zero, Nat.zero_add]
  exact sp_14l hR hi hS hQ hl (sp_c I i) 0 (by omega)
theorem sp_12l (hR : sp_R I) (hi : i < sp_n I) (hS : cl_S I i) {r f t : Int} (hr : io_R r) (hf : io_R f) (ht : io_R t) : ∀ m q : Nat, q + m = sp_c I i → mm_Rn pg_G (d + 1) 12 13 [.ref (ad_t i), io_v r, io_v f, io_v t, io_v q] [] (sp_me I 0 0) (some (io_v (pb_z (∀ k, q ≤ k → k < sp_c I i → cl_agree I i r f t k))), sp_me I 0 0)
  | 0, q, hm => by
    have hc := cl_cnt hS
    rw [pb_pos (fun k h1 h2 => by omega)]
    rw [st_12_13]
    simp (disch := (first | assumption | exact mm_c1_i _ | exact mm_c1_r _ | exact mm_c1_u _ | omega | exact hR _ _ | exact Nat.le_of_ble_eq_true rfl | decide | rfl | exact pb_dec _)) only [st_12_0, sm_12_1, st_12_4, st_12_5, st_12_8, st_12_9, st_12_10, st_12_11, st_12_15, sm_12_16, st_12_19, st_12_22, sm_12_23, st_12_26, sm_12_28, st_12_29, st_12_30, st_12_31, st_12_35, st_12_38, st_12_39, st_12_40, st_12_43, st_12_46, st_12_47, reduceIte, Int.reduceEq, Int.reduceLE, Int.reduceLT, Int.reduceAdd, Int.reduceSub, Int.reduceMul, Int.reduceNeg, Int.reduceToNat, io_add, io_sub, io_mul, io_lt, io_le, io_eq, io_lt0, io_le0, io_0lt, io_0le, io_eq0, io_max2, Int.toNat_natCast, Nat.add_zero, Nat.zero_add]
    rw [if_pos (by omega)]; trivial
  | m + 1, q, hm => by
    have hc := cl_cnt hS
    have hS' := hS
    unfold cl_S at hS'
    have h4 : q < 4 := by omega
    have hk : q < sp_c I i := by omega
    rw [st_12_13]
    simp (disch := (first | assumption | exact mm_c1_i _ | exact mm_c1_r _ | exact mm_c1_u _ | omega | exact hR _ _ | exact Nat.le_of_ble_eq_true rfl | decide | rfl | exact pb_dec _)) only [st_12_0, sm_12_1, st_12_4, st_12_5, st_12_8, st_12_9, st_12_10, st_12_11, st_12_15, sm_12_16, st_12_19, st_12_22, sm_12_23, st_12_26, sm_12_28, st_12_29, st_12_30, st_12_31, st_12_35, st_12_38, st_12_39, st_12_40, st_12_43, st_12_46, st_12_47, reduceIte, Int.reduceEq, Int.reduceLE, Int.reduceLT, Int.reduceAdd, Int.reduceSub, Int.reduceMul, Int.reduceNeg, Int.reduceToNat, io_add, io_sub, io_mul, io_lt, io_le, io_eq, io_lt0, io_le0, io_0lt, io_0le, io_eq0, io_max2, Int.toNat_natCast, Nat.add_zero, Nat.zero_add]
    rw [if_neg (by omega), st_12_32 (Nat.le_of_ble_eq_true rfl) (sp_T_s hi h4 hk) (sp_1 (d := d) hR hi h4 hk hr hf ht)]
    by_cases h1 : cl_agree I i r f t q
    · rw [pb_pos h1, pb_iff (show (∀ k, q ≤ k → k < sp_c I i → cl_agree I i r f t k) ↔ (∀ k, q + 1 ≤ k → k < sp_c I i → cl_agree I i r f t k) from ⟨fun h k a b => h k (by omega) b, fun h k a b => by
        rcases Nat.lt_or_ge q k with z | z
        · exact h k z b
        · rwa [show k = q by omega]⟩)]
      simp (disch := (first | assumption | exact mm_c1_i _ | exact mm_c1_r _ | exact mm_c1_u _ | omega | exact hR _ _ | exact Nat.le_of_ble_eq_true rfl | decide | rfl | exact pb_dec _)) only [st_12_0, sm_12_1, st_12_4, st_12_5, st_12_8, st_12_9, st_12_10, st_12_11, st_12_15, sm_12_16, st_12_19, st_12_22, sm_12_23, st_12_26, sm_12_28, st_12_29, st_12_30, st_12_31, st_12_35, st_12_38, st_12_39, st_12_40, st_12_43, st_12_46, st_12_47, reduceIte, Int.reduceEq, Int.reduceLE, Int.reduceLT, Int.reduceAdd, Int.reduceSub, Int.reduceMul, Int.reduceNeg, Int.reduceToNat, io_add, io_sub, io_mul, io_lt, io_le, io_eq, io_lt0, io_le0, io_0lt, io_0le, io_eq0, io_max2, Int.toNat_natCast, Nat.add_zero, Nat.zero_add]
      exact sp_12l hR hi hS hr hf ht m (q + 1) (by omega)
    · rw [pb_neg h1, pb_neg (fun h => h1 (h q (by omega) hk))]
      simp (disch := (first | assumption | exact mm_c1_i _ | exact mm_c1_r _ | exact mm_c1_u _ | omega | exact hR _ _ | exact Nat.le_of_ble_eq_true rfl | decide | rfl | exact pb_dec _)) only [st_12_0, sm_12_1, st_12_4, st_12_5, st_12_8, st_12_9, st_12_10, st_12_11, st_12_15, sm_12_16, st_12_19, st_12_22, sm_12_23, st_12_26, sm_12_28, st_12_29, st_12_30, st_12_31, st_12_35, st_12_38, st_12_39, st_12_40, st_12_43, st_12_46, st_12_47, reduceIte, Int.reduceEq, Int.reduceLE, Int.reduceLT, Int.reduceAdd, Int.reduceSub, Int.reduceMul, Int.reduceNeg, Int.reduceToNat, io_add, io_sub, io_mul, io_lt, io_le, io_eq, io_lt0, io_le0, io_0lt, io_0le, io_eq0, io_max2, Int.toNat_natCast, Nat.add_zero, Nat.zero_add]
theorem sp_12 (hR : sp_R I) (hi : i < sp_n I) (hS : cl_S I i) {r f t : Int} (hr : io_R r) (hf : io_R f) (ht : io_R t) : mm_Rn pg_G (d + 1) 12 0 [.ref (ad_t i), io_v r, io_v f, io_v t, .retAddr 0] [] (sp_me I 0 0) (some (io_v (pb_z (I (ad_t i) 5 ≠ 4 ∧ ∀ k, k < sp_c I i → cl_agree I i r f t k))), sp_me I 0 0) := by
  simp (disch := (first | assumption | exact mm_c1_i _ | exact mm_c1_r _ | exact mm_c1_u _ | omega | exact hR _ _ | exact Nat.le_of_ble_eq_true rfl | decide | rfl | exact pb_dec _)) only [st_12_0, sm_12_1, st_12_4, st_12_5, st_12_8, st_12_9, st_12_10, st_12_11, st_12_15, sm_12_16, st_12_19, st_12_22, sm_12_23, st_12_26, sm_12_28, st_12_29, st_12_30, st_12_31, st_12_35, st_12_38, st_12_39, st_12_40, st_12_43, st_12_46, st_12_47, reduceIte, Int.reduceEq, Int.reduceLE, Int.reduceLT, Int.reduceAdd, Int.reduceSub, Int.reduceMul, Int.reduceNeg, Int.reduceToNat, io_add, io_sub, io_mul, io_lt, io_le, io_eq, io_lt0, io_le0, io_0lt, io_0le, io_eq0, io_max2, Int.toNat_natCast, Nat.add_zero, Nat.zero_add]
  by_cases h1 : I (ad_t i) 5 = 4
  · rw [if_pos h1, pb_neg (fun z => z.1 h1)]
  · rw [if_neg h1, pb_iff (show (I (ad_t i) 5 ≠ 4 ∧ ∀ k, k < sp_c I i → cl_agree I i r f t k) ↔ (∀ k, 0 ≤ k → k < sp_c I i → cl_agree I i r f t k) from ⟨fun h k _ b => h.2 k b, fun h => ⟨h1, fun k b => h k (by omega) b⟩⟩)]
    exact sp_12l hR hi hS hr hf ht (sp_c I i) 0 (by omega)
theorem sp_20 (hR : sp_R I) (hi : i < sp_n I) {r : Int} (hr : io_R r) : mm_Rn pg_G (d + 1) 20 0 [.ref (ad_t i), io_v r] [] (sp_me I 0 0) (none, sp_me (up_I I (ad_t i) 7 (max (I (ad_t i) 7) r)) 0 0) := by
  simp (disch := (first | assumption | exact mm_c1_i _ | exact mm_c1_r _ | exact mm_c1_u _ | omega | exact hR _ _ | exact Nat.le_of_ble_eq_true rfl | decide | rfl | exact pb_dec _ | (simp only [sp_n_t, sp_n_j, sp_n_c, sp_n_s, sp_n_k]; assumption) | (simp only [ad_t, ad_a, ad_j, ad_c, ad_s]; omega))) only [st_20_0, st_20_1, sm_20_2, st_20_5, st_20_6, sm_20_9, st_20_12, reduceIte, Int.reduceEq, Int.reduceLE, Int.reduceLT, Int.reduceAdd, Int.reduceSub, Int.reduceMul, Int.reduceNeg, Int.reduceToNat, io_add, io_sub, io_mul, io_lt, io_le, io_eq, io_lt0, io_le0, io_0lt, io_0le, io_eq0, io_max2, Int.toNat_natCast, Nat.add_zero, Nat.zero_add, up_same, up_slot, up_cell]
end TA
