/-! the reference: order, holders, ceilings -/
def rf_W (I : sp_I) : Prop := (0 ≤ I 8 0 ∧ I 8 0 ≤ 6) ∧ (∀ i, i < 6 → (0 ≤ I 12 i ∧ I 12 i ≤ 4) ∧ (0 ≤ I 10 i ∧ I 10 i ≤ 100) ∧ 0 ≤ I 18 i ∧ I 18 i ≤ 1000000) ∧ ∀ k, k < 24 → (0 ≤ I 13 k ∧ I 13 k ≤ 3) ∧ (0 ≤ I 14 k ∧ I 14 k ≤ 100) ∧ 0 ≤ I 15 k ∧ I 15 k ≤ 100
def rf_n (I : sp_I) : Nat := (I 8 0).toNat
def rf_p (I : sp_I) (i : Nat) : Nat := (I 12 i).toNat
theorem rf_N {I : sp_I} (h : rf_W I) : ((rf_n I : Nat) : Int) = I 8 0 ∧ rf_n I ≤ 6 := by have := h.1; unfold rf_n; omega
theorem rf_P {I : sp_I} (h : rf_W I) {i : Nat} (hi : i < 6) : ((rf_p I i : Nat) : Int) = I 12 i ∧ rf_p I i ≤ 4 := by have := h.2.1 i hi; unfold rf_p; omega
def rf_th (I : sp_I) (x : Nat) : Prop := (x = 6 ∧ 0 < I 8 14) ∨ (x ≠ 6 ∧ I 17 x = 1)
def rf_dl (I : sp_I) (x : Nat) : Int := if x = 6 then I 8 13 else I 18 x + I 10 x
def rf_er (I : sp_I) (x y : Nat) : Prop := rf_dl I x < rf_dl I y ∨ (rf_dl I x = rf_dl I y ∧ x < y)
def rf_at (I : sp_I) (i k : Nat) : Prop := I 14 (4 * i + k) < I 20 i ∧ I 20 i < I 15 (4 * i + k)
def rf_h (I : sp_I) (i : Nat) (r : Int) : Prop := I 17 i = 1 ∧ ∃ k, k < rf_p I i ∧ I 13 (4 * i + k) = r ∧ rf_at I i k
noncomputable def rf_in (I : sp_I) (k : Int) (x : Nat) : Prop := rf_th I x ∧ pf_cnt 7 (fun y => rf_th I y ∧ rf_er I y x) = k
noncomputable def rf_io (I : sp_I) (k : Int) : Int := if pf_fst 7 (rf_in I k) < 7 then (pf_fst 7 (rf_in I k) : Int) else -1
noncomputable def rf_hd (I : sp_I) (r : Int) : Int := if pf_fst (rf_n I) (fun i => rf_h I i r) < rf_n I then (pf_fst (rf_n I) (fun i => rf_h I i r) : Int) else -1
noncomputable def rf_cv (I : sp_I) (r : Int) (i : Nat) : Int := pb_z (∃ k, k < rf_p I i ∧ I 13 (4 * i + k) = r) * (101 - I 10 i)
noncomputable def rf_ce (I : sp_I) (r : Int) : Int := pf_max (rf_n I) (rf_cv I r)
noncomputable def rf_top (I : sp_I) : Int := pf_max 4 (fun r => pb_z (rf_hd I r ≠ -1) * rf_ce I r)
theorem rf_ce_rng {I : sp_I} (hW : rf_W I) (r : Int) {q : Nat} (hq : q ≤ 6) : 0 ≤ pf_max q (rf_cv I r) ∧ pf_max q (rf_cv I r) ≤ 101 :=
  ⟨pf_max_nonneg _ _, pf_max_le q (by decide) (fun i hi => pb_mul_le (by decide) (by have := hW.2.1 i (by omega); omega))⟩
theorem pf_ex_succ {q n : Nat} {p : Nat → Prop} (hq : q < n) : (∃ k, q ≤ k ∧ k < n ∧ p k) ↔ (p q ∨ ∃ k, q + 1 ≤ k ∧ k < n ∧ p k) :=
  ⟨fun ⟨k, a, b, c⟩ => by
    rcases Nat.lt_or_ge q k with z | z
    · exact Or.inr ⟨k, z, b, c⟩
    · exact Or.inl (by rw [show q = k by omega]; exact c), fun h => by
    rcases h with h | ⟨k, a, b, c⟩
    · exact ⟨q, by omega, hq, h⟩
    · exact ⟨k, by omega, b, c⟩⟩
theorem pf_ex_zero {n : Nat} {p : Nat → Prop} : (∃ k, 0 ≤ k ∧ k < n ∧ p k) ↔ ∃ k, k < n ∧ p k := ⟨fun ⟨k, _, b, c⟩ => ⟨k, b, c⟩, fun ⟨k, b, c⟩ => ⟨k, by omega, b, c⟩⟩
section RF
variable {I : sp_I} {d : Nat}
theorem sp_69 {a b c e : Int} (ha : io_R a) (hb : io_R b) (hc : io_R c) (he : io_R e) : mm_Rn pg_G d 69 0 [io_v a, io_v b, io_v c, io_v e] [] (sp_me I 0 0) (some (io_v (pb_z (a ≤ b ∧ b ≤ c ∧ c ≤ e))), sp_me I 0 0) := by
  simp (disch := (first | assumption | exact mm_c1_i _ | exact mm_c1_r _ | exact mm_c1_u _ | omega | exact hR _ _ | exact Nat.le_of_ble_eq_true rfl | decide | rfl | exact pb_dec _)) only [st_69_0, st_69_1, st_69_2, st_69_5, st_69_6, st_69_7, st_69_10, st_69_11, st_69_12, st_69_15, st_69_16, st_69_19, st_69_20, reduceIte, Int.reduceEq, Int.reduceLE, Int.reduceLT, Int.reduceAdd, Int.reduceSub, Int.reduceMul, Int.reduceNeg, Int.reduceToNat, io_add, io_sub, io_mul, io_lt, io_le, io_eq, io_lt0, io_le0, io_0lt, io_0le, io_eq0, io_max2, Int.toNat_natCast, Nat.add_zero, Nat.zero_add]
  repeat' split
  all_goals first | (rw [pb_neg (by omega)]; done) | (rw [pb_pos (by omega)]; done)
theorem sp_71 (hR : sp_R I) {t : Int} (ht : io_R t) : mm_Rn pg_G d 71 0 [.ref 8, io_v t] [] (sp_me I 0 0) (some (io_v (pb_z (0 ≤ t ∧ t < I 8 0))), sp_me I 0 0) := by
  simp (disch := (first | assumption | exact mm_c1_i _ | exact mm_c1_r _ | exact mm_c1_u _ | omega | exact hR _ _ | exact Nat.le_of_ble_eq_true rfl | decide | rfl | exact pb_dec _)) only [st_71_0, st_71_1, st_71_4, st_71_5, sm_71_6, st_71_9, st_71_12, st_71_13, st_71_16, st_71_17, reduceIte, Int.reduceEq, Int.reduceLE, Int.reduceLT, Int.reduceAdd, Int.reduceSub, Int.reduceMul, Int.reduceNeg, Int.reduceToNat, io_add, io_sub, io_mul, io_lt, io_le, io_eq, io_lt0, io_le0, io_0lt, io_0le, io_eq0, io_max2, Int.toNat_natCast, Nat.add_zero, Nat.zero_add]
  repeat' split
  all_goals first | (rw [pb_neg (by omega)]; done) | (rw [pb_pos (by omega)]; done)
theorem sp_75 {i : Nat} (hi : i < 6) : mm_Rn pg_G d 75 0 [.ref 8, io_v i] [] (sp_me I 0 0) (some (io_v (101 - I 10 i)), sp_me I 0 0) := by
  simp (disch := (first | assumption | exact mm_c1_i _ | exact mm_c1_r _ | exact mm_c1_u _ | omega | exact hR _ _ | exact Nat.le_of_ble_eq_true rfl | decide | rfl | exact pb_dec _)) only [st_75_0, st_75_2, sm_75_3, st_75_6, sm_75_7, st_75_8, st_75_9, reduceIte, Int.reduceEq, Int.reduceLE, Int.reduceLT, Int.reduceAdd, Int.reduceSub, Int.reduceMul, Int.reduceNeg, Int.reduceToNat, io_add, io_sub, io_mul, io_lt, io_le, io_eq, io_lt0, io_le0, io_0lt, io_0le, io_eq0, io_max2, Int.toNat_natCast, Nat.add_zero, Nat.zero_add]
theorem sp_82 (hR : sp_R I) {x : Nat} (hx : x ≤ 6) : mm_Rn pg_G d 82 0 [.ref 8, io_v x] [] (sp_me I 0 0) (some (io_v (pb_z (rf_th I x))), sp_me I 0 0) := by
  by_cases h : x = 6
  · subst h
    rw [pb_iff (show rf_th I 6 ↔ 0 < I 8 14 from ⟨fun z => z.elim (fun z => z.2) (fun z => absurd rfl z.1), fun z => Or.inl ⟨rfl, z⟩⟩)]
    simp (disch := (first | assumption | exact mm_c1_i _ | exact mm_c1_r _ | exact mm_c1_u _ | omega | exact hR _ _ | exact Nat.le_of_ble_eq_true rfl | decide | rfl | exact pb_dec _)) only [st_82_0, st_82_1, st_82_3, st_82_6, sm_82_7, st_82_10, st_82_13, st_82_14, st_82_17, st_82_18, st_82_21, sm_82_22, st_82_25, sm_82_26, st_82_27, st_82_28, st_82_31, st_82_32, st_82_35, st_82_36, reduceIte, Int.reduceEq, Int.reduceLE, Int.reduceLT, Int.reduceAdd, Int.reduceSub, Int.reduceMul, Int.reduceNeg, Int.reduceToNat, io_add, io_sub, io_mul, io_lt, io_le, io_eq, io_lt0, io_le0, io_0lt, io_0le, io_eq0, io_max2, Int.toNat_natCast, Nat.add_zero, Nat.zero_add]
    repeat' split
    all_goals first | (rw [pb_neg (by omega)]; done) | (rw [pb_pos (by omega)]; done) | omega
  · rw [pb_iff (show rf_th I x ↔ I 17 x = 1 from ⟨fun z => z.elim (fun z => absurd z.1 h) (fun z => z.2), fun z => Or.inr ⟨h, z⟩⟩)]
    simp (disch := (first | assumption | exact mm_c1_i _ | exact mm_c1_r _ | exact mm_c1_u _ | omega | exact hR _ _ | exact Nat.le_of_ble_eq_true rfl | decide | rfl | exact pb_dec _)) only [st_82_0, st_82_1, st_82_3, st_82_6, sm_82_7, st_82_10, st_82_13, st_82_14, st_82_17, st_82_18, st_82_21, sm_82_22, st_82_25, sm_82_26, st_82_27, st_82_28, st_82_31, st_82_32, st_82_35, st_82_36, reduceIte, Int.reduceEq, Int.reduceLE, Int.reduceLT, Int.reduceAdd, Int.reduceSub, Int.reduceMul, Int.reduceNeg, Int.reduceToNat, io_add, io_sub, io_mul, io_lt, io_le, io_eq, io_lt0, io_le0, io_0lt, io_0le, io_eq0, io_max2, Int.toNat_natCast, Nat.add_zero, Nat.zero_add]
    rw [if_neg (by omega)]
    split
    · rw [pb_pos (by assumption)]
    · rw [pb_neg (by assumption)]
theorem sp_83 {x : Nat} (hx : x ≤ 6) : mm_Rn pg_G d 83 0 [.ref 8, io_v x] [] (sp_me I 0 0) (some (io_v (rf_dl I x)), sp_me I 0 0) := by
  unfold rf_dl
  by_cases h : x = 6
  · subst h
    simp (disch := (first | assumption | exact mm_c1_i _ | exact mm_c1_r _ | exact mm_c1_u _ | omega | exact hR _ _ | exact Nat.le_of_ble_eq_true rfl | decide | rfl | exact pb_dec _)) only [st_83_0, st_83_1, st_83_3, st_83_6, sm_83_7, st_83_10, st_83_13, sm_83_14, st_83_17, sm_83_18, st_83_19, sm_83_20, st_83_23, sm_83_24, st_83_25, st_83_26, reduceIte, Int.reduceEq, Int.reduceLE, Int.reduceLT, Int.reduceAdd, Int.reduceSub, Int.reduceMul, Int.reduceNeg, Int.reduceToNat, io_add, io_sub, io_mul, io_lt, io_le, io_eq, io_lt0, io_le0, io_0lt, io_0le, io_eq0, io_max2, Int.toNat_natCast, Nat.add_zero, Nat.zero_add]
    rw [if_pos (by decide)]; trivial
  · rw [if_neg h]
    simp (disch := (first | assumption | exact mm_c1_i _ | exact mm_c1_r _ | exact mm_c1_u _ | omega | exact hR _ _ | exact Nat.le_of_ble_eq_true rfl | decide | rfl | exact pb_dec _)) only [st_83_0, st_83_1, st_83_3, st_83_6, sm_83_7, st_83_10, st_83_13, sm_83_14, st_83_17, sm_83_18, st_83_19, sm_83_20, st_83_23, sm_83_24, st_83_25, st_83_26, reduceIte, Int.reduceEq, Int.reduceLE, Int.reduceLT, Int.reduceAdd, Int.reduceSub, Int.reduceMul, Int.reduceNeg, Int.reduceToNat, io_add, io_sub, io_mul, io_lt, io_le, io_eq, io_lt0, io_le0, io_0lt, io_0le, io_eq0, io_max2, Int.toNat_natCast, Nat.add_zero, Nat.zero_add]
    rw [if_neg (by omega)]; trivial
theorem rf_dl_rng (hR : sp_R I) (hW : rf_W I) {x : Nat} (hx : x ≤ 6) : io_R (rf_dl I x) := by
  unfold rf_dl
  split
  · exact hR _ _
  · have := hW.2.1 x (by omega); omega
theorem sp_84 (hR : sp_R I) (hW : rf_W I) {x y : Nat} (hx : x ≤ 6) (hy : y ≤ 6) : mm_Rn pg_G (d + 1) 84 0 [.ref 8, io_v x, io_v y, .retAddr 0, .retAddr 0] [] (sp_me I 0 0) (some (io_v (pb_z (rf_er I x y))), sp_me I 0 0) := by
  have r1 := rf_dl_rng hR hW hx
  have r2 := rf_dl_rng hR hW hy
  simp (disch := (first | assumption | exact mm_c1_i _ | exact mm_c1_r _ | exact mm_c1_u _ | omega | exact hR _ _ | exact Nat.le_of_ble_eq_true rfl | decide | rfl | exact pb_dec _)) only [st_84_0, st_84_1, st_84_5, st_84_6, st_84_7, st_84_11, st_84_13, st_84_14, st_84_16, st_84_19, st_84_20, st_84_22, st_84_25, st_84_26, st_84_27, st_84_30, st_84_31, st_84_34, st_84_35, reduceIte, Int.reduceEq, Int.reduceLE, Int.reduceLT, Int.reduceAdd, Int.reduceSub, Int.reduceMul, Int.reduceNeg, Int.reduceToNat, io_add, io_sub, io_mul, io_lt, io_le, io_eq, io_lt0, io_le0, io_0lt, io_0le, io_eq0, io_max2, Int.toNat_natCast, Nat.add_zero, Nat.zero_add]
  rw [st_84_2 (Nat.le_of_ble_eq_true rfl) rfl (sp_83 (d := d) hx)]
  simp (disch := (first | assumption | exact mm_c1_i _ | exact mm_c1_r _ | exact mm_c1_u _ | omega | exact hR _ _ | exact Nat.le_of_ble_eq_true rfl | decide | rfl | exact pb_dec _)) only [st_84_0, st_84_1, st_84_5, st_84_6, st_84_7, st_84_11, st_84_13, st_84_14, st_84_16, st_84_19, st_84_20, st_84_22, st_84_25, st_84_26, st_84_27, st_84_30, st_84_31, st_84_34, st_84_35, reduceIte, Int.reduceEq, Int.reduceLE, Int.reduceLT, Int.reduceAdd, Int.reduceSub, Int.reduceMul, Int.reduceNeg, Int.reduceToNat, io_add, io_sub, io_mul, io_lt, io_le, io_eq, io_lt0, io_le0, io_0lt, io_0le, io_eq0, io_max2, Int.toNat_natCast, Nat.add_zero, Nat.zero_add]
  rw [st_84_8 (Nat.le_of_ble_eq_true rfl) rfl (sp_83 (d := d) hy)]
  unfold rf_er
  generalize rf_dl I x = a at r1 ⊢
  generalize rf_dl I y = b at r2 ⊢
  simp (disch := (first | assumption | exact mm_c1_i _ | exact mm_c1_r _ | exact mm_c1_u _ | omega | exact hR _ _ | exact Nat.le_of_ble_eq_true rfl | decide | rfl | exact pb_dec _)) only [st_84_0, st_84_1, st_84_5, st_84_6, st_84_7, st_84_11, st_84_13, st_84_14, st_84_16, st_84_19, st_84_20, st_84_22, st_84_25, st_84_26, st_84_27, st_84_30, st_84_31, st_84_34, st_84_35, reduceIte, Int.reduceEq, Int.reduceLE, Int.reduceLT, Int.reduceAdd, Int.reduceSub, Int.reduceMul, Int.reduceNeg, Int.reduceToNat, io_add, io_sub, io_mul, io_lt, io_le, io_eq, io_lt0, io_le0, io_0lt, io_0le, io_eq0, io_max2, Int.toNat_natCast, Nat.add_zero, Nat.zero_add]
  repeat' split
  all_goals first | (rw [pb_neg (by omega)]; done) | (rw [pb_pos (by omega)]; done)
theorem sp_85i (hR : sp_R I) (hW : rf_W I) {k : Int} {x : Nat} (hx : x ≤ 6) {r : mm_R} (hend : mm_Rn pg_G (d + 2) 85 48 [.ref 8, io_v k, io_v x, io_v (pf_cnt 7 (fun y => rf_th I y ∧ rf_er I y x)), io_v ((7 : Nat) : Int)] [] (sp_me I 0 0) r) : ∀ m q : Nat, q + m = 7 → mm_Rn pg_G (d + 2) 85 13 [.ref 8, io_v k, io_v x, io_v (pf_cnt q (fun y => rf_th I y ∧ rf_er I y x)), io_v q] [] (sp_me I 0 0) r
  | 0, q, hm => by
    rw [st_85_13, show q = 7 by omega]
    simp (disch := (first | assumption | exact mm_c1_i _ | exact mm_c1_r _ | exact mm_c1_u _ | omega | exact hR _ _ | exact Nat.le_of_ble_eq_true rfl | decide | rfl | exact pb_dec _)) only [st_85_0, st_85_1, st_85_2, st_85_3, st_85_5, st_85_8, st_85_9, st_85_10, st_85_11, st_85_15, st_85_17, st_85_20, st_85_21, st_85_26, st_85_29, st_85_30, st_85_32, st_85_36, st_85_39, st_85_42, st_85_45, st_85_49, st_85_53, st_85_56, st_85_57, st_85_58, st_85_61, st_85_62, st_85_63, st_85_66, st_85_69, st_85_70, reduceIte, Int.reduceEq, Int.reduceLE, Int.reduceLT, Int.reduceAdd, Int.reduceSub, Int.reduceMul, Int.reduceNeg, Int.reduceToNat, io_add, io_sub, io_mul, io_lt, io_le, io_eq, io_lt0, io_le0, io_0lt, io_0le, io_eq0, io_max2, Int.toNat_natCast, Nat.add_zero, Nat.zero_add]
    exact hend
  | m + 1, q, hm => by
    have ih := sp_85i hR hW hx hend m (q + 1) (by omega)
    rw [pf_cnt] at ih
    rw [st_85_13]
    simp (disch := (first | assumption | exact mm_c1_i _ | exact mm_c1_r _ | exact mm_c1_u _ | omega | exact hR _ _ | exact Nat.le_of_ble_eq_true rfl | decide | rfl | exact pb_dec _)) only [st_85_0, st_85_1, st_85_2, st_85_3, st_85_5, st_85_8, st_85_9, st_85_10, st_85_11, st_85_15, st_85_17, st_85_20, st_85_21, st_85_26, st_85_29, st_85_30, st_85_32, st_85_36, st_85_39, st_85_42, st_85_45, st_85_49, st_85_53, st_85_56, st_85_57, st_85_58, st_85_61, st_85_62, st_85_63, st_85_66, st_85_69, st_85_70, reduceIte, Int.reduceEq, Int.reduceLE, Int.reduceLT, Int.reduceAdd, Int.reduceSub, Int.reduceMul, Int.reduceNeg, Int.reduceToNat, io_add, io_sub, io_mul, io_lt, io_le, io_eq, io_lt0, io_le0, io_0lt, io_0le, io_eq0, io_max2, Int.toNat_natCast, Nat.add_zero, Nat.zero_add]
    rw [if_neg (by omega), st_85_23 (Nat.le_of_ble_eq_true rfl) rfl (sp_82 (d := d + 1) hR (x := q) (by omega))]
    by_cases h1 : rf_th I q
    · rw [pb_pos h1]
      simp (disch := (first | assumption | exact mm_c1_i _ | exact mm_c1_r _ | exact mm_c1_u _ | omega | exact hR _ _ | exact Nat.le_of_ble_eq_true rfl | decide | rfl | exact pb_dec _)) only [st_85_0, st_85_1, st_85_2, st_85_3, st_85_5, st_85_8, st_85_9, st_85_10, st_85_11, st_85_15, st_85_17, st_85_20, st_85_21, st_85_26, st_85_29, st_85_30, st_85_32, st_85_36, st_85_39, st_85_42, st_85_45, st_85_49, st_85_53, st_85_56, st_85_57, st_85_58, st_85_61, st_85_62, st_85_63, st_85_66, st_85_69, st_85_70, reduceIte, Int.reduceEq, Int.reduceLE, Int.reduceLT, Int.reduceAdd, Int.reduceSub, Int.reduceMul, Int.reduceNeg, Int.reduceToNat, io_add, io_sub, io_mul, io_lt, io_le, io_eq, io_lt0, io_le0, io_0lt, io_0le, io_eq0, io_max2, Int.toNat_natCast, Nat.add_zero, Nat.zero_add]
      rw [st_85_33 (Nat.le_of_ble_eq_true rfl) rfl (sp_84 (d := d) hR hW (x := q) (y := x) (by omega) hx)]
      by_cases h2 : rf_er I q x
      · rw [pb_pos h2]
        rw [pb_pos ⟨h1, h2⟩] at ih
        simp (disch := (first | assumption | exact mm_c1_i _ | exact mm_c1_r _ | exact mm_c1_u _ | omega | exact hR _ _ | exact Nat.le_of_ble_eq_true rfl | decide | rfl | exact pb_dec _)) only [st_85_0, st_85_1, st_85_2, st_85_3, st_85_5, st_85_8, st_85_9, st_85_10, st_85_11, st_85_15, st_85_17, st_85_20, st_85_21, st_85_26, st_85_29, st_85_30, st_85_32, st_85_36, st_85_39, st_85_42, st_85_45, st_85_49, st_85_53, st_85_56, st_85_57, st_85_58, st_85_61, st_85_62, st_85_63, st_85_66, st_85_69, st_85_70, reduceIte, Int.reduceEq, Int.reduceLE, Int.reduceLT, Int.reduceAdd, Int.reduceSub, Int.reduceMul, Int.reduceNeg, Int.reduceToNat, io_add, io_sub, io_mul, io_lt, io_le, io_eq, io_lt0, io_le0, io_0lt, io_0le, io_eq0, io_max2, Int.toNat_natCast, Nat.add_zero, Nat.zero_add]
        exact ih
      · rw [pb_neg h2]
        rw [pb_neg (fun z => h2 z.2), Int.add_zero] at ih
        simp (disch := (first | assumption | exact mm_c1_i _ | exact mm_c1_r _ | exact mm_c1_u _ | omega | exact hR _ _ | exact Nat.le_of_ble_eq_true rfl | decide | rfl | exact pb_dec _)) only [st_85_0, st_85_1, st_85_2, st_85_3, st_85_5, st_85_8, st_85_9, st_85_10, st_85_11, st_85_15, st_85_17, st_85_20, st_85_21, st_85_26, st_85_29, st_85_30, st_85_32, st_85_36, st_85_39, st_85_42, st_85_45, st_85_49, st_85_53, st_85_56, st_85_57, st_85_58, st_85_61, st_85_62, st_85_63, st_85_66, st_85_69, st_85_70, reduceIte, Int.reduceEq, Int.reduceLE, Int.reduceLT, Int.reduceAdd, Int.reduceSub, Int.reduceMul, Int.reduceNeg, Int.reduceToNat, io_add, io_sub, io_mul, io_lt, io_le, io_eq, io_lt0, io_le0, io_0lt, io_0le, io_eq0, io_max2, Int.toNat_natCast, Nat.add_zero, Nat.zero_add]
        exact ih
    · rw [pb_neg h1]
      rw [pb_neg (fun z => h1 z.1), Int.add_zero] at ih
      simp (disch := (first | assumption | exact mm_c1_i _ | exact mm_c1_r _ | exact mm_c1_u _ | omega | exact hR _ _ | exact Nat.le_of_ble_eq_true rfl | decide | rfl | exact pb_dec _)) only [st_85_0, st_85_1, st_85_2, st_85_3, st_85_5, st_85_8, st_85_9, st_85_10, st_85_11, st_85_15, st_85_17, st_85_20, st_85_21, st_85_26, st_85_29, st_85_30, st_85_32, st_85_36, st_85_39, st_85_42, st_85_45, st_85_49, st_85_53, st_85_56, st_85_57, st_85_58, st_85_61, st_85_62, st_85_63, st_85_66, st_85_69, st_85_70, reduceIte, Int.reduceEq, Int.reduceLE, Int.reduceLT, Int.reduceAdd, Int.reduceSub, Int.reduceMul, Int.reduceNeg, Int.reduceToNat, io_add, io_sub, io_mul, io_lt, io_le, io_eq, io_lt0, io_le0, io_0lt, io_0le, io_eq0, io_max2, Int.toNat_natCast, Nat.add_zero, Nat.zero_add]
      exact ih
theorem sp_85l (hR : sp_R I) (hW : rf_W I) {k : Int} (hk : io_R k) : ∀ m q : Nat, q + m = 7 → (∀ j, j < q → ¬ rf_in I k j) → ∀ u v : Value, mm_c1 u = true → mm_Rn pg_G (d + 2) 85 2 [.ref 8, io_v k, io_v q, u, v] [] (sp_me I 0 0) (some (io_v (rf_io I k)), sp_me I 0 0)
  | 0, q, hm, hn0, u, v, hu => by
    unfold rf_io
    rw [pf_fst_none 7 (fun k hk => hn0 k (by omega)), if_neg (by omega), st_85_2, show q = 7 by omega]
    simp (disch := (first | assumption | exact mm_c1_i _ | exact mm_c1_r _ | exact mm_c1_u _ | omega | exact hR _ _ | exact Nat.le_of_ble_eq_true rfl | decide | rfl | exact pb_dec _)) only [st_85_0, st_85_1, st_85_3, st_85_5, st_85_8, st_85_9, st_85_10, st_85_11, st_85_13, st_85_15, st_85_17, st_85_20, st_85_21, st_85_26, st_85_29, st_85_30, st_85_32, st_85_36, st_85_39, st_85_42, st_85_45, st_85_48, st_85_49, st_85_53, st_85_56, st_85_57, st_85_58, st_85_61, st_85_62, st_85_63, st_85_66, st_85_69, st_85_70, reduceIte, Int.reduceEq, Int.reduceLE, Int.reduceLT, Int.reduceAdd, Int.reduceSub, Int.reduceMul, Int.reduceNeg, Int.reduceToNat, io_add, io_sub, io_mul, io_lt, io_le, io_eq, io_lt0, io_le0, io_0lt, io_0le, io_eq0, io_max2, Int.toNat_natCast, Nat.add_zero, Nat.zero_add]
    rw [if_pos (by decide)]; trivial
  | m + 1, q, hm, hn0, u, v, hu => by
    have hr := pf_cnt_rng (fun y => rf_th I y ∧ rf_er I y q) 7
    have ih : ¬ rf_in I k q → ∀ u v : Value, mm_c1 u = true → mm_Rn pg_G (d + 2) 85 2 [.ref 8, io_v k, io_v ((q : Int) + 1), u, v] [] (sp_me I 0 0) (some (io_v (rf_io I k)), sp_me I 0 0) := fun h1 u v hu => sp_85l hR hW hk m (q + 1) (by omega) (fun j hj => by
      rcases Nat.lt_or_ge j q with z | z
      · exact hn0 j z
      · rw [show j = q by omega]; exact h1) u v hu
    rw [st_85_2]
    simp (disch := (first | assumption | exact mm_c1_i _ | exact mm_c1_r _ | exact mm_c1_u _ | omega | exact hR _ _ | exact Nat.le_of_ble_eq_true rfl | decide | rfl | exact pb_dec _)) only [st_85_0, st_85_1, st_85_3, st_85_5, st_85_8, st_85_9, st_85_10, st_85_11, st_85_15, st_85_17, st_85_20, st_85_21, st_85_26, st_85_29, st_85_30, st_85_32, st_85_36, st_85_39, st_85_42, st_85_45, st_85_48, st_85_49, st_85_53, st_85_56, st_85_57, st_85_58, st_85_61, st_85_62, st_85_63, st_85_66, st_85_69, st_85_70, reduceIte, Int.reduceEq, Int.reduceLE, Int.reduceLT, Int.reduceAdd, Int.reduceSub, Int.reduceMul, Int.reduceNeg, Int.reduceToNat, io_add, io_sub, io_mul, io_lt, io_le, io_eq, io_lt0, io_le0, io_0lt, io_0le, io_eq0, io_max2, Int.toNat_natCast, Nat.add_zero, Nat.zero_add]
    rw [if_neg (by omega)]
    refine sp_85i hR hW (show q ≤ 6 by omega) ?_ 7 0 (by omega)
    simp (disch := (first | assumption | exact mm_c1_i _ | exact mm_c1_r _ | exact mm_c1_u _ | omega | exact hR _ _ | exact Nat.le_of_ble_eq_true rfl | decide | rfl | exact pb_dec _)) only [st_85_0, st_85_1, st_85_3, st_85_5, st_85_8, st_85_9, st_85_10, st_85_11, st_85_13, st_85_15, st_85_17, st_85_20, st_85_21, st_85_26, st_85_29, st_85_30, st_85_32, st_85_36, st_85_39, st_85_42, st_85_45, st_85_48, st_85_49, st_85_53, st_85_56, st_85_57, st_85_58, st_85_61, st_85_62, st_85_63, st_85_66, st_85_69, st_85_70, reduceIte, Int.reduceEq, Int.reduceLE, Int.reduceLT, Int.reduceAdd, Int.reduceSub, Int.reduceMul, Int.reduceNeg, Int.reduceToNat, io_add, io_sub, io_mul, io_lt, io_le, io_eq, io_lt0, io_le0, io_0lt, io_0le, io_eq0, io_max2, Int.toNat_natCast, Nat.add_zero, Nat.zero_add]
    rw [st_85_50 (Nat.le_of_ble_eq_true rfl) rfl (sp_82 (d := d + 1) hR (x := q) (by omega))]
    by_cases h1 : rf_th I q
    · rw [pb_pos h1]
      by_cases h2 : pf_cnt 7 (fun y => rf_th I y ∧ rf_er I y q) = k
      · unfold rf_io
        rw [pf_fst_some (show rf_in I k q from ⟨h1, h2⟩) hn0 7 (by omega), if_pos (by omega)]
        simp (disch := (first | assumption | exact mm_c1_i _ | exact mm_c1_r _ | exact mm_c1_u _ | omega | exact hR _ _ | exact Nat.le_of_ble_eq_true rfl | decide | rfl | exact pb_dec _)) only [st_85_0, st_85_1, st_85_3, st_85_5, st_85_8, st_85_9, st_85_10, st_85_11, st_85_13, st_85_15, st_85_17, st_85_20, st_85_21, st_85_26, st_85_29, st_85_30, st_85_32, st_85_36, st_85_39, st_85_42, st_85_45, st_85_48, st_85_49, st_85_53, st_85_56, st_85_57, st_85_58, st_85_61, st_85_62, st_85_63, st_85_66, st_85_69, st_85_70, reduceIte, Int.reduceEq, Int.reduceLE, Int.reduceLT, Int.reduceAdd, Int.reduceSub, Int.reduceMul, Int.reduceNeg, Int.reduceToNat, io_add, io_sub, io_mul, io_lt, io_le, io_eq, io_lt0, io_le0, io_0lt, io_0le, io_eq0, io_max2, Int.toNat_natCast, Nat.add_zero, Nat.zero_add]
        rw [if_pos h2]; trivial
      · have := ih (fun z => h2 z.2)
        simp (disch := (first | assumption | exact mm_c1_i _ | exact mm_c1_r _ | exact mm_c1_u _ | omega | exact hR _ _ | exact Nat.le_of_ble_eq_true rfl | decide | rfl | exact pb_dec _)) only [st_85_0, st_85_1, st_85_3, st_85_5, st_85_8, st_85_9, st_85_10, st_85_11, st_85_13, st_85_15, st_85_17, st_85_20, st_85_21, st_85_26, st_85_29, st_85_30, st_85_32, st_85_36, st_85_39, st_85_42, st_85_45, st_85_48, st_85_49, st_85_53, st_85_56, st_85_57, st_85_58, st_85_61, st_85_62, st_85_63, st_85_66, st_85_69, st_85_70, reduceIte, Int.reduceEq, Int.reduceLE, Int.reduceLT, Int.reduceAdd, Int.reduceSub, Int.reduceMul, Int.reduceNeg, Int.reduceToNat, io_add, io_sub, io_mul, io_lt, io_le, io_eq, io_lt0, io_le0, io_0lt, io_0le, io_eq0, io_max2, Int.toNat_natCast, Nat.add_zero, Nat.zero_add]
        rw [if_neg h2]
        exact this _ _ rfl
    · rw [pb_neg h1]
      have := ih (fun z => h1 z.1)
      simp (disch := (first | assumption | exact mm_c1_i _ | exact mm_c1_r _ | exact mm_c1_u _ | omega | exact hR _ _ | exact Nat.le_of_ble_eq_true rfl | decide | rfl | exact pb_dec _)) only [st_85_0, st_85_1, st_85_3, st_85_5, st_85_8, st_85_9, st_85_10, st_85_11, st_85_13, st_85_15, st_85_17, st_85_20, st_85_21, st_85_26, st_85_29, st_85_30, st_85_32, st_85_36, st_85_39, st_85_42, st_85_45, st_85_48, st_85_49, st_85_53, st_85_56, st_85_57, st_85_58, st_85_61, st_85_62, st_85_63, st_85_66, st_85_69, st_85_70, reduceIte, Int.reduceEq, Int.reduceLE, Int.reduceLT, Int.reduceAdd, Int.reduceSub, Int.reduceMul, Int.reduceNeg, Int.reduceToNat, io_add, io_sub, io_mul, io_lt, io_le, io_eq, io_lt0, io_le0, io_0lt, io_0le, io_eq0, io_max2, Int.toNat_natCast, Nat.add_zero, Nat.zero_add]
      exact this _ _ rfl
theorem sp_85 (hR : sp_R I) (hW : rf_W I) {k : Int} (hk : io_R k) : mm_Rn pg_G (d + 2) 85 0 [.ref 8, io_v k, .retAddr 0, .retAddr 0, .retAddr 0] [] (sp_me I 0 0) (some (io_v (rf_io I k)), sp_me I 0 0) := by
  simp (disch := (first | assumption | exact mm_c1_i _ | exact mm_c1_r _ | exact mm_c1_u _ | omega | exact hR _ _ | exact Nat.le_of_ble_eq_true rfl | decide | rfl | exact pb_dec _)) only [st_85_0, st_85_1, st_85_3, st_85_5, st_85_8, st_85_9, st_85_10, st_85_11, st_85_13, st_85_15, st_85_17, st_85_20, st_85_21, st_85_26, st_85_29, st_85_30, st_85_32, st_85_36, st_85_39, st_85_42, st_85_45, st_85_48, st_85_49, st_85_53, st_85_56, st_85_57, st_85_58, st_85_61, st_85_62, st_85_63, st_85_66, st_85_69, st_85_70, reduceIte, Int.reduceEq, Int.reduceLE, Int.reduceLT, Int.reduceAdd, Int.reduceSub, Int.reduceMul, Int.reduceNeg, Int.reduceToNat, io_add, io_sub, io_mul, io_lt, io_le, io_eq, io_lt0, io_le0, io_0lt, io_0le, io_eq0, io_max2, Int.toNat_natCast, Nat.add_zero, Nat.zero_add]
  exact sp_85l hR hW hk 7 0 (by omega) (fun j hj => by omega) _ _ rfl
end RF
