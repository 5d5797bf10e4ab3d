/-! the kernel's tick -/
noncomputable def pf_fst : Nat → (Nat → Prop) → Nat
  | 0, _ => 0
  | n + 1, p => @ite _ (pf_fst n p < n) (Classical.propDecidable _) (pf_fst n p) (@ite _ (p n) (Classical.propDecidable _) n (n + 1))
theorem pf_fst_le (p : Nat → Prop) : ∀ n, pf_fst n p ≤ n
  | 0 => Nat.le_refl _
  | n + 1 => by
    have := pf_fst_le p n
    rw [pf_fst]
    split
    · omega
    · split <;> omega
theorem pf_fst_none {p : Nat → Prop} : ∀ n, (∀ k, k < n → ¬ p k) → pf_fst n p = n
  | 0, _ => rfl
  | n + 1, h => by
    rw [pf_fst, pf_fst_none n (fun k hk => h k (by omega)), if_neg (by omega), if_neg (h n (by omega))]
theorem pf_fst_some {p : Nat → Prop} {q : Nat} (hq : p q) (hn : ∀ k, k < q → ¬ p k) : ∀ n, q < n → pf_fst n p = q
  | n + 1, h => by
    rw [pf_fst]
    by_cases e : q = n
    · subst e
      rw [pf_fst_none q hn, if_neg (by omega), if_pos hq]
    · rw [pf_fst_some hq hn n (by omega), if_pos (by omega)]
theorem pf_fst_congr {p q : Nat → Prop} : ∀ n, (∀ i, i < n → (p i ↔ q i)) → pf_fst n p = pf_fst n q
  | 0, _ => rfl
  | n + 1, h => by rw [pf_fst, pf_fst, pf_fst_congr n (fun i hi => h i (by omega)), propext (h n (by omega))]
theorem pf_fst_lt {p : Nat → Prop} : ∀ {n}, pf_fst n p < n → p (pf_fst n p) ∧ ∀ k, k < pf_fst n p → ¬ p k
  | n + 1, h => by
    rw [pf_fst] at h ⊢
    by_cases e : pf_fst n p < n
    · rw [if_pos e]
      exact pf_fst_lt e
    · rw [if_neg e] at h ⊢
      by_cases e2 : p n
      · rw [if_pos e2]
        refine ⟨e2, fun k hk hp => ?_⟩
        have : pf_fst n p ≤ k := by
          rcases Nat.lt_or_ge k (pf_fst n p) with z | z
          · have hle := pf_fst_le p n
            have heq : pf_fst n p = n := by omega
            exfalso
            have : ∀ j, j < n → p j → pf_fst n p < n := by
              intro j hj hpj
              obtain ⟨w, hw, hpw, hmin⟩ : ∃ w, w < n ∧ p w ∧ ∀ k, k < w → ¬ p k := by
                have key : ∀ m, m ≤ n → (∃ w, w < m ∧ p w) → ∃ w, w < m ∧ p w ∧ ∀ k, k < w → ¬ p k := by
                  intro m
                  induction m with
                  | zero => intro _ ⟨w, hw, _⟩; omega
                  | succ m ih =>
                    intro hm ⟨w, hw, hpw⟩
                    by_cases hh : ∃ w, w < m ∧ p w
                    · obtain ⟨w', a, b, c⟩ := ih (by omega) hh
                      exact ⟨w', by omega, b, c⟩
                    · have : w = m := by
                        rcases Nat.lt_or_ge w m with z | z
                        · exact absurd ⟨w, z, hpw⟩ hh
                        · omega
                      subst this
                      exact ⟨w, by omega, hpw, fun k hk hpk => hh ⟨k, hk, hpk⟩⟩
                exact key n (Nat.le_refl _) ⟨j, hj, hpj⟩
              rw [pf_fst_some hpw hmin n hw]
              exact hw
            exact e (this k hk hp)
          · exact z
        have heq : pf_fst n p = n := by have := pf_fst_le p n; omega
        omega
      · rw [if_neg e2] at h
        omega
noncomputable def cl_ch (I : sp_I) (f : Int) : Int :=
  if f = 0 ∨ f = 1 then f else if 0 < I (ad_j (f - 2).toNat) 2 then f else if cl_top I < 101 - I (ad_t (f - 2).toNat) 1 then f else if pf_fst (sp_n I) (fun i => cl_hi I i = cl_top I) < sp_n I then 2 + (pf_fst (sp_n I) (fun i => cl_hi I i = cl_top I) : Int) else f
noncomputable def cl_rj (I : sp_I) (i : Nat) : sp_I := @ite _ (cl_pend (cl_rt I i) i) (Classical.propDecidable _) (cl_rt I i) (up_I (up_I (cl_rt I i) 0 7 (cl_rt I i 0 7 + 1)) (ad_t i) 7 (max (cl_rt I i (ad_t i) 7) (cl_rt I i 5 1 + 1 - cl_rt I i (ad_j i) 3)))
noncomputable def cl_nb (I : sp_I) (rc : Int) : Nat → sp_I
  | 0 => I
  | q + 1 => @ite _ (cl_pend (cl_nb I rc q) q ∧ cl_bf (cl_nb I rc q) (2 + q) rc) (Classical.propDecidable _) (cl_block (cl_nb I rc q) q (rc - 2) (cl_nb I rc q (ad_t (rc - 2).toNat) 9)) (cl_nb I rc q)
noncomputable def cl_nm (I : sp_I) : Nat → sp_I
  | 0 => I
  | q + 1 => @ite _ (cl_pend (cl_nm I q) q ∧ cl_nm I q (ad_j q) 4 = cl_nm I q 5 1) (Classical.propDecidable _) (up_I (cl_nm I q) (ad_t q) 6 (cl_nm I q (ad_t q) 6 + 1)) (cl_nm I q)
theorem cl_block_out {I : sp_I} {i : Nat} {r s : Int} {u v : Nat} (h1 : u ≠ ad_c i) (h2 : ¬ (u = ad_j i ∧ (v = 5 ∨ v = 6))) : cl_block I i r s u v = I u v := by
  unfold cl_block
  have e5 : ∀ (J : sp_I) a, up_I J (ad_j i) 5 a u v = J u v := fun J a => by unfold up_I; rw [if_neg (fun z => h2 ⟨z.1, Or.inl z.2⟩)]
  have e6 : ∀ (J : sp_I) a, up_I J (ad_j i) 6 a u v = J u v := fun J a => by unfold up_I; rw [if_neg (fun z => h2 ⟨z.1, Or.inr z.2⟩)]
  split
  · rw [e5, up_cell h1, e6]
  · rw [e6]
theorem cl_nb_out {I : sp_I} {rc : Int} {u v : Nat} : ∀ q, (∀ k, k < q → u ≠ ad_c k ∧ ¬ (u = ad_j k ∧ (v = 5 ∨ v = 6))) → cl_nb I rc q u v = I u v
  | 0, _ => rfl
  | q + 1, h => by
    rw [cl_nb]
    split
    · rw [cl_block_out (h q (by omega)).1 (h q (by omega)).2]
      exact cl_nb_out q (fun k hk => h k (by omega))
    · exact cl_nb_out q (fun k hk => h k (by omega))
theorem cl_nm_out {I : sp_I} {u v : Nat} : ∀ q, (∀ k, k < q → ¬ (u = ad_t k ∧ v = 6)) → cl_nm I q u v = I u v
  | 0, _ => rfl
  | q + 1, h => by
    rw [cl_nm]
    split
    · rw [show ∀ (J : sp_I) a, up_I J (ad_t q) 6 a u v = J u v from fun J a => by unfold up_I; rw [if_neg (h q (by omega))]]
      exact cl_nm_out q (fun k hk => h k (by omega))
    · exact cl_nm_out q (fun k hk => h k (by omega))
/-- bounds of what moves -/
def cl_B (I : sp_I) : Prop := ∀ i, i < sp_n I → ∀ v, (v = 2 ∨ v = 5 ∨ v = 6 → 0 ≤ I (ad_j i) v ∧ I (ad_j i) v ≤ 1000000) ∧ (v = 6 ∨ v = 8 ∨ v = 9 → 0 ≤ I (ad_t i) v ∧ I (ad_t i) v ≤ 1000000)
def cl_G (I : sp_I) : Prop := sp_R I ∧ (0 ≤ I 0 4 ∧ I 0 4 ≤ 6) ∧ cl_TS I ∧ cl_V I ∧ (0 ≤ I 5 1 ∧ I 5 1 ≤ 1000000) ∧ (0 ≤ I 5 2 ∧ I 5 2 ≤ 1000000) ∧ (0 ≤ I 0 7 ∧ I 0 7 ≤ 1000000) ∧ cl_P I ∧ cl_B I ∧ ∀ i, i < sp_n I → 0 ≤ I (ad_j i) 3 ∧ I (ad_j i) 3 ≤ 1000000
theorem cl_block_R {I : sp_I} (hR : sp_R I) {i : Nat} (h5 : 0 ≤ I (ad_j i) 5 ∧ I (ad_j i) 5 ≤ 1000000) (h6 : 0 ≤ I (ad_j i) 6 ∧ I (ad_j i) 6 ≤ 1000000) {r s : Int} (hs : io_R s) : sp_R (cl_block I i r s) := by
  unfold cl_block
  split
  · exact sp_Rup (sp_Rup (sp_Rup hR (by omega)) hs) (by omega)
  · exact sp_Rup hR (by omega)
theorem ad_jj {i j : Nat} (h : ad_j i = ad_j j) : i = j := by unfold ad_j at h; omega
theorem ad_tt {i j : Nat} (h : ad_t i = ad_t j) : i = j := by unfold ad_t at h; omega
theorem ad_jc {i j : Nat} : ad_j i ≠ ad_c j := by unfold ad_j ad_c; omega
theorem ad_tj {i j : Nat} : ad_t i ≠ ad_j j := by unfold ad_j ad_t; omega
theorem ad_tc {i j : Nat} : ad_t i ≠ ad_c j := by unfold ad_c ad_t; omega
theorem ad_k {x j : Nat} (h : x < 32) : x ≠ ad_j j ∧ x ≠ ad_c j ∧ x ≠ ad_t j := by unfold ad_c ad_t ad_j; omega
theorem cl_nb_R {I : sp_I} (hR : sp_R I) (hB : cl_B I) (rc : Int) : ∀ q, q ≤ sp_n I → sp_R (cl_nb I rc q)
  | 0, _ => hR
  | q + 1, h => by
    have ih := cl_nb_R hR hB rc q (by omega)
    have hb := hB q (by omega)
    have e : ∀ v, cl_nb I rc q (ad_j q) v = I (ad_j q) v := fun v => cl_nb_out q (fun k hk => ⟨ad_jc, fun z => by have := ad_jj z.1; omega⟩)
    rw [cl_nb]
    split
    · exact cl_block_R ih (by rw [e]; exact (hb 5).1 (by omega)) (by rw [e]; exact (hb 6).1 (by omega)) (ih _ _)
    · exact ih
theorem cl_nm_R {I : sp_I} (hR : sp_R I) (hB : cl_B I) : ∀ q, q ≤ sp_n I → sp_R (cl_nm I q)
  | 0, _ => hR
  | q + 1, h => by
    have ih := cl_nm_R hR hB q (by omega)
    have hb := hB q (by omega)
    have e : ∀ v, cl_nm I q (ad_t q) v = I (ad_t q) v := fun v => cl_nm_out q (fun k hk z => by have := ad_tt z.1; omega)
    rw [cl_nm]
    split
    · exact sp_Rup ih (by rw [e]; have := (hb 6).2 (by omega); omega)
    · exact ih
theorem cl_rt_out {I : sp_I} {i u v : Nat} (h1 : ¬ (u = ad_j i ∧ v = 2)) (h2 : ¬ (u = ad_t i ∧ (v = 8 ∨ v = 9))) : cl_rt I i u v = I u v := by
  unfold cl_rt up_I
  rw [if_neg (fun z => h2 ⟨z.1, Or.inr z.2⟩), if_neg (fun z => h2 ⟨z.1, Or.inl z.2⟩), if_neg h1]
theorem cl_rt_R {I : sp_I} (hR : sp_R I) {i : Nat} (h2 : 0 ≤ I (ad_j i) 2 ∧ I (ad_j i) 2 ≤ 1000000) (h8 : 0 ≤ I (ad_t i) 8 ∧ I (ad_t i) 8 ≤ 1000000) : sp_R (cl_rt I i) := by
  unfold cl_rt
  have a := pb_rng (¬ cl_any I i ∧ cl_any (up_I I (ad_j i) 2 (I (ad_j i) 2 + 1)) i)
  refine sp_Rup (sp_Rup (sp_Rup hR (by omega)) (by omega)) ?_
  rcases pb_01 (cl_any I i ∨ cl_any (up_I I (ad_j i) 2 (I (ad_j i) 2 + 1)) i) with e | e <;> rw [e] <;> omega
section TI
variable {I : sp_I} {d i k c : Nat}
theorem sp_64l (hR : sp_R I) (h6 : 0 ≤ I 0 4 ∧ I 0 4 ≤ 6) (hT : cl_TS I) {f : Int} {x : Value} (hx : mm_c1 x = true) : ∀ m q : Nat, q + m = sp_n I → (∀ k, k < q → ¬ cl_hi I k = cl_top I) → mm_Rn pg_G (d + 3) 64 50 [.ref 0, io_v f, x, io_v (cl_top I), io_v q] [] (sp_me I 0 0) (some (io_v (if pf_fst (sp_n I) (fun i => cl_hi I i = cl_top I) < sp_n I then 2 + (pf_fst (sp_n I) (fun i => cl_hi I i = cl_top I) : Int) else f)), sp_me I 0 0)
  | 0, q, hm, hn0 => by
    have hn := cl_n h6
    rw [pf_fst_none (sp_n I) (fun k hk => hn0 k (by omega)), if_neg (by omega), st_64_50]
    simp (disch := (first | assumption | exact mm_c1_i _ | exact mm_c1_r _ | exact mm_c1_u _ | omega | exact hR _ _ | exact Nat.le_of_ble_eq_true rfl | decide | rfl | exact pb_dec _)) only [st_64_0, st_64_1, st_64_4, st_64_5, st_64_6, st_64_9, st_64_10, st_64_11, sm_64_12, st_64_15, st_64_16, st_64_17, sm_64_18, st_64_19, st_64_20, sm_64_21, st_64_27, st_64_30, st_64_31, st_64_32, st_64_36, st_64_37, st_64_41, st_64_42, st_64_45, st_64_46, st_64_47, st_64_48, st_64_52, sm_64_53, st_64_56, st_64_59, sm_64_60, st_64_63, sm_64_65, st_64_66, sm_64_67, st_64_73, st_64_74, st_64_77, st_64_78, st_64_80, st_64_81, st_64_82, st_64_85, st_64_88, st_64_89, reduceIte, Int.reduceEq, Int.reduceLE, Int.reduceLT, Int.reduceAdd, Int.reduceSub, Int.reduceMul, Int.reduceNeg, Int.reduceToNat, io_add, io_sub, io_mul, io_lt, io_le, io_eq, io_lt0, io_le0, io_0lt, io_0le, io_eq0, io_max2, Int.toNat_natCast, Nat.add_zero, Nat.zero_add]
    rw [if_pos (by omega)]; trivial
  | m + 1, q, hm, hn0 => by
    have hn := cl_n h6
    have hi : q < sp_n I := by omega
    have r1 := cl_hi_rng hR q
    have r2 : 0 ≤ cl_top I ∧ cl_top I ≤ 2147483647 := cl_top_rng hR (sp_n I)
    rw [st_64_50]
    simp (disch := (first | assumption | exact mm_c1_i _ | exact mm_c1_r _ | exact mm_c1_u _ | omega | exact hR _ _ | exact Nat.le_of_ble_eq_true rfl | decide | rfl | exact pb_dec _)) only [st_64_0, st_64_1, st_64_4, st_64_5, st_64_6, st_64_9, st_64_10, st_64_11, sm_64_12, st_64_15, st_64_16, st_64_17, sm_64_18, st_64_19, st_64_20, sm_64_21, st_64_27, st_64_30, st_64_31, st_64_32, st_64_36, st_64_37, st_64_41, st_64_42, st_64_45, st_64_46, st_64_47, st_64_48, st_64_52, sm_64_53, st_64_56, st_64_59, sm_64_60, st_64_63, sm_64_65, st_64_66, sm_64_67, st_64_73, st_64_74, st_64_77, st_64_78, st_64_80, st_64_81, st_64_82, st_64_85, st_64_88, st_64_89, reduceIte, Int.reduceEq, Int.reduceLE, Int.reduceLT, Int.reduceAdd, Int.reduceSub, Int.reduceMul, Int.reduceNeg, Int.reduceToNat, io_add, io_sub, io_mul, io_lt, io_le, io_eq, io_lt0, io_le0, io_0lt, io_0le, io_eq0, io_max2, Int.toNat_natCast, Nat.add_zero, Nat.zero_add]
    rw [if_neg (by omega), st_64_70 (Nat.le_of_ble_eq_true rfl) (sp_T_t hi) (sp_18 (d := d) hR hi (hT q hi).1 (hT q hi).2)]
    by_cases h1 : cl_hi I q = cl_top I
    · rw [pf_fst_some h1 hn0 (sp_n I) hi, if_pos hi]
      simp (disch := (first | assumption | exact mm_c1_i _ | exact mm_c1_r _ | exact mm_c1_u _ | omega | exact hR _ _ | exact Nat.le_of_ble_eq_true rfl | decide | rfl | exact pb_dec _)) only [st_64_0, st_64_1, st_64_4, st_64_5, st_64_6, st_64_9, st_64_10, st_64_11, sm_64_12, st_64_15, st_64_16, st_64_17, sm_64_18, st_64_19, st_64_20, sm_64_21, st_64_27, st_64_30, st_64_31, st_64_32, st_64_36, st_64_37, st_64_41, st_64_42, st_64_45, st_64_46, st_64_47, st_64_48, st_64_52, sm_64_53, st_64_56, st_64_59, sm_64_60, st_64_63, sm_64_65, st_64_66, sm_64_67, st_64_73, st_64_74, st_64_77, st_64_78, st_64_80, st_64_81, st_64_82, st_64_85, st_64_88, st_64_89, reduceIte, Int.reduceEq, Int.reduceLE, Int.reduceLT, Int.reduceAdd, Int.reduceSub, Int.reduceMul, Int.reduceNeg, Int.reduceToNat, io_add, io_sub, io_mul, io_lt, io_le, io_eq, io_lt0, io_le0, io_0lt, io_0le, io_eq0, io_max2, Int.toNat_natCast, Nat.add_zero, Nat.zero_add, h1]
    · have ih := sp_64l hR h6 hT (f := f) hx m (q + 1) (by omega) (fun k hk => by
        rcases Nat.lt_or_ge k q with z | z
        · exact hn0 k z
        · rw [show k = q by omega]; exact h1)
      simp (disch := (first | assumption | exact mm_c1_i _ | exact mm_c1_r _ | exact mm_c1_u _ | omega | exact hR _ _ | exact Nat.le_of_ble_eq_true rfl | decide | rfl | exact pb_dec _)) only [st_64_0, st_64_1, st_64_4, st_64_5, st_64_6, st_64_9, st_64_10, st_64_11, sm_64_12, st_64_15, st_64_16, st_64_17, sm_64_18, st_64_19, st_64_20, sm_64_21, st_64_27, st_64_30, st_64_31, st_64_32, st_64_36, st_64_37, st_64_41, st_64_42, st_64_45, st_64_46, st_64_47, st_64_48, st_64_52, sm_64_53, st_64_56, st_64_59, sm_64_60, st_64_63, sm_64_65, st_64_66, sm_64_67, st_64_73, st_64_74, st_64_77, st_64_78, st_64_80, st_64_81, st_64_82, st_64_85, st_64_88, st_64_89, reduceIte, Int.reduceEq, Int.reduceLE, Int.reduceLT, Int.reduceAdd, Int.reduceSub, Int.reduceMul, Int.reduceNeg, Int.reduceToNat, io_add, io_sub, io_mul, io_lt, io_le, io_eq, io_lt0, io_le0, io_0lt, io_0le, io_eq0, io_max2, Int.toNat_natCast, Nat.add_zero, Nat.zero_add, h1]
      exact ih
theorem sp_64 (hR : sp_R I) (h6 : 0 ≤ I 0 4 ∧ I 0 4 ≤ 6) (hT : cl_TS I) (hP : cl_P I) {f : Int} (hf : 0 ≤ f ∧ f < 2 + I 0 4) : mm_Rn pg_G (d + 4) 64 0 [.ref 0, io_v f, .retAddr 0, .retAddr 0, .retAddr 0] [] (sp_me I 0 0) (some (io_v (cl_ch I f)), sp_me I 0 0) := by
  have hn := cl_n h6
  unfold cl_ch
  by_cases h0 : f = 0
  · rw [if_pos (Or.inl h0)]
    simp (disch := (first | assumption | exact mm_c1_i _ | exact mm_c1_r _ | exact mm_c1_u _ | omega | exact hR _ _ | exact Nat.le_of_ble_eq_true rfl | decide | rfl | exact pb_dec _)) only [st_64_0, st_64_1, st_64_4, st_64_5, st_64_6, st_64_9, st_64_10, sm_64_12, st_64_15, st_64_16, st_64_17, sm_64_18, st_64_19, st_64_20, sm_64_21, st_64_27, st_64_30, st_64_31, st_64_32, st_64_36, st_64_37, st_64_41, st_64_42, st_64_45, st_64_46, st_64_47, st_64_48, st_64_50, st_64_52, sm_64_53, st_64_56, st_64_59, sm_64_60, st_64_63, sm_64_65, st_64_66, sm_64_67, st_64_73, st_64_74, st_64_77, st_64_78, st_64_80, st_64_81, st_64_82, st_64_85, st_64_88, st_64_89, reduceIte, Int.reduceEq, Int.reduceLE, Int.reduceLT, Int.reduceAdd, Int.reduceSub, Int.reduceMul, Int.reduceNeg, Int.reduceToNat, io_add, io_sub, io_mul, io_lt, io_le, io_eq, io_lt0, io_le0, io_0lt, io_0le, io_eq0, io_max2, Int.toNat_natCast, Nat.add_zero, Nat.zero_add, h0]
  by_cases h1 : f = 1
  · rw [if_pos (Or.inr h1)]
    subst h1
    simp (disch := (first | assumption | exact mm_c1_i _ | exact mm_c1_r _ | exact mm_c1_u _ | omega | exact hR _ _ | exact Nat.le_of_ble_eq_true rfl | decide | rfl | exact pb_dec _)) only [st_64_0, st_64_1, st_64_4, st_64_5, st_64_6, st_64_9, st_64_10, sm_64_12, st_64_15, st_64_16, st_64_17, sm_64_18, st_64_19, st_64_20, sm_64_21, st_64_27, st_64_30, st_64_31, st_64_32, st_64_36, st_64_37, st_64_41, st_64_42, st_64_45, st_64_46, st_64_47, st_64_48, st_64_50, st_64_52, sm_64_53, st_64_56, st_64_59, sm_64_60, st_64_63, sm_64_65, st_64_66, sm_64_67, st_64_73, st_64_74, st_64_77, st_64_78, st_64_80, st_64_81, st_64_82, st_64_85, st_64_88, st_64_89, reduceIte, Int.reduceEq, Int.reduceLE, Int.reduceLT, Int.reduceAdd, Int.reduceSub, Int.reduceMul, Int.reduceNeg, Int.reduceToNat, io_add, io_sub, io_mul, io_lt, io_le, io_eq, io_lt0, io_le0, io_0lt, io_0le, io_eq0, io_max2, Int.toNat_natCast, Nat.add_zero, Nat.zero_add]
  rw [if_neg (fun z => z.elim h0 h1)]
  have hi : (f - 2).toNat < sp_n I := by omega
  have hp := hP _ hi
  have r2 : 0 ≤ cl_top I ∧ cl_top I ≤ 2147483647 := cl_top_rng hR (sp_n I)
  simp (disch := (first | assumption | exact mm_c1_i _ | exact mm_c1_r _ | exact mm_c1_u _ | omega | exact hR _ _ | exact Nat.le_of_ble_eq_true rfl | decide | rfl | exact pb_dec _)) only [st_64_0, st_64_1, st_64_4, st_64_5, st_64_6, st_64_9, st_64_10, st_64_11, sm_64_12, st_64_15, st_64_16, st_64_17, sm_64_18, st_64_19, st_64_20, sm_64_21, st_64_27, st_64_30, st_64_31, st_64_32, st_64_36, st_64_37, st_64_41, st_64_42, st_64_45, st_64_46, st_64_47, st_64_48, st_64_52, sm_64_53, st_64_56, st_64_59, sm_64_60, st_64_63, sm_64_65, st_64_66, sm_64_67, st_64_73, st_64_74, st_64_77, st_64_78, st_64_80, st_64_81, st_64_82, st_64_85, st_64_88, st_64_89, reduceIte, Int.reduceEq, Int.reduceLE, Int.reduceLT, Int.reduceAdd, Int.reduceSub, Int.reduceMul, Int.reduceNeg, Int.reduceToNat, io_add, io_sub, io_mul, io_lt, io_le, io_eq, io_lt0, io_le0, io_0lt, io_0le, io_eq0, io_max2, Int.toNat_natCast, Nat.add_zero, Nat.zero_add, h0, h1]
  rw [st_64_24 (Nat.le_of_ble_eq_true rfl) (sp_T_j hi) (sp_6 (d := d + 3) hR hi)]
  by_cases h2 : 0 < I (ad_j (f - 2).toNat) 2
  · rw [pb_pos h2, if_pos h2]
    simp (disch := (first | assumption | exact mm_c1_i _ | exact mm_c1_r _ | exact mm_c1_u _ | omega | exact hR _ _ | exact Nat.le_of_ble_eq_true rfl | decide | rfl | exact pb_dec _)) only [st_64_0, st_64_1, st_64_4, st_64_5, st_64_6, st_64_9, st_64_10, st_64_11, sm_64_12, st_64_15, st_64_16, st_64_17, sm_64_18, st_64_19, st_64_20, sm_64_21, st_64_27, st_64_30, st_64_31, st_64_32, st_64_36, st_64_37, st_64_41, st_64_42, st_64_45, st_64_46, st_64_47, st_64_48, st_64_52, sm_64_53, st_64_56, st_64_59, sm_64_60, st_64_63, sm_64_65, st_64_66, sm_64_67, st_64_73, st_64_74, st_64_77, st_64_78, st_64_80, st_64_81, st_64_82, st_64_85, st_64_88, st_64_89, reduceIte, Int.reduceEq, Int.reduceLE, Int.reduceLT, Int.reduceAdd, Int.reduceSub, Int.reduceMul, Int.reduceNeg, Int.reduceToNat, io_add, io_sub, io_mul, io_lt, io_le, io_eq, io_lt0, io_le0, io_0lt, io_0le, io_eq0, io_max2, Int.toNat_natCast, Nat.add_zero, Nat.zero_add]
  rw [pb_neg h2, if_neg h2]
  simp (disch := (first | assumption | exact mm_c1_i _ | exact mm_c1_r _ | exact mm_c1_u _ | omega | exact hR _ _ | exact Nat.le_of_ble_eq_true rfl | decide | rfl | exact pb_dec _)) only [st_64_0, st_64_1, st_64_4, st_64_5, st_64_6, st_64_9, st_64_10, st_64_11, sm_64_12, st_64_15, st_64_16, st_64_17, sm_64_18, st_64_19, st_64_20, sm_64_21, st_64_27, st_64_30, st_64_31, st_64_32, st_64_36, st_64_37, st_64_41, st_64_42, st_64_45, st_64_46, st_64_47, st_64_48, st_64_52, sm_64_53, st_64_56, st_64_59, sm_64_60, st_64_63, sm_64_65, st_64_66, sm_64_67, st_64_73, st_64_74, st_64_77, st_64_78, st_64_80, st_64_81, st_64_82, st_64_85, st_64_88, st_64_89, reduceIte, Int.reduceEq, Int.reduceLE, Int.reduceLT, Int.reduceAdd, Int.reduceSub, Int.reduceMul, Int.reduceNeg, Int.reduceToNat, io_add, io_sub, io_mul, io_lt, io_le, io_eq, io_lt0, io_le0, io_0lt, io_0le, io_eq0, io_max2, Int.toNat_natCast, Nat.add_zero, Nat.zero_add]
  rw [st_64_33 (Nat.le_of_ble_eq_true rfl) rfl (sp_62 (d := d) hR h6 hT)]
  simp (disch := (first | assumption | exact mm_c1_i _ | exact mm_c1_r _ | exact mm_c1_u _ | omega | exact hR _ _ | exact Nat.le_of_ble_eq_true rfl | decide | rfl | exact pb_dec _)) only [st_64_0, st_64_1, st_64_4, st_64_5, st_64_6, st_64_9, st_64_10, st_64_11, sm_64_12, st_64_15, st_64_16, st_64_17, sm_64_18, st_64_19, st_64_20, sm_64_21, st_64_27, st_64_30, st_64_31, st_64_32, st_64_36, st_64_37, st_64_41, st_64_42, st_64_45, st_64_46, st_64_47, st_64_48, st_64_52, sm_64_53, st_64_56, st_64_59, sm_64_60, st_64_63, sm_64_65, st_64_66, sm_64_67, st_64_73, st_64_74, st_64_77, st_64_78, st_64_80, st_64_81, st_64_82, st_64_85, st_64_88, st_64_89, reduceIte, Int.reduceEq, Int.reduceLE, Int.reduceLT, Int.reduceAdd, Int.reduceSub, Int.reduceMul, Int.reduceNeg, Int.reduceToNat, io_add, io_sub, io_mul, io_lt, io_le, io_eq, io_lt0, io_le0, io_0lt, io_0le, io_eq0, io_max2, Int.toNat_natCast, Nat.add_zero, Nat.zero_add]
  rw [st_64_38 (Nat.le_of_ble_eq_true rfl) (sp_T_t hi) (sp_11 (d := d + 3) hi)]
  simp (disch := (first | assumption | exact mm_c1_i _ | exact mm_c1_r _ | exact mm_c1_u _ | omega | exact hR _ _ | exact Nat.le_of_ble_eq_true rfl | decide | rfl | exact pb_dec _)) only [st_64_0, st_64_1, st_64_4, st_64_5, st_64_6, st_64_9, st_64_10, st_64_11, sm_64_12, st_64_15, st_64_16, st_64_17, sm_64_18, st_64_19, st_64_20, sm_64_21, st_64_27, st_64_30, st_64_31, st_64_32, st_64_36, st_64_37, st_64_41, st_64_42, st_64_45, st_64_46, st_64_47, st_64_48, st_64_52, sm_64_53, st_64_56, st_64_59, sm_64_60, st_64_63, sm_64_65, st_64_66, sm_64_67, st_64_73, st_64_74, st_64_77, st_64_78, st_64_80, st_64_81, st_64_82, st_64_85, st_64_88, st_64_89, reduceIte, Int.reduceEq, Int.reduceLE, Int.reduceLT, Int.reduceAdd, Int.reduceSub, Int.reduceMul, Int.reduceNeg, Int.reduceToNat, io_add, io_sub, io_mul, io_lt, io_le, io_eq, io_lt0, io_le0, io_0lt, io_0le, io_eq0, io_max2, Int.toNat_natCast, Nat.add_zero, Nat.zero_add]
  by_cases h3 : cl_top I < 101 - I (ad_t (f - 2).toNat) 1
  · rw [if_pos h3, if_neg (by omega)]
  · rw [if_neg h3, if_pos (by omega)]
    exact sp_64l (d := d + 1) hR h6 hT rfl (sp_n I) 0 (by omega) (fun k hk => by omega)
theorem sp_65 (hG : cl_G I) (hi : i < sp_n I) : mm_Rn pg_G (d + 4) 65 0 [.ref 0, io_v i] [] (sp_me I 0 0) (none, sp_me (cl_rj I i) 0 0) := by
  obtain ⟨hR, h6, hT, hV, h51, h52, h07, hP, hB, h3⟩ := hG
  have hn := cl_n h6
  have hb := hB i hi
  have b2 := (hb 2).1 (by omega)
  have b8 := (hb 8).2 (by omega)
  have b3 := h3 i hi
  have hRJ := cl_rt_R hR b2 b8
  have e04 : cl_rt I i 0 4 = I 0 4 := cl_rt_out (fun z => by have := (ad_k (j := i) (show 0 < 32 by decide)).1; exact this z.1) (fun z => (ad_k (j := i) (show 0 < 32 by decide)).2.2 z.1)
  have e07 : cl_rt I i 0 7 = I 0 7 := cl_rt_out (fun z => (ad_k (j := i) (show 0 < 32 by decide)).1 z.1) (fun z => (ad_k (j := i) (show 0 < 32 by decide)).2.2 z.1)
  have e51 : cl_rt I i 5 1 = I 5 1 := cl_rt_out (fun z => (ad_k (j := i) (show 5 < 32 by decide)).1 z.1) (fun z => (ad_k (j := i) (show 5 < 32 by decide)).2.2 z.1)
  have e3 : cl_rt I i (ad_j i) 3 = I (ad_j i) 3 := cl_rt_out (fun z => by omega) (fun z => ad_tj z.1.symm)
  have hnJ : sp_n (cl_rt I i) = sp_n I := by unfold sp_n; rw [e04]
  unfold cl_rj
  simp (disch := (first | assumption | exact mm_c1_i _ | exact mm_c1_r _ | exact mm_c1_u _ | omega | exact hR _ _ | exact Nat.le_of_ble_eq_true rfl | decide | rfl | exact pb_dec _ | (simp only [sp_n_t, sp_n_j, sp_n_c, sp_n_s, sp_n_k]; assumption) | (simp only [ad_t, ad_a, ad_j, ad_c, ad_s]; omega))) only [st_65_0, sm_65_1, st_65_4, sm_65_5, st_65_9, sm_65_10, st_65_13, sm_65_14, sm_65_15, st_65_21, st_65_24, st_65_25, sm_65_26, st_65_29, st_65_30, sm_65_31, st_65_34, sm_65_35, st_65_38, sm_65_39, st_65_40, sm_65_41, sm_65_44, st_65_47, st_65_48, st_65_49, sm_65_50, st_65_53, sm_65_54, sm_65_55, sm_65_58, st_65_61, st_65_65, reduceIte, Int.reduceEq, Int.reduceLE, Int.reduceLT, Int.reduceAdd, Int.reduceSub, Int.reduceMul, Int.reduceNeg, Int.reduceToNat, io_add, io_sub, io_mul, io_lt, io_le, io_eq, io_lt0, io_le0, io_0lt, io_0le, io_eq0, io_max2, Int.toNat_natCast, Nat.add_zero, Nat.zero_add, up_same, up_slot, up_cell]
  rw [st_65_6 (Nat.le_of_ble_eq_true rfl) (sp_T_t hi) (sp_19 (d := d) hR hi (hT i hi).1 b2)]
  generalize cl_rt I i = J at *
  have hiJ : i < sp_n J := by rw [hnJ]; exact hi
  simp (disch := (first | assumption | exact mm_c1_i _ | exact mm_c1_r _ | exact mm_c1_u _ | omega | exact hR _ _ | exact Nat.le_of_ble_eq_true rfl | decide | rfl | exact pb_dec _ | (simp only [sp_n_t, sp_n_j, sp_n_c, sp_n_s, sp_n_k]; assumption) | (simp only [ad_t, ad_a, ad_j, ad_c, ad_s]; omega))) only [st_65_0, sm_65_1, st_65_4, sm_65_5, st_65_9, sm_65_10, st_65_13, sm_65_14, sm_65_15, st_65_21, st_65_24, st_65_25, sm_65_26, st_65_29, st_65_30, sm_65_31, st_65_34, sm_65_35, st_65_38, sm_65_39, st_65_40, sm_65_41, sm_65_44, st_65_47, st_65_48, st_65_49, sm_65_50, st_65_53, sm_65_54, sm_65_55, sm_65_58, st_65_61, st_65_65, reduceIte, Int.reduceEq, Int.reduceLE, Int.reduceLT, Int.reduceAdd, Int.reduceSub, Int.reduceMul, Int.reduceNeg, Int.reduceToNat, io_add, io_sub, io_mul, io_lt, io_le, io_eq, io_lt0, io_le0, io_0lt, io_0le, io_eq0, io_max2, Int.toNat_natCast, Nat.add_zero, Nat.zero_add, up_same, up_slot, up_cell]
  rw [st_65_18 (Nat.le_of_ble_eq_true rfl) (sp_T_j hiJ) (sp_5 (d := d + 3) hRJ hiJ)]
  by_cases h1 : cl_pend J i
  · rw [pb_pos h1, if_pos h1]
    simp (disch := (first | assumption | exact mm_c1_i _ | exact mm_c1_r _ | exact mm_c1_u _ | omega | exact hR _ _ | exact Nat.le_of_ble_eq_true rfl | decide | rfl | exact pb_dec _ | (simp only [sp_n_t, sp_n_j, sp_n_c, sp_n_s, sp_n_k]; assumption) | (simp only [ad_t, ad_a, ad_j, ad_c, ad_s]; omega))) only [st_65_0, sm_65_1, st_65_4, sm_65_5, st_65_9, sm_65_10, st_65_13, sm_65_14, sm_65_15, st_65_21, st_65_24, st_65_25, sm_65_26, st_65_29, st_65_30, sm_65_31, st_65_34, sm_65_35, st_65_38, sm_65_39, st_65_40, sm_65_41, sm_65_44, st_65_47, st_65_48, st_65_49, sm_65_50, st_65_53, sm_65_54, sm_65_55, sm_65_58, st_65_61, st_65_65, reduceIte, Int.reduceEq, Int.reduceLE, Int.reduceLT, Int.reduceAdd, Int.reduceSub, Int.reduceMul, Int.reduceNeg, Int.reduceToNat, io_add, io_sub, io_mul, io_lt, io_le, io_eq, io_lt0, io_le0, io_0lt, io_0le, io_eq0, io_max2, Int.toNat_natCast, Nat.add_zero, Nat.zero_add, up_same, up_slot, up_cell]
  · rw [pb_neg h1, if_neg h1]
    have hRK : sp_R (up_I J 0 7 (J 0 7 + 1)) := sp_Rup hRJ (by omega)
    have hiK : i < sp_n (up_I J 0 7 (J 0 7 + 1)) := by rw [sp_n_up (by decide)]; exact hiJ
    have hx := hRJ (ad_j i) 3
    have h04K : up_I J 0 7 (J 0 7 + 1) 0 4 = J 0 4 := up_slot (by decide)
    simp (disch := (first | assumption | exact mm_c1_i _ | exact mm_c1_r _ | exact mm_c1_u _ | omega | exact hR _ _ | exact Nat.le_of_ble_eq_true rfl | decide | rfl | exact pb_dec _ | (simp only [sp_n_t, sp_n_j, sp_n_c, sp_n_s, sp_n_k]; assumption) | (simp only [ad_t, ad_a, ad_j, ad_c, ad_s]; omega))) only [st_65_0, sm_65_1, st_65_4, sm_65_5, st_65_9, sm_65_10, st_65_13, sm_65_14, sm_65_15, st_65_21, st_65_24, st_65_25, sm_65_26, st_65_29, st_65_30, sm_65_31, st_65_34, sm_65_35, st_65_38, sm_65_39, st_65_40, sm_65_41, sm_65_44, st_65_47, st_65_48, st_65_49, sm_65_50, st_65_53, sm_65_54, sm_65_55, sm_65_58, st_65_61, st_65_65, reduceIte, Int.reduceEq, Int.reduceLE, Int.reduceLT, Int.reduceAdd, Int.reduceSub, Int.reduceMul, Int.reduceNeg, Int.reduceToNat, io_add, io_sub, io_mul, io_lt, io_le, io_eq, io_lt0, io_le0, io_0lt, io_0le, io_eq0, io_max2, Int.toNat_natCast, Nat.add_zero, Nat.zero_add, up_same, up_slot, up_cell]
    rw [st_65_62 (Nat.le_of_ble_eq_true rfl) (sp_T_t hiK) (sp_20 (d := d + 2) hRK hiK (r := J 5 1 + 1 - J (ad_j i) 3) (by omega))]
    simp (disch := (first | assumption | exact mm_c1_i _ | exact mm_c1_r _ | exact mm_c1_u _ | omega | exact hR _ _ | exact Nat.le_of_ble_eq_true rfl | decide | rfl | exact pb_dec _ | (simp only [sp_n_t, sp_n_j, sp_n_c, sp_n_s, sp_n_k]; assumption) | (simp only [ad_t, ad_a, ad_j, ad_c, ad_s]; omega))) only [st_65_0, sm_65_1, st_65_4, sm_65_5, st_65_9, sm_65_10, st_65_13, sm_65_14, sm_65_15, st_65_21, st_65_24, st_65_25, sm_65_26, st_65_29, st_65_30, sm_65_31, st_65_34, sm_65_35, st_65_38, sm_65_39, st_65_40, sm_65_41, sm_65_44, st_65_47, st_65_48, st_65_49, sm_65_50, st_65_53, sm_65_54, sm_65_55, sm_65_58, st_65_61, st_65_65, reduceIte, Int.reduceEq, Int.reduceLE, Int.reduceLT, Int.reduceAdd, Int.reduceSub, Int.reduceMul, Int.reduceNeg, Int.reduceToNat, io_add, io_sub, io_mul, io_lt, io_le, io_eq, io_lt0, io_le0, io_0lt, io_0le, io_eq0, io_max2, Int.toNat_natCast, Nat.add_zero, Nat.zero_add, up_same, up_slot, up_cell]
end TI
