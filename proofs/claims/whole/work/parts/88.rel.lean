/-! submit with a wide due; section keeps the relation -/
theorem rf_mulw {a b : Int} (ha : -20000000 ≤ a ∧ a ≤ 20000000) (hb : 0 ≤ b ∧ b ≤ 100) : -2000000000 ≤ a * b ∧ a * b ≤ 2000000000 := by
  have h1 : a * b ≤ 20000000 * b := Int.mul_le_mul_of_nonneg_right ha.2 hb.1
  have h2 : -20000000 * b ≤ a * b := Int.mul_le_mul_of_nonneg_right ha.1 hb.1
  omega
section SW
variable {I : sp_I} {d : Nat}
theorem sp_81w (hR : sp_R I) {a : Int} (h : I 8 8 ≠ 0 ∧ I 8 10 ≠ 0 ∧ 1 ≤ a ∧ a ≤ 50 ∧ I 8 14 ≠ 8) (h14 : 0 ≤ I 8 14 ∧ I 8 14 ≤ 8) (h10 : 0 ≤ I 8 10 ∧ I 8 10 ≤ 100) (h11 : 0 ≤ I 8 11 ∧ I 8 11 ≤ 100) (h12 : 0 ≤ I 8 12 ∧ I 8 12 ≤ 100) (hd : -20000000 ≤ I 8 13 - I 8 9 ∧ I 8 13 - I 8 9 ≤ 20000000) : mm_Rn pg_G d 81 0 [.ref 8, io_v a] [] (sp_me I 0 0) (some (io_v 1), sp_me (rf_sb2 (rf_sb1 I) a) 0 0) := by
  obtain ⟨h1, h2, h3, h4, h5⟩ := h
  have m1 := rf_mulw hd h10
  have m2 := rf_mulw (a := I 8 12) (by omega) h11
  have g1 : ¬ a < 1 := by omega
  have g2 : ¬ 50 < a := by omega
  have e14 : rf_sb1 I 8 14 = I 8 14 := by
    unfold rf_sb1
    split
    · rw [up_slot (by decide), up_slot (by decide)]
    · rfl
  have k := sp_81t (d := d) (J := rf_sb1 I) (a := a) (by omega)
  by_cases z : I 8 14 = 0
  · by_cases w : (I 8 13 - I 8 9) * I 8 10 ≤ I 8 12 * I 8 11
    · rw [show rf_sb1 I = up_I (up_I I 8 13 (I 8 9 + I 8 11)) 8 12 (I 8 10) by unfold rf_sb1; rw [if_pos ⟨z, w⟩]] at k ⊢
      have w' : ¬ I 8 12 * I 8 11 < (I 8 13 - I 8 9) * I 8 10 := by omega
      simp (disch := (first | assumption | exact mm_c1_i _ | exact mm_c1_r _ | exact mm_c1_u _ | omega | exact hR _ _ | exact Nat.le_of_ble_eq_true rfl | decide | rfl | exact pb_dec _ | (simp only [sp_n_t, sp_n_j, sp_n_c, sp_n_s, sp_n_k]; assumption) | (simp only [ad_t, ad_a, ad_j, ad_c, ad_s]; omega))) only [st_81_0, sm_81_1, st_81_4, st_81_7, sm_81_8, st_81_11, st_81_14, st_81_15, st_81_16, st_81_19, st_81_20, st_81_22, st_81_25, sm_81_26, st_81_29, st_81_31, st_81_34, st_81_35, st_81_36, sm_81_37, st_81_40, st_81_43, sm_81_44, st_81_47, sm_81_48, st_81_51, st_81_52, sm_81_53, st_81_56, sm_81_57, st_81_60, st_81_61, sm_81_62, st_81_65, st_81_66, st_81_69, st_81_70, sm_81_71, st_81_74, sm_81_75, st_81_78, sm_81_79, st_81_82, st_81_83, sm_81_84, sm_81_87, sm_81_91, st_81_94, sm_81_95, st_81_98, sm_81_99, st_81_100, st_81_101, sm_81_102, st_81_105, st_81_106, sm_81_107, st_81_110, st_81_111, reduceIte, Int.reduceEq, Int.reduceLE, Int.reduceLT, Int.reduceAdd, Int.reduceSub, Int.reduceMul, Int.reduceNeg, Int.reduceToNat, io_add, io_sub, io_mul, io_lt, io_le, io_eq, io_lt0, io_le0, io_0lt, io_0le, io_eq0, io_max2, Int.toNat_natCast, Nat.add_zero, Nat.zero_add, up_same, up_slot, up_cell, h1, h2, g1, g2, h5, z, w']
      exact k
    · rw [show rf_sb1 I = I by unfold rf_sb1; rw [if_neg (fun y => w y.2)]] at k ⊢
      have w' : I 8 12 * I 8 11 < (I 8 13 - I 8 9) * I 8 10 := by omega
      simp (disch := (first | assumption | exact mm_c1_i _ | exact mm_c1_r _ | exact mm_c1_u _ | omega | exact hR _ _ | exact Nat.le_of_ble_eq_true rfl | decide | rfl | exact pb_dec _ | (simp only [sp_n_t, sp_n_j, sp_n_c, sp_n_s, sp_n_k]; assumption) | (simp only [ad_t, ad_a, ad_j, ad_c, ad_s]; omega))) only [st_81_0, sm_81_1, st_81_4, st_81_7, sm_81_8, st_81_11, st_81_14, st_81_15, st_81_16, st_81_19, st_81_20, st_81_22, st_81_25, sm_81_26, st_81_29, st_81_31, st_81_34, st_81_35, st_81_36, sm_81_37, st_81_40, st_81_43, sm_81_44, st_81_47, sm_81_48, st_81_51, st_81_52, sm_81_53, st_81_56, sm_81_57, st_81_60, st_81_61, sm_81_62, st_81_65, st_81_66, st_81_69, st_81_70, sm_81_71, st_81_74, sm_81_75, st_81_78, sm_81_79, st_81_82, st_81_83, sm_81_84, sm_81_87, sm_81_91, st_81_94, sm_81_95, st_81_98, sm_81_99, st_81_100, st_81_101, sm_81_102, st_81_105, st_81_106, sm_81_107, st_81_110, st_81_111, reduceIte, Int.reduceEq, Int.reduceLE, Int.reduceLT, Int.reduceAdd, Int.reduceSub, Int.reduceMul, Int.reduceNeg, Int.reduceToNat, io_add, io_sub, io_mul, io_lt, io_le, io_eq, io_lt0, io_le0, io_0lt, io_0le, io_eq0, io_max2, Int.toNat_natCast, Nat.add_zero, Nat.zero_add, up_same, up_slot, up_cell, h1, h2, g1, g2, h5, z, w']
      exact k
  · rw [show rf_sb1 I = I by unfold rf_sb1; rw [if_neg (fun y => z y.1)]] at k ⊢
    simp (disch := (first | assumption | exact mm_c1_i _ | exact mm_c1_r _ | exact mm_c1_u _ | omega | exact hR _ _ | exact Nat.le_of_ble_eq_true rfl | decide | rfl | exact pb_dec _ | (simp only [sp_n_t, sp_n_j, sp_n_c, sp_n_s, sp_n_k]; assumption) | (simp only [ad_t, ad_a, ad_j, ad_c, ad_s]; omega))) only [st_81_0, sm_81_1, st_81_4, st_81_7, sm_81_8, st_81_11, st_81_14, st_81_15, st_81_16, st_81_19, st_81_20, st_81_22, st_81_25, sm_81_26, st_81_29, st_81_31, st_81_34, st_81_35, st_81_36, sm_81_37, st_81_40, st_81_43, sm_81_44, st_81_47, sm_81_48, st_81_51, st_81_52, sm_81_53, st_81_56, sm_81_57, st_81_60, st_81_61, sm_81_62, st_81_65, st_81_66, st_81_69, st_81_70, sm_81_71, st_81_74, sm_81_75, st_81_78, sm_81_79, st_81_82, st_81_83, sm_81_84, sm_81_87, sm_81_91, st_81_94, sm_81_95, st_81_98, sm_81_99, st_81_100, st_81_101, sm_81_102, st_81_105, st_81_106, sm_81_107, st_81_110, st_81_111, reduceIte, Int.reduceEq, Int.reduceLE, Int.reduceLT, Int.reduceAdd, Int.reduceSub, Int.reduceMul, Int.reduceNeg, Int.reduceToNat, io_add, io_sub, io_mul, io_lt, io_le, io_eq, io_lt0, io_le0, io_0lt, io_0le, io_eq0, io_max2, Int.toNat_natCast, Nat.add_zero, Nat.zero_add, up_same, up_slot, up_cell, h1, h2, g1, g2, h5, z]
    exact k
end SW
theorem pf_max_upd {f g : Nat → Int} {i n : Nat} (hi : i < n) (he : ∀ j, j < n → j ≠ i → g j = f j) (hl : f i ≤ g i) (h0 : 0 ≤ g i) : pf_max n g = max (pf_max n f) (g i) := by
  apply Int.le_antisymm
  · refine pf_max_le n (by have := pf_max_nonneg f n; omega) (fun j hj => ?_)
    by_cases e : j = i
    · subst e; omega
    · rw [he j hj e]; have := pf_max_ge (f := f) hj; omega
  · have h1 := pf_max_ge (f := g) hi
    have h2 : pf_max n f ≤ pf_max n g := pf_max_le n (pf_max_nonneg _ _) (fun j hj => by
      have := pf_max_ge (f := g) hj
      by_cases e : j = i
      · subst e; omega
      · rw [he j hj e] at this; exact this)
    omega
section SC
variable {I J : sp_I} {i : Nat} {r f t : Int}
theorem sec_rl (h : rl I J) (hns : ∀ j, j < sp_n I → I (ad_j j) 1 = 0) (hi : i < sp_n I) (hr : 0 ≤ r ∧ r < 4) (hf : 0 ≤ f ∧ f < t ∧ t ≤ I (ad_t i) 2) (h4 : I (ad_t i) 5 ≠ 4) : rl (cl_sec2 I i r f t) (rf_sec J i r f t) := by
  obtain ⟨hR, hRJ, ⟨hS, hV, ⟨k1, k2, k3, k4, k5⟩, hA, hZ, hD, hF, h1, h2⟩, hm, hC, h5⟩ := rl_split.1 h
  have hn := rl_n6 hS
  have hTi := hS.2.1 i hi
  have hcc := cl_cnt hTi.2.2.1
  have hc : sp_c I i < 4 := by omega
  have e12 : (J 12 i).toNat = sp_c I i := by rw [← hTi.1.2.2.2]; rfl
  have o : ∀ u v, u ≠ ad_s i (sp_c I i) → ¬ (u = ad_t i ∧ v = 5) → ¬ (u = 2 ∧ v = r.toNat) → cl_sec2 I i r f t u v = I u v := fun u v a b c => by
    unfold cl_sec2
    rw [show up_I (cl_sec I i r f t) 2 r.toNat (max (I 2 r.toNat) (101 - I (ad_t i) 1)) u v = cl_sec I i r f t u v by unfold up_I; rw [if_neg c]]
    exact cl_sec_o r f t a b
  have o0 : ∀ u v, u < 32 → u ≠ 2 → cl_sec2 I i r f t u v = I u v := fun u v a b => o u v (by unfold ad_s; omega) (by unfold ad_t; omega) (by omega)
  have ot : ∀ j v, ¬ (j = i ∧ v = 5) → cl_sec2 I i r f t (ad_t j) v = I (ad_t j) v := fun j v e => o _ _ (by unfold ad_s ad_t; omega) (fun z => e ⟨ad_tt z.1, z.2⟩) (by unfold ad_t; omega)
  have oj : ∀ j v, cl_sec2 I i r f t (ad_j j) v = I (ad_j j) v := fun j v => o _ _ (by unfold ad_s ad_j; omega) (by unfold ad_t ad_j; omega) (by unfold ad_j; omega)
  have oc : ∀ j v, cl_sec2 I i r f t (ad_c j) v = I (ad_c j) v := fun j v => o _ _ (by unfold ad_s ad_c; omega) (by unfold ad_t ad_c; omega) (by unfold ad_c; omega)
  have os : ∀ j k v, k < 4 → ¬ (j = i ∧ k = sp_c I i) → cl_sec2 I i r f t (ad_s j k) v = I (ad_s j k) v := fun j k v hk e => o _ _ (by unfold ad_s; omega) (by unfold ad_s ad_t; omega) (by unfold ad_s; omega)
  have ns : ∀ v, cl_sec2 I i r f t (ad_s i (sp_c I i)) v = if v = 0 then r else if v = 1 then f else if v = 2 then t else 0 := fun v => by
    unfold cl_sec2; rw [up_cell (by unfold ad_s; omega)]; unfold cl_sec; rw [if_pos rfl]
  have nt5 : cl_sec2 I i r f t (ad_t i) 5 = I (ad_t i) 5 + 1 := by
    unfold cl_sec2; rw [up_cell (by unfold ad_t; omega)]; unfold cl_sec; rw [if_neg (by unfold ad_t ad_s; omega), if_pos ⟨rfl, rfl⟩]
  have n2 : ∀ v, cl_sec2 I i r f t 2 v = if v = r.toNat then max (I 2 r.toNat) (101 - I (ad_t i) 1) else I 2 v := fun v => by
    unfold cl_sec2; rw [up_if, cl_sec_o r f t (by unfold ad_s; omega) (by unfold ad_t; omega)]
  have ro : ∀ u v, ¬ ((u = 13 ∨ u = 14 ∨ u = 15) ∧ v = 4 * i + sp_c I i) → ¬ (u = 12 ∧ v = i) → rf_sec J i r f t u v = J u v := fun u v a b => by
    unfold rf_sec up_I
    rw [e12, if_neg b, if_neg (by omega), if_neg (by omega), if_neg (by omega)]
  have r13 : rf_sec J i r f t 13 (4 * i + sp_c I i) = r := by unfold rf_sec; rw [e12, up_cell (by decide), up_cell (by decide), up_cell (by decide), up_same]
  have r14 : rf_sec J i r f t 14 (4 * i + sp_c I i) = f := by unfold rf_sec; rw [e12, up_cell (by decide), up_cell (by decide), up_same]
  have r15 : rf_sec J i r f t 15 (4 * i + sp_c I i) = t := by unfold rf_sec; rw [e12, up_cell (by decide), up_same]
  have r12 : rf_sec J i r f t 12 i = J 12 i + 1 := by unfold rf_sec; rw [up_same]
  have en : sp_n (cl_sec2 I i r f t) = sp_n I := by unfold sp_n; rw [o0 0 4 (by decide) (by decide)]
  have ec : ∀ j, j ≠ i → sp_c (cl_sec2 I i r f t) j = sp_c I j := fun j e => by unfold sp_c; rw [ot j 5 (fun z => e z.1)]
  have eci : sp_c (cl_sec2 I i r f t) i = sp_c I i + 1 := by unfold sp_c; rw [nt5]; omega
  have e51 : cl_sec2 I i r f t 5 1 = I 5 1 := o0 5 1 (by decide) (by decide)
  have np0 : ∀ j, j < sp_n I → ¬ cl_pend I j := fun j hj z => by unfold cl_pend at z; have := (hA j hj).1.2.1; have := hns j hj; omega
  have np : ∀ j, j < sp_n I → ¬ cl_pend (cl_sec2 I i r f t) j := fun j hj z => by unfold cl_pend at z; rw [oj, oj] at z; exact np0 j hj z
  have na0 : ∀ j, j < sp_n I → ¬ cl_any I j := fun j hj ⟨k, _, z⟩ => np0 j hj z.1
  have na : ∀ j, j < sp_n I → ¬ cl_any (cl_sec2 I i r f t) j := fun j hj ⟨k, _, z⟩ => np j hj z.1
  have hP := hTi.2.1
  have hce : ∀ q : Nat, q < 4 → cl_sec2 I i r f t 2 q = rf_ce (rf_sec J i r f t) q := fun q hq => by
    have e1 : rf_n (rf_sec J i r f t) = sp_n I := by rw [← rl_n hS]; unfold rf_n; rw [ro 8 0 (by omega) (by omega)]
    have ej : ∀ j, j < sp_n I → j ≠ i → rf_cv (rf_sec J i r f t) q j = rf_cv J q j := fun j hj e => by
      have hp4 := rl_p (hS.2.1 j hj)
      have hc4 := (cl_cnt (hS.2.1 j hj).2.2.1).2
      unfold rf_cv
      have : rf_p (rf_sec J i r f t) j = rf_p J j := by unfold rf_p; rw [ro 12 j (by omega) (by omega)]
      rw [this, ro 10 j (by omega) (by omega)]
      congr 1
      refine pb_iff ⟨fun ⟨k, a, b⟩ => ⟨k, a, ?_⟩, fun ⟨k, a, b⟩ => ⟨k, a, ?_⟩⟩
      · rw [ro 13 _ (by omega) (by omega)] at b; exact b
      · rw [ro 13 _ (by omega) (by omega)]; exact b
    have pi : rf_p (rf_sec J i r f t) i = sp_c I i + 1 := by unfold rf_p; rw [r12, ← hTi.1.2.2.2]; omega
    have ei : rf_cv (rf_sec J i r f t) q i = pb_z ((∃ k, k < rf_p J i ∧ J 13 (4 * i + k) = q) ∨ r = q) * (101 - J 10 i) := by
      unfold rf_cv
      rw [pi, ro 10 i (by omega) (by omega)]
      congr 1
      refine pb_iff ⟨fun ⟨k, a, b⟩ => ?_, fun z => ?_⟩
      · by_cases e : k = sp_c I i
        · rw [e, r13] at b; exact Or.inr b
        · rw [ro 13 _ (by omega) (by omega)] at b
          exact Or.inl ⟨k, by rw [rl_p hTi]; omega, b⟩
      · rcases z with ⟨k, a, b⟩ | z
        · rw [rl_p hTi] at a
          exact ⟨k, by omega, by rw [ro 13 _ (by omega) (by omega)]; exact b⟩
        · exact ⟨sp_c I i, by omega, by rw [r13]; exact z⟩
    have old := hS.2.2.2.2 q hq
    unfold rf_ce at old ⊢
    rw [rl_n hS] at old
    rw [e1, n2]
    have t10 := hTi.1.2.1
    by_cases e : q = r.toNat
    · have er : r = q := by omega
      rw [pb_pos (Or.inr er), Int.one_mul] at ei
      rw [if_pos e, pf_max_upd (f := rf_cv J q) hi ej (by rw [ei]; unfold rf_cv; have := pb_rng (∃ k, k < rf_p J i ∧ J 13 (4 * i + k) = q); rcases pb_01 (∃ k, k < rf_p J i ∧ J 13 (4 * i + k) = q) with y | y <;> rw [y] <;> omega) (by rw [ei]; omega), ei, ← old, ← e, t10]
    · have er : ¬ r = q := by omega
      rw [if_neg e, old]
      refine pf_max_congr _ (fun j hj => ?_)
      by_cases e2 : j = i
      · subst e2
        rw [ei]
        unfold rf_cv
        congr 1
        exact pb_iff ⟨fun z => Or.inl z, fun z => by rcases z with z | z; exact z; exact absurd z er⟩
      · exact (ej j hj e2).symm
  have hS' : rl_S (cl_sec2 I i r f t) (rf_sec J i r f t) := by
    refine ⟨⟨by rw [o0 0 4 (by decide) (by decide)]; exact hS.1.1, by rw [o0 0 4 (by decide) (by decide), ro 8 0 (by omega) (by omega)]; exact hS.1.2⟩, fun j hj => ?_, fun j a b => ?_, fun k hk => ?_, hce⟩
    · rw [en] at hj
      by_cases e : j = i
      · subst e
        obtain ⟨t1, t2, t3, t4, t5⟩ := hTi
        refine ⟨?_, ?_, ?_, fun k hk => ?_, fun k hk => ?_⟩
        · rw [ot j 0 (by omega), ot j 1 (by omega), ot j 2 (by omega), nt5, ro 9 j (by omega) (by omega), ro 10 j (by omega) (by omega), ro 11 j (by omega) (by omega), r12, t1.2.2.2]
          exact ⟨t1.1, t1.2.1, t1.2.2.1, rfl⟩
        · rw [ot j 0 (by omega), ot j 1 (by omega), ot j 2 (by omega)]; exact t2
        · unfold cl_S; rw [nt5]; omega
        · rw [eci] at hk
          by_cases e : k = sp_c I j
          · subst e; rw [ns, ns, ns]; show (0 ≤ r ∧ r < 4) ∧ 0 ≤ f ∧ f < t ∧ t ≤ 100; omega
          · rw [os j k 0 (by omega) (by omega), os j k 1 (by omega) (by omega), os j k 2 (by omega) (by omega)]; exact t4 k (by omega)
        · rw [eci] at hk
          by_cases e : k = sp_c I j
          · subst e; rw [ns, ns, ns, r13, r14, r15]; exact ⟨rfl, rfl, rfl⟩
          · rw [os j k 0 (by omega) (by omega), os j k 1 (by omega) (by omega), os j k 2 (by omega) (by omega), ro 13 _ (by omega) (by omega), ro 14 _ (by omega) (by omega), ro 15 _ (by omega) (by omega)]; exact t5 k (by omega)
      · obtain ⟨t1, t2, t3, t4, t5⟩ := hS.2.1 j hj
        have hc4 := (cl_cnt t3).2
        refine ⟨?_, ?_, ?_, fun k hk => ?_, fun k hk => ?_⟩
        · rw [ot j 0 (by omega), ot j 1 (by omega), ot j 2 (by omega), ot j 5 (by omega), ro 9 j (by omega) (by omega), ro 10 j (by omega) (by omega), ro 11 j (by omega) (by omega), ro 12 j (by omega) (by omega)]; exact t1
        · rw [ot j 0 (by omega), ot j 1 (by omega), ot j 2 (by omega)]; exact t2
        · unfold cl_S; rw [ot j 5 (by omega)]; exact t3
        · rw [ec j e] at hk
          rw [os j k 0 (by omega) (by omega), os j k 1 (by omega) (by omega), os j k 2 (by omega) (by omega)]; exact t4 k hk
        · rw [ec j e] at hk
          rw [os j k 0 (by omega) (by omega), os j k 1 (by omega) (by omega), os j k 2 (by omega) (by omega), ro 13 _ (by omega) (by omega), ro 14 _ (by omega) (by omega), ro 15 _ (by omega) (by omega)]; exact t5 k hk
    · rw [en] at a
      rw [ro 12 j (by omega) (by omega), ro 10 j (by omega) (by omega)]; exact hS.2.2.1 j a b
    · have q := hS.2.2.2.1 k hk
      by_cases e : k = 4 * i + sp_c I i
      · subst e; rw [r13, r14, r15]; omega
      · rw [ro 13 k (by omega) (by omega), ro 14 k (by omega) (by omega), ro 15 k (by omega) (by omega)]; exact q
  refine rl_split.2 ⟨fun u v => ?_, ?_, ?_, ⟨fun j hj => ?_, fun j a b => ?_⟩, ?_, by rw [e51]; exact h5⟩
  · by_cases u1 : u = ad_s i (sp_c I i)
    · subst u1; rw [ns]; repeat' split
      all_goals omega
    · by_cases u2 : u = ad_t i ∧ v = 5
      · rw [u2.1, u2.2, nt5]; omega
      · by_cases u3 : u = 2 ∧ v = r.toNat
        · rw [u3.1, u3.2, n2, if_pos rfl]; have := hR 2 r.toNat; omega
        · rw [o u v u1 u2 u3]; exact hR u v
  · unfold rf_sec
    exact sp_Rup (sp_Rup (sp_Rup (sp_Rup hRJ (by omega)) (by omega)) (by omega)) (by have := hTi.1.2.2.2; omega)
  · rw [e51]
    refine ⟨hS', ?_, ?_, fun j hj => ?_, fun j a b => ?_, ?_, ?_, ?_, ?_⟩
    · exact (rlV_co (fun v => o0 3 v (by decide) (by decide)) (fun v => o0 4 v (by decide) (by decide)) (fun v q => ro 8 v (by omega) (by omega)) (fun v => ro 16 v (by omega) (by omega))).2 hV
    · unfold rl_K'
      rw [o0 0 5 (by decide) (by decide), o0 0 6 (by decide) (by decide), o0 0 7 (by decide) (by decide), ro 8 8 (by omega) (by omega), ro 8 29 (by omega) (by omega), ro 8 30 (by omega) (by omega), ro 8 28 (by omega) (by omega)]
      exact ⟨k1, k2, k3, k4, k5⟩
    · rw [en] at hj
      obtain ⟨aJ, aL, ⟨p1, p2, p3, p4, p5, p6⟩⟩ := hA j hj
      have z22 := p4 (na0 j hj)
      unfold rl_J rl_L rl_P
      rw [oj, oj, oj, oj, oj, oj, ot j 7 (by omega), ot j 8 (by omega), ot j 9 (by omega), ro 19 _ (by omega) (by omega), ro 20 _ (by omega) (by omega), ro 18 _ (by omega) (by omega), ro 23 _ (by omega) (by omega), ro 21 _ (by omega) (by omega), ro 17 _ (by omega) (by omega), ro 26 _ (by omega) (by omega), ro 22 _ (by omega) (by omega), ro 8 28 (by omega) (by omega), ro 10 _ (by omega) (by omega)]
      simp only [oc]
      exact ⟨aJ, aL, ⟨p1, p2, fun z => absurd z (na j hj), fun _ => z22, p5, p6⟩⟩
    · rw [en] at a
      unfold rl_Z'
      rw [ro 19 _ (by omega) (by omega), ro 20 _ (by omega) (by omega), ro 18 _ (by omega) (by omega), ro 23 _ (by omega) (by omega), ro 21 _ (by omega) (by omega), ro 17 _ (by omega) (by omega), ro 26 _ (by omega) (by omega), ro 22 _ (by omega) (by omega)]
      exact hZ j a b
    · intro j b hj hb pj1 bb bfb
      rw [en] at hj
      exact absurd pj1 (np j hj)
    · intro x y hx hy hxy z22
      rw [en] at hx hy
      rw [ro 22 _ (by omega) (by omega)] at z22
      rw [ro 22 _ (by omega) (by omega), ro 22 _ (by omega) (by omega)]
      exact hF x y hx hy hxy z22
    · intro j x hj hx bj px nx bfb
      rw [en] at hj
      exact absurd bj.1 (np j hj)
    · intro x y hx hy bx by' bfb k hk hh
      rw [en] at hx
      exact absurd bx.1 (np x hx)
  · rw [en] at hj
    rw [e51, ot j 6 (by omega), ro 25 _ (by omega) (by omega)]; exact hm.1 j hj
  · rw [en] at a
    rw [ro 25 _ (by omega) (by omega)]; exact hm.2 j a b
  · obtain ⟨⟨q1, q2, q3, q4⟩, q5, q6, q7⟩ := hC
    unfold rl_C
    rw [e51, o0 5 2 (by decide) (by decide), o0 5 3 (by decide) (by decide), ro 8 9 (by omega) (by omega), ro 8 33 (by omega) (by omega), ro 8 31 (by omega) (by omega), ro 8 32 (by omega) (by omega)]
    refine ⟨⟨q1, q2, q3, q4⟩, q5, q6, fun k hk => ?_⟩
    rw [o0 6 k (by decide) (by decide), ro 27 k (by omega) (by omega)]
    exact q7 k hk
end SC
