/-! the reference's tick and step -/
def rf_cd (x : Int) : Int := if x < 0 then 0 else if x = 6 then 1 else 2 + x
noncomputable def rf_t1 (I : sp_I) : sp_I := if rf_ch I < 0 then I else if rf_ch I = 6 then rf_s3 (rf_s2 I) else rf_w6 I (rf_ch I).toNat
noncomputable def rf_tf (I : sp_I) : Int := if rf_ch I < 0 then 0 else if rf_ch I = 6 then pb_z (I 16 0 - 1 = 0) else pb_z (I 20 (rf_ch I).toNat + 1 = I 19 (rf_ch I).toNat)
def rf_t2 (J : sp_I) (x : Int) : sp_I := if x < 0 then up_I J 8 31 (J 8 31 + 1) else J
def rf_t3 (J : sp_I) (c : Int) : sp_I := if 0 < J 8 33 ∧ J 27 ((J 8 33 - 1) % 64).toNat ≠ c then up_I J 8 32 (J 8 32 + 1) else J
def rf_t4 (J : sp_I) (c : Int) : sp_I := up_I (up_I (up_I J 27 (J 8 33 % 64).toNat c) 8 33 (J 8 33 + 1)) 8 9 (J 8 9 + 1)
noncomputable def rf_tm (J : sp_I) : Nat → sp_I
  | 0 => J
  | q + 1 => @ite _ (rf_tm J q 17 q = 1 ∧ rf_tm J q 18 q + rf_tm J q 10 q = rf_tm J q 8 9) (Classical.propDecidable _) (up_I (rf_tm J q) 25 q (rf_tm J q 25 q + 1)) (rf_tm J q)
noncomputable def rf_m2 (I : sp_I) : sp_I := rf_t4 (rf_t3 (rf_t2 (rf_t1 I) (rf_ch I)) (rf_cd (rf_ch I))) (rf_cd (rf_ch I))
noncomputable def rf_mt (I : sp_I) : sp_I := rf_tm (rf_m2 I) (rf_n (rf_m2 I))
theorem rf_tm_out {J : sp_I} {u v : Nat} (h : u ≠ 25) : ∀ q, rf_tm J q u v = J u v
  | 0 => rfl
  | q + 1 => by
    rw [rf_tm]
    split
    · rw [up_cell h]; exact rf_tm_out h q
    · exact rf_tm_out h q
theorem rf_tm_at {J : sp_I} {v : Nat} : ∀ q, q ≤ v → rf_tm J q 25 v = J 25 v
  | 0, _ => rfl
  | q + 1, h => by
    rw [rf_tm]
    split
    · rw [up_slot (by omega)]; exact rf_tm_at q (by omega)
    · exact rf_tm_at q (by omega)
def rf_N3 (J : sp_I) : Prop := sp_R J ∧ rf_W J ∧ (0 ≤ J 8 9 ∧ J 8 9 ≤ 1000000) ∧ (0 ≤ J 8 31 ∧ J 8 31 ≤ 1000000) ∧ (0 ≤ J 8 32 ∧ J 8 32 ≤ 1000000) ∧ (0 ≤ J 8 33 ∧ J 8 33 ≤ 1000000) ∧ ∀ i, i < 6 → 0 ≤ J 25 i ∧ J 25 i ≤ 1000000
theorem rf_tm_R {J : sp_I} (hR : sp_R J) (h25 : ∀ i, i < 6 → 0 ≤ J 25 i ∧ J 25 i ≤ 1000000) : ∀ q, q ≤ 6 → sp_R (rf_tm J q)
  | 0, _ => hR
  | q + 1, h => by
    have ih := rf_tm_R hR h25 q (by omega)
    rw [rf_tm]
    split
    · refine sp_Rup ih ?_
      rw [rf_tm_at q (by omega)]
      have := h25 q (by omega)
      omega
    · exact ih
section RT
variable {I : sp_I} {d : Nat}
theorem sp_94l {J : sp_I} (hR : sp_R J) (hW : rf_W J) (h25 : ∀ i, i < 6 → 0 ≤ J 25 i ∧ J 25 i ≤ 1000000) {x f c : Int} : ∀ m q : Nat, q + m = rf_n J → mm_Rn pg_G d 94 139 [.ref 8, io_v x, io_v f, io_v c, io_v q] [] (sp_me (rf_tm J q) 0 0) (some (io_v f), sp_me (rf_tm J (rf_n J)) 0 0)
  | 0, q, hm => by
    have hn := rf_N hW
    have e0 : rf_tm J q 8 0 = J 8 0 := rf_tm_out (by decide) q
    have hRK := rf_tm_R hR h25 q (by omega)
    rw [st_94_139, show rf_n J = q by omega]
    generalize rf_tm J q = K at *
    have hR := hRK
    simp (disch := (first | assumption | exact mm_c1_i _ | exact mm_c1_r _ | exact mm_c1_u _ | omega | exact hR _ _ | exact Nat.le_of_ble_eq_true rfl | decide | rfl | exact pb_dec _)) only [st_94_0, st_94_4, st_94_5, st_94_6, st_94_9, st_94_10, st_94_13, st_94_14, st_94_16, st_94_19, st_94_23, st_94_26, st_94_27, st_94_31, st_94_32, st_94_33, st_94_36, st_94_37, st_94_40, st_94_41, st_94_43, st_94_46, st_94_47, st_94_50, st_94_51, st_94_52, st_94_53, st_94_54, st_94_55, st_94_58, st_94_59, sm_94_60, st_94_63, st_94_64, sm_94_65, st_94_68, sm_94_69, st_94_72, st_94_75, sm_94_76, st_94_79, sm_94_80, st_94_83, st_94_84, st_94_85, st_94_87, sm_94_88, st_94_89, st_94_90, st_94_93, st_94_94, sm_94_95, st_94_98, st_94_99, sm_94_100, st_94_103, sm_94_104, st_94_107, sm_94_108, st_94_111, st_94_113, st_94_114, sm_94_115, st_94_116, st_94_117, sm_94_118, st_94_121, st_94_122, sm_94_123, st_94_126, st_94_127, sm_94_128, st_94_131, st_94_132, sm_94_133, st_94_136, st_94_137, st_94_141, sm_94_142, st_94_145, st_94_148, sm_94_149, st_94_152, sm_94_154, st_94_155, st_94_156, st_94_159, sm_94_160, st_94_163, sm_94_165, st_94_166, sm_94_167, st_94_170, sm_94_172, st_94_173, st_94_174, sm_94_175, st_94_178, st_94_181, sm_94_182, st_94_185, st_94_187, sm_94_188, st_94_189, st_94_190, sm_94_191, st_94_192, st_94_195, st_94_198, st_94_199, reduceIte, Int.reduceEq, Int.reduceLE, Int.reduceLT, Int.reduceAdd, Int.reduceSub, Int.reduceMul, Int.reduceNeg, Int.reduceToNat, io_add, io_sub, io_mul, io_lt, io_le, io_eq, io_lt0, io_le0, io_0lt, io_0le, io_eq0, io_max2, Int.toNat_natCast, Nat.add_zero, Nat.zero_add]
    rw [if_pos (by omega)]; trivial
  | m + 1, q, hm => by
    have hn := rf_N hW
    have e0 : rf_tm J q 8 0 = J 8 0 := rf_tm_out (by decide) q
    have e18 : rf_tm J q 18 q = J 18 q := rf_tm_out (by decide) q
    have e10 : rf_tm J q 10 q = J 10 q := rf_tm_out (by decide) q
    have e25 : rf_tm J q 25 q = J 25 q := rf_tm_at q (by omega)
    have hRK := rf_tm_R hR h25 q (by omega)
    have hw := hW.2.1 q (by omega)
    have h5 := h25 q (by omega)
    have ih := sp_94l hR hW h25 (x := x) (f := f) (c := c) m (q + 1) (by omega)
    rw [rf_tm] at ih
    generalize rf_tm J q = K at *
    have hR := hRK
    have hi : q < 6 := by omega
    rw [st_94_139]
    simp (disch := (first | assumption | exact mm_c1_i _ | exact mm_c1_r _ | exact mm_c1_u _ | omega | exact hR _ _ | exact Nat.le_of_ble_eq_true rfl | decide | rfl | exact pb_dec _)) only [st_94_0, st_94_4, st_94_5, st_94_6, st_94_9, st_94_10, st_94_13, st_94_14, st_94_16, st_94_19, st_94_23, st_94_26, st_94_27, st_94_31, st_94_32, st_94_33, st_94_36, st_94_37, st_94_40, st_94_41, st_94_43, st_94_46, st_94_47, st_94_50, st_94_51, st_94_52, st_94_53, st_94_54, st_94_55, st_94_58, st_94_59, sm_94_60, st_94_63, st_94_64, sm_94_65, st_94_68, sm_94_69, st_94_72, st_94_75, sm_94_76, st_94_79, sm_94_80, st_94_83, st_94_84, st_94_85, st_94_87, sm_94_88, st_94_89, st_94_90, st_94_93, st_94_94, sm_94_95, st_94_98, st_94_99, sm_94_100, st_94_103, sm_94_104, st_94_107, sm_94_108, st_94_111, st_94_113, st_94_114, sm_94_115, st_94_116, st_94_117, sm_94_118, st_94_121, st_94_122, sm_94_123, st_94_126, st_94_127, sm_94_128, st_94_131, st_94_132, sm_94_133, st_94_136, st_94_137, st_94_141, sm_94_142, st_94_145, st_94_148, sm_94_149, st_94_152, sm_94_154, st_94_155, st_94_156, st_94_159, sm_94_160, st_94_163, sm_94_165, st_94_166, sm_94_167, st_94_170, sm_94_172, st_94_173, st_94_174, sm_94_175, st_94_178, st_94_181, sm_94_182, st_94_185, st_94_187, sm_94_188, st_94_189, st_94_190, sm_94_191, st_94_192, st_94_195, st_94_198, st_94_199, reduceIte, Int.reduceEq, Int.reduceLE, Int.reduceLT, Int.reduceAdd, Int.reduceSub, Int.reduceMul, Int.reduceNeg, Int.reduceToNat, io_add, io_sub, io_mul, io_lt, io_le, io_eq, io_lt0, io_le0, io_0lt, io_0le, io_eq0, io_max2, Int.toNat_natCast, Nat.add_zero, Nat.zero_add]
    rw [if_neg (by omega)]
    by_cases h1 : K 17 q = 1
    · by_cases h2 : K 18 q + K 10 q = K 8 9
      · rw [if_pos ⟨h1, h2⟩] at ih
        rw [if_pos h1, if_pos h2]
        exact ih
      · rw [if_neg (fun z => h2 z.2)] at ih
        rw [if_pos h1, if_neg h2]
        exact ih
    · rw [if_neg (fun z => h1 z.1)] at ih
      rw [if_neg h1]
      exact ih
/-- the change is noted, the code is written -/
theorem rf_t4_W {J : sp_I} (hW : rf_W J) (c : Int) : rf_W (rf_t4 J c) :=
  rf_W_congr (fun u v h => by
    unfold rf_t4 up_I
    rw [if_neg (by omega), if_neg (by omega), if_neg (by omega)]) hW
theorem rf_t4_n {J : sp_I} (c : Int) : rf_n (rf_t4 J c) = rf_n J := by
  unfold rf_n rf_t4 up_I
  rw [if_neg (by omega), if_neg (by omega), if_neg (by omega)]
theorem rf_t4_25 {J : sp_I} (c : Int) (i : Nat) : rf_t4 J c 25 i = J 25 i := by
  unfold rf_t4 up_I
  rw [if_neg (by omega), if_neg (by omega), if_neg (by omega)]
theorem sp_94c {J : sp_I} (hN : rf_N3 J) {x f c : Int} (hc : 0 ≤ c ∧ c ≤ 8) : mm_Rn pg_G d 94 103 [.ref 8, io_v x, io_v f, io_v c, .retAddr 0] [] (sp_me J 0 0) (some (io_v f), sp_me (rf_tm (rf_t4 J c) (rf_n (rf_t4 J c))) 0 0) := by
  obtain ⟨hR, hW, h9, h31, h32, h33, h25⟩ := hN
  have hRc : sp_R (rf_t4 J c) := sp_Rup (sp_Rup (sp_Rup hR (by omega)) (by omega)) (by omega)
  have k := sp_94l (d := d) (J := rf_t4 J c) hRc (rf_t4_W hW c) (fun i hi => by rw [rf_t4_25]; exact h25 i hi) (x := x) (f := f) (c := c) (rf_n (rf_t4 J c)) 0 (by omega)
  rw [rf_tm] at k
  rw [show rf_t4 J c = up_I (up_I (up_I J 27 (J 8 33 % 64).toNat c) 8 33 (J 8 33 + 1)) 8 9 (J 8 9 + 1) from rfl] at k ⊢
  simp (disch := (first | assumption | exact mm_c1_i _ | exact mm_c1_r _ | exact mm_c1_u _ | omega | exact hR _ _ | exact Nat.le_of_ble_eq_true rfl | decide | rfl | exact pb_dec _ | (simp only [sp_n_t, sp_n_j, sp_n_c, sp_n_s, sp_n_k]; assumption) | (simp only [ad_t, ad_a, ad_j, ad_c, ad_s]; omega))) only [st_94_0, st_94_4, st_94_5, st_94_6, st_94_9, st_94_10, st_94_13, st_94_14, st_94_16, st_94_19, st_94_23, st_94_26, st_94_27, st_94_31, st_94_32, st_94_33, st_94_36, st_94_37, st_94_40, st_94_41, st_94_43, st_94_46, st_94_47, st_94_50, st_94_51, st_94_52, st_94_53, st_94_54, st_94_55, st_94_58, st_94_59, sm_94_60, st_94_63, st_94_64, sm_94_65, st_94_68, sm_94_69, st_94_72, st_94_75, sm_94_76, st_94_79, sm_94_80, st_94_83, st_94_84, st_94_85, st_94_87, sm_94_88, st_94_89, st_94_90, st_94_93, st_94_94, sm_94_95, st_94_98, st_94_99, sm_94_100, st_94_103, sm_94_104, st_94_107, sm_94_108, st_94_111, st_94_113, st_94_114, sm_94_115, st_94_116, st_94_117, sm_94_118, st_94_121, st_94_122, sm_94_123, st_94_126, st_94_127, sm_94_128, st_94_131, st_94_132, sm_94_133, st_94_136, st_94_137, st_94_141, sm_94_142, st_94_145, st_94_148, sm_94_149, st_94_152, sm_94_154, st_94_155, st_94_156, st_94_159, sm_94_160, st_94_163, sm_94_165, st_94_166, sm_94_167, st_94_170, sm_94_172, st_94_173, st_94_174, sm_94_175, st_94_178, st_94_181, sm_94_182, st_94_185, st_94_187, sm_94_188, st_94_189, st_94_190, sm_94_191, st_94_192, st_94_195, st_94_198, st_94_199, reduceIte, Int.reduceEq, Int.reduceLE, Int.reduceLT, Int.reduceAdd, Int.reduceSub, Int.reduceMul, Int.reduceNeg, Int.reduceToNat, io_add, io_sub, io_mul, io_lt, io_le, io_eq, io_lt0, io_le0, io_0lt, io_0le, io_eq0, io_max2, Int.toNat_natCast, Nat.add_zero, Nat.zero_add, up_same, up_slot, up_cell, io_and63 (show 0 ≤ J 8 33 ∧ J 8 33 < 2147483648 by omega)]
  exact k
theorem sp_94b {J : sp_I} (hN : rf_N3 J) (hN2 : ∀ c, rf_N3 (rf_t3 J c)) {x f c : Int} (hc : 0 ≤ c ∧ c ≤ 8) : mm_Rn pg_G d 94 68 [.ref 8, io_v x, io_v f, io_v c, .retAddr 0] [] (sp_me J 0 0) (some (io_v f), sp_me (rf_tm (rf_t4 (rf_t3 J c) c) (rf_n (rf_t4 (rf_t3 J c) c))) 0 0) := by
  have k := sp_94c (d := d) (hN2 c) (x := x) (f := f) hc
  obtain ⟨hR, hW, h9, h31, h32, h33, h25⟩ := hN
  by_cases h0 : J 8 33 ≤ 0
  · rw [show rf_t3 J c = J by unfold rf_t3; rw [if_neg (fun z => by omega)]] at k ⊢
    simp (disch := (first | assumption | exact mm_c1_i _ | exact mm_c1_r _ | exact mm_c1_u _ | omega | exact hR _ _ | exact Nat.le_of_ble_eq_true rfl | decide | rfl | exact pb_dec _ | (simp only [sp_n_t, sp_n_j, sp_n_c, sp_n_s, sp_n_k]; assumption) | (simp only [ad_t, ad_a, ad_j, ad_c, ad_s]; omega))) only [st_94_0, st_94_4, st_94_5, st_94_6, st_94_9, st_94_10, st_94_13, st_94_14, st_94_16, st_94_19, st_94_23, st_94_26, st_94_27, st_94_31, st_94_32, st_94_33, st_94_36, st_94_37, st_94_40, st_94_41, st_94_43, st_94_46, st_94_47, st_94_50, st_94_51, st_94_52, st_94_53, st_94_54, st_94_55, st_94_58, st_94_59, sm_94_60, st_94_63, st_94_64, sm_94_65, st_94_68, sm_94_69, st_94_72, st_94_75, sm_94_76, st_94_79, sm_94_80, st_94_83, st_94_84, st_94_85, st_94_87, sm_94_88, st_94_89, st_94_90, st_94_93, st_94_94, sm_94_95, st_94_98, st_94_99, sm_94_100, sm_94_104, st_94_107, sm_94_108, st_94_111, st_94_113, st_94_114, sm_94_115, st_94_116, st_94_117, sm_94_118, st_94_121, st_94_122, sm_94_123, st_94_126, st_94_127, sm_94_128, st_94_131, st_94_132, sm_94_133, st_94_136, st_94_137, st_94_139, st_94_141, sm_94_142, st_94_145, st_94_148, sm_94_149, st_94_152, sm_94_154, st_94_155, st_94_156, st_94_159, sm_94_160, st_94_163, sm_94_165, st_94_166, sm_94_167, st_94_170, sm_94_172, st_94_173, st_94_174, sm_94_175, st_94_178, st_94_181, sm_94_182, st_94_185, st_94_187, sm_94_188, st_94_189, st_94_190, sm_94_191, st_94_192, st_94_195, st_94_198, st_94_199, reduceIte, Int.reduceEq, Int.reduceLE, Int.reduceLT, Int.reduceAdd, Int.reduceSub, Int.reduceMul, Int.reduceNeg, Int.reduceToNat, io_add, io_sub, io_mul, io_lt, io_le, io_eq, io_lt0, io_le0, io_0lt, io_0le, io_eq0, io_max2, Int.toNat_natCast, Nat.add_zero, Nat.zero_add, up_same, up_slot, up_cell, h0]
    exact k
  · by_cases h1 : J 27 ((J 8 33 - 1) % 64).toNat = c
    · rw [show rf_t3 J c = J by unfold rf_t3; rw [if_neg (fun z => z.2 h1)]] at k ⊢
      simp (disch := (first | assumption | exact mm_c1_i _ | exact mm_c1_r _ | exact mm_c1_u _ | omega | exact hR _ _ | exact Nat.le_of_ble_eq_true rfl | decide | rfl | exact pb_dec _ | (simp only [sp_n_t, sp_n_j, sp_n_c, sp_n_s, sp_n_k]; assumption) | (simp only [ad_t, ad_a, ad_j, ad_c, ad_s]; omega))) only [st_94_0, st_94_4, st_94_5, st_94_6, st_94_9, st_94_10, st_94_13, st_94_14, st_94_16, st_94_19, st_94_23, st_94_26, st_94_27, st_94_31, st_94_32, st_94_33, st_94_36, st_94_37, st_94_40, st_94_41, st_94_43, st_94_46, st_94_47, st_94_50, st_94_51, st_94_52, st_94_53, st_94_54, st_94_55, st_94_58, st_94_59, sm_94_60, st_94_63, st_94_64, sm_94_65, st_94_68, sm_94_69, st_94_72, st_94_75, sm_94_76, st_94_79, sm_94_80, st_94_83, st_94_84, st_94_85, st_94_87, sm_94_88, st_94_89, st_94_90, st_94_93, st_94_94, sm_94_95, st_94_98, st_94_99, sm_94_100, sm_94_104, st_94_107, sm_94_108, st_94_111, st_94_113, st_94_114, sm_94_115, st_94_116, st_94_117, sm_94_118, st_94_121, st_94_122, sm_94_123, st_94_126, st_94_127, sm_94_128, st_94_131, st_94_132, sm_94_133, st_94_136, st_94_137, st_94_139, st_94_141, sm_94_142, st_94_145, st_94_148, sm_94_149, st_94_152, sm_94_154, st_94_155, st_94_156, st_94_159, sm_94_160, st_94_163, sm_94_165, st_94_166, sm_94_167, st_94_170, sm_94_172, st_94_173, st_94_174, sm_94_175, st_94_178, st_94_181, sm_94_182, st_94_185, st_94_187, sm_94_188, st_94_189, st_94_190, sm_94_191, st_94_192, st_94_195, st_94_198, st_94_199, reduceIte, Int.reduceEq, Int.reduceLE, Int.reduceLT, Int.reduceAdd, Int.reduceSub, Int.reduceMul, Int.reduceNeg, Int.reduceToNat, io_add, io_sub, io_mul, io_lt, io_le, io_eq, io_lt0, io_le0, io_0lt, io_0le, io_eq0, io_max2, Int.toNat_natCast, Nat.add_zero, Nat.zero_add, up_same, up_slot, up_cell, h0, io_and63 (show 0 ≤ J 8 33 - 1 ∧ J 8 33 - 1 < 2147483648 by omega), h1]
      exact k
    · rw [show rf_t3 J c = up_I J 8 32 (J 8 32 + 1) by unfold rf_t3; rw [if_pos ⟨by omega, h1⟩]] at k ⊢
      simp (disch := (first | assumption | exact mm_c1_i _ | exact mm_c1_r _ | exact mm_c1_u _ | omega | exact hR _ _ | exact Nat.le_of_ble_eq_true rfl | decide | rfl | exact pb_dec _ | (simp only [sp_n_t, sp_n_j, sp_n_c, sp_n_s, sp_n_k]; assumption) | (simp only [ad_t, ad_a, ad_j, ad_c, ad_s]; omega))) only [st_94_0, st_94_4, st_94_5, st_94_6, st_94_9, st_94_10, st_94_13, st_94_14, st_94_16, st_94_19, st_94_23, st_94_26, st_94_27, st_94_31, st_94_32, st_94_33, st_94_36, st_94_37, st_94_40, st_94_41, st_94_43, st_94_46, st_94_47, st_94_50, st_94_51, st_94_52, st_94_53, st_94_54, st_94_55, st_94_58, st_94_59, sm_94_60, st_94_63, st_94_64, sm_94_65, st_94_68, sm_94_69, st_94_72, st_94_75, sm_94_76, st_94_79, sm_94_80, st_94_83, st_94_84, st_94_85, st_94_87, sm_94_88, st_94_89, st_94_90, st_94_93, st_94_94, sm_94_95, st_94_98, st_94_99, sm_94_100, sm_94_104, st_94_107, sm_94_108, st_94_111, st_94_113, st_94_114, sm_94_115, st_94_116, st_94_117, sm_94_118, st_94_121, st_94_122, sm_94_123, st_94_126, st_94_127, sm_94_128, st_94_131, st_94_132, sm_94_133, st_94_136, st_94_137, st_94_139, st_94_141, sm_94_142, st_94_145, st_94_148, sm_94_149, st_94_152, sm_94_154, st_94_155, st_94_156, st_94_159, sm_94_160, st_94_163, sm_94_165, st_94_166, sm_94_167, st_94_170, sm_94_172, st_94_173, st_94_174, sm_94_175, st_94_178, st_94_181, sm_94_182, st_94_185, st_94_187, sm_94_188, st_94_189, st_94_190, sm_94_191, st_94_192, st_94_195, st_94_198, st_94_199, reduceIte, Int.reduceEq, Int.reduceLE, Int.reduceLT, Int.reduceAdd, Int.reduceSub, Int.reduceMul, Int.reduceNeg, Int.reduceToNat, io_add, io_sub, io_mul, io_lt, io_le, io_eq, io_lt0, io_le0, io_0lt, io_0le, io_eq0, io_max2, Int.toNat_natCast, Nat.add_zero, Nat.zero_add, up_same, up_slot, up_cell, h0, io_and63 (show 0 ≤ J 8 33 - 1 ∧ J 8 33 - 1 < 2147483648 by omega), h1]
      exact k
theorem sp_94a {J : sp_I} (hN : rf_N3 J) (hN2 : ∀ x, rf_N3 (rf_t2 J x)) (hN3 : ∀ x c, rf_N3 (rf_t3 (rf_t2 J x) c)) {x f : Int} (hx : -1 ≤ x ∧ x ≤ 6) (hf : 0 ≤ f ∧ f ≤ 1) : mm_Rn pg_G d 94 31 [.ref 8, io_v x, .retAddr 0, .retAddr 0, .retAddr 0] [io_v f] (sp_me J 0 0) (some (io_v f), sp_me (rf_tm (rf_t4 (rf_t3 (rf_t2 J x) (rf_cd x)) (rf_cd x)) (rf_n (rf_t4 (rf_t3 (rf_t2 J x) (rf_cd x)) (rf_cd x)))) 0 0) := by
  have hc : 0 ≤ rf_cd x ∧ rf_cd x ≤ 8 := by unfold rf_cd; split; omega; split <;> omega
  have k := sp_94b (d := d) (hN2 x) (hN3 x) (x := x) (f := f) hc
  obtain ⟨hR, hW, h9, h31, h32, h33, h25⟩ := hN
  by_cases h0 : x < 0
  · rw [show rf_t2 J x = up_I J 8 31 (J 8 31 + 1) by unfold rf_t2; rw [if_pos h0], show rf_cd x = 0 by unfold rf_cd; rw [if_pos h0]] at k ⊢
    have h1 : ¬ 0 ≤ x := by omega
    simp (disch := (first | assumption | exact mm_c1_i _ | exact mm_c1_r _ | exact mm_c1_u _ | omega | exact hR _ _ | exact Nat.le_of_ble_eq_true rfl | decide | rfl | exact pb_dec _ | (simp only [sp_n_t, sp_n_j, sp_n_c, sp_n_s, sp_n_k]; assumption) | (simp only [ad_t, ad_a, ad_j, ad_c, ad_s]; omega))) only [st_94_0, st_94_4, st_94_5, st_94_6, st_94_9, st_94_10, st_94_13, st_94_14, st_94_16, st_94_19, st_94_23, st_94_26, st_94_27, st_94_31, st_94_32, st_94_33, st_94_36, st_94_37, st_94_40, st_94_41, st_94_43, st_94_46, st_94_47, st_94_50, st_94_51, st_94_52, st_94_53, st_94_54, st_94_55, st_94_58, st_94_59, sm_94_60, st_94_63, st_94_64, sm_94_65, sm_94_69, st_94_72, st_94_75, sm_94_76, st_94_79, sm_94_80, st_94_83, st_94_84, st_94_85, st_94_87, sm_94_88, st_94_89, st_94_90, st_94_93, st_94_94, sm_94_95, st_94_98, st_94_99, sm_94_100, st_94_103, sm_94_104, st_94_107, sm_94_108, st_94_111, st_94_113, st_94_114, sm_94_115, st_94_116, st_94_117, sm_94_118, st_94_121, st_94_122, sm_94_123, st_94_126, st_94_127, sm_94_128, st_94_131, st_94_132, sm_94_133, st_94_136, st_94_137, st_94_139, st_94_141, sm_94_142, st_94_145, st_94_148, sm_94_149, st_94_152, sm_94_154, st_94_155, st_94_156, st_94_159, sm_94_160, st_94_163, sm_94_165, st_94_166, sm_94_167, st_94_170, sm_94_172, st_94_173, st_94_174, sm_94_175, st_94_178, st_94_181, sm_94_182, st_94_185, st_94_187, sm_94_188, st_94_189, st_94_190, sm_94_191, st_94_192, st_94_195, st_94_198, st_94_199, reduceIte, Int.reduceEq, Int.reduceLE, Int.reduceLT, Int.reduceAdd, Int.reduceSub, Int.reduceMul, Int.reduceNeg, Int.reduceToNat, io_add, io_sub, io_mul, io_lt, io_le, io_eq, io_lt0, io_le0, io_0lt, io_0le, io_eq0, io_max2, Int.toNat_natCast, Nat.add_zero, Nat.zero_add, up_same, up_slot, up_cell, h0, h1]
    exact k
  · have h1 : 0 ≤ x := by omega
    by_cases h6 : x = 6
    · rw [show rf_t2 J x = J by unfold rf_t2; rw [if_neg h0], show rf_cd x = 1 by unfold rf_cd; rw [if_neg h0, if_pos h6]] at k ⊢
      simp (disch := (first | assumption | exact mm_c1_i _ | exact mm_c1_r _ | exact mm_c1_u _ | omega | exact hR _ _ | exact Nat.le_of_ble_eq_true rfl | decide | rfl | exact pb_dec _ | (simp only [sp_n_t, sp_n_j, sp_n_c, sp_n_s, sp_n_k]; assumption) | (simp only [ad_t, ad_a, ad_j, ad_c, ad_s]; omega))) only [st_94_0, st_94_4, st_94_5, st_94_6, st_94_9, st_94_10, st_94_13, st_94_14, st_94_16, st_94_19, st_94_23, st_94_26, st_94_27, st_94_31, st_94_32, st_94_33, st_94_36, st_94_37, st_94_40, st_94_41, st_94_43, st_94_46, st_94_47, st_94_50, st_94_51, st_94_52, st_94_53, st_94_54, st_94_55, st_94_58, st_94_59, sm_94_60, st_94_63, st_94_64, sm_94_65, sm_94_69, st_94_72, st_94_75, sm_94_76, st_94_79, sm_94_80, st_94_83, st_94_84, st_94_85, st_94_87, sm_94_88, st_94_89, st_94_90, st_94_93, st_94_94, sm_94_95, st_94_98, st_94_99, sm_94_100, st_94_103, sm_94_104, st_94_107, sm_94_108, st_94_111, st_94_113, st_94_114, sm_94_115, st_94_116, st_94_117, sm_94_118, st_94_121, st_94_122, sm_94_123, st_94_126, st_94_127, sm_94_128, st_94_131, st_94_132, sm_94_133, st_94_136, st_94_137, st_94_139, st_94_141, sm_94_142, st_94_145, st_94_148, sm_94_149, st_94_152, sm_94_154, st_94_155, st_94_156, st_94_159, sm_94_160, st_94_163, sm_94_165, st_94_166, sm_94_167, st_94_170, sm_94_172, st_94_173, st_94_174, sm_94_175, st_94_178, st_94_181, sm_94_182, st_94_185, st_94_187, sm_94_188, st_94_189, st_94_190, sm_94_191, st_94_192, st_94_195, st_94_198, st_94_199, reduceIte, Int.reduceEq, Int.reduceLE, Int.reduceLT, Int.reduceAdd, Int.reduceSub, Int.reduceMul, Int.reduceNeg, Int.reduceToNat, io_add, io_sub, io_mul, io_lt, io_le, io_eq, io_lt0, io_le0, io_0lt, io_0le, io_eq0, io_max2, Int.toNat_natCast, Nat.add_zero, Nat.zero_add, up_same, up_slot, up_cell, h0, h1, h6]
      rw [h6] at k
      exact k
    · rw [show rf_t2 J x = J by unfold rf_t2; rw [if_neg h0], show rf_cd x = 2 + x by unfold rf_cd; rw [if_neg h0, if_neg h6]] at k ⊢
      simp (disch := (first | assumption | exact mm_c1_i _ | exact mm_c1_r _ | exact mm_c1_u _ | omega | exact hR _ _ | exact Nat.le_of_ble_eq_true rfl | decide | rfl | exact pb_dec _ | (simp only [sp_n_t, sp_n_j, sp_n_c, sp_n_s, sp_n_k]; assumption) | (simp only [ad_t, ad_a, ad_j, ad_c, ad_s]; omega))) only [st_94_0, st_94_4, st_94_5, st_94_6, st_94_9, st_94_10, st_94_13, st_94_14, st_94_16, st_94_19, st_94_23, st_94_26, st_94_27, st_94_31, st_94_32, st_94_33, st_94_36, st_94_37, st_94_40, st_94_41, st_94_43, st_94_46, st_94_47, st_94_50, st_94_51, st_94_52, st_94_53, st_94_54, st_94_55, st_94_58, st_94_59, sm_94_60, st_94_63, st_94_64, sm_94_65, sm_94_69, st_94_72, st_94_75, sm_94_76, st_94_79, sm_94_80, st_94_83, st_94_84, st_94_85, st_94_87, sm_94_88, st_94_89, st_94_90, st_94_93, st_94_94, sm_94_95, st_94_98, st_94_99, sm_94_100, st_94_103, sm_94_104, st_94_107, sm_94_108, st_94_111, st_94_113, st_94_114, sm_94_115, st_94_116, st_94_117, sm_94_118, st_94_121, st_94_122, sm_94_123, st_94_126, st_94_127, sm_94_128, st_94_131, st_94_132, sm_94_133, st_94_136, st_94_137, st_94_139, st_94_141, sm_94_142, st_94_145, st_94_148, sm_94_149, st_94_152, sm_94_154, st_94_155, st_94_156, st_94_159, sm_94_160, st_94_163, sm_94_165, st_94_166, sm_94_167, st_94_170, sm_94_172, st_94_173, st_94_174, sm_94_175, st_94_178, st_94_181, sm_94_182, st_94_185, st_94_187, sm_94_188, st_94_189, st_94_190, sm_94_191, st_94_192, st_94_195, st_94_198, st_94_199, reduceIte, Int.reduceEq, Int.reduceLE, Int.reduceLT, Int.reduceAdd, Int.reduceSub, Int.reduceMul, Int.reduceNeg, Int.reduceToNat, io_add, io_sub, io_mul, io_lt, io_le, io_eq, io_lt0, io_le0, io_0lt, io_0le, io_eq0, io_max2, Int.toNat_natCast, Nat.add_zero, Nat.zero_add, up_same, up_slot, up_cell, h0, h1, h6]
      exact k
theorem rf_ch_rng (hW : rf_W I) : -1 ≤ rf_ch I ∧ rf_ch I ≤ 6 := by
  unfold rf_ch
  have h1 := rf_io_rng I 0
  have h2 := fun r => rf_hd_rng hW r
  have h3 := h2 (pf_fst 4 (rf_pr I) : Nat)
  split
  · exact h1
  · split
    · exact h1
    · split <;> omega
/-- all that a tick wants -/
def rf_ok (I : sp_I) : Prop := rf_N3 I ∧ rf_B I ∧ rf_N3 (rf_t1 I) ∧ (∀ x, rf_N3 (rf_t2 (rf_t1 I) x)) ∧ (∀ x c, rf_N3 (rf_t3 (rf_t2 (rf_t1 I) x) c)) ∧ (∀ i, i < 6 → 0 ≤ I 20 i ∧ I 20 i ≤ 1000000) ∧ (0 ≤ I 8 28 ∧ I 8 28 ≤ 1000000) ∧ (0 ≤ I 8 30 ∧ I 8 30 ≤ 1000000) ∧ (rf_ch I = 6 → (0 ≤ I 16 0 ∧ I 16 0 ≤ 100) ∧ (0 ≤ I 8 12 ∧ I 8 12 ≤ 100) ∧ (1 ≤ I 8 14 ∧ I 8 14 ≤ 8) ∧ (0 ≤ I 8 17 ∧ I 8 17 ≤ 1000000))
theorem sp_94 (h : rf_ok I) : mm_Rn pg_G (d + 4) 94 0 [.ref 8, .retAddr 0, .retAddr 0, .retAddr 0, .retAddr 0] [] (sp_me I 0 0) (some (io_v (rf_tf I)), sp_me (rf_mt I) 0 0) := by
  obtain ⟨hN, hB, hJ, hJ2, hJ3, h20, h28, h30, hs⟩ := h
  obtain ⟨hR, hW, h9, -⟩ := hN
  have hx := rf_ch_rng hW
  have hf : 0 ≤ rf_tf I ∧ rf_tf I ≤ 1 := by
    unfold rf_tf
    split
    · omega
    · split <;> exact pb_rng _
  have k := sp_94a (d := d + 4) hJ hJ2 hJ3 hx hf
  rw [show rf_t4 (rf_t3 (rf_t2 (rf_t1 I) (rf_ch I)) (rf_cd (rf_ch I))) (rf_cd (rf_ch I)) = rf_m2 I from rfl] at k
  rw [show rf_mt I = rf_tm (rf_m2 I) (rf_n (rf_m2 I)) from rfl]
  generalize (rf_tm (rf_m2 I) (rf_n (rf_m2 I))) = Z at *
  simp (disch := (first | assumption | exact mm_c1_i _ | exact mm_c1_r _ | exact mm_c1_u _ | omega | exact hR _ _ | exact Nat.le_of_ble_eq_true rfl | decide | rfl | exact pb_dec _)) only [st_94_0, st_94_4, st_94_5, st_94_6, st_94_9, st_94_10, st_94_13, st_94_14, st_94_16, st_94_19, st_94_23, st_94_26, st_94_27, st_94_32, st_94_33, st_94_36, st_94_37, st_94_40, st_94_41, st_94_43, st_94_46, st_94_47, st_94_50, st_94_51, st_94_52, st_94_53, st_94_54, st_94_55, st_94_58, st_94_59, sm_94_60, st_94_63, st_94_64, sm_94_65, st_94_68, sm_94_69, st_94_72, st_94_75, sm_94_76, st_94_79, sm_94_80, st_94_83, st_94_84, st_94_85, st_94_87, sm_94_88, st_94_89, st_94_90, st_94_93, st_94_94, sm_94_95, st_94_98, st_94_99, sm_94_100, st_94_103, sm_94_104, st_94_107, sm_94_108, st_94_111, st_94_113, st_94_114, sm_94_115, st_94_116, st_94_117, sm_94_118, st_94_121, st_94_122, sm_94_123, st_94_126, st_94_127, sm_94_128, st_94_131, st_94_132, sm_94_133, st_94_136, st_94_137, st_94_139, st_94_141, sm_94_142, st_94_145, st_94_148, sm_94_149, st_94_152, sm_94_154, st_94_155, st_94_156, st_94_159, sm_94_160, st_94_163, sm_94_165, st_94_166, sm_94_167, st_94_170, sm_94_172, st_94_173, st_94_174, sm_94_175, st_94_178, st_94_181, sm_94_182, st_94_185, st_94_187, sm_94_188, st_94_189, st_94_190, sm_94_191, st_94_192, st_94_195, st_94_198, st_94_199, reduceIte, Int.reduceEq, Int.reduceLE, Int.reduceLT, Int.reduceAdd, Int.reduceSub, Int.reduceMul, Int.reduceNeg, Int.reduceToNat, io_add, io_sub, io_mul, io_lt, io_le, io_eq, io_lt0, io_le0, io_0lt, io_0le, io_eq0, io_max2, Int.toNat_natCast, Nat.add_zero, Nat.zero_add]
  rw [st_94_1 (Nat.le_of_ble_eq_true rfl) rfl (sp_90 (d := d) hR hW)]
  by_cases h0 : rf_ch I < 0
  · have h1 : ¬ 0 ≤ rf_ch I := by omega
    rw [show rf_tf I = 0 by unfold rf_tf; rw [if_pos h0], show rf_t1 I = I by unfold rf_t1; rw [if_pos h0]] at k
    rw [show rf_tf I = 0 by unfold rf_tf; rw [if_pos h0]]
    generalize rf_ch I = x at *
    simp (disch := (first | assumption | exact mm_c1_i _ | exact mm_c1_r _ | exact mm_c1_u _ | omega | exact hR _ _ | exact Nat.le_of_ble_eq_true rfl | decide | rfl | exact pb_dec _)) only [st_94_0, st_94_4, st_94_5, st_94_6, st_94_9, st_94_10, st_94_13, st_94_14, st_94_16, st_94_19, st_94_23, st_94_26, st_94_27, st_94_32, st_94_33, st_94_36, st_94_37, st_94_40, st_94_41, st_94_43, st_94_46, st_94_47, st_94_50, st_94_51, st_94_52, st_94_53, st_94_54, st_94_55, st_94_58, st_94_59, sm_94_60, st_94_63, st_94_64, sm_94_65, st_94_68, sm_94_69, st_94_72, st_94_75, sm_94_76, st_94_79, sm_94_80, st_94_83, st_94_84, st_94_85, st_94_87, sm_94_88, st_94_89, st_94_90, st_94_93, st_94_94, sm_94_95, st_94_98, st_94_99, sm_94_100, st_94_103, sm_94_104, st_94_107, sm_94_108, st_94_111, st_94_113, st_94_114, sm_94_115, st_94_116, st_94_117, sm_94_118, st_94_121, st_94_122, sm_94_123, st_94_126, st_94_127, sm_94_128, st_94_131, st_94_132, sm_94_133, st_94_136, st_94_137, st_94_139, st_94_141, sm_94_142, st_94_145, st_94_148, sm_94_149, st_94_152, sm_94_154, st_94_155, st_94_156, st_94_159, sm_94_160, st_94_163, sm_94_165, st_94_166, sm_94_167, st_94_170, sm_94_172, st_94_173, st_94_174, sm_94_175, st_94_178, st_94_181, sm_94_182, st_94_185, st_94_187, sm_94_188, st_94_189, st_94_190, sm_94_191, st_94_192, st_94_195, st_94_198, st_94_199, reduceIte, Int.reduceEq, Int.reduceLE, Int.reduceLT, Int.reduceAdd, Int.reduceSub, Int.reduceMul, Int.reduceNeg, Int.reduceToNat, io_add, io_sub, io_mul, io_lt, io_le, io_eq, io_lt0, io_le0, io_0lt, io_0le, io_eq0, io_max2, Int.toNat_natCast, Nat.add_zero, Nat.zero_add, h1]
    exact k
  · have h1 : 0 ≤ rf_ch I := by omega
    by_cases h6 : rf_ch I = 6
    · obtain ⟨a1, a2, a3, a4⟩ := hs h6
      have k91 := sp_91 (d := d + 3) hR a1 a2 a3 a4
      rw [show rf_tf I = pb_z (I 16 0 - 1 = 0) by unfold rf_tf; rw [if_neg h0, if_pos h6], show rf_t1 I = rf_s3 (rf_s2 I) by unfold rf_t1; rw [if_neg h0, if_pos h6], h6] at k
      rw [show rf_tf I = pb_z (I 16 0 - 1 = 0) by unfold rf_tf; rw [if_neg h0, if_pos h6], h6]
      simp (disch := (first | assumption | exact mm_c1_i _ | exact mm_c1_r _ | exact mm_c1_u _ | omega | exact hR _ _ | exact Nat.le_of_ble_eq_true rfl | decide | rfl | exact pb_dec _)) only [st_94_0, st_94_4, st_94_5, st_94_6, st_94_9, st_94_10, st_94_13, st_94_14, st_94_16, st_94_19, st_94_23, st_94_26, st_94_27, st_94_32, st_94_33, st_94_36, st_94_37, st_94_40, st_94_41, st_94_43, st_94_46, st_94_47, st_94_50, st_94_51, st_94_52, st_94_53, st_94_54, st_94_55, st_94_58, st_94_59, sm_94_60, st_94_63, st_94_64, sm_94_65, st_94_68, sm_94_69, st_94_72, st_94_75, sm_94_76, st_94_79, sm_94_80, st_94_83, st_94_84, st_94_85, st_94_87, sm_94_88, st_94_89, st_94_90, st_94_93, st_94_94, sm_94_95, st_94_98, st_94_99, sm_94_100, st_94_103, sm_94_104, st_94_107, sm_94_108, st_94_111, st_94_113, st_94_114, sm_94_115, st_94_116, st_94_117, sm_94_118, st_94_121, st_94_122, sm_94_123, st_94_126, st_94_127, sm_94_128, st_94_131, st_94_132, sm_94_133, st_94_136, st_94_137, st_94_139, st_94_141, sm_94_142, st_94_145, st_94_148, sm_94_149, st_94_152, sm_94_154, st_94_155, st_94_156, st_94_159, sm_94_160, st_94_163, sm_94_165, st_94_166, sm_94_167, st_94_170, sm_94_172, st_94_173, st_94_174, sm_94_175, st_94_178, st_94_181, sm_94_182, st_94_185, st_94_187, sm_94_188, st_94_189, st_94_190, sm_94_191, st_94_192, st_94_195, st_94_198, st_94_199, reduceIte, Int.reduceEq, Int.reduceLE, Int.reduceLT, Int.reduceAdd, Int.reduceSub, Int.reduceMul, Int.reduceNeg, Int.reduceToNat, io_add, io_sub, io_mul, io_lt, io_le, io_eq, io_lt0, io_le0, io_0lt, io_0le, io_eq0, io_max2, Int.toNat_natCast, Nat.add_zero, Nat.zero_add]
      rw [st_94_20 (Nat.le_of_ble_eq_true rfl) rfl k91]
      simp (disch := (first | assumption | exact mm_c1_i _ | exact mm_c1_r _ | exact mm_c1_u _ | omega | exact hR _ _ | exact Nat.le_of_ble_eq_true rfl | decide | rfl | exact pb_dec _)) only [st_94_0, st_94_4, st_94_5, st_94_6, st_94_9, st_94_10, st_94_13, st_94_14, st_94_16, st_94_19, st_94_23, st_94_26, st_94_27, st_94_32, st_94_33, st_94_36, st_94_37, st_94_40, st_94_41, st_94_43, st_94_46, st_94_47, st_94_50, st_94_51, st_94_52, st_94_53, st_94_54, st_94_55, st_94_58, st_94_59, sm_94_60, st_94_63, st_94_64, sm_94_65, st_94_68, sm_94_69, st_94_72, st_94_75, sm_94_76, st_94_79, sm_94_80, st_94_83, st_94_84, st_94_85, st_94_87, sm_94_88, st_94_89, st_94_90, st_94_93, st_94_94, sm_94_95, st_94_98, st_94_99, sm_94_100, st_94_103, sm_94_104, st_94_107, sm_94_108, st_94_111, st_94_113, st_94_114, sm_94_115, st_94_116, st_94_117, sm_94_118, st_94_121, st_94_122, sm_94_123, st_94_126, st_94_127, sm_94_128, st_94_131, st_94_132, sm_94_133, st_94_136, st_94_137, st_94_139, st_94_141, sm_94_142, st_94_145, st_94_148, sm_94_149, st_94_152, sm_94_154, st_94_155, st_94_156, st_94_159, sm_94_160, st_94_163, sm_94_165, st_94_166, sm_94_167, st_94_170, sm_94_172, st_94_173, st_94_174, sm_94_175, st_94_178, st_94_181, sm_94_182, st_94_185, st_94_187, sm_94_188, st_94_189, st_94_190, sm_94_191, st_94_192, st_94_195, st_94_198, st_94_199, reduceIte, Int.reduceEq, Int.reduceLE, Int.reduceLT, Int.reduceAdd, Int.reduceSub, Int.reduceMul, Int.reduceNeg, Int.reduceToNat, io_add, io_sub, io_mul, io_lt, io_le, io_eq, io_lt0, io_le0, io_0lt, io_0le, io_eq0, io_max2, Int.toNat_natCast, Nat.add_zero, Nat.zero_add]
      exact k
    · obtain ⟨i, hi⟩ : ∃ i : Nat, rf_ch I = i := ⟨(rf_ch I).toNat, by omega⟩
      have hi6 : i < 6 := by omega
      have k93 := sp_93 (d := d + 1) hR hW hB hi6 (h20 i hi6) h28 h30 h9
      rw [show rf_tf I = pb_z (I 20 i + 1 = I 19 i) by unfold rf_tf; rw [if_neg h0, if_neg h6, hi, Int.toNat_natCast], show rf_t1 I = rf_w6 I i by unfold rf_t1; rw [if_neg h0, if_neg h6, hi, Int.toNat_natCast], hi] at k
      rw [show rf_tf I = pb_z (I 20 i + 1 = I 19 i) by unfold rf_tf; rw [if_neg h0, if_neg h6, hi, Int.toNat_natCast], hi]
      have h1' : (0 : Int) ≤ i := by omega
      have h6' : ¬ ((i : Int) = 6) := by omega
      simp (disch := (first | assumption | exact mm_c1_i _ | exact mm_c1_r _ | exact mm_c1_u _ | omega | exact hR _ _ | exact Nat.le_of_ble_eq_true rfl | decide | rfl | exact pb_dec _)) only [st_94_0, st_94_4, st_94_5, st_94_6, st_94_9, st_94_10, st_94_13, st_94_14, st_94_16, st_94_19, st_94_23, st_94_26, st_94_27, st_94_32, st_94_33, st_94_36, st_94_37, st_94_40, st_94_41, st_94_43, st_94_46, st_94_47, st_94_50, st_94_51, st_94_52, st_94_53, st_94_54, st_94_55, st_94_58, st_94_59, sm_94_60, st_94_63, st_94_64, sm_94_65, st_94_68, sm_94_69, st_94_72, st_94_75, sm_94_76, st_94_79, sm_94_80, st_94_83, st_94_84, st_94_85, st_94_87, sm_94_88, st_94_89, st_94_90, st_94_93, st_94_94, sm_94_95, st_94_98, st_94_99, sm_94_100, st_94_103, sm_94_104, st_94_107, sm_94_108, st_94_111, st_94_113, st_94_114, sm_94_115, st_94_116, st_94_117, sm_94_118, st_94_121, st_94_122, sm_94_123, st_94_126, st_94_127, sm_94_128, st_94_131, st_94_132, sm_94_133, st_94_136, st_94_137, st_94_139, st_94_141, sm_94_142, st_94_145, st_94_148, sm_94_149, st_94_152, sm_94_154, st_94_155, st_94_156, st_94_159, sm_94_160, st_94_163, sm_94_165, st_94_166, sm_94_167, st_94_170, sm_94_172, st_94_173, st_94_174, sm_94_175, st_94_178, st_94_181, sm_94_182, st_94_185, st_94_187, sm_94_188, st_94_189, st_94_190, sm_94_191, st_94_192, st_94_195, st_94_198, st_94_199, reduceIte, Int.reduceEq, Int.reduceLE, Int.reduceLT, Int.reduceAdd, Int.reduceSub, Int.reduceMul, Int.reduceNeg, Int.reduceToNat, io_add, io_sub, io_mul, io_lt, io_le, io_eq, io_lt0, io_le0, io_0lt, io_0le, io_eq0, io_max2, Int.toNat_natCast, Nat.add_zero, Nat.zero_add, h1', h6']
      rw [st_94_28 (Nat.le_of_ble_eq_true rfl) rfl k93]
      simp (disch := (first | assumption | exact mm_c1_i _ | exact mm_c1_r _ | exact mm_c1_u _ | omega | exact hR _ _ | exact Nat.le_of_ble_eq_true rfl | decide | rfl | exact pb_dec _)) only [st_94_0, st_94_4, st_94_5, st_94_6, st_94_9, st_94_10, st_94_13, st_94_14, st_94_16, st_94_19, st_94_23, st_94_26, st_94_27, st_94_32, st_94_33, st_94_36, st_94_37, st_94_40, st_94_41, st_94_43, st_94_46, st_94_47, st_94_50, st_94_51, st_94_52, st_94_53, st_94_54, st_94_55, st_94_58, st_94_59, sm_94_60, st_94_63, st_94_64, sm_94_65, st_94_68, sm_94_69, st_94_72, st_94_75, sm_94_76, st_94_79, sm_94_80, st_94_83, st_94_84, st_94_85, st_94_87, sm_94_88, st_94_89, st_94_90, st_94_93, st_94_94, sm_94_95, st_94_98, st_94_99, sm_94_100, st_94_103, sm_94_104, st_94_107, sm_94_108, st_94_111, st_94_113, st_94_114, sm_94_115, st_94_116, st_94_117, sm_94_118, st_94_121, st_94_122, sm_94_123, st_94_126, st_94_127, sm_94_128, st_94_131, st_94_132, sm_94_133, st_94_136, st_94_137, st_94_139, st_94_141, sm_94_142, st_94_145, st_94_148, sm_94_149, st_94_152, sm_94_154, st_94_155, st_94_156, st_94_159, sm_94_160, st_94_163, sm_94_165, st_94_166, sm_94_167, st_94_170, sm_94_172, st_94_173, st_94_174, sm_94_175, st_94_178, st_94_181, sm_94_182, st_94_185, st_94_187, sm_94_188, st_94_189, st_94_190, sm_94_191, st_94_192, st_94_195, st_94_198, st_94_199, reduceIte, Int.reduceEq, Int.reduceLE, Int.reduceLT, Int.reduceAdd, Int.reduceSub, Int.reduceMul, Int.reduceNeg, Int.reduceToNat, io_add, io_sub, io_mul, io_lt, io_le, io_eq, io_lt0, io_le0, io_0lt, io_0le, io_eq0, io_max2, Int.toNat_natCast, Nat.add_zero, Nat.zero_add]
      exact k
/-- n ticks, and what they ended -/
noncomputable def rf_itr (I : sp_I) : Nat → sp_I
  | 0 => I
  | n + 1 => rf_mt (rf_itr I n)
noncomputable def rf_sum (I : sp_I) : Nat → Int
  | 0 => 0
  | n + 1 => rf_sum I n + rf_tf (rf_itr I n)
theorem rf_tf_rng (I : sp_I) : 0 ≤ rf_tf I ∧ rf_tf I ≤ 1 := by
  unfold rf_tf
  split
  · omega
  · split <;> exact pb_rng _
theorem rf_sum_rng (I : sp_I) : ∀ n : Nat, 0 ≤ rf_sum I n ∧ rf_sum I n ≤ n
  | 0 => ⟨Int.le_refl _, Int.le_refl _⟩
  | n + 1 => by
    have := rf_sum_rng I n
    have := rf_tf_rng (rf_itr I n)
    rw [rf_sum]
    omega
theorem sp_95n (hR : sp_R I) {n : Int} (hn : io_R n) (h : ¬ (I 8 8 ≠ 0 ∧ 0 ≤ n ∧ n ≤ 200)) : mm_Rn pg_G d 95 0 [.ref 8, io_v n, .retAddr 0, .retAddr 0, .retAddr 0] [] (sp_me I 0 0) (some (io_v (-1)), sp_me I 0 0) := by
  simp (disch := (first | assumption | exact mm_c1_i _ | exact mm_c1_r _ | exact mm_c1_u _ | omega | exact hR _ _ | exact Nat.le_of_ble_eq_true rfl | decide | rfl | exact pb_dec _)) only [st_95_0, sm_95_1, st_95_4, st_95_7, st_95_8, st_95_11, st_95_12, st_95_15, st_95_18, st_95_19, st_95_20, st_95_21, st_95_22, st_95_23, st_95_25, st_95_26, st_95_29, st_95_33, st_95_35, st_95_36, st_95_38, st_95_39, st_95_40, st_95_43, st_95_46, st_95_47, reduceIte, Int.reduceEq, Int.reduceLE, Int.reduceLT, Int.reduceAdd, Int.reduceSub, Int.reduceMul, Int.reduceNeg, Int.reduceToNat, io_add, io_sub, io_mul, io_lt, io_le, io_eq, io_lt0, io_le0, io_0lt, io_0le, io_eq0, io_max2, Int.toNat_natCast, Nat.add_zero, Nat.zero_add]
  repeat' split
  all_goals first | rfl | trivial | (exfalso; omega)
theorem sp_95l {n : Nat} (hn : n ≤ 200) (hk : ∀ k, k < n → rf_ok (rf_itr I k)) : ∀ m q : Nat, q + m = n → ∀ x : Value, mm_Rn pg_G (d + 5) 95 24 [.ref 8, io_v n, io_v (rf_sum I q), io_v q, x] [] (sp_me (rf_itr I q) 0 0) (some (io_v (rf_sum I n)), sp_me (rf_itr I n) 0 0)
  | 0, q, hm, x => by
    rw [st_95_24, show q = n by omega]
    simp (disch := (first | assumption | exact mm_c1_i _ | exact mm_c1_r _ | exact mm_c1_u _ | omega | exact hR _ _ | exact Nat.le_of_ble_eq_true rfl | decide | rfl | exact pb_dec _)) only [st_95_0, sm_95_1, st_95_4, st_95_7, st_95_8, st_95_11, st_95_12, st_95_15, st_95_18, st_95_19, st_95_20, st_95_21, st_95_22, st_95_23, st_95_25, st_95_26, st_95_29, st_95_33, st_95_35, st_95_36, st_95_38, st_95_39, st_95_40, st_95_43, st_95_46, st_95_47, reduceIte, Int.reduceEq, Int.reduceLE, Int.reduceLT, Int.reduceAdd, Int.reduceSub, Int.reduceMul, Int.reduceNeg, Int.reduceToNat, io_add, io_sub, io_mul, io_lt, io_le, io_eq, io_lt0, io_le0, io_0lt, io_0le, io_eq0, io_max2, Int.toNat_natCast, Nat.add_zero, Nat.zero_add]
    rw [if_pos (by omega)]; trivial
  | m + 1, q, hm, x => by
    have h1 := rf_sum_rng I q
    have h2 := rf_tf_rng (rf_itr I q)
    have ih := sp_95l hn hk m (q + 1) (by omega) (io_v (rf_tf (rf_itr I q)))
    rw [rf_itr, rf_sum] at ih
    rw [st_95_24]
    simp (disch := (first | assumption | exact mm_c1_i _ | exact mm_c1_r _ | exact mm_c1_u _ | omega | exact hR _ _ | exact Nat.le_of_ble_eq_true rfl | decide | rfl | exact pb_dec _)) only [st_95_0, sm_95_1, st_95_4, st_95_7, st_95_8, st_95_11, st_95_12, st_95_15, st_95_18, st_95_19, st_95_20, st_95_21, st_95_22, st_95_23, st_95_25, st_95_26, st_95_29, st_95_33, st_95_35, st_95_36, st_95_38, st_95_39, st_95_40, st_95_43, st_95_46, st_95_47, reduceIte, Int.reduceEq, Int.reduceLE, Int.reduceLT, Int.reduceAdd, Int.reduceSub, Int.reduceMul, Int.reduceNeg, Int.reduceToNat, io_add, io_sub, io_mul, io_lt, io_le, io_eq, io_lt0, io_le0, io_0lt, io_0le, io_eq0, io_max2, Int.toNat_natCast, Nat.add_zero, Nat.zero_add]
    rw [if_neg (by omega), st_95_30 (Nat.le_of_ble_eq_true rfl) rfl (sp_94 (d := d) (hk q (by omega)))]
    simp (disch := (first | assumption | exact mm_c1_i _ | exact mm_c1_r _ | exact mm_c1_u _ | omega | exact hR _ _ | exact Nat.le_of_ble_eq_true rfl | decide | rfl | exact pb_dec _)) only [st_95_0, sm_95_1, st_95_4, st_95_7, st_95_8, st_95_11, st_95_12, st_95_15, st_95_18, st_95_19, st_95_20, st_95_21, st_95_22, st_95_23, st_95_25, st_95_26, st_95_29, st_95_33, st_95_35, st_95_36, st_95_38, st_95_39, st_95_40, st_95_43, st_95_46, st_95_47, reduceIte, Int.reduceEq, Int.reduceLE, Int.reduceLT, Int.reduceAdd, Int.reduceSub, Int.reduceMul, Int.reduceNeg, Int.reduceToNat, io_add, io_sub, io_mul, io_lt, io_le, io_eq, io_lt0, io_le0, io_0lt, io_0le, io_eq0, io_max2, Int.toNat_natCast, Nat.add_zero, Nat.zero_add]
    exact ih
theorem sp_95 (hR : sp_R I) {n : Nat} (hn : n ≤ 200) (h : I 8 8 ≠ 0) (hk : ∀ k, k < n → rf_ok (rf_itr I k)) : mm_Rn pg_G (d + 5) 95 0 [.ref 8, io_v n, .retAddr 0, .retAddr 0, .retAddr 0] [] (sp_me I 0 0) (some (io_v (rf_sum I n)), sp_me (rf_itr I n) 0 0) := by
  simp (disch := (first | assumption | exact mm_c1_i _ | exact mm_c1_r _ | exact mm_c1_u _ | omega | exact hR _ _ | exact Nat.le_of_ble_eq_true rfl | decide | rfl | exact pb_dec _)) only [st_95_0, sm_95_1, st_95_4, st_95_7, st_95_8, st_95_11, st_95_12, st_95_15, st_95_18, st_95_19, st_95_20, st_95_21, st_95_22, st_95_23, st_95_25, st_95_26, st_95_29, st_95_33, st_95_35, st_95_36, st_95_38, st_95_39, st_95_40, st_95_43, st_95_46, st_95_47, reduceIte, Int.reduceEq, Int.reduceLE, Int.reduceLT, Int.reduceAdd, Int.reduceSub, Int.reduceMul, Int.reduceNeg, Int.reduceToNat, io_add, io_sub, io_mul, io_lt, io_le, io_eq, io_lt0, io_le0, io_0lt, io_0le, io_eq0, io_max2, Int.toNat_natCast, Nat.add_zero, Nat.zero_add, h]
  rw [if_neg (by omega), if_pos (by omega)]
  exact sp_95l hn hk n 0 (by omega) _
end RT
