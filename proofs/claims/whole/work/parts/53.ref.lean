/-! the reference: passes, verdict -/
def rf_al (I : sp_I) (i : Nat) : Nat → Int
  | 0 => if 0 < I 8 10 then I 8 11 else 1
  | q + 1 => if I 10 q ≤ I 10 i then rf_al I i q * I 10 q else rf_al I i q
def rf_sm (I : sp_I) (i : Nat) (A : Int) : Nat → Int
  | 0 => if 0 < I 8 10 then A / I 8 11 * I 8 10 else 0
  | q + 1 => if I 10 q ≤ I 10 i then rf_sm I i A q + A / I 10 q * I 11 q else rf_sm I i A q
/-- numbers of tasks and server -/
def rf_Q (I : sp_I) : Prop := (0 ≤ I 8 10 ∧ I 8 10 ≤ 100) ∧ (0 ≤ I 8 11 ∧ I 8 11 ≤ 100) ∧ (0 < I 8 10 → 1 ≤ I 8 11) ∧ ∀ i, i < rf_n I → (1 ≤ I 10 i ∧ I 10 i ≤ 100) ∧ 0 ≤ I 11 i ∧ I 11 i ≤ 100
def rf_hp : Nat → Int
  | 0 => 100
  | q + 1 => 100 * rf_hp q
theorem rf_hp_pos : ∀ q, 1 ≤ rf_hp q ∧ rf_hp q ≤ rf_hp (q + 1)
  | 0 => by decide
  | q + 1 => by
    have := rf_hp_pos q
    rw [show rf_hp (q + 1 + 1) = 100 * rf_hp (q + 1) from rfl]
    omega
theorem rf_al_rng {I : sp_I} (hQ : rf_Q I) (i : Nat) : ∀ q, q ≤ rf_n I → 1 ≤ rf_al I i q ∧ rf_al I i q ≤ rf_hp q
  | 0, _ => by
    obtain ⟨h1, h2, h3, -⟩ := hQ
    rw [rf_al, show rf_hp 0 = 100 from rfl]
    split
    · rename_i h; have := h3 h; omega
    · omega
  | q + 1, h => by
    have ih := rf_al_rng hQ i q (by omega)
    have hq := hQ.2.2.2 q (by omega)
    have hm := rf_hp_pos q
    rw [rf_al]
    split
    · rw [show rf_hp (q + 1) = 100 * rf_hp q from rfl]
      have e1 : rf_al I i q * 1 ≤ rf_al I i q * I 10 q := Int.mul_le_mul_of_nonneg_left hq.1.1 (by omega)
      have e2 : rf_al I i q * I 10 q ≤ rf_al I i q * 100 := Int.mul_le_mul_of_nonneg_left hq.1.2 (by omega)
      omega
    · omega
theorem rf_al_fin {I : sp_I} (hW : rf_W I) (hQ : rf_Q I) (i : Nat) {q : Nat} (hq : q ≤ rf_n I) : 1 ≤ rf_al I i q ∧ rf_al I i q ≤ 100000000000000 := by
  have h := rf_al_rng hQ i q hq
  have hn := rf_N hW
  have mono : ∀ q, q ≤ 6 → rf_hp q ≤ 100000000000000 := by decide
  have := mono q (by omega)
  omega
theorem rf_dv {A b k B : Int} (hA : 1 ≤ A ∧ A ≤ B) (hb : 1 ≤ b) (hk : 0 ≤ k ∧ k ≤ 100) : 0 ≤ A / b * k ∧ A / b * k ≤ 100 * B := by
  have h1 : 0 ≤ A / b := Int.ediv_nonneg (by omega) (by omega)
  have h2 : A / b ≤ A := Int.ediv_le_self b (by omega)
  have h3 : 0 ≤ A / b * k := Int.mul_nonneg h1 hk.1
  have h4 : A / b * k ≤ A / b * 100 := Int.mul_le_mul_of_nonneg_left hk.2 h1
  omega
theorem rf_sm_rng {I : sp_I} (hQ : rf_Q I) (i : Nat) {A : Int} (hA : 1 ≤ A ∧ A ≤ 100000000000000) : ∀ q : Nat, q ≤ rf_n I → 0 ≤ rf_sm I i A q ∧ rf_sm I i A q ≤ ((q : Int) + 1) * 10000000000000000
  | 0, _ => by
    obtain ⟨h1, h2, h3, -⟩ := hQ
    rw [rf_sm]
    split
    · rename_i h
      have := rf_dv hA (h3 h) h1
      omega
    · omega
  | q + 1, h => by
    have ih := rf_sm_rng hQ i hA q (by omega)
    have hq := hQ.2.2.2 q (by omega)
    have := rf_dv hA hq.1.1 hq.2
    rw [rf_sm]
    split <;> omega
theorem jo_ne0 {b : Int} (h : 1 ≤ b ∧ b ≤ 1000000) : ¬ Int64.ofInt b = 0 := by
  rw [show (0 : Int64) = Int64.ofInt 0 from by decide, jo_eq (by omega) (by decide)]
  omega
section RP
variable {I : sp_I} {d : Nat}
theorem sp_78a (hR : sp_R I) (hW : rf_W I) {i : Nat} (hi : i < 6) {x : Value} {r : mm_R} (hend : mm_Rn pg_G (d + 3) 78 62 [.ref 8, io_v i, .long (Int64.ofInt (rf_al I i (rf_n I))), .retAddr 0, io_v (rf_n I), .retAddr 0, x] [] (sp_me I 0 0) r) : ∀ m q : Nat, q + m = rf_n I → mm_Rn pg_G (d + 3) 78 20 [.ref 8, io_v i, .long (Int64.ofInt (rf_al I i q)), .retAddr 0, io_v q, .retAddr 0, x] [] (sp_me I 0 0) r
  | 0, q, hm => by
    have hn := rf_N hW
    rw [st_78_20]
    simp (disch := (first | assumption | exact mm_c1_i _ | exact mm_c1_r _ | exact mm_c1_u _ | omega | exact hR _ _ | exact Nat.le_of_ble_eq_true rfl | decide | rfl | exact pb_dec _)) only [st_78_0, sm_78_1, st_78_4, st_78_7, sm_78_8, st_78_11, st_78_12, st_78_15, st_78_16, st_78_17, st_78_18, st_78_22, sm_78_23, st_78_26, st_78_29, sm_78_30, st_78_33, sm_78_35, st_78_36, sm_78_37, st_78_40, sm_78_41, st_78_42, st_78_45, st_78_46, sm_78_47, st_78_50, sm_78_52, st_78_53, st_78_54, st_78_55, st_78_56, st_78_59, sm_78_63, st_78_66, st_78_69, st_78_70, sm_78_71, st_78_74, st_78_75, st_78_76, sm_78_77, st_78_80, st_78_81, st_78_82, st_78_85, st_78_86, st_78_88, st_78_89, st_78_91, st_78_93, sm_78_94, st_78_97, st_78_100, sm_78_101, st_78_104, sm_78_106, st_78_107, sm_78_108, st_78_111, sm_78_112, st_78_113, st_78_116, st_78_118, st_78_119, sm_78_120, st_78_123, sm_78_125, st_78_126, st_78_127, st_78_128, sm_78_129, st_78_132, sm_78_134, st_78_135, st_78_136, st_78_137, st_78_138, st_78_140, st_78_143, st_78_146, st_78_147, st_78_151, st_78_153, st_78_155, st_78_156, sm_78_157, st_78_160, sm_78_161, st_78_162, st_78_163, st_78_164, st_78_166, st_78_167, st_78_168, st_78_169, st_78_171, st_78_173, st_78_174, st_78_175, st_78_178, st_78_179, st_78_182, st_78_183, reduceIte, Int.reduceEq, Int.reduceLE, Int.reduceLT, Int.reduceAdd, Int.reduceSub, Int.reduceMul, Int.reduceNeg, Int.reduceToNat, io_add, io_sub, io_mul, io_lt, io_le, io_eq, io_lt0, io_le0, io_0lt, io_0le, io_eq0, io_max2, Int.toNat_natCast, Nat.add_zero, Nat.zero_add]
    rw [if_pos (by omega), show q = rf_n I by omega]
    exact hend
  | m + 1, q, hm => by
    have hn := rf_N hW
    have hs := hW.2.1 q (by omega)
    have ih := sp_78a hR hW hi hend m (q + 1) (by omega)
    rw [rf_al] at ih
    rw [st_78_20]
    simp (disch := (first | assumption | exact mm_c1_i _ | exact mm_c1_r _ | exact mm_c1_u _ | omega | exact hR _ _ | exact Nat.le_of_ble_eq_true rfl | decide | rfl | exact pb_dec _)) only [st_78_0, sm_78_1, st_78_4, st_78_7, sm_78_8, st_78_11, st_78_12, st_78_15, st_78_16, st_78_17, st_78_18, st_78_22, sm_78_23, st_78_26, st_78_29, sm_78_30, st_78_33, sm_78_35, st_78_36, sm_78_37, st_78_40, sm_78_41, st_78_42, st_78_45, st_78_46, sm_78_47, st_78_50, sm_78_52, st_78_53, st_78_54, st_78_55, st_78_56, st_78_59, sm_78_63, st_78_66, st_78_69, st_78_70, sm_78_71, st_78_74, st_78_75, st_78_76, sm_78_77, st_78_80, st_78_81, st_78_82, st_78_85, st_78_86, st_78_88, st_78_89, st_78_91, st_78_93, sm_78_94, st_78_97, st_78_100, sm_78_101, st_78_104, sm_78_106, st_78_107, sm_78_108, st_78_111, sm_78_112, st_78_113, st_78_116, st_78_118, st_78_119, sm_78_120, st_78_123, sm_78_125, st_78_126, st_78_127, st_78_128, sm_78_129, st_78_132, sm_78_134, st_78_135, st_78_136, st_78_137, st_78_138, st_78_140, st_78_143, st_78_146, st_78_147, st_78_151, st_78_153, st_78_155, st_78_156, sm_78_157, st_78_160, sm_78_161, st_78_162, st_78_163, st_78_164, st_78_166, st_78_167, st_78_168, st_78_169, st_78_171, st_78_173, st_78_174, st_78_175, st_78_178, st_78_179, st_78_182, st_78_183, reduceIte, Int.reduceEq, Int.reduceLE, Int.reduceLT, Int.reduceAdd, Int.reduceSub, Int.reduceMul, Int.reduceNeg, Int.reduceToNat, io_add, io_sub, io_mul, io_lt, io_le, io_eq, io_lt0, io_le0, io_0lt, io_0le, io_eq0, io_max2, Int.toNat_natCast, Nat.add_zero, Nat.zero_add, jo_i2l, jo_mul]
    rw [if_neg (by omega)]
    by_cases h1 : I 10 q ≤ I 10 i
    · rw [if_pos h1] at ih
      rw [if_neg (by omega)]
      exact ih
    · rw [if_neg h1] at ih
      rw [if_pos (by omega)]
      exact ih
theorem sp_78b (hR : sp_R I) (hW : rf_W I) (hQ : rf_Q I) {i : Nat} (hi : i < 6) {A : Int} (hA : 1 ≤ A ∧ A ≤ 100000000000000) {r : mm_R} (hend : mm_Rn pg_G (d + 3) 78 146 [.ref 8, io_v i, .long (Int64.ofInt A), .retAddr 0, .long (Int64.ofInt (rf_sm I i A (rf_n I))), .retAddr 0, io_v (rf_n I)] [] (sp_me I 0 0) r) : ∀ m q : Nat, q + m = rf_n I → mm_Rn pg_G (d + 3) 78 91 [.ref 8, io_v i, .long (Int64.ofInt A), .retAddr 0, .long (Int64.ofInt (rf_sm I i A q)), .retAddr 0, io_v q] [] (sp_me I 0 0) r
  | 0, q, hm => by
    have hn := rf_N hW
    rw [st_78_91]
    simp (disch := (first | assumption | exact mm_c1_i _ | exact mm_c1_r _ | exact mm_c1_u _ | omega | exact hR _ _ | exact Nat.le_of_ble_eq_true rfl | decide | rfl | exact pb_dec _)) only [st_78_0, sm_78_1, st_78_4, st_78_7, sm_78_8, st_78_11, st_78_12, st_78_15, st_78_16, st_78_17, st_78_18, st_78_20, st_78_22, sm_78_23, st_78_26, st_78_29, sm_78_30, st_78_33, sm_78_35, st_78_36, sm_78_37, st_78_40, sm_78_41, st_78_42, st_78_45, st_78_46, sm_78_47, st_78_50, sm_78_52, st_78_53, st_78_54, st_78_55, st_78_56, st_78_59, st_78_62, sm_78_63, st_78_66, st_78_69, st_78_70, sm_78_71, st_78_74, st_78_75, st_78_76, sm_78_77, st_78_80, st_78_81, st_78_82, st_78_85, st_78_86, st_78_88, st_78_89, st_78_93, sm_78_94, st_78_97, st_78_100, sm_78_101, st_78_104, sm_78_106, st_78_107, sm_78_108, st_78_111, sm_78_112, st_78_113, st_78_116, st_78_118, st_78_119, sm_78_120, st_78_123, sm_78_125, st_78_126, st_78_127, st_78_128, sm_78_129, st_78_132, sm_78_134, st_78_135, st_78_136, st_78_137, st_78_138, st_78_140, st_78_143, st_78_147, st_78_151, st_78_153, st_78_155, st_78_156, sm_78_157, st_78_160, sm_78_161, st_78_162, st_78_163, st_78_164, st_78_166, st_78_167, st_78_168, st_78_169, st_78_171, st_78_173, st_78_174, st_78_175, st_78_178, st_78_179, st_78_182, st_78_183, reduceIte, Int.reduceEq, Int.reduceLE, Int.reduceLT, Int.reduceAdd, Int.reduceSub, Int.reduceMul, Int.reduceNeg, Int.reduceToNat, io_add, io_sub, io_mul, io_lt, io_le, io_eq, io_lt0, io_le0, io_0lt, io_0le, io_eq0, io_max2, Int.toNat_natCast, Nat.add_zero, Nat.zero_add]
    rw [if_pos (by omega), show q = rf_n I by omega]
    exact hend
  | m + 1, q, hm => by
    have hn := rf_N hW
    have hq := hQ.2.2.2 q (by omega)
    have n1 : ¬ Int64.ofInt (I 10 q) = 0 := jo_ne0 (by omega)
    have ih := sp_78b hR hW hQ hi hA hend m (q + 1) (by omega)
    rw [rf_sm] at ih
    rw [st_78_91]
    simp (disch := (first | assumption | exact mm_c1_i _ | exact mm_c1_r _ | exact mm_c1_u _ | omega | exact hR _ _ | exact Nat.le_of_ble_eq_true rfl | decide | rfl | exact pb_dec _)) only [st_78_0, sm_78_1, st_78_4, st_78_7, sm_78_8, st_78_11, st_78_12, st_78_15, st_78_16, st_78_17, st_78_18, st_78_20, st_78_22, sm_78_23, st_78_26, st_78_29, sm_78_30, st_78_33, sm_78_35, st_78_36, sm_78_37, st_78_40, sm_78_41, st_78_42, st_78_45, st_78_46, sm_78_47, st_78_50, sm_78_52, st_78_53, st_78_54, st_78_55, st_78_56, st_78_59, st_78_62, sm_78_63, st_78_66, st_78_69, st_78_70, sm_78_71, st_78_74, st_78_75, st_78_76, sm_78_77, st_78_80, st_78_81, st_78_82, st_78_85, st_78_86, st_78_88, st_78_89, st_78_93, sm_78_94, st_78_97, st_78_100, sm_78_101, st_78_104, sm_78_106, st_78_107, sm_78_108, st_78_111, sm_78_112, st_78_113, st_78_116, st_78_118, st_78_119, sm_78_120, st_78_123, sm_78_125, st_78_126, st_78_127, st_78_128, sm_78_129, st_78_132, sm_78_134, st_78_135, st_78_136, st_78_137, st_78_138, st_78_140, st_78_143, st_78_147, st_78_151, st_78_153, st_78_155, st_78_156, sm_78_157, st_78_160, sm_78_161, st_78_162, st_78_163, st_78_164, st_78_166, st_78_167, st_78_168, st_78_169, st_78_171, st_78_173, st_78_174, st_78_175, st_78_178, st_78_179, st_78_182, st_78_183, reduceIte, Int.reduceEq, Int.reduceLE, Int.reduceLT, Int.reduceAdd, Int.reduceSub, Int.reduceMul, Int.reduceNeg, Int.reduceToNat, io_add, io_sub, io_mul, io_lt, io_le, io_eq, io_lt0, io_le0, io_0lt, io_0le, io_eq0, io_max2, Int.toNat_natCast, Nat.add_zero, Nat.zero_add, jo_i2l, jo_mul, jo_add, jo_div]
    rw [if_neg (by omega)]
    by_cases h1 : I 10 q ≤ I 10 i
    · rw [if_pos h1] at ih
      rw [if_neg (by omega)]
      exact ih
    · rw [if_neg h1] at ih
      rw [if_pos (by omega)]
      exact ih
noncomputable def rf_vp (I : sp_I) (i : Nat) : Prop := ¬ (rf_sm I i (rf_al I i (rf_n I)) (rf_n I) + rf_al I i (rf_n I) / I 10 i * rf_oh I i ≤ rf_al I i (rf_n I))
theorem sp_78 (hR : sp_R I) (hW : rf_W I) (hQ : rf_Q I) {i : Nat} (hi : i < rf_n I) : mm_Rn pg_G (d + 3) 78 0 [.ref 8, io_v i, .retAddr 0, .retAddr 0, .retAddr 0, .retAddr 0, .retAddr 0] [] (sp_me I 0 0) (some (io_v (pb_z (¬ rf_vp I i))), sp_me I 0 0) := by
  have hn := rf_N hW
  have hi6 : i < 6 := by omega
  have hA := rf_al_fin hW hQ i (Nat.le_refl (rf_n I))
  have hS := rf_sm_rng hQ i hA (rf_n I) (Nat.le_refl _)
  have hq := hQ.2.2.2 i hi
  have n1 : ¬ Int64.ofInt (I 10 i) = 0 := jo_ne0 (by omega)
  have ho := rf_oh_rng hW i hn.2
  have ho' : 0 ≤ rf_oh I i ∧ rf_oh I i ≤ 100 := ho
  have hd := rf_dv hA hq.1.1 ho'
  obtain ⟨q1, q2, q3, -⟩ := id hQ
  have e3 : mm_Rn pg_G (d + 3) 78 146 [.ref 8, io_v i, .long (Int64.ofInt (rf_al I i (rf_n I))), .retAddr 0, .long (Int64.ofInt (rf_sm I i (rf_al I i (rf_n I)) (rf_n I))), .retAddr 0, io_v (rf_n I)] [] (sp_me I 0 0) (some (io_v (pb_z (¬ rf_vp I i))), sp_me I 0 0) := by
    simp (disch := (first | assumption | exact mm_c1_i _ | exact mm_c1_r _ | exact mm_c1_u _ | omega | exact hR _ _ | exact Nat.le_of_ble_eq_true rfl | decide | rfl | exact pb_dec _)) only [st_78_0, sm_78_1, st_78_4, st_78_7, sm_78_8, st_78_11, st_78_12, st_78_15, st_78_16, st_78_17, st_78_18, st_78_20, st_78_22, sm_78_23, st_78_26, st_78_29, sm_78_30, st_78_33, sm_78_35, st_78_36, sm_78_37, st_78_40, sm_78_41, st_78_42, st_78_45, st_78_46, sm_78_47, st_78_50, sm_78_52, st_78_53, st_78_54, st_78_55, st_78_56, st_78_59, st_78_62, sm_78_63, st_78_66, st_78_69, st_78_70, sm_78_71, st_78_74, st_78_75, st_78_76, sm_78_77, st_78_80, st_78_81, st_78_82, st_78_85, st_78_86, st_78_88, st_78_89, st_78_91, st_78_93, sm_78_94, st_78_97, st_78_100, sm_78_101, st_78_104, sm_78_106, st_78_107, sm_78_108, st_78_111, sm_78_112, st_78_113, st_78_116, st_78_118, st_78_119, sm_78_120, st_78_123, sm_78_125, st_78_126, st_78_127, st_78_128, sm_78_129, st_78_132, sm_78_134, st_78_135, st_78_136, st_78_137, st_78_138, st_78_140, st_78_143, st_78_146, st_78_147, st_78_151, st_78_153, st_78_155, st_78_156, sm_78_157, st_78_160, sm_78_161, st_78_162, st_78_163, st_78_164, st_78_166, st_78_167, st_78_168, st_78_169, st_78_171, st_78_173, st_78_174, st_78_175, st_78_178, st_78_179, st_78_182, st_78_183, reduceIte, Int.reduceEq, Int.reduceLE, Int.reduceLT, Int.reduceAdd, Int.reduceSub, Int.reduceMul, Int.reduceNeg, Int.reduceToNat, io_add, io_sub, io_mul, io_lt, io_le, io_eq, io_lt0, io_le0, io_0lt, io_0le, io_eq0, io_max2, Int.toNat_natCast, Nat.add_zero, Nat.zero_add]
    rw [st_78_148 (Nat.le_of_ble_eq_true rfl) rfl (sp_77 (d := d) hR hW hi6)]
    have j1 : jo_R (rf_sm I i (rf_al I i (rf_n I)) (rf_n I) + rf_al I i (rf_n I) / I 10 i * rf_oh I i) := by omega
    have j2 : jo_R (rf_al I i (rf_n I)) := by omega
    rw [pb_iff (show (¬ rf_vp I i) ↔ (rf_sm I i (rf_al I i (rf_n I)) (rf_n I) + rf_al I i (rf_n I) / I 10 i * rf_oh I i ≤ rf_al I i (rf_n I)) from Classical.not_not)]
    simp (disch := (first | assumption | exact mm_c1_i _ | exact mm_c1_r _ | exact mm_c1_u _ | omega | exact hR _ _ | exact Nat.le_of_ble_eq_true rfl | decide | rfl | exact pb_dec _)) only [st_78_0, sm_78_1, st_78_4, st_78_7, sm_78_8, st_78_11, st_78_12, st_78_15, st_78_16, st_78_17, st_78_18, st_78_20, st_78_22, sm_78_23, st_78_26, st_78_29, sm_78_30, st_78_33, sm_78_35, st_78_36, sm_78_37, st_78_40, sm_78_41, st_78_42, st_78_45, st_78_46, sm_78_47, st_78_50, sm_78_52, st_78_53, st_78_54, st_78_55, st_78_56, st_78_59, st_78_62, sm_78_63, st_78_66, st_78_69, st_78_70, sm_78_71, st_78_74, st_78_75, st_78_76, sm_78_77, st_78_80, st_78_81, st_78_82, st_78_85, st_78_86, st_78_88, st_78_89, st_78_91, st_78_93, sm_78_94, st_78_97, st_78_100, sm_78_101, st_78_104, sm_78_106, st_78_107, sm_78_108, st_78_111, sm_78_112, st_78_113, st_78_116, st_78_118, st_78_119, sm_78_120, st_78_123, sm_78_125, st_78_126, st_78_127, st_78_128, sm_78_129, st_78_132, sm_78_134, st_78_135, st_78_136, st_78_137, st_78_138, st_78_140, st_78_143, st_78_146, st_78_147, st_78_151, st_78_153, st_78_155, st_78_156, sm_78_157, st_78_160, sm_78_161, st_78_162, st_78_163, st_78_164, st_78_166, st_78_167, st_78_168, st_78_169, st_78_171, st_78_173, st_78_174, st_78_175, st_78_178, st_78_179, st_78_182, st_78_183, reduceIte, Int.reduceEq, Int.reduceLE, Int.reduceLT, Int.reduceAdd, Int.reduceSub, Int.reduceMul, Int.reduceNeg, Int.reduceToNat, io_add, io_sub, io_mul, io_lt, io_le, io_eq, io_lt0, io_le0, io_0lt, io_0le, io_eq0, io_max2, Int.toNat_natCast, Nat.add_zero, Nat.zero_add, jo_i2l, jo_mul, jo_add, jo_div, lg_cmp_gt, jo_lt]
    split
    · rw [pb_neg (by omega)]
    · rw [pb_pos (by omega)]
  have e2 : ∀ x y : Value, mm_Rn pg_G (d + 3) 78 62 [.ref 8, io_v i, .long (Int64.ofInt (rf_al I i (rf_n I))), .retAddr 0, x, .retAddr 0, y] [] (sp_me I 0 0) (some (io_v (pb_z (¬ rf_vp I i))), sp_me I 0 0) := by
    intro x y
    have k := sp_78b (d := d) hR hW hQ hi6 hA e3 (rf_n I) 0 (by omega)
    rw [rf_sm] at k
    by_cases h0 : 0 < I 8 10
    · have n2 : ¬ Int64.ofInt (I 8 11) = 0 := jo_ne0 (by have := q3 h0; omega)
      have h1 := q3 h0
      rw [if_pos h0] at k
      have h2 : ¬ I 8 10 ≤ 0 := by omega
      simp (disch := (first | assumption | exact mm_c1_i _ | exact mm_c1_r _ | exact mm_c1_u _ | omega | exact hR _ _ | exact Nat.le_of_ble_eq_true rfl | decide | rfl | exact pb_dec _)) only [st_78_0, sm_78_1, st_78_4, st_78_7, sm_78_8, st_78_11, st_78_12, st_78_15, st_78_16, st_78_17, st_78_18, st_78_20, st_78_22, sm_78_23, st_78_26, st_78_29, sm_78_30, st_78_33, sm_78_35, st_78_36, sm_78_37, st_78_40, sm_78_41, st_78_42, st_78_45, st_78_46, sm_78_47, st_78_50, sm_78_52, st_78_53, st_78_54, st_78_55, st_78_56, st_78_59, st_78_62, sm_78_63, st_78_66, st_78_69, st_78_70, sm_78_71, st_78_74, st_78_75, st_78_76, sm_78_77, st_78_80, st_78_81, st_78_82, st_78_85, st_78_86, st_78_88, st_78_89, st_78_93, sm_78_94, st_78_97, st_78_100, sm_78_101, st_78_104, sm_78_106, st_78_107, sm_78_108, st_78_111, sm_78_112, st_78_113, st_78_116, st_78_118, st_78_119, sm_78_120, st_78_123, sm_78_125, st_78_126, st_78_127, st_78_128, sm_78_129, st_78_132, sm_78_134, st_78_135, st_78_136, st_78_137, st_78_138, st_78_140, st_78_143, st_78_146, st_78_147, st_78_151, st_78_153, st_78_155, st_78_156, sm_78_157, st_78_160, sm_78_161, st_78_162, st_78_163, st_78_164, st_78_166, st_78_167, st_78_168, st_78_169, st_78_171, st_78_173, st_78_174, st_78_175, st_78_178, st_78_179, st_78_182, st_78_183, reduceIte, Int.reduceEq, Int.reduceLE, Int.reduceLT, Int.reduceAdd, Int.reduceSub, Int.reduceMul, Int.reduceNeg, Int.reduceToNat, io_add, io_sub, io_mul, io_lt, io_le, io_eq, io_lt0, io_le0, io_0lt, io_0le, io_eq0, io_max2, Int.toNat_natCast, Nat.add_zero, Nat.zero_add, jo_i2l, jo_mul, jo_add, jo_div, h2]
      exact k
    · rw [if_neg h0] at k
      have h2 : I 8 10 ≤ 0 := by omega
      simp (disch := (first | assumption | exact mm_c1_i _ | exact mm_c1_r _ | exact mm_c1_u _ | omega | exact hR _ _ | exact Nat.le_of_ble_eq_true rfl | decide | rfl | exact pb_dec _)) only [st_78_0, sm_78_1, st_78_4, st_78_7, sm_78_8, st_78_11, st_78_12, st_78_15, st_78_16, st_78_17, st_78_18, st_78_20, st_78_22, sm_78_23, st_78_26, st_78_29, sm_78_30, st_78_33, sm_78_35, st_78_36, sm_78_37, st_78_40, sm_78_41, st_78_42, st_78_45, st_78_46, sm_78_47, st_78_50, sm_78_52, st_78_53, st_78_54, st_78_55, st_78_56, st_78_59, st_78_62, sm_78_63, st_78_66, st_78_69, st_78_70, sm_78_71, st_78_74, st_78_75, st_78_76, sm_78_77, st_78_80, st_78_81, st_78_82, st_78_85, st_78_86, st_78_88, st_78_89, st_78_93, sm_78_94, st_78_97, st_78_100, sm_78_101, st_78_104, sm_78_106, st_78_107, sm_78_108, st_78_111, sm_78_112, st_78_113, st_78_116, st_78_118, st_78_119, sm_78_120, st_78_123, sm_78_125, st_78_126, st_78_127, st_78_128, sm_78_129, st_78_132, sm_78_134, st_78_135, st_78_136, st_78_137, st_78_138, st_78_140, st_78_143, st_78_146, st_78_147, st_78_151, st_78_153, st_78_155, st_78_156, sm_78_157, st_78_160, sm_78_161, st_78_162, st_78_163, st_78_164, st_78_166, st_78_167, st_78_168, st_78_169, st_78_171, st_78_173, st_78_174, st_78_175, st_78_178, st_78_179, st_78_182, st_78_183, reduceIte, Int.reduceEq, Int.reduceLE, Int.reduceLT, Int.reduceAdd, Int.reduceSub, Int.reduceMul, Int.reduceNeg, Int.reduceToNat, io_add, io_sub, io_mul, io_lt, io_le, io_eq, io_lt0, io_le0, io_0lt, io_0le, io_eq0, io_max2, Int.toNat_natCast, Nat.add_zero, Nat.zero_add, jo_i2l, jo_mul, jo_add, jo_div, h2]
      exact k
  have k := fun x => sp_78a (d := d) hR hW hi6 (x := x) (e2 _ _) (rf_n I) 0 (by omega)
  rw [rf_al] at k
  by_cases h0 : 0 < I 8 10
  · rw [if_pos h0] at k
    have h2 : ¬ I 8 10 ≤ 0 := by omega
    simp (disch := (first | assumption | exact mm_c1_i _ | exact mm_c1_r _ | exact mm_c1_u _ | omega | exact hR _ _ | exact Nat.le_of_ble_eq_true rfl | decide | rfl | exact pb_dec _)) only [st_78_0, sm_78_1, st_78_4, st_78_7, sm_78_8, st_78_11, st_78_12, st_78_15, st_78_16, st_78_17, st_78_18, st_78_22, sm_78_23, st_78_26, st_78_29, sm_78_30, st_78_33, sm_78_35, st_78_36, sm_78_37, st_78_40, sm_78_41, st_78_42, st_78_45, st_78_46, sm_78_47, st_78_50, sm_78_52, st_78_53, st_78_54, st_78_55, st_78_56, st_78_59, st_78_62, sm_78_63, st_78_66, st_78_69, st_78_70, sm_78_71, st_78_74, st_78_75, st_78_76, sm_78_77, st_78_80, st_78_81, st_78_82, st_78_85, st_78_86, st_78_88, st_78_89, st_78_91, st_78_93, sm_78_94, st_78_97, st_78_100, sm_78_101, st_78_104, sm_78_106, st_78_107, sm_78_108, st_78_111, sm_78_112, st_78_113, st_78_116, st_78_118, st_78_119, sm_78_120, st_78_123, sm_78_125, st_78_126, st_78_127, st_78_128, sm_78_129, st_78_132, sm_78_134, st_78_135, st_78_136, st_78_137, st_78_138, st_78_140, st_78_143, st_78_146, st_78_147, st_78_151, st_78_153, st_78_155, st_78_156, sm_78_157, st_78_160, sm_78_161, st_78_162, st_78_163, st_78_164, st_78_166, st_78_167, st_78_168, st_78_169, st_78_171, st_78_173, st_78_174, st_78_175, st_78_178, st_78_179, st_78_182, st_78_183, reduceIte, Int.reduceEq, Int.reduceLE, Int.reduceLT, Int.reduceAdd, Int.reduceSub, Int.reduceMul, Int.reduceNeg, Int.reduceToNat, io_add, io_sub, io_mul, io_lt, io_le, io_eq, io_lt0, io_le0, io_0lt, io_0le, io_eq0, io_max2, Int.toNat_natCast, Nat.add_zero, Nat.zero_add, jo_i2l, h2]
    exact k _
  · rw [if_neg h0] at k
    have h2 : I 8 10 ≤ 0 := by omega
    simp (disch := (first | assumption | exact mm_c1_i _ | exact mm_c1_r _ | exact mm_c1_u _ | omega | exact hR _ _ | exact Nat.le_of_ble_eq_true rfl | decide | rfl | exact pb_dec _)) only [st_78_0, sm_78_1, st_78_4, st_78_7, sm_78_8, st_78_11, st_78_12, st_78_15, st_78_16, st_78_17, st_78_18, st_78_22, sm_78_23, st_78_26, st_78_29, sm_78_30, st_78_33, sm_78_35, st_78_36, sm_78_37, st_78_40, sm_78_41, st_78_42, st_78_45, st_78_46, sm_78_47, st_78_50, sm_78_52, st_78_53, st_78_54, st_78_55, st_78_56, st_78_59, st_78_62, sm_78_63, st_78_66, st_78_69, st_78_70, sm_78_71, st_78_74, st_78_75, st_78_76, sm_78_77, st_78_80, st_78_81, st_78_82, st_78_85, st_78_86, st_78_88, st_78_89, st_78_91, st_78_93, sm_78_94, st_78_97, st_78_100, sm_78_101, st_78_104, sm_78_106, st_78_107, sm_78_108, st_78_111, sm_78_112, st_78_113, st_78_116, st_78_118, st_78_119, sm_78_120, st_78_123, sm_78_125, st_78_126, st_78_127, st_78_128, sm_78_129, st_78_132, sm_78_134, st_78_135, st_78_136, st_78_137, st_78_138, st_78_140, st_78_143, st_78_146, st_78_147, st_78_151, st_78_153, st_78_155, st_78_156, sm_78_157, st_78_160, sm_78_161, st_78_162, st_78_163, st_78_164, st_78_166, st_78_167, st_78_168, st_78_169, st_78_171, st_78_173, st_78_174, st_78_175, st_78_178, st_78_179, st_78_182, st_78_183, reduceIte, Int.reduceEq, Int.reduceLE, Int.reduceLT, Int.reduceAdd, Int.reduceSub, Int.reduceMul, Int.reduceNeg, Int.reduceToNat, io_add, io_sub, io_mul, io_lt, io_le, io_eq, io_lt0, io_le0, io_0lt, io_0le, io_eq0, io_max2, Int.toNat_natCast, Nat.add_zero, Nat.zero_add, jo_i2l, h2]
    exact k _
theorem sp_79l (hR : sp_R I) (hW : rf_W I) (hQ : rf_Q I) : ∀ m q : Nat, q + m = rf_n I → (∀ j, j < q → ¬ rf_vp I j) → mm_Rn pg_G (d + 4) 79 2 [.ref 8, io_v q] [] (sp_me I 0 0) (some (io_v (if pf_fst (rf_n I) (rf_vp I) < rf_n I then (pf_fst (rf_n I) (rf_vp I) : Int) else -1)), sp_me I 0 0)
  | 0, q, hm, hn0 => by
    have hn := rf_N hW
    rw [pf_fst_none (rf_n I) (fun k hk => hn0 k (by omega)), if_neg (by omega), st_79_2]
    simp (disch := (first | assumption | exact mm_c1_i _ | exact mm_c1_r _ | exact mm_c1_u _ | omega | exact hR _ _ | exact Nat.le_of_ble_eq_true rfl | decide | rfl | exact pb_dec _)) only [st_79_0, st_79_1, st_79_3, sm_79_4, st_79_7, st_79_10, st_79_11, st_79_15, st_79_18, st_79_19, st_79_20, st_79_23, st_79_26, st_79_27, reduceIte, Int.reduceEq, Int.reduceLE, Int.reduceLT, Int.reduceAdd, Int.reduceSub, Int.reduceMul, Int.reduceNeg, Int.reduceToNat, io_add, io_sub, io_mul, io_lt, io_le, io_eq, io_lt0, io_le0, io_0lt, io_0le, io_eq0, io_max2, Int.toNat_natCast, Nat.add_zero, Nat.zero_add]
    rw [if_pos (by omega)]; trivial
  | m + 1, q, hm, hn0 => by
    have hn := rf_N hW
    have hi : q < rf_n I := by omega
    rw [st_79_2]
    simp (disch := (first | assumption | exact mm_c1_i _ | exact mm_c1_r _ | exact mm_c1_u _ | omega | exact hR _ _ | exact Nat.le_of_ble_eq_true rfl | decide | rfl | exact pb_dec _)) only [st_79_0, st_79_1, st_79_3, sm_79_4, st_79_7, st_79_10, st_79_11, st_79_15, st_79_18, st_79_19, st_79_20, st_79_23, st_79_26, st_79_27, reduceIte, Int.reduceEq, Int.reduceLE, Int.reduceLT, Int.reduceAdd, Int.reduceSub, Int.reduceMul, Int.reduceNeg, Int.reduceToNat, io_add, io_sub, io_mul, io_lt, io_le, io_eq, io_lt0, io_le0, io_0lt, io_0le, io_eq0, io_max2, Int.toNat_natCast, Nat.add_zero, Nat.zero_add]
    rw [if_neg (by omega), st_79_12 (Nat.le_of_ble_eq_true rfl) rfl (sp_78 (d := d) hR hW hQ hi)]
    by_cases h1 : rf_vp I q
    · rw [pf_fst_some h1 hn0 (rf_n I) hi, if_pos hi, pb_neg (fun z => z h1)]
      simp (disch := (first | assumption | exact mm_c1_i _ | exact mm_c1_r _ | exact mm_c1_u _ | omega | exact hR _ _ | exact Nat.le_of_ble_eq_true rfl | decide | rfl | exact pb_dec _)) only [st_79_0, st_79_1, st_79_3, sm_79_4, st_79_7, st_79_10, st_79_11, st_79_15, st_79_18, st_79_19, st_79_20, st_79_23, st_79_26, st_79_27, reduceIte, Int.reduceEq, Int.reduceLE, Int.reduceLT, Int.reduceAdd, Int.reduceSub, Int.reduceMul, Int.reduceNeg, Int.reduceToNat, io_add, io_sub, io_mul, io_lt, io_le, io_eq, io_lt0, io_le0, io_0lt, io_0le, io_eq0, io_max2, Int.toNat_natCast, Nat.add_zero, Nat.zero_add]
    · have ih := sp_79l hR hW hQ m (q + 1) (by omega) (fun k hk => by
        rcases Nat.lt_or_ge k q with z | z
        · exact hn0 k z
        · rw [show k = q by omega]; exact h1)
      rw [pb_pos h1]
      simp (disch := (first | assumption | exact mm_c1_i _ | exact mm_c1_r _ | exact mm_c1_u _ | omega | exact hR _ _ | exact Nat.le_of_ble_eq_true rfl | decide | rfl | exact pb_dec _)) only [st_79_0, st_79_1, st_79_3, sm_79_4, st_79_7, st_79_10, st_79_11, st_79_15, st_79_18, st_79_19, st_79_20, st_79_23, st_79_26, st_79_27, reduceIte, Int.reduceEq, Int.reduceLE, Int.reduceLT, Int.reduceAdd, Int.reduceSub, Int.reduceMul, Int.reduceNeg, Int.reduceToNat, io_add, io_sub, io_mul, io_lt, io_le, io_eq, io_lt0, io_le0, io_0lt, io_0le, io_eq0, io_max2, Int.toNat_natCast, Nat.add_zero, Nat.zero_add]
      exact ih
theorem sp_79 (hR : sp_R I) (hW : rf_W I) (hQ : rf_Q I) : mm_Rn pg_G (d + 4) 79 0 [.ref 8, .retAddr 0] [] (sp_me I 0 0) (some (io_v (if pf_fst (rf_n I) (rf_vp I) < rf_n I then (pf_fst (rf_n I) (rf_vp I) : Int) else -1)), sp_me I 0 0) := by
  simp (disch := (first | assumption | exact mm_c1_i _ | exact mm_c1_r _ | exact mm_c1_u _ | omega | exact hR _ _ | exact Nat.le_of_ble_eq_true rfl | decide | rfl | exact pb_dec _)) only [st_79_0, st_79_1, st_79_3, sm_79_4, st_79_7, st_79_10, st_79_11, st_79_15, st_79_18, st_79_19, st_79_20, st_79_23, st_79_26, st_79_27, reduceIte, Int.reduceEq, Int.reduceLE, Int.reduceLT, Int.reduceAdd, Int.reduceSub, Int.reduceMul, Int.reduceNeg, Int.reduceToNat, io_add, io_sub, io_mul, io_lt, io_le, io_eq, io_lt0, io_le0, io_0lt, io_0le, io_eq0, io_max2, Int.toNat_natCast, Nat.add_zero, Nat.zero_add]
  exact sp_79l hR hW hQ (rf_n I) 0 (by omega) (fun j hj => by omega)
end RP
