/-! a section is made -/
def cl_sec (I : sp_I) (i : Nat) (r f t : Int) : sp_I := fun y j =>
  if y = ad_s i (sp_c I i) then (if j = 0 then r else if j = 1 then f else if j = 2 then t else 0) else
  if y = ad_t i ∧ j = 5 then I (ad_t i) 5 + 1 else I y j
section SK
variable {I : sp_I} {d i : Nat}
def mk_13A (I : sp_I) (i : Nat) : mm_M := mm_al (sp_me I 0 0) (ad_s i (sp_c I i)) 4 3 fun k => defaultValue (mm_ft pg_G 4 k)
def mk_13 (I : sp_I) (i : Nat) (r f t : Int) : mm_M := mm_wr (mm_wr (mk_cl (mk_13A I i) (mk_0 (mk_z (mk_13A I i)) (ad_s i (sp_c I i)) (Int32.ofInt r) (Int32.ofInt f) (Int32.ofInt t))) (ad_a i) (sp_c I i) (.ref (ad_s i (sp_c I i)))) (ad_t i) 5 (io_v (I (ad_t i) 5 + 1))
theorem cl_sec_o (r f t : Int) {y j : Nat} (h0 : y ≠ ad_s i (sp_c I i)) (h1 : ¬ (y = ad_t i ∧ j = 5)) : cl_sec I i r f t y j = I y j := by
  unfold cl_sec
  rw [if_neg h0, if_neg h1]
theorem cl_sec_n (r f t : Int) : sp_n (cl_sec I i r f t) = sp_n I := by
  unfold sp_n
  rw [cl_sec_o r f t (by unfold ad_s; omega) (by unfold ad_t; omega)]
theorem cl_sec_c (r f t : Int) {u : Nat} (hc : sp_c I i < 4) (h : u ≠ i) : sp_c (cl_sec I i r f t) u = sp_c I u := by
  unfold sp_c
  rw [cl_sec_o r f t (by unfold ad_t ad_s; omega) (by unfold ad_t; omega)]
theorem cl_sec_c1 (r f t : Int) (hc : sp_c I i < 4) (h0 : 0 ≤ I (ad_t i) 5) : sp_c (cl_sec I i r f t) i = sp_c I i + 1 := by
  unfold sp_c cl_sec
  rw [if_neg (by unfold ad_t ad_s; omega), if_pos ⟨rfl, rfl⟩]
  omega
theorem mk_0T {g : mm_M} {x : Nat} {a b c : Int32} : (mk_0 g x a b c).1 = g.1 := rfl
theorem mk_0o {g : mm_M} {x y j : Nat} {a b c : Int32} (h : y ≠ x) : (mk_0 g x a b c).2.1 y j = g.2.1 y j := by
  unfold mk_0
  rw [mk_v2 h, mk_v2 h, mk_v2 h]
theorem mk_0v {g : mm_M} {x j : Nat} {a b c : Int32} : (mk_0 g x a b c).2.1 x j = if j = 0 then .int a else if j = 1 then .int b else if j = 2 then .int c else g.2.1 x j := by
  unfold mk_0
  rcases (by omega : j = 0 ∨ j = 1 ∨ j = 2 ∨ 3 ≤ j) with z | z | z | z
  · subst z; rw [mk_v3 (by decide), mk_v3 (by decide), mk_v1]; rfl
  · subst z; rw [mk_v3 (by decide), mk_v1]; rfl
  · subst z; rw [mk_v1]; rfl
  · rw [mk_v3 (by omega), mk_v3 (by omega), mk_v3 (by omega), if_neg (by omega), if_neg (by omega), if_neg (by omega)]
theorem mk_ft4 (j : Nat) : defaultValue (mm_ft pg_G 4 j) = io_v 0 := by
  match j with
  | 0 => rfl
  | 1 => rfl
  | 2 => rfl
  | k + 3 => rfl
theorem mk_13T (hi : i < sp_n I) (hc : sp_c I i < 4) (h0 : 0 ≤ I (ad_t i) 5) (r f t : Int) : (mk_13 I i r f t).1 = sp_T (cl_sec I i r f t) := by
  funext y
  have e30 : cl_sec I i r f t 30 0 = I 30 0 := cl_sec_o r f t (by unfold ad_s; omega) (by unfold ad_t; omega)
  unfold mk_13
  rw [mk_w1, mk_w1, mk_c1, mk_0T]
  show (if y = ad_s i (sp_c I i) then some (4, 3) else sp_T I y) = _
  by_cases hy : y < 32
  · rw [if_neg (by unfold ad_s; omega)]
    unfold sp_T
    rw [if_pos hy, if_pos hy, sp_T0_congr e30]
  · obtain ⟨u, o, ho, rfl⟩ : ∃ u o, o < 8 ∧ y = 32 + 8 * u + o := ⟨(y - 32) / 8, (y - 32) % 8, by omega, by omega⟩
    unfold sp_T
    rw [if_neg hy, if_neg hy, cl_sec_n, show (32 + 8 * u + o - 32) / 8 = u by omega, show (32 + 8 * u + o - 32) % 8 = o by omega]
    by_cases h1 : u = i
    · subst h1
      rw [if_pos hi, if_pos hi]
      unfold sp_T1
      rw [cl_sec_c1 r f t hc h0]
      rcases (show o = 0 ∨ o = 1 ∨ o = 2 ∨ o = 3 ∨ ∃ k, o = k + 4 by rcases (by omega : o = 0 ∨ o = 1 ∨ o = 2 ∨ o = 3 ∨ o = (o - 4) + 4) with z | z | z | z | z; exact .inl z; exact .inr (.inl z); exact .inr (.inr (.inl z)); exact .inr (.inr (.inr (.inl z))); exact .inr (.inr (.inr (.inr ⟨_, z⟩)))) with z | z | z | z | ⟨k, z⟩ <;> subst z
      · rw [if_neg (by unfold ad_s; omega)]
      · rw [if_neg (by unfold ad_s; omega)]
      · rw [if_neg (by unfold ad_s; omega)]
      · rw [if_neg (by unfold ad_s; omega)]
      · show _ = if k < sp_c I u + 1 then some (4, 3) else none
        by_cases hk : k = sp_c I u
        · rw [if_pos (by unfold ad_s; omega), if_pos (by omega)]
        · rw [if_neg (by unfold ad_s; omega)]
          show (if k < sp_c I u then some (4, 3) else none) = _
          by_cases hl : k < sp_c I u
          · rw [if_pos hl, if_pos (by omega)]
          · rw [if_neg hl, if_neg (by omega)]
    · rw [if_neg (by unfold ad_s; omega)]
      unfold sp_T1
      rw [cl_sec_c r f t hc h1]
theorem mk_13V (hc : sp_c I i < 4) (h0 : 0 ≤ I (ad_t i) 5) (r f t : Int) : (mk_13 I i r f t).2.1 = sp_V (cl_sec I i r f t) := by
  funext y j
  unfold mk_13
  by_cases a0 : y = ad_t i
  · subst a0
    by_cases j5 : j = 5
    · subst j5
      rw [mk_v1, sp_V_t5]
      unfold cl_sec
      rw [if_neg (by unfold ad_t ad_s; omega), if_pos ⟨rfl, rfl⟩]
    · have e : cl_sec I i r f t (ad_t i) j = I (ad_t i) j := cl_sec_o r f t (by unfold ad_t ad_s; omega) (by omega)
      rw [mk_v3 j5, mk_v2 (by unfold ad_a ad_t; omega), mk_cv, mk_0o (by unfold ad_t ad_s; omega), mk_zv]
      unfold mk_13A
      rw [mk_av (by unfold ad_t ad_s; omega)]
      show sp_V I (ad_t i) j = _
      obtain ⟨r1, r2, r3⟩ := sp_t_div i
      unfold sp_V
      rw [if_neg r1, if_neg r1, r2, r3]
      unfold sp_V1
      rw [e]
      rfl
  rw [mk_v2 a0]
  by_cases a1 : y = ad_a i
  · subst a1
    obtain ⟨r1, r2, r3⟩ := sp_a_div i
    unfold sp_V
    rw [if_neg r1, r2, r3]
    show _ = if j < sp_c (cl_sec I i r f t) i then _ else _
    rw [cl_sec_c1 r f t hc h0]
    by_cases jc : j = sp_c I i
    · subst jc
      rw [mk_v1, if_pos (by omega)]
    · rw [mk_v3 jc, mk_cv, mk_0o (by unfold ad_a ad_s; omega), mk_zv]
      unfold mk_13A
      rw [mk_av (by unfold ad_a ad_s; omega)]
      show sp_V I (ad_a i) j = _
      unfold sp_V
      rw [if_neg r1, r2, r3]
      show (if j < sp_c I i then _ else _) = _
      by_cases hl : j < sp_c I i
      · rw [if_pos hl, if_pos (by omega)]
      · rw [if_neg hl, if_neg (by omega)]
  rw [mk_v2 a1, mk_cv]
  by_cases a2 : y = ad_s i (sp_c I i)
  · subst a2
    rw [mk_0v, mk_zv, sp_V_s hc]
    unfold mk_13A
    rw [mk_aa, mk_ft4]
    unfold cl_sec
    rw [if_pos rfl]
    rcases (by omega : j = 0 ∨ j = 1 ∨ j = 2 ∨ 3 ≤ j) with z | z | z | z
    · subst z; rfl
    · subst z; rfl
    · subst z; rfl
    · rw [if_neg (by omega), if_neg (by omega), if_neg (by omega), if_neg (by omega), if_neg (by omega), if_neg (by omega)]
  · rw [mk_0o a2, mk_zv]
    unfold mk_13A
    rw [mk_av a2]
    have e : ∀ j, cl_sec I i r f t y j = I y j := fun j => cl_sec_o r f t a2 (by omega)
    show sp_V I y j = _
    unfold sp_V
    by_cases hy : y < 32
    · rw [if_pos hy, if_pos hy]
      unfold sp_V0
      split <;> first | contradiction | (simp only [e, cl_sec_n]) | rfl
    · rw [if_neg hy, if_neg hy]
      unfold sp_V1
      split
      · rw [e]
      · rename_i ho
        by_cases hu : (y - 32) / 8 = i
        · unfold ad_a at a1; omega
        · rw [cl_sec_c r f t hc hu]
      · rw [e]
      · rw [e]
theorem mk_13e (hi : i < sp_n I) (hc : sp_c I i < 4) (h0 : 0 ≤ I (ad_t i) 5) (r f t : Int) : mk_13 I i r f t = sp_me (cl_sec I i r f t) 1 3 := by
  unfold sp_me
  rw [← mk_13T hi hc h0, ← mk_13V hc h0]
  rfl
theorem gs_13_8 {d : Nat} {l1 l2 l3 : Value} {t : List Value} {g : mm_M} {r : mm_R} {k : Nat} (hV : g.2.1 (ad_t i) 5 = io_v k) (hk : k ≤ 4) (hT : g.1 (ad_s i k) = none) : mm_Rn pg_G d 13 8 [.ref (ad_t i), l1, l2, l3] t g r ↔ mm_Rn pg_G d 13 11 [.ref (ad_t i), l1, l2, l3] (.ref (ad_s i k) :: t) (mm_al g (ad_s i k) 4 3 fun k => defaultValue (mm_ft pg_G 4 k)) r := st_13_8 (by
    show ad_t i + 4 + sp_r (g.2.1 (ad_t i) 5) = ad_s i k
    rw [hV]
    show ad_t i + 4 + (Int32.ofInt (k : Int)).toNatClampNeg = ad_s i k
    rw [io_nat (by omega)]
    unfold ad_t ad_s
    omega) hT
theorem gs_13_15 {d : Nat} {ls t : List Value} {g q : mm_M} {r : mm_R} {a0 a1 a2 : Int32} {y : Nat} (hl : t.length ≤ 4) (hq : mm_Rn pg_G d 0 0 [.ref y, .int a0, .int a1, .int a2] [] (mk_z g) (none, q)) : mm_Rn pg_G (d + 1) 13 15 ls (.int a2 :: .int a1 :: .int a0 :: .ref y :: t) g r ↔ mm_Rn pg_G (d + 1) 13 18 ls t (mk_cl g q) r := rn_spec (g := g) (st := .int a2 :: .int a1 :: .int a0 :: .ref y :: t) tb_13_15 (by decide) rfl ⟨Nat.le_add_left _ t.length, hl, rfl⟩ hq r
theorem sp_Tns (hi : i < sp_n I) {k : Nat} (hk : k < 4) (h : sp_c I i ≤ k) : sp_T I (ad_s i k) = none := by
  obtain ⟨a, b, c⟩ := sp_s_div i k hk
  unfold sp_T
  rw [if_neg a, b, c, if_pos hi]
  show (if k < sp_c I i then _ else _) = _
  rw [if_neg (by omega)]
theorem sp_13 (hi : i < sp_n I) (hS : cl_S I i) (h4 : I (ad_t i) 5 ≠ 4) {r f t : Int} : mm_Rn pg_G (d + 2) 13 0 [.ref (ad_t i), io_v r, io_v f, io_v t] [] (sp_me I 0 0) (none, sp_me (cl_sec I i r f t) 1 3) := by
  have hcc := cl_cnt hS
  have h0 := hS.1
  have hc : sp_c I i < 4 := by omega
  rw [← mk_13e hi hc h0]
  have e13 : mk_13 I i r f t = mm_wr (mm_wr (mk_cl (mk_13A I i) (mk_0 (mk_z (mk_13A I i)) (ad_s i (sp_c I i)) (Int32.ofInt r) (Int32.ofInt f) (Int32.ofInt t))) (ad_a i) (sp_c I i) (.ref (ad_s i (sp_c I i)))) (ad_t i) 5 (io_v (I (ad_t i) 5 + 1)) := rfl
  rw [e13]
  have hT : ∀ y, (mk_13A I i).1 y = if y = ad_s i (sp_c I i) then some (4, 3) else sp_T I y := fun y => rfl
  have eV : (sp_me I 0 0).2.1 (ad_t i) 5 = io_v (sp_c I i) := by rw [hcc.1]; exact sp_V_t5 I i
  have eA : (sp_me I 0 0).2.1 (ad_t i) 3 = .ref (ad_a i) := sp_V_t3 I i
  have k0 := sm_k0 (d := d) (g := mk_z (mk_13A I i)) (x := ad_s i (sp_c I i)) (a1 := Int32.ofInt r) (a2 := Int32.ofInt f) (a3 := Int32.ofInt t) (by rw [mk_z1, hT, if_pos rfl])
  rw [st_13_0, st_13_1 (sp_T_t hi), eA, st_13_4, st_13_5 (sp_T_t hi), eV, gs_13_8 eV (by omega) (sp_Tns hi hc (Nat.le_refl _)), st_13_11 (mm_c1_r _), st_13_12, st_13_13, st_13_14]
  rw [show (mm_al (sp_me I 0 0) (ad_s i (sp_c I i)) 4 3 fun k => defaultValue (mm_ft pg_G 4 k)) = mk_13A I i from rfl, gs_13_15 (Nat.le_of_ble_eq_true rfl) k0]
  have hG1 : (mk_cl (mk_13A I i) (mk_0 (mk_z (mk_13A I i)) (ad_s i (sp_c I i)) (Int32.ofInt r) (Int32.ofInt f) (Int32.ofInt t))).1 = (mk_13A I i).1 := rfl
  have EV : (mk_cl (mk_13A I i) (mk_0 (mk_z (mk_13A I i)) (ad_s i (sp_c I i)) (Int32.ofInt r) (Int32.ofInt f) (Int32.ofInt t))).2.1 (ad_t i) 5 = io_v (I (ad_t i) 5) := by
    rw [mk_cv, mk_0o (by unfold ad_t ad_s; omega), mk_zv]
    unfold mk_13A
    rw [mk_av (by unfold ad_t ad_s; omega), eV, hcc.1]
  generalize mk_cl (mk_13A I i) (mk_0 (mk_z (mk_13A I i)) (ad_s i (sp_c I i)) (Int32.ofInt r) (Int32.ofInt f) (Int32.ofInt t)) = G at *
  have Ea : G.1 (ad_a i) = some (103, 4) := by rw [hG1, hT, if_neg (by unfold ad_a ad_s; omega)]; exact sp_T_a hi
  have Es : G.1 (ad_s i (sp_c I i)) = some (4, 3) := by rw [hG1, hT, if_pos rfl]
  have Et : G.1 (ad_t i) = some (3, 10) := by rw [hG1, hT, if_neg (by unfold ad_t ad_s; omega)]; exact sp_T_t hi
  have hin : mm_in (G.1 (ad_a i)) 103 103 (Int32.ofInt ((sp_c I i : Nat) : Int)) = true := by
    rw [Ea]
    unfold mm_in
    rw [io_nat (by omega)]
    simp (disch := omega) only [io_0le]
    exact decide_eq_true (by omega)
  rw [st_13_18 hin Es, io_nat (by omega), Int.toNat_natCast]
  have F0 : (mm_wr G (ad_a i) (sp_c I i) (.ref (ad_s i (sp_c I i)))).1 (ad_t i) = some (3, 10) := Et
  have FV : (mm_wr G (ad_a i) (sp_c I i) (.ref (ad_s i (sp_c I i)))).2.1 (ad_t i) 5 = io_v (I (ad_t i) 5) := by rw [mk_v2 (by unfold ad_t ad_a; omega)]; exact EV
  rw [st_13_19, st_13_20 (mm_c1_r _), st_13_21 F0, FV, st_13_24, st_13_25, io_add, st_13_26 F0, st_13_29]
/-- the condition of section, and what it leaves -/
def cl_se (I : sp_I) (i : Nat) (r f t : Int) : Prop := I 0 5 = 0 ∧ (i : Int) < I 0 4 ∧ (0 ≤ r ∧ r < 4) ∧ 0 ≤ f ∧ f < t ∧ t ≤ I (ad_t i) 2 ∧ I (ad_t i) 5 ≠ 4 ∧ ∀ k, k < sp_c I i → cl_agree I i r f t k
def cl_sec2 (I : sp_I) (i : Nat) (r f t : Int) : sp_I := up_I (cl_sec I i r f t) 2 r.toNat (max (I 2 r.toNat) (101 - I (ad_t i) 1))
theorem sp_34y (hR : sp_R I) (h04 : 0 ≤ I 0 4 ∧ I 0 4 ≤ 6) (hT : cl_TS I) {r f t : Int} (h1 : 0 ≤ I (ad_t i) 1 ∧ I (ad_t i) 1 ≤ 100) (h : cl_se I i r f t) : mm_Rn pg_G (d + 3) 34 0 [.ref 0, io_v i, io_v r, io_v f, io_v t, .retAddr 0] [] (sp_me I 0 0) (some (io_v 1), sp_me (cl_sec2 I i r f t) 1 3) := by
  obtain ⟨a1, a2, a3, a4, a5, a6, a7, a8⟩ := h
  have hn := cl_n h04
  have hi : i < sp_n I := by omega
  have hr2 := hR (ad_t i) 2
  have g4 : ¬ f < 0 := by omega
  have g5 : ¬ t ≤ f := by omega
  have g6 : ¬ I (ad_t i) 2 < t := by omega
  have hS : cl_S I i := (hT i hi).1
  have hcc := cl_cnt hS
  unfold cl_sec2
  simp (disch := (first | assumption | exact mm_c1_i _ | exact mm_c1_r _ | exact mm_c1_u _ | omega | exact hR _ _ | exact Nat.le_of_ble_eq_true rfl | decide | rfl | exact pb_dec _)) only [st_34_0, sm_34_1, st_34_4, st_34_7, st_34_8, st_34_12, st_34_15, st_34_19, st_34_22, st_34_23, st_34_24, sm_34_25, st_34_28, sm_34_29, st_34_30, st_34_32, st_34_33, st_34_36, st_34_37, st_34_39, st_34_42, st_34_44, sm_34_46, st_34_49, st_34_52, st_34_54, st_34_55, st_34_56, st_34_61, st_34_64, st_34_65, st_34_66, st_34_68, st_34_69, st_34_70, st_34_75, sm_34_76, st_34_79, st_34_80, sm_34_81, st_34_84, sm_34_85, st_34_86, st_34_91, sm_34_94, st_34_95, st_34_96, reduceIte, Int.reduceEq, Int.reduceLE, Int.reduceLT, Int.reduceAdd, Int.reduceSub, Int.reduceMul, Int.reduceNeg, Int.reduceToNat, io_add, io_sub, io_mul, io_lt, io_le, io_eq, io_lt0, io_le0, io_0lt, io_0le, io_eq0, io_max2, Int.toNat_natCast, Nat.add_zero, Nat.zero_add, a1]
  rw [st_34_9 (Nat.le_of_ble_eq_true rfl) rfl (sp_52 (d := d + 2) hR (show io_R (i : Int) by omega)), pb_pos ⟨by omega, a2⟩]
  simp (disch := (first | assumption | exact mm_c1_i _ | exact mm_c1_r _ | exact mm_c1_u _ | omega | exact hR _ _ | exact Nat.le_of_ble_eq_true rfl | decide | rfl | exact pb_dec _)) only [st_34_0, sm_34_1, st_34_4, st_34_7, st_34_8, st_34_12, st_34_15, st_34_19, st_34_22, st_34_23, st_34_24, sm_34_25, st_34_28, sm_34_29, st_34_30, st_34_32, st_34_33, st_34_36, st_34_37, st_34_39, st_34_42, st_34_44, sm_34_46, st_34_49, st_34_52, st_34_54, st_34_55, st_34_56, st_34_61, st_34_64, st_34_65, st_34_66, st_34_68, st_34_69, st_34_70, st_34_75, sm_34_76, st_34_79, st_34_80, sm_34_81, st_34_84, sm_34_85, st_34_86, st_34_91, sm_34_94, st_34_95, st_34_96, reduceIte, Int.reduceEq, Int.reduceLE, Int.reduceLT, Int.reduceAdd, Int.reduceSub, Int.reduceMul, Int.reduceNeg, Int.reduceToNat, io_add, io_sub, io_mul, io_lt, io_le, io_eq, io_lt0, io_le0, io_0lt, io_0le, io_eq0, io_max2, Int.toNat_natCast, Nat.add_zero, Nat.zero_add]
  rw [st_34_16 (Nat.le_of_ble_eq_true rfl) (sp_53 (d := d + 2) (show io_R r by omega)), pb_pos a3]
  simp (disch := (first | assumption | exact mm_c1_i _ | exact mm_c1_r _ | exact mm_c1_u _ | omega | exact hR _ _ | exact Nat.le_of_ble_eq_true rfl | decide | rfl | exact pb_dec _)) only [st_34_0, sm_34_1, st_34_4, st_34_7, st_34_8, st_34_12, st_34_15, st_34_19, st_34_22, st_34_23, st_34_24, sm_34_25, st_34_28, sm_34_29, st_34_30, st_34_32, st_34_33, st_34_36, st_34_37, st_34_39, st_34_42, st_34_44, sm_34_46, st_34_49, st_34_52, st_34_54, st_34_55, st_34_56, st_34_61, st_34_64, st_34_65, st_34_66, st_34_68, st_34_69, st_34_70, st_34_75, sm_34_76, st_34_79, st_34_80, sm_34_81, st_34_84, sm_34_85, st_34_86, st_34_91, sm_34_94, st_34_95, st_34_96, reduceIte, Int.reduceEq, Int.reduceLE, Int.reduceLT, Int.reduceAdd, Int.reduceSub, Int.reduceMul, Int.reduceNeg, Int.reduceToNat, io_add, io_sub, io_mul, io_lt, io_le, io_eq, io_lt0, io_le0, io_0lt, io_0le, io_eq0, io_max2, Int.toNat_natCast, Nat.add_zero, Nat.zero_add, g4, g5, g6]
  rw [st_34_58 (Nat.le_of_ble_eq_true rfl) (sp_T_t hi) (sp_12 (d := d + 1) hR hi hS (show io_R r by omega) (show io_R f by omega) (show io_R t by omega)), pb_pos ⟨a7, a8⟩]
  simp (disch := (first | assumption | exact mm_c1_i _ | exact mm_c1_r _ | exact mm_c1_u _ | omega | exact hR _ _ | exact Nat.le_of_ble_eq_true rfl | decide | rfl | exact pb_dec _)) only [st_34_0, sm_34_1, st_34_4, st_34_7, st_34_8, st_34_12, st_34_15, st_34_19, st_34_22, st_34_23, st_34_24, sm_34_25, st_34_28, sm_34_29, st_34_30, st_34_32, st_34_33, st_34_36, st_34_37, st_34_39, st_34_42, st_34_44, sm_34_46, st_34_49, st_34_52, st_34_54, st_34_55, st_34_56, st_34_61, st_34_64, st_34_65, st_34_66, st_34_68, st_34_69, st_34_70, st_34_75, sm_34_76, st_34_79, st_34_80, sm_34_81, st_34_84, sm_34_85, st_34_86, st_34_91, sm_34_94, st_34_95, st_34_96, reduceIte, Int.reduceEq, Int.reduceLE, Int.reduceLT, Int.reduceAdd, Int.reduceSub, Int.reduceMul, Int.reduceNeg, Int.reduceToNat, io_add, io_sub, io_mul, io_lt, io_le, io_eq, io_lt0, io_le0, io_0lt, io_0le, io_eq0, io_max2, Int.toNat_natCast, Nat.add_zero, Nat.zero_add]
  rw [st_34_72 (Nat.le_of_ble_eq_true rfl) (sp_T_t hi) (sp_13 (d := d) hi hS a7)]
  have hi' : i < sp_n (cl_sec I i r f t) := by rw [cl_sec_n]; exact hi
  have b1 : cl_sec I i r f t (ad_t i) 1 = I (ad_t i) 1 := cl_sec_o r f t (by unfold ad_t ad_s; omega) (by omega)
  have b2 : cl_sec I i r f t 2 r.toNat = I 2 r.toNat := cl_sec_o r f t (by unfold ad_s; omega) (by unfold ad_t; omega)
  have r2 := hR 2 r.toNat
  have k11 := sp_11 (I := cl_sec I i r f t) (d := d + 2) hi'
  rw [b1] at k11
  simp (disch := (first | assumption | exact mm_c1_i _ | exact mm_c1_r _ | exact mm_c1_u _ | omega | exact hR _ _ | exact Nat.le_of_ble_eq_true rfl | decide | rfl | exact pb_dec _)) only [st_34_0, sm_34_1, st_34_4, st_34_7, st_34_8, st_34_12, st_34_15, st_34_19, st_34_22, st_34_23, st_34_24, sm_34_25, st_34_28, sm_34_29, st_34_30, st_34_32, st_34_33, st_34_36, st_34_37, st_34_39, st_34_42, st_34_44, sm_34_46, st_34_49, st_34_52, st_34_54, st_34_55, st_34_56, st_34_61, st_34_64, st_34_65, st_34_66, st_34_68, st_34_69, st_34_70, st_34_75, sm_34_76, st_34_79, st_34_80, sm_34_81, st_34_84, sm_34_85, st_34_86, st_34_91, sm_34_94, st_34_95, st_34_96, reduceIte, Int.reduceEq, Int.reduceLE, Int.reduceLT, Int.reduceAdd, Int.reduceSub, Int.reduceMul, Int.reduceNeg, Int.reduceToNat, io_add, io_sub, io_mul, io_lt, io_le, io_eq, io_lt0, io_le0, io_0lt, io_0le, io_eq0, io_max2, Int.toNat_natCast, Nat.add_zero, Nat.zero_add, b2]
  rw [st_34_88 (Nat.le_of_ble_eq_true rfl) (sp_T_t hi') k11]
  simp (disch := (first | assumption | exact mm_c1_i _ | exact mm_c1_r _ | exact mm_c1_u _ | omega | exact hR _ _ | exact Nat.le_of_ble_eq_true rfl | decide | rfl | exact pb_dec _)) only [st_34_0, sm_34_1, st_34_4, st_34_7, st_34_8, st_34_12, st_34_15, st_34_19, st_34_22, st_34_23, st_34_24, sm_34_25, st_34_28, sm_34_29, st_34_30, st_34_32, st_34_33, st_34_36, st_34_37, st_34_39, st_34_42, st_34_44, sm_34_46, st_34_49, st_34_52, st_34_54, st_34_55, st_34_56, st_34_61, st_34_64, st_34_65, st_34_66, st_34_68, st_34_69, st_34_70, st_34_75, sm_34_76, st_34_79, st_34_80, sm_34_81, st_34_84, sm_34_85, st_34_86, st_34_91, sm_34_94, st_34_95, st_34_96, reduceIte, Int.reduceEq, Int.reduceLE, Int.reduceLT, Int.reduceAdd, Int.reduceSub, Int.reduceMul, Int.reduceNeg, Int.reduceToNat, io_add, io_sub, io_mul, io_lt, io_le, io_eq, io_lt0, io_le0, io_0lt, io_0le, io_eq0, io_max2, Int.toNat_natCast, Nat.add_zero, Nat.zero_add, b2]
theorem sp_34n (hR : sp_R I) (h04 : 0 ≤ I 0 4 ∧ I 0 4 ≤ 6) (hT : cl_TS I) {j r f t : Int} (hj : io_R j) (hr : io_R r) (hf : io_R f) (ht : io_R t) (h : ¬ (0 ≤ j ∧ cl_se I j.toNat r f t)) : mm_Rn pg_G (d + 2) 34 0 [.ref 0, io_v j, io_v r, io_v f, io_v t, .retAddr 0] [] (sp_me I 0 0) (some (io_v 0), sp_me I 0 0) := by
  have hn := cl_n h04
  by_cases a1 : I 0 5 = 0
  · simp (disch := (first | assumption | exact mm_c1_i _ | exact mm_c1_r _ | exact mm_c1_u _ | omega | exact hR _ _ | exact Nat.le_of_ble_eq_true rfl | decide | rfl | exact pb_dec _)) only [st_34_0, sm_34_1, st_34_4, st_34_7, st_34_8, st_34_12, st_34_15, st_34_19, st_34_22, st_34_23, st_34_24, sm_34_25, st_34_28, sm_34_29, st_34_30, st_34_32, st_34_33, st_34_36, st_34_37, st_34_39, st_34_42, st_34_44, sm_34_46, st_34_49, st_34_52, st_34_54, st_34_55, st_34_56, st_34_61, st_34_64, st_34_65, st_34_66, st_34_68, st_34_69, st_34_70, st_34_75, sm_34_76, st_34_79, st_34_80, sm_34_81, st_34_84, sm_34_85, st_34_86, st_34_91, sm_34_94, st_34_95, st_34_96, reduceIte, Int.reduceEq, Int.reduceLE, Int.reduceLT, Int.reduceAdd, Int.reduceSub, Int.reduceMul, Int.reduceNeg, Int.reduceToNat, io_add, io_sub, io_mul, io_lt, io_le, io_eq, io_lt0, io_le0, io_0lt, io_0le, io_eq0, io_max2, Int.toNat_natCast, Nat.add_zero, Nat.zero_add, a1]
    rw [st_34_9 (Nat.le_of_ble_eq_true rfl) rfl (sp_52 (d := d + 1) hR hj)]
    by_cases a2 : 0 ≤ j ∧ j < I 0 4
    · rw [pb_pos a2]
      obtain ⟨i, hi⟩ : ∃ i : Nat, j = i := ⟨j.toNat, by omega⟩
      subst hi
      rw [Int.toNat_natCast] at h
      have hi : i < sp_n I := by omega
      simp (disch := (first | assumption | exact mm_c1_i _ | exact mm_c1_r _ | exact mm_c1_u _ | omega | exact hR _ _ | exact Nat.le_of_ble_eq_true rfl | decide | rfl | exact pb_dec _)) only [st_34_0, sm_34_1, st_34_4, st_34_7, st_34_8, st_34_12, st_34_15, st_34_19, st_34_22, st_34_23, st_34_24, sm_34_25, st_34_28, sm_34_29, st_34_30, st_34_32, st_34_33, st_34_36, st_34_37, st_34_39, st_34_42, st_34_44, sm_34_46, st_34_49, st_34_52, st_34_54, st_34_55, st_34_56, st_34_61, st_34_64, st_34_65, st_34_66, st_34_68, st_34_69, st_34_70, st_34_75, sm_34_76, st_34_79, st_34_80, sm_34_81, st_34_84, sm_34_85, st_34_86, st_34_91, sm_34_94, st_34_95, st_34_96, reduceIte, Int.reduceEq, Int.reduceLE, Int.reduceLT, Int.reduceAdd, Int.reduceSub, Int.reduceMul, Int.reduceNeg, Int.reduceToNat, io_add, io_sub, io_mul, io_lt, io_le, io_eq, io_lt0, io_le0, io_0lt, io_0le, io_eq0, io_max2, Int.toNat_natCast, Nat.add_zero, Nat.zero_add]
      rw [st_34_16 (Nat.le_of_ble_eq_true rfl) (sp_53 (d := d + 1) hr)]
      by_cases a3 : 0 ≤ r ∧ r < 4
      · rw [pb_pos a3]
        have hr2 := hR (ad_t i) 2
        have hS : cl_S I i := (hT i hi).1
        by_cases g4 : f < 0
        · simp (disch := (first | assumption | exact mm_c1_i _ | exact mm_c1_r _ | exact mm_c1_u _ | omega | exact hR _ _ | exact Nat.le_of_ble_eq_true rfl | decide | rfl | exact pb_dec _)) only [st_34_0, sm_34_1, st_34_4, st_34_7, st_34_8, st_34_12, st_34_15, st_34_19, st_34_22, st_34_23, st_34_24, sm_34_25, st_34_28, sm_34_29, st_34_30, st_34_32, st_34_33, st_34_36, st_34_37, st_34_39, st_34_42, st_34_44, sm_34_46, st_34_49, st_34_52, st_34_54, st_34_55, st_34_56, st_34_61, st_34_64, st_34_65, st_34_66, st_34_68, st_34_69, st_34_70, st_34_75, sm_34_76, st_34_79, st_34_80, sm_34_81, st_34_84, sm_34_85, st_34_86, st_34_91, sm_34_94, st_34_95, st_34_96, reduceIte, Int.reduceEq, Int.reduceLE, Int.reduceLT, Int.reduceAdd, Int.reduceSub, Int.reduceMul, Int.reduceNeg, Int.reduceToNat, io_add, io_sub, io_mul, io_lt, io_le, io_eq, io_lt0, io_le0, io_0lt, io_0le, io_eq0, io_max2, Int.toNat_natCast, Nat.add_zero, Nat.zero_add, g4]
        by_cases g5 : t ≤ f
        · simp (disch := (first | assumption | exact mm_c1_i _ | exact mm_c1_r _ | exact mm_c1_u _ | omega | exact hR _ _ | exact Nat.le_of_ble_eq_true rfl | decide | rfl | exact pb_dec _)) only [st_34_0, sm_34_1, st_34_4, st_34_7, st_34_8, st_34_12, st_34_15, st_34_19, st_34_22, st_34_23, st_34_24, sm_34_25, st_34_28, sm_34_29, st_34_30, st_34_32, st_34_33, st_34_36, st_34_37, st_34_39, st_34_42, st_34_44, sm_34_46, st_34_49, st_34_52, st_34_54, st_34_55, st_34_56, st_34_61, st_34_64, st_34_65, st_34_66, st_34_68, st_34_69, st_34_70, st_34_75, sm_34_76, st_34_79, st_34_80, sm_34_81, st_34_84, sm_34_85, st_34_86, st_34_91, sm_34_94, st_34_95, st_34_96, reduceIte, Int.reduceEq, Int.reduceLE, Int.reduceLT, Int.reduceAdd, Int.reduceSub, Int.reduceMul, Int.reduceNeg, Int.reduceToNat, io_add, io_sub, io_mul, io_lt, io_le, io_eq, io_lt0, io_le0, io_0lt, io_0le, io_eq0, io_max2, Int.toNat_natCast, Nat.add_zero, Nat.zero_add, g4, g5]
        by_cases g6 : I (ad_t i) 2 < t
        · simp (disch := (first | assumption | exact mm_c1_i _ | exact mm_c1_r _ | exact mm_c1_u _ | omega | exact hR _ _ | exact Nat.le_of_ble_eq_true rfl | decide | rfl | exact pb_dec _)) only [st_34_0, sm_34_1, st_34_4, st_34_7, st_34_8, st_34_12, st_34_15, st_34_19, st_34_22, st_34_23, st_34_24, sm_34_25, st_34_28, sm_34_29, st_34_30, st_34_32, st_34_33, st_34_36, st_34_37, st_34_39, st_34_42, st_34_44, sm_34_46, st_34_49, st_34_52, st_34_54, st_34_55, st_34_56, st_34_61, st_34_64, st_34_65, st_34_66, st_34_68, st_34_69, st_34_70, st_34_75, sm_34_76, st_34_79, st_34_80, sm_34_81, st_34_84, sm_34_85, st_34_86, st_34_91, sm_34_94, st_34_95, st_34_96, reduceIte, Int.reduceEq, Int.reduceLE, Int.reduceLT, Int.reduceAdd, Int.reduceSub, Int.reduceMul, Int.reduceNeg, Int.reduceToNat, io_add, io_sub, io_mul, io_lt, io_le, io_eq, io_lt0, io_le0, io_0lt, io_0le, io_eq0, io_max2, Int.toNat_natCast, Nat.add_zero, Nat.zero_add, g4, g5, g6]
        simp (disch := (first | assumption | exact mm_c1_i _ | exact mm_c1_r _ | exact mm_c1_u _ | omega | exact hR _ _ | exact Nat.le_of_ble_eq_true rfl | decide | rfl | exact pb_dec _)) only [st_34_0, sm_34_1, st_34_4, st_34_7, st_34_8, st_34_12, st_34_15, st_34_19, st_34_22, st_34_23, st_34_24, sm_34_25, st_34_28, sm_34_29, st_34_30, st_34_32, st_34_33, st_34_36, st_34_37, st_34_39, st_34_42, st_34_44, sm_34_46, st_34_49, st_34_52, st_34_54, st_34_55, st_34_56, st_34_61, st_34_64, st_34_65, st_34_66, st_34_68, st_34_69, st_34_70, st_34_75, sm_34_76, st_34_79, st_34_80, sm_34_81, st_34_84, sm_34_85, st_34_86, st_34_91, sm_34_94, st_34_95, st_34_96, reduceIte, Int.reduceEq, Int.reduceLE, Int.reduceLT, Int.reduceAdd, Int.reduceSub, Int.reduceMul, Int.reduceNeg, Int.reduceToNat, io_add, io_sub, io_mul, io_lt, io_le, io_eq, io_lt0, io_le0, io_0lt, io_0le, io_eq0, io_max2, Int.toNat_natCast, Nat.add_zero, Nat.zero_add, g4, g5, g6]
        rw [st_34_58 (Nat.le_of_ble_eq_true rfl) (sp_T_t hi) (sp_12 (d := d) hR hi hS hr hf ht), pb_neg (fun z => h ⟨by omega, a1, a2.2, a3, by omega, by omega, by omega, z.1, z.2⟩)]
        simp (disch := (first | assumption | exact mm_c1_i _ | exact mm_c1_r _ | exact mm_c1_u _ | omega | exact hR _ _ | exact Nat.le_of_ble_eq_true rfl | decide | rfl | exact pb_dec _)) only [st_34_0, sm_34_1, st_34_4, st_34_7, st_34_8, st_34_12, st_34_15, st_34_19, st_34_22, st_34_23, st_34_24, sm_34_25, st_34_28, sm_34_29, st_34_30, st_34_32, st_34_33, st_34_36, st_34_37, st_34_39, st_34_42, st_34_44, sm_34_46, st_34_49, st_34_52, st_34_54, st_34_55, st_34_56, st_34_61, st_34_64, st_34_65, st_34_66, st_34_68, st_34_69, st_34_70, st_34_75, sm_34_76, st_34_79, st_34_80, sm_34_81, st_34_84, sm_34_85, st_34_86, st_34_91, sm_34_94, st_34_95, st_34_96, reduceIte, Int.reduceEq, Int.reduceLE, Int.reduceLT, Int.reduceAdd, Int.reduceSub, Int.reduceMul, Int.reduceNeg, Int.reduceToNat, io_add, io_sub, io_mul, io_lt, io_le, io_eq, io_lt0, io_le0, io_0lt, io_0le, io_eq0, io_max2, Int.toNat_natCast, Nat.add_zero, Nat.zero_add]
      · rw [pb_neg a3]
        simp (disch := (first | assumption | exact mm_c1_i _ | exact mm_c1_r _ | exact mm_c1_u _ | omega | exact hR _ _ | exact Nat.le_of_ble_eq_true rfl | decide | rfl | exact pb_dec _)) only [st_34_0, sm_34_1, st_34_4, st_34_7, st_34_8, st_34_12, st_34_15, st_34_19, st_34_22, st_34_23, st_34_24, sm_34_25, st_34_28, sm_34_29, st_34_30, st_34_32, st_34_33, st_34_36, st_34_37, st_34_39, st_34_42, st_34_44, sm_34_46, st_34_49, st_34_52, st_34_54, st_34_55, st_34_56, st_34_61, st_34_64, st_34_65, st_34_66, st_34_68, st_34_69, st_34_70, st_34_75, sm_34_76, st_34_79, st_34_80, sm_34_81, st_34_84, sm_34_85, st_34_86, st_34_91, sm_34_94, st_34_95, st_34_96, reduceIte, Int.reduceEq, Int.reduceLE, Int.reduceLT, Int.reduceAdd, Int.reduceSub, Int.reduceMul, Int.reduceNeg, Int.reduceToNat, io_add, io_sub, io_mul, io_lt, io_le, io_eq, io_lt0, io_le0, io_0lt, io_0le, io_eq0, io_max2, Int.toNat_natCast, Nat.add_zero, Nat.zero_add]
    · rw [pb_neg a2]
      simp (disch := (first | assumption | exact mm_c1_i _ | exact mm_c1_r _ | exact mm_c1_u _ | omega | exact hR _ _ | exact Nat.le_of_ble_eq_true rfl | decide | rfl | exact pb_dec _)) only [st_34_0, sm_34_1, st_34_4, st_34_7, st_34_8, st_34_12, st_34_15, st_34_19, st_34_22, st_34_23, st_34_24, sm_34_25, st_34_28, sm_34_29, st_34_30, st_34_32, st_34_33, st_34_36, st_34_37, st_34_39, st_34_42, st_34_44, sm_34_46, st_34_49, st_34_52, st_34_54, st_34_55, st_34_56, st_34_61, st_34_64, st_34_65, st_34_66, st_34_68, st_34_69, st_34_70, st_34_75, sm_34_76, st_34_79, st_34_80, sm_34_81, st_34_84, sm_34_85, st_34_86, st_34_91, sm_34_94, st_34_95, st_34_96, reduceIte, Int.reduceEq, Int.reduceLE, Int.reduceLT, Int.reduceAdd, Int.reduceSub, Int.reduceMul, Int.reduceNeg, Int.reduceToNat, io_add, io_sub, io_mul, io_lt, io_le, io_eq, io_lt0, io_le0, io_0lt, io_0le, io_eq0, io_max2, Int.toNat_natCast, Nat.add_zero, Nat.zero_add]
  · simp (disch := (first | assumption | exact mm_c1_i _ | exact mm_c1_r _ | exact mm_c1_u _ | omega | exact hR _ _ | exact Nat.le_of_ble_eq_true rfl | decide | rfl | exact pb_dec _)) only [st_34_0, sm_34_1, st_34_4, st_34_7, st_34_8, st_34_12, st_34_15, st_34_19, st_34_22, st_34_23, st_34_24, sm_34_25, st_34_28, sm_34_29, st_34_30, st_34_32, st_34_33, st_34_36, st_34_37, st_34_39, st_34_42, st_34_44, sm_34_46, st_34_49, st_34_52, st_34_54, st_34_55, st_34_56, st_34_61, st_34_64, st_34_65, st_34_66, st_34_68, st_34_69, st_34_70, st_34_75, sm_34_76, st_34_79, st_34_80, sm_34_81, st_34_84, sm_34_85, st_34_86, st_34_91, sm_34_94, st_34_95, st_34_96, reduceIte, Int.reduceEq, Int.reduceLE, Int.reduceLT, Int.reduceAdd, Int.reduceSub, Int.reduceMul, Int.reduceNeg, Int.reduceToNat, io_add, io_sub, io_mul, io_lt, io_le, io_eq, io_lt0, io_le0, io_0lt, io_0le, io_eq0, io_max2, Int.toNat_natCast, Nat.add_zero, Nat.zero_add, a1]
end SK
