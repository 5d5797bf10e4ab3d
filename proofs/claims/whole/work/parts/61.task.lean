/-! a task is made -/
def cl_tas (I : sp_I) (p s c : Int) : sp_I := fun y j =>
  if y = 0 ∧ j = 4 then I 0 4 + 1 else
  if y = ad_t (sp_n I) then (if j = 0 then p else if j = 1 then s else if j = 2 then c else 0) else
  if y = ad_j (sp_n I) ∨ y = ad_c (sp_n I) then 0 else I y j
theorem mk_10o {g : mm_M} {x y j : Nat} {a b c : Int32} (h0 : y ≠ x) (h1 : y ≠ x + 1) (h2 : y ≠ x + 2) (h3 : y ≠ x + 3) : (mk_10 g x a b c).2.1 y j = g.2.1 y j := by
  have h3' : y ≠ x + 2 + 1 := h3
  unfold mk_10
  simp (disch := assumption) only [mk_v2, mk_av, mk_cv, mk_zv, mk_3]
theorem mk_10T {g : mm_M} {x y : Nat} {a b c : Int32} : (mk_10 g x a b c).1 y = if y = x + 3 then some (100, 6) else if y = x + 2 then some (5, 7) else if y = x + 1 then some (103, 4) else g.1 y := by
  unfold mk_10
  simp only [mk_w1, mk_c1, mk_3, mk_z1]
  show (if y = x + 2 + 1 then _ else (if y = x + 2 then _ else (if y = x + 1 then _ else _))) = _
  rfl
theorem sp_T0_congr {I J : sp_I} (h : J 30 0 = I 30 0) (y : Nat) : sp_T0 J y = sp_T0 I y := by unfold sp_T0; rw [h]
section TK
variable {I : sp_I} {d : Nat}
theorem cl_tas_n (h : 0 ≤ I 0 4) (p s c : Int) : sp_n (cl_tas I p s c) = sp_n I + 1 := by
  unfold sp_n
  show (if (0 = 0 ∧ 4 = 4) then I 0 4 + 1 else _).toNat = _
  rw [if_pos ⟨rfl, rfl⟩]
  omega
theorem cl_tas_o (p s c : Int) {y j : Nat} (h0 : ¬ (y = 0 ∧ j = 4)) (h1 : y ≠ ad_t (sp_n I)) (h2 : y ≠ ad_j (sp_n I)) (h3 : y ≠ ad_c (sp_n I)) : cl_tas I p s c y j = I y j := by
  unfold cl_tas
  rw [if_neg h0, if_neg h1, if_neg (by omega)]
theorem cl_tas_c (p s c : Int) {i : Nat} (h : i < sp_n I) : sp_c (cl_tas I p s c) i = sp_c I i := by
  unfold sp_c
  rw [cl_tas_o p s c (by unfold ad_t; omega) (by unfold ad_t; omega) (by unfold ad_t ad_j; omega) (by unfold ad_t ad_c; omega)]
theorem cl_tas_c0 (p s c : Int) : sp_c (cl_tas I p s c) (sp_n I) = 0 := by
  unfold sp_c cl_tas
  rw [if_neg (by unfold ad_t; omega), if_pos rfl]
  rfl
/-- the memory behind the making -/
def mk_33 (I : sp_I) (p s c : Int) : mm_M := mm_wr (mm_wr (mk_cl (mm_al (sp_me I 0 0) (ad_t (sp_n I)) 3 10 fun k => defaultValue (mm_ft pg_G 3 k)) (mk_10 (mk_z (mm_al (sp_me I 0 0) (ad_t (sp_n I)) 3 10 fun k => defaultValue (mm_ft pg_G 3 k))) (ad_t (sp_n I)) (Int32.ofInt p) (Int32.ofInt s) (Int32.ofInt c))) 1 (sp_n I) (.ref (ad_t (sp_n I)))) 0 4 (io_v (I 0 4 + 1))
theorem mk_33T (h : 0 ≤ I 0 4 ∧ I 0 4 ≤ 5) (p s c : Int) : (mk_33 I p s c).1 = sp_T (cl_tas I p s c) := by
  funext y
  have hn := cl_tas_n h.1 p s c
  have e30 : cl_tas I p s c 30 0 = I 30 0 := cl_tas_o p s c (by decide) (by unfold ad_t; omega) (by unfold ad_j; omega) (by unfold ad_c; omega)
  unfold mk_33
  rw [mk_w1, mk_w1, mk_c1, mk_10T]
  show (if y = ad_t (sp_n I) + 3 then _ else if y = ad_t (sp_n I) + 2 then _ else if y = ad_t (sp_n I) + 1 then _ else (if y = ad_t (sp_n I) then _ else sp_T I y)) = _
  unfold ad_t
  by_cases hy : y < 32
  · rw [if_neg (by omega), if_neg (by omega), if_neg (by omega), if_neg (by omega)]
    unfold sp_T
    rw [if_pos hy, if_pos hy, sp_T0_congr e30]
  · obtain ⟨i, o, ho, rfl⟩ : ∃ i o, o < 8 ∧ y = 32 + 8 * i + o := ⟨(y - 32) / 8, (y - 32) % 8, by omega, by omega⟩
    unfold sp_T
    rw [if_neg hy, if_neg hy, hn, show (32 + 8 * i + o - 32) / 8 = i by omega, show (32 + 8 * i + o - 32) % 8 = o by omega]
    by_cases h1 : i < sp_n I
    · rw [if_neg (by omega), if_neg (by omega), if_neg (by omega), if_neg (by omega), if_pos h1, if_pos (by omega)]
      unfold sp_T1
      rw [cl_tas_c p s c h1]
    · by_cases h2 : i = sp_n I
      · subst h2
        rw [if_pos (by omega : sp_n I < sp_n I + 1), if_neg h1]
        unfold sp_T1
        rw [cl_tas_c0]
        rcases (show o = 0 ∨ o = 1 ∨ o = 2 ∨ o = 3 ∨ ∃ k, o = k + 4 by rcases (by omega : o = 0 ∨ o = 1 ∨ o = 2 ∨ o = 3 ∨ o = (o - 4) + 4) with z | z | z | z | z; exact .inl z; exact .inr (.inl z); exact .inr (.inr (.inl z)); exact .inr (.inr (.inr (.inl z))); exact .inr (.inr (.inr (.inr ⟨_, z⟩)))) with z | z | z | z | ⟨k, z⟩ <;> subst z
        · rw [if_neg (by omega), if_neg (by omega), if_neg (by omega), if_pos (by omega)]
        · rw [if_neg (by omega), if_neg (by omega), if_pos (by omega)]
        · rw [if_neg (by omega), if_pos (by omega)]
        · rw [if_pos (by omega)]
        · rw [if_neg (by omega), if_neg (by omega), if_neg (by omega), if_neg (by omega)]
          show none = if k < 0 then _ else none
          rw [if_neg (by omega)]
      · rw [if_neg (by omega), if_neg (by omega), if_neg (by omega), if_neg (by omega), if_neg h1, if_neg (by omega)]
theorem mk_ft3 {j : Nat} (h : 10 ≤ j) : defaultValue (mm_ft pg_G 3 j) = io_v 0 := by
  obtain ⟨k, rfl⟩ : ∃ k, j = k + 10 := ⟨j - 10, by omega⟩
  rfl
theorem mk_ft5 {j : Nat} (h : 7 ≤ j) : defaultValue (mm_ft pg_G 5 j) = io_v 0 := by
  obtain ⟨k, rfl⟩ : ∃ k, j = k + 7 := ⟨j - 7, by omega⟩
  rfl
theorem mk_aa {g : mm_M} {x j kd len : Nat} {z : Nat → Value} : (mm_al g x kd len z).2.1 x j = z j := by
  show (if x = x then _ else _) = _
  rw [if_pos rfl]
theorem mk_10t {g : mm_M} {x j : Nat} {a b c : Int32} (hg : ∀ j, g.2.1 x j = defaultValue (mm_ft pg_G 3 j)) : (mk_10 g x a b c).2.1 x j = if j = 0 then .int a else if j = 1 then .int b else if j = 2 then .int c else if j = 3 then .ref (x + 1) else if j = 4 then .ref (x + 2) else io_v 0 := by
  have q1 : x ≠ x + 1 := by omega
  have q2 : x ≠ x + 2 := by omega
  have q3 : x ≠ x + 2 + 1 := by omega
  unfold mk_10
  rcases (by omega : j = 0 ∨ j = 1 ∨ j = 2 ∨ j = 3 ∨ j = 4 ∨ j = 5 ∨ j = 6 ∨ j = 7 ∨ j = 8 ∨ j = 9 ∨ 10 ≤ j) with z | z | z | z | z | z | z | z | z | z | z
  all_goals first
    | (subst z; simp (disch := (first | assumption | decide)) only [mk_v1, mk_v2, mk_v3, mk_av, mk_cv, mk_zv, mk_3]; rfl)
    | (simp (disch := (first | assumption | omega)) only [mk_v1, mk_v2, mk_v3, mk_av, mk_cv, mk_zv, mk_3, hg, mk_ft3, if_neg])
theorem mk_10j {g : mm_M} {x j : Nat} {a b c : Int32} : (mk_10 g x a b c).2.1 (x + 2) j = if j = 0 then .ref (x + 3) else io_v 0 := by
  have q1 : x + 2 ≠ x + 1 := by omega
  have q2 : x + 2 ≠ x := by omega
  have q3 : x + 2 ≠ x + 2 + 1 := by omega
  unfold mk_10
  rcases (by omega : j = 0 ∨ j = 1 ∨ j = 2 ∨ j = 3 ∨ j = 4 ∨ j = 5 ∨ j = 6 ∨ 7 ≤ j) with z | z | z | z | z | z | z | z
  all_goals first
    | (subst z; simp (disch := (first | assumption | decide)) only [mk_v1, mk_v2, mk_v3, mk_av, mk_aa, mk_cv, mk_zv, mk_3]; rfl)
    | (simp (disch := (first | assumption | omega)) only [mk_v1, mk_v2, mk_v3, mk_av, mk_aa, mk_cv, mk_zv, mk_3, mk_ft5, if_neg])
theorem mk_10c {g : mm_M} {x j : Nat} {a b c : Int32} : (mk_10 g x a b c).2.1 (x + 3) j = io_v 0 := by
  have q1 : x + 3 ≠ x + 2 := by omega
  have q2 : x + 3 ≠ x := by omega
  have q3 : x + 2 + 1 = x + 3 := by omega
  unfold mk_10
  simp (disch := (first | assumption | omega)) only [mk_v2, mk_cv, mk_zv, mk_3, q3, mk_aa]
  rfl
theorem mk_10a {g : mm_M} {x j : Nat} {a b c : Int32} : (mk_10 g x a b c).2.1 (x + 1) j = .null := by
  have q1 : x + 1 ≠ x + 2 := by omega
  have q2 : x + 1 ≠ x := by omega
  have q3 : x + 1 ≠ x + 2 + 1 := by omega
  unfold mk_10
  simp (disch := (first | assumption | omega)) only [mk_v2, mk_cv, mk_zv, mk_3, mk_av, mk_aa]
theorem mk_33V (h : 0 ≤ I 0 4 ∧ I 0 4 ≤ 5) (p s c : Int) : (mk_33 I p s c).2.1 = sp_V (cl_tas I p s c) := by
  funext y j
  have hn := cl_tas_n h.1 p s c
  have h1n : sp_n I ≤ 5 := by unfold sp_n; omega
  have hx0 : 0 ≠ ad_t (sp_n I) := by unfold ad_t; omega
  have hx1 : 1 ≠ ad_t (sp_n I) := by unfold ad_t; omega
  unfold mk_33
  by_cases y0 : y = 0
  · subst y0
    by_cases j4 : j = 4
    · subst j4
      rw [mk_v1]
      show _ = io_v (cl_tas I p s c 0 4)
      unfold cl_tas
      rw [if_pos ⟨rfl, rfl⟩]
    · rw [mk_v3 j4, mk_v2 (by decide), mk_cv, mk_10o (by omega) (by omega) (by omega) (by omega), mk_zv, mk_av (by omega)]
      have e : cl_tas I p s c 0 j = I 0 j := cl_tas_o p s c (by omega) (by omega) (by unfold ad_j; omega) (by unfold ad_c; omega)
      show sp_V0 I 0 j = sp_V0 (cl_tas I p s c) 0 j
      unfold sp_V0
      rw [e]
      rfl
  rw [mk_v2 y0]
  by_cases y1 : y = 1
  · subst y1
    show _ = if j < sp_n (cl_tas I p s c) then _ else _
    rw [hn]
    by_cases jn : j = sp_n I
    · subst jn
      rw [mk_v1, if_pos (by omega)]
    · rw [mk_v3 jn, mk_cv, mk_10o (by omega) (by omega) (by omega) (by omega), mk_zv, mk_av (by omega)]
      show (if j < sp_n I then _ else _) = _
      by_cases hj : j < sp_n I
      · rw [if_pos hj, if_pos (by omega)]
      · rw [if_neg hj, if_neg (by omega)]
  rw [mk_v2 y1, mk_cv]
  by_cases a0 : y = ad_t (sp_n I)
  · subst a0
    rw [mk_10t (fun j => by rw [mk_zv, mk_aa])]
    obtain ⟨r1, r2, r3⟩ := sp_t_div (sp_n I)
    unfold sp_V
    rw [if_neg r1, r2, r3]
    have e : cl_tas I p s c (ad_t (sp_n I)) j = (if j = 0 then p else if j = 1 then s else if j = 2 then c else 0) := by
      unfold cl_tas
      rw [if_neg (by omega), if_pos rfl]
    rcases (by omega : j = 0 ∨ j = 1 ∨ j = 2 ∨ j = 3 ∨ j = 4 ∨ 5 ≤ j) with z | z | z | z | z | z
    · subst z; show _ = io_v (cl_tas I p s c (ad_t (sp_n I)) 0); rw [e]; rfl
    · subst z; show _ = io_v (cl_tas I p s c (ad_t (sp_n I)) 1); rw [e]; rfl
    · subst z; show _ = io_v (cl_tas I p s c (ad_t (sp_n I)) 2); rw [e]; rfl
    · subst z; show _ = Value.ref (ad_a (sp_n I)); rw [show ad_a (sp_n I) = ad_t (sp_n I) + 1 by unfold ad_a ad_t; omega]; rfl
    · subst z; show _ = Value.ref (ad_j (sp_n I)); rw [show ad_j (sp_n I) = ad_t (sp_n I) + 2 by unfold ad_j ad_t; omega]; rfl
    · obtain ⟨k, rfl⟩ : ∃ k, j = k + 5 := ⟨j - 5, by omega⟩
      show _ = io_v (cl_tas I p s c (ad_t (sp_n I)) (k + 5))
      rw [e, if_neg (by omega), if_neg (by omega), if_neg (by omega), if_neg (by omega), if_neg (by omega), if_neg (by omega), if_neg (by omega), if_neg (by omega)]
  by_cases a1 : y = ad_t (sp_n I) + 1
  · subst a1
    rw [mk_10a, show ad_t (sp_n I) + 1 = ad_a (sp_n I) by unfold ad_t ad_a; omega]
    obtain ⟨r1, r2, r3⟩ := sp_a_div (sp_n I)
    unfold sp_V
    rw [if_neg r1, r2, r3]
    show _ = if j < sp_c (cl_tas I p s c) (sp_n I) then _ else _
    rw [cl_tas_c0, if_neg (by omega)]
  by_cases a2 : y = ad_t (sp_n I) + 2
  · subst a2
    rw [mk_10j, show ad_t (sp_n I) + 2 = ad_j (sp_n I) by unfold ad_t ad_j; omega, show ad_t (sp_n I) + 3 = ad_c (sp_n I) by unfold ad_t ad_c; omega]
    obtain ⟨r1, r2, r3⟩ := sp_j_div (sp_n I)
    unfold sp_V
    rw [if_neg r1, r2, r3]
    have e : cl_tas I p s c (ad_j (sp_n I)) j = 0 := by
      unfold cl_tas
      rw [if_neg (by unfold ad_j; omega), if_neg (by unfold ad_j ad_t; omega), if_pos (Or.inl rfl)]
    by_cases j0 : j = 0
    · subst j0; rfl
    · obtain ⟨k, rfl⟩ : ∃ k, j = k + 1 := ⟨j - 1, by omega⟩
      show _ = io_v (cl_tas I p s c (ad_j (sp_n I)) (k + 1))
      rw [e, if_neg (by omega)]
  by_cases a3 : y = ad_t (sp_n I) + 3
  · subst a3
    rw [mk_10c, show ad_t (sp_n I) + 3 = ad_c (sp_n I) by unfold ad_t ad_c; omega, sp_V_c]
    unfold cl_tas
    rw [if_neg (by unfold ad_c; omega), if_neg (by unfold ad_c ad_t; omega), if_pos (Or.inr rfl)]
  · rw [mk_10o a0 a1 a2 a3, mk_zv, mk_av a0]
    have e : ∀ j, cl_tas I p s c y j = I y j := fun j => cl_tas_o p s c (by omega) a0 (by unfold ad_j; unfold ad_t at a2; omega) (by unfold ad_c; unfold ad_t at a3; omega)
    show sp_V I y j = _
    unfold sp_V
    by_cases hy : y < 32
    · rw [if_pos hy, if_pos hy]
      unfold sp_V0
      split <;> first | contradiction | (simp only [e]) | rfl
    · rw [if_neg hy, if_neg hy]
      unfold ad_t at a0 a1 a2 a3
      unfold sp_V1
      split
      · rw [e]
      · rename_i ho
        by_cases hi : (y - 32) / 8 = sp_n I
        · omega
        · have : sp_c (cl_tas I p s c) ((y - 32) / 8) = sp_c I ((y - 32) / 8) := by
            unfold sp_c
            rw [cl_tas_o p s c (by unfold ad_t; omega) (by unfold ad_t; omega) (by unfold ad_t ad_j; omega) (by unfold ad_t ad_c; omega)]
          rw [this]
      · rw [e]
      · rw [e]
theorem mk_33e (h : 0 ≤ I 0 4 ∧ I 0 4 ≤ 5) (p s c : Int) : mk_33 I p s c = sp_me (cl_tas I p s c) 4 27 := by
  unfold sp_me
  rw [← mk_33T h, ← mk_33V h]
  rfl
theorem gs_33_59 {n : Nat} {d : Nat} {l t : List Value} {g : mm_M} {r : mm_R} (hV : g.2.1 0 4 = io_v n) (hn : n ≤ 6) (hT : g.1 (ad_t n) = none) : mm_Rn pg_G d 33 59 l t g r ↔ mm_Rn pg_G d 33 62 l (.ref (ad_t n) :: t) (mm_al g (ad_t n) 3 10 fun k => defaultValue (mm_ft pg_G 3 k)) r := st_33_59 (by
    show 32 + 8 * sp_r (g.2.1 0 4) = ad_t n
    rw [hV]
    show 32 + 8 * (Int32.ofInt (n : Int)).toNatClampNeg = ad_t n
    rw [io_nat (by omega)]
    unfold ad_t
    omega) hT
theorem gs_33_66 {d : Nat} {ls t : List Value} {g q : mm_M} {r : mm_R} {a0 a1 a2 : Int32} {y : Nat} (hl : t.length ≤ 4) (hq : mm_Rn pg_G d 10 0 [.ref y, .int a0, .int a1, .int a2] [] (mk_z g) (none, q)) : mm_Rn pg_G (d + 1) 33 66 ls (.int a2 :: .int a1 :: .int a0 :: .ref y :: t) g r ↔ mm_Rn pg_G (d + 1) 33 69 ls t (mk_cl g q) r := rn_spec (g := g) (st := .int a2 :: .int a1 :: .int a0 :: .ref y :: t) tb_33_66 (by decide) rfl ⟨Nat.le_add_left _ t.length, hl, rfl⟩ hq r
theorem sp_Tno {x : Nat} (i o : Nat) (h : x = 32 + 8 * i + o) (ho : o < 8) (hi : sp_n I ≤ i) : sp_T I x = none := by
  subst h
  unfold sp_T
  rw [if_neg (by omega), if_neg (by omega)]
theorem sp_33y (hR : sp_R I) {p s c : Int} (h04 : 0 ≤ I 0 4 ∧ I 0 4 ≤ 6) (h : I 0 5 = 0 ∧ I 0 4 ≠ 6 ∧ 1 ≤ c ∧ c ≤ s ∧ s ≤ p ∧ p ≤ 100) : mm_Rn pg_G (d + 3) 33 0 [.ref 0, io_v p, io_v s, io_v c, .retAddr 0] [] (sp_me I 0 0) (some (io_v (I 0 4)), sp_me (cl_tas I p s c) 4 27) := by
  obtain ⟨h1, h2, h3, h4, h5, h6⟩ := h
  have hn : ((sp_n I : Nat) : Int) = I 0 4 := by unfold sp_n; omega
  have g3 : ¬ c < 1 := by omega
  have g4 : ¬ s < c := by omega
  have g5 : ¬ p < s := by omega
  have g6 : ¬ 100 < p := by omega
  have eV : (sp_me I 0 0).2.1 0 4 = io_v (sp_n I) := by rw [hn]; rfl
  rw [← mk_33e (by omega)]
  simp (disch := (first | assumption | exact mm_c1_i _ | exact mm_c1_r _ | exact mm_c1_u _ | omega | exact hR _ _ | exact Nat.le_of_ble_eq_true rfl | decide | rfl | exact pb_dec _)) only [st_33_0, st_33_1, st_33_2, st_33_5, st_33_6, st_33_7, st_33_10, st_33_11, st_33_12, st_33_15, st_33_16, st_33_18, st_33_21, st_33_22, st_33_25, st_33_26, st_33_28, sm_33_29, st_33_32, st_33_35, sm_33_36, st_33_39, st_33_41, st_33_44, st_33_46, st_33_49, st_33_50, st_33_51, sm_33_52, st_33_55, sm_33_56, st_33_62, st_33_63, st_33_64, st_33_65, st_33_69, st_33_70, st_33_71, sm_33_72, st_33_75, st_33_76, st_33_77, st_33_80, sm_33_81, st_33_84, st_33_85, st_33_86, reduceIte, Int.reduceEq, Int.reduceLE, Int.reduceLT, Int.reduceAdd, Int.reduceSub, Int.reduceMul, Int.reduceNeg, Int.reduceToNat, io_add, io_sub, io_mul, io_lt, io_le, io_eq, io_lt0, io_le0, io_0lt, io_0le, io_eq0, io_max2, Int.toNat_natCast, Nat.add_zero, Nat.zero_add, h1, h2, g3, g4, g5, g6]
  rw [gs_33_59 (n := sp_n I) eV (by omega) (sp_Tno (sp_n I) 0 rfl (by decide) (by omega))]
  simp (disch := (first | assumption | exact mm_c1_i _ | exact mm_c1_r _ | exact mm_c1_u _ | omega | exact hR _ _ | exact Nat.le_of_ble_eq_true rfl | decide | rfl | exact pb_dec _)) only [st_33_0, st_33_1, st_33_2, st_33_5, st_33_6, st_33_7, st_33_10, st_33_11, st_33_12, st_33_15, st_33_16, st_33_18, st_33_21, st_33_22, st_33_25, st_33_26, st_33_28, sm_33_29, st_33_32, st_33_35, sm_33_36, st_33_39, st_33_41, st_33_44, st_33_46, st_33_49, st_33_50, st_33_51, sm_33_52, st_33_55, sm_33_56, st_33_62, st_33_63, st_33_64, st_33_65, st_33_69, st_33_70, st_33_71, sm_33_72, st_33_75, st_33_76, st_33_77, st_33_80, sm_33_81, st_33_84, st_33_85, st_33_86, reduceIte, Int.reduceEq, Int.reduceLE, Int.reduceLT, Int.reduceAdd, Int.reduceSub, Int.reduceMul, Int.reduceNeg, Int.reduceToNat, io_add, io_sub, io_mul, io_lt, io_le, io_eq, io_lt0, io_le0, io_0lt, io_0le, io_eq0, io_max2, Int.toNat_natCast, Nat.add_zero, Nat.zero_add]
  have hT : ∀ y, (mk_z (mm_al (sp_me I 0 0) (ad_t (sp_n I)) 3 10 fun k => defaultValue (mm_ft pg_G 3 k))).1 y = if y = ad_t (sp_n I) then some (3, 10) else sp_T I y := fun y => rfl
  have hV : ∀ j, (mk_z (mm_al (sp_me I 0 0) (ad_t (sp_n I)) 3 10 fun k => defaultValue (mm_ft pg_G 3 k))).2.1 0 j = sp_V I 0 j := fun j => by rw [mk_zv, mk_av (by unfold ad_t; omega)]; rfl
  have e33 : mk_33 I p s c = mm_wr (mm_wr (mk_cl (mm_al (sp_me I 0 0) (ad_t (sp_n I)) 3 10 fun k => defaultValue (mm_ft pg_G 3 k)) (mk_10 (mk_z (mm_al (sp_me I 0 0) (ad_t (sp_n I)) 3 10 fun k => defaultValue (mm_ft pg_G 3 k))) (ad_t (sp_n I)) (Int32.ofInt p) (Int32.ofInt s) (Int32.ofInt c))) 1 (sp_n I) (.ref (ad_t (sp_n I)))) 0 4 (io_v (I 0 4 + 1)) := rfl
  rw [e33]
  have no : ∀ o, 1 ≤ o → o < 8 → (mk_z (mm_al (sp_me I 0 0) (ad_t (sp_n I)) 3 10 fun k => defaultValue (mm_ft pg_G 3 k))).1 (ad_t (sp_n I) + o) = none := by
    intro o h1 h8
    rw [hT, if_neg (by omega)]
    exact sp_Tno (sp_n I) o rfl h8 (by omega)
  have k10 := sm_k10 (d := d) (x := ad_t (sp_n I)) (a1 := Int32.ofInt p) (a2 := Int32.ofInt s) (a3 := Int32.ofInt c) (by rw [hT, if_pos rfl]) (no 1 (by decide) (by decide)) (no 2 (by decide) (by decide)) (no 3 (by decide) (by decide))
  have j0 : (0 : Nat) ≠ ad_t (sp_n I) := by unfold ad_t; omega
  have j1 : (1 : Nat) ≠ ad_t (sp_n I) := by unfold ad_t; omega
  rw [gs_33_66 (Nat.le_of_ble_eq_true rfl) k10]
  have E0 : (mk_10 (mk_z (mm_al (sp_me I 0 0) (ad_t (sp_n I)) 3 10 fun k => defaultValue (mm_ft pg_G 3 k))) (ad_t (sp_n I)) (Int32.ofInt p) (Int32.ofInt s) (Int32.ofInt c)).1 0 = some (0, 8) := by
    rw [mk_10T, if_neg (by omega), if_neg (by omega), if_neg (by omega), hT, if_neg j0]; rfl
  have E1 : (mk_10 (mk_z (mm_al (sp_me I 0 0) (ad_t (sp_n I)) 3 10 fun k => defaultValue (mm_ft pg_G 3 k))) (ad_t (sp_n I)) (Int32.ofInt p) (Int32.ofInt s) (Int32.ofInt c)).1 1 = some (102, 6) := by
    rw [mk_10T, if_neg (by unfold ad_t; omega), if_neg (by unfold ad_t; omega), if_neg (by omega), hT, if_neg j1]; rfl
  have E2 : (mk_10 (mk_z (mm_al (sp_me I 0 0) (ad_t (sp_n I)) 3 10 fun k => defaultValue (mm_ft pg_G 3 k))) (ad_t (sp_n I)) (Int32.ofInt p) (Int32.ofInt s) (Int32.ofInt c)).1 (ad_t (sp_n I)) = some (3, 10) := by
    rw [mk_10T, if_neg (by omega), if_neg (by omega), if_neg (by omega), hT, if_pos rfl]
  have EV : (mk_10 (mk_z (mm_al (sp_me I 0 0) (ad_t (sp_n I)) 3 10 fun k => defaultValue (mm_ft pg_G 3 k))) (ad_t (sp_n I)) (Int32.ofInt p) (Int32.ofInt s) (Int32.ofInt c)).2.1 0 4 = io_v (I 0 4) := by
    rw [mk_10o j0 (by omega) (by omega) (by omega), hV]; rfl
  generalize (mk_10 (mk_z (mm_al (sp_me I 0 0) (ad_t (sp_n I)) 3 10 fun k => defaultValue (mm_ft pg_G 3 k))) (ad_t (sp_n I)) (Int32.ofInt p) (Int32.ofInt s) (Int32.ofInt c)) = Q at *
  have hG1 : (mk_cl (mm_al (sp_me I 0 0) (ad_t (sp_n I)) 3 10 fun k => defaultValue (mm_ft pg_G 3 k)) Q).1 = Q.1 := rfl
  have hG2 : (mk_cl (mm_al (sp_me I 0 0) (ad_t (sp_n I)) 3 10 fun k => defaultValue (mm_ft pg_G 3 k)) Q).2.1 = Q.2.1 := rfl
  generalize mk_cl (mm_al (sp_me I 0 0) (ad_t (sp_n I)) 3 10 fun k => defaultValue (mm_ft pg_G 3 k)) Q = G at *
  rw [← hG1] at E0 E1 E2
  rw [← hG2] at EV
  have hc : mm_in (G.1 1) 102 102 (Int32.ofInt (I 0 4)) = true := by
    rw [E1]
    unfold mm_in
    rw [io_nat (by omega)]
    simp (disch := omega) only [io_0le]
    exact decide_eq_true (by omega)
  rw [st_33_69 hc E2, io_nat (by omega), ← hn, Int.toNat_natCast, hn]
  have F0 : (mm_wr G 1 (sp_n I) (.ref (ad_t (sp_n I)))).1 0 = some (0, 8) := E0
  have FV : (mm_wr G 1 (sp_n I) (.ref (ad_t (sp_n I)))).2.1 0 4 = io_v (I 0 4) := by rw [mk_v2 (by decide)]; exact EV
  generalize mm_wr G 1 (sp_n I) (.ref (ad_t (sp_n I))) = H at *
  have F1 : (mm_wr H 0 4 (io_v (I 0 4 + 1))).1 0 = some (0, 8) := F0
  have FW : (mm_wr H 0 4 (io_v (I 0 4 + 1))).2.1 0 4 = io_v (I 0 4 + 1) := mk_v1
  rw [st_33_70, st_33_71 (mm_c1_r _), st_33_72 F0, FV, st_33_75, st_33_76, io_add, st_33_77 F0, st_33_80, st_33_81 F1, FW, st_33_84, st_33_85, io_sub, show I 0 4 + 1 - 1 = I 0 4 by omega, st_33_86]
theorem sp_33n (hR : sp_R I) {p s c : Int} (hp : io_R p) (hs : io_R s) (hc : io_R c) (h : ¬ (I 0 5 = 0 ∧ I 0 4 ≠ 6 ∧ 1 ≤ c ∧ c ≤ s ∧ s ≤ p ∧ p ≤ 100)) : mm_Rn pg_G d 33 0 [.ref 0, io_v p, io_v s, io_v c, .retAddr 0] [] (sp_me I 0 0) (some (io_v (-1)), sp_me I 0 0) := by
  have tail : ∀ A : Prop, (A → 1 ≤ c ∧ c ≤ s ∧ s ≤ p ∧ p ≤ 100) → mm_Rn pg_G d 33 26 [.ref 0, io_v p, io_v s, io_v c, .retAddr 0] [io_v (pb_z A)] (sp_me I 0 0) (some (io_v (-1)), sp_me I 0 0) := by
    intro A hA
    by_cases h1 : I 0 5 = 0
    · by_cases h2 : I 0 4 = 6
      · simp (disch := (first | assumption | exact mm_c1_i _ | exact mm_c1_r _ | exact mm_c1_u _ | omega | exact hR _ _ | exact Nat.le_of_ble_eq_true rfl | decide | rfl | exact pb_dec _)) only [st_33_0, st_33_1, st_33_2, st_33_5, st_33_6, st_33_7, st_33_10, st_33_11, st_33_12, st_33_15, st_33_16, st_33_18, st_33_21, st_33_22, st_33_25, st_33_26, st_33_28, sm_33_29, st_33_32, st_33_35, sm_33_36, st_33_39, st_33_41, st_33_44, st_33_46, st_33_49, st_33_50, sm_33_52, st_33_55, sm_33_56, st_33_59, st_33_62, st_33_63, st_33_64, st_33_65, st_33_69, st_33_70, st_33_71, sm_33_72, st_33_75, st_33_76, st_33_77, st_33_80, sm_33_81, st_33_84, st_33_85, st_33_86, reduceIte, Int.reduceEq, Int.reduceLE, Int.reduceLT, Int.reduceAdd, Int.reduceSub, Int.reduceMul, Int.reduceNeg, Int.reduceToNat, io_add, io_sub, io_mul, io_lt, io_le, io_eq, io_lt0, io_le0, io_0lt, io_0le, io_eq0, io_max2, Int.toNat_natCast, Nat.add_zero, Nat.zero_add, h1, h2]
      · by_cases a : A
        · exact absurd ⟨h1, h2, hA a⟩ h
        · rw [pb_neg a]
          simp (disch := (first | assumption | exact mm_c1_i _ | exact mm_c1_r _ | exact mm_c1_u _ | omega | exact hR _ _ | exact Nat.le_of_ble_eq_true rfl | decide | rfl | exact pb_dec _)) only [st_33_0, st_33_1, st_33_2, st_33_5, st_33_6, st_33_7, st_33_10, st_33_11, st_33_12, st_33_15, st_33_16, st_33_18, st_33_21, st_33_22, st_33_25, st_33_26, st_33_28, sm_33_29, st_33_32, st_33_35, sm_33_36, st_33_39, st_33_41, st_33_44, st_33_46, st_33_49, st_33_50, sm_33_52, st_33_55, sm_33_56, st_33_59, st_33_62, st_33_63, st_33_64, st_33_65, st_33_69, st_33_70, st_33_71, sm_33_72, st_33_75, st_33_76, st_33_77, st_33_80, sm_33_81, st_33_84, st_33_85, st_33_86, reduceIte, Int.reduceEq, Int.reduceLE, Int.reduceLT, Int.reduceAdd, Int.reduceSub, Int.reduceMul, Int.reduceNeg, Int.reduceToNat, io_add, io_sub, io_mul, io_lt, io_le, io_eq, io_lt0, io_le0, io_0lt, io_0le, io_eq0, io_max2, Int.toNat_natCast, Nat.add_zero, Nat.zero_add, h1, h2]
    · simp (disch := (first | assumption | exact mm_c1_i _ | exact mm_c1_r _ | exact mm_c1_u _ | omega | exact hR _ _ | exact Nat.le_of_ble_eq_true rfl | decide | rfl | exact pb_dec _)) only [st_33_0, st_33_1, st_33_2, st_33_5, st_33_6, st_33_7, st_33_10, st_33_11, st_33_12, st_33_15, st_33_16, st_33_18, st_33_21, st_33_22, st_33_25, st_33_26, st_33_28, sm_33_29, st_33_32, st_33_35, sm_33_36, st_33_39, st_33_41, st_33_44, st_33_46, st_33_49, st_33_50, sm_33_52, st_33_55, sm_33_56, st_33_59, st_33_62, st_33_63, st_33_64, st_33_65, st_33_69, st_33_70, st_33_71, sm_33_72, st_33_75, st_33_76, st_33_77, st_33_80, sm_33_81, st_33_84, st_33_85, st_33_86, reduceIte, Int.reduceEq, Int.reduceLE, Int.reduceLT, Int.reduceAdd, Int.reduceSub, Int.reduceMul, Int.reduceNeg, Int.reduceToNat, io_add, io_sub, io_mul, io_lt, io_le, io_eq, io_lt0, io_le0, io_0lt, io_0le, io_eq0, io_max2, Int.toNat_natCast, Nat.add_zero, Nat.zero_add, h1]
  have t0 := tail False False.elim
  rw [pb_neg id] at t0
  by_cases g3 : c < 1
  · simp (disch := (first | assumption | exact mm_c1_i _ | exact mm_c1_r _ | exact mm_c1_u _ | omega | exact hR _ _ | exact Nat.le_of_ble_eq_true rfl | decide | rfl | exact pb_dec _)) only [st_33_0, st_33_1, st_33_2, st_33_5, st_33_6, st_33_7, st_33_10, st_33_11, st_33_12, st_33_15, st_33_16, st_33_18, st_33_21, st_33_22, st_33_25, st_33_28, sm_33_29, st_33_32, st_33_35, sm_33_36, st_33_39, st_33_41, st_33_44, st_33_46, st_33_49, st_33_50, st_33_51, sm_33_52, st_33_55, sm_33_56, st_33_59, st_33_62, st_33_63, st_33_64, st_33_65, st_33_69, st_33_70, st_33_71, sm_33_72, st_33_75, st_33_76, st_33_77, st_33_80, sm_33_81, st_33_84, st_33_85, st_33_86, reduceIte, Int.reduceEq, Int.reduceLE, Int.reduceLT, Int.reduceAdd, Int.reduceSub, Int.reduceMul, Int.reduceNeg, Int.reduceToNat, io_add, io_sub, io_mul, io_lt, io_le, io_eq, io_lt0, io_le0, io_0lt, io_0le, io_eq0, io_max2, Int.toNat_natCast, Nat.add_zero, Nat.zero_add, g3]
    exact t0
  by_cases g4 : s < c
  · simp (disch := (first | assumption | exact mm_c1_i _ | exact mm_c1_r _ | exact mm_c1_u _ | omega | exact hR _ _ | exact Nat.le_of_ble_eq_true rfl | decide | rfl | exact pb_dec _)) only [st_33_0, st_33_1, st_33_2, st_33_5, st_33_6, st_33_7, st_33_10, st_33_11, st_33_12, st_33_15, st_33_16, st_33_18, st_33_21, st_33_22, st_33_25, st_33_28, sm_33_29, st_33_32, st_33_35, sm_33_36, st_33_39, st_33_41, st_33_44, st_33_46, st_33_49, st_33_50, st_33_51, sm_33_52, st_33_55, sm_33_56, st_33_59, st_33_62, st_33_63, st_33_64, st_33_65, st_33_69, st_33_70, st_33_71, sm_33_72, st_33_75, st_33_76, st_33_77, st_33_80, sm_33_81, st_33_84, st_33_85, st_33_86, reduceIte, Int.reduceEq, Int.reduceLE, Int.reduceLT, Int.reduceAdd, Int.reduceSub, Int.reduceMul, Int.reduceNeg, Int.reduceToNat, io_add, io_sub, io_mul, io_lt, io_le, io_eq, io_lt0, io_le0, io_0lt, io_0le, io_eq0, io_max2, Int.toNat_natCast, Nat.add_zero, Nat.zero_add, g3, g4]
    exact t0
  by_cases g5 : p < s
  · simp (disch := (first | assumption | exact mm_c1_i _ | exact mm_c1_r _ | exact mm_c1_u _ | omega | exact hR _ _ | exact Nat.le_of_ble_eq_true rfl | decide | rfl | exact pb_dec _)) only [st_33_0, st_33_1, st_33_2, st_33_5, st_33_6, st_33_7, st_33_10, st_33_11, st_33_12, st_33_15, st_33_16, st_33_18, st_33_21, st_33_22, st_33_25, st_33_28, sm_33_29, st_33_32, st_33_35, sm_33_36, st_33_39, st_33_41, st_33_44, st_33_46, st_33_49, st_33_50, st_33_51, sm_33_52, st_33_55, sm_33_56, st_33_59, st_33_62, st_33_63, st_33_64, st_33_65, st_33_69, st_33_70, st_33_71, sm_33_72, st_33_75, st_33_76, st_33_77, st_33_80, sm_33_81, st_33_84, st_33_85, st_33_86, reduceIte, Int.reduceEq, Int.reduceLE, Int.reduceLT, Int.reduceAdd, Int.reduceSub, Int.reduceMul, Int.reduceNeg, Int.reduceToNat, io_add, io_sub, io_mul, io_lt, io_le, io_eq, io_lt0, io_le0, io_0lt, io_0le, io_eq0, io_max2, Int.toNat_natCast, Nat.add_zero, Nat.zero_add, g3, g4, g5]
    exact t0
  by_cases g6 : 100 < p
  · simp (disch := (first | assumption | exact mm_c1_i _ | exact mm_c1_r _ | exact mm_c1_u _ | omega | exact hR _ _ | exact Nat.le_of_ble_eq_true rfl | decide | rfl | exact pb_dec _)) only [st_33_0, st_33_1, st_33_2, st_33_5, st_33_6, st_33_7, st_33_10, st_33_11, st_33_12, st_33_15, st_33_16, st_33_18, st_33_21, st_33_22, st_33_25, st_33_28, sm_33_29, st_33_32, st_33_35, sm_33_36, st_33_39, st_33_41, st_33_44, st_33_46, st_33_49, st_33_50, st_33_51, sm_33_52, st_33_55, sm_33_56, st_33_59, st_33_62, st_33_63, st_33_64, st_33_65, st_33_69, st_33_70, st_33_71, sm_33_72, st_33_75, st_33_76, st_33_77, st_33_80, sm_33_81, st_33_84, st_33_85, st_33_86, reduceIte, Int.reduceEq, Int.reduceLE, Int.reduceLT, Int.reduceAdd, Int.reduceSub, Int.reduceMul, Int.reduceNeg, Int.reduceToNat, io_add, io_sub, io_mul, io_lt, io_le, io_eq, io_lt0, io_le0, io_0lt, io_0le, io_eq0, io_max2, Int.toNat_natCast, Nat.add_zero, Nat.zero_add, g3, g4, g5, g6]
    exact t0
  · have t1 := tail True (fun _ => by omega)
    rw [pb_pos trivial] at t1
    simp (disch := (first | assumption | exact mm_c1_i _ | exact mm_c1_r _ | exact mm_c1_u _ | omega | exact hR _ _ | exact Nat.le_of_ble_eq_true rfl | decide | rfl | exact pb_dec _)) only [st_33_0, st_33_1, st_33_2, st_33_5, st_33_6, st_33_7, st_33_10, st_33_11, st_33_12, st_33_15, st_33_16, st_33_18, st_33_21, st_33_22, st_33_25, st_33_28, sm_33_29, st_33_32, st_33_35, sm_33_36, st_33_39, st_33_41, st_33_44, st_33_46, st_33_49, st_33_50, st_33_51, sm_33_52, st_33_55, sm_33_56, st_33_59, st_33_62, st_33_63, st_33_64, st_33_65, st_33_69, st_33_70, st_33_71, sm_33_72, st_33_75, st_33_76, st_33_77, st_33_80, sm_33_81, st_33_84, st_33_85, st_33_86, reduceIte, Int.reduceEq, Int.reduceLE, Int.reduceLT, Int.reduceAdd, Int.reduceSub, Int.reduceMul, Int.reduceNeg, Int.reduceToNat, io_add, io_sub, io_mul, io_lt, io_le, io_eq, io_lt0, io_le0, io_0lt, io_0le, io_eq0, io_max2, Int.toNat_natCast, Nat.add_zero, Nat.zero_add, g3, g4, g5, g6]
    exact t1
end TK
