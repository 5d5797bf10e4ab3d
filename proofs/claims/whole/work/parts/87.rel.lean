/-! start and task keep the relation -/
def rlk (I J : sp_I) (t : Int) : Prop := rl_S I J ∧ rl_V I J t ∧ (∀ i, i < sp_n I → rl_J I J i t ∧ rl_L I J i t ∧ rl_P I J i t) ∧ (∀ i, sp_n I ≤ i → i < 6 → rl_Z' J i) ∧ rl_D I J ∧ rl_F I J ∧ rl_1 I ∧ rl_2 I
theorem rlc_k {I J : sp_I} {t : Int} : rlc I J t ↔ rlk I J t ∧ rl_K' I J t := by
  unfold rlc rlk
  constructor
  · rintro ⟨a, b, c, d⟩; exact ⟨⟨a, b, d⟩, c⟩
  · rintro ⟨⟨a, b, d⟩, c⟩; exact ⟨a, b, c, d⟩
theorem rlk_co {I I' J J' : sp_I} (e : ∀ u v, ((u = 0 ∧ v = 4) ∨ u = 2 ∨ u = 3 ∨ u = 4 ∨ 32 ≤ u) → I' u v = I u v) (f : ∀ u v, ((8 ≤ u ∧ u ≤ 27) ∧ ¬ (u = 8 ∧ v = 8)) → J' u v = J u v) (t : Int) : rlk I' J' t = rlk I J t := by
  have g : ∀ r, rf_ce J' r = rf_ce J r := by
    intro r
    unfold rf_ce
    rw [show rf_cv J' r = rf_cv J r from funext fun i => by simp (disch := omega) only [rf_cv, rf_p, f]]
    simp (disch := omega) only [rf_n, f]
  simp (disch := (first | omega | (simp only [ad_t, ad_j, ad_c, ad_s]; omega))) only [rlk, rl_S, rl_T, rl_V, rl_J, rl_L, rl_P, rl_Z', rl_D, rl_F, rl_1, rl_2, rl_bg, cl_pend, cl_held, cl_any, cl_bf, cl_dl, cl_S, cl_Q, cl_V, cl_nd, sp_n, sp_c, g, e, f]
section SX
variable {I J : sp_I}
theorem start_rl (h : rl I J) : rl (up_I I 0 5 1) (up_I J 8 8 1) := by
  obtain ⟨hR, hRJ, hc, hm, hC, h5⟩ := rl_split.1 h
  have e51 : up_I I 0 5 1 5 1 = I 5 1 := up_cell (by decide)
  have e : ∀ u v, u ≠ 0 → up_I I 0 5 1 u v = I u v := fun u v q => up_cell q
  have f : ∀ u v, u ≠ 8 → up_I J 8 8 1 u v = J u v := fun u v q => up_cell q
  have f8 : ∀ v, v ≠ 8 → up_I J 8 8 1 8 v = J 8 v := fun v q => up_slot q
  have e0 : ∀ v, v ≠ 5 → up_I I 0 5 1 0 v = I 0 v := fun v q => up_slot q
  have en : sp_n (up_I I 0 5 1) = sp_n I := by unfold sp_n; rw [e0 4 (by decide)]
  obtain ⟨hk, k1, k2, k3, k4, k5⟩ := rlc_k.1 hc
  refine rl_split.2 ⟨sp_Rup hR (by decide), sp_Rup hRJ (by decide), rlc_k.2 ⟨?_, ?_⟩, ⟨fun i hi => ?_, fun i p q => ?_⟩, ?_, by rw [e51]; exact h5⟩
  · rw [e51, rlk_co (I := I) (J := J) (fun u v q => by unfold up_I; rw [if_neg (by omega)]) (fun u v q => by unfold up_I; rw [if_neg (by omega)])]
    exact hk
  · unfold rl_K'
    rw [e51, up_same, up_same, e0 6 (by decide), e0 7 (by decide), f8 29 (by decide), f8 30 (by decide), f8 28 (by decide)]
    exact ⟨⟨rfl, Or.inr rfl⟩, k2, k3, k4, k5⟩
  · rw [en] at hi
    rw [e51, e _ _ (by unfold ad_t; omega), f _ _ (by decide)]; exact hm.1 i hi
  · rw [en] at p
    rw [f _ _ (by decide)]; exact hm.2 i p q
  · obtain ⟨⟨q1, q2, q3, q4⟩, q5, q6, q7⟩ := hC
    unfold rl_C
    rw [e51, e 5 2 (by decide), e 5 3 (by decide), f8 9 (by decide), f8 33 (by decide), f8 31 (by decide), f8 32 (by decide)]
    refine ⟨⟨q1, q2, q3, q4⟩, q5, q6, fun k hk => ?_⟩
    rw [e 6 k (by decide), f 27 k (by decide)]
    exact q7 k hk
theorem task_rl (h : rl I J) {p s c : Int} (h6 : I 0 4 ≠ 6) (hq : 1 ≤ c ∧ c ≤ s ∧ s ≤ p ∧ p ≤ 100) : rl (cl_tas I p s c) (rf_tas J p s c) := by
  obtain ⟨hR, hRJ, ⟨hS, hV, ⟨k1, k2, k3, k4, k5⟩, hA, hZ, hD, hF, h1, h2⟩, hm, hC, h5⟩ := rl_split.1 h
  have hn := rl_n6 hS
  have hJn : (J 8 0).toNat = sp_n I := by have := hS.1.2; unfold sp_n; rw [this]
  have hn5 : sp_n I < 6 := by omega
  have en : sp_n (cl_tas I p s c) = sp_n I + 1 := cl_tas_n hS.1.1.1 p s c
  have o : ∀ u v, ¬ (u = 0 ∧ v = 4) → u ≠ ad_t (sp_n I) → u ≠ ad_j (sp_n I) → u ≠ ad_c (sp_n I) → cl_tas I p s c u v = I u v := fun u v a b d e => cl_tas_o p s c a b d e
  have o0 : ∀ u v, u < 32 → ¬ (u = 0 ∧ v = 4) → cl_tas I p s c u v = I u v := fun u v a b => o u v b (by unfold ad_t; omega) (by unfold ad_j; omega) (by unfold ad_c; omega)
  have ot : ∀ j v, j ≠ sp_n I → cl_tas I p s c (ad_t j) v = I (ad_t j) v := fun j v e => o _ _ (by unfold ad_t; omega) (fun z => e (ad_tt z)) ad_tj ad_tc
  have oj : ∀ j v, j ≠ sp_n I → cl_tas I p s c (ad_j j) v = I (ad_j j) v := fun j v e => o _ _ (by unfold ad_j; omega) (fun z => ad_tj z.symm) (fun z => e (ad_jj z)) ad_jc
  have oc : ∀ j v, j ≠ sp_n I → cl_tas I p s c (ad_c j) v = I (ad_c j) v := fun j v e => o _ _ (by unfold ad_c; omega) (fun z => ad_tc z.symm) (fun z => ad_jc z.symm) (fun z => e (ad_cc z))
  have os : ∀ j k v, k < 4 → cl_tas I p s c (ad_s j k) v = I (ad_s j k) v := fun j k v hk => o _ _ (by unfold ad_s; omega) (by unfold ad_s ad_t; omega) (by unfold ad_s ad_j; omega) (by unfold ad_s ad_c; omega)
  have nt : ∀ v, cl_tas I p s c (ad_t (sp_n I)) v = if v = 0 then p else if v = 1 then s else if v = 2 then c else 0 := fun v => by
    unfold cl_tas; rw [if_neg (by unfold ad_t; omega), if_pos rfl]
  have nj : ∀ v, cl_tas I p s c (ad_j (sp_n I)) v = 0 := fun v => by
    unfold cl_tas; rw [if_neg (by unfold ad_j; omega), if_neg (fun z => ad_tj z.symm), if_pos (Or.inl rfl)]
  have nc : ∀ v, cl_tas I p s c (ad_c (sp_n I)) v = 0 := fun v => by
    unfold cl_tas; rw [if_neg (by unfold ad_c; omega), if_neg (fun z => ad_tc z.symm), if_pos (Or.inr rfl)]
  have n04 : cl_tas I p s c 0 4 = I 0 4 + 1 := by unfold cl_tas; rw [if_pos ⟨rfl, rfl⟩]
  have ro : ∀ u v, ¬ (u = 8 ∧ v = 0) → ¬ ((u = 9 ∨ u = 10 ∨ u = 11) ∧ v = sp_n I) → rf_tas J p s c u v = J u v := fun u v a b => by
    unfold rf_tas up_I
    rw [hJn, if_neg a, if_neg (by omega), if_neg (by omega), if_neg (by omega)]
  have r0 : rf_tas J p s c 8 0 = I 0 4 + 1 := by unfold rf_tas; rw [up_same, hS.1.2]
  have r9 : rf_tas J p s c 9 (sp_n I) = p := by unfold rf_tas; rw [hJn, up_cell (by decide), up_cell (by decide), up_cell (by decide), up_same]
  have r10 : rf_tas J p s c 10 (sp_n I) = s := by unfold rf_tas; rw [hJn, up_cell (by decide), up_cell (by decide), up_same]
  have r11 : rf_tas J p s c 11 (sp_n I) = c := by unfold rf_tas; rw [hJn, up_cell (by decide), up_same]
  have z12 := (hS.2.2.1 (sp_n I) (Nat.le_refl _) hn5).1
  obtain ⟨z1, z2, z3, z4, z5, z6, z7, z8⟩ := hZ (sp_n I) (Nat.le_refl _) hn5
  have ec : ∀ j, j ≠ sp_n I → sp_c (cl_tas I p s c) j = sp_c I j := fun j e => by unfold sp_c; rw [ot j 5 e]
  have ecn : sp_c (cl_tas I p s c) (sp_n I) = 0 := cl_tas_c0 p s c
  have e51 : cl_tas I p s c 5 1 = I 5 1 := o0 5 1 (by decide) (by decide)
  have npn : ¬ cl_pend (cl_tas I p s c) (sp_n I) := by unfold cl_pend; rw [nj, nj]; omega
  have pj : ∀ j, j ≠ sp_n I → (cl_pend (cl_tas I p s c) j ↔ cl_pend I j) := fun j e => by unfold cl_pend; rw [oj j 1 e, oj j 2 e]
  have bgj : ∀ j, j ≠ sp_n I → (rl_bg (cl_tas I p s c) j ↔ rl_bg I j) := fun j e => by unfold rl_bg; rw [pj j e, oj j 2 e]
  have bf : ∀ x y, x ≠ sp_n I → y ≠ sp_n I → (cl_bf (cl_tas I p s c) (2 + (x : Int)) (2 + (y : Int)) ↔ cl_bf I (2 + (x : Int)) (2 + (y : Int))) := fun x y a b => by rw [bf_j, bf_j, oj x 4 a, oj y 4 b]
  have hc4 : ∀ j, j < sp_n I → sp_c I j ≤ 4 := fun j hj => (cl_cnt (hS.2.1 j hj).2.2.1).2
  have hd : ∀ j k, j ≠ sp_n I → k < 4 → (cl_held (cl_tas I p s c) j k ↔ cl_held I j k) := fun j k e hk => by unfold cl_held; rw [pj j e, oj j 2 e, os j k 1 hk, os j k 2 hk]
  have an : ∀ j, j < sp_n I → (cl_any (cl_tas I p s c) j ↔ cl_any I j) := fun j hj => by
    unfold cl_any
    rw [ec j (by omega)]
    have := hc4 j hj
    exact ⟨fun ⟨k, a, b⟩ => ⟨k, a, (hd j k (by omega) (by omega)).1 b⟩, fun ⟨k, a, b⟩ => ⟨k, a, (hd j k (by omega) (by omega)).2 b⟩⟩
  have ann : ¬ cl_any (cl_tas I p s c) (sp_n I) := by rintro ⟨k, hk, -⟩; rw [ecn] at hk; omega
  have ne : ∀ j, cl_pend (cl_tas I p s c) j → j ≠ sp_n I := fun j z e => by rw [e] at z; exact npn z
  have hce : ∀ r, rf_ce (rf_tas J p s c) r = rf_ce J r := fun r => by
    unfold rf_ce
    have e1 : rf_n (rf_tas J p s c) = sp_n I + 1 := by unfold rf_n; rw [r0]; omega
    rw [e1, rl_n hS, pf_max]
    have e2 : rf_cv (rf_tas J p s c) r (sp_n I) = 0 := by
      unfold rf_cv
      rw [pb_neg, Int.zero_mul]
      rintro ⟨k, hk, -⟩
      unfold rf_p at hk
      rw [ro 12 _ (by omega) (by omega), z12] at hk
      exact absurd hk (by omega)
    have e3 : pf_max (sp_n I) (rf_cv (rf_tas J p s c) r) = pf_max (sp_n I) (rf_cv J r) := pf_max_congr _ (fun j hj => by
      unfold rf_cv rf_p
      rw [ro 12 j (by omega) (by omega), ro 10 j (by omega) (by omega)]
      have e4 : ∀ k, rf_tas J p s c 13 (4 * j + k) = J 13 (4 * j + k) := fun k => ro _ _ (by omega) (by omega)
      simp only [e4])
    rw [e2, e3]
    have := pf_max_nonneg (rf_cv J r) (sp_n I)
    omega
  have hS' : rl_S (cl_tas I p s c) (rf_tas J p s c) := by
    refine ⟨⟨by rw [n04]; have := hS.1.1; omega, by rw [n04, r0]⟩, fun j hj => ?_, fun j a b => ?_, fun k hk => ?_, fun r hr => by rw [o0 2 r (by decide) (by omega), hce]; exact hS.2.2.2.2 r hr⟩
    · by_cases e : j = sp_n I
      · subst e
        refine ⟨?_, ?_, ?_, fun k hk => ?_, fun k hk => ?_⟩
        · rw [nt, nt, nt, nt, r9, r10, r11, ro 12 _ (by omega) (by omega), z12]
          exact ⟨rfl, rfl, rfl, rfl⟩
        · rw [nt, nt, nt]; exact hq
        · unfold cl_S; rw [nt]; show (0 : Int) ≤ 0 ∧ (0 : Int) ≤ 4; decide
        · rw [ecn] at hk; omega
        · rw [ecn] at hk; omega
      · have hj' : j < sp_n I := by omega
        obtain ⟨t1, t2, t3, t4, t5⟩ := hS.2.1 j hj'
        have := hc4 j hj'
        refine ⟨?_, ?_, ?_, fun k hk => ?_, fun k hk => ?_⟩
        · rw [ot j 0 e, ot j 1 e, ot j 2 e, ot j 5 e, ro 9 j (by omega) (by omega), ro 10 j (by omega) (by omega), ro 11 j (by omega) (by omega), ro 12 j (by omega) (by omega)]; exact t1
        · rw [ot j 0 e, ot j 1 e, ot j 2 e]; exact t2
        · unfold cl_S; rw [ot j 5 e]; exact t3
        · rw [ec j e] at hk
          rw [os j k 0 (by omega), os j k 1 (by omega), os j k 2 (by omega)]; exact t4 k hk
        · rw [ec j e] at hk
          rw [os j k 0 (by omega), os j k 1 (by omega), os j k 2 (by omega), ro 13 _ (by omega) (by omega), ro 14 _ (by omega) (by omega), ro 15 _ (by omega) (by omega)]; exact t5 k hk
    · rw [ro 12 j (by omega) (by omega), ro 10 j (by omega) (by omega)]; exact hS.2.2.1 j (by omega) b
    · rw [ro 13 k (by omega) (by omega), ro 14 k (by omega) (by omega), ro 15 k (by omega) (by omega)]; exact hS.2.2.2.1 k hk
  refine rl_split.2 ⟨fun u v => ?_, ?_, ?_, ⟨fun j hj => ?_, fun j a b => ?_⟩, ?_, by rw [e51]; exact h5⟩
  · unfold cl_tas
    have := hR u v
    repeat' split
    all_goals first | omega | exact this
  · unfold rf_tas
    exact sp_Rup (sp_Rup (sp_Rup (sp_Rup hRJ (by omega)) (by omega)) (by omega)) (by have := hS.1.2; omega)
  · rw [e51]
    refine ⟨hS', ?_, ?_, fun j hj => ?_, fun j a b => ?_, ?_, ?_, ?_, ?_⟩
    · exact (rlV_co (fun v => o0 3 v (by decide) (by omega)) (fun v => o0 4 v (by decide) (by omega)) (fun v q => ro 8 v (by omega) (by omega)) (fun v => ro 16 v (by omega) (by omega))).2 hV
    · unfold rl_K'
      rw [o0 0 5 (by decide) (by decide), o0 0 6 (by decide) (by decide), o0 0 7 (by decide) (by decide), ro 8 8 (by omega) (by omega), ro 8 29 (by omega) (by omega), ro 8 30 (by omega) (by omega), ro 8 28 (by omega) (by omega)]
      exact ⟨k1, k2, k3, k4, k5⟩
    · by_cases e : j = sp_n I
      · subst e
        unfold rl_J rl_L rl_P
        simp only [nj, nt, reduceIte, Nat.reduceEqDiff]
        rw [ro 19 _ (by omega) (by omega), ro 20 _ (by omega) (by omega), ro 18 _ (by omega) (by omega), ro 23 _ (by omega) (by omega), ro 21 _ (by omega) (by omega), ro 17 _ (by omega) (by omega), ro 26 _ (by omega) (by omega), ro 22 _ (by omega) (by omega), ro 8 28 (by omega) (by omega), z1, z2, z3, z4, z5, z6, z7, z8]
        refine ⟨⟨⟨rfl, rfl, rfl, rfl, rfl⟩, by omega, rfl, fun z => absurd z (by decide), ⟨by omega, by omega, fun z => absurd z (by decide)⟩, by omega⟩, ⟨rfl, by omega, by omega⟩, ⟨by omega, by omega, fun z => absurd z ann, fun _ => rfl, by omega, ?_⟩⟩
        exact ((pf_cnt_zero 6).2 (fun k hk z => z (nc k))).symm
      · have hj' : j < sp_n I := by omega
        unfold rl_J rl_L rl_P
        rw [oj j 1 e, oj j 2 e, oj j 3 e, oj j 4 e, oj j 5 e, oj j 6 e, ot j 7 e, ot j 8 e, ot j 9 e, an j hj', ro 19 _ (by omega) (by omega), ro 20 _ (by omega) (by omega), ro 18 _ (by omega) (by omega), ro 23 _ (by omega) (by omega), ro 21 _ (by omega) (by omega), ro 17 _ (by omega) (by omega), ro 26 _ (by omega) (by omega), ro 22 _ (by omega) (by omega), ro 8 28 (by omega) (by omega), ro 10 _ (by omega) (by omega)]
        simp only [oc j _ e]
        exact hA j hj'
    · unfold rl_Z'
      rw [ro 19 _ (by omega) (by omega), ro 20 _ (by omega) (by omega), ro 18 _ (by omega) (by omega), ro 23 _ (by omega) (by omega), ro 21 _ (by omega) (by omega), ro 17 _ (by omega) (by omega), ro 26 _ (by omega) (by omega), ro 22 _ (by omega) (by omega)]
      exact hZ j (by omega) b
    · intro j b hj hb pj1 bb bfb
      have e := ne j pj1
      have e2 := ne b bb.1
      have := hD j b (by omega) (by omega) ((pj j e).1 pj1) ((bgj b e2).1 bb) ((bf j b e e2).1 bfb)
      rw [oc j b e, ot b 8 e2, ro 22 _ (by omega) (by omega), ro 23 _ (by omega) (by omega)]
      have e24 : ∀ k, rf_tas J p s c 24 (60 * j + k) = J 24 (60 * j + k) := fun k => ro _ _ (by omega) (by omega)
      simp only [e24]
      exact this
    · intro x y hx hy hxy z22
      rw [ro 22 _ (by omega) (by omega)] at z22
      rw [ro 22 _ (by omega) (by omega), ro 22 _ (by omega) (by omega)]
      have ex : x ≠ sp_n I := fun e => by rw [e] at z22; exact z22 z6
      by_cases ey : y = sp_n I
      · rw [ey, z6]; exact z22
      · exact hF x y (by omega) (by omega) hxy z22
    · intro j x hj hx bj px nx bfb
      have e := ne j bj.1
      have e2 := ne x px
      rw [oj j 3 e, oj x 3 e2]
      rw [oj x 2 e2] at nx
      exact h1 j x (by omega) (by omega) ((bgj j e).1 bj) ((pj x e2).1 px) nx ((bf x j e2 e).1 bfb)
    · intro x y hx hy bx by' bfb k hk hh
      have e := ne x bx.1
      have e2 := ne y by'.1
      rw [ec x e] at hk
      have := hc4 x (by omega)
      rw [os x k 0 (by omega), o0 2 _ (by decide) (by omega), ot y 1 e2]
      exact h2 x y (by omega) (by omega) ((bgj x e).1 bx) ((bgj y e2).1 by') ((bf y x e2 e).1 bfb) k hk ((hd x k e (by omega)).1 hh)
  · rw [e51]
    by_cases e : j = sp_n I
    · subst e
      rw [nt, ro 25 _ (by omega) (by omega), hm.2 _ (Nat.le_refl _) hn5]
      show (0 : Int) = 0 ∧ (0 : Int) ≤ 0 ∧ (0 : Int) ≤ I 5 1
      omega
    · rw [ot j 6 e, ro 25 _ (by omega) (by omega)]; exact hm.1 j (by omega)
  · rw [ro 25 _ (by omega) (by omega)]; exact hm.2 j (by omega) b
  · obtain ⟨⟨q1, q2, q3, q4⟩, q5, q6, q7⟩ := hC
    unfold rl_C
    rw [e51, o0 5 2 (by decide) (by decide), o0 5 3 (by decide) (by decide), ro 8 9 (by omega) (by omega), ro 8 33 (by omega) (by omega), ro 8 31 (by omega) (by omega), ro 8 32 (by omega) (by omega)]
    refine ⟨⟨q1, q2, q3, q4⟩, q5, q6, fun k hk => ?_⟩
    rw [o0 6 k (by decide) (by omega), ro 27 k (by omega) (by omega)]
    exact q7 k hk
end SX
