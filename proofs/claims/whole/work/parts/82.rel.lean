/-! the run of a tick -/
section RN
variable {I J : sp_I} {i : Nat}
theorem rl_G (h : rl I J) : cl_G I := by
  have h' := rl_split.1 h
  obtain ⟨hR, hRJ, hc, hm, hC, h5⟩ := h'
  exact G_of hR hc h5.2 h5 (by have := hC.2.1; omega) (fun j hj => by have := hm.1 j hj; omega)
theorem rj_R (h : rl I J) (hi : i < sp_n I) (hn : I 5 1 ≤ 150000) : sp_R (cl_rj I i) := by
  have hR := h.1
  obtain ⟨-, -, hS, hV, hC, hK, hA, -⟩ := h
  obtain ⟨⟨⟨a1, a2, a3, a4, a5⟩, b, c17, d4, e18, f21⟩, ⟨-, m1, m2⟩, ⟨p1, p2, -⟩⟩ := hA i hi
  have hrt : sp_R (cl_rt I i) := cl_rt_R hR (by omega) (by omega)
  have e1 : cl_rt I i (ad_t i) 7 = I (ad_t i) 7 := cl_rt_out (by unfold ad_j ad_t; omega) (by omega)
  have e2 : cl_rt I i 5 1 = I 5 1 := cl_rt_out (by unfold ad_j; omega) (by unfold ad_t; omega)
  have e3 : cl_rt I i (ad_j i) 3 = I (ad_j i) 3 := cl_rt_out (by omega) (by unfold ad_t ad_j; omega)
  have e4 : cl_rt I i 0 7 = I 0 7 := cl_rt_out (by unfold ad_j; omega) (by unfold ad_t; omega)
  have h07 := hK.2.2.2.2.2.1
  have h5 := hK.2.1
  unfold cl_rj
  split
  · exact hrt
  · refine sp_Rup (sp_Rup hrt (by rw [e4]; omega)) ?_
    rw [e1, e2, e3]
    omega
theorem rj_G (h : rl I J) (hi : i < sp_n I) (hn : I 5 1 ≤ 150000) : cl_G (cl_rj I i) := by
  have hG := rl_G h
  have hRj := rj_R h hi hn
  obtain ⟨-, -, hS, hV, hC, hK, hA, -⟩ := h
  obtain ⟨hR, g4, gT, gV, g5, g52, g7, gP, gB, g3⟩ := hG
  have en : sp_n (cl_rj I i) = sp_n I := by unfold sp_n; rw [rj_0 0 4 (by decide) (by decide)]
  have h07 := hK.2.2.2.2.2.1
  refine ⟨hRj, by rw [rj_0 0 4 (by decide) (by decide)]; exact g4, fun j hj => ?_, ?_, by rw [rj_0 5 1 (by decide) (by decide)]; exact g5, by rw [rj_0 5 2 (by decide) (by decide)]; exact g52, ?_, fun j hj => ?_, fun j hj v => ?_, fun j hj => ?_⟩
  · rw [en] at hj
    obtain ⟨t1, t2⟩ := gT j hj
    have h4 := (cl_cnt t1).2
    refine ⟨by unfold cl_S; rw [rj_t j 5 (by decide)]; exact t1, fun k hk => ?_⟩
    have hk' : k < sp_c I j := by unfold sp_c at hk ⊢; rw [rj_t j 5 (by decide)] at hk; exact hk
    rw [rj_s k 0 j (by omega), rj_s k 1 j (by omega), rj_s k 2 j (by omega)]
    exact t2 k hk'
  · unfold cl_V
    have e3 : ∀ v, cl_rj I i 3 v = I 3 v := fun v => rj_0 3 v (by decide) (by omega)
    have e4 : ∀ v, cl_rj I i 4 v = I 4 v := fun v => rj_0 4 v (by decide) (by omega)
    simp only [e3, e4]
    exact gV
  · have e4 : cl_rt I i 0 7 = I 0 7 := cl_rt_out (by unfold ad_j; omega) (by unfold ad_t; omega)
    unfold cl_rj
    split
    · rw [e4]; omega
    · rw [up_cell (by unfold ad_t; omega), up_same, e4]; omega
  · rw [en] at hj
    rw [rj_t j 0 (by decide), rj_t j 1 (by decide), rj_t j 2 (by decide)]
    exact gP j hj
  · rw [en] at hj
    obtain ⟨⟨⟨a1, a2, a3, a4, a5⟩, b, c17, d4, e18, f21⟩, -, ⟨p1, p2, -⟩⟩ := hA j hj
    have gb := gB j hj
    constructor
    · rintro (rfl | rfl | rfl)
      · rw [rj_j2]; have := pb_rng (j = i); omega
      · rw [rj_j j 5 (by decide)]; exact (gb 5).1 (by omega)
      · rw [rj_j j 6 (by decide)]; exact (gb 6).1 (by omega)
    · rintro (rfl | rfl | rfl)
      · rw [rj_t j 6 (by decide)]; exact (gb 6).2 (by omega)
      · by_cases e : j = i
        · subst e
          rw [rj_8]; have := pb_rng (¬ cl_any I j ∧ cl_any (i1 I j) j); omega
        · rw [rj_t' j 8 e]; exact (gb 8).2 (by omega)
      · by_cases e : j = i
        · subst e
          rw [rj_9]
          have := pb_rng (¬ cl_any I j ∧ cl_any (i1 I j) j)
          rcases pb_01 (cl_any I j ∨ cl_any (i1 I j) j) with z | z
          · rw [z, Int.zero_mul]; omega
          · rw [z, Int.one_mul]; omega
        · rw [rj_t' j 9 e]; exact (gb 9).2 (by omega)
  · rw [en] at hj
    rw [rj_j j 3 (by decide)]
    exact g3 j hj
theorem sv_o (u v : Nat) (h : u ≠ 3 ∧ u ≠ 4) : cl_sv2 (cl_sv1 I) u v = I u v := by
  have : cl_sv1 I u v = I u v := by
    unfold cl_sv1
    split
    · rw [up_cell h.1, up_cell h.1, up_cell h.1, up_cell h.2]
    · rw [up_cell h.2]
  unfold cl_sv2
  split
  · rw [up_cell h.1, up_cell h.1, up_cell h.1, up_cell h.1, this]
  · rw [up_cell h.1, this]
theorem sv_3 (v : Nat) (h : v = 0 ∨ 9 ≤ v) : cl_sv2 (cl_sv1 I) 3 v = I 3 v := by
  have : cl_sv1 I 3 v = I 3 v := by
    unfold cl_sv1
    split
    · rw [up_slot (by omega), up_slot (by omega), up_slot (by omega), up_cell (by decide)]
    · rw [up_cell (by decide)]
  unfold cl_sv2
  split
  · rw [up_slot (by omega), up_slot (by omega), up_slot (by omega), up_slot (by omega), this]
  · rw [up_slot (by omega), this]
theorem sv_4 (h1 : 0 ≤ I 3 1 ∧ I 3 1 < 8) (v : Nat) (h : 8 ≤ v) : cl_sv2 (cl_sv1 I) 4 v = I 4 v := by
  have : cl_sv1 I 4 v = I 4 v := by
    unfold cl_sv1
    split
    · rw [up_cell (by decide), up_cell (by decide), up_cell (by decide), up_slot (by omega)]
    · rw [up_slot (by omega)]
  unfold cl_sv2
  split
  · rw [up_cell (by decide), up_cell (by decide), up_cell (by decide), up_cell (by decide), this]
  · rw [up_cell (by decide), this]
theorem s3_o (u v : Nat) (h : u ≠ 16 ∧ ¬ (u = 8 ∧ (v = 12 ∨ v = 13 ∨ v = 14 ∨ v = 16 ∨ v = 17))) : rf_s3 (rf_s2 J) u v = J u v := by
  have h1 : rf_s1 J u v = J u v := by unfold rf_s1 up_I; rw [if_neg (by omega), if_neg (by omega)]
  have h2 : rf_s2 J u v = J u v := by
    unfold rf_s2
    split
    · unfold up_I
      rw [if_neg (by omega), if_neg (by omega), rf_sh_8 _ _ h.1, h1]
    · exact h1
  unfold rf_s3
  split
  · unfold up_I
    rw [if_neg (by omega), if_neg (by omega), if_neg (by omega), h2]
  · exact h2
theorem s3_16 (h14 : 0 ≤ J 8 14 ∧ J 8 14 ≤ 8) (v : Nat) (h : 8 ≤ v) : rf_s3 (rf_s2 J) 16 v = J 16 v := by
  have h1 : rf_s1 J 16 v = J 16 v := by unfold rf_s1 up_I; rw [if_neg (by omega), if_neg (by omega)]
  have h2 : rf_s2 J 16 v = J 16 v := by
    unfold rf_s2
    split
    · rw [up_cell (by decide), up_cell (by decide)]
      unfold rf_sh
      rw [if_neg (by omega), h1]
    · exact h1
  unfold rf_s3
  split
  · rw [up_cell (by decide), up_cell (by decide), up_cell (by decide), h2]
  · exact h2
/-- the server has run -/
theorem sv_all (h : rl I J) (hw : 0 < I 3 2) (hn : I 5 1 ≤ 150000) : rlc (cl_sv2 (cl_sv1 I)) (rf_s3 (rf_s2 J)) (I 5 1 + 1) ∧ sp_R (cl_sv2 (cl_sv1 I)) ∧ sp_R (rf_s3 (rf_s2 J)) ∧ cl_sv2 (cl_sv1 I) 3 8 = I 3 8 + pb_z (J 16 0 - 1 = 0) := by
  have h' := rl_split.1 h
  obtain ⟨hR, hRJ, hc, hm, hC, h5⟩ := h'
  have hd := rlc_d.1 hc
  have hV' := sv_1 hd.2 hw hn
  have v1 := hd.2.1.1
  have v14 := hd.2.1.2.1
  have e14 := hd.2.2.1.2.2.2.2.1
  refine ⟨rlc_d.2 ⟨?_, hV'⟩, fun u v => ?_, fun u v => ?_, ?_⟩
  · rw [rld_co (I := I) (J := J) (fun u v q => sv_o u v (by omega)) (fun u v q => s3_o u v (by omega))]
    exact rld_up hd.1
  · obtain ⟨⟨w1, w2, w3, w4, w5, w6, w7, w8, w9⟩, -⟩ := hV'
    by_cases u3 : u = 3
    · subst u3
      rcases (by omega : v = 0 ∨ 9 ≤ v ∨ v = 1 ∨ v = 2 ∨ v = 3 ∨ v = 4 ∨ v = 5 ∨ v = 6 ∨ v = 7 ∨ v = 8) with z | z | z | z | z | z | z | z | z | z
      · rw [sv_3 v (Or.inl z)]; exact hR 3 v
      · rw [sv_3 v (Or.inr z)]; exact hR 3 v
      all_goals (subst z; omega)
    · by_cases u4 : u = 4
      · subst u4
        by_cases q : v < 8
        · have := w9 v q; omega
        · rw [sv_4 v1 v (by omega)]; exact hR 4 v
      · rw [sv_o u v ⟨u3, u4⟩]; exact hR u v
  · obtain ⟨⟨w1, w2, w3, w4, w5, w6, w7, w8, w9⟩, ⟨x1, x2, x3, x4, x5, x6, x7⟩, -, xj, -⟩ := hV'
    by_cases u16 : u = 16
    · subst u16
      by_cases q : v < 8
      · have := xj v q; omega
      · rw [s3_16 (by omega) v (by omega)]; exact hRJ 16 v
    · by_cases u8 : u = 8 ∧ (v = 12 ∨ v = 13 ∨ v = 14 ∨ v = 16 ∨ v = 17)
      · obtain ⟨rfl, z⟩ := u8
        rcases z with z | z | z | z | z <;> subst z <;> omega
      · rw [s3_o u v ⟨u16, u8⟩]; exact hRJ u v
  · have h0 := nd_0 hd.2 hw
    have e1 : cl_sv2 (cl_sv1 I) 3 8 = cl_sv1 I 3 8 := by
      unfold cl_sv2
      split
      · rw [up_slot (by decide), up_slot (by decide), up_slot (by decide), up_slot (by decide)]
      · rw [up_slot (by decide)]
    rw [e1]
    unfold cl_sv1
    by_cases z : J 16 0 - 1 = 0
    · rw [if_pos (by omega), up_same, pb_pos z]
    · rw [if_neg (by omega), up_cell (by decide), pb_neg z, Int.add_zero]
end RN
