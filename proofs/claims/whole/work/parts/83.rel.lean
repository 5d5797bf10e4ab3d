/-! a whole tick -/
section TC
variable {I J : sp_I}
def rn_P (I J : sp_I) : Prop := rlc (cl_m1 I) (rf_t1 J) (I 5 1 + 1) ∧ sp_R (cl_m1 I) ∧ sp_R (rf_t1 J) ∧ (∀ u v, u = 5 ∨ u = 6 → cl_m1 I u v = I u v) ∧ (∀ j, cl_m1 I (ad_t j) 6 = I (ad_t j) 6) ∧ (∀ v, v = 9 ∨ v = 31 ∨ v = 32 ∨ v = 33 → rf_t1 J 8 v = J 8 v) ∧ (∀ u v, u = 25 ∨ u = 27 → rf_t1 J u v = J u v) ∧ cl_m1 I 0 7 + cl_m1 I 3 8 = I 0 7 + I 3 8 + rf_tf J ∧ cl_c I = rf_cd (rf_ch J) ∧ (cl_c I = 0 ↔ rf_ch J < 0) ∧ (∀ v, v = 4 ∨ v = 5 ∨ v = 6 → cl_m1 I 0 v = I 0 v) ∧ (0 ≤ cl_c I ∧ cl_c I ≤ 8)
theorem run_core (h : rl I J) (hn : I 5 1 ≤ 150000) : rn_P I J := by
  have h' := rl_split.1 h
  obtain ⟨hR, hRJ, hc, hm, hC, h5⟩ := h'
  rcases ch_eq h with ⟨c0, x0⟩ | ⟨c1, x6, hw⟩ | ⟨i, ci, xi, hi⟩
  · have em : cl_m1 I = I := by unfold cl_m1; rw [if_neg (by omega), if_pos c0]
    have et : rf_t1 J = J := by unfold rf_t1; rw [if_pos (by omega)]
    have ef : rf_tf J = 0 := by unfold rf_tf; rw [if_pos (by omega)]
    unfold rn_P
    rw [em, et, ef, c0, x0]
    have hd := rlc_d.1 hc
    exact ⟨rlc_d.2 ⟨rld_up hd.1, rlV_up hd.2⟩, hR, hRJ, fun _ _ _ => rfl, fun _ => rfl, fun _ _ => rfl, fun _ _ _ => rfl, by omega, rfl, ⟨fun _ => by decide, fun _ => rfl⟩, fun _ _ => rfl, by decide, by decide⟩
  · have em : cl_m1 I = cl_sv2 (cl_sv1 I) := by unfold cl_m1; rw [if_pos c1]
    have et : rf_t1 J = rf_s3 (rf_s2 J) := by unfold rf_t1; rw [if_neg (by omega), if_pos x6]
    have ef : rf_tf J = pb_z (J 16 0 - 1 = 0) := by unfold rf_tf; rw [if_neg (by omega), if_pos x6]
    obtain ⟨a, b, c, d⟩ := sv_all h hw hn
    unfold rn_P
    rw [em, et, ef, c1, x6, d]
    exact ⟨a, b, c, fun u v q => sv_o u v (by omega), fun j => sv_o _ _ (by unfold ad_t; omega), fun v q => s3_o 8 v (by omega), fun u v q => s3_o u v (by omega), by rw [sv_o 0 7 (by decide)]; omega, rfl, ⟨fun z => absurd z (by decide), fun z => absurd z (by decide)⟩, fun v q => sv_o 0 v (by decide), by decide, by decide⟩
  · obtain ⟨tc, ta⟩ := tv_cl h hi ci
    have tr := tv_rf h hi ta
    have hrld := tt h hi tc tr
    have hin := hi.1
    have hn6 := rl_n6 h.2.2.1
    have hd := rlc_d.1 hc
    have et : rf_t1 J = rf_w6 J i := by unfold rf_t1; rw [if_neg (by omega), if_neg (by omega), xi, Int.toNat_natCast]
    have ef : rf_tf J = pb_z (J 20 i + 1 = J 19 i) := by unfold rf_tf; rw [if_neg (by omega), if_neg (by omega), xi, Int.toNat_natCast]
    have e19 := (h.2.2.2.2.2.2.1 i hin).1.1.1
    have e20 := (h.2.2.2.2.2.2.1 i hin).1.1.2.1
    have ec : (cl_c I - 2).toNat = i := by omega
    have em : cl_m1 I = cl_rj I i ∨ cl_m1 I = cl_nb (cl_rj I i) (2 + i) (sp_n (cl_rj I i)) := by
      unfold cl_m1
      rw [if_neg (by omega), if_neg (by omega), ec, ci]
      split
      · exact Or.inl rfl
      · exact Or.inr rfl
    have m0 : ∀ u v, u < 32 → ¬ (u = 0 ∧ v = 7) → cl_m1 I u v = I u v := fun u v hu q => by
      rcases em with em | em <;> rw [em]
      · exact rj_0 u v hu q
      · rw [cl_nb_04 hu]; exact rj_0 u v hu q
    have mt : ∀ j, cl_m1 I (ad_t j) 6 = I (ad_t j) 6 := fun j => by
      rcases em with em | em <;> rw [em]
      · exact rj_t j 6 (by decide)
      · rw [nb_t]; exact rj_t j 6 (by decide)
    have mR : sp_R (cl_m1 I) := by
      rcases em with em | em <;> rw [em]
      · exact rj_R h hin hn
      · exact cl_nb_R (rj_R h hin hn) (rj_G h hin hn).2.2.2.2.2.2.2.2.1 _ _ (Nat.le_refl _)
    have w6 : ∀ u v, (u ≠ 20 ∧ u ≠ 17 ∧ u ≠ 22 ∧ ¬ (u = 8 ∧ v = 28)) → (u ≠ 21 ∧ u ≠ 23 ∧ u ≠ 24) → ¬ (u = 8 ∧ v = 30) → u ≠ 26 → rf_w6 J i u v = J u v := fun u v a b c d => by
      rw [w6_at u v c d]; exact rf_w5_out a b
    have hW := W_of hc (by omega)
    have hB := B_of hc (by omega)
    have h28 := h.2.2.2.2.2.1.2.2.2.2.2.2
    have h30 := h.2.2.2.2.2.1.2.2.2.1.2
    have h07 := h.2.2.2.2.2.1.2.2.2.2.2.1
    have jR : sp_R (rf_w6 J i) := by
      have r4 := rf_w4_R (i := i) hRJ hW hB.1 (hB.2 i (by omega)) (by omega)
      have r5 : sp_R (rf_w5 J i) := by unfold rf_w5; split; exact r4; exact sp_Rup r4 (by decide)
      have f30 : rf_w5 J i 8 30 = J 8 30 := rf_w5_out (by decide) (by decide)
      have f26 : rf_w5 J i 26 i = J 26 i := rf_w5_out (by omega) (by decide)
      have f9 : rf_w5 J i 8 9 = J 8 9 := rf_w5_out (by decide) (by decide)
      have f18 : rf_w5 J i 18 i = J 18 i := rf_w5_out (by omega) (by decide)
      have g26 := (h.2.2.2.2.2.2.1 i hin).2.1
      have g18 := (h.2.2.2.2.2.2.1 i hin).1.2.2.2.2.1
      have n9 := hC.1.1
      unfold rl_M at g26
      unfold rf_w6
      split
      · refine sp_Rup (sp_Rup r5 (by rw [f30]; omega)) ?_
        rw [f26, f9, f18]
        omega
      · exact r5
    have e07 := tc.1.2.2.2
    unfold rn_P
    rw [et, ef]
    refine ⟨rlc_d.2 ⟨hrld, ?_⟩, mR, jR, fun u v q => m0 u v (by omega) (by omega), mt, fun v q => w6 8 v (by omega) (by decide) (by omega) (by decide), fun u v q => w6 u v (by omega) (by omega) (by omega) (by omega), ?_, ?_, ⟨fun z => by omega, fun z => by omega⟩, fun v q => m0 0 v (by decide) (by omega), by omega, by omega⟩
    · exact (rlV_co (fun v => m0 3 v (by decide) (by omega)) (fun v => m0 4 v (by decide) (by omega)) (fun v q => w6 8 v (by omega) (by decide) (by omega) (by decide)) (fun v => w6 16 v (by omega) (by decide) (by omega) (by decide))).2 (rlV_up hd.2)
    · rw [e07, m0 3 8 (by decide) (by decide), e19, e20]; omega
    · rw [ci, xi, od_cd, od_cn (by omega)]
end TC
