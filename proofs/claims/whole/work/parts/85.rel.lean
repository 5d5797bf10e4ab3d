/-! the other operations: step, server, start, submit -/
section OP
variable {I J : sp_I}
theorem st_rl (h : rl I J) : ∀ n : Nat, I 5 1 + n ≤ 150000 → rl (cl_it I n) (rf_itr J n) ∧ cl_it I n 5 1 = I 5 1 + n ∧ cl_it I n 0 7 + cl_it I n 3 8 = I 0 7 + I 3 8 + rf_sum J n ∧ cl_it I n 0 6 = I 0 6 ∧ (∀ k, k < n → cl_ok (cl_it I k)) ∧ ∀ k, k < n → rf_ok (rf_itr J k)
  | 0, _ => ⟨h, by show I 5 1 = _; omega, by show I 0 7 + I 3 8 = I 0 7 + I 3 8 + 0; omega, rfl, fun k hk => absurd hk (by omega), fun k hk => absurd hk (by omega)⟩
  | n + 1, hn => by
    obtain ⟨a, b, c, d, e, f⟩ := st_rl h n (by omega)
    obtain ⟨t1, t2, t3, t4, t5, t6, t7⟩ := tick_rl a (by omega)
    refine ⟨t1, ?_, ?_, ?_, fun k hk => ?_, fun k hk => ?_⟩
    · show cl_mt (cl_it I n) 5 1 = _; rw [t4, b]; omega
    · show cl_mt (cl_it I n) 0 7 + cl_mt (cl_it I n) 3 8 = I 0 7 + I 3 8 + (rf_sum J n + rf_tf (rf_itr J n)); rw [t5, c]; omega
    · show cl_mt (cl_it I n) 0 6 = _; rw [t6, d]
    · by_cases z : k = n
      · subst z; exact t2
      · exact e k (by omega)
    · by_cases z : k = n
      · subst z; exact t3
      · exact f k (by omega)
/-- only the server has changed -/
theorem sv_rl {I' J' : sp_I} (h : rl I J) (e : ∀ u v, u ≠ 3 → u ≠ 4 → I' u v = I u v) (f : ∀ u v, u ≠ 16 → ¬ (u = 8 ∧ (v = 10 ∨ v = 11 ∨ v = 12 ∨ v = 13 ∨ v = 14 ∨ v = 16 ∨ v = 17)) → J' u v = J u v) (hR : sp_R I') (hRJ : sp_R J') (hV : rl_V I' J' (I 5 1)) : rl I' J' := by
  obtain ⟨-, -, hc, hm, hC, h5⟩ := rl_split.1 h
  have e51 : I' 5 1 = I 5 1 := e 5 1 (by decide) (by decide)
  have en : sp_n I' = sp_n I := by unfold sp_n; rw [e 0 4 (by decide) (by decide)]
  refine rl_split.2 ⟨hR, hRJ, ?_, ?_, ?_, by rw [e51]; exact h5⟩
  · rw [e51]
    refine rlc_d.2 ⟨?_, hV⟩
    rw [rld_co (I := I) (J := J) (fun u v q => e u v (by omega) (by omega)) (fun u v q => f u v (by omega) (by omega))]
    exact (rlc_d.1 hc).1
  · rw [e51]
    refine ⟨fun i hi => ?_, fun i p q => ?_⟩
    · rw [en] at hi
      rw [e _ 6 (by unfold ad_t; omega) (by unfold ad_t; omega), f 25 i (by decide) (by omega)]
      exact hm.1 i hi
    · rw [en] at p
      rw [f 25 i (by decide) (by omega)]
      exact hm.2 i p q
  · obtain ⟨⟨q1, q2, q3, q4⟩, q5, q6, q7⟩ := hC
    unfold rl_C
    rw [e51, e 5 2 (by decide) (by decide), e 5 3 (by decide) (by decide), f 8 9 (by decide) (by decide), f 8 33 (by decide) (by decide), f 8 31 (by decide) (by decide), f 8 32 (by decide) (by decide)]
    refine ⟨⟨q1, q2, q3, q4⟩, q5, q6, fun k hk => ?_⟩
    rw [e 6 k (by decide) (by decide), f 27 k (by decide) (by omega)]
    exact q7 k hk
theorem ser_rl (h : rl I J) {a b : Int} (hab : 1 ≤ a ∧ a ≤ b ∧ b ≤ 100) : rl (up_I (up_I (up_I I 3 3 a) 3 4 b) 3 5 a) (up_I (up_I (up_I J 8 10 a) 8 11 b) 8 12 a) := by
  have hV := h.2.2.2.1
  have hR := h.1
  have hRJ := h.2.1
  refine sv_rl h (fun u v p q => by rw [up_cell p, up_cell p, up_cell p]) (fun u v p q => by unfold up_I; rw [if_neg (by omega), if_neg (by omega), if_neg (by omega)]) (sp_Rup (sp_Rup (sp_Rup hR (by omega)) (by omega)) (by omega)) (sp_Rup (sp_Rup (sp_Rup hRJ (by omega)) (by omega)) (by omega)) ?_
  obtain ⟨⟨v1, v2, v3, v4, v5, v6, v7, v8, v9⟩, ⟨x1, x2, x3, x4, x5, x6, x7⟩, xk, xj, xo, xd, xu⟩ := hV
  unfold cl_nd at xk
  unfold rl_V cl_V cl_nd
  simp (disch := decide) only [up_same, up_slot, up_cell]
  exact ⟨⟨v1, v2, by omega, by omega, by omega, v6, v7, v8, v9⟩, ⟨trivial, trivial, trivial, x4, x5, x6, x7⟩, xk, xj, Or.inr (by omega), xd, xu⟩
theorem sub_rl (h : rl I J) {a : Int} (ha : 1 ≤ a ∧ a ≤ 50) (hz : 0 < I 3 3) (h8 : I 3 2 ≠ 8) (hn : I 5 1 ≤ 150000) : rl (cl_tk2 (cl_tk1 I (I 5 1)) a) (rf_sb2 (rf_sb1 J) a) := by
  have hV := h.2.2.2.1
  have hR := h.1
  have hRJ := h.2.1
  have hC := h.2.2.2.2.1
  have h5 := h.2.2.2.2.2.1.2.1
  obtain ⟨⟨v1, v2, v3, v4, v5, v6, v7, v8, v9⟩, ⟨x1, x2, x3, x4, x5, x6, x7⟩, xk, xj, xo, xd, xu⟩ := hV
  have n9 : J 8 9 = I 5 1 := hC.1.1.symm
  have cnd : (I 3 2 = 0 ∧ (I 3 6 - I 5 1) * I 3 3 ≤ I 3 5 * I 3 4) ↔ (J 8 14 = 0 ∧ (J 8 13 - J 8 9) * J 8 10 ≤ J 8 12 * J 8 11) := by rw [x5, x4, x1, x3, x2, n9]
  have k1 : ∀ u v, ¬ (u = 3 ∧ (v = 5 ∨ v = 6)) → cl_tk1 I (I 5 1) u v = I u v := fun u v q => by
    unfold cl_tk1; split
    · unfold up_I; rw [if_neg (by omega), if_neg (by omega)]
    · rfl
  have l1 : ∀ u v, ¬ (u = 8 ∧ (v = 12 ∨ v = 13)) → rf_sb1 J u v = J u v := fun u v q => by
    unfold rf_sb1; split
    · unfold up_I; rw [if_neg (by omega), if_neg (by omega)]
    · rfl
  have val : (cl_tk1 I (I 5 1) 3 5 = rf_sb1 J 8 12 ∧ cl_tk1 I (I 5 1) 3 6 = rf_sb1 J 8 13) ∧ (1 ≤ cl_tk1 I (I 5 1) 3 5 ∧ cl_tk1 I (I 5 1) 3 5 ≤ I 3 3) ∧ 0 ≤ cl_tk1 I (I 5 1) 3 6 ∧ cl_tk1 I (I 5 1) 3 6 ≤ 100 * I 5 1 + 100 := by
    unfold cl_tk1 rf_sb1
    by_cases z : I 3 2 = 0 ∧ (I 3 6 - I 5 1) * I 3 3 ≤ I 3 5 * I 3 4
    · rw [if_pos z, if_pos (cnd.1 z), up_same, up_same, up_slot (by decide), up_same, up_slot (by decide), up_same]
      omega
    · rw [if_neg z, if_neg (fun y => z (cnd.2 y))]
      omega
  have o3 : ∀ v, v ≠ 2 → v ≠ 5 → v ≠ 6 → cl_tk2 (cl_tk1 I (I 5 1)) a 3 v = I 3 v := fun v p q r => by
    unfold cl_tk2; rw [up_slot p, up_cell (by decide), k1 3 v (by omega)]
  have o35 : ∀ v, v = 5 ∨ v = 6 → cl_tk2 (cl_tk1 I (I 5 1)) a 3 v = cl_tk1 I (I 5 1) 3 v := fun v p => by
    unfold cl_tk2; rw [up_slot (by omega), up_cell (by decide)]
  have o32 : cl_tk2 (cl_tk1 I (I 5 1)) a 3 2 = I 3 2 + 1 := by
    unfold cl_tk2; rw [up_same, k1 3 2 (by omega)]
  have o4 : ∀ v, cl_tk2 (cl_tk1 I (I 5 1)) a 4 v = if v = ((I 3 1 + I 3 2) % 8).toNat then a else I 4 v := fun v => by
    unfold cl_tk2; rw [up_cell (by decide), up_if, k1 3 1 (by omega), k1 3 2 (by omega), k1 4 v (by omega)]
  have r8 : ∀ v, v ≠ 12 → v ≠ 13 → v ≠ 14 → rf_sb2 (rf_sb1 J) a 8 v = J 8 v := fun v p q r => by
    unfold rf_sb2; rw [up_slot r, up_cell (by decide), l1 8 v (by omega)]
  have r812 : ∀ v, v = 12 ∨ v = 13 → rf_sb2 (rf_sb1 J) a 8 v = rf_sb1 J 8 v := fun v p => by
    unfold rf_sb2; rw [up_slot (by omega), up_cell (by decide)]
  have r814 : rf_sb2 (rf_sb1 J) a 8 14 = J 8 14 + 1 := by
    unfold rf_sb2; rw [up_same, l1 8 14 (by omega)]
  have r16 : ∀ v, rf_sb2 (rf_sb1 J) a 16 v = if v = (J 8 14).toNat then a else J 16 v := fun v => by
    unfold rf_sb2; rw [up_cell (by decide), up_if, l1 8 14 (by omega), l1 16 v (by omega)]
  have cV : rl_V (cl_tk2 (cl_tk1 I (I 5 1)) a) (rf_sb2 (rf_sb1 J) a) (I 5 1) := by
    unfold rl_V cl_V cl_nd
    rw [o3 1 (by decide) (by decide) (by decide), o32, o3 3 (by decide) (by decide) (by decide), o3 4 (by decide) (by decide) (by decide), o35 5 (by omega), o35 6 (by omega), o3 7 (by decide) (by decide) (by decide), o3 8 (by decide) (by decide) (by decide), r8 10 (by decide) (by decide) (by decide), r8 11 (by decide) (by decide) (by decide), r812 12 (by omega), r812 13 (by omega), r814, r8 16 (by decide) (by decide) (by decide), r8 17 (by decide) (by decide) (by decide)]
    refine ⟨⟨v1, by omega, v3, v4, by omega, by omega, v7, v8, fun k hk => ?_⟩, ⟨x1, x2, val.1.1, val.1.2, by omega, x6, x7⟩, fun k hk => ?_, fun k hk => ?_, Or.inr (by omega), by omega, xu⟩
    · rw [o4]
      split
      · omega
      · exact v9 k hk
    · rw [o4, r16]
      by_cases z : (k : Int) = I 3 2
      · rw [if_pos (by rw [z]), if_pos (by omega)]
        exact ⟨rfl, ha.1⟩
      · rw [if_neg (by omega), if_neg (by omega)]
        exact xk k (by omega)
    · rw [r16]
      split
      · omega
      · exact xj k hk
  refine sv_rl h (fun u v p q => ?_) (fun u v p q => ?_) (fun u v => ?_) (fun u v => ?_) cV
  · unfold cl_tk2; rw [up_cell p, up_cell q, k1 u v (by omega)]
  · unfold rf_sb2; rw [show up_I (up_I (rf_sb1 J) 16 (rf_sb1 J 8 14).toNat a) 8 14 (rf_sb1 J 8 14 + 1) u v = rf_sb1 J u v by unfold up_I; rw [if_neg (by omega), if_neg (by omega)], l1 u v (by omega)]
  · by_cases u3 : u = 3
    · subst u3
      rcases (by omega : v = 2 ∨ v = 5 ∨ v = 6 ∨ (v ≠ 2 ∧ v ≠ 5 ∧ v ≠ 6)) with z | z | z | z
      · subst z; rw [o32]; omega
      · subst z; rw [o35 5 (by omega)]; omega
      · subst z; rw [o35 6 (by omega)]; omega
      · rw [o3 v z.1 z.2.1 z.2.2]; exact hR 3 v
    · by_cases u4 : u = 4
      · subst u4; rw [o4]; split; omega; exact hR 4 v
      · unfold cl_tk2; rw [up_cell u3, up_cell u4, k1 u v (by omega)]; exact hR u v
  · by_cases u8 : u = 8
    · subst u8
      rcases (by omega : v = 14 ∨ v = 12 ∨ v = 13 ∨ (v ≠ 12 ∧ v ≠ 13 ∧ v ≠ 14)) with z | z | z | z
      · subst z; rw [r814]; omega
      · subst z; rw [r812 12 (by omega)]; omega
      · subst z; rw [r812 13 (by omega)]; omega
      · rw [r8 v z.1 z.2.1 z.2.2]; exact hRJ 8 v
    · by_cases u6 : u = 16
      · subst u6; rw [r16]; split; omega; exact hRJ 16 v
      · unfold rf_sb2; rw [up_cell u8, up_cell u6, l1 u v (by omega)]; exact hRJ u v
end OP
