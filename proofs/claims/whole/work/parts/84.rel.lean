/-! notes and misses: a tick keeps the relation -/
section NT
variable {A : sp_I} {c x : Int}
def n2 (A : sp_I) (c : Int) : sp_I := cl_nt3 (cl_nt2 (cl_nt1 A c) c) c
theorem n1_o {u v : Nat} (h : ¬ (u = 5 ∧ v = 2)) : cl_nt1 A c u v = A u v := by
  unfold cl_nt1; split
  · unfold up_I; rw [if_neg h]
  · rfl
theorem n2_o' {u v : Nat} (h : ¬ (u = 5 ∧ v = 3)) : cl_nt2 A c u v = A u v := by
  unfold cl_nt2; split
  · unfold up_I; rw [if_neg h]
  · rfl
theorem n2_o {u v : Nat} (h : u ≠ 6 ∧ ¬ (u = 5 ∧ (v = 1 ∨ v = 2 ∨ v = 3))) : n2 A c u v = A u v := by
  unfold n2 cl_nt3 up_I
  rw [if_neg (by omega), if_neg (by omega), n2_o' (by omega), n1_o (by omega)]
theorem n2_1 : n2 A c 5 1 = A 5 1 + 1 := by
  unfold n2 cl_nt3
  rw [up_same, n2_o' (by decide), n1_o (by decide)]
theorem n2_2 : n2 A c 5 2 = A 5 2 + pb_z (c = 0) := by
  unfold n2 cl_nt3
  rw [up_slot (by decide), up_cell (by decide), n2_o' (by decide)]
  unfold cl_nt1
  by_cases h : c = 0
  · rw [if_pos h, up_same, pb_pos h]
  · rw [if_neg h, pb_neg h, Int.add_zero]
theorem n2_3 : n2 A c 5 3 = A 5 3 + pb_z (0 < A 5 1 ∧ A 6 ((A 5 1 - 1) % 64).toNat ≠ c) := by
  unfold n2 cl_nt3
  rw [up_slot (by decide), up_cell (by decide)]
  unfold cl_nt2
  rw [n1_o (by omega), n1_o (by omega), n1_o (by omega)]
  by_cases h : 0 < A 5 1 ∧ A 6 ((A 5 1 - 1) % 64).toNat ≠ c
  · rw [if_pos ⟨h.1, fun z => h.2 z.symm⟩, up_same, pb_pos h]
  · rw [if_neg (fun z => h ⟨z.1, fun y => z.2 y.symm⟩), n1_o (by decide), pb_neg h, Int.add_zero]
theorem n2_6 (k : Nat) : n2 A c 6 k = if k = (A 5 1 % 64).toNat then c else A 6 k := by
  unfold n2 cl_nt3
  rw [up_cell (by decide), up_if, n2_o' (by decide), n1_o (by decide), n2_o' (by omega), n1_o (by omega)]
def m2 (A : sp_I) (x c : Int) : sp_I := rf_t4 (rf_t3 (rf_t2 A x) c) c
theorem t2_o {u v : Nat} (h : ¬ (u = 8 ∧ v = 31)) : rf_t2 A x u v = A u v := by
  unfold rf_t2; split
  · unfold up_I; rw [if_neg h]
  · rfl
theorem t3_o {u v : Nat} (h : ¬ (u = 8 ∧ v = 32)) : rf_t3 A c u v = A u v := by
  unfold rf_t3; split
  · unfold up_I; rw [if_neg h]
  · rfl
theorem m2_o {u v : Nat} (h : u ≠ 27 ∧ ¬ (u = 8 ∧ (v = 9 ∨ v = 31 ∨ v = 32 ∨ v = 33))) : m2 A x c u v = A u v := by
  unfold m2 rf_t4 up_I
  rw [if_neg (by omega), if_neg (by omega), if_neg (by omega), t3_o (by omega), t2_o (by omega)]
theorem m2_9 : m2 A x c 8 9 = A 8 9 + 1 := by
  unfold m2 rf_t4
  rw [up_same, t3_o (by decide), t2_o (by decide)]
theorem m2_33 : m2 A x c 8 33 = A 8 33 + 1 := by
  unfold m2 rf_t4
  rw [up_slot (by decide), up_same, t3_o (by decide), t2_o (by decide)]
theorem m2_31 : m2 A x c 8 31 = A 8 31 + pb_z (x < 0) := by
  unfold m2 rf_t4
  rw [up_slot (by decide), up_slot (by decide), up_cell (by decide), t3_o (by decide)]
  unfold rf_t2
  by_cases h : x < 0
  · rw [if_pos h, up_same, pb_pos h]
  · rw [if_neg h, pb_neg h, Int.add_zero]
theorem m2_32 : m2 A x c 8 32 = A 8 32 + pb_z (0 < A 8 33 ∧ A 27 ((A 8 33 - 1) % 64).toNat ≠ c) := by
  unfold m2 rf_t4
  rw [up_slot (by decide), up_slot (by decide), up_cell (by decide)]
  unfold rf_t3
  rw [t2_o (by omega), t2_o (by omega), t2_o (by omega)]
  by_cases h : 0 < A 8 33 ∧ A 27 ((A 8 33 - 1) % 64).toNat ≠ c
  · rw [if_pos h, up_same, pb_pos h]
  · rw [if_neg h, t2_o (by decide), pb_neg h, Int.add_zero]
theorem m2_27 (k : Nat) : m2 A x c 27 k = if k = (A 8 33 % 64).toNat then c else A 27 k := by
  unfold m2 rf_t4
  rw [up_cell (by decide), up_cell (by decide), up_if, t3_o (by decide), t2_o (by decide), t3_o (by omega), t2_o (by omega)]
end NT
section TK
variable {I J : sp_I}
theorem tick_rl (h : rl I J) (hn : I 5 1 ≤ 150000) : rl (cl_mt I) (rf_mt J) ∧ cl_ok I ∧ rf_ok J ∧ cl_mt I 5 1 = I 5 1 + 1 ∧ cl_mt I 0 7 + cl_mt I 3 8 = I 0 7 + I 3 8 + rf_tf J ∧ cl_mt I 0 6 = I 0 6 ∧ cl_mt I 0 5 = I 0 5 := by
  have hr := run_core h hn
  have h' := rl_split.1 h
  obtain ⟨hR, hRJ, hc, hm, hC, h5⟩ := h'
  obtain ⟨rc, aR, bR, a56, a6, b8, b2, hs, ec, ex, e04, hcr⟩ := hr
  have M2 : cl_m2 I = n2 (cl_m1 I) (cl_c I) := rfl
  have N2 : rf_m2 J = m2 (rf_t1 J) (rf_ch J) (cl_c I) := by rw [ec]; rfl
  have a51 : cl_m1 I 5 1 = I 5 1 := a56 5 1 (by omega)
  have a52 : cl_m1 I 5 2 = I 5 2 := a56 5 2 (by omega)
  have a53 : cl_m1 I 5 3 = I 5 3 := a56 5 3 (by omega)
  have b9 := b8 9 (by omega)
  have b31 := b8 31 (by omega)
  have b32 := b8 32 (by omega)
  have b33 := b8 33 (by omega)
  obtain ⟨⟨q1, q2, q3, q4⟩, q5, q6, q7⟩ := hC
  have en1 : sp_n (cl_m1 I) = sp_n I := by unfold sp_n; rw [e04 4 (by omega)]
  have hrcA := rc
  obtain ⟨cS, cV, cK, cA, cZ, -⟩ := hrcA
  have hn6 := rl_n6 cS
  generalize hA : cl_m1 I = A at *
  generalize hB : rf_t1 J = B at *
  have p0 := pb_rng (cl_c I = 0)
  have p1 := pb_rng (0 < A 5 1 ∧ A 6 ((A 5 1 - 1) % 64).toNat ≠ cl_c I)
  have G0 := rl_G h
  have G1 : cl_G A := G_of aR rc (by omega) (by omega) (by omega) (fun j hj => by rw [a6]; have := hm.1 j (by omega); omega)
  have n2R : sp_R (n2 A (cl_c I)) := fun u v => by
    by_cases u6 : u = 6
    · subst u6
      rw [n2_6]
      split
      · omega
      · exact aR 6 v
    · by_cases u5 : u = 5 ∧ (v = 1 ∨ v = 2 ∨ v = 3)
      · obtain ⟨rfl, z⟩ := u5
        rcases z with rfl | rfl | rfl
        · rw [n2_1]; omega
        · rw [n2_2]; omega
        · rw [n2_3]; omega
      · rw [n2_o ⟨u6, u5⟩]; exact aR u v
  have en2 : sp_n (n2 A (cl_c I)) = sp_n A := by unfold sp_n; rw [n2_o (by decide)]
  have rc2 : rlc (n2 A (cl_c I)) B (I 5 1 + 1) := by
    rw [rlc_co (I := A) (J := B) (fun u v q => n2_o (by omega)) (fun u v q => rfl)]
    exact rc
  have G2 : cl_G (n2 A (cl_c I)) := G_of n2R rc2 (by omega) (by rw [n2_1]; omega) (by rw [n2_2]; omega) (fun j hj => by rw [n2_o (by unfold ad_t; omega), a6]; have := hm.1 j (by omega); omega)
  have m2R : sp_R (m2 B (rf_ch J) (cl_c I)) := fun u v => by
    have p2 := pb_rng (rf_ch J < 0)
    have p3 := pb_rng (0 < B 8 33 ∧ B 27 ((B 8 33 - 1) % 64).toNat ≠ cl_c I)
    by_cases u6 : u = 27
    · subst u6
      rw [m2_27]
      split
      · omega
      · exact bR 27 v
    · by_cases u5 : u = 8 ∧ (v = 9 ∨ v = 31 ∨ v = 32 ∨ v = 33)
      · obtain ⟨rfl, z⟩ := u5
        rcases z with rfl | rfl | rfl | rfl
        · rw [m2_9]; omega
        · rw [m2_31]; omega
        · rw [m2_32]; omega
        · rw [m2_33]; omega
      · rw [m2_o ⟨u6, u5⟩]; exact bR u v
  have h25 : ∀ i, i < 6 → 0 ≤ J 25 i ∧ J 25 i ≤ I 5 1 := fun i hi => by
    by_cases q : i < sp_n I
    · have := hm.1 i q; omega
    · have := hm.2 i (by omega) hi; omega
  have rn2 : rf_n (m2 B (rf_ch J) (cl_c I)) = sp_n A := by
    rw [← rl_n cS]; unfold rf_n; rw [m2_o (by decide)]
  have eT : cl_mt I = cl_nm (n2 A (cl_c I)) (sp_n A) := by unfold cl_mt; rw [M2, en2]
  have eU : rf_mt J = rf_tm (m2 B (rf_ch J) (cl_c I)) (sp_n A) := by unfold rf_mt; rw [N2, rn2]
  have tR : sp_R (cl_nm (n2 A (cl_c I)) (sp_n A)) := cl_nm_R n2R G2.2.2.2.2.2.2.2.2.1 _ (by omega)
  have uR : sp_R (rf_tm (m2 B (rf_ch J) (cl_c I)) (sp_n A)) := rf_tm_R m2R (fun i hi => by rw [m2_o (by omega), b2 25 i (by omega)]; have := h25 i hi; omega) _ (by omega)
  have to : ∀ u v, (v ≠ 6 ∨ ∀ k, u ≠ ad_t k) → u ≠ 6 → ¬ (u = 5 ∧ (v = 1 ∨ v = 2 ∨ v = 3)) → cl_nm (n2 A (cl_c I)) (sp_n A) u v = A u v := fun u v a b c => by rw [nm_o a, n2_o ⟨b, c⟩]
  have uo : ∀ u v, u ≠ 25 → u ≠ 27 → ¬ (u = 8 ∧ (v = 9 ∨ v = 31 ∨ v = 32 ∨ v = 33)) → rf_tm (m2 B (rf_ch J) (cl_c I)) (sp_n A) u v = B u v := fun u v a b c => by rw [rf_tm_out a, m2_o ⟨b, c⟩]
  have n5 : ∀ v, v = 1 ∨ v = 2 ∨ v = 3 → cl_nm (n2 A (cl_c I)) (sp_n A) 5 v = n2 A (cl_c I) 5 v := fun v _ => nm_o (Or.inl (by omega))
  have n6 : ∀ v, cl_nm (n2 A (cl_c I)) (sp_n A) 6 v = n2 A (cl_c I) 6 v := fun v => nm_o (Or.inr (fun k => by unfold ad_t; omega))
  have ent : sp_n (cl_nm (n2 A (cl_c I)) (sp_n A)) = sp_n A := by show (cl_nm (n2 A (cl_c I)) (sp_n A) 0 4).toNat = (A 0 4).toNat; rw [to 0 4 (by omega) (by decide) (by decide)]
  have e51 : cl_nm (n2 A (cl_c I)) (sp_n A) 5 1 = I 5 1 + 1 := by rw [n5 1 (by omega), n2_1, a51]
  refine ⟨?_, ?_, ?_, ?_, ?_, ?_, ?_⟩
  · rw [eT, eU]
    refine rl_split.2 ⟨tR, uR, ?_, ⟨fun j hj => ?_, fun j p q => ?_⟩, ⟨⟨?_, ?_, ?_, ?_⟩, ?_, ?_, fun k hk => ?_⟩, by rw [e51]; omega, by rw [e51]; omega⟩
    · rw [e51, rlc_co (I := A) (J := B) (fun u v q => to u v (by
        rcases q.2 with z | z | z
        · exact Or.inl z
        · exact Or.inr (fun k => by unfold ad_t; omega)
        · exact Or.inr (fun k => by unfold ad_t; omega)) (by omega) (by omega)) (fun u v q => uo u v (by omega) (by omega) (by omega))]
      exact rc
    · rw [ent] at hj
      have hjJ := (cA j hj).1
      have eqv : (j < sp_n A ∧ cl_pend (n2 A (cl_c I)) j ∧ n2 A (cl_c I) (ad_j j) 4 = n2 A (cl_c I) 5 1) ↔ (j < sp_n A ∧ m2 B (rf_ch J) (cl_c I) 17 j = 1 ∧ m2 B (rf_ch J) (cl_c I) 18 j + m2 B (rf_ch J) (cl_c I) 10 j = m2 B (rf_ch J) (cl_c I) 8 9) := by
        have pe : cl_pend (n2 A (cl_c I)) j ↔ cl_pend A j := by unfold cl_pend; rw [n2_o (by unfold ad_j; omega), n2_o (by unfold ad_j; omega)]
        rw [pe, rl_pend hjJ, n2_o (by unfold ad_j; omega), n2_1, m2_o (by omega), m2_o (by omega), m2_o (by omega), m2_9, b9, a51, q1]
        constructor
        · rintro ⟨a, b, c⟩
          have := (rl_pend hjJ).2 b
          unfold cl_pend at this
          have d := hjJ.2.2.2.1 (by have := hjJ.2.1; omega)
          exact ⟨a, b, by omega⟩
        · rintro ⟨a, b, c⟩
          have := (rl_pend hjJ).2 b
          unfold cl_pend at this
          have d := hjJ.2.2.2.1 (by have := hjJ.2.1; omega)
          exact ⟨a, b, by omega⟩
      have z := pb_rng (j < sp_n A ∧ cl_pend (n2 A (cl_c I)) j ∧ n2 A (cl_c I) (ad_j j) 4 = n2 A (cl_c I) 5 1)
      have mj := hm.1 j (by omega)
      rw [nm_6, tm_25, ← pb_iff eqv, n2_o (by unfold ad_t; omega), m2_o (by omega), b2 25 j (by omega), a6, e51]
      exact ⟨by rw [mj.1], by omega, by omega⟩
    · rw [ent] at p
      rw [tm_25, pb_neg (fun z => by omega), m2_o (by omega), b2 25 j (by omega), hm.2 j (by omega) q]
      rfl
    · rw [e51, rf_tm_out (by decide), m2_9, b9, q1]
    · rw [e51, rf_tm_out (by decide), m2_33, b33, q2]
    · rw [n5 2 (by omega), n2_2, a52, rf_tm_out (by decide), m2_31, b31, q3, pb_iff ex]
    · rw [n5 3 (by omega), n2_3, a53, rf_tm_out (by decide), m2_32, b32, q4]
      congr 1
      rw [a51, a56 6 _ (by omega), b33, b2 27 _ (by omega), ← q2]
      refine pb_iff ?_
      by_cases z : 0 < I 5 1
      · rw [q7 ((I 5 1 - 1) % 64).toNat (by omega)]
      · exact ⟨fun y => absurd y.1 z, fun y => absurd y.1 z⟩
    · rw [e51, n5 2 (by omega), n2_2]; omega
    · rw [e51, n5 3 (by omega), n2_3]; omega
    · rw [n6, n2_6, rf_tm_out (by decide), m2_27, a51, b33, ← q2, a56 6 k (by omega), b2 27 k (by omega), q7 k hk]
  · exact ⟨G0, by rw [hA]; exact G1, by rw [M2]; exact G2, fun i hi => rj_G h hi hn⟩
  · have hW0 := W_of hc (by omega)
    have hW1 := W_of rc (by omega)
    have hB0 := B_of hc (by omega)
    have b25 : ∀ i, i < 6 → 0 ≤ B 25 i ∧ B 25 i ≤ 1000000 := fun i hi => by rw [b2 25 i (by omega)]; have := h25 i hi; omega
    have N3B : rf_N3 B := ⟨bR, hW1, by omega, by omega, by omega, by omega, b25⟩
    have K28 := h.2.2.2.2.2.1.2.2.2.2.2.2
    have K30 := h.2.2.2.2.2.1.2.2.2.1.2
    have K07 := h.2.2.2.2.2.1.2.2.2.2.2.1
    have N3t2 : ∀ x, rf_N3 (rf_t2 B x) ∧ rf_t2 B x 8 32 = B 8 32 := fun x => by
      refine ⟨?_, t2_o (by decide)⟩
      unfold rf_t2
      split
      · refine ⟨sp_Rup bR (by omega), rf_W_congr (fun u v q => by unfold up_I; rw [if_neg (by omega)]) hW1, ?_, ?_, ?_, ?_, fun i hi => ?_⟩
        · rw [up_slot (by decide)]; omega
        · rw [up_same]; omega
        · rw [up_slot (by decide)]; omega
        · rw [up_slot (by decide)]; omega
        · rw [up_cell (by decide)]; exact b25 i hi
      · exact N3B
    refine ⟨⟨hRJ, hW0, by omega, by omega, by omega, by omega, fun i hi => by have := h25 i hi; omega⟩, hB0.1, by rw [hB]; exact N3B, fun x => by rw [hB]; exact (N3t2 x).1, fun x c => ?_, hB0.2, by omega, by omega, fun x6 => ?_⟩
    · rw [hB]
      obtain ⟨⟨t1, t2, t3, t4, t5, t6, t7⟩, t8⟩ := N3t2 x
      unfold rf_t3
      split
      · refine ⟨sp_Rup t1 (by omega), rf_W_congr (fun u v q => by unfold up_I; rw [if_neg (by omega)]) t2, ?_, ?_, ?_, ?_, fun i hi => ?_⟩
        · rw [up_slot (by decide)]; omega
        · rw [up_slot (by decide)]; omega
        · rw [up_same]; omega
        · rw [up_slot (by decide)]; omega
        · rw [up_cell (by decide)]; exact t7 i hi
      · exact ⟨t1, t2, t3, t4, t5, t6, t7⟩
    · rcases ch_eq h with ⟨c0, x0⟩ | ⟨c1, _, hw⟩ | ⟨i, ci, xi, hi⟩
      · omega
      · obtain ⟨-, hV, -⟩ := hc
        obtain ⟨⟨v1, v2, v3, v4, v5, v6, v7, v8, v9⟩, ⟨x1, x2, x3, x4, x5, x6, x7⟩, -, xj, -⟩ := hV
        have := xj 0 (by decide)
        exact ⟨by omega, by omega, by omega, by omega⟩
      · have := rl_n6 h.2.2.1
        have := hi.1
        omega
  · rw [eT]; exact e51
  · rw [eT, to 0 7 (by omega) (by decide) (by decide), to 3 8 (by omega) (by decide) (by decide)]; exact hs
  · rw [eT, to 0 6 (Or.inr (fun k => by unfold ad_t; omega)) (by decide) (by decide)]
    exact e04 6 (by omega)
  · rw [eT, to 0 5 (by omega) (by decide) (by decide)]
    exact e04 5 (by omega)
end TK
