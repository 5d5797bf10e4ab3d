/-! bounds from the relation; misses -/
theorem rlV_co {I I' J J' : sp_I} {t : Int} (e3 : ∀ v, I' 3 v = I 3 v) (e4 : ∀ v, I' 4 v = I 4 v) (f : ∀ v, v = 10 ∨ v = 11 ∨ v = 12 ∨ v = 13 ∨ v = 14 ∨ v = 16 ∨ v = 17 → J' 8 v = J 8 v) (f16 : ∀ v, J' 16 v = J 16 v) : rl_V I' J' t ↔ rl_V I J t := by
  unfold rl_V cl_V cl_nd
  simp (disch := omega) only [e3, e4, f, f16]
section BD
variable {I J : sp_I} {t : Int}
theorem G_of (hR : sp_R I) (h : rlc I J t) (ht : t ≤ 1000000) (h51 : 0 ≤ I 5 1 ∧ I 5 1 ≤ 1000000) (h52 : 0 ≤ I 5 2 ∧ I 5 2 ≤ 1000000) (h6 : ∀ j, j < sp_n I → 0 ≤ I (ad_t j) 6 ∧ I (ad_t j) 6 ≤ 1000000) : cl_G I := by
  obtain ⟨hS, hV, ⟨k1, k2, k3, k4, k5⟩, hA, hr⟩ := h
  refine ⟨hR, hS.1.1, rl_TS hS, hV.1, h51, h52, by omega, rl_cP hS, fun i hi v => ?_, fun i hi => ?_⟩
  · obtain ⟨⟨⟨a1, a2, a3, a4, a5⟩, b, c17, d4, e18, f21⟩, -, ⟨p1, p2, p3, p4, p5, p6⟩⟩ := hA i hi
    have cn := pf_cnt_rng (fun x => I (ad_c i) x ≠ 0) 6
    constructor
    · rintro (rfl | rfl | rfl)
      · omega
      · omega
      · omega
    · rintro (rfl | rfl | rfl)
      · exact h6 i hi
      · omega
      · omega
  · have := (hA i hi).1.2.2.2.2.1
    have := (hA i hi).1.1.2.2.1
    omega
theorem W_of (h : rlc I J t) (ht : t ≤ 1000000) : rf_W J := by
  obtain ⟨hS, hV, -, hA, hZ, -⟩ := h
  have hn := rl_n6 hS
  refine ⟨by rw [hS.1.2]; exact hS.1.1, fun i hi => ?_, hS.2.2.2.1⟩
  by_cases q : i < sp_n I
  · have t1 := (hS.2.1 i q).1
    have t2 := (hS.2.1 i q).2.1
    have t3 := (hS.2.1 i q).2.2.1
    have j := (hA i q).1.2.2.2.2.1
    unfold cl_S at t3
    omega
  · have z := hS.2.2.1 i (by omega) hi
    have y := (hZ i (by omega) hi).2.1
    omega
theorem B_of (h : rlc I J t) (ht : t ≤ 1000000) : rf_B J ∧ ∀ i, i < 6 → 0 ≤ J 20 i ∧ J 20 i ≤ 1000000 := by
  obtain ⟨hS, hV, -, hA, hZ, -⟩ := h
  refine ⟨fun i hi => ?_, fun i hi => ?_⟩
  · by_cases q : i < sp_n I
    · obtain ⟨⟨⟨a1, a2, a3, a4, a5⟩, b, c17, d4, e18, f21⟩, -, ⟨p1, p2, p3, p4, p5, p6⟩⟩ := hA i q
      have cn := pf_cnt_rng (fun x => I (ad_c i) x ≠ 0) 6
      omega
    · obtain ⟨z1, z2, z3, z4, z5, z6, z7, z8⟩ := hZ i (by omega) hi
      omega
  · by_cases q : i < sp_n I
    · obtain ⟨⟨⟨a1, a2, a3, a4, a5⟩, b, c17, d4, e18, f21⟩, -⟩ := hA i q
      omega
    · obtain ⟨z1, z2, z3, z4, z5, z6, z7, z8⟩ := hZ i (by omega) hi
      omega
end BD
section MS
variable {K : sp_I}
theorem nm_o {q u v : Nat} (h : v ≠ 6 ∨ ∀ k, u ≠ ad_t k) : cl_nm K q u v = K u v := cl_nm_out q (fun k _ z => by
  rcases h with h | h
  · exact h z.2
  · exact h k z.1)
theorem nm_6 : ∀ q j : Nat, cl_nm K q (ad_t j) 6 = K (ad_t j) 6 + pb_z (j < q ∧ cl_pend K j ∧ K (ad_j j) 4 = K 5 1)
  | 0, j => by rw [pb_neg (by omega)]; show K (ad_t j) 6 = _; omega
  | q + 1, j => by
    have ih := nm_6 q j
    have hp : ∀ v, cl_nm K q (ad_j q) v = K (ad_j q) v := fun v => nm_o (Or.inr (fun k => by unfold ad_j ad_t; omega))
    have h5 : cl_nm K q 5 1 = K 5 1 := nm_o (Or.inl (by decide))
    have hpd : cl_pend (cl_nm K q) q ↔ cl_pend K q := by unfold cl_pend; rw [hp, hp]
    rw [cl_nm]
    by_cases e : j = q
    · subst e
      have h6 : cl_nm K j (ad_t j) 6 = K (ad_t j) 6 := cl_nm_out j (fun k hk z => by have := ad_tt z.1; omega)
      by_cases c : cl_pend K j ∧ K (ad_j j) 4 = K 5 1
      · rw [if_pos ⟨hpd.2 c.1, by rw [hp, h5]; exact c.2⟩, up_same, h6, pb_pos ⟨by omega, c⟩]
      · rw [if_neg (fun z => c ⟨hpd.1 z.1, by have := z.2; rw [hp, h5] at this; exact this⟩), h6, pb_neg (fun z => c z.2), Int.add_zero]
    · rw [show pb_z (j < q + 1 ∧ cl_pend K j ∧ K (ad_j j) 4 = K 5 1) = pb_z (j < q ∧ cl_pend K j ∧ K (ad_j j) 4 = K 5 1) from pb_iff ⟨fun z => ⟨by omega, z.2⟩, fun z => ⟨by omega, z.2⟩⟩, ← ih]
      split
      · rw [up_cell (fun z => e (ad_tt z))]
      · rfl
theorem tm_25 : ∀ q j : Nat, rf_tm K q 25 j = K 25 j + pb_z (j < q ∧ K 17 j = 1 ∧ K 18 j + K 10 j = K 8 9)
  | 0, j => by rw [pb_neg (by omega)]; show K 25 j = _; omega
  | q + 1, j => by
    have ih := tm_25 q j
    rw [rf_tm, rf_tm_out (by decide) q, rf_tm_out (by decide) q, rf_tm_out (by decide) q, rf_tm_out (by decide) q]
    by_cases e : j = q
    · subst e
      have h6 := rf_tm_at (J := K) (v := j) j (Nat.le_refl _)
      by_cases c : K 17 j = 1 ∧ K 18 j + K 10 j = K 8 9
      · rw [if_pos c, up_same, h6, pb_pos ⟨by omega, c⟩]
      · rw [if_neg c, h6, pb_neg (fun z => c z.2), Int.add_zero]
    · rw [show pb_z (j < q + 1 ∧ K 17 j = 1 ∧ K 18 j + K 10 j = K 8 9) = pb_z (j < q ∧ K 17 j = 1 ∧ K 18 j + K 10 j = K 8 9) from pb_iff ⟨fun z => ⟨by omega, z.2⟩, fun z => ⟨by omega, z.2⟩⟩, ← ih]
      split
      · rw [up_slot e]
      · rfl
end MS
