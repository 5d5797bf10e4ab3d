/-! the reference's values behind a job's tick -/
section TR
variable {I J : sp_I} {i : Nat}
theorem w2_20 (j : Nat) : rf_w2 J i 20 j = J 20 j + pb_z (j = i) := by
  have : rf_w1 J i 20 j = J 20 j + pb_z (j = i) := by
    unfold rf_w1
    rw [up_if]
    by_cases e : j = i
    · rw [if_pos e, pb_pos e, e]
    · rw [if_neg e, pb_neg e, Int.add_zero]
  unfold rf_w2
  split
  · rw [up_cell (by decide)]; exact this
  · exact this
theorem w2_17 (j : Nat) : (j = i ∧ J 20 i + 1 = J 19 i → rf_w2 J i 17 j = 2) ∧ (¬ (j = i ∧ J 20 i + 1 = J 19 i) → rf_w2 J i 17 j = J 17 j) := by
  unfold rf_w2 rf_w1
  constructor
  · rintro ⟨rfl, o⟩
    rw [if_pos o, up_same]
  · intro o
    by_cases z : J 20 i + 1 = J 19 i
    · rw [if_pos z, up_slot (fun y => o ⟨y, z⟩), up_cell (by decide)]
    · rw [if_neg z, up_cell (by decide)]
theorem w6_at (u v : Nat) (h1 : ¬ (u = 8 ∧ v = 30)) (h2 : u ≠ 26) : rf_w6 J i u v = rf_w5 J i u v := by
  unfold rf_w6
  split
  · rw [up_cell h2]
    unfold up_I
    rw [if_neg h1]
  · rfl
theorem w5_at (u v : Nat) (h : ¬ (u = 22 ∧ v = i)) : rf_w5 J i u v = rf_w4 J i u v := by
  unfold rf_w5
  split
  · rfl
  · unfold up_I
    rw [if_neg h]
theorem tv_rf (h : rl I J) (hc : ch_i I i) {I' : sp_I} (ha : cl_any I' i ↔ cl_any (i1 I i) i) : tv_r I J (rf_w6 J i) i (fun j => j < sp_n I ∧ bk I i j) (¬ cl_any I i ∧ cl_any I' i) (I (ad_j i) 2 + 1 = I (ad_j i) 1) (cl_any I' i) := by
  obtain ⟨hi, hpi, hF1, hN1⟩ := hc
  obtain ⟨-, -, hS, hV, hC, hK, hA, hZ, hD, hF, h1, h2⟩ := h
  have hn := rl_n6 hS
  have hrn := rl_n hS
  have hJ : ∀ j, j < sp_n I → rl_J I J j (I 5 1) := fun j hj => (hA j hj).1
  have h13 := hV.2.1.2.2.2.1
  have h14 := hV.2.1.2.2.2.2.1
  have hru := (hJ i hi).2.1
  have e19 := (hJ i hi).1.1
  have e20 := (hJ i hi).1.2.1
  have hp' := hpi
  unfold cl_pend at hp'
  have h17 : J 17 i = 1 := (rl_pend (hJ i hi)).1 hpi
  have hov : (J 20 i + 1 = J 19 i) ↔ (I (ad_j i) 2 + 1 = I (ad_j i) 1) := by rw [e19, e20]
  -- what is held before and behind
  have any0 : rf_any J i ↔ cl_any I i := (rl_any hS hi (hJ i hi)).symm
  have S1 : rl_S (i1 I i) (rf_w2 J i) := rlS_co (by unfold i1; rw [up_cell (by unfold ad_j; omega)]) (fun j v hv => by unfold i1; rw [up_cell ad_tj]) (fun j k v hk => by unfold i1; rw [up_cell (by unfold ad_s ad_j; omega)]) (fun v => by unfold i1; rw [up_cell (by unfold ad_j; omega)]) (fun u v q => rf_w2_out (by omega)) hS
  have n1 : sp_n (i1 I i) = sp_n I := by unfold sp_n i1; rw [up_cell (by unfold ad_j; omega)]
  have J1 : rl_J (i1 I i) (rf_w2 J i) i (I 5 1 + 1) := by
    obtain ⟨⟨a1, a2, a3, a4, a5⟩, b, c17, d4, e18, f21⟩ := hJ i hi
    have q2 : i1 I i (ad_j i) 2 = I (ad_j i) 2 + 1 := by unfold i1; rw [up_same]
    have qv : ∀ v, v ≠ 2 → i1 I i (ad_j i) v = I (ad_j i) v := fun v hv => by unfold i1; rw [up_slot hv]
    refine ⟨⟨?_, ?_, ?_, ?_, ?_⟩, ?_, ?_, ?_, ?_, ?_⟩
    · rw [qv 1 (by decide), rf_w2_out (by decide)]; exact a1
    · rw [q2, w2_20, pb_pos rfl, a2]
    · rw [qv 3 (by decide), rf_w2_out (by decide)]; exact a3
    · rw [qv 5 (by decide), rf_w2_out (by decide)]; exact a4
    · rw [qv 6 (by decide), rf_w2_out (by decide)]; exact a5
    · rw [q2, qv 1 (by decide)]; omega
    · rw [q2, qv 1 (by decide), if_neg (by omega)]
      by_cases o : J 20 i + 1 = J 19 i
      · rw [(w2_17 i).1 ⟨rfl, o⟩, if_neg (by omega)]
      · rw [(w2_17 i).2 (fun z => o z.2), h17, if_pos (by omega)]
    · rw [qv 1 (by decide), qv 4 (by decide), rf_w2_out (by decide), rf_w2_out (by decide)]; exact d4
    · rw [rf_w2_out (by decide)]; exact ⟨e18.1, by omega, fun _ => by omega⟩
    · rw [rf_w2_out (by decide)]; omega
  have any1 : rf_any (rf_w2 J i) i ↔ cl_any I' i := (rl_any S1 (by omega) J1).symm.trans ha.symm
  have nwi : (¬ rf_any J i ∧ rf_any (rf_w2 J i) i) ↔ (¬ cl_any I i ∧ cl_any I' i) := by rw [any0, any1]
  -- behind the spell's begin
  have w3_22 : ∀ j, (j = i ∧ (¬ cl_any I i ∧ cl_any I' i) → rf_w3 J i 22 j = J 8 28 + 1) ∧ (¬ (j = i ∧ (¬ cl_any I i ∧ cl_any I' i)) → rf_w3 J i 22 j = J 22 j) := fun j => by
    unfold rf_w3
    by_cases z : ¬ cl_any I i ∧ cl_any I' i
    · rw [if_pos (nwi.2 z), up_if]
      constructor
      · rintro ⟨q, -⟩; rw [if_pos q]
      · intro q
        rw [if_neg (fun y => q ⟨y, z⟩), up_cell (by decide), rf_w2_out (by decide)]
    · rw [if_neg (fun y => z (nwi.1 y)), rf_w2_out (by decide)]
      exact ⟨fun q => absurd q.2 z, fun _ => rfl⟩
  have w3_28 : rf_w3 J i 8 28 = J 8 28 + pb_z (¬ cl_any I i ∧ cl_any I' i) := by
    unfold rf_w3
    by_cases z : ¬ cl_any I i ∧ cl_any I' i
    · rw [if_pos (nwi.2 z), up_cell (by decide), up_same, pb_pos z]
    · rw [if_neg (fun y => z (nwi.1 y)), rf_w2_out (by decide), pb_neg z, Int.add_zero]
  have w3_w2 : ∀ u v, u = 17 ∨ u = 20 → rf_w3 J i u v = rf_w2 J i u v := fun u v q => by
    unfold rf_w3
    split
    · rw [up_cell (by omega), up_cell (by omega)]
    · rfl
  have w3_o : ∀ u v, u = 18 ∨ u = 10 ∨ u = 21 ∨ u = 23 ∨ u = 24 ∨ (u = 8 ∧ v = 13) → rf_w3 J i u v = J u v := fun u v q => rf_w3_out (by omega)
  have w3_w : ∀ u v, (u ≠ 21 ∧ u ≠ 23 ∧ u ≠ 24) → rf_w4 J i u v = rf_w3 J i u v := fun u v q => by
    unfold rf_w4
    exact rf_wl_out q _
  have hsb : ∀ j, j < sp_n I → (sb (rf_w3 J i) i j ↔ bk I i j) := fun j hj => by
    unfold sb bk
    have er : rf_er (rf_w3 J i) j i ↔ rf_er J j i := by
      unfold rf_er rf_dl
      rw [if_neg (by omega), if_neg (by omega), if_neg (by omega), if_neg (by omega), w3_o 18 j (by omega), w3_o 10 j (by omega), w3_o 18 i (by omega), w3_o 10 i (by omega)]
    have ti : rf_th J i := Or.inr ⟨by omega, h17⟩
    rw [er, w3_w2 17 j (by omega)]
    constructor
    · rintro ⟨a, b, c⟩
      rw [(w2_17 j).2 (fun z => a z.1)] at b
      refine ⟨(rl_pend (hJ j hj)).2 b, ?_⟩
      have := (od_er hS h13 hJ (Or.inl hj) (Or.inl hi) (Or.inr ⟨by omega, b⟩) ti).1 c
      rw [od_cn (by omega), od_cn (by omega)] at this
      exact this
    · rintro ⟨a, b⟩
      have ji : j ≠ i := by rintro rfl; exact bf_irr I b
      have a' := (rl_pend (hJ j hj)).1 a
      refine ⟨ji, by rw [(w2_17 j).2 (fun z => ji z.1)]; exact a', ?_⟩
      refine (od_er hS h13 hJ (Or.inl hj) (Or.inl hi) (Or.inr ⟨by omega, a'⟩) ti).2 ?_
      rw [od_cn (by omega), od_cn (by omega)]
      exact b
  have h23 : ∀ j, j < 6 → 0 ≤ J 23 j ∧ J 23 j ≤ 6 := fun j hj => by
    by_cases q : j < sp_n I
    · have := pf_cnt_rng (fun x => I (ad_c j) x ≠ 0) 6
      rw [(hA j q).2.2.2.2.2.2.2]
      omega
    · have := (hZ j (by omega) hj).2.2.2.2.2.2.1
      omega
  have h23' : ∀ j, j < 6 → 0 ≤ rf_w3 J i 23 j ∧ rf_w3 J i 23 j ≤ 60 := fun j hj => by rw [w3_o 23 j (by omega)]; have := h23 j hj; omega
  have hBA : ∀ j, j < sp_n I ∧ bk I i j → cl_any I i := fun j z => by
    by_cases e : cl_c I = cl_f I
    · exact absurd z.2.2 ((hF1 e).1 j z.1 z.2.1)
    · exact (hN1 e).1
  have hsa : ∀ j, j < sp_n I → bk I i j → (sa (rf_w3 J i) i j ↔ I (ad_c j) i = 0) := fun j hj b => by
    have ca := hBA j ⟨hj, b⟩
    have sp := (hA i hi).2.2.2.2.1 ca
    obtain ⟨k, hk, hh⟩ := ca
    obtain ⟨d1, d2⟩ := hD j i hj hi b.1 (rl_hbg hS hi hk hh) b.2
    have d2 := d2 sp.2
    have k23 := h23 j (by omega)
    unfold sa
    rw [(w3_22 i).2 (fun z => z.2.1 ⟨k, hk, hh⟩), w3_o 23 j (by omega)]
    have e24 : (∃ k, k < (J 23 j).toNat ∧ rf_w3 J i 24 (60 * j + k) = J 22 i) ↔ ∃ k, k < (J 23 j).toNat ∧ J 24 (60 * j + k) = J 22 i := by
      constructor <;> (rintro ⟨k, a, b⟩; refine ⟨k, a, ?_⟩)
      · rw [w3_o 24 _ (by omega)] at b; exact b
      · rw [w3_o 24 _ (by omega)]; exact b
    rw [e24, d2]
    constructor
    · rintro ⟨_, a, _⟩
      rcases Classical.em (I (ad_c j) i = 0) with y | y
      · exact y
      · exact absurd y a
    · intro z
      exact ⟨sp.2, fun y => y z, by omega⟩
  have eqB : ∀ j, (j < rf_n J ∧ sb (rf_w3 J i) i j) ↔ (j < sp_n I ∧ bk I i j) := fun j => by
    rw [hrn]
    exact ⟨fun z => ⟨z.1, (hsb j z.1).1 z.2⟩, fun z => ⟨z.1, (hsb j z.1).2 z.2⟩⟩
  have eqA : ∀ j, (j < rf_n J ∧ sb (rf_w3 J i) i j ∧ sa (rf_w3 J i) i j) ↔ ((j < sp_n I ∧ bk I i j) ∧ I (ad_c j) i = 0) := fun j => by
    rw [hrn]
    constructor
    · rintro ⟨a, b, c⟩
      have b' := (hsb j a).1 b
      exact ⟨⟨a, b'⟩, (hsa j a b').1 c⟩
    · rintro ⟨⟨a, b⟩, c⟩
      exact ⟨a, (hsb j a).2 b, (hsa j a b).2 c⟩
  refine ⟨⟨?_, ?_, ?_, ?_, ?_⟩, ?_, ?_, ?_, ?_, ?_, ?_, ?_, ?_, ?_, ?_, ?_⟩
  · rw [w6_at _ _ (by decide) (by decide)]; exact rf_w5_out (by decide) (by decide)
  · rw [w6_at _ _ (by decide) (by decide)]; exact rf_w5_out (by decide) (by decide)
  · rw [w6_at _ _ (by decide) (by decide)]; exact rf_w5_out (by decide) (by decide)
  · have e5 : rf_w5 J i 8 30 = J 8 30 := rf_w5_out (by decide) (by decide)
    unfold rf_w6
    by_cases o : J 20 i + 1 = J 19 i
    · rw [if_pos o, up_cell (by decide), up_same, e5, pb_pos (hov.1 o)]
    · rw [if_neg o, e5, pb_neg (fun z => o (hov.2 z)), Int.add_zero]
  · rw [w6_at _ _ (by decide) (by decide), w5_at _ _ (by omega), w3_w _ _ (by decide)]; exact w3_28
  · intro u v q
    rw [w6_at _ _ (by omega) (by omega)]; exact rf_w5_out (by omega) (by omega)
  · intro j
    rw [w6_at _ _ (by omega) (by omega), w5_at _ _ (by omega), w3_w _ _ (by decide), w3_w2 17 j (by omega), ← hov]
    exact w2_17 j
  · intro j
    rw [w6_at _ _ (by omega) (by omega), w5_at _ _ (by omega), w3_w _ _ (by decide), w3_w2 20 j (by omega)]
    exact w2_20 j
  · intro j
    rw [w6_at _ _ (by omega) (by omega), w5_at _ _ (by omega)]
    unfold rf_w4
    rw [wl_21 h23' _ j (by omega), w3_o 21 j (by omega), pb_iff (eqB j)]
  · intro j
    rw [w6_at _ _ (by omega) (by omega), w5_at _ _ (by omega)]
    unfold rf_w4
    rw [wl_23 h23' _ j (by omega), w3_o 23 j (by omega), pb_iff (eqA j)]
  · intro j k hj hk
    rw [w6_at _ _ (by omega) (by omega), w5_at _ _ (by omega)]
    unfold rf_w4
    rw [wl_li h23' _ j k (by omega) hj hk, w3_o 23 j (by omega), w3_o 24 _ (by omega)]
    constructor
    · rintro ⟨a, b⟩
      have c := (eqA j).2 a
      rw [if_pos ⟨c.1, c.2.1, c.2.2, b⟩]
      exact (w3_22 i).2 (fun z => z.2.1 (hBA j a.1))
    · intro a
      rw [if_neg (fun z => a ⟨(eqA j).1 ⟨z.1, z.2.1, z.2.2.1⟩, z.2.2.2⟩)]
  · intro j e
    rw [w6_at _ _ (by omega) (by omega), w5_at _ _ (by omega), w3_w _ _ (by decide)]
    exact (w3_22 j).2 (fun z => e z.1)
  · intro q
    rw [w6_at _ _ (by omega) (by omega)]
    unfold rf_w5
    rw [if_neg (fun z => q (any1.1 z)), up_same]
  · intro q w
    rw [w6_at _ _ (by omega) (by omega)]
    unfold rf_w5
    rw [if_pos (any1.2 q), w3_w _ _ (by decide)]
    exact (w3_22 i).1 ⟨rfl, w⟩
  · intro q w
    rw [w6_at _ _ (by omega) (by omega)]
    unfold rf_w5
    rw [if_pos (any1.2 q), w3_w _ _ (by decide)]
    exact (w3_22 i).2 (fun z => w z.2)
  · intro j
    have e26 : ∀ j, rf_w5 J i 26 j = J 26 j := fun j => rf_w5_out (by omega) (by decide)
    have e9 : rf_w5 J i 8 9 = J 8 9 := rf_w5_out (by decide) (by decide)
    have e18 : rf_w5 J i 18 i = J 18 i := rf_w5_out (by omega) (by decide)
    have n9 : J 8 9 = I 5 1 := hC.1.1.symm
    unfold rf_w6
    rw [← hov]
    constructor
    · rintro ⟨rfl, o⟩
      rw [if_pos o, up_same, e26, e9, e18, n9]
    · intro o
      by_cases z : J 20 i + 1 = J 19 i
      · rw [if_pos z, up_slot (fun y => o ⟨y, z⟩), up_cell (by decide), e26]
      · rw [if_neg z, e26]
end TR
