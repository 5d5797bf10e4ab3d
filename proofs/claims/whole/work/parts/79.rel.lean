/-! the values behind a job's tick -/
section TV
variable {I J : sp_I} {i : Nat}
/-- the run alone -/
def i1 (I : sp_I) (i : Nat) : sp_I := up_I I (ad_j i) 2 (I (ad_j i) 2 + 1)
theorem any_co {A B : sp_I} {i : Nat} (hj : ∀ v, v = 1 ∨ v = 2 → A (ad_j i) v = B (ad_j i) v) (ht : A (ad_t i) 5 = B (ad_t i) 5) (h4 : sp_c B i ≤ 4) (hs : ∀ k v, k < 4 → A (ad_s i k) v = B (ad_s i k) v) : cl_any A i ↔ cl_any B i := by
  have ec : sp_c A i = sp_c B i := by unfold sp_c; rw [ht]
  unfold cl_any
  rw [ec]
  have hh : ∀ k, k < 4 → (cl_held A i k ↔ cl_held B i k) := fun k hk => by unfold cl_held cl_pend; rw [hj 1 (by omega), hj 2 (by omega), hs k 1 hk, hs k 2 hk]
  exact ⟨fun ⟨k, a, b⟩ => ⟨k, a, (hh k (by omega)).1 b⟩, fun ⟨k, a, b⟩ => ⟨k, a, (hh k (by omega)).2 b⟩⟩
theorem rj_s (k v : Nat) (j : Nat) (hk : k < 4) : cl_rj I i (ad_s j k) v = I (ad_s j k) v := cl_rj_out (by unfold ad_s ad_j; omega) (by unfold ad_s ad_t; omega) (by unfold ad_s; omega)
theorem rj_t (j v : Nat) (h : v ≠ 7 ∧ v ≠ 8 ∧ v ≠ 9) : cl_rj I i (ad_t j) v = I (ad_t j) v := cl_rj_out (by unfold ad_t ad_j; omega) (by omega) (by unfold ad_t; omega)
theorem rj_t' (j v : Nat) (h : j ≠ i) : cl_rj I i (ad_t j) v = I (ad_t j) v := cl_rj_out (by unfold ad_t ad_j; omega) (fun z => h (ad_tt z.1)) (by unfold ad_t; omega)
theorem rj_j (j v : Nat) (h : v ≠ 2) : cl_rj I i (ad_j j) v = I (ad_j j) v := cl_rj_out (by omega) (by unfold ad_t ad_j; omega) (by unfold ad_j; omega)
theorem rj_c (j v : Nat) : cl_rj I i (ad_c j) v = I (ad_c j) v := cl_rj_out (by unfold ad_c ad_j; omega) (by unfold ad_t ad_c; omega) (by unfold ad_c; omega)
theorem rj_0 (u v : Nat) (hu : u < 32) (h : ¬ (u = 0 ∧ v = 7)) : cl_rj I i u v = I u v := cl_rj_out (by unfold ad_j; omega) (by unfold ad_t; omega) h
theorem rj_j2 (j : Nat) : cl_rj I i (ad_j j) 2 = I (ad_j j) 2 + pb_z (j = i) := by
  by_cases e : j = i
  · subst e
    rw [pb_pos rfl]
    have : cl_rt I j (ad_j j) 2 = I (ad_j j) 2 + 1 := by unfold cl_rt; rw [up_cell (fun z => ad_tj z.symm), up_cell (fun z => ad_tj z.symm), up_same]
    unfold cl_rj
    split
    · exact this
    · rw [up_cell (fun z => ad_tj z.symm), up_cell (by unfold ad_j; omega)]; exact this
  · rw [pb_neg e, Int.add_zero]
    exact cl_rj_out (fun z => e (ad_jj z.1)) (by unfold ad_t ad_j; omega) (by unfold ad_j; omega)
theorem rj_8 : cl_rj I i (ad_t i) 8 = I (ad_t i) 8 + pb_z (¬ cl_any I i ∧ cl_any (i1 I i) i) := by
  have : cl_rt I i (ad_t i) 8 = I (ad_t i) 8 + pb_z (¬ cl_any I i ∧ cl_any (i1 I i) i) := by unfold cl_rt i1; rw [up_slot (by decide), up_same]
  unfold cl_rj
  split
  · exact this
  · rw [up_slot (by decide), up_cell (by unfold ad_t; omega)]; exact this
theorem rj_9 : cl_rj I i (ad_t i) 9 = pb_z (cl_any I i ∨ cl_any (i1 I i) i) * (I (ad_t i) 8 + pb_z (¬ cl_any I i ∧ cl_any (i1 I i) i)) := by
  have : cl_rt I i (ad_t i) 9 = pb_z (cl_any I i ∨ cl_any (i1 I i) i) * (I (ad_t i) 8 + pb_z (¬ cl_any I i ∧ cl_any (i1 I i) i)) := by unfold cl_rt i1; rw [up_same]
  unfold cl_rj
  split
  · exact this
  · rw [up_slot (by decide), up_cell (by unfold ad_t; omega)]; exact this
theorem rt_pend : cl_pend (cl_rt I i) i ↔ I (ad_j i) 2 + 1 < I (ad_j i) 1 := by
  unfold cl_pend cl_rt
  rw [up_cell (fun z => ad_tj z.symm), up_cell (fun z => ad_tj z.symm), up_same, up_cell (fun z => ad_tj z.symm), up_cell (fun z => ad_tj z.symm), up_slot (by decide)]
theorem rj_07 (h : I (ad_j i) 2 < I (ad_j i) 1) : cl_rj I i 0 7 = I 0 7 + pb_z (I (ad_j i) 2 + 1 = I (ad_j i) 1) := by
  have e : cl_rt I i 0 7 = I 0 7 := cl_rt_out (by unfold ad_j; omega) (by unfold ad_t; omega)
  unfold cl_rj
  by_cases p : cl_pend (cl_rt I i) i
  · rw [if_pos p, e, pb_neg (by have := rt_pend.1 p; omega), Int.add_zero]
  · rw [if_neg p, up_cell (by unfold ad_t; omega), up_same, e, pb_pos (by have q : ¬ (I (ad_j i) 2 + 1 < I (ad_j i) 1) := fun z => p (rt_pend.2 z); omega)]
theorem rj_7 (h : I (ad_j i) 2 < I (ad_j i) 1) (j : Nat) : (j = i ∧ I (ad_j i) 2 + 1 = I (ad_j i) 1 → cl_rj I i (ad_t j) 7 = max (I (ad_t i) 7) (I 5 1 + 1 - I (ad_j i) 3)) ∧ (¬ (j = i ∧ I (ad_j i) 2 + 1 = I (ad_j i) 1) → cl_rj I i (ad_t j) 7 = I (ad_t j) 7) := by
  have e1 : cl_rt I i (ad_t i) 7 = I (ad_t i) 7 := cl_rt_out (by unfold ad_j ad_t; omega) (by omega)
  have e2 : cl_rt I i 5 1 = I 5 1 := cl_rt_out (by unfold ad_j; omega) (by unfold ad_t; omega)
  have e3 : cl_rt I i (ad_j i) 3 = I (ad_j i) 3 := cl_rt_out (by omega) (by unfold ad_t ad_j; omega)
  constructor
  · rintro ⟨rfl, o⟩
    unfold cl_rj
    rw [if_neg (fun p => by have := rt_pend.1 p; omega), up_same, e1, e2, e3]
  · intro o
    by_cases e : j = i
    · subst e
      unfold cl_rj
      rw [if_pos (rt_pend.2 (by omega)), e1]
    · exact rj_t' j 7 e
theorem tv_cl (h : rl I J) (hc : ch_i I i) (e : cl_c I = 2 + i) : tv_c I (cl_m1 I) i (fun j => j < sp_n I ∧ bk I i j) (¬ cl_any I i ∧ cl_any (cl_m1 I) i) (I (ad_j i) 2 + 1 = I (ad_j i) 1) ∧ (cl_any (cl_m1 I) i ↔ cl_any (i1 I i) i) := by
  obtain ⟨hi, hpi, hF1, hN1⟩ := hc
  obtain ⟨-, -, hS, hV, -, hK, hA, hZ, hD, hF, h1, h2⟩ := h
  have h4 := (cl_cnt (hS.2.1 i hi).2.2.1).2
  have hP := (hA i hi).2.2
  have ec : (cl_c I - 2).toNat = i := by omega
  have any1 : cl_any (cl_rj I i) i ↔ cl_any (i1 I i) i := any_co (fun v hv => by
    rcases hv with rfl | rfl
    · rw [rj_j i 1 (by decide)]; unfold i1; rw [up_slot (by decide)]
    · rw [rj_j2, pb_pos rfl]; unfold i1; rw [up_same]) (by rw [rj_t i 5 (by decide)]; unfold i1; rw [up_cell ad_tj]) (by unfold sp_c i1; rw [up_cell ad_tj]; exact h4) (fun k v hk => by rw [rj_s k v i hk]; unfold i1; rw [up_cell (by unfold ad_s ad_j; omega)])
  unfold cl_pend at hpi
  have b9 : ∀ j, j < sp_n I → 0 ≤ cl_rj I i (ad_t j) 9 ∧ cl_rj I i (ad_t j) 9 ≤ I 5 1 + 1 := fun j hj => by
    by_cases ej : j = i
    · subst ej
      rw [rj_9]
      have z1 := pb_rng (¬ cl_any I j ∧ cl_any (i1 I j) j)
      rcases pb_01 (cl_any I j ∨ cl_any (i1 I j) j) with z | z
      · rw [z, Int.zero_mul]; have := hK.2.1; omega
      · rw [z, Int.one_mul]; have := hP.1; omega
    · rw [rj_t' j 9 ej]; have := (hA j hj).2.2.2.1; omega
  have rj8 : ∀ j, cl_rj I i (ad_t j) 8 = I (ad_t j) 8 + pb_z (j = i ∧ ¬ cl_any I i ∧ cl_any (i1 I i) i) := fun j => by
    by_cases ej : j = i
    · subst ej
      rw [rj_8]
      congr 1
      exact pb_iff ⟨fun z => ⟨rfl, z⟩, fun z => z.2⟩
    · rw [rj_t' j 8 ej, pb_neg (fun z => ej z.1), Int.add_zero]
  by_cases cf : cl_c I = cl_f I
  · have em : cl_m1 I = cl_rj I i := by
      unfold cl_m1
      rw [if_neg (by omega), if_neg (by omega), if_pos cf, ec]
    rw [em]
    have nb : ∀ j, ¬ (j < sp_n I ∧ bk I i j) := fun j z => (hF1 cf).1 j z.1 z.2.1 z.2.2
    refine ⟨⟨⟨?_, ?_, ?_, rj_07 hpi⟩, ?_, ?_, ?_, ?_, rj_j2, ?_, ?_, ?_, ?_, b9, rj_7 hpi⟩, any1⟩
    · exact rj_0 0 4 (by decide) (by decide)
    · exact rj_0 0 5 (by decide) (by decide)
    · exact rj_0 0 6 (by decide) (by decide)
    · exact fun v => rj_0 2 v (by decide) (by omega)
    · exact fun j v hv => rj_t j v (by omega)
    · exact fun j k v hk => rj_s k v j hk
    · exact fun j v hv => rj_j j v (by omega)
    · exact fun j => by rw [rj_j j 6 (by decide), pb_neg (nb j), Int.add_zero]
    · exact fun j => by rw [rj_j j 5 (by decide), pb_neg (fun z => nb j z.1), Int.add_zero]
    · exact fun j r => ⟨fun z => absurd z.1 (nb j), fun _ => rj_c j r⟩
    · intro j
      rw [rj8, any1]
  · have ca := (hN1 cf).1
    have sp := hP.2.2.1 ca
    have em : cl_m1 I = cl_nb (cl_rj I i) (2 + i) (sp_n I) := by
      unfold cl_m1
      rw [if_neg (by omega), if_neg (by omega), if_neg cf, ec, e, show sp_n (cl_rj I i) = sp_n I by unfold sp_n; rw [rj_0 0 4 (by decide) (by decide)]]
    have s9 : cl_rj I i (ad_t i) 9 = I (ad_t i) 8 := by
      rw [rj_9, pb_pos (Or.inl ca), pb_neg (fun z => z.1 ca), Int.one_mul, Int.add_zero]
    have bkk : ∀ j, bk (cl_rj I i) i j ↔ bk I i j := fun j => by
      unfold bk cl_pend
      rw [bf_j, bf_j, rj_j j 1 (by decide), rj_j j 4 (by decide), rj_j i 4 (by decide), rj_j2]
      by_cases ej : j = i
      · subst ej; constructor <;> (rintro ⟨_, z⟩; omega)
      · rw [pb_neg ej, Int.add_zero]
    have dd : ∀ j, j < sp_n I ∧ bk I i j → (I (ad_c j) i = 0 ∨ I (ad_c j) i = I (ad_t i) 8) := fun j z => by
      obtain ⟨k, hk, hh⟩ := ca
      exact (hD j i z.1 hi z.2.1 (rl_hbg hS hi hk hh) z.2.2).1
    rw [em]
    have any2 : cl_any (cl_nb (cl_rj I i) (2 + i) (sp_n I)) i ↔ cl_any (cl_rj I i) i := any_co (fun v hv => nb_j _ i v (by omega)) (nb_t _ i 5) (by unfold sp_c; rw [rj_t i 5 (by decide)]; exact h4) (fun k v hk => nb_out (fun q _ => ⟨by unfold ad_s ad_c; omega, by unfold ad_s ad_j; omega⟩))
    refine ⟨⟨⟨?_, ?_, ?_, ?_⟩, ?_, ?_, ?_, ?_, ?_, ?_, ?_, ?_, ?_, ?_, ?_⟩, any2.trans any1⟩
    · rw [cl_nb_04 (by decide)]; exact rj_0 0 4 (by decide) (by decide)
    · rw [cl_nb_04 (by decide)]; exact rj_0 0 5 (by decide) (by decide)
    · rw [cl_nb_04 (by decide)]; exact rj_0 0 6 (by decide) (by decide)
    · rw [cl_nb_04 (by decide)]; exact rj_07 hpi
    · intro v; rw [cl_nb_04 (by decide)]; exact rj_0 2 v (by decide) (by omega)
    · intro j v hv; rw [nb_t]; exact rj_t j v (by omega)
    · intro j k v hk; rw [nb_out (fun q _ => ⟨by unfold ad_s ad_c; omega, by unfold ad_s ad_j; omega⟩)]; exact rj_s k v j hk
    · intro j v hv; rw [nb_j _ j v (by omega)]; exact rj_j j v (by omega)
    · intro j; rw [nb_j _ j 2 (by decide)]; exact rj_j2 j
    · intro j
      rw [nb_6, rj_j j 6 (by decide)]
      congr 1
      exact pb_iff ⟨fun z => ⟨z.1, (bkk j).1 z.2⟩, fun z => ⟨z.1, (bkk j).2 z.2⟩⟩
    · intro j
      rw [nb_5, rj_j j 5 (by decide), s9, rj_c]
      congr 1
      refine pb_iff ⟨fun z => ⟨⟨z.1, (bkk j).1 z.2.1⟩, ?_⟩, fun z => ⟨z.1.1, (bkk j).2 z.1.2, by omega, by omega⟩⟩
      have z3 := z.2.2.2
      rcases dd j ⟨z.1, (bkk j).1 z.2.1⟩ with y | y
      · exact y
      · exact absurd y z3
    · intro j r
      rw [nb_c, s9, rj_c]
      constructor
      · intro z
        rw [if_pos ⟨z.1.1, (bkk j).2 z.1.2, by omega, z.2⟩]
      · intro z
        rw [if_neg (fun y => z ⟨⟨y.1, (bkk j).1 y.2.1⟩, y.2.2.2⟩)]
    · intro j
      rw [nb_t, rj8, any2, any1]
    · intro j hj; rw [nb_t]; exact b9 j hj
    · intro j; rw [nb_t]; exact rj_7 hpi j
end TV
