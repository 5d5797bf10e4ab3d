/-! what the blocking loops leave -/
def bk (K : sp_I) (i j : Nat) : Prop := cl_pend K j ∧ cl_bf K (2 + j) (2 + i)
theorem pb_and0 {p q : Prop} (h : ¬ p) : pb_z (p ∧ q) = 0 := pb_neg (fun z => h z.1)
section BL
variable {K : sp_I} {i : Nat}
theorem nb_out {q u v : Nat} (h : ∀ k, k < q → u ≠ ad_c k ∧ ¬ (u = ad_j k ∧ (v = 5 ∨ v = 6))) : cl_nb K (2 + i) q u v = K u v := cl_nb_out q h
theorem nb_t (q j v : Nat) : cl_nb K (2 + i) q (ad_t j) v = K (ad_t j) v := nb_out (fun k _ => ⟨by unfold ad_t ad_c; omega, by unfold ad_t ad_j; omega⟩)
theorem nb_j (q j v : Nat) (h : v ≠ 5 ∧ v ≠ 6) : cl_nb K (2 + i) q (ad_j j) v = K (ad_j j) v := nb_out (fun k _ => ⟨by unfold ad_j ad_c; omega, by omega⟩)
theorem nb_bk (q j : Nat) : bk (cl_nb K (2 + i) q) i j ↔ bk K i j := by
  unfold bk cl_pend
  rw [bf_j, bf_j, nb_j q j 1 (by decide), nb_j q j 2 (by decide), nb_j q j 4 (by decide), nb_j q i 4 (by decide)]
theorem nb_cell (q j u v : Nat) (hj : q ≤ j) (hu : u = ad_c j ∨ u = ad_j j) : cl_nb K (2 + i) q u v = K u v := nb_out (fun k _ => by unfold ad_c ad_j at *; omega)
theorem nb_step (q : Nat) : cl_nb K (2 + i) (q + 1) = @ite _ (bk K i q) (Classical.propDecidable _) (cl_block (cl_nb K (2 + i) q) q i (K (ad_t i) 9)) (cl_nb K (2 + i) q) := by
  rw [cl_nb]
  rw [show ((2 : Int) + i - 2).toNat = i by omega, nb_t, show ((2 : Int) + i - 2) = i by omega]
  by_cases h : bk K i q
  · have := (nb_bk (K := K) (i := i) q q).2 h
    unfold bk at this
    rw [if_pos h, if_pos this]
  · have := fun z => h ((nb_bk (K := K) (i := i) q q).1 z)
    unfold bk at this
    rw [if_neg h, if_neg this]
theorem nb_6 : ∀ q j : Nat, cl_nb K (2 + i) q (ad_j j) 6 = K (ad_j j) 6 + pb_z (j < q ∧ bk K i j)
  | 0, j => by rw [pb_neg (by omega)]; show K (ad_j j) 6 = _; omega
  | q + 1, j => by
    rw [nb_step]
    by_cases e : j = q
    · subst e
      have h0 := nb_cell (K := K) (i := i) j j (ad_j j) 6 (Nat.le_refl _) (Or.inr rfl)
      by_cases b : bk K i j
      · rw [if_pos b, pb_pos ⟨by omega, b⟩]
        unfold cl_block
        split
        · rw [up_slot (by decide), up_cell ad_jc, up_same, h0]
        · rw [up_same, h0]
      · rw [if_neg b, pb_neg (fun z => b z.2), h0, Int.add_zero]
    · have ih := nb_6 q j
      rw [show pb_z (j < q + 1 ∧ bk K i j) = pb_z (j < q ∧ bk K i j) from pb_iff ⟨fun z => ⟨by omega, z.2⟩, fun z => ⟨by omega, z.2⟩⟩]
      by_cases b : bk K i q
      · rw [if_pos b, cl_block_out ad_jc (fun z => e (ad_jj z.1)), ih]
      · rw [if_neg b, ih]
theorem nb_5 : ∀ q j : Nat, cl_nb K (2 + i) q (ad_j j) 5 = K (ad_j j) 5 + pb_z (j < q ∧ bk K i j ∧ K (ad_t i) 9 ≠ 0 ∧ K (ad_c j) i ≠ K (ad_t i) 9)
  | 0, j => by rw [pb_neg (by omega)]; show K (ad_j j) 5 = _; omega
  | q + 1, j => by
    rw [nb_step]
    by_cases e : j = q
    · subst e
      have h0 := nb_cell (K := K) (i := i) j j (ad_j j) 5 (Nat.le_refl _) (Or.inr rfl)
      have hc := nb_cell (K := K) (i := i) j j (ad_c j) i (Nat.le_refl _) (Or.inl rfl)
      by_cases b : bk K i j
      · rw [if_pos b]
        unfold cl_block
        rw [Int.toNat_natCast, hc]
        by_cases s : K (ad_t i) 9 ≠ 0 ∧ K (ad_c j) i ≠ K (ad_t i) 9
        · rw [if_pos s, pb_pos ⟨by omega, b, s⟩, up_same, h0]
        · rw [if_neg s, pb_neg (fun z => s z.2.2), up_slot (by decide), h0, Int.add_zero]
      · rw [if_neg b, pb_neg (fun z => b z.2.1), h0, Int.add_zero]
    · have ih := nb_5 q j
      rw [show pb_z (j < q + 1 ∧ bk K i j ∧ K (ad_t i) 9 ≠ 0 ∧ K (ad_c j) i ≠ K (ad_t i) 9) = pb_z (j < q ∧ bk K i j ∧ K (ad_t i) 9 ≠ 0 ∧ K (ad_c j) i ≠ K (ad_t i) 9) from pb_iff ⟨fun z => ⟨by omega, z.2⟩, fun z => ⟨by omega, z.2⟩⟩]
      by_cases b : bk K i q
      · rw [if_pos b, cl_block_out ad_jc (fun z => e (ad_jj z.1)), ih]
      · rw [if_neg b, ih]
theorem ad_cc {i j : Nat} (h : ad_c i = ad_c j) : i = j := by unfold ad_c at h; omega
theorem nb_c : ∀ q j r : Nat, cl_nb K (2 + i) q (ad_c j) r = @ite _ (j < q ∧ bk K i j ∧ K (ad_t i) 9 ≠ 0 ∧ r = i) (Classical.propDecidable _) (K (ad_t i) 9) (K (ad_c j) r)
  | 0, j, r => by rw [if_neg (by omega)]; rfl
  | q + 1, j, r => by
    rw [nb_step]
    by_cases e : j = q
    · subst e
      have hc := fun r => nb_cell (K := K) (i := i) j j (ad_c j) r (Nat.le_refl _) (Or.inl rfl)
      by_cases b : bk K i j
      · rw [if_pos b]
        unfold cl_block
        rw [Int.toNat_natCast, hc]
        by_cases s : K (ad_t i) 9 ≠ 0 ∧ K (ad_c j) i ≠ K (ad_t i) 9
        · rw [if_pos s, up_cell (fun z => ad_jc z.symm), up_if, up_cell (fun z => ad_jc z.symm), hc]
          by_cases ri : r = i
          · rw [if_pos ri, if_pos ⟨by omega, b, s.1, ri⟩]
          · rw [if_neg ri, if_neg (fun z => ri z.2.2.2)]
        · rw [if_neg s, up_cell (fun z => ad_jc z.symm), hc]
          by_cases ri : r = i ∧ K (ad_t i) 9 ≠ 0
          · rw [if_pos ⟨by omega, b, ri.2, ri.1⟩, ri.1]
            rcases Classical.em (K (ad_c j) i = K (ad_t i) 9) with z | z
            · exact z
            · exact absurd ⟨ri.2, z⟩ s
          · rw [if_neg (fun z => ri ⟨z.2.2.2, z.2.2.1⟩)]
      · rw [if_neg b, if_neg (fun z => b z.2.1), hc]
    · have ih := nb_c q j r
      refine Eq.trans ?_ (ih.trans ?_)
      · by_cases b : bk K i q
        · rw [if_pos b, cl_block_out (fun z => e (ad_cc z)) (fun z => ad_jc z.1.symm)]
        · rw [if_neg b]
      · by_cases c : j < q ∧ bk K i j ∧ K (ad_t i) 9 ≠ 0 ∧ r = i
        · rw [if_pos c, if_pos ⟨by omega, c.2⟩]
        · rw [if_neg c, if_neg (fun z => c ⟨by omega, z.2⟩)]
end BL
