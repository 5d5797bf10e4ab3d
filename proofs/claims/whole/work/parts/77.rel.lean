/-! what the reference's stops leave -/
def sb (J : sp_I) (i j : Nat) : Prop := j ≠ i ∧ J 17 j = 1 ∧ rf_er J j i
def sa (J : sp_I) (i j : Nat) : Prop := J 22 i ≠ 0 ∧ (¬ ∃ k, k < (J 23 j).toNat ∧ J 24 (60 * j + k) = J 22 i) ∧ J 23 j ≠ 60
section WL
variable {J : sp_I} {i : Nat}
theorem wl_sb (q j : Nat) : sb (rf_wl J i q) i j ↔ sb J i j := by
  unfold sb rf_er rf_dl
  simp (disch := decide) only [rf_wl_out]
theorem wl_24 (h23 : ∀ j, j < 6 → 0 ≤ J 23 j ∧ J 23 j ≤ 60) {j k : Nat} (hk : k < 60) : ∀ q, q ≤ j → q ≤ 6 → rf_wl J i q 24 (60 * j + k) = J 24 (60 * j + k)
  | 0, _, _ => rfl
  | q + 1, h, h6 => by
    have ih := wl_24 (j := j) h23 hk q (by omega) (by omega)
    have e23 := rf_wl_at (J := J) (i := i) (u := 23) (v := q) (by decide) q (Nat.le_refl _)
    have hq := h23 q (by omega)
    rw [rf_wl]
    split
    · unfold rf_st
      split
      · rw [up_cell (by decide), up_slot (by omega), up_cell (by decide)]; exact ih
      · rw [up_cell (by decide)]; exact ih
    · exact ih
theorem wl_sa (h23 : ∀ j, j < 6 → 0 ≤ J 23 j ∧ J 23 j ≤ 60) {q j : Nat} (hq : q ≤ j) (hj : j < 6) : sa (rf_wl J i q) i j ↔ sa J i j := by
  have e22 := rf_wl_out (J := J) (i := i) (u := 22) (v := i) (by decide) q
  have e23 := rf_wl_at (J := J) (i := i) (u := 23) (v := j) (by decide) q hq
  have hb := h23 j hj
  unfold sa
  rw [e22, e23]
  have : (∃ k, k < (J 23 j).toNat ∧ rf_wl J i q 24 (60 * j + k) = J 22 i) ↔ ∃ k, k < (J 23 j).toNat ∧ J 24 (60 * j + k) = J 22 i := by
    constructor
    · rintro ⟨k, a, b⟩; exact ⟨k, a, by rw [← wl_24 h23 (by omega) q hq (by omega)]; exact b⟩
    · rintro ⟨k, a, b⟩; exact ⟨k, a, by rw [wl_24 h23 (by omega) q hq (by omega)]; exact b⟩
  rw [this]
theorem wl_step (h23 : ∀ j, j < 6 → 0 ≤ J 23 j ∧ J 23 j ≤ 60) {q : Nat} (hq : q < 6) : rf_wl J i (q + 1) = @ite _ (sb J i q) (Classical.propDecidable _) (@ite _ (sa J i q) (Classical.propDecidable _) (up_I (up_I (up_I (rf_wl J i q) 21 q (J 21 q + 1)) 24 (60 * q + (J 23 q).toNat) (J 22 i)) 23 q (J 23 q + 1)) (up_I (rf_wl J i q) 21 q (J 21 q + 1))) (rf_wl J i q) := by
  have e22 := rf_wl_out (J := J) (i := i) (u := 22) (v := i) (by decide) q
  have e23 := rf_wl_at (J := J) (i := i) (u := 23) (v := q) (by decide) q (Nat.le_refl _)
  have e21 := rf_wl_at (J := J) (i := i) (u := 21) (v := q) (by decide) q (Nat.le_refl _)
  rw [rf_wl]
  by_cases b : sb J i q
  · have b' := (wl_sb (J := J) (i := i) q q).2 b
    unfold sb at b'
    rw [if_pos b, if_pos b']
    unfold rf_st
    by_cases s : sa J i q
    · have s' := (wl_sa (i := i) h23 (Nat.le_refl q) hq).2 s
      unfold sa at s'
      rw [if_pos s, if_pos s', e22, e23, e21]
    · have s' := fun z => s ((wl_sa (i := i) h23 (Nat.le_refl q) hq).1 z)
      unfold sa at s'
      rw [if_neg s, if_neg s', e21]
  · have b' := fun z => b ((wl_sb (J := J) (i := i) q q).1 z)
    unfold sb at b'
    rw [if_neg b, if_neg b']
theorem wl_21 (h23 : ∀ j, j < 6 → 0 ≤ J 23 j ∧ J 23 j ≤ 60) : ∀ q j : Nat, q ≤ 6 → rf_wl J i q 21 j = J 21 j + pb_z (j < q ∧ sb J i j)
  | 0, j, _ => by rw [pb_neg (by omega)]; show J 21 j = _; omega
  | q + 1, j, h6 => by
    have ih := wl_21 h23 q j (by omega)
    rw [wl_step h23 (by omega)]
    by_cases e : j = q
    · subst e
      have e21 := rf_wl_at (J := J) (i := i) (u := 21) (v := j) (by decide) j (Nat.le_refl _)
      by_cases b : sb J i j
      · rw [if_pos b, pb_pos ⟨by omega, b⟩]
        split
        · rw [up_cell (by decide), up_cell (by decide), up_same]
        · rw [up_same]
      · rw [if_neg b, pb_neg (fun z => b z.2), e21, Int.add_zero]
    · rw [show pb_z (j < q + 1 ∧ sb J i j) = pb_z (j < q ∧ sb J i j) from pb_iff ⟨fun z => ⟨by omega, z.2⟩, fun z => ⟨by omega, z.2⟩⟩, ← ih]
      by_cases b : sb J i q
      · rw [if_pos b]
        split
        · rw [up_cell (by decide), up_cell (by decide), up_slot e]
        · rw [up_slot e]
      · rw [if_neg b]
theorem wl_23 (h23 : ∀ j, j < 6 → 0 ≤ J 23 j ∧ J 23 j ≤ 60) : ∀ q j : Nat, q ≤ 6 → rf_wl J i q 23 j = J 23 j + pb_z (j < q ∧ sb J i j ∧ sa J i j)
  | 0, j, _ => by rw [pb_neg (by omega)]; show J 23 j = _; omega
  | q + 1, j, h6 => by
    have ih := wl_23 h23 q j (by omega)
    rw [wl_step h23 (by omega)]
    by_cases e : j = q
    · subst e
      have e23 := rf_wl_at (J := J) (i := i) (u := 23) (v := j) (by decide) j (Nat.le_refl _)
      by_cases b : sb J i j
      · rw [if_pos b]
        by_cases s : sa J i j
        · rw [if_pos s, pb_pos ⟨by omega, b, s⟩, up_same]
        · rw [if_neg s, pb_neg (fun z => s z.2.2), up_cell (by decide), e23, Int.add_zero]
      · rw [if_neg b, pb_neg (fun z => b z.2.1), e23, Int.add_zero]
    · rw [show pb_z (j < q + 1 ∧ sb J i j ∧ sa J i j) = pb_z (j < q ∧ sb J i j ∧ sa J i j) from pb_iff ⟨fun z => ⟨by omega, z.2⟩, fun z => ⟨by omega, z.2⟩⟩, ← ih]
      by_cases b : sb J i q
      · rw [if_pos b]
        split
        · rw [up_slot e, up_cell (by decide), up_cell (by decide)]
        · rw [up_cell (by decide)]
      · rw [if_neg b]
/-- the list of j: as it was, or with the running spell behind it -/
theorem wl_li (h23 : ∀ j, j < 6 → 0 ≤ J 23 j ∧ J 23 j ≤ 60) : ∀ q j k : Nat, q ≤ 6 → j < 6 → k < 60 → rf_wl J i q 24 (60 * j + k) = @ite _ (j < q ∧ sb J i j ∧ sa J i j ∧ k = (J 23 j).toNat) (Classical.propDecidable _) (J 22 i) (J 24 (60 * j + k))
  | 0, j, k, _, _, _ => by rw [if_neg (by omega)]; rfl
  | q + 1, j, k, h6, hj, hk => by
    have ih := wl_li h23 q j k (by omega) hj hk
    have hq := h23 q (by omega)
    rw [wl_step h23 (by omega)]
    by_cases e : j = q
    · subst e
      have e24 := wl_24 (i := i) h23 hk j (Nat.le_refl j) (by omega)
      by_cases b : sb J i j
      · rw [if_pos b]
        by_cases s : sa J i j
        · rw [if_pos s, up_cell (by decide), up_if, up_cell (by decide), e24]
          by_cases z : k = (J 23 j).toNat
          · rw [if_pos (by omega), if_pos ⟨by omega, b, s, z⟩]
          · rw [if_neg (by omega), if_neg (fun y => z y.2.2.2)]
        · rw [if_neg s, if_neg (fun y => s y.2.2.1), up_cell (by decide), e24]
      · rw [if_neg b, if_neg (fun y => b y.2.1), e24]
    · have key : (j < q + 1 ∧ sb J i j ∧ sa J i j ∧ k = (J 23 j).toNat) ↔ (j < q ∧ sb J i j ∧ sa J i j ∧ k = (J 23 j).toNat) := ⟨fun z => ⟨by omega, z.2⟩, fun z => ⟨by omega, z.2⟩⟩
      have e2 : (@ite _ (j < q + 1 ∧ sb J i j ∧ sa J i j ∧ k = (J 23 j).toNat) (Classical.propDecidable _) (J 22 i) (J 24 (60 * j + k))) = rf_wl J i q 24 (60 * j + k) := by
        rw [ih]
        by_cases c : j < q ∧ sb J i j ∧ sa J i j ∧ k = (J 23 j).toNat
        · rw [if_pos c, if_pos (key.2 c)]
        · rw [if_neg c, if_neg (fun z => c (key.1 z))]
      rw [e2]
      by_cases b : sb J i q
      · rw [if_pos b]
        by_cases s : sa J i q
        · rw [if_pos s, up_cell (by decide), up_if, if_neg (by have := s.2.2; omega), up_cell (by decide)]
        · rw [if_neg s, up_cell (by decide)]
      · rw [if_neg b]
end WL
