/-! the relation: I holds the class's cells, J the reference's -/
/-- the sections of task i -/
def rl_T (I J : sp_I) (i : Nat) : Prop := (I (ad_t i) 0 = J 9 i ∧ I (ad_t i) 1 = J 10 i ∧ I (ad_t i) 2 = J 11 i ∧ I (ad_t i) 5 = J 12 i) ∧ (1 ≤ I (ad_t i) 2 ∧ I (ad_t i) 2 ≤ I (ad_t i) 1 ∧ I (ad_t i) 1 ≤ I (ad_t i) 0 ∧ I (ad_t i) 0 ≤ 100) ∧ cl_S I i ∧ cl_Q I i ∧ ∀ k, k < sp_c I i → I (ad_s i k) 0 = J 13 (4 * i + k) ∧ I (ad_s i k) 1 = J 14 (4 * i + k) ∧ I (ad_s i k) 2 = J 15 (4 * i + k)
/-- what start fixes -/
def rl_S (I J : sp_I) : Prop := ((0 ≤ I 0 4 ∧ I 0 4 ≤ 6) ∧ J 8 0 = I 0 4) ∧ (∀ i, i < sp_n I → rl_T I J i) ∧ (∀ i, sp_n I ≤ i → i < 6 → J 12 i = 0 ∧ J 10 i = 0) ∧ (∀ k, k < 24 → (0 ≤ J 13 k ∧ J 13 k ≤ 3) ∧ (0 ≤ J 14 k ∧ J 14 k ≤ 100) ∧ 0 ≤ J 15 k ∧ J 15 k ≤ 100) ∧ ∀ r : Nat, r < 4 → I 2 r = rf_ce J r
/-- the server -/
def rl_V (I J : sp_I) (now : Int) : Prop := cl_V I ∧ (I 3 3 = J 8 10 ∧ I 3 4 = J 8 11 ∧ I 3 5 = J 8 12 ∧ I 3 6 = J 8 13 ∧ I 3 2 = J 8 14 ∧ I 3 7 = J 8 16 ∧ I 3 8 = J 8 17) ∧ (∀ k : Nat, (k : Int) < I 3 2 → cl_nd I k = J 16 k ∧ 1 ≤ J 16 k) ∧ (∀ k, k < 8 → 0 ≤ J 16 k ∧ J 16 k ≤ 50) ∧ ((I 3 3 = 0 ∧ I 3 2 = 0) ∨ (1 ≤ I 3 5 ∧ I 3 5 ≤ I 3 3 ∧ I 3 3 ≤ I 3 4)) ∧ (I 3 6 ≤ 100 * now + 100) ∧ (I 3 7 ≤ now ∧ I 3 8 ≤ now)
/-- the trace -/
def rl_C (I J : sp_I) : Prop := (I 5 1 = J 8 9 ∧ I 5 1 = J 8 33 ∧ I 5 2 = J 8 31 ∧ I 5 3 = J 8 32) ∧ (0 ≤ I 5 2 ∧ I 5 2 ≤ I 5 1) ∧ (0 ≤ I 5 3 ∧ I 5 3 ≤ I 5 1) ∧ (∀ k, k < 64 → I 6 k = J 27 k)
/-- the latest job of task i -/
def rl_J (I J : sp_I) (i : Nat) (now : Int) : Prop := (I (ad_j i) 1 = J 19 i ∧ I (ad_j i) 2 = J 20 i ∧ I (ad_j i) 3 = J 18 i ∧ I (ad_j i) 5 = J 23 i ∧ I (ad_j i) 6 = J 21 i) ∧ (0 ≤ I (ad_j i) 2 ∧ I (ad_j i) 2 ≤ I (ad_j i) 1 ∧ I (ad_j i) 1 ≤ 100) ∧ J 17 i = (if I (ad_j i) 1 = 0 then 0 else if I (ad_j i) 2 < I (ad_j i) 1 then 1 else 2) ∧ (0 < I (ad_j i) 1 → I (ad_j i) 4 = J 18 i + J 10 i) ∧ (0 ≤ J 18 i ∧ J 18 i ≤ now ∧ (0 < I (ad_j i) 2 → J 18 i < now)) ∧ (0 ≤ J 21 i ∧ J 21 i ≤ now)
/-- counts of task i -/
def rl_M (I J : sp_I) (i : Nat) (now : Int) : Prop := (I (ad_t i) 6 = J 25 i ∧ I (ad_t i) 7 = J 26 i) ∧ (0 ≤ I (ad_t i) 6 ∧ I (ad_t i) 6 ≤ now) ∧ (0 ≤ I (ad_t i) 7 ∧ I (ad_t i) 7 ≤ now)
/-- begun and pending -/
def rl_bg (I : sp_I) (i : Nat) : Prop := cl_pend I i ∧ 0 < I (ad_j i) 2
/-- spells and blockings -/
def rl_P (I J : sp_I) (i : Nat) (now : Int) : Prop := (0 ≤ I (ad_t i) 8 ∧ I (ad_t i) 8 ≤ now) ∧ (0 ≤ I (ad_t i) 9 ∧ I (ad_t i) 9 ≤ now) ∧ (cl_any I i → 1 ≤ I (ad_t i) 8 ∧ J 22 i ≠ 0) ∧ (¬ cl_any I i → J 22 i = 0) ∧ (0 ≤ J 22 i ∧ J 22 i ≤ J 8 28) ∧ J 23 i = pf_cnt 6 (fun x => I (ad_c i) x ≠ 0)
def rl_D (I J : sp_I) : Prop := ∀ j i, j < sp_n I → i < sp_n I → cl_pend I j → rl_bg I i → cl_bf I (2 + j) (2 + i) → (I (ad_c j) i = 0 ∨ I (ad_c j) i = I (ad_t i) 8) ∧ (J 22 i ≠ 0 → ((∃ k, k < (J 23 j).toNat ∧ J 24 (60 * j + k) = J 22 i) ↔ I (ad_c j) i ≠ 0))
def rl_F (I J : sp_I) : Prop := ∀ i j, i < sp_n I → j < sp_n I → i ≠ j → J 22 i ≠ 0 → J 22 i ≠ J 22 j
/-- jobs in front of a begun one were released later, or are begun -/
def rl_1 (I : sp_I) : Prop := ∀ j x, j < sp_n I → x < sp_n I → rl_bg I j → cl_pend I x → I (ad_j x) 2 = 0 → cl_bf I (2 + x) (2 + j) → I (ad_j j) 3 < I (ad_j x) 3
/-- a begun job in front of another has a level above what that one holds -/
def rl_2 (I : sp_I) : Prop := ∀ i j, i < sp_n I → j < sp_n I → rl_bg I i → rl_bg I j → cl_bf I (2 + j) (2 + i) → ∀ k, k < sp_c I i → cl_held I i k → I 2 (I (ad_s i k) 0).toNat < 101 - I (ad_t j) 1
/-- all that is kept -/
def rl_Z (J : sp_I) (i : Nat) : Prop := J 17 i = 0 ∧ J 18 i = 0 ∧ J 19 i = 0 ∧ J 20 i = 0 ∧ J 21 i = 0 ∧ J 22 i = 0 ∧ J 23 i = 0 ∧ J 25 i = 0 ∧ J 26 i = 0
def rl_K (I J : sp_I) (now : Int) : Prop := I 5 1 = now ∧ (0 ≤ now ∧ now ≤ 1000000) ∧ (I 0 5 = J 8 8 ∧ (I 0 5 = 0 ∨ I 0 5 = 1)) ∧ (I 0 6 = J 8 29 ∧ I 0 7 = J 8 30) ∧ (0 ≤ I 0 6 ∧ I 0 6 ≤ 1000000) ∧ (0 ≤ I 0 7 ∧ I 0 7 ≤ now) ∧ (0 ≤ J 8 28 ∧ J 8 28 ≤ now)
def rl (I J : sp_I) : Prop := sp_R I ∧ sp_R J ∧ rl_S I J ∧ rl_V I J (I 5 1) ∧ rl_C I J ∧ rl_K I J (I 5 1) ∧ (∀ i, i < sp_n I → rl_J I J i (I 5 1) ∧ rl_M I J i (I 5 1) ∧ rl_P I J i (I 5 1)) ∧ (∀ i, sp_n I ≤ i → i < 6 → rl_Z J i) ∧ rl_D I J ∧ rl_F I J ∧ rl_1 I ∧ rl_2 I
theorem rl_n {I J : sp_I} (h : rl_S I J) : rf_n J = sp_n I := by unfold rf_n sp_n; rw [h.1.2]
theorem rl_p {I J : sp_I} {i : Nat} (h : rl_T I J i) : rf_p J i = sp_c I i := by unfold rf_p sp_c; rw [h.1.2.2.2]
theorem rl_n6 {I J : sp_I} (h : rl_S I J) : ((sp_n I : Nat) : Int) = I 0 4 ∧ sp_n I ≤ 6 := cl_n h.1.1
theorem rl_TS {I J : sp_I} (h : rl_S I J) : cl_TS I := fun i hi => ⟨(h.2.1 i hi).2.2.1, (h.2.1 i hi).2.2.2.1⟩
theorem rl_cP {I J : sp_I} (h : rl_S I J) : cl_P I := fun i hi => (h.2.1 i hi).2.1
/-! the verdict -/
section VD
/-- the product of the spans at most D, and the sum over it -/
def vd_p (s : Nat → Int) (D : Int) : Nat → Int
  | 0 => 1
  | q + 1 => if s q ≤ D then vd_p s D q * s q else vd_p s D q
def vd_s (s c : Nat → Int) (D : Int) : Nat → Int
  | 0 => 0
  | q + 1 => if s q ≤ D then vd_s s c D q * s q + c q * vd_p s D q else vd_s s c D q
variable {I J : sp_I}
theorem vd_al (i : Nat) : ∀ q, rf_al J i q = rf_al J i 0 * vd_p (J 10) (J 10 i) q
  | 0 => by rw [vd_p]; omega
  | q + 1 => by
    show (if J 10 q ≤ J 10 i then rf_al J i q * J 10 q else rf_al J i q) = _
    rw [vd_p]
    by_cases h : J 10 q ≤ J 10 i
    · rw [if_pos h, if_pos h, vd_al i q, Int.mul_assoc]
    · rw [if_neg h, if_neg h]; exact vd_al i q
theorem vd_sm (i : Nat) {A : Int} : ∀ (q : Nat) (m : Int), (∀ j, j < q → 1 ≤ J 10 j) → A = m * vd_p (J 10) (J 10 i) q → rf_sm J i A q = rf_sm J i A 0 + m * vd_s (J 10) (J 11) (J 10 i) q
  | 0, m, _, _ => by rw [vd_s]; omega
  | q + 1, m, hp, hA => by
    show (if J 10 q ≤ J 10 i then rf_sm J i A q + A / J 10 q * J 11 q else rf_sm J i A q) = _
    rw [vd_s]
    rw [vd_p] at hA
    by_cases h : J 10 q ≤ J 10 i
    · rw [if_pos h] at hA
      rw [if_pos h, if_pos h]
      have h1 := hp q (by omega)
      have e : A = m * J 10 q * vd_p (J 10) (J 10 i) q := by rw [hA, Int.mul_assoc m, Int.mul_comm (J 10 q)]
      rw [vd_sm i q (m * J 10 q) (fun j hj => hp j (by omega)) e]
      have e2 : A / J 10 q = m * vd_p (J 10) (J 10 i) q := by
        rw [e, show m * J 10 q * vd_p (J 10) (J 10 i) q = m * vd_p (J 10) (J 10 i) q * J 10 q by rw [Int.mul_assoc, Int.mul_assoc, Int.mul_comm (J 10 q)]]
        exact Int.mul_ediv_cancel _ (by omega)
      rw [e2, Int.mul_add, Int.add_assoc]
      congr 2
      · rw [Int.mul_assoc, Int.mul_comm (J 10 q)]
      · rw [Int.mul_assoc, Int.mul_comm (J 11 q)]
    · rw [if_neg h] at hA
      rw [if_neg h, if_neg h]
      exact vd_sm i q m (fun j hj => hp j (by omega)) hA
theorem vd_fr (c : Nat) (w : Int) : ∀ q, (cl_fr I c w q).2 = I (ad_t c) 1 * vd_p (fun j => I (ad_t j) 1) (I (ad_t c) 1) q ∧ (cl_fr I c w q).1 = w * vd_p (fun j => I (ad_t j) 1) (I (ad_t c) 1) q + I (ad_t c) 1 * vd_s (fun j => I (ad_t j) 1) (fun j => I (ad_t j) 2) (I (ad_t c) 1) q
  | 0 => by rw [vd_p, vd_s, cl_fr]; exact ⟨by omega, by omega⟩
  | q + 1 => by
    obtain ⟨h2, h1⟩ := vd_fr c w q
    rw [cl_fr, vd_p, vd_s]
    by_cases h : I (ad_t q) 1 ≤ I (ad_t c) 1
    · rw [if_pos h, if_pos h, if_pos h]
      refine ⟨?_, ?_⟩
      · show (cl_fr I c w q).2 * I (ad_t q) 1 = _
        rw [h2, Int.mul_assoc]
      · show (cl_fr I c w q).1 * I (ad_t q) 1 + I (ad_t q) 2 * (cl_fr I c w q).2 = _
        rw [h1, h2, Int.add_mul, Int.mul_assoc, Int.mul_assoc, Int.mul_add, Int.add_assoc]
        congr 2
        rw [← Int.mul_assoc, ← Int.mul_assoc, Int.mul_comm (I (ad_t q) 2)]
    · rw [if_neg h, if_neg h, if_neg h]
      exact ⟨h2, h1⟩
theorem vd_p_congr {s u : Nat → Int} {D : Int} : ∀ q, (∀ j, j < q → s j = u j) → vd_p s D q = vd_p u D q
  | 0, _ => rfl
  | q + 1, h => by rw [vd_p, vd_p, vd_p_congr q (fun j hj => h j (by omega)), h q (by omega)]
theorem vd_s_congr {s u c e : Nat → Int} {D : Int} : ∀ q, (∀ j, j < q → s j = u j ∧ c j = e j) → vd_s s c D q = vd_s u e D q
  | 0, _ => rfl
  | q + 1, h => by rw [vd_s, vd_s, vd_s_congr q (fun j hj => h j (by omega)), (h q (by omega)).1, (h q (by omega)).2, vd_p_congr q (fun j hj => (h j (by omega)).1)]
theorem vd_p_dvd {s : Nat → Int} {i : Nat} : ∀ q, i < q → ∃ z, vd_p s (s i) q = s i * z
  | q + 1, h => by
    rw [vd_p]
    by_cases e : i = q
    · subst e
      rw [if_pos (Int.le_refl _)]
      exact ⟨_, Int.mul_comm _ _⟩
    · obtain ⟨z, hz⟩ := vd_p_dvd (s := s) q (by omega : i < q)
      split
      · exact ⟨z * s q, by rw [hz, Int.mul_assoc]⟩
      · exact ⟨z, hz⟩
/-- the two sums are one -/
theorem vd_eq {i : Nat} {w : Int} (hS : rl_S I J) (hi : i < sp_n I) (h3 : I 3 3 = J 8 10) (h4 : I 3 4 = J 8 11) (h0 : 0 < J 8 10 → 1 ≤ J 8 11) : ((cl_fe I i w).1 ≤ (cl_fe I i w).2) ↔ (rf_sm J i (rf_al J i (sp_n I)) (sp_n I) + rf_al J i (sp_n I) / J 10 i * w ≤ rf_al J i (sp_n I)) := by
  have hT := hS.2.1
  have eD := (hT i hi).1.2.1
  have hD : 1 ≤ J 10 i := by have := (hT i hi).2.1; omega
  have es : ∀ j, j < sp_n I → I (ad_t j) 1 = J 10 j ∧ I (ad_t j) 2 = J 11 j := fun j hj => ⟨(hT j hj).1.2.1, (hT j hj).1.2.2.1⟩
  have hpos : ∀ j, j < sp_n I → 1 ≤ J 10 j := fun j hj => by have := (hT j hj).2.1; have := (es j hj).1; omega
  obtain ⟨z, hz⟩ := vd_p_dvd (s := J 10) (sp_n I) hi
  obtain ⟨f2, f1⟩ := vd_fr (I := I) i w (sp_n I)
  rw [vd_p_congr (sp_n I) (fun j hj => (es j hj).1), eD] at f2 f1
  rw [vd_s_congr (sp_n I) es] at f1
  have ea := vd_al (J := J) i (sp_n I)
  have em := vd_sm (J := J) i (sp_n I) (rf_al J i 0) hpos ea
  rw [em]
  have ed : rf_al J i (sp_n I) / J 10 i = rf_al J i 0 * z := by
    rw [ea, hz, show rf_al J i 0 * (J 10 i * z) = rf_al J i 0 * z * J 10 i by rw [Int.mul_comm (J 10 i), Int.mul_assoc]]
    exact Int.mul_ediv_cancel _ (by omega)
  rw [ed]
  generalize hσ : vd_s (J 10) (J 11) (J 10 i) (sp_n I) = σ at *
  generalize hP : vd_p (J 10) (J 10 i) (sp_n I) = P at *
  generalize hDd : J 10 i = D at *
  have key : (cl_fe I i w).2 = D * rf_al J i (sp_n I) ∧ (cl_fe I i w).1 = D * (rf_sm J i (rf_al J i (sp_n I)) 0 + rf_al J i 0 * σ + rf_al J i 0 * z * w) := by
    unfold cl_fe
    by_cases hs : 0 < I 3 3
    · rw [if_pos hs]
      have e0 : rf_al J i 0 = J 8 11 := by rw [rf_al, if_pos (by omega)]
      have e1 : rf_sm J i (rf_al J i (sp_n I)) 0 = P * J 8 10 := by
        rw [rf_sm, if_pos (by omega), ea, e0, Int.mul_comm (J 8 11)]
        rw [Int.mul_ediv_cancel _ (by have := h0 (by omega); omega)]
      refine ⟨?_, ?_⟩
      · show (cl_fr I i w (sp_n I)).2 * I 3 4 = _
        rw [f2, ea, e0, h4, Int.mul_assoc, Int.mul_comm P]
      · show (cl_fr I i w (sp_n I)).1 * I 3 4 + I 3 3 * (cl_fr I i w (sp_n I)).2 = _
        rw [f1, f2, e1, e0, h4, h3, hz]
        generalize J 8 11 = p
        generalize J 8 10 = sz
        simp only [Int.mul_add, Int.add_mul, Int.mul_comm, Int.mul_left_comm, Int.mul_assoc, Int.add_comm, Int.add_left_comm, Int.add_assoc]
    · rw [if_neg hs]
      have e0 : rf_al J i 0 = 1 := by rw [rf_al, if_neg (by omega)]
      have e1 : rf_sm J i (rf_al J i (sp_n I)) 0 = 0 := by rw [rf_sm, if_neg (by omega)]
      rw [f1, f2, e1, ea, e0, hz]
      refine ⟨by rw [Int.one_mul], ?_⟩
      simp only [Int.one_mul, Int.mul_one, Int.zero_add, Int.mul_zero, Int.add_zero, Int.mul_add, Int.add_mul, Int.mul_comm, Int.mul_left_comm, Int.mul_assoc, Int.add_comm, Int.add_left_comm, Int.add_assoc]
  rw [key.1, key.2]
  constructor
  · intro h
    exact Int.le_of_mul_le_mul_left h (by omega)
  · intro h
    exact Int.mul_le_mul_of_nonneg_left h (by omega)
end VD
