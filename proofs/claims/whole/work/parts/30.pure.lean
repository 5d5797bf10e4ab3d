/-! words for answers -/
/-- a proposition as 0 or 1 -/
noncomputable def pb_z (p : Prop) : Int := @ite _ p (Classical.propDecidable p) 1 0
theorem pb_pos {p : Prop} (h : p) : pb_z p = 1 := by unfold pb_z; rw [if_pos h]
theorem pb_neg {p : Prop} (h : ¬ p) : pb_z p = 0 := by unfold pb_z; rw [if_neg h]
theorem pb_iff {p q : Prop} (h : p ↔ q) : pb_z p = pb_z q := by rw [propext h]
theorem pb_01 (p : Prop) : pb_z p = 0 ∨ pb_z p = 1 := by
  by_cases h : p
  · exact Or.inr (pb_pos h)
  · exact Or.inl (pb_neg h)
theorem pb_rng (p : Prop) : 0 ≤ pb_z p ∧ pb_z p ≤ 1 := by
  rcases pb_01 p with h | h <;> omega
theorem pb_eq0 {p : Prop} : pb_z p = 0 ↔ ¬ p := by
  by_cases h : p
  · rw [pb_pos h]; simp [h]
  · rw [pb_neg h]; simp [h]
/-- the branch on an answer of 0 or 1 -/
theorem pb_br {p : Prop} : (Int32.ofInt (pb_z p) = 0) ↔ ¬ p := by
  rw [io_eq0 (by have := pb_rng p; omega), pb_eq0]
theorem pb_dec (p : Prop) : (Int32.ofInt (pb_z p) = 0 ∨ Int32.ofInt (pb_z p) = 1) := by
  rcases pb_01 p with h | h <;> rw [h]
  · exact Or.inl rfl
  · exact Or.inr rfl
/-- the greatest of 0 and f 0 .. f (n - 1) -/
def pf_max : Nat → (Nat → Int) → Int
  | 0, _ => 0
  | n + 1, f => max (pf_max n f) (f n)
theorem pf_max_congr {f g : Nat → Int} : ∀ n, (∀ i, i < n → f i = g i) → pf_max n f = pf_max n g
  | 0, _ => rfl
  | n + 1, h => by rw [pf_max, pf_max, pf_max_congr n (fun i hi => h i (by omega)), h n (by omega)]
theorem pf_max_nonneg (f : Nat → Int) : ∀ n, 0 ≤ pf_max n f
  | 0 => Int.le_refl _
  | n + 1 => by have := pf_max_nonneg f n; rw [pf_max]; omega
theorem pf_max_ge {f : Nat → Int} : ∀ {n i : Nat}, i < n → f i ≤ pf_max n f
  | n + 1, i, h => by
    rw [pf_max]
    by_cases e : i = n
    · subst e; omega
    · have := pf_max_ge (f := f) (show i < n by omega)
      omega
theorem pf_max_le {f : Nat → Int} {b : Int} : ∀ n, 0 ≤ b → (∀ i, i < n → f i ≤ b) → pf_max n f ≤ b
  | 0, h, _ => h
  | n + 1, h, hf => by
    rw [pf_max]
    have := pf_max_le n h (fun i hi => hf i (by omega))
    have := hf n (by omega)
    omega
theorem pf_max_at {f : Nat → Int} : ∀ n, pf_max n f = 0 ∨ ∃ i, i < n ∧ f i = pf_max n f
  | 0 => Or.inl rfl
  | n + 1 => by
    rw [pf_max]
    by_cases e : pf_max n f ≤ f n
    · exact Or.inr ⟨n, by omega, by omega⟩
    · rcases pf_max_at n (f := f) with h | ⟨i, hi, h⟩
      · exact Or.inl (by omega)
      · exact Or.inr ⟨i, by omega, by omega⟩
/-- how many of 0 .. n - 1 -/
noncomputable def pf_cnt : Nat → (Nat → Prop) → Int
  | 0, _ => 0
  | n + 1, p => pf_cnt n p + pb_z (p n)
theorem pf_cnt_congr {p q : Nat → Prop} : ∀ n, (∀ i, i < n → (p i ↔ q i)) → pf_cnt n p = pf_cnt n q
  | 0, _ => rfl
  | n + 1, h => by rw [pf_cnt, pf_cnt, pf_cnt_congr n (fun i hi => h i (by omega)), pb_iff (h n (by omega))]
theorem pf_cnt_rng (p : Nat → Prop) : ∀ n : Nat, 0 ≤ pf_cnt n p ∧ pf_cnt n p ≤ n
  | 0 => ⟨Int.le_refl _, Int.le_refl _⟩
  | n + 1 => by
    have := pf_cnt_rng p n
    have := pb_rng (p n)
    rw [pf_cnt]
    omega
/-- memory: all numbers are ints -/
abbrev sp_R (I : sp_I) : Prop := ∀ x k, io_R (I x k)
theorem sp_Rup {I : sp_I} (h : sp_R I) {x k : Nat} {a : Int} (ha : io_R a) : sp_R (up_I I x k a) := by
  intro y j
  unfold up_I
  split
  · exact ha
  · exact h y j
theorem mm_c1_i (x : Int32) : mm_c1 (.int x) = true := rfl
theorem mm_c1_r (x : Nat) : mm_c1 (.ref x) = true := rfl
theorem mm_c1_u (x : Nat) : mm_c1 (.retAddr x) = true := rfl
theorem sp_n_up {I : sp_I} {x k : Nat} {a : Int} (h : ¬ (0 = x ∧ 4 = k)) : sp_n (up_I I x k a) = sp_n I := by unfold sp_n up_I; rw [if_neg h]
theorem sp_n_t {I : sp_I} {i k : Nat} {a : Int} : sp_n (up_I I (ad_t i) k a) = sp_n I := sp_n_up (fun h => by unfold ad_t at h; omega)
theorem sp_n_j {I : sp_I} {i k : Nat} {a : Int} : sp_n (up_I I (ad_j i) k a) = sp_n I := sp_n_up (fun h => by unfold ad_j at h; omega)
theorem sp_n_c {I : sp_I} {i k : Nat} {a : Int} : sp_n (up_I I (ad_c i) k a) = sp_n I := sp_n_up (fun h => by unfold ad_c at h; omega)
theorem sp_n_s {I : sp_I} {i q k : Nat} {a : Int} : sp_n (up_I I (ad_s i q) k a) = sp_n I := sp_n_up (fun h => by unfold ad_s at h; omega)
theorem sp_n_k {I : sp_I} {x k : Nat} {a : Int} : sp_n (up_I I (x + 1) k a) = sp_n I := sp_n_up (fun h => by omega)
theorem sp_c_up {I : sp_I} {x k : Nat} {a : Int} (h : ∀ i, ¬ (ad_t i = x ∧ 5 = k)) (i : Nat) : sp_c (up_I I x k a) i = sp_c I i := by unfold sp_c up_I; rw [if_neg (h i)]
/-- the job of task i is pending; the section k of task i is held -/
def cl_pend (I : sp_I) (i : Nat) : Prop := I (ad_j i) 2 < I (ad_j i) 1
def cl_held (I : sp_I) (i k : Nat) : Prop := cl_pend I i ∧ I (ad_s i k) 1 < I (ad_j i) 2 ∧ I (ad_j i) 2 < I (ad_s i k) 2
/-- sections: at most four -/
def cl_S (I : sp_I) (i : Nat) : Prop := 0 ≤ I (ad_t i) 5 ∧ I (ad_t i) 5 ≤ 4
theorem cl_cnt {I : sp_I} {i : Nat} (h : cl_S I i) : ((sp_c I i : Nat) : Int) = I (ad_t i) 5 ∧ sp_c I i ≤ 4 := by
  unfold cl_S at h
  unfold sp_c
  omega
def cl_agree (I : sp_I) (i : Nat) (r f t : Int) (k : Nat) : Prop := (t ≤ I (ad_s i k) 1 ∨ I (ad_s i k) 2 ≤ f) ∨ (r ≠ I (ad_s i k) 0 ∧ ((I (ad_s i k) 1 ≤ f ∧ t ≤ I (ad_s i k) 2) ∨ (f ≤ I (ad_s i k) 1 ∧ I (ad_s i k) 2 ≤ t)))
theorem io_max2 (a b : Int) : (if a < b then Int32.ofInt b else Int32.ofInt a) = Int32.ofInt (max a b) := by
  split
  · rw [Int.max_eq_right (by omega)]
  · rw [Int.max_eq_left (by omega)]
