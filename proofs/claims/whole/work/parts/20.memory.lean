/-! the memory by numbers: I x k is the number in slot k of the cell x. Cells: 0 the kernel, 1 its tasks, 2 its ceilings, 3 its server, 4 the server's needs, 5 its trace, 6 the trace's codes, 7 the script, 8 the reference, 9 to 27 its arrays; behind 32, eight for each task: the task, its sections, its job, the job's counted spells, four sections -/
abbrev sp_I : Type := Nat → Nat → Int
def ad_t (i : Nat) : Nat := 32 + 8 * i
def ad_a (i : Nat) : Nat := 33 + 8 * i
def ad_j (i : Nat) : Nat := 34 + 8 * i
def ad_c (i : Nat) : Nat := 35 + 8 * i
def ad_s (i k : Nat) : Nat := 36 + 8 * i + k
def sp_n (I : sp_I) : Nat := (I 0 4).toNat
def sp_c (I : sp_I) (i : Nat) : Nat := (I (ad_t i) 5).toNat
def sp_T0 (I : sp_I) (x : Nat) : Option (Nat × Nat) := match x with
  | 0 => some (0, 8)
  | 1 => some (102, 6)
  | 2 => some (100, 4)
  | 3 => some (1, 9)
  | 4 => some (100, 8)
  | 5 => some (2, 4)
  | 6 => some (100, 64)
  | 7 => some (101, (I 30 0).toNat)
  | 8 => some (6, 35)
  | 9 => some (100, 6)
  | 10 => some (100, 6)
  | 11 => some (100, 6)
  | 12 => some (100, 6)
  | 13 => some (100, 24)
  | 14 => some (100, 24)
  | 15 => some (100, 24)
  | 16 => some (100, 8)
  | 17 => some (100, 6)
  | 18 => some (100, 6)
  | 19 => some (100, 6)
  | 20 => some (100, 6)
  | 21 => some (100, 6)
  | 22 => some (100, 6)
  | 23 => some (100, 6)
  | 24 => some (100, 360)
  | 25 => some (100, 6)
  | 26 => some (100, 6)
  | 27 => some (100, 64)
  | _ => none
def sp_T1 (I : sp_I) (i o : Nat) : Option (Nat × Nat) := match o with
  | 0 => some (3, 10)
  | 1 => some (103, 4)
  | 2 => some (5, 7)
  | 3 => some (100, 6)
  | k + 4 => if k < sp_c I i then some (4, 3) else none
def sp_T (I : sp_I) : mm_T := fun x => if x < 32 then sp_T0 I x else if (x - 32) / 8 < sp_n I then sp_T1 I ((x - 32) / 8) ((x - 32) % 8) else none
/-- the references of the cells that are always there -/
def sp_V0 (I : sp_I) (x k : Nat) : Value := match x with
  | 0 => (match k with
    | 0 => .ref 1
    | 1 => .ref 2
    | 2 => .ref 3
    | 3 => .ref 5
    | _ => io_v (I 0 k))
  | 1 => if k < sp_n I then .ref (ad_t k) else .null
  | 3 => (match k with
    | 0 => .ref 4
    | _ => io_v (I 3 k))
  | 5 => (match k with
    | 0 => .ref 6
    | _ => io_v (I 5 k))
  | 8 => (match k with
    | 1 => .ref 9
    | 2 => .ref 10
    | 3 => .ref 11
    | 4 => .ref 12
    | 5 => .ref 13
    | 6 => .ref 14
    | 7 => .ref 15
    | 15 => .ref 16
    | 18 => .ref 17
    | 19 => .ref 18
    | 20 => .ref 19
    | 21 => .ref 20
    | 22 => .ref 21
    | 23 => .ref 22
    | 24 => .ref 23
    | 25 => .ref 24
    | 26 => .ref 25
    | 27 => .ref 26
    | 34 => .ref 27
    | _ => io_v (I 8 k))
  | _ => io_v (I x k)
def sp_V1 (I : sp_I) (i o x k : Nat) : Value := match o with
  | 0 => (match k with
    | 3 => .ref (ad_a i)
    | 4 => .ref (ad_j i)
    | _ => io_v (I x k))
  | 1 => if k < sp_c I i then .ref (ad_s i k) else .null
  | 2 => (match k with
    | 0 => .ref (ad_c i)
    | _ => io_v (I x k))
  | _ => io_v (I x k)
def sp_V (I : sp_I) : mm_V := fun x k => if x < 32 then sp_V0 I x k else sp_V1 I ((x - 32) / 8) ((x - 32) % 8) x k
def sp_me (I : sp_I) (c s : Nat) : mm_M := (sp_T I, sp_V I, c, s)
def up_I (I : sp_I) (x k : Nat) (a : Int) : sp_I := fun y j => if y = x ∧ j = k then a else I y j
theorem up_same (I : sp_I) (x k : Nat) (a : Int) : up_I I x k a x k = a := by unfold up_I; rw [if_pos ⟨rfl, rfl⟩]
theorem up_slot {I : sp_I} {x k y j : Nat} {a : Int} (h : j ≠ k) : up_I I x k a y j = I y j := by unfold up_I; rw [if_neg (fun q => h q.2)]
theorem up_cell {I : sp_I} {x k y j : Nat} {a : Int} (h : y ≠ x) : up_I I x k a y j = I y j := by unfold up_I; rw [if_neg (fun q => h q.1)]
theorem sp_t_div (i : Nat) : ¬ ad_t i < 32 ∧ (ad_t i - 32) / 8 = i ∧ (ad_t i - 32) % 8 = 0 := by unfold ad_t; omega
theorem sp_a_div (i : Nat) : ¬ ad_a i < 32 ∧ (ad_a i - 32) / 8 = i ∧ (ad_a i - 32) % 8 = 1 := by unfold ad_a; omega
theorem sp_j_div (i : Nat) : ¬ ad_j i < 32 ∧ (ad_j i - 32) / 8 = i ∧ (ad_j i - 32) % 8 = 2 := by unfold ad_j; omega
theorem sp_c_div (i : Nat) : ¬ ad_c i < 32 ∧ (ad_c i - 32) / 8 = i ∧ (ad_c i - 32) % 8 = 3 := by unfold ad_c; omega
theorem sp_s_div (i k : Nat) (h : k < 4) : ¬ ad_s i k < 32 ∧ (ad_s i k - 32) / 8 = i ∧ (ad_s i k - 32) % 8 = k + 4 := by unfold ad_s; omega
theorem sp_T_t {I : sp_I} {i : Nat} (h : i < sp_n I) : sp_T I (ad_t i) = some (3, 10) := by
  obtain ⟨a, b, c⟩ := sp_t_div i
  unfold sp_T
  rw [if_neg a, b, c, if_pos h]
  rfl
theorem sp_T_a {I : sp_I} {i : Nat} (h : i < sp_n I) : sp_T I (ad_a i) = some (103, 4) := by
  obtain ⟨a, b, c⟩ := sp_a_div i
  unfold sp_T
  rw [if_neg a, b, c, if_pos h]
  rfl
theorem sp_T_j {I : sp_I} {i : Nat} (h : i < sp_n I) : sp_T I (ad_j i) = some (5, 7) := by
  obtain ⟨a, b, c⟩ := sp_j_div i
  unfold sp_T
  rw [if_neg a, b, c, if_pos h]
  rfl
theorem sp_T_c {I : sp_I} {i : Nat} (h : i < sp_n I) : sp_T I (ad_c i) = some (100, 6) := by
  obtain ⟨a, b, c⟩ := sp_c_div i
  unfold sp_T
  rw [if_neg a, b, c, if_pos h]
  rfl
theorem sp_T_s {I : sp_I} {i k : Nat} (h : i < sp_n I) (h4 : k < 4) (hk : k < sp_c I i) : sp_T I (ad_s i k) = some (4, 3) := by
  obtain ⟨a, b, c⟩ := sp_s_div i k h4
  unfold sp_T
  rw [if_neg a, b, c, if_pos h]
  show (if k < sp_c I i then _ else _) = _
  rw [if_pos hk]
theorem sp_V_1 {I : sp_I} {k : Nat} (h : k < sp_n I) : sp_V I 1 k = .ref (ad_t k) := by
  show (if k < sp_n I then _ else _) = _
  rw [if_pos h]
theorem sp_V_a {I : sp_I} {i k : Nat} (h : k < sp_c I i) : sp_V I (ad_a i) k = .ref (ad_s i k) := by
  obtain ⟨a, b, c⟩ := sp_a_div i
  unfold sp_V
  rw [if_neg a, b, c]
  show (if k < sp_c I i then _ else _) = _
  rw [if_pos h]
theorem sp_V_t0 (I : sp_I) (i : Nat) : sp_V I (ad_t i) 0 = io_v (I (ad_t i) 0) := by
  obtain ⟨a, b, c⟩ := sp_t_div i
  unfold sp_V
  rw [if_neg a, b, c]
  rfl
theorem sp_V_t1 (I : sp_I) (i : Nat) : sp_V I (ad_t i) 1 = io_v (I (ad_t i) 1) := by
  obtain ⟨a, b, c⟩ := sp_t_div i
  unfold sp_V
  rw [if_neg a, b, c]
  rfl
theorem sp_V_t2 (I : sp_I) (i : Nat) : sp_V I (ad_t i) 2 = io_v (I (ad_t i) 2) := by
  obtain ⟨a, b, c⟩ := sp_t_div i
  unfold sp_V
  rw [if_neg a, b, c]
  rfl
theorem sp_V_t5 (I : sp_I) (i : Nat) : sp_V I (ad_t i) 5 = io_v (I (ad_t i) 5) := by
  obtain ⟨a, b, c⟩ := sp_t_div i
  unfold sp_V
  rw [if_neg a, b, c]
  rfl
theorem sp_V_t6 (I : sp_I) (i : Nat) : sp_V I (ad_t i) 6 = io_v (I (ad_t i) 6) := by
  obtain ⟨a, b, c⟩ := sp_t_div i
  unfold sp_V
  rw [if_neg a, b, c]
  rfl
theorem sp_V_t7 (I : sp_I) (i : Nat) : sp_V I (ad_t i) 7 = io_v (I (ad_t i) 7) := by
  obtain ⟨a, b, c⟩ := sp_t_div i
  unfold sp_V
  rw [if_neg a, b, c]
  rfl
theorem sp_V_t8 (I : sp_I) (i : Nat) : sp_V I (ad_t i) 8 = io_v (I (ad_t i) 8) := by
  obtain ⟨a, b, c⟩ := sp_t_div i
  unfold sp_V
  rw [if_neg a, b, c]
  rfl
theorem sp_V_t9 (I : sp_I) (i : Nat) : sp_V I (ad_t i) 9 = io_v (I (ad_t i) 9) := by
  obtain ⟨a, b, c⟩ := sp_t_div i
  unfold sp_V
  rw [if_neg a, b, c]
  rfl
theorem sp_V_t3 (I : sp_I) (i : Nat) : sp_V I (ad_t i) 3 = .ref (ad_a i) := by
  obtain ⟨a, b, c⟩ := sp_t_div i
  unfold sp_V
  rw [if_neg a, b, c]
  rfl
theorem sp_V_t4 (I : sp_I) (i : Nat) : sp_V I (ad_t i) 4 = .ref (ad_j i) := by
  obtain ⟨a, b, c⟩ := sp_t_div i
  unfold sp_V
  rw [if_neg a, b, c]
  rfl
theorem sp_V_j0 (I : sp_I) (i : Nat) : sp_V I (ad_j i) 0 = .ref (ad_c i) := by
  obtain ⟨a, b, c⟩ := sp_j_div i
  unfold sp_V
  rw [if_neg a, b, c]
  rfl
theorem sp_V_j1 (I : sp_I) (i : Nat) : sp_V I (ad_j i) 1 = io_v (I (ad_j i) 1) := by
  obtain ⟨a, b, c⟩ := sp_j_div i
  unfold sp_V
  rw [if_neg a, b, c]
  rfl
theorem sp_V_j2 (I : sp_I) (i : Nat) : sp_V I (ad_j i) 2 = io_v (I (ad_j i) 2) := by
  obtain ⟨a, b, c⟩ := sp_j_div i
  unfold sp_V
  rw [if_neg a, b, c]
  rfl
theorem sp_V_j3 (I : sp_I) (i : Nat) : sp_V I (ad_j i) 3 = io_v (I (ad_j i) 3) := by
  obtain ⟨a, b, c⟩ := sp_j_div i
  unfold sp_V
  rw [if_neg a, b, c]
  rfl
theorem sp_V_j4 (I : sp_I) (i : Nat) : sp_V I (ad_j i) 4 = io_v (I (ad_j i) 4) := by
  obtain ⟨a, b, c⟩ := sp_j_div i
  unfold sp_V
  rw [if_neg a, b, c]
  rfl
theorem sp_V_j5 (I : sp_I) (i : Nat) : sp_V I (ad_j i) 5 = io_v (I (ad_j i) 5) := by
  obtain ⟨a, b, c⟩ := sp_j_div i
  unfold sp_V
  rw [if_neg a, b, c]
  rfl
theorem sp_V_j6 (I : sp_I) (i : Nat) : sp_V I (ad_j i) 6 = io_v (I (ad_j i) 6) := by
  obtain ⟨a, b, c⟩ := sp_j_div i
  unfold sp_V
  rw [if_neg a, b, c]
  rfl
theorem sp_V_c (I : sp_I) (i k : Nat) : sp_V I (ad_c i) k = io_v (I (ad_c i) k) := by
  obtain ⟨a, b, c⟩ := sp_c_div i
  unfold sp_V
  rw [if_neg a, b, c]
  rfl
theorem sp_V_s {I : sp_I} {i k j : Nat} (h : k < 4) : sp_V I (ad_s i k) j = io_v (I (ad_s i k) j) := by
  obtain ⟨a, b, c⟩ := sp_s_div i k h
  unfold sp_V
  rw [if_neg a, b, c]
  rfl
/-- what a store of a number does -/
theorem sp_wr {I : sp_I} {x k c s : Nat} {a : Int} (hx : ∀ J : sp_I, sp_V J x k = io_v (J x k)) (h4 : ¬ (0 = x ∧ 4 = k)) (h5 : ∀ i, ¬ (ad_t i = x ∧ 5 = k)) (h30 : ¬ (30 = x ∧ 0 = k)) : mm_wr (sp_me I c s) x k (io_v a) = sp_me (up_I I x k a) c s := by
  have hn : sp_n (up_I I x k a) = sp_n I := by unfold sp_n up_I; rw [if_neg h4]
  have hc : ∀ i, sp_c (up_I I x k a) i = sp_c I i := fun i => by unfold sp_c up_I; rw [if_neg (h5 i)]
  have h3 : up_I I x k a 30 0 = I 30 0 := by unfold up_I; rw [if_neg h30]
  have hT : sp_T (up_I I x k a) = sp_T I := by
    funext y
    unfold sp_T sp_T0 sp_T1
    simp only [hn, hc, h3]
  have hV : mm_up (sp_V I) x k (io_v a) = sp_V (up_I I x k a) := by
    funext y j
    unfold mm_up
    by_cases e : y = x ∧ j = k
    · rw [if_pos e]
      obtain ⟨rfl, rfl⟩ := e
      rw [hx, up_same]
    · rw [if_neg e]
      have e1 : up_I I x k a y j = I y j := by unfold up_I; rw [if_neg e]
      unfold sp_V
      split
      · unfold sp_V0
        split <;> first | (rw [hn]; done) | (split <;> first | rfl | (rw [e1]; done)) | (rw [e1]; done) | skip
      · unfold sp_V1
        split <;> first | (rw [hc]; done) | (split <;> first | rfl | (rw [e1]; done)) | (rw [e1]; done) | skip
  show (sp_T I, mm_up (sp_V I) x k (io_v a), c, s) = (sp_T (up_I I x k a), sp_V (up_I I x k a), c, s)
  rw [hV, hT]
