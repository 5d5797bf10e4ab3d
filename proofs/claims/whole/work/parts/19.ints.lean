/-! ints by their numbers -/
abbrev io_v (a : Int) : Value := .int (Int32.ofInt a)
abbrev io_R (a : Int) : Prop := -2147483648 ≤ a ∧ a < 2147483648
theorem io_toInt {a : Int} (h : io_R a) : (Int32.ofInt a).toInt = a := Int32.toInt_ofInt_of_le (by simpa using h.1) (by simpa using h.2)
theorem io_add (a b : Int) : Int32.ofInt a + Int32.ofInt b = Int32.ofInt (a + b) := (Int32.ofInt_add a b).symm
theorem io_sub (a b : Int) : Int32.ofInt a - Int32.ofInt b = Int32.ofInt (a - b) := (Int32.ofInt_sub a b).symm
theorem io_mul (a b : Int) : Int32.ofInt a * Int32.ofInt b = Int32.ofInt (a * b) := (Int32.ofInt_mul a b).symm
theorem io_lt {a b : Int} (ha : io_R a) (hb : io_R b) : (Int32.ofInt a < Int32.ofInt b) = (a < b) := by
  rw [Int32.lt_iff_toInt_lt, io_toInt ha, io_toInt hb]
theorem io_le {a b : Int} (ha : io_R a) (hb : io_R b) : (Int32.ofInt a ≤ Int32.ofInt b) = (a ≤ b) := by
  rw [Int32.le_iff_toInt_le, io_toInt ha, io_toInt hb]
theorem io_eq {a b : Int} (ha : io_R a) (hb : io_R b) : (Int32.ofInt a = Int32.ofInt b) = (a = b) := by
  rw [← Int32.toInt_inj, io_toInt ha, io_toInt hb]
theorem io_zero : (0 : Int32) = Int32.ofInt 0 := by decide
theorem io_one : (1 : Int32) = Int32.ofInt 1 := by decide
theorem io_lt0 {a : Int} (ha : io_R a) : (Int32.ofInt a < 0) = (a < 0) := by rw [io_zero, io_lt ha (by decide)]
theorem io_le0 {a : Int} (ha : io_R a) : (Int32.ofInt a ≤ 0) = (a ≤ 0) := by rw [io_zero, io_le ha (by decide)]
theorem io_0lt {a : Int} (ha : io_R a) : (0 < Int32.ofInt a) = (0 < a) := by rw [io_zero, io_lt (by decide) ha]
theorem io_0le {a : Int} (ha : io_R a) : (0 ≤ Int32.ofInt a) = (0 ≤ a) := by rw [io_zero, io_le (by decide) ha]
theorem io_eq0 {a : Int} (ha : io_R a) : (Int32.ofInt a = 0) = (a = 0) := by rw [io_zero, io_eq ha (by decide)]
theorem io_nat {a : Int} (ha : io_R a) : (Int32.ofInt a).toNatClampNeg = a.toNat := by
  show (Int32.ofInt a).toInt.toNat = a.toNat
  rw [io_toInt ha]
theorem io_of (x : Int32) : Int32.ofInt x.toInt = x := Int32.ofInt_toInt x
theorem io_rng (x : Int32) : io_R x.toInt := ⟨by have := x.le_toInt; simpa using this, by have := x.toInt_lt; simpa using this⟩
theorem io_max (a b : Int) (ha : io_R a) (hb : io_R b) : (if Int32.ofInt a < Int32.ofInt b then Int32.ofInt b else Int32.ofInt a) = Int32.ofInt (max a b) := by
  by_cases h : a < b
  · rw [if_pos (by rw [io_lt ha hb]; exact h), Int.max_eq_right (by omega)]
  · rw [if_neg (by rw [io_lt ha hb]; exact h), Int.max_eq_left (by omega)]
abbrev jo_R (a : Int) : Prop := -9223372036854775808 ≤ a ∧ a < 9223372036854775808
theorem jo_toInt {a : Int} (h : jo_R a) : (Int64.ofInt a).toInt = a := Int64.toInt_ofInt_of_le (by simpa using h.1) (by simpa using h.2)
theorem jo_i2l {a : Int} (ha : io_R a) : (Int32.ofInt a).toInt64 = Int64.ofInt a := by
  rw [← Int64.toInt_inj, Int32.toInt_toInt64, io_toInt ha, jo_toInt (by omega)]
theorem jo_add (a b : Int) : Int64.ofInt a + Int64.ofInt b = Int64.ofInt (a + b) := (Int64.ofInt_add a b).symm
theorem jo_sub (a b : Int) : Int64.ofInt a - Int64.ofInt b = Int64.ofInt (a - b) := (Int64.ofInt_sub a b).symm
theorem jo_mul (a b : Int) : Int64.ofInt a * Int64.ofInt b = Int64.ofInt (a * b) := (Int64.ofInt_mul a b).symm
theorem jo_div {a b : Int} (ha : 0 ≤ a ∧ a < 9223372036854775808) (hb : 0 < b ∧ b < 9223372036854775808) : Int64.ofInt a / Int64.ofInt b = Int64.ofInt (a / b) := by
  rw [← Int64.toInt_inj, lg_ldiv_nonneg (by rw [jo_toInt (by omega)]; exact ha.1) (by rw [jo_toInt (by omega)]; exact hb.1), jo_toInt (by omega), jo_toInt (by omega), jo_toInt]
  have h1 : 0 ≤ a / b := Int.ediv_nonneg ha.1 (by omega)
  have h2 : a / b ≤ a := Int.ediv_le_self b ha.1
  omega
theorem jo_le {a b : Int} (ha : jo_R a) (hb : jo_R b) : (Int64.ofInt a ≤ Int64.ofInt b) = (a ≤ b) := by
  rw [Int64.le_iff_toInt_le, jo_toInt ha, jo_toInt hb]
theorem jo_lt {a b : Int} (ha : jo_R a) (hb : jo_R b) : (Int64.ofInt a < Int64.ofInt b) = (a < b) := by
  rw [Int64.lt_iff_toInt_lt, jo_toInt ha, jo_toInt hb]
theorem jo_eq {a b : Int} (ha : jo_R a) (hb : jo_R b) : (Int64.ofInt a = Int64.ofInt b) = (a = b) := by
  rw [← Int64.toInt_inj, jo_toInt ha, jo_toInt hb]
