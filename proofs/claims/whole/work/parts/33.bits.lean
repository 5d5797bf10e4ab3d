/-! masks -/
theorem io_m7 (x : Int32) : x &&& Int32.ofInt 7 = Int32.ofInt ((x.toBitVec.toNat % 8 : Nat) : Int) := by
  apply Int32.toBitVec_inj.mp
  rw [Int32.toBitVec_and]
  apply BitVec.eq_of_toNat_eq
  rw [BitVec.toNat_and]
  have h := Nat.and_two_pow_sub_one_eq_mod x.toBitVec.toNat 3
  rw [show ((Int32.ofInt 7).toBitVec.toNat) = 2 ^ 3 - 1 from by decide, h, Int32.ofInt_eq_ofNat]
  show _ = (BitVec.ofNat 32 (x.toBitVec.toNat % 8)).toNat
  rw [BitVec.toNat_ofNat]
  omega
theorem io_m63 (x : Int32) : x &&& Int32.ofInt 63 = Int32.ofInt ((x.toBitVec.toNat % 64 : Nat) : Int) := by
  apply Int32.toBitVec_inj.mp
  rw [Int32.toBitVec_and]
  apply BitVec.eq_of_toNat_eq
  rw [BitVec.toNat_and]
  have h := Nat.and_two_pow_sub_one_eq_mod x.toBitVec.toNat 6
  rw [show ((Int32.ofInt 63).toBitVec.toNat) = 2 ^ 6 - 1 from by decide, h, Int32.ofInt_eq_ofNat]
  show _ = (BitVec.ofNat 32 (x.toBitVec.toNat % 64)).toNat
  rw [BitVec.toNat_ofNat]
  omega
theorem io_m31 (x : Int32) : x &&& Int32.ofInt 31 = Int32.ofInt ((x.toBitVec.toNat % 32 : Nat) : Int) := by
  apply Int32.toBitVec_inj.mp
  rw [Int32.toBitVec_and]
  apply BitVec.eq_of_toNat_eq
  rw [BitVec.toNat_and]
  have h := Nat.and_two_pow_sub_one_eq_mod x.toBitVec.toNat 5
  rw [show ((Int32.ofInt 31).toBitVec.toNat) = 2 ^ 5 - 1 from by decide, h, Int32.ofInt_eq_ofNat]
  show _ = (BitVec.ofNat 32 (x.toBitVec.toNat % 32)).toNat
  rw [BitVec.toNat_ofNat]
  omega
theorem io_bn {a : Int} (h0 : 0 ≤ a) (h1 : a < 2147483648) : (Int32.ofInt a).toBitVec.toNat = a.toNat := by
  obtain ⟨n, rfl⟩ : ∃ n : Nat, a = n := ⟨a.toNat, by omega⟩
  rw [Int32.ofInt_eq_ofNat]
  show (BitVec.ofNat 32 n).toNat = _
  rw [BitVec.toNat_ofNat]
  omega
theorem io_and7 {a : Int} (h0 : 0 ≤ a ∧ a < 2147483648) : Int32.ofInt a &&& Int32.ofInt 7 = Int32.ofInt (a % 8) := by
  rw [io_m7, io_bn h0.1 h0.2]
  congr 1
  omega
theorem io_and63 {a : Int} (h0 : 0 ≤ a ∧ a < 2147483648) : Int32.ofInt a &&& Int32.ofInt 63 = Int32.ofInt (a % 64) := by
  rw [io_m63, io_bn h0.1 h0.2]
  congr 1
  omega
