/-! a row an instruction of the program -/
theorem tb_104_0 : mm_tb pg_G 104 0 = some (.new 7, 0, 0, 39) := rfl
theorem st_104_0 {d : Nat} {ls t : List Value} {g : mm_M} {r : mm_R} {x : Nat} (hx : mm_pk pg_G 104 0 ls g.2.1 = x) (hT : g.1 x = none) : mm_Rn pg_G d 104 0 ls (t) g r ↔ mm_Rn pg_G d 104 3 ls (.ref x :: t) (mm_al g x 0 8 fun k => defaultValue (mm_ft pg_G 0 k)) r := rn_new tb_104_0 hx hT r
theorem tb_104_3 : mm_tb pg_G 104 3 = some (.dup, 0, 0, 0) := rfl
theorem st_104_3 {d : Nat} {ls t : List Value} {g : mm_M} {r : mm_R} {v : Value} (hc : mm_c1 v = true) : mm_Rn pg_G d 104 3 ls (v :: t) g r ↔ mm_Rn pg_G d 104 4 ls (v :: v :: t) g r := rn_dup tb_104_3 hc r
theorem tb_104_4 : mm_tb pg_G 104 4 = some (.invokespecial 9, 32, 1, 41) := rfl
theorem st_104_4 {d c s c' s' : Nat} {ls t : List Value} {I J : sp_I} {r : mm_R} {y : Nat} (hl : t.length ≤ 4) (hq : mm_Rn pg_G d 32 0 [.ref y] [] (sp_me I 0 0) (none, sp_me J c' s')) : mm_Rn pg_G (d + 1) 104 4 ls (.ref y :: t) (sp_me I c s) r ↔ mm_Rn pg_G (d + 1) 104 7 ls (t) (sp_me J (c + c') (s + s')) r := rn_spec (g := sp_me I c s) (st := .ref y :: t) tb_104_4 (by decide) rfl ⟨Nat.le_add_left _ t.length, hl, rfl⟩ hq r
theorem tb_104_7 : mm_tb pg_G 104 7 = some (.astore_n 1, 0, 0, 0) := rfl
theorem st_104_7 {l0 l1 l2 l3 : Value} {d : Nat} {t : List Value} {g : mm_M} {r : mm_R} {x : Nat} (hc : mm_c1 l0 = true) : mm_Rn pg_G d 104 7 [l0, l1, l2, l3] (.ref x :: t) g r ↔ mm_Rn pg_G d 104 8 [l0, .ref x, l2, l3] (t) g r := rn_astore_n tb_104_7 (mm_so_of (ls := [l0, l1, l2, l3]) (v := l0) (Nat.le_of_ble_eq_true rfl) rfl hc) r
theorem tb_104_8 : mm_tb pg_G 104 8 = some (.new 10, 6, 0, 416) := rfl
theorem st_104_8 {d : Nat} {ls t : List Value} {g : mm_M} {r : mm_R} {x : Nat} (hx : mm_pk pg_G 104 8 ls g.2.1 = x) (hT : g.1 x = none) : mm_Rn pg_G d 104 8 ls (t) g r ↔ mm_Rn pg_G d 104 11 ls (.ref x :: t) (mm_al g x 6 35 fun k => defaultValue (mm_ft pg_G 6 k)) r := rn_new tb_104_8 hx hT r
theorem tb_104_11 : mm_tb pg_G 104 11 = some (.dup, 0, 0, 0) := rfl
theorem st_104_11 {d : Nat} {ls t : List Value} {g : mm_M} {r : mm_R} {v : Value} (hc : mm_c1 v = true) : mm_Rn pg_G d 104 11 ls (v :: t) g r ↔ mm_Rn pg_G d 104 12 ls (v :: v :: t) g r := rn_dup tb_104_11 hc r
theorem tb_104_12 : mm_tb pg_G 104 12 = some (.invokespecial 12, 68, 1, 418) := rfl
theorem st_104_12 {d c s c' s' : Nat} {ls t : List Value} {I J : sp_I} {r : mm_R} {y : Nat} (hl : t.length ≤ 4) (hq : mm_Rn pg_G d 68 0 [.ref y] [] (sp_me I 0 0) (none, sp_me J c' s')) : mm_Rn pg_G (d + 1) 104 12 ls (.ref y :: t) (sp_me I c s) r ↔ mm_Rn pg_G (d + 1) 104 15 ls (t) (sp_me J (c + c') (s + s')) r := rn_spec (g := sp_me I c s) (st := .ref y :: t) tb_104_12 (by decide) rfl ⟨Nat.le_add_left _ t.length, hl, rfl⟩ hq r
theorem tb_104_15 : mm_tb pg_G 104 15 = some (.astore_n 2, 0, 0, 0) := rfl
theorem st_104_15 {l0 l1 l2 l3 : Value} {d : Nat} {t : List Value} {g : mm_M} {r : mm_R} {x : Nat} (hc : mm_c1 l1 = true) : mm_Rn pg_G d 104 15 [l0, l1, l2, l3] (.ref x :: t) g r ↔ mm_Rn pg_G d 104 16 [l0, l1, .ref x, l3] (t) g r := rn_astore_n tb_104_15 (mm_so_of (ls := [l0, l1, l2, l3]) (v := l1) (Nat.le_of_ble_eq_true rfl) rfl hc) r
theorem tb_104_16 : mm_tb pg_G 104 16 = some (.iconst 0, 0, 0, 0) := rfl
theorem st_104_16 {d : Nat} {ls t : List Value} {g : mm_M} {r : mm_R} : mm_Rn pg_G d 104 16 ls (t) g r ↔ mm_Rn pg_G d 104 17 ls (io_v 0 :: t) g r := rn_iconst tb_104_16 r
theorem tb_104_17 : mm_tb pg_G 104 17 = some (.istore_n 3, 0, 0, 0) := rfl
theorem st_104_17 {l0 l1 l2 l3 : Value} {d : Nat} {t : List Value} {g : mm_M} {r : mm_R} {x : Int32} (hc : mm_c1 l2 = true) : mm_Rn pg_G d 104 17 [l0, l1, l2, l3] (.int x :: t) g r ↔ mm_Rn pg_G d 104 18 [l0, l1, l2, .int x] (t) g r := rn_istore_n tb_104_17 (mm_so_of (ls := [l0, l1, l2, l3]) (v := l2) (Nat.le_of_ble_eq_true rfl) rfl hc) r
theorem tb_104_18 : mm_tb pg_G 104 18 = some (.iload_n 3, 0, 0, 0) := rfl
theorem st_104_18 {l0 l1 l2 : Value} {d : Nat} {t : List Value} {g : mm_M} {r : mm_R} {x : Int32} : mm_Rn pg_G d 104 18 [l0, l1, l2, .int x] (t) g r ↔ mm_Rn pg_G d 104 19 [l0, l1, l2, .int x] (.int x :: t) g r := rn_iload_n tb_104_18 rfl r
theorem tb_104_19 : mm_tb pg_G 104 19 = some (.aload_n 0, 0, 0, 0) := rfl
theorem st_104_19 {l1 l2 l3 : Value} {d : Nat} {t : List Value} {g : mm_M} {r : mm_R} {x : Nat} : mm_Rn pg_G d 104 19 [.ref x, l1, l2, l3] (t) g r ↔ mm_Rn pg_G d 104 20 [.ref x, l1, l2, l3] (.ref x :: t) g r := rn_aload_n tb_104_19 rfl r
theorem tb_104_20 : mm_tb pg_G 104 20 = some (.arraylength, 0, 0, 0) := rfl
theorem st_104_20 {d : Nat} {ls t : List Value} {g : mm_M} {r : mm_R} {x kd len : Nat} (hT : g.1 x = some (kd, len)) (h1 : 100 ≤ kd) (h2 : kd ≤ 103) : mm_Rn pg_G d 104 20 ls (.ref x :: t) g r ↔ mm_Rn pg_G d 104 21 ls (.int (Int32.ofNat len) :: t) g r := rn_alen tb_104_20 hT h1 h2 r
theorem tb_104_21 : mm_tb pg_G 104 21 = some (.iconst 5, 0, 0, 0) := rfl
theorem st_104_21 {d : Nat} {ls t : List Value} {g : mm_M} {r : mm_R} : mm_Rn pg_G d 104 21 ls (t) g r ↔ mm_Rn pg_G d 104 22 ls (io_v 5 :: t) g r := rn_iconst tb_104_21 r
theorem tb_104_22 : mm_tb pg_G 104 22 = some (.isub, 0, 0, 0) := rfl
theorem st_104_22 {d : Nat} {ls t : List Value} {g : mm_M} {r : mm_R} {x y : Int32} : mm_Rn pg_G d 104 22 ls (.int y :: .int x :: t) g r ↔ mm_Rn pg_G d 104 23 ls (.int (x - y) :: t) g r := rn_isub tb_104_22 r
theorem tb_104_23 : mm_tb pg_G 104 23 = some (.if_icmp .gt 584, 607, 0, 0) := rfl
theorem st_104_23 {d : Nat} {ls t : List Value} {g : mm_M} {r : mm_R} {x y : Int32} : mm_Rn pg_G d 104 23 ls (.int y :: .int x :: t) g r ↔ if y < x then mm_Rn pg_G d 104 607 ls (t) g r else mm_Rn pg_G d 104 26 ls (t) g r := rn_icmp_gt tb_104_23 r
theorem tb_104_26 : mm_tb pg_G 104 26 = some (.aload_n 0, 0, 0, 0) := rfl
theorem st_104_26 {l1 l2 l3 : Value} {d : Nat} {t : List Value} {g : mm_M} {r : mm_R} {x : Nat} : mm_Rn pg_G d 104 26 [.ref x, l1, l2, l3] (t) g r ↔ mm_Rn pg_G d 104 27 [.ref x, l1, l2, l3] (.ref x :: t) g r := rn_aload_n tb_104_26 rfl r
theorem tb_104_27 : mm_tb pg_G 104 27 = some (.iload_n 3, 0, 0, 0) := rfl
theorem st_104_27 {l0 l1 l2 : Value} {d : Nat} {t : List Value} {g : mm_M} {r : mm_R} {x : Int32} : mm_Rn pg_G d 104 27 [l0, l1, l2, .int x] (t) g r ↔ mm_Rn pg_G d 104 28 [l0, l1, l2, .int x] (.int x :: t) g r := rn_iload_n tb_104_27 rfl r
theorem tb_104_28 : mm_tb pg_G 104 28 = some (.iaload, 0, 0, 0) := rfl
theorem st_104_28 {d : Nat} {ls t : List Value} {g : mm_M} {r : mm_R} {x : Nat} {j : Int32} (hc : mm_in (g.1 x) 100 101 j = true) : mm_Rn pg_G d 104 28 ls (.int j :: .ref x :: t) g r ↔ mm_Rn pg_G d 104 29 ls (g.2.1 x j.toNatClampNeg :: t) g r := rn_iaload tb_104_28 hc r
theorem tb_104_29 : mm_tb pg_G 104 29 = some (.bipush 31, 0, 0, 0) := rfl
theorem st_104_29 {d : Nat} {ls t : List Value} {g : mm_M} {r : mm_R} : mm_Rn pg_G d 104 29 ls (t) g r ↔ mm_Rn pg_G d 104 31 ls (io_v 31 :: t) g r := rn_bipush tb_104_29 r
theorem tb_104_31 : mm_tb pg_G 104 31 = some (.iand, 0, 0, 0) := rfl
theorem st_104_31 {d : Nat} {ls t : List Value} {g : mm_M} {r : mm_R} {x y : Int32} : mm_Rn pg_G d 104 31 ls (.int y :: .int x :: t) g r ↔ mm_Rn pg_G d 104 32 ls (.int (x &&& y) :: t) g r := rn_iand tb_104_31 r
theorem tb_104_32 : mm_tb pg_G 104 32 = some (.tableswitch 569 0 18 #[92, 135, 188, 221, 234, 247, 270, 303, 326, 349, 362, 385, 408, 431, 444, 477, 500, 523, 546], 0, 92, 0) := rfl
theorem st_104_32_d {d : Nat} {ls t : List Value} {g : mm_M} {r : mm_R} {x : Int32} (hx : x.toInt < 0 ∨ 18 < x.toInt) : mm_Rn pg_G d 104 32 ls (.int x :: t) g r ↔ mm_Rn pg_G d 104 601 ls (t) g r := rn_ts tb_104_32 (if_pos hx) rfl r
theorem st_104_32_0 {d : Nat} {ls t : List Value} {g : mm_M} {r : mm_R} {x : Int32} (hx : x.toInt = 0) : mm_Rn pg_G d 104 32 ls (.int x :: t) g r ↔ mm_Rn pg_G d 104 124 ls (t) g r := rn_ts (off := 92) tb_104_32 (by rw [hx]; rfl) rfl r
theorem st_104_32_1 {d : Nat} {ls t : List Value} {g : mm_M} {r : mm_R} {x : Int32} (hx : x.toInt = 1) : mm_Rn pg_G d 104 32 ls (.int x :: t) g r ↔ mm_Rn pg_G d 104 167 ls (t) g r := rn_ts (off := 135) tb_104_32 (by rw [hx]; rfl) rfl r
theorem st_104_32_2 {d : Nat} {ls t : List Value} {g : mm_M} {r : mm_R} {x : Int32} (hx : x.toInt = 2) : mm_Rn pg_G d 104 32 ls (.int x :: t) g r ↔ mm_Rn pg_G d 104 220 ls (t) g r := rn_ts (off := 188) tb_104_32 (by rw [hx]; rfl) rfl r
theorem st_104_32_3 {d : Nat} {ls t : List Value} {g : mm_M} {r : mm_R} {x : Int32} (hx : x.toInt = 3) : mm_Rn pg_G d 104 32 ls (.int x :: t) g r ↔ mm_Rn pg_G d 104 253 ls (t) g r := rn_ts (off := 221) tb_104_32 (by rw [hx]; rfl) rfl r
theorem st_104_32_4 {d : Nat} {ls t : List Value} {g : mm_M} {r : mm_R} {x : Int32} (hx : x.toInt = 4) : mm_Rn pg_G d 104 32 ls (.int x :: t) g r ↔ mm_Rn pg_G d 104 266 ls (t) g r := rn_ts (off := 234) tb_104_32 (by rw [hx]; rfl) rfl r
theorem st_104_32_5 {d : Nat} {ls t : List Value} {g : mm_M} {r : mm_R} {x : Int32} (hx : x.toInt = 5) : mm_Rn pg_G d 104 32 ls (.int x :: t) g r ↔ mm_Rn pg_G d 104 279 ls (t) g r := rn_ts (off := 247) tb_104_32 (by rw [hx]; rfl) rfl r
theorem st_104_32_6 {d : Nat} {ls t : List Value} {g : mm_M} {r : mm_R} {x : Int32} (hx : x.toInt = 6) : mm_Rn pg_G d 104 32 ls (.int x :: t) g r ↔ mm_Rn pg_G d 104 302 ls (t) g r := rn_ts (off := 270) tb_104_32 (by rw [hx]; rfl) rfl r
theorem st_104_32_7 {d : Nat} {ls t : List Value} {g : mm_M} {r : mm_R} {x : Int32} (hx : x.toInt = 7) : mm_Rn pg_G d 104 32 ls (.int x :: t) g r ↔ mm_Rn pg_G d 104 335 ls (t) g r := rn_ts (off := 303) tb_104_32 (by rw [hx]; rfl) rfl r
theorem st_104_32_8 {d : Nat} {ls t : List Value} {g : mm_M} {r : mm_R} {x : Int32} (hx : x.toInt = 8) : mm_Rn pg_G d 104 32 ls (.int x :: t) g r ↔ mm_Rn pg_G d 104 358 ls (t) g r := rn_ts (off := 326) tb_104_32 (by rw [hx]; rfl) rfl r
theorem st_104_32_9 {d : Nat} {ls t : List Value} {g : mm_M} {r : mm_R} {x : Int32} (hx : x.toInt = 9) : mm_Rn pg_G d 104 32 ls (.int x :: t) g r ↔ mm_Rn pg_G d 104 381 ls (t) g r := rn_ts (off := 349) tb_104_32 (by rw [hx]; rfl) rfl r
theorem st_104_32_10 {d : Nat} {ls t : List Value} {g : mm_M} {r : mm_R} {x : Int32} (hx : x.toInt = 10) : mm_Rn pg_G d 104 32 ls (.int x :: t) g r ↔ mm_Rn pg_G d 104 394 ls (t) g r := rn_ts (off := 362) tb_104_32 (by rw [hx]; rfl) rfl r
theorem st_104_32_11 {d : Nat} {ls t : List Value} {g : mm_M} {r : mm_R} {x : Int32} (hx : x.toInt = 11) : mm_Rn pg_G d 104 32 ls (.int x :: t) g r ↔ mm_Rn pg_G d 104 417 ls (t) g r := rn_ts (off := 385) tb_104_32 (by rw [hx]; rfl) rfl r
theorem st_104_32_12 {d : Nat} {ls t : List Value} {g : mm_M} {r : mm_R} {x : Int32} (hx : x.toInt = 12) : mm_Rn pg_G d 104 32 ls (.int x :: t) g r ↔ mm_Rn pg_G d 104 440 ls (t) g r := rn_ts (off := 408) tb_104_32 (by rw [hx]; rfl) rfl r
theorem st_104_32_13 {d : Nat} {ls t : List Value} {g : mm_M} {r : mm_R} {x : Int32} (hx : x.toInt = 13) : mm_Rn pg_G d 104 32 ls (.int x :: t) g r ↔ mm_Rn pg_G d 104 463 ls (t) g r := rn_ts (off := 431) tb_104_32 (by rw [hx]; rfl) rfl r
theorem st_104_32_14 {d : Nat} {ls t : List Value} {g : mm_M} {r : mm_R} {x : Int32} (hx : x.toInt = 14) : mm_Rn pg_G d 104 32 ls (.int x :: t) g r ↔ mm_Rn pg_G d 104 476 ls (t) g r := rn_ts (off := 444) tb_104_32 (by rw [hx]; rfl) rfl r
theorem st_104_32_15 {d : Nat} {ls t : List Value} {g : mm_M} {r : mm_R} {x : Int32} (hx : x.toInt = 15) : mm_Rn pg_G d 104 32 ls (.int x :: t) g r ↔ mm_Rn pg_G d 104 509 ls (t) g r := rn_ts (off := 477) tb_104_32 (by rw [hx]; rfl) rfl r
theorem st_104_32_16 {d : Nat} {ls t : List Value} {g : mm_M} {r : mm_R} {x : Int32} (hx : x.toInt = 16) : mm_Rn pg_G d 104 32 ls (.int x :: t) g r ↔ mm_Rn pg_G d 104 532 ls (t) g r := rn_ts (off := 500) tb_104_32 (by rw [hx]; rfl) rfl r
theorem st_104_32_17 {d : Nat} {ls t : List Value} {g : mm_M} {r : mm_R} {x : Int32} (hx : x.toInt = 17) : mm_Rn pg_G d 104 32 ls (.int x :: t) g r ↔ mm_Rn pg_G d 104 555 ls (t) g r := rn_ts (off := 523) tb_104_32 (by rw [hx]; rfl) rfl r
theorem st_104_32_18 {d : Nat} {ls t : List Value} {g : mm_M} {r : mm_R} {x : Int32} (hx : x.toInt = 18) : mm_Rn pg_G d 104 32 ls (.int x :: t) g r ↔ mm_Rn pg_G d 104 578 ls (t) g r := rn_ts (off := 546) tb_104_32 (by rw [hx]; rfl) rfl r
theorem tb_104_124 : mm_tb pg_G 104 124 = some (.aload_n 1, 0, 0, 0) := rfl
theorem st_104_124 {l0 l2 l3 : Value} {d : Nat} {t : List Value} {g : mm_M} {r : mm_R} {x : Nat} : mm_Rn pg_G d 104 124 [l0, .ref x, l2, l3] (t) g r ↔ mm_Rn pg_G d 104 125 [l0, .ref x, l2, l3] (.ref x :: t) g r := rn_aload_n tb_104_124 rfl r
theorem tb_104_125 : mm_tb pg_G 104 125 = some (.aload_n 0, 0, 0, 0) := rfl
theorem st_104_125 {l1 l2 l3 : Value} {d : Nat} {t : List Value} {g : mm_M} {r : mm_R} {x : Nat} : mm_Rn pg_G d 104 125 [.ref x, l1, l2, l3] (t) g r ↔ mm_Rn pg_G d 104 126 [.ref x, l1, l2, l3] (.ref x :: t) g r := rn_aload_n tb_104_125 rfl r
theorem tb_104_126 : mm_tb pg_G 104 126 = some (.iload_n 3, 0, 0, 0) := rfl
theorem st_104_126 {l0 l1 l2 : Value} {d : Nat} {t : List Value} {g : mm_M} {r : mm_R} {x : Int32} : mm_Rn pg_G d 104 126 [l0, l1, l2, .int x] (t) g r ↔ mm_Rn pg_G d 104 127 [l0, l1, l2, .int x] (.int x :: t) g r := rn_iload_n tb_104_126 rfl r
theorem tb_104_127 : mm_tb pg_G 104 127 = some (.iconst 1, 0, 0, 0) := rfl
theorem st_104_127 {d : Nat} {ls t : List Value} {g : mm_M} {r : mm_R} : mm_Rn pg_G d 104 127 ls (t) g r ↔ mm_Rn pg_G d 104 128 ls (io_v 1 :: t) g r := rn_iconst tb_104_127 r
theorem tb_104_128 : mm_tb pg_G 104 128 = some (.iadd, 0, 0, 0) := rfl
theorem st_104_128 {d : Nat} {ls t : List Value} {g : mm_M} {r : mm_R} {x y : Int32} : mm_Rn pg_G d 104 128 ls (.int y :: .int x :: t) g r ↔ mm_Rn pg_G d 104 129 ls (.int (x + y) :: t) g r := rn_iadd tb_104_128 r
theorem tb_104_129 : mm_tb pg_G 104 129 = some (.iaload, 0, 0, 0) := rfl
theorem st_104_129 {d : Nat} {ls t : List Value} {g : mm_M} {r : mm_R} {x : Nat} {j : Int32} (hc : mm_in (g.1 x) 100 101 j = true) : mm_Rn pg_G d 104 129 ls (.int j :: .ref x :: t) g r ↔ mm_Rn pg_G d 104 130 ls (g.2.1 x j.toNatClampNeg :: t) g r := rn_iaload tb_104_129 hc r
theorem tb_104_130 : mm_tb pg_G 104 130 = some (.aload_n 0, 0, 0, 0) := rfl
theorem st_104_130 {l1 l2 l3 : Value} {d : Nat} {t : List Value} {g : mm_M} {r : mm_R} {x : Nat} : mm_Rn pg_G d 104 130 [.ref x, l1, l2, l3] (t) g r ↔ mm_Rn pg_G d 104 131 [.ref x, l1, l2, l3] (.ref x :: t) g r := rn_aload_n tb_104_130 rfl r
theorem tb_104_131 : mm_tb pg_G 104 131 = some (.iload_n 3, 0, 0, 0) := rfl
theorem st_104_131 {l0 l1 l2 : Value} {d : Nat} {t : List Value} {g : mm_M} {r : mm_R} {x : Int32} : mm_Rn pg_G d 104 131 [l0, l1, l2, .int x] (t) g r ↔ mm_Rn pg_G d 104 132 [l0, l1, l2, .int x] (.int x :: t) g r := rn_iload_n tb_104_131 rfl r
theorem tb_104_132 : mm_tb pg_G 104 132 = some (.iconst 2, 0, 0, 0) := rfl
theorem st_104_132 {d : Nat} {ls t : List Value} {g : mm_M} {r : mm_R} : mm_Rn pg_G d 104 132 ls (t) g r ↔ mm_Rn pg_G d 104 133 ls (io_v 2 :: t) g r := rn_iconst tb_104_132 r
theorem tb_104_133 : mm_tb pg_G 104 133 = some (.iadd, 0, 0, 0) := rfl
theorem st_104_133 {d : Nat} {ls t : List Value} {g : mm_M} {r : mm_R} {x y : Int32} : mm_Rn pg_G d 104 133 ls (.int y :: .int x :: t) g r ↔ mm_Rn pg_G d 104 134 ls (.int (x + y) :: t) g r := rn_iadd tb_104_133 r
theorem tb_104_134 : mm_tb pg_G 104 134 = some (.iaload, 0, 0, 0) := rfl
theorem st_104_134 {d : Nat} {ls t : List Value} {g : mm_M} {r : mm_R} {x : Nat} {j : Int32} (hc : mm_in (g.1 x) 100 101 j = true) : mm_Rn pg_G d 104 134 ls (.int j :: .ref x :: t) g r ↔ mm_Rn pg_G d 104 135 ls (g.2.1 x j.toNatClampNeg :: t) g r := rn_iaload tb_104_134 hc r
theorem tb_104_135 : mm_tb pg_G 104 135 = some (.aload_n 0, 0, 0, 0) := rfl
theorem st_104_135 {l1 l2 l3 : Value} {d : Nat} {t : List Value} {g : mm_M} {r : mm_R} {x : Nat} : mm_Rn pg_G d 104 135 [.ref x, l1, l2, l3] (t) g r ↔ mm_Rn pg_G d 104 136 [.ref x, l1, l2, l3] (.ref x :: t) g r := rn_aload_n tb_104_135 rfl r
theorem tb_104_136 : mm_tb pg_G 104 136 = some (.iload_n 3, 0, 0, 0) := rfl
theorem st_104_136 {l0 l1 l2 : Value} {d : Nat} {t : List Value} {g : mm_M} {r : mm_R} {x : Int32} : mm_Rn pg_G d 104 136 [l0, l1, l2, .int x] (t) g r ↔ mm_Rn pg_G d 104 137 [l0, l1, l2, .int x] (.int x :: t) g r := rn_iload_n tb_104_136 rfl r
theorem tb_104_137 : mm_tb pg_G 104 137 = some (.iconst 3, 0, 0, 0) := rfl
theorem st_104_137 {d : Nat} {ls t : List Value} {g : mm_M} {r : mm_R} : mm_Rn pg_G d 104 137 ls (t) g r ↔ mm_Rn pg_G d 104 138 ls (io_v 3 :: t) g r := rn_iconst tb_104_137 r
theorem tb_104_138 : mm_tb pg_G 104 138 = some (.iadd, 0, 0, 0) := rfl
theorem st_104_138 {d : Nat} {ls t : List Value} {g : mm_M} {r : mm_R} {x y : Int32} : mm_Rn pg_G d 104 138 ls (.int y :: .int x :: t) g r ↔ mm_Rn pg_G d 104 139 ls (.int (x + y) :: t) g r := rn_iadd tb_104_138 r
theorem tb_104_139 : mm_tb pg_G 104 139 = some (.iaload, 0, 0, 0) := rfl
theorem st_104_139 {d : Nat} {ls t : List Value} {g : mm_M} {r : mm_R} {x : Nat} {j : Int32} (hc : mm_in (g.1 x) 100 101 j = true) : mm_Rn pg_G d 104 139 ls (.int j :: .ref x :: t) g r ↔ mm_Rn pg_G d 104 140 ls (g.2.1 x j.toNatClampNeg :: t) g r := rn_iaload tb_104_139 hc r
theorem tb_104_140 : mm_tb pg_G 104 140 = some (.invokevirtual 13, 33, 4, 109) := rfl
theorem st_104_140 {d c s c' s' : Nat} {ls t : List Value} {I J : sp_I} {r : mm_R} {a0 a1 a2 : Int32} {y : Nat} {v : Int32} (hl : t.length ≤ 4) (hT : sp_T I y = some (0, 8)) (hq : mm_Rn pg_G d 33 0 [.ref y, .int a0, .int a1, .int a2, .retAddr 0] [] (sp_me I 0 0) (some (.int v), sp_me J c' s')) : mm_Rn pg_G (d + 1) 104 140 ls (.int a2 :: .int a1 :: .int a0 :: .ref y :: t) (sp_me I c s) r ↔ mm_Rn pg_G (d + 1) 104 143 ls (.int v :: t) (sp_me J (c + c') (s + s')) r := rn_virt (g := sp_me I c s) (st := .int a2 :: .int a1 :: .int a0 :: .ref y :: t) tb_104_140 (decide_eq_true hT) ⟨Nat.le_add_left _ t.length, hl, rfl⟩ hq r
theorem tb_104_143 : mm_tb pg_G 104 143 = some (.aload_n 2, 0, 0, 0) := rfl
theorem st_104_143 {l0 l1 l3 : Value} {d : Nat} {t : List Value} {g : mm_M} {r : mm_R} {x : Nat} : mm_Rn pg_G d 104 143 [l0, l1, .ref x, l3] (t) g r ↔ mm_Rn pg_G d 104 144 [l0, l1, .ref x, l3] (.ref x :: t) g r := rn_aload_n tb_104_143 rfl r
theorem tb_104_144 : mm_tb pg_G 104 144 = some (.aload_n 0, 0, 0, 0) := rfl
theorem st_104_144 {l1 l2 l3 : Value} {d : Nat} {t : List Value} {g : mm_M} {r : mm_R} {x : Nat} : mm_Rn pg_G d 104 144 [.ref x, l1, l2, l3] (t) g r ↔ mm_Rn pg_G d 104 145 [.ref x, l1, l2, l3] (.ref x :: t) g r := rn_aload_n tb_104_144 rfl r
theorem tb_104_145 : mm_tb pg_G 104 145 = some (.iload_n 3, 0, 0, 0) := rfl
theorem st_104_145 {l0 l1 l2 : Value} {d : Nat} {t : List Value} {g : mm_M} {r : mm_R} {x : Int32} : mm_Rn pg_G d 104 145 [l0, l1, l2, .int x] (t) g r ↔ mm_Rn pg_G d 104 146 [l0, l1, l2, .int x] (.int x :: t) g r := rn_iload_n tb_104_145 rfl r
theorem tb_104_146 : mm_tb pg_G 104 146 = some (.iconst 1, 0, 0, 0) := rfl
theorem st_104_146 {d : Nat} {ls t : List Value} {g : mm_M} {r : mm_R} : mm_Rn pg_G d 104 146 ls (t) g r ↔ mm_Rn pg_G d 104 147 ls (io_v 1 :: t) g r := rn_iconst tb_104_146 r
theorem tb_104_147 : mm_tb pg_G 104 147 = some (.iadd, 0, 0, 0) := rfl
theorem st_104_147 {d : Nat} {ls t : List Value} {g : mm_M} {r : mm_R} {x y : Int32} : mm_Rn pg_G d 104 147 ls (.int y :: .int x :: t) g r ↔ mm_Rn pg_G d 104 148 ls (.int (x + y) :: t) g r := rn_iadd tb_104_147 r
theorem tb_104_148 : mm_tb pg_G 104 148 = some (.iaload, 0, 0, 0) := rfl
theorem st_104_148 {d : Nat} {ls t : List Value} {g : mm_M} {r : mm_R} {x : Nat} {j : Int32} (hc : mm_in (g.1 x) 100 101 j = true) : mm_Rn pg_G d 104 148 ls (.int j :: .ref x :: t) g r ↔ mm_Rn pg_G d 104 149 ls (g.2.1 x j.toNatClampNeg :: t) g r := rn_iaload tb_104_148 hc r
theorem tb_104_149 : mm_tb pg_G 104 149 = some (.aload_n 0, 0, 0, 0) := rfl
theorem st_104_149 {l1 l2 l3 : Value} {d : Nat} {t : List Value} {g : mm_M} {r : mm_R} {x : Nat} : mm_Rn pg_G d 104 149 [.ref x, l1, l2, l3] (t) g r ↔ mm_Rn pg_G d 104 150 [.ref x, l1, l2, l3] (.ref x :: t) g r := rn_aload_n tb_104_149 rfl r
theorem tb_104_150 : mm_tb pg_G 104 150 = some (.iload_n 3, 0, 0, 0) := rfl
theorem st_104_150 {l0 l1 l2 : Value} {d : Nat} {t : List Value} {g : mm_M} {r : mm_R} {x : Int32} : mm_Rn pg_G d 104 150 [l0, l1, l2, .int x] (t) g r ↔ mm_Rn pg_G d 104 151 [l0, l1, l2, .int x] (.int x :: t) g r := rn_iload_n tb_104_150 rfl r
theorem tb_104_151 : mm_tb pg_G 104 151 = some (.iconst 2, 0, 0, 0) := rfl
theorem st_104_151 {d : Nat} {ls t : List Value} {g : mm_M} {r : mm_R} : mm_Rn pg_G d 104 151 ls (t) g r ↔ mm_Rn pg_G d 104 152 ls (io_v 2 :: t) g r := rn_iconst tb_104_151 r
theorem tb_104_152 : mm_tb pg_G 104 152 = some (.iadd, 0, 0, 0) := rfl
theorem st_104_152 {d : Nat} {ls t : List Value} {g : mm_M} {r : mm_R} {x y : Int32} : mm_Rn pg_G d 104 152 ls (.int y :: .int x :: t) g r ↔ mm_Rn pg_G d 104 153 ls (.int (x + y) :: t) g r := rn_iadd tb_104_152 r
theorem tb_104_153 : mm_tb pg_G 104 153 = some (.iaload, 0, 0, 0) := rfl
theorem st_104_153 {d : Nat} {ls t : List Value} {g : mm_M} {r : mm_R} {x : Nat} {j : Int32} (hc : mm_in (g.1 x) 100 101 j = true) : mm_Rn pg_G d 104 153 ls (.int j :: .ref x :: t) g r ↔ mm_Rn pg_G d 104 154 ls (g.2.1 x j.toNatClampNeg :: t) g r := rn_iaload tb_104_153 hc r
theorem tb_104_154 : mm_tb pg_G 104 154 = some (.aload_n 0, 0, 0, 0) := rfl
theorem st_104_154 {l1 l2 l3 : Value} {d : Nat} {t : List Value} {g : mm_M} {r : mm_R} {x : Nat} : mm_Rn pg_G d 104 154 [.ref x, l1, l2, l3] (t) g r ↔ mm_Rn pg_G d 104 155 [.ref x, l1, l2, l3] (.ref x :: t) g r := rn_aload_n tb_104_154 rfl r
theorem tb_104_155 : mm_tb pg_G 104 155 = some (.iload_n 3, 0, 0, 0) := rfl
theorem st_104_155 {l0 l1 l2 : Value} {d : Nat} {t : List Value} {g : mm_M} {r : mm_R} {x : Int32} : mm_Rn pg_G d 104 155 [l0, l1, l2, .int x] (t) g r ↔ mm_Rn pg_G d 104 156 [l0, l1, l2, .int x] (.int x :: t) g r := rn_iload_n tb_104_155 rfl r
theorem tb_104_156 : mm_tb pg_G 104 156 = some (.iconst 3, 0, 0, 0) := rfl
theorem st_104_156 {d : Nat} {ls t : List Value} {g : mm_M} {r : mm_R} : mm_Rn pg_G d 104 156 ls (t) g r ↔ mm_Rn pg_G d 104 157 ls (io_v 3 :: t) g r := rn_iconst tb_104_156 r
theorem tb_104_157 : mm_tb pg_G 104 157 = some (.iadd, 0, 0, 0) := rfl
theorem st_104_157 {d : Nat} {ls t : List Value} {g : mm_M} {r : mm_R} {x y : Int32} : mm_Rn pg_G d 104 157 ls (.int y :: .int x :: t) g r ↔ mm_Rn pg_G d 104 158 ls (.int (x + y) :: t) g r := rn_iadd tb_104_157 r
theorem tb_104_158 : mm_tb pg_G 104 158 = some (.iaload, 0, 0, 0) := rfl
theorem st_104_158 {d : Nat} {ls t : List Value} {g : mm_M} {r : mm_R} {x : Nat} {j : Int32} (hc : mm_in (g.1 x) 100 101 j = true) : mm_Rn pg_G d 104 158 ls (.int j :: .ref x :: t) g r ↔ mm_Rn pg_G d 104 159 ls (g.2.1 x j.toNatClampNeg :: t) g r := rn_iaload tb_104_158 hc r
theorem tb_104_159 : mm_tb pg_G 104 159 = some (.invokevirtual 17, 70, 4, 492) := rfl
theorem st_104_159 {d c s c' s' : Nat} {ls t : List Value} {I J : sp_I} {r : mm_R} {a0 a1 a2 : Int32} {y : Nat} {v : Int32} (hl : t.length ≤ 4) (hT : sp_T I y = some (6, 35)) (hq : mm_Rn pg_G d 70 0 [.ref y, .int a0, .int a1, .int a2] [] (sp_me I 0 0) (some (.int v), sp_me J c' s')) : mm_Rn pg_G (d + 1) 104 159 ls (.int a2 :: .int a1 :: .int a0 :: .ref y :: t) (sp_me I c s) r ↔ mm_Rn pg_G (d + 1) 104 162 ls (.int v :: t) (sp_me J (c + c') (s + s')) r := rn_virt (g := sp_me I c s) (st := .int a2 :: .int a1 :: .int a0 :: .ref y :: t) tb_104_159 (decide_eq_true hT) ⟨Nat.le_add_left _ t.length, hl, rfl⟩ hq r
theorem tb_104_162 : mm_tb pg_G 104 162 = some (.if_icmp .eq 439, 601, 0, 0) := rfl
theorem st_104_162 {d : Nat} {ls t : List Value} {g : mm_M} {r : mm_R} {x y : Int32} : mm_Rn pg_G d 104 162 ls (.int y :: .int x :: t) g r ↔ if x = y then mm_Rn pg_G d 104 601 ls (t) g r else mm_Rn pg_G d 104 165 ls (t) g r := rn_icmp_eq tb_104_162 r
theorem tb_104_165 : mm_tb pg_G 104 165 = some (.iconst 0, 0, 0, 0) := rfl
theorem st_104_165 {d : Nat} {ls t : List Value} {g : mm_M} {r : mm_R} : mm_Rn pg_G d 104 165 ls (t) g r ↔ mm_Rn pg_G d 104 166 ls (io_v 0 :: t) g r := rn_iconst tb_104_165 r
theorem tb_104_166 : mm_tb pg_G 104 166 = some (.ireturn, 0, 0, 0) := rfl
theorem st_104_166 {d : Nat} {ls : List Value} {g : mm_M} {r : mm_R} {x : Int32} (hb : x = 0 ∨ x = 1) : mm_Rn pg_G d 104 166 ls [.int x] g r ↔ r = (some (.int x), g) := rn_ireturn_iff tb_104_166 (Or.inr ⟨rfl, hb⟩) r
theorem tb_104_167 : mm_tb pg_G 104 167 = some (.aload_n 1, 0, 0, 0) := rfl
theorem st_104_167 {l0 l2 l3 : Value} {d : Nat} {t : List Value} {g : mm_M} {r : mm_R} {x : Nat} : mm_Rn pg_G d 104 167 [l0, .ref x, l2, l3] (t) g r ↔ mm_Rn pg_G d 104 168 [l0, .ref x, l2, l3] (.ref x :: t) g r := rn_aload_n tb_104_167 rfl r
theorem tb_104_168 : mm_tb pg_G 104 168 = some (.aload_n 0, 0, 0, 0) := rfl
theorem st_104_168 {l1 l2 l3 : Value} {d : Nat} {t : List Value} {g : mm_M} {r : mm_R} {x : Nat} : mm_Rn pg_G d 104 168 [.ref x, l1, l2, l3] (t) g r ↔ mm_Rn pg_G d 104 169 [.ref x, l1, l2, l3] (.ref x :: t) g r := rn_aload_n tb_104_168 rfl r
theorem tb_104_169 : mm_tb pg_G 104 169 = some (.iload_n 3, 0, 0, 0) := rfl
theorem st_104_169 {l0 l1 l2 : Value} {d : Nat} {t : List Value} {g : mm_M} {r : mm_R} {x : Int32} : mm_Rn pg_G d 104 169 [l0, l1, l2, .int x] (t) g r ↔ mm_Rn pg_G d 104 170 [l0, l1, l2, .int x] (.int x :: t) g r := rn_iload_n tb_104_169 rfl r
theorem tb_104_170 : mm_tb pg_G 104 170 = some (.iconst 1, 0, 0, 0) := rfl
theorem st_104_170 {d : Nat} {ls t : List Value} {g : mm_M} {r : mm_R} : mm_Rn pg_G d 104 170 ls (t) g r ↔ mm_Rn pg_G d 104 171 ls (io_v 1 :: t) g r := rn_iconst tb_104_170 r
theorem tb_104_171 : mm_tb pg_G 104 171 = some (.iadd, 0, 0, 0) := rfl
theorem st_104_171 {d : Nat} {ls t : List Value} {g : mm_M} {r : mm_R} {x y : Int32} : mm_Rn pg_G d 104 171 ls (.int y :: .int x :: t) g r ↔ mm_Rn pg_G d 104 172 ls (.int (x + y) :: t) g r := rn_iadd tb_104_171 r
theorem tb_104_172 : mm_tb pg_G 104 172 = some (.iaload, 0, 0, 0) := rfl
theorem st_104_172 {d : Nat} {ls t : List Value} {g : mm_M} {r : mm_R} {x : Nat} {j : Int32} (hc : mm_in (g.1 x) 100 101 j = true) : mm_Rn pg_G d 104 172 ls (.int j :: .ref x :: t) g r ↔ mm_Rn pg_G d 104 173 ls (g.2.1 x j.toNatClampNeg :: t) g r := rn_iaload tb_104_172 hc r
theorem tb_104_173 : mm_tb pg_G 104 173 = some (.aload_n 0, 0, 0, 0) := rfl
theorem st_104_173 {l1 l2 l3 : Value} {d : Nat} {t : List Value} {g : mm_M} {r : mm_R} {x : Nat} : mm_Rn pg_G d 104 173 [.ref x, l1, l2, l3] (t) g r ↔ mm_Rn pg_G d 104 174 [.ref x, l1, l2, l3] (.ref x :: t) g r := rn_aload_n tb_104_173 rfl r
theorem tb_104_174 : mm_tb pg_G 104 174 = some (.iload_n 3, 0, 0, 0) := rfl
theorem st_104_174 {l0 l1 l2 : Value} {d : Nat} {t : List Value} {g : mm_M} {r : mm_R} {x : Int32} : mm_Rn pg_G d 104 174 [l0, l1, l2, .int x] (t) g r ↔ mm_Rn pg_G d 104 175 [l0, l1, l2, .int x] (.int x :: t) g r := rn_iload_n tb_104_174 rfl r
theorem tb_104_175 : mm_tb pg_G 104 175 = some (.iconst 2, 0, 0, 0) := rfl
theorem st_104_175 {d : Nat} {ls t : List Value} {g : mm_M} {r : mm_R} : mm_Rn pg_G d 104 175 ls (t) g r ↔ mm_Rn pg_G d 104 176 ls (io_v 2 :: t) g r := rn_iconst tb_104_175 r
theorem tb_104_176 : mm_tb pg_G 104 176 = some (.iadd, 0, 0, 0) := rfl
theorem st_104_176 {d : Nat} {ls t : List Value} {g : mm_M} {r : mm_R} {x y : Int32} : mm_Rn pg_G d 104 176 ls (.int y :: .int x :: t) g r ↔ mm_Rn pg_G d 104 177 ls (.int (x + y) :: t) g r := rn_iadd tb_104_176 r
theorem tb_104_177 : mm_tb pg_G 104 177 = some (.iaload, 0, 0, 0) := rfl
theorem st_104_177 {d : Nat} {ls t : List Value} {g : mm_M} {r : mm_R} {x : Nat} {j : Int32} (hc : mm_in (g.1 x) 100 101 j = true) : mm_Rn pg_G d 104 177 ls (.int j :: .ref x :: t) g r ↔ mm_Rn pg_G d 104 178 ls (g.2.1 x j.toNatClampNeg :: t) g r := rn_iaload tb_104_177 hc r
theorem tb_104_178 : mm_tb pg_G 104 178 = some (.aload_n 0, 0, 0, 0) := rfl
theorem st_104_178 {l1 l2 l3 : Value} {d : Nat} {t : List Value} {g : mm_M} {r : mm_R} {x : Nat} : mm_Rn pg_G d 104 178 [.ref x, l1, l2, l3] (t) g r ↔ mm_Rn pg_G d 104 179 [.ref x, l1, l2, l3] (.ref x :: t) g r := rn_aload_n tb_104_178 rfl r
theorem tb_104_179 : mm_tb pg_G 104 179 = some (.iload_n 3, 0, 0, 0) := rfl
theorem st_104_179 {l0 l1 l2 : Value} {d : Nat} {t : List Value} {g : mm_M} {r : mm_R} {x : Int32} : mm_Rn pg_G d 104 179 [l0, l1, l2, .int x] (t) g r ↔ mm_Rn pg_G d 104 180 [l0, l1, l2, .int x] (.int x :: t) g r := rn_iload_n tb_104_179 rfl r
theorem tb_104_180 : mm_tb pg_G 104 180 = some (.iconst 3, 0, 0, 0) := rfl
theorem st_104_180 {d : Nat} {ls t : List Value} {g : mm_M} {r : mm_R} : mm_Rn pg_G d 104 180 ls (t) g r ↔ mm_Rn pg_G d 104 181 ls (io_v 3 :: t) g r := rn_iconst tb_104_180 r
theorem tb_104_181 : mm_tb pg_G 104 181 = some (.iadd, 0, 0, 0) := rfl
theorem st_104_181 {d : Nat} {ls t : List Value} {g : mm_M} {r : mm_R} {x y : Int32} : mm_Rn pg_G d 104 181 ls (.int y :: .int x :: t) g r ↔ mm_Rn pg_G d 104 182 ls (.int (x + y) :: t) g r := rn_iadd tb_104_181 r
theorem tb_104_182 : mm_tb pg_G 104 182 = some (.iaload, 0, 0, 0) := rfl
theorem st_104_182 {d : Nat} {ls t : List Value} {g : mm_M} {r : mm_R} {x : Nat} {j : Int32} (hc : mm_in (g.1 x) 100 101 j = true) : mm_Rn pg_G d 104 182 ls (.int j :: .ref x :: t) g r ↔ mm_Rn pg_G d 104 183 ls (g.2.1 x j.toNatClampNeg :: t) g r := rn_iaload tb_104_182 hc r
theorem tb_104_183 : mm_tb pg_G 104 183 = some (.aload_n 0, 0, 0, 0) := rfl
theorem st_104_183 {l1 l2 l3 : Value} {d : Nat} {t : List Value} {g : mm_M} {r : mm_R} {x : Nat} : mm_Rn pg_G d 104 183 [.ref x, l1, l2, l3] (t) g r ↔ mm_Rn pg_G d 104 184 [.ref x, l1, l2, l3] (.ref x :: t) g r := rn_aload_n tb_104_183 rfl r
theorem tb_104_184 : mm_tb pg_G 104 184 = some (.iload_n 3, 0, 0, 0) := rfl
theorem st_104_184 {l0 l1 l2 : Value} {d : Nat} {t : List Value} {g : mm_M} {r : mm_R} {x : Int32} : mm_Rn pg_G d 104 184 [l0, l1, l2, .int x] (t) g r ↔ mm_Rn pg_G d 104 185 [l0, l1, l2, .int x] (.int x :: t) g r := rn_iload_n tb_104_184 rfl r
theorem tb_104_185 : mm_tb pg_G 104 185 = some (.iconst 4, 0, 0, 0) := rfl
theorem st_104_185 {d : Nat} {ls t : List Value} {g : mm_M} {r : mm_R} : mm_Rn pg_G d 104 185 ls (t) g r ↔ mm_Rn pg_G d 104 186 ls (io_v 4 :: t) g r := rn_iconst tb_104_185 r
theorem tb_104_186 : mm_tb pg_G 104 186 = some (.iadd, 0, 0, 0) := rfl
theorem st_104_186 {d : Nat} {ls t : List Value} {g : mm_M} {r : mm_R} {x y : Int32} : mm_Rn pg_G d 104 186 ls (.int y :: .int x :: t) g r ↔ mm_Rn pg_G d 104 187 ls (.int (x + y) :: t) g r := rn_iadd tb_104_186 r
theorem tb_104_187 : mm_tb pg_G 104 187 = some (.iaload, 0, 0, 0) := rfl
theorem st_104_187 {d : Nat} {ls t : List Value} {g : mm_M} {r : mm_R} {x : Nat} {j : Int32} (hc : mm_in (g.1 x) 100 101 j = true) : mm_Rn pg_G d 104 187 ls (.int j :: .ref x :: t) g r ↔ mm_Rn pg_G d 104 188 ls (g.2.1 x j.toNatClampNeg :: t) g r := rn_iaload tb_104_187 hc r
theorem tb_104_188 : mm_tb pg_G 104 188 = some (.invokevirtual 18, 34, 5, 168) := rfl
theorem st_104_188 {d c s c' s' : Nat} {ls t : List Value} {I J : sp_I} {r : mm_R} {a0 a1 a2 a3 : Int32} {y : Nat} {v : Int32} (hl : t.length ≤ 4) (hT : sp_T I y = some (0, 8)) (hq : mm_Rn pg_G d 34 0 [.ref y, .int a0, .int a1, .int a2, .int a3, .retAddr 0] [] (sp_me I 0 0) (some (.int v), sp_me J c' s')) : mm_Rn pg_G (d + 1) 104 188 ls (.int a3 :: .int a2 :: .int a1 :: .int a0 :: .ref y :: t) (sp_me I c s) r ↔ mm_Rn pg_G (d + 1) 104 191 ls (.int v :: t) (sp_me J (c + c') (s + s')) r := rn_virt (g := sp_me I c s) (st := .int a3 :: .int a2 :: .int a1 :: .int a0 :: .ref y :: t) tb_104_188 (decide_eq_true hT) ⟨Nat.le_add_left _ t.length, hl, rfl⟩ hq r
theorem tb_104_191 : mm_tb pg_G 104 191 = some (.aload_n 2, 0, 0, 0) := rfl
theorem st_104_191 {l0 l1 l3 : Value} {d : Nat} {t : List Value} {g : mm_M} {r : mm_R} {x : Nat} : mm_Rn pg_G d 104 191 [l0, l1, .ref x, l3] (t) g r ↔ mm_Rn pg_G d 104 192 [l0, l1, .ref x, l3] (.ref x :: t) g r := rn_aload_n tb_104_191 rfl r
theorem tb_104_192 : mm_tb pg_G 104 192 = some (.aload_n 0, 0, 0, 0) := rfl
theorem st_104_192 {l1 l2 l3 : Value} {d : Nat} {t : List Value} {g : mm_M} {r : mm_R} {x : Nat} : mm_Rn pg_G d 104 192 [.ref x, l1, l2, l3] (t) g r ↔ mm_Rn pg_G d 104 193 [.ref x, l1, l2, l3] (.ref x :: t) g r := rn_aload_n tb_104_192 rfl r
theorem tb_104_193 : mm_tb pg_G 104 193 = some (.iload_n 3, 0, 0, 0) := rfl
theorem st_104_193 {l0 l1 l2 : Value} {d : Nat} {t : List Value} {g : mm_M} {r : mm_R} {x : Int32} : mm_Rn pg_G d 104 193 [l0, l1, l2, .int x] (t) g r ↔ mm_Rn pg_G d 104 194 [l0, l1, l2, .int x] (.int x :: t) g r := rn_iload_n tb_104_193 rfl r
theorem tb_104_194 : mm_tb pg_G 104 194 = some (.iconst 1, 0, 0, 0) := rfl
theorem st_104_194 {d : Nat} {ls t : List Value} {g : mm_M} {r : mm_R} : mm_Rn pg_G d 104 194 ls (t) g r ↔ mm_Rn pg_G d 104 195 ls (io_v 1 :: t) g r := rn_iconst tb_104_194 r
theorem tb_104_195 : mm_tb pg_G 104 195 = some (.iadd, 0, 0, 0) := rfl
theorem st_104_195 {d : Nat} {ls t : List Value} {g : mm_M} {r : mm_R} {x y : Int32} : mm_Rn pg_G d 104 195 ls (.int y :: .int x :: t) g r ↔ mm_Rn pg_G d 104 196 ls (.int (x + y) :: t) g r := rn_iadd tb_104_195 r
theorem tb_104_196 : mm_tb pg_G 104 196 = some (.iaload, 0, 0, 0) := rfl
theorem st_104_196 {d : Nat} {ls t : List Value} {g : mm_M} {r : mm_R} {x : Nat} {j : Int32} (hc : mm_in (g.1 x) 100 101 j = true) : mm_Rn pg_G d 104 196 ls (.int j :: .ref x :: t) g r ↔ mm_Rn pg_G d 104 197 ls (g.2.1 x j.toNatClampNeg :: t) g r := rn_iaload tb_104_196 hc r
theorem tb_104_197 : mm_tb pg_G 104 197 = some (.aload_n 0, 0, 0, 0) := rfl
theorem st_104_197 {l1 l2 l3 : Value} {d : Nat} {t : List Value} {g : mm_M} {r : mm_R} {x : Nat} : mm_Rn pg_G d 104 197 [.ref x, l1, l2, l3] (t) g r ↔ mm_Rn pg_G d 104 198 [.ref x, l1, l2, l3] (.ref x :: t) g r := rn_aload_n tb_104_197 rfl r
theorem tb_104_198 : mm_tb pg_G 104 198 = some (.iload_n 3, 0, 0, 0) := rfl
theorem st_104_198 {l0 l1 l2 : Value} {d : Nat} {t : List Value} {g : mm_M} {r : mm_R} {x : Int32} : mm_Rn pg_G d 104 198 [l0, l1, l2, .int x] (t) g r ↔ mm_Rn pg_G d 104 199 [l0, l1, l2, .int x] (.int x :: t) g r := rn_iload_n tb_104_198 rfl r
theorem tb_104_199 : mm_tb pg_G 104 199 = some (.iconst 2, 0, 0, 0) := rfl
theorem st_104_199 {d : Nat} {ls t : List Value} {g : mm_M} {r : mm_R} : mm_Rn pg_G d 104 199 ls (t) g r ↔ mm_Rn pg_G d 104 200 ls (io_v 2 :: t) g r := rn_iconst tb_104_199 r
theorem tb_104_200 : mm_tb pg_G 104 200 = some (.iadd, 0, 0, 0) := rfl
theorem st_104_200 {d : Nat} {ls t : List Value} {g : mm_M} {r : mm_R} {x y : Int32} : mm_Rn pg_G d 104 200 ls (.int y :: .int x :: t) g r ↔ mm_Rn pg_G d 104 201 ls (.int (x + y) :: t) g r := rn_iadd tb_104_200 r
theorem tb_104_201 : mm_tb pg_G 104 201 = some (.iaload, 0, 0, 0) := rfl
theorem st_104_201 {d : Nat} {ls t : List Value} {g : mm_M} {r : mm_R} {x : Nat} {j : Int32} (hc : mm_in (g.1 x) 100 101 j = true) : mm_Rn pg_G d 104 201 ls (.int j :: .ref x :: t) g r ↔ mm_Rn pg_G d 104 202 ls (g.2.1 x j.toNatClampNeg :: t) g r := rn_iaload tb_104_201 hc r
theorem tb_104_202 : mm_tb pg_G 104 202 = some (.aload_n 0, 0, 0, 0) := rfl
theorem st_104_202 {l1 l2 l3 : Value} {d : Nat} {t : List Value} {g : mm_M} {r : mm_R} {x : Nat} : mm_Rn pg_G d 104 202 [.ref x, l1, l2, l3] (t) g r ↔ mm_Rn pg_G d 104 203 [.ref x, l1, l2, l3] (.ref x :: t) g r := rn_aload_n tb_104_202 rfl r
theorem tb_104_203 : mm_tb pg_G 104 203 = some (.iload_n 3, 0, 0, 0) := rfl
theorem st_104_203 {l0 l1 l2 : Value} {d : Nat} {t : List Value} {g : mm_M} {r : mm_R} {x : Int32} : mm_Rn pg_G d 104 203 [l0, l1, l2, .int x] (t) g r ↔ mm_Rn pg_G d 104 204 [l0, l1, l2, .int x] (.int x :: t) g r := rn_iload_n tb_104_203 rfl r
theorem tb_104_204 : mm_tb pg_G 104 204 = some (.iconst 3, 0, 0, 0) := rfl
theorem st_104_204 {d : Nat} {ls t : List Value} {g : mm_M} {r : mm_R} : mm_Rn pg_G d 104 204 ls (t) g r ↔ mm_Rn pg_G d 104 205 ls (io_v 3 :: t) g r := rn_iconst tb_104_204 r
theorem tb_104_205 : mm_tb pg_G 104 205 = some (.iadd, 0, 0, 0) := rfl
theorem st_104_205 {d : Nat} {ls t : List Value} {g : mm_M} {r : mm_R} {x y : Int32} : mm_Rn pg_G d 104 205 ls (.int y :: .int x :: t) g r ↔ mm_Rn pg_G d 104 206 ls (.int (x + y) :: t) g r := rn_iadd tb_104_205 r
theorem tb_104_206 : mm_tb pg_G 104 206 = some (.iaload, 0, 0, 0) := rfl
theorem st_104_206 {d : Nat} {ls t : List Value} {g : mm_M} {r : mm_R} {x : Nat} {j : Int32} (hc : mm_in (g.1 x) 100 101 j = true) : mm_Rn pg_G d 104 206 ls (.int j :: .ref x :: t) g r ↔ mm_Rn pg_G d 104 207 ls (g.2.1 x j.toNatClampNeg :: t) g r := rn_iaload tb_104_206 hc r
theorem tb_104_207 : mm_tb pg_G 104 207 = some (.aload_n 0, 0, 0, 0) := rfl
theorem st_104_207 {l1 l2 l3 : Value} {d : Nat} {t : List Value} {g : mm_M} {r : mm_R} {x : Nat} : mm_Rn pg_G d 104 207 [.ref x, l1, l2, l3] (t) g r ↔ mm_Rn pg_G d 104 208 [.ref x, l1, l2, l3] (.ref x :: t) g r := rn_aload_n tb_104_207 rfl r
theorem tb_104_208 : mm_tb pg_G 104 208 = some (.iload_n 3, 0, 0, 0) := rfl
theorem st_104_208 {l0 l1 l2 : Value} {d : Nat} {t : List Value} {g : mm_M} {r : mm_R} {x : Int32} : mm_Rn pg_G d 104 208 [l0, l1, l2, .int x] (t) g r ↔ mm_Rn pg_G d 104 209 [l0, l1, l2, .int x] (.int x :: t) g r := rn_iload_n tb_104_208 rfl r
theorem tb_104_209 : mm_tb pg_G 104 209 = some (.iconst 4, 0, 0, 0) := rfl
theorem st_104_209 {d : Nat} {ls t : List Value} {g : mm_M} {r : mm_R} : mm_Rn pg_G d 104 209 ls (t) g r ↔ mm_Rn pg_G d 104 210 ls (io_v 4 :: t) g r := rn_iconst tb_104_209 r
theorem tb_104_210 : mm_tb pg_G 104 210 = some (.iadd, 0, 0, 0) := rfl
theorem st_104_210 {d : Nat} {ls t : List Value} {g : mm_M} {r : mm_R} {x y : Int32} : mm_Rn pg_G d 104 210 ls (.int y :: .int x :: t) g r ↔ mm_Rn pg_G d 104 211 ls (.int (x + y) :: t) g r := rn_iadd tb_104_210 r
theorem tb_104_211 : mm_tb pg_G 104 211 = some (.iaload, 0, 0, 0) := rfl
theorem st_104_211 {d : Nat} {ls t : List Value} {g : mm_M} {r : mm_R} {x : Nat} {j : Int32} (hc : mm_in (g.1 x) 100 101 j = true) : mm_Rn pg_G d 104 211 ls (.int j :: .ref x :: t) g r ↔ mm_Rn pg_G d 104 212 ls (g.2.1 x j.toNatClampNeg :: t) g r := rn_iaload tb_104_211 hc r
theorem tb_104_212 : mm_tb pg_G 104 212 = some (.invokevirtual 22, 72, 5, 499) := rfl
theorem st_104_212 {d c s c' s' : Nat} {ls t : List Value} {I J : sp_I} {r : mm_R} {a0 a1 a2 a3 : Int32} {y : Nat} {v : Int32} (hl : t.length ≤ 4) (hT : sp_T I y = some (6, 35)) (hq : mm_Rn pg_G d 72 0 [.ref y, .int a0, .int a1, .int a2, .int a3, .retAddr 0, .retAddr 0, .retAddr 0] [] (sp_me I 0 0) (some (.int v), sp_me J c' s')) : mm_Rn pg_G (d + 1) 104 212 ls (.int a3 :: .int a2 :: .int a1 :: .int a0 :: .ref y :: t) (sp_me I c s) r ↔ mm_Rn pg_G (d + 1) 104 215 ls (.int v :: t) (sp_me J (c + c') (s + s')) r := rn_virt (g := sp_me I c s) (st := .int a3 :: .int a2 :: .int a1 :: .int a0 :: .ref y :: t) tb_104_212 (decide_eq_true hT) ⟨Nat.le_add_left _ t.length, hl, rfl⟩ hq r
theorem tb_104_215 : mm_tb pg_G 104 215 = some (.if_icmp .eq 386, 601, 0, 0) := rfl
theorem st_104_215 {d : Nat} {ls t : List Value} {g : mm_M} {r : mm_R} {x y : Int32} : mm_Rn pg_G d 104 215 ls (.int y :: .int x :: t) g r ↔ if x = y then mm_Rn pg_G d 104 601 ls (t) g r else mm_Rn pg_G d 104 218 ls (t) g r := rn_icmp_eq tb_104_215 r
theorem tb_104_218 : mm_tb pg_G 104 218 = some (.iconst 0, 0, 0, 0) := rfl
theorem st_104_218 {d : Nat} {ls t : List Value} {g : mm_M} {r : mm_R} : mm_Rn pg_G d 104 218 ls (t) g r ↔ mm_Rn pg_G d 104 219 ls (io_v 0 :: t) g r := rn_iconst tb_104_218 r
theorem tb_104_219 : mm_tb pg_G 104 219 = some (.ireturn, 0, 0, 0) := rfl
theorem st_104_219 {d : Nat} {ls : List Value} {g : mm_M} {r : mm_R} {x : Int32} (hb : x = 0 ∨ x = 1) : mm_Rn pg_G d 104 219 ls [.int x] g r ↔ r = (some (.int x), g) := rn_ireturn_iff tb_104_219 (Or.inr ⟨rfl, hb⟩) r
theorem tb_104_220 : mm_tb pg_G 104 220 = some (.aload_n 1, 0, 0, 0) := rfl
theorem st_104_220 {l0 l2 l3 : Value} {d : Nat} {t : List Value} {g : mm_M} {r : mm_R} {x : Nat} : mm_Rn pg_G d 104 220 [l0, .ref x, l2, l3] (t) g r ↔ mm_Rn pg_G d 104 221 [l0, .ref x, l2, l3] (.ref x :: t) g r := rn_aload_n tb_104_220 rfl r
theorem tb_104_221 : mm_tb pg_G 104 221 = some (.aload_n 0, 0, 0, 0) := rfl
theorem st_104_221 {l1 l2 l3 : Value} {d : Nat} {t : List Value} {g : mm_M} {r : mm_R} {x : Nat} : mm_Rn pg_G d 104 221 [.ref x, l1, l2, l3] (t) g r ↔ mm_Rn pg_G d 104 222 [.ref x, l1, l2, l3] (.ref x :: t) g r := rn_aload_n tb_104_221 rfl r
theorem tb_104_222 : mm_tb pg_G 104 222 = some (.iload_n 3, 0, 0, 0) := rfl
theorem st_104_222 {l0 l1 l2 : Value} {d : Nat} {t : List Value} {g : mm_M} {r : mm_R} {x : Int32} : mm_Rn pg_G d 104 222 [l0, l1, l2, .int x] (t) g r ↔ mm_Rn pg_G d 104 223 [l0, l1, l2, .int x] (.int x :: t) g r := rn_iload_n tb_104_222 rfl r
theorem tb_104_223 : mm_tb pg_G 104 223 = some (.iconst 1, 0, 0, 0) := rfl
theorem st_104_223 {d : Nat} {ls t : List Value} {g : mm_M} {r : mm_R} : mm_Rn pg_G d 104 223 ls (t) g r ↔ mm_Rn pg_G d 104 224 ls (io_v 1 :: t) g r := rn_iconst tb_104_223 r
theorem tb_104_224 : mm_tb pg_G 104 224 = some (.iadd, 0, 0, 0) := rfl
theorem st_104_224 {d : Nat} {ls t : List Value} {g : mm_M} {r : mm_R} {x y : Int32} : mm_Rn pg_G d 104 224 ls (.int y :: .int x :: t) g r ↔ mm_Rn pg_G d 104 225 ls (.int (x + y) :: t) g r := rn_iadd tb_104_224 r
theorem tb_104_225 : mm_tb pg_G 104 225 = some (.iaload, 0, 0, 0) := rfl
theorem st_104_225 {d : Nat} {ls t : List Value} {g : mm_M} {r : mm_R} {x : Nat} {j : Int32} (hc : mm_in (g.1 x) 100 101 j = true) : mm_Rn pg_G d 104 225 ls (.int j :: .ref x :: t) g r ↔ mm_Rn pg_G d 104 226 ls (g.2.1 x j.toNatClampNeg :: t) g r := rn_iaload tb_104_225 hc r
theorem tb_104_226 : mm_tb pg_G 104 226 = some (.aload_n 0, 0, 0, 0) := rfl
theorem st_104_226 {l1 l2 l3 : Value} {d : Nat} {t : List Value} {g : mm_M} {r : mm_R} {x : Nat} : mm_Rn pg_G d 104 226 [.ref x, l1, l2, l3] (t) g r ↔ mm_Rn pg_G d 104 227 [.ref x, l1, l2, l3] (.ref x :: t) g r := rn_aload_n tb_104_226 rfl r
theorem tb_104_227 : mm_tb pg_G 104 227 = some (.iload_n 3, 0, 0, 0) := rfl
theorem st_104_227 {l0 l1 l2 : Value} {d : Nat} {t : List Value} {g : mm_M} {r : mm_R} {x : Int32} : mm_Rn pg_G d 104 227 [l0, l1, l2, .int x] (t) g r ↔ mm_Rn pg_G d 104 228 [l0, l1, l2, .int x] (.int x :: t) g r := rn_iload_n tb_104_227 rfl r
theorem tb_104_228 : mm_tb pg_G 104 228 = some (.iconst 2, 0, 0, 0) := rfl
theorem st_104_228 {d : Nat} {ls t : List Value} {g : mm_M} {r : mm_R} : mm_Rn pg_G d 104 228 ls (t) g r ↔ mm_Rn pg_G d 104 229 ls (io_v 2 :: t) g r := rn_iconst tb_104_228 r
theorem tb_104_229 : mm_tb pg_G 104 229 = some (.iadd, 0, 0, 0) := rfl
theorem st_104_229 {d : Nat} {ls t : List Value} {g : mm_M} {r : mm_R} {x y : Int32} : mm_Rn pg_G d 104 229 ls (.int y :: .int x :: t) g r ↔ mm_Rn pg_G d 104 230 ls (.int (x + y) :: t) g r := rn_iadd tb_104_229 r
theorem tb_104_230 : mm_tb pg_G 104 230 = some (.iaload, 0, 0, 0) := rfl
theorem st_104_230 {d : Nat} {ls t : List Value} {g : mm_M} {r : mm_R} {x : Nat} {j : Int32} (hc : mm_in (g.1 x) 100 101 j = true) : mm_Rn pg_G d 104 230 ls (.int j :: .ref x :: t) g r ↔ mm_Rn pg_G d 104 231 ls (g.2.1 x j.toNatClampNeg :: t) g r := rn_iaload tb_104_230 hc r
theorem tb_104_231 : mm_tb pg_G 104 231 = some (.invokevirtual 23, 35, 3, 211) := rfl
theorem st_104_231 {d c s c' s' : Nat} {ls t : List Value} {I J : sp_I} {r : mm_R} {a0 a1 : Int32} {y : Nat} {v : Int32} (hl : t.length ≤ 4) (hT : sp_T I y = some (0, 8)) (hq : mm_Rn pg_G d 35 0 [.ref y, .int a0, .int a1] [] (sp_me I 0 0) (some (.int v), sp_me J c' s')) : mm_Rn pg_G (d + 1) 104 231 ls (.int a1 :: .int a0 :: .ref y :: t) (sp_me I c s) r ↔ mm_Rn pg_G (d + 1) 104 234 ls (.int v :: t) (sp_me J (c + c') (s + s')) r := rn_virt (g := sp_me I c s) (st := .int a1 :: .int a0 :: .ref y :: t) tb_104_231 (decide_eq_true hT) ⟨Nat.le_add_left _ t.length, hl, rfl⟩ hq r
theorem tb_104_234 : mm_tb pg_G 104 234 = some (.aload_n 2, 0, 0, 0) := rfl
theorem st_104_234 {l0 l1 l3 : Value} {d : Nat} {t : List Value} {g : mm_M} {r : mm_R} {x : Nat} : mm_Rn pg_G d 104 234 [l0, l1, .ref x, l3] (t) g r ↔ mm_Rn pg_G d 104 235 [l0, l1, .ref x, l3] (.ref x :: t) g r := rn_aload_n tb_104_234 rfl r
theorem tb_104_235 : mm_tb pg_G 104 235 = some (.aload_n 0, 0, 0, 0) := rfl
theorem st_104_235 {l1 l2 l3 : Value} {d : Nat} {t : List Value} {g : mm_M} {r : mm_R} {x : Nat} : mm_Rn pg_G d 104 235 [.ref x, l1, l2, l3] (t) g r ↔ mm_Rn pg_G d 104 236 [.ref x, l1, l2, l3] (.ref x :: t) g r := rn_aload_n tb_104_235 rfl r
theorem tb_104_236 : mm_tb pg_G 104 236 = some (.iload_n 3, 0, 0, 0) := rfl
theorem st_104_236 {l0 l1 l2 : Value} {d : Nat} {t : List Value} {g : mm_M} {r : mm_R} {x : Int32} : mm_Rn pg_G d 104 236 [l0, l1, l2, .int x] (t) g r ↔ mm_Rn pg_G d 104 237 [l0, l1, l2, .int x] (.int x :: t) g r := rn_iload_n tb_104_236 rfl r
theorem tb_104_237 : mm_tb pg_G 104 237 = some (.iconst 1, 0, 0, 0) := rfl
theorem st_104_237 {d : Nat} {ls t : List Value} {g : mm_M} {r : mm_R} : mm_Rn pg_G d 104 237 ls (t) g r ↔ mm_Rn pg_G d 104 238 ls (io_v 1 :: t) g r := rn_iconst tb_104_237 r
theorem tb_104_238 : mm_tb pg_G 104 238 = some (.iadd, 0, 0, 0) := rfl
theorem st_104_238 {d : Nat} {ls t : List Value} {g : mm_M} {r : mm_R} {x y : Int32} : mm_Rn pg_G d 104 238 ls (.int y :: .int x :: t) g r ↔ mm_Rn pg_G d 104 239 ls (.int (x + y) :: t) g r := rn_iadd tb_104_238 r
theorem tb_104_239 : mm_tb pg_G 104 239 = some (.iaload, 0, 0, 0) := rfl
theorem st_104_239 {d : Nat} {ls t : List Value} {g : mm_M} {r : mm_R} {x : Nat} {j : Int32} (hc : mm_in (g.1 x) 100 101 j = true) : mm_Rn pg_G d 104 239 ls (.int j :: .ref x :: t) g r ↔ mm_Rn pg_G d 104 240 ls (g.2.1 x j.toNatClampNeg :: t) g r := rn_iaload tb_104_239 hc r
theorem tb_104_240 : mm_tb pg_G 104 240 = some (.aload_n 0, 0, 0, 0) := rfl
theorem st_104_240 {l1 l2 l3 : Value} {d : Nat} {t : List Value} {g : mm_M} {r : mm_R} {x : Nat} : mm_Rn pg_G d 104 240 [.ref x, l1, l2, l3] (t) g r ↔ mm_Rn pg_G d 104 241 [.ref x, l1, l2, l3] (.ref x :: t) g r := rn_aload_n tb_104_240 rfl r
theorem tb_104_241 : mm_tb pg_G 104 241 = some (.iload_n 3, 0, 0, 0) := rfl
theorem st_104_241 {l0 l1 l2 : Value} {d : Nat} {t : List Value} {g : mm_M} {r : mm_R} {x : Int32} : mm_Rn pg_G d 104 241 [l0, l1, l2, .int x] (t) g r ↔ mm_Rn pg_G d 104 242 [l0, l1, l2, .int x] (.int x :: t) g r := rn_iload_n tb_104_241 rfl r
theorem tb_104_242 : mm_tb pg_G 104 242 = some (.iconst 2, 0, 0, 0) := rfl
theorem st_104_242 {d : Nat} {ls t : List Value} {g : mm_M} {r : mm_R} : mm_Rn pg_G d 104 242 ls (t) g r ↔ mm_Rn pg_G d 104 243 ls (io_v 2 :: t) g r := rn_iconst tb_104_242 r
theorem tb_104_243 : mm_tb pg_G 104 243 = some (.iadd, 0, 0, 0) := rfl
theorem st_104_243 {d : Nat} {ls t : List Value} {g : mm_M} {r : mm_R} {x y : Int32} : mm_Rn pg_G d 104 243 ls (.int y :: .int x :: t) g r ↔ mm_Rn pg_G d 104 244 ls (.int (x + y) :: t) g r := rn_iadd tb_104_243 r
theorem tb_104_244 : mm_tb pg_G 104 244 = some (.iaload, 0, 0, 0) := rfl
theorem st_104_244 {d : Nat} {ls t : List Value} {g : mm_M} {r : mm_R} {x : Nat} {j : Int32} (hc : mm_in (g.1 x) 100 101 j = true) : mm_Rn pg_G d 104 244 ls (.int j :: .ref x :: t) g r ↔ mm_Rn pg_G d 104 245 ls (g.2.1 x j.toNatClampNeg :: t) g r := rn_iaload tb_104_244 hc r
theorem tb_104_245 : mm_tb pg_G 104 245 = some (.invokevirtual 27, 73, 3, 506) := rfl
theorem st_104_245 {d c s c' s' : Nat} {ls t : List Value} {I J : sp_I} {r : mm_R} {a0 a1 : Int32} {y : Nat} {v : Int32} (hl : t.length ≤ 4) (hT : sp_T I y = some (6, 35)) (hq : mm_Rn pg_G d 73 0 [.ref y, .int a0, .int a1] [] (sp_me I 0 0) (some (.int v), sp_me J c' s')) : mm_Rn pg_G (d + 1) 104 245 ls (.int a1 :: .int a0 :: .ref y :: t) (sp_me I c s) r ↔ mm_Rn pg_G (d + 1) 104 248 ls (.int v :: t) (sp_me J (c + c') (s + s')) r := rn_virt (g := sp_me I c s) (st := .int a1 :: .int a0 :: .ref y :: t) tb_104_245 (decide_eq_true hT) ⟨Nat.le_add_left _ t.length, hl, rfl⟩ hq r
theorem tb_104_248 : mm_tb pg_G 104 248 = some (.if_icmp .eq 353, 601, 0, 0) := rfl
theorem st_104_248 {d : Nat} {ls t : List Value} {g : mm_M} {r : mm_R} {x y : Int32} : mm_Rn pg_G d 104 248 ls (.int y :: .int x :: t) g r ↔ if x = y then mm_Rn pg_G d 104 601 ls (t) g r else mm_Rn pg_G d 104 251 ls (t) g r := rn_icmp_eq tb_104_248 r
set_option maxRecDepth 20000 in
theorem tb_104_251 : mm_tb pg_G 104 251 = some (.iconst 0, 0, 0, 0) := rfl
theorem st_104_251 {d : Nat} {ls t : List Value} {g : mm_M} {r : mm_R} : mm_Rn pg_G d 104 251 ls (t) g r ↔ mm_Rn pg_G d 104 252 ls (io_v 0 :: t) g r := rn_iconst tb_104_251 r
set_option maxRecDepth 20000 in
theorem tb_104_252 : mm_tb pg_G 104 252 = some (.ireturn, 0, 0, 0) := rfl
theorem st_104_252 {d : Nat} {ls : List Value} {g : mm_M} {r : mm_R} {x : Int32} (hb : x = 0 ∨ x = 1) : mm_Rn pg_G d 104 252 ls [.int x] g r ↔ r = (some (.int x), g) := rn_ireturn_iff tb_104_252 (Or.inr ⟨rfl, hb⟩) r
set_option maxRecDepth 20000 in
theorem tb_104_253 : mm_tb pg_G 104 253 = some (.aload_n 1, 0, 0, 0) := rfl
theorem st_104_253 {l0 l2 l3 : Value} {d : Nat} {t : List Value} {g : mm_M} {r : mm_R} {x : Nat} : mm_Rn pg_G d 104 253 [l0, .ref x, l2, l3] (t) g r ↔ mm_Rn pg_G d 104 254 [l0, .ref x, l2, l3] (.ref x :: t) g r := rn_aload_n tb_104_253 rfl r
set_option maxRecDepth 20000 in
theorem tb_104_254 : mm_tb pg_G 104 254 = some (.invokevirtual 28, 36, 1, 219) := rfl
theorem st_104_254 {d c s c' s' : Nat} {ls t : List Value} {I J : sp_I} {r : mm_R} {y : Nat} {v : Int32} (hl : t.length ≤ 4) (hT : sp_T I y = some (0, 8)) (hq : mm_Rn pg_G d 36 0 [.ref y] [] (sp_me I 0 0) (some (.int v), sp_me J c' s')) : mm_Rn pg_G (d + 1) 104 254 ls (.ref y :: t) (sp_me I c s) r ↔ mm_Rn pg_G (d + 1) 104 257 ls (.int v :: t) (sp_me J (c + c') (s + s')) r := rn_virt (g := sp_me I c s) (st := .ref y :: t) tb_104_254 (decide_eq_true hT) ⟨Nat.le_add_left _ t.length, hl, rfl⟩ hq r
set_option maxRecDepth 20000 in
theorem tb_104_257 : mm_tb pg_G 104 257 = some (.aload_n 2, 0, 0, 0) := rfl
theorem st_104_257 {l0 l1 l3 : Value} {d : Nat} {t : List Value} {g : mm_M} {r : mm_R} {x : Nat} : mm_Rn pg_G d 104 257 [l0, l1, .ref x, l3] (t) g r ↔ mm_Rn pg_G d 104 258 [l0, l1, .ref x, l3] (.ref x :: t) g r := rn_aload_n tb_104_257 rfl r
set_option maxRecDepth 20000 in
theorem tb_104_258 : mm_tb pg_G 104 258 = some (.invokevirtual 32, 74, 1, 510) := rfl
theorem st_104_258 {d c s c' s' : Nat} {ls t : List Value} {I J : sp_I} {r : mm_R} {y : Nat} {v : Int32} (hl : t.length ≤ 4) (hT : sp_T I y = some (6, 35)) (hq : mm_Rn pg_G d 74 0 [.ref y, .retAddr 0] [] (sp_me I 0 0) (some (.int v), sp_me J c' s')) : mm_Rn pg_G (d + 1) 104 258 ls (.ref y :: t) (sp_me I c s) r ↔ mm_Rn pg_G (d + 1) 104 261 ls (.int v :: t) (sp_me J (c + c') (s + s')) r := rn_virt (g := sp_me I c s) (st := .ref y :: t) tb_104_258 (decide_eq_true hT) ⟨Nat.le_add_left _ t.length, hl, rfl⟩ hq r
set_option maxRecDepth 20000 in
theorem tb_104_261 : mm_tb pg_G 104 261 = some (.if_icmp .eq 340, 601, 0, 0) := rfl
theorem st_104_261 {d : Nat} {ls t : List Value} {g : mm_M} {r : mm_R} {x y : Int32} : mm_Rn pg_G d 104 261 ls (.int y :: .int x :: t) g r ↔ if x = y then mm_Rn pg_G d 104 601 ls (t) g r else mm_Rn pg_G d 104 264 ls (t) g r := rn_icmp_eq tb_104_261 r
set_option maxRecDepth 20000 in
theorem tb_104_264 : mm_tb pg_G 104 264 = some (.iconst 0, 0, 0, 0) := rfl
theorem st_104_264 {d : Nat} {ls t : List Value} {g : mm_M} {r : mm_R} : mm_Rn pg_G d 104 264 ls (t) g r ↔ mm_Rn pg_G d 104 265 ls (io_v 0 :: t) g r := rn_iconst tb_104_264 r
set_option maxRecDepth 20000 in
theorem tb_104_265 : mm_tb pg_G 104 265 = some (.ireturn, 0, 0, 0) := rfl
theorem st_104_265 {d : Nat} {ls : List Value} {g : mm_M} {r : mm_R} {x : Int32} (hb : x = 0 ∨ x = 1) : mm_Rn pg_G d 104 265 ls [.int x] g r ↔ r = (some (.int x), g) := rn_ireturn_iff tb_104_265 (Or.inr ⟨rfl, hb⟩) r
set_option maxRecDepth 20000 in
theorem tb_104_266 : mm_tb pg_G 104 266 = some (.aload_n 1, 0, 0, 0) := rfl
theorem st_104_266 {l0 l2 l3 : Value} {d : Nat} {t : List Value} {g : mm_M} {r : mm_R} {x : Nat} : mm_Rn pg_G d 104 266 [l0, .ref x, l2, l3] (t) g r ↔ mm_Rn pg_G d 104 267 [l0, .ref x, l2, l3] (.ref x :: t) g r := rn_aload_n tb_104_266 rfl r
set_option maxRecDepth 20000 in
theorem tb_104_267 : mm_tb pg_G 104 267 = some (.invokevirtual 33, 37, 1, 223) := rfl
theorem st_104_267 {d c s c' s' : Nat} {ls t : List Value} {I J : sp_I} {r : mm_R} {y : Nat} {v : Int32} (hl : t.length ≤ 4) (hT : sp_T I y = some (0, 8)) (hq : mm_Rn pg_G d 37 0 [.ref y, .retAddr 0] [] (sp_me I 0 0) (some (.int v), sp_me J c' s')) : mm_Rn pg_G (d + 1) 104 267 ls (.ref y :: t) (sp_me I c s) r ↔ mm_Rn pg_G (d + 1) 104 270 ls (.int v :: t) (sp_me J (c + c') (s + s')) r := rn_virt (g := sp_me I c s) (st := .ref y :: t) tb_104_267 (decide_eq_true hT) ⟨Nat.le_add_left _ t.length, hl, rfl⟩ hq r
set_option maxRecDepth 20000 in
theorem tb_104_270 : mm_tb pg_G 104 270 = some (.aload_n 2, 0, 0, 0) := rfl
theorem st_104_270 {l0 l1 l3 : Value} {d : Nat} {t : List Value} {g : mm_M} {r : mm_R} {x : Nat} : mm_Rn pg_G d 104 270 [l0, l1, .ref x, l3] (t) g r ↔ mm_Rn pg_G d 104 271 [l0, l1, .ref x, l3] (.ref x :: t) g r := rn_aload_n tb_104_270 rfl r
set_option maxRecDepth 20000 in
theorem tb_104_271 : mm_tb pg_G 104 271 = some (.invokevirtual 37, 79, 1, 521) := rfl
theorem st_104_271 {d c s c' s' : Nat} {ls t : List Value} {I J : sp_I} {r : mm_R} {y : Nat} {v : Int32} (hl : t.length ≤ 4) (hT : sp_T I y = some (6, 35)) (hq : mm_Rn pg_G d 79 0 [.ref y, .retAddr 0] [] (sp_me I 0 0) (some (.int v), sp_me J c' s')) : mm_Rn pg_G (d + 1) 104 271 ls (.ref y :: t) (sp_me I c s) r ↔ mm_Rn pg_G (d + 1) 104 274 ls (.int v :: t) (sp_me J (c + c') (s + s')) r := rn_virt (g := sp_me I c s) (st := .ref y :: t) tb_104_271 (decide_eq_true hT) ⟨Nat.le_add_left _ t.length, hl, rfl⟩ hq r
set_option maxRecDepth 20000 in
theorem tb_104_274 : mm_tb pg_G 104 274 = some (.if_icmp .eq 327, 601, 0, 0) := rfl
theorem st_104_274 {d : Nat} {ls t : List Value} {g : mm_M} {r : mm_R} {x y : Int32} : mm_Rn pg_G d 104 274 ls (.int y :: .int x :: t) g r ↔ if x = y then mm_Rn pg_G d 104 601 ls (t) g r else mm_Rn pg_G d 104 277 ls (t) g r := rn_icmp_eq tb_104_274 r
set_option maxRecDepth 20000 in
theorem tb_104_277 : mm_tb pg_G 104 277 = some (.iconst 0, 0, 0, 0) := rfl
theorem st_104_277 {d : Nat} {ls t : List Value} {g : mm_M} {r : mm_R} : mm_Rn pg_G d 104 277 ls (t) g r ↔ mm_Rn pg_G d 104 278 ls (io_v 0 :: t) g r := rn_iconst tb_104_277 r
set_option maxRecDepth 20000 in
theorem tb_104_278 : mm_tb pg_G 104 278 = some (.ireturn, 0, 0, 0) := rfl
theorem st_104_278 {d : Nat} {ls : List Value} {g : mm_M} {r : mm_R} {x : Int32} (hb : x = 0 ∨ x = 1) : mm_Rn pg_G d 104 278 ls [.int x] g r ↔ r = (some (.int x), g) := rn_ireturn_iff tb_104_278 (Or.inr ⟨rfl, hb⟩) r
set_option maxRecDepth 20000 in
theorem tb_104_279 : mm_tb pg_G 104 279 = some (.aload_n 1, 0, 0, 0) := rfl
theorem st_104_279 {l0 l2 l3 : Value} {d : Nat} {t : List Value} {g : mm_M} {r : mm_R} {x : Nat} : mm_Rn pg_G d 104 279 [l0, .ref x, l2, l3] (t) g r ↔ mm_Rn pg_G d 104 280 [l0, .ref x, l2, l3] (.ref x :: t) g r := rn_aload_n tb_104_279 rfl r
set_option maxRecDepth 20000 in
theorem tb_104_280 : mm_tb pg_G 104 280 = some (.aload_n 0, 0, 0, 0) := rfl
theorem st_104_280 {l1 l2 l3 : Value} {d : Nat} {t : List Value} {g : mm_M} {r : mm_R} {x : Nat} : mm_Rn pg_G d 104 280 [.ref x, l1, l2, l3] (t) g r ↔ mm_Rn pg_G d 104 281 [.ref x, l1, l2, l3] (.ref x :: t) g r := rn_aload_n tb_104_280 rfl r
set_option maxRecDepth 20000 in
theorem tb_104_281 : mm_tb pg_G 104 281 = some (.iload_n 3, 0, 0, 0) := rfl
theorem st_104_281 {l0 l1 l2 : Value} {d : Nat} {t : List Value} {g : mm_M} {r : mm_R} {x : Int32} : mm_Rn pg_G d 104 281 [l0, l1, l2, .int x] (t) g r ↔ mm_Rn pg_G d 104 282 [l0, l1, l2, .int x] (.int x :: t) g r := rn_iload_n tb_104_281 rfl r
set_option maxRecDepth 20000 in
theorem tb_104_282 : mm_tb pg_G 104 282 = some (.iconst 1, 0, 0, 0) := rfl
theorem st_104_282 {d : Nat} {ls t : List Value} {g : mm_M} {r : mm_R} : mm_Rn pg_G d 104 282 ls (t) g r ↔ mm_Rn pg_G d 104 283 ls (io_v 1 :: t) g r := rn_iconst tb_104_282 r
set_option maxRecDepth 20000 in
theorem tb_104_283 : mm_tb pg_G 104 283 = some (.iadd, 0, 0, 0) := rfl
theorem st_104_283 {d : Nat} {ls t : List Value} {g : mm_M} {r : mm_R} {x y : Int32} : mm_Rn pg_G d 104 283 ls (.int y :: .int x :: t) g r ↔ mm_Rn pg_G d 104 284 ls (.int (x + y) :: t) g r := rn_iadd tb_104_283 r
set_option maxRecDepth 20000 in
theorem tb_104_284 : mm_tb pg_G 104 284 = some (.iaload, 0, 0, 0) := rfl
theorem st_104_284 {d : Nat} {ls t : List Value} {g : mm_M} {r : mm_R} {x : Nat} {j : Int32} (hc : mm_in (g.1 x) 100 101 j = true) : mm_Rn pg_G d 104 284 ls (.int j :: .ref x :: t) g r ↔ mm_Rn pg_G d 104 285 ls (g.2.1 x j.toNatClampNeg :: t) g r := rn_iaload tb_104_284 hc r
set_option maxRecDepth 20000 in
theorem tb_104_285 : mm_tb pg_G 104 285 = some (.invokevirtual 38, 38, 2, 242) := rfl
theorem st_104_285 {d c s c' s' : Nat} {ls t : List Value} {I J : sp_I} {r : mm_R} {a0 : Int32} {y : Nat} {v : Int32} (hl : t.length ≤ 4) (hT : sp_T I y = some (0, 8)) (hq : mm_Rn pg_G d 38 0 [.ref y, .int a0] [] (sp_me I 0 0) (some (.int v), sp_me J c' s')) : mm_Rn pg_G (d + 1) 104 285 ls (.int a0 :: .ref y :: t) (sp_me I c s) r ↔ mm_Rn pg_G (d + 1) 104 288 ls (.int v :: t) (sp_me J (c + c') (s + s')) r := rn_virt (g := sp_me I c s) (st := .int a0 :: .ref y :: t) tb_104_285 (decide_eq_true hT) ⟨Nat.le_add_left _ t.length, hl, rfl⟩ hq r
set_option maxRecDepth 20000 in
theorem tb_104_288 : mm_tb pg_G 104 288 = some (.aload_n 2, 0, 0, 0) := rfl
theorem st_104_288 {l0 l1 l3 : Value} {d : Nat} {t : List Value} {g : mm_M} {r : mm_R} {x : Nat} : mm_Rn pg_G d 104 288 [l0, l1, .ref x, l3] (t) g r ↔ mm_Rn pg_G d 104 289 [l0, l1, .ref x, l3] (.ref x :: t) g r := rn_aload_n tb_104_288 rfl r
set_option maxRecDepth 20000 in
theorem tb_104_289 : mm_tb pg_G 104 289 = some (.aload_n 0, 0, 0, 0) := rfl
theorem st_104_289 {l1 l2 l3 : Value} {d : Nat} {t : List Value} {g : mm_M} {r : mm_R} {x : Nat} : mm_Rn pg_G d 104 289 [.ref x, l1, l2, l3] (t) g r ↔ mm_Rn pg_G d 104 290 [.ref x, l1, l2, l3] (.ref x :: t) g r := rn_aload_n tb_104_289 rfl r
set_option maxRecDepth 20000 in
theorem tb_104_290 : mm_tb pg_G 104 290 = some (.iload_n 3, 0, 0, 0) := rfl
theorem st_104_290 {l0 l1 l2 : Value} {d : Nat} {t : List Value} {g : mm_M} {r : mm_R} {x : Int32} : mm_Rn pg_G d 104 290 [l0, l1, l2, .int x] (t) g r ↔ mm_Rn pg_G d 104 291 [l0, l1, l2, .int x] (.int x :: t) g r := rn_iload_n tb_104_290 rfl r
set_option maxRecDepth 20000 in
theorem tb_104_291 : mm_tb pg_G 104 291 = some (.iconst 1, 0, 0, 0) := rfl
theorem st_104_291 {d : Nat} {ls t : List Value} {g : mm_M} {r : mm_R} : mm_Rn pg_G d 104 291 ls (t) g r ↔ mm_Rn pg_G d 104 292 ls (io_v 1 :: t) g r := rn_iconst tb_104_291 r
set_option maxRecDepth 20000 in
theorem tb_104_292 : mm_tb pg_G 104 292 = some (.iadd, 0, 0, 0) := rfl
theorem st_104_292 {d : Nat} {ls t : List Value} {g : mm_M} {r : mm_R} {x y : Int32} : mm_Rn pg_G d 104 292 ls (.int y :: .int x :: t) g r ↔ mm_Rn pg_G d 104 293 ls (.int (x + y) :: t) g r := rn_iadd tb_104_292 r
set_option maxRecDepth 20000 in
theorem tb_104_293 : mm_tb pg_G 104 293 = some (.iaload, 0, 0, 0) := rfl
theorem st_104_293 {d : Nat} {ls t : List Value} {g : mm_M} {r : mm_R} {x : Nat} {j : Int32} (hc : mm_in (g.1 x) 100 101 j = true) : mm_Rn pg_G d 104 293 ls (.int j :: .ref x :: t) g r ↔ mm_Rn pg_G d 104 294 ls (g.2.1 x j.toNatClampNeg :: t) g r := rn_iaload tb_104_293 hc r
set_option maxRecDepth 20000 in
theorem tb_104_294 : mm_tb pg_G 104 294 = some (.invokevirtual 42, 76, 2, 514) := rfl
theorem st_104_294 {d c s c' s' : Nat} {ls t : List Value} {I J : sp_I} {r : mm_R} {a0 : Int32} {y : Nat} {v : Int32} (hl : t.length ≤ 4) (hT : sp_T I y = some (6, 35)) (hq : mm_Rn pg_G d 76 0 [.ref y, .int a0, .retAddr 0, .retAddr 0, .retAddr 0] [] (sp_me I 0 0) (some (.int v), sp_me J c' s')) : mm_Rn pg_G (d + 1) 104 294 ls (.int a0 :: .ref y :: t) (sp_me I c s) r ↔ mm_Rn pg_G (d + 1) 104 297 ls (.int v :: t) (sp_me J (c + c') (s + s')) r := rn_virt (g := sp_me I c s) (st := .int a0 :: .ref y :: t) tb_104_294 (decide_eq_true hT) ⟨Nat.le_add_left _ t.length, hl, rfl⟩ hq r
set_option maxRecDepth 20000 in
theorem tb_104_297 : mm_tb pg_G 104 297 = some (.if_icmp .eq 304, 601, 0, 0) := rfl
theorem st_104_297 {d : Nat} {ls t : List Value} {g : mm_M} {r : mm_R} {x y : Int32} : mm_Rn pg_G d 104 297 ls (.int y :: .int x :: t) g r ↔ if x = y then mm_Rn pg_G d 104 601 ls (t) g r else mm_Rn pg_G d 104 300 ls (t) g r := rn_icmp_eq tb_104_297 r
set_option maxRecDepth 20000 in
theorem tb_104_300 : mm_tb pg_G 104 300 = some (.iconst 0, 0, 0, 0) := rfl
theorem st_104_300 {d : Nat} {ls t : List Value} {g : mm_M} {r : mm_R} : mm_Rn pg_G d 104 300 ls (t) g r ↔ mm_Rn pg_G d 104 301 ls (io_v 0 :: t) g r := rn_iconst tb_104_300 r
set_option maxRecDepth 20000 in
theorem tb_104_301 : mm_tb pg_G 104 301 = some (.ireturn, 0, 0, 0) := rfl
theorem st_104_301 {d : Nat} {ls : List Value} {g : mm_M} {r : mm_R} {x : Int32} (hb : x = 0 ∨ x = 1) : mm_Rn pg_G d 104 301 ls [.int x] g r ↔ r = (some (.int x), g) := rn_ireturn_iff tb_104_301 (Or.inr ⟨rfl, hb⟩) r
set_option maxRecDepth 20000 in
theorem tb_104_302 : mm_tb pg_G 104 302 = some (.aload_n 1, 0, 0, 0) := rfl
theorem st_104_302 {l0 l2 l3 : Value} {d : Nat} {t : List Value} {g : mm_M} {r : mm_R} {x : Nat} : mm_Rn pg_G d 104 302 [l0, .ref x, l2, l3] (t) g r ↔ mm_Rn pg_G d 104 303 [l0, .ref x, l2, l3] (.ref x :: t) g r := rn_aload_n tb_104_302 rfl r
set_option maxRecDepth 20000 in
theorem tb_104_303 : mm_tb pg_G 104 303 = some (.aload_n 0, 0, 0, 0) := rfl
theorem st_104_303 {l1 l2 l3 : Value} {d : Nat} {t : List Value} {g : mm_M} {r : mm_R} {x : Nat} : mm_Rn pg_G d 104 303 [.ref x, l1, l2, l3] (t) g r ↔ mm_Rn pg_G d 104 304 [.ref x, l1, l2, l3] (.ref x :: t) g r := rn_aload_n tb_104_303 rfl r
set_option maxRecDepth 20000 in
theorem tb_104_304 : mm_tb pg_G 104 304 = some (.iload_n 3, 0, 0, 0) := rfl
theorem st_104_304 {l0 l1 l2 : Value} {d : Nat} {t : List Value} {g : mm_M} {r : mm_R} {x : Int32} : mm_Rn pg_G d 104 304 [l0, l1, l2, .int x] (t) g r ↔ mm_Rn pg_G d 104 305 [l0, l1, l2, .int x] (.int x :: t) g r := rn_iload_n tb_104_304 rfl r
set_option maxRecDepth 20000 in
theorem tb_104_305 : mm_tb pg_G 104 305 = some (.iconst 1, 0, 0, 0) := rfl
theorem st_104_305 {d : Nat} {ls t : List Value} {g : mm_M} {r : mm_R} : mm_Rn pg_G d 104 305 ls (t) g r ↔ mm_Rn pg_G d 104 306 ls (io_v 1 :: t) g r := rn_iconst tb_104_305 r
set_option maxRecDepth 20000 in
theorem tb_104_306 : mm_tb pg_G 104 306 = some (.iadd, 0, 0, 0) := rfl
theorem st_104_306 {d : Nat} {ls t : List Value} {g : mm_M} {r : mm_R} {x y : Int32} : mm_Rn pg_G d 104 306 ls (.int y :: .int x :: t) g r ↔ mm_Rn pg_G d 104 307 ls (.int (x + y) :: t) g r := rn_iadd tb_104_306 r
set_option maxRecDepth 20000 in
theorem tb_104_307 : mm_tb pg_G 104 307 = some (.iaload, 0, 0, 0) := rfl
theorem st_104_307 {d : Nat} {ls t : List Value} {g : mm_M} {r : mm_R} {x : Nat} {j : Int32} (hc : mm_in (g.1 x) 100 101 j = true) : mm_Rn pg_G d 104 307 ls (.int j :: .ref x :: t) g r ↔ mm_Rn pg_G d 104 308 ls (g.2.1 x j.toNatClampNeg :: t) g r := rn_iaload tb_104_307 hc r
set_option maxRecDepth 20000 in
theorem tb_104_308 : mm_tb pg_G 104 308 = some (.aload_n 0, 0, 0, 0) := rfl
theorem st_104_308 {l1 l2 l3 : Value} {d : Nat} {t : List Value} {g : mm_M} {r : mm_R} {x : Nat} : mm_Rn pg_G d 104 308 [.ref x, l1, l2, l3] (t) g r ↔ mm_Rn pg_G d 104 309 [.ref x, l1, l2, l3] (.ref x :: t) g r := rn_aload_n tb_104_308 rfl r
set_option maxRecDepth 20000 in
theorem tb_104_309 : mm_tb pg_G 104 309 = some (.iload_n 3, 0, 0, 0) := rfl
theorem st_104_309 {l0 l1 l2 : Value} {d : Nat} {t : List Value} {g : mm_M} {r : mm_R} {x : Int32} : mm_Rn pg_G d 104 309 [l0, l1, l2, .int x] (t) g r ↔ mm_Rn pg_G d 104 310 [l0, l1, l2, .int x] (.int x :: t) g r := rn_iload_n tb_104_309 rfl r
set_option maxRecDepth 20000 in
theorem tb_104_310 : mm_tb pg_G 104 310 = some (.iconst 2, 0, 0, 0) := rfl
theorem st_104_310 {d : Nat} {ls t : List Value} {g : mm_M} {r : mm_R} : mm_Rn pg_G d 104 310 ls (t) g r ↔ mm_Rn pg_G d 104 311 ls (io_v 2 :: t) g r := rn_iconst tb_104_310 r
set_option maxRecDepth 20000 in
theorem tb_104_311 : mm_tb pg_G 104 311 = some (.iadd, 0, 0, 0) := rfl
theorem st_104_311 {d : Nat} {ls t : List Value} {g : mm_M} {r : mm_R} {x y : Int32} : mm_Rn pg_G d 104 311 ls (.int y :: .int x :: t) g r ↔ mm_Rn pg_G d 104 312 ls (.int (x + y) :: t) g r := rn_iadd tb_104_311 r
set_option maxRecDepth 20000 in
theorem tb_104_312 : mm_tb pg_G 104 312 = some (.iaload, 0, 0, 0) := rfl
theorem st_104_312 {d : Nat} {ls t : List Value} {g : mm_M} {r : mm_R} {x : Nat} {j : Int32} (hc : mm_in (g.1 x) 100 101 j = true) : mm_Rn pg_G d 104 312 ls (.int j :: .ref x :: t) g r ↔ mm_Rn pg_G d 104 313 ls (g.2.1 x j.toNatClampNeg :: t) g r := rn_iaload tb_104_312 hc r
set_option maxRecDepth 20000 in
theorem tb_104_313 : mm_tb pg_G 104 313 = some (.invokevirtual 43, 39, 3, 246) := rfl
theorem st_104_313 {d c s c' s' : Nat} {ls t : List Value} {I J : sp_I} {r : mm_R} {a0 a1 : Int32} {y : Nat} {v : Int32} (hl : t.length ≤ 4) (hT : sp_T I y = some (0, 8)) (hq : mm_Rn pg_G d 39 0 [.ref y, .int a0, .int a1, .retAddr 0] [] (sp_me I 0 0) (some (.int v), sp_me J c' s')) : mm_Rn pg_G (d + 1) 104 313 ls (.int a1 :: .int a0 :: .ref y :: t) (sp_me I c s) r ↔ mm_Rn pg_G (d + 1) 104 316 ls (.int v :: t) (sp_me J (c + c') (s + s')) r := rn_virt (g := sp_me I c s) (st := .int a1 :: .int a0 :: .ref y :: t) tb_104_313 (decide_eq_true hT) ⟨Nat.le_add_left _ t.length, hl, rfl⟩ hq r
set_option maxRecDepth 20000 in
theorem tb_104_316 : mm_tb pg_G 104 316 = some (.aload_n 2, 0, 0, 0) := rfl
theorem st_104_316 {l0 l1 l3 : Value} {d : Nat} {t : List Value} {g : mm_M} {r : mm_R} {x : Nat} : mm_Rn pg_G d 104 316 [l0, l1, .ref x, l3] (t) g r ↔ mm_Rn pg_G d 104 317 [l0, l1, .ref x, l3] (.ref x :: t) g r := rn_aload_n tb_104_316 rfl r
set_option maxRecDepth 20000 in
theorem tb_104_317 : mm_tb pg_G 104 317 = some (.aload_n 0, 0, 0, 0) := rfl
theorem st_104_317 {l1 l2 l3 : Value} {d : Nat} {t : List Value} {g : mm_M} {r : mm_R} {x : Nat} : mm_Rn pg_G d 104 317 [.ref x, l1, l2, l3] (t) g r ↔ mm_Rn pg_G d 104 318 [.ref x, l1, l2, l3] (.ref x :: t) g r := rn_aload_n tb_104_317 rfl r
set_option maxRecDepth 20000 in
theorem tb_104_318 : mm_tb pg_G 104 318 = some (.iload_n 3, 0, 0, 0) := rfl
theorem st_104_318 {l0 l1 l2 : Value} {d : Nat} {t : List Value} {g : mm_M} {r : mm_R} {x : Int32} : mm_Rn pg_G d 104 318 [l0, l1, l2, .int x] (t) g r ↔ mm_Rn pg_G d 104 319 [l0, l1, l2, .int x] (.int x :: t) g r := rn_iload_n tb_104_318 rfl r
set_option maxRecDepth 20000 in
theorem tb_104_319 : mm_tb pg_G 104 319 = some (.iconst 1, 0, 0, 0) := rfl
theorem st_104_319 {d : Nat} {ls t : List Value} {g : mm_M} {r : mm_R} : mm_Rn pg_G d 104 319 ls (t) g r ↔ mm_Rn pg_G d 104 320 ls (io_v 1 :: t) g r := rn_iconst tb_104_319 r
set_option maxRecDepth 20000 in
theorem tb_104_320 : mm_tb pg_G 104 320 = some (.iadd, 0, 0, 0) := rfl
theorem st_104_320 {d : Nat} {ls t : List Value} {g : mm_M} {r : mm_R} {x y : Int32} : mm_Rn pg_G d 104 320 ls (.int y :: .int x :: t) g r ↔ mm_Rn pg_G d 104 321 ls (.int (x + y) :: t) g r := rn_iadd tb_104_320 r
set_option maxRecDepth 20000 in
theorem tb_104_321 : mm_tb pg_G 104 321 = some (.iaload, 0, 0, 0) := rfl
theorem st_104_321 {d : Nat} {ls t : List Value} {g : mm_M} {r : mm_R} {x : Nat} {j : Int32} (hc : mm_in (g.1 x) 100 101 j = true) : mm_Rn pg_G d 104 321 ls (.int j :: .ref x :: t) g r ↔ mm_Rn pg_G d 104 322 ls (g.2.1 x j.toNatClampNeg :: t) g r := rn_iaload tb_104_321 hc r
set_option maxRecDepth 20000 in
theorem tb_104_322 : mm_tb pg_G 104 322 = some (.aload_n 0, 0, 0, 0) := rfl
theorem st_104_322 {l1 l2 l3 : Value} {d : Nat} {t : List Value} {g : mm_M} {r : mm_R} {x : Nat} : mm_Rn pg_G d 104 322 [.ref x, l1, l2, l3] (t) g r ↔ mm_Rn pg_G d 104 323 [.ref x, l1, l2, l3] (.ref x :: t) g r := rn_aload_n tb_104_322 rfl r
set_option maxRecDepth 20000 in
theorem tb_104_323 : mm_tb pg_G 104 323 = some (.iload_n 3, 0, 0, 0) := rfl
theorem st_104_323 {l0 l1 l2 : Value} {d : Nat} {t : List Value} {g : mm_M} {r : mm_R} {x : Int32} : mm_Rn pg_G d 104 323 [l0, l1, l2, .int x] (t) g r ↔ mm_Rn pg_G d 104 324 [l0, l1, l2, .int x] (.int x :: t) g r := rn_iload_n tb_104_323 rfl r
set_option maxRecDepth 20000 in
theorem tb_104_324 : mm_tb pg_G 104 324 = some (.iconst 2, 0, 0, 0) := rfl
theorem st_104_324 {d : Nat} {ls t : List Value} {g : mm_M} {r : mm_R} : mm_Rn pg_G d 104 324 ls (t) g r ↔ mm_Rn pg_G d 104 325 ls (io_v 2 :: t) g r := rn_iconst tb_104_324 r
set_option maxRecDepth 20000 in
theorem tb_104_325 : mm_tb pg_G 104 325 = some (.iadd, 0, 0, 0) := rfl
theorem st_104_325 {d : Nat} {ls t : List Value} {g : mm_M} {r : mm_R} {x y : Int32} : mm_Rn pg_G d 104 325 ls (.int y :: .int x :: t) g r ↔ mm_Rn pg_G d 104 326 ls (.int (x + y) :: t) g r := rn_iadd tb_104_325 r
set_option maxRecDepth 20000 in
theorem tb_104_326 : mm_tb pg_G 104 326 = some (.iaload, 0, 0, 0) := rfl
theorem st_104_326 {d : Nat} {ls t : List Value} {g : mm_M} {r : mm_R} {x : Nat} {j : Int32} (hc : mm_in (g.1 x) 100 101 j = true) : mm_Rn pg_G d 104 326 ls (.int j :: .ref x :: t) g r ↔ mm_Rn pg_G d 104 327 ls (g.2.1 x j.toNatClampNeg :: t) g r := rn_iaload tb_104_326 hc r
set_option maxRecDepth 20000 in
theorem tb_104_327 : mm_tb pg_G 104 327 = some (.invokevirtual 47, 80, 3, 532) := rfl
theorem st_104_327 {d c s c' s' : Nat} {ls t : List Value} {I J : sp_I} {r : mm_R} {a0 a1 : Int32} {y : Nat} {v : Int32} (hl : t.length ≤ 4) (hT : sp_T I y = some (6, 35)) (hq : mm_Rn pg_G d 80 0 [.ref y, .int a0, .int a1] [] (sp_me I 0 0) (some (.int v), sp_me J c' s')) : mm_Rn pg_G (d + 1) 104 327 ls (.int a1 :: .int a0 :: .ref y :: t) (sp_me I c s) r ↔ mm_Rn pg_G (d + 1) 104 330 ls (.int v :: t) (sp_me J (c + c') (s + s')) r := rn_virt (g := sp_me I c s) (st := .int a1 :: .int a0 :: .ref y :: t) tb_104_327 (decide_eq_true hT) ⟨Nat.le_add_left _ t.length, hl, rfl⟩ hq r
set_option maxRecDepth 20000 in
theorem tb_104_330 : mm_tb pg_G 104 330 = some (.if_icmp .eq 271, 601, 0, 0) := rfl
theorem st_104_330 {d : Nat} {ls t : List Value} {g : mm_M} {r : mm_R} {x y : Int32} : mm_Rn pg_G d 104 330 ls (.int y :: .int x :: t) g r ↔ if x = y then mm_Rn pg_G d 104 601 ls (t) g r else mm_Rn pg_G d 104 333 ls (t) g r := rn_icmp_eq tb_104_330 r
set_option maxRecDepth 20000 in
theorem tb_104_333 : mm_tb pg_G 104 333 = some (.iconst 0, 0, 0, 0) := rfl
theorem st_104_333 {d : Nat} {ls t : List Value} {g : mm_M} {r : mm_R} : mm_Rn pg_G d 104 333 ls (t) g r ↔ mm_Rn pg_G d 104 334 ls (io_v 0 :: t) g r := rn_iconst tb_104_333 r
set_option maxRecDepth 20000 in
theorem tb_104_334 : mm_tb pg_G 104 334 = some (.ireturn, 0, 0, 0) := rfl
theorem st_104_334 {d : Nat} {ls : List Value} {g : mm_M} {r : mm_R} {x : Int32} (hb : x = 0 ∨ x = 1) : mm_Rn pg_G d 104 334 ls [.int x] g r ↔ r = (some (.int x), g) := rn_ireturn_iff tb_104_334 (Or.inr ⟨rfl, hb⟩) r
set_option maxRecDepth 20000 in
theorem tb_104_335 : mm_tb pg_G 104 335 = some (.aload_n 1, 0, 0, 0) := rfl
theorem st_104_335 {l0 l2 l3 : Value} {d : Nat} {t : List Value} {g : mm_M} {r : mm_R} {x : Nat} : mm_Rn pg_G d 104 335 [l0, .ref x, l2, l3] (t) g r ↔ mm_Rn pg_G d 104 336 [l0, .ref x, l2, l3] (.ref x :: t) g r := rn_aload_n tb_104_335 rfl r
set_option maxRecDepth 20000 in
theorem tb_104_336 : mm_tb pg_G 104 336 = some (.aload_n 0, 0, 0, 0) := rfl
theorem st_104_336 {l1 l2 l3 : Value} {d : Nat} {t : List Value} {g : mm_M} {r : mm_R} {x : Nat} : mm_Rn pg_G d 104 336 [.ref x, l1, l2, l3] (t) g r ↔ mm_Rn pg_G d 104 337 [.ref x, l1, l2, l3] (.ref x :: t) g r := rn_aload_n tb_104_336 rfl r
set_option maxRecDepth 20000 in
theorem tb_104_337 : mm_tb pg_G 104 337 = some (.iload_n 3, 0, 0, 0) := rfl
theorem st_104_337 {l0 l1 l2 : Value} {d : Nat} {t : List Value} {g : mm_M} {r : mm_R} {x : Int32} : mm_Rn pg_G d 104 337 [l0, l1, l2, .int x] (t) g r ↔ mm_Rn pg_G d 104 338 [l0, l1, l2, .int x] (.int x :: t) g r := rn_iload_n tb_104_337 rfl r
set_option maxRecDepth 20000 in
theorem tb_104_338 : mm_tb pg_G 104 338 = some (.iconst 1, 0, 0, 0) := rfl
theorem st_104_338 {d : Nat} {ls t : List Value} {g : mm_M} {r : mm_R} : mm_Rn pg_G d 104 338 ls (t) g r ↔ mm_Rn pg_G d 104 339 ls (io_v 1 :: t) g r := rn_iconst tb_104_338 r
set_option maxRecDepth 20000 in
theorem tb_104_339 : mm_tb pg_G 104 339 = some (.iadd, 0, 0, 0) := rfl
theorem st_104_339 {d : Nat} {ls t : List Value} {g : mm_M} {r : mm_R} {x y : Int32} : mm_Rn pg_G d 104 339 ls (.int y :: .int x :: t) g r ↔ mm_Rn pg_G d 104 340 ls (.int (x + y) :: t) g r := rn_iadd tb_104_339 r
set_option maxRecDepth 20000 in
theorem tb_104_340 : mm_tb pg_G 104 340 = some (.iaload, 0, 0, 0) := rfl
theorem st_104_340 {d : Nat} {ls t : List Value} {g : mm_M} {r : mm_R} {x : Nat} {j : Int32} (hc : mm_in (g.1 x) 100 101 j = true) : mm_Rn pg_G d 104 340 ls (.int j :: .ref x :: t) g r ↔ mm_Rn pg_G d 104 341 ls (g.2.1 x j.toNatClampNeg :: t) g r := rn_iaload tb_104_340 hc r
set_option maxRecDepth 20000 in
theorem tb_104_341 : mm_tb pg_G 104 341 = some (.invokevirtual 48, 40, 2, 262) := rfl
theorem st_104_341 {d c s c' s' : Nat} {ls t : List Value} {I J : sp_I} {r : mm_R} {a0 : Int32} {y : Nat} {v : Int32} (hl : t.length ≤ 4) (hT : sp_T I y = some (0, 8)) (hq : mm_Rn pg_G d 40 0 [.ref y, .int a0] [] (sp_me I 0 0) (some (.int v), sp_me J c' s')) : mm_Rn pg_G (d + 1) 104 341 ls (.int a0 :: .ref y :: t) (sp_me I c s) r ↔ mm_Rn pg_G (d + 1) 104 344 ls (.int v :: t) (sp_me J (c + c') (s + s')) r := rn_virt (g := sp_me I c s) (st := .int a0 :: .ref y :: t) tb_104_341 (decide_eq_true hT) ⟨Nat.le_add_left _ t.length, hl, rfl⟩ hq r
set_option maxRecDepth 20000 in
theorem tb_104_344 : mm_tb pg_G 104 344 = some (.aload_n 2, 0, 0, 0) := rfl
theorem st_104_344 {l0 l1 l3 : Value} {d : Nat} {t : List Value} {g : mm_M} {r : mm_R} {x : Nat} : mm_Rn pg_G d 104 344 [l0, l1, .ref x, l3] (t) g r ↔ mm_Rn pg_G d 104 345 [l0, l1, .ref x, l3] (.ref x :: t) g r := rn_aload_n tb_104_344 rfl r
set_option maxRecDepth 20000 in
theorem tb_104_345 : mm_tb pg_G 104 345 = some (.aload_n 0, 0, 0, 0) := rfl
theorem st_104_345 {l1 l2 l3 : Value} {d : Nat} {t : List Value} {g : mm_M} {r : mm_R} {x : Nat} : mm_Rn pg_G d 104 345 [.ref x, l1, l2, l3] (t) g r ↔ mm_Rn pg_G d 104 346 [.ref x, l1, l2, l3] (.ref x :: t) g r := rn_aload_n tb_104_345 rfl r
set_option maxRecDepth 20000 in
theorem tb_104_346 : mm_tb pg_G 104 346 = some (.iload_n 3, 0, 0, 0) := rfl
theorem st_104_346 {l0 l1 l2 : Value} {d : Nat} {t : List Value} {g : mm_M} {r : mm_R} {x : Int32} : mm_Rn pg_G d 104 346 [l0, l1, l2, .int x] (t) g r ↔ mm_Rn pg_G d 104 347 [l0, l1, l2, .int x] (.int x :: t) g r := rn_iload_n tb_104_346 rfl r
set_option maxRecDepth 20000 in
theorem tb_104_347 : mm_tb pg_G 104 347 = some (.iconst 1, 0, 0, 0) := rfl
theorem st_104_347 {d : Nat} {ls t : List Value} {g : mm_M} {r : mm_R} : mm_Rn pg_G d 104 347 ls (t) g r ↔ mm_Rn pg_G d 104 348 ls (io_v 1 :: t) g r := rn_iconst tb_104_347 r
set_option maxRecDepth 20000 in
theorem tb_104_348 : mm_tb pg_G 104 348 = some (.iadd, 0, 0, 0) := rfl
theorem st_104_348 {d : Nat} {ls t : List Value} {g : mm_M} {r : mm_R} {x y : Int32} : mm_Rn pg_G d 104 348 ls (.int y :: .int x :: t) g r ↔ mm_Rn pg_G d 104 349 ls (.int (x + y) :: t) g r := rn_iadd tb_104_348 r
set_option maxRecDepth 20000 in
theorem tb_104_349 : mm_tb pg_G 104 349 = some (.iaload, 0, 0, 0) := rfl
theorem st_104_349 {d : Nat} {ls t : List Value} {g : mm_M} {r : mm_R} {x : Nat} {j : Int32} (hc : mm_in (g.1 x) 100 101 j = true) : mm_Rn pg_G d 104 349 ls (.int j :: .ref x :: t) g r ↔ mm_Rn pg_G d 104 350 ls (g.2.1 x j.toNatClampNeg :: t) g r := rn_iaload tb_104_349 hc r
set_option maxRecDepth 20000 in
theorem tb_104_350 : mm_tb pg_G 104 350 = some (.invokevirtual 52, 81, 2, 536) := rfl
theorem st_104_350 {d c s c' s' : Nat} {ls t : List Value} {I J : sp_I} {r : mm_R} {a0 : Int32} {y : Nat} {v : Int32} (hl : t.length ≤ 4) (hT : sp_T I y = some (6, 35)) (hq : mm_Rn pg_G d 81 0 [.ref y, .int a0] [] (sp_me I 0 0) (some (.int v), sp_me J c' s')) : mm_Rn pg_G (d + 1) 104 350 ls (.int a0 :: .ref y :: t) (sp_me I c s) r ↔ mm_Rn pg_G (d + 1) 104 353 ls (.int v :: t) (sp_me J (c + c') (s + s')) r := rn_virt (g := sp_me I c s) (st := .int a0 :: .ref y :: t) tb_104_350 (decide_eq_true hT) ⟨Nat.le_add_left _ t.length, hl, rfl⟩ hq r
set_option maxRecDepth 20000 in
theorem tb_104_353 : mm_tb pg_G 104 353 = some (.if_icmp .eq 248, 601, 0, 0) := rfl
theorem st_104_353 {d : Nat} {ls t : List Value} {g : mm_M} {r : mm_R} {x y : Int32} : mm_Rn pg_G d 104 353 ls (.int y :: .int x :: t) g r ↔ if x = y then mm_Rn pg_G d 104 601 ls (t) g r else mm_Rn pg_G d 104 356 ls (t) g r := rn_icmp_eq tb_104_353 r
set_option maxRecDepth 20000 in
theorem tb_104_356 : mm_tb pg_G 104 356 = some (.iconst 0, 0, 0, 0) := rfl
theorem st_104_356 {d : Nat} {ls t : List Value} {g : mm_M} {r : mm_R} : mm_Rn pg_G d 104 356 ls (t) g r ↔ mm_Rn pg_G d 104 357 ls (io_v 0 :: t) g r := rn_iconst tb_104_356 r
set_option maxRecDepth 20000 in
theorem tb_104_357 : mm_tb pg_G 104 357 = some (.ireturn, 0, 0, 0) := rfl
theorem st_104_357 {d : Nat} {ls : List Value} {g : mm_M} {r : mm_R} {x : Int32} (hb : x = 0 ∨ x = 1) : mm_Rn pg_G d 104 357 ls [.int x] g r ↔ r = (some (.int x), g) := rn_ireturn_iff tb_104_357 (Or.inr ⟨rfl, hb⟩) r
set_option maxRecDepth 20000 in
theorem tb_104_358 : mm_tb pg_G 104 358 = some (.aload_n 1, 0, 0, 0) := rfl
theorem st_104_358 {l0 l2 l3 : Value} {d : Nat} {t : List Value} {g : mm_M} {r : mm_R} {x : Nat} : mm_Rn pg_G d 104 358 [l0, .ref x, l2, l3] (t) g r ↔ mm_Rn pg_G d 104 359 [l0, .ref x, l2, l3] (.ref x :: t) g r := rn_aload_n tb_104_358 rfl r
set_option maxRecDepth 20000 in
theorem tb_104_359 : mm_tb pg_G 104 359 = some (.aload_n 0, 0, 0, 0) := rfl
theorem st_104_359 {l1 l2 l3 : Value} {d : Nat} {t : List Value} {g : mm_M} {r : mm_R} {x : Nat} : mm_Rn pg_G d 104 359 [.ref x, l1, l2, l3] (t) g r ↔ mm_Rn pg_G d 104 360 [.ref x, l1, l2, l3] (.ref x :: t) g r := rn_aload_n tb_104_359 rfl r
set_option maxRecDepth 20000 in
theorem tb_104_360 : mm_tb pg_G 104 360 = some (.iload_n 3, 0, 0, 0) := rfl
theorem st_104_360 {l0 l1 l2 : Value} {d : Nat} {t : List Value} {g : mm_M} {r : mm_R} {x : Int32} : mm_Rn pg_G d 104 360 [l0, l1, l2, .int x] (t) g r ↔ mm_Rn pg_G d 104 361 [l0, l1, l2, .int x] (.int x :: t) g r := rn_iload_n tb_104_360 rfl r
set_option maxRecDepth 20000 in
theorem tb_104_361 : mm_tb pg_G 104 361 = some (.iconst 1, 0, 0, 0) := rfl
theorem st_104_361 {d : Nat} {ls t : List Value} {g : mm_M} {r : mm_R} : mm_Rn pg_G d 104 361 ls (t) g r ↔ mm_Rn pg_G d 104 362 ls (io_v 1 :: t) g r := rn_iconst tb_104_361 r
set_option maxRecDepth 20000 in
theorem tb_104_362 : mm_tb pg_G 104 362 = some (.iadd, 0, 0, 0) := rfl
theorem st_104_362 {d : Nat} {ls t : List Value} {g : mm_M} {r : mm_R} {x y : Int32} : mm_Rn pg_G d 104 362 ls (.int y :: .int x :: t) g r ↔ mm_Rn pg_G d 104 363 ls (.int (x + y) :: t) g r := rn_iadd tb_104_362 r
set_option maxRecDepth 20000 in
theorem tb_104_363 : mm_tb pg_G 104 363 = some (.iaload, 0, 0, 0) := rfl
theorem st_104_363 {d : Nat} {ls t : List Value} {g : mm_M} {r : mm_R} {x : Nat} {j : Int32} (hc : mm_in (g.1 x) 100 101 j = true) : mm_Rn pg_G d 104 363 ls (.int j :: .ref x :: t) g r ↔ mm_Rn pg_G d 104 364 ls (g.2.1 x j.toNatClampNeg :: t) g r := rn_iaload tb_104_363 hc r
set_option maxRecDepth 20000 in
theorem tb_104_364 : mm_tb pg_G 104 364 = some (.invokevirtual 53, 41, 2, 274) := rfl
theorem st_104_364 {d c s c' s' : Nat} {ls t : List Value} {I J : sp_I} {r : mm_R} {a0 : Int32} {y : Nat} {v : Int32} (hl : t.length ≤ 4) (hT : sp_T I y = some (0, 8)) (hq : mm_Rn pg_G d 41 0 [.ref y, .int a0, .retAddr 0, .retAddr 0] [] (sp_me I 0 0) (some (.int v), sp_me J c' s')) : mm_Rn pg_G (d + 1) 104 364 ls (.int a0 :: .ref y :: t) (sp_me I c s) r ↔ mm_Rn pg_G (d + 1) 104 367 ls (.int v :: t) (sp_me J (c + c') (s + s')) r := rn_virt (g := sp_me I c s) (st := .int a0 :: .ref y :: t) tb_104_364 (decide_eq_true hT) ⟨Nat.le_add_left _ t.length, hl, rfl⟩ hq r
set_option maxRecDepth 20000 in
theorem tb_104_367 : mm_tb pg_G 104 367 = some (.aload_n 2, 0, 0, 0) := rfl
theorem st_104_367 {l0 l1 l3 : Value} {d : Nat} {t : List Value} {g : mm_M} {r : mm_R} {x : Nat} : mm_Rn pg_G d 104 367 [l0, l1, .ref x, l3] (t) g r ↔ mm_Rn pg_G d 104 368 [l0, l1, .ref x, l3] (.ref x :: t) g r := rn_aload_n tb_104_367 rfl r
set_option maxRecDepth 20000 in
theorem tb_104_368 : mm_tb pg_G 104 368 = some (.aload_n 0, 0, 0, 0) := rfl
theorem st_104_368 {l1 l2 l3 : Value} {d : Nat} {t : List Value} {g : mm_M} {r : mm_R} {x : Nat} : mm_Rn pg_G d 104 368 [.ref x, l1, l2, l3] (t) g r ↔ mm_Rn pg_G d 104 369 [.ref x, l1, l2, l3] (.ref x :: t) g r := rn_aload_n tb_104_368 rfl r
set_option maxRecDepth 20000 in
theorem tb_104_369 : mm_tb pg_G 104 369 = some (.iload_n 3, 0, 0, 0) := rfl
theorem st_104_369 {l0 l1 l2 : Value} {d : Nat} {t : List Value} {g : mm_M} {r : mm_R} {x : Int32} : mm_Rn pg_G d 104 369 [l0, l1, l2, .int x] (t) g r ↔ mm_Rn pg_G d 104 370 [l0, l1, l2, .int x] (.int x :: t) g r := rn_iload_n tb_104_369 rfl r
set_option maxRecDepth 20000 in
theorem tb_104_370 : mm_tb pg_G 104 370 = some (.iconst 1, 0, 0, 0) := rfl
theorem st_104_370 {d : Nat} {ls t : List Value} {g : mm_M} {r : mm_R} : mm_Rn pg_G d 104 370 ls (t) g r ↔ mm_Rn pg_G d 104 371 ls (io_v 1 :: t) g r := rn_iconst tb_104_370 r
set_option maxRecDepth 20000 in
theorem tb_104_371 : mm_tb pg_G 104 371 = some (.iadd, 0, 0, 0) := rfl
theorem st_104_371 {d : Nat} {ls t : List Value} {g : mm_M} {r : mm_R} {x y : Int32} : mm_Rn pg_G d 104 371 ls (.int y :: .int x :: t) g r ↔ mm_Rn pg_G d 104 372 ls (.int (x + y) :: t) g r := rn_iadd tb_104_371 r
set_option maxRecDepth 20000 in
theorem tb_104_372 : mm_tb pg_G 104 372 = some (.iaload, 0, 0, 0) := rfl
theorem st_104_372 {d : Nat} {ls t : List Value} {g : mm_M} {r : mm_R} {x : Nat} {j : Int32} (hc : mm_in (g.1 x) 100 101 j = true) : mm_Rn pg_G d 104 372 ls (.int j :: .ref x :: t) g r ↔ mm_Rn pg_G d 104 373 ls (g.2.1 x j.toNatClampNeg :: t) g r := rn_iaload tb_104_372 hc r
set_option maxRecDepth 20000 in
theorem tb_104_373 : mm_tb pg_G 104 373 = some (.invokevirtual 56, 95, 2, 552) := rfl
theorem st_104_373 {d c s c' s' : Nat} {ls t : List Value} {I J : sp_I} {r : mm_R} {a0 : Int32} {y : Nat} {v : Int32} (hl : t.length ≤ 4) (hT : sp_T I y = some (6, 35)) (hq : mm_Rn pg_G d 95 0 [.ref y, .int a0, .retAddr 0, .retAddr 0, .retAddr 0] [] (sp_me I 0 0) (some (.int v), sp_me J c' s')) : mm_Rn pg_G (d + 1) 104 373 ls (.int a0 :: .ref y :: t) (sp_me I c s) r ↔ mm_Rn pg_G (d + 1) 104 376 ls (.int v :: t) (sp_me J (c + c') (s + s')) r := rn_virt (g := sp_me I c s) (st := .int a0 :: .ref y :: t) tb_104_373 (decide_eq_true hT) ⟨Nat.le_add_left _ t.length, hl, rfl⟩ hq r
set_option maxRecDepth 20000 in
theorem tb_104_376 : mm_tb pg_G 104 376 = some (.if_icmp .eq 225, 601, 0, 0) := rfl
theorem st_104_376 {d : Nat} {ls t : List Value} {g : mm_M} {r : mm_R} {x y : Int32} : mm_Rn pg_G d 104 376 ls (.int y :: .int x :: t) g r ↔ if x = y then mm_Rn pg_G d 104 601 ls (t) g r else mm_Rn pg_G d 104 379 ls (t) g r := rn_icmp_eq tb_104_376 r
set_option maxRecDepth 20000 in
theorem tb_104_379 : mm_tb pg_G 104 379 = some (.iconst 0, 0, 0, 0) := rfl
theorem st_104_379 {d : Nat} {ls t : List Value} {g : mm_M} {r : mm_R} : mm_Rn pg_G d 104 379 ls (t) g r ↔ mm_Rn pg_G d 104 380 ls (io_v 0 :: t) g r := rn_iconst tb_104_379 r
set_option maxRecDepth 20000 in
theorem tb_104_380 : mm_tb pg_G 104 380 = some (.ireturn, 0, 0, 0) := rfl
theorem st_104_380 {d : Nat} {ls : List Value} {g : mm_M} {r : mm_R} {x : Int32} (hb : x = 0 ∨ x = 1) : mm_Rn pg_G d 104 380 ls [.int x] g r ↔ r = (some (.int x), g) := rn_ireturn_iff tb_104_380 (Or.inr ⟨rfl, hb⟩) r
set_option maxRecDepth 20000 in
theorem tb_104_381 : mm_tb pg_G 104 381 = some (.aload_n 1, 0, 0, 0) := rfl
theorem st_104_381 {l0 l2 l3 : Value} {d : Nat} {t : List Value} {g : mm_M} {r : mm_R} {x : Nat} : mm_Rn pg_G d 104 381 [l0, .ref x, l2, l3] (t) g r ↔ mm_Rn pg_G d 104 382 [l0, .ref x, l2, l3] (.ref x :: t) g r := rn_aload_n tb_104_381 rfl r
set_option maxRecDepth 20000 in
theorem tb_104_382 : mm_tb pg_G 104 382 = some (.invokevirtual 57, 42, 1, 353) := rfl
theorem st_104_382 {d c s c' s' : Nat} {ls t : List Value} {I J : sp_I} {r : mm_R} {y : Nat} {v : Int32} (hl : t.length ≤ 4) (hT : sp_T I y = some (0, 8)) (hq : mm_Rn pg_G d 42 0 [.ref y] [] (sp_me I 0 0) (some (.int v), sp_me J c' s')) : mm_Rn pg_G (d + 1) 104 382 ls (.ref y :: t) (sp_me I c s) r ↔ mm_Rn pg_G (d + 1) 104 385 ls (.int v :: t) (sp_me J (c + c') (s + s')) r := rn_virt (g := sp_me I c s) (st := .ref y :: t) tb_104_382 (decide_eq_true hT) ⟨Nat.le_add_left _ t.length, hl, rfl⟩ hq r
set_option maxRecDepth 20000 in
theorem tb_104_385 : mm_tb pg_G 104 385 = some (.aload_n 2, 0, 0, 0) := rfl
theorem st_104_385 {l0 l1 l3 : Value} {d : Nat} {t : List Value} {g : mm_M} {r : mm_R} {x : Nat} : mm_Rn pg_G d 104 385 [l0, l1, .ref x, l3] (t) g r ↔ mm_Rn pg_G d 104 386 [l0, l1, .ref x, l3] (.ref x :: t) g r := rn_aload_n tb_104_385 rfl r
set_option maxRecDepth 20000 in
theorem tb_104_386 : mm_tb pg_G 104 386 = some (.invokevirtual 60, 96, 1, 587) := rfl
theorem st_104_386 {d c s c' s' : Nat} {ls t : List Value} {I J : sp_I} {r : mm_R} {y : Nat} {v : Int32} (hl : t.length ≤ 4) (hT : sp_T I y = some (6, 35)) (hq : mm_Rn pg_G d 96 0 [.ref y] [] (sp_me I 0 0) (some (.int v), sp_me J c' s')) : mm_Rn pg_G (d + 1) 104 386 ls (.ref y :: t) (sp_me I c s) r ↔ mm_Rn pg_G (d + 1) 104 389 ls (.int v :: t) (sp_me J (c + c') (s + s')) r := rn_virt (g := sp_me I c s) (st := .ref y :: t) tb_104_386 (decide_eq_true hT) ⟨Nat.le_add_left _ t.length, hl, rfl⟩ hq r
set_option maxRecDepth 20000 in
theorem tb_104_389 : mm_tb pg_G 104 389 = some (.if_icmp .eq 212, 601, 0, 0) := rfl
theorem st_104_389 {d : Nat} {ls t : List Value} {g : mm_M} {r : mm_R} {x y : Int32} : mm_Rn pg_G d 104 389 ls (.int y :: .int x :: t) g r ↔ if x = y then mm_Rn pg_G d 104 601 ls (t) g r else mm_Rn pg_G d 104 392 ls (t) g r := rn_icmp_eq tb_104_389 r
set_option maxRecDepth 20000 in
theorem tb_104_392 : mm_tb pg_G 104 392 = some (.iconst 0, 0, 0, 0) := rfl
theorem st_104_392 {d : Nat} {ls t : List Value} {g : mm_M} {r : mm_R} : mm_Rn pg_G d 104 392 ls (t) g r ↔ mm_Rn pg_G d 104 393 ls (io_v 0 :: t) g r := rn_iconst tb_104_392 r
set_option maxRecDepth 20000 in
theorem tb_104_393 : mm_tb pg_G 104 393 = some (.ireturn, 0, 0, 0) := rfl
theorem st_104_393 {d : Nat} {ls : List Value} {g : mm_M} {r : mm_R} {x : Int32} (hb : x = 0 ∨ x = 1) : mm_Rn pg_G d 104 393 ls [.int x] g r ↔ r = (some (.int x), g) := rn_ireturn_iff tb_104_393 (Or.inr ⟨rfl, hb⟩) r
set_option maxRecDepth 20000 in
theorem tb_104_394 : mm_tb pg_G 104 394 = some (.aload_n 1, 0, 0, 0) := rfl
theorem st_104_394 {l0 l2 l3 : Value} {d : Nat} {t : List Value} {g : mm_M} {r : mm_R} {x : Nat} : mm_Rn pg_G d 104 394 [l0, .ref x, l2, l3] (t) g r ↔ mm_Rn pg_G d 104 395 [l0, .ref x, l2, l3] (.ref x :: t) g r := rn_aload_n tb_104_394 rfl r
set_option maxRecDepth 20000 in
theorem tb_104_395 : mm_tb pg_G 104 395 = some (.aload_n 0, 0, 0, 0) := rfl
theorem st_104_395 {l1 l2 l3 : Value} {d : Nat} {t : List Value} {g : mm_M} {r : mm_R} {x : Nat} : mm_Rn pg_G d 104 395 [.ref x, l1, l2, l3] (t) g r ↔ mm_Rn pg_G d 104 396 [.ref x, l1, l2, l3] (.ref x :: t) g r := rn_aload_n tb_104_395 rfl r
set_option maxRecDepth 20000 in
theorem tb_104_396 : mm_tb pg_G 104 396 = some (.iload_n 3, 0, 0, 0) := rfl
theorem st_104_396 {l0 l1 l2 : Value} {d : Nat} {t : List Value} {g : mm_M} {r : mm_R} {x : Int32} : mm_Rn pg_G d 104 396 [l0, l1, l2, .int x] (t) g r ↔ mm_Rn pg_G d 104 397 [l0, l1, l2, .int x] (.int x :: t) g r := rn_iload_n tb_104_396 rfl r
set_option maxRecDepth 20000 in
theorem tb_104_397 : mm_tb pg_G 104 397 = some (.iconst 1, 0, 0, 0) := rfl
theorem st_104_397 {d : Nat} {ls t : List Value} {g : mm_M} {r : mm_R} : mm_Rn pg_G d 104 397 ls (t) g r ↔ mm_Rn pg_G d 104 398 ls (io_v 1 :: t) g r := rn_iconst tb_104_397 r
set_option maxRecDepth 20000 in
theorem tb_104_398 : mm_tb pg_G 104 398 = some (.iadd, 0, 0, 0) := rfl
theorem st_104_398 {d : Nat} {ls t : List Value} {g : mm_M} {r : mm_R} {x y : Int32} : mm_Rn pg_G d 104 398 ls (.int y :: .int x :: t) g r ↔ mm_Rn pg_G d 104 399 ls (.int (x + y) :: t) g r := rn_iadd tb_104_398 r
set_option maxRecDepth 20000 in
theorem tb_104_399 : mm_tb pg_G 104 399 = some (.iaload, 0, 0, 0) := rfl
theorem st_104_399 {d : Nat} {ls t : List Value} {g : mm_M} {r : mm_R} {x : Nat} {j : Int32} (hc : mm_in (g.1 x) 100 101 j = true) : mm_Rn pg_G d 104 399 ls (.int j :: .ref x :: t) g r ↔ mm_Rn pg_G d 104 400 ls (g.2.1 x j.toNatClampNeg :: t) g r := rn_iaload tb_104_399 hc r
set_option maxRecDepth 20000 in
theorem tb_104_400 : mm_tb pg_G 104 400 = some (.invokevirtual 61, 43, 2, 357) := rfl
theorem st_104_400 {d c s c' s' : Nat} {ls t : List Value} {I J : sp_I} {r : mm_R} {a0 : Int32} {y : Nat} {v : Int32} (hl : t.length ≤ 4) (hT : sp_T I y = some (0, 8)) (hq : mm_Rn pg_G d 43 0 [.ref y, .int a0] [] (sp_me I 0 0) (some (.int v), sp_me J c' s')) : mm_Rn pg_G (d + 1) 104 400 ls (.int a0 :: .ref y :: t) (sp_me I c s) r ↔ mm_Rn pg_G (d + 1) 104 403 ls (.int v :: t) (sp_me J (c + c') (s + s')) r := rn_virt (g := sp_me I c s) (st := .int a0 :: .ref y :: t) tb_104_400 (decide_eq_true hT) ⟨Nat.le_add_left _ t.length, hl, rfl⟩ hq r
set_option maxRecDepth 20000 in
theorem tb_104_403 : mm_tb pg_G 104 403 = some (.aload_n 2, 0, 0, 0) := rfl
theorem st_104_403 {l0 l1 l3 : Value} {d : Nat} {t : List Value} {g : mm_M} {r : mm_R} {x : Nat} : mm_Rn pg_G d 104 403 [l0, l1, .ref x, l3] (t) g r ↔ mm_Rn pg_G d 104 404 [l0, l1, .ref x, l3] (.ref x :: t) g r := rn_aload_n tb_104_403 rfl r
set_option maxRecDepth 20000 in
theorem tb_104_404 : mm_tb pg_G 104 404 = some (.aload_n 0, 0, 0, 0) := rfl
theorem st_104_404 {l1 l2 l3 : Value} {d : Nat} {t : List Value} {g : mm_M} {r : mm_R} {x : Nat} : mm_Rn pg_G d 104 404 [.ref x, l1, l2, l3] (t) g r ↔ mm_Rn pg_G d 104 405 [.ref x, l1, l2, l3] (.ref x :: t) g r := rn_aload_n tb_104_404 rfl r
set_option maxRecDepth 20000 in
theorem tb_104_405 : mm_tb pg_G 104 405 = some (.iload_n 3, 0, 0, 0) := rfl
theorem st_104_405 {l0 l1 l2 : Value} {d : Nat} {t : List Value} {g : mm_M} {r : mm_R} {x : Int32} : mm_Rn pg_G d 104 405 [l0, l1, l2, .int x] (t) g r ↔ mm_Rn pg_G d 104 406 [l0, l1, l2, .int x] (.int x :: t) g r := rn_iload_n tb_104_405 rfl r
set_option maxRecDepth 20000 in
theorem tb_104_406 : mm_tb pg_G 104 406 = some (.iconst 1, 0, 0, 0) := rfl
theorem st_104_406 {d : Nat} {ls t : List Value} {g : mm_M} {r : mm_R} : mm_Rn pg_G d 104 406 ls (t) g r ↔ mm_Rn pg_G d 104 407 ls (io_v 1 :: t) g r := rn_iconst tb_104_406 r
set_option maxRecDepth 20000 in
theorem tb_104_407 : mm_tb pg_G 104 407 = some (.iadd, 0, 0, 0) := rfl
theorem st_104_407 {d : Nat} {ls t : List Value} {g : mm_M} {r : mm_R} {x y : Int32} : mm_Rn pg_G d 104 407 ls (.int y :: .int x :: t) g r ↔ mm_Rn pg_G d 104 408 ls (.int (x + y) :: t) g r := rn_iadd tb_104_407 r
set_option maxRecDepth 20000 in
theorem tb_104_408 : mm_tb pg_G 104 408 = some (.iaload, 0, 0, 0) := rfl
theorem st_104_408 {d : Nat} {ls t : List Value} {g : mm_M} {r : mm_R} {x : Nat} {j : Int32} (hc : mm_in (g.1 x) 100 101 j = true) : mm_Rn pg_G d 104 408 ls (.int j :: .ref x :: t) g r ↔ mm_Rn pg_G d 104 409 ls (g.2.1 x j.toNatClampNeg :: t) g r := rn_iaload tb_104_408 hc r
set_option maxRecDepth 20000 in
theorem tb_104_409 : mm_tb pg_G 104 409 = some (.invokevirtual 64, 97, 2, 591) := rfl
theorem st_104_409 {d c s c' s' : Nat} {ls t : List Value} {I J : sp_I} {r : mm_R} {a0 : Int32} {y : Nat} {v : Int32} (hl : t.length ≤ 4) (hT : sp_T I y = some (6, 35)) (hq : mm_Rn pg_G d 97 0 [.ref y, .int a0] [] (sp_me I 0 0) (some (.int v), sp_me J c' s')) : mm_Rn pg_G (d + 1) 104 409 ls (.int a0 :: .ref y :: t) (sp_me I c s) r ↔ mm_Rn pg_G (d + 1) 104 412 ls (.int v :: t) (sp_me J (c + c') (s + s')) r := rn_virt (g := sp_me I c s) (st := .int a0 :: .ref y :: t) tb_104_409 (decide_eq_true hT) ⟨Nat.le_add_left _ t.length, hl, rfl⟩ hq r
set_option maxRecDepth 20000 in
theorem tb_104_412 : mm_tb pg_G 104 412 = some (.if_icmp .eq 189, 601, 0, 0) := rfl
theorem st_104_412 {d : Nat} {ls t : List Value} {g : mm_M} {r : mm_R} {x y : Int32} : mm_Rn pg_G d 104 412 ls (.int y :: .int x :: t) g r ↔ if x = y then mm_Rn pg_G d 104 601 ls (t) g r else mm_Rn pg_G d 104 415 ls (t) g r := rn_icmp_eq tb_104_412 r
set_option maxRecDepth 20000 in
theorem tb_104_415 : mm_tb pg_G 104 415 = some (.iconst 0, 0, 0, 0) := rfl
theorem st_104_415 {d : Nat} {ls t : List Value} {g : mm_M} {r : mm_R} : mm_Rn pg_G d 104 415 ls (t) g r ↔ mm_Rn pg_G d 104 416 ls (io_v 0 :: t) g r := rn_iconst tb_104_415 r
set_option maxRecDepth 20000 in
theorem tb_104_416 : mm_tb pg_G 104 416 = some (.ireturn, 0, 0, 0) := rfl
theorem st_104_416 {d : Nat} {ls : List Value} {g : mm_M} {r : mm_R} {x : Int32} (hb : x = 0 ∨ x = 1) : mm_Rn pg_G d 104 416 ls [.int x] g r ↔ r = (some (.int x), g) := rn_ireturn_iff tb_104_416 (Or.inr ⟨rfl, hb⟩) r
set_option maxRecDepth 20000 in
theorem tb_104_417 : mm_tb pg_G 104 417 = some (.aload_n 1, 0, 0, 0) := rfl
theorem st_104_417 {l0 l2 l3 : Value} {d : Nat} {t : List Value} {g : mm_M} {r : mm_R} {x : Nat} : mm_Rn pg_G d 104 417 [l0, .ref x, l2, l3] (t) g r ↔ mm_Rn pg_G d 104 418 [l0, .ref x, l2, l3] (.ref x :: t) g r := rn_aload_n tb_104_417 rfl r
set_option maxRecDepth 20000 in
theorem tb_104_418 : mm_tb pg_G 104 418 = some (.aload_n 0, 0, 0, 0) := rfl
theorem st_104_418 {l1 l2 l3 : Value} {d : Nat} {t : List Value} {g : mm_M} {r : mm_R} {x : Nat} : mm_Rn pg_G d 104 418 [.ref x, l1, l2, l3] (t) g r ↔ mm_Rn pg_G d 104 419 [.ref x, l1, l2, l3] (.ref x :: t) g r := rn_aload_n tb_104_418 rfl r
set_option maxRecDepth 20000 in
theorem tb_104_419 : mm_tb pg_G 104 419 = some (.iload_n 3, 0, 0, 0) := rfl
theorem st_104_419 {l0 l1 l2 : Value} {d : Nat} {t : List Value} {g : mm_M} {r : mm_R} {x : Int32} : mm_Rn pg_G d 104 419 [l0, l1, l2, .int x] (t) g r ↔ mm_Rn pg_G d 104 420 [l0, l1, l2, .int x] (.int x :: t) g r := rn_iload_n tb_104_419 rfl r
set_option maxRecDepth 20000 in
theorem tb_104_420 : mm_tb pg_G 104 420 = some (.iconst 1, 0, 0, 0) := rfl
theorem st_104_420 {d : Nat} {ls t : List Value} {g : mm_M} {r : mm_R} : mm_Rn pg_G d 104 420 ls (t) g r ↔ mm_Rn pg_G d 104 421 ls (io_v 1 :: t) g r := rn_iconst tb_104_420 r
set_option maxRecDepth 20000 in
theorem tb_104_421 : mm_tb pg_G 104 421 = some (.iadd, 0, 0, 0) := rfl
theorem st_104_421 {d : Nat} {ls t : List Value} {g : mm_M} {r : mm_R} {x y : Int32} : mm_Rn pg_G d 104 421 ls (.int y :: .int x :: t) g r ↔ mm_Rn pg_G d 104 422 ls (.int (x + y) :: t) g r := rn_iadd tb_104_421 r
set_option maxRecDepth 20000 in
theorem tb_104_422 : mm_tb pg_G 104 422 = some (.iaload, 0, 0, 0) := rfl
theorem st_104_422 {d : Nat} {ls t : List Value} {g : mm_M} {r : mm_R} {x : Nat} {j : Int32} (hc : mm_in (g.1 x) 100 101 j = true) : mm_Rn pg_G d 104 422 ls (.int j :: .ref x :: t) g r ↔ mm_Rn pg_G d 104 423 ls (g.2.1 x j.toNatClampNeg :: t) g r := rn_iaload tb_104_422 hc r
set_option maxRecDepth 20000 in
theorem tb_104_423 : mm_tb pg_G 104 423 = some (.invokevirtual 65, 44, 2, 362) := rfl
theorem st_104_423 {d c s c' s' : Nat} {ls t : List Value} {I J : sp_I} {r : mm_R} {a0 : Int32} {y : Nat} {v : Int32} (hl : t.length ≤ 4) (hT : sp_T I y = some (0, 8)) (hq : mm_Rn pg_G d 44 0 [.ref y, .int a0, .retAddr 0] [] (sp_me I 0 0) (some (.int v), sp_me J c' s')) : mm_Rn pg_G (d + 1) 104 423 ls (.int a0 :: .ref y :: t) (sp_me I c s) r ↔ mm_Rn pg_G (d + 1) 104 426 ls (.int v :: t) (sp_me J (c + c') (s + s')) r := rn_virt (g := sp_me I c s) (st := .int a0 :: .ref y :: t) tb_104_423 (decide_eq_true hT) ⟨Nat.le_add_left _ t.length, hl, rfl⟩ hq r
set_option maxRecDepth 20000 in
theorem tb_104_426 : mm_tb pg_G 104 426 = some (.aload_n 2, 0, 0, 0) := rfl
theorem st_104_426 {l0 l1 l3 : Value} {d : Nat} {t : List Value} {g : mm_M} {r : mm_R} {x : Nat} : mm_Rn pg_G d 104 426 [l0, l1, .ref x, l3] (t) g r ↔ mm_Rn pg_G d 104 427 [l0, l1, .ref x, l3] (.ref x :: t) g r := rn_aload_n tb_104_426 rfl r
set_option maxRecDepth 20000 in
theorem tb_104_427 : mm_tb pg_G 104 427 = some (.aload_n 0, 0, 0, 0) := rfl
theorem st_104_427 {l1 l2 l3 : Value} {d : Nat} {t : List Value} {g : mm_M} {r : mm_R} {x : Nat} : mm_Rn pg_G d 104 427 [.ref x, l1, l2, l3] (t) g r ↔ mm_Rn pg_G d 104 428 [.ref x, l1, l2, l3] (.ref x :: t) g r := rn_aload_n tb_104_427 rfl r
set_option maxRecDepth 20000 in
theorem tb_104_428 : mm_tb pg_G 104 428 = some (.iload_n 3, 0, 0, 0) := rfl
theorem st_104_428 {l0 l1 l2 : Value} {d : Nat} {t : List Value} {g : mm_M} {r : mm_R} {x : Int32} : mm_Rn pg_G d 104 428 [l0, l1, l2, .int x] (t) g r ↔ mm_Rn pg_G d 104 429 [l0, l1, l2, .int x] (.int x :: t) g r := rn_iload_n tb_104_428 rfl r
set_option maxRecDepth 20000 in
theorem tb_104_429 : mm_tb pg_G 104 429 = some (.iconst 1, 0, 0, 0) := rfl
theorem st_104_429 {d : Nat} {ls t : List Value} {g : mm_M} {r : mm_R} : mm_Rn pg_G d 104 429 ls (t) g r ↔ mm_Rn pg_G d 104 430 ls (io_v 1 :: t) g r := rn_iconst tb_104_429 r
set_option maxRecDepth 20000 in
theorem tb_104_430 : mm_tb pg_G 104 430 = some (.iadd, 0, 0, 0) := rfl
theorem st_104_430 {d : Nat} {ls t : List Value} {g : mm_M} {r : mm_R} {x y : Int32} : mm_Rn pg_G d 104 430 ls (.int y :: .int x :: t) g r ↔ mm_Rn pg_G d 104 431 ls (.int (x + y) :: t) g r := rn_iadd tb_104_430 r
set_option maxRecDepth 20000 in
theorem tb_104_431 : mm_tb pg_G 104 431 = some (.iaload, 0, 0, 0) := rfl
theorem st_104_431 {d : Nat} {ls t : List Value} {g : mm_M} {r : mm_R} {x : Nat} {j : Int32} (hc : mm_in (g.1 x) 100 101 j = true) : mm_Rn pg_G d 104 431 ls (.int j :: .ref x :: t) g r ↔ mm_Rn pg_G d 104 432 ls (g.2.1 x j.toNatClampNeg :: t) g r := rn_iaload tb_104_431 hc r
set_option maxRecDepth 20000 in
theorem tb_104_432 : mm_tb pg_G 104 432 = some (.invokevirtual 68, 98, 2, 595) := rfl
theorem st_104_432 {d c s c' s' : Nat} {ls t : List Value} {I J : sp_I} {r : mm_R} {a0 : Int32} {y : Nat} {v : Int32} (hl : t.length ≤ 4) (hT : sp_T I y = some (6, 35)) (hq : mm_Rn pg_G d 98 0 [.ref y, .int a0, .retAddr 0] [] (sp_me I 0 0) (some (.int v), sp_me J c' s')) : mm_Rn pg_G (d + 1) 104 432 ls (.int a0 :: .ref y :: t) (sp_me I c s) r ↔ mm_Rn pg_G (d + 1) 104 435 ls (.int v :: t) (sp_me J (c + c') (s + s')) r := rn_virt (g := sp_me I c s) (st := .int a0 :: .ref y :: t) tb_104_432 (decide_eq_true hT) ⟨Nat.le_add_left _ t.length, hl, rfl⟩ hq r
set_option maxRecDepth 20000 in
theorem tb_104_435 : mm_tb pg_G 104 435 = some (.if_icmp .eq 166, 601, 0, 0) := rfl
theorem st_104_435 {d : Nat} {ls t : List Value} {g : mm_M} {r : mm_R} {x y : Int32} : mm_Rn pg_G d 104 435 ls (.int y :: .int x :: t) g r ↔ if x = y then mm_Rn pg_G d 104 601 ls (t) g r else mm_Rn pg_G d 104 438 ls (t) g r := rn_icmp_eq tb_104_435 r
set_option maxRecDepth 20000 in
theorem tb_104_438 : mm_tb pg_G 104 438 = some (.iconst 0, 0, 0, 0) := rfl
theorem st_104_438 {d : Nat} {ls t : List Value} {g : mm_M} {r : mm_R} : mm_Rn pg_G d 104 438 ls (t) g r ↔ mm_Rn pg_G d 104 439 ls (io_v 0 :: t) g r := rn_iconst tb_104_438 r
set_option maxRecDepth 20000 in
theorem tb_104_439 : mm_tb pg_G 104 439 = some (.ireturn, 0, 0, 0) := rfl
theorem st_104_439 {d : Nat} {ls : List Value} {g : mm_M} {r : mm_R} {x : Int32} (hb : x = 0 ∨ x = 1) : mm_Rn pg_G d 104 439 ls [.int x] g r ↔ r = (some (.int x), g) := rn_ireturn_iff tb_104_439 (Or.inr ⟨rfl, hb⟩) r
set_option maxRecDepth 20000 in
theorem tb_104_440 : mm_tb pg_G 104 440 = some (.aload_n 1, 0, 0, 0) := rfl
theorem st_104_440 {l0 l2 l3 : Value} {d : Nat} {t : List Value} {g : mm_M} {r : mm_R} {x : Nat} : mm_Rn pg_G d 104 440 [l0, .ref x, l2, l3] (t) g r ↔ mm_Rn pg_G d 104 441 [l0, .ref x, l2, l3] (.ref x :: t) g r := rn_aload_n tb_104_440 rfl r
set_option maxRecDepth 20000 in
theorem tb_104_441 : mm_tb pg_G 104 441 = some (.aload_n 0, 0, 0, 0) := rfl
theorem st_104_441 {l1 l2 l3 : Value} {d : Nat} {t : List Value} {g : mm_M} {r : mm_R} {x : Nat} : mm_Rn pg_G d 104 441 [.ref x, l1, l2, l3] (t) g r ↔ mm_Rn pg_G d 104 442 [.ref x, l1, l2, l3] (.ref x :: t) g r := rn_aload_n tb_104_441 rfl r
set_option maxRecDepth 20000 in
theorem tb_104_442 : mm_tb pg_G 104 442 = some (.iload_n 3, 0, 0, 0) := rfl
theorem st_104_442 {l0 l1 l2 : Value} {d : Nat} {t : List Value} {g : mm_M} {r : mm_R} {x : Int32} : mm_Rn pg_G d 104 442 [l0, l1, l2, .int x] (t) g r ↔ mm_Rn pg_G d 104 443 [l0, l1, l2, .int x] (.int x :: t) g r := rn_iload_n tb_104_442 rfl r
set_option maxRecDepth 20000 in
theorem tb_104_443 : mm_tb pg_G 104 443 = some (.iconst 1, 0, 0, 0) := rfl
theorem st_104_443 {d : Nat} {ls t : List Value} {g : mm_M} {r : mm_R} : mm_Rn pg_G d 104 443 ls (t) g r ↔ mm_Rn pg_G d 104 444 ls (io_v 1 :: t) g r := rn_iconst tb_104_443 r
set_option maxRecDepth 20000 in
theorem tb_104_444 : mm_tb pg_G 104 444 = some (.iadd, 0, 0, 0) := rfl
theorem st_104_444 {d : Nat} {ls t : List Value} {g : mm_M} {r : mm_R} {x y : Int32} : mm_Rn pg_G d 104 444 ls (.int y :: .int x :: t) g r ↔ mm_Rn pg_G d 104 445 ls (.int (x + y) :: t) g r := rn_iadd tb_104_444 r
set_option maxRecDepth 20000 in
theorem tb_104_445 : mm_tb pg_G 104 445 = some (.iaload, 0, 0, 0) := rfl
theorem st_104_445 {d : Nat} {ls t : List Value} {g : mm_M} {r : mm_R} {x : Nat} {j : Int32} (hc : mm_in (g.1 x) 100 101 j = true) : mm_Rn pg_G d 104 445 ls (.int j :: .ref x :: t) g r ↔ mm_Rn pg_G d 104 446 ls (g.2.1 x j.toNatClampNeg :: t) g r := rn_iaload tb_104_445 hc r
set_option maxRecDepth 20000 in
theorem tb_104_446 : mm_tb pg_G 104 446 = some (.invokevirtual 69, 45, 2, 369) := rfl
theorem st_104_446 {d c s c' s' : Nat} {ls t : List Value} {I J : sp_I} {r : mm_R} {a0 : Int32} {y : Nat} {v : Int32} (hl : t.length ≤ 4) (hT : sp_T I y = some (0, 8)) (hq : mm_Rn pg_G d 45 0 [.ref y, .int a0, .retAddr 0] [] (sp_me I 0 0) (some (.int v), sp_me J c' s')) : mm_Rn pg_G (d + 1) 104 446 ls (.int a0 :: .ref y :: t) (sp_me I c s) r ↔ mm_Rn pg_G (d + 1) 104 449 ls (.int v :: t) (sp_me J (c + c') (s + s')) r := rn_virt (g := sp_me I c s) (st := .int a0 :: .ref y :: t) tb_104_446 (decide_eq_true hT) ⟨Nat.le_add_left _ t.length, hl, rfl⟩ hq r
set_option maxRecDepth 20000 in
theorem tb_104_449 : mm_tb pg_G 104 449 = some (.aload_n 2, 0, 0, 0) := rfl
theorem st_104_449 {l0 l1 l3 : Value} {d : Nat} {t : List Value} {g : mm_M} {r : mm_R} {x : Nat} : mm_Rn pg_G d 104 449 [l0, l1, .ref x, l3] (t) g r ↔ mm_Rn pg_G d 104 450 [l0, l1, .ref x, l3] (.ref x :: t) g r := rn_aload_n tb_104_449 rfl r
set_option maxRecDepth 20000 in
theorem tb_104_450 : mm_tb pg_G 104 450 = some (.aload_n 0, 0, 0, 0) := rfl
theorem st_104_450 {l1 l2 l3 : Value} {d : Nat} {t : List Value} {g : mm_M} {r : mm_R} {x : Nat} : mm_Rn pg_G d 104 450 [.ref x, l1, l2, l3] (t) g r ↔ mm_Rn pg_G d 104 451 [.ref x, l1, l2, l3] (.ref x :: t) g r := rn_aload_n tb_104_450 rfl r
set_option maxRecDepth 20000 in
theorem tb_104_451 : mm_tb pg_G 104 451 = some (.iload_n 3, 0, 0, 0) := rfl
theorem st_104_451 {l0 l1 l2 : Value} {d : Nat} {t : List Value} {g : mm_M} {r : mm_R} {x : Int32} : mm_Rn pg_G d 104 451 [l0, l1, l2, .int x] (t) g r ↔ mm_Rn pg_G d 104 452 [l0, l1, l2, .int x] (.int x :: t) g r := rn_iload_n tb_104_451 rfl r
set_option maxRecDepth 20000 in
theorem tb_104_452 : mm_tb pg_G 104 452 = some (.iconst 1, 0, 0, 0) := rfl
theorem st_104_452 {d : Nat} {ls t : List Value} {g : mm_M} {r : mm_R} : mm_Rn pg_G d 104 452 ls (t) g r ↔ mm_Rn pg_G d 104 453 ls (io_v 1 :: t) g r := rn_iconst tb_104_452 r
set_option maxRecDepth 20000 in
theorem tb_104_453 : mm_tb pg_G 104 453 = some (.iadd, 0, 0, 0) := rfl
theorem st_104_453 {d : Nat} {ls t : List Value} {g : mm_M} {r : mm_R} {x y : Int32} : mm_Rn pg_G d 104 453 ls (.int y :: .int x :: t) g r ↔ mm_Rn pg_G d 104 454 ls (.int (x + y) :: t) g r := rn_iadd tb_104_453 r
set_option maxRecDepth 20000 in
theorem tb_104_454 : mm_tb pg_G 104 454 = some (.iaload, 0, 0, 0) := rfl
theorem st_104_454 {d : Nat} {ls t : List Value} {g : mm_M} {r : mm_R} {x : Nat} {j : Int32} (hc : mm_in (g.1 x) 100 101 j = true) : mm_Rn pg_G d 104 454 ls (.int j :: .ref x :: t) g r ↔ mm_Rn pg_G d 104 455 ls (g.2.1 x j.toNatClampNeg :: t) g r := rn_iaload tb_104_454 hc r
set_option maxRecDepth 20000 in
theorem tb_104_455 : mm_tb pg_G 104 455 = some (.invokevirtual 72, 88, 2, 540) := rfl
theorem st_104_455 {d c s c' s' : Nat} {ls t : List Value} {I J : sp_I} {r : mm_R} {a0 : Int32} {y : Nat} {v : Int32} (hl : t.length ≤ 4) (hT : sp_T I y = some (6, 35)) (hq : mm_Rn pg_G d 88 0 [.ref y, .int a0, .retAddr 0] [] (sp_me I 0 0) (some (.int v), sp_me J c' s')) : mm_Rn pg_G (d + 1) 104 455 ls (.int a0 :: .ref y :: t) (sp_me I c s) r ↔ mm_Rn pg_G (d + 1) 104 458 ls (.int v :: t) (sp_me J (c + c') (s + s')) r := rn_virt (g := sp_me I c s) (st := .int a0 :: .ref y :: t) tb_104_455 (decide_eq_true hT) ⟨Nat.le_add_left _ t.length, hl, rfl⟩ hq r
set_option maxRecDepth 20000 in
theorem tb_104_458 : mm_tb pg_G 104 458 = some (.if_icmp .eq 143, 601, 0, 0) := rfl
theorem st_104_458 {d : Nat} {ls t : List Value} {g : mm_M} {r : mm_R} {x y : Int32} : mm_Rn pg_G d 104 458 ls (.int y :: .int x :: t) g r ↔ if x = y then mm_Rn pg_G d 104 601 ls (t) g r else mm_Rn pg_G d 104 461 ls (t) g r := rn_icmp_eq tb_104_458 r
set_option maxRecDepth 20000 in
theorem tb_104_461 : mm_tb pg_G 104 461 = some (.iconst 0, 0, 0, 0) := rfl
theorem st_104_461 {d : Nat} {ls t : List Value} {g : mm_M} {r : mm_R} : mm_Rn pg_G d 104 461 ls (t) g r ↔ mm_Rn pg_G d 104 462 ls (io_v 0 :: t) g r := rn_iconst tb_104_461 r
set_option maxRecDepth 20000 in
theorem tb_104_462 : mm_tb pg_G 104 462 = some (.ireturn, 0, 0, 0) := rfl
theorem st_104_462 {d : Nat} {ls : List Value} {g : mm_M} {r : mm_R} {x : Int32} (hb : x = 0 ∨ x = 1) : mm_Rn pg_G d 104 462 ls [.int x] g r ↔ r = (some (.int x), g) := rn_ireturn_iff tb_104_462 (Or.inr ⟨rfl, hb⟩) r
set_option maxRecDepth 20000 in
theorem tb_104_463 : mm_tb pg_G 104 463 = some (.aload_n 1, 0, 0, 0) := rfl
theorem st_104_463 {l0 l2 l3 : Value} {d : Nat} {t : List Value} {g : mm_M} {r : mm_R} {x : Nat} : mm_Rn pg_G d 104 463 [l0, .ref x, l2, l3] (t) g r ↔ mm_Rn pg_G d 104 464 [l0, .ref x, l2, l3] (.ref x :: t) g r := rn_aload_n tb_104_463 rfl r
set_option maxRecDepth 20000 in
theorem tb_104_464 : mm_tb pg_G 104 464 = some (.invokevirtual 73, 46, 1, 377) := rfl
theorem st_104_464 {d c s c' s' : Nat} {ls t : List Value} {I J : sp_I} {r : mm_R} {y : Nat} {v : Int32} (hl : t.length ≤ 4) (hT : sp_T I y = some (0, 8)) (hq : mm_Rn pg_G d 46 0 [.ref y] [] (sp_me I 0 0) (some (.int v), sp_me J c' s')) : mm_Rn pg_G (d + 1) 104 464 ls (.ref y :: t) (sp_me I c s) r ↔ mm_Rn pg_G (d + 1) 104 467 ls (.int v :: t) (sp_me J (c + c') (s + s')) r := rn_virt (g := sp_me I c s) (st := .ref y :: t) tb_104_464 (decide_eq_true hT) ⟨Nat.le_add_left _ t.length, hl, rfl⟩ hq r
set_option maxRecDepth 20000 in
theorem tb_104_467 : mm_tb pg_G 104 467 = some (.aload_n 2, 0, 0, 0) := rfl
theorem st_104_467 {l0 l1 l3 : Value} {d : Nat} {t : List Value} {g : mm_M} {r : mm_R} {x : Nat} : mm_Rn pg_G d 104 467 [l0, l1, .ref x, l3] (t) g r ↔ mm_Rn pg_G d 104 468 [l0, l1, .ref x, l3] (.ref x :: t) g r := rn_aload_n tb_104_467 rfl r
set_option maxRecDepth 20000 in
theorem tb_104_468 : mm_tb pg_G 104 468 = some (.invokevirtual 76, 89, 1, 547) := rfl
theorem st_104_468 {d c s c' s' : Nat} {ls t : List Value} {I J : sp_I} {r : mm_R} {y : Nat} {v : Int32} (hl : t.length ≤ 4) (hT : sp_T I y = some (6, 35)) (hq : mm_Rn pg_G d 89 0 [.ref y, .retAddr 0, .retAddr 0, .retAddr 0] [] (sp_me I 0 0) (some (.int v), sp_me J c' s')) : mm_Rn pg_G (d + 1) 104 468 ls (.ref y :: t) (sp_me I c s) r ↔ mm_Rn pg_G (d + 1) 104 471 ls (.int v :: t) (sp_me J (c + c') (s + s')) r := rn_virt (g := sp_me I c s) (st := .ref y :: t) tb_104_468 (decide_eq_true hT) ⟨Nat.le_add_left _ t.length, hl, rfl⟩ hq r
set_option maxRecDepth 20000 in
theorem tb_104_471 : mm_tb pg_G 104 471 = some (.if_icmp .eq 130, 601, 0, 0) := rfl
theorem st_104_471 {d : Nat} {ls t : List Value} {g : mm_M} {r : mm_R} {x y : Int32} : mm_Rn pg_G d 104 471 ls (.int y :: .int x :: t) g r ↔ if x = y then mm_Rn pg_G d 104 601 ls (t) g r else mm_Rn pg_G d 104 474 ls (t) g r := rn_icmp_eq tb_104_471 r
set_option maxRecDepth 20000 in
theorem tb_104_474 : mm_tb pg_G 104 474 = some (.iconst 0, 0, 0, 0) := rfl
theorem st_104_474 {d : Nat} {ls t : List Value} {g : mm_M} {r : mm_R} : mm_Rn pg_G d 104 474 ls (t) g r ↔ mm_Rn pg_G d 104 475 ls (io_v 0 :: t) g r := rn_iconst tb_104_474 r
set_option maxRecDepth 20000 in
theorem tb_104_475 : mm_tb pg_G 104 475 = some (.ireturn, 0, 0, 0) := rfl
theorem st_104_475 {d : Nat} {ls : List Value} {g : mm_M} {r : mm_R} {x : Int32} (hb : x = 0 ∨ x = 1) : mm_Rn pg_G d 104 475 ls [.int x] g r ↔ r = (some (.int x), g) := rn_ireturn_iff tb_104_475 (Or.inr ⟨rfl, hb⟩) r
set_option maxRecDepth 20000 in
theorem tb_104_476 : mm_tb pg_G 104 476 = some (.aload_n 1, 0, 0, 0) := rfl
theorem st_104_476 {l0 l2 l3 : Value} {d : Nat} {t : List Value} {g : mm_M} {r : mm_R} {x : Nat} : mm_Rn pg_G d 104 476 [l0, .ref x, l2, l3] (t) g r ↔ mm_Rn pg_G d 104 477 [l0, .ref x, l2, l3] (.ref x :: t) g r := rn_aload_n tb_104_476 rfl r
set_option maxRecDepth 20000 in
theorem tb_104_477 : mm_tb pg_G 104 477 = some (.aload_n 0, 0, 0, 0) := rfl
theorem st_104_477 {l1 l2 l3 : Value} {d : Nat} {t : List Value} {g : mm_M} {r : mm_R} {x : Nat} : mm_Rn pg_G d 104 477 [.ref x, l1, l2, l3] (t) g r ↔ mm_Rn pg_G d 104 478 [.ref x, l1, l2, l3] (.ref x :: t) g r := rn_aload_n tb_104_477 rfl r
set_option maxRecDepth 20000 in
theorem tb_104_478 : mm_tb pg_G 104 478 = some (.iload_n 3, 0, 0, 0) := rfl
theorem st_104_478 {l0 l1 l2 : Value} {d : Nat} {t : List Value} {g : mm_M} {r : mm_R} {x : Int32} : mm_Rn pg_G d 104 478 [l0, l1, l2, .int x] (t) g r ↔ mm_Rn pg_G d 104 479 [l0, l1, l2, .int x] (.int x :: t) g r := rn_iload_n tb_104_478 rfl r
set_option maxRecDepth 20000 in
theorem tb_104_479 : mm_tb pg_G 104 479 = some (.iconst 1, 0, 0, 0) := rfl
theorem st_104_479 {d : Nat} {ls t : List Value} {g : mm_M} {r : mm_R} : mm_Rn pg_G d 104 479 ls (t) g r ↔ mm_Rn pg_G d 104 480 ls (io_v 1 :: t) g r := rn_iconst tb_104_479 r
set_option maxRecDepth 20000 in
theorem tb_104_480 : mm_tb pg_G 104 480 = some (.iadd, 0, 0, 0) := rfl
theorem st_104_480 {d : Nat} {ls t : List Value} {g : mm_M} {r : mm_R} {x y : Int32} : mm_Rn pg_G d 104 480 ls (.int y :: .int x :: t) g r ↔ mm_Rn pg_G d 104 481 ls (.int (x + y) :: t) g r := rn_iadd tb_104_480 r
set_option maxRecDepth 20000 in
theorem tb_104_481 : mm_tb pg_G 104 481 = some (.iaload, 0, 0, 0) := rfl
theorem st_104_481 {d : Nat} {ls t : List Value} {g : mm_M} {r : mm_R} {x : Nat} {j : Int32} (hc : mm_in (g.1 x) 100 101 j = true) : mm_Rn pg_G d 104 481 ls (.int j :: .ref x :: t) g r ↔ mm_Rn pg_G d 104 482 ls (g.2.1 x j.toNatClampNeg :: t) g r := rn_iaload tb_104_481 hc r
set_option maxRecDepth 20000 in
theorem tb_104_482 : mm_tb pg_G 104 482 = some (.aload_n 0, 0, 0, 0) := rfl
theorem st_104_482 {l1 l2 l3 : Value} {d : Nat} {t : List Value} {g : mm_M} {r : mm_R} {x : Nat} : mm_Rn pg_G d 104 482 [.ref x, l1, l2, l3] (t) g r ↔ mm_Rn pg_G d 104 483 [.ref x, l1, l2, l3] (.ref x :: t) g r := rn_aload_n tb_104_482 rfl r
set_option maxRecDepth 20000 in
theorem tb_104_483 : mm_tb pg_G 104 483 = some (.iload_n 3, 0, 0, 0) := rfl
theorem st_104_483 {l0 l1 l2 : Value} {d : Nat} {t : List Value} {g : mm_M} {r : mm_R} {x : Int32} : mm_Rn pg_G d 104 483 [l0, l1, l2, .int x] (t) g r ↔ mm_Rn pg_G d 104 484 [l0, l1, l2, .int x] (.int x :: t) g r := rn_iload_n tb_104_483 rfl r
set_option maxRecDepth 20000 in
theorem tb_104_484 : mm_tb pg_G 104 484 = some (.iconst 2, 0, 0, 0) := rfl
theorem st_104_484 {d : Nat} {ls t : List Value} {g : mm_M} {r : mm_R} : mm_Rn pg_G d 104 484 ls (t) g r ↔ mm_Rn pg_G d 104 485 ls (io_v 2 :: t) g r := rn_iconst tb_104_484 r
set_option maxRecDepth 20000 in
theorem tb_104_485 : mm_tb pg_G 104 485 = some (.iadd, 0, 0, 0) := rfl
theorem st_104_485 {d : Nat} {ls t : List Value} {g : mm_M} {r : mm_R} {x y : Int32} : mm_Rn pg_G d 104 485 ls (.int y :: .int x :: t) g r ↔ mm_Rn pg_G d 104 486 ls (.int (x + y) :: t) g r := rn_iadd tb_104_485 r
set_option maxRecDepth 20000 in
theorem tb_104_486 : mm_tb pg_G 104 486 = some (.iaload, 0, 0, 0) := rfl
theorem st_104_486 {d : Nat} {ls t : List Value} {g : mm_M} {r : mm_R} {x : Nat} {j : Int32} (hc : mm_in (g.1 x) 100 101 j = true) : mm_Rn pg_G d 104 486 ls (.int j :: .ref x :: t) g r ↔ mm_Rn pg_G d 104 487 ls (g.2.1 x j.toNatClampNeg :: t) g r := rn_iaload tb_104_486 hc r
set_option maxRecDepth 20000 in
theorem tb_104_487 : mm_tb pg_G 104 487 = some (.invokevirtual 77, 47, 3, 381) := rfl
theorem st_104_487 {d c s c' s' : Nat} {ls t : List Value} {I J : sp_I} {r : mm_R} {a0 a1 : Int32} {y : Nat} {v : Int32} (hl : t.length ≤ 4) (hT : sp_T I y = some (0, 8)) (hq : mm_Rn pg_G d 47 0 [.ref y, .int a0, .int a1] [] (sp_me I 0 0) (some (.int v), sp_me J c' s')) : mm_Rn pg_G (d + 1) 104 487 ls (.int a1 :: .int a0 :: .ref y :: t) (sp_me I c s) r ↔ mm_Rn pg_G (d + 1) 104 490 ls (.int v :: t) (sp_me J (c + c') (s + s')) r := rn_virt (g := sp_me I c s) (st := .int a1 :: .int a0 :: .ref y :: t) tb_104_487 (decide_eq_true hT) ⟨Nat.le_add_left _ t.length, hl, rfl⟩ hq r
set_option maxRecDepth 20000 in
theorem tb_104_490 : mm_tb pg_G 104 490 = some (.aload_n 2, 0, 0, 0) := rfl
theorem st_104_490 {l0 l1 l3 : Value} {d : Nat} {t : List Value} {g : mm_M} {r : mm_R} {x : Nat} : mm_Rn pg_G d 104 490 [l0, l1, .ref x, l3] (t) g r ↔ mm_Rn pg_G d 104 491 [l0, l1, .ref x, l3] (.ref x :: t) g r := rn_aload_n tb_104_490 rfl r
set_option maxRecDepth 20000 in
theorem tb_104_491 : mm_tb pg_G 104 491 = some (.aload_n 0, 0, 0, 0) := rfl
theorem st_104_491 {l1 l2 l3 : Value} {d : Nat} {t : List Value} {g : mm_M} {r : mm_R} {x : Nat} : mm_Rn pg_G d 104 491 [.ref x, l1, l2, l3] (t) g r ↔ mm_Rn pg_G d 104 492 [.ref x, l1, l2, l3] (.ref x :: t) g r := rn_aload_n tb_104_491 rfl r
set_option maxRecDepth 20000 in
theorem tb_104_492 : mm_tb pg_G 104 492 = some (.iload_n 3, 0, 0, 0) := rfl
theorem st_104_492 {l0 l1 l2 : Value} {d : Nat} {t : List Value} {g : mm_M} {r : mm_R} {x : Int32} : mm_Rn pg_G d 104 492 [l0, l1, l2, .int x] (t) g r ↔ mm_Rn pg_G d 104 493 [l0, l1, l2, .int x] (.int x :: t) g r := rn_iload_n tb_104_492 rfl r
set_option maxRecDepth 20000 in
theorem tb_104_493 : mm_tb pg_G 104 493 = some (.iconst 1, 0, 0, 0) := rfl
theorem st_104_493 {d : Nat} {ls t : List Value} {g : mm_M} {r : mm_R} : mm_Rn pg_G d 104 493 ls (t) g r ↔ mm_Rn pg_G d 104 494 ls (io_v 1 :: t) g r := rn_iconst tb_104_493 r
set_option maxRecDepth 20000 in
theorem tb_104_494 : mm_tb pg_G 104 494 = some (.iadd, 0, 0, 0) := rfl
theorem st_104_494 {d : Nat} {ls t : List Value} {g : mm_M} {r : mm_R} {x y : Int32} : mm_Rn pg_G d 104 494 ls (.int y :: .int x :: t) g r ↔ mm_Rn pg_G d 104 495 ls (.int (x + y) :: t) g r := rn_iadd tb_104_494 r
set_option maxRecDepth 20000 in
theorem tb_104_495 : mm_tb pg_G 104 495 = some (.iaload, 0, 0, 0) := rfl
theorem st_104_495 {d : Nat} {ls t : List Value} {g : mm_M} {r : mm_R} {x : Nat} {j : Int32} (hc : mm_in (g.1 x) 100 101 j = true) : mm_Rn pg_G d 104 495 ls (.int j :: .ref x :: t) g r ↔ mm_Rn pg_G d 104 496 ls (g.2.1 x j.toNatClampNeg :: t) g r := rn_iaload tb_104_495 hc r
set_option maxRecDepth 20000 in
theorem tb_104_496 : mm_tb pg_G 104 496 = some (.aload_n 0, 0, 0, 0) := rfl
theorem st_104_496 {l1 l2 l3 : Value} {d : Nat} {t : List Value} {g : mm_M} {r : mm_R} {x : Nat} : mm_Rn pg_G d 104 496 [.ref x, l1, l2, l3] (t) g r ↔ mm_Rn pg_G d 104 497 [.ref x, l1, l2, l3] (.ref x :: t) g r := rn_aload_n tb_104_496 rfl r
set_option maxRecDepth 20000 in
theorem tb_104_497 : mm_tb pg_G 104 497 = some (.iload_n 3, 0, 0, 0) := rfl
theorem st_104_497 {l0 l1 l2 : Value} {d : Nat} {t : List Value} {g : mm_M} {r : mm_R} {x : Int32} : mm_Rn pg_G d 104 497 [l0, l1, l2, .int x] (t) g r ↔ mm_Rn pg_G d 104 498 [l0, l1, l2, .int x] (.int x :: t) g r := rn_iload_n tb_104_497 rfl r
set_option maxRecDepth 20000 in
theorem tb_104_498 : mm_tb pg_G 104 498 = some (.iconst 2, 0, 0, 0) := rfl
theorem st_104_498 {d : Nat} {ls t : List Value} {g : mm_M} {r : mm_R} : mm_Rn pg_G d 104 498 ls (t) g r ↔ mm_Rn pg_G d 104 499 ls (io_v 2 :: t) g r := rn_iconst tb_104_498 r
set_option maxRecDepth 20000 in
theorem tb_104_499 : mm_tb pg_G 104 499 = some (.iadd, 0, 0, 0) := rfl
theorem st_104_499 {d : Nat} {ls t : List Value} {g : mm_M} {r : mm_R} {x y : Int32} : mm_Rn pg_G d 104 499 ls (.int y :: .int x :: t) g r ↔ mm_Rn pg_G d 104 500 ls (.int (x + y) :: t) g r := rn_iadd tb_104_499 r
set_option maxRecDepth 20000 in
theorem tb_104_500 : mm_tb pg_G 104 500 = some (.iaload, 0, 0, 0) := rfl
theorem st_104_500 {d : Nat} {ls t : List Value} {g : mm_M} {r : mm_R} {x : Nat} {j : Int32} (hc : mm_in (g.1 x) 100 101 j = true) : mm_Rn pg_G d 104 500 ls (.int j :: .ref x :: t) g r ↔ mm_Rn pg_G d 104 501 ls (g.2.1 x j.toNatClampNeg :: t) g r := rn_iaload tb_104_500 hc r
set_option maxRecDepth 20000 in
theorem tb_104_501 : mm_tb pg_G 104 501 = some (.invokevirtual 80, 99, 3, 599) := rfl
theorem st_104_501 {d c s c' s' : Nat} {ls t : List Value} {I J : sp_I} {r : mm_R} {a0 a1 : Int32} {y : Nat} {v : Int32} (hl : t.length ≤ 4) (hT : sp_T I y = some (6, 35)) (hq : mm_Rn pg_G d 99 0 [.ref y, .int a0, .int a1] [] (sp_me I 0 0) (some (.int v), sp_me J c' s')) : mm_Rn pg_G (d + 1) 104 501 ls (.int a1 :: .int a0 :: .ref y :: t) (sp_me I c s) r ↔ mm_Rn pg_G (d + 1) 104 504 ls (.int v :: t) (sp_me J (c + c') (s + s')) r := rn_virt (g := sp_me I c s) (st := .int a1 :: .int a0 :: .ref y :: t) tb_104_501 (decide_eq_true hT) ⟨Nat.le_add_left _ t.length, hl, rfl⟩ hq r
set_option maxRecDepth 20000 in
theorem tb_104_504 : mm_tb pg_G 104 504 = some (.if_icmp .eq 97, 601, 0, 0) := rfl
theorem st_104_504 {d : Nat} {ls t : List Value} {g : mm_M} {r : mm_R} {x y : Int32} : mm_Rn pg_G d 104 504 ls (.int y :: .int x :: t) g r ↔ if x = y then mm_Rn pg_G d 104 601 ls (t) g r else mm_Rn pg_G d 104 507 ls (t) g r := rn_icmp_eq tb_104_504 r
set_option maxRecDepth 20000 in
theorem tb_104_507 : mm_tb pg_G 104 507 = some (.iconst 0, 0, 0, 0) := rfl
theorem st_104_507 {d : Nat} {ls t : List Value} {g : mm_M} {r : mm_R} : mm_Rn pg_G d 104 507 ls (t) g r ↔ mm_Rn pg_G d 104 508 ls (io_v 0 :: t) g r := rn_iconst tb_104_507 r
set_option maxRecDepth 20000 in
theorem tb_104_508 : mm_tb pg_G 104 508 = some (.ireturn, 0, 0, 0) := rfl
theorem st_104_508 {d : Nat} {ls : List Value} {g : mm_M} {r : mm_R} {x : Int32} (hb : x = 0 ∨ x = 1) : mm_Rn pg_G d 104 508 ls [.int x] g r ↔ r = (some (.int x), g) := rn_ireturn_iff tb_104_508 (Or.inr ⟨rfl, hb⟩) r
set_option maxRecDepth 20000 in
theorem tb_104_509 : mm_tb pg_G 104 509 = some (.aload_n 1, 0, 0, 0) := rfl
theorem st_104_509 {l0 l2 l3 : Value} {d : Nat} {t : List Value} {g : mm_M} {r : mm_R} {x : Nat} : mm_Rn pg_G d 104 509 [l0, .ref x, l2, l3] (t) g r ↔ mm_Rn pg_G d 104 510 [l0, .ref x, l2, l3] (.ref x :: t) g r := rn_aload_n tb_104_509 rfl r
set_option maxRecDepth 20000 in
theorem tb_104_510 : mm_tb pg_G 104 510 = some (.aload_n 0, 0, 0, 0) := rfl
theorem st_104_510 {l1 l2 l3 : Value} {d : Nat} {t : List Value} {g : mm_M} {r : mm_R} {x : Nat} : mm_Rn pg_G d 104 510 [.ref x, l1, l2, l3] (t) g r ↔ mm_Rn pg_G d 104 511 [.ref x, l1, l2, l3] (.ref x :: t) g r := rn_aload_n tb_104_510 rfl r
set_option maxRecDepth 20000 in
theorem tb_104_511 : mm_tb pg_G 104 511 = some (.iload_n 3, 0, 0, 0) := rfl
theorem st_104_511 {l0 l1 l2 : Value} {d : Nat} {t : List Value} {g : mm_M} {r : mm_R} {x : Int32} : mm_Rn pg_G d 104 511 [l0, l1, l2, .int x] (t) g r ↔ mm_Rn pg_G d 104 512 [l0, l1, l2, .int x] (.int x :: t) g r := rn_iload_n tb_104_511 rfl r
set_option maxRecDepth 20000 in
theorem tb_104_512 : mm_tb pg_G 104 512 = some (.iconst 1, 0, 0, 0) := rfl
theorem st_104_512 {d : Nat} {ls t : List Value} {g : mm_M} {r : mm_R} : mm_Rn pg_G d 104 512 ls (t) g r ↔ mm_Rn pg_G d 104 513 ls (io_v 1 :: t) g r := rn_iconst tb_104_512 r
set_option maxRecDepth 20000 in
theorem tb_104_513 : mm_tb pg_G 104 513 = some (.iadd, 0, 0, 0) := rfl
theorem st_104_513 {d : Nat} {ls t : List Value} {g : mm_M} {r : mm_R} {x y : Int32} : mm_Rn pg_G d 104 513 ls (.int y :: .int x :: t) g r ↔ mm_Rn pg_G d 104 514 ls (.int (x + y) :: t) g r := rn_iadd tb_104_513 r
set_option maxRecDepth 20000 in
theorem tb_104_514 : mm_tb pg_G 104 514 = some (.iaload, 0, 0, 0) := rfl
theorem st_104_514 {d : Nat} {ls t : List Value} {g : mm_M} {r : mm_R} {x : Nat} {j : Int32} (hc : mm_in (g.1 x) 100 101 j = true) : mm_Rn pg_G d 104 514 ls (.int j :: .ref x :: t) g r ↔ mm_Rn pg_G d 104 515 ls (g.2.1 x j.toNatClampNeg :: t) g r := rn_iaload tb_104_514 hc r
set_option maxRecDepth 20000 in
theorem tb_104_515 : mm_tb pg_G 104 515 = some (.invokevirtual 81, 48, 2, 389) := rfl
theorem st_104_515 {d c s c' s' : Nat} {ls t : List Value} {I J : sp_I} {r : mm_R} {a0 : Int32} {y : Nat} {v : Int32} (hl : t.length ≤ 4) (hT : sp_T I y = some (0, 8)) (hq : mm_Rn pg_G d 48 0 [.ref y, .int a0] [] (sp_me I 0 0) (some (.int v), sp_me J c' s')) : mm_Rn pg_G (d + 1) 104 515 ls (.int a0 :: .ref y :: t) (sp_me I c s) r ↔ mm_Rn pg_G (d + 1) 104 518 ls (.int v :: t) (sp_me J (c + c') (s + s')) r := rn_virt (g := sp_me I c s) (st := .int a0 :: .ref y :: t) tb_104_515 (decide_eq_true hT) ⟨Nat.le_add_left _ t.length, hl, rfl⟩ hq r
set_option maxRecDepth 20000 in
theorem tb_104_518 : mm_tb pg_G 104 518 = some (.aload_n 2, 0, 0, 0) := rfl
theorem st_104_518 {l0 l1 l3 : Value} {d : Nat} {t : List Value} {g : mm_M} {r : mm_R} {x : Nat} : mm_Rn pg_G d 104 518 [l0, l1, .ref x, l3] (t) g r ↔ mm_Rn pg_G d 104 519 [l0, l1, .ref x, l3] (.ref x :: t) g r := rn_aload_n tb_104_518 rfl r
set_option maxRecDepth 20000 in
theorem tb_104_519 : mm_tb pg_G 104 519 = some (.aload_n 0, 0, 0, 0) := rfl
theorem st_104_519 {l1 l2 l3 : Value} {d : Nat} {t : List Value} {g : mm_M} {r : mm_R} {x : Nat} : mm_Rn pg_G d 104 519 [.ref x, l1, l2, l3] (t) g r ↔ mm_Rn pg_G d 104 520 [.ref x, l1, l2, l3] (.ref x :: t) g r := rn_aload_n tb_104_519 rfl r
set_option maxRecDepth 20000 in
theorem tb_104_520 : mm_tb pg_G 104 520 = some (.iload_n 3, 0, 0, 0) := rfl
theorem st_104_520 {l0 l1 l2 : Value} {d : Nat} {t : List Value} {g : mm_M} {r : mm_R} {x : Int32} : mm_Rn pg_G d 104 520 [l0, l1, l2, .int x] (t) g r ↔ mm_Rn pg_G d 104 521 [l0, l1, l2, .int x] (.int x :: t) g r := rn_iload_n tb_104_520 rfl r
set_option maxRecDepth 20000 in
theorem tb_104_521 : mm_tb pg_G 104 521 = some (.iconst 1, 0, 0, 0) := rfl
theorem st_104_521 {d : Nat} {ls t : List Value} {g : mm_M} {r : mm_R} : mm_Rn pg_G d 104 521 ls (t) g r ↔ mm_Rn pg_G d 104 522 ls (io_v 1 :: t) g r := rn_iconst tb_104_521 r
set_option maxRecDepth 20000 in
theorem tb_104_522 : mm_tb pg_G 104 522 = some (.iadd, 0, 0, 0) := rfl
theorem st_104_522 {d : Nat} {ls t : List Value} {g : mm_M} {r : mm_R} {x y : Int32} : mm_Rn pg_G d 104 522 ls (.int y :: .int x :: t) g r ↔ mm_Rn pg_G d 104 523 ls (.int (x + y) :: t) g r := rn_iadd tb_104_522 r
set_option maxRecDepth 20000 in
theorem tb_104_523 : mm_tb pg_G 104 523 = some (.iaload, 0, 0, 0) := rfl
theorem st_104_523 {d : Nat} {ls t : List Value} {g : mm_M} {r : mm_R} {x : Nat} {j : Int32} (hc : mm_in (g.1 x) 100 101 j = true) : mm_Rn pg_G d 104 523 ls (.int j :: .ref x :: t) g r ↔ mm_Rn pg_G d 104 524 ls (g.2.1 x j.toNatClampNeg :: t) g r := rn_iaload tb_104_523 hc r
set_option maxRecDepth 20000 in
theorem tb_104_524 : mm_tb pg_G 104 524 = some (.invokevirtual 84, 100, 2, 603) := rfl
theorem st_104_524 {d c s c' s' : Nat} {ls t : List Value} {I J : sp_I} {r : mm_R} {a0 : Int32} {y : Nat} {v : Int32} (hl : t.length ≤ 4) (hT : sp_T I y = some (6, 35)) (hq : mm_Rn pg_G d 100 0 [.ref y, .int a0] [] (sp_me I 0 0) (some (.int v), sp_me J c' s')) : mm_Rn pg_G (d + 1) 104 524 ls (.int a0 :: .ref y :: t) (sp_me I c s) r ↔ mm_Rn pg_G (d + 1) 104 527 ls (.int v :: t) (sp_me J (c + c') (s + s')) r := rn_virt (g := sp_me I c s) (st := .int a0 :: .ref y :: t) tb_104_524 (decide_eq_true hT) ⟨Nat.le_add_left _ t.length, hl, rfl⟩ hq r
set_option maxRecDepth 20000 in
theorem tb_104_527 : mm_tb pg_G 104 527 = some (.if_icmp .eq 74, 601, 0, 0) := rfl
theorem st_104_527 {d : Nat} {ls t : List Value} {g : mm_M} {r : mm_R} {x y : Int32} : mm_Rn pg_G d 104 527 ls (.int y :: .int x :: t) g r ↔ if x = y then mm_Rn pg_G d 104 601 ls (t) g r else mm_Rn pg_G d 104 530 ls (t) g r := rn_icmp_eq tb_104_527 r
set_option maxRecDepth 20000 in
theorem tb_104_530 : mm_tb pg_G 104 530 = some (.iconst 0, 0, 0, 0) := rfl
theorem st_104_530 {d : Nat} {ls t : List Value} {g : mm_M} {r : mm_R} : mm_Rn pg_G d 104 530 ls (t) g r ↔ mm_Rn pg_G d 104 531 ls (io_v 0 :: t) g r := rn_iconst tb_104_530 r
set_option maxRecDepth 20000 in
theorem tb_104_531 : mm_tb pg_G 104 531 = some (.ireturn, 0, 0, 0) := rfl
theorem st_104_531 {d : Nat} {ls : List Value} {g : mm_M} {r : mm_R} {x : Int32} (hb : x = 0 ∨ x = 1) : mm_Rn pg_G d 104 531 ls [.int x] g r ↔ r = (some (.int x), g) := rn_ireturn_iff tb_104_531 (Or.inr ⟨rfl, hb⟩) r
set_option maxRecDepth 20000 in
theorem tb_104_532 : mm_tb pg_G 104 532 = some (.aload_n 1, 0, 0, 0) := rfl
theorem st_104_532 {l0 l2 l3 : Value} {d : Nat} {t : List Value} {g : mm_M} {r : mm_R} {x : Nat} : mm_Rn pg_G d 104 532 [l0, .ref x, l2, l3] (t) g r ↔ mm_Rn pg_G d 104 533 [l0, .ref x, l2, l3] (.ref x :: t) g r := rn_aload_n tb_104_532 rfl r
set_option maxRecDepth 20000 in
theorem tb_104_533 : mm_tb pg_G 104 533 = some (.aload_n 0, 0, 0, 0) := rfl
theorem st_104_533 {l1 l2 l3 : Value} {d : Nat} {t : List Value} {g : mm_M} {r : mm_R} {x : Nat} : mm_Rn pg_G d 104 533 [.ref x, l1, l2, l3] (t) g r ↔ mm_Rn pg_G d 104 534 [.ref x, l1, l2, l3] (.ref x :: t) g r := rn_aload_n tb_104_533 rfl r
set_option maxRecDepth 20000 in
theorem tb_104_534 : mm_tb pg_G 104 534 = some (.iload_n 3, 0, 0, 0) := rfl
theorem st_104_534 {l0 l1 l2 : Value} {d : Nat} {t : List Value} {g : mm_M} {r : mm_R} {x : Int32} : mm_Rn pg_G d 104 534 [l0, l1, l2, .int x] (t) g r ↔ mm_Rn pg_G d 104 535 [l0, l1, l2, .int x] (.int x :: t) g r := rn_iload_n tb_104_534 rfl r
set_option maxRecDepth 20000 in
theorem tb_104_535 : mm_tb pg_G 104 535 = some (.iconst 1, 0, 0, 0) := rfl
theorem st_104_535 {d : Nat} {ls t : List Value} {g : mm_M} {r : mm_R} : mm_Rn pg_G d 104 535 ls (t) g r ↔ mm_Rn pg_G d 104 536 ls (io_v 1 :: t) g r := rn_iconst tb_104_535 r
set_option maxRecDepth 20000 in
theorem tb_104_536 : mm_tb pg_G 104 536 = some (.iadd, 0, 0, 0) := rfl
theorem st_104_536 {d : Nat} {ls t : List Value} {g : mm_M} {r : mm_R} {x y : Int32} : mm_Rn pg_G d 104 536 ls (.int y :: .int x :: t) g r ↔ mm_Rn pg_G d 104 537 ls (.int (x + y) :: t) g r := rn_iadd tb_104_536 r
set_option maxRecDepth 20000 in
theorem tb_104_537 : mm_tb pg_G 104 537 = some (.iaload, 0, 0, 0) := rfl
theorem st_104_537 {d : Nat} {ls t : List Value} {g : mm_M} {r : mm_R} {x : Nat} {j : Int32} (hc : mm_in (g.1 x) 100 101 j = true) : mm_Rn pg_G d 104 537 ls (.int j :: .ref x :: t) g r ↔ mm_Rn pg_G d 104 538 ls (g.2.1 x j.toNatClampNeg :: t) g r := rn_iaload tb_104_537 hc r
set_option maxRecDepth 20000 in
theorem tb_104_538 : mm_tb pg_G 104 538 = some (.invokevirtual 85, 49, 2, 393) := rfl
theorem st_104_538 {d c s c' s' : Nat} {ls t : List Value} {I J : sp_I} {r : mm_R} {a0 : Int32} {y : Nat} {v : Int32} (hl : t.length ≤ 4) (hT : sp_T I y = some (0, 8)) (hq : mm_Rn pg_G d 49 0 [.ref y, .int a0] [] (sp_me I 0 0) (some (.int v), sp_me J c' s')) : mm_Rn pg_G (d + 1) 104 538 ls (.int a0 :: .ref y :: t) (sp_me I c s) r ↔ mm_Rn pg_G (d + 1) 104 541 ls (.int v :: t) (sp_me J (c + c') (s + s')) r := rn_virt (g := sp_me I c s) (st := .int a0 :: .ref y :: t) tb_104_538 (decide_eq_true hT) ⟨Nat.le_add_left _ t.length, hl, rfl⟩ hq r
set_option maxRecDepth 20000 in
theorem tb_104_541 : mm_tb pg_G 104 541 = some (.aload_n 2, 0, 0, 0) := rfl
theorem st_104_541 {l0 l1 l3 : Value} {d : Nat} {t : List Value} {g : mm_M} {r : mm_R} {x : Nat} : mm_Rn pg_G d 104 541 [l0, l1, .ref x, l3] (t) g r ↔ mm_Rn pg_G d 104 542 [l0, l1, .ref x, l3] (.ref x :: t) g r := rn_aload_n tb_104_541 rfl r
set_option maxRecDepth 20000 in
theorem tb_104_542 : mm_tb pg_G 104 542 = some (.aload_n 0, 0, 0, 0) := rfl
theorem st_104_542 {l1 l2 l3 : Value} {d : Nat} {t : List Value} {g : mm_M} {r : mm_R} {x : Nat} : mm_Rn pg_G d 104 542 [.ref x, l1, l2, l3] (t) g r ↔ mm_Rn pg_G d 104 543 [.ref x, l1, l2, l3] (.ref x :: t) g r := rn_aload_n tb_104_542 rfl r
set_option maxRecDepth 20000 in
theorem tb_104_543 : mm_tb pg_G 104 543 = some (.iload_n 3, 0, 0, 0) := rfl
theorem st_104_543 {l0 l1 l2 : Value} {d : Nat} {t : List Value} {g : mm_M} {r : mm_R} {x : Int32} : mm_Rn pg_G d 104 543 [l0, l1, l2, .int x] (t) g r ↔ mm_Rn pg_G d 104 544 [l0, l1, l2, .int x] (.int x :: t) g r := rn_iload_n tb_104_543 rfl r
set_option maxRecDepth 20000 in
theorem tb_104_544 : mm_tb pg_G 104 544 = some (.iconst 1, 0, 0, 0) := rfl
theorem st_104_544 {d : Nat} {ls t : List Value} {g : mm_M} {r : mm_R} : mm_Rn pg_G d 104 544 ls (t) g r ↔ mm_Rn pg_G d 104 545 ls (io_v 1 :: t) g r := rn_iconst tb_104_544 r
set_option maxRecDepth 20000 in
theorem tb_104_545 : mm_tb pg_G 104 545 = some (.iadd, 0, 0, 0) := rfl
theorem st_104_545 {d : Nat} {ls t : List Value} {g : mm_M} {r : mm_R} {x y : Int32} : mm_Rn pg_G d 104 545 ls (.int y :: .int x :: t) g r ↔ mm_Rn pg_G d 104 546 ls (.int (x + y) :: t) g r := rn_iadd tb_104_545 r
set_option maxRecDepth 20000 in
theorem tb_104_546 : mm_tb pg_G 104 546 = some (.iaload, 0, 0, 0) := rfl
theorem st_104_546 {d : Nat} {ls t : List Value} {g : mm_M} {r : mm_R} {x : Nat} {j : Int32} (hc : mm_in (g.1 x) 100 101 j = true) : mm_Rn pg_G d 104 546 ls (.int j :: .ref x :: t) g r ↔ mm_Rn pg_G d 104 547 ls (g.2.1 x j.toNatClampNeg :: t) g r := rn_iaload tb_104_546 hc r
set_option maxRecDepth 20000 in
theorem tb_104_547 : mm_tb pg_G 104 547 = some (.invokevirtual 88, 101, 2, 607) := rfl
theorem st_104_547 {d c s c' s' : Nat} {ls t : List Value} {I J : sp_I} {r : mm_R} {a0 : Int32} {y : Nat} {v : Int32} (hl : t.length ≤ 4) (hT : sp_T I y = some (6, 35)) (hq : mm_Rn pg_G d 101 0 [.ref y, .int a0] [] (sp_me I 0 0) (some (.int v), sp_me J c' s')) : mm_Rn pg_G (d + 1) 104 547 ls (.int a0 :: .ref y :: t) (sp_me I c s) r ↔ mm_Rn pg_G (d + 1) 104 550 ls (.int v :: t) (sp_me J (c + c') (s + s')) r := rn_virt (g := sp_me I c s) (st := .int a0 :: .ref y :: t) tb_104_547 (decide_eq_true hT) ⟨Nat.le_add_left _ t.length, hl, rfl⟩ hq r
set_option maxRecDepth 20000 in
theorem tb_104_550 : mm_tb pg_G 104 550 = some (.if_icmp .eq 51, 601, 0, 0) := rfl
theorem st_104_550 {d : Nat} {ls t : List Value} {g : mm_M} {r : mm_R} {x y : Int32} : mm_Rn pg_G d 104 550 ls (.int y :: .int x :: t) g r ↔ if x = y then mm_Rn pg_G d 104 601 ls (t) g r else mm_Rn pg_G d 104 553 ls (t) g r := rn_icmp_eq tb_104_550 r
set_option maxRecDepth 20000 in
theorem tb_104_553 : mm_tb pg_G 104 553 = some (.iconst 0, 0, 0, 0) := rfl
theorem st_104_553 {d : Nat} {ls t : List Value} {g : mm_M} {r : mm_R} : mm_Rn pg_G d 104 553 ls (t) g r ↔ mm_Rn pg_G d 104 554 ls (io_v 0 :: t) g r := rn_iconst tb_104_553 r
set_option maxRecDepth 20000 in
theorem tb_104_554 : mm_tb pg_G 104 554 = some (.ireturn, 0, 0, 0) := rfl
theorem st_104_554 {d : Nat} {ls : List Value} {g : mm_M} {r : mm_R} {x : Int32} (hb : x = 0 ∨ x = 1) : mm_Rn pg_G d 104 554 ls [.int x] g r ↔ r = (some (.int x), g) := rn_ireturn_iff tb_104_554 (Or.inr ⟨rfl, hb⟩) r
set_option maxRecDepth 20000 in
theorem tb_104_555 : mm_tb pg_G 104 555 = some (.aload_n 1, 0, 0, 0) := rfl
theorem st_104_555 {l0 l2 l3 : Value} {d : Nat} {t : List Value} {g : mm_M} {r : mm_R} {x : Nat} : mm_Rn pg_G d 104 555 [l0, .ref x, l2, l3] (t) g r ↔ mm_Rn pg_G d 104 556 [l0, .ref x, l2, l3] (.ref x :: t) g r := rn_aload_n tb_104_555 rfl r
set_option maxRecDepth 20000 in
theorem tb_104_556 : mm_tb pg_G 104 556 = some (.aload_n 0, 0, 0, 0) := rfl
theorem st_104_556 {l1 l2 l3 : Value} {d : Nat} {t : List Value} {g : mm_M} {r : mm_R} {x : Nat} : mm_Rn pg_G d 104 556 [.ref x, l1, l2, l3] (t) g r ↔ mm_Rn pg_G d 104 557 [.ref x, l1, l2, l3] (.ref x :: t) g r := rn_aload_n tb_104_556 rfl r
set_option maxRecDepth 20000 in
theorem tb_104_557 : mm_tb pg_G 104 557 = some (.iload_n 3, 0, 0, 0) := rfl
theorem st_104_557 {l0 l1 l2 : Value} {d : Nat} {t : List Value} {g : mm_M} {r : mm_R} {x : Int32} : mm_Rn pg_G d 104 557 [l0, l1, l2, .int x] (t) g r ↔ mm_Rn pg_G d 104 558 [l0, l1, l2, .int x] (.int x :: t) g r := rn_iload_n tb_104_557 rfl r
set_option maxRecDepth 20000 in
theorem tb_104_558 : mm_tb pg_G 104 558 = some (.iconst 1, 0, 0, 0) := rfl
theorem st_104_558 {d : Nat} {ls t : List Value} {g : mm_M} {r : mm_R} : mm_Rn pg_G d 104 558 ls (t) g r ↔ mm_Rn pg_G d 104 559 ls (io_v 1 :: t) g r := rn_iconst tb_104_558 r
set_option maxRecDepth 20000 in
theorem tb_104_559 : mm_tb pg_G 104 559 = some (.iadd, 0, 0, 0) := rfl
theorem st_104_559 {d : Nat} {ls t : List Value} {g : mm_M} {r : mm_R} {x y : Int32} : mm_Rn pg_G d 104 559 ls (.int y :: .int x :: t) g r ↔ mm_Rn pg_G d 104 560 ls (.int (x + y) :: t) g r := rn_iadd tb_104_559 r
set_option maxRecDepth 20000 in
theorem tb_104_560 : mm_tb pg_G 104 560 = some (.iaload, 0, 0, 0) := rfl
theorem st_104_560 {d : Nat} {ls t : List Value} {g : mm_M} {r : mm_R} {x : Nat} {j : Int32} (hc : mm_in (g.1 x) 100 101 j = true) : mm_Rn pg_G d 104 560 ls (.int j :: .ref x :: t) g r ↔ mm_Rn pg_G d 104 561 ls (g.2.1 x j.toNatClampNeg :: t) g r := rn_iaload tb_104_560 hc r
set_option maxRecDepth 20000 in
theorem tb_104_561 : mm_tb pg_G 104 561 = some (.invokevirtual 89, 50, 2, 397) := rfl
theorem st_104_561 {d c s c' s' : Nat} {ls t : List Value} {I J : sp_I} {r : mm_R} {a0 : Int32} {y : Nat} {v : Int32} (hl : t.length ≤ 4) (hT : sp_T I y = some (0, 8)) (hq : mm_Rn pg_G d 50 0 [.ref y, .int a0] [] (sp_me I 0 0) (some (.int v), sp_me J c' s')) : mm_Rn pg_G (d + 1) 104 561 ls (.int a0 :: .ref y :: t) (sp_me I c s) r ↔ mm_Rn pg_G (d + 1) 104 564 ls (.int v :: t) (sp_me J (c + c') (s + s')) r := rn_virt (g := sp_me I c s) (st := .int a0 :: .ref y :: t) tb_104_561 (decide_eq_true hT) ⟨Nat.le_add_left _ t.length, hl, rfl⟩ hq r
set_option maxRecDepth 20000 in
theorem tb_104_564 : mm_tb pg_G 104 564 = some (.aload_n 2, 0, 0, 0) := rfl
theorem st_104_564 {l0 l1 l3 : Value} {d : Nat} {t : List Value} {g : mm_M} {r : mm_R} {x : Nat} : mm_Rn pg_G d 104 564 [l0, l1, .ref x, l3] (t) g r ↔ mm_Rn pg_G d 104 565 [l0, l1, .ref x, l3] (.ref x :: t) g r := rn_aload_n tb_104_564 rfl r
set_option maxRecDepth 20000 in
theorem tb_104_565 : mm_tb pg_G 104 565 = some (.aload_n 0, 0, 0, 0) := rfl
theorem st_104_565 {l1 l2 l3 : Value} {d : Nat} {t : List Value} {g : mm_M} {r : mm_R} {x : Nat} : mm_Rn pg_G d 104 565 [.ref x, l1, l2, l3] (t) g r ↔ mm_Rn pg_G d 104 566 [.ref x, l1, l2, l3] (.ref x :: t) g r := rn_aload_n tb_104_565 rfl r
set_option maxRecDepth 20000 in
theorem tb_104_566 : mm_tb pg_G 104 566 = some (.iload_n 3, 0, 0, 0) := rfl
theorem st_104_566 {l0 l1 l2 : Value} {d : Nat} {t : List Value} {g : mm_M} {r : mm_R} {x : Int32} : mm_Rn pg_G d 104 566 [l0, l1, l2, .int x] (t) g r ↔ mm_Rn pg_G d 104 567 [l0, l1, l2, .int x] (.int x :: t) g r := rn_iload_n tb_104_566 rfl r
set_option maxRecDepth 20000 in
theorem tb_104_567 : mm_tb pg_G 104 567 = some (.iconst 1, 0, 0, 0) := rfl
theorem st_104_567 {d : Nat} {ls t : List Value} {g : mm_M} {r : mm_R} : mm_Rn pg_G d 104 567 ls (t) g r ↔ mm_Rn pg_G d 104 568 ls (io_v 1 :: t) g r := rn_iconst tb_104_567 r
set_option maxRecDepth 20000 in
theorem tb_104_568 : mm_tb pg_G 104 568 = some (.iadd, 0, 0, 0) := rfl
theorem st_104_568 {d : Nat} {ls t : List Value} {g : mm_M} {r : mm_R} {x y : Int32} : mm_Rn pg_G d 104 568 ls (.int y :: .int x :: t) g r ↔ mm_Rn pg_G d 104 569 ls (.int (x + y) :: t) g r := rn_iadd tb_104_568 r
set_option maxRecDepth 20000 in
theorem tb_104_569 : mm_tb pg_G 104 569 = some (.iaload, 0, 0, 0) := rfl
theorem st_104_569 {d : Nat} {ls t : List Value} {g : mm_M} {r : mm_R} {x : Nat} {j : Int32} (hc : mm_in (g.1 x) 100 101 j = true) : mm_Rn pg_G d 104 569 ls (.int j :: .ref x :: t) g r ↔ mm_Rn pg_G d 104 570 ls (g.2.1 x j.toNatClampNeg :: t) g r := rn_iaload tb_104_569 hc r
set_option maxRecDepth 20000 in
theorem tb_104_570 : mm_tb pg_G 104 570 = some (.invokevirtual 92, 102, 2, 611) := rfl
theorem st_104_570 {d c s c' s' : Nat} {ls t : List Value} {I J : sp_I} {r : mm_R} {a0 : Int32} {y : Nat} {v : Int32} (hl : t.length ≤ 4) (hT : sp_T I y = some (6, 35)) (hq : mm_Rn pg_G d 102 0 [.ref y, .int a0, .retAddr 0, .retAddr 0] [] (sp_me I 0 0) (some (.int v), sp_me J c' s')) : mm_Rn pg_G (d + 1) 104 570 ls (.int a0 :: .ref y :: t) (sp_me I c s) r ↔ mm_Rn pg_G (d + 1) 104 573 ls (.int v :: t) (sp_me J (c + c') (s + s')) r := rn_virt (g := sp_me I c s) (st := .int a0 :: .ref y :: t) tb_104_570 (decide_eq_true hT) ⟨Nat.le_add_left _ t.length, hl, rfl⟩ hq r
set_option maxRecDepth 20000 in
theorem tb_104_573 : mm_tb pg_G 104 573 = some (.if_icmp .eq 28, 601, 0, 0) := rfl
theorem st_104_573 {d : Nat} {ls t : List Value} {g : mm_M} {r : mm_R} {x y : Int32} : mm_Rn pg_G d 104 573 ls (.int y :: .int x :: t) g r ↔ if x = y then mm_Rn pg_G d 104 601 ls (t) g r else mm_Rn pg_G d 104 576 ls (t) g r := rn_icmp_eq tb_104_573 r
set_option maxRecDepth 20000 in
theorem tb_104_576 : mm_tb pg_G 104 576 = some (.iconst 0, 0, 0, 0) := rfl
theorem st_104_576 {d : Nat} {ls t : List Value} {g : mm_M} {r : mm_R} : mm_Rn pg_G d 104 576 ls (t) g r ↔ mm_Rn pg_G d 104 577 ls (io_v 0 :: t) g r := rn_iconst tb_104_576 r
set_option maxRecDepth 20000 in
theorem tb_104_577 : mm_tb pg_G 104 577 = some (.ireturn, 0, 0, 0) := rfl
theorem st_104_577 {d : Nat} {ls : List Value} {g : mm_M} {r : mm_R} {x : Int32} (hb : x = 0 ∨ x = 1) : mm_Rn pg_G d 104 577 ls [.int x] g r ↔ r = (some (.int x), g) := rn_ireturn_iff tb_104_577 (Or.inr ⟨rfl, hb⟩) r
set_option maxRecDepth 20000 in
theorem tb_104_578 : mm_tb pg_G 104 578 = some (.aload_n 1, 0, 0, 0) := rfl
theorem st_104_578 {l0 l2 l3 : Value} {d : Nat} {t : List Value} {g : mm_M} {r : mm_R} {x : Nat} : mm_Rn pg_G d 104 578 [l0, .ref x, l2, l3] (t) g r ↔ mm_Rn pg_G d 104 579 [l0, .ref x, l2, l3] (.ref x :: t) g r := rn_aload_n tb_104_578 rfl r
set_option maxRecDepth 20000 in
theorem tb_104_579 : mm_tb pg_G 104 579 = some (.aload_n 0, 0, 0, 0) := rfl
theorem st_104_579 {l1 l2 l3 : Value} {d : Nat} {t : List Value} {g : mm_M} {r : mm_R} {x : Nat} : mm_Rn pg_G d 104 579 [.ref x, l1, l2, l3] (t) g r ↔ mm_Rn pg_G d 104 580 [.ref x, l1, l2, l3] (.ref x :: t) g r := rn_aload_n tb_104_579 rfl r
set_option maxRecDepth 20000 in
theorem tb_104_580 : mm_tb pg_G 104 580 = some (.iload_n 3, 0, 0, 0) := rfl
theorem st_104_580 {l0 l1 l2 : Value} {d : Nat} {t : List Value} {g : mm_M} {r : mm_R} {x : Int32} : mm_Rn pg_G d 104 580 [l0, l1, l2, .int x] (t) g r ↔ mm_Rn pg_G d 104 581 [l0, l1, l2, .int x] (.int x :: t) g r := rn_iload_n tb_104_580 rfl r
set_option maxRecDepth 20000 in
theorem tb_104_581 : mm_tb pg_G 104 581 = some (.iconst 1, 0, 0, 0) := rfl
theorem st_104_581 {d : Nat} {ls t : List Value} {g : mm_M} {r : mm_R} : mm_Rn pg_G d 104 581 ls (t) g r ↔ mm_Rn pg_G d 104 582 ls (io_v 1 :: t) g r := rn_iconst tb_104_581 r
set_option maxRecDepth 20000 in
theorem tb_104_582 : mm_tb pg_G 104 582 = some (.iadd, 0, 0, 0) := rfl
theorem st_104_582 {d : Nat} {ls t : List Value} {g : mm_M} {r : mm_R} {x y : Int32} : mm_Rn pg_G d 104 582 ls (.int y :: .int x :: t) g r ↔ mm_Rn pg_G d 104 583 ls (.int (x + y) :: t) g r := rn_iadd tb_104_582 r
set_option maxRecDepth 20000 in
theorem tb_104_583 : mm_tb pg_G 104 583 = some (.iaload, 0, 0, 0) := rfl
theorem st_104_583 {d : Nat} {ls t : List Value} {g : mm_M} {r : mm_R} {x : Nat} {j : Int32} (hc : mm_in (g.1 x) 100 101 j = true) : mm_Rn pg_G d 104 583 ls (.int j :: .ref x :: t) g r ↔ mm_Rn pg_G d 104 584 ls (g.2.1 x j.toNatClampNeg :: t) g r := rn_iaload tb_104_583 hc r
set_option maxRecDepth 20000 in
theorem tb_104_584 : mm_tb pg_G 104 584 = some (.invokevirtual 93, 51, 2, 409) := rfl
theorem st_104_584 {d c s c' s' : Nat} {ls t : List Value} {I J : sp_I} {r : mm_R} {a0 : Int32} {y : Nat} {v : Int32} (hl : t.length ≤ 4) (hT : sp_T I y = some (0, 8)) (hq : mm_Rn pg_G d 51 0 [.ref y, .int a0] [] (sp_me I 0 0) (some (.int v), sp_me J c' s')) : mm_Rn pg_G (d + 1) 104 584 ls (.int a0 :: .ref y :: t) (sp_me I c s) r ↔ mm_Rn pg_G (d + 1) 104 587 ls (.int v :: t) (sp_me J (c + c') (s + s')) r := rn_virt (g := sp_me I c s) (st := .int a0 :: .ref y :: t) tb_104_584 (decide_eq_true hT) ⟨Nat.le_add_left _ t.length, hl, rfl⟩ hq r
set_option maxRecDepth 20000 in
theorem tb_104_587 : mm_tb pg_G 104 587 = some (.aload_n 2, 0, 0, 0) := rfl
theorem st_104_587 {l0 l1 l3 : Value} {d : Nat} {t : List Value} {g : mm_M} {r : mm_R} {x : Nat} : mm_Rn pg_G d 104 587 [l0, l1, .ref x, l3] (t) g r ↔ mm_Rn pg_G d 104 588 [l0, l1, .ref x, l3] (.ref x :: t) g r := rn_aload_n tb_104_587 rfl r
set_option maxRecDepth 20000 in
theorem tb_104_588 : mm_tb pg_G 104 588 = some (.aload_n 0, 0, 0, 0) := rfl
theorem st_104_588 {l1 l2 l3 : Value} {d : Nat} {t : List Value} {g : mm_M} {r : mm_R} {x : Nat} : mm_Rn pg_G d 104 588 [.ref x, l1, l2, l3] (t) g r ↔ mm_Rn pg_G d 104 589 [.ref x, l1, l2, l3] (.ref x :: t) g r := rn_aload_n tb_104_588 rfl r
set_option maxRecDepth 20000 in
theorem tb_104_589 : mm_tb pg_G 104 589 = some (.iload_n 3, 0, 0, 0) := rfl
theorem st_104_589 {l0 l1 l2 : Value} {d : Nat} {t : List Value} {g : mm_M} {r : mm_R} {x : Int32} : mm_Rn pg_G d 104 589 [l0, l1, l2, .int x] (t) g r ↔ mm_Rn pg_G d 104 590 [l0, l1, l2, .int x] (.int x :: t) g r := rn_iload_n tb_104_589 rfl r
set_option maxRecDepth 20000 in
theorem tb_104_590 : mm_tb pg_G 104 590 = some (.iconst 1, 0, 0, 0) := rfl
theorem st_104_590 {d : Nat} {ls t : List Value} {g : mm_M} {r : mm_R} : mm_Rn pg_G d 104 590 ls (t) g r ↔ mm_Rn pg_G d 104 591 ls (io_v 1 :: t) g r := rn_iconst tb_104_590 r
set_option maxRecDepth 20000 in
theorem tb_104_591 : mm_tb pg_G 104 591 = some (.iadd, 0, 0, 0) := rfl
theorem st_104_591 {d : Nat} {ls t : List Value} {g : mm_M} {r : mm_R} {x y : Int32} : mm_Rn pg_G d 104 591 ls (.int y :: .int x :: t) g r ↔ mm_Rn pg_G d 104 592 ls (.int (x + y) :: t) g r := rn_iadd tb_104_591 r
set_option maxRecDepth 20000 in
theorem tb_104_592 : mm_tb pg_G 104 592 = some (.iaload, 0, 0, 0) := rfl
theorem st_104_592 {d : Nat} {ls t : List Value} {g : mm_M} {r : mm_R} {x : Nat} {j : Int32} (hc : mm_in (g.1 x) 100 101 j = true) : mm_Rn pg_G d 104 592 ls (.int j :: .ref x :: t) g r ↔ mm_Rn pg_G d 104 593 ls (g.2.1 x j.toNatClampNeg :: t) g r := rn_iaload tb_104_592 hc r
set_option maxRecDepth 20000 in
theorem tb_104_593 : mm_tb pg_G 104 593 = some (.invokevirtual 96, 103, 2, 615) := rfl
theorem st_104_593 {d c s c' s' : Nat} {ls t : List Value} {I J : sp_I} {r : mm_R} {a0 : Int32} {y : Nat} {v : Int32} (hl : t.length ≤ 4) (hT : sp_T I y = some (6, 35)) (hq : mm_Rn pg_G d 103 0 [.ref y, .int a0, .retAddr 0, .retAddr 0] [] (sp_me I 0 0) (some (.int v), sp_me J c' s')) : mm_Rn pg_G (d + 1) 104 593 ls (.int a0 :: .ref y :: t) (sp_me I c s) r ↔ mm_Rn pg_G (d + 1) 104 596 ls (.int v :: t) (sp_me J (c + c') (s + s')) r := rn_virt (g := sp_me I c s) (st := .int a0 :: .ref y :: t) tb_104_593 (decide_eq_true hT) ⟨Nat.le_add_left _ t.length, hl, rfl⟩ hq r
set_option maxRecDepth 20000 in
theorem tb_104_596 : mm_tb pg_G 104 596 = some (.if_icmp .eq 5, 601, 0, 0) := rfl
theorem st_104_596 {d : Nat} {ls t : List Value} {g : mm_M} {r : mm_R} {x y : Int32} : mm_Rn pg_G d 104 596 ls (.int y :: .int x :: t) g r ↔ if x = y then mm_Rn pg_G d 104 601 ls (t) g r else mm_Rn pg_G d 104 599 ls (t) g r := rn_icmp_eq tb_104_596 r
set_option maxRecDepth 20000 in
theorem tb_104_599 : mm_tb pg_G 104 599 = some (.iconst 0, 0, 0, 0) := rfl
theorem st_104_599 {d : Nat} {ls t : List Value} {g : mm_M} {r : mm_R} : mm_Rn pg_G d 104 599 ls (t) g r ↔ mm_Rn pg_G d 104 600 ls (io_v 0 :: t) g r := rn_iconst tb_104_599 r
set_option maxRecDepth 20000 in
theorem tb_104_600 : mm_tb pg_G 104 600 = some (.ireturn, 0, 0, 0) := rfl
theorem st_104_600 {d : Nat} {ls : List Value} {g : mm_M} {r : mm_R} {x : Int32} (hb : x = 0 ∨ x = 1) : mm_Rn pg_G d 104 600 ls [.int x] g r ↔ r = (some (.int x), g) := rn_ireturn_iff tb_104_600 (Or.inr ⟨rfl, hb⟩) r
set_option maxRecDepth 20000 in
theorem tb_104_601 : mm_tb pg_G 104 601 = some (.iinc 3 5, 0, 0, 0) := rfl
theorem st_104_601 {l0 l1 l2 : Value} {d : Nat} {t : List Value} {g : mm_M} {r : mm_R} {x : Int32} (hc : mm_c1 l2 = true) : mm_Rn pg_G d 104 601 [l0, l1, l2, .int x] (t) g r ↔ mm_Rn pg_G d 104 604 [l0, l1, l2, .int (x + Int32.ofInt 5)] (t) g r := rn_iinc tb_104_601 rfl (mm_so_of (ls := [l0, l1, l2, .int x]) (v := l2) (Nat.le_of_ble_eq_true rfl) rfl hc) r
set_option maxRecDepth 20000 in
theorem tb_104_604 : mm_tb pg_G 104 604 = some (.goto (-586), 18, 0, 0) := rfl
theorem st_104_604 {d : Nat} {ls t : List Value} {g : mm_M} {r : mm_R} : mm_Rn pg_G d 104 604 ls (t) g r ↔ mm_Rn pg_G d 104 18 ls (t) g r := rn_goto tb_104_604 r
set_option maxRecDepth 20000 in
theorem tb_104_607 : mm_tb pg_G 104 607 = some (.iconst 1, 0, 0, 0) := rfl
theorem st_104_607 {d : Nat} {ls t : List Value} {g : mm_M} {r : mm_R} : mm_Rn pg_G d 104 607 ls (t) g r ↔ mm_Rn pg_G d 104 608 ls (io_v 1 :: t) g r := rn_iconst tb_104_607 r
set_option maxRecDepth 20000 in
theorem tb_104_608 : mm_tb pg_G 104 608 = some (.ireturn, 0, 0, 0) := rfl
theorem st_104_608 {d : Nat} {ls : List Value} {g : mm_M} {r : mm_R} {x : Int32} (hb : x = 0 ∨ x = 1) : mm_Rn pg_G d 104 608 ls [.int x] g r ↔ r = (some (.int x), g) := rn_ireturn_iff tb_104_608 (Or.inr ⟨rfl, hb⟩) r
