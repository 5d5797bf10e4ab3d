/-! a row an instruction of the program -/
theorem tb_101_0 : mm_tb pg_G 101 0 = some (.aload_n 0, 0, 0, 0) := rfl
theorem st_101_0 {l1 : Value} {d : Nat} {t : List Value} {g : mm_M} {r : mm_R} {x : Nat} : mm_Rn pg_G d 101 0 [.ref x, l1] (t) g r ↔ mm_Rn pg_G d 101 1 [.ref x, l1] (.ref x :: t) g r := rn_aload_n tb_101_0 rfl r
theorem tb_101_1 : mm_tb pg_G 101 1 = some (.iload_n 1, 0, 0, 0) := rfl
theorem st_101_1 {l0 : Value} {d : Nat} {t : List Value} {g : mm_M} {r : mm_R} {x : Int32} : mm_Rn pg_G d 101 1 [l0, .int x] (t) g r ↔ mm_Rn pg_G d 101 2 [l0, .int x] (.int x :: t) g r := rn_iload_n tb_101_1 rfl r
theorem tb_101_2 : mm_tb pg_G 101 2 = some (.invokevirtual 79, 71, 2, 503) := rfl
theorem st_101_2 {d c s c' s' : Nat} {ls t : List Value} {I J : sp_I} {r : mm_R} {a0 : Int32} {y : Nat} {v : Int32} (hl : t.length ≤ 4) (hT : sp_T I y = some (6, 35)) (hq : mm_Rn pg_G d 71 0 [.ref y, .int a0] [] (sp_me I 0 0) (some (.int v), sp_me J c' s')) : mm_Rn pg_G (d + 1) 101 2 ls (.int a0 :: .ref y :: t) (sp_me I c s) r ↔ mm_Rn pg_G (d + 1) 101 5 ls (.int v :: t) (sp_me J (c + c') (s + s')) r := rn_virt (g := sp_me I c s) (st := .int a0 :: .ref y :: t) tb_101_2 (decide_eq_true hT) ⟨Nat.le_add_left _ t.length, hl, rfl⟩ hq r
theorem tb_101_5 : mm_tb pg_G 101 5 = some (.ifCond .eq 12, 17, 0, 0) := rfl
theorem st_101_5 {d : Nat} {ls t : List Value} {g : mm_M} {r : mm_R} {x : Int32} : mm_Rn pg_G d 101 5 ls (.int x :: t) g r ↔ if x = 0 then mm_Rn pg_G d 101 17 ls (t) g r else mm_Rn pg_G d 101 8 ls (t) g r := rn_if_eq tb_101_5 r
theorem tb_101_8 : mm_tb pg_G 101 8 = some (.aload_n 0, 0, 0, 0) := rfl
theorem st_101_8 {l1 : Value} {d : Nat} {t : List Value} {g : mm_M} {r : mm_R} {x : Nat} : mm_Rn pg_G d 101 8 [.ref x, l1] (t) g r ↔ mm_Rn pg_G d 101 9 [.ref x, l1] (.ref x :: t) g r := rn_aload_n tb_101_8 rfl r
theorem tb_101_9 : mm_tb pg_G 101 9 = some (.getfield 61, 6, 27, 449) := rfl
theorem st_101_9 {d : Nat} {ls t : List Value} {g : mm_M} {r : mm_R} {x : Nat} (hT : g.1 x = some (6, 35)) : mm_Rn pg_G d 101 9 ls (.ref x :: t) g r ↔ mm_Rn pg_G d 101 12 ls (g.2.1 x 27 :: t) g r := rn_getfield tb_101_9 hT r
theorem tb_101_12 : mm_tb pg_G 101 12 = some (.iload_n 1, 0, 0, 0) := rfl
theorem st_101_12 {l0 : Value} {d : Nat} {t : List Value} {g : mm_M} {r : mm_R} {x : Int32} : mm_Rn pg_G d 101 12 [l0, .int x] (t) g r ↔ mm_Rn pg_G d 101 13 [l0, .int x] (.int x :: t) g r := rn_iload_n tb_101_12 rfl r
theorem tb_101_13 : mm_tb pg_G 101 13 = some (.iaload, 0, 0, 0) := rfl
theorem st_101_13 {d : Nat} {ls t : List Value} {g : mm_M} {r : mm_R} {x : Nat} {j : Int32} (hc : mm_in (g.1 x) 100 101 j = true) : mm_Rn pg_G d 101 13 ls (.int j :: .ref x :: t) g r ↔ mm_Rn pg_G d 101 14 ls (g.2.1 x j.toNatClampNeg :: t) g r := rn_iaload tb_101_13 hc r
theorem tb_101_14 : mm_tb pg_G 101 14 = some (.goto 4, 18, 0, 0) := rfl
theorem st_101_14 {d : Nat} {ls t : List Value} {g : mm_M} {r : mm_R} : mm_Rn pg_G d 101 14 ls (t) g r ↔ mm_Rn pg_G d 101 18 ls (t) g r := rn_goto tb_101_14 r
theorem tb_101_17 : mm_tb pg_G 101 17 = some (.iconst (-1), 0, 0, 0) := rfl
theorem st_101_17 {d : Nat} {ls t : List Value} {g : mm_M} {r : mm_R} : mm_Rn pg_G d 101 17 ls (t) g r ↔ mm_Rn pg_G d 101 18 ls (io_v (-1) :: t) g r := rn_iconst tb_101_17 r
theorem tb_101_18 : mm_tb pg_G 101 18 = some (.ireturn, 0, 0, 0) := rfl
theorem st_101_18 {d : Nat} {ls : List Value} {g : mm_M} {r : mm_R} {x : Int32} : mm_Rn pg_G d 101 18 ls [.int x] g r ↔ r = (some (.int x), g) := rn_ireturn_iff tb_101_18 (Or.inl rfl) r
theorem tb_102_0 : mm_tb pg_G 102 0 = some (.aload_n 0, 0, 0, 0) := rfl
theorem st_102_0 {l1 l2 l3 : Value} {d : Nat} {t : List Value} {g : mm_M} {r : mm_R} {x : Nat} : mm_Rn pg_G d 102 0 [.ref x, l1, l2, l3] (t) g r ↔ mm_Rn pg_G d 102 1 [.ref x, l1, l2, l3] (.ref x :: t) g r := rn_aload_n tb_102_0 rfl r
theorem tb_102_1 : mm_tb pg_G 102 1 = some (.getfield 83, 6, 10, 432) := rfl
theorem st_102_1 {d : Nat} {ls t : List Value} {g : mm_M} {r : mm_R} {x : Nat} (hT : g.1 x = some (6, 35)) : mm_Rn pg_G d 102 1 ls (.ref x :: t) g r ↔ mm_Rn pg_G d 102 4 ls (g.2.1 x 10 :: t) g r := rn_getfield tb_102_1 hT r
theorem tb_102_4 : mm_tb pg_G 102 4 = some (.ifCond .eq 12, 16, 0, 0) := rfl
theorem st_102_4 {d : Nat} {ls t : List Value} {g : mm_M} {r : mm_R} {x : Int32} : mm_Rn pg_G d 102 4 ls (.int x :: t) g r ↔ if x = 0 then mm_Rn pg_G d 102 16 ls (t) g r else mm_Rn pg_G d 102 7 ls (t) g r := rn_if_eq tb_102_4 r
theorem tb_102_7 : mm_tb pg_G 102 7 = some (.iload_n 1, 0, 0, 0) := rfl
theorem st_102_7 {l0 l2 l3 : Value} {d : Nat} {t : List Value} {g : mm_M} {r : mm_R} {x : Int32} : mm_Rn pg_G d 102 7 [l0, .int x, l2, l3] (t) g r ↔ mm_Rn pg_G d 102 8 [l0, .int x, l2, l3] (.int x :: t) g r := rn_iload_n tb_102_7 rfl r
theorem tb_102_8 : mm_tb pg_G 102 8 = some (.ifCond .lt 8, 16, 0, 0) := rfl
theorem st_102_8 {d : Nat} {ls t : List Value} {g : mm_M} {r : mm_R} {x : Int32} : mm_Rn pg_G d 102 8 ls (.int x :: t) g r ↔ if x < 0 then mm_Rn pg_G d 102 16 ls (t) g r else mm_Rn pg_G d 102 11 ls (t) g r := rn_if_lt tb_102_8 r
theorem tb_102_11 : mm_tb pg_G 102 11 = some (.iload_n 1, 0, 0, 0) := rfl
theorem st_102_11 {l0 l2 l3 : Value} {d : Nat} {t : List Value} {g : mm_M} {r : mm_R} {x : Int32} : mm_Rn pg_G d 102 11 [l0, .int x, l2, l3] (t) g r ↔ mm_Rn pg_G d 102 12 [l0, .int x, l2, l3] (.int x :: t) g r := rn_iload_n tb_102_11 rfl r
theorem tb_102_12 : mm_tb pg_G 102 12 = some (.iconst 5, 0, 0, 0) := rfl
theorem st_102_12 {d : Nat} {ls t : List Value} {g : mm_M} {r : mm_R} : mm_Rn pg_G d 102 12 ls (t) g r ↔ mm_Rn pg_G d 102 13 ls (io_v 5 :: t) g r := rn_iconst tb_102_12 r
theorem tb_102_13 : mm_tb pg_G 102 13 = some (.if_icmp .le 5, 18, 0, 0) := rfl
theorem st_102_13 {d : Nat} {ls t : List Value} {g : mm_M} {r : mm_R} {x y : Int32} : mm_Rn pg_G d 102 13 ls (.int y :: .int x :: t) g r ↔ if x ≤ y then mm_Rn pg_G d 102 18 ls (t) g r else mm_Rn pg_G d 102 16 ls (t) g r := rn_icmp_le tb_102_13 r
theorem tb_102_16 : mm_tb pg_G 102 16 = some (.iconst (-1), 0, 0, 0) := rfl
theorem st_102_16 {d : Nat} {ls t : List Value} {g : mm_M} {r : mm_R} : mm_Rn pg_G d 102 16 ls (t) g r ↔ mm_Rn pg_G d 102 17 ls (io_v (-1) :: t) g r := rn_iconst tb_102_16 r
theorem tb_102_17 : mm_tb pg_G 102 17 = some (.ireturn, 0, 0, 0) := rfl
theorem st_102_17 {d : Nat} {ls : List Value} {g : mm_M} {r : mm_R} {x : Int32} : mm_Rn pg_G d 102 17 ls [.int x] g r ↔ r = (some (.int x), g) := rn_ireturn_iff tb_102_17 (Or.inl rfl) r
theorem tb_102_18 : mm_tb pg_G 102 18 = some (.iconst 0, 0, 0, 0) := rfl
theorem st_102_18 {d : Nat} {ls t : List Value} {g : mm_M} {r : mm_R} : mm_Rn pg_G d 102 18 ls (t) g r ↔ mm_Rn pg_G d 102 19 ls (io_v 0 :: t) g r := rn_iconst tb_102_18 r
theorem tb_102_19 : mm_tb pg_G 102 19 = some (.istore_n 2, 0, 0, 0) := rfl
theorem st_102_19 {l0 l1 l2 l3 : Value} {d : Nat} {t : List Value} {g : mm_M} {r : mm_R} {x : Int32} (hc : mm_c1 l1 = true) : mm_Rn pg_G d 102 19 [l0, l1, l2, l3] (.int x :: t) g r ↔ mm_Rn pg_G d 102 20 [l0, l1, .int x, l3] (t) g r := rn_istore_n tb_102_19 (mm_so_of (ls := [l0, l1, l2, l3]) (v := l1) (Nat.le_of_ble_eq_true rfl) rfl hc) r
theorem tb_102_20 : mm_tb pg_G 102 20 = some (.iconst 0, 0, 0, 0) := rfl
theorem st_102_20 {d : Nat} {ls t : List Value} {g : mm_M} {r : mm_R} : mm_Rn pg_G d 102 20 ls (t) g r ↔ mm_Rn pg_G d 102 21 ls (io_v 0 :: t) g r := rn_iconst tb_102_20 r
theorem tb_102_21 : mm_tb pg_G 102 21 = some (.istore_n 3, 0, 0, 0) := rfl
theorem st_102_21 {l0 l1 l2 l3 : Value} {d : Nat} {t : List Value} {g : mm_M} {r : mm_R} {x : Int32} (hc : mm_c1 l2 = true) : mm_Rn pg_G d 102 21 [l0, l1, l2, l3] (.int x :: t) g r ↔ mm_Rn pg_G d 102 22 [l0, l1, l2, .int x] (t) g r := rn_istore_n tb_102_21 (mm_so_of (ls := [l0, l1, l2, l3]) (v := l2) (Nat.le_of_ble_eq_true rfl) rfl hc) r
theorem tb_102_22 : mm_tb pg_G 102 22 = some (.iload_n 3, 0, 0, 0) := rfl
theorem st_102_22 {l0 l1 l2 : Value} {d : Nat} {t : List Value} {g : mm_M} {r : mm_R} {x : Int32} : mm_Rn pg_G d 102 22 [l0, l1, l2, .int x] (t) g r ↔ mm_Rn pg_G d 102 23 [l0, l1, l2, .int x] (.int x :: t) g r := rn_iload_n tb_102_22 rfl r
theorem tb_102_23 : mm_tb pg_G 102 23 = some (.aload_n 0, 0, 0, 0) := rfl
theorem st_102_23 {l1 l2 l3 : Value} {d : Nat} {t : List Value} {g : mm_M} {r : mm_R} {x : Nat} : mm_Rn pg_G d 102 23 [.ref x, l1, l2, l3] (t) g r ↔ mm_Rn pg_G d 102 24 [.ref x, l1, l2, l3] (.ref x :: t) g r := rn_aload_n tb_102_23 rfl r
theorem tb_102_24 : mm_tb pg_G 102 24 = some (.getfield 111, 6, 14, 436) := rfl
theorem st_102_24 {d : Nat} {ls t : List Value} {g : mm_M} {r : mm_R} {x : Nat} (hT : g.1 x = some (6, 35)) : mm_Rn pg_G d 102 24 ls (.ref x :: t) g r ↔ mm_Rn pg_G d 102 27 ls (g.2.1 x 14 :: t) g r := rn_getfield tb_102_24 hT r
theorem tb_102_27 : mm_tb pg_G 102 27 = some (.if_icmp .ge 18, 45, 0, 0) := rfl
theorem st_102_27 {d : Nat} {ls t : List Value} {g : mm_M} {r : mm_R} {x y : Int32} : mm_Rn pg_G d 102 27 ls (.int y :: .int x :: t) g r ↔ if y ≤ x then mm_Rn pg_G d 102 45 ls (t) g r else mm_Rn pg_G d 102 30 ls (t) g r := rn_icmp_ge tb_102_27 r
theorem tb_102_30 : mm_tb pg_G 102 30 = some (.iload_n 2, 0, 0, 0) := rfl
theorem st_102_30 {l0 l1 l3 : Value} {d : Nat} {t : List Value} {g : mm_M} {r : mm_R} {x : Int32} : mm_Rn pg_G d 102 30 [l0, l1, .int x, l3] (t) g r ↔ mm_Rn pg_G d 102 31 [l0, l1, .int x, l3] (.int x :: t) g r := rn_iload_n tb_102_30 rfl r
theorem tb_102_31 : mm_tb pg_G 102 31 = some (.aload_n 0, 0, 0, 0) := rfl
theorem st_102_31 {l1 l2 l3 : Value} {d : Nat} {t : List Value} {g : mm_M} {r : mm_R} {x : Nat} : mm_Rn pg_G d 102 31 [.ref x, l1, l2, l3] (t) g r ↔ mm_Rn pg_G d 102 32 [.ref x, l1, l2, l3] (.ref x :: t) g r := rn_aload_n tb_102_31 rfl r
theorem tb_102_32 : mm_tb pg_G 102 32 = some (.getfield 31, 6, 15, 437) := rfl
theorem st_102_32 {d : Nat} {ls t : List Value} {g : mm_M} {r : mm_R} {x : Nat} (hT : g.1 x = some (6, 35)) : mm_Rn pg_G d 102 32 ls (.ref x :: t) g r ↔ mm_Rn pg_G d 102 35 ls (g.2.1 x 15 :: t) g r := rn_getfield tb_102_32 hT r
theorem tb_102_35 : mm_tb pg_G 102 35 = some (.iload_n 3, 0, 0, 0) := rfl
theorem st_102_35 {l0 l1 l2 : Value} {d : Nat} {t : List Value} {g : mm_M} {r : mm_R} {x : Int32} : mm_Rn pg_G d 102 35 [l0, l1, l2, .int x] (t) g r ↔ mm_Rn pg_G d 102 36 [l0, l1, l2, .int x] (.int x :: t) g r := rn_iload_n tb_102_35 rfl r
theorem tb_102_36 : mm_tb pg_G 102 36 = some (.iaload, 0, 0, 0) := rfl
theorem st_102_36 {d : Nat} {ls t : List Value} {g : mm_M} {r : mm_R} {x : Nat} {j : Int32} (hc : mm_in (g.1 x) 100 101 j = true) : mm_Rn pg_G d 102 36 ls (.int j :: .ref x :: t) g r ↔ mm_Rn pg_G d 102 37 ls (g.2.1 x j.toNatClampNeg :: t) g r := rn_iaload tb_102_36 hc r
theorem tb_102_37 : mm_tb pg_G 102 37 = some (.iadd, 0, 0, 0) := rfl
theorem st_102_37 {d : Nat} {ls t : List Value} {g : mm_M} {r : mm_R} {x y : Int32} : mm_Rn pg_G d 102 37 ls (.int y :: .int x :: t) g r ↔ mm_Rn pg_G d 102 38 ls (.int (x + y) :: t) g r := rn_iadd tb_102_37 r
theorem tb_102_38 : mm_tb pg_G 102 38 = some (.istore_n 2, 0, 0, 0) := rfl
theorem st_102_38 {l0 l1 l2 l3 : Value} {d : Nat} {t : List Value} {g : mm_M} {r : mm_R} {x : Int32} (hc : mm_c1 l1 = true) : mm_Rn pg_G d 102 38 [l0, l1, l2, l3] (.int x :: t) g r ↔ mm_Rn pg_G d 102 39 [l0, l1, .int x, l3] (t) g r := rn_istore_n tb_102_38 (mm_so_of (ls := [l0, l1, l2, l3]) (v := l1) (Nat.le_of_ble_eq_true rfl) rfl hc) r
theorem tb_102_39 : mm_tb pg_G 102 39 = some (.iinc 3 1, 0, 0, 0) := rfl
theorem st_102_39 {l0 l1 l2 : Value} {d : Nat} {t : List Value} {g : mm_M} {r : mm_R} {x : Int32} (hc : mm_c1 l2 = true) : mm_Rn pg_G d 102 39 [l0, l1, l2, .int x] (t) g r ↔ mm_Rn pg_G d 102 42 [l0, l1, l2, .int (x + Int32.ofInt 1)] (t) g r := rn_iinc tb_102_39 rfl (mm_so_of (ls := [l0, l1, l2, .int x]) (v := l2) (Nat.le_of_ble_eq_true rfl) rfl hc) r
theorem tb_102_42 : mm_tb pg_G 102 42 = some (.goto (-20), 22, 0, 0) := rfl
theorem st_102_42 {d : Nat} {ls t : List Value} {g : mm_M} {r : mm_R} : mm_Rn pg_G d 102 42 ls (t) g r ↔ mm_Rn pg_G d 102 22 ls (t) g r := rn_goto tb_102_42 r
theorem tb_102_45 : mm_tb pg_G 102 45 = some (.iload_n 1, 0, 0, 0) := rfl
theorem st_102_45 {l0 l2 l3 : Value} {d : Nat} {t : List Value} {g : mm_M} {r : mm_R} {x : Int32} : mm_Rn pg_G d 102 45 [l0, .int x, l2, l3] (t) g r ↔ mm_Rn pg_G d 102 46 [l0, .int x, l2, l3] (.int x :: t) g r := rn_iload_n tb_102_45 rfl r
theorem tb_102_46 : mm_tb pg_G 102 46 = some (.ifCond .ne 10, 56, 0, 0) := rfl
theorem st_102_46 {d : Nat} {ls t : List Value} {g : mm_M} {r : mm_R} {x : Int32} : mm_Rn pg_G d 102 46 ls (.int x :: t) g r ↔ if x = 0 then mm_Rn pg_G d 102 49 ls (t) g r else mm_Rn pg_G d 102 56 ls (t) g r := rn_if_ne tb_102_46 r
theorem tb_102_49 : mm_tb pg_G 102 49 = some (.aload_n 0, 0, 0, 0) := rfl
theorem st_102_49 {l1 l2 l3 : Value} {d : Nat} {t : List Value} {g : mm_M} {r : mm_R} {x : Nat} : mm_Rn pg_G d 102 49 [.ref x, l1, l2, l3] (t) g r ↔ mm_Rn pg_G d 102 50 [.ref x, l1, l2, l3] (.ref x :: t) g r := rn_aload_n tb_102_49 rfl r
theorem tb_102_50 : mm_tb pg_G 102 50 = some (.getfield 114, 6, 13, 435) := rfl
theorem st_102_50 {d : Nat} {ls t : List Value} {g : mm_M} {r : mm_R} {x : Nat} (hT : g.1 x = some (6, 35)) : mm_Rn pg_G d 102 50 ls (.ref x :: t) g r ↔ mm_Rn pg_G d 102 53 ls (g.2.1 x 13 :: t) g r := rn_getfield tb_102_50 hT r
theorem tb_102_53 : mm_tb pg_G 102 53 = some (.goto 52, 105, 0, 0) := rfl
theorem st_102_53 {d : Nat} {ls t : List Value} {g : mm_M} {r : mm_R} : mm_Rn pg_G d 102 53 ls (t) g r ↔ mm_Rn pg_G d 102 105 ls (t) g r := rn_goto tb_102_53 r
theorem tb_102_56 : mm_tb pg_G 102 56 = some (.iload_n 1, 0, 0, 0) := rfl
theorem st_102_56 {l0 l2 l3 : Value} {d : Nat} {t : List Value} {g : mm_M} {r : mm_R} {x : Int32} : mm_Rn pg_G d 102 56 [l0, .int x, l2, l3] (t) g r ↔ mm_Rn pg_G d 102 57 [l0, .int x, l2, l3] (.int x :: t) g r := rn_iload_n tb_102_56 rfl r
theorem tb_102_57 : mm_tb pg_G 102 57 = some (.iconst 1, 0, 0, 0) := rfl
theorem st_102_57 {d : Nat} {ls t : List Value} {g : mm_M} {r : mm_R} : mm_Rn pg_G d 102 57 ls (t) g r ↔ mm_Rn pg_G d 102 58 ls (io_v 1 :: t) g r := rn_iconst tb_102_57 r
theorem tb_102_58 : mm_tb pg_G 102 58 = some (.if_icmp .ne 10, 68, 0, 0) := rfl
theorem st_102_58 {d : Nat} {ls t : List Value} {g : mm_M} {r : mm_R} {x y : Int32} : mm_Rn pg_G d 102 58 ls (.int y :: .int x :: t) g r ↔ if x = y then mm_Rn pg_G d 102 61 ls (t) g r else mm_Rn pg_G d 102 68 ls (t) g r := rn_icmp_ne tb_102_58 r
theorem tb_102_61 : mm_tb pg_G 102 61 = some (.aload_n 0, 0, 0, 0) := rfl
theorem st_102_61 {l1 l2 l3 : Value} {d : Nat} {t : List Value} {g : mm_M} {r : mm_R} {x : Nat} : mm_Rn pg_G d 102 61 [.ref x, l1, l2, l3] (t) g r ↔ mm_Rn pg_G d 102 62 [.ref x, l1, l2, l3] (.ref x :: t) g r := rn_aload_n tb_102_61 rfl r
theorem tb_102_62 : mm_tb pg_G 102 62 = some (.getfield 89, 6, 12, 434) := rfl
theorem st_102_62 {d : Nat} {ls t : List Value} {g : mm_M} {r : mm_R} {x : Nat} (hT : g.1 x = some (6, 35)) : mm_Rn pg_G d 102 62 ls (.ref x :: t) g r ↔ mm_Rn pg_G d 102 65 ls (g.2.1 x 12 :: t) g r := rn_getfield tb_102_62 hT r
theorem tb_102_65 : mm_tb pg_G 102 65 = some (.goto 40, 105, 0, 0) := rfl
theorem st_102_65 {d : Nat} {ls t : List Value} {g : mm_M} {r : mm_R} : mm_Rn pg_G d 102 65 ls (t) g r ↔ mm_Rn pg_G d 102 105 ls (t) g r := rn_goto tb_102_65 r
theorem tb_102_68 : mm_tb pg_G 102 68 = some (.iload_n 1, 0, 0, 0) := rfl
theorem st_102_68 {l0 l2 l3 : Value} {d : Nat} {t : List Value} {g : mm_M} {r : mm_R} {x : Int32} : mm_Rn pg_G d 102 68 [l0, .int x, l2, l3] (t) g r ↔ mm_Rn pg_G d 102 69 [l0, .int x, l2, l3] (.int x :: t) g r := rn_iload_n tb_102_68 rfl r
theorem tb_102_69 : mm_tb pg_G 102 69 = some (.iconst 2, 0, 0, 0) := rfl
theorem st_102_69 {d : Nat} {ls t : List Value} {g : mm_M} {r : mm_R} : mm_Rn pg_G d 102 69 ls (t) g r ↔ mm_Rn pg_G d 102 70 ls (io_v 2 :: t) g r := rn_iconst tb_102_69 r
theorem tb_102_70 : mm_tb pg_G 102 70 = some (.if_icmp .ne 10, 80, 0, 0) := rfl
theorem st_102_70 {d : Nat} {ls t : List Value} {g : mm_M} {r : mm_R} {x y : Int32} : mm_Rn pg_G d 102 70 ls (.int y :: .int x :: t) g r ↔ if x = y then mm_Rn pg_G d 102 73 ls (t) g r else mm_Rn pg_G d 102 80 ls (t) g r := rn_icmp_ne tb_102_70 r
theorem tb_102_73 : mm_tb pg_G 102 73 = some (.aload_n 0, 0, 0, 0) := rfl
theorem st_102_73 {l1 l2 l3 : Value} {d : Nat} {t : List Value} {g : mm_M} {r : mm_R} {x : Nat} : mm_Rn pg_G d 102 73 [.ref x, l1, l2, l3] (t) g r ↔ mm_Rn pg_G d 102 74 [.ref x, l1, l2, l3] (.ref x :: t) g r := rn_aload_n tb_102_73 rfl r
theorem tb_102_74 : mm_tb pg_G 102 74 = some (.getfield 111, 6, 14, 436) := rfl
theorem st_102_74 {d : Nat} {ls t : List Value} {g : mm_M} {r : mm_R} {x : Nat} (hT : g.1 x = some (6, 35)) : mm_Rn pg_G d 102 74 ls (.ref x :: t) g r ↔ mm_Rn pg_G d 102 77 ls (g.2.1 x 14 :: t) g r := rn_getfield tb_102_74 hT r
theorem tb_102_77 : mm_tb pg_G 102 77 = some (.goto 28, 105, 0, 0) := rfl
theorem st_102_77 {d : Nat} {ls t : List Value} {g : mm_M} {r : mm_R} : mm_Rn pg_G d 102 77 ls (t) g r ↔ mm_Rn pg_G d 102 105 ls (t) g r := rn_goto tb_102_77 r
theorem tb_102_80 : mm_tb pg_G 102 80 = some (.iload_n 1, 0, 0, 0) := rfl
theorem st_102_80 {l0 l2 l3 : Value} {d : Nat} {t : List Value} {g : mm_M} {r : mm_R} {x : Int32} : mm_Rn pg_G d 102 80 [l0, .int x, l2, l3] (t) g r ↔ mm_Rn pg_G d 102 81 [l0, .int x, l2, l3] (.int x :: t) g r := rn_iload_n tb_102_80 rfl r
theorem tb_102_81 : mm_tb pg_G 102 81 = some (.iconst 3, 0, 0, 0) := rfl
theorem st_102_81 {d : Nat} {ls t : List Value} {g : mm_M} {r : mm_R} : mm_Rn pg_G d 102 81 ls (t) g r ↔ mm_Rn pg_G d 102 82 ls (io_v 3 :: t) g r := rn_iconst tb_102_81 r
theorem tb_102_82 : mm_tb pg_G 102 82 = some (.if_icmp .ne 7, 89, 0, 0) := rfl
theorem st_102_82 {d : Nat} {ls t : List Value} {g : mm_M} {r : mm_R} {x y : Int32} : mm_Rn pg_G d 102 82 ls (.int y :: .int x :: t) g r ↔ if x = y then mm_Rn pg_G d 102 85 ls (t) g r else mm_Rn pg_G d 102 89 ls (t) g r := rn_icmp_ne tb_102_82 r
theorem tb_102_85 : mm_tb pg_G 102 85 = some (.iload_n 2, 0, 0, 0) := rfl
theorem st_102_85 {l0 l1 l3 : Value} {d : Nat} {t : List Value} {g : mm_M} {r : mm_R} {x : Int32} : mm_Rn pg_G d 102 85 [l0, l1, .int x, l3] (t) g r ↔ mm_Rn pg_G d 102 86 [l0, l1, .int x, l3] (.int x :: t) g r := rn_iload_n tb_102_85 rfl r
theorem tb_102_86 : mm_tb pg_G 102 86 = some (.goto 19, 105, 0, 0) := rfl
theorem st_102_86 {d : Nat} {ls t : List Value} {g : mm_M} {r : mm_R} : mm_Rn pg_G d 102 86 ls (t) g r ↔ mm_Rn pg_G d 102 105 ls (t) g r := rn_goto tb_102_86 r
theorem tb_102_89 : mm_tb pg_G 102 89 = some (.iload_n 1, 0, 0, 0) := rfl
theorem st_102_89 {l0 l2 l3 : Value} {d : Nat} {t : List Value} {g : mm_M} {r : mm_R} {x : Int32} : mm_Rn pg_G d 102 89 [l0, .int x, l2, l3] (t) g r ↔ mm_Rn pg_G d 102 90 [l0, .int x, l2, l3] (.int x :: t) g r := rn_iload_n tb_102_89 rfl r
theorem tb_102_90 : mm_tb pg_G 102 90 = some (.iconst 4, 0, 0, 0) := rfl
theorem st_102_90 {d : Nat} {ls t : List Value} {g : mm_M} {r : mm_R} : mm_Rn pg_G d 102 90 ls (t) g r ↔ mm_Rn pg_G d 102 91 ls (io_v 4 :: t) g r := rn_iconst tb_102_90 r
theorem tb_102_91 : mm_tb pg_G 102 91 = some (.if_icmp .ne 10, 101, 0, 0) := rfl
theorem st_102_91 {d : Nat} {ls t : List Value} {g : mm_M} {r : mm_R} {x y : Int32} : mm_Rn pg_G d 102 91 ls (.int y :: .int x :: t) g r ↔ if x = y then mm_Rn pg_G d 102 94 ls (t) g r else mm_Rn pg_G d 102 101 ls (t) g r := rn_icmp_ne tb_102_91 r
theorem tb_102_94 : mm_tb pg_G 102 94 = some (.aload_n 0, 0, 0, 0) := rfl
theorem st_102_94 {l1 l2 l3 : Value} {d : Nat} {t : List Value} {g : mm_M} {r : mm_R} {x : Nat} : mm_Rn pg_G d 102 94 [.ref x, l1, l2, l3] (t) g r ↔ mm_Rn pg_G d 102 95 [.ref x, l1, l2, l3] (.ref x :: t) g r := rn_aload_n tb_102_94 rfl r
theorem tb_102_95 : mm_tb pg_G 102 95 = some (.getfield 143, 6, 16, 438) := rfl
theorem st_102_95 {d : Nat} {ls t : List Value} {g : mm_M} {r : mm_R} {x : Nat} (hT : g.1 x = some (6, 35)) : mm_Rn pg_G d 102 95 ls (.ref x :: t) g r ↔ mm_Rn pg_G d 102 98 ls (g.2.1 x 16 :: t) g r := rn_getfield tb_102_95 hT r
theorem tb_102_98 : mm_tb pg_G 102 98 = some (.goto 7, 105, 0, 0) := rfl
theorem st_102_98 {d : Nat} {ls t : List Value} {g : mm_M} {r : mm_R} : mm_Rn pg_G d 102 98 ls (t) g r ↔ mm_Rn pg_G d 102 105 ls (t) g r := rn_goto tb_102_98 r
theorem tb_102_101 : mm_tb pg_G 102 101 = some (.aload_n 0, 0, 0, 0) := rfl
theorem st_102_101 {l1 l2 l3 : Value} {d : Nat} {t : List Value} {g : mm_M} {r : mm_R} {x : Nat} : mm_Rn pg_G d 102 101 [.ref x, l1, l2, l3] (t) g r ↔ mm_Rn pg_G d 102 102 [.ref x, l1, l2, l3] (.ref x :: t) g r := rn_aload_n tb_102_101 rfl r
theorem tb_102_102 : mm_tb pg_G 102 102 = some (.getfield 140, 6, 17, 439) := rfl
theorem st_102_102 {d : Nat} {ls t : List Value} {g : mm_M} {r : mm_R} {x : Nat} (hT : g.1 x = some (6, 35)) : mm_Rn pg_G d 102 102 ls (.ref x :: t) g r ↔ mm_Rn pg_G d 102 105 ls (g.2.1 x 17 :: t) g r := rn_getfield tb_102_102 hT r
theorem tb_102_105 : mm_tb pg_G 102 105 = some (.ireturn, 0, 0, 0) := rfl
theorem st_102_105 {d : Nat} {ls : List Value} {g : mm_M} {r : mm_R} {x : Int32} : mm_Rn pg_G d 102 105 ls [.int x] g r ↔ r = (some (.int x), g) := rn_ireturn_iff tb_102_105 (Or.inl rfl) r
theorem tb_103_0 : mm_tb pg_G 103 0 = some (.iconst 0, 0, 0, 0) := rfl
theorem st_103_0 {d : Nat} {ls t : List Value} {g : mm_M} {r : mm_R} : mm_Rn pg_G d 103 0 ls (t) g r ↔ mm_Rn pg_G d 103 1 ls (io_v 0 :: t) g r := rn_iconst tb_103_0 r
theorem tb_103_1 : mm_tb pg_G 103 1 = some (.istore_n 2, 0, 0, 0) := rfl
theorem st_103_1 {l0 l1 l2 l3 : Value} {d : Nat} {t : List Value} {g : mm_M} {r : mm_R} {x : Int32} (hc : mm_c1 l1 = true) : mm_Rn pg_G d 103 1 [l0, l1, l2, l3] (.int x :: t) g r ↔ mm_Rn pg_G d 103 2 [l0, l1, .int x, l3] (t) g r := rn_istore_n tb_103_1 (mm_so_of (ls := [l0, l1, l2, l3]) (v := l1) (Nat.le_of_ble_eq_true rfl) rfl hc) r
theorem tb_103_2 : mm_tb pg_G 103 2 = some (.iconst 0, 0, 0, 0) := rfl
theorem st_103_2 {d : Nat} {ls t : List Value} {g : mm_M} {r : mm_R} : mm_Rn pg_G d 103 2 ls (t) g r ↔ mm_Rn pg_G d 103 3 ls (io_v 0 :: t) g r := rn_iconst tb_103_2 r
theorem tb_103_3 : mm_tb pg_G 103 3 = some (.istore_n 3, 0, 0, 0) := rfl
theorem st_103_3 {l0 l1 l2 l3 : Value} {d : Nat} {t : List Value} {g : mm_M} {r : mm_R} {x : Int32} (hc : mm_c1 l2 = true) : mm_Rn pg_G d 103 3 [l0, l1, l2, l3] (.int x :: t) g r ↔ mm_Rn pg_G d 103 4 [l0, l1, l2, .int x] (t) g r := rn_istore_n tb_103_3 (mm_so_of (ls := [l0, l1, l2, l3]) (v := l2) (Nat.le_of_ble_eq_true rfl) rfl hc) r
theorem tb_103_4 : mm_tb pg_G 103 4 = some (.iload_n 3, 0, 0, 0) := rfl
theorem st_103_4 {l0 l1 l2 : Value} {d : Nat} {t : List Value} {g : mm_M} {r : mm_R} {x : Int32} : mm_Rn pg_G d 103 4 [l0, l1, l2, .int x] (t) g r ↔ mm_Rn pg_G d 103 5 [l0, l1, l2, .int x] (.int x :: t) g r := rn_iload_n tb_103_4 rfl r
theorem tb_103_5 : mm_tb pg_G 103 5 = some (.aload_n 0, 0, 0, 0) := rfl
theorem st_103_5 {l1 l2 l3 : Value} {d : Nat} {t : List Value} {g : mm_M} {r : mm_R} {x : Nat} : mm_Rn pg_G d 103 5 [.ref x, l1, l2, l3] (t) g r ↔ mm_Rn pg_G d 103 6 [.ref x, l1, l2, l3] (.ref x :: t) g r := rn_aload_n tb_103_5 rfl r
theorem tb_103_6 : mm_tb pg_G 103 6 = some (.getfield 71, 6, 0, 422) := rfl
theorem st_103_6 {d : Nat} {ls t : List Value} {g : mm_M} {r : mm_R} {x : Nat} (hT : g.1 x = some (6, 35)) : mm_Rn pg_G d 103 6 ls (.ref x :: t) g r ↔ mm_Rn pg_G d 103 9 ls (g.2.1 x 0 :: t) g r := rn_getfield tb_103_6 hT r
theorem tb_103_9 : mm_tb pg_G 103 9 = some (.if_icmp .ge 31, 40, 0, 0) := rfl
theorem st_103_9 {d : Nat} {ls t : List Value} {g : mm_M} {r : mm_R} {x y : Int32} : mm_Rn pg_G d 103 9 ls (.int y :: .int x :: t) g r ↔ if y ≤ x then mm_Rn pg_G d 103 40 ls (t) g r else mm_Rn pg_G d 103 12 ls (t) g r := rn_icmp_ge tb_103_9 r
theorem tb_103_12 : mm_tb pg_G 103 12 = some (.aload_n 0, 0, 0, 0) := rfl
theorem st_103_12 {l1 l2 l3 : Value} {d : Nat} {t : List Value} {g : mm_M} {r : mm_R} {x : Nat} : mm_Rn pg_G d 103 12 [.ref x, l1, l2, l3] (t) g r ↔ mm_Rn pg_G d 103 13 [.ref x, l1, l2, l3] (.ref x :: t) g r := rn_aload_n tb_103_12 rfl r
theorem tb_103_13 : mm_tb pg_G 103 13 = some (.getfield 34, 6, 18, 440) := rfl
theorem st_103_13 {d : Nat} {ls t : List Value} {g : mm_M} {r : mm_R} {x : Nat} (hT : g.1 x = some (6, 35)) : mm_Rn pg_G d 103 13 ls (.ref x :: t) g r ↔ mm_Rn pg_G d 103 16 ls (g.2.1 x 18 :: t) g r := rn_getfield tb_103_13 hT r
theorem tb_103_16 : mm_tb pg_G 103 16 = some (.iload_n 3, 0, 0, 0) := rfl
theorem st_103_16 {l0 l1 l2 : Value} {d : Nat} {t : List Value} {g : mm_M} {r : mm_R} {x : Int32} : mm_Rn pg_G d 103 16 [l0, l1, l2, .int x] (t) g r ↔ mm_Rn pg_G d 103 17 [l0, l1, l2, .int x] (.int x :: t) g r := rn_iload_n tb_103_16 rfl r
theorem tb_103_17 : mm_tb pg_G 103 17 = some (.iaload, 0, 0, 0) := rfl
theorem st_103_17 {d : Nat} {ls t : List Value} {g : mm_M} {r : mm_R} {x : Nat} {j : Int32} (hc : mm_in (g.1 x) 100 101 j = true) : mm_Rn pg_G d 103 17 ls (.int j :: .ref x :: t) g r ↔ mm_Rn pg_G d 103 18 ls (g.2.1 x j.toNatClampNeg :: t) g r := rn_iaload tb_103_17 hc r
theorem tb_103_18 : mm_tb pg_G 103 18 = some (.iconst 1, 0, 0, 0) := rfl
theorem st_103_18 {d : Nat} {ls t : List Value} {g : mm_M} {r : mm_R} : mm_Rn pg_G d 103 18 ls (t) g r ↔ mm_Rn pg_G d 103 19 ls (io_v 1 :: t) g r := rn_iconst tb_103_18 r
theorem tb_103_19 : mm_tb pg_G 103 19 = some (.if_icmp .ne 15, 34, 0, 0) := rfl
theorem st_103_19 {d : Nat} {ls t : List Value} {g : mm_M} {r : mm_R} {x y : Int32} : mm_Rn pg_G d 103 19 ls (.int y :: .int x :: t) g r ↔ if x = y then mm_Rn pg_G d 103 22 ls (t) g r else mm_Rn pg_G d 103 34 ls (t) g r := rn_icmp_ne tb_103_19 r
theorem tb_103_22 : mm_tb pg_G 103 22 = some (.aload_n 0, 0, 0, 0) := rfl
theorem st_103_22 {l1 l2 l3 : Value} {d : Nat} {t : List Value} {g : mm_M} {r : mm_R} {x : Nat} : mm_Rn pg_G d 103 22 [.ref x, l1, l2, l3] (t) g r ↔ mm_Rn pg_G d 103 23 [.ref x, l1, l2, l3] (.ref x :: t) g r := rn_aload_n tb_103_22 rfl r
theorem tb_103_23 : mm_tb pg_G 103 23 = some (.getfield 43, 6, 21, 443) := rfl
theorem st_103_23 {d : Nat} {ls t : List Value} {g : mm_M} {r : mm_R} {x : Nat} (hT : g.1 x = some (6, 35)) : mm_Rn pg_G d 103 23 ls (.ref x :: t) g r ↔ mm_Rn pg_G d 103 26 ls (g.2.1 x 21 :: t) g r := rn_getfield tb_103_23 hT r
theorem tb_103_26 : mm_tb pg_G 103 26 = some (.iload_n 3, 0, 0, 0) := rfl
theorem st_103_26 {l0 l1 l2 : Value} {d : Nat} {t : List Value} {g : mm_M} {r : mm_R} {x : Int32} : mm_Rn pg_G d 103 26 [l0, l1, l2, .int x] (t) g r ↔ mm_Rn pg_G d 103 27 [l0, l1, l2, .int x] (.int x :: t) g r := rn_iload_n tb_103_26 rfl r
theorem tb_103_27 : mm_tb pg_G 103 27 = some (.iaload, 0, 0, 0) := rfl
theorem st_103_27 {d : Nat} {ls t : List Value} {g : mm_M} {r : mm_R} {x : Nat} {j : Int32} (hc : mm_in (g.1 x) 100 101 j = true) : mm_Rn pg_G d 103 27 ls (.int j :: .ref x :: t) g r ↔ mm_Rn pg_G d 103 28 ls (g.2.1 x j.toNatClampNeg :: t) g r := rn_iaload tb_103_27 hc r
theorem tb_103_28 : mm_tb pg_G 103 28 = some (.ifCond .le 6, 34, 0, 0) := rfl
theorem st_103_28 {d : Nat} {ls t : List Value} {g : mm_M} {r : mm_R} {x : Int32} : mm_Rn pg_G d 103 28 ls (.int x :: t) g r ↔ if x ≤ 0 then mm_Rn pg_G d 103 34 ls (t) g r else mm_Rn pg_G d 103 31 ls (t) g r := rn_if_le tb_103_28 r
theorem tb_103_31 : mm_tb pg_G 103 31 = some (.iinc 2 1, 0, 0, 0) := rfl
theorem st_103_31 {l0 l1 l3 : Value} {d : Nat} {t : List Value} {g : mm_M} {r : mm_R} {x : Int32} (hc : mm_c1 l1 = true) : mm_Rn pg_G d 103 31 [l0, l1, .int x, l3] (t) g r ↔ mm_Rn pg_G d 103 34 [l0, l1, .int (x + Int32.ofInt 1), l3] (t) g r := rn_iinc tb_103_31 rfl (mm_so_of (ls := [l0, l1, .int x, l3]) (v := l1) (Nat.le_of_ble_eq_true rfl) rfl hc) r
theorem tb_103_34 : mm_tb pg_G 103 34 = some (.iinc 3 1, 0, 0, 0) := rfl
theorem st_103_34 {l0 l1 l2 : Value} {d : Nat} {t : List Value} {g : mm_M} {r : mm_R} {x : Int32} (hc : mm_c1 l2 = true) : mm_Rn pg_G d 103 34 [l0, l1, l2, .int x] (t) g r ↔ mm_Rn pg_G d 103 37 [l0, l1, l2, .int (x + Int32.ofInt 1)] (t) g r := rn_iinc tb_103_34 rfl (mm_so_of (ls := [l0, l1, l2, .int x]) (v := l2) (Nat.le_of_ble_eq_true rfl) rfl hc) r
theorem tb_103_37 : mm_tb pg_G 103 37 = some (.goto (-33), 4, 0, 0) := rfl
theorem st_103_37 {d : Nat} {ls t : List Value} {g : mm_M} {r : mm_R} : mm_Rn pg_G d 103 37 ls (t) g r ↔ mm_Rn pg_G d 103 4 ls (t) g r := rn_goto tb_103_37 r
theorem tb_103_40 : mm_tb pg_G 103 40 = some (.iload_n 1, 0, 0, 0) := rfl
theorem st_103_40 {l0 l2 l3 : Value} {d : Nat} {t : List Value} {g : mm_M} {r : mm_R} {x : Int32} : mm_Rn pg_G d 103 40 [l0, .int x, l2, l3] (t) g r ↔ mm_Rn pg_G d 103 41 [l0, .int x, l2, l3] (.int x :: t) g r := rn_iload_n tb_103_40 rfl r
theorem tb_103_41 : mm_tb pg_G 103 41 = some (.ifCond .ne 10, 51, 0, 0) := rfl
theorem st_103_41 {d : Nat} {ls t : List Value} {g : mm_M} {r : mm_R} {x : Int32} : mm_Rn pg_G d 103 41 ls (.int x :: t) g r ↔ if x = 0 then mm_Rn pg_G d 103 44 ls (t) g r else mm_Rn pg_G d 103 51 ls (t) g r := rn_if_ne tb_103_41 r
theorem tb_103_44 : mm_tb pg_G 103 44 = some (.aload_n 0, 0, 0, 0) := rfl
theorem st_103_44 {l1 l2 l3 : Value} {d : Nat} {t : List Value} {g : mm_M} {r : mm_R} {x : Nat} : mm_Rn pg_G d 103 44 [.ref x, l1, l2, l3] (t) g r ↔ mm_Rn pg_G d 103 45 [.ref x, l1, l2, l3] (.ref x :: t) g r := rn_aload_n tb_103_44 rfl r
theorem tb_103_45 : mm_tb pg_G 103 45 = some (.getfield 168, 6, 31, 453) := rfl
theorem st_103_45 {d : Nat} {ls t : List Value} {g : mm_M} {r : mm_R} {x : Nat} (hT : g.1 x = some (6, 35)) : mm_Rn pg_G d 103 45 ls (.ref x :: t) g r ↔ mm_Rn pg_G d 103 48 ls (g.2.1 x 31 :: t) g r := rn_getfield tb_103_45 hT r
theorem tb_103_48 : mm_tb pg_G 103 48 = some (.goto 37, 85, 0, 0) := rfl
theorem st_103_48 {d : Nat} {ls t : List Value} {g : mm_M} {r : mm_R} : mm_Rn pg_G d 103 48 ls (t) g r ↔ mm_Rn pg_G d 103 85 ls (t) g r := rn_goto tb_103_48 r
theorem tb_103_51 : mm_tb pg_G 103 51 = some (.iload_n 1, 0, 0, 0) := rfl
theorem st_103_51 {l0 l2 l3 : Value} {d : Nat} {t : List Value} {g : mm_M} {r : mm_R} {x : Int32} : mm_Rn pg_G d 103 51 [l0, .int x, l2, l3] (t) g r ↔ mm_Rn pg_G d 103 52 [l0, .int x, l2, l3] (.int x :: t) g r := rn_iload_n tb_103_51 rfl r
theorem tb_103_52 : mm_tb pg_G 103 52 = some (.iconst 1, 0, 0, 0) := rfl
theorem st_103_52 {d : Nat} {ls t : List Value} {g : mm_M} {r : mm_R} : mm_Rn pg_G d 103 52 ls (t) g r ↔ mm_Rn pg_G d 103 53 ls (io_v 1 :: t) g r := rn_iconst tb_103_52 r
theorem tb_103_53 : mm_tb pg_G 103 53 = some (.if_icmp .ne 10, 63, 0, 0) := rfl
theorem st_103_53 {d : Nat} {ls t : List Value} {g : mm_M} {r : mm_R} {x y : Int32} : mm_Rn pg_G d 103 53 ls (.int y :: .int x :: t) g r ↔ if x = y then mm_Rn pg_G d 103 56 ls (t) g r else mm_Rn pg_G d 103 63 ls (t) g r := rn_icmp_ne tb_103_53 r
theorem tb_103_56 : mm_tb pg_G 103 56 = some (.aload_n 0, 0, 0, 0) := rfl
theorem st_103_56 {l1 l2 l3 : Value} {d : Nat} {t : List Value} {g : mm_M} {r : mm_R} {x : Nat} : mm_Rn pg_G d 103 56 [.ref x, l1, l2, l3] (t) g r ↔ mm_Rn pg_G d 103 57 [.ref x, l1, l2, l3] (.ref x :: t) g r := rn_aload_n tb_103_56 rfl r
theorem tb_103_57 : mm_tb pg_G 103 57 = some (.getfield 174, 6, 32, 454) := rfl
theorem st_103_57 {d : Nat} {ls t : List Value} {g : mm_M} {r : mm_R} {x : Nat} (hT : g.1 x = some (6, 35)) : mm_Rn pg_G d 103 57 ls (.ref x :: t) g r ↔ mm_Rn pg_G d 103 60 ls (g.2.1 x 32 :: t) g r := rn_getfield tb_103_57 hT r
theorem tb_103_60 : mm_tb pg_G 103 60 = some (.goto 25, 85, 0, 0) := rfl
theorem st_103_60 {d : Nat} {ls t : List Value} {g : mm_M} {r : mm_R} : mm_Rn pg_G d 103 60 ls (t) g r ↔ mm_Rn pg_G d 103 85 ls (t) g r := rn_goto tb_103_60 r
theorem tb_103_63 : mm_tb pg_G 103 63 = some (.iload_n 1, 0, 0, 0) := rfl
theorem st_103_63 {l0 l2 l3 : Value} {d : Nat} {t : List Value} {g : mm_M} {r : mm_R} {x : Int32} : mm_Rn pg_G d 103 63 [l0, .int x, l2, l3] (t) g r ↔ mm_Rn pg_G d 103 64 [l0, .int x, l2, l3] (.int x :: t) g r := rn_iload_n tb_103_63 rfl r
theorem tb_103_64 : mm_tb pg_G 103 64 = some (.iconst 2, 0, 0, 0) := rfl
theorem st_103_64 {d : Nat} {ls t : List Value} {g : mm_M} {r : mm_R} : mm_Rn pg_G d 103 64 ls (t) g r ↔ mm_Rn pg_G d 103 65 ls (io_v 2 :: t) g r := rn_iconst tb_103_64 r
theorem tb_103_65 : mm_tb pg_G 103 65 = some (.if_icmp .ne 10, 75, 0, 0) := rfl
theorem st_103_65 {d : Nat} {ls t : List Value} {g : mm_M} {r : mm_R} {x y : Int32} : mm_Rn pg_G d 103 65 ls (.int y :: .int x :: t) g r ↔ if x = y then mm_Rn pg_G d 103 68 ls (t) g r else mm_Rn pg_G d 103 75 ls (t) g r := rn_icmp_ne tb_103_65 r
theorem tb_103_68 : mm_tb pg_G 103 68 = some (.aload_n 0, 0, 0, 0) := rfl
theorem st_103_68 {l1 l2 l3 : Value} {d : Nat} {t : List Value} {g : mm_M} {r : mm_R} {x : Nat} : mm_Rn pg_G d 103 68 [.ref x, l1, l2, l3] (t) g r ↔ mm_Rn pg_G d 103 69 [.ref x, l1, l2, l3] (.ref x :: t) g r := rn_aload_n tb_103_68 rfl r
theorem tb_103_69 : mm_tb pg_G 103 69 = some (.getfield 156, 6, 30, 452) := rfl
theorem st_103_69 {d : Nat} {ls t : List Value} {g : mm_M} {r : mm_R} {x : Nat} (hT : g.1 x = some (6, 35)) : mm_Rn pg_G d 103 69 ls (.ref x :: t) g r ↔ mm_Rn pg_G d 103 72 ls (g.2.1 x 30 :: t) g r := rn_getfield tb_103_69 hT r
theorem tb_103_72 : mm_tb pg_G 103 72 = some (.goto 13, 85, 0, 0) := rfl
theorem st_103_72 {d : Nat} {ls t : List Value} {g : mm_M} {r : mm_R} : mm_Rn pg_G d 103 72 ls (t) g r ↔ mm_Rn pg_G d 103 85 ls (t) g r := rn_goto tb_103_72 r
theorem tb_103_75 : mm_tb pg_G 103 75 = some (.iload_n 1, 0, 0, 0) := rfl
theorem st_103_75 {l0 l2 l3 : Value} {d : Nat} {t : List Value} {g : mm_M} {r : mm_R} {x : Int32} : mm_Rn pg_G d 103 75 [l0, .int x, l2, l3] (t) g r ↔ mm_Rn pg_G d 103 76 [l0, .int x, l2, l3] (.int x :: t) g r := rn_iload_n tb_103_75 rfl r
theorem tb_103_76 : mm_tb pg_G 103 76 = some (.iconst 3, 0, 0, 0) := rfl
theorem st_103_76 {d : Nat} {ls t : List Value} {g : mm_M} {r : mm_R} : mm_Rn pg_G d 103 76 ls (t) g r ↔ mm_Rn pg_G d 103 77 ls (io_v 3 :: t) g r := rn_iconst tb_103_76 r
theorem tb_103_77 : mm_tb pg_G 103 77 = some (.if_icmp .ne 7, 84, 0, 0) := rfl
theorem st_103_77 {d : Nat} {ls t : List Value} {g : mm_M} {r : mm_R} {x y : Int32} : mm_Rn pg_G d 103 77 ls (.int y :: .int x :: t) g r ↔ if x = y then mm_Rn pg_G d 103 80 ls (t) g r else mm_Rn pg_G d 103 84 ls (t) g r := rn_icmp_ne tb_103_77 r
theorem tb_103_80 : mm_tb pg_G 103 80 = some (.iload_n 2, 0, 0, 0) := rfl
theorem st_103_80 {l0 l1 l3 : Value} {d : Nat} {t : List Value} {g : mm_M} {r : mm_R} {x : Int32} : mm_Rn pg_G d 103 80 [l0, l1, .int x, l3] (t) g r ↔ mm_Rn pg_G d 103 81 [l0, l1, .int x, l3] (.int x :: t) g r := rn_iload_n tb_103_80 rfl r
theorem tb_103_81 : mm_tb pg_G 103 81 = some (.goto 4, 85, 0, 0) := rfl
theorem st_103_81 {d : Nat} {ls t : List Value} {g : mm_M} {r : mm_R} : mm_Rn pg_G d 103 81 ls (t) g r ↔ mm_Rn pg_G d 103 85 ls (t) g r := rn_goto tb_103_81 r
theorem tb_103_84 : mm_tb pg_G 103 84 = some (.iconst (-1), 0, 0, 0) := rfl
theorem st_103_84 {d : Nat} {ls t : List Value} {g : mm_M} {r : mm_R} : mm_Rn pg_G d 103 84 ls (t) g r ↔ mm_Rn pg_G d 103 85 ls (io_v (-1) :: t) g r := rn_iconst tb_103_84 r
theorem tb_103_85 : mm_tb pg_G 103 85 = some (.ireturn, 0, 0, 0) := rfl
theorem st_103_85 {d : Nat} {ls : List Value} {g : mm_M} {r : mm_R} {x : Int32} : mm_Rn pg_G d 103 85 ls [.int x] g r ↔ r = (some (.int x), g) := rn_ireturn_iff tb_103_85 (Or.inl rfl) r
