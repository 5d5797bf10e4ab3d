/-! a row an instruction of the program -/
theorem tb_78_0 : mm_tb pg_G 78 0 = some (.aload_n 0, 0, 0, 0) := rfl
theorem st_78_0 {l1 l2 l3 l4 l5 l6 : Value} {d : Nat} {t : List Value} {g : mm_M} {r : mm_R} {x : Nat} : mm_Rn pg_G d 78 0 [.ref x, l1, l2, l3, l4, l5, l6] (t) g r ↔ mm_Rn pg_G d 78 1 [.ref x, l1, l2, l3, l4, l5, l6] (.ref x :: t) g r := rn_aload_n tb_78_0 rfl r
theorem tb_78_1 : mm_tb pg_G 78 1 = some (.getfield 83, 6, 10, 432) := rfl
theorem st_78_1 {d : Nat} {ls t : List Value} {g : mm_M} {r : mm_R} {x : Nat} (hT : g.1 x = some (6, 35)) : mm_Rn pg_G d 78 1 ls (.ref x :: t) g r ↔ mm_Rn pg_G d 78 4 ls (g.2.1 x 10 :: t) g r := rn_getfield tb_78_1 hT r
theorem tb_78_4 : mm_tb pg_G 78 4 = some (.ifCond .le 11, 15, 0, 0) := rfl
theorem st_78_4 {d : Nat} {ls t : List Value} {g : mm_M} {r : mm_R} {x : Int32} : mm_Rn pg_G d 78 4 ls (.int x :: t) g r ↔ if x ≤ 0 then mm_Rn pg_G d 78 15 ls (t) g r else mm_Rn pg_G d 78 7 ls (t) g r := rn_if_le tb_78_4 r
theorem tb_78_7 : mm_tb pg_G 78 7 = some (.aload_n 0, 0, 0, 0) := rfl
theorem st_78_7 {l1 l2 l3 l4 l5 l6 : Value} {d : Nat} {t : List Value} {g : mm_M} {r : mm_R} {x : Nat} : mm_Rn pg_G d 78 7 [.ref x, l1, l2, l3, l4, l5, l6] (t) g r ↔ mm_Rn pg_G d 78 8 [.ref x, l1, l2, l3, l4, l5, l6] (.ref x :: t) g r := rn_aload_n tb_78_7 rfl r
theorem tb_78_8 : mm_tb pg_G 78 8 = some (.getfield 86, 6, 11, 433) := rfl
theorem st_78_8 {d : Nat} {ls t : List Value} {g : mm_M} {r : mm_R} {x : Nat} (hT : g.1 x = some (6, 35)) : mm_Rn pg_G d 78 8 ls (.ref x :: t) g r ↔ mm_Rn pg_G d 78 11 ls (g.2.1 x 11 :: t) g r := rn_getfield tb_78_8 hT r
theorem tb_78_11 : mm_tb pg_G 78 11 = some (.i2l, 0, 0, 0) := rfl
theorem st_78_11 {d : Nat} {ls t : List Value} {g : mm_M} {r : mm_R} {x : Int32} : mm_Rn pg_G d 78 11 ls (.int x :: t) g r ↔ mm_Rn pg_G d 78 12 ls (.long x.toInt64 :: t) g r := rn_i2l tb_78_11 r
theorem tb_78_12 : mm_tb pg_G 78 12 = some (.goto 4, 16, 0, 0) := rfl
theorem st_78_12 {d : Nat} {ls t : List Value} {g : mm_M} {r : mm_R} : mm_Rn pg_G d 78 12 ls (t) g r ↔ mm_Rn pg_G d 78 16 ls (t) g r := rn_goto tb_78_12 r
theorem tb_78_15 : mm_tb pg_G 78 15 = some (.lconst 1, 0, 0, 0) := rfl
theorem st_78_15 {d : Nat} {ls t : List Value} {g : mm_M} {r : mm_R} : mm_Rn pg_G d 78 15 ls (t) g r ↔ mm_Rn pg_G d 78 16 ls (.long (Int64.ofInt 1) :: t) g r := rn_lconst tb_78_15 r
theorem tb_78_16 : mm_tb pg_G 78 16 = some (.lstore_n 2, 0, 0, 0) := rfl
theorem st_78_16 {l0 l1 l2 l3 l4 l5 l6 : Value} {d : Nat} {t : List Value} {g : mm_M} {r : mm_R} {x : Int64} (hc : mm_c1 l1 = true) : mm_Rn pg_G d 78 16 [l0, l1, l2, l3, l4, l5, l6] (.long x :: t) g r ↔ mm_Rn pg_G d 78 17 [l0, l1, .long x, .retAddr 0, l4, l5, l6] (t) g r := rn_lstore_n tb_78_16 (mm_so_of (ls := [l0, l1, l2, l3, l4, l5, l6]) (v := l1) (Nat.le_of_ble_eq_true rfl) rfl hc) r
theorem tb_78_17 : mm_tb pg_G 78 17 = some (.iconst 0, 0, 0, 0) := rfl
theorem st_78_17 {d : Nat} {ls t : List Value} {g : mm_M} {r : mm_R} : mm_Rn pg_G d 78 17 ls (t) g r ↔ mm_Rn pg_G d 78 18 ls (io_v 0 :: t) g r := rn_iconst tb_78_17 r
theorem tb_78_18 : mm_tb pg_G 78 18 = some (.istore 4, 0, 0, 0) := rfl
theorem st_78_18 {l0 l1 l2 l3 l4 l5 l6 : Value} {d : Nat} {t : List Value} {g : mm_M} {r : mm_R} {x : Int32} (hc : mm_c1 l3 = true) : mm_Rn pg_G d 78 18 [l0, l1, l2, l3, l4, l5, l6] (.int x :: t) g r ↔ mm_Rn pg_G d 78 20 [l0, l1, l2, l3, .int x, l5, l6] (t) g r := rn_istore tb_78_18 (mm_so_of (ls := [l0, l1, l2, l3, l4, l5, l6]) (v := l3) (Nat.le_of_ble_eq_true rfl) rfl hc) r
theorem tb_78_20 : mm_tb pg_G 78 20 = some (.iload 4, 0, 0, 0) := rfl
theorem st_78_20 {l0 l1 l2 l3 l5 l6 : Value} {d : Nat} {t : List Value} {g : mm_M} {r : mm_R} {x : Int32} : mm_Rn pg_G d 78 20 [l0, l1, l2, l3, .int x, l5, l6] (t) g r ↔ mm_Rn pg_G d 78 22 [l0, l1, l2, l3, .int x, l5, l6] (.int x :: t) g r := rn_iload tb_78_20 rfl r
theorem tb_78_22 : mm_tb pg_G 78 22 = some (.aload_n 0, 0, 0, 0) := rfl
theorem st_78_22 {l1 l2 l3 l4 l5 l6 : Value} {d : Nat} {t : List Value} {g : mm_M} {r : mm_R} {x : Nat} : mm_Rn pg_G d 78 22 [.ref x, l1, l2, l3, l4, l5, l6] (t) g r ↔ mm_Rn pg_G d 78 23 [.ref x, l1, l2, l3, l4, l5, l6] (.ref x :: t) g r := rn_aload_n tb_78_22 rfl r
theorem tb_78_23 : mm_tb pg_G 78 23 = some (.getfield 71, 6, 0, 422) := rfl
theorem st_78_23 {d : Nat} {ls t : List Value} {g : mm_M} {r : mm_R} {x : Nat} (hT : g.1 x = some (6, 35)) : mm_Rn pg_G d 78 23 ls (.ref x :: t) g r ↔ mm_Rn pg_G d 78 26 ls (g.2.1 x 0 :: t) g r := rn_getfield tb_78_23 hT r
theorem tb_78_26 : mm_tb pg_G 78 26 = some (.if_icmp .ge 36, 62, 0, 0) := rfl
theorem st_78_26 {d : Nat} {ls t : List Value} {g : mm_M} {r : mm_R} {x y : Int32} : mm_Rn pg_G d 78 26 ls (.int y :: .int x :: t) g r ↔ if y ≤ x then mm_Rn pg_G d 78 62 ls (t) g r else mm_Rn pg_G d 78 29 ls (t) g r := rn_icmp_ge tb_78_26 r
theorem tb_78_29 : mm_tb pg_G 78 29 = some (.aload_n 0, 0, 0, 0) := rfl
theorem st_78_29 {l1 l2 l3 l4 l5 l6 : Value} {d : Nat} {t : List Value} {g : mm_M} {r : mm_R} {x : Nat} : mm_Rn pg_G d 78 29 [.ref x, l1, l2, l3, l4, l5, l6] (t) g r ↔ mm_Rn pg_G d 78 30 [.ref x, l1, l2, l3, l4, l5, l6] (.ref x :: t) g r := rn_aload_n tb_78_29 rfl r
theorem tb_78_30 : mm_tb pg_G 78 30 = some (.getfield 13, 6, 2, 424) := rfl
theorem st_78_30 {d : Nat} {ls t : List Value} {g : mm_M} {r : mm_R} {x : Nat} (hT : g.1 x = some (6, 35)) : mm_Rn pg_G d 78 30 ls (.ref x :: t) g r ↔ mm_Rn pg_G d 78 33 ls (g.2.1 x 2 :: t) g r := rn_getfield tb_78_30 hT r
theorem tb_78_33 : mm_tb pg_G 78 33 = some (.iload 4, 0, 0, 0) := rfl
theorem st_78_33 {l0 l1 l2 l3 l5 l6 : Value} {d : Nat} {t : List Value} {g : mm_M} {r : mm_R} {x : Int32} : mm_Rn pg_G d 78 33 [l0, l1, l2, l3, .int x, l5, l6] (t) g r ↔ mm_Rn pg_G d 78 35 [l0, l1, l2, l3, .int x, l5, l6] (.int x :: t) g r := rn_iload tb_78_33 rfl r
theorem tb_78_35 : mm_tb pg_G 78 35 = some (.iaload, 0, 0, 0) := rfl
theorem st_78_35 {d : Nat} {ls t : List Value} {g : mm_M} {r : mm_R} {x : Nat} {j : Int32} (hc : mm_in (g.1 x) 100 101 j = true) : mm_Rn pg_G d 78 35 ls (.int j :: .ref x :: t) g r ↔ mm_Rn pg_G d 78 36 ls (g.2.1 x j.toNatClampNeg :: t) g r := rn_iaload tb_78_35 hc r
theorem tb_78_36 : mm_tb pg_G 78 36 = some (.aload_n 0, 0, 0, 0) := rfl
theorem st_78_36 {l1 l2 l3 l4 l5 l6 : Value} {d : Nat} {t : List Value} {g : mm_M} {r : mm_R} {x : Nat} : mm_Rn pg_G d 78 36 [.ref x, l1, l2, l3, l4, l5, l6] (t) g r ↔ mm_Rn pg_G d 78 37 [.ref x, l1, l2, l3, l4, l5, l6] (.ref x :: t) g r := rn_aload_n tb_78_36 rfl r
theorem tb_78_37 : mm_tb pg_G 78 37 = some (.getfield 13, 6, 2, 424) := rfl
theorem st_78_37 {d : Nat} {ls t : List Value} {g : mm_M} {r : mm_R} {x : Nat} (hT : g.1 x = some (6, 35)) : mm_Rn pg_G d 78 37 ls (.ref x :: t) g r ↔ mm_Rn pg_G d 78 40 ls (g.2.1 x 2 :: t) g r := rn_getfield tb_78_37 hT r
theorem tb_78_40 : mm_tb pg_G 78 40 = some (.iload_n 1, 0, 0, 0) := rfl
theorem st_78_40 {l0 l2 l3 l4 l5 l6 : Value} {d : Nat} {t : List Value} {g : mm_M} {r : mm_R} {x : Int32} : mm_Rn pg_G d 78 40 [l0, .int x, l2, l3, l4, l5, l6] (t) g r ↔ mm_Rn pg_G d 78 41 [l0, .int x, l2, l3, l4, l5, l6] (.int x :: t) g r := rn_iload_n tb_78_40 rfl r
theorem tb_78_41 : mm_tb pg_G 78 41 = some (.iaload, 0, 0, 0) := rfl
theorem st_78_41 {d : Nat} {ls t : List Value} {g : mm_M} {r : mm_R} {x : Nat} {j : Int32} (hc : mm_in (g.1 x) 100 101 j = true) : mm_Rn pg_G d 78 41 ls (.int j :: .ref x :: t) g r ↔ mm_Rn pg_G d 78 42 ls (g.2.1 x j.toNatClampNeg :: t) g r := rn_iaload tb_78_41 hc r
theorem tb_78_42 : mm_tb pg_G 78 42 = some (.if_icmp .gt 14, 56, 0, 0) := rfl
theorem st_78_42 {d : Nat} {ls t : List Value} {g : mm_M} {r : mm_R} {x y : Int32} : mm_Rn pg_G d 78 42 ls (.int y :: .int x :: t) g r ↔ if y < x then mm_Rn pg_G d 78 56 ls (t) g r else mm_Rn pg_G d 78 45 ls (t) g r := rn_icmp_gt tb_78_42 r
theorem tb_78_45 : mm_tb pg_G 78 45 = some (.lload_n 2, 0, 0, 0) := rfl
theorem st_78_45 {l0 l1 l3 l4 l5 l6 : Value} {d : Nat} {t : List Value} {g : mm_M} {r : mm_R} {x : Int64} : mm_Rn pg_G d 78 45 [l0, l1, .long x, l3, l4, l5, l6] (t) g r ↔ mm_Rn pg_G d 78 46 [l0, l1, .long x, l3, l4, l5, l6] (.long x :: t) g r := rn_lload_n tb_78_45 rfl r
theorem tb_78_46 : mm_tb pg_G 78 46 = some (.aload_n 0, 0, 0, 0) := rfl
theorem st_78_46 {l1 l2 l3 l4 l5 l6 : Value} {d : Nat} {t : List Value} {g : mm_M} {r : mm_R} {x : Nat} : mm_Rn pg_G d 78 46 [.ref x, l1, l2, l3, l4, l5, l6] (t) g r ↔ mm_Rn pg_G d 78 47 [.ref x, l1, l2, l3, l4, l5, l6] (.ref x :: t) g r := rn_aload_n tb_78_46 rfl r
theorem tb_78_47 : mm_tb pg_G 78 47 = some (.getfield 13, 6, 2, 424) := rfl
theorem st_78_47 {d : Nat} {ls t : List Value} {g : mm_M} {r : mm_R} {x : Nat} (hT : g.1 x = some (6, 35)) : mm_Rn pg_G d 78 47 ls (.ref x :: t) g r ↔ mm_Rn pg_G d 78 50 ls (g.2.1 x 2 :: t) g r := rn_getfield tb_78_47 hT r
theorem tb_78_50 : mm_tb pg_G 78 50 = some (.iload 4, 0, 0, 0) := rfl
theorem st_78_50 {l0 l1 l2 l3 l5 l6 : Value} {d : Nat} {t : List Value} {g : mm_M} {r : mm_R} {x : Int32} : mm_Rn pg_G d 78 50 [l0, l1, l2, l3, .int x, l5, l6] (t) g r ↔ mm_Rn pg_G d 78 52 [l0, l1, l2, l3, .int x, l5, l6] (.int x :: t) g r := rn_iload tb_78_50 rfl r
theorem tb_78_52 : mm_tb pg_G 78 52 = some (.iaload, 0, 0, 0) := rfl
theorem st_78_52 {d : Nat} {ls t : List Value} {g : mm_M} {r : mm_R} {x : Nat} {j : Int32} (hc : mm_in (g.1 x) 100 101 j = true) : mm_Rn pg_G d 78 52 ls (.int j :: .ref x :: t) g r ↔ mm_Rn pg_G d 78 53 ls (g.2.1 x j.toNatClampNeg :: t) g r := rn_iaload tb_78_52 hc r
theorem tb_78_53 : mm_tb pg_G 78 53 = some (.i2l, 0, 0, 0) := rfl
theorem st_78_53 {d : Nat} {ls t : List Value} {g : mm_M} {r : mm_R} {x : Int32} : mm_Rn pg_G d 78 53 ls (.int x :: t) g r ↔ mm_Rn pg_G d 78 54 ls (.long x.toInt64 :: t) g r := rn_i2l tb_78_53 r
theorem tb_78_54 : mm_tb pg_G 78 54 = some (.lmul, 0, 0, 0) := rfl
theorem st_78_54 {d : Nat} {ls t : List Value} {g : mm_M} {r : mm_R} {x y : Int64} : mm_Rn pg_G d 78 54 ls (.long y :: .long x :: t) g r ↔ mm_Rn pg_G d 78 55 ls (.long (x * y) :: t) g r := rn_lmul tb_78_54 r
theorem tb_78_55 : mm_tb pg_G 78 55 = some (.lstore_n 2, 0, 0, 0) := rfl
theorem st_78_55 {l0 l1 l2 l3 l4 l5 l6 : Value} {d : Nat} {t : List Value} {g : mm_M} {r : mm_R} {x : Int64} (hc : mm_c1 l1 = true) : mm_Rn pg_G d 78 55 [l0, l1, l2, l3, l4, l5, l6] (.long x :: t) g r ↔ mm_Rn pg_G d 78 56 [l0, l1, .long x, .retAddr 0, l4, l5, l6] (t) g r := rn_lstore_n tb_78_55 (mm_so_of (ls := [l0, l1, l2, l3, l4, l5, l6]) (v := l1) (Nat.le_of_ble_eq_true rfl) rfl hc) r
theorem tb_78_56 : mm_tb pg_G 78 56 = some (.iinc 4 1, 0, 0, 0) := rfl
theorem st_78_56 {l0 l1 l2 l3 l5 l6 : Value} {d : Nat} {t : List Value} {g : mm_M} {r : mm_R} {x : Int32} (hc : mm_c1 l3 = true) : mm_Rn pg_G d 78 56 [l0, l1, l2, l3, .int x, l5, l6] (t) g r ↔ mm_Rn pg_G d 78 59 [l0, l1, l2, l3, .int (x + Int32.ofInt 1), l5, l6] (t) g r := rn_iinc tb_78_56 rfl (mm_so_of (ls := [l0, l1, l2, l3, .int x, l5, l6]) (v := l3) (Nat.le_of_ble_eq_true rfl) rfl hc) r
theorem tb_78_59 : mm_tb pg_G 78 59 = some (.goto (-39), 20, 0, 0) := rfl
theorem st_78_59 {d : Nat} {ls t : List Value} {g : mm_M} {r : mm_R} : mm_Rn pg_G d 78 59 ls (t) g r ↔ mm_Rn pg_G d 78 20 ls (t) g r := rn_goto tb_78_59 r
theorem tb_78_62 : mm_tb pg_G 78 62 = some (.aload_n 0, 0, 0, 0) := rfl
theorem st_78_62 {l1 l2 l3 l4 l5 l6 : Value} {d : Nat} {t : List Value} {g : mm_M} {r : mm_R} {x : Nat} : mm_Rn pg_G d 78 62 [.ref x, l1, l2, l3, l4, l5, l6] (t) g r ↔ mm_Rn pg_G d 78 63 [.ref x, l1, l2, l3, l4, l5, l6] (.ref x :: t) g r := rn_aload_n tb_78_62 rfl r
theorem tb_78_63 : mm_tb pg_G 78 63 = some (.getfield 83, 6, 10, 432) := rfl
theorem st_78_63 {d : Nat} {ls t : List Value} {g : mm_M} {r : mm_R} {x : Nat} (hT : g.1 x = some (6, 35)) : mm_Rn pg_G d 78 63 ls (.ref x :: t) g r ↔ mm_Rn pg_G d 78 66 ls (g.2.1 x 10 :: t) g r := rn_getfield tb_78_63 hT r
theorem tb_78_66 : mm_tb pg_G 78 66 = some (.ifCond .le 19, 85, 0, 0) := rfl
theorem st_78_66 {d : Nat} {ls t : List Value} {g : mm_M} {r : mm_R} {x : Int32} : mm_Rn pg_G d 78 66 ls (.int x :: t) g r ↔ if x ≤ 0 then mm_Rn pg_G d 78 85 ls (t) g r else mm_Rn pg_G d 78 69 ls (t) g r := rn_if_le tb_78_66 r
theorem tb_78_69 : mm_tb pg_G 78 69 = some (.lload_n 2, 0, 0, 0) := rfl
theorem st_78_69 {l0 l1 l3 l4 l5 l6 : Value} {d : Nat} {t : List Value} {g : mm_M} {r : mm_R} {x : Int64} : mm_Rn pg_G d 78 69 [l0, l1, .long x, l3, l4, l5, l6] (t) g r ↔ mm_Rn pg_G d 78 70 [l0, l1, .long x, l3, l4, l5, l6] (.long x :: t) g r := rn_lload_n tb_78_69 rfl r
theorem tb_78_70 : mm_tb pg_G 78 70 = some (.aload_n 0, 0, 0, 0) := rfl
theorem st_78_70 {l1 l2 l3 l4 l5 l6 : Value} {d : Nat} {t : List Value} {g : mm_M} {r : mm_R} {x : Nat} : mm_Rn pg_G d 78 70 [.ref x, l1, l2, l3, l4, l5, l6] (t) g r ↔ mm_Rn pg_G d 78 71 [.ref x, l1, l2, l3, l4, l5, l6] (.ref x :: t) g r := rn_aload_n tb_78_70 rfl r
theorem tb_78_71 : mm_tb pg_G 78 71 = some (.getfield 86, 6, 11, 433) := rfl
theorem st_78_71 {d : Nat} {ls t : List Value} {g : mm_M} {r : mm_R} {x : Nat} (hT : g.1 x = some (6, 35)) : mm_Rn pg_G d 78 71 ls (.ref x :: t) g r ↔ mm_Rn pg_G d 78 74 ls (g.2.1 x 11 :: t) g r := rn_getfield tb_78_71 hT r
theorem tb_78_74 : mm_tb pg_G 78 74 = some (.i2l, 0, 0, 0) := rfl
theorem st_78_74 {d : Nat} {ls t : List Value} {g : mm_M} {r : mm_R} {x : Int32} : mm_Rn pg_G d 78 74 ls (.int x :: t) g r ↔ mm_Rn pg_G d 78 75 ls (.long x.toInt64 :: t) g r := rn_i2l tb_78_74 r
theorem tb_78_75 : mm_tb pg_G 78 75 = some (.ldiv, 0, 0, 0) := rfl
theorem st_78_75 {d : Nat} {ls t : List Value} {g : mm_M} {r : mm_R} {x y : Int64} (hc : ¬ y = 0) : mm_Rn pg_G d 78 75 ls (.long y :: .long x :: t) g r ↔ mm_Rn pg_G d 78 76 ls (.long (x / y) :: t) g r := rn_ldiv tb_78_75 hc r
theorem tb_78_76 : mm_tb pg_G 78 76 = some (.aload_n 0, 0, 0, 0) := rfl
theorem st_78_76 {l1 l2 l3 l4 l5 l6 : Value} {d : Nat} {t : List Value} {g : mm_M} {r : mm_R} {x : Nat} : mm_Rn pg_G d 78 76 [.ref x, l1, l2, l3, l4, l5, l6] (t) g r ↔ mm_Rn pg_G d 78 77 [.ref x, l1, l2, l3, l4, l5, l6] (.ref x :: t) g r := rn_aload_n tb_78_76 rfl r
theorem tb_78_77 : mm_tb pg_G 78 77 = some (.getfield 83, 6, 10, 432) := rfl
theorem st_78_77 {d : Nat} {ls t : List Value} {g : mm_M} {r : mm_R} {x : Nat} (hT : g.1 x = some (6, 35)) : mm_Rn pg_G d 78 77 ls (.ref x :: t) g r ↔ mm_Rn pg_G d 78 80 ls (g.2.1 x 10 :: t) g r := rn_getfield tb_78_77 hT r
theorem tb_78_80 : mm_tb pg_G 78 80 = some (.i2l, 0, 0, 0) := rfl
theorem st_78_80 {d : Nat} {ls t : List Value} {g : mm_M} {r : mm_R} {x : Int32} : mm_Rn pg_G d 78 80 ls (.int x :: t) g r ↔ mm_Rn pg_G d 78 81 ls (.long x.toInt64 :: t) g r := rn_i2l tb_78_80 r
theorem tb_78_81 : mm_tb pg_G 78 81 = some (.lmul, 0, 0, 0) := rfl
theorem st_78_81 {d : Nat} {ls t : List Value} {g : mm_M} {r : mm_R} {x y : Int64} : mm_Rn pg_G d 78 81 ls (.long y :: .long x :: t) g r ↔ mm_Rn pg_G d 78 82 ls (.long (x * y) :: t) g r := rn_lmul tb_78_81 r
theorem tb_78_82 : mm_tb pg_G 78 82 = some (.goto 4, 86, 0, 0) := rfl
theorem st_78_82 {d : Nat} {ls t : List Value} {g : mm_M} {r : mm_R} : mm_Rn pg_G d 78 82 ls (t) g r ↔ mm_Rn pg_G d 78 86 ls (t) g r := rn_goto tb_78_82 r
theorem tb_78_85 : mm_tb pg_G 78 85 = some (.lconst 0, 0, 0, 0) := rfl
theorem st_78_85 {d : Nat} {ls t : List Value} {g : mm_M} {r : mm_R} : mm_Rn pg_G d 78 85 ls (t) g r ↔ mm_Rn pg_G d 78 86 ls (.long (Int64.ofInt 0) :: t) g r := rn_lconst tb_78_85 r
theorem tb_78_86 : mm_tb pg_G 78 86 = some (.lstore 4, 0, 0, 0) := rfl
theorem st_78_86 {l0 l1 l2 l3 l4 l5 l6 : Value} {d : Nat} {t : List Value} {g : mm_M} {r : mm_R} {x : Int64} (hc : mm_c1 l3 = true) : mm_Rn pg_G d 78 86 [l0, l1, l2, l3, l4, l5, l6] (.long x :: t) g r ↔ mm_Rn pg_G d 78 88 [l0, l1, l2, l3, .long x, .retAddr 0, l6] (t) g r := rn_lstore tb_78_86 (mm_so_of (ls := [l0, l1, l2, l3, l4, l5, l6]) (v := l3) (Nat.le_of_ble_eq_true rfl) rfl hc) r
theorem tb_78_88 : mm_tb pg_G 78 88 = some (.iconst 0, 0, 0, 0) := rfl
theorem st_78_88 {d : Nat} {ls t : List Value} {g : mm_M} {r : mm_R} : mm_Rn pg_G d 78 88 ls (t) g r ↔ mm_Rn pg_G d 78 89 ls (io_v 0 :: t) g r := rn_iconst tb_78_88 r
theorem tb_78_89 : mm_tb pg_G 78 89 = some (.istore 6, 0, 0, 0) := rfl
theorem st_78_89 {l0 l1 l2 l3 l4 l5 l6 : Value} {d : Nat} {t : List Value} {g : mm_M} {r : mm_R} {x : Int32} (hc : mm_c1 l5 = true) : mm_Rn pg_G d 78 89 [l0, l1, l2, l3, l4, l5, l6] (.int x :: t) g r ↔ mm_Rn pg_G d 78 91 [l0, l1, l2, l3, l4, l5, .int x] (t) g r := rn_istore tb_78_89 (mm_so_of (ls := [l0, l1, l2, l3, l4, l5, l6]) (v := l5) (Nat.le_of_ble_eq_true rfl) rfl hc) r
theorem tb_78_91 : mm_tb pg_G 78 91 = some (.iload 6, 0, 0, 0) := rfl
theorem st_78_91 {l0 l1 l2 l3 l4 l5 : Value} {d : Nat} {t : List Value} {g : mm_M} {r : mm_R} {x : Int32} : mm_Rn pg_G d 78 91 [l0, l1, l2, l3, l4, l5, .int x] (t) g r ↔ mm_Rn pg_G d 78 93 [l0, l1, l2, l3, l4, l5, .int x] (.int x :: t) g r := rn_iload tb_78_91 rfl r
theorem tb_78_93 : mm_tb pg_G 78 93 = some (.aload_n 0, 0, 0, 0) := rfl
theorem st_78_93 {l1 l2 l3 l4 l5 l6 : Value} {d : Nat} {t : List Value} {g : mm_M} {r : mm_R} {x : Nat} : mm_Rn pg_G d 78 93 [.ref x, l1, l2, l3, l4, l5, l6] (t) g r ↔ mm_Rn pg_G d 78 94 [.ref x, l1, l2, l3, l4, l5, l6] (.ref x :: t) g r := rn_aload_n tb_78_93 rfl r
theorem tb_78_94 : mm_tb pg_G 78 94 = some (.getfield 71, 6, 0, 422) := rfl
theorem st_78_94 {d : Nat} {ls t : List Value} {g : mm_M} {r : mm_R} {x : Nat} (hT : g.1 x = some (6, 35)) : mm_Rn pg_G d 78 94 ls (.ref x :: t) g r ↔ mm_Rn pg_G d 78 97 ls (g.2.1 x 0 :: t) g r := rn_getfield tb_78_94 hT r
theorem tb_78_97 : mm_tb pg_G 78 97 = some (.if_icmp .ge 49, 146, 0, 0) := rfl
theorem st_78_97 {d : Nat} {ls t : List Value} {g : mm_M} {r : mm_R} {x y : Int32} : mm_Rn pg_G d 78 97 ls (.int y :: .int x :: t) g r ↔ if y ≤ x then mm_Rn pg_G d 78 146 ls (t) g r else mm_Rn pg_G d 78 100 ls (t) g r := rn_icmp_ge tb_78_97 r
theorem tb_78_100 : mm_tb pg_G 78 100 = some (.aload_n 0, 0, 0, 0) := rfl
theorem st_78_100 {l1 l2 l3 l4 l5 l6 : Value} {d : Nat} {t : List Value} {g : mm_M} {r : mm_R} {x : Nat} : mm_Rn pg_G d 78 100 [.ref x, l1, l2, l3, l4, l5, l6] (t) g r ↔ mm_Rn pg_G d 78 101 [.ref x, l1, l2, l3, l4, l5, l6] (.ref x :: t) g r := rn_aload_n tb_78_100 rfl r
theorem tb_78_101 : mm_tb pg_G 78 101 = some (.getfield 13, 6, 2, 424) := rfl
theorem st_78_101 {d : Nat} {ls t : List Value} {g : mm_M} {r : mm_R} {x : Nat} (hT : g.1 x = some (6, 35)) : mm_Rn pg_G d 78 101 ls (.ref x :: t) g r ↔ mm_Rn pg_G d 78 104 ls (g.2.1 x 2 :: t) g r := rn_getfield tb_78_101 hT r
theorem tb_78_104 : mm_tb pg_G 78 104 = some (.iload 6, 0, 0, 0) := rfl
theorem st_78_104 {l0 l1 l2 l3 l4 l5 : Value} {d : Nat} {t : List Value} {g : mm_M} {r : mm_R} {x : Int32} : mm_Rn pg_G d 78 104 [l0, l1, l2, l3, l4, l5, .int x] (t) g r ↔ mm_Rn pg_G d 78 106 [l0, l1, l2, l3, l4, l5, .int x] (.int x :: t) g r := rn_iload tb_78_104 rfl r
theorem tb_78_106 : mm_tb pg_G 78 106 = some (.iaload, 0, 0, 0) := rfl
theorem st_78_106 {d : Nat} {ls t : List Value} {g : mm_M} {r : mm_R} {x : Nat} {j : Int32} (hc : mm_in (g.1 x) 100 101 j = true) : mm_Rn pg_G d 78 106 ls (.int j :: .ref x :: t) g r ↔ mm_Rn pg_G d 78 107 ls (g.2.1 x j.toNatClampNeg :: t) g r := rn_iaload tb_78_106 hc r
theorem tb_78_107 : mm_tb pg_G 78 107 = some (.aload_n 0, 0, 0, 0) := rfl
theorem st_78_107 {l1 l2 l3 l4 l5 l6 : Value} {d : Nat} {t : List Value} {g : mm_M} {r : mm_R} {x : Nat} : mm_Rn pg_G d 78 107 [.ref x, l1, l2, l3, l4, l5, l6] (t) g r ↔ mm_Rn pg_G d 78 108 [.ref x, l1, l2, l3, l4, l5, l6] (.ref x :: t) g r := rn_aload_n tb_78_107 rfl r
theorem tb_78_108 : mm_tb pg_G 78 108 = some (.getfield 13, 6, 2, 424) := rfl
theorem st_78_108 {d : Nat} {ls t : List Value} {g : mm_M} {r : mm_R} {x : Nat} (hT : g.1 x = some (6, 35)) : mm_Rn pg_G d 78 108 ls (.ref x :: t) g r ↔ mm_Rn pg_G d 78 111 ls (g.2.1 x 2 :: t) g r := rn_getfield tb_78_108 hT r
theorem tb_78_111 : mm_tb pg_G 78 111 = some (.iload_n 1, 0, 0, 0) := rfl
theorem st_78_111 {l0 l2 l3 l4 l5 l6 : Value} {d : Nat} {t : List Value} {g : mm_M} {r : mm_R} {x : Int32} : mm_Rn pg_G d 78 111 [l0, .int x, l2, l3, l4, l5, l6] (t) g r ↔ mm_Rn pg_G d 78 112 [l0, .int x, l2, l3, l4, l5, l6] (.int x :: t) g r := rn_iload_n tb_78_111 rfl r
theorem tb_78_112 : mm_tb pg_G 78 112 = some (.iaload, 0, 0, 0) := rfl
theorem st_78_112 {d : Nat} {ls t : List Value} {g : mm_M} {r : mm_R} {x : Nat} {j : Int32} (hc : mm_in (g.1 x) 100 101 j = true) : mm_Rn pg_G d 78 112 ls (.int j :: .ref x :: t) g r ↔ mm_Rn pg_G d 78 113 ls (g.2.1 x j.toNatClampNeg :: t) g r := rn_iaload tb_78_112 hc r
theorem tb_78_113 : mm_tb pg_G 78 113 = some (.if_icmp .gt 27, 140, 0, 0) := rfl
theorem st_78_113 {d : Nat} {ls t : List Value} {g : mm_M} {r : mm_R} {x y : Int32} : mm_Rn pg_G d 78 113 ls (.int y :: .int x :: t) g r ↔ if y < x then mm_Rn pg_G d 78 140 ls (t) g r else mm_Rn pg_G d 78 116 ls (t) g r := rn_icmp_gt tb_78_113 r
theorem tb_78_116 : mm_tb pg_G 78 116 = some (.lload 4, 0, 0, 0) := rfl
theorem st_78_116 {l0 l1 l2 l3 l5 l6 : Value} {d : Nat} {t : List Value} {g : mm_M} {r : mm_R} {x : Int64} : mm_Rn pg_G d 78 116 [l0, l1, l2, l3, .long x, l5, l6] (t) g r ↔ mm_Rn pg_G d 78 118 [l0, l1, l2, l3, .long x, l5, l6] (.long x :: t) g r := rn_lload tb_78_116 rfl r
theorem tb_78_118 : mm_tb pg_G 78 118 = some (.lload_n 2, 0, 0, 0) := rfl
theorem st_78_118 {l0 l1 l3 l4 l5 l6 : Value} {d : Nat} {t : List Value} {g : mm_M} {r : mm_R} {x : Int64} : mm_Rn pg_G d 78 118 [l0, l1, .long x, l3, l4, l5, l6] (t) g r ↔ mm_Rn pg_G d 78 119 [l0, l1, .long x, l3, l4, l5, l6] (.long x :: t) g r := rn_lload_n tb_78_118 rfl r
theorem tb_78_119 : mm_tb pg_G 78 119 = some (.aload_n 0, 0, 0, 0) := rfl
theorem st_78_119 {l1 l2 l3 l4 l5 l6 : Value} {d : Nat} {t : List Value} {g : mm_M} {r : mm_R} {x : Nat} : mm_Rn pg_G d 78 119 [.ref x, l1, l2, l3, l4, l5, l6] (t) g r ↔ mm_Rn pg_G d 78 120 [.ref x, l1, l2, l3, l4, l5, l6] (.ref x :: t) g r := rn_aload_n tb_78_119 rfl r
theorem tb_78_120 : mm_tb pg_G 78 120 = some (.getfield 13, 6, 2, 424) := rfl
theorem st_78_120 {d : Nat} {ls t : List Value} {g : mm_M} {r : mm_R} {x : Nat} (hT : g.1 x = some (6, 35)) : mm_Rn pg_G d 78 120 ls (.ref x :: t) g r ↔ mm_Rn pg_G d 78 123 ls (g.2.1 x 2 :: t) g r := rn_getfield tb_78_120 hT r
theorem tb_78_123 : mm_tb pg_G 78 123 = some (.iload 6, 0, 0, 0) := rfl
theorem st_78_123 {l0 l1 l2 l3 l4 l5 : Value} {d : Nat} {t : List Value} {g : mm_M} {r : mm_R} {x : Int32} : mm_Rn pg_G d 78 123 [l0, l1, l2, l3, l4, l5, .int x] (t) g r ↔ mm_Rn pg_G d 78 125 [l0, l1, l2, l3, l4, l5, .int x] (.int x :: t) g r := rn_iload tb_78_123 rfl r
theorem tb_78_125 : mm_tb pg_G 78 125 = some (.iaload, 0, 0, 0) := rfl
theorem st_78_125 {d : Nat} {ls t : List Value} {g : mm_M} {r : mm_R} {x : Nat} {j : Int32} (hc : mm_in (g.1 x) 100 101 j = true) : mm_Rn pg_G d 78 125 ls (.int j :: .ref x :: t) g r ↔ mm_Rn pg_G d 78 126 ls (g.2.1 x j.toNatClampNeg :: t) g r := rn_iaload tb_78_125 hc r
theorem tb_78_126 : mm_tb pg_G 78 126 = some (.i2l, 0, 0, 0) := rfl
theorem st_78_126 {d : Nat} {ls t : List Value} {g : mm_M} {r : mm_R} {x : Int32} : mm_Rn pg_G d 78 126 ls (.int x :: t) g r ↔ mm_Rn pg_G d 78 127 ls (.long x.toInt64 :: t) g r := rn_i2l tb_78_126 r
theorem tb_78_127 : mm_tb pg_G 78 127 = some (.ldiv, 0, 0, 0) := rfl
theorem st_78_127 {d : Nat} {ls t : List Value} {g : mm_M} {r : mm_R} {x y : Int64} (hc : ¬ y = 0) : mm_Rn pg_G d 78 127 ls (.long y :: .long x :: t) g r ↔ mm_Rn pg_G d 78 128 ls (.long (x / y) :: t) g r := rn_ldiv tb_78_127 hc r
theorem tb_78_128 : mm_tb pg_G 78 128 = some (.aload_n 0, 0, 0, 0) := rfl
theorem st_78_128 {l1 l2 l3 l4 l5 l6 : Value} {d : Nat} {t : List Value} {g : mm_M} {r : mm_R} {x : Nat} : mm_Rn pg_G d 78 128 [.ref x, l1, l2, l3, l4, l5, l6] (t) g r ↔ mm_Rn pg_G d 78 129 [.ref x, l1, l2, l3, l4, l5, l6] (.ref x :: t) g r := rn_aload_n tb_78_128 rfl r
theorem tb_78_129 : mm_tb pg_G 78 129 = some (.getfield 16, 6, 3, 425) := rfl
theorem st_78_129 {d : Nat} {ls t : List Value} {g : mm_M} {r : mm_R} {x : Nat} (hT : g.1 x = some (6, 35)) : mm_Rn pg_G d 78 129 ls (.ref x :: t) g r ↔ mm_Rn pg_G d 78 132 ls (g.2.1 x 3 :: t) g r := rn_getfield tb_78_129 hT r
theorem tb_78_132 : mm_tb pg_G 78 132 = some (.iload 6, 0, 0, 0) := rfl
theorem st_78_132 {l0 l1 l2 l3 l4 l5 : Value} {d : Nat} {t : List Value} {g : mm_M} {r : mm_R} {x : Int32} : mm_Rn pg_G d 78 132 [l0, l1, l2, l3, l4, l5, .int x] (t) g r ↔ mm_Rn pg_G d 78 134 [l0, l1, l2, l3, l4, l5, .int x] (.int x :: t) g r := rn_iload tb_78_132 rfl r
theorem tb_78_134 : mm_tb pg_G 78 134 = some (.iaload, 0, 0, 0) := rfl
theorem st_78_134 {d : Nat} {ls t : List Value} {g : mm_M} {r : mm_R} {x : Nat} {j : Int32} (hc : mm_in (g.1 x) 100 101 j = true) : mm_Rn pg_G d 78 134 ls (.int j :: .ref x :: t) g r ↔ mm_Rn pg_G d 78 135 ls (g.2.1 x j.toNatClampNeg :: t) g r := rn_iaload tb_78_134 hc r
theorem tb_78_135 : mm_tb pg_G 78 135 = some (.i2l, 0, 0, 0) := rfl
theorem st_78_135 {d : Nat} {ls t : List Value} {g : mm_M} {r : mm_R} {x : Int32} : mm_Rn pg_G d 78 135 ls (.int x :: t) g r ↔ mm_Rn pg_G d 78 136 ls (.long x.toInt64 :: t) g r := rn_i2l tb_78_135 r
theorem tb_78_136 : mm_tb pg_G 78 136 = some (.lmul, 0, 0, 0) := rfl
theorem st_78_136 {d : Nat} {ls t : List Value} {g : mm_M} {r : mm_R} {x y : Int64} : mm_Rn pg_G d 78 136 ls (.long y :: .long x :: t) g r ↔ mm_Rn pg_G d 78 137 ls (.long (x * y) :: t) g r := rn_lmul tb_78_136 r
theorem tb_78_137 : mm_tb pg_G 78 137 = some (.ladd, 0, 0, 0) := rfl
theorem st_78_137 {d : Nat} {ls t : List Value} {g : mm_M} {r : mm_R} {x y : Int64} : mm_Rn pg_G d 78 137 ls (.long y :: .long x :: t) g r ↔ mm_Rn pg_G d 78 138 ls (.long (x + y) :: t) g r := rn_ladd tb_78_137 r
theorem tb_78_138 : mm_tb pg_G 78 138 = some (.lstore 4, 0, 0, 0) := rfl
theorem st_78_138 {l0 l1 l2 l3 l4 l5 l6 : Value} {d : Nat} {t : List Value} {g : mm_M} {r : mm_R} {x : Int64} (hc : mm_c1 l3 = true) : mm_Rn pg_G d 78 138 [l0, l1, l2, l3, l4, l5, l6] (.long x :: t) g r ↔ mm_Rn pg_G d 78 140 [l0, l1, l2, l3, .long x, .retAddr 0, l6] (t) g r := rn_lstore tb_78_138 (mm_so_of (ls := [l0, l1, l2, l3, l4, l5, l6]) (v := l3) (Nat.le_of_ble_eq_true rfl) rfl hc) r
theorem tb_78_140 : mm_tb pg_G 78 140 = some (.iinc 6 1, 0, 0, 0) := rfl
theorem st_78_140 {l0 l1 l2 l3 l4 l5 : Value} {d : Nat} {t : List Value} {g : mm_M} {r : mm_R} {x : Int32} (hc : mm_c1 l5 = true) : mm_Rn pg_G d 78 140 [l0, l1, l2, l3, l4, l5, .int x] (t) g r ↔ mm_Rn pg_G d 78 143 [l0, l1, l2, l3, l4, l5, .int (x + Int32.ofInt 1)] (t) g r := rn_iinc tb_78_140 rfl (mm_so_of (ls := [l0, l1, l2, l3, l4, l5, .int x]) (v := l5) (Nat.le_of_ble_eq_true rfl) rfl hc) r
theorem tb_78_143 : mm_tb pg_G 78 143 = some (.goto (-52), 91, 0, 0) := rfl
theorem st_78_143 {d : Nat} {ls t : List Value} {g : mm_M} {r : mm_R} : mm_Rn pg_G d 78 143 ls (t) g r ↔ mm_Rn pg_G d 78 91 ls (t) g r := rn_goto tb_78_143 r
theorem tb_78_146 : mm_tb pg_G 78 146 = some (.aload_n 0, 0, 0, 0) := rfl
theorem st_78_146 {l1 l2 l3 l4 l5 l6 : Value} {d : Nat} {t : List Value} {g : mm_M} {r : mm_R} {x : Nat} : mm_Rn pg_G d 78 146 [.ref x, l1, l2, l3, l4, l5, l6] (t) g r ↔ mm_Rn pg_G d 78 147 [.ref x, l1, l2, l3, l4, l5, l6] (.ref x :: t) g r := rn_aload_n tb_78_146 rfl r
theorem tb_78_147 : mm_tb pg_G 78 147 = some (.iload_n 1, 0, 0, 0) := rfl
theorem st_78_147 {l0 l2 l3 l4 l5 l6 : Value} {d : Nat} {t : List Value} {g : mm_M} {r : mm_R} {x : Int32} : mm_Rn pg_G d 78 147 [l0, .int x, l2, l3, l4, l5, l6] (t) g r ↔ mm_Rn pg_G d 78 148 [l0, .int x, l2, l3, l4, l5, l6] (.int x :: t) g r := rn_iload_n tb_78_147 rfl r
theorem tb_78_148 : mm_tb pg_G 78 148 = some (.invokevirtual 99, 77, 2, 528) := rfl
theorem st_78_148 {d c s c' s' : Nat} {ls t : List Value} {I J : sp_I} {r : mm_R} {a0 : Int32} {y : Nat} {v : Int32} (hl : t.length ≤ 4) (hT : sp_T I y = some (6, 35)) (hq : mm_Rn pg_G d 77 0 [.ref y, .int a0, .retAddr 0, .retAddr 0, .retAddr 0, .retAddr 0] [] (sp_me I 0 0) (some (.int v), sp_me J c' s')) : mm_Rn pg_G (d + 1) 78 148 ls (.int a0 :: .ref y :: t) (sp_me I c s) r ↔ mm_Rn pg_G (d + 1) 78 151 ls (.int v :: t) (sp_me J (c + c') (s + s')) r := rn_virt (g := sp_me I c s) (st := .int a0 :: .ref y :: t) tb_78_148 (decide_eq_true hT) ⟨Nat.le_add_left _ t.length, hl, rfl⟩ hq r
theorem tb_78_151 : mm_tb pg_G 78 151 = some (.istore 6, 0, 0, 0) := rfl
theorem st_78_151 {l0 l1 l2 l3 l4 l5 l6 : Value} {d : Nat} {t : List Value} {g : mm_M} {r : mm_R} {x : Int32} (hc : mm_c1 l5 = true) : mm_Rn pg_G d 78 151 [l0, l1, l2, l3, l4, l5, l6] (.int x :: t) g r ↔ mm_Rn pg_G d 78 153 [l0, l1, l2, l3, l4, l5, .int x] (t) g r := rn_istore tb_78_151 (mm_so_of (ls := [l0, l1, l2, l3, l4, l5, l6]) (v := l5) (Nat.le_of_ble_eq_true rfl) rfl hc) r
theorem tb_78_153 : mm_tb pg_G 78 153 = some (.lload 4, 0, 0, 0) := rfl
theorem st_78_153 {l0 l1 l2 l3 l5 l6 : Value} {d : Nat} {t : List Value} {g : mm_M} {r : mm_R} {x : Int64} : mm_Rn pg_G d 78 153 [l0, l1, l2, l3, .long x, l5, l6] (t) g r ↔ mm_Rn pg_G d 78 155 [l0, l1, l2, l3, .long x, l5, l6] (.long x :: t) g r := rn_lload tb_78_153 rfl r
theorem tb_78_155 : mm_tb pg_G 78 155 = some (.lload_n 2, 0, 0, 0) := rfl
theorem st_78_155 {l0 l1 l3 l4 l5 l6 : Value} {d : Nat} {t : List Value} {g : mm_M} {r : mm_R} {x : Int64} : mm_Rn pg_G d 78 155 [l0, l1, .long x, l3, l4, l5, l6] (t) g r ↔ mm_Rn pg_G d 78 156 [l0, l1, .long x, l3, l4, l5, l6] (.long x :: t) g r := rn_lload_n tb_78_155 rfl r
theorem tb_78_156 : mm_tb pg_G 78 156 = some (.aload_n 0, 0, 0, 0) := rfl
theorem st_78_156 {l1 l2 l3 l4 l5 l6 : Value} {d : Nat} {t : List Value} {g : mm_M} {r : mm_R} {x : Nat} : mm_Rn pg_G d 78 156 [.ref x, l1, l2, l3, l4, l5, l6] (t) g r ↔ mm_Rn pg_G d 78 157 [.ref x, l1, l2, l3, l4, l5, l6] (.ref x :: t) g r := rn_aload_n tb_78_156 rfl r
theorem tb_78_157 : mm_tb pg_G 78 157 = some (.getfield 13, 6, 2, 424) := rfl
theorem st_78_157 {d : Nat} {ls t : List Value} {g : mm_M} {r : mm_R} {x : Nat} (hT : g.1 x = some (6, 35)) : mm_Rn pg_G d 78 157 ls (.ref x :: t) g r ↔ mm_Rn pg_G d 78 160 ls (g.2.1 x 2 :: t) g r := rn_getfield tb_78_157 hT r
theorem tb_78_160 : mm_tb pg_G 78 160 = some (.iload_n 1, 0, 0, 0) := rfl
theorem st_78_160 {l0 l2 l3 l4 l5 l6 : Value} {d : Nat} {t : List Value} {g : mm_M} {r : mm_R} {x : Int32} : mm_Rn pg_G d 78 160 [l0, .int x, l2, l3, l4, l5, l6] (t) g r ↔ mm_Rn pg_G d 78 161 [l0, .int x, l2, l3, l4, l5, l6] (.int x :: t) g r := rn_iload_n tb_78_160 rfl r
theorem tb_78_161 : mm_tb pg_G 78 161 = some (.iaload, 0, 0, 0) := rfl
theorem st_78_161 {d : Nat} {ls t : List Value} {g : mm_M} {r : mm_R} {x : Nat} {j : Int32} (hc : mm_in (g.1 x) 100 101 j = true) : mm_Rn pg_G d 78 161 ls (.int j :: .ref x :: t) g r ↔ mm_Rn pg_G d 78 162 ls (g.2.1 x j.toNatClampNeg :: t) g r := rn_iaload tb_78_161 hc r
theorem tb_78_162 : mm_tb pg_G 78 162 = some (.i2l, 0, 0, 0) := rfl
theorem st_78_162 {d : Nat} {ls t : List Value} {g : mm_M} {r : mm_R} {x : Int32} : mm_Rn pg_G d 78 162 ls (.int x :: t) g r ↔ mm_Rn pg_G d 78 163 ls (.long x.toInt64 :: t) g r := rn_i2l tb_78_162 r
theorem tb_78_163 : mm_tb pg_G 78 163 = some (.ldiv, 0, 0, 0) := rfl
theorem st_78_163 {d : Nat} {ls t : List Value} {g : mm_M} {r : mm_R} {x y : Int64} (hc : ¬ y = 0) : mm_Rn pg_G d 78 163 ls (.long y :: .long x :: t) g r ↔ mm_Rn pg_G d 78 164 ls (.long (x / y) :: t) g r := rn_ldiv tb_78_163 hc r
theorem tb_78_164 : mm_tb pg_G 78 164 = some (.iload 6, 0, 0, 0) := rfl
theorem st_78_164 {l0 l1 l2 l3 l4 l5 : Value} {d : Nat} {t : List Value} {g : mm_M} {r : mm_R} {x : Int32} : mm_Rn pg_G d 78 164 [l0, l1, l2, l3, l4, l5, .int x] (t) g r ↔ mm_Rn pg_G d 78 166 [l0, l1, l2, l3, l4, l5, .int x] (.int x :: t) g r := rn_iload tb_78_164 rfl r
theorem tb_78_166 : mm_tb pg_G 78 166 = some (.i2l, 0, 0, 0) := rfl
theorem st_78_166 {d : Nat} {ls t : List Value} {g : mm_M} {r : mm_R} {x : Int32} : mm_Rn pg_G d 78 166 ls (.int x :: t) g r ↔ mm_Rn pg_G d 78 167 ls (.long x.toInt64 :: t) g r := rn_i2l tb_78_166 r
theorem tb_78_167 : mm_tb pg_G 78 167 = some (.lmul, 0, 0, 0) := rfl
theorem st_78_167 {d : Nat} {ls t : List Value} {g : mm_M} {r : mm_R} {x y : Int64} : mm_Rn pg_G d 78 167 ls (.long y :: .long x :: t) g r ↔ mm_Rn pg_G d 78 168 ls (.long (x * y) :: t) g r := rn_lmul tb_78_167 r
theorem tb_78_168 : mm_tb pg_G 78 168 = some (.ladd, 0, 0, 0) := rfl
theorem st_78_168 {d : Nat} {ls t : List Value} {g : mm_M} {r : mm_R} {x y : Int64} : mm_Rn pg_G d 78 168 ls (.long y :: .long x :: t) g r ↔ mm_Rn pg_G d 78 169 ls (.long (x + y) :: t) g r := rn_ladd tb_78_168 r
theorem tb_78_169 : mm_tb pg_G 78 169 = some (.lstore 4, 0, 0, 0) := rfl
theorem st_78_169 {l0 l1 l2 l3 l4 l5 l6 : Value} {d : Nat} {t : List Value} {g : mm_M} {r : mm_R} {x : Int64} (hc : mm_c1 l3 = true) : mm_Rn pg_G d 78 169 [l0, l1, l2, l3, l4, l5, l6] (.long x :: t) g r ↔ mm_Rn pg_G d 78 171 [l0, l1, l2, l3, .long x, .retAddr 0, l6] (t) g r := rn_lstore tb_78_169 (mm_so_of (ls := [l0, l1, l2, l3, l4, l5, l6]) (v := l3) (Nat.le_of_ble_eq_true rfl) rfl hc) r
theorem tb_78_171 : mm_tb pg_G 78 171 = some (.lload 4, 0, 0, 0) := rfl
theorem st_78_171 {l0 l1 l2 l3 l5 l6 : Value} {d : Nat} {t : List Value} {g : mm_M} {r : mm_R} {x : Int64} : mm_Rn pg_G d 78 171 [l0, l1, l2, l3, .long x, l5, l6] (t) g r ↔ mm_Rn pg_G d 78 173 [l0, l1, l2, l3, .long x, l5, l6] (.long x :: t) g r := rn_lload tb_78_171 rfl r
theorem tb_78_173 : mm_tb pg_G 78 173 = some (.lload_n 2, 0, 0, 0) := rfl
theorem st_78_173 {l0 l1 l3 l4 l5 l6 : Value} {d : Nat} {t : List Value} {g : mm_M} {r : mm_R} {x : Int64} : mm_Rn pg_G d 78 173 [l0, l1, .long x, l3, l4, l5, l6] (t) g r ↔ mm_Rn pg_G d 78 174 [l0, l1, .long x, l3, l4, l5, l6] (.long x :: t) g r := rn_lload_n tb_78_173 rfl r
theorem tb_78_174 : mm_tb pg_G 78 174 = some (.lcmp, 0, 0, 0) := rfl
theorem st_78_174 {d : Nat} {ls t : List Value} {g : mm_M} {r : mm_R} {x y : Int64} : mm_Rn pg_G d 78 174 ls (.long y :: .long x :: t) g r ↔ mm_Rn pg_G d 78 175 ls (.int (lg_cmp x y) :: t) g r := rn_lcmp tb_78_174 r
theorem tb_78_175 : mm_tb pg_G 78 175 = some (.ifCond .gt 7, 182, 0, 0) := rfl
theorem st_78_175 {d : Nat} {ls t : List Value} {g : mm_M} {r : mm_R} {x : Int32} : mm_Rn pg_G d 78 175 ls (.int x :: t) g r ↔ if 0 < x then mm_Rn pg_G d 78 182 ls (t) g r else mm_Rn pg_G d 78 178 ls (t) g r := rn_if_gt tb_78_175 r
theorem tb_78_178 : mm_tb pg_G 78 178 = some (.iconst 1, 0, 0, 0) := rfl
theorem st_78_178 {d : Nat} {ls t : List Value} {g : mm_M} {r : mm_R} : mm_Rn pg_G d 78 178 ls (t) g r ↔ mm_Rn pg_G d 78 179 ls (io_v 1 :: t) g r := rn_iconst tb_78_178 r
theorem tb_78_179 : mm_tb pg_G 78 179 = some (.goto 4, 183, 0, 0) := rfl
theorem st_78_179 {d : Nat} {ls t : List Value} {g : mm_M} {r : mm_R} : mm_Rn pg_G d 78 179 ls (t) g r ↔ mm_Rn pg_G d 78 183 ls (t) g r := rn_goto tb_78_179 r
theorem tb_78_182 : mm_tb pg_G 78 182 = some (.iconst 0, 0, 0, 0) := rfl
theorem st_78_182 {d : Nat} {ls t : List Value} {g : mm_M} {r : mm_R} : mm_Rn pg_G d 78 182 ls (t) g r ↔ mm_Rn pg_G d 78 183 ls (io_v 0 :: t) g r := rn_iconst tb_78_182 r
theorem tb_78_183 : mm_tb pg_G 78 183 = some (.ireturn, 0, 0, 0) := rfl
theorem st_78_183 {d : Nat} {ls : List Value} {g : mm_M} {r : mm_R} {x : Int32} (hb : x = 0 ∨ x = 1) : mm_Rn pg_G d 78 183 ls [.int x] g r ↔ r = (some (.int x), g) := rn_ireturn_iff tb_78_183 (Or.inr ⟨rfl, hb⟩) r
theorem tb_79_0 : mm_tb pg_G 79 0 = some (.iconst 0, 0, 0, 0) := rfl
theorem st_79_0 {d : Nat} {ls t : List Value} {g : mm_M} {r : mm_R} : mm_Rn pg_G d 79 0 ls (t) g r ↔ mm_Rn pg_G d 79 1 ls (io_v 0 :: t) g r := rn_iconst tb_79_0 r
theorem tb_79_1 : mm_tb pg_G 79 1 = some (.istore_n 1, 0, 0, 0) := rfl
theorem st_79_1 {l0 l1 : Value} {d : Nat} {t : List Value} {g : mm_M} {r : mm_R} {x : Int32} (hc : mm_c1 l0 = true) : mm_Rn pg_G d 79 1 [l0, l1] (.int x :: t) g r ↔ mm_Rn pg_G d 79 2 [l0, .int x] (t) g r := rn_istore_n tb_79_1 (mm_so_of (ls := [l0, l1]) (v := l0) (Nat.le_of_ble_eq_true rfl) rfl hc) r
theorem tb_79_2 : mm_tb pg_G 79 2 = some (.iload_n 1, 0, 0, 0) := rfl
theorem st_79_2 {l0 : Value} {d : Nat} {t : List Value} {g : mm_M} {r : mm_R} {x : Int32} : mm_Rn pg_G d 79 2 [l0, .int x] (t) g r ↔ mm_Rn pg_G d 79 3 [l0, .int x] (.int x :: t) g r := rn_iload_n tb_79_2 rfl r
theorem tb_79_3 : mm_tb pg_G 79 3 = some (.aload_n 0, 0, 0, 0) := rfl
theorem st_79_3 {l1 : Value} {d : Nat} {t : List Value} {g : mm_M} {r : mm_R} {x : Nat} : mm_Rn pg_G d 79 3 [.ref x, l1] (t) g r ↔ mm_Rn pg_G d 79 4 [.ref x, l1] (.ref x :: t) g r := rn_aload_n tb_79_3 rfl r
theorem tb_79_4 : mm_tb pg_G 79 4 = some (.getfield 71, 6, 0, 422) := rfl
theorem st_79_4 {d : Nat} {ls t : List Value} {g : mm_M} {r : mm_R} {x : Nat} (hT : g.1 x = some (6, 35)) : mm_Rn pg_G d 79 4 ls (.ref x :: t) g r ↔ mm_Rn pg_G d 79 7 ls (g.2.1 x 0 :: t) g r := rn_getfield tb_79_4 hT r
theorem tb_79_7 : mm_tb pg_G 79 7 = some (.if_icmp .ge 19, 26, 0, 0) := rfl
theorem st_79_7 {d : Nat} {ls t : List Value} {g : mm_M} {r : mm_R} {x y : Int32} : mm_Rn pg_G d 79 7 ls (.int y :: .int x :: t) g r ↔ if y ≤ x then mm_Rn pg_G d 79 26 ls (t) g r else mm_Rn pg_G d 79 10 ls (t) g r := rn_icmp_ge tb_79_7 r
theorem tb_79_10 : mm_tb pg_G 79 10 = some (.aload_n 0, 0, 0, 0) := rfl
theorem st_79_10 {l1 : Value} {d : Nat} {t : List Value} {g : mm_M} {r : mm_R} {x : Nat} : mm_Rn pg_G d 79 10 [.ref x, l1] (t) g r ↔ mm_Rn pg_G d 79 11 [.ref x, l1] (.ref x :: t) g r := rn_aload_n tb_79_10 rfl r
theorem tb_79_11 : mm_tb pg_G 79 11 = some (.iload_n 1, 0, 0, 0) := rfl
theorem st_79_11 {l0 : Value} {d : Nat} {t : List Value} {g : mm_M} {r : mm_R} {x : Int32} : mm_Rn pg_G d 79 11 [l0, .int x] (t) g r ↔ mm_Rn pg_G d 79 12 [l0, .int x] (.int x :: t) g r := rn_iload_n tb_79_11 rfl r
theorem tb_79_12 : mm_tb pg_G 79 12 = some (.invokevirtual 102, 78, 2, 525) := rfl
theorem st_79_12 {d c s c' s' : Nat} {ls t : List Value} {I J : sp_I} {r : mm_R} {a0 : Int32} {y : Nat} {v : Int32} (hl : t.length ≤ 4) (hT : sp_T I y = some (6, 35)) (hq : mm_Rn pg_G d 78 0 [.ref y, .int a0, .retAddr 0, .retAddr 0, .retAddr 0, .retAddr 0, .retAddr 0] [] (sp_me I 0 0) (some (.int v), sp_me J c' s')) : mm_Rn pg_G (d + 1) 79 12 ls (.int a0 :: .ref y :: t) (sp_me I c s) r ↔ mm_Rn pg_G (d + 1) 79 15 ls (.int v :: t) (sp_me J (c + c') (s + s')) r := rn_virt (g := sp_me I c s) (st := .int a0 :: .ref y :: t) tb_79_12 (decide_eq_true hT) ⟨Nat.le_add_left _ t.length, hl, rfl⟩ hq r
theorem tb_79_15 : mm_tb pg_G 79 15 = some (.ifCond .ne 5, 20, 0, 0) := rfl
theorem st_79_15 {d : Nat} {ls t : List Value} {g : mm_M} {r : mm_R} {x : Int32} : mm_Rn pg_G d 79 15 ls (.int x :: t) g r ↔ if x = 0 then mm_Rn pg_G d 79 18 ls (t) g r else mm_Rn pg_G d 79 20 ls (t) g r := rn_if_ne tb_79_15 r
theorem tb_79_18 : mm_tb pg_G 79 18 = some (.iload_n 1, 0, 0, 0) := rfl
theorem st_79_18 {l0 : Value} {d : Nat} {t : List Value} {g : mm_M} {r : mm_R} {x : Int32} : mm_Rn pg_G d 79 18 [l0, .int x] (t) g r ↔ mm_Rn pg_G d 79 19 [l0, .int x] (.int x :: t) g r := rn_iload_n tb_79_18 rfl r
theorem tb_79_19 : mm_tb pg_G 79 19 = some (.ireturn, 0, 0, 0) := rfl
theorem st_79_19 {d : Nat} {ls : List Value} {g : mm_M} {r : mm_R} {x : Int32} : mm_Rn pg_G d 79 19 ls [.int x] g r ↔ r = (some (.int x), g) := rn_ireturn_iff tb_79_19 (Or.inl rfl) r
theorem tb_79_20 : mm_tb pg_G 79 20 = some (.iinc 1 1, 0, 0, 0) := rfl
theorem st_79_20 {l0 : Value} {d : Nat} {t : List Value} {g : mm_M} {r : mm_R} {x : Int32} (hc : mm_c1 l0 = true) : mm_Rn pg_G d 79 20 [l0, .int x] (t) g r ↔ mm_Rn pg_G d 79 23 [l0, .int (x + Int32.ofInt 1)] (t) g r := rn_iinc tb_79_20 rfl (mm_so_of (ls := [l0, .int x]) (v := l0) (Nat.le_of_ble_eq_true rfl) rfl hc) r
theorem tb_79_23 : mm_tb pg_G 79 23 = some (.goto (-21), 2, 0, 0) := rfl
theorem st_79_23 {d : Nat} {ls t : List Value} {g : mm_M} {r : mm_R} : mm_Rn pg_G d 79 23 ls (t) g r ↔ mm_Rn pg_G d 79 2 ls (t) g r := rn_goto tb_79_23 r
theorem tb_79_26 : mm_tb pg_G 79 26 = some (.iconst (-1), 0, 0, 0) := rfl
theorem st_79_26 {d : Nat} {ls t : List Value} {g : mm_M} {r : mm_R} : mm_Rn pg_G d 79 26 ls (t) g r ↔ mm_Rn pg_G d 79 27 ls (io_v (-1) :: t) g r := rn_iconst tb_79_26 r
theorem tb_79_27 : mm_tb pg_G 79 27 = some (.ireturn, 0, 0, 0) := rfl
theorem st_79_27 {d : Nat} {ls : List Value} {g : mm_M} {r : mm_R} {x : Int32} : mm_Rn pg_G d 79 27 ls [.int x] g r ↔ r = (some (.int x), g) := rn_ireturn_iff tb_79_27 (Or.inl rfl) r
theorem tb_80_0 : mm_tb pg_G 80 0 = some (.aload_n 0, 0, 0, 0) := rfl
theorem st_80_0 {l1 l2 : Value} {d : Nat} {t : List Value} {g : mm_M} {r : mm_R} {x : Nat} : mm_Rn pg_G d 80 0 [.ref x, l1, l2] (t) g r ↔ mm_Rn pg_G d 80 1 [.ref x, l1, l2] (.ref x :: t) g r := rn_aload_n tb_80_0 rfl r
theorem tb_80_1 : mm_tb pg_G 80 1 = some (.getfield 67, 6, 8, 430) := rfl
theorem st_80_1 {d : Nat} {ls t : List Value} {g : mm_M} {r : mm_R} {x : Nat} (hT : g.1 x = some (6, 35)) : mm_Rn pg_G d 80 1 ls (.ref x :: t) g r ↔ mm_Rn pg_G d 80 4 ls (g.2.1 x 8 :: t) g r := rn_getfield tb_80_1 hT r
theorem tb_80_4 : mm_tb pg_G 80 4 = some (.ifCond .ne 5, 9, 0, 0) := rfl
theorem st_80_4 {d : Nat} {ls t : List Value} {g : mm_M} {r : mm_R} {x : Int32} : mm_Rn pg_G d 80 4 ls (.int x :: t) g r ↔ if x = 0 then mm_Rn pg_G d 80 7 ls (t) g r else mm_Rn pg_G d 80 9 ls (t) g r := rn_if_ne tb_80_4 r
theorem tb_80_7 : mm_tb pg_G 80 7 = some (.iconst (-1), 0, 0, 0) := rfl
theorem st_80_7 {d : Nat} {ls t : List Value} {g : mm_M} {r : mm_R} : mm_Rn pg_G d 80 7 ls (t) g r ↔ mm_Rn pg_G d 80 8 ls (io_v (-1) :: t) g r := rn_iconst tb_80_7 r
theorem tb_80_8 : mm_tb pg_G 80 8 = some (.ireturn, 0, 0, 0) := rfl
theorem st_80_8 {d : Nat} {ls : List Value} {g : mm_M} {r : mm_R} {x : Int32} : mm_Rn pg_G d 80 8 ls [.int x] g r ↔ r = (some (.int x), g) := rn_ireturn_iff tb_80_8 (Or.inl rfl) r
theorem tb_80_9 : mm_tb pg_G 80 9 = some (.aload_n 0, 0, 0, 0) := rfl
theorem st_80_9 {l1 l2 : Value} {d : Nat} {t : List Value} {g : mm_M} {r : mm_R} {x : Nat} : mm_Rn pg_G d 80 9 [.ref x, l1, l2] (t) g r ↔ mm_Rn pg_G d 80 10 [.ref x, l1, l2] (.ref x :: t) g r := rn_aload_n tb_80_9 rfl r
theorem tb_80_10 : mm_tb pg_G 80 10 = some (.iload_n 1, 0, 0, 0) := rfl
theorem st_80_10 {l0 l2 : Value} {d : Nat} {t : List Value} {g : mm_M} {r : mm_R} {x : Int32} : mm_Rn pg_G d 80 10 [l0, .int x, l2] (t) g r ↔ mm_Rn pg_G d 80 11 [l0, .int x, l2] (.int x :: t) g r := rn_iload_n tb_80_10 rfl r
theorem tb_80_11 : mm_tb pg_G 80 11 = some (.invokevirtual 79, 71, 2, 503) := rfl
theorem st_80_11 {d c s c' s' : Nat} {ls t : List Value} {I J : sp_I} {r : mm_R} {a0 : Int32} {y : Nat} {v : Int32} (hl : t.length ≤ 4) (hT : sp_T I y = some (6, 35)) (hq : mm_Rn pg_G d 71 0 [.ref y, .int a0] [] (sp_me I 0 0) (some (.int v), sp_me J c' s')) : mm_Rn pg_G (d + 1) 80 11 ls (.int a0 :: .ref y :: t) (sp_me I c s) r ↔ mm_Rn pg_G (d + 1) 80 14 ls (.int v :: t) (sp_me J (c + c') (s + s')) r := rn_virt (g := sp_me I c s) (st := .int a0 :: .ref y :: t) tb_80_11 (decide_eq_true hT) ⟨Nat.le_add_left _ t.length, hl, rfl⟩ hq r
theorem tb_80_14 : mm_tb pg_G 80 14 = some (.ifCond .eq 18, 32, 0, 0) := rfl
theorem st_80_14 {d : Nat} {ls t : List Value} {g : mm_M} {r : mm_R} {x : Int32} : mm_Rn pg_G d 80 14 ls (.int x :: t) g r ↔ if x = 0 then mm_Rn pg_G d 80 32 ls (t) g r else mm_Rn pg_G d 80 17 ls (t) g r := rn_if_eq tb_80_14 r
theorem tb_80_17 : mm_tb pg_G 80 17 = some (.iload_n 2, 0, 0, 0) := rfl
theorem st_80_17 {l0 l1 : Value} {d : Nat} {t : List Value} {g : mm_M} {r : mm_R} {x : Int32} : mm_Rn pg_G d 80 17 [l0, l1, .int x] (t) g r ↔ mm_Rn pg_G d 80 18 [l0, l1, .int x] (.int x :: t) g r := rn_iload_n tb_80_17 rfl r
theorem tb_80_18 : mm_tb pg_G 80 18 = some (.iconst 1, 0, 0, 0) := rfl
theorem st_80_18 {d : Nat} {ls t : List Value} {g : mm_M} {r : mm_R} : mm_Rn pg_G d 80 18 ls (t) g r ↔ mm_Rn pg_G d 80 19 ls (io_v 1 :: t) g r := rn_iconst tb_80_18 r
theorem tb_80_19 : mm_tb pg_G 80 19 = some (.if_icmp .lt 13, 32, 0, 0) := rfl
theorem st_80_19 {d : Nat} {ls t : List Value} {g : mm_M} {r : mm_R} {x y : Int32} : mm_Rn pg_G d 80 19 ls (.int y :: .int x :: t) g r ↔ if x < y then mm_Rn pg_G d 80 32 ls (t) g r else mm_Rn pg_G d 80 22 ls (t) g r := rn_icmp_lt tb_80_19 r
theorem tb_80_22 : mm_tb pg_G 80 22 = some (.iload_n 2, 0, 0, 0) := rfl
theorem st_80_22 {l0 l1 : Value} {d : Nat} {t : List Value} {g : mm_M} {r : mm_R} {x : Int32} : mm_Rn pg_G d 80 22 [l0, l1, .int x] (t) g r ↔ mm_Rn pg_G d 80 23 [l0, l1, .int x] (.int x :: t) g r := rn_iload_n tb_80_22 rfl r
theorem tb_80_23 : mm_tb pg_G 80 23 = some (.aload_n 0, 0, 0, 0) := rfl
theorem st_80_23 {l1 l2 : Value} {d : Nat} {t : List Value} {g : mm_M} {r : mm_R} {x : Nat} : mm_Rn pg_G d 80 23 [.ref x, l1, l2] (t) g r ↔ mm_Rn pg_G d 80 24 [.ref x, l1, l2] (.ref x :: t) g r := rn_aload_n tb_80_23 rfl r
theorem tb_80_24 : mm_tb pg_G 80 24 = some (.getfield 16, 6, 3, 425) := rfl
theorem st_80_24 {d : Nat} {ls t : List Value} {g : mm_M} {r : mm_R} {x : Nat} (hT : g.1 x = some (6, 35)) : mm_Rn pg_G d 80 24 ls (.ref x :: t) g r ↔ mm_Rn pg_G d 80 27 ls (g.2.1 x 3 :: t) g r := rn_getfield tb_80_24 hT r
theorem tb_80_27 : mm_tb pg_G 80 27 = some (.iload_n 1, 0, 0, 0) := rfl
theorem st_80_27 {l0 l2 : Value} {d : Nat} {t : List Value} {g : mm_M} {r : mm_R} {x : Int32} : mm_Rn pg_G d 80 27 [l0, .int x, l2] (t) g r ↔ mm_Rn pg_G d 80 28 [l0, .int x, l2] (.int x :: t) g r := rn_iload_n tb_80_27 rfl r
theorem tb_80_28 : mm_tb pg_G 80 28 = some (.iaload, 0, 0, 0) := rfl
theorem st_80_28 {d : Nat} {ls t : List Value} {g : mm_M} {r : mm_R} {x : Nat} {j : Int32} (hc : mm_in (g.1 x) 100 101 j = true) : mm_Rn pg_G d 80 28 ls (.int j :: .ref x :: t) g r ↔ mm_Rn pg_G d 80 29 ls (g.2.1 x j.toNatClampNeg :: t) g r := rn_iaload tb_80_28 hc r
theorem tb_80_29 : mm_tb pg_G 80 29 = some (.if_icmp .le 6, 35, 0, 0) := rfl
theorem st_80_29 {d : Nat} {ls t : List Value} {g : mm_M} {r : mm_R} {x y : Int32} : mm_Rn pg_G d 80 29 ls (.int y :: .int x :: t) g r ↔ if x ≤ y then mm_Rn pg_G d 80 35 ls (t) g r else mm_Rn pg_G d 80 32 ls (t) g r := rn_icmp_le tb_80_29 r
theorem tb_80_32 : mm_tb pg_G 80 32 = some (.bipush (-2), 0, 0, 0) := rfl
theorem st_80_32 {d : Nat} {ls t : List Value} {g : mm_M} {r : mm_R} : mm_Rn pg_G d 80 32 ls (t) g r ↔ mm_Rn pg_G d 80 34 ls (io_v (-2) :: t) g r := rn_bipush tb_80_32 r
theorem tb_80_34 : mm_tb pg_G 80 34 = some (.ireturn, 0, 0, 0) := rfl
theorem st_80_34 {d : Nat} {ls : List Value} {g : mm_M} {r : mm_R} {x : Int32} : mm_Rn pg_G d 80 34 ls [.int x] g r ↔ r = (some (.int x), g) := rn_ireturn_iff tb_80_34 (Or.inl rfl) r
theorem tb_80_35 : mm_tb pg_G 80 35 = some (.aload_n 0, 0, 0, 0) := rfl
theorem st_80_35 {l1 l2 : Value} {d : Nat} {t : List Value} {g : mm_M} {r : mm_R} {x : Nat} : mm_Rn pg_G d 80 35 [.ref x, l1, l2] (t) g r ↔ mm_Rn pg_G d 80 36 [.ref x, l1, l2] (.ref x :: t) g r := rn_aload_n tb_80_35 rfl r
theorem tb_80_36 : mm_tb pg_G 80 36 = some (.getfield 34, 6, 18, 440) := rfl
theorem st_80_36 {d : Nat} {ls t : List Value} {g : mm_M} {r : mm_R} {x : Nat} (hT : g.1 x = some (6, 35)) : mm_Rn pg_G d 80 36 ls (.ref x :: t) g r ↔ mm_Rn pg_G d 80 39 ls (g.2.1 x 18 :: t) g r := rn_getfield tb_80_36 hT r
theorem tb_80_39 : mm_tb pg_G 80 39 = some (.iload_n 1, 0, 0, 0) := rfl
theorem st_80_39 {l0 l2 : Value} {d : Nat} {t : List Value} {g : mm_M} {r : mm_R} {x : Int32} : mm_Rn pg_G d 80 39 [l0, .int x, l2] (t) g r ↔ mm_Rn pg_G d 80 40 [l0, .int x, l2] (.int x :: t) g r := rn_iload_n tb_80_39 rfl r
theorem tb_80_40 : mm_tb pg_G 80 40 = some (.iaload, 0, 0, 0) := rfl
theorem st_80_40 {d : Nat} {ls t : List Value} {g : mm_M} {r : mm_R} {x : Nat} {j : Int32} (hc : mm_in (g.1 x) 100 101 j = true) : mm_Rn pg_G d 80 40 ls (.int j :: .ref x :: t) g r ↔ mm_Rn pg_G d 80 41 ls (g.2.1 x j.toNatClampNeg :: t) g r := rn_iaload tb_80_40 hc r
theorem tb_80_41 : mm_tb pg_G 80 41 = some (.iconst 1, 0, 0, 0) := rfl
theorem st_80_41 {d : Nat} {ls t : List Value} {g : mm_M} {r : mm_R} : mm_Rn pg_G d 80 41 ls (t) g r ↔ mm_Rn pg_G d 80 42 ls (io_v 1 :: t) g r := rn_iconst tb_80_41 r
theorem tb_80_42 : mm_tb pg_G 80 42 = some (.if_icmp .ne 6, 48, 0, 0) := rfl
theorem st_80_42 {d : Nat} {ls t : List Value} {g : mm_M} {r : mm_R} {x y : Int32} : mm_Rn pg_G d 80 42 ls (.int y :: .int x :: t) g r ↔ if x = y then mm_Rn pg_G d 80 45 ls (t) g r else mm_Rn pg_G d 80 48 ls (t) g r := rn_icmp_ne tb_80_42 r
theorem tb_80_45 : mm_tb pg_G 80 45 = some (.bipush (-3), 0, 0, 0) := rfl
theorem st_80_45 {d : Nat} {ls t : List Value} {g : mm_M} {r : mm_R} : mm_Rn pg_G d 80 45 ls (t) g r ↔ mm_Rn pg_G d 80 47 ls (io_v (-3) :: t) g r := rn_bipush tb_80_45 r
theorem tb_80_47 : mm_tb pg_G 80 47 = some (.ireturn, 0, 0, 0) := rfl
theorem st_80_47 {d : Nat} {ls : List Value} {g : mm_M} {r : mm_R} {x : Int32} : mm_Rn pg_G d 80 47 ls [.int x] g r ↔ r = (some (.int x), g) := rn_ireturn_iff tb_80_47 (Or.inl rfl) r
theorem tb_80_48 : mm_tb pg_G 80 48 = some (.aload_n 0, 0, 0, 0) := rfl
theorem st_80_48 {l1 l2 : Value} {d : Nat} {t : List Value} {g : mm_M} {r : mm_R} {x : Nat} : mm_Rn pg_G d 80 48 [.ref x, l1, l2] (t) g r ↔ mm_Rn pg_G d 80 49 [.ref x, l1, l2] (.ref x :: t) g r := rn_aload_n tb_80_48 rfl r
theorem tb_80_49 : mm_tb pg_G 80 49 = some (.getfield 34, 6, 18, 440) := rfl
theorem st_80_49 {d : Nat} {ls t : List Value} {g : mm_M} {r : mm_R} {x : Nat} (hT : g.1 x = some (6, 35)) : mm_Rn pg_G d 80 49 ls (.ref x :: t) g r ↔ mm_Rn pg_G d 80 52 ls (g.2.1 x 18 :: t) g r := rn_getfield tb_80_49 hT r
theorem tb_80_52 : mm_tb pg_G 80 52 = some (.iload_n 1, 0, 0, 0) := rfl
theorem st_80_52 {l0 l2 : Value} {d : Nat} {t : List Value} {g : mm_M} {r : mm_R} {x : Int32} : mm_Rn pg_G d 80 52 [l0, .int x, l2] (t) g r ↔ mm_Rn pg_G d 80 53 [l0, .int x, l2] (.int x :: t) g r := rn_iload_n tb_80_52 rfl r
theorem tb_80_53 : mm_tb pg_G 80 53 = some (.iaload, 0, 0, 0) := rfl
theorem st_80_53 {d : Nat} {ls t : List Value} {g : mm_M} {r : mm_R} {x : Nat} {j : Int32} (hc : mm_in (g.1 x) 100 101 j = true) : mm_Rn pg_G d 80 53 ls (.int j :: .ref x :: t) g r ↔ mm_Rn pg_G d 80 54 ls (g.2.1 x j.toNatClampNeg :: t) g r := rn_iaload tb_80_53 hc r
theorem tb_80_54 : mm_tb pg_G 80 54 = some (.iconst 2, 0, 0, 0) := rfl
theorem st_80_54 {d : Nat} {ls t : List Value} {g : mm_M} {r : mm_R} : mm_Rn pg_G d 80 54 ls (t) g r ↔ mm_Rn pg_G d 80 55 ls (io_v 2 :: t) g r := rn_iconst tb_80_54 r
theorem tb_80_55 : mm_tb pg_G 80 55 = some (.if_icmp .ne 26, 81, 0, 0) := rfl
theorem st_80_55 {d : Nat} {ls t : List Value} {g : mm_M} {r : mm_R} {x y : Int32} : mm_Rn pg_G d 80 55 ls (.int y :: .int x :: t) g r ↔ if x = y then mm_Rn pg_G d 80 58 ls (t) g r else mm_Rn pg_G d 80 81 ls (t) g r := rn_icmp_ne tb_80_55 r
theorem tb_80_58 : mm_tb pg_G 80 58 = some (.aload_n 0, 0, 0, 0) := rfl
theorem st_80_58 {l1 l2 : Value} {d : Nat} {t : List Value} {g : mm_M} {r : mm_R} {x : Nat} : mm_Rn pg_G d 80 58 [.ref x, l1, l2] (t) g r ↔ mm_Rn pg_G d 80 59 [.ref x, l1, l2] (.ref x :: t) g r := rn_aload_n tb_80_58 rfl r
theorem tb_80_59 : mm_tb pg_G 80 59 = some (.getfield 105, 6, 9, 431) := rfl
theorem st_80_59 {d : Nat} {ls t : List Value} {g : mm_M} {r : mm_R} {x : Nat} (hT : g.1 x = some (6, 35)) : mm_Rn pg_G d 80 59 ls (.ref x :: t) g r ↔ mm_Rn pg_G d 80 62 ls (g.2.1 x 9 :: t) g r := rn_getfield tb_80_59 hT r
theorem tb_80_62 : mm_tb pg_G 80 62 = some (.aload_n 0, 0, 0, 0) := rfl
theorem st_80_62 {l1 l2 : Value} {d : Nat} {t : List Value} {g : mm_M} {r : mm_R} {x : Nat} : mm_Rn pg_G d 80 62 [.ref x, l1, l2] (t) g r ↔ mm_Rn pg_G d 80 63 [.ref x, l1, l2] (.ref x :: t) g r := rn_aload_n tb_80_62 rfl r
theorem tb_80_63 : mm_tb pg_G 80 63 = some (.getfield 37, 6, 19, 441) := rfl
theorem st_80_63 {d : Nat} {ls t : List Value} {g : mm_M} {r : mm_R} {x : Nat} (hT : g.1 x = some (6, 35)) : mm_Rn pg_G d 80 63 ls (.ref x :: t) g r ↔ mm_Rn pg_G d 80 66 ls (g.2.1 x 19 :: t) g r := rn_getfield tb_80_63 hT r
theorem tb_80_66 : mm_tb pg_G 80 66 = some (.iload_n 1, 0, 0, 0) := rfl
theorem st_80_66 {l0 l2 : Value} {d : Nat} {t : List Value} {g : mm_M} {r : mm_R} {x : Int32} : mm_Rn pg_G d 80 66 [l0, .int x, l2] (t) g r ↔ mm_Rn pg_G d 80 67 [l0, .int x, l2] (.int x :: t) g r := rn_iload_n tb_80_66 rfl r
theorem tb_80_67 : mm_tb pg_G 80 67 = some (.iaload, 0, 0, 0) := rfl
theorem st_80_67 {d : Nat} {ls t : List Value} {g : mm_M} {r : mm_R} {x : Nat} {j : Int32} (hc : mm_in (g.1 x) 100 101 j = true) : mm_Rn pg_G d 80 67 ls (.int j :: .ref x :: t) g r ↔ mm_Rn pg_G d 80 68 ls (g.2.1 x j.toNatClampNeg :: t) g r := rn_iaload tb_80_67 hc r
theorem tb_80_68 : mm_tb pg_G 80 68 = some (.isub, 0, 0, 0) := rfl
theorem st_80_68 {d : Nat} {ls t : List Value} {g : mm_M} {r : mm_R} {x y : Int32} : mm_Rn pg_G d 80 68 ls (.int y :: .int x :: t) g r ↔ mm_Rn pg_G d 80 69 ls (.int (x - y) :: t) g r := rn_isub tb_80_68 r
theorem tb_80_69 : mm_tb pg_G 80 69 = some (.aload_n 0, 0, 0, 0) := rfl
theorem st_80_69 {l1 l2 : Value} {d : Nat} {t : List Value} {g : mm_M} {r : mm_R} {x : Nat} : mm_Rn pg_G d 80 69 [.ref x, l1, l2] (t) g r ↔ mm_Rn pg_G d 80 70 [.ref x, l1, l2] (.ref x :: t) g r := rn_aload_n tb_80_69 rfl r
theorem tb_80_70 : mm_tb pg_G 80 70 = some (.getfield 7, 6, 1, 423) := rfl
theorem st_80_70 {d : Nat} {ls t : List Value} {g : mm_M} {r : mm_R} {x : Nat} (hT : g.1 x = some (6, 35)) : mm_Rn pg_G d 80 70 ls (.ref x :: t) g r ↔ mm_Rn pg_G d 80 73 ls (g.2.1 x 1 :: t) g r := rn_getfield tb_80_70 hT r
theorem tb_80_73 : mm_tb pg_G 80 73 = some (.iload_n 1, 0, 0, 0) := rfl
theorem st_80_73 {l0 l2 : Value} {d : Nat} {t : List Value} {g : mm_M} {r : mm_R} {x : Int32} : mm_Rn pg_G d 80 73 [l0, .int x, l2] (t) g r ↔ mm_Rn pg_G d 80 74 [l0, .int x, l2] (.int x :: t) g r := rn_iload_n tb_80_73 rfl r
theorem tb_80_74 : mm_tb pg_G 80 74 = some (.iaload, 0, 0, 0) := rfl
theorem st_80_74 {d : Nat} {ls t : List Value} {g : mm_M} {r : mm_R} {x : Nat} {j : Int32} (hc : mm_in (g.1 x) 100 101 j = true) : mm_Rn pg_G d 80 74 ls (.int j :: .ref x :: t) g r ↔ mm_Rn pg_G d 80 75 ls (g.2.1 x j.toNatClampNeg :: t) g r := rn_iaload tb_80_74 hc r
theorem tb_80_75 : mm_tb pg_G 80 75 = some (.if_icmp .ge 6, 81, 0, 0) := rfl
theorem st_80_75 {d : Nat} {ls t : List Value} {g : mm_M} {r : mm_R} {x y : Int32} : mm_Rn pg_G d 80 75 ls (.int y :: .int x :: t) g r ↔ if y ≤ x then mm_Rn pg_G d 80 81 ls (t) g r else mm_Rn pg_G d 80 78 ls (t) g r := rn_icmp_ge tb_80_75 r
theorem tb_80_78 : mm_tb pg_G 80 78 = some (.bipush (-4), 0, 0, 0) := rfl
theorem st_80_78 {d : Nat} {ls t : List Value} {g : mm_M} {r : mm_R} : mm_Rn pg_G d 80 78 ls (t) g r ↔ mm_Rn pg_G d 80 80 ls (io_v (-4) :: t) g r := rn_bipush tb_80_78 r
theorem tb_80_80 : mm_tb pg_G 80 80 = some (.ireturn, 0, 0, 0) := rfl
theorem st_80_80 {d : Nat} {ls : List Value} {g : mm_M} {r : mm_R} {x : Int32} : mm_Rn pg_G d 80 80 ls [.int x] g r ↔ r = (some (.int x), g) := rn_ireturn_iff tb_80_80 (Or.inl rfl) r
theorem tb_80_81 : mm_tb pg_G 80 81 = some (.aload_n 0, 0, 0, 0) := rfl
theorem st_80_81 {l1 l2 : Value} {d : Nat} {t : List Value} {g : mm_M} {r : mm_R} {x : Nat} : mm_Rn pg_G d 80 81 [.ref x, l1, l2] (t) g r ↔ mm_Rn pg_G d 80 82 [.ref x, l1, l2] (.ref x :: t) g r := rn_aload_n tb_80_81 rfl r
theorem tb_80_82 : mm_tb pg_G 80 82 = some (.getfield 34, 6, 18, 440) := rfl
theorem st_80_82 {d : Nat} {ls t : List Value} {g : mm_M} {r : mm_R} {x : Nat} (hT : g.1 x = some (6, 35)) : mm_Rn pg_G d 80 82 ls (.ref x :: t) g r ↔ mm_Rn pg_G d 80 85 ls (g.2.1 x 18 :: t) g r := rn_getfield tb_80_82 hT r
theorem tb_80_85 : mm_tb pg_G 80 85 = some (.iload_n 1, 0, 0, 0) := rfl
theorem st_80_85 {l0 l2 : Value} {d : Nat} {t : List Value} {g : mm_M} {r : mm_R} {x : Int32} : mm_Rn pg_G d 80 85 [l0, .int x, l2] (t) g r ↔ mm_Rn pg_G d 80 86 [l0, .int x, l2] (.int x :: t) g r := rn_iload_n tb_80_85 rfl r
theorem tb_80_86 : mm_tb pg_G 80 86 = some (.iconst 1, 0, 0, 0) := rfl
theorem st_80_86 {d : Nat} {ls t : List Value} {g : mm_M} {r : mm_R} : mm_Rn pg_G d 80 86 ls (t) g r ↔ mm_Rn pg_G d 80 87 ls (io_v 1 :: t) g r := rn_iconst tb_80_86 r
theorem tb_80_87 : mm_tb pg_G 80 87 = some (.iastore, 0, 0, 0) := rfl
theorem st_80_87 {d : Nat} {ls t : List Value} {g : mm_M} {r : mm_R} {x : Nat} {j v : Int32} (hc : mm_in (g.1 x) 100 100 j = true) : mm_Rn pg_G d 80 87 ls (.int v :: .int j :: .ref x :: t) g r ↔ mm_Rn pg_G d 80 88 ls (t) (mm_wr g x j.toNatClampNeg (.int v)) r := rn_iastore tb_80_87 hc r
theorem tb_80_88 : mm_tb pg_G 80 88 = some (.aload_n 0, 0, 0, 0) := rfl
theorem st_80_88 {l1 l2 : Value} {d : Nat} {t : List Value} {g : mm_M} {r : mm_R} {x : Nat} : mm_Rn pg_G d 80 88 [.ref x, l1, l2] (t) g r ↔ mm_Rn pg_G d 80 89 [.ref x, l1, l2] (.ref x :: t) g r := rn_aload_n tb_80_88 rfl r
theorem tb_80_89 : mm_tb pg_G 80 89 = some (.getfield 37, 6, 19, 441) := rfl
theorem st_80_89 {d : Nat} {ls t : List Value} {g : mm_M} {r : mm_R} {x : Nat} (hT : g.1 x = some (6, 35)) : mm_Rn pg_G d 80 89 ls (.ref x :: t) g r ↔ mm_Rn pg_G d 80 92 ls (g.2.1 x 19 :: t) g r := rn_getfield tb_80_89 hT r
theorem tb_80_92 : mm_tb pg_G 80 92 = some (.iload_n 1, 0, 0, 0) := rfl
theorem st_80_92 {l0 l2 : Value} {d : Nat} {t : List Value} {g : mm_M} {r : mm_R} {x : Int32} : mm_Rn pg_G d 80 92 [l0, .int x, l2] (t) g r ↔ mm_Rn pg_G d 80 93 [l0, .int x, l2] (.int x :: t) g r := rn_iload_n tb_80_92 rfl r
theorem tb_80_93 : mm_tb pg_G 80 93 = some (.aload_n 0, 0, 0, 0) := rfl
theorem st_80_93 {l1 l2 : Value} {d : Nat} {t : List Value} {g : mm_M} {r : mm_R} {x : Nat} : mm_Rn pg_G d 80 93 [.ref x, l1, l2] (t) g r ↔ mm_Rn pg_G d 80 94 [.ref x, l1, l2] (.ref x :: t) g r := rn_aload_n tb_80_93 rfl r
theorem tb_80_94 : mm_tb pg_G 80 94 = some (.getfield 105, 6, 9, 431) := rfl
theorem st_80_94 {d : Nat} {ls t : List Value} {g : mm_M} {r : mm_R} {x : Nat} (hT : g.1 x = some (6, 35)) : mm_Rn pg_G d 80 94 ls (.ref x :: t) g r ↔ mm_Rn pg_G d 80 97 ls (g.2.1 x 9 :: t) g r := rn_getfield tb_80_94 hT r
theorem tb_80_97 : mm_tb pg_G 80 97 = some (.iastore, 0, 0, 0) := rfl
theorem st_80_97 {d : Nat} {ls t : List Value} {g : mm_M} {r : mm_R} {x : Nat} {j v : Int32} (hc : mm_in (g.1 x) 100 100 j = true) : mm_Rn pg_G d 80 97 ls (.int v :: .int j :: .ref x :: t) g r ↔ mm_Rn pg_G d 80 98 ls (t) (mm_wr g x j.toNatClampNeg (.int v)) r := rn_iastore tb_80_97 hc r
theorem tb_80_98 : mm_tb pg_G 80 98 = some (.aload_n 0, 0, 0, 0) := rfl
theorem st_80_98 {l1 l2 : Value} {d : Nat} {t : List Value} {g : mm_M} {r : mm_R} {x : Nat} : mm_Rn pg_G d 80 98 [.ref x, l1, l2] (t) g r ↔ mm_Rn pg_G d 80 99 [.ref x, l1, l2] (.ref x :: t) g r := rn_aload_n tb_80_98 rfl r
theorem tb_80_99 : mm_tb pg_G 80 99 = some (.getfield 40, 6, 20, 442) := rfl
theorem st_80_99 {d : Nat} {ls t : List Value} {g : mm_M} {r : mm_R} {x : Nat} (hT : g.1 x = some (6, 35)) : mm_Rn pg_G d 80 99 ls (.ref x :: t) g r ↔ mm_Rn pg_G d 80 102 ls (g.2.1 x 20 :: t) g r := rn_getfield tb_80_99 hT r
theorem tb_80_102 : mm_tb pg_G 80 102 = some (.iload_n 1, 0, 0, 0) := rfl
theorem st_80_102 {l0 l2 : Value} {d : Nat} {t : List Value} {g : mm_M} {r : mm_R} {x : Int32} : mm_Rn pg_G d 80 102 [l0, .int x, l2] (t) g r ↔ mm_Rn pg_G d 80 103 [l0, .int x, l2] (.int x :: t) g r := rn_iload_n tb_80_102 rfl r
theorem tb_80_103 : mm_tb pg_G 80 103 = some (.iload_n 2, 0, 0, 0) := rfl
theorem st_80_103 {l0 l1 : Value} {d : Nat} {t : List Value} {g : mm_M} {r : mm_R} {x : Int32} : mm_Rn pg_G d 80 103 [l0, l1, .int x] (t) g r ↔ mm_Rn pg_G d 80 104 [l0, l1, .int x] (.int x :: t) g r := rn_iload_n tb_80_103 rfl r
theorem tb_80_104 : mm_tb pg_G 80 104 = some (.iastore, 0, 0, 0) := rfl
theorem st_80_104 {d : Nat} {ls t : List Value} {g : mm_M} {r : mm_R} {x : Nat} {j v : Int32} (hc : mm_in (g.1 x) 100 100 j = true) : mm_Rn pg_G d 80 104 ls (.int v :: .int j :: .ref x :: t) g r ↔ mm_Rn pg_G d 80 105 ls (t) (mm_wr g x j.toNatClampNeg (.int v)) r := rn_iastore tb_80_104 hc r
theorem tb_80_105 : mm_tb pg_G 80 105 = some (.aload_n 0, 0, 0, 0) := rfl
theorem st_80_105 {l1 l2 : Value} {d : Nat} {t : List Value} {g : mm_M} {r : mm_R} {x : Nat} : mm_Rn pg_G d 80 105 [.ref x, l1, l2] (t) g r ↔ mm_Rn pg_G d 80 106 [.ref x, l1, l2] (.ref x :: t) g r := rn_aload_n tb_80_105 rfl r
theorem tb_80_106 : mm_tb pg_G 80 106 = some (.getfield 43, 6, 21, 443) := rfl
theorem st_80_106 {d : Nat} {ls t : List Value} {g : mm_M} {r : mm_R} {x : Nat} (hT : g.1 x = some (6, 35)) : mm_Rn pg_G d 80 106 ls (.ref x :: t) g r ↔ mm_Rn pg_G d 80 109 ls (g.2.1 x 21 :: t) g r := rn_getfield tb_80_106 hT r
theorem tb_80_109 : mm_tb pg_G 80 109 = some (.iload_n 1, 0, 0, 0) := rfl
theorem st_80_109 {l0 l2 : Value} {d : Nat} {t : List Value} {g : mm_M} {r : mm_R} {x : Int32} : mm_Rn pg_G d 80 109 [l0, .int x, l2] (t) g r ↔ mm_Rn pg_G d 80 110 [l0, .int x, l2] (.int x :: t) g r := rn_iload_n tb_80_109 rfl r
theorem tb_80_110 : mm_tb pg_G 80 110 = some (.iconst 0, 0, 0, 0) := rfl
theorem st_80_110 {d : Nat} {ls t : List Value} {g : mm_M} {r : mm_R} : mm_Rn pg_G d 80 110 ls (t) g r ↔ mm_Rn pg_G d 80 111 ls (io_v 0 :: t) g r := rn_iconst tb_80_110 r
theorem tb_80_111 : mm_tb pg_G 80 111 = some (.iastore, 0, 0, 0) := rfl
theorem st_80_111 {d : Nat} {ls t : List Value} {g : mm_M} {r : mm_R} {x : Nat} {j v : Int32} (hc : mm_in (g.1 x) 100 100 j = true) : mm_Rn pg_G d 80 111 ls (.int v :: .int j :: .ref x :: t) g r ↔ mm_Rn pg_G d 80 112 ls (t) (mm_wr g x j.toNatClampNeg (.int v)) r := rn_iastore tb_80_111 hc r
theorem tb_80_112 : mm_tb pg_G 80 112 = some (.aload_n 0, 0, 0, 0) := rfl
theorem st_80_112 {l1 l2 : Value} {d : Nat} {t : List Value} {g : mm_M} {r : mm_R} {x : Nat} : mm_Rn pg_G d 80 112 [.ref x, l1, l2] (t) g r ↔ mm_Rn pg_G d 80 113 [.ref x, l1, l2] (.ref x :: t) g r := rn_aload_n tb_80_112 rfl r
theorem tb_80_113 : mm_tb pg_G 80 113 = some (.getfield 46, 6, 22, 444) := rfl
theorem st_80_113 {d : Nat} {ls t : List Value} {g : mm_M} {r : mm_R} {x : Nat} (hT : g.1 x = some (6, 35)) : mm_Rn pg_G d 80 113 ls (.ref x :: t) g r ↔ mm_Rn pg_G d 80 116 ls (g.2.1 x 22 :: t) g r := rn_getfield tb_80_113 hT r
theorem tb_80_116 : mm_tb pg_G 80 116 = some (.iload_n 1, 0, 0, 0) := rfl
theorem st_80_116 {l0 l2 : Value} {d : Nat} {t : List Value} {g : mm_M} {r : mm_R} {x : Int32} : mm_Rn pg_G d 80 116 [l0, .int x, l2] (t) g r ↔ mm_Rn pg_G d 80 117 [l0, .int x, l2] (.int x :: t) g r := rn_iload_n tb_80_116 rfl r
theorem tb_80_117 : mm_tb pg_G 80 117 = some (.iconst 0, 0, 0, 0) := rfl
theorem st_80_117 {d : Nat} {ls t : List Value} {g : mm_M} {r : mm_R} : mm_Rn pg_G d 80 117 ls (t) g r ↔ mm_Rn pg_G d 80 118 ls (io_v 0 :: t) g r := rn_iconst tb_80_117 r
theorem tb_80_118 : mm_tb pg_G 80 118 = some (.iastore, 0, 0, 0) := rfl
theorem st_80_118 {d : Nat} {ls t : List Value} {g : mm_M} {r : mm_R} {x : Nat} {j v : Int32} (hc : mm_in (g.1 x) 100 100 j = true) : mm_Rn pg_G d 80 118 ls (.int v :: .int j :: .ref x :: t) g r ↔ mm_Rn pg_G d 80 119 ls (t) (mm_wr g x j.toNatClampNeg (.int v)) r := rn_iastore tb_80_118 hc r
theorem tb_80_119 : mm_tb pg_G 80 119 = some (.aload_n 0, 0, 0, 0) := rfl
theorem st_80_119 {l1 l2 : Value} {d : Nat} {t : List Value} {g : mm_M} {r : mm_R} {x : Nat} : mm_Rn pg_G d 80 119 [.ref x, l1, l2] (t) g r ↔ mm_Rn pg_G d 80 120 [.ref x, l1, l2] (.ref x :: t) g r := rn_aload_n tb_80_119 rfl r
theorem tb_80_120 : mm_tb pg_G 80 120 = some (.getfield 49, 6, 23, 445) := rfl
theorem st_80_120 {d : Nat} {ls t : List Value} {g : mm_M} {r : mm_R} {x : Nat} (hT : g.1 x = some (6, 35)) : mm_Rn pg_G d 80 120 ls (.ref x :: t) g r ↔ mm_Rn pg_G d 80 123 ls (g.2.1 x 23 :: t) g r := rn_getfield tb_80_120 hT r
theorem tb_80_123 : mm_tb pg_G 80 123 = some (.iload_n 1, 0, 0, 0) := rfl
theorem st_80_123 {l0 l2 : Value} {d : Nat} {t : List Value} {g : mm_M} {r : mm_R} {x : Int32} : mm_Rn pg_G d 80 123 [l0, .int x, l2] (t) g r ↔ mm_Rn pg_G d 80 124 [l0, .int x, l2] (.int x :: t) g r := rn_iload_n tb_80_123 rfl r
theorem tb_80_124 : mm_tb pg_G 80 124 = some (.iconst 0, 0, 0, 0) := rfl
theorem st_80_124 {d : Nat} {ls t : List Value} {g : mm_M} {r : mm_R} : mm_Rn pg_G d 80 124 ls (t) g r ↔ mm_Rn pg_G d 80 125 ls (io_v 0 :: t) g r := rn_iconst tb_80_124 r
theorem tb_80_125 : mm_tb pg_G 80 125 = some (.iastore, 0, 0, 0) := rfl
theorem st_80_125 {d : Nat} {ls t : List Value} {g : mm_M} {r : mm_R} {x : Nat} {j v : Int32} (hc : mm_in (g.1 x) 100 100 j = true) : mm_Rn pg_G d 80 125 ls (.int v :: .int j :: .ref x :: t) g r ↔ mm_Rn pg_G d 80 126 ls (t) (mm_wr g x j.toNatClampNeg (.int v)) r := rn_iastore tb_80_125 hc r
theorem tb_80_126 : mm_tb pg_G 80 126 = some (.aload_n 0, 0, 0, 0) := rfl
theorem st_80_126 {l1 l2 : Value} {d : Nat} {t : List Value} {g : mm_M} {r : mm_R} {x : Nat} : mm_Rn pg_G d 80 126 [.ref x, l1, l2] (t) g r ↔ mm_Rn pg_G d 80 127 [.ref x, l1, l2] (.ref x :: t) g r := rn_aload_n tb_80_126 rfl r
theorem tb_80_127 : mm_tb pg_G 80 127 = some (.getfield 52, 6, 24, 446) := rfl
theorem st_80_127 {d : Nat} {ls t : List Value} {g : mm_M} {r : mm_R} {x : Nat} (hT : g.1 x = some (6, 35)) : mm_Rn pg_G d 80 127 ls (.ref x :: t) g r ↔ mm_Rn pg_G d 80 130 ls (g.2.1 x 24 :: t) g r := rn_getfield tb_80_127 hT r
theorem tb_80_130 : mm_tb pg_G 80 130 = some (.iload_n 1, 0, 0, 0) := rfl
theorem st_80_130 {l0 l2 : Value} {d : Nat} {t : List Value} {g : mm_M} {r : mm_R} {x : Int32} : mm_Rn pg_G d 80 130 [l0, .int x, l2] (t) g r ↔ mm_Rn pg_G d 80 131 [l0, .int x, l2] (.int x :: t) g r := rn_iload_n tb_80_130 rfl r
theorem tb_80_131 : mm_tb pg_G 80 131 = some (.iconst 0, 0, 0, 0) := rfl
theorem st_80_131 {d : Nat} {ls t : List Value} {g : mm_M} {r : mm_R} : mm_Rn pg_G d 80 131 ls (t) g r ↔ mm_Rn pg_G d 80 132 ls (io_v 0 :: t) g r := rn_iconst tb_80_131 r
theorem tb_80_132 : mm_tb pg_G 80 132 = some (.iastore, 0, 0, 0) := rfl
theorem st_80_132 {d : Nat} {ls t : List Value} {g : mm_M} {r : mm_R} {x : Nat} {j v : Int32} (hc : mm_in (g.1 x) 100 100 j = true) : mm_Rn pg_G d 80 132 ls (.int v :: .int j :: .ref x :: t) g r ↔ mm_Rn pg_G d 80 133 ls (t) (mm_wr g x j.toNatClampNeg (.int v)) r := rn_iastore tb_80_132 hc r
theorem tb_80_133 : mm_tb pg_G 80 133 = some (.aload_n 0, 0, 0, 0) := rfl
theorem st_80_133 {l1 l2 : Value} {d : Nat} {t : List Value} {g : mm_M} {r : mm_R} {x : Nat} : mm_Rn pg_G d 80 133 [.ref x, l1, l2] (t) g r ↔ mm_Rn pg_G d 80 134 [.ref x, l1, l2] (.ref x :: t) g r := rn_aload_n tb_80_133 rfl r
theorem tb_80_134 : mm_tb pg_G 80 134 = some (.dup, 0, 0, 0) := rfl
theorem st_80_134 {d : Nat} {ls t : List Value} {g : mm_M} {r : mm_R} {v : Value} (hc : mm_c1 v = true) : mm_Rn pg_G d 80 134 ls (v :: t) g r ↔ mm_Rn pg_G d 80 135 ls (v :: v :: t) g r := rn_dup tb_80_134 hc r
theorem tb_80_135 : mm_tb pg_G 80 135 = some (.getfield 108, 6, 29, 451) := rfl
theorem st_80_135 {d : Nat} {ls t : List Value} {g : mm_M} {r : mm_R} {x : Nat} (hT : g.1 x = some (6, 35)) : mm_Rn pg_G d 80 135 ls (.ref x :: t) g r ↔ mm_Rn pg_G d 80 138 ls (g.2.1 x 29 :: t) g r := rn_getfield tb_80_135 hT r
theorem tb_80_138 : mm_tb pg_G 80 138 = some (.iconst 1, 0, 0, 0) := rfl
theorem st_80_138 {d : Nat} {ls t : List Value} {g : mm_M} {r : mm_R} : mm_Rn pg_G d 80 138 ls (t) g r ↔ mm_Rn pg_G d 80 139 ls (io_v 1 :: t) g r := rn_iconst tb_80_138 r
theorem tb_80_139 : mm_tb pg_G 80 139 = some (.iadd, 0, 0, 0) := rfl
theorem st_80_139 {d : Nat} {ls t : List Value} {g : mm_M} {r : mm_R} {x y : Int32} : mm_Rn pg_G d 80 139 ls (.int y :: .int x :: t) g r ↔ mm_Rn pg_G d 80 140 ls (.int (x + y) :: t) g r := rn_iadd tb_80_139 r
theorem tb_80_140 : mm_tb pg_G 80 140 = some (.putfield 108, 6, 29, 451) := rfl
theorem st_80_140 {d : Nat} {ls t : List Value} {g : mm_M} {r : mm_R} {x : Nat} {v : Int32} (hT : g.1 x = some (6, 35)) : mm_Rn pg_G d 80 140 ls (.int v :: .ref x :: t) g r ↔ mm_Rn pg_G d 80 143 ls (t) (mm_wr g x 29 (.int v)) r := rn_putfield tb_80_140 hT rfl r
theorem tb_80_143 : mm_tb pg_G 80 143 = some (.aload_n 0, 0, 0, 0) := rfl
theorem st_80_143 {l1 l2 : Value} {d : Nat} {t : List Value} {g : mm_M} {r : mm_R} {x : Nat} : mm_Rn pg_G d 80 143 [.ref x, l1, l2] (t) g r ↔ mm_Rn pg_G d 80 144 [.ref x, l1, l2] (.ref x :: t) g r := rn_aload_n tb_80_143 rfl r
theorem tb_80_144 : mm_tb pg_G 80 144 = some (.getfield 108, 6, 29, 451) := rfl
theorem st_80_144 {d : Nat} {ls t : List Value} {g : mm_M} {r : mm_R} {x : Nat} (hT : g.1 x = some (6, 35)) : mm_Rn pg_G d 80 144 ls (.ref x :: t) g r ↔ mm_Rn pg_G d 80 147 ls (g.2.1 x 29 :: t) g r := rn_getfield tb_80_144 hT r
theorem tb_80_147 : mm_tb pg_G 80 147 = some (.ireturn, 0, 0, 0) := rfl
theorem st_80_147 {d : Nat} {ls : List Value} {g : mm_M} {r : mm_R} {x : Int32} : mm_Rn pg_G d 80 147 ls [.int x] g r ↔ r = (some (.int x), g) := rn_ireturn_iff tb_80_147 (Or.inl rfl) r
theorem tb_81_0 : mm_tb pg_G 81 0 = some (.aload_n 0, 0, 0, 0) := rfl
theorem st_81_0 {l1 : Value} {d : Nat} {t : List Value} {g : mm_M} {r : mm_R} {x : Nat} : mm_Rn pg_G d 81 0 [.ref x, l1] (t) g r ↔ mm_Rn pg_G d 81 1 [.ref x, l1] (.ref x :: t) g r := rn_aload_n tb_81_0 rfl r
theorem tb_81_1 : mm_tb pg_G 81 1 = some (.getfield 67, 6, 8, 430) := rfl
theorem st_81_1 {d : Nat} {ls t : List Value} {g : mm_M} {r : mm_R} {x : Nat} (hT : g.1 x = some (6, 35)) : mm_Rn pg_G d 81 1 ls (.ref x :: t) g r ↔ mm_Rn pg_G d 81 4 ls (g.2.1 x 8 :: t) g r := rn_getfield tb_81_1 hT r
theorem tb_81_4 : mm_tb pg_G 81 4 = some (.ifCond .eq 30, 34, 0, 0) := rfl
theorem st_81_4 {d : Nat} {ls t : List Value} {g : mm_M} {r : mm_R} {x : Int32} : mm_Rn pg_G d 81 4 ls (.int x :: t) g r ↔ if x = 0 then mm_Rn pg_G d 81 34 ls (t) g r else mm_Rn pg_G d 81 7 ls (t) g r := rn_if_eq tb_81_4 r
theorem tb_81_7 : mm_tb pg_G 81 7 = some (.aload_n 0, 0, 0, 0) := rfl
theorem st_81_7 {l1 : Value} {d : Nat} {t : List Value} {g : mm_M} {r : mm_R} {x : Nat} : mm_Rn pg_G d 81 7 [.ref x, l1] (t) g r ↔ mm_Rn pg_G d 81 8 [.ref x, l1] (.ref x :: t) g r := rn_aload_n tb_81_7 rfl r
theorem tb_81_8 : mm_tb pg_G 81 8 = some (.getfield 83, 6, 10, 432) := rfl
theorem st_81_8 {d : Nat} {ls t : List Value} {g : mm_M} {r : mm_R} {x : Nat} (hT : g.1 x = some (6, 35)) : mm_Rn pg_G d 81 8 ls (.ref x :: t) g r ↔ mm_Rn pg_G d 81 11 ls (g.2.1 x 10 :: t) g r := rn_getfield tb_81_8 hT r
theorem tb_81_11 : mm_tb pg_G 81 11 = some (.ifCond .eq 23, 34, 0, 0) := rfl
theorem st_81_11 {d : Nat} {ls t : List Value} {g : mm_M} {r : mm_R} {x : Int32} : mm_Rn pg_G d 81 11 ls (.int x :: t) g r ↔ if x = 0 then mm_Rn pg_G d 81 34 ls (t) g r else mm_Rn pg_G d 81 14 ls (t) g r := rn_if_eq tb_81_11 r
theorem tb_81_14 : mm_tb pg_G 81 14 = some (.iload_n 1, 0, 0, 0) := rfl
theorem st_81_14 {l0 : Value} {d : Nat} {t : List Value} {g : mm_M} {r : mm_R} {x : Int32} : mm_Rn pg_G d 81 14 [l0, .int x] (t) g r ↔ mm_Rn pg_G d 81 15 [l0, .int x] (.int x :: t) g r := rn_iload_n tb_81_14 rfl r
theorem tb_81_15 : mm_tb pg_G 81 15 = some (.iconst 1, 0, 0, 0) := rfl
theorem st_81_15 {d : Nat} {ls t : List Value} {g : mm_M} {r : mm_R} : mm_Rn pg_G d 81 15 ls (t) g r ↔ mm_Rn pg_G d 81 16 ls (io_v 1 :: t) g r := rn_iconst tb_81_15 r
theorem tb_81_16 : mm_tb pg_G 81 16 = some (.if_icmp .lt 18, 34, 0, 0) := rfl
theorem st_81_16 {d : Nat} {ls t : List Value} {g : mm_M} {r : mm_R} {x y : Int32} : mm_Rn pg_G d 81 16 ls (.int y :: .int x :: t) g r ↔ if x < y then mm_Rn pg_G d 81 34 ls (t) g r else mm_Rn pg_G d 81 19 ls (t) g r := rn_icmp_lt tb_81_16 r
theorem tb_81_19 : mm_tb pg_G 81 19 = some (.iload_n 1, 0, 0, 0) := rfl
theorem st_81_19 {l0 : Value} {d : Nat} {t : List Value} {g : mm_M} {r : mm_R} {x : Int32} : mm_Rn pg_G d 81 19 [l0, .int x] (t) g r ↔ mm_Rn pg_G d 81 20 [l0, .int x] (.int x :: t) g r := rn_iload_n tb_81_19 rfl r
theorem tb_81_20 : mm_tb pg_G 81 20 = some (.bipush 50, 0, 0, 0) := rfl
theorem st_81_20 {d : Nat} {ls t : List Value} {g : mm_M} {r : mm_R} : mm_Rn pg_G d 81 20 ls (t) g r ↔ mm_Rn pg_G d 81 22 ls (io_v 50 :: t) g r := rn_bipush tb_81_20 r
theorem tb_81_22 : mm_tb pg_G 81 22 = some (.if_icmp .gt 12, 34, 0, 0) := rfl
theorem st_81_22 {d : Nat} {ls t : List Value} {g : mm_M} {r : mm_R} {x y : Int32} : mm_Rn pg_G d 81 22 ls (.int y :: .int x :: t) g r ↔ if y < x then mm_Rn pg_G d 81 34 ls (t) g r else mm_Rn pg_G d 81 25 ls (t) g r := rn_icmp_gt tb_81_22 r
theorem tb_81_25 : mm_tb pg_G 81 25 = some (.aload_n 0, 0, 0, 0) := rfl
theorem st_81_25 {l1 : Value} {d : Nat} {t : List Value} {g : mm_M} {r : mm_R} {x : Nat} : mm_Rn pg_G d 81 25 [.ref x, l1] (t) g r ↔ mm_Rn pg_G d 81 26 [.ref x, l1] (.ref x :: t) g r := rn_aload_n tb_81_25 rfl r
theorem tb_81_26 : mm_tb pg_G 81 26 = some (.getfield 111, 6, 14, 436) := rfl
theorem st_81_26 {d : Nat} {ls t : List Value} {g : mm_M} {r : mm_R} {x : Nat} (hT : g.1 x = some (6, 35)) : mm_Rn pg_G d 81 26 ls (.ref x :: t) g r ↔ mm_Rn pg_G d 81 29 ls (g.2.1 x 14 :: t) g r := rn_getfield tb_81_26 hT r
theorem tb_81_29 : mm_tb pg_G 81 29 = some (.bipush 8, 0, 0, 0) := rfl
theorem st_81_29 {d : Nat} {ls t : List Value} {g : mm_M} {r : mm_R} : mm_Rn pg_G d 81 29 ls (t) g r ↔ mm_Rn pg_G d 81 31 ls (io_v 8 :: t) g r := rn_bipush tb_81_29 r
theorem tb_81_31 : mm_tb pg_G 81 31 = some (.if_icmp .ne 5, 36, 0, 0) := rfl
theorem st_81_31 {d : Nat} {ls t : List Value} {g : mm_M} {r : mm_R} {x y : Int32} : mm_Rn pg_G d 81 31 ls (.int y :: .int x :: t) g r ↔ if x = y then mm_Rn pg_G d 81 34 ls (t) g r else mm_Rn pg_G d 81 36 ls (t) g r := rn_icmp_ne tb_81_31 r
theorem tb_81_34 : mm_tb pg_G 81 34 = some (.iconst 0, 0, 0, 0) := rfl
theorem st_81_34 {d : Nat} {ls t : List Value} {g : mm_M} {r : mm_R} : mm_Rn pg_G d 81 34 ls (t) g r ↔ mm_Rn pg_G d 81 35 ls (io_v 0 :: t) g r := rn_iconst tb_81_34 r
theorem tb_81_35 : mm_tb pg_G 81 35 = some (.ireturn, 0, 0, 0) := rfl
theorem st_81_35 {d : Nat} {ls : List Value} {g : mm_M} {r : mm_R} {x : Int32} (hb : x = 0 ∨ x = 1) : mm_Rn pg_G d 81 35 ls [.int x] g r ↔ r = (some (.int x), g) := rn_ireturn_iff tb_81_35 (Or.inr ⟨rfl, hb⟩) r
theorem tb_81_36 : mm_tb pg_G 81 36 = some (.aload_n 0, 0, 0, 0) := rfl
theorem st_81_36 {l1 : Value} {d : Nat} {t : List Value} {g : mm_M} {r : mm_R} {x : Nat} : mm_Rn pg_G d 81 36 [.ref x, l1] (t) g r ↔ mm_Rn pg_G d 81 37 [.ref x, l1] (.ref x :: t) g r := rn_aload_n tb_81_36 rfl r
theorem tb_81_37 : mm_tb pg_G 81 37 = some (.getfield 111, 6, 14, 436) := rfl
theorem st_81_37 {d : Nat} {ls t : List Value} {g : mm_M} {r : mm_R} {x : Nat} (hT : g.1 x = some (6, 35)) : mm_Rn pg_G d 81 37 ls (.ref x :: t) g r ↔ mm_Rn pg_G d 81 40 ls (g.2.1 x 14 :: t) g r := rn_getfield tb_81_37 hT r
theorem tb_81_40 : mm_tb pg_G 81 40 = some (.ifCond .ne 50, 90, 0, 0) := rfl
theorem st_81_40 {d : Nat} {ls t : List Value} {g : mm_M} {r : mm_R} {x : Int32} : mm_Rn pg_G d 81 40 ls (.int x :: t) g r ↔ if x = 0 then mm_Rn pg_G d 81 43 ls (t) g r else mm_Rn pg_G d 81 90 ls (t) g r := rn_if_ne tb_81_40 r
theorem tb_81_43 : mm_tb pg_G 81 43 = some (.aload_n 0, 0, 0, 0) := rfl
theorem st_81_43 {l1 : Value} {d : Nat} {t : List Value} {g : mm_M} {r : mm_R} {x : Nat} : mm_Rn pg_G d 81 43 [.ref x, l1] (t) g r ↔ mm_Rn pg_G d 81 44 [.ref x, l1] (.ref x :: t) g r := rn_aload_n tb_81_43 rfl r
theorem tb_81_44 : mm_tb pg_G 81 44 = some (.getfield 89, 6, 12, 434) := rfl
theorem st_81_44 {d : Nat} {ls t : List Value} {g : mm_M} {r : mm_R} {x : Nat} (hT : g.1 x = some (6, 35)) : mm_Rn pg_G d 81 44 ls (.ref x :: t) g r ↔ mm_Rn pg_G d 81 47 ls (g.2.1 x 12 :: t) g r := rn_getfield tb_81_44 hT r
theorem tb_81_47 : mm_tb pg_G 81 47 = some (.aload_n 0, 0, 0, 0) := rfl
theorem st_81_47 {l1 : Value} {d : Nat} {t : List Value} {g : mm_M} {r : mm_R} {x : Nat} : mm_Rn pg_G d 81 47 [.ref x, l1] (t) g r ↔ mm_Rn pg_G d 81 48 [.ref x, l1] (.ref x :: t) g r := rn_aload_n tb_81_47 rfl r
theorem tb_81_48 : mm_tb pg_G 81 48 = some (.getfield 86, 6, 11, 433) := rfl
theorem st_81_48 {d : Nat} {ls t : List Value} {g : mm_M} {r : mm_R} {x : Nat} (hT : g.1 x = some (6, 35)) : mm_Rn pg_G d 81 48 ls (.ref x :: t) g r ↔ mm_Rn pg_G d 81 51 ls (g.2.1 x 11 :: t) g r := rn_getfield tb_81_48 hT r
theorem tb_81_51 : mm_tb pg_G 81 51 = some (.imul, 0, 0, 0) := rfl
theorem st_81_51 {d : Nat} {ls t : List Value} {g : mm_M} {r : mm_R} {x y : Int32} : mm_Rn pg_G d 81 51 ls (.int y :: .int x :: t) g r ↔ mm_Rn pg_G d 81 52 ls (.int (x * y) :: t) g r := rn_imul tb_81_51 r
theorem tb_81_52 : mm_tb pg_G 81 52 = some (.aload_n 0, 0, 0, 0) := rfl
theorem st_81_52 {l1 : Value} {d : Nat} {t : List Value} {g : mm_M} {r : mm_R} {x : Nat} : mm_Rn pg_G d 81 52 [.ref x, l1] (t) g r ↔ mm_Rn pg_G d 81 53 [.ref x, l1] (.ref x :: t) g r := rn_aload_n tb_81_52 rfl r
theorem tb_81_53 : mm_tb pg_G 81 53 = some (.getfield 114, 6, 13, 435) := rfl
theorem st_81_53 {d : Nat} {ls t : List Value} {g : mm_M} {r : mm_R} {x : Nat} (hT : g.1 x = some (6, 35)) : mm_Rn pg_G d 81 53 ls (.ref x :: t) g r ↔ mm_Rn pg_G d 81 56 ls (g.2.1 x 13 :: t) g r := rn_getfield tb_81_53 hT r
theorem tb_81_56 : mm_tb pg_G 81 56 = some (.aload_n 0, 0, 0, 0) := rfl
theorem st_81_56 {l1 : Value} {d : Nat} {t : List Value} {g : mm_M} {r : mm_R} {x : Nat} : mm_Rn pg_G d 81 56 [.ref x, l1] (t) g r ↔ mm_Rn pg_G d 81 57 [.ref x, l1] (.ref x :: t) g r := rn_aload_n tb_81_56 rfl r
theorem tb_81_57 : mm_tb pg_G 81 57 = some (.getfield 105, 6, 9, 431) := rfl
theorem st_81_57 {d : Nat} {ls t : List Value} {g : mm_M} {r : mm_R} {x : Nat} (hT : g.1 x = some (6, 35)) : mm_Rn pg_G d 81 57 ls (.ref x :: t) g r ↔ mm_Rn pg_G d 81 60 ls (g.2.1 x 9 :: t) g r := rn_getfield tb_81_57 hT r
theorem tb_81_60 : mm_tb pg_G 81 60 = some (.isub, 0, 0, 0) := rfl
theorem st_81_60 {d : Nat} {ls t : List Value} {g : mm_M} {r : mm_R} {x y : Int32} : mm_Rn pg_G d 81 60 ls (.int y :: .int x :: t) g r ↔ mm_Rn pg_G d 81 61 ls (.int (x - y) :: t) g r := rn_isub tb_81_60 r
theorem tb_81_61 : mm_tb pg_G 81 61 = some (.aload_n 0, 0, 0, 0) := rfl
theorem st_81_61 {l1 : Value} {d : Nat} {t : List Value} {g : mm_M} {r : mm_R} {x : Nat} : mm_Rn pg_G d 81 61 [.ref x, l1] (t) g r ↔ mm_Rn pg_G d 81 62 [.ref x, l1] (.ref x :: t) g r := rn_aload_n tb_81_61 rfl r
theorem tb_81_62 : mm_tb pg_G 81 62 = some (.getfield 83, 6, 10, 432) := rfl
theorem st_81_62 {d : Nat} {ls t : List Value} {g : mm_M} {r : mm_R} {x : Nat} (hT : g.1 x = some (6, 35)) : mm_Rn pg_G d 81 62 ls (.ref x :: t) g r ↔ mm_Rn pg_G d 81 65 ls (g.2.1 x 10 :: t) g r := rn_getfield tb_81_62 hT r
theorem tb_81_65 : mm_tb pg_G 81 65 = some (.imul, 0, 0, 0) := rfl
theorem st_81_65 {d : Nat} {ls t : List Value} {g : mm_M} {r : mm_R} {x y : Int32} : mm_Rn pg_G d 81 65 ls (.int y :: .int x :: t) g r ↔ mm_Rn pg_G d 81 66 ls (.int (x * y) :: t) g r := rn_imul tb_81_65 r
theorem tb_81_66 : mm_tb pg_G 81 66 = some (.if_icmp .lt 24, 90, 0, 0) := rfl
theorem st_81_66 {d : Nat} {ls t : List Value} {g : mm_M} {r : mm_R} {x y : Int32} : mm_Rn pg_G d 81 66 ls (.int y :: .int x :: t) g r ↔ if x < y then mm_Rn pg_G d 81 90 ls (t) g r else mm_Rn pg_G d 81 69 ls (t) g r := rn_icmp_lt tb_81_66 r
theorem tb_81_69 : mm_tb pg_G 81 69 = some (.aload_n 0, 0, 0, 0) := rfl
theorem st_81_69 {l1 : Value} {d : Nat} {t : List Value} {g : mm_M} {r : mm_R} {x : Nat} : mm_Rn pg_G d 81 69 [.ref x, l1] (t) g r ↔ mm_Rn pg_G d 81 70 [.ref x, l1] (.ref x :: t) g r := rn_aload_n tb_81_69 rfl r
theorem tb_81_70 : mm_tb pg_G 81 70 = some (.aload_n 0, 0, 0, 0) := rfl
theorem st_81_70 {l1 : Value} {d : Nat} {t : List Value} {g : mm_M} {r : mm_R} {x : Nat} : mm_Rn pg_G d 81 70 [.ref x, l1] (t) g r ↔ mm_Rn pg_G d 81 71 [.ref x, l1] (.ref x :: t) g r := rn_aload_n tb_81_70 rfl r
theorem tb_81_71 : mm_tb pg_G 81 71 = some (.getfield 105, 6, 9, 431) := rfl
theorem st_81_71 {d : Nat} {ls t : List Value} {g : mm_M} {r : mm_R} {x : Nat} (hT : g.1 x = some (6, 35)) : mm_Rn pg_G d 81 71 ls (.ref x :: t) g r ↔ mm_Rn pg_G d 81 74 ls (g.2.1 x 9 :: t) g r := rn_getfield tb_81_71 hT r
theorem tb_81_74 : mm_tb pg_G 81 74 = some (.aload_n 0, 0, 0, 0) := rfl
theorem st_81_74 {l1 : Value} {d : Nat} {t : List Value} {g : mm_M} {r : mm_R} {x : Nat} : mm_Rn pg_G d 81 74 [.ref x, l1] (t) g r ↔ mm_Rn pg_G d 81 75 [.ref x, l1] (.ref x :: t) g r := rn_aload_n tb_81_74 rfl r
theorem tb_81_75 : mm_tb pg_G 81 75 = some (.getfield 86, 6, 11, 433) := rfl
theorem st_81_75 {d : Nat} {ls t : List Value} {g : mm_M} {r : mm_R} {x : Nat} (hT : g.1 x = some (6, 35)) : mm_Rn pg_G d 81 75 ls (.ref x :: t) g r ↔ mm_Rn pg_G d 81 78 ls (g.2.1 x 11 :: t) g r := rn_getfield tb_81_75 hT r
theorem tb_81_78 : mm_tb pg_G 81 78 = some (.iadd, 0, 0, 0) := rfl
theorem st_81_78 {d : Nat} {ls t : List Value} {g : mm_M} {r : mm_R} {x y : Int32} : mm_Rn pg_G d 81 78 ls (.int y :: .int x :: t) g r ↔ mm_Rn pg_G d 81 79 ls (.int (x + y) :: t) g r := rn_iadd tb_81_78 r
theorem tb_81_79 : mm_tb pg_G 81 79 = some (.putfield 114, 6, 13, 435) := rfl
theorem st_81_79 {d : Nat} {ls t : List Value} {g : mm_M} {r : mm_R} {x : Nat} {v : Int32} (hT : g.1 x = some (6, 35)) : mm_Rn pg_G d 81 79 ls (.int v :: .ref x :: t) g r ↔ mm_Rn pg_G d 81 82 ls (t) (mm_wr g x 13 (.int v)) r := rn_putfield tb_81_79 hT rfl r
theorem tb_81_82 : mm_tb pg_G 81 82 = some (.aload_n 0, 0, 0, 0) := rfl
theorem st_81_82 {l1 : Value} {d : Nat} {t : List Value} {g : mm_M} {r : mm_R} {x : Nat} : mm_Rn pg_G d 81 82 [.ref x, l1] (t) g r ↔ mm_Rn pg_G d 81 83 [.ref x, l1] (.ref x :: t) g r := rn_aload_n tb_81_82 rfl r
theorem tb_81_83 : mm_tb pg_G 81 83 = some (.aload_n 0, 0, 0, 0) := rfl
theorem st_81_83 {l1 : Value} {d : Nat} {t : List Value} {g : mm_M} {r : mm_R} {x : Nat} : mm_Rn pg_G d 81 83 [.ref x, l1] (t) g r ↔ mm_Rn pg_G d 81 84 [.ref x, l1] (.ref x :: t) g r := rn_aload_n tb_81_83 rfl r
theorem tb_81_84 : mm_tb pg_G 81 84 = some (.getfield 83, 6, 10, 432) := rfl
theorem st_81_84 {d : Nat} {ls t : List Value} {g : mm_M} {r : mm_R} {x : Nat} (hT : g.1 x = some (6, 35)) : mm_Rn pg_G d 81 84 ls (.ref x :: t) g r ↔ mm_Rn pg_G d 81 87 ls (g.2.1 x 10 :: t) g r := rn_getfield tb_81_84 hT r
theorem tb_81_87 : mm_tb pg_G 81 87 = some (.putfield 89, 6, 12, 434) := rfl
theorem st_81_87 {d : Nat} {ls t : List Value} {g : mm_M} {r : mm_R} {x : Nat} {v : Int32} (hT : g.1 x = some (6, 35)) : mm_Rn pg_G d 81 87 ls (.int v :: .ref x :: t) g r ↔ mm_Rn pg_G d 81 90 ls (t) (mm_wr g x 12 (.int v)) r := rn_putfield tb_81_87 hT rfl r
theorem tb_81_90 : mm_tb pg_G 81 90 = some (.aload_n 0, 0, 0, 0) := rfl
theorem st_81_90 {l1 : Value} {d : Nat} {t : List Value} {g : mm_M} {r : mm_R} {x : Nat} : mm_Rn pg_G d 81 90 [.ref x, l1] (t) g r ↔ mm_Rn pg_G d 81 91 [.ref x, l1] (.ref x :: t) g r := rn_aload_n tb_81_90 rfl r
theorem tb_81_91 : mm_tb pg_G 81 91 = some (.getfield 31, 6, 15, 437) := rfl
theorem st_81_91 {d : Nat} {ls t : List Value} {g : mm_M} {r : mm_R} {x : Nat} (hT : g.1 x = some (6, 35)) : mm_Rn pg_G d 81 91 ls (.ref x :: t) g r ↔ mm_Rn pg_G d 81 94 ls (g.2.1 x 15 :: t) g r := rn_getfield tb_81_91 hT r
theorem tb_81_94 : mm_tb pg_G 81 94 = some (.aload_n 0, 0, 0, 0) := rfl
theorem st_81_94 {l1 : Value} {d : Nat} {t : List Value} {g : mm_M} {r : mm_R} {x : Nat} : mm_Rn pg_G d 81 94 [.ref x, l1] (t) g r ↔ mm_Rn pg_G d 81 95 [.ref x, l1] (.ref x :: t) g r := rn_aload_n tb_81_94 rfl r
theorem tb_81_95 : mm_tb pg_G 81 95 = some (.getfield 111, 6, 14, 436) := rfl
theorem st_81_95 {d : Nat} {ls t : List Value} {g : mm_M} {r : mm_R} {x : Nat} (hT : g.1 x = some (6, 35)) : mm_Rn pg_G d 81 95 ls (.ref x :: t) g r ↔ mm_Rn pg_G d 81 98 ls (g.2.1 x 14 :: t) g r := rn_getfield tb_81_95 hT r
theorem tb_81_98 : mm_tb pg_G 81 98 = some (.iload_n 1, 0, 0, 0) := rfl
theorem st_81_98 {l0 : Value} {d : Nat} {t : List Value} {g : mm_M} {r : mm_R} {x : Int32} : mm_Rn pg_G d 81 98 [l0, .int x] (t) g r ↔ mm_Rn pg_G d 81 99 [l0, .int x] (.int x :: t) g r := rn_iload_n tb_81_98 rfl r
theorem tb_81_99 : mm_tb pg_G 81 99 = some (.iastore, 0, 0, 0) := rfl
theorem st_81_99 {d : Nat} {ls t : List Value} {g : mm_M} {r : mm_R} {x : Nat} {j v : Int32} (hc : mm_in (g.1 x) 100 100 j = true) : mm_Rn pg_G d 81 99 ls (.int v :: .int j :: .ref x :: t) g r ↔ mm_Rn pg_G d 81 100 ls (t) (mm_wr g x j.toNatClampNeg (.int v)) r := rn_iastore tb_81_99 hc r
theorem tb_81_100 : mm_tb pg_G 81 100 = some (.aload_n 0, 0, 0, 0) := rfl
theorem st_81_100 {l1 : Value} {d : Nat} {t : List Value} {g : mm_M} {r : mm_R} {x : Nat} : mm_Rn pg_G d 81 100 [.ref x, l1] (t) g r ↔ mm_Rn pg_G d 81 101 [.ref x, l1] (.ref x :: t) g r := rn_aload_n tb_81_100 rfl r
theorem tb_81_101 : mm_tb pg_G 81 101 = some (.dup, 0, 0, 0) := rfl
theorem st_81_101 {d : Nat} {ls t : List Value} {g : mm_M} {r : mm_R} {v : Value} (hc : mm_c1 v = true) : mm_Rn pg_G d 81 101 ls (v :: t) g r ↔ mm_Rn pg_G d 81 102 ls (v :: v :: t) g r := rn_dup tb_81_101 hc r
theorem tb_81_102 : mm_tb pg_G 81 102 = some (.getfield 111, 6, 14, 436) := rfl
theorem st_81_102 {d : Nat} {ls t : List Value} {g : mm_M} {r : mm_R} {x : Nat} (hT : g.1 x = some (6, 35)) : mm_Rn pg_G d 81 102 ls (.ref x :: t) g r ↔ mm_Rn pg_G d 81 105 ls (g.2.1 x 14 :: t) g r := rn_getfield tb_81_102 hT r
theorem tb_81_105 : mm_tb pg_G 81 105 = some (.iconst 1, 0, 0, 0) := rfl
theorem st_81_105 {d : Nat} {ls t : List Value} {g : mm_M} {r : mm_R} : mm_Rn pg_G d 81 105 ls (t) g r ↔ mm_Rn pg_G d 81 106 ls (io_v 1 :: t) g r := rn_iconst tb_81_105 r
theorem tb_81_106 : mm_tb pg_G 81 106 = some (.iadd, 0, 0, 0) := rfl
theorem st_81_106 {d : Nat} {ls t : List Value} {g : mm_M} {r : mm_R} {x y : Int32} : mm_Rn pg_G d 81 106 ls (.int y :: .int x :: t) g r ↔ mm_Rn pg_G d 81 107 ls (.int (x + y) :: t) g r := rn_iadd tb_81_106 r
theorem tb_81_107 : mm_tb pg_G 81 107 = some (.putfield 111, 6, 14, 436) := rfl
theorem st_81_107 {d : Nat} {ls t : List Value} {g : mm_M} {r : mm_R} {x : Nat} {v : Int32} (hT : g.1 x = some (6, 35)) : mm_Rn pg_G d 81 107 ls (.int v :: .ref x :: t) g r ↔ mm_Rn pg_G d 81 110 ls (t) (mm_wr g x 14 (.int v)) r := rn_putfield tb_81_107 hT rfl r
theorem tb_81_110 : mm_tb pg_G 81 110 = some (.iconst 1, 0, 0, 0) := rfl
theorem st_81_110 {d : Nat} {ls t : List Value} {g : mm_M} {r : mm_R} : mm_Rn pg_G d 81 110 ls (t) g r ↔ mm_Rn pg_G d 81 111 ls (io_v 1 :: t) g r := rn_iconst tb_81_110 r
theorem tb_81_111 : mm_tb pg_G 81 111 = some (.ireturn, 0, 0, 0) := rfl
theorem st_81_111 {d : Nat} {ls : List Value} {g : mm_M} {r : mm_R} {x : Int32} (hb : x = 0 ∨ x = 1) : mm_Rn pg_G d 81 111 ls [.int x] g r ↔ r = (some (.int x), g) := rn_ireturn_iff tb_81_111 (Or.inr ⟨rfl, hb⟩) r
theorem tb_82_0 : mm_tb pg_G 82 0 = some (.iload_n 1, 0, 0, 0) := rfl
theorem st_82_0 {l0 : Value} {d : Nat} {t : List Value} {g : mm_M} {r : mm_R} {x : Int32} : mm_Rn pg_G d 82 0 [l0, .int x] (t) g r ↔ mm_Rn pg_G d 82 1 [l0, .int x] (.int x :: t) g r := rn_iload_n tb_82_0 rfl r
theorem tb_82_1 : mm_tb pg_G 82 1 = some (.bipush 6, 0, 0, 0) := rfl
theorem st_82_1 {d : Nat} {ls t : List Value} {g : mm_M} {r : mm_R} : mm_Rn pg_G d 82 1 ls (t) g r ↔ mm_Rn pg_G d 82 3 ls (io_v 6 :: t) g r := rn_bipush tb_82_1 r
theorem tb_82_3 : mm_tb pg_G 82 3 = some (.if_icmp .ne 18, 21, 0, 0) := rfl
theorem st_82_3 {d : Nat} {ls t : List Value} {g : mm_M} {r : mm_R} {x y : Int32} : mm_Rn pg_G d 82 3 ls (.int y :: .int x :: t) g r ↔ if x = y then mm_Rn pg_G d 82 6 ls (t) g r else mm_Rn pg_G d 82 21 ls (t) g r := rn_icmp_ne tb_82_3 r
theorem tb_82_6 : mm_tb pg_G 82 6 = some (.aload_n 0, 0, 0, 0) := rfl
theorem st_82_6 {l1 : Value} {d : Nat} {t : List Value} {g : mm_M} {r : mm_R} {x : Nat} : mm_Rn pg_G d 82 6 [.ref x, l1] (t) g r ↔ mm_Rn pg_G d 82 7 [.ref x, l1] (.ref x :: t) g r := rn_aload_n tb_82_6 rfl r
theorem tb_82_7 : mm_tb pg_G 82 7 = some (.getfield 111, 6, 14, 436) := rfl
theorem st_82_7 {d : Nat} {ls t : List Value} {g : mm_M} {r : mm_R} {x : Nat} (hT : g.1 x = some (6, 35)) : mm_Rn pg_G d 82 7 ls (.ref x :: t) g r ↔ mm_Rn pg_G d 82 10 ls (g.2.1 x 14 :: t) g r := rn_getfield tb_82_7 hT r
theorem tb_82_10 : mm_tb pg_G 82 10 = some (.ifCond .le 7, 17, 0, 0) := rfl
theorem st_82_10 {d : Nat} {ls t : List Value} {g : mm_M} {r : mm_R} {x : Int32} : mm_Rn pg_G d 82 10 ls (.int x :: t) g r ↔ if x ≤ 0 then mm_Rn pg_G d 82 17 ls (t) g r else mm_Rn pg_G d 82 13 ls (t) g r := rn_if_le tb_82_10 r
theorem tb_82_13 : mm_tb pg_G 82 13 = some (.iconst 1, 0, 0, 0) := rfl
theorem st_82_13 {d : Nat} {ls t : List Value} {g : mm_M} {r : mm_R} : mm_Rn pg_G d 82 13 ls (t) g r ↔ mm_Rn pg_G d 82 14 ls (io_v 1 :: t) g r := rn_iconst tb_82_13 r
theorem tb_82_14 : mm_tb pg_G 82 14 = some (.goto 22, 36, 0, 0) := rfl
theorem st_82_14 {d : Nat} {ls t : List Value} {g : mm_M} {r : mm_R} : mm_Rn pg_G d 82 14 ls (t) g r ↔ mm_Rn pg_G d 82 36 ls (t) g r := rn_goto tb_82_14 r
theorem tb_82_17 : mm_tb pg_G 82 17 = some (.iconst 0, 0, 0, 0) := rfl
theorem st_82_17 {d : Nat} {ls t : List Value} {g : mm_M} {r : mm_R} : mm_Rn pg_G d 82 17 ls (t) g r ↔ mm_Rn pg_G d 82 18 ls (io_v 0 :: t) g r := rn_iconst tb_82_17 r
theorem tb_82_18 : mm_tb pg_G 82 18 = some (.goto 18, 36, 0, 0) := rfl
theorem st_82_18 {d : Nat} {ls t : List Value} {g : mm_M} {r : mm_R} : mm_Rn pg_G d 82 18 ls (t) g r ↔ mm_Rn pg_G d 82 36 ls (t) g r := rn_goto tb_82_18 r
theorem tb_82_21 : mm_tb pg_G 82 21 = some (.aload_n 0, 0, 0, 0) := rfl
theorem st_82_21 {l1 : Value} {d : Nat} {t : List Value} {g : mm_M} {r : mm_R} {x : Nat} : mm_Rn pg_G d 82 21 [.ref x, l1] (t) g r ↔ mm_Rn pg_G d 82 22 [.ref x, l1] (.ref x :: t) g r := rn_aload_n tb_82_21 rfl r
theorem tb_82_22 : mm_tb pg_G 82 22 = some (.getfield 34, 6, 18, 440) := rfl
theorem st_82_22 {d : Nat} {ls t : List Value} {g : mm_M} {r : mm_R} {x : Nat} (hT : g.1 x = some (6, 35)) : mm_Rn pg_G d 82 22 ls (.ref x :: t) g r ↔ mm_Rn pg_G d 82 25 ls (g.2.1 x 18 :: t) g r := rn_getfield tb_82_22 hT r
theorem tb_82_25 : mm_tb pg_G 82 25 = some (.iload_n 1, 0, 0, 0) := rfl
theorem st_82_25 {l0 : Value} {d : Nat} {t : List Value} {g : mm_M} {r : mm_R} {x : Int32} : mm_Rn pg_G d 82 25 [l0, .int x] (t) g r ↔ mm_Rn pg_G d 82 26 [l0, .int x] (.int x :: t) g r := rn_iload_n tb_82_25 rfl r
theorem tb_82_26 : mm_tb pg_G 82 26 = some (.iaload, 0, 0, 0) := rfl
theorem st_82_26 {d : Nat} {ls t : List Value} {g : mm_M} {r : mm_R} {x : Nat} {j : Int32} (hc : mm_in (g.1 x) 100 101 j = true) : mm_Rn pg_G d 82 26 ls (.int j :: .ref x :: t) g r ↔ mm_Rn pg_G d 82 27 ls (g.2.1 x j.toNatClampNeg :: t) g r := rn_iaload tb_82_26 hc r
theorem tb_82_27 : mm_tb pg_G 82 27 = some (.iconst 1, 0, 0, 0) := rfl
theorem st_82_27 {d : Nat} {ls t : List Value} {g : mm_M} {r : mm_R} : mm_Rn pg_G d 82 27 ls (t) g r ↔ mm_Rn pg_G d 82 28 ls (io_v 1 :: t) g r := rn_iconst tb_82_27 r
theorem tb_82_28 : mm_tb pg_G 82 28 = some (.if_icmp .ne 7, 35, 0, 0) := rfl
theorem st_82_28 {d : Nat} {ls t : List Value} {g : mm_M} {r : mm_R} {x y : Int32} : mm_Rn pg_G d 82 28 ls (.int y :: .int x :: t) g r ↔ if x = y then mm_Rn pg_G d 82 31 ls (t) g r else mm_Rn pg_G d 82 35 ls (t) g r := rn_icmp_ne tb_82_28 r
theorem tb_82_31 : mm_tb pg_G 82 31 = some (.iconst 1, 0, 0, 0) := rfl
theorem st_82_31 {d : Nat} {ls t : List Value} {g : mm_M} {r : mm_R} : mm_Rn pg_G d 82 31 ls (t) g r ↔ mm_Rn pg_G d 82 32 ls (io_v 1 :: t) g r := rn_iconst tb_82_31 r
theorem tb_82_32 : mm_tb pg_G 82 32 = some (.goto 4, 36, 0, 0) := rfl
theorem st_82_32 {d : Nat} {ls t : List Value} {g : mm_M} {r : mm_R} : mm_Rn pg_G d 82 32 ls (t) g r ↔ mm_Rn pg_G d 82 36 ls (t) g r := rn_goto tb_82_32 r
theorem tb_82_35 : mm_tb pg_G 82 35 = some (.iconst 0, 0, 0, 0) := rfl
theorem st_82_35 {d : Nat} {ls t : List Value} {g : mm_M} {r : mm_R} : mm_Rn pg_G d 82 35 ls (t) g r ↔ mm_Rn pg_G d 82 36 ls (io_v 0 :: t) g r := rn_iconst tb_82_35 r
theorem tb_82_36 : mm_tb pg_G 82 36 = some (.ireturn, 0, 0, 0) := rfl
theorem st_82_36 {d : Nat} {ls : List Value} {g : mm_M} {r : mm_R} {x : Int32} (hb : x = 0 ∨ x = 1) : mm_Rn pg_G d 82 36 ls [.int x] g r ↔ r = (some (.int x), g) := rn_ireturn_iff tb_82_36 (Or.inr ⟨rfl, hb⟩) r
theorem tb_83_0 : mm_tb pg_G 83 0 = some (.iload_n 1, 0, 0, 0) := rfl
theorem st_83_0 {l0 : Value} {d : Nat} {t : List Value} {g : mm_M} {r : mm_R} {x : Int32} : mm_Rn pg_G d 83 0 [l0, .int x] (t) g r ↔ mm_Rn pg_G d 83 1 [l0, .int x] (.int x :: t) g r := rn_iload_n tb_83_0 rfl r
theorem tb_83_1 : mm_tb pg_G 83 1 = some (.bipush 6, 0, 0, 0) := rfl
theorem st_83_1 {d : Nat} {ls t : List Value} {g : mm_M} {r : mm_R} : mm_Rn pg_G d 83 1 ls (t) g r ↔ mm_Rn pg_G d 83 3 ls (io_v 6 :: t) g r := rn_bipush tb_83_1 r
theorem tb_83_3 : mm_tb pg_G 83 3 = some (.if_icmp .ne 10, 13, 0, 0) := rfl
theorem st_83_3 {d : Nat} {ls t : List Value} {g : mm_M} {r : mm_R} {x y : Int32} : mm_Rn pg_G d 83 3 ls (.int y :: .int x :: t) g r ↔ if x = y then mm_Rn pg_G d 83 6 ls (t) g r else mm_Rn pg_G d 83 13 ls (t) g r := rn_icmp_ne tb_83_3 r
theorem tb_83_6 : mm_tb pg_G 83 6 = some (.aload_n 0, 0, 0, 0) := rfl
theorem st_83_6 {l1 : Value} {d : Nat} {t : List Value} {g : mm_M} {r : mm_R} {x : Nat} : mm_Rn pg_G d 83 6 [.ref x, l1] (t) g r ↔ mm_Rn pg_G d 83 7 [.ref x, l1] (.ref x :: t) g r := rn_aload_n tb_83_6 rfl r
theorem tb_83_7 : mm_tb pg_G 83 7 = some (.getfield 114, 6, 13, 435) := rfl
theorem st_83_7 {d : Nat} {ls t : List Value} {g : mm_M} {r : mm_R} {x : Nat} (hT : g.1 x = some (6, 35)) : mm_Rn pg_G d 83 7 ls (.ref x :: t) g r ↔ mm_Rn pg_G d 83 10 ls (g.2.1 x 13 :: t) g r := rn_getfield tb_83_7 hT r
theorem tb_83_10 : mm_tb pg_G 83 10 = some (.goto 16, 26, 0, 0) := rfl
theorem st_83_10 {d : Nat} {ls t : List Value} {g : mm_M} {r : mm_R} : mm_Rn pg_G d 83 10 ls (t) g r ↔ mm_Rn pg_G d 83 26 ls (t) g r := rn_goto tb_83_10 r
theorem tb_83_13 : mm_tb pg_G 83 13 = some (.aload_n 0, 0, 0, 0) := rfl
theorem st_83_13 {l1 : Value} {d : Nat} {t : List Value} {g : mm_M} {r : mm_R} {x : Nat} : mm_Rn pg_G d 83 13 [.ref x, l1] (t) g r ↔ mm_Rn pg_G d 83 14 [.ref x, l1] (.ref x :: t) g r := rn_aload_n tb_83_13 rfl r
theorem tb_83_14 : mm_tb pg_G 83 14 = some (.getfield 37, 6, 19, 441) := rfl
theorem st_83_14 {d : Nat} {ls t : List Value} {g : mm_M} {r : mm_R} {x : Nat} (hT : g.1 x = some (6, 35)) : mm_Rn pg_G d 83 14 ls (.ref x :: t) g r ↔ mm_Rn pg_G d 83 17 ls (g.2.1 x 19 :: t) g r := rn_getfield tb_83_14 hT r
theorem tb_83_17 : mm_tb pg_G 83 17 = some (.iload_n 1, 0, 0, 0) := rfl
theorem st_83_17 {l0 : Value} {d : Nat} {t : List Value} {g : mm_M} {r : mm_R} {x : Int32} : mm_Rn pg_G d 83 17 [l0, .int x] (t) g r ↔ mm_Rn pg_G d 83 18 [l0, .int x] (.int x :: t) g r := rn_iload_n tb_83_17 rfl r
theorem tb_83_18 : mm_tb pg_G 83 18 = some (.iaload, 0, 0, 0) := rfl
theorem st_83_18 {d : Nat} {ls t : List Value} {g : mm_M} {r : mm_R} {x : Nat} {j : Int32} (hc : mm_in (g.1 x) 100 101 j = true) : mm_Rn pg_G d 83 18 ls (.int j :: .ref x :: t) g r ↔ mm_Rn pg_G d 83 19 ls (g.2.1 x j.toNatClampNeg :: t) g r := rn_iaload tb_83_18 hc r
theorem tb_83_19 : mm_tb pg_G 83 19 = some (.aload_n 0, 0, 0, 0) := rfl
theorem st_83_19 {l1 : Value} {d : Nat} {t : List Value} {g : mm_M} {r : mm_R} {x : Nat} : mm_Rn pg_G d 83 19 [.ref x, l1] (t) g r ↔ mm_Rn pg_G d 83 20 [.ref x, l1] (.ref x :: t) g r := rn_aload_n tb_83_19 rfl r
theorem tb_83_20 : mm_tb pg_G 83 20 = some (.getfield 13, 6, 2, 424) := rfl
theorem st_83_20 {d : Nat} {ls t : List Value} {g : mm_M} {r : mm_R} {x : Nat} (hT : g.1 x = some (6, 35)) : mm_Rn pg_G d 83 20 ls (.ref x :: t) g r ↔ mm_Rn pg_G d 83 23 ls (g.2.1 x 2 :: t) g r := rn_getfield tb_83_20 hT r
theorem tb_83_23 : mm_tb pg_G 83 23 = some (.iload_n 1, 0, 0, 0) := rfl
theorem st_83_23 {l0 : Value} {d : Nat} {t : List Value} {g : mm_M} {r : mm_R} {x : Int32} : mm_Rn pg_G d 83 23 [l0, .int x] (t) g r ↔ mm_Rn pg_G d 83 24 [l0, .int x] (.int x :: t) g r := rn_iload_n tb_83_23 rfl r
theorem tb_83_24 : mm_tb pg_G 83 24 = some (.iaload, 0, 0, 0) := rfl
theorem st_83_24 {d : Nat} {ls t : List Value} {g : mm_M} {r : mm_R} {x : Nat} {j : Int32} (hc : mm_in (g.1 x) 100 101 j = true) : mm_Rn pg_G d 83 24 ls (.int j :: .ref x :: t) g r ↔ mm_Rn pg_G d 83 25 ls (g.2.1 x j.toNatClampNeg :: t) g r := rn_iaload tb_83_24 hc r
theorem tb_83_25 : mm_tb pg_G 83 25 = some (.iadd, 0, 0, 0) := rfl
theorem st_83_25 {d : Nat} {ls t : List Value} {g : mm_M} {r : mm_R} {x y : Int32} : mm_Rn pg_G d 83 25 ls (.int y :: .int x :: t) g r ↔ mm_Rn pg_G d 83 26 ls (.int (x + y) :: t) g r := rn_iadd tb_83_25 r
theorem tb_83_26 : mm_tb pg_G 83 26 = some (.ireturn, 0, 0, 0) := rfl
theorem st_83_26 {d : Nat} {ls : List Value} {g : mm_M} {r : mm_R} {x : Int32} : mm_Rn pg_G d 83 26 ls [.int x] g r ↔ r = (some (.int x), g) := rn_ireturn_iff tb_83_26 (Or.inl rfl) r
theorem tb_84_0 : mm_tb pg_G 84 0 = some (.aload_n 0, 0, 0, 0) := rfl
theorem st_84_0 {l1 l2 l3 l4 : Value} {d : Nat} {t : List Value} {g : mm_M} {r : mm_R} {x : Nat} : mm_Rn pg_G d 84 0 [.ref x, l1, l2, l3, l4] (t) g r ↔ mm_Rn pg_G d 84 1 [.ref x, l1, l2, l3, l4] (.ref x :: t) g r := rn_aload_n tb_84_0 rfl r
theorem tb_84_1 : mm_tb pg_G 84 1 = some (.iload_n 1, 0, 0, 0) := rfl
theorem st_84_1 {l0 l2 l3 l4 : Value} {d : Nat} {t : List Value} {g : mm_M} {r : mm_R} {x : Int32} : mm_Rn pg_G d 84 1 [l0, .int x, l2, l3, l4] (t) g r ↔ mm_Rn pg_G d 84 2 [l0, .int x, l2, l3, l4] (.int x :: t) g r := rn_iload_n tb_84_1 rfl r
theorem tb_84_2 : mm_tb pg_G 84 2 = some (.invokevirtual 117, 83, 2, 571) := rfl
theorem st_84_2 {d c s c' s' : Nat} {ls t : List Value} {I J : sp_I} {r : mm_R} {a0 : Int32} {y : Nat} {v : Int32} (hl : t.length ≤ 4) (hT : sp_T I y = some (6, 35)) (hq : mm_Rn pg_G d 83 0 [.ref y, .int a0] [] (sp_me I 0 0) (some (.int v), sp_me J c' s')) : mm_Rn pg_G (d + 1) 84 2 ls (.int a0 :: .ref y :: t) (sp_me I c s) r ↔ mm_Rn pg_G (d + 1) 84 5 ls (.int v :: t) (sp_me J (c + c') (s + s')) r := rn_virt (g := sp_me I c s) (st := .int a0 :: .ref y :: t) tb_84_2 (decide_eq_true hT) ⟨Nat.le_add_left _ t.length, hl, rfl⟩ hq r
theorem tb_84_5 : mm_tb pg_G 84 5 = some (.istore_n 3, 0, 0, 0) := rfl
theorem st_84_5 {l0 l1 l2 l3 l4 : Value} {d : Nat} {t : List Value} {g : mm_M} {r : mm_R} {x : Int32} (hc : mm_c1 l2 = true) : mm_Rn pg_G d 84 5 [l0, l1, l2, l3, l4] (.int x :: t) g r ↔ mm_Rn pg_G d 84 6 [l0, l1, l2, .int x, l4] (t) g r := rn_istore_n tb_84_5 (mm_so_of (ls := [l0, l1, l2, l3, l4]) (v := l2) (Nat.le_of_ble_eq_true rfl) rfl hc) r
theorem tb_84_6 : mm_tb pg_G 84 6 = some (.aload_n 0, 0, 0, 0) := rfl
theorem st_84_6 {l1 l2 l3 l4 : Value} {d : Nat} {t : List Value} {g : mm_M} {r : mm_R} {x : Nat} : mm_Rn pg_G d 84 6 [.ref x, l1, l2, l3, l4] (t) g r ↔ mm_Rn pg_G d 84 7 [.ref x, l1, l2, l3, l4] (.ref x :: t) g r := rn_aload_n tb_84_6 rfl r
theorem tb_84_7 : mm_tb pg_G 84 7 = some (.iload_n 2, 0, 0, 0) := rfl
theorem st_84_7 {l0 l1 l3 l4 : Value} {d : Nat} {t : List Value} {g : mm_M} {r : mm_R} {x : Int32} : mm_Rn pg_G d 84 7 [l0, l1, .int x, l3, l4] (t) g r ↔ mm_Rn pg_G d 84 8 [l0, l1, .int x, l3, l4] (.int x :: t) g r := rn_iload_n tb_84_7 rfl r
theorem tb_84_8 : mm_tb pg_G 84 8 = some (.invokevirtual 117, 83, 2, 571) := rfl
theorem st_84_8 {d c s c' s' : Nat} {ls t : List Value} {I J : sp_I} {r : mm_R} {a0 : Int32} {y : Nat} {v : Int32} (hl : t.length ≤ 4) (hT : sp_T I y = some (6, 35)) (hq : mm_Rn pg_G d 83 0 [.ref y, .int a0] [] (sp_me I 0 0) (some (.int v), sp_me J c' s')) : mm_Rn pg_G (d + 1) 84 8 ls (.int a0 :: .ref y :: t) (sp_me I c s) r ↔ mm_Rn pg_G (d + 1) 84 11 ls (.int v :: t) (sp_me J (c + c') (s + s')) r := rn_virt (g := sp_me I c s) (st := .int a0 :: .ref y :: t) tb_84_8 (decide_eq_true hT) ⟨Nat.le_add_left _ t.length, hl, rfl⟩ hq r
theorem tb_84_11 : mm_tb pg_G 84 11 = some (.istore 4, 0, 0, 0) := rfl
theorem st_84_11 {l0 l1 l2 l3 l4 : Value} {d : Nat} {t : List Value} {g : mm_M} {r : mm_R} {x : Int32} (hc : mm_c1 l3 = true) : mm_Rn pg_G d 84 11 [l0, l1, l2, l3, l4] (.int x :: t) g r ↔ mm_Rn pg_G d 84 13 [l0, l1, l2, l3, .int x] (t) g r := rn_istore tb_84_11 (mm_so_of (ls := [l0, l1, l2, l3, l4]) (v := l3) (Nat.le_of_ble_eq_true rfl) rfl hc) r
theorem tb_84_13 : mm_tb pg_G 84 13 = some (.iload_n 3, 0, 0, 0) := rfl
theorem st_84_13 {l0 l1 l2 l4 : Value} {d : Nat} {t : List Value} {g : mm_M} {r : mm_R} {x : Int32} : mm_Rn pg_G d 84 13 [l0, l1, l2, .int x, l4] (t) g r ↔ mm_Rn pg_G d 84 14 [l0, l1, l2, .int x, l4] (.int x :: t) g r := rn_iload_n tb_84_13 rfl r
theorem tb_84_14 : mm_tb pg_G 84 14 = some (.iload 4, 0, 0, 0) := rfl
theorem st_84_14 {l0 l1 l2 l3 : Value} {d : Nat} {t : List Value} {g : mm_M} {r : mm_R} {x : Int32} : mm_Rn pg_G d 84 14 [l0, l1, l2, l3, .int x] (t) g r ↔ mm_Rn pg_G d 84 16 [l0, l1, l2, l3, .int x] (.int x :: t) g r := rn_iload tb_84_14 rfl r
theorem tb_84_16 : mm_tb pg_G 84 16 = some (.if_icmp .lt 14, 30, 0, 0) := rfl
theorem st_84_16 {d : Nat} {ls t : List Value} {g : mm_M} {r : mm_R} {x y : Int32} : mm_Rn pg_G d 84 16 ls (.int y :: .int x :: t) g r ↔ if x < y then mm_Rn pg_G d 84 30 ls (t) g r else mm_Rn pg_G d 84 19 ls (t) g r := rn_icmp_lt tb_84_16 r
theorem tb_84_19 : mm_tb pg_G 84 19 = some (.iload_n 3, 0, 0, 0) := rfl
theorem st_84_19 {l0 l1 l2 l4 : Value} {d : Nat} {t : List Value} {g : mm_M} {r : mm_R} {x : Int32} : mm_Rn pg_G d 84 19 [l0, l1, l2, .int x, l4] (t) g r ↔ mm_Rn pg_G d 84 20 [l0, l1, l2, .int x, l4] (.int x :: t) g r := rn_iload_n tb_84_19 rfl r
theorem tb_84_20 : mm_tb pg_G 84 20 = some (.iload 4, 0, 0, 0) := rfl
theorem st_84_20 {l0 l1 l2 l3 : Value} {d : Nat} {t : List Value} {g : mm_M} {r : mm_R} {x : Int32} : mm_Rn pg_G d 84 20 [l0, l1, l2, l3, .int x] (t) g r ↔ mm_Rn pg_G d 84 22 [l0, l1, l2, l3, .int x] (.int x :: t) g r := rn_iload tb_84_20 rfl r
theorem tb_84_22 : mm_tb pg_G 84 22 = some (.if_icmp .ne 12, 34, 0, 0) := rfl
theorem st_84_22 {d : Nat} {ls t : List Value} {g : mm_M} {r : mm_R} {x y : Int32} : mm_Rn pg_G d 84 22 ls (.int y :: .int x :: t) g r ↔ if x = y then mm_Rn pg_G d 84 25 ls (t) g r else mm_Rn pg_G d 84 34 ls (t) g r := rn_icmp_ne tb_84_22 r
theorem tb_84_25 : mm_tb pg_G 84 25 = some (.iload_n 1, 0, 0, 0) := rfl
theorem st_84_25 {l0 l2 l3 l4 : Value} {d : Nat} {t : List Value} {g : mm_M} {r : mm_R} {x : Int32} : mm_Rn pg_G d 84 25 [l0, .int x, l2, l3, l4] (t) g r ↔ mm_Rn pg_G d 84 26 [l0, .int x, l2, l3, l4] (.int x :: t) g r := rn_iload_n tb_84_25 rfl r
theorem tb_84_26 : mm_tb pg_G 84 26 = some (.iload_n 2, 0, 0, 0) := rfl
theorem st_84_26 {l0 l1 l3 l4 : Value} {d : Nat} {t : List Value} {g : mm_M} {r : mm_R} {x : Int32} : mm_Rn pg_G d 84 26 [l0, l1, .int x, l3, l4] (t) g r ↔ mm_Rn pg_G d 84 27 [l0, l1, .int x, l3, l4] (.int x :: t) g r := rn_iload_n tb_84_26 rfl r
theorem tb_84_27 : mm_tb pg_G 84 27 = some (.if_icmp .ge 7, 34, 0, 0) := rfl
theorem st_84_27 {d : Nat} {ls t : List Value} {g : mm_M} {r : mm_R} {x y : Int32} : mm_Rn pg_G d 84 27 ls (.int y :: .int x :: t) g r ↔ if y ≤ x then mm_Rn pg_G d 84 34 ls (t) g r else mm_Rn pg_G d 84 30 ls (t) g r := rn_icmp_ge tb_84_27 r
theorem tb_84_30 : mm_tb pg_G 84 30 = some (.iconst 1, 0, 0, 0) := rfl
theorem st_84_30 {d : Nat} {ls t : List Value} {g : mm_M} {r : mm_R} : mm_Rn pg_G d 84 30 ls (t) g r ↔ mm_Rn pg_G d 84 31 ls (io_v 1 :: t) g r := rn_iconst tb_84_30 r
theorem tb_84_31 : mm_tb pg_G 84 31 = some (.goto 4, 35, 0, 0) := rfl
theorem st_84_31 {d : Nat} {ls t : List Value} {g : mm_M} {r : mm_R} : mm_Rn pg_G d 84 31 ls (t) g r ↔ mm_Rn pg_G d 84 35 ls (t) g r := rn_goto tb_84_31 r
theorem tb_84_34 : mm_tb pg_G 84 34 = some (.iconst 0, 0, 0, 0) := rfl
theorem st_84_34 {d : Nat} {ls t : List Value} {g : mm_M} {r : mm_R} : mm_Rn pg_G d 84 34 ls (t) g r ↔ mm_Rn pg_G d 84 35 ls (io_v 0 :: t) g r := rn_iconst tb_84_34 r
theorem tb_84_35 : mm_tb pg_G 84 35 = some (.ireturn, 0, 0, 0) := rfl
theorem st_84_35 {d : Nat} {ls : List Value} {g : mm_M} {r : mm_R} {x : Int32} (hb : x = 0 ∨ x = 1) : mm_Rn pg_G d 84 35 ls [.int x] g r ↔ r = (some (.int x), g) := rn_ireturn_iff tb_84_35 (Or.inr ⟨rfl, hb⟩) r
theorem tb_85_0 : mm_tb pg_G 85 0 = some (.iconst 0, 0, 0, 0) := rfl
theorem st_85_0 {d : Nat} {ls t : List Value} {g : mm_M} {r : mm_R} : mm_Rn pg_G d 85 0 ls (t) g r ↔ mm_Rn pg_G d 85 1 ls (io_v 0 :: t) g r := rn_iconst tb_85_0 r
theorem tb_85_1 : mm_tb pg_G 85 1 = some (.istore_n 2, 0, 0, 0) := rfl
theorem st_85_1 {l0 l1 l2 l3 l4 : Value} {d : Nat} {t : List Value} {g : mm_M} {r : mm_R} {x : Int32} (hc : mm_c1 l1 = true) : mm_Rn pg_G d 85 1 [l0, l1, l2, l3, l4] (.int x :: t) g r ↔ mm_Rn pg_G d 85 2 [l0, l1, .int x, l3, l4] (t) g r := rn_istore_n tb_85_1 (mm_so_of (ls := [l0, l1, l2, l3, l4]) (v := l1) (Nat.le_of_ble_eq_true rfl) rfl hc) r
theorem tb_85_2 : mm_tb pg_G 85 2 = some (.iload_n 2, 0, 0, 0) := rfl
theorem st_85_2 {l0 l1 l3 l4 : Value} {d : Nat} {t : List Value} {g : mm_M} {r : mm_R} {x : Int32} : mm_Rn pg_G d 85 2 [l0, l1, .int x, l3, l4] (t) g r ↔ mm_Rn pg_G d 85 3 [l0, l1, .int x, l3, l4] (.int x :: t) g r := rn_iload_n tb_85_2 rfl r
theorem tb_85_3 : mm_tb pg_G 85 3 = some (.bipush 6, 0, 0, 0) := rfl
theorem st_85_3 {d : Nat} {ls t : List Value} {g : mm_M} {r : mm_R} : mm_Rn pg_G d 85 3 ls (t) g r ↔ mm_Rn pg_G d 85 5 ls (io_v 6 :: t) g r := rn_bipush tb_85_3 r
theorem tb_85_5 : mm_tb pg_G 85 5 = some (.if_icmp .gt 64, 69, 0, 0) := rfl
theorem st_85_5 {d : Nat} {ls t : List Value} {g : mm_M} {r : mm_R} {x y : Int32} : mm_Rn pg_G d 85 5 ls (.int y :: .int x :: t) g r ↔ if y < x then mm_Rn pg_G d 85 69 ls (t) g r else mm_Rn pg_G d 85 8 ls (t) g r := rn_icmp_gt tb_85_5 r
theorem tb_85_8 : mm_tb pg_G 85 8 = some (.iconst 0, 0, 0, 0) := rfl
theorem st_85_8 {d : Nat} {ls t : List Value} {g : mm_M} {r : mm_R} : mm_Rn pg_G d 85 8 ls (t) g r ↔ mm_Rn pg_G d 85 9 ls (io_v 0 :: t) g r := rn_iconst tb_85_8 r
theorem tb_85_9 : mm_tb pg_G 85 9 = some (.istore_n 3, 0, 0, 0) := rfl
theorem st_85_9 {l0 l1 l2 l3 l4 : Value} {d : Nat} {t : List Value} {g : mm_M} {r : mm_R} {x : Int32} (hc : mm_c1 l2 = true) : mm_Rn pg_G d 85 9 [l0, l1, l2, l3, l4] (.int x :: t) g r ↔ mm_Rn pg_G d 85 10 [l0, l1, l2, .int x, l4] (t) g r := rn_istore_n tb_85_9 (mm_so_of (ls := [l0, l1, l2, l3, l4]) (v := l2) (Nat.le_of_ble_eq_true rfl) rfl hc) r
theorem tb_85_10 : mm_tb pg_G 85 10 = some (.iconst 0, 0, 0, 0) := rfl
theorem st_85_10 {d : Nat} {ls t : List Value} {g : mm_M} {r : mm_R} : mm_Rn pg_G d 85 10 ls (t) g r ↔ mm_Rn pg_G d 85 11 ls (io_v 0 :: t) g r := rn_iconst tb_85_10 r
theorem tb_85_11 : mm_tb pg_G 85 11 = some (.istore 4, 0, 0, 0) := rfl
theorem st_85_11 {l0 l1 l2 l3 l4 : Value} {d : Nat} {t : List Value} {g : mm_M} {r : mm_R} {x : Int32} (hc : mm_c1 l3 = true) : mm_Rn pg_G d 85 11 [l0, l1, l2, l3, l4] (.int x :: t) g r ↔ mm_Rn pg_G d 85 13 [l0, l1, l2, l3, .int x] (t) g r := rn_istore tb_85_11 (mm_so_of (ls := [l0, l1, l2, l3, l4]) (v := l3) (Nat.le_of_ble_eq_true rfl) rfl hc) r
theorem tb_85_13 : mm_tb pg_G 85 13 = some (.iload 4, 0, 0, 0) := rfl
theorem st_85_13 {l0 l1 l2 l3 : Value} {d : Nat} {t : List Value} {g : mm_M} {r : mm_R} {x : Int32} : mm_Rn pg_G d 85 13 [l0, l1, l2, l3, .int x] (t) g r ↔ mm_Rn pg_G d 85 15 [l0, l1, l2, l3, .int x] (.int x :: t) g r := rn_iload tb_85_13 rfl r
theorem tb_85_15 : mm_tb pg_G 85 15 = some (.bipush 6, 0, 0, 0) := rfl
theorem st_85_15 {d : Nat} {ls t : List Value} {g : mm_M} {r : mm_R} : mm_Rn pg_G d 85 15 ls (t) g r ↔ mm_Rn pg_G d 85 17 ls (io_v 6 :: t) g r := rn_bipush tb_85_15 r
theorem tb_85_17 : mm_tb pg_G 85 17 = some (.if_icmp .gt 31, 48, 0, 0) := rfl
theorem st_85_17 {d : Nat} {ls t : List Value} {g : mm_M} {r : mm_R} {x y : Int32} : mm_Rn pg_G d 85 17 ls (.int y :: .int x :: t) g r ↔ if y < x then mm_Rn pg_G d 85 48 ls (t) g r else mm_Rn pg_G d 85 20 ls (t) g r := rn_icmp_gt tb_85_17 r
theorem tb_85_20 : mm_tb pg_G 85 20 = some (.aload_n 0, 0, 0, 0) := rfl
theorem st_85_20 {l1 l2 l3 l4 : Value} {d : Nat} {t : List Value} {g : mm_M} {r : mm_R} {x : Nat} : mm_Rn pg_G d 85 20 [.ref x, l1, l2, l3, l4] (t) g r ↔ mm_Rn pg_G d 85 21 [.ref x, l1, l2, l3, l4] (.ref x :: t) g r := rn_aload_n tb_85_20 rfl r
theorem tb_85_21 : mm_tb pg_G 85 21 = some (.iload 4, 0, 0, 0) := rfl
theorem st_85_21 {l0 l1 l2 l3 : Value} {d : Nat} {t : List Value} {g : mm_M} {r : mm_R} {x : Int32} : mm_Rn pg_G d 85 21 [l0, l1, l2, l3, .int x] (t) g r ↔ mm_Rn pg_G d 85 23 [l0, l1, l2, l3, .int x] (.int x :: t) g r := rn_iload tb_85_21 rfl r
theorem tb_85_23 : mm_tb pg_G 85 23 = some (.invokevirtual 120, 82, 2, 565) := rfl
theorem st_85_23 {d c s c' s' : Nat} {ls t : List Value} {I J : sp_I} {r : mm_R} {a0 : Int32} {y : Nat} {v : Int32} (hl : t.length ≤ 4) (hT : sp_T I y = some (6, 35)) (hq : mm_Rn pg_G d 82 0 [.ref y, .int a0] [] (sp_me I 0 0) (some (.int v), sp_me J c' s')) : mm_Rn pg_G (d + 1) 85 23 ls (.int a0 :: .ref y :: t) (sp_me I c s) r ↔ mm_Rn pg_G (d + 1) 85 26 ls (.int v :: t) (sp_me J (c + c') (s + s')) r := rn_virt (g := sp_me I c s) (st := .int a0 :: .ref y :: t) tb_85_23 (decide_eq_true hT) ⟨Nat.le_add_left _ t.length, hl, rfl⟩ hq r
theorem tb_85_26 : mm_tb pg_G 85 26 = some (.ifCond .eq 16, 42, 0, 0) := rfl
theorem st_85_26 {d : Nat} {ls t : List Value} {g : mm_M} {r : mm_R} {x : Int32} : mm_Rn pg_G d 85 26 ls (.int x :: t) g r ↔ if x = 0 then mm_Rn pg_G d 85 42 ls (t) g r else mm_Rn pg_G d 85 29 ls (t) g r := rn_if_eq tb_85_26 r
theorem tb_85_29 : mm_tb pg_G 85 29 = some (.aload_n 0, 0, 0, 0) := rfl
theorem st_85_29 {l1 l2 l3 l4 : Value} {d : Nat} {t : List Value} {g : mm_M} {r : mm_R} {x : Nat} : mm_Rn pg_G d 85 29 [.ref x, l1, l2, l3, l4] (t) g r ↔ mm_Rn pg_G d 85 30 [.ref x, l1, l2, l3, l4] (.ref x :: t) g r := rn_aload_n tb_85_29 rfl r
theorem tb_85_30 : mm_tb pg_G 85 30 = some (.iload 4, 0, 0, 0) := rfl
theorem st_85_30 {l0 l1 l2 l3 : Value} {d : Nat} {t : List Value} {g : mm_M} {r : mm_R} {x : Int32} : mm_Rn pg_G d 85 30 [l0, l1, l2, l3, .int x] (t) g r ↔ mm_Rn pg_G d 85 32 [l0, l1, l2, l3, .int x] (.int x :: t) g r := rn_iload tb_85_30 rfl r
theorem tb_85_32 : mm_tb pg_G 85 32 = some (.iload_n 2, 0, 0, 0) := rfl
theorem st_85_32 {l0 l1 l3 l4 : Value} {d : Nat} {t : List Value} {g : mm_M} {r : mm_R} {x : Int32} : mm_Rn pg_G d 85 32 [l0, l1, .int x, l3, l4] (t) g r ↔ mm_Rn pg_G d 85 33 [l0, l1, .int x, l3, l4] (.int x :: t) g r := rn_iload_n tb_85_32 rfl r
theorem tb_85_33 : mm_tb pg_G 85 33 = some (.invokevirtual 123, 84, 3, 568) := rfl
theorem st_85_33 {d c s c' s' : Nat} {ls t : List Value} {I J : sp_I} {r : mm_R} {a0 a1 : Int32} {y : Nat} {v : Int32} (hl : t.length ≤ 4) (hT : sp_T I y = some (6, 35)) (hq : mm_Rn pg_G d 84 0 [.ref y, .int a0, .int a1, .retAddr 0, .retAddr 0] [] (sp_me I 0 0) (some (.int v), sp_me J c' s')) : mm_Rn pg_G (d + 1) 85 33 ls (.int a1 :: .int a0 :: .ref y :: t) (sp_me I c s) r ↔ mm_Rn pg_G (d + 1) 85 36 ls (.int v :: t) (sp_me J (c + c') (s + s')) r := rn_virt (g := sp_me I c s) (st := .int a1 :: .int a0 :: .ref y :: t) tb_85_33 (decide_eq_true hT) ⟨Nat.le_add_left _ t.length, hl, rfl⟩ hq r
theorem tb_85_36 : mm_tb pg_G 85 36 = some (.ifCond .eq 6, 42, 0, 0) := rfl
theorem st_85_36 {d : Nat} {ls t : List Value} {g : mm_M} {r : mm_R} {x : Int32} : mm_Rn pg_G d 85 36 ls (.int x :: t) g r ↔ if x = 0 then mm_Rn pg_G d 85 42 ls (t) g r else mm_Rn pg_G d 85 39 ls (t) g r := rn_if_eq tb_85_36 r
theorem tb_85_39 : mm_tb pg_G 85 39 = some (.iinc 3 1, 0, 0, 0) := rfl
theorem st_85_39 {l0 l1 l2 l4 : Value} {d : Nat} {t : List Value} {g : mm_M} {r : mm_R} {x : Int32} (hc : mm_c1 l2 = true) : mm_Rn pg_G d 85 39 [l0, l1, l2, .int x, l4] (t) g r ↔ mm_Rn pg_G d 85 42 [l0, l1, l2, .int (x + Int32.ofInt 1), l4] (t) g r := rn_iinc tb_85_39 rfl (mm_so_of (ls := [l0, l1, l2, .int x, l4]) (v := l2) (Nat.le_of_ble_eq_true rfl) rfl hc) r
theorem tb_85_42 : mm_tb pg_G 85 42 = some (.iinc 4 1, 0, 0, 0) := rfl
theorem st_85_42 {l0 l1 l2 l3 : Value} {d : Nat} {t : List Value} {g : mm_M} {r : mm_R} {x : Int32} (hc : mm_c1 l3 = true) : mm_Rn pg_G d 85 42 [l0, l1, l2, l3, .int x] (t) g r ↔ mm_Rn pg_G d 85 45 [l0, l1, l2, l3, .int (x + Int32.ofInt 1)] (t) g r := rn_iinc tb_85_42 rfl (mm_so_of (ls := [l0, l1, l2, l3, .int x]) (v := l3) (Nat.le_of_ble_eq_true rfl) rfl hc) r
theorem tb_85_45 : mm_tb pg_G 85 45 = some (.goto (-32), 13, 0, 0) := rfl
theorem st_85_45 {d : Nat} {ls t : List Value} {g : mm_M} {r : mm_R} : mm_Rn pg_G d 85 45 ls (t) g r ↔ mm_Rn pg_G d 85 13 ls (t) g r := rn_goto tb_85_45 r
theorem tb_85_48 : mm_tb pg_G 85 48 = some (.aload_n 0, 0, 0, 0) := rfl
theorem st_85_48 {l1 l2 l3 l4 : Value} {d : Nat} {t : List Value} {g : mm_M} {r : mm_R} {x : Nat} : mm_Rn pg_G d 85 48 [.ref x, l1, l2, l3, l4] (t) g r ↔ mm_Rn pg_G d 85 49 [.ref x, l1, l2, l3, l4] (.ref x :: t) g r := rn_aload_n tb_85_48 rfl r
theorem tb_85_49 : mm_tb pg_G 85 49 = some (.iload_n 2, 0, 0, 0) := rfl
theorem st_85_49 {l0 l1 l3 l4 : Value} {d : Nat} {t : List Value} {g : mm_M} {r : mm_R} {x : Int32} : mm_Rn pg_G d 85 49 [l0, l1, .int x, l3, l4] (t) g r ↔ mm_Rn pg_G d 85 50 [l0, l1, .int x, l3, l4] (.int x :: t) g r := rn_iload_n tb_85_49 rfl r
theorem tb_85_50 : mm_tb pg_G 85 50 = some (.invokevirtual 120, 82, 2, 565) := rfl
theorem st_85_50 {d c s c' s' : Nat} {ls t : List Value} {I J : sp_I} {r : mm_R} {a0 : Int32} {y : Nat} {v : Int32} (hl : t.length ≤ 4) (hT : sp_T I y = some (6, 35)) (hq : mm_Rn pg_G d 82 0 [.ref y, .int a0] [] (sp_me I 0 0) (some (.int v), sp_me J c' s')) : mm_Rn pg_G (d + 1) 85 50 ls (.int a0 :: .ref y :: t) (sp_me I c s) r ↔ mm_Rn pg_G (d + 1) 85 53 ls (.int v :: t) (sp_me J (c + c') (s + s')) r := rn_virt (g := sp_me I c s) (st := .int a0 :: .ref y :: t) tb_85_50 (decide_eq_true hT) ⟨Nat.le_add_left _ t.length, hl, rfl⟩ hq r
theorem tb_85_53 : mm_tb pg_G 85 53 = some (.ifCond .eq 10, 63, 0, 0) := rfl
theorem st_85_53 {d : Nat} {ls t : List Value} {g : mm_M} {r : mm_R} {x : Int32} : mm_Rn pg_G d 85 53 ls (.int x :: t) g r ↔ if x = 0 then mm_Rn pg_G d 85 63 ls (t) g r else mm_Rn pg_G d 85 56 ls (t) g r := rn_if_eq tb_85_53 r
theorem tb_85_56 : mm_tb pg_G 85 56 = some (.iload_n 3, 0, 0, 0) := rfl
theorem st_85_56 {l0 l1 l2 l4 : Value} {d : Nat} {t : List Value} {g : mm_M} {r : mm_R} {x : Int32} : mm_Rn pg_G d 85 56 [l0, l1, l2, .int x, l4] (t) g r ↔ mm_Rn pg_G d 85 57 [l0, l1, l2, .int x, l4] (.int x :: t) g r := rn_iload_n tb_85_56 rfl r
theorem tb_85_57 : mm_tb pg_G 85 57 = some (.iload_n 1, 0, 0, 0) := rfl
theorem st_85_57 {l0 l2 l3 l4 : Value} {d : Nat} {t : List Value} {g : mm_M} {r : mm_R} {x : Int32} : mm_Rn pg_G d 85 57 [l0, .int x, l2, l3, l4] (t) g r ↔ mm_Rn pg_G d 85 58 [l0, .int x, l2, l3, l4] (.int x :: t) g r := rn_iload_n tb_85_57 rfl r
theorem tb_85_58 : mm_tb pg_G 85 58 = some (.if_icmp .ne 5, 63, 0, 0) := rfl
theorem st_85_58 {d : Nat} {ls t : List Value} {g : mm_M} {r : mm_R} {x y : Int32} : mm_Rn pg_G d 85 58 ls (.int y :: .int x :: t) g r ↔ if x = y then mm_Rn pg_G d 85 61 ls (t) g r else mm_Rn pg_G d 85 63 ls (t) g r := rn_icmp_ne tb_85_58 r
theorem tb_85_61 : mm_tb pg_G 85 61 = some (.iload_n 2, 0, 0, 0) := rfl
theorem st_85_61 {l0 l1 l3 l4 : Value} {d : Nat} {t : List Value} {g : mm_M} {r : mm_R} {x : Int32} : mm_Rn pg_G d 85 61 [l0, l1, .int x, l3, l4] (t) g r ↔ mm_Rn pg_G d 85 62 [l0, l1, .int x, l3, l4] (.int x :: t) g r := rn_iload_n tb_85_61 rfl r
theorem tb_85_62 : mm_tb pg_G 85 62 = some (.ireturn, 0, 0, 0) := rfl
theorem st_85_62 {d : Nat} {ls : List Value} {g : mm_M} {r : mm_R} {x : Int32} : mm_Rn pg_G d 85 62 ls [.int x] g r ↔ r = (some (.int x), g) := rn_ireturn_iff tb_85_62 (Or.inl rfl) r
theorem tb_85_63 : mm_tb pg_G 85 63 = some (.iinc 2 1, 0, 0, 0) := rfl
theorem st_85_63 {l0 l1 l3 l4 : Value} {d : Nat} {t : List Value} {g : mm_M} {r : mm_R} {x : Int32} (hc : mm_c1 l1 = true) : mm_Rn pg_G d 85 63 [l0, l1, .int x, l3, l4] (t) g r ↔ mm_Rn pg_G d 85 66 [l0, l1, .int (x + Int32.ofInt 1), l3, l4] (t) g r := rn_iinc tb_85_63 rfl (mm_so_of (ls := [l0, l1, .int x, l3, l4]) (v := l1) (Nat.le_of_ble_eq_true rfl) rfl hc) r
theorem tb_85_66 : mm_tb pg_G 85 66 = some (.goto (-64), 2, 0, 0) := rfl
theorem st_85_66 {d : Nat} {ls t : List Value} {g : mm_M} {r : mm_R} : mm_Rn pg_G d 85 66 ls (t) g r ↔ mm_Rn pg_G d 85 2 ls (t) g r := rn_goto tb_85_66 r
theorem tb_85_69 : mm_tb pg_G 85 69 = some (.iconst (-1), 0, 0, 0) := rfl
theorem st_85_69 {d : Nat} {ls t : List Value} {g : mm_M} {r : mm_R} : mm_Rn pg_G d 85 69 ls (t) g r ↔ mm_Rn pg_G d 85 70 ls (io_v (-1) :: t) g r := rn_iconst tb_85_69 r
theorem tb_85_70 : mm_tb pg_G 85 70 = some (.ireturn, 0, 0, 0) := rfl
theorem st_85_70 {d : Nat} {ls : List Value} {g : mm_M} {r : mm_R} {x : Int32} : mm_Rn pg_G d 85 70 ls [.int x] g r ↔ r = (some (.int x), g) := rn_ireturn_iff tb_85_70 (Or.inl rfl) r
