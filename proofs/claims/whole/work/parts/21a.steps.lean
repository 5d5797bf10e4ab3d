/-! a row an instruction of the program -/
theorem tb_0_0 : mm_tb pg_G 0 0 = some (.aload_n 0, 0, 0, 0) := rfl
theorem st_0_0 {l1 l2 l3 : Value} {d : Nat} {t : List Value} {g : mm_M} {r : mm_R} {x : Nat} : mm_Rn pg_G d 0 0 [.ref x, l1, l2, l3] (t) g r ↔ mm_Rn pg_G d 0 1 [.ref x, l1, l2, l3] (.ref x :: t) g r := rn_aload_n tb_0_0 rfl r
theorem tb_0_1 : mm_tb pg_G 0 1 = some (.invokespecial 1, 998, 0, 194) := rfl
theorem st_0_1 {d : Nat} {ls t : List Value} {g : mm_M} {r : mm_R} {x : Nat} (hl : t.length ≤ 4) : mm_Rn pg_G (d + 1) 0 1 ls (.ref x :: t) g r ↔ mm_Rn pg_G (d + 1) 0 4 ls (t) g r := rn_oinit tb_0_1 hl r
theorem tb_0_4 : mm_tb pg_G 0 4 = some (.aload_n 0, 0, 0, 0) := rfl
theorem st_0_4 {l1 l2 l3 : Value} {d : Nat} {t : List Value} {g : mm_M} {r : mm_R} {x : Nat} : mm_Rn pg_G d 0 4 [.ref x, l1, l2, l3] (t) g r ↔ mm_Rn pg_G d 0 5 [.ref x, l1, l2, l3] (.ref x :: t) g r := rn_aload_n tb_0_4 rfl r
theorem tb_0_5 : mm_tb pg_G 0 5 = some (.iload_n 1, 0, 0, 0) := rfl
theorem st_0_5 {l0 l2 l3 : Value} {d : Nat} {t : List Value} {g : mm_M} {r : mm_R} {x : Int32} : mm_Rn pg_G d 0 5 [l0, .int x, l2, l3] (t) g r ↔ mm_Rn pg_G d 0 6 [l0, .int x, l2, l3] (.int x :: t) g r := rn_iload_n tb_0_5 rfl r
theorem tb_0_6 : mm_tb pg_G 0 6 = some (.putfield 7, 4, 0, 195) := rfl
theorem st_0_6 {d : Nat} {ls t : List Value} {g : mm_M} {r : mm_R} {x : Nat} {v : Int32} (hT : g.1 x = some (4, 3)) : mm_Rn pg_G d 0 6 ls (.int v :: .ref x :: t) g r ↔ mm_Rn pg_G d 0 9 ls (t) (mm_wr g x 0 (.int v)) r := rn_putfield tb_0_6 hT rfl r
theorem tb_0_9 : mm_tb pg_G 0 9 = some (.aload_n 0, 0, 0, 0) := rfl
theorem st_0_9 {l1 l2 l3 : Value} {d : Nat} {t : List Value} {g : mm_M} {r : mm_R} {x : Nat} : mm_Rn pg_G d 0 9 [.ref x, l1, l2, l3] (t) g r ↔ mm_Rn pg_G d 0 10 [.ref x, l1, l2, l3] (.ref x :: t) g r := rn_aload_n tb_0_9 rfl r
theorem tb_0_10 : mm_tb pg_G 0 10 = some (.iload_n 2, 0, 0, 0) := rfl
theorem st_0_10 {l0 l1 l3 : Value} {d : Nat} {t : List Value} {g : mm_M} {r : mm_R} {x : Int32} : mm_Rn pg_G d 0 10 [l0, l1, .int x, l3] (t) g r ↔ mm_Rn pg_G d 0 11 [l0, l1, .int x, l3] (.int x :: t) g r := rn_iload_n tb_0_10 rfl r
theorem tb_0_11 : mm_tb pg_G 0 11 = some (.putfield 13, 4, 1, 197) := rfl
theorem st_0_11 {d : Nat} {ls t : List Value} {g : mm_M} {r : mm_R} {x : Nat} {v : Int32} (hT : g.1 x = some (4, 3)) : mm_Rn pg_G d 0 11 ls (.int v :: .ref x :: t) g r ↔ mm_Rn pg_G d 0 14 ls (t) (mm_wr g x 1 (.int v)) r := rn_putfield tb_0_11 hT rfl r
theorem tb_0_14 : mm_tb pg_G 0 14 = some (.aload_n 0, 0, 0, 0) := rfl
theorem st_0_14 {l1 l2 l3 : Value} {d : Nat} {t : List Value} {g : mm_M} {r : mm_R} {x : Nat} : mm_Rn pg_G d 0 14 [.ref x, l1, l2, l3] (t) g r ↔ mm_Rn pg_G d 0 15 [.ref x, l1, l2, l3] (.ref x :: t) g r := rn_aload_n tb_0_14 rfl r
theorem tb_0_15 : mm_tb pg_G 0 15 = some (.iload_n 3, 0, 0, 0) := rfl
theorem st_0_15 {l0 l1 l2 : Value} {d : Nat} {t : List Value} {g : mm_M} {r : mm_R} {x : Int32} : mm_Rn pg_G d 0 15 [l0, l1, l2, .int x] (t) g r ↔ mm_Rn pg_G d 0 16 [l0, l1, l2, .int x] (.int x :: t) g r := rn_iload_n tb_0_15 rfl r
theorem tb_0_16 : mm_tb pg_G 0 16 = some (.putfield 16, 4, 2, 199) := rfl
theorem st_0_16 {d : Nat} {ls t : List Value} {g : mm_M} {r : mm_R} {x : Nat} {v : Int32} (hT : g.1 x = some (4, 3)) : mm_Rn pg_G d 0 16 ls (.int v :: .ref x :: t) g r ↔ mm_Rn pg_G d 0 19 ls (t) (mm_wr g x 2 (.int v)) r := rn_putfield tb_0_16 hT rfl r
theorem tb_0_19 : mm_tb pg_G 0 19 = some (.return_, 0, 0, 0) := rfl
theorem st_0_19 {d : Nat} {ls : List Value} {g : mm_M} {r : mm_R} : mm_Rn pg_G d 0 19 ls [] g r ↔ r = (none, g) := rn_return_iff tb_0_19 rfl r
theorem tb_1_0 : mm_tb pg_G 1 0 = some (.iload_n 3, 0, 0, 0) := rfl
theorem st_1_0 {l0 l1 l2 l4 l5 l6 : Value} {d : Nat} {t : List Value} {g : mm_M} {r : mm_R} {x : Int32} : mm_Rn pg_G d 1 0 [l0, l1, l2, .int x, l4, l5, l6] (t) g r ↔ mm_Rn pg_G d 1 1 [l0, l1, l2, .int x, l4, l5, l6] (.int x :: t) g r := rn_iload_n tb_1_0 rfl r
theorem tb_1_1 : mm_tb pg_G 1 1 = some (.aload_n 0, 0, 0, 0) := rfl
theorem st_1_1 {l1 l2 l3 l4 l5 l6 : Value} {d : Nat} {t : List Value} {g : mm_M} {r : mm_R} {x : Nat} : mm_Rn pg_G d 1 1 [.ref x, l1, l2, l3, l4, l5, l6] (t) g r ↔ mm_Rn pg_G d 1 2 [.ref x, l1, l2, l3, l4, l5, l6] (.ref x :: t) g r := rn_aload_n tb_1_1 rfl r
theorem tb_1_2 : mm_tb pg_G 1 2 = some (.getfield 13, 4, 1, 197) := rfl
theorem st_1_2 {d : Nat} {ls t : List Value} {g : mm_M} {r : mm_R} {x : Nat} (hT : g.1 x = some (4, 3)) : mm_Rn pg_G d 1 2 ls (.ref x :: t) g r ↔ mm_Rn pg_G d 1 5 ls (g.2.1 x 1 :: t) g r := rn_getfield tb_1_2 hT r
theorem tb_1_5 : mm_tb pg_G 1 5 = some (.if_icmp .le 11, 16, 0, 0) := rfl
theorem st_1_5 {d : Nat} {ls t : List Value} {g : mm_M} {r : mm_R} {x y : Int32} : mm_Rn pg_G d 1 5 ls (.int y :: .int x :: t) g r ↔ if x ≤ y then mm_Rn pg_G d 1 16 ls (t) g r else mm_Rn pg_G d 1 8 ls (t) g r := rn_icmp_le tb_1_5 r
theorem tb_1_8 : mm_tb pg_G 1 8 = some (.aload_n 0, 0, 0, 0) := rfl
theorem st_1_8 {l1 l2 l3 l4 l5 l6 : Value} {d : Nat} {t : List Value} {g : mm_M} {r : mm_R} {x : Nat} : mm_Rn pg_G d 1 8 [.ref x, l1, l2, l3, l4, l5, l6] (t) g r ↔ mm_Rn pg_G d 1 9 [.ref x, l1, l2, l3, l4, l5, l6] (.ref x :: t) g r := rn_aload_n tb_1_8 rfl r
theorem tb_1_9 : mm_tb pg_G 1 9 = some (.getfield 16, 4, 2, 199) := rfl
theorem st_1_9 {d : Nat} {ls t : List Value} {g : mm_M} {r : mm_R} {x : Nat} (hT : g.1 x = some (4, 3)) : mm_Rn pg_G d 1 9 ls (.ref x :: t) g r ↔ mm_Rn pg_G d 1 12 ls (g.2.1 x 2 :: t) g r := rn_getfield tb_1_9 hT r
theorem tb_1_12 : mm_tb pg_G 1 12 = some (.iload_n 2, 0, 0, 0) := rfl
theorem st_1_12 {l0 l1 l3 l4 l5 l6 : Value} {d : Nat} {t : List Value} {g : mm_M} {r : mm_R} {x : Int32} : mm_Rn pg_G d 1 12 [l0, l1, .int x, l3, l4, l5, l6] (t) g r ↔ mm_Rn pg_G d 1 13 [l0, l1, .int x, l3, l4, l5, l6] (.int x :: t) g r := rn_iload_n tb_1_12 rfl r
theorem tb_1_13 : mm_tb pg_G 1 13 = some (.if_icmp .gt 7, 20, 0, 0) := rfl
theorem st_1_13 {d : Nat} {ls t : List Value} {g : mm_M} {r : mm_R} {x y : Int32} : mm_Rn pg_G d 1 13 ls (.int y :: .int x :: t) g r ↔ if y < x then mm_Rn pg_G d 1 20 ls (t) g r else mm_Rn pg_G d 1 16 ls (t) g r := rn_icmp_gt tb_1_13 r
theorem tb_1_16 : mm_tb pg_G 1 16 = some (.iconst 1, 0, 0, 0) := rfl
theorem st_1_16 {d : Nat} {ls t : List Value} {g : mm_M} {r : mm_R} : mm_Rn pg_G d 1 16 ls (t) g r ↔ mm_Rn pg_G d 1 17 ls (io_v 1 :: t) g r := rn_iconst tb_1_16 r
theorem tb_1_17 : mm_tb pg_G 1 17 = some (.goto 4, 21, 0, 0) := rfl
theorem st_1_17 {d : Nat} {ls t : List Value} {g : mm_M} {r : mm_R} : mm_Rn pg_G d 1 17 ls (t) g r ↔ mm_Rn pg_G d 1 21 ls (t) g r := rn_goto tb_1_17 r
theorem tb_1_20 : mm_tb pg_G 1 20 = some (.iconst 0, 0, 0, 0) := rfl
theorem st_1_20 {d : Nat} {ls t : List Value} {g : mm_M} {r : mm_R} : mm_Rn pg_G d 1 20 ls (t) g r ↔ mm_Rn pg_G d 1 21 ls (io_v 0 :: t) g r := rn_iconst tb_1_20 r
theorem tb_1_21 : mm_tb pg_G 1 21 = some (.istore 4, 0, 0, 0) := rfl
theorem st_1_21 {l0 l1 l2 l3 l4 l5 l6 : Value} {d : Nat} {t : List Value} {g : mm_M} {r : mm_R} {x : Int32} (hc : mm_c1 l3 = true) : mm_Rn pg_G d 1 21 [l0, l1, l2, l3, l4, l5, l6] (.int x :: t) g r ↔ mm_Rn pg_G d 1 23 [l0, l1, l2, l3, .int x, l5, l6] (t) g r := rn_istore tb_1_21 (mm_so_of (ls := [l0, l1, l2, l3, l4, l5, l6]) (v := l3) (Nat.le_of_ble_eq_true rfl) rfl hc) r
theorem tb_1_23 : mm_tb pg_G 1 23 = some (.aload_n 0, 0, 0, 0) := rfl
theorem st_1_23 {l1 l2 l3 l4 l5 l6 : Value} {d : Nat} {t : List Value} {g : mm_M} {r : mm_R} {x : Nat} : mm_Rn pg_G d 1 23 [.ref x, l1, l2, l3, l4, l5, l6] (t) g r ↔ mm_Rn pg_G d 1 24 [.ref x, l1, l2, l3, l4, l5, l6] (.ref x :: t) g r := rn_aload_n tb_1_23 rfl r
theorem tb_1_24 : mm_tb pg_G 1 24 = some (.getfield 13, 4, 1, 197) := rfl
theorem st_1_24 {d : Nat} {ls t : List Value} {g : mm_M} {r : mm_R} {x : Nat} (hT : g.1 x = some (4, 3)) : mm_Rn pg_G d 1 24 ls (.ref x :: t) g r ↔ mm_Rn pg_G d 1 27 ls (g.2.1 x 1 :: t) g r := rn_getfield tb_1_24 hT r
theorem tb_1_27 : mm_tb pg_G 1 27 = some (.iload_n 2, 0, 0, 0) := rfl
theorem st_1_27 {l0 l1 l3 l4 l5 l6 : Value} {d : Nat} {t : List Value} {g : mm_M} {r : mm_R} {x : Int32} : mm_Rn pg_G d 1 27 [l0, l1, .int x, l3, l4, l5, l6] (t) g r ↔ mm_Rn pg_G d 1 28 [l0, l1, .int x, l3, l4, l5, l6] (.int x :: t) g r := rn_iload_n tb_1_27 rfl r
theorem tb_1_28 : mm_tb pg_G 1 28 = some (.if_icmp .gt 15, 43, 0, 0) := rfl
theorem st_1_28 {d : Nat} {ls t : List Value} {g : mm_M} {r : mm_R} {x y : Int32} : mm_Rn pg_G d 1 28 ls (.int y :: .int x :: t) g r ↔ if y < x then mm_Rn pg_G d 1 43 ls (t) g r else mm_Rn pg_G d 1 31 ls (t) g r := rn_icmp_gt tb_1_28 r
theorem tb_1_31 : mm_tb pg_G 1 31 = some (.iload_n 3, 0, 0, 0) := rfl
theorem st_1_31 {l0 l1 l2 l4 l5 l6 : Value} {d : Nat} {t : List Value} {g : mm_M} {r : mm_R} {x : Int32} : mm_Rn pg_G d 1 31 [l0, l1, l2, .int x, l4, l5, l6] (t) g r ↔ mm_Rn pg_G d 1 32 [l0, l1, l2, .int x, l4, l5, l6] (.int x :: t) g r := rn_iload_n tb_1_31 rfl r
theorem tb_1_32 : mm_tb pg_G 1 32 = some (.aload_n 0, 0, 0, 0) := rfl
theorem st_1_32 {l1 l2 l3 l4 l5 l6 : Value} {d : Nat} {t : List Value} {g : mm_M} {r : mm_R} {x : Nat} : mm_Rn pg_G d 1 32 [.ref x, l1, l2, l3, l4, l5, l6] (t) g r ↔ mm_Rn pg_G d 1 33 [.ref x, l1, l2, l3, l4, l5, l6] (.ref x :: t) g r := rn_aload_n tb_1_32 rfl r
theorem tb_1_33 : mm_tb pg_G 1 33 = some (.getfield 16, 4, 2, 199) := rfl
theorem st_1_33 {d : Nat} {ls t : List Value} {g : mm_M} {r : mm_R} {x : Nat} (hT : g.1 x = some (4, 3)) : mm_Rn pg_G d 1 33 ls (.ref x :: t) g r ↔ mm_Rn pg_G d 1 36 ls (g.2.1 x 2 :: t) g r := rn_getfield tb_1_33 hT r
theorem tb_1_36 : mm_tb pg_G 1 36 = some (.if_icmp .gt 7, 43, 0, 0) := rfl
theorem st_1_36 {d : Nat} {ls t : List Value} {g : mm_M} {r : mm_R} {x y : Int32} : mm_Rn pg_G d 1 36 ls (.int y :: .int x :: t) g r ↔ if y < x then mm_Rn pg_G d 1 43 ls (t) g r else mm_Rn pg_G d 1 39 ls (t) g r := rn_icmp_gt tb_1_36 r
theorem tb_1_39 : mm_tb pg_G 1 39 = some (.iconst 1, 0, 0, 0) := rfl
theorem st_1_39 {d : Nat} {ls t : List Value} {g : mm_M} {r : mm_R} : mm_Rn pg_G d 1 39 ls (t) g r ↔ mm_Rn pg_G d 1 40 ls (io_v 1 :: t) g r := rn_iconst tb_1_39 r
theorem tb_1_40 : mm_tb pg_G 1 40 = some (.goto 4, 44, 0, 0) := rfl
theorem st_1_40 {d : Nat} {ls t : List Value} {g : mm_M} {r : mm_R} : mm_Rn pg_G d 1 40 ls (t) g r ↔ mm_Rn pg_G d 1 44 ls (t) g r := rn_goto tb_1_40 r
theorem tb_1_43 : mm_tb pg_G 1 43 = some (.iconst 0, 0, 0, 0) := rfl
theorem st_1_43 {d : Nat} {ls t : List Value} {g : mm_M} {r : mm_R} : mm_Rn pg_G d 1 43 ls (t) g r ↔ mm_Rn pg_G d 1 44 ls (io_v 0 :: t) g r := rn_iconst tb_1_43 r
theorem tb_1_44 : mm_tb pg_G 1 44 = some (.istore 5, 0, 0, 0) := rfl
theorem st_1_44 {l0 l1 l2 l3 l4 l5 l6 : Value} {d : Nat} {t : List Value} {g : mm_M} {r : mm_R} {x : Int32} (hc : mm_c1 l4 = true) : mm_Rn pg_G d 1 44 [l0, l1, l2, l3, l4, l5, l6] (.int x :: t) g r ↔ mm_Rn pg_G d 1 46 [l0, l1, l2, l3, l4, .int x, l6] (t) g r := rn_istore tb_1_44 (mm_so_of (ls := [l0, l1, l2, l3, l4, l5, l6]) (v := l4) (Nat.le_of_ble_eq_true rfl) rfl hc) r
theorem tb_1_46 : mm_tb pg_G 1 46 = some (.iload_n 2, 0, 0, 0) := rfl
theorem st_1_46 {l0 l1 l3 l4 l5 l6 : Value} {d : Nat} {t : List Value} {g : mm_M} {r : mm_R} {x : Int32} : mm_Rn pg_G d 1 46 [l0, l1, .int x, l3, l4, l5, l6] (t) g r ↔ mm_Rn pg_G d 1 47 [l0, l1, .int x, l3, l4, l5, l6] (.int x :: t) g r := rn_iload_n tb_1_46 rfl r
theorem tb_1_47 : mm_tb pg_G 1 47 = some (.aload_n 0, 0, 0, 0) := rfl
theorem st_1_47 {l1 l2 l3 l4 l5 l6 : Value} {d : Nat} {t : List Value} {g : mm_M} {r : mm_R} {x : Nat} : mm_Rn pg_G d 1 47 [.ref x, l1, l2, l3, l4, l5, l6] (t) g r ↔ mm_Rn pg_G d 1 48 [.ref x, l1, l2, l3, l4, l5, l6] (.ref x :: t) g r := rn_aload_n tb_1_47 rfl r
theorem tb_1_48 : mm_tb pg_G 1 48 = some (.getfield 13, 4, 1, 197) := rfl
theorem st_1_48 {d : Nat} {ls t : List Value} {g : mm_M} {r : mm_R} {x : Nat} (hT : g.1 x = some (4, 3)) : mm_Rn pg_G d 1 48 ls (.ref x :: t) g r ↔ mm_Rn pg_G d 1 51 ls (g.2.1 x 1 :: t) g r := rn_getfield tb_1_48 hT r
theorem tb_1_51 : mm_tb pg_G 1 51 = some (.if_icmp .gt 15, 66, 0, 0) := rfl
theorem st_1_51 {d : Nat} {ls t : List Value} {g : mm_M} {r : mm_R} {x y : Int32} : mm_Rn pg_G d 1 51 ls (.int y :: .int x :: t) g r ↔ if y < x then mm_Rn pg_G d 1 66 ls (t) g r else mm_Rn pg_G d 1 54 ls (t) g r := rn_icmp_gt tb_1_51 r
theorem tb_1_54 : mm_tb pg_G 1 54 = some (.aload_n 0, 0, 0, 0) := rfl
theorem st_1_54 {l1 l2 l3 l4 l5 l6 : Value} {d : Nat} {t : List Value} {g : mm_M} {r : mm_R} {x : Nat} : mm_Rn pg_G d 1 54 [.ref x, l1, l2, l3, l4, l5, l6] (t) g r ↔ mm_Rn pg_G d 1 55 [.ref x, l1, l2, l3, l4, l5, l6] (.ref x :: t) g r := rn_aload_n tb_1_54 rfl r
theorem tb_1_55 : mm_tb pg_G 1 55 = some (.getfield 16, 4, 2, 199) := rfl
theorem st_1_55 {d : Nat} {ls t : List Value} {g : mm_M} {r : mm_R} {x : Nat} (hT : g.1 x = some (4, 3)) : mm_Rn pg_G d 1 55 ls (.ref x :: t) g r ↔ mm_Rn pg_G d 1 58 ls (g.2.1 x 2 :: t) g r := rn_getfield tb_1_55 hT r
theorem tb_1_58 : mm_tb pg_G 1 58 = some (.iload_n 3, 0, 0, 0) := rfl
theorem st_1_58 {l0 l1 l2 l4 l5 l6 : Value} {d : Nat} {t : List Value} {g : mm_M} {r : mm_R} {x : Int32} : mm_Rn pg_G d 1 58 [l0, l1, l2, .int x, l4, l5, l6] (t) g r ↔ mm_Rn pg_G d 1 59 [l0, l1, l2, .int x, l4, l5, l6] (.int x :: t) g r := rn_iload_n tb_1_58 rfl r
theorem tb_1_59 : mm_tb pg_G 1 59 = some (.if_icmp .gt 7, 66, 0, 0) := rfl
theorem st_1_59 {d : Nat} {ls t : List Value} {g : mm_M} {r : mm_R} {x y : Int32} : mm_Rn pg_G d 1 59 ls (.int y :: .int x :: t) g r ↔ if y < x then mm_Rn pg_G d 1 66 ls (t) g r else mm_Rn pg_G d 1 62 ls (t) g r := rn_icmp_gt tb_1_59 r
theorem tb_1_62 : mm_tb pg_G 1 62 = some (.iconst 1, 0, 0, 0) := rfl
theorem st_1_62 {d : Nat} {ls t : List Value} {g : mm_M} {r : mm_R} : mm_Rn pg_G d 1 62 ls (t) g r ↔ mm_Rn pg_G d 1 63 ls (io_v 1 :: t) g r := rn_iconst tb_1_62 r
theorem tb_1_63 : mm_tb pg_G 1 63 = some (.goto 4, 67, 0, 0) := rfl
theorem st_1_63 {d : Nat} {ls t : List Value} {g : mm_M} {r : mm_R} : mm_Rn pg_G d 1 63 ls (t) g r ↔ mm_Rn pg_G d 1 67 ls (t) g r := rn_goto tb_1_63 r
theorem tb_1_66 : mm_tb pg_G 1 66 = some (.iconst 0, 0, 0, 0) := rfl
theorem st_1_66 {d : Nat} {ls t : List Value} {g : mm_M} {r : mm_R} : mm_Rn pg_G d 1 66 ls (t) g r ↔ mm_Rn pg_G d 1 67 ls (io_v 0 :: t) g r := rn_iconst tb_1_66 r
theorem tb_1_67 : mm_tb pg_G 1 67 = some (.istore 6, 0, 0, 0) := rfl
theorem st_1_67 {l0 l1 l2 l3 l4 l5 l6 : Value} {d : Nat} {t : List Value} {g : mm_M} {r : mm_R} {x : Int32} (hc : mm_c1 l5 = true) : mm_Rn pg_G d 1 67 [l0, l1, l2, l3, l4, l5, l6] (.int x :: t) g r ↔ mm_Rn pg_G d 1 69 [l0, l1, l2, l3, l4, l5, .int x] (t) g r := rn_istore tb_1_67 (mm_so_of (ls := [l0, l1, l2, l3, l4, l5, l6]) (v := l5) (Nat.le_of_ble_eq_true rfl) rfl hc) r
theorem tb_1_69 : mm_tb pg_G 1 69 = some (.iload 4, 0, 0, 0) := rfl
theorem st_1_69 {l0 l1 l2 l3 l5 l6 : Value} {d : Nat} {t : List Value} {g : mm_M} {r : mm_R} {x : Int32} : mm_Rn pg_G d 1 69 [l0, l1, l2, l3, .int x, l5, l6] (t) g r ↔ mm_Rn pg_G d 1 71 [l0, l1, l2, l3, .int x, l5, l6] (.int x :: t) g r := rn_iload tb_1_69 rfl r
theorem tb_1_71 : mm_tb pg_G 1 71 = some (.ifCond .ne 21, 92, 0, 0) := rfl
theorem st_1_71 {d : Nat} {ls t : List Value} {g : mm_M} {r : mm_R} {x : Int32} : mm_Rn pg_G d 1 71 ls (.int x :: t) g r ↔ if x = 0 then mm_Rn pg_G d 1 74 ls (t) g r else mm_Rn pg_G d 1 92 ls (t) g r := rn_if_ne tb_1_71 r
theorem tb_1_74 : mm_tb pg_G 1 74 = some (.iload_n 1, 0, 0, 0) := rfl
theorem st_1_74 {l0 l2 l3 l4 l5 l6 : Value} {d : Nat} {t : List Value} {g : mm_M} {r : mm_R} {x : Int32} : mm_Rn pg_G d 1 74 [l0, .int x, l2, l3, l4, l5, l6] (t) g r ↔ mm_Rn pg_G d 1 75 [l0, .int x, l2, l3, l4, l5, l6] (.int x :: t) g r := rn_iload_n tb_1_74 rfl r
theorem tb_1_75 : mm_tb pg_G 1 75 = some (.aload_n 0, 0, 0, 0) := rfl
theorem st_1_75 {l1 l2 l3 l4 l5 l6 : Value} {d : Nat} {t : List Value} {g : mm_M} {r : mm_R} {x : Nat} : mm_Rn pg_G d 1 75 [.ref x, l1, l2, l3, l4, l5, l6] (t) g r ↔ mm_Rn pg_G d 1 76 [.ref x, l1, l2, l3, l4, l5, l6] (.ref x :: t) g r := rn_aload_n tb_1_75 rfl r
theorem tb_1_76 : mm_tb pg_G 1 76 = some (.getfield 7, 4, 0, 195) := rfl
theorem st_1_76 {d : Nat} {ls t : List Value} {g : mm_M} {r : mm_R} {x : Nat} (hT : g.1 x = some (4, 3)) : mm_Rn pg_G d 1 76 ls (.ref x :: t) g r ↔ mm_Rn pg_G d 1 79 ls (g.2.1 x 0 :: t) g r := rn_getfield tb_1_76 hT r
theorem tb_1_79 : mm_tb pg_G 1 79 = some (.if_icmp .eq 17, 96, 0, 0) := rfl
theorem st_1_79 {d : Nat} {ls t : List Value} {g : mm_M} {r : mm_R} {x y : Int32} : mm_Rn pg_G d 1 79 ls (.int y :: .int x :: t) g r ↔ if x = y then mm_Rn pg_G d 1 96 ls (t) g r else mm_Rn pg_G d 1 82 ls (t) g r := rn_icmp_eq tb_1_79 r
theorem tb_1_82 : mm_tb pg_G 1 82 = some (.iload 5, 0, 0, 0) := rfl
theorem st_1_82 {l0 l1 l2 l3 l4 l6 : Value} {d : Nat} {t : List Value} {g : mm_M} {r : mm_R} {x : Int32} : mm_Rn pg_G d 1 82 [l0, l1, l2, l3, l4, .int x, l6] (t) g r ↔ mm_Rn pg_G d 1 84 [l0, l1, l2, l3, l4, .int x, l6] (.int x :: t) g r := rn_iload tb_1_82 rfl r
theorem tb_1_84 : mm_tb pg_G 1 84 = some (.ifCond .ne 8, 92, 0, 0) := rfl
theorem st_1_84 {d : Nat} {ls t : List Value} {g : mm_M} {r : mm_R} {x : Int32} : mm_Rn pg_G d 1 84 ls (.int x :: t) g r ↔ if x = 0 then mm_Rn pg_G d 1 87 ls (t) g r else mm_Rn pg_G d 1 92 ls (t) g r := rn_if_ne tb_1_84 r
theorem tb_1_87 : mm_tb pg_G 1 87 = some (.iload 6, 0, 0, 0) := rfl
theorem st_1_87 {l0 l1 l2 l3 l4 l5 : Value} {d : Nat} {t : List Value} {g : mm_M} {r : mm_R} {x : Int32} : mm_Rn pg_G d 1 87 [l0, l1, l2, l3, l4, l5, .int x] (t) g r ↔ mm_Rn pg_G d 1 89 [l0, l1, l2, l3, l4, l5, .int x] (.int x :: t) g r := rn_iload tb_1_87 rfl r
theorem tb_1_89 : mm_tb pg_G 1 89 = some (.ifCond .eq 7, 96, 0, 0) := rfl
theorem st_1_89 {d : Nat} {ls t : List Value} {g : mm_M} {r : mm_R} {x : Int32} : mm_Rn pg_G d 1 89 ls (.int x :: t) g r ↔ if x = 0 then mm_Rn pg_G d 1 96 ls (t) g r else mm_Rn pg_G d 1 92 ls (t) g r := rn_if_eq tb_1_89 r
theorem tb_1_92 : mm_tb pg_G 1 92 = some (.iconst 1, 0, 0, 0) := rfl
theorem st_1_92 {d : Nat} {ls t : List Value} {g : mm_M} {r : mm_R} : mm_Rn pg_G d 1 92 ls (t) g r ↔ mm_Rn pg_G d 1 93 ls (io_v 1 :: t) g r := rn_iconst tb_1_92 r
theorem tb_1_93 : mm_tb pg_G 1 93 = some (.goto 4, 97, 0, 0) := rfl
theorem st_1_93 {d : Nat} {ls t : List Value} {g : mm_M} {r : mm_R} : mm_Rn pg_G d 1 93 ls (t) g r ↔ mm_Rn pg_G d 1 97 ls (t) g r := rn_goto tb_1_93 r
theorem tb_1_96 : mm_tb pg_G 1 96 = some (.iconst 0, 0, 0, 0) := rfl
theorem st_1_96 {d : Nat} {ls t : List Value} {g : mm_M} {r : mm_R} : mm_Rn pg_G d 1 96 ls (t) g r ↔ mm_Rn pg_G d 1 97 ls (io_v 0 :: t) g r := rn_iconst tb_1_96 r
theorem tb_1_97 : mm_tb pg_G 1 97 = some (.ireturn, 0, 0, 0) := rfl
theorem st_1_97 {d : Nat} {ls : List Value} {g : mm_M} {r : mm_R} {x : Int32} (hb : x = 0 ∨ x = 1) : mm_Rn pg_G d 1 97 ls [.int x] g r ↔ r = (some (.int x), g) := rn_ireturn_iff tb_1_97 (Or.inr ⟨rfl, hb⟩) r
theorem tb_2_0 : mm_tb pg_G 2 0 = some (.aload_n 0, 0, 0, 0) := rfl
theorem st_2_0 {l1 : Value} {d : Nat} {t : List Value} {g : mm_M} {r : mm_R} {x : Nat} : mm_Rn pg_G d 2 0 [.ref x, l1] (t) g r ↔ mm_Rn pg_G d 2 1 [.ref x, l1] (.ref x :: t) g r := rn_aload_n tb_2_0 rfl r
theorem tb_2_1 : mm_tb pg_G 2 1 = some (.getfield 13, 4, 1, 197) := rfl
theorem st_2_1 {d : Nat} {ls t : List Value} {g : mm_M} {r : mm_R} {x : Nat} (hT : g.1 x = some (4, 3)) : mm_Rn pg_G d 2 1 ls (.ref x :: t) g r ↔ mm_Rn pg_G d 2 4 ls (g.2.1 x 1 :: t) g r := rn_getfield tb_2_1 hT r
theorem tb_2_4 : mm_tb pg_G 2 4 = some (.iload_n 1, 0, 0, 0) := rfl
theorem st_2_4 {l0 : Value} {d : Nat} {t : List Value} {g : mm_M} {r : mm_R} {x : Int32} : mm_Rn pg_G d 2 4 [l0, .int x] (t) g r ↔ mm_Rn pg_G d 2 5 [l0, .int x] (.int x :: t) g r := rn_iload_n tb_2_4 rfl r
theorem tb_2_5 : mm_tb pg_G 2 5 = some (.if_icmp .ge 15, 20, 0, 0) := rfl
theorem st_2_5 {d : Nat} {ls t : List Value} {g : mm_M} {r : mm_R} {x y : Int32} : mm_Rn pg_G d 2 5 ls (.int y :: .int x :: t) g r ↔ if y ≤ x then mm_Rn pg_G d 2 20 ls (t) g r else mm_Rn pg_G d 2 8 ls (t) g r := rn_icmp_ge tb_2_5 r
theorem tb_2_8 : mm_tb pg_G 2 8 = some (.iload_n 1, 0, 0, 0) := rfl
theorem st_2_8 {l0 : Value} {d : Nat} {t : List Value} {g : mm_M} {r : mm_R} {x : Int32} : mm_Rn pg_G d 2 8 [l0, .int x] (t) g r ↔ mm_Rn pg_G d 2 9 [l0, .int x] (.int x :: t) g r := rn_iload_n tb_2_8 rfl r
theorem tb_2_9 : mm_tb pg_G 2 9 = some (.aload_n 0, 0, 0, 0) := rfl
theorem st_2_9 {l1 : Value} {d : Nat} {t : List Value} {g : mm_M} {r : mm_R} {x : Nat} : mm_Rn pg_G d 2 9 [.ref x, l1] (t) g r ↔ mm_Rn pg_G d 2 10 [.ref x, l1] (.ref x :: t) g r := rn_aload_n tb_2_9 rfl r
theorem tb_2_10 : mm_tb pg_G 2 10 = some (.getfield 16, 4, 2, 199) := rfl
theorem st_2_10 {d : Nat} {ls t : List Value} {g : mm_M} {r : mm_R} {x : Nat} (hT : g.1 x = some (4, 3)) : mm_Rn pg_G d 2 10 ls (.ref x :: t) g r ↔ mm_Rn pg_G d 2 13 ls (g.2.1 x 2 :: t) g r := rn_getfield tb_2_10 hT r
theorem tb_2_13 : mm_tb pg_G 2 13 = some (.if_icmp .ge 7, 20, 0, 0) := rfl
theorem st_2_13 {d : Nat} {ls t : List Value} {g : mm_M} {r : mm_R} {x y : Int32} : mm_Rn pg_G d 2 13 ls (.int y :: .int x :: t) g r ↔ if y ≤ x then mm_Rn pg_G d 2 20 ls (t) g r else mm_Rn pg_G d 2 16 ls (t) g r := rn_icmp_ge tb_2_13 r
theorem tb_2_16 : mm_tb pg_G 2 16 = some (.iconst 1, 0, 0, 0) := rfl
theorem st_2_16 {d : Nat} {ls t : List Value} {g : mm_M} {r : mm_R} : mm_Rn pg_G d 2 16 ls (t) g r ↔ mm_Rn pg_G d 2 17 ls (io_v 1 :: t) g r := rn_iconst tb_2_16 r
theorem tb_2_17 : mm_tb pg_G 2 17 = some (.goto 4, 21, 0, 0) := rfl
theorem st_2_17 {d : Nat} {ls t : List Value} {g : mm_M} {r : mm_R} : mm_Rn pg_G d 2 17 ls (t) g r ↔ mm_Rn pg_G d 2 21 ls (t) g r := rn_goto tb_2_17 r
theorem tb_2_20 : mm_tb pg_G 2 20 = some (.iconst 0, 0, 0, 0) := rfl
theorem st_2_20 {d : Nat} {ls t : List Value} {g : mm_M} {r : mm_R} : mm_Rn pg_G d 2 20 ls (t) g r ↔ mm_Rn pg_G d 2 21 ls (io_v 0 :: t) g r := rn_iconst tb_2_20 r
theorem tb_2_21 : mm_tb pg_G 2 21 = some (.ireturn, 0, 0, 0) := rfl
theorem st_2_21 {d : Nat} {ls : List Value} {g : mm_M} {r : mm_R} {x : Int32} (hb : x = 0 ∨ x = 1) : mm_Rn pg_G d 2 21 ls [.int x] g r ↔ r = (some (.int x), g) := rn_ireturn_iff tb_2_21 (Or.inr ⟨rfl, hb⟩) r
theorem tb_3_0 : mm_tb pg_G 3 0 = some (.aload_n 0, 0, 0, 0) := rfl
theorem st_3_0 {d : Nat} {t : List Value} {g : mm_M} {r : mm_R} {x : Nat} : mm_Rn pg_G d 3 0 [.ref x] (t) g r ↔ mm_Rn pg_G d 3 1 [.ref x] (.ref x :: t) g r := rn_aload_n tb_3_0 rfl r
theorem tb_3_1 : mm_tb pg_G 3 1 = some (.invokespecial 3, 998, 0, 123) := rfl
theorem st_3_1 {d : Nat} {ls t : List Value} {g : mm_M} {r : mm_R} {x : Nat} (hl : t.length ≤ 4) : mm_Rn pg_G (d + 1) 3 1 ls (.ref x :: t) g r ↔ mm_Rn pg_G (d + 1) 3 4 ls (t) g r := rn_oinit tb_3_1 hl r
theorem tb_3_4 : mm_tb pg_G 3 4 = some (.aload_n 0, 0, 0, 0) := rfl
theorem st_3_4 {d : Nat} {t : List Value} {g : mm_M} {r : mm_R} {x : Nat} : mm_Rn pg_G d 3 4 [.ref x] (t) g r ↔ mm_Rn pg_G d 3 5 [.ref x] (.ref x :: t) g r := rn_aload_n tb_3_4 rfl r
theorem tb_3_5 : mm_tb pg_G 3 5 = some (.bipush 6, 0, 0, 0) := rfl
theorem st_3_5 {d : Nat} {ls t : List Value} {g : mm_M} {r : mm_R} : mm_Rn pg_G d 3 5 ls (t) g r ↔ mm_Rn pg_G d 3 7 ls (io_v 6 :: t) g r := rn_bipush tb_3_5 r
theorem tb_3_7 : mm_tb pg_G 3 7 = some (.newarray .int, 0, 0, 0) := rfl
theorem st_3_7 {d : Nat} {ls t : List Value} {g : mm_M} {r : mm_R} {x : Nat} {n : Int32} (hx : mm_pk pg_G 3 7 ls g.2.1 = x) (hT : g.1 x = none) (h0 : 0 ≤ n) (h1 : n.toNatClampNeg ≤ 1000) : mm_Rn pg_G d 3 7 ls (.int n :: t) g r ↔ mm_Rn pg_G d 3 9 ls (.ref x :: t) (mm_al g x 100 n.toNatClampNeg fun _ => .int 0) r := rn_newarray tb_3_7 hx hT h0 h1 r
theorem tb_3_9 : mm_tb pg_G 3 9 = some (.putfield 9, 5, 0, 124) := rfl
theorem st_3_9 {d : Nat} {ls t : List Value} {g : mm_M} {r : mm_R} {x : Nat} {v : Nat} (hT : g.1 x = some (5, 7)) : mm_Rn pg_G d 3 9 ls (.ref v :: .ref x :: t) g r ↔ mm_Rn pg_G d 3 12 ls (t) (mm_wr g x 0 (.ref v)) r := rn_putfield tb_3_9 hT rfl r
theorem tb_3_12 : mm_tb pg_G 3 12 = some (.aload_n 0, 0, 0, 0) := rfl
theorem st_3_12 {d : Nat} {t : List Value} {g : mm_M} {r : mm_R} {x : Nat} : mm_Rn pg_G d 3 12 [.ref x] (t) g r ↔ mm_Rn pg_G d 3 13 [.ref x] (.ref x :: t) g r := rn_aload_n tb_3_12 rfl r
theorem tb_3_13 : mm_tb pg_G 3 13 = some (.iconst 0, 0, 0, 0) := rfl
theorem st_3_13 {d : Nat} {ls t : List Value} {g : mm_M} {r : mm_R} : mm_Rn pg_G d 3 13 ls (t) g r ↔ mm_Rn pg_G d 3 14 ls (io_v 0 :: t) g r := rn_iconst tb_3_13 r
theorem tb_3_14 : mm_tb pg_G 3 14 = some (.putfield 15, 5, 1, 125) := rfl
theorem st_3_14 {d : Nat} {ls t : List Value} {g : mm_M} {r : mm_R} {x : Nat} {v : Int32} (hT : g.1 x = some (5, 7)) : mm_Rn pg_G d 3 14 ls (.int v :: .ref x :: t) g r ↔ mm_Rn pg_G d 3 17 ls (t) (mm_wr g x 1 (.int v)) r := rn_putfield tb_3_14 hT rfl r
theorem tb_3_17 : mm_tb pg_G 3 17 = some (.aload_n 0, 0, 0, 0) := rfl
theorem st_3_17 {d : Nat} {t : List Value} {g : mm_M} {r : mm_R} {x : Nat} : mm_Rn pg_G d 3 17 [.ref x] (t) g r ↔ mm_Rn pg_G d 3 18 [.ref x] (.ref x :: t) g r := rn_aload_n tb_3_17 rfl r
theorem tb_3_18 : mm_tb pg_G 3 18 = some (.iconst 0, 0, 0, 0) := rfl
theorem st_3_18 {d : Nat} {ls t : List Value} {g : mm_M} {r : mm_R} : mm_Rn pg_G d 3 18 ls (t) g r ↔ mm_Rn pg_G d 3 19 ls (io_v 0 :: t) g r := rn_iconst tb_3_18 r
theorem tb_3_19 : mm_tb pg_G 3 19 = some (.putfield 19, 5, 2, 126) := rfl
theorem st_3_19 {d : Nat} {ls t : List Value} {g : mm_M} {r : mm_R} {x : Nat} {v : Int32} (hT : g.1 x = some (5, 7)) : mm_Rn pg_G d 3 19 ls (.int v :: .ref x :: t) g r ↔ mm_Rn pg_G d 3 22 ls (t) (mm_wr g x 2 (.int v)) r := rn_putfield tb_3_19 hT rfl r
theorem tb_3_22 : mm_tb pg_G 3 22 = some (.aload_n 0, 0, 0, 0) := rfl
theorem st_3_22 {d : Nat} {t : List Value} {g : mm_M} {r : mm_R} {x : Nat} : mm_Rn pg_G d 3 22 [.ref x] (t) g r ↔ mm_Rn pg_G d 3 23 [.ref x] (.ref x :: t) g r := rn_aload_n tb_3_22 rfl r
theorem tb_3_23 : mm_tb pg_G 3 23 = some (.iconst 0, 0, 0, 0) := rfl
theorem st_3_23 {d : Nat} {ls t : List Value} {g : mm_M} {r : mm_R} : mm_Rn pg_G d 3 23 ls (t) g r ↔ mm_Rn pg_G d 3 24 ls (io_v 0 :: t) g r := rn_iconst tb_3_23 r
theorem tb_3_24 : mm_tb pg_G 3 24 = some (.putfield 22, 5, 3, 128) := rfl
theorem st_3_24 {d : Nat} {ls t : List Value} {g : mm_M} {r : mm_R} {x : Nat} {v : Int32} (hT : g.1 x = some (5, 7)) : mm_Rn pg_G d 3 24 ls (.int v :: .ref x :: t) g r ↔ mm_Rn pg_G d 3 27 ls (t) (mm_wr g x 3 (.int v)) r := rn_putfield tb_3_24 hT rfl r
theorem tb_3_27 : mm_tb pg_G 3 27 = some (.aload_n 0, 0, 0, 0) := rfl
theorem st_3_27 {d : Nat} {t : List Value} {g : mm_M} {r : mm_R} {x : Nat} : mm_Rn pg_G d 3 27 [.ref x] (t) g r ↔ mm_Rn pg_G d 3 28 [.ref x] (.ref x :: t) g r := rn_aload_n tb_3_27 rfl r
theorem tb_3_28 : mm_tb pg_G 3 28 = some (.iconst 0, 0, 0, 0) := rfl
theorem st_3_28 {d : Nat} {ls t : List Value} {g : mm_M} {r : mm_R} : mm_Rn pg_G d 3 28 ls (t) g r ↔ mm_Rn pg_G d 3 29 ls (io_v 0 :: t) g r := rn_iconst tb_3_28 r
theorem tb_3_29 : mm_tb pg_G 3 29 = some (.putfield 25, 5, 4, 130) := rfl
theorem st_3_29 {d : Nat} {ls t : List Value} {g : mm_M} {r : mm_R} {x : Nat} {v : Int32} (hT : g.1 x = some (5, 7)) : mm_Rn pg_G d 3 29 ls (.int v :: .ref x :: t) g r ↔ mm_Rn pg_G d 3 32 ls (t) (mm_wr g x 4 (.int v)) r := rn_putfield tb_3_29 hT rfl r
theorem tb_3_32 : mm_tb pg_G 3 32 = some (.aload_n 0, 0, 0, 0) := rfl
theorem st_3_32 {d : Nat} {t : List Value} {g : mm_M} {r : mm_R} {x : Nat} : mm_Rn pg_G d 3 32 [.ref x] (t) g r ↔ mm_Rn pg_G d 3 33 [.ref x] (.ref x :: t) g r := rn_aload_n tb_3_32 rfl r
theorem tb_3_33 : mm_tb pg_G 3 33 = some (.iconst 0, 0, 0, 0) := rfl
theorem st_3_33 {d : Nat} {ls t : List Value} {g : mm_M} {r : mm_R} : mm_Rn pg_G d 3 33 ls (t) g r ↔ mm_Rn pg_G d 3 34 ls (io_v 0 :: t) g r := rn_iconst tb_3_33 r
theorem tb_3_34 : mm_tb pg_G 3 34 = some (.putfield 28, 5, 5, 132) := rfl
theorem st_3_34 {d : Nat} {ls t : List Value} {g : mm_M} {r : mm_R} {x : Nat} {v : Int32} (hT : g.1 x = some (5, 7)) : mm_Rn pg_G d 3 34 ls (.int v :: .ref x :: t) g r ↔ mm_Rn pg_G d 3 37 ls (t) (mm_wr g x 5 (.int v)) r := rn_putfield tb_3_34 hT rfl r
theorem tb_3_37 : mm_tb pg_G 3 37 = some (.aload_n 0, 0, 0, 0) := rfl
theorem st_3_37 {d : Nat} {t : List Value} {g : mm_M} {r : mm_R} {x : Nat} : mm_Rn pg_G d 3 37 [.ref x] (t) g r ↔ mm_Rn pg_G d 3 38 [.ref x] (.ref x :: t) g r := rn_aload_n tb_3_37 rfl r
theorem tb_3_38 : mm_tb pg_G 3 38 = some (.iconst 0, 0, 0, 0) := rfl
theorem st_3_38 {d : Nat} {ls t : List Value} {g : mm_M} {r : mm_R} : mm_Rn pg_G d 3 38 ls (t) g r ↔ mm_Rn pg_G d 3 39 ls (io_v 0 :: t) g r := rn_iconst tb_3_38 r
theorem tb_3_39 : mm_tb pg_G 3 39 = some (.putfield 31, 5, 6, 133) := rfl
theorem st_3_39 {d : Nat} {ls t : List Value} {g : mm_M} {r : mm_R} {x : Nat} {v : Int32} (hT : g.1 x = some (5, 7)) : mm_Rn pg_G d 3 39 ls (.int v :: .ref x :: t) g r ↔ mm_Rn pg_G d 3 42 ls (t) (mm_wr g x 6 (.int v)) r := rn_putfield tb_3_39 hT rfl r
theorem tb_3_42 : mm_tb pg_G 3 42 = some (.return_, 0, 0, 0) := rfl
theorem st_3_42 {d : Nat} {ls : List Value} {g : mm_M} {r : mm_R} : mm_Rn pg_G d 3 42 ls [] g r ↔ r = (none, g) := rn_return_iff tb_3_42 rfl r
theorem tb_4_0 : mm_tb pg_G 4 0 = some (.aload_n 0, 0, 0, 0) := rfl
theorem st_4_0 {d : Nat} {t : List Value} {g : mm_M} {r : mm_R} {x : Nat} : mm_Rn pg_G d 4 0 [.ref x] (t) g r ↔ mm_Rn pg_G d 4 1 [.ref x] (.ref x :: t) g r := rn_aload_n tb_4_0 rfl r
theorem tb_4_1 : mm_tb pg_G 4 1 = some (.getfield 15, 5, 1, 125) := rfl
theorem st_4_1 {d : Nat} {ls t : List Value} {g : mm_M} {r : mm_R} {x : Nat} (hT : g.1 x = some (5, 7)) : mm_Rn pg_G d 4 1 ls (.ref x :: t) g r ↔ mm_Rn pg_G d 4 4 ls (g.2.1 x 1 :: t) g r := rn_getfield tb_4_1 hT r
theorem tb_4_4 : mm_tb pg_G 4 4 = some (.ifCond .le 7, 11, 0, 0) := rfl
theorem st_4_4 {d : Nat} {ls t : List Value} {g : mm_M} {r : mm_R} {x : Int32} : mm_Rn pg_G d 4 4 ls (.int x :: t) g r ↔ if x ≤ 0 then mm_Rn pg_G d 4 11 ls (t) g r else mm_Rn pg_G d 4 7 ls (t) g r := rn_if_le tb_4_4 r
theorem tb_4_7 : mm_tb pg_G 4 7 = some (.iconst 1, 0, 0, 0) := rfl
theorem st_4_7 {d : Nat} {ls t : List Value} {g : mm_M} {r : mm_R} : mm_Rn pg_G d 4 7 ls (t) g r ↔ mm_Rn pg_G d 4 8 ls (io_v 1 :: t) g r := rn_iconst tb_4_7 r
theorem tb_4_8 : mm_tb pg_G 4 8 = some (.goto 4, 12, 0, 0) := rfl
theorem st_4_8 {d : Nat} {ls t : List Value} {g : mm_M} {r : mm_R} : mm_Rn pg_G d 4 8 ls (t) g r ↔ mm_Rn pg_G d 4 12 ls (t) g r := rn_goto tb_4_8 r
theorem tb_4_11 : mm_tb pg_G 4 11 = some (.iconst 0, 0, 0, 0) := rfl
theorem st_4_11 {d : Nat} {ls t : List Value} {g : mm_M} {r : mm_R} : mm_Rn pg_G d 4 11 ls (t) g r ↔ mm_Rn pg_G d 4 12 ls (io_v 0 :: t) g r := rn_iconst tb_4_11 r
theorem tb_4_12 : mm_tb pg_G 4 12 = some (.ireturn, 0, 0, 0) := rfl
theorem st_4_12 {d : Nat} {ls : List Value} {g : mm_M} {r : mm_R} {x : Int32} (hb : x = 0 ∨ x = 1) : mm_Rn pg_G d 4 12 ls [.int x] g r ↔ r = (some (.int x), g) := rn_ireturn_iff tb_4_12 (Or.inr ⟨rfl, hb⟩) r
theorem tb_5_0 : mm_tb pg_G 5 0 = some (.aload_n 0, 0, 0, 0) := rfl
theorem st_5_0 {d : Nat} {t : List Value} {g : mm_M} {r : mm_R} {x : Nat} : mm_Rn pg_G d 5 0 [.ref x] (t) g r ↔ mm_Rn pg_G d 5 1 [.ref x] (.ref x :: t) g r := rn_aload_n tb_5_0 rfl r
theorem tb_5_1 : mm_tb pg_G 5 1 = some (.getfield 19, 5, 2, 126) := rfl
theorem st_5_1 {d : Nat} {ls t : List Value} {g : mm_M} {r : mm_R} {x : Nat} (hT : g.1 x = some (5, 7)) : mm_Rn pg_G d 5 1 ls (.ref x :: t) g r ↔ mm_Rn pg_G d 5 4 ls (g.2.1 x 2 :: t) g r := rn_getfield tb_5_1 hT r
theorem tb_5_4 : mm_tb pg_G 5 4 = some (.aload_n 0, 0, 0, 0) := rfl
theorem st_5_4 {d : Nat} {t : List Value} {g : mm_M} {r : mm_R} {x : Nat} : mm_Rn pg_G d 5 4 [.ref x] (t) g r ↔ mm_Rn pg_G d 5 5 [.ref x] (.ref x :: t) g r := rn_aload_n tb_5_4 rfl r
theorem tb_5_5 : mm_tb pg_G 5 5 = some (.getfield 15, 5, 1, 125) := rfl
theorem st_5_5 {d : Nat} {ls t : List Value} {g : mm_M} {r : mm_R} {x : Nat} (hT : g.1 x = some (5, 7)) : mm_Rn pg_G d 5 5 ls (.ref x :: t) g r ↔ mm_Rn pg_G d 5 8 ls (g.2.1 x 1 :: t) g r := rn_getfield tb_5_5 hT r
theorem tb_5_8 : mm_tb pg_G 5 8 = some (.if_icmp .ge 7, 15, 0, 0) := rfl
theorem st_5_8 {d : Nat} {ls t : List Value} {g : mm_M} {r : mm_R} {x y : Int32} : mm_Rn pg_G d 5 8 ls (.int y :: .int x :: t) g r ↔ if y ≤ x then mm_Rn pg_G d 5 15 ls (t) g r else mm_Rn pg_G d 5 11 ls (t) g r := rn_icmp_ge tb_5_8 r
theorem tb_5_11 : mm_tb pg_G 5 11 = some (.iconst 1, 0, 0, 0) := rfl
theorem st_5_11 {d : Nat} {ls t : List Value} {g : mm_M} {r : mm_R} : mm_Rn pg_G d 5 11 ls (t) g r ↔ mm_Rn pg_G d 5 12 ls (io_v 1 :: t) g r := rn_iconst tb_5_11 r
theorem tb_5_12 : mm_tb pg_G 5 12 = some (.goto 4, 16, 0, 0) := rfl
theorem st_5_12 {d : Nat} {ls t : List Value} {g : mm_M} {r : mm_R} : mm_Rn pg_G d 5 12 ls (t) g r ↔ mm_Rn pg_G d 5 16 ls (t) g r := rn_goto tb_5_12 r
theorem tb_5_15 : mm_tb pg_G 5 15 = some (.iconst 0, 0, 0, 0) := rfl
theorem st_5_15 {d : Nat} {ls t : List Value} {g : mm_M} {r : mm_R} : mm_Rn pg_G d 5 15 ls (t) g r ↔ mm_Rn pg_G d 5 16 ls (io_v 0 :: t) g r := rn_iconst tb_5_15 r
theorem tb_5_16 : mm_tb pg_G 5 16 = some (.ireturn, 0, 0, 0) := rfl
theorem st_5_16 {d : Nat} {ls : List Value} {g : mm_M} {r : mm_R} {x : Int32} (hb : x = 0 ∨ x = 1) : mm_Rn pg_G d 5 16 ls [.int x] g r ↔ r = (some (.int x), g) := rn_ireturn_iff tb_5_16 (Or.inr ⟨rfl, hb⟩) r
theorem tb_6_0 : mm_tb pg_G 6 0 = some (.aload_n 0, 0, 0, 0) := rfl
theorem st_6_0 {d : Nat} {t : List Value} {g : mm_M} {r : mm_R} {x : Nat} : mm_Rn pg_G d 6 0 [.ref x] (t) g r ↔ mm_Rn pg_G d 6 1 [.ref x] (.ref x :: t) g r := rn_aload_n tb_6_0 rfl r
theorem tb_6_1 : mm_tb pg_G 6 1 = some (.getfield 19, 5, 2, 126) := rfl
theorem st_6_1 {d : Nat} {ls t : List Value} {g : mm_M} {r : mm_R} {x : Nat} (hT : g.1 x = some (5, 7)) : mm_Rn pg_G d 6 1 ls (.ref x :: t) g r ↔ mm_Rn pg_G d 6 4 ls (g.2.1 x 2 :: t) g r := rn_getfield tb_6_1 hT r
theorem tb_6_4 : mm_tb pg_G 6 4 = some (.ifCond .le 7, 11, 0, 0) := rfl
theorem st_6_4 {d : Nat} {ls t : List Value} {g : mm_M} {r : mm_R} {x : Int32} : mm_Rn pg_G d 6 4 ls (.int x :: t) g r ↔ if x ≤ 0 then mm_Rn pg_G d 6 11 ls (t) g r else mm_Rn pg_G d 6 7 ls (t) g r := rn_if_le tb_6_4 r
theorem tb_6_7 : mm_tb pg_G 6 7 = some (.iconst 1, 0, 0, 0) := rfl
theorem st_6_7 {d : Nat} {ls t : List Value} {g : mm_M} {r : mm_R} : mm_Rn pg_G d 6 7 ls (t) g r ↔ mm_Rn pg_G d 6 8 ls (io_v 1 :: t) g r := rn_iconst tb_6_7 r
theorem tb_6_8 : mm_tb pg_G 6 8 = some (.goto 4, 12, 0, 0) := rfl
theorem st_6_8 {d : Nat} {ls t : List Value} {g : mm_M} {r : mm_R} : mm_Rn pg_G d 6 8 ls (t) g r ↔ mm_Rn pg_G d 6 12 ls (t) g r := rn_goto tb_6_8 r
theorem tb_6_11 : mm_tb pg_G 6 11 = some (.iconst 0, 0, 0, 0) := rfl
theorem st_6_11 {d : Nat} {ls t : List Value} {g : mm_M} {r : mm_R} : mm_Rn pg_G d 6 11 ls (t) g r ↔ mm_Rn pg_G d 6 12 ls (io_v 0 :: t) g r := rn_iconst tb_6_11 r
theorem tb_6_12 : mm_tb pg_G 6 12 = some (.ireturn, 0, 0, 0) := rfl
theorem st_6_12 {d : Nat} {ls : List Value} {g : mm_M} {r : mm_R} {x : Int32} (hb : x = 0 ∨ x = 1) : mm_Rn pg_G d 6 12 ls [.int x] g r ↔ r = (some (.int x), g) := rn_ireturn_iff tb_6_12 (Or.inr ⟨rfl, hb⟩) r
theorem tb_7_0 : mm_tb pg_G 7 0 = some (.aload_n 0, 0, 0, 0) := rfl
theorem st_7_0 {l1 l2 l3 l4 : Value} {d : Nat} {t : List Value} {g : mm_M} {r : mm_R} {x : Nat} : mm_Rn pg_G d 7 0 [.ref x, l1, l2, l3, l4] (t) g r ↔ mm_Rn pg_G d 7 1 [.ref x, l1, l2, l3, l4] (.ref x :: t) g r := rn_aload_n tb_7_0 rfl r
theorem tb_7_1 : mm_tb pg_G 7 1 = some (.iload_n 1, 0, 0, 0) := rfl
theorem st_7_1 {l0 l2 l3 l4 : Value} {d : Nat} {t : List Value} {g : mm_M} {r : mm_R} {x : Int32} : mm_Rn pg_G d 7 1 [l0, .int x, l2, l3, l4] (t) g r ↔ mm_Rn pg_G d 7 2 [l0, .int x, l2, l3, l4] (.int x :: t) g r := rn_iload_n tb_7_1 rfl r
theorem tb_7_2 : mm_tb pg_G 7 2 = some (.putfield 15, 5, 1, 125) := rfl
theorem st_7_2 {d : Nat} {ls t : List Value} {g : mm_M} {r : mm_R} {x : Nat} {v : Int32} (hT : g.1 x = some (5, 7)) : mm_Rn pg_G d 7 2 ls (.int v :: .ref x :: t) g r ↔ mm_Rn pg_G d 7 5 ls (t) (mm_wr g x 1 (.int v)) r := rn_putfield tb_7_2 hT rfl r
theorem tb_7_5 : mm_tb pg_G 7 5 = some (.aload_n 0, 0, 0, 0) := rfl
theorem st_7_5 {l1 l2 l3 l4 : Value} {d : Nat} {t : List Value} {g : mm_M} {r : mm_R} {x : Nat} : mm_Rn pg_G d 7 5 [.ref x, l1, l2, l3, l4] (t) g r ↔ mm_Rn pg_G d 7 6 [.ref x, l1, l2, l3, l4] (.ref x :: t) g r := rn_aload_n tb_7_5 rfl r
theorem tb_7_6 : mm_tb pg_G 7 6 = some (.iconst 0, 0, 0, 0) := rfl
theorem st_7_6 {d : Nat} {ls t : List Value} {g : mm_M} {r : mm_R} : mm_Rn pg_G d 7 6 ls (t) g r ↔ mm_Rn pg_G d 7 7 ls (io_v 0 :: t) g r := rn_iconst tb_7_6 r
theorem tb_7_7 : mm_tb pg_G 7 7 = some (.putfield 19, 5, 2, 126) := rfl
theorem st_7_7 {d : Nat} {ls t : List Value} {g : mm_M} {r : mm_R} {x : Nat} {v : Int32} (hT : g.1 x = some (5, 7)) : mm_Rn pg_G d 7 7 ls (.int v :: .ref x :: t) g r ↔ mm_Rn pg_G d 7 10 ls (t) (mm_wr g x 2 (.int v)) r := rn_putfield tb_7_7 hT rfl r
theorem tb_7_10 : mm_tb pg_G 7 10 = some (.aload_n 0, 0, 0, 0) := rfl
theorem st_7_10 {l1 l2 l3 l4 : Value} {d : Nat} {t : List Value} {g : mm_M} {r : mm_R} {x : Nat} : mm_Rn pg_G d 7 10 [.ref x, l1, l2, l3, l4] (t) g r ↔ mm_Rn pg_G d 7 11 [.ref x, l1, l2, l3, l4] (.ref x :: t) g r := rn_aload_n tb_7_10 rfl r
theorem tb_7_11 : mm_tb pg_G 7 11 = some (.iload_n 2, 0, 0, 0) := rfl
theorem st_7_11 {l0 l1 l3 l4 : Value} {d : Nat} {t : List Value} {g : mm_M} {r : mm_R} {x : Int32} : mm_Rn pg_G d 7 11 [l0, l1, .int x, l3, l4] (t) g r ↔ mm_Rn pg_G d 7 12 [l0, l1, .int x, l3, l4] (.int x :: t) g r := rn_iload_n tb_7_11 rfl r
theorem tb_7_12 : mm_tb pg_G 7 12 = some (.putfield 22, 5, 3, 128) := rfl
theorem st_7_12 {d : Nat} {ls t : List Value} {g : mm_M} {r : mm_R} {x : Nat} {v : Int32} (hT : g.1 x = some (5, 7)) : mm_Rn pg_G d 7 12 ls (.int v :: .ref x :: t) g r ↔ mm_Rn pg_G d 7 15 ls (t) (mm_wr g x 3 (.int v)) r := rn_putfield tb_7_12 hT rfl r
theorem tb_7_15 : mm_tb pg_G 7 15 = some (.aload_n 0, 0, 0, 0) := rfl
theorem st_7_15 {l1 l2 l3 l4 : Value} {d : Nat} {t : List Value} {g : mm_M} {r : mm_R} {x : Nat} : mm_Rn pg_G d 7 15 [.ref x, l1, l2, l3, l4] (t) g r ↔ mm_Rn pg_G d 7 16 [.ref x, l1, l2, l3, l4] (.ref x :: t) g r := rn_aload_n tb_7_15 rfl r
theorem tb_7_16 : mm_tb pg_G 7 16 = some (.iload_n 2, 0, 0, 0) := rfl
theorem st_7_16 {l0 l1 l3 l4 : Value} {d : Nat} {t : List Value} {g : mm_M} {r : mm_R} {x : Int32} : mm_Rn pg_G d 7 16 [l0, l1, .int x, l3, l4] (t) g r ↔ mm_Rn pg_G d 7 17 [l0, l1, .int x, l3, l4] (.int x :: t) g r := rn_iload_n tb_7_16 rfl r
theorem tb_7_17 : mm_tb pg_G 7 17 = some (.iload_n 3, 0, 0, 0) := rfl
theorem st_7_17 {l0 l1 l2 l4 : Value} {d : Nat} {t : List Value} {g : mm_M} {r : mm_R} {x : Int32} : mm_Rn pg_G d 7 17 [l0, l1, l2, .int x, l4] (t) g r ↔ mm_Rn pg_G d 7 18 [l0, l1, l2, .int x, l4] (.int x :: t) g r := rn_iload_n tb_7_17 rfl r
theorem tb_7_18 : mm_tb pg_G 7 18 = some (.iadd, 0, 0, 0) := rfl
theorem st_7_18 {d : Nat} {ls t : List Value} {g : mm_M} {r : mm_R} {x y : Int32} : mm_Rn pg_G d 7 18 ls (.int y :: .int x :: t) g r ↔ mm_Rn pg_G d 7 19 ls (.int (x + y) :: t) g r := rn_iadd tb_7_18 r
theorem tb_7_19 : mm_tb pg_G 7 19 = some (.putfield 25, 5, 4, 130) := rfl
theorem st_7_19 {d : Nat} {ls t : List Value} {g : mm_M} {r : mm_R} {x : Nat} {v : Int32} (hT : g.1 x = some (5, 7)) : mm_Rn pg_G d 7 19 ls (.int v :: .ref x :: t) g r ↔ mm_Rn pg_G d 7 22 ls (t) (mm_wr g x 4 (.int v)) r := rn_putfield tb_7_19 hT rfl r
theorem tb_7_22 : mm_tb pg_G 7 22 = some (.aload_n 0, 0, 0, 0) := rfl
theorem st_7_22 {l1 l2 l3 l4 : Value} {d : Nat} {t : List Value} {g : mm_M} {r : mm_R} {x : Nat} : mm_Rn pg_G d 7 22 [.ref x, l1, l2, l3, l4] (t) g r ↔ mm_Rn pg_G d 7 23 [.ref x, l1, l2, l3, l4] (.ref x :: t) g r := rn_aload_n tb_7_22 rfl r
theorem tb_7_23 : mm_tb pg_G 7 23 = some (.iconst 0, 0, 0, 0) := rfl
theorem st_7_23 {d : Nat} {ls t : List Value} {g : mm_M} {r : mm_R} : mm_Rn pg_G d 7 23 ls (t) g r ↔ mm_Rn pg_G d 7 24 ls (io_v 0 :: t) g r := rn_iconst tb_7_23 r
theorem tb_7_24 : mm_tb pg_G 7 24 = some (.putfield 28, 5, 5, 132) := rfl
theorem st_7_24 {d : Nat} {ls t : List Value} {g : mm_M} {r : mm_R} {x : Nat} {v : Int32} (hT : g.1 x = some (5, 7)) : mm_Rn pg_G d 7 24 ls (.int v :: .ref x :: t) g r ↔ mm_Rn pg_G d 7 27 ls (t) (mm_wr g x 5 (.int v)) r := rn_putfield tb_7_24 hT rfl r
theorem tb_7_27 : mm_tb pg_G 7 27 = some (.aload_n 0, 0, 0, 0) := rfl
theorem st_7_27 {l1 l2 l3 l4 : Value} {d : Nat} {t : List Value} {g : mm_M} {r : mm_R} {x : Nat} : mm_Rn pg_G d 7 27 [.ref x, l1, l2, l3, l4] (t) g r ↔ mm_Rn pg_G d 7 28 [.ref x, l1, l2, l3, l4] (.ref x :: t) g r := rn_aload_n tb_7_27 rfl r
theorem tb_7_28 : mm_tb pg_G 7 28 = some (.iconst 0, 0, 0, 0) := rfl
theorem st_7_28 {d : Nat} {ls t : List Value} {g : mm_M} {r : mm_R} : mm_Rn pg_G d 7 28 ls (t) g r ↔ mm_Rn pg_G d 7 29 ls (io_v 0 :: t) g r := rn_iconst tb_7_28 r
theorem tb_7_29 : mm_tb pg_G 7 29 = some (.putfield 31, 5, 6, 133) := rfl
theorem st_7_29 {d : Nat} {ls t : List Value} {g : mm_M} {r : mm_R} {x : Nat} {v : Int32} (hT : g.1 x = some (5, 7)) : mm_Rn pg_G d 7 29 ls (.int v :: .ref x :: t) g r ↔ mm_Rn pg_G d 7 32 ls (t) (mm_wr g x 6 (.int v)) r := rn_putfield tb_7_29 hT rfl r
theorem tb_7_32 : mm_tb pg_G 7 32 = some (.iconst 0, 0, 0, 0) := rfl
theorem st_7_32 {d : Nat} {ls t : List Value} {g : mm_M} {r : mm_R} : mm_Rn pg_G d 7 32 ls (t) g r ↔ mm_Rn pg_G d 7 33 ls (io_v 0 :: t) g r := rn_iconst tb_7_32 r
theorem tb_7_33 : mm_tb pg_G 7 33 = some (.istore 4, 0, 0, 0) := rfl
theorem st_7_33 {l0 l1 l2 l3 l4 : Value} {d : Nat} {t : List Value} {g : mm_M} {r : mm_R} {x : Int32} (hc : mm_c1 l3 = true) : mm_Rn pg_G d 7 33 [l0, l1, l2, l3, l4] (.int x :: t) g r ↔ mm_Rn pg_G d 7 35 [l0, l1, l2, l3, .int x] (t) g r := rn_istore tb_7_33 (mm_so_of (ls := [l0, l1, l2, l3, l4]) (v := l3) (Nat.le_of_ble_eq_true rfl) rfl hc) r
theorem tb_7_35 : mm_tb pg_G 7 35 = some (.iload 4, 0, 0, 0) := rfl
theorem st_7_35 {l0 l1 l2 l3 : Value} {d : Nat} {t : List Value} {g : mm_M} {r : mm_R} {x : Int32} : mm_Rn pg_G d 7 35 [l0, l1, l2, l3, .int x] (t) g r ↔ mm_Rn pg_G d 7 37 [l0, l1, l2, l3, .int x] (.int x :: t) g r := rn_iload tb_7_35 rfl r
theorem tb_7_37 : mm_tb pg_G 7 37 = some (.bipush 6, 0, 0, 0) := rfl
theorem st_7_37 {d : Nat} {ls t : List Value} {g : mm_M} {r : mm_R} : mm_Rn pg_G d 7 37 ls (t) g r ↔ mm_Rn pg_G d 7 39 ls (io_v 6 :: t) g r := rn_bipush tb_7_37 r
theorem tb_7_39 : mm_tb pg_G 7 39 = some (.if_icmp .ge 17, 56, 0, 0) := rfl
theorem st_7_39 {d : Nat} {ls t : List Value} {g : mm_M} {r : mm_R} {x y : Int32} : mm_Rn pg_G d 7 39 ls (.int y :: .int x :: t) g r ↔ if y ≤ x then mm_Rn pg_G d 7 56 ls (t) g r else mm_Rn pg_G d 7 42 ls (t) g r := rn_icmp_ge tb_7_39 r
theorem tb_7_42 : mm_tb pg_G 7 42 = some (.aload_n 0, 0, 0, 0) := rfl
theorem st_7_42 {l1 l2 l3 l4 : Value} {d : Nat} {t : List Value} {g : mm_M} {r : mm_R} {x : Nat} : mm_Rn pg_G d 7 42 [.ref x, l1, l2, l3, l4] (t) g r ↔ mm_Rn pg_G d 7 43 [.ref x, l1, l2, l3, l4] (.ref x :: t) g r := rn_aload_n tb_7_42 rfl r
theorem tb_7_43 : mm_tb pg_G 7 43 = some (.getfield 9, 5, 0, 124) := rfl
theorem st_7_43 {d : Nat} {ls t : List Value} {g : mm_M} {r : mm_R} {x : Nat} (hT : g.1 x = some (5, 7)) : mm_Rn pg_G d 7 43 ls (.ref x :: t) g r ↔ mm_Rn pg_G d 7 46 ls (g.2.1 x 0 :: t) g r := rn_getfield tb_7_43 hT r
theorem tb_7_46 : mm_tb pg_G 7 46 = some (.iload 4, 0, 0, 0) := rfl
theorem st_7_46 {l0 l1 l2 l3 : Value} {d : Nat} {t : List Value} {g : mm_M} {r : mm_R} {x : Int32} : mm_Rn pg_G d 7 46 [l0, l1, l2, l3, .int x] (t) g r ↔ mm_Rn pg_G d 7 48 [l0, l1, l2, l3, .int x] (.int x :: t) g r := rn_iload tb_7_46 rfl r
theorem tb_7_48 : mm_tb pg_G 7 48 = some (.iconst 0, 0, 0, 0) := rfl
theorem st_7_48 {d : Nat} {ls t : List Value} {g : mm_M} {r : mm_R} : mm_Rn pg_G d 7 48 ls (t) g r ↔ mm_Rn pg_G d 7 49 ls (io_v 0 :: t) g r := rn_iconst tb_7_48 r
theorem tb_7_49 : mm_tb pg_G 7 49 = some (.iastore, 0, 0, 0) := rfl
theorem st_7_49 {d : Nat} {ls t : List Value} {g : mm_M} {r : mm_R} {x : Nat} {j v : Int32} (hc : mm_in (g.1 x) 100 100 j = true) : mm_Rn pg_G d 7 49 ls (.int v :: .int j :: .ref x :: t) g r ↔ mm_Rn pg_G d 7 50 ls (t) (mm_wr g x j.toNatClampNeg (.int v)) r := rn_iastore tb_7_49 hc r
theorem tb_7_50 : mm_tb pg_G 7 50 = some (.iinc 4 1, 0, 0, 0) := rfl
theorem st_7_50 {l0 l1 l2 l3 : Value} {d : Nat} {t : List Value} {g : mm_M} {r : mm_R} {x : Int32} (hc : mm_c1 l3 = true) : mm_Rn pg_G d 7 50 [l0, l1, l2, l3, .int x] (t) g r ↔ mm_Rn pg_G d 7 53 [l0, l1, l2, l3, .int (x + Int32.ofInt 1)] (t) g r := rn_iinc tb_7_50 rfl (mm_so_of (ls := [l0, l1, l2, l3, .int x]) (v := l3) (Nat.le_of_ble_eq_true rfl) rfl hc) r
theorem tb_7_53 : mm_tb pg_G 7 53 = some (.goto (-18), 35, 0, 0) := rfl
theorem st_7_53 {d : Nat} {ls t : List Value} {g : mm_M} {r : mm_R} : mm_Rn pg_G d 7 53 ls (t) g r ↔ mm_Rn pg_G d 7 35 ls (t) g r := rn_goto tb_7_53 r
theorem tb_7_56 : mm_tb pg_G 7 56 = some (.return_, 0, 0, 0) := rfl
theorem st_7_56 {d : Nat} {ls : List Value} {g : mm_M} {r : mm_R} : mm_Rn pg_G d 7 56 ls [] g r ↔ r = (none, g) := rn_return_iff tb_7_56 rfl r
theorem tb_8_0 : mm_tb pg_G 8 0 = some (.aload_n 0, 0, 0, 0) := rfl
theorem st_8_0 {l1 l2 : Value} {d : Nat} {t : List Value} {g : mm_M} {r : mm_R} {x : Nat} : mm_Rn pg_G d 8 0 [.ref x, l1, l2] (t) g r ↔ mm_Rn pg_G d 8 1 [.ref x, l1, l2] (.ref x :: t) g r := rn_aload_n tb_8_0 rfl r
theorem tb_8_1 : mm_tb pg_G 8 1 = some (.dup, 0, 0, 0) := rfl
theorem st_8_1 {d : Nat} {ls t : List Value} {g : mm_M} {r : mm_R} {v : Value} (hc : mm_c1 v = true) : mm_Rn pg_G d 8 1 ls (v :: t) g r ↔ mm_Rn pg_G d 8 2 ls (v :: v :: t) g r := rn_dup tb_8_1 hc r
theorem tb_8_2 : mm_tb pg_G 8 2 = some (.getfield 31, 5, 6, 133) := rfl
theorem st_8_2 {d : Nat} {ls t : List Value} {g : mm_M} {r : mm_R} {x : Nat} (hT : g.1 x = some (5, 7)) : mm_Rn pg_G d 8 2 ls (.ref x :: t) g r ↔ mm_Rn pg_G d 8 5 ls (g.2.1 x 6 :: t) g r := rn_getfield tb_8_2 hT r
theorem tb_8_5 : mm_tb pg_G 8 5 = some (.iconst 1, 0, 0, 0) := rfl
theorem st_8_5 {d : Nat} {ls t : List Value} {g : mm_M} {r : mm_R} : mm_Rn pg_G d 8 5 ls (t) g r ↔ mm_Rn pg_G d 8 6 ls (io_v 1 :: t) g r := rn_iconst tb_8_5 r
theorem tb_8_6 : mm_tb pg_G 8 6 = some (.iadd, 0, 0, 0) := rfl
theorem st_8_6 {d : Nat} {ls t : List Value} {g : mm_M} {r : mm_R} {x y : Int32} : mm_Rn pg_G d 8 6 ls (.int y :: .int x :: t) g r ↔ mm_Rn pg_G d 8 7 ls (.int (x + y) :: t) g r := rn_iadd tb_8_6 r
theorem tb_8_7 : mm_tb pg_G 8 7 = some (.putfield 31, 5, 6, 133) := rfl
theorem st_8_7 {d : Nat} {ls t : List Value} {g : mm_M} {r : mm_R} {x : Nat} {v : Int32} (hT : g.1 x = some (5, 7)) : mm_Rn pg_G d 8 7 ls (.int v :: .ref x :: t) g r ↔ mm_Rn pg_G d 8 10 ls (t) (mm_wr g x 6 (.int v)) r := rn_putfield tb_8_7 hT rfl r
theorem tb_8_10 : mm_tb pg_G 8 10 = some (.iload_n 2, 0, 0, 0) := rfl
theorem st_8_10 {l0 l1 : Value} {d : Nat} {t : List Value} {g : mm_M} {r : mm_R} {x : Int32} : mm_Rn pg_G d 8 10 [l0, l1, .int x] (t) g r ↔ mm_Rn pg_G d 8 11 [l0, l1, .int x] (.int x :: t) g r := rn_iload_n tb_8_10 rfl r
theorem tb_8_11 : mm_tb pg_G 8 11 = some (.ifCond .eq 30, 41, 0, 0) := rfl
theorem st_8_11 {d : Nat} {ls t : List Value} {g : mm_M} {r : mm_R} {x : Int32} : mm_Rn pg_G d 8 11 ls (.int x :: t) g r ↔ if x = 0 then mm_Rn pg_G d 8 41 ls (t) g r else mm_Rn pg_G d 8 14 ls (t) g r := rn_if_eq tb_8_11 r
theorem tb_8_14 : mm_tb pg_G 8 14 = some (.aload_n 0, 0, 0, 0) := rfl
theorem st_8_14 {l1 l2 : Value} {d : Nat} {t : List Value} {g : mm_M} {r : mm_R} {x : Nat} : mm_Rn pg_G d 8 14 [.ref x, l1, l2] (t) g r ↔ mm_Rn pg_G d 8 15 [.ref x, l1, l2] (.ref x :: t) g r := rn_aload_n tb_8_14 rfl r
theorem tb_8_15 : mm_tb pg_G 8 15 = some (.getfield 9, 5, 0, 124) := rfl
theorem st_8_15 {d : Nat} {ls t : List Value} {g : mm_M} {r : mm_R} {x : Nat} (hT : g.1 x = some (5, 7)) : mm_Rn pg_G d 8 15 ls (.ref x :: t) g r ↔ mm_Rn pg_G d 8 18 ls (g.2.1 x 0 :: t) g r := rn_getfield tb_8_15 hT r
theorem tb_8_18 : mm_tb pg_G 8 18 = some (.iload_n 1, 0, 0, 0) := rfl
theorem st_8_18 {l0 l2 : Value} {d : Nat} {t : List Value} {g : mm_M} {r : mm_R} {x : Int32} : mm_Rn pg_G d 8 18 [l0, .int x, l2] (t) g r ↔ mm_Rn pg_G d 8 19 [l0, .int x, l2] (.int x :: t) g r := rn_iload_n tb_8_18 rfl r
theorem tb_8_19 : mm_tb pg_G 8 19 = some (.iaload, 0, 0, 0) := rfl
theorem st_8_19 {d : Nat} {ls t : List Value} {g : mm_M} {r : mm_R} {x : Nat} {j : Int32} (hc : mm_in (g.1 x) 100 101 j = true) : mm_Rn pg_G d 8 19 ls (.int j :: .ref x :: t) g r ↔ mm_Rn pg_G d 8 20 ls (g.2.1 x j.toNatClampNeg :: t) g r := rn_iaload tb_8_19 hc r
theorem tb_8_20 : mm_tb pg_G 8 20 = some (.iload_n 2, 0, 0, 0) := rfl
theorem st_8_20 {l0 l1 : Value} {d : Nat} {t : List Value} {g : mm_M} {r : mm_R} {x : Int32} : mm_Rn pg_G d 8 20 [l0, l1, .int x] (t) g r ↔ mm_Rn pg_G d 8 21 [l0, l1, .int x] (.int x :: t) g r := rn_iload_n tb_8_20 rfl r
theorem tb_8_21 : mm_tb pg_G 8 21 = some (.if_icmp .eq 20, 41, 0, 0) := rfl
theorem st_8_21 {d : Nat} {ls t : List Value} {g : mm_M} {r : mm_R} {x y : Int32} : mm_Rn pg_G d 8 21 ls (.int y :: .int x :: t) g r ↔ if x = y then mm_Rn pg_G d 8 41 ls (t) g r else mm_Rn pg_G d 8 24 ls (t) g r := rn_icmp_eq tb_8_21 r
theorem tb_8_24 : mm_tb pg_G 8 24 = some (.aload_n 0, 0, 0, 0) := rfl
theorem st_8_24 {l1 l2 : Value} {d : Nat} {t : List Value} {g : mm_M} {r : mm_R} {x : Nat} : mm_Rn pg_G d 8 24 [.ref x, l1, l2] (t) g r ↔ mm_Rn pg_G d 8 25 [.ref x, l1, l2] (.ref x :: t) g r := rn_aload_n tb_8_24 rfl r
theorem tb_8_25 : mm_tb pg_G 8 25 = some (.getfield 9, 5, 0, 124) := rfl
theorem st_8_25 {d : Nat} {ls t : List Value} {g : mm_M} {r : mm_R} {x : Nat} (hT : g.1 x = some (5, 7)) : mm_Rn pg_G d 8 25 ls (.ref x :: t) g r ↔ mm_Rn pg_G d 8 28 ls (g.2.1 x 0 :: t) g r := rn_getfield tb_8_25 hT r
theorem tb_8_28 : mm_tb pg_G 8 28 = some (.iload_n 1, 0, 0, 0) := rfl
theorem st_8_28 {l0 l2 : Value} {d : Nat} {t : List Value} {g : mm_M} {r : mm_R} {x : Int32} : mm_Rn pg_G d 8 28 [l0, .int x, l2] (t) g r ↔ mm_Rn pg_G d 8 29 [l0, .int x, l2] (.int x :: t) g r := rn_iload_n tb_8_28 rfl r
theorem tb_8_29 : mm_tb pg_G 8 29 = some (.iload_n 2, 0, 0, 0) := rfl
theorem st_8_29 {l0 l1 : Value} {d : Nat} {t : List Value} {g : mm_M} {r : mm_R} {x : Int32} : mm_Rn pg_G d 8 29 [l0, l1, .int x] (t) g r ↔ mm_Rn pg_G d 8 30 [l0, l1, .int x] (.int x :: t) g r := rn_iload_n tb_8_29 rfl r
theorem tb_8_30 : mm_tb pg_G 8 30 = some (.iastore, 0, 0, 0) := rfl
theorem st_8_30 {d : Nat} {ls t : List Value} {g : mm_M} {r : mm_R} {x : Nat} {j v : Int32} (hc : mm_in (g.1 x) 100 100 j = true) : mm_Rn pg_G d 8 30 ls (.int v :: .int j :: .ref x :: t) g r ↔ mm_Rn pg_G d 8 31 ls (t) (mm_wr g x j.toNatClampNeg (.int v)) r := rn_iastore tb_8_30 hc r
theorem tb_8_31 : mm_tb pg_G 8 31 = some (.aload_n 0, 0, 0, 0) := rfl
theorem st_8_31 {l1 l2 : Value} {d : Nat} {t : List Value} {g : mm_M} {r : mm_R} {x : Nat} : mm_Rn pg_G d 8 31 [.ref x, l1, l2] (t) g r ↔ mm_Rn pg_G d 8 32 [.ref x, l1, l2] (.ref x :: t) g r := rn_aload_n tb_8_31 rfl r
theorem tb_8_32 : mm_tb pg_G 8 32 = some (.dup, 0, 0, 0) := rfl
theorem st_8_32 {d : Nat} {ls t : List Value} {g : mm_M} {r : mm_R} {v : Value} (hc : mm_c1 v = true) : mm_Rn pg_G d 8 32 ls (v :: t) g r ↔ mm_Rn pg_G d 8 33 ls (v :: v :: t) g r := rn_dup tb_8_32 hc r
theorem tb_8_33 : mm_tb pg_G 8 33 = some (.getfield 28, 5, 5, 132) := rfl
theorem st_8_33 {d : Nat} {ls t : List Value} {g : mm_M} {r : mm_R} {x : Nat} (hT : g.1 x = some (5, 7)) : mm_Rn pg_G d 8 33 ls (.ref x :: t) g r ↔ mm_Rn pg_G d 8 36 ls (g.2.1 x 5 :: t) g r := rn_getfield tb_8_33 hT r
theorem tb_8_36 : mm_tb pg_G 8 36 = some (.iconst 1, 0, 0, 0) := rfl
theorem st_8_36 {d : Nat} {ls t : List Value} {g : mm_M} {r : mm_R} : mm_Rn pg_G d 8 36 ls (t) g r ↔ mm_Rn pg_G d 8 37 ls (io_v 1 :: t) g r := rn_iconst tb_8_36 r
theorem tb_8_37 : mm_tb pg_G 8 37 = some (.iadd, 0, 0, 0) := rfl
theorem st_8_37 {d : Nat} {ls t : List Value} {g : mm_M} {r : mm_R} {x y : Int32} : mm_Rn pg_G d 8 37 ls (.int y :: .int x :: t) g r ↔ mm_Rn pg_G d 8 38 ls (.int (x + y) :: t) g r := rn_iadd tb_8_37 r
theorem tb_8_38 : mm_tb pg_G 8 38 = some (.putfield 28, 5, 5, 132) := rfl
theorem st_8_38 {d : Nat} {ls t : List Value} {g : mm_M} {r : mm_R} {x : Nat} {v : Int32} (hT : g.1 x = some (5, 7)) : mm_Rn pg_G d 8 38 ls (.int v :: .ref x :: t) g r ↔ mm_Rn pg_G d 8 41 ls (t) (mm_wr g x 5 (.int v)) r := rn_putfield tb_8_38 hT rfl r
theorem tb_8_41 : mm_tb pg_G 8 41 = some (.return_, 0, 0, 0) := rfl
theorem st_8_41 {d : Nat} {ls : List Value} {g : mm_M} {r : mm_R} : mm_Rn pg_G d 8 41 ls [] g r ↔ r = (none, g) := rn_return_iff tb_8_41 rfl r
theorem tb_9_0 : mm_tb pg_G 9 0 = some (.iload_n 1, 0, 0, 0) := rfl
theorem st_9_0 {l0 : Value} {d : Nat} {t : List Value} {g : mm_M} {r : mm_R} {x : Int32} : mm_Rn pg_G d 9 0 [l0, .int x] (t) g r ↔ mm_Rn pg_G d 9 1 [l0, .int x] (.int x :: t) g r := rn_iload_n tb_9_0 rfl r
theorem tb_9_1 : mm_tb pg_G 9 1 = some (.tableswitch 56 0 3 #[31, 41, 46, 51], 0, 31, 0) := rfl
theorem st_9_1_d {d : Nat} {ls t : List Value} {g : mm_M} {r : mm_R} {x : Int32} (hx : x.toInt < 0 ∨ 3 < x.toInt) : mm_Rn pg_G d 9 1 ls (.int x :: t) g r ↔ mm_Rn pg_G d 9 57 ls (t) g r := rn_ts tb_9_1 (if_pos hx) rfl r
theorem st_9_1_0 {d : Nat} {ls t : List Value} {g : mm_M} {r : mm_R} {x : Int32} (hx : x.toInt = 0) : mm_Rn pg_G d 9 1 ls (.int x :: t) g r ↔ mm_Rn pg_G d 9 32 ls (t) g r := rn_ts (off := 31) tb_9_1 (by rw [hx]; rfl) rfl r
theorem st_9_1_1 {d : Nat} {ls t : List Value} {g : mm_M} {r : mm_R} {x : Int32} (hx : x.toInt = 1) : mm_Rn pg_G d 9 1 ls (.int x :: t) g r ↔ mm_Rn pg_G d 9 42 ls (t) g r := rn_ts (off := 41) tb_9_1 (by rw [hx]; rfl) rfl r
theorem st_9_1_2 {d : Nat} {ls t : List Value} {g : mm_M} {r : mm_R} {x : Int32} (hx : x.toInt = 2) : mm_Rn pg_G d 9 1 ls (.int x :: t) g r ↔ mm_Rn pg_G d 9 47 ls (t) g r := rn_ts (off := 46) tb_9_1 (by rw [hx]; rfl) rfl r
theorem st_9_1_3 {d : Nat} {ls t : List Value} {g : mm_M} {r : mm_R} {x : Int32} (hx : x.toInt = 3) : mm_Rn pg_G d 9 1 ls (.int x :: t) g r ↔ mm_Rn pg_G d 9 52 ls (t) g r := rn_ts (off := 51) tb_9_1 (by rw [hx]; rfl) rfl r
theorem tb_9_32 : mm_tb pg_G 9 32 = some (.aload_n 0, 0, 0, 0) := rfl
theorem st_9_32 {l1 : Value} {d : Nat} {t : List Value} {g : mm_M} {r : mm_R} {x : Nat} : mm_Rn pg_G d 9 32 [.ref x, l1] (t) g r ↔ mm_Rn pg_G d 9 33 [.ref x, l1] (.ref x :: t) g r := rn_aload_n tb_9_32 rfl r
theorem tb_9_33 : mm_tb pg_G 9 33 = some (.getfield 15, 5, 1, 125) := rfl
theorem st_9_33 {d : Nat} {ls t : List Value} {g : mm_M} {r : mm_R} {x : Nat} (hT : g.1 x = some (5, 7)) : mm_Rn pg_G d 9 33 ls (.ref x :: t) g r ↔ mm_Rn pg_G d 9 36 ls (g.2.1 x 1 :: t) g r := rn_getfield tb_9_33 hT r
theorem tb_9_36 : mm_tb pg_G 9 36 = some (.aload_n 0, 0, 0, 0) := rfl
theorem st_9_36 {l1 : Value} {d : Nat} {t : List Value} {g : mm_M} {r : mm_R} {x : Nat} : mm_Rn pg_G d 9 36 [.ref x, l1] (t) g r ↔ mm_Rn pg_G d 9 37 [.ref x, l1] (.ref x :: t) g r := rn_aload_n tb_9_36 rfl r
theorem tb_9_37 : mm_tb pg_G 9 37 = some (.getfield 19, 5, 2, 126) := rfl
theorem st_9_37 {d : Nat} {ls t : List Value} {g : mm_M} {r : mm_R} {x : Nat} (hT : g.1 x = some (5, 7)) : mm_Rn pg_G d 9 37 ls (.ref x :: t) g r ↔ mm_Rn pg_G d 9 40 ls (g.2.1 x 2 :: t) g r := rn_getfield tb_9_37 hT r
theorem tb_9_40 : mm_tb pg_G 9 40 = some (.isub, 0, 0, 0) := rfl
theorem st_9_40 {d : Nat} {ls t : List Value} {g : mm_M} {r : mm_R} {x y : Int32} : mm_Rn pg_G d 9 40 ls (.int y :: .int x :: t) g r ↔ mm_Rn pg_G d 9 41 ls (.int (x - y) :: t) g r := rn_isub tb_9_40 r
theorem tb_9_41 : mm_tb pg_G 9 41 = some (.ireturn, 0, 0, 0) := rfl
theorem st_9_41 {d : Nat} {ls : List Value} {g : mm_M} {r : mm_R} {x : Int32} : mm_Rn pg_G d 9 41 ls [.int x] g r ↔ r = (some (.int x), g) := rn_ireturn_iff tb_9_41 (Or.inl rfl) r
theorem tb_9_42 : mm_tb pg_G 9 42 = some (.aload_n 0, 0, 0, 0) := rfl
theorem st_9_42 {l1 : Value} {d : Nat} {t : List Value} {g : mm_M} {r : mm_R} {x : Nat} : mm_Rn pg_G d 9 42 [.ref x, l1] (t) g r ↔ mm_Rn pg_G d 9 43 [.ref x, l1] (.ref x :: t) g r := rn_aload_n tb_9_42 rfl r
theorem tb_9_43 : mm_tb pg_G 9 43 = some (.getfield 25, 5, 4, 130) := rfl
theorem st_9_43 {d : Nat} {ls t : List Value} {g : mm_M} {r : mm_R} {x : Nat} (hT : g.1 x = some (5, 7)) : mm_Rn pg_G d 9 43 ls (.ref x :: t) g r ↔ mm_Rn pg_G d 9 46 ls (g.2.1 x 4 :: t) g r := rn_getfield tb_9_43 hT r
theorem tb_9_46 : mm_tb pg_G 9 46 = some (.ireturn, 0, 0, 0) := rfl
theorem st_9_46 {d : Nat} {ls : List Value} {g : mm_M} {r : mm_R} {x : Int32} : mm_Rn pg_G d 9 46 ls [.int x] g r ↔ r = (some (.int x), g) := rn_ireturn_iff tb_9_46 (Or.inl rfl) r
theorem tb_9_47 : mm_tb pg_G 9 47 = some (.aload_n 0, 0, 0, 0) := rfl
theorem st_9_47 {l1 : Value} {d : Nat} {t : List Value} {g : mm_M} {r : mm_R} {x : Nat} : mm_Rn pg_G d 9 47 [.ref x, l1] (t) g r ↔ mm_Rn pg_G d 9 48 [.ref x, l1] (.ref x :: t) g r := rn_aload_n tb_9_47 rfl r
theorem tb_9_48 : mm_tb pg_G 9 48 = some (.getfield 28, 5, 5, 132) := rfl
theorem st_9_48 {d : Nat} {ls t : List Value} {g : mm_M} {r : mm_R} {x : Nat} (hT : g.1 x = some (5, 7)) : mm_Rn pg_G d 9 48 ls (.ref x :: t) g r ↔ mm_Rn pg_G d 9 51 ls (g.2.1 x 5 :: t) g r := rn_getfield tb_9_48 hT r
theorem tb_9_51 : mm_tb pg_G 9 51 = some (.ireturn, 0, 0, 0) := rfl
theorem st_9_51 {d : Nat} {ls : List Value} {g : mm_M} {r : mm_R} {x : Int32} : mm_Rn pg_G d 9 51 ls [.int x] g r ↔ r = (some (.int x), g) := rn_ireturn_iff tb_9_51 (Or.inl rfl) r
theorem tb_9_52 : mm_tb pg_G 9 52 = some (.aload_n 0, 0, 0, 0) := rfl
theorem st_9_52 {l1 : Value} {d : Nat} {t : List Value} {g : mm_M} {r : mm_R} {x : Nat} : mm_Rn pg_G d 9 52 [.ref x, l1] (t) g r ↔ mm_Rn pg_G d 9 53 [.ref x, l1] (.ref x :: t) g r := rn_aload_n tb_9_52 rfl r
theorem tb_9_53 : mm_tb pg_G 9 53 = some (.getfield 31, 5, 6, 133) := rfl
theorem st_9_53 {d : Nat} {ls t : List Value} {g : mm_M} {r : mm_R} {x : Nat} (hT : g.1 x = some (5, 7)) : mm_Rn pg_G d 9 53 ls (.ref x :: t) g r ↔ mm_Rn pg_G d 9 56 ls (g.2.1 x 6 :: t) g r := rn_getfield tb_9_53 hT r
theorem tb_9_56 : mm_tb pg_G 9 56 = some (.ireturn, 0, 0, 0) := rfl
theorem st_9_56 {d : Nat} {ls : List Value} {g : mm_M} {r : mm_R} {x : Int32} : mm_Rn pg_G d 9 56 ls [.int x] g r ↔ r = (some (.int x), g) := rn_ireturn_iff tb_9_56 (Or.inl rfl) r
theorem tb_9_57 : mm_tb pg_G 9 57 = some (.iconst (-1), 0, 0, 0) := rfl
theorem st_9_57 {d : Nat} {ls t : List Value} {g : mm_M} {r : mm_R} : mm_Rn pg_G d 9 57 ls (t) g r ↔ mm_Rn pg_G d 9 58 ls (io_v (-1) :: t) g r := rn_iconst tb_9_57 r
theorem tb_9_58 : mm_tb pg_G 9 58 = some (.ireturn, 0, 0, 0) := rfl
theorem st_9_58 {d : Nat} {ls : List Value} {g : mm_M} {r : mm_R} {x : Int32} : mm_Rn pg_G d 9 58 ls [.int x] g r ↔ r = (some (.int x), g) := rn_ireturn_iff tb_9_58 (Or.inl rfl) r
theorem tb_10_0 : mm_tb pg_G 10 0 = some (.aload_n 0, 0, 0, 0) := rfl
theorem st_10_0 {l1 l2 l3 : Value} {d : Nat} {t : List Value} {g : mm_M} {r : mm_R} {x : Nat} : mm_Rn pg_G d 10 0 [.ref x, l1, l2, l3] (t) g r ↔ mm_Rn pg_G d 10 1 [.ref x, l1, l2, l3] (.ref x :: t) g r := rn_aload_n tb_10_0 rfl r
theorem tb_10_1 : mm_tb pg_G 10 1 = some (.invokespecial 3, 998, 0, 117) := rfl
theorem st_10_1 {d : Nat} {ls t : List Value} {g : mm_M} {r : mm_R} {x : Nat} (hl : t.length ≤ 4) : mm_Rn pg_G (d + 1) 10 1 ls (.ref x :: t) g r ↔ mm_Rn pg_G (d + 1) 10 4 ls (t) g r := rn_oinit tb_10_1 hl r
theorem tb_10_4 : mm_tb pg_G 10 4 = some (.aload_n 0, 0, 0, 0) := rfl
theorem st_10_4 {l1 l2 l3 : Value} {d : Nat} {t : List Value} {g : mm_M} {r : mm_R} {x : Nat} : mm_Rn pg_G d 10 4 [.ref x, l1, l2, l3] (t) g r ↔ mm_Rn pg_G d 10 5 [.ref x, l1, l2, l3] (.ref x :: t) g r := rn_aload_n tb_10_4 rfl r
theorem tb_10_5 : mm_tb pg_G 10 5 = some (.iconst 4, 0, 0, 0) := rfl
theorem st_10_5 {d : Nat} {ls t : List Value} {g : mm_M} {r : mm_R} : mm_Rn pg_G d 10 5 ls (t) g r ↔ mm_Rn pg_G d 10 6 ls (io_v 4 :: t) g r := rn_iconst tb_10_5 r
theorem tb_10_6 : mm_tb pg_G 10 6 = some (.anewarray 9, 103, 0, 118) := rfl
theorem st_10_6 {d : Nat} {ls t : List Value} {g : mm_M} {r : mm_R} {x : Nat} {n : Int32} (hx : mm_pk pg_G 10 6 ls g.2.1 = x) (hT : g.1 x = none) (h0 : 0 ≤ n) (h1 : n.toNatClampNeg ≤ 1000) : mm_Rn pg_G d 10 6 ls (.int n :: t) g r ↔ mm_Rn pg_G d 10 9 ls (.ref x :: t) (mm_al g x 103 n.toNatClampNeg fun _ => .null) r := rn_anewarray tb_10_6 hx hT h0 h1 r
theorem tb_10_9 : mm_tb pg_G 10 9 = some (.putfield 11, 3, 3, 147) := rfl
theorem st_10_9 {d : Nat} {ls t : List Value} {g : mm_M} {r : mm_R} {x : Nat} {v : Nat} (hT : g.1 x = some (3, 10)) : mm_Rn pg_G d 10 9 ls (.ref v :: .ref x :: t) g r ↔ mm_Rn pg_G d 10 12 ls (t) (mm_wr g x 3 (.ref v)) r := rn_putfield tb_10_9 hT rfl r
theorem tb_10_12 : mm_tb pg_G 10 12 = some (.aload_n 0, 0, 0, 0) := rfl
theorem st_10_12 {l1 l2 l3 : Value} {d : Nat} {t : List Value} {g : mm_M} {r : mm_R} {x : Nat} : mm_Rn pg_G d 10 12 [.ref x, l1, l2, l3] (t) g r ↔ mm_Rn pg_G d 10 13 [.ref x, l1, l2, l3] (.ref x :: t) g r := rn_aload_n tb_10_12 rfl r
theorem tb_10_13 : mm_tb pg_G 10 13 = some (.new 17, 5, 0, 119) := rfl
theorem st_10_13 {d : Nat} {ls t : List Value} {g : mm_M} {r : mm_R} {x : Nat} (hx : mm_pk pg_G 10 13 ls g.2.1 = x) (hT : g.1 x = none) : mm_Rn pg_G d 10 13 ls (t) g r ↔ mm_Rn pg_G d 10 16 ls (.ref x :: t) (mm_al g x 5 7 fun k => defaultValue (mm_ft pg_G 5 k)) r := rn_new tb_10_13 hx hT r
theorem tb_10_16 : mm_tb pg_G 10 16 = some (.dup, 0, 0, 0) := rfl
theorem st_10_16 {d : Nat} {ls t : List Value} {g : mm_M} {r : mm_R} {v : Value} (hc : mm_c1 v = true) : mm_Rn pg_G d 10 16 ls (v :: t) g r ↔ mm_Rn pg_G d 10 17 ls (v :: v :: t) g r := rn_dup tb_10_16 hc r
theorem tb_10_17 : mm_tb pg_G 10 17 = some (.invokespecial 19, 3, 1, 2) := rfl
theorem st_10_17 {d c s c' s' : Nat} {ls t : List Value} {I J : sp_I} {r : mm_R} {y : Nat} (hl : t.length ≤ 4) (hq : mm_Rn pg_G d 3 0 [.ref y] [] (sp_me I 0 0) (none, sp_me J c' s')) : mm_Rn pg_G (d + 1) 10 17 ls (.ref y :: t) (sp_me I c s) r ↔ mm_Rn pg_G (d + 1) 10 20 ls (t) (sp_me J (c + c') (s + s')) r := rn_spec (g := sp_me I c s) (st := .ref y :: t) tb_10_17 (by decide) rfl ⟨Nat.le_add_left _ t.length, hl, rfl⟩ hq r
theorem tb_10_20 : mm_tb pg_G 10 20 = some (.putfield 20, 3, 4, 148) := rfl
theorem st_10_20 {d : Nat} {ls t : List Value} {g : mm_M} {r : mm_R} {x : Nat} {v : Nat} (hT : g.1 x = some (3, 10)) : mm_Rn pg_G d 10 20 ls (.ref v :: .ref x :: t) g r ↔ mm_Rn pg_G d 10 23 ls (t) (mm_wr g x 4 (.ref v)) r := rn_putfield tb_10_20 hT rfl r
theorem tb_10_23 : mm_tb pg_G 10 23 = some (.aload_n 0, 0, 0, 0) := rfl
theorem st_10_23 {l1 l2 l3 : Value} {d : Nat} {t : List Value} {g : mm_M} {r : mm_R} {x : Nat} : mm_Rn pg_G d 10 23 [.ref x, l1, l2, l3] (t) g r ↔ mm_Rn pg_G d 10 24 [.ref x, l1, l2, l3] (.ref x :: t) g r := rn_aload_n tb_10_23 rfl r
theorem tb_10_24 : mm_tb pg_G 10 24 = some (.iconst 0, 0, 0, 0) := rfl
theorem st_10_24 {d : Nat} {ls t : List Value} {g : mm_M} {r : mm_R} : mm_Rn pg_G d 10 24 ls (t) g r ↔ mm_Rn pg_G d 10 25 ls (io_v 0 :: t) g r := rn_iconst tb_10_24 r
theorem tb_10_25 : mm_tb pg_G 10 25 = some (.putfield 24, 3, 5, 150) := rfl
theorem st_10_25 {d : Nat} {ls t : List Value} {g : mm_M} {r : mm_R} {x : Nat} {v : Int32} (hT : g.1 x = some (3, 10)) : mm_Rn pg_G d 10 25 ls (.int v :: .ref x :: t) g r ↔ mm_Rn pg_G d 10 28 ls (t) (mm_wr g x 5 (.int v)) r := rn_putfield tb_10_25 hT rfl r
theorem tb_10_28 : mm_tb pg_G 10 28 = some (.aload_n 0, 0, 0, 0) := rfl
theorem st_10_28 {l1 l2 l3 : Value} {d : Nat} {t : List Value} {g : mm_M} {r : mm_R} {x : Nat} : mm_Rn pg_G d 10 28 [.ref x, l1, l2, l3] (t) g r ↔ mm_Rn pg_G d 10 29 [.ref x, l1, l2, l3] (.ref x :: t) g r := rn_aload_n tb_10_28 rfl r
theorem tb_10_29 : mm_tb pg_G 10 29 = some (.iconst 0, 0, 0, 0) := rfl
theorem st_10_29 {d : Nat} {ls t : List Value} {g : mm_M} {r : mm_R} : mm_Rn pg_G d 10 29 ls (t) g r ↔ mm_Rn pg_G d 10 30 ls (io_v 0 :: t) g r := rn_iconst tb_10_29 r
theorem tb_10_30 : mm_tb pg_G 10 30 = some (.putfield 28, 3, 6, 151) := rfl
theorem st_10_30 {d : Nat} {ls t : List Value} {g : mm_M} {r : mm_R} {x : Nat} {v : Int32} (hT : g.1 x = some (3, 10)) : mm_Rn pg_G d 10 30 ls (.int v :: .ref x :: t) g r ↔ mm_Rn pg_G d 10 33 ls (t) (mm_wr g x 6 (.int v)) r := rn_putfield tb_10_30 hT rfl r
theorem tb_10_33 : mm_tb pg_G 10 33 = some (.aload_n 0, 0, 0, 0) := rfl
theorem st_10_33 {l1 l2 l3 : Value} {d : Nat} {t : List Value} {g : mm_M} {r : mm_R} {x : Nat} : mm_Rn pg_G d 10 33 [.ref x, l1, l2, l3] (t) g r ↔ mm_Rn pg_G d 10 34 [.ref x, l1, l2, l3] (.ref x :: t) g r := rn_aload_n tb_10_33 rfl r
theorem tb_10_34 : mm_tb pg_G 10 34 = some (.iconst 0, 0, 0, 0) := rfl
theorem st_10_34 {d : Nat} {ls t : List Value} {g : mm_M} {r : mm_R} : mm_Rn pg_G d 10 34 ls (t) g r ↔ mm_Rn pg_G d 10 35 ls (io_v 0 :: t) g r := rn_iconst tb_10_34 r
theorem tb_10_35 : mm_tb pg_G 10 35 = some (.putfield 31, 3, 7, 153) := rfl
theorem st_10_35 {d : Nat} {ls t : List Value} {g : mm_M} {r : mm_R} {x : Nat} {v : Int32} (hT : g.1 x = some (3, 10)) : mm_Rn pg_G d 10 35 ls (.int v :: .ref x :: t) g r ↔ mm_Rn pg_G d 10 38 ls (t) (mm_wr g x 7 (.int v)) r := rn_putfield tb_10_35 hT rfl r
theorem tb_10_38 : mm_tb pg_G 10 38 = some (.aload_n 0, 0, 0, 0) := rfl
theorem st_10_38 {l1 l2 l3 : Value} {d : Nat} {t : List Value} {g : mm_M} {r : mm_R} {x : Nat} : mm_Rn pg_G d 10 38 [.ref x, l1, l2, l3] (t) g r ↔ mm_Rn pg_G d 10 39 [.ref x, l1, l2, l3] (.ref x :: t) g r := rn_aload_n tb_10_38 rfl r
theorem tb_10_39 : mm_tb pg_G 10 39 = some (.iconst 0, 0, 0, 0) := rfl
theorem st_10_39 {d : Nat} {ls t : List Value} {g : mm_M} {r : mm_R} : mm_Rn pg_G d 10 39 ls (t) g r ↔ mm_Rn pg_G d 10 40 ls (io_v 0 :: t) g r := rn_iconst tb_10_39 r
theorem tb_10_40 : mm_tb pg_G 10 40 = some (.putfield 34, 3, 8, 155) := rfl
theorem st_10_40 {d : Nat} {ls t : List Value} {g : mm_M} {r : mm_R} {x : Nat} {v : Int32} (hT : g.1 x = some (3, 10)) : mm_Rn pg_G d 10 40 ls (.int v :: .ref x :: t) g r ↔ mm_Rn pg_G d 10 43 ls (t) (mm_wr g x 8 (.int v)) r := rn_putfield tb_10_40 hT rfl r
theorem tb_10_43 : mm_tb pg_G 10 43 = some (.aload_n 0, 0, 0, 0) := rfl
theorem st_10_43 {l1 l2 l3 : Value} {d : Nat} {t : List Value} {g : mm_M} {r : mm_R} {x : Nat} : mm_Rn pg_G d 10 43 [.ref x, l1, l2, l3] (t) g r ↔ mm_Rn pg_G d 10 44 [.ref x, l1, l2, l3] (.ref x :: t) g r := rn_aload_n tb_10_43 rfl r
theorem tb_10_44 : mm_tb pg_G 10 44 = some (.iconst 0, 0, 0, 0) := rfl
theorem st_10_44 {d : Nat} {ls t : List Value} {g : mm_M} {r : mm_R} : mm_Rn pg_G d 10 44 ls (t) g r ↔ mm_Rn pg_G d 10 45 ls (io_v 0 :: t) g r := rn_iconst tb_10_44 r
theorem tb_10_45 : mm_tb pg_G 10 45 = some (.putfield 37, 3, 9, 156) := rfl
theorem st_10_45 {d : Nat} {ls t : List Value} {g : mm_M} {r : mm_R} {x : Nat} {v : Int32} (hT : g.1 x = some (3, 10)) : mm_Rn pg_G d 10 45 ls (.int v :: .ref x :: t) g r ↔ mm_Rn pg_G d 10 48 ls (t) (mm_wr g x 9 (.int v)) r := rn_putfield tb_10_45 hT rfl r
theorem tb_10_48 : mm_tb pg_G 10 48 = some (.aload_n 0, 0, 0, 0) := rfl
theorem st_10_48 {l1 l2 l3 : Value} {d : Nat} {t : List Value} {g : mm_M} {r : mm_R} {x : Nat} : mm_Rn pg_G d 10 48 [.ref x, l1, l2, l3] (t) g r ↔ mm_Rn pg_G d 10 49 [.ref x, l1, l2, l3] (.ref x :: t) g r := rn_aload_n tb_10_48 rfl r
theorem tb_10_49 : mm_tb pg_G 10 49 = some (.iload_n 1, 0, 0, 0) := rfl
theorem st_10_49 {l0 l2 l3 : Value} {d : Nat} {t : List Value} {g : mm_M} {r : mm_R} {x : Int32} : mm_Rn pg_G d 10 49 [l0, .int x, l2, l3] (t) g r ↔ mm_Rn pg_G d 10 50 [l0, .int x, l2, l3] (.int x :: t) g r := rn_iload_n tb_10_49 rfl r
theorem tb_10_50 : mm_tb pg_G 10 50 = some (.putfield 40, 3, 0, 141) := rfl
theorem st_10_50 {d : Nat} {ls t : List Value} {g : mm_M} {r : mm_R} {x : Nat} {v : Int32} (hT : g.1 x = some (3, 10)) : mm_Rn pg_G d 10 50 ls (.int v :: .ref x :: t) g r ↔ mm_Rn pg_G d 10 53 ls (t) (mm_wr g x 0 (.int v)) r := rn_putfield tb_10_50 hT rfl r
theorem tb_10_53 : mm_tb pg_G 10 53 = some (.aload_n 0, 0, 0, 0) := rfl
theorem st_10_53 {l1 l2 l3 : Value} {d : Nat} {t : List Value} {g : mm_M} {r : mm_R} {x : Nat} : mm_Rn pg_G d 10 53 [.ref x, l1, l2, l3] (t) g r ↔ mm_Rn pg_G d 10 54 [.ref x, l1, l2, l3] (.ref x :: t) g r := rn_aload_n tb_10_53 rfl r
theorem tb_10_54 : mm_tb pg_G 10 54 = some (.iload_n 2, 0, 0, 0) := rfl
theorem st_10_54 {l0 l1 l3 : Value} {d : Nat} {t : List Value} {g : mm_M} {r : mm_R} {x : Int32} : mm_Rn pg_G d 10 54 [l0, l1, .int x, l3] (t) g r ↔ mm_Rn pg_G d 10 55 [l0, l1, .int x, l3] (.int x :: t) g r := rn_iload_n tb_10_54 rfl r
theorem tb_10_55 : mm_tb pg_G 10 55 = some (.putfield 43, 3, 1, 143) := rfl
theorem st_10_55 {d : Nat} {ls t : List Value} {g : mm_M} {r : mm_R} {x : Nat} {v : Int32} (hT : g.1 x = some (3, 10)) : mm_Rn pg_G d 10 55 ls (.int v :: .ref x :: t) g r ↔ mm_Rn pg_G d 10 58 ls (t) (mm_wr g x 1 (.int v)) r := rn_putfield tb_10_55 hT rfl r
theorem tb_10_58 : mm_tb pg_G 10 58 = some (.aload_n 0, 0, 0, 0) := rfl
theorem st_10_58 {l1 l2 l3 : Value} {d : Nat} {t : List Value} {g : mm_M} {r : mm_R} {x : Nat} : mm_Rn pg_G d 10 58 [.ref x, l1, l2, l3] (t) g r ↔ mm_Rn pg_G d 10 59 [.ref x, l1, l2, l3] (.ref x :: t) g r := rn_aload_n tb_10_58 rfl r
theorem tb_10_59 : mm_tb pg_G 10 59 = some (.iload_n 3, 0, 0, 0) := rfl
theorem st_10_59 {l0 l1 l2 : Value} {d : Nat} {t : List Value} {g : mm_M} {r : mm_R} {x : Int32} : mm_Rn pg_G d 10 59 [l0, l1, l2, .int x] (t) g r ↔ mm_Rn pg_G d 10 60 [l0, l1, l2, .int x] (.int x :: t) g r := rn_iload_n tb_10_59 rfl r
theorem tb_10_60 : mm_tb pg_G 10 60 = some (.putfield 46, 3, 2, 145) := rfl
theorem st_10_60 {d : Nat} {ls t : List Value} {g : mm_M} {r : mm_R} {x : Nat} {v : Int32} (hT : g.1 x = some (3, 10)) : mm_Rn pg_G d 10 60 ls (.int v :: .ref x :: t) g r ↔ mm_Rn pg_G d 10 63 ls (t) (mm_wr g x 2 (.int v)) r := rn_putfield tb_10_60 hT rfl r
theorem tb_10_63 : mm_tb pg_G 10 63 = some (.return_, 0, 0, 0) := rfl
theorem st_10_63 {d : Nat} {ls : List Value} {g : mm_M} {r : mm_R} : mm_Rn pg_G d 10 63 ls [] g r ↔ r = (none, g) := rn_return_iff tb_10_63 rfl r
theorem tb_11_0 : mm_tb pg_G 11 0 = some (.bipush 101, 0, 0, 0) := rfl
theorem st_11_0 {d : Nat} {ls t : List Value} {g : mm_M} {r : mm_R} : mm_Rn pg_G d 11 0 ls (t) g r ↔ mm_Rn pg_G d 11 2 ls (io_v 101 :: t) g r := rn_bipush tb_11_0 r
theorem tb_11_2 : mm_tb pg_G 11 2 = some (.aload_n 0, 0, 0, 0) := rfl
theorem st_11_2 {d : Nat} {t : List Value} {g : mm_M} {r : mm_R} {x : Nat} : mm_Rn pg_G d 11 2 [.ref x] (t) g r ↔ mm_Rn pg_G d 11 3 [.ref x] (.ref x :: t) g r := rn_aload_n tb_11_2 rfl r
theorem tb_11_3 : mm_tb pg_G 11 3 = some (.getfield 43, 3, 1, 143) := rfl
theorem st_11_3 {d : Nat} {ls t : List Value} {g : mm_M} {r : mm_R} {x : Nat} (hT : g.1 x = some (3, 10)) : mm_Rn pg_G d 11 3 ls (.ref x :: t) g r ↔ mm_Rn pg_G d 11 6 ls (g.2.1 x 1 :: t) g r := rn_getfield tb_11_3 hT r
theorem tb_11_6 : mm_tb pg_G 11 6 = some (.isub, 0, 0, 0) := rfl
theorem st_11_6 {d : Nat} {ls t : List Value} {g : mm_M} {r : mm_R} {x y : Int32} : mm_Rn pg_G d 11 6 ls (.int y :: .int x :: t) g r ↔ mm_Rn pg_G d 11 7 ls (.int (x - y) :: t) g r := rn_isub tb_11_6 r
theorem tb_11_7 : mm_tb pg_G 11 7 = some (.ireturn, 0, 0, 0) := rfl
theorem st_11_7 {d : Nat} {ls : List Value} {g : mm_M} {r : mm_R} {x : Int32} : mm_Rn pg_G d 11 7 ls [.int x] g r ↔ r = (some (.int x), g) := rn_ireturn_iff tb_11_7 (Or.inl rfl) r
theorem tb_12_0 : mm_tb pg_G 12 0 = some (.aload_n 0, 0, 0, 0) := rfl
theorem st_12_0 {l1 l2 l3 l4 : Value} {d : Nat} {t : List Value} {g : mm_M} {r : mm_R} {x : Nat} : mm_Rn pg_G d 12 0 [.ref x, l1, l2, l3, l4] (t) g r ↔ mm_Rn pg_G d 12 1 [.ref x, l1, l2, l3, l4] (.ref x :: t) g r := rn_aload_n tb_12_0 rfl r
theorem tb_12_1 : mm_tb pg_G 12 1 = some (.getfield 24, 3, 5, 150) := rfl
theorem st_12_1 {d : Nat} {ls t : List Value} {g : mm_M} {r : mm_R} {x : Nat} (hT : g.1 x = some (3, 10)) : mm_Rn pg_G d 12 1 ls (.ref x :: t) g r ↔ mm_Rn pg_G d 12 4 ls (g.2.1 x 5 :: t) g r := rn_getfield tb_12_1 hT r
theorem tb_12_4 : mm_tb pg_G 12 4 = some (.iconst 4, 0, 0, 0) := rfl
theorem st_12_4 {d : Nat} {ls t : List Value} {g : mm_M} {r : mm_R} : mm_Rn pg_G d 12 4 ls (t) g r ↔ mm_Rn pg_G d 12 5 ls (io_v 4 :: t) g r := rn_iconst tb_12_4 r
theorem tb_12_5 : mm_tb pg_G 12 5 = some (.if_icmp .ne 5, 10, 0, 0) := rfl
theorem st_12_5 {d : Nat} {ls t : List Value} {g : mm_M} {r : mm_R} {x y : Int32} : mm_Rn pg_G d 12 5 ls (.int y :: .int x :: t) g r ↔ if x = y then mm_Rn pg_G d 12 8 ls (t) g r else mm_Rn pg_G d 12 10 ls (t) g r := rn_icmp_ne tb_12_5 r
theorem tb_12_8 : mm_tb pg_G 12 8 = some (.iconst 0, 0, 0, 0) := rfl
theorem st_12_8 {d : Nat} {ls t : List Value} {g : mm_M} {r : mm_R} : mm_Rn pg_G d 12 8 ls (t) g r ↔ mm_Rn pg_G d 12 9 ls (io_v 0 :: t) g r := rn_iconst tb_12_8 r
theorem tb_12_9 : mm_tb pg_G 12 9 = some (.ireturn, 0, 0, 0) := rfl
theorem st_12_9 {d : Nat} {ls : List Value} {g : mm_M} {r : mm_R} {x : Int32} (hb : x = 0 ∨ x = 1) : mm_Rn pg_G d 12 9 ls [.int x] g r ↔ r = (some (.int x), g) := rn_ireturn_iff tb_12_9 (Or.inr ⟨rfl, hb⟩) r
theorem tb_12_10 : mm_tb pg_G 12 10 = some (.iconst 0, 0, 0, 0) := rfl
theorem st_12_10 {d : Nat} {ls t : List Value} {g : mm_M} {r : mm_R} : mm_Rn pg_G d 12 10 ls (t) g r ↔ mm_Rn pg_G d 12 11 ls (io_v 0 :: t) g r := rn_iconst tb_12_10 r
theorem tb_12_11 : mm_tb pg_G 12 11 = some (.istore 4, 0, 0, 0) := rfl
theorem st_12_11 {l0 l1 l2 l3 l4 : Value} {d : Nat} {t : List Value} {g : mm_M} {r : mm_R} {x : Int32} (hc : mm_c1 l3 = true) : mm_Rn pg_G d 12 11 [l0, l1, l2, l3, l4] (.int x :: t) g r ↔ mm_Rn pg_G d 12 13 [l0, l1, l2, l3, .int x] (t) g r := rn_istore tb_12_11 (mm_so_of (ls := [l0, l1, l2, l3, l4]) (v := l3) (Nat.le_of_ble_eq_true rfl) rfl hc) r
theorem tb_12_13 : mm_tb pg_G 12 13 = some (.iload 4, 0, 0, 0) := rfl
theorem st_12_13 {l0 l1 l2 l3 : Value} {d : Nat} {t : List Value} {g : mm_M} {r : mm_R} {x : Int32} : mm_Rn pg_G d 12 13 [l0, l1, l2, l3, .int x] (t) g r ↔ mm_Rn pg_G d 12 15 [l0, l1, l2, l3, .int x] (.int x :: t) g r := rn_iload tb_12_13 rfl r
theorem tb_12_15 : mm_tb pg_G 12 15 = some (.aload_n 0, 0, 0, 0) := rfl
theorem st_12_15 {l1 l2 l3 l4 : Value} {d : Nat} {t : List Value} {g : mm_M} {r : mm_R} {x : Nat} : mm_Rn pg_G d 12 15 [.ref x, l1, l2, l3, l4] (t) g r ↔ mm_Rn pg_G d 12 16 [.ref x, l1, l2, l3, l4] (.ref x :: t) g r := rn_aload_n tb_12_15 rfl r
theorem tb_12_16 : mm_tb pg_G 12 16 = some (.getfield 24, 3, 5, 150) := rfl
theorem st_12_16 {d : Nat} {ls t : List Value} {g : mm_M} {r : mm_R} {x : Nat} (hT : g.1 x = some (3, 10)) : mm_Rn pg_G d 12 16 ls (.ref x :: t) g r ↔ mm_Rn pg_G d 12 19 ls (g.2.1 x 5 :: t) g r := rn_getfield tb_12_16 hT r
theorem tb_12_19 : mm_tb pg_G 12 19 = some (.if_icmp .ge 27, 46, 0, 0) := rfl
theorem st_12_19 {d : Nat} {ls t : List Value} {g : mm_M} {r : mm_R} {x y : Int32} : mm_Rn pg_G d 12 19 ls (.int y :: .int x :: t) g r ↔ if y ≤ x then mm_Rn pg_G d 12 46 ls (t) g r else mm_Rn pg_G d 12 22 ls (t) g r := rn_icmp_ge tb_12_19 r
theorem tb_12_22 : mm_tb pg_G 12 22 = some (.aload_n 0, 0, 0, 0) := rfl
theorem st_12_22 {l1 l2 l3 l4 : Value} {d : Nat} {t : List Value} {g : mm_M} {r : mm_R} {x : Nat} : mm_Rn pg_G d 12 22 [.ref x, l1, l2, l3, l4] (t) g r ↔ mm_Rn pg_G d 12 23 [.ref x, l1, l2, l3, l4] (.ref x :: t) g r := rn_aload_n tb_12_22 rfl r
theorem tb_12_23 : mm_tb pg_G 12 23 = some (.getfield 11, 3, 3, 147) := rfl
theorem st_12_23 {d : Nat} {ls t : List Value} {g : mm_M} {r : mm_R} {x : Nat} (hT : g.1 x = some (3, 10)) : mm_Rn pg_G d 12 23 ls (.ref x :: t) g r ↔ mm_Rn pg_G d 12 26 ls (g.2.1 x 3 :: t) g r := rn_getfield tb_12_23 hT r
theorem tb_12_26 : mm_tb pg_G 12 26 = some (.iload 4, 0, 0, 0) := rfl
theorem st_12_26 {l0 l1 l2 l3 : Value} {d : Nat} {t : List Value} {g : mm_M} {r : mm_R} {x : Int32} : mm_Rn pg_G d 12 26 [l0, l1, l2, l3, .int x] (t) g r ↔ mm_Rn pg_G d 12 28 [l0, l1, l2, l3, .int x] (.int x :: t) g r := rn_iload tb_12_26 rfl r
theorem tb_12_28 : mm_tb pg_G 12 28 = some (.aaload, 0, 0, 0) := rfl
theorem st_12_28 {d : Nat} {ls t : List Value} {g : mm_M} {r : mm_R} {x : Nat} {j : Int32} (hc : mm_in (g.1 x) 102 103 j = true) : mm_Rn pg_G d 12 28 ls (.int j :: .ref x :: t) g r ↔ mm_Rn pg_G d 12 29 ls (g.2.1 x j.toNatClampNeg :: t) g r := rn_aaload tb_12_28 hc r
theorem tb_12_29 : mm_tb pg_G 12 29 = some (.iload_n 1, 0, 0, 0) := rfl
theorem st_12_29 {l0 l2 l3 l4 : Value} {d : Nat} {t : List Value} {g : mm_M} {r : mm_R} {x : Int32} : mm_Rn pg_G d 12 29 [l0, .int x, l2, l3, l4] (t) g r ↔ mm_Rn pg_G d 12 30 [l0, .int x, l2, l3, l4] (.int x :: t) g r := rn_iload_n tb_12_29 rfl r
theorem tb_12_30 : mm_tb pg_G 12 30 = some (.iload_n 2, 0, 0, 0) := rfl
theorem st_12_30 {l0 l1 l3 l4 : Value} {d : Nat} {t : List Value} {g : mm_M} {r : mm_R} {x : Int32} : mm_Rn pg_G d 12 30 [l0, l1, .int x, l3, l4] (t) g r ↔ mm_Rn pg_G d 12 31 [l0, l1, .int x, l3, l4] (.int x :: t) g r := rn_iload_n tb_12_30 rfl r
theorem tb_12_31 : mm_tb pg_G 12 31 = some (.iload_n 3, 0, 0, 0) := rfl
theorem st_12_31 {l0 l1 l2 l4 : Value} {d : Nat} {t : List Value} {g : mm_M} {r : mm_R} {x : Int32} : mm_Rn pg_G d 12 31 [l0, l1, l2, .int x, l4] (t) g r ↔ mm_Rn pg_G d 12 32 [l0, l1, l2, .int x, l4] (.int x :: t) g r := rn_iload_n tb_12_31 rfl r
theorem tb_12_32 : mm_tb pg_G 12 32 = some (.invokevirtual 49, 1, 4, 182) := rfl
theorem st_12_32 {d c s c' s' : Nat} {ls t : List Value} {I J : sp_I} {r : mm_R} {a0 a1 a2 : Int32} {y : Nat} {v : Int32} (hl : t.length ≤ 4) (hT : sp_T I y = some (4, 3)) (hq : mm_Rn pg_G d 1 0 [.ref y, .int a0, .int a1, .int a2, .retAddr 0, .retAddr 0, .retAddr 0] [] (sp_me I 0 0) (some (.int v), sp_me J c' s')) : mm_Rn pg_G (d + 1) 12 32 ls (.int a2 :: .int a1 :: .int a0 :: .ref y :: t) (sp_me I c s) r ↔ mm_Rn pg_G (d + 1) 12 35 ls (.int v :: t) (sp_me J (c + c') (s + s')) r := rn_virt (g := sp_me I c s) (st := .int a2 :: .int a1 :: .int a0 :: .ref y :: t) tb_12_32 (decide_eq_true hT) ⟨Nat.le_add_left _ t.length, hl, rfl⟩ hq r
theorem tb_12_35 : mm_tb pg_G 12 35 = some (.ifCond .ne 5, 40, 0, 0) := rfl
theorem st_12_35 {d : Nat} {ls t : List Value} {g : mm_M} {r : mm_R} {x : Int32} : mm_Rn pg_G d 12 35 ls (.int x :: t) g r ↔ if x = 0 then mm_Rn pg_G d 12 38 ls (t) g r else mm_Rn pg_G d 12 40 ls (t) g r := rn_if_ne tb_12_35 r
theorem tb_12_38 : mm_tb pg_G 12 38 = some (.iconst 0, 0, 0, 0) := rfl
theorem st_12_38 {d : Nat} {ls t : List Value} {g : mm_M} {r : mm_R} : mm_Rn pg_G d 12 38 ls (t) g r ↔ mm_Rn pg_G d 12 39 ls (io_v 0 :: t) g r := rn_iconst tb_12_38 r
theorem tb_12_39 : mm_tb pg_G 12 39 = some (.ireturn, 0, 0, 0) := rfl
theorem st_12_39 {d : Nat} {ls : List Value} {g : mm_M} {r : mm_R} {x : Int32} (hb : x = 0 ∨ x = 1) : mm_Rn pg_G d 12 39 ls [.int x] g r ↔ r = (some (.int x), g) := rn_ireturn_iff tb_12_39 (Or.inr ⟨rfl, hb⟩) r
theorem tb_12_40 : mm_tb pg_G 12 40 = some (.iinc 4 1, 0, 0, 0) := rfl
theorem st_12_40 {l0 l1 l2 l3 : Value} {d : Nat} {t : List Value} {g : mm_M} {r : mm_R} {x : Int32} (hc : mm_c1 l3 = true) : mm_Rn pg_G d 12 40 [l0, l1, l2, l3, .int x] (t) g r ↔ mm_Rn pg_G d 12 43 [l0, l1, l2, l3, .int (x + Int32.ofInt 1)] (t) g r := rn_iinc tb_12_40 rfl (mm_so_of (ls := [l0, l1, l2, l3, .int x]) (v := l3) (Nat.le_of_ble_eq_true rfl) rfl hc) r
theorem tb_12_43 : mm_tb pg_G 12 43 = some (.goto (-30), 13, 0, 0) := rfl
theorem st_12_43 {d : Nat} {ls t : List Value} {g : mm_M} {r : mm_R} : mm_Rn pg_G d 12 43 ls (t) g r ↔ mm_Rn pg_G d 12 13 ls (t) g r := rn_goto tb_12_43 r
theorem tb_12_46 : mm_tb pg_G 12 46 = some (.iconst 1, 0, 0, 0) := rfl
theorem st_12_46 {d : Nat} {ls t : List Value} {g : mm_M} {r : mm_R} : mm_Rn pg_G d 12 46 ls (t) g r ↔ mm_Rn pg_G d 12 47 ls (io_v 1 :: t) g r := rn_iconst tb_12_46 r
theorem tb_12_47 : mm_tb pg_G 12 47 = some (.ireturn, 0, 0, 0) := rfl
theorem st_12_47 {d : Nat} {ls : List Value} {g : mm_M} {r : mm_R} {x : Int32} (hb : x = 0 ∨ x = 1) : mm_Rn pg_G d 12 47 ls [.int x] g r ↔ r = (some (.int x), g) := rn_ireturn_iff tb_12_47 (Or.inr ⟨rfl, hb⟩) r
theorem tb_13_0 : mm_tb pg_G 13 0 = some (.aload_n 0, 0, 0, 0) := rfl
theorem st_13_0 {l1 l2 l3 : Value} {d : Nat} {t : List Value} {g : mm_M} {r : mm_R} {x : Nat} : mm_Rn pg_G d 13 0 [.ref x, l1, l2, l3] (t) g r ↔ mm_Rn pg_G d 13 1 [.ref x, l1, l2, l3] (.ref x :: t) g r := rn_aload_n tb_13_0 rfl r
theorem tb_13_1 : mm_tb pg_G 13 1 = some (.getfield 11, 3, 3, 147) := rfl
theorem st_13_1 {d : Nat} {ls t : List Value} {g : mm_M} {r : mm_R} {x : Nat} (hT : g.1 x = some (3, 10)) : mm_Rn pg_G d 13 1 ls (.ref x :: t) g r ↔ mm_Rn pg_G d 13 4 ls (g.2.1 x 3 :: t) g r := rn_getfield tb_13_1 hT r
theorem tb_13_4 : mm_tb pg_G 13 4 = some (.aload_n 0, 0, 0, 0) := rfl
theorem st_13_4 {l1 l2 l3 : Value} {d : Nat} {t : List Value} {g : mm_M} {r : mm_R} {x : Nat} : mm_Rn pg_G d 13 4 [.ref x, l1, l2, l3] (t) g r ↔ mm_Rn pg_G d 13 5 [.ref x, l1, l2, l3] (.ref x :: t) g r := rn_aload_n tb_13_4 rfl r
theorem tb_13_5 : mm_tb pg_G 13 5 = some (.getfield 24, 3, 5, 150) := rfl
theorem st_13_5 {d : Nat} {ls t : List Value} {g : mm_M} {r : mm_R} {x : Nat} (hT : g.1 x = some (3, 10)) : mm_Rn pg_G d 13 5 ls (.ref x :: t) g r ↔ mm_Rn pg_G d 13 8 ls (g.2.1 x 5 :: t) g r := rn_getfield tb_13_5 hT r
theorem tb_13_8 : mm_tb pg_G 13 8 = some (.new 9, 4, 0, 118) := rfl
theorem st_13_8 {d : Nat} {ls t : List Value} {g : mm_M} {r : mm_R} {x : Nat} (hx : mm_pk pg_G 13 8 ls g.2.1 = x) (hT : g.1 x = none) : mm_Rn pg_G d 13 8 ls (t) g r ↔ mm_Rn pg_G d 13 11 ls (.ref x :: t) (mm_al g x 4 3 fun k => defaultValue (mm_ft pg_G 4 k)) r := rn_new tb_13_8 hx hT r
theorem tb_13_11 : mm_tb pg_G 13 11 = some (.dup, 0, 0, 0) := rfl
theorem st_13_11 {d : Nat} {ls t : List Value} {g : mm_M} {r : mm_R} {v : Value} (hc : mm_c1 v = true) : mm_Rn pg_G d 13 11 ls (v :: t) g r ↔ mm_Rn pg_G d 13 12 ls (v :: v :: t) g r := rn_dup tb_13_11 hc r
theorem tb_13_12 : mm_tb pg_G 13 12 = some (.iload_n 1, 0, 0, 0) := rfl
theorem st_13_12 {l0 l2 l3 : Value} {d : Nat} {t : List Value} {g : mm_M} {r : mm_R} {x : Int32} : mm_Rn pg_G d 13 12 [l0, .int x, l2, l3] (t) g r ↔ mm_Rn pg_G d 13 13 [l0, .int x, l2, l3] (.int x :: t) g r := rn_iload_n tb_13_12 rfl r
theorem tb_13_13 : mm_tb pg_G 13 13 = some (.iload_n 2, 0, 0, 0) := rfl
theorem st_13_13 {l0 l1 l3 : Value} {d : Nat} {t : List Value} {g : mm_M} {r : mm_R} {x : Int32} : mm_Rn pg_G d 13 13 [l0, l1, .int x, l3] (t) g r ↔ mm_Rn pg_G d 13 14 [l0, l1, .int x, l3] (.int x :: t) g r := rn_iload_n tb_13_13 rfl r
theorem tb_13_14 : mm_tb pg_G 13 14 = some (.iload_n 3, 0, 0, 0) := rfl
theorem st_13_14 {l0 l1 l2 : Value} {d : Nat} {t : List Value} {g : mm_M} {r : mm_R} {x : Int32} : mm_Rn pg_G d 13 14 [l0, l1, l2, .int x] (t) g r ↔ mm_Rn pg_G d 13 15 [l0, l1, l2, .int x] (.int x :: t) g r := rn_iload_n tb_13_14 rfl r
theorem tb_13_15 : mm_tb pg_G 13 15 = some (.invokespecial 53, 0, 4, 191) := rfl
theorem st_13_15 {d c s c' s' : Nat} {ls t : List Value} {I J : sp_I} {r : mm_R} {a0 a1 a2 : Int32} {y : Nat} (hl : t.length ≤ 4) (hq : mm_Rn pg_G d 0 0 [.ref y, .int a0, .int a1, .int a2] [] (sp_me I 0 0) (none, sp_me J c' s')) : mm_Rn pg_G (d + 1) 13 15 ls (.int a2 :: .int a1 :: .int a0 :: .ref y :: t) (sp_me I c s) r ↔ mm_Rn pg_G (d + 1) 13 18 ls (t) (sp_me J (c + c') (s + s')) r := rn_spec (g := sp_me I c s) (st := .int a2 :: .int a1 :: .int a0 :: .ref y :: t) tb_13_15 (by decide) rfl ⟨Nat.le_add_left _ t.length, hl, rfl⟩ hq r
theorem tb_13_18 : mm_tb pg_G 13 18 = some (.aastore, 103, 4, 0) := rfl
theorem st_13_18 {d : Nat} {ls t : List Value} {g : mm_M} {r : mm_R} {x v : Nat} {j : Int32} (hc : mm_in (g.1 x) 103 103 j = true) (hv : g.1 v = some (4, 3)) : mm_Rn pg_G d 13 18 ls (.ref v :: .int j :: .ref x :: t) g r ↔ mm_Rn pg_G d 13 19 ls (t) (mm_wr g x j.toNatClampNeg (.ref v)) r := rn_aastore tb_13_18 hc hv r
theorem tb_13_19 : mm_tb pg_G 13 19 = some (.aload_n 0, 0, 0, 0) := rfl
theorem st_13_19 {l1 l2 l3 : Value} {d : Nat} {t : List Value} {g : mm_M} {r : mm_R} {x : Nat} : mm_Rn pg_G d 13 19 [.ref x, l1, l2, l3] (t) g r ↔ mm_Rn pg_G d 13 20 [.ref x, l1, l2, l3] (.ref x :: t) g r := rn_aload_n tb_13_19 rfl r
theorem tb_13_20 : mm_tb pg_G 13 20 = some (.dup, 0, 0, 0) := rfl
theorem st_13_20 {d : Nat} {ls t : List Value} {g : mm_M} {r : mm_R} {v : Value} (hc : mm_c1 v = true) : mm_Rn pg_G d 13 20 ls (v :: t) g r ↔ mm_Rn pg_G d 13 21 ls (v :: v :: t) g r := rn_dup tb_13_20 hc r
theorem tb_13_21 : mm_tb pg_G 13 21 = some (.getfield 24, 3, 5, 150) := rfl
theorem st_13_21 {d : Nat} {ls t : List Value} {g : mm_M} {r : mm_R} {x : Nat} (hT : g.1 x = some (3, 10)) : mm_Rn pg_G d 13 21 ls (.ref x :: t) g r ↔ mm_Rn pg_G d 13 24 ls (g.2.1 x 5 :: t) g r := rn_getfield tb_13_21 hT r
theorem tb_13_24 : mm_tb pg_G 13 24 = some (.iconst 1, 0, 0, 0) := rfl
theorem st_13_24 {d : Nat} {ls t : List Value} {g : mm_M} {r : mm_R} : mm_Rn pg_G d 13 24 ls (t) g r ↔ mm_Rn pg_G d 13 25 ls (io_v 1 :: t) g r := rn_iconst tb_13_24 r
theorem tb_13_25 : mm_tb pg_G 13 25 = some (.iadd, 0, 0, 0) := rfl
theorem st_13_25 {d : Nat} {ls t : List Value} {g : mm_M} {r : mm_R} {x y : Int32} : mm_Rn pg_G d 13 25 ls (.int y :: .int x :: t) g r ↔ mm_Rn pg_G d 13 26 ls (.int (x + y) :: t) g r := rn_iadd tb_13_25 r
theorem tb_13_26 : mm_tb pg_G 13 26 = some (.putfield 24, 3, 5, 150) := rfl
theorem st_13_26 {d : Nat} {ls t : List Value} {g : mm_M} {r : mm_R} {x : Nat} {v : Int32} (hT : g.1 x = some (3, 10)) : mm_Rn pg_G d 13 26 ls (.int v :: .ref x :: t) g r ↔ mm_Rn pg_G d 13 29 ls (t) (mm_wr g x 5 (.int v)) r := rn_putfield tb_13_26 hT rfl r
theorem tb_13_29 : mm_tb pg_G 13 29 = some (.return_, 0, 0, 0) := rfl
theorem st_13_29 {d : Nat} {ls : List Value} {g : mm_M} {r : mm_R} : mm_Rn pg_G d 13 29 ls [] g r ↔ r = (none, g) := rn_return_iff tb_13_29 rfl r
theorem tb_14_0 : mm_tb pg_G 14 0 = some (.iconst 0, 0, 0, 0) := rfl
theorem st_14_0 {d : Nat} {ls t : List Value} {g : mm_M} {r : mm_R} : mm_Rn pg_G d 14 0 ls (t) g r ↔ mm_Rn pg_G d 14 1 ls (io_v 0 :: t) g r := rn_iconst tb_14_0 r
theorem tb_14_1 : mm_tb pg_G 14 1 = some (.istore_n 3, 0, 0, 0) := rfl
theorem st_14_1 {l0 l1 l2 l3 l4 : Value} {d : Nat} {t : List Value} {g : mm_M} {r : mm_R} {x : Int32} (hc : mm_c1 l2 = true) : mm_Rn pg_G d 14 1 [l0, l1, l2, l3, l4] (.int x :: t) g r ↔ mm_Rn pg_G d 14 2 [l0, l1, l2, .int x, l4] (t) g r := rn_istore_n tb_14_1 (mm_so_of (ls := [l0, l1, l2, l3, l4]) (v := l2) (Nat.le_of_ble_eq_true rfl) rfl hc) r
theorem tb_14_2 : mm_tb pg_G 14 2 = some (.iconst 0, 0, 0, 0) := rfl
theorem st_14_2 {d : Nat} {ls t : List Value} {g : mm_M} {r : mm_R} : mm_Rn pg_G d 14 2 ls (t) g r ↔ mm_Rn pg_G d 14 3 ls (io_v 0 :: t) g r := rn_iconst tb_14_2 r
theorem tb_14_3 : mm_tb pg_G 14 3 = some (.istore 4, 0, 0, 0) := rfl
theorem st_14_3 {l0 l1 l2 l3 l4 : Value} {d : Nat} {t : List Value} {g : mm_M} {r : mm_R} {x : Int32} (hc : mm_c1 l3 = true) : mm_Rn pg_G d 14 3 [l0, l1, l2, l3, l4] (.int x :: t) g r ↔ mm_Rn pg_G d 14 5 [l0, l1, l2, l3, .int x] (t) g r := rn_istore tb_14_3 (mm_so_of (ls := [l0, l1, l2, l3, l4]) (v := l3) (Nat.le_of_ble_eq_true rfl) rfl hc) r
theorem tb_14_5 : mm_tb pg_G 14 5 = some (.iload 4, 0, 0, 0) := rfl
theorem st_14_5 {l0 l1 l2 l3 : Value} {d : Nat} {t : List Value} {g : mm_M} {r : mm_R} {x : Int32} : mm_Rn pg_G d 14 5 [l0, l1, l2, l3, .int x] (t) g r ↔ mm_Rn pg_G d 14 7 [l0, l1, l2, l3, .int x] (.int x :: t) g r := rn_iload tb_14_5 rfl r
theorem tb_14_7 : mm_tb pg_G 14 7 = some (.aload_n 0, 0, 0, 0) := rfl
theorem st_14_7 {l1 l2 l3 l4 : Value} {d : Nat} {t : List Value} {g : mm_M} {r : mm_R} {x : Nat} : mm_Rn pg_G d 14 7 [.ref x, l1, l2, l3, l4] (t) g r ↔ mm_Rn pg_G d 14 8 [.ref x, l1, l2, l3, l4] (.ref x :: t) g r := rn_aload_n tb_14_7 rfl r
theorem tb_14_8 : mm_tb pg_G 14 8 = some (.getfield 24, 3, 5, 150) := rfl
theorem st_14_8 {d : Nat} {ls t : List Value} {g : mm_M} {r : mm_R} {x : Nat} (hT : g.1 x = some (3, 10)) : mm_Rn pg_G d 14 8 ls (.ref x :: t) g r ↔ mm_Rn pg_G d 14 11 ls (g.2.1 x 5 :: t) g r := rn_getfield tb_14_8 hT r
theorem tb_14_11 : mm_tb pg_G 14 11 = some (.if_icmp .ge 53, 64, 0, 0) := rfl
theorem st_14_11 {d : Nat} {ls t : List Value} {g : mm_M} {r : mm_R} {x y : Int32} : mm_Rn pg_G d 14 11 ls (.int y :: .int x :: t) g r ↔ if y ≤ x then mm_Rn pg_G d 14 64 ls (t) g r else mm_Rn pg_G d 14 14 ls (t) g r := rn_icmp_ge tb_14_11 r
theorem tb_14_14 : mm_tb pg_G 14 14 = some (.aload_n 1, 0, 0, 0) := rfl
theorem st_14_14 {l0 l2 l3 l4 : Value} {d : Nat} {t : List Value} {g : mm_M} {r : mm_R} {x : Nat} : mm_Rn pg_G d 14 14 [l0, .ref x, l2, l3, l4] (t) g r ↔ mm_Rn pg_G d 14 15 [l0, .ref x, l2, l3, l4] (.ref x :: t) g r := rn_aload_n tb_14_14 rfl r
theorem tb_14_15 : mm_tb pg_G 14 15 = some (.aload_n 0, 0, 0, 0) := rfl
theorem st_14_15 {l1 l2 l3 l4 : Value} {d : Nat} {t : List Value} {g : mm_M} {r : mm_R} {x : Nat} : mm_Rn pg_G d 14 15 [.ref x, l1, l2, l3, l4] (t) g r ↔ mm_Rn pg_G d 14 16 [.ref x, l1, l2, l3, l4] (.ref x :: t) g r := rn_aload_n tb_14_15 rfl r
theorem tb_14_16 : mm_tb pg_G 14 16 = some (.getfield 11, 3, 3, 147) := rfl
theorem st_14_16 {d : Nat} {ls t : List Value} {g : mm_M} {r : mm_R} {x : Nat} (hT : g.1 x = some (3, 10)) : mm_Rn pg_G d 14 16 ls (.ref x :: t) g r ↔ mm_Rn pg_G d 14 19 ls (g.2.1 x 3 :: t) g r := rn_getfield tb_14_16 hT r
theorem tb_14_19 : mm_tb pg_G 14 19 = some (.iload 4, 0, 0, 0) := rfl
theorem st_14_19 {l0 l1 l2 l3 : Value} {d : Nat} {t : List Value} {g : mm_M} {r : mm_R} {x : Int32} : mm_Rn pg_G d 14 19 [l0, l1, l2, l3, .int x] (t) g r ↔ mm_Rn pg_G d 14 21 [l0, l1, l2, l3, .int x] (.int x :: t) g r := rn_iload tb_14_19 rfl r
theorem tb_14_21 : mm_tb pg_G 14 21 = some (.aaload, 0, 0, 0) := rfl
theorem st_14_21 {d : Nat} {ls t : List Value} {g : mm_M} {r : mm_R} {x : Nat} {j : Int32} (hc : mm_in (g.1 x) 102 103 j = true) : mm_Rn pg_G d 14 21 ls (.int j :: .ref x :: t) g r ↔ mm_Rn pg_G d 14 22 ls (g.2.1 x j.toNatClampNeg :: t) g r := rn_aaload tb_14_21 hc r
theorem tb_14_22 : mm_tb pg_G 14 22 = some (.getfield 56, 4, 0, 196) := rfl
theorem st_14_22 {d : Nat} {ls t : List Value} {g : mm_M} {r : mm_R} {x : Nat} (hT : g.1 x = some (4, 3)) : mm_Rn pg_G d 14 22 ls (.ref x :: t) g r ↔ mm_Rn pg_G d 14 25 ls (g.2.1 x 0 :: t) g r := rn_getfield tb_14_22 hT r
theorem tb_14_25 : mm_tb pg_G 14 25 = some (.iaload, 0, 0, 0) := rfl
theorem st_14_25 {d : Nat} {ls t : List Value} {g : mm_M} {r : mm_R} {x : Nat} {j : Int32} (hc : mm_in (g.1 x) 100 101 j = true) : mm_Rn pg_G d 14 25 ls (.int j :: .ref x :: t) g r ↔ mm_Rn pg_G d 14 26 ls (g.2.1 x j.toNatClampNeg :: t) g r := rn_iaload tb_14_25 hc r
theorem tb_14_26 : mm_tb pg_G 14 26 = some (.iload_n 2, 0, 0, 0) := rfl
theorem st_14_26 {l0 l1 l3 l4 : Value} {d : Nat} {t : List Value} {g : mm_M} {r : mm_R} {x : Int32} : mm_Rn pg_G d 14 26 [l0, l1, .int x, l3, l4] (t) g r ↔ mm_Rn pg_G d 14 27 [l0, l1, .int x, l3, l4] (.int x :: t) g r := rn_iload_n tb_14_26 rfl r
theorem tb_14_27 : mm_tb pg_G 14 27 = some (.if_icmp .lt 31, 58, 0, 0) := rfl
theorem st_14_27 {d : Nat} {ls t : List Value} {g : mm_M} {r : mm_R} {x y : Int32} : mm_Rn pg_G d 14 27 ls (.int y :: .int x :: t) g r ↔ if x < y then mm_Rn pg_G d 14 58 ls (t) g r else mm_Rn pg_G d 14 30 ls (t) g r := rn_icmp_lt tb_14_27 r
theorem tb_14_30 : mm_tb pg_G 14 30 = some (.iload_n 3, 0, 0, 0) := rfl
theorem st_14_30 {l0 l1 l2 l4 : Value} {d : Nat} {t : List Value} {g : mm_M} {r : mm_R} {x : Int32} : mm_Rn pg_G d 14 30 [l0, l1, l2, .int x, l4] (t) g r ↔ mm_Rn pg_G d 14 31 [l0, l1, l2, .int x, l4] (.int x :: t) g r := rn_iload_n tb_14_30 rfl r
theorem tb_14_31 : mm_tb pg_G 14 31 = some (.aload_n 0, 0, 0, 0) := rfl
theorem st_14_31 {l1 l2 l3 l4 : Value} {d : Nat} {t : List Value} {g : mm_M} {r : mm_R} {x : Nat} : mm_Rn pg_G d 14 31 [.ref x, l1, l2, l3, l4] (t) g r ↔ mm_Rn pg_G d 14 32 [.ref x, l1, l2, l3, l4] (.ref x :: t) g r := rn_aload_n tb_14_31 rfl r
theorem tb_14_32 : mm_tb pg_G 14 32 = some (.getfield 11, 3, 3, 147) := rfl
theorem st_14_32 {d : Nat} {ls t : List Value} {g : mm_M} {r : mm_R} {x : Nat} (hT : g.1 x = some (3, 10)) : mm_Rn pg_G d 14 32 ls (.ref x :: t) g r ↔ mm_Rn pg_G d 14 35 ls (g.2.1 x 3 :: t) g r := rn_getfield tb_14_32 hT r
theorem tb_14_35 : mm_tb pg_G 14 35 = some (.iload 4, 0, 0, 0) := rfl
theorem st_14_35 {l0 l1 l2 l3 : Value} {d : Nat} {t : List Value} {g : mm_M} {r : mm_R} {x : Int32} : mm_Rn pg_G d 14 35 [l0, l1, l2, l3, .int x] (t) g r ↔ mm_Rn pg_G d 14 37 [l0, l1, l2, l3, .int x] (.int x :: t) g r := rn_iload tb_14_35 rfl r
theorem tb_14_37 : mm_tb pg_G 14 37 = some (.aaload, 0, 0, 0) := rfl
theorem st_14_37 {d : Nat} {ls t : List Value} {g : mm_M} {r : mm_R} {x : Nat} {j : Int32} (hc : mm_in (g.1 x) 102 103 j = true) : mm_Rn pg_G d 14 37 ls (.int j :: .ref x :: t) g r ↔ mm_Rn pg_G d 14 38 ls (g.2.1 x j.toNatClampNeg :: t) g r := rn_aaload tb_14_37 hc r
theorem tb_14_38 : mm_tb pg_G 14 38 = some (.getfield 59, 4, 2, 200) := rfl
theorem st_14_38 {d : Nat} {ls t : List Value} {g : mm_M} {r : mm_R} {x : Nat} (hT : g.1 x = some (4, 3)) : mm_Rn pg_G d 14 38 ls (.ref x :: t) g r ↔ mm_Rn pg_G d 14 41 ls (g.2.1 x 2 :: t) g r := rn_getfield tb_14_38 hT r
theorem tb_14_41 : mm_tb pg_G 14 41 = some (.aload_n 0, 0, 0, 0) := rfl
theorem st_14_41 {l1 l2 l3 l4 : Value} {d : Nat} {t : List Value} {g : mm_M} {r : mm_R} {x : Nat} : mm_Rn pg_G d 14 41 [.ref x, l1, l2, l3, l4] (t) g r ↔ mm_Rn pg_G d 14 42 [.ref x, l1, l2, l3, l4] (.ref x :: t) g r := rn_aload_n tb_14_41 rfl r
theorem tb_14_42 : mm_tb pg_G 14 42 = some (.getfield 11, 3, 3, 147) := rfl
theorem st_14_42 {d : Nat} {ls t : List Value} {g : mm_M} {r : mm_R} {x : Nat} (hT : g.1 x = some (3, 10)) : mm_Rn pg_G d 14 42 ls (.ref x :: t) g r ↔ mm_Rn pg_G d 14 45 ls (g.2.1 x 3 :: t) g r := rn_getfield tb_14_42 hT r
theorem tb_14_45 : mm_tb pg_G 14 45 = some (.iload 4, 0, 0, 0) := rfl
theorem st_14_45 {l0 l1 l2 l3 : Value} {d : Nat} {t : List Value} {g : mm_M} {r : mm_R} {x : Int32} : mm_Rn pg_G d 14 45 [l0, l1, l2, l3, .int x] (t) g r ↔ mm_Rn pg_G d 14 47 [l0, l1, l2, l3, .int x] (.int x :: t) g r := rn_iload tb_14_45 rfl r
theorem tb_14_47 : mm_tb pg_G 14 47 = some (.aaload, 0, 0, 0) := rfl
theorem st_14_47 {d : Nat} {ls t : List Value} {g : mm_M} {r : mm_R} {x : Nat} {j : Int32} (hc : mm_in (g.1 x) 102 103 j = true) : mm_Rn pg_G d 14 47 ls (.int j :: .ref x :: t) g r ↔ mm_Rn pg_G d 14 48 ls (g.2.1 x j.toNatClampNeg :: t) g r := rn_aaload tb_14_47 hc r
theorem tb_14_48 : mm_tb pg_G 14 48 = some (.getfield 62, 4, 1, 198) := rfl
theorem st_14_48 {d : Nat} {ls t : List Value} {g : mm_M} {r : mm_R} {x : Nat} (hT : g.1 x = some (4, 3)) : mm_Rn pg_G d 14 48 ls (.ref x :: t) g r ↔ mm_Rn pg_G d 14 51 ls (g.2.1 x 1 :: t) g r := rn_getfield tb_14_48 hT r
theorem tb_14_51 : mm_tb pg_G 14 51 = some (.isub, 0, 0, 0) := rfl
theorem st_14_51 {d : Nat} {ls t : List Value} {g : mm_M} {r : mm_R} {x y : Int32} : mm_Rn pg_G d 14 51 ls (.int y :: .int x :: t) g r ↔ mm_Rn pg_G d 14 52 ls (.int (x - y) :: t) g r := rn_isub tb_14_51 r
theorem tb_14_52 : mm_tb pg_G 14 52 = some (.iconst 1, 0, 0, 0) := rfl
theorem st_14_52 {d : Nat} {ls t : List Value} {g : mm_M} {r : mm_R} : mm_Rn pg_G d 14 52 ls (t) g r ↔ mm_Rn pg_G d 14 53 ls (io_v 1 :: t) g r := rn_iconst tb_14_52 r
theorem tb_14_53 : mm_tb pg_G 14 53 = some (.isub, 0, 0, 0) := rfl
theorem st_14_53 {d : Nat} {ls t : List Value} {g : mm_M} {r : mm_R} {x y : Int32} : mm_Rn pg_G d 14 53 ls (.int y :: .int x :: t) g r ↔ mm_Rn pg_G d 14 54 ls (.int (x - y) :: t) g r := rn_isub tb_14_53 r
theorem tb_14_54 : mm_tb pg_G 14 54 = some (.invokestatic 65, 999, 0, 237) := rfl
theorem st_14_54 {d : Nat} {ls t : List Value} {g : mm_M} {r : mm_R} {x y : Int32} (hl : t.length ≤ 4) : mm_Rn pg_G (d + 1) 14 54 ls (.int y :: .int x :: t) g r ↔ mm_Rn pg_G (d + 1) 14 57 ls (.int (if x < y then y else x) :: t) g r := rn_max tb_14_54 hl r
theorem tb_14_57 : mm_tb pg_G 14 57 = some (.istore_n 3, 0, 0, 0) := rfl
theorem st_14_57 {l0 l1 l2 l3 l4 : Value} {d : Nat} {t : List Value} {g : mm_M} {r : mm_R} {x : Int32} (hc : mm_c1 l2 = true) : mm_Rn pg_G d 14 57 [l0, l1, l2, l3, l4] (.int x :: t) g r ↔ mm_Rn pg_G d 14 58 [l0, l1, l2, .int x, l4] (t) g r := rn_istore_n tb_14_57 (mm_so_of (ls := [l0, l1, l2, l3, l4]) (v := l2) (Nat.le_of_ble_eq_true rfl) rfl hc) r
theorem tb_14_58 : mm_tb pg_G 14 58 = some (.iinc 4 1, 0, 0, 0) := rfl
theorem st_14_58 {l0 l1 l2 l3 : Value} {d : Nat} {t : List Value} {g : mm_M} {r : mm_R} {x : Int32} (hc : mm_c1 l3 = true) : mm_Rn pg_G d 14 58 [l0, l1, l2, l3, .int x] (t) g r ↔ mm_Rn pg_G d 14 61 [l0, l1, l2, l3, .int (x + Int32.ofInt 1)] (t) g r := rn_iinc tb_14_58 rfl (mm_so_of (ls := [l0, l1, l2, l3, .int x]) (v := l3) (Nat.le_of_ble_eq_true rfl) rfl hc) r
theorem tb_14_61 : mm_tb pg_G 14 61 = some (.goto (-56), 5, 0, 0) := rfl
theorem st_14_61 {d : Nat} {ls t : List Value} {g : mm_M} {r : mm_R} : mm_Rn pg_G d 14 61 ls (t) g r ↔ mm_Rn pg_G d 14 5 ls (t) g r := rn_goto tb_14_61 r
theorem tb_14_64 : mm_tb pg_G 14 64 = some (.iload_n 3, 0, 0, 0) := rfl
theorem st_14_64 {l0 l1 l2 l4 : Value} {d : Nat} {t : List Value} {g : mm_M} {r : mm_R} {x : Int32} : mm_Rn pg_G d 14 64 [l0, l1, l2, .int x, l4] (t) g r ↔ mm_Rn pg_G d 14 65 [l0, l1, l2, .int x, l4] (.int x :: t) g r := rn_iload_n tb_14_64 rfl r
theorem tb_14_65 : mm_tb pg_G 14 65 = some (.ireturn, 0, 0, 0) := rfl
theorem st_14_65 {d : Nat} {ls : List Value} {g : mm_M} {r : mm_R} {x : Int32} : mm_Rn pg_G d 14 65 ls [.int x] g r ↔ r = (some (.int x), g) := rn_ireturn_iff tb_14_65 (Or.inl rfl) r
theorem tb_15_0 : mm_tb pg_G 15 0 = some (.aload_n 0, 0, 0, 0) := rfl
theorem st_15_0 {l1 : Value} {d : Nat} {t : List Value} {g : mm_M} {r : mm_R} {x : Nat} : mm_Rn pg_G d 15 0 [.ref x, l1] (t) g r ↔ mm_Rn pg_G d 15 1 [.ref x, l1] (.ref x :: t) g r := rn_aload_n tb_15_0 rfl r
theorem tb_15_1 : mm_tb pg_G 15 1 = some (.getfield 20, 3, 4, 148) := rfl
theorem st_15_1 {d : Nat} {ls t : List Value} {g : mm_M} {r : mm_R} {x : Nat} (hT : g.1 x = some (3, 10)) : mm_Rn pg_G d 15 1 ls (.ref x :: t) g r ↔ mm_Rn pg_G d 15 4 ls (g.2.1 x 4 :: t) g r := rn_getfield tb_15_1 hT r
theorem tb_15_4 : mm_tb pg_G 15 4 = some (.invokevirtual 71, 5, 1, 311) := rfl
theorem st_15_4 {d c s c' s' : Nat} {ls t : List Value} {I J : sp_I} {r : mm_R} {y : Nat} {v : Int32} (hl : t.length ≤ 4) (hT : sp_T I y = some (5, 7)) (hq : mm_Rn pg_G d 5 0 [.ref y] [] (sp_me I 0 0) (some (.int v), sp_me J c' s')) : mm_Rn pg_G (d + 1) 15 4 ls (.ref y :: t) (sp_me I c s) r ↔ mm_Rn pg_G (d + 1) 15 7 ls (.int v :: t) (sp_me J (c + c') (s + s')) r := rn_virt (g := sp_me I c s) (st := .ref y :: t) tb_15_4 (decide_eq_true hT) ⟨Nat.le_add_left _ t.length, hl, rfl⟩ hq r
theorem tb_15_7 : mm_tb pg_G 15 7 = some (.ifCond .eq 21, 28, 0, 0) := rfl
theorem st_15_7 {d : Nat} {ls t : List Value} {g : mm_M} {r : mm_R} {x : Int32} : mm_Rn pg_G d 15 7 ls (.int x :: t) g r ↔ if x = 0 then mm_Rn pg_G d 15 28 ls (t) g r else mm_Rn pg_G d 15 10 ls (t) g r := rn_if_eq tb_15_7 r
theorem tb_15_10 : mm_tb pg_G 15 10 = some (.aload_n 1, 0, 0, 0) := rfl
theorem st_15_10 {l0 : Value} {d : Nat} {t : List Value} {g : mm_M} {r : mm_R} {x : Nat} : mm_Rn pg_G d 15 10 [l0, .ref x] (t) g r ↔ mm_Rn pg_G d 15 11 [l0, .ref x] (.ref x :: t) g r := rn_aload_n tb_15_10 rfl r
theorem tb_15_11 : mm_tb pg_G 15 11 = some (.aload_n 0, 0, 0, 0) := rfl
theorem st_15_11 {l1 : Value} {d : Nat} {t : List Value} {g : mm_M} {r : mm_R} {x : Nat} : mm_Rn pg_G d 15 11 [.ref x, l1] (t) g r ↔ mm_Rn pg_G d 15 12 [.ref x, l1] (.ref x :: t) g r := rn_aload_n tb_15_11 rfl r
theorem tb_15_12 : mm_tb pg_G 15 12 = some (.getfield 20, 3, 4, 148) := rfl
theorem st_15_12 {d : Nat} {ls t : List Value} {g : mm_M} {r : mm_R} {x : Nat} (hT : g.1 x = some (3, 10)) : mm_Rn pg_G d 15 12 ls (.ref x :: t) g r ↔ mm_Rn pg_G d 15 15 ls (g.2.1 x 4 :: t) g r := rn_getfield tb_15_12 hT r
theorem tb_15_15 : mm_tb pg_G 15 15 = some (.getfield 75, 5, 2, 127) := rfl
theorem st_15_15 {d : Nat} {ls t : List Value} {g : mm_M} {r : mm_R} {x : Nat} (hT : g.1 x = some (5, 7)) : mm_Rn pg_G d 15 15 ls (.ref x :: t) g r ↔ mm_Rn pg_G d 15 18 ls (g.2.1 x 2 :: t) g r := rn_getfield tb_15_15 hT r
theorem tb_15_18 : mm_tb pg_G 15 18 = some (.invokevirtual 78, 2, 2, 312) := rfl
theorem st_15_18 {d c s c' s' : Nat} {ls t : List Value} {I J : sp_I} {r : mm_R} {a0 : Int32} {y : Nat} {v : Int32} (hl : t.length ≤ 4) (hT : sp_T I y = some (4, 3)) (hq : mm_Rn pg_G d 2 0 [.ref y, .int a0] [] (sp_me I 0 0) (some (.int v), sp_me J c' s')) : mm_Rn pg_G (d + 1) 15 18 ls (.int a0 :: .ref y :: t) (sp_me I c s) r ↔ mm_Rn pg_G (d + 1) 15 21 ls (.int v :: t) (sp_me J (c + c') (s + s')) r := rn_virt (g := sp_me I c s) (st := .int a0 :: .ref y :: t) tb_15_18 (decide_eq_true hT) ⟨Nat.le_add_left _ t.length, hl, rfl⟩ hq r
theorem tb_15_21 : mm_tb pg_G 15 21 = some (.ifCond .eq 7, 28, 0, 0) := rfl
theorem st_15_21 {d : Nat} {ls t : List Value} {g : mm_M} {r : mm_R} {x : Int32} : mm_Rn pg_G d 15 21 ls (.int x :: t) g r ↔ if x = 0 then mm_Rn pg_G d 15 28 ls (t) g r else mm_Rn pg_G d 15 24 ls (t) g r := rn_if_eq tb_15_21 r
theorem tb_15_24 : mm_tb pg_G 15 24 = some (.iconst 1, 0, 0, 0) := rfl
theorem st_15_24 {d : Nat} {ls t : List Value} {g : mm_M} {r : mm_R} : mm_Rn pg_G d 15 24 ls (t) g r ↔ mm_Rn pg_G d 15 25 ls (io_v 1 :: t) g r := rn_iconst tb_15_24 r
theorem tb_15_25 : mm_tb pg_G 15 25 = some (.goto 4, 29, 0, 0) := rfl
theorem st_15_25 {d : Nat} {ls t : List Value} {g : mm_M} {r : mm_R} : mm_Rn pg_G d 15 25 ls (t) g r ↔ mm_Rn pg_G d 15 29 ls (t) g r := rn_goto tb_15_25 r
theorem tb_15_28 : mm_tb pg_G 15 28 = some (.iconst 0, 0, 0, 0) := rfl
theorem st_15_28 {d : Nat} {ls t : List Value} {g : mm_M} {r : mm_R} : mm_Rn pg_G d 15 28 ls (t) g r ↔ mm_Rn pg_G d 15 29 ls (io_v 0 :: t) g r := rn_iconst tb_15_28 r
theorem tb_15_29 : mm_tb pg_G 15 29 = some (.ireturn, 0, 0, 0) := rfl
theorem st_15_29 {d : Nat} {ls : List Value} {g : mm_M} {r : mm_R} {x : Int32} (hb : x = 0 ∨ x = 1) : mm_Rn pg_G d 15 29 ls [.int x] g r ↔ r = (some (.int x), g) := rn_ireturn_iff tb_15_29 (Or.inr ⟨rfl, hb⟩) r
theorem tb_16_0 : mm_tb pg_G 16 0 = some (.iconst 0, 0, 0, 0) := rfl
theorem st_16_0 {d : Nat} {ls t : List Value} {g : mm_M} {r : mm_R} : mm_Rn pg_G d 16 0 ls (t) g r ↔ mm_Rn pg_G d 16 1 ls (io_v 0 :: t) g r := rn_iconst tb_16_0 r
theorem tb_16_1 : mm_tb pg_G 16 1 = some (.istore_n 2, 0, 0, 0) := rfl
theorem st_16_1 {l0 l1 l2 : Value} {d : Nat} {t : List Value} {g : mm_M} {r : mm_R} {x : Int32} (hc : mm_c1 l1 = true) : mm_Rn pg_G d 16 1 [l0, l1, l2] (.int x :: t) g r ↔ mm_Rn pg_G d 16 2 [l0, l1, .int x] (t) g r := rn_istore_n tb_16_1 (mm_so_of (ls := [l0, l1, l2]) (v := l1) (Nat.le_of_ble_eq_true rfl) rfl hc) r
theorem tb_16_2 : mm_tb pg_G 16 2 = some (.iload_n 2, 0, 0, 0) := rfl
theorem st_16_2 {l0 l1 : Value} {d : Nat} {t : List Value} {g : mm_M} {r : mm_R} {x : Int32} : mm_Rn pg_G d 16 2 [l0, l1, .int x] (t) g r ↔ mm_Rn pg_G d 16 3 [l0, l1, .int x] (.int x :: t) g r := rn_iload_n tb_16_2 rfl r
theorem tb_16_3 : mm_tb pg_G 16 3 = some (.aload_n 0, 0, 0, 0) := rfl
theorem st_16_3 {l1 l2 : Value} {d : Nat} {t : List Value} {g : mm_M} {r : mm_R} {x : Nat} : mm_Rn pg_G d 16 3 [.ref x, l1, l2] (t) g r ↔ mm_Rn pg_G d 16 4 [.ref x, l1, l2] (.ref x :: t) g r := rn_aload_n tb_16_3 rfl r
theorem tb_16_4 : mm_tb pg_G 16 4 = some (.getfield 24, 3, 5, 150) := rfl
theorem st_16_4 {d : Nat} {ls t : List Value} {g : mm_M} {r : mm_R} {x : Nat} (hT : g.1 x = some (3, 10)) : mm_Rn pg_G d 16 4 ls (.ref x :: t) g r ↔ mm_Rn pg_G d 16 7 ls (g.2.1 x 5 :: t) g r := rn_getfield tb_16_4 hT r
theorem tb_16_7 : mm_tb pg_G 16 7 = some (.if_icmp .ge 37, 44, 0, 0) := rfl
theorem st_16_7 {d : Nat} {ls t : List Value} {g : mm_M} {r : mm_R} {x y : Int32} : mm_Rn pg_G d 16 7 ls (.int y :: .int x :: t) g r ↔ if y ≤ x then mm_Rn pg_G d 16 44 ls (t) g r else mm_Rn pg_G d 16 10 ls (t) g r := rn_icmp_ge tb_16_7 r
theorem tb_16_10 : mm_tb pg_G 16 10 = some (.aload_n 0, 0, 0, 0) := rfl
theorem st_16_10 {l1 l2 : Value} {d : Nat} {t : List Value} {g : mm_M} {r : mm_R} {x : Nat} : mm_Rn pg_G d 16 10 [.ref x, l1, l2] (t) g r ↔ mm_Rn pg_G d 16 11 [.ref x, l1, l2] (.ref x :: t) g r := rn_aload_n tb_16_10 rfl r
theorem tb_16_11 : mm_tb pg_G 16 11 = some (.getfield 11, 3, 3, 147) := rfl
theorem st_16_11 {d : Nat} {ls t : List Value} {g : mm_M} {r : mm_R} {x : Nat} (hT : g.1 x = some (3, 10)) : mm_Rn pg_G d 16 11 ls (.ref x :: t) g r ↔ mm_Rn pg_G d 16 14 ls (g.2.1 x 3 :: t) g r := rn_getfield tb_16_11 hT r
theorem tb_16_14 : mm_tb pg_G 16 14 = some (.iload_n 2, 0, 0, 0) := rfl
theorem st_16_14 {l0 l1 : Value} {d : Nat} {t : List Value} {g : mm_M} {r : mm_R} {x : Int32} : mm_Rn pg_G d 16 14 [l0, l1, .int x] (t) g r ↔ mm_Rn pg_G d 16 15 [l0, l1, .int x] (.int x :: t) g r := rn_iload_n tb_16_14 rfl r
theorem tb_16_15 : mm_tb pg_G 16 15 = some (.aaload, 0, 0, 0) := rfl
theorem st_16_15 {d : Nat} {ls t : List Value} {g : mm_M} {r : mm_R} {x : Nat} {j : Int32} (hc : mm_in (g.1 x) 102 103 j = true) : mm_Rn pg_G d 16 15 ls (.int j :: .ref x :: t) g r ↔ mm_Rn pg_G d 16 16 ls (g.2.1 x j.toNatClampNeg :: t) g r := rn_aaload tb_16_15 hc r
theorem tb_16_16 : mm_tb pg_G 16 16 = some (.getfield 56, 4, 0, 196) := rfl
theorem st_16_16 {d : Nat} {ls t : List Value} {g : mm_M} {r : mm_R} {x : Nat} (hT : g.1 x = some (4, 3)) : mm_Rn pg_G d 16 16 ls (.ref x :: t) g r ↔ mm_Rn pg_G d 16 19 ls (g.2.1 x 0 :: t) g r := rn_getfield tb_16_16 hT r
theorem tb_16_19 : mm_tb pg_G 16 19 = some (.iload_n 1, 0, 0, 0) := rfl
theorem st_16_19 {l0 l2 : Value} {d : Nat} {t : List Value} {g : mm_M} {r : mm_R} {x : Int32} : mm_Rn pg_G d 16 19 [l0, .int x, l2] (t) g r ↔ mm_Rn pg_G d 16 20 [l0, .int x, l2] (.int x :: t) g r := rn_iload_n tb_16_19 rfl r
theorem tb_16_20 : mm_tb pg_G 16 20 = some (.if_icmp .ne 18, 38, 0, 0) := rfl
theorem st_16_20 {d : Nat} {ls t : List Value} {g : mm_M} {r : mm_R} {x y : Int32} : mm_Rn pg_G d 16 20 ls (.int y :: .int x :: t) g r ↔ if x = y then mm_Rn pg_G d 16 23 ls (t) g r else mm_Rn pg_G d 16 38 ls (t) g r := rn_icmp_ne tb_16_20 r
theorem tb_16_23 : mm_tb pg_G 16 23 = some (.aload_n 0, 0, 0, 0) := rfl
theorem st_16_23 {l1 l2 : Value} {d : Nat} {t : List Value} {g : mm_M} {r : mm_R} {x : Nat} : mm_Rn pg_G d 16 23 [.ref x, l1, l2] (t) g r ↔ mm_Rn pg_G d 16 24 [.ref x, l1, l2] (.ref x :: t) g r := rn_aload_n tb_16_23 rfl r
theorem tb_16_24 : mm_tb pg_G 16 24 = some (.aload_n 0, 0, 0, 0) := rfl
theorem st_16_24 {l1 l2 : Value} {d : Nat} {t : List Value} {g : mm_M} {r : mm_R} {x : Nat} : mm_Rn pg_G d 16 24 [.ref x, l1, l2] (t) g r ↔ mm_Rn pg_G d 16 25 [.ref x, l1, l2] (.ref x :: t) g r := rn_aload_n tb_16_24 rfl r
theorem tb_16_25 : mm_tb pg_G 16 25 = some (.getfield 11, 3, 3, 147) := rfl
theorem st_16_25 {d : Nat} {ls t : List Value} {g : mm_M} {r : mm_R} {x : Nat} (hT : g.1 x = some (3, 10)) : mm_Rn pg_G d 16 25 ls (.ref x :: t) g r ↔ mm_Rn pg_G d 16 28 ls (g.2.1 x 3 :: t) g r := rn_getfield tb_16_25 hT r
theorem tb_16_28 : mm_tb pg_G 16 28 = some (.iload_n 2, 0, 0, 0) := rfl
theorem st_16_28 {l0 l1 : Value} {d : Nat} {t : List Value} {g : mm_M} {r : mm_R} {x : Int32} : mm_Rn pg_G d 16 28 [l0, l1, .int x] (t) g r ↔ mm_Rn pg_G d 16 29 [l0, l1, .int x] (.int x :: t) g r := rn_iload_n tb_16_28 rfl r
theorem tb_16_29 : mm_tb pg_G 16 29 = some (.aaload, 0, 0, 0) := rfl
theorem st_16_29 {d : Nat} {ls t : List Value} {g : mm_M} {r : mm_R} {x : Nat} {j : Int32} (hc : mm_in (g.1 x) 102 103 j = true) : mm_Rn pg_G d 16 29 ls (.int j :: .ref x :: t) g r ↔ mm_Rn pg_G d 16 30 ls (g.2.1 x j.toNatClampNeg :: t) g r := rn_aaload tb_16_29 hc r
theorem tb_16_30 : mm_tb pg_G 16 30 = some (.invokevirtual 82, 15, 2, 307) := rfl
theorem st_16_30 {d c s c' s' : Nat} {ls t : List Value} {I J : sp_I} {r : mm_R} {y a0 : Nat} {v : Int32} (hl : t.length ≤ 4) (hT : sp_T I y = some (3, 10)) (hq : mm_Rn pg_G d 15 0 [.ref y, .ref a0] [] (sp_me I 0 0) (some (.int v), sp_me J c' s')) : mm_Rn pg_G (d + 1) 16 30 ls (.ref a0 :: .ref y :: t) (sp_me I c s) r ↔ mm_Rn pg_G (d + 1) 16 33 ls (.int v :: t) (sp_me J (c + c') (s + s')) r := rn_virt (g := sp_me I c s) (st := .ref a0 :: .ref y :: t) tb_16_30 (decide_eq_true hT) ⟨Nat.le_add_left _ t.length, hl, rfl⟩ hq r
theorem tb_16_33 : mm_tb pg_G 16 33 = some (.ifCond .eq 5, 38, 0, 0) := rfl
theorem st_16_33 {d : Nat} {ls t : List Value} {g : mm_M} {r : mm_R} {x : Int32} : mm_Rn pg_G d 16 33 ls (.int x :: t) g r ↔ if x = 0 then mm_Rn pg_G d 16 38 ls (t) g r else mm_Rn pg_G d 16 36 ls (t) g r := rn_if_eq tb_16_33 r
theorem tb_16_36 : mm_tb pg_G 16 36 = some (.iconst 1, 0, 0, 0) := rfl
theorem st_16_36 {d : Nat} {ls t : List Value} {g : mm_M} {r : mm_R} : mm_Rn pg_G d 16 36 ls (t) g r ↔ mm_Rn pg_G d 16 37 ls (io_v 1 :: t) g r := rn_iconst tb_16_36 r
theorem tb_16_37 : mm_tb pg_G 16 37 = some (.ireturn, 0, 0, 0) := rfl
theorem st_16_37 {d : Nat} {ls : List Value} {g : mm_M} {r : mm_R} {x : Int32} (hb : x = 0 ∨ x = 1) : mm_Rn pg_G d 16 37 ls [.int x] g r ↔ r = (some (.int x), g) := rn_ireturn_iff tb_16_37 (Or.inr ⟨rfl, hb⟩) r
theorem tb_16_38 : mm_tb pg_G 16 38 = some (.iinc 2 1, 0, 0, 0) := rfl
theorem st_16_38 {l0 l1 : Value} {d : Nat} {t : List Value} {g : mm_M} {r : mm_R} {x : Int32} (hc : mm_c1 l1 = true) : mm_Rn pg_G d 16 38 [l0, l1, .int x] (t) g r ↔ mm_Rn pg_G d 16 41 [l0, l1, .int (x + Int32.ofInt 1)] (t) g r := rn_iinc tb_16_38 rfl (mm_so_of (ls := [l0, l1, .int x]) (v := l1) (Nat.le_of_ble_eq_true rfl) rfl hc) r
theorem tb_16_41 : mm_tb pg_G 16 41 = some (.goto (-39), 2, 0, 0) := rfl
theorem st_16_41 {d : Nat} {ls t : List Value} {g : mm_M} {r : mm_R} : mm_Rn pg_G d 16 41 ls (t) g r ↔ mm_Rn pg_G d 16 2 ls (t) g r := rn_goto tb_16_41 r
theorem tb_16_44 : mm_tb pg_G 16 44 = some (.iconst 0, 0, 0, 0) := rfl
theorem st_16_44 {d : Nat} {ls t : List Value} {g : mm_M} {r : mm_R} : mm_Rn pg_G d 16 44 ls (t) g r ↔ mm_Rn pg_G d 16 45 ls (io_v 0 :: t) g r := rn_iconst tb_16_44 r
theorem tb_16_45 : mm_tb pg_G 16 45 = some (.ireturn, 0, 0, 0) := rfl
theorem st_16_45 {d : Nat} {ls : List Value} {g : mm_M} {r : mm_R} {x : Int32} (hb : x = 0 ∨ x = 1) : mm_Rn pg_G d 16 45 ls [.int x] g r ↔ r = (some (.int x), g) := rn_ireturn_iff tb_16_45 (Or.inr ⟨rfl, hb⟩) r
theorem tb_17_0 : mm_tb pg_G 17 0 = some (.iconst 0, 0, 0, 0) := rfl
theorem st_17_0 {d : Nat} {ls t : List Value} {g : mm_M} {r : mm_R} : mm_Rn pg_G d 17 0 ls (t) g r ↔ mm_Rn pg_G d 17 1 ls (io_v 0 :: t) g r := rn_iconst tb_17_0 r
theorem tb_17_1 : mm_tb pg_G 17 1 = some (.istore_n 1, 0, 0, 0) := rfl
theorem st_17_1 {l0 l1 : Value} {d : Nat} {t : List Value} {g : mm_M} {r : mm_R} {x : Int32} (hc : mm_c1 l0 = true) : mm_Rn pg_G d 17 1 [l0, l1] (.int x :: t) g r ↔ mm_Rn pg_G d 17 2 [l0, .int x] (t) g r := rn_istore_n tb_17_1 (mm_so_of (ls := [l0, l1]) (v := l0) (Nat.le_of_ble_eq_true rfl) rfl hc) r
theorem tb_17_2 : mm_tb pg_G 17 2 = some (.iload_n 1, 0, 0, 0) := rfl
theorem st_17_2 {l0 : Value} {d : Nat} {t : List Value} {g : mm_M} {r : mm_R} {x : Int32} : mm_Rn pg_G d 17 2 [l0, .int x] (t) g r ↔ mm_Rn pg_G d 17 3 [l0, .int x] (.int x :: t) g r := rn_iload_n tb_17_2 rfl r
theorem tb_17_3 : mm_tb pg_G 17 3 = some (.aload_n 0, 0, 0, 0) := rfl
theorem st_17_3 {l1 : Value} {d : Nat} {t : List Value} {g : mm_M} {r : mm_R} {x : Nat} : mm_Rn pg_G d 17 3 [.ref x, l1] (t) g r ↔ mm_Rn pg_G d 17 4 [.ref x, l1] (.ref x :: t) g r := rn_aload_n tb_17_3 rfl r
theorem tb_17_4 : mm_tb pg_G 17 4 = some (.getfield 24, 3, 5, 150) := rfl
theorem st_17_4 {d : Nat} {ls t : List Value} {g : mm_M} {r : mm_R} {x : Nat} (hT : g.1 x = some (3, 10)) : mm_Rn pg_G d 17 4 ls (.ref x :: t) g r ↔ mm_Rn pg_G d 17 7 ls (g.2.1 x 5 :: t) g r := rn_getfield tb_17_4 hT r
theorem tb_17_7 : mm_tb pg_G 17 7 = some (.if_icmp .ge 24, 31, 0, 0) := rfl
theorem st_17_7 {d : Nat} {ls t : List Value} {g : mm_M} {r : mm_R} {x y : Int32} : mm_Rn pg_G d 17 7 ls (.int y :: .int x :: t) g r ↔ if y ≤ x then mm_Rn pg_G d 17 31 ls (t) g r else mm_Rn pg_G d 17 10 ls (t) g r := rn_icmp_ge tb_17_7 r
theorem tb_17_10 : mm_tb pg_G 17 10 = some (.aload_n 0, 0, 0, 0) := rfl
theorem st_17_10 {l1 : Value} {d : Nat} {t : List Value} {g : mm_M} {r : mm_R} {x : Nat} : mm_Rn pg_G d 17 10 [.ref x, l1] (t) g r ↔ mm_Rn pg_G d 17 11 [.ref x, l1] (.ref x :: t) g r := rn_aload_n tb_17_10 rfl r
theorem tb_17_11 : mm_tb pg_G 17 11 = some (.aload_n 0, 0, 0, 0) := rfl
theorem st_17_11 {l1 : Value} {d : Nat} {t : List Value} {g : mm_M} {r : mm_R} {x : Nat} : mm_Rn pg_G d 17 11 [.ref x, l1] (t) g r ↔ mm_Rn pg_G d 17 12 [.ref x, l1] (.ref x :: t) g r := rn_aload_n tb_17_11 rfl r
theorem tb_17_12 : mm_tb pg_G 17 12 = some (.getfield 11, 3, 3, 147) := rfl
theorem st_17_12 {d : Nat} {ls t : List Value} {g : mm_M} {r : mm_R} {x : Nat} (hT : g.1 x = some (3, 10)) : mm_Rn pg_G d 17 12 ls (.ref x :: t) g r ↔ mm_Rn pg_G d 17 15 ls (g.2.1 x 3 :: t) g r := rn_getfield tb_17_12 hT r
theorem tb_17_15 : mm_tb pg_G 17 15 = some (.iload_n 1, 0, 0, 0) := rfl
theorem st_17_15 {l0 : Value} {d : Nat} {t : List Value} {g : mm_M} {r : mm_R} {x : Int32} : mm_Rn pg_G d 17 15 [l0, .int x] (t) g r ↔ mm_Rn pg_G d 17 16 [l0, .int x] (.int x :: t) g r := rn_iload_n tb_17_15 rfl r
theorem tb_17_16 : mm_tb pg_G 17 16 = some (.aaload, 0, 0, 0) := rfl
theorem st_17_16 {d : Nat} {ls t : List Value} {g : mm_M} {r : mm_R} {x : Nat} {j : Int32} (hc : mm_in (g.1 x) 102 103 j = true) : mm_Rn pg_G d 17 16 ls (.int j :: .ref x :: t) g r ↔ mm_Rn pg_G d 17 17 ls (g.2.1 x j.toNatClampNeg :: t) g r := rn_aaload tb_17_16 hc r
theorem tb_17_17 : mm_tb pg_G 17 17 = some (.invokevirtual 82, 15, 2, 307) := rfl
theorem st_17_17 {d c s c' s' : Nat} {ls t : List Value} {I J : sp_I} {r : mm_R} {y a0 : Nat} {v : Int32} (hl : t.length ≤ 4) (hT : sp_T I y = some (3, 10)) (hq : mm_Rn pg_G d 15 0 [.ref y, .ref a0] [] (sp_me I 0 0) (some (.int v), sp_me J c' s')) : mm_Rn pg_G (d + 1) 17 17 ls (.ref a0 :: .ref y :: t) (sp_me I c s) r ↔ mm_Rn pg_G (d + 1) 17 20 ls (.int v :: t) (sp_me J (c + c') (s + s')) r := rn_virt (g := sp_me I c s) (st := .ref a0 :: .ref y :: t) tb_17_17 (decide_eq_true hT) ⟨Nat.le_add_left _ t.length, hl, rfl⟩ hq r
theorem tb_17_20 : mm_tb pg_G 17 20 = some (.ifCond .eq 5, 25, 0, 0) := rfl
theorem st_17_20 {d : Nat} {ls t : List Value} {g : mm_M} {r : mm_R} {x : Int32} : mm_Rn pg_G d 17 20 ls (.int x :: t) g r ↔ if x = 0 then mm_Rn pg_G d 17 25 ls (t) g r else mm_Rn pg_G d 17 23 ls (t) g r := rn_if_eq tb_17_20 r
theorem tb_17_23 : mm_tb pg_G 17 23 = some (.iconst 1, 0, 0, 0) := rfl
theorem st_17_23 {d : Nat} {ls t : List Value} {g : mm_M} {r : mm_R} : mm_Rn pg_G d 17 23 ls (t) g r ↔ mm_Rn pg_G d 17 24 ls (io_v 1 :: t) g r := rn_iconst tb_17_23 r
theorem tb_17_24 : mm_tb pg_G 17 24 = some (.ireturn, 0, 0, 0) := rfl
theorem st_17_24 {d : Nat} {ls : List Value} {g : mm_M} {r : mm_R} {x : Int32} (hb : x = 0 ∨ x = 1) : mm_Rn pg_G d 17 24 ls [.int x] g r ↔ r = (some (.int x), g) := rn_ireturn_iff tb_17_24 (Or.inr ⟨rfl, hb⟩) r
theorem tb_17_25 : mm_tb pg_G 17 25 = some (.iinc 1 1, 0, 0, 0) := rfl
theorem st_17_25 {l0 : Value} {d : Nat} {t : List Value} {g : mm_M} {r : mm_R} {x : Int32} (hc : mm_c1 l0 = true) : mm_Rn pg_G d 17 25 [l0, .int x] (t) g r ↔ mm_Rn pg_G d 17 28 [l0, .int (x + Int32.ofInt 1)] (t) g r := rn_iinc tb_17_25 rfl (mm_so_of (ls := [l0, .int x]) (v := l0) (Nat.le_of_ble_eq_true rfl) rfl hc) r
theorem tb_17_28 : mm_tb pg_G 17 28 = some (.goto (-26), 2, 0, 0) := rfl
theorem st_17_28 {d : Nat} {ls t : List Value} {g : mm_M} {r : mm_R} : mm_Rn pg_G d 17 28 ls (t) g r ↔ mm_Rn pg_G d 17 2 ls (t) g r := rn_goto tb_17_28 r
theorem tb_17_31 : mm_tb pg_G 17 31 = some (.iconst 0, 0, 0, 0) := rfl
theorem st_17_31 {d : Nat} {ls t : List Value} {g : mm_M} {r : mm_R} : mm_Rn pg_G d 17 31 ls (t) g r ↔ mm_Rn pg_G d 17 32 ls (io_v 0 :: t) g r := rn_iconst tb_17_31 r
theorem tb_17_32 : mm_tb pg_G 17 32 = some (.ireturn, 0, 0, 0) := rfl
theorem st_17_32 {d : Nat} {ls : List Value} {g : mm_M} {r : mm_R} {x : Int32} (hb : x = 0 ∨ x = 1) : mm_Rn pg_G d 17 32 ls [.int x] g r ↔ r = (some (.int x), g) := rn_ireturn_iff tb_17_32 (Or.inr ⟨rfl, hb⟩) r
