/-! a row an instruction of the program -/
theorem tb_33_0 : mm_tb pg_G 33 0 = some (.iconst 1, 0, 0, 0) := rfl
theorem st_33_0 {d : Nat} {ls t : List Value} {g : mm_M} {r : mm_R} : mm_Rn pg_G d 33 0 ls (t) g r ↔ mm_Rn pg_G d 33 1 ls (io_v 1 :: t) g r := rn_iconst tb_33_0 r
theorem tb_33_1 : mm_tb pg_G 33 1 = some (.iload_n 3, 0, 0, 0) := rfl
theorem st_33_1 {l0 l1 l2 l4 : Value} {d : Nat} {t : List Value} {g : mm_M} {r : mm_R} {x : Int32} : mm_Rn pg_G d 33 1 [l0, l1, l2, .int x, l4] (t) g r ↔ mm_Rn pg_G d 33 2 [l0, l1, l2, .int x, l4] (.int x :: t) g r := rn_iload_n tb_33_1 rfl r
theorem tb_33_2 : mm_tb pg_G 33 2 = some (.if_icmp .gt 23, 25, 0, 0) := rfl
theorem st_33_2 {d : Nat} {ls t : List Value} {g : mm_M} {r : mm_R} {x y : Int32} : mm_Rn pg_G d 33 2 ls (.int y :: .int x :: t) g r ↔ if y < x then mm_Rn pg_G d 33 25 ls (t) g r else mm_Rn pg_G d 33 5 ls (t) g r := rn_icmp_gt tb_33_2 r
theorem tb_33_5 : mm_tb pg_G 33 5 = some (.iload_n 3, 0, 0, 0) := rfl
theorem st_33_5 {l0 l1 l2 l4 : Value} {d : Nat} {t : List Value} {g : mm_M} {r : mm_R} {x : Int32} : mm_Rn pg_G d 33 5 [l0, l1, l2, .int x, l4] (t) g r ↔ mm_Rn pg_G d 33 6 [l0, l1, l2, .int x, l4] (.int x :: t) g r := rn_iload_n tb_33_5 rfl r
theorem tb_33_6 : mm_tb pg_G 33 6 = some (.iload_n 2, 0, 0, 0) := rfl
theorem st_33_6 {l0 l1 l3 l4 : Value} {d : Nat} {t : List Value} {g : mm_M} {r : mm_R} {x : Int32} : mm_Rn pg_G d 33 6 [l0, l1, .int x, l3, l4] (t) g r ↔ mm_Rn pg_G d 33 7 [l0, l1, .int x, l3, l4] (.int x :: t) g r := rn_iload_n tb_33_6 rfl r
theorem tb_33_7 : mm_tb pg_G 33 7 = some (.if_icmp .gt 18, 25, 0, 0) := rfl
theorem st_33_7 {d : Nat} {ls t : List Value} {g : mm_M} {r : mm_R} {x y : Int32} : mm_Rn pg_G d 33 7 ls (.int y :: .int x :: t) g r ↔ if y < x then mm_Rn pg_G d 33 25 ls (t) g r else mm_Rn pg_G d 33 10 ls (t) g r := rn_icmp_gt tb_33_7 r
theorem tb_33_10 : mm_tb pg_G 33 10 = some (.iload_n 2, 0, 0, 0) := rfl
theorem st_33_10 {l0 l1 l3 l4 : Value} {d : Nat} {t : List Value} {g : mm_M} {r : mm_R} {x : Int32} : mm_Rn pg_G d 33 10 [l0, l1, .int x, l3, l4] (t) g r ↔ mm_Rn pg_G d 33 11 [l0, l1, .int x, l3, l4] (.int x :: t) g r := rn_iload_n tb_33_10 rfl r
theorem tb_33_11 : mm_tb pg_G 33 11 = some (.iload_n 1, 0, 0, 0) := rfl
theorem st_33_11 {l0 l2 l3 l4 : Value} {d : Nat} {t : List Value} {g : mm_M} {r : mm_R} {x : Int32} : mm_Rn pg_G d 33 11 [l0, .int x, l2, l3, l4] (t) g r ↔ mm_Rn pg_G d 33 12 [l0, .int x, l2, l3, l4] (.int x :: t) g r := rn_iload_n tb_33_11 rfl r
theorem tb_33_12 : mm_tb pg_G 33 12 = some (.if_icmp .gt 13, 25, 0, 0) := rfl
theorem st_33_12 {d : Nat} {ls t : List Value} {g : mm_M} {r : mm_R} {x y : Int32} : mm_Rn pg_G d 33 12 ls (.int y :: .int x :: t) g r ↔ if y < x then mm_Rn pg_G d 33 25 ls (t) g r else mm_Rn pg_G d 33 15 ls (t) g r := rn_icmp_gt tb_33_12 r
theorem tb_33_15 : mm_tb pg_G 33 15 = some (.iload_n 1, 0, 0, 0) := rfl
theorem st_33_15 {l0 l2 l3 l4 : Value} {d : Nat} {t : List Value} {g : mm_M} {r : mm_R} {x : Int32} : mm_Rn pg_G d 33 15 [l0, .int x, l2, l3, l4] (t) g r ↔ mm_Rn pg_G d 33 16 [l0, .int x, l2, l3, l4] (.int x :: t) g r := rn_iload_n tb_33_15 rfl r
theorem tb_33_16 : mm_tb pg_G 33 16 = some (.bipush 100, 0, 0, 0) := rfl
theorem st_33_16 {d : Nat} {ls t : List Value} {g : mm_M} {r : mm_R} : mm_Rn pg_G d 33 16 ls (t) g r ↔ mm_Rn pg_G d 33 18 ls (io_v 100 :: t) g r := rn_bipush tb_33_16 r
theorem tb_33_18 : mm_tb pg_G 33 18 = some (.if_icmp .gt 7, 25, 0, 0) := rfl
theorem st_33_18 {d : Nat} {ls t : List Value} {g : mm_M} {r : mm_R} {x y : Int32} : mm_Rn pg_G d 33 18 ls (.int y :: .int x :: t) g r ↔ if y < x then mm_Rn pg_G d 33 25 ls (t) g r else mm_Rn pg_G d 33 21 ls (t) g r := rn_icmp_gt tb_33_18 r
theorem tb_33_21 : mm_tb pg_G 33 21 = some (.iconst 1, 0, 0, 0) := rfl
theorem st_33_21 {d : Nat} {ls t : List Value} {g : mm_M} {r : mm_R} : mm_Rn pg_G d 33 21 ls (t) g r ↔ mm_Rn pg_G d 33 22 ls (io_v 1 :: t) g r := rn_iconst tb_33_21 r
theorem tb_33_22 : mm_tb pg_G 33 22 = some (.goto 4, 26, 0, 0) := rfl
theorem st_33_22 {d : Nat} {ls t : List Value} {g : mm_M} {r : mm_R} : mm_Rn pg_G d 33 22 ls (t) g r ↔ mm_Rn pg_G d 33 26 ls (t) g r := rn_goto tb_33_22 r
theorem tb_33_25 : mm_tb pg_G 33 25 = some (.iconst 0, 0, 0, 0) := rfl
theorem st_33_25 {d : Nat} {ls t : List Value} {g : mm_M} {r : mm_R} : mm_Rn pg_G d 33 25 ls (t) g r ↔ mm_Rn pg_G d 33 26 ls (io_v 0 :: t) g r := rn_iconst tb_33_25 r
theorem tb_33_26 : mm_tb pg_G 33 26 = some (.istore 4, 0, 0, 0) := rfl
theorem st_33_26 {l0 l1 l2 l3 l4 : Value} {d : Nat} {t : List Value} {g : mm_M} {r : mm_R} {x : Int32} (hc : mm_c1 l3 = true) : mm_Rn pg_G d 33 26 [l0, l1, l2, l3, l4] (.int x :: t) g r ↔ mm_Rn pg_G d 33 28 [l0, l1, l2, l3, .int x] (t) g r := rn_istore tb_33_26 (mm_so_of (ls := [l0, l1, l2, l3, l4]) (v := l3) (Nat.le_of_ble_eq_true rfl) rfl hc) r
theorem tb_33_28 : mm_tb pg_G 33 28 = some (.aload_n 0, 0, 0, 0) := rfl
theorem st_33_28 {l1 l2 l3 l4 : Value} {d : Nat} {t : List Value} {g : mm_M} {r : mm_R} {x : Nat} : mm_Rn pg_G d 33 28 [.ref x, l1, l2, l3, l4] (t) g r ↔ mm_Rn pg_G d 33 29 [.ref x, l1, l2, l3, l4] (.ref x :: t) g r := rn_aload_n tb_33_28 rfl r
theorem tb_33_29 : mm_tb pg_G 33 29 = some (.getfield 37, 0, 5, 98) := rfl
theorem st_33_29 {d : Nat} {ls t : List Value} {g : mm_M} {r : mm_R} {x : Nat} (hT : g.1 x = some (0, 8)) : mm_Rn pg_G d 33 29 ls (.ref x :: t) g r ↔ mm_Rn pg_G d 33 32 ls (g.2.1 x 5 :: t) g r := rn_getfield tb_33_29 hT r
theorem tb_33_32 : mm_tb pg_G 33 32 = some (.ifCond .ne 17, 49, 0, 0) := rfl
theorem st_33_32 {d : Nat} {ls t : List Value} {g : mm_M} {r : mm_R} {x : Int32} : mm_Rn pg_G d 33 32 ls (.int x :: t) g r ↔ if x = 0 then mm_Rn pg_G d 33 35 ls (t) g r else mm_Rn pg_G d 33 49 ls (t) g r := rn_if_ne tb_33_32 r
theorem tb_33_35 : mm_tb pg_G 33 35 = some (.aload_n 0, 0, 0, 0) := rfl
theorem st_33_35 {l1 l2 l3 l4 : Value} {d : Nat} {t : List Value} {g : mm_M} {r : mm_R} {x : Nat} : mm_Rn pg_G d 33 35 [.ref x, l1, l2, l3, l4] (t) g r ↔ mm_Rn pg_G d 33 36 [.ref x, l1, l2, l3, l4] (.ref x :: t) g r := rn_aload_n tb_33_35 rfl r
theorem tb_33_36 : mm_tb pg_G 33 36 = some (.getfield 33, 0, 4, 97) := rfl
theorem st_33_36 {d : Nat} {ls t : List Value} {g : mm_M} {r : mm_R} {x : Nat} (hT : g.1 x = some (0, 8)) : mm_Rn pg_G d 33 36 ls (.ref x :: t) g r ↔ mm_Rn pg_G d 33 39 ls (g.2.1 x 4 :: t) g r := rn_getfield tb_33_36 hT r
theorem tb_33_39 : mm_tb pg_G 33 39 = some (.bipush 6, 0, 0, 0) := rfl
theorem st_33_39 {d : Nat} {ls t : List Value} {g : mm_M} {r : mm_R} : mm_Rn pg_G d 33 39 ls (t) g r ↔ mm_Rn pg_G d 33 41 ls (io_v 6 :: t) g r := rn_bipush tb_33_39 r
theorem tb_33_41 : mm_tb pg_G 33 41 = some (.if_icmp .eq 8, 49, 0, 0) := rfl
theorem st_33_41 {d : Nat} {ls t : List Value} {g : mm_M} {r : mm_R} {x y : Int32} : mm_Rn pg_G d 33 41 ls (.int y :: .int x :: t) g r ↔ if x = y then mm_Rn pg_G d 33 49 ls (t) g r else mm_Rn pg_G d 33 44 ls (t) g r := rn_icmp_eq tb_33_41 r
theorem tb_33_44 : mm_tb pg_G 33 44 = some (.iload 4, 0, 0, 0) := rfl
theorem st_33_44 {l0 l1 l2 l3 : Value} {d : Nat} {t : List Value} {g : mm_M} {r : mm_R} {x : Int32} : mm_Rn pg_G d 33 44 [l0, l1, l2, l3, .int x] (t) g r ↔ mm_Rn pg_G d 33 46 [l0, l1, l2, l3, .int x] (.int x :: t) g r := rn_iload tb_33_44 rfl r
theorem tb_33_46 : mm_tb pg_G 33 46 = some (.ifCond .ne 5, 51, 0, 0) := rfl
theorem st_33_46 {d : Nat} {ls t : List Value} {g : mm_M} {r : mm_R} {x : Int32} : mm_Rn pg_G d 33 46 ls (.int x :: t) g r ↔ if x = 0 then mm_Rn pg_G d 33 49 ls (t) g r else mm_Rn pg_G d 33 51 ls (t) g r := rn_if_ne tb_33_46 r
theorem tb_33_49 : mm_tb pg_G 33 49 = some (.iconst (-1), 0, 0, 0) := rfl
theorem st_33_49 {d : Nat} {ls t : List Value} {g : mm_M} {r : mm_R} : mm_Rn pg_G d 33 49 ls (t) g r ↔ mm_Rn pg_G d 33 50 ls (io_v (-1) :: t) g r := rn_iconst tb_33_49 r
theorem tb_33_50 : mm_tb pg_G 33 50 = some (.ireturn, 0, 0, 0) := rfl
theorem st_33_50 {d : Nat} {ls : List Value} {g : mm_M} {r : mm_R} {x : Int32} : mm_Rn pg_G d 33 50 ls [.int x] g r ↔ r = (some (.int x), g) := rn_ireturn_iff tb_33_50 (Or.inl rfl) r
theorem tb_33_51 : mm_tb pg_G 33 51 = some (.aload_n 0, 0, 0, 0) := rfl
theorem st_33_51 {l1 l2 l3 l4 : Value} {d : Nat} {t : List Value} {g : mm_M} {r : mm_R} {x : Nat} : mm_Rn pg_G d 33 51 [.ref x, l1, l2, l3, l4] (t) g r ↔ mm_Rn pg_G d 33 52 [.ref x, l1, l2, l3, l4] (.ref x :: t) g r := rn_aload_n tb_33_51 rfl r
theorem tb_33_52 : mm_tb pg_G 33 52 = some (.getfield 11, 0, 0, 93) := rfl
theorem st_33_52 {d : Nat} {ls t : List Value} {g : mm_M} {r : mm_R} {x : Nat} (hT : g.1 x = some (0, 8)) : mm_Rn pg_G d 33 52 ls (.ref x :: t) g r ↔ mm_Rn pg_G d 33 55 ls (g.2.1 x 0 :: t) g r := rn_getfield tb_33_52 hT r
theorem tb_33_55 : mm_tb pg_G 33 55 = some (.aload_n 0, 0, 0, 0) := rfl
theorem st_33_55 {l1 l2 l3 l4 : Value} {d : Nat} {t : List Value} {g : mm_M} {r : mm_R} {x : Nat} : mm_Rn pg_G d 33 55 [.ref x, l1, l2, l3, l4] (t) g r ↔ mm_Rn pg_G d 33 56 [.ref x, l1, l2, l3, l4] (.ref x :: t) g r := rn_aload_n tb_33_55 rfl r
theorem tb_33_56 : mm_tb pg_G 33 56 = some (.getfield 33, 0, 4, 97) := rfl
theorem st_33_56 {d : Nat} {ls t : List Value} {g : mm_M} {r : mm_R} {x : Nat} (hT : g.1 x = some (0, 8)) : mm_Rn pg_G d 33 56 ls (.ref x :: t) g r ↔ mm_Rn pg_G d 33 59 ls (g.2.1 x 4 :: t) g r := rn_getfield tb_33_56 hT r
theorem tb_33_59 : mm_tb pg_G 33 59 = some (.new 9, 3, 0, 47) := rfl
theorem st_33_59 {d : Nat} {ls t : List Value} {g : mm_M} {r : mm_R} {x : Nat} (hx : mm_pk pg_G 33 59 ls g.2.1 = x) (hT : g.1 x = none) : mm_Rn pg_G d 33 59 ls (t) g r ↔ mm_Rn pg_G d 33 62 ls (.ref x :: t) (mm_al g x 3 10 fun k => defaultValue (mm_ft pg_G 3 k)) r := rn_new tb_33_59 hx hT r
theorem tb_33_62 : mm_tb pg_G 33 62 = some (.dup, 0, 0, 0) := rfl
theorem st_33_62 {d : Nat} {ls t : List Value} {g : mm_M} {r : mm_R} {v : Value} (hc : mm_c1 v = true) : mm_Rn pg_G d 33 62 ls (v :: t) g r ↔ mm_Rn pg_G d 33 63 ls (v :: v :: t) g r := rn_dup tb_33_62 hc r
theorem tb_33_63 : mm_tb pg_G 33 63 = some (.iload_n 1, 0, 0, 0) := rfl
theorem st_33_63 {l0 l2 l3 l4 : Value} {d : Nat} {t : List Value} {g : mm_M} {r : mm_R} {x : Int32} : mm_Rn pg_G d 33 63 [l0, .int x, l2, l3, l4] (t) g r ↔ mm_Rn pg_G d 33 64 [l0, .int x, l2, l3, l4] (.int x :: t) g r := rn_iload_n tb_33_63 rfl r
theorem tb_33_64 : mm_tb pg_G 33 64 = some (.iload_n 2, 0, 0, 0) := rfl
theorem st_33_64 {l0 l1 l3 l4 : Value} {d : Nat} {t : List Value} {g : mm_M} {r : mm_R} {x : Int32} : mm_Rn pg_G d 33 64 [l0, l1, .int x, l3, l4] (t) g r ↔ mm_Rn pg_G d 33 65 [l0, l1, .int x, l3, l4] (.int x :: t) g r := rn_iload_n tb_33_64 rfl r
theorem tb_33_65 : mm_tb pg_G 33 65 = some (.iload_n 3, 0, 0, 0) := rfl
theorem st_33_65 {l0 l1 l2 l4 : Value} {d : Nat} {t : List Value} {g : mm_M} {r : mm_R} {x : Int32} : mm_Rn pg_G d 33 65 [l0, l1, l2, .int x, l4] (t) g r ↔ mm_Rn pg_G d 33 66 [l0, l1, l2, .int x, l4] (.int x :: t) g r := rn_iload_n tb_33_65 rfl r
theorem tb_33_66 : mm_tb pg_G 33 66 = some (.invokespecial 47, 10, 4, 114) := rfl
theorem st_33_66 {d c s c' s' : Nat} {ls t : List Value} {I J : sp_I} {r : mm_R} {a0 a1 a2 : Int32} {y : Nat} (hl : t.length ≤ 4) (hq : mm_Rn pg_G d 10 0 [.ref y, .int a0, .int a1, .int a2] [] (sp_me I 0 0) (none, sp_me J c' s')) : mm_Rn pg_G (d + 1) 33 66 ls (.int a2 :: .int a1 :: .int a0 :: .ref y :: t) (sp_me I c s) r ↔ mm_Rn pg_G (d + 1) 33 69 ls (t) (sp_me J (c + c') (s + s')) r := rn_spec (g := sp_me I c s) (st := .int a2 :: .int a1 :: .int a0 :: .ref y :: t) tb_33_66 (by decide) rfl ⟨Nat.le_add_left _ t.length, hl, rfl⟩ hq r
theorem tb_33_69 : mm_tb pg_G 33 69 = some (.aastore, 102, 3, 0) := rfl
theorem st_33_69 {d : Nat} {ls t : List Value} {g : mm_M} {r : mm_R} {x v : Nat} {j : Int32} (hc : mm_in (g.1 x) 102 102 j = true) (hv : g.1 v = some (3, 10)) : mm_Rn pg_G d 33 69 ls (.ref v :: .int j :: .ref x :: t) g r ↔ mm_Rn pg_G d 33 70 ls (t) (mm_wr g x j.toNatClampNeg (.ref v)) r := rn_aastore tb_33_69 hc hv r
theorem tb_33_70 : mm_tb pg_G 33 70 = some (.aload_n 0, 0, 0, 0) := rfl
theorem st_33_70 {l1 l2 l3 l4 : Value} {d : Nat} {t : List Value} {g : mm_M} {r : mm_R} {x : Nat} : mm_Rn pg_G d 33 70 [.ref x, l1, l2, l3, l4] (t) g r ↔ mm_Rn pg_G d 33 71 [.ref x, l1, l2, l3, l4] (.ref x :: t) g r := rn_aload_n tb_33_70 rfl r
theorem tb_33_71 : mm_tb pg_G 33 71 = some (.dup, 0, 0, 0) := rfl
theorem st_33_71 {d : Nat} {ls t : List Value} {g : mm_M} {r : mm_R} {v : Value} (hc : mm_c1 v = true) : mm_Rn pg_G d 33 71 ls (v :: t) g r ↔ mm_Rn pg_G d 33 72 ls (v :: v :: t) g r := rn_dup tb_33_71 hc r
theorem tb_33_72 : mm_tb pg_G 33 72 = some (.getfield 33, 0, 4, 97) := rfl
theorem st_33_72 {d : Nat} {ls t : List Value} {g : mm_M} {r : mm_R} {x : Nat} (hT : g.1 x = some (0, 8)) : mm_Rn pg_G d 33 72 ls (.ref x :: t) g r ↔ mm_Rn pg_G d 33 75 ls (g.2.1 x 4 :: t) g r := rn_getfield tb_33_72 hT r
theorem tb_33_75 : mm_tb pg_G 33 75 = some (.iconst 1, 0, 0, 0) := rfl
theorem st_33_75 {d : Nat} {ls t : List Value} {g : mm_M} {r : mm_R} : mm_Rn pg_G d 33 75 ls (t) g r ↔ mm_Rn pg_G d 33 76 ls (io_v 1 :: t) g r := rn_iconst tb_33_75 r
theorem tb_33_76 : mm_tb pg_G 33 76 = some (.iadd, 0, 0, 0) := rfl
theorem st_33_76 {d : Nat} {ls t : List Value} {g : mm_M} {r : mm_R} {x y : Int32} : mm_Rn pg_G d 33 76 ls (.int y :: .int x :: t) g r ↔ mm_Rn pg_G d 33 77 ls (.int (x + y) :: t) g r := rn_iadd tb_33_76 r
theorem tb_33_77 : mm_tb pg_G 33 77 = some (.putfield 33, 0, 4, 97) := rfl
theorem st_33_77 {d : Nat} {ls t : List Value} {g : mm_M} {r : mm_R} {x : Nat} {v : Int32} (hT : g.1 x = some (0, 8)) : mm_Rn pg_G d 33 77 ls (.int v :: .ref x :: t) g r ↔ mm_Rn pg_G d 33 80 ls (t) (mm_wr g x 4 (.int v)) r := rn_putfield tb_33_77 hT rfl r
theorem tb_33_80 : mm_tb pg_G 33 80 = some (.aload_n 0, 0, 0, 0) := rfl
theorem st_33_80 {l1 l2 l3 l4 : Value} {d : Nat} {t : List Value} {g : mm_M} {r : mm_R} {x : Nat} : mm_Rn pg_G d 33 80 [.ref x, l1, l2, l3, l4] (t) g r ↔ mm_Rn pg_G d 33 81 [.ref x, l1, l2, l3, l4] (.ref x :: t) g r := rn_aload_n tb_33_80 rfl r
theorem tb_33_81 : mm_tb pg_G 33 81 = some (.getfield 33, 0, 4, 97) := rfl
theorem st_33_81 {d : Nat} {ls t : List Value} {g : mm_M} {r : mm_R} {x : Nat} (hT : g.1 x = some (0, 8)) : mm_Rn pg_G d 33 81 ls (.ref x :: t) g r ↔ mm_Rn pg_G d 33 84 ls (g.2.1 x 4 :: t) g r := rn_getfield tb_33_81 hT r
theorem tb_33_84 : mm_tb pg_G 33 84 = some (.iconst 1, 0, 0, 0) := rfl
theorem st_33_84 {d : Nat} {ls t : List Value} {g : mm_M} {r : mm_R} : mm_Rn pg_G d 33 84 ls (t) g r ↔ mm_Rn pg_G d 33 85 ls (io_v 1 :: t) g r := rn_iconst tb_33_84 r
theorem tb_33_85 : mm_tb pg_G 33 85 = some (.isub, 0, 0, 0) := rfl
theorem st_33_85 {d : Nat} {ls t : List Value} {g : mm_M} {r : mm_R} {x y : Int32} : mm_Rn pg_G d 33 85 ls (.int y :: .int x :: t) g r ↔ mm_Rn pg_G d 33 86 ls (.int (x - y) :: t) g r := rn_isub tb_33_85 r
theorem tb_33_86 : mm_tb pg_G 33 86 = some (.ireturn, 0, 0, 0) := rfl
theorem st_33_86 {d : Nat} {ls : List Value} {g : mm_M} {r : mm_R} {x : Int32} : mm_Rn pg_G d 33 86 ls [.int x] g r ↔ r = (some (.int x), g) := rn_ireturn_iff tb_33_86 (Or.inl rfl) r
theorem tb_34_0 : mm_tb pg_G 34 0 = some (.aload_n 0, 0, 0, 0) := rfl
theorem st_34_0 {l1 l2 l3 l4 l5 : Value} {d : Nat} {t : List Value} {g : mm_M} {r : mm_R} {x : Nat} : mm_Rn pg_G d 34 0 [.ref x, l1, l2, l3, l4, l5] (t) g r ↔ mm_Rn pg_G d 34 1 [.ref x, l1, l2, l3, l4, l5] (.ref x :: t) g r := rn_aload_n tb_34_0 rfl r
theorem tb_34_1 : mm_tb pg_G 34 1 = some (.getfield 37, 0, 5, 98) := rfl
theorem st_34_1 {d : Nat} {ls t : List Value} {g : mm_M} {r : mm_R} {x : Nat} (hT : g.1 x = some (0, 8)) : mm_Rn pg_G d 34 1 ls (.ref x :: t) g r ↔ mm_Rn pg_G d 34 4 ls (g.2.1 x 5 :: t) g r := rn_getfield tb_34_1 hT r
theorem tb_34_4 : mm_tb pg_G 34 4 = some (.ifCond .ne 18, 22, 0, 0) := rfl
theorem st_34_4 {d : Nat} {ls t : List Value} {g : mm_M} {r : mm_R} {x : Int32} : mm_Rn pg_G d 34 4 ls (.int x :: t) g r ↔ if x = 0 then mm_Rn pg_G d 34 7 ls (t) g r else mm_Rn pg_G d 34 22 ls (t) g r := rn_if_ne tb_34_4 r
theorem tb_34_7 : mm_tb pg_G 34 7 = some (.aload_n 0, 0, 0, 0) := rfl
theorem st_34_7 {l1 l2 l3 l4 l5 : Value} {d : Nat} {t : List Value} {g : mm_M} {r : mm_R} {x : Nat} : mm_Rn pg_G d 34 7 [.ref x, l1, l2, l3, l4, l5] (t) g r ↔ mm_Rn pg_G d 34 8 [.ref x, l1, l2, l3, l4, l5] (.ref x :: t) g r := rn_aload_n tb_34_7 rfl r
theorem tb_34_8 : mm_tb pg_G 34 8 = some (.iload_n 1, 0, 0, 0) := rfl
theorem st_34_8 {l0 l2 l3 l4 l5 : Value} {d : Nat} {t : List Value} {g : mm_M} {r : mm_R} {x : Int32} : mm_Rn pg_G d 34 8 [l0, .int x, l2, l3, l4, l5] (t) g r ↔ mm_Rn pg_G d 34 9 [l0, .int x, l2, l3, l4, l5] (.int x :: t) g r := rn_iload_n tb_34_8 rfl r
theorem tb_34_9 : mm_tb pg_G 34 9 = some (.invokevirtual 50, 52, 2, 172) := rfl
theorem st_34_9 {d c s c' s' : Nat} {ls t : List Value} {I J : sp_I} {r : mm_R} {a0 : Int32} {y : Nat} {v : Int32} (hl : t.length ≤ 4) (hT : sp_T I y = some (0, 8)) (hq : mm_Rn pg_G d 52 0 [.ref y, .int a0] [] (sp_me I 0 0) (some (.int v), sp_me J c' s')) : mm_Rn pg_G (d + 1) 34 9 ls (.int a0 :: .ref y :: t) (sp_me I c s) r ↔ mm_Rn pg_G (d + 1) 34 12 ls (.int v :: t) (sp_me J (c + c') (s + s')) r := rn_virt (g := sp_me I c s) (st := .int a0 :: .ref y :: t) tb_34_9 (decide_eq_true hT) ⟨Nat.le_add_left _ t.length, hl, rfl⟩ hq r
theorem tb_34_12 : mm_tb pg_G 34 12 = some (.ifCond .eq 10, 22, 0, 0) := rfl
theorem st_34_12 {d : Nat} {ls t : List Value} {g : mm_M} {r : mm_R} {x : Int32} : mm_Rn pg_G d 34 12 ls (.int x :: t) g r ↔ if x = 0 then mm_Rn pg_G d 34 22 ls (t) g r else mm_Rn pg_G d 34 15 ls (t) g r := rn_if_eq tb_34_12 r
theorem tb_34_15 : mm_tb pg_G 34 15 = some (.iload_n 2, 0, 0, 0) := rfl
theorem st_34_15 {l0 l1 l3 l4 l5 : Value} {d : Nat} {t : List Value} {g : mm_M} {r : mm_R} {x : Int32} : mm_Rn pg_G d 34 15 [l0, l1, .int x, l3, l4, l5] (t) g r ↔ mm_Rn pg_G d 34 16 [l0, l1, .int x, l3, l4, l5] (.int x :: t) g r := rn_iload_n tb_34_15 rfl r
theorem tb_34_16 : mm_tb pg_G 34 16 = some (.invokestatic 54, 53, 1, 175) := rfl
theorem st_34_16 {d c s c' s' : Nat} {ls t : List Value} {I J : sp_I} {r : mm_R} {a0 : Int32} {v : Int32} (hl : t.length ≤ 4) (hq : mm_Rn pg_G d 53 0 [.int a0] [] (sp_me I 0 0) (some (.int v), sp_me J c' s')) : mm_Rn pg_G (d + 1) 34 16 ls (.int a0 :: t) (sp_me I c s) r ↔ mm_Rn pg_G (d + 1) 34 19 ls (.int v :: t) (sp_me J (c + c') (s + s')) r := rn_stat (g := sp_me I c s) (st := .int a0 :: t) tb_34_16 (by decide) ⟨Nat.le_add_left _ t.length, hl, rfl⟩ hq r
theorem tb_34_19 : mm_tb pg_G 34 19 = some (.ifCond .ne 5, 24, 0, 0) := rfl
theorem st_34_19 {d : Nat} {ls t : List Value} {g : mm_M} {r : mm_R} {x : Int32} : mm_Rn pg_G d 34 19 ls (.int x :: t) g r ↔ if x = 0 then mm_Rn pg_G d 34 22 ls (t) g r else mm_Rn pg_G d 34 24 ls (t) g r := rn_if_ne tb_34_19 r
theorem tb_34_22 : mm_tb pg_G 34 22 = some (.iconst 0, 0, 0, 0) := rfl
theorem st_34_22 {d : Nat} {ls t : List Value} {g : mm_M} {r : mm_R} : mm_Rn pg_G d 34 22 ls (t) g r ↔ mm_Rn pg_G d 34 23 ls (io_v 0 :: t) g r := rn_iconst tb_34_22 r
theorem tb_34_23 : mm_tb pg_G 34 23 = some (.ireturn, 0, 0, 0) := rfl
theorem st_34_23 {d : Nat} {ls : List Value} {g : mm_M} {r : mm_R} {x : Int32} (hb : x = 0 ∨ x = 1) : mm_Rn pg_G d 34 23 ls [.int x] g r ↔ r = (some (.int x), g) := rn_ireturn_iff tb_34_23 (Or.inr ⟨rfl, hb⟩) r
theorem tb_34_24 : mm_tb pg_G 34 24 = some (.aload_n 0, 0, 0, 0) := rfl
theorem st_34_24 {l1 l2 l3 l4 l5 : Value} {d : Nat} {t : List Value} {g : mm_M} {r : mm_R} {x : Nat} : mm_Rn pg_G d 34 24 [.ref x, l1, l2, l3, l4, l5] (t) g r ↔ mm_Rn pg_G d 34 25 [.ref x, l1, l2, l3, l4, l5] (.ref x :: t) g r := rn_aload_n tb_34_24 rfl r
theorem tb_34_25 : mm_tb pg_G 34 25 = some (.getfield 11, 0, 0, 93) := rfl
theorem st_34_25 {d : Nat} {ls t : List Value} {g : mm_M} {r : mm_R} {x : Nat} (hT : g.1 x = some (0, 8)) : mm_Rn pg_G d 34 25 ls (.ref x :: t) g r ↔ mm_Rn pg_G d 34 28 ls (g.2.1 x 0 :: t) g r := rn_getfield tb_34_25 hT r
theorem tb_34_28 : mm_tb pg_G 34 28 = some (.iload_n 1, 0, 0, 0) := rfl
theorem st_34_28 {l0 l2 l3 l4 l5 : Value} {d : Nat} {t : List Value} {g : mm_M} {r : mm_R} {x : Int32} : mm_Rn pg_G d 34 28 [l0, .int x, l2, l3, l4, l5] (t) g r ↔ mm_Rn pg_G d 34 29 [l0, .int x, l2, l3, l4, l5] (.int x :: t) g r := rn_iload_n tb_34_28 rfl r
theorem tb_34_29 : mm_tb pg_G 34 29 = some (.aaload, 0, 0, 0) := rfl
theorem st_34_29 {d : Nat} {ls t : List Value} {g : mm_M} {r : mm_R} {x : Nat} {j : Int32} (hc : mm_in (g.1 x) 102 103 j = true) : mm_Rn pg_G d 34 29 ls (.int j :: .ref x :: t) g r ↔ mm_Rn pg_G d 34 30 ls (g.2.1 x j.toNatClampNeg :: t) g r := rn_aaload tb_34_29 hc r
theorem tb_34_30 : mm_tb pg_G 34 30 = some (.astore 5, 0, 0, 0) := rfl
theorem st_34_30 {l0 l1 l2 l3 l4 l5 : Value} {d : Nat} {t : List Value} {g : mm_M} {r : mm_R} {x : Nat} (hc : mm_c1 l4 = true) : mm_Rn pg_G d 34 30 [l0, l1, l2, l3, l4, l5] (.ref x :: t) g r ↔ mm_Rn pg_G d 34 32 [l0, l1, l2, l3, l4, .ref x] (t) g r := rn_astore tb_34_30 (mm_so_of (ls := [l0, l1, l2, l3, l4, l5]) (v := l4) (Nat.le_of_ble_eq_true rfl) rfl hc) r
theorem tb_34_32 : mm_tb pg_G 34 32 = some (.iload_n 3, 0, 0, 0) := rfl
theorem st_34_32 {l0 l1 l2 l4 l5 : Value} {d : Nat} {t : List Value} {g : mm_M} {r : mm_R} {x : Int32} : mm_Rn pg_G d 34 32 [l0, l1, l2, .int x, l4, l5] (t) g r ↔ mm_Rn pg_G d 34 33 [l0, l1, l2, .int x, l4, l5] (.int x :: t) g r := rn_iload_n tb_34_32 rfl r
theorem tb_34_33 : mm_tb pg_G 34 33 = some (.ifCond .lt 31, 64, 0, 0) := rfl
theorem st_34_33 {d : Nat} {ls t : List Value} {g : mm_M} {r : mm_R} {x : Int32} : mm_Rn pg_G d 34 33 ls (.int x :: t) g r ↔ if x < 0 then mm_Rn pg_G d 34 64 ls (t) g r else mm_Rn pg_G d 34 36 ls (t) g r := rn_if_lt tb_34_33 r
theorem tb_34_36 : mm_tb pg_G 34 36 = some (.iload_n 3, 0, 0, 0) := rfl
theorem st_34_36 {l0 l1 l2 l4 l5 : Value} {d : Nat} {t : List Value} {g : mm_M} {r : mm_R} {x : Int32} : mm_Rn pg_G d 34 36 [l0, l1, l2, .int x, l4, l5] (t) g r ↔ mm_Rn pg_G d 34 37 [l0, l1, l2, .int x, l4, l5] (.int x :: t) g r := rn_iload_n tb_34_36 rfl r
theorem tb_34_37 : mm_tb pg_G 34 37 = some (.iload 4, 0, 0, 0) := rfl
theorem st_34_37 {l0 l1 l2 l3 l5 : Value} {d : Nat} {t : List Value} {g : mm_M} {r : mm_R} {x : Int32} : mm_Rn pg_G d 34 37 [l0, l1, l2, l3, .int x, l5] (t) g r ↔ mm_Rn pg_G d 34 39 [l0, l1, l2, l3, .int x, l5] (.int x :: t) g r := rn_iload tb_34_37 rfl r
theorem tb_34_39 : mm_tb pg_G 34 39 = some (.if_icmp .ge 25, 64, 0, 0) := rfl
theorem st_34_39 {d : Nat} {ls t : List Value} {g : mm_M} {r : mm_R} {x y : Int32} : mm_Rn pg_G d 34 39 ls (.int y :: .int x :: t) g r ↔ if y ≤ x then mm_Rn pg_G d 34 64 ls (t) g r else mm_Rn pg_G d 34 42 ls (t) g r := rn_icmp_ge tb_34_39 r
theorem tb_34_42 : mm_tb pg_G 34 42 = some (.iload 4, 0, 0, 0) := rfl
theorem st_34_42 {l0 l1 l2 l3 l5 : Value} {d : Nat} {t : List Value} {g : mm_M} {r : mm_R} {x : Int32} : mm_Rn pg_G d 34 42 [l0, l1, l2, l3, .int x, l5] (t) g r ↔ mm_Rn pg_G d 34 44 [l0, l1, l2, l3, .int x, l5] (.int x :: t) g r := rn_iload tb_34_42 rfl r
theorem tb_34_44 : mm_tb pg_G 34 44 = some (.aload 5, 0, 0, 0) := rfl
theorem st_34_44 {l0 l1 l2 l3 l4 : Value} {d : Nat} {t : List Value} {g : mm_M} {r : mm_R} {x : Nat} : mm_Rn pg_G d 34 44 [l0, l1, l2, l3, l4, .ref x] (t) g r ↔ mm_Rn pg_G d 34 46 [l0, l1, l2, l3, l4, .ref x] (.ref x :: t) g r := rn_aload tb_34_44 rfl r
theorem tb_34_46 : mm_tb pg_G 34 46 = some (.getfield 57, 3, 2, 146) := rfl
theorem st_34_46 {d : Nat} {ls t : List Value} {g : mm_M} {r : mm_R} {x : Nat} (hT : g.1 x = some (3, 10)) : mm_Rn pg_G d 34 46 ls (.ref x :: t) g r ↔ mm_Rn pg_G d 34 49 ls (g.2.1 x 2 :: t) g r := rn_getfield tb_34_46 hT r
theorem tb_34_49 : mm_tb pg_G 34 49 = some (.if_icmp .gt 15, 64, 0, 0) := rfl
theorem st_34_49 {d : Nat} {ls t : List Value} {g : mm_M} {r : mm_R} {x y : Int32} : mm_Rn pg_G d 34 49 ls (.int y :: .int x :: t) g r ↔ if y < x then mm_Rn pg_G d 34 64 ls (t) g r else mm_Rn pg_G d 34 52 ls (t) g r := rn_icmp_gt tb_34_49 r
theorem tb_34_52 : mm_tb pg_G 34 52 = some (.aload 5, 0, 0, 0) := rfl
theorem st_34_52 {l0 l1 l2 l3 l4 : Value} {d : Nat} {t : List Value} {g : mm_M} {r : mm_R} {x : Nat} : mm_Rn pg_G d 34 52 [l0, l1, l2, l3, l4, .ref x] (t) g r ↔ mm_Rn pg_G d 34 54 [l0, l1, l2, l3, l4, .ref x] (.ref x :: t) g r := rn_aload tb_34_52 rfl r
theorem tb_34_54 : mm_tb pg_G 34 54 = some (.iload_n 2, 0, 0, 0) := rfl
theorem st_34_54 {l0 l1 l3 l4 l5 : Value} {d : Nat} {t : List Value} {g : mm_M} {r : mm_R} {x : Int32} : mm_Rn pg_G d 34 54 [l0, l1, .int x, l3, l4, l5] (t) g r ↔ mm_Rn pg_G d 34 55 [l0, l1, .int x, l3, l4, l5] (.int x :: t) g r := rn_iload_n tb_34_54 rfl r
theorem tb_34_55 : mm_tb pg_G 34 55 = some (.iload_n 3, 0, 0, 0) := rfl
theorem st_34_55 {l0 l1 l2 l4 l5 : Value} {d : Nat} {t : List Value} {g : mm_M} {r : mm_R} {x : Int32} : mm_Rn pg_G d 34 55 [l0, l1, l2, .int x, l4, l5] (t) g r ↔ mm_Rn pg_G d 34 56 [l0, l1, l2, .int x, l4, l5] (.int x :: t) g r := rn_iload_n tb_34_55 rfl r
theorem tb_34_56 : mm_tb pg_G 34 56 = some (.iload 4, 0, 0, 0) := rfl
theorem st_34_56 {l0 l1 l2 l3 l5 : Value} {d : Nat} {t : List Value} {g : mm_M} {r : mm_R} {x : Int32} : mm_Rn pg_G d 34 56 [l0, l1, l2, l3, .int x, l5] (t) g r ↔ mm_Rn pg_G d 34 58 [l0, l1, l2, l3, .int x, l5] (.int x :: t) g r := rn_iload tb_34_56 rfl r
theorem tb_34_58 : mm_tb pg_G 34 58 = some (.invokevirtual 60, 12, 4, 178) := rfl
theorem st_34_58 {d c s c' s' : Nat} {ls t : List Value} {I J : sp_I} {r : mm_R} {a0 a1 a2 : Int32} {y : Nat} {v : Int32} (hl : t.length ≤ 4) (hT : sp_T I y = some (3, 10)) (hq : mm_Rn pg_G d 12 0 [.ref y, .int a0, .int a1, .int a2, .retAddr 0] [] (sp_me I 0 0) (some (.int v), sp_me J c' s')) : mm_Rn pg_G (d + 1) 34 58 ls (.int a2 :: .int a1 :: .int a0 :: .ref y :: t) (sp_me I c s) r ↔ mm_Rn pg_G (d + 1) 34 61 ls (.int v :: t) (sp_me J (c + c') (s + s')) r := rn_virt (g := sp_me I c s) (st := .int a2 :: .int a1 :: .int a0 :: .ref y :: t) tb_34_58 (decide_eq_true hT) ⟨Nat.le_add_left _ t.length, hl, rfl⟩ hq r
theorem tb_34_61 : mm_tb pg_G 34 61 = some (.ifCond .ne 5, 66, 0, 0) := rfl
theorem st_34_61 {d : Nat} {ls t : List Value} {g : mm_M} {r : mm_R} {x : Int32} : mm_Rn pg_G d 34 61 ls (.int x :: t) g r ↔ if x = 0 then mm_Rn pg_G d 34 64 ls (t) g r else mm_Rn pg_G d 34 66 ls (t) g r := rn_if_ne tb_34_61 r
theorem tb_34_64 : mm_tb pg_G 34 64 = some (.iconst 0, 0, 0, 0) := rfl
theorem st_34_64 {d : Nat} {ls t : List Value} {g : mm_M} {r : mm_R} : mm_Rn pg_G d 34 64 ls (t) g r ↔ mm_Rn pg_G d 34 65 ls (io_v 0 :: t) g r := rn_iconst tb_34_64 r
theorem tb_34_65 : mm_tb pg_G 34 65 = some (.ireturn, 0, 0, 0) := rfl
theorem st_34_65 {d : Nat} {ls : List Value} {g : mm_M} {r : mm_R} {x : Int32} (hb : x = 0 ∨ x = 1) : mm_Rn pg_G d 34 65 ls [.int x] g r ↔ r = (some (.int x), g) := rn_ireturn_iff tb_34_65 (Or.inr ⟨rfl, hb⟩) r
theorem tb_34_66 : mm_tb pg_G 34 66 = some (.aload 5, 0, 0, 0) := rfl
theorem st_34_66 {l0 l1 l2 l3 l4 : Value} {d : Nat} {t : List Value} {g : mm_M} {r : mm_R} {x : Nat} : mm_Rn pg_G d 34 66 [l0, l1, l2, l3, l4, .ref x] (t) g r ↔ mm_Rn pg_G d 34 68 [l0, l1, l2, l3, l4, .ref x] (.ref x :: t) g r := rn_aload tb_34_66 rfl r
theorem tb_34_68 : mm_tb pg_G 34 68 = some (.iload_n 2, 0, 0, 0) := rfl
theorem st_34_68 {l0 l1 l3 l4 l5 : Value} {d : Nat} {t : List Value} {g : mm_M} {r : mm_R} {x : Int32} : mm_Rn pg_G d 34 68 [l0, l1, .int x, l3, l4, l5] (t) g r ↔ mm_Rn pg_G d 34 69 [l0, l1, .int x, l3, l4, l5] (.int x :: t) g r := rn_iload_n tb_34_68 rfl r
theorem tb_34_69 : mm_tb pg_G 34 69 = some (.iload_n 3, 0, 0, 0) := rfl
theorem st_34_69 {l0 l1 l2 l4 l5 : Value} {d : Nat} {t : List Value} {g : mm_M} {r : mm_R} {x : Int32} : mm_Rn pg_G d 34 69 [l0, l1, l2, .int x, l4, l5] (t) g r ↔ mm_Rn pg_G d 34 70 [l0, l1, l2, .int x, l4, l5] (.int x :: t) g r := rn_iload_n tb_34_69 rfl r
theorem tb_34_70 : mm_tb pg_G 34 70 = some (.iload 4, 0, 0, 0) := rfl
theorem st_34_70 {l0 l1 l2 l3 l5 : Value} {d : Nat} {t : List Value} {g : mm_M} {r : mm_R} {x : Int32} : mm_Rn pg_G d 34 70 [l0, l1, l2, l3, .int x, l5] (t) g r ↔ mm_Rn pg_G d 34 72 [l0, l1, l2, l3, .int x, l5] (.int x :: t) g r := rn_iload tb_34_70 rfl r
theorem tb_34_72 : mm_tb pg_G 34 72 = some (.invokevirtual 64, 13, 4, 186) := rfl
theorem st_34_72 {d c s c' s' : Nat} {ls t : List Value} {I J : sp_I} {r : mm_R} {a0 a1 a2 : Int32} {y : Nat} (hl : t.length ≤ 4) (hT : sp_T I y = some (3, 10)) (hq : mm_Rn pg_G d 13 0 [.ref y, .int a0, .int a1, .int a2] [] (sp_me I 0 0) (none, sp_me J c' s')) : mm_Rn pg_G (d + 1) 34 72 ls (.int a2 :: .int a1 :: .int a0 :: .ref y :: t) (sp_me I c s) r ↔ mm_Rn pg_G (d + 1) 34 75 ls (t) (sp_me J (c + c') (s + s')) r := rn_virt (g := sp_me I c s) (st := .int a2 :: .int a1 :: .int a0 :: .ref y :: t) tb_34_72 (decide_eq_true hT) ⟨Nat.le_add_left _ t.length, hl, rfl⟩ hq r
theorem tb_34_75 : mm_tb pg_G 34 75 = some (.aload_n 0, 0, 0, 0) := rfl
theorem st_34_75 {l1 l2 l3 l4 l5 : Value} {d : Nat} {t : List Value} {g : mm_M} {r : mm_R} {x : Nat} : mm_Rn pg_G d 34 75 [.ref x, l1, l2, l3, l4, l5] (t) g r ↔ mm_Rn pg_G d 34 76 [.ref x, l1, l2, l3, l4, l5] (.ref x :: t) g r := rn_aload_n tb_34_75 rfl r
theorem tb_34_76 : mm_tb pg_G 34 76 = some (.getfield 15, 0, 1, 94) := rfl
theorem st_34_76 {d : Nat} {ls t : List Value} {g : mm_M} {r : mm_R} {x : Nat} (hT : g.1 x = some (0, 8)) : mm_Rn pg_G d 34 76 ls (.ref x :: t) g r ↔ mm_Rn pg_G d 34 79 ls (g.2.1 x 1 :: t) g r := rn_getfield tb_34_76 hT r
theorem tb_34_79 : mm_tb pg_G 34 79 = some (.iload_n 2, 0, 0, 0) := rfl
theorem st_34_79 {l0 l1 l3 l4 l5 : Value} {d : Nat} {t : List Value} {g : mm_M} {r : mm_R} {x : Int32} : mm_Rn pg_G d 34 79 [l0, l1, .int x, l3, l4, l5] (t) g r ↔ mm_Rn pg_G d 34 80 [l0, l1, .int x, l3, l4, l5] (.int x :: t) g r := rn_iload_n tb_34_79 rfl r
theorem tb_34_80 : mm_tb pg_G 34 80 = some (.aload_n 0, 0, 0, 0) := rfl
theorem st_34_80 {l1 l2 l3 l4 l5 : Value} {d : Nat} {t : List Value} {g : mm_M} {r : mm_R} {x : Nat} : mm_Rn pg_G d 34 80 [.ref x, l1, l2, l3, l4, l5] (t) g r ↔ mm_Rn pg_G d 34 81 [.ref x, l1, l2, l3, l4, l5] (.ref x :: t) g r := rn_aload_n tb_34_80 rfl r
theorem tb_34_81 : mm_tb pg_G 34 81 = some (.getfield 15, 0, 1, 94) := rfl
theorem st_34_81 {d : Nat} {ls t : List Value} {g : mm_M} {r : mm_R} {x : Nat} (hT : g.1 x = some (0, 8)) : mm_Rn pg_G d 34 81 ls (.ref x :: t) g r ↔ mm_Rn pg_G d 34 84 ls (g.2.1 x 1 :: t) g r := rn_getfield tb_34_81 hT r
theorem tb_34_84 : mm_tb pg_G 34 84 = some (.iload_n 2, 0, 0, 0) := rfl
theorem st_34_84 {l0 l1 l3 l4 l5 : Value} {d : Nat} {t : List Value} {g : mm_M} {r : mm_R} {x : Int32} : mm_Rn pg_G d 34 84 [l0, l1, .int x, l3, l4, l5] (t) g r ↔ mm_Rn pg_G d 34 85 [l0, l1, .int x, l3, l4, l5] (.int x :: t) g r := rn_iload_n tb_34_84 rfl r
theorem tb_34_85 : mm_tb pg_G 34 85 = some (.iaload, 0, 0, 0) := rfl
theorem st_34_85 {d : Nat} {ls t : List Value} {g : mm_M} {r : mm_R} {x : Nat} {j : Int32} (hc : mm_in (g.1 x) 100 101 j = true) : mm_Rn pg_G d 34 85 ls (.int j :: .ref x :: t) g r ↔ mm_Rn pg_G d 34 86 ls (g.2.1 x j.toNatClampNeg :: t) g r := rn_iaload tb_34_85 hc r
theorem tb_34_86 : mm_tb pg_G 34 86 = some (.aload 5, 0, 0, 0) := rfl
theorem st_34_86 {l0 l1 l2 l3 l4 : Value} {d : Nat} {t : List Value} {g : mm_M} {r : mm_R} {x : Nat} : mm_Rn pg_G d 34 86 [l0, l1, l2, l3, l4, .ref x] (t) g r ↔ mm_Rn pg_G d 34 88 [l0, l1, l2, l3, l4, .ref x] (.ref x :: t) g r := rn_aload tb_34_86 rfl r
theorem tb_34_88 : mm_tb pg_G 34 88 = some (.invokevirtual 67, 11, 1, 204) := rfl
theorem st_34_88 {d c s c' s' : Nat} {ls t : List Value} {I J : sp_I} {r : mm_R} {y : Nat} {v : Int32} (hl : t.length ≤ 4) (hT : sp_T I y = some (3, 10)) (hq : mm_Rn pg_G d 11 0 [.ref y] [] (sp_me I 0 0) (some (.int v), sp_me J c' s')) : mm_Rn pg_G (d + 1) 34 88 ls (.ref y :: t) (sp_me I c s) r ↔ mm_Rn pg_G (d + 1) 34 91 ls (.int v :: t) (sp_me J (c + c') (s + s')) r := rn_virt (g := sp_me I c s) (st := .ref y :: t) tb_34_88 (decide_eq_true hT) ⟨Nat.le_add_left _ t.length, hl, rfl⟩ hq r
theorem tb_34_91 : mm_tb pg_G 34 91 = some (.invokestatic 71, 999, 0, 208) := rfl
theorem st_34_91 {d : Nat} {ls t : List Value} {g : mm_M} {r : mm_R} {x y : Int32} (hl : t.length ≤ 4) : mm_Rn pg_G (d + 1) 34 91 ls (.int y :: .int x :: t) g r ↔ mm_Rn pg_G (d + 1) 34 94 ls (.int (if x < y then y else x) :: t) g r := rn_max tb_34_91 hl r
theorem tb_34_94 : mm_tb pg_G 34 94 = some (.iastore, 0, 0, 0) := rfl
theorem st_34_94 {d : Nat} {ls t : List Value} {g : mm_M} {r : mm_R} {x : Nat} {j v : Int32} (hc : mm_in (g.1 x) 100 100 j = true) : mm_Rn pg_G d 34 94 ls (.int v :: .int j :: .ref x :: t) g r ↔ mm_Rn pg_G d 34 95 ls (t) (mm_wr g x j.toNatClampNeg (.int v)) r := rn_iastore tb_34_94 hc r
theorem tb_34_95 : mm_tb pg_G 34 95 = some (.iconst 1, 0, 0, 0) := rfl
theorem st_34_95 {d : Nat} {ls t : List Value} {g : mm_M} {r : mm_R} : mm_Rn pg_G d 34 95 ls (t) g r ↔ mm_Rn pg_G d 34 96 ls (io_v 1 :: t) g r := rn_iconst tb_34_95 r
theorem tb_34_96 : mm_tb pg_G 34 96 = some (.ireturn, 0, 0, 0) := rfl
theorem st_34_96 {d : Nat} {ls : List Value} {g : mm_M} {r : mm_R} {x : Int32} (hb : x = 0 ∨ x = 1) : mm_Rn pg_G d 34 96 ls [.int x] g r ↔ r = (some (.int x), g) := rn_ireturn_iff tb_34_96 (Or.inr ⟨rfl, hb⟩) r
theorem tb_35_0 : mm_tb pg_G 35 0 = some (.aload_n 0, 0, 0, 0) := rfl
theorem st_35_0 {l1 l2 : Value} {d : Nat} {t : List Value} {g : mm_M} {r : mm_R} {x : Nat} : mm_Rn pg_G d 35 0 [.ref x, l1, l2] (t) g r ↔ mm_Rn pg_G d 35 1 [.ref x, l1, l2] (.ref x :: t) g r := rn_aload_n tb_35_0 rfl r
theorem tb_35_1 : mm_tb pg_G 35 1 = some (.getfield 37, 0, 5, 98) := rfl
theorem st_35_1 {d : Nat} {ls t : List Value} {g : mm_M} {r : mm_R} {x : Nat} (hT : g.1 x = some (0, 8)) : mm_Rn pg_G d 35 1 ls (.ref x :: t) g r ↔ mm_Rn pg_G d 35 4 ls (g.2.1 x 5 :: t) g r := rn_getfield tb_35_1 hT r
theorem tb_35_4 : mm_tb pg_G 35 4 = some (.ifCond .ne 19, 23, 0, 0) := rfl
theorem st_35_4 {d : Nat} {ls t : List Value} {g : mm_M} {r : mm_R} {x : Int32} : mm_Rn pg_G d 35 4 ls (.int x :: t) g r ↔ if x = 0 then mm_Rn pg_G d 35 7 ls (t) g r else mm_Rn pg_G d 35 23 ls (t) g r := rn_if_ne tb_35_4 r
theorem tb_35_7 : mm_tb pg_G 35 7 = some (.iload_n 1, 0, 0, 0) := rfl
theorem st_35_7 {l0 l2 : Value} {d : Nat} {t : List Value} {g : mm_M} {r : mm_R} {x : Int32} : mm_Rn pg_G d 35 7 [l0, .int x, l2] (t) g r ↔ mm_Rn pg_G d 35 8 [l0, .int x, l2] (.int x :: t) g r := rn_iload_n tb_35_7 rfl r
theorem tb_35_8 : mm_tb pg_G 35 8 = some (.iconst 1, 0, 0, 0) := rfl
theorem st_35_8 {d : Nat} {ls t : List Value} {g : mm_M} {r : mm_R} : mm_Rn pg_G d 35 8 ls (t) g r ↔ mm_Rn pg_G d 35 9 ls (io_v 1 :: t) g r := rn_iconst tb_35_8 r
theorem tb_35_9 : mm_tb pg_G 35 9 = some (.if_icmp .lt 14, 23, 0, 0) := rfl
theorem st_35_9 {d : Nat} {ls t : List Value} {g : mm_M} {r : mm_R} {x y : Int32} : mm_Rn pg_G d 35 9 ls (.int y :: .int x :: t) g r ↔ if x < y then mm_Rn pg_G d 35 23 ls (t) g r else mm_Rn pg_G d 35 12 ls (t) g r := rn_icmp_lt tb_35_9 r
theorem tb_35_12 : mm_tb pg_G 35 12 = some (.iload_n 1, 0, 0, 0) := rfl
theorem st_35_12 {l0 l2 : Value} {d : Nat} {t : List Value} {g : mm_M} {r : mm_R} {x : Int32} : mm_Rn pg_G d 35 12 [l0, .int x, l2] (t) g r ↔ mm_Rn pg_G d 35 13 [l0, .int x, l2] (.int x :: t) g r := rn_iload_n tb_35_12 rfl r
theorem tb_35_13 : mm_tb pg_G 35 13 = some (.iload_n 2, 0, 0, 0) := rfl
theorem st_35_13 {l0 l1 : Value} {d : Nat} {t : List Value} {g : mm_M} {r : mm_R} {x : Int32} : mm_Rn pg_G d 35 13 [l0, l1, .int x] (t) g r ↔ mm_Rn pg_G d 35 14 [l0, l1, .int x] (.int x :: t) g r := rn_iload_n tb_35_13 rfl r
theorem tb_35_14 : mm_tb pg_G 35 14 = some (.if_icmp .gt 9, 23, 0, 0) := rfl
theorem st_35_14 {d : Nat} {ls t : List Value} {g : mm_M} {r : mm_R} {x y : Int32} : mm_Rn pg_G d 35 14 ls (.int y :: .int x :: t) g r ↔ if y < x then mm_Rn pg_G d 35 23 ls (t) g r else mm_Rn pg_G d 35 17 ls (t) g r := rn_icmp_gt tb_35_14 r
theorem tb_35_17 : mm_tb pg_G 35 17 = some (.iload_n 2, 0, 0, 0) := rfl
theorem st_35_17 {l0 l1 : Value} {d : Nat} {t : List Value} {g : mm_M} {r : mm_R} {x : Int32} : mm_Rn pg_G d 35 17 [l0, l1, .int x] (t) g r ↔ mm_Rn pg_G d 35 18 [l0, l1, .int x] (.int x :: t) g r := rn_iload_n tb_35_17 rfl r
theorem tb_35_18 : mm_tb pg_G 35 18 = some (.bipush 100, 0, 0, 0) := rfl
theorem st_35_18 {d : Nat} {ls t : List Value} {g : mm_M} {r : mm_R} : mm_Rn pg_G d 35 18 ls (t) g r ↔ mm_Rn pg_G d 35 20 ls (io_v 100 :: t) g r := rn_bipush tb_35_18 r
theorem tb_35_20 : mm_tb pg_G 35 20 = some (.if_icmp .le 5, 25, 0, 0) := rfl
theorem st_35_20 {d : Nat} {ls t : List Value} {g : mm_M} {r : mm_R} {x y : Int32} : mm_Rn pg_G d 35 20 ls (.int y :: .int x :: t) g r ↔ if x ≤ y then mm_Rn pg_G d 35 25 ls (t) g r else mm_Rn pg_G d 35 23 ls (t) g r := rn_icmp_le tb_35_20 r
theorem tb_35_23 : mm_tb pg_G 35 23 = some (.iconst 0, 0, 0, 0) := rfl
theorem st_35_23 {d : Nat} {ls t : List Value} {g : mm_M} {r : mm_R} : mm_Rn pg_G d 35 23 ls (t) g r ↔ mm_Rn pg_G d 35 24 ls (io_v 0 :: t) g r := rn_iconst tb_35_23 r
theorem tb_35_24 : mm_tb pg_G 35 24 = some (.ireturn, 0, 0, 0) := rfl
theorem st_35_24 {d : Nat} {ls : List Value} {g : mm_M} {r : mm_R} {x : Int32} (hb : x = 0 ∨ x = 1) : mm_Rn pg_G d 35 24 ls [.int x] g r ↔ r = (some (.int x), g) := rn_ireturn_iff tb_35_24 (Or.inr ⟨rfl, hb⟩) r
theorem tb_35_25 : mm_tb pg_G 35 25 = some (.aload_n 0, 0, 0, 0) := rfl
theorem st_35_25 {l1 l2 : Value} {d : Nat} {t : List Value} {g : mm_M} {r : mm_R} {x : Nat} : mm_Rn pg_G d 35 25 [.ref x, l1, l2] (t) g r ↔ mm_Rn pg_G d 35 26 [.ref x, l1, l2] (.ref x :: t) g r := rn_aload_n tb_35_25 rfl r
theorem tb_35_26 : mm_tb pg_G 35 26 = some (.getfield 22, 0, 2, 95) := rfl
theorem st_35_26 {d : Nat} {ls t : List Value} {g : mm_M} {r : mm_R} {x : Nat} (hT : g.1 x = some (0, 8)) : mm_Rn pg_G d 35 26 ls (.ref x :: t) g r ↔ mm_Rn pg_G d 35 29 ls (g.2.1 x 2 :: t) g r := rn_getfield tb_35_26 hT r
theorem tb_35_29 : mm_tb pg_G 35 29 = some (.iload_n 1, 0, 0, 0) := rfl
theorem st_35_29 {l0 l2 : Value} {d : Nat} {t : List Value} {g : mm_M} {r : mm_R} {x : Int32} : mm_Rn pg_G d 35 29 [l0, .int x, l2] (t) g r ↔ mm_Rn pg_G d 35 30 [l0, .int x, l2] (.int x :: t) g r := rn_iload_n tb_35_29 rfl r
theorem tb_35_30 : mm_tb pg_G 35 30 = some (.iload_n 2, 0, 0, 0) := rfl
theorem st_35_30 {l0 l1 : Value} {d : Nat} {t : List Value} {g : mm_M} {r : mm_R} {x : Int32} : mm_Rn pg_G d 35 30 [l0, l1, .int x] (t) g r ↔ mm_Rn pg_G d 35 31 [l0, l1, .int x] (.int x :: t) g r := rn_iload_n tb_35_30 rfl r
theorem tb_35_31 : mm_tb pg_G 35 31 = some (.invokevirtual 77, 23, 3, 215) := rfl
theorem st_35_31 {d c s c' s' : Nat} {ls t : List Value} {I J : sp_I} {r : mm_R} {a0 a1 : Int32} {y : Nat} (hl : t.length ≤ 4) (hT : sp_T I y = some (1, 9)) (hq : mm_Rn pg_G d 23 0 [.ref y, .int a0, .int a1] [] (sp_me I 0 0) (none, sp_me J c' s')) : mm_Rn pg_G (d + 1) 35 31 ls (.int a1 :: .int a0 :: .ref y :: t) (sp_me I c s) r ↔ mm_Rn pg_G (d + 1) 35 34 ls (t) (sp_me J (c + c') (s + s')) r := rn_virt (g := sp_me I c s) (st := .int a1 :: .int a0 :: .ref y :: t) tb_35_31 (decide_eq_true hT) ⟨Nat.le_add_left _ t.length, hl, rfl⟩ hq r
theorem tb_35_34 : mm_tb pg_G 35 34 = some (.iconst 1, 0, 0, 0) := rfl
theorem st_35_34 {d : Nat} {ls t : List Value} {g : mm_M} {r : mm_R} : mm_Rn pg_G d 35 34 ls (t) g r ↔ mm_Rn pg_G d 35 35 ls (io_v 1 :: t) g r := rn_iconst tb_35_34 r
theorem tb_35_35 : mm_tb pg_G 35 35 = some (.ireturn, 0, 0, 0) := rfl
theorem st_35_35 {d : Nat} {ls : List Value} {g : mm_M} {r : mm_R} {x : Int32} (hb : x = 0 ∨ x = 1) : mm_Rn pg_G d 35 35 ls [.int x] g r ↔ r = (some (.int x), g) := rn_ireturn_iff tb_35_35 (Or.inr ⟨rfl, hb⟩) r
theorem tb_36_0 : mm_tb pg_G 36 0 = some (.aload_n 0, 0, 0, 0) := rfl
theorem st_36_0 {d : Nat} {t : List Value} {g : mm_M} {r : mm_R} {x : Nat} : mm_Rn pg_G d 36 0 [.ref x] (t) g r ↔ mm_Rn pg_G d 36 1 [.ref x] (.ref x :: t) g r := rn_aload_n tb_36_0 rfl r
theorem tb_36_1 : mm_tb pg_G 36 1 = some (.getfield 37, 0, 5, 98) := rfl
theorem st_36_1 {d : Nat} {ls t : List Value} {g : mm_M} {r : mm_R} {x : Nat} (hT : g.1 x = some (0, 8)) : mm_Rn pg_G d 36 1 ls (.ref x :: t) g r ↔ mm_Rn pg_G d 36 4 ls (g.2.1 x 5 :: t) g r := rn_getfield tb_36_1 hT r
theorem tb_36_4 : mm_tb pg_G 36 4 = some (.ifCond .eq 5, 9, 0, 0) := rfl
theorem st_36_4 {d : Nat} {ls t : List Value} {g : mm_M} {r : mm_R} {x : Int32} : mm_Rn pg_G d 36 4 ls (.int x :: t) g r ↔ if x = 0 then mm_Rn pg_G d 36 9 ls (t) g r else mm_Rn pg_G d 36 7 ls (t) g r := rn_if_eq tb_36_4 r
theorem tb_36_7 : mm_tb pg_G 36 7 = some (.iconst 0, 0, 0, 0) := rfl
theorem st_36_7 {d : Nat} {ls t : List Value} {g : mm_M} {r : mm_R} : mm_Rn pg_G d 36 7 ls (t) g r ↔ mm_Rn pg_G d 36 8 ls (io_v 0 :: t) g r := rn_iconst tb_36_7 r
theorem tb_36_8 : mm_tb pg_G 36 8 = some (.ireturn, 0, 0, 0) := rfl
theorem st_36_8 {d : Nat} {ls : List Value} {g : mm_M} {r : mm_R} {x : Int32} (hb : x = 0 ∨ x = 1) : mm_Rn pg_G d 36 8 ls [.int x] g r ↔ r = (some (.int x), g) := rn_ireturn_iff tb_36_8 (Or.inr ⟨rfl, hb⟩) r
theorem tb_36_9 : mm_tb pg_G 36 9 = some (.aload_n 0, 0, 0, 0) := rfl
theorem st_36_9 {d : Nat} {t : List Value} {g : mm_M} {r : mm_R} {x : Nat} : mm_Rn pg_G d 36 9 [.ref x] (t) g r ↔ mm_Rn pg_G d 36 10 [.ref x] (.ref x :: t) g r := rn_aload_n tb_36_9 rfl r
theorem tb_36_10 : mm_tb pg_G 36 10 = some (.iconst 1, 0, 0, 0) := rfl
theorem st_36_10 {d : Nat} {ls t : List Value} {g : mm_M} {r : mm_R} : mm_Rn pg_G d 36 10 ls (t) g r ↔ mm_Rn pg_G d 36 11 ls (io_v 1 :: t) g r := rn_iconst tb_36_10 r
theorem tb_36_11 : mm_tb pg_G 36 11 = some (.putfield 37, 0, 5, 98) := rfl
theorem st_36_11 {d : Nat} {ls t : List Value} {g : mm_M} {r : mm_R} {x : Nat} {v : Int32} (hT : g.1 x = some (0, 8)) (hf : fits .boolean (.int v) = true) : mm_Rn pg_G d 36 11 ls (.int v :: .ref x :: t) g r ↔ mm_Rn pg_G d 36 14 ls (t) (mm_wr g x 5 (.int v)) r := rn_putfield tb_36_11 hT hf r
theorem tb_36_14 : mm_tb pg_G 36 14 = some (.iconst 1, 0, 0, 0) := rfl
theorem st_36_14 {d : Nat} {ls t : List Value} {g : mm_M} {r : mm_R} : mm_Rn pg_G d 36 14 ls (t) g r ↔ mm_Rn pg_G d 36 15 ls (io_v 1 :: t) g r := rn_iconst tb_36_14 r
theorem tb_36_15 : mm_tb pg_G 36 15 = some (.ireturn, 0, 0, 0) := rfl
theorem st_36_15 {d : Nat} {ls : List Value} {g : mm_M} {r : mm_R} {x : Int32} (hb : x = 0 ∨ x = 1) : mm_Rn pg_G d 36 15 ls [.int x] g r ↔ r = (some (.int x), g) := rn_ireturn_iff tb_36_15 (Or.inr ⟨rfl, hb⟩) r
theorem tb_37_0 : mm_tb pg_G 37 0 = some (.iconst 0, 0, 0, 0) := rfl
theorem st_37_0 {d : Nat} {ls t : List Value} {g : mm_M} {r : mm_R} : mm_Rn pg_G d 37 0 ls (t) g r ↔ mm_Rn pg_G d 37 1 ls (io_v 0 :: t) g r := rn_iconst tb_37_0 r
theorem tb_37_1 : mm_tb pg_G 37 1 = some (.istore_n 1, 0, 0, 0) := rfl
theorem st_37_1 {l0 l1 : Value} {d : Nat} {t : List Value} {g : mm_M} {r : mm_R} {x : Int32} (hc : mm_c1 l0 = true) : mm_Rn pg_G d 37 1 [l0, l1] (.int x :: t) g r ↔ mm_Rn pg_G d 37 2 [l0, .int x] (t) g r := rn_istore_n tb_37_1 (mm_so_of (ls := [l0, l1]) (v := l0) (Nat.le_of_ble_eq_true rfl) rfl hc) r
theorem tb_37_2 : mm_tb pg_G 37 2 = some (.iload_n 1, 0, 0, 0) := rfl
theorem st_37_2 {l0 : Value} {d : Nat} {t : List Value} {g : mm_M} {r : mm_R} {x : Int32} : mm_Rn pg_G d 37 2 [l0, .int x] (t) g r ↔ mm_Rn pg_G d 37 3 [l0, .int x] (.int x :: t) g r := rn_iload_n tb_37_2 rfl r
theorem tb_37_3 : mm_tb pg_G 37 3 = some (.aload_n 0, 0, 0, 0) := rfl
theorem st_37_3 {l1 : Value} {d : Nat} {t : List Value} {g : mm_M} {r : mm_R} {x : Nat} : mm_Rn pg_G d 37 3 [.ref x, l1] (t) g r ↔ mm_Rn pg_G d 37 4 [.ref x, l1] (.ref x :: t) g r := rn_aload_n tb_37_3 rfl r
theorem tb_37_4 : mm_tb pg_G 37 4 = some (.getfield 33, 0, 4, 97) := rfl
theorem st_37_4 {d : Nat} {ls t : List Value} {g : mm_M} {r : mm_R} {x : Nat} (hT : g.1 x = some (0, 8)) : mm_Rn pg_G d 37 4 ls (.ref x :: t) g r ↔ mm_Rn pg_G d 37 7 ls (g.2.1 x 4 :: t) g r := rn_getfield tb_37_4 hT r
theorem tb_37_7 : mm_tb pg_G 37 7 = some (.if_icmp .ge 24, 31, 0, 0) := rfl
theorem st_37_7 {d : Nat} {ls t : List Value} {g : mm_M} {r : mm_R} {x y : Int32} : mm_Rn pg_G d 37 7 ls (.int y :: .int x :: t) g r ↔ if y ≤ x then mm_Rn pg_G d 37 31 ls (t) g r else mm_Rn pg_G d 37 10 ls (t) g r := rn_icmp_ge tb_37_7 r
theorem tb_37_10 : mm_tb pg_G 37 10 = some (.aload_n 0, 0, 0, 0) := rfl
theorem st_37_10 {l1 : Value} {d : Nat} {t : List Value} {g : mm_M} {r : mm_R} {x : Nat} : mm_Rn pg_G d 37 10 [.ref x, l1] (t) g r ↔ mm_Rn pg_G d 37 11 [.ref x, l1] (.ref x :: t) g r := rn_aload_n tb_37_10 rfl r
theorem tb_37_11 : mm_tb pg_G 37 11 = some (.aload_n 0, 0, 0, 0) := rfl
theorem st_37_11 {l1 : Value} {d : Nat} {t : List Value} {g : mm_M} {r : mm_R} {x : Nat} : mm_Rn pg_G d 37 11 [.ref x, l1] (t) g r ↔ mm_Rn pg_G d 37 12 [.ref x, l1] (.ref x :: t) g r := rn_aload_n tb_37_11 rfl r
theorem tb_37_12 : mm_tb pg_G 37 12 = some (.getfield 11, 0, 0, 93) := rfl
theorem st_37_12 {d : Nat} {ls t : List Value} {g : mm_M} {r : mm_R} {x : Nat} (hT : g.1 x = some (0, 8)) : mm_Rn pg_G d 37 12 ls (.ref x :: t) g r ↔ mm_Rn pg_G d 37 15 ls (g.2.1 x 0 :: t) g r := rn_getfield tb_37_12 hT r
theorem tb_37_15 : mm_tb pg_G 37 15 = some (.iload_n 1, 0, 0, 0) := rfl
theorem st_37_15 {l0 : Value} {d : Nat} {t : List Value} {g : mm_M} {r : mm_R} {x : Int32} : mm_Rn pg_G d 37 15 [l0, .int x] (t) g r ↔ mm_Rn pg_G d 37 16 [l0, .int x] (.int x :: t) g r := rn_iload_n tb_37_15 rfl r
theorem tb_37_16 : mm_tb pg_G 37 16 = some (.aaload, 0, 0, 0) := rfl
theorem st_37_16 {d : Nat} {ls t : List Value} {g : mm_M} {r : mm_R} {x : Nat} {j : Int32} (hc : mm_in (g.1 x) 102 103 j = true) : mm_Rn pg_G d 37 16 ls (.int j :: .ref x :: t) g r ↔ mm_Rn pg_G d 37 17 ls (g.2.1 x j.toNatClampNeg :: t) g r := rn_aaload tb_37_16 hc r
theorem tb_37_17 : mm_tb pg_G 37 17 = some (.invokevirtual 81, 55, 2, 227) := rfl
theorem st_37_17 {d c s c' s' : Nat} {ls t : List Value} {I J : sp_I} {r : mm_R} {y a0 : Nat} {v : Int32} (hl : t.length ≤ 4) (hT : sp_T I y = some (0, 8)) (hq : mm_Rn pg_G d 55 0 [.ref y, .ref a0, .retAddr 0, .retAddr 0, .retAddr 0, .retAddr 0, .retAddr 0] [] (sp_me I 0 0) (some (.int v), sp_me J c' s')) : mm_Rn pg_G (d + 1) 37 17 ls (.ref a0 :: .ref y :: t) (sp_me I c s) r ↔ mm_Rn pg_G (d + 1) 37 20 ls (.int v :: t) (sp_me J (c + c') (s + s')) r := rn_virt (g := sp_me I c s) (st := .ref a0 :: .ref y :: t) tb_37_17 (decide_eq_true hT) ⟨Nat.le_add_left _ t.length, hl, rfl⟩ hq r
theorem tb_37_20 : mm_tb pg_G 37 20 = some (.ifCond .ne 5, 25, 0, 0) := rfl
theorem st_37_20 {d : Nat} {ls t : List Value} {g : mm_M} {r : mm_R} {x : Int32} : mm_Rn pg_G d 37 20 ls (.int x :: t) g r ↔ if x = 0 then mm_Rn pg_G d 37 23 ls (t) g r else mm_Rn pg_G d 37 25 ls (t) g r := rn_if_ne tb_37_20 r
theorem tb_37_23 : mm_tb pg_G 37 23 = some (.iload_n 1, 0, 0, 0) := rfl
theorem st_37_23 {l0 : Value} {d : Nat} {t : List Value} {g : mm_M} {r : mm_R} {x : Int32} : mm_Rn pg_G d 37 23 [l0, .int x] (t) g r ↔ mm_Rn pg_G d 37 24 [l0, .int x] (.int x :: t) g r := rn_iload_n tb_37_23 rfl r
theorem tb_37_24 : mm_tb pg_G 37 24 = some (.ireturn, 0, 0, 0) := rfl
theorem st_37_24 {d : Nat} {ls : List Value} {g : mm_M} {r : mm_R} {x : Int32} : mm_Rn pg_G d 37 24 ls [.int x] g r ↔ r = (some (.int x), g) := rn_ireturn_iff tb_37_24 (Or.inl rfl) r
theorem tb_37_25 : mm_tb pg_G 37 25 = some (.iinc 1 1, 0, 0, 0) := rfl
theorem st_37_25 {l0 : Value} {d : Nat} {t : List Value} {g : mm_M} {r : mm_R} {x : Int32} (hc : mm_c1 l0 = true) : mm_Rn pg_G d 37 25 [l0, .int x] (t) g r ↔ mm_Rn pg_G d 37 28 [l0, .int (x + Int32.ofInt 1)] (t) g r := rn_iinc tb_37_25 rfl (mm_so_of (ls := [l0, .int x]) (v := l0) (Nat.le_of_ble_eq_true rfl) rfl hc) r
theorem tb_37_28 : mm_tb pg_G 37 28 = some (.goto (-26), 2, 0, 0) := rfl
theorem st_37_28 {d : Nat} {ls t : List Value} {g : mm_M} {r : mm_R} : mm_Rn pg_G d 37 28 ls (t) g r ↔ mm_Rn pg_G d 37 2 ls (t) g r := rn_goto tb_37_28 r
theorem tb_37_31 : mm_tb pg_G 37 31 = some (.iconst (-1), 0, 0, 0) := rfl
theorem st_37_31 {d : Nat} {ls t : List Value} {g : mm_M} {r : mm_R} : mm_Rn pg_G d 37 31 ls (t) g r ↔ mm_Rn pg_G d 37 32 ls (io_v (-1) :: t) g r := rn_iconst tb_37_31 r
theorem tb_37_32 : mm_tb pg_G 37 32 = some (.ireturn, 0, 0, 0) := rfl
theorem st_37_32 {d : Nat} {ls : List Value} {g : mm_M} {r : mm_R} {x : Int32} : mm_Rn pg_G d 37 32 ls [.int x] g r ↔ r = (some (.int x), g) := rn_ireturn_iff tb_37_32 (Or.inl rfl) r
theorem tb_38_0 : mm_tb pg_G 38 0 = some (.iload_n 1, 0, 0, 0) := rfl
theorem st_38_0 {l0 : Value} {d : Nat} {t : List Value} {g : mm_M} {r : mm_R} {x : Int32} : mm_Rn pg_G d 38 0 [l0, .int x] (t) g r ↔ mm_Rn pg_G d 38 1 [l0, .int x] (.int x :: t) g r := rn_iload_n tb_38_0 rfl r
theorem tb_38_1 : mm_tb pg_G 38 1 = some (.invokestatic 54, 53, 1, 175) := rfl
theorem st_38_1 {d c s c' s' : Nat} {ls t : List Value} {I J : sp_I} {r : mm_R} {a0 : Int32} {v : Int32} (hl : t.length ≤ 4) (hq : mm_Rn pg_G d 53 0 [.int a0] [] (sp_me I 0 0) (some (.int v), sp_me J c' s')) : mm_Rn pg_G (d + 1) 38 1 ls (.int a0 :: t) (sp_me I c s) r ↔ mm_Rn pg_G (d + 1) 38 4 ls (.int v :: t) (sp_me J (c + c') (s + s')) r := rn_stat (g := sp_me I c s) (st := .int a0 :: t) tb_38_1 (by decide) ⟨Nat.le_add_left _ t.length, hl, rfl⟩ hq r
theorem tb_38_4 : mm_tb pg_G 38 4 = some (.ifCond .eq 12, 16, 0, 0) := rfl
theorem st_38_4 {d : Nat} {ls t : List Value} {g : mm_M} {r : mm_R} {x : Int32} : mm_Rn pg_G d 38 4 ls (.int x :: t) g r ↔ if x = 0 then mm_Rn pg_G d 38 16 ls (t) g r else mm_Rn pg_G d 38 7 ls (t) g r := rn_if_eq tb_38_4 r
theorem tb_38_7 : mm_tb pg_G 38 7 = some (.aload_n 0, 0, 0, 0) := rfl
theorem st_38_7 {l1 : Value} {d : Nat} {t : List Value} {g : mm_M} {r : mm_R} {x : Nat} : mm_Rn pg_G d 38 7 [.ref x, l1] (t) g r ↔ mm_Rn pg_G d 38 8 [.ref x, l1] (.ref x :: t) g r := rn_aload_n tb_38_7 rfl r
theorem tb_38_8 : mm_tb pg_G 38 8 = some (.getfield 15, 0, 1, 94) := rfl
theorem st_38_8 {d : Nat} {ls t : List Value} {g : mm_M} {r : mm_R} {x : Nat} (hT : g.1 x = some (0, 8)) : mm_Rn pg_G d 38 8 ls (.ref x :: t) g r ↔ mm_Rn pg_G d 38 11 ls (g.2.1 x 1 :: t) g r := rn_getfield tb_38_8 hT r
theorem tb_38_11 : mm_tb pg_G 38 11 = some (.iload_n 1, 0, 0, 0) := rfl
theorem st_38_11 {l0 : Value} {d : Nat} {t : List Value} {g : mm_M} {r : mm_R} {x : Int32} : mm_Rn pg_G d 38 11 [l0, .int x] (t) g r ↔ mm_Rn pg_G d 38 12 [l0, .int x] (.int x :: t) g r := rn_iload_n tb_38_11 rfl r
theorem tb_38_12 : mm_tb pg_G 38 12 = some (.iaload, 0, 0, 0) := rfl
theorem st_38_12 {d : Nat} {ls t : List Value} {g : mm_M} {r : mm_R} {x : Nat} {j : Int32} (hc : mm_in (g.1 x) 100 101 j = true) : mm_Rn pg_G d 38 12 ls (.int j :: .ref x :: t) g r ↔ mm_Rn pg_G d 38 13 ls (g.2.1 x j.toNatClampNeg :: t) g r := rn_iaload tb_38_12 hc r
theorem tb_38_13 : mm_tb pg_G 38 13 = some (.goto 4, 17, 0, 0) := rfl
theorem st_38_13 {d : Nat} {ls t : List Value} {g : mm_M} {r : mm_R} : mm_Rn pg_G d 38 13 ls (t) g r ↔ mm_Rn pg_G d 38 17 ls (t) g r := rn_goto tb_38_13 r
theorem tb_38_16 : mm_tb pg_G 38 16 = some (.iconst (-1), 0, 0, 0) := rfl
theorem st_38_16 {d : Nat} {ls t : List Value} {g : mm_M} {r : mm_R} : mm_Rn pg_G d 38 16 ls (t) g r ↔ mm_Rn pg_G d 38 17 ls (io_v (-1) :: t) g r := rn_iconst tb_38_16 r
theorem tb_38_17 : mm_tb pg_G 38 17 = some (.ireturn, 0, 0, 0) := rfl
theorem st_38_17 {d : Nat} {ls : List Value} {g : mm_M} {r : mm_R} {x : Int32} : mm_Rn pg_G d 38 17 ls [.int x] g r ↔ r = (some (.int x), g) := rn_ireturn_iff tb_38_17 (Or.inl rfl) r
theorem tb_39_0 : mm_tb pg_G 39 0 = some (.aload_n 0, 0, 0, 0) := rfl
theorem st_39_0 {l1 l2 l3 : Value} {d : Nat} {t : List Value} {g : mm_M} {r : mm_R} {x : Nat} : mm_Rn pg_G d 39 0 [.ref x, l1, l2, l3] (t) g r ↔ mm_Rn pg_G d 39 1 [.ref x, l1, l2, l3] (.ref x :: t) g r := rn_aload_n tb_39_0 rfl r
theorem tb_39_1 : mm_tb pg_G 39 1 = some (.getfield 37, 0, 5, 98) := rfl
theorem st_39_1 {d : Nat} {ls t : List Value} {g : mm_M} {r : mm_R} {x : Nat} (hT : g.1 x = some (0, 8)) : mm_Rn pg_G d 39 1 ls (.ref x :: t) g r ↔ mm_Rn pg_G d 39 4 ls (g.2.1 x 5 :: t) g r := rn_getfield tb_39_1 hT r
theorem tb_39_4 : mm_tb pg_G 39 4 = some (.ifCond .ne 5, 9, 0, 0) := rfl
theorem st_39_4 {d : Nat} {ls t : List Value} {g : mm_M} {r : mm_R} {x : Int32} : mm_Rn pg_G d 39 4 ls (.int x :: t) g r ↔ if x = 0 then mm_Rn pg_G d 39 7 ls (t) g r else mm_Rn pg_G d 39 9 ls (t) g r := rn_if_ne tb_39_4 r
theorem tb_39_7 : mm_tb pg_G 39 7 = some (.iconst (-1), 0, 0, 0) := rfl
theorem st_39_7 {d : Nat} {ls t : List Value} {g : mm_M} {r : mm_R} : mm_Rn pg_G d 39 7 ls (t) g r ↔ mm_Rn pg_G d 39 8 ls (io_v (-1) :: t) g r := rn_iconst tb_39_7 r
theorem tb_39_8 : mm_tb pg_G 39 8 = some (.ireturn, 0, 0, 0) := rfl
theorem st_39_8 {d : Nat} {ls : List Value} {g : mm_M} {r : mm_R} {x : Int32} : mm_Rn pg_G d 39 8 ls [.int x] g r ↔ r = (some (.int x), g) := rn_ireturn_iff tb_39_8 (Or.inl rfl) r
theorem tb_39_9 : mm_tb pg_G 39 9 = some (.aload_n 0, 0, 0, 0) := rfl
theorem st_39_9 {l1 l2 l3 : Value} {d : Nat} {t : List Value} {g : mm_M} {r : mm_R} {x : Nat} : mm_Rn pg_G d 39 9 [.ref x, l1, l2, l3] (t) g r ↔ mm_Rn pg_G d 39 10 [.ref x, l1, l2, l3] (.ref x :: t) g r := rn_aload_n tb_39_9 rfl r
theorem tb_39_10 : mm_tb pg_G 39 10 = some (.iload_n 1, 0, 0, 0) := rfl
theorem st_39_10 {l0 l2 l3 : Value} {d : Nat} {t : List Value} {g : mm_M} {r : mm_R} {x : Int32} : mm_Rn pg_G d 39 10 [l0, .int x, l2, l3] (t) g r ↔ mm_Rn pg_G d 39 11 [l0, .int x, l2, l3] (.int x :: t) g r := rn_iload_n tb_39_10 rfl r
theorem tb_39_11 : mm_tb pg_G 39 11 = some (.invokevirtual 50, 52, 2, 172) := rfl
theorem st_39_11 {d c s c' s' : Nat} {ls t : List Value} {I J : sp_I} {r : mm_R} {a0 : Int32} {y : Nat} {v : Int32} (hl : t.length ≤ 4) (hT : sp_T I y = some (0, 8)) (hq : mm_Rn pg_G d 52 0 [.ref y, .int a0] [] (sp_me I 0 0) (some (.int v), sp_me J c' s')) : mm_Rn pg_G (d + 1) 39 11 ls (.int a0 :: .ref y :: t) (sp_me I c s) r ↔ mm_Rn pg_G (d + 1) 39 14 ls (.int v :: t) (sp_me J (c + c') (s + s')) r := rn_virt (g := sp_me I c s) (st := .int a0 :: .ref y :: t) tb_39_11 (decide_eq_true hT) ⟨Nat.le_add_left _ t.length, hl, rfl⟩ hq r
theorem tb_39_14 : mm_tb pg_G 39 14 = some (.ifCond .eq 21, 35, 0, 0) := rfl
theorem st_39_14 {d : Nat} {ls t : List Value} {g : mm_M} {r : mm_R} {x : Int32} : mm_Rn pg_G d 39 14 ls (.int x :: t) g r ↔ if x = 0 then mm_Rn pg_G d 39 35 ls (t) g r else mm_Rn pg_G d 39 17 ls (t) g r := rn_if_eq tb_39_14 r
theorem tb_39_17 : mm_tb pg_G 39 17 = some (.iload_n 2, 0, 0, 0) := rfl
theorem st_39_17 {l0 l1 l3 : Value} {d : Nat} {t : List Value} {g : mm_M} {r : mm_R} {x : Int32} : mm_Rn pg_G d 39 17 [l0, l1, .int x, l3] (t) g r ↔ mm_Rn pg_G d 39 18 [l0, l1, .int x, l3] (.int x :: t) g r := rn_iload_n tb_39_17 rfl r
theorem tb_39_18 : mm_tb pg_G 39 18 = some (.iconst 1, 0, 0, 0) := rfl
theorem st_39_18 {d : Nat} {ls t : List Value} {g : mm_M} {r : mm_R} : mm_Rn pg_G d 39 18 ls (t) g r ↔ mm_Rn pg_G d 39 19 ls (io_v 1 :: t) g r := rn_iconst tb_39_18 r
theorem tb_39_19 : mm_tb pg_G 39 19 = some (.if_icmp .lt 16, 35, 0, 0) := rfl
theorem st_39_19 {d : Nat} {ls t : List Value} {g : mm_M} {r : mm_R} {x y : Int32} : mm_Rn pg_G d 39 19 ls (.int y :: .int x :: t) g r ↔ if x < y then mm_Rn pg_G d 39 35 ls (t) g r else mm_Rn pg_G d 39 22 ls (t) g r := rn_icmp_lt tb_39_19 r
theorem tb_39_22 : mm_tb pg_G 39 22 = some (.iload_n 2, 0, 0, 0) := rfl
theorem st_39_22 {l0 l1 l3 : Value} {d : Nat} {t : List Value} {g : mm_M} {r : mm_R} {x : Int32} : mm_Rn pg_G d 39 22 [l0, l1, .int x, l3] (t) g r ↔ mm_Rn pg_G d 39 23 [l0, l1, .int x, l3] (.int x :: t) g r := rn_iload_n tb_39_22 rfl r
theorem tb_39_23 : mm_tb pg_G 39 23 = some (.aload_n 0, 0, 0, 0) := rfl
theorem st_39_23 {l1 l2 l3 : Value} {d : Nat} {t : List Value} {g : mm_M} {r : mm_R} {x : Nat} : mm_Rn pg_G d 39 23 [.ref x, l1, l2, l3] (t) g r ↔ mm_Rn pg_G d 39 24 [.ref x, l1, l2, l3] (.ref x :: t) g r := rn_aload_n tb_39_23 rfl r
theorem tb_39_24 : mm_tb pg_G 39 24 = some (.getfield 11, 0, 0, 93) := rfl
theorem st_39_24 {d : Nat} {ls t : List Value} {g : mm_M} {r : mm_R} {x : Nat} (hT : g.1 x = some (0, 8)) : mm_Rn pg_G d 39 24 ls (.ref x :: t) g r ↔ mm_Rn pg_G d 39 27 ls (g.2.1 x 0 :: t) g r := rn_getfield tb_39_24 hT r
theorem tb_39_27 : mm_tb pg_G 39 27 = some (.iload_n 1, 0, 0, 0) := rfl
theorem st_39_27 {l0 l2 l3 : Value} {d : Nat} {t : List Value} {g : mm_M} {r : mm_R} {x : Int32} : mm_Rn pg_G d 39 27 [l0, .int x, l2, l3] (t) g r ↔ mm_Rn pg_G d 39 28 [l0, .int x, l2, l3] (.int x :: t) g r := rn_iload_n tb_39_27 rfl r
theorem tb_39_28 : mm_tb pg_G 39 28 = some (.aaload, 0, 0, 0) := rfl
theorem st_39_28 {d : Nat} {ls t : List Value} {g : mm_M} {r : mm_R} {x : Nat} {j : Int32} (hc : mm_in (g.1 x) 102 103 j = true) : mm_Rn pg_G d 39 28 ls (.int j :: .ref x :: t) g r ↔ mm_Rn pg_G d 39 29 ls (g.2.1 x j.toNatClampNeg :: t) g r := rn_aaload tb_39_28 hc r
theorem tb_39_29 : mm_tb pg_G 39 29 = some (.getfield 57, 3, 2, 146) := rfl
theorem st_39_29 {d : Nat} {ls t : List Value} {g : mm_M} {r : mm_R} {x : Nat} (hT : g.1 x = some (3, 10)) : mm_Rn pg_G d 39 29 ls (.ref x :: t) g r ↔ mm_Rn pg_G d 39 32 ls (g.2.1 x 2 :: t) g r := rn_getfield tb_39_29 hT r
theorem tb_39_32 : mm_tb pg_G 39 32 = some (.if_icmp .le 6, 38, 0, 0) := rfl
theorem st_39_32 {d : Nat} {ls t : List Value} {g : mm_M} {r : mm_R} {x y : Int32} : mm_Rn pg_G d 39 32 ls (.int y :: .int x :: t) g r ↔ if x ≤ y then mm_Rn pg_G d 39 38 ls (t) g r else mm_Rn pg_G d 39 35 ls (t) g r := rn_icmp_le tb_39_32 r
theorem tb_39_35 : mm_tb pg_G 39 35 = some (.bipush (-2), 0, 0, 0) := rfl
theorem st_39_35 {d : Nat} {ls t : List Value} {g : mm_M} {r : mm_R} : mm_Rn pg_G d 39 35 ls (t) g r ↔ mm_Rn pg_G d 39 37 ls (io_v (-2) :: t) g r := rn_bipush tb_39_35 r
theorem tb_39_37 : mm_tb pg_G 39 37 = some (.ireturn, 0, 0, 0) := rfl
theorem st_39_37 {d : Nat} {ls : List Value} {g : mm_M} {r : mm_R} {x : Int32} : mm_Rn pg_G d 39 37 ls [.int x] g r ↔ r = (some (.int x), g) := rn_ireturn_iff tb_39_37 (Or.inl rfl) r
theorem tb_39_38 : mm_tb pg_G 39 38 = some (.aload_n 0, 0, 0, 0) := rfl
theorem st_39_38 {l1 l2 l3 : Value} {d : Nat} {t : List Value} {g : mm_M} {r : mm_R} {x : Nat} : mm_Rn pg_G d 39 38 [.ref x, l1, l2, l3] (t) g r ↔ mm_Rn pg_G d 39 39 [.ref x, l1, l2, l3] (.ref x :: t) g r := rn_aload_n tb_39_38 rfl r
theorem tb_39_39 : mm_tb pg_G 39 39 = some (.getfield 11, 0, 0, 93) := rfl
theorem st_39_39 {d : Nat} {ls t : List Value} {g : mm_M} {r : mm_R} {x : Nat} (hT : g.1 x = some (0, 8)) : mm_Rn pg_G d 39 39 ls (.ref x :: t) g r ↔ mm_Rn pg_G d 39 42 ls (g.2.1 x 0 :: t) g r := rn_getfield tb_39_39 hT r
theorem tb_39_42 : mm_tb pg_G 39 42 = some (.iload_n 1, 0, 0, 0) := rfl
theorem st_39_42 {l0 l2 l3 : Value} {d : Nat} {t : List Value} {g : mm_M} {r : mm_R} {x : Int32} : mm_Rn pg_G d 39 42 [l0, .int x, l2, l3] (t) g r ↔ mm_Rn pg_G d 39 43 [l0, .int x, l2, l3] (.int x :: t) g r := rn_iload_n tb_39_42 rfl r
theorem tb_39_43 : mm_tb pg_G 39 43 = some (.aaload, 0, 0, 0) := rfl
theorem st_39_43 {d : Nat} {ls t : List Value} {g : mm_M} {r : mm_R} {x : Nat} {j : Int32} (hc : mm_in (g.1 x) 102 103 j = true) : mm_Rn pg_G d 39 43 ls (.int j :: .ref x :: t) g r ↔ mm_Rn pg_G d 39 44 ls (g.2.1 x j.toNatClampNeg :: t) g r := rn_aaload tb_39_43 hc r
theorem tb_39_44 : mm_tb pg_G 39 44 = some (.astore_n 3, 0, 0, 0) := rfl
theorem st_39_44 {l0 l1 l2 l3 : Value} {d : Nat} {t : List Value} {g : mm_M} {r : mm_R} {x : Nat} (hc : mm_c1 l2 = true) : mm_Rn pg_G d 39 44 [l0, l1, l2, l3] (.ref x :: t) g r ↔ mm_Rn pg_G d 39 45 [l0, l1, l2, .ref x] (t) g r := rn_astore_n tb_39_44 (mm_so_of (ls := [l0, l1, l2, l3]) (v := l2) (Nat.le_of_ble_eq_true rfl) rfl hc) r
theorem tb_39_45 : mm_tb pg_G 39 45 = some (.aload_n 3, 0, 0, 0) := rfl
theorem st_39_45 {l0 l1 l2 : Value} {d : Nat} {t : List Value} {g : mm_M} {r : mm_R} {x : Nat} : mm_Rn pg_G d 39 45 [l0, l1, l2, .ref x] (t) g r ↔ mm_Rn pg_G d 39 46 [l0, l1, l2, .ref x] (.ref x :: t) g r := rn_aload_n tb_39_45 rfl r
theorem tb_39_46 : mm_tb pg_G 39 46 = some (.getfield 85, 3, 4, 149) := rfl
theorem st_39_46 {d : Nat} {ls t : List Value} {g : mm_M} {r : mm_R} {x : Nat} (hT : g.1 x = some (3, 10)) : mm_Rn pg_G d 39 46 ls (.ref x :: t) g r ↔ mm_Rn pg_G d 39 49 ls (g.2.1 x 4 :: t) g r := rn_getfield tb_39_46 hT r
theorem tb_39_49 : mm_tb pg_G 39 49 = some (.invokevirtual 89, 5, 1, 250) := rfl
theorem st_39_49 {d c s c' s' : Nat} {ls t : List Value} {I J : sp_I} {r : mm_R} {y : Nat} {v : Int32} (hl : t.length ≤ 4) (hT : sp_T I y = some (5, 7)) (hq : mm_Rn pg_G d 5 0 [.ref y] [] (sp_me I 0 0) (some (.int v), sp_me J c' s')) : mm_Rn pg_G (d + 1) 39 49 ls (.ref y :: t) (sp_me I c s) r ↔ mm_Rn pg_G (d + 1) 39 52 ls (.int v :: t) (sp_me J (c + c') (s + s')) r := rn_virt (g := sp_me I c s) (st := .ref y :: t) tb_39_49 (decide_eq_true hT) ⟨Nat.le_add_left _ t.length, hl, rfl⟩ hq r
theorem tb_39_52 : mm_tb pg_G 39 52 = some (.ifCond .eq 6, 58, 0, 0) := rfl
theorem st_39_52 {d : Nat} {ls t : List Value} {g : mm_M} {r : mm_R} {x : Int32} : mm_Rn pg_G d 39 52 ls (.int x :: t) g r ↔ if x = 0 then mm_Rn pg_G d 39 58 ls (t) g r else mm_Rn pg_G d 39 55 ls (t) g r := rn_if_eq tb_39_52 r
theorem tb_39_55 : mm_tb pg_G 39 55 = some (.bipush (-3), 0, 0, 0) := rfl
theorem st_39_55 {d : Nat} {ls t : List Value} {g : mm_M} {r : mm_R} : mm_Rn pg_G d 39 55 ls (t) g r ↔ mm_Rn pg_G d 39 57 ls (io_v (-3) :: t) g r := rn_bipush tb_39_55 r
theorem tb_39_57 : mm_tb pg_G 39 57 = some (.ireturn, 0, 0, 0) := rfl
theorem st_39_57 {d : Nat} {ls : List Value} {g : mm_M} {r : mm_R} {x : Int32} : mm_Rn pg_G d 39 57 ls [.int x] g r ↔ r = (some (.int x), g) := rn_ireturn_iff tb_39_57 (Or.inl rfl) r
theorem tb_39_58 : mm_tb pg_G 39 58 = some (.aload_n 3, 0, 0, 0) := rfl
theorem st_39_58 {l0 l1 l2 : Value} {d : Nat} {t : List Value} {g : mm_M} {r : mm_R} {x : Nat} : mm_Rn pg_G d 39 58 [l0, l1, l2, .ref x] (t) g r ↔ mm_Rn pg_G d 39 59 [l0, l1, l2, .ref x] (.ref x :: t) g r := rn_aload_n tb_39_58 rfl r
theorem tb_39_59 : mm_tb pg_G 39 59 = some (.getfield 85, 3, 4, 149) := rfl
theorem st_39_59 {d : Nat} {ls t : List Value} {g : mm_M} {r : mm_R} {x : Nat} (hT : g.1 x = some (3, 10)) : mm_Rn pg_G d 39 59 ls (.ref x :: t) g r ↔ mm_Rn pg_G d 39 62 ls (g.2.1 x 4 :: t) g r := rn_getfield tb_39_59 hT r
theorem tb_39_62 : mm_tb pg_G 39 62 = some (.invokevirtual 95, 4, 1, 254) := rfl
theorem st_39_62 {d c s c' s' : Nat} {ls t : List Value} {I J : sp_I} {r : mm_R} {y : Nat} {v : Int32} (hl : t.length ≤ 4) (hT : sp_T I y = some (5, 7)) (hq : mm_Rn pg_G d 4 0 [.ref y] [] (sp_me I 0 0) (some (.int v), sp_me J c' s')) : mm_Rn pg_G (d + 1) 39 62 ls (.ref y :: t) (sp_me I c s) r ↔ mm_Rn pg_G (d + 1) 39 65 ls (.int v :: t) (sp_me J (c + c') (s + s')) r := rn_virt (g := sp_me I c s) (st := .ref y :: t) tb_39_62 (decide_eq_true hT) ⟨Nat.le_add_left _ t.length, hl, rfl⟩ hq r
theorem tb_39_65 : mm_tb pg_G 39 65 = some (.ifCond .eq 28, 93, 0, 0) := rfl
theorem st_39_65 {d : Nat} {ls t : List Value} {g : mm_M} {r : mm_R} {x : Int32} : mm_Rn pg_G d 39 65 ls (.int x :: t) g r ↔ if x = 0 then mm_Rn pg_G d 39 93 ls (t) g r else mm_Rn pg_G d 39 68 ls (t) g r := rn_if_eq tb_39_65 r
theorem tb_39_68 : mm_tb pg_G 39 68 = some (.aload_n 0, 0, 0, 0) := rfl
theorem st_39_68 {l1 l2 l3 : Value} {d : Nat} {t : List Value} {g : mm_M} {r : mm_R} {x : Nat} : mm_Rn pg_G d 39 68 [.ref x, l1, l2, l3] (t) g r ↔ mm_Rn pg_G d 39 69 [.ref x, l1, l2, l3] (.ref x :: t) g r := rn_aload_n tb_39_68 rfl r
theorem tb_39_69 : mm_tb pg_G 39 69 = some (.getfield 29, 0, 3, 96) := rfl
theorem st_39_69 {d : Nat} {ls t : List Value} {g : mm_M} {r : mm_R} {x : Nat} (hT : g.1 x = some (0, 8)) : mm_Rn pg_G d 39 69 ls (.ref x :: t) g r ↔ mm_Rn pg_G d 39 72 ls (g.2.1 x 3 :: t) g r := rn_getfield tb_39_69 hT r
theorem tb_39_72 : mm_tb pg_G 39 72 = some (.getfield 98, 2, 1, 84) := rfl
theorem st_39_72 {d : Nat} {ls t : List Value} {g : mm_M} {r : mm_R} {x : Nat} (hT : g.1 x = some (2, 4)) : mm_Rn pg_G d 39 72 ls (.ref x :: t) g r ↔ mm_Rn pg_G d 39 75 ls (g.2.1 x 1 :: t) g r := rn_getfield tb_39_72 hT r
theorem tb_39_75 : mm_tb pg_G 39 75 = some (.aload_n 3, 0, 0, 0) := rfl
theorem st_39_75 {l0 l1 l2 : Value} {d : Nat} {t : List Value} {g : mm_M} {r : mm_R} {x : Nat} : mm_Rn pg_G d 39 75 [l0, l1, l2, .ref x] (t) g r ↔ mm_Rn pg_G d 39 76 [l0, l1, l2, .ref x] (.ref x :: t) g r := rn_aload_n tb_39_75 rfl r
theorem tb_39_76 : mm_tb pg_G 39 76 = some (.getfield 85, 3, 4, 149) := rfl
theorem st_39_76 {d : Nat} {ls t : List Value} {g : mm_M} {r : mm_R} {x : Nat} (hT : g.1 x = some (3, 10)) : mm_Rn pg_G d 39 76 ls (.ref x :: t) g r ↔ mm_Rn pg_G d 39 79 ls (g.2.1 x 4 :: t) g r := rn_getfield tb_39_76 hT r
theorem tb_39_79 : mm_tb pg_G 39 79 = some (.getfield 101, 5, 3, 129) := rfl
theorem st_39_79 {d : Nat} {ls t : List Value} {g : mm_M} {r : mm_R} {x : Nat} (hT : g.1 x = some (5, 7)) : mm_Rn pg_G d 39 79 ls (.ref x :: t) g r ↔ mm_Rn pg_G d 39 82 ls (g.2.1 x 3 :: t) g r := rn_getfield tb_39_79 hT r
theorem tb_39_82 : mm_tb pg_G 39 82 = some (.isub, 0, 0, 0) := rfl
theorem st_39_82 {d : Nat} {ls t : List Value} {g : mm_M} {r : mm_R} {x y : Int32} : mm_Rn pg_G d 39 82 ls (.int y :: .int x :: t) g r ↔ mm_Rn pg_G d 39 83 ls (.int (x - y) :: t) g r := rn_isub tb_39_82 r
theorem tb_39_83 : mm_tb pg_G 39 83 = some (.aload_n 3, 0, 0, 0) := rfl
theorem st_39_83 {l0 l1 l2 : Value} {d : Nat} {t : List Value} {g : mm_M} {r : mm_R} {x : Nat} : mm_Rn pg_G d 39 83 [l0, l1, l2, .ref x] (t) g r ↔ mm_Rn pg_G d 39 84 [l0, l1, l2, .ref x] (.ref x :: t) g r := rn_aload_n tb_39_83 rfl r
theorem tb_39_84 : mm_tb pg_G 39 84 = some (.getfield 104, 3, 0, 142) := rfl
theorem st_39_84 {d : Nat} {ls t : List Value} {g : mm_M} {r : mm_R} {x : Nat} (hT : g.1 x = some (3, 10)) : mm_Rn pg_G d 39 84 ls (.ref x :: t) g r ↔ mm_Rn pg_G d 39 87 ls (g.2.1 x 0 :: t) g r := rn_getfield tb_39_84 hT r
theorem tb_39_87 : mm_tb pg_G 39 87 = some (.if_icmp .ge 6, 93, 0, 0) := rfl
theorem st_39_87 {d : Nat} {ls t : List Value} {g : mm_M} {r : mm_R} {x y : Int32} : mm_Rn pg_G d 39 87 ls (.int y :: .int x :: t) g r ↔ if y ≤ x then mm_Rn pg_G d 39 93 ls (t) g r else mm_Rn pg_G d 39 90 ls (t) g r := rn_icmp_ge tb_39_87 r
theorem tb_39_90 : mm_tb pg_G 39 90 = some (.bipush (-4), 0, 0, 0) := rfl
theorem st_39_90 {d : Nat} {ls t : List Value} {g : mm_M} {r : mm_R} : mm_Rn pg_G d 39 90 ls (t) g r ↔ mm_Rn pg_G d 39 92 ls (io_v (-4) :: t) g r := rn_bipush tb_39_90 r
theorem tb_39_92 : mm_tb pg_G 39 92 = some (.ireturn, 0, 0, 0) := rfl
theorem st_39_92 {d : Nat} {ls : List Value} {g : mm_M} {r : mm_R} {x : Int32} : mm_Rn pg_G d 39 92 ls [.int x] g r ↔ r = (some (.int x), g) := rn_ireturn_iff tb_39_92 (Or.inl rfl) r
theorem tb_39_93 : mm_tb pg_G 39 93 = some (.aload_n 3, 0, 0, 0) := rfl
theorem st_39_93 {l0 l1 l2 : Value} {d : Nat} {t : List Value} {g : mm_M} {r : mm_R} {x : Nat} : mm_Rn pg_G d 39 93 [l0, l1, l2, .ref x] (t) g r ↔ mm_Rn pg_G d 39 94 [l0, l1, l2, .ref x] (.ref x :: t) g r := rn_aload_n tb_39_93 rfl r
theorem tb_39_94 : mm_tb pg_G 39 94 = some (.getfield 85, 3, 4, 149) := rfl
theorem st_39_94 {d : Nat} {ls t : List Value} {g : mm_M} {r : mm_R} {x : Nat} (hT : g.1 x = some (3, 10)) : mm_Rn pg_G d 39 94 ls (.ref x :: t) g r ↔ mm_Rn pg_G d 39 97 ls (g.2.1 x 4 :: t) g r := rn_getfield tb_39_94 hT r
theorem tb_39_97 : mm_tb pg_G 39 97 = some (.iload_n 2, 0, 0, 0) := rfl
theorem st_39_97 {l0 l1 l3 : Value} {d : Nat} {t : List Value} {g : mm_M} {r : mm_R} {x : Int32} : mm_Rn pg_G d 39 97 [l0, l1, .int x, l3] (t) g r ↔ mm_Rn pg_G d 39 98 [l0, l1, .int x, l3] (.int x :: t) g r := rn_iload_n tb_39_97 rfl r
theorem tb_39_98 : mm_tb pg_G 39 98 = some (.aload_n 0, 0, 0, 0) := rfl
theorem st_39_98 {l1 l2 l3 : Value} {d : Nat} {t : List Value} {g : mm_M} {r : mm_R} {x : Nat} : mm_Rn pg_G d 39 98 [.ref x, l1, l2, l3] (t) g r ↔ mm_Rn pg_G d 39 99 [.ref x, l1, l2, l3] (.ref x :: t) g r := rn_aload_n tb_39_98 rfl r
theorem tb_39_99 : mm_tb pg_G 39 99 = some (.getfield 29, 0, 3, 96) := rfl
theorem st_39_99 {d : Nat} {ls t : List Value} {g : mm_M} {r : mm_R} {x : Nat} (hT : g.1 x = some (0, 8)) : mm_Rn pg_G d 39 99 ls (.ref x :: t) g r ↔ mm_Rn pg_G d 39 102 ls (g.2.1 x 3 :: t) g r := rn_getfield tb_39_99 hT r
theorem tb_39_102 : mm_tb pg_G 39 102 = some (.getfield 98, 2, 1, 84) := rfl
theorem st_39_102 {d : Nat} {ls t : List Value} {g : mm_M} {r : mm_R} {x : Nat} (hT : g.1 x = some (2, 4)) : mm_Rn pg_G d 39 102 ls (.ref x :: t) g r ↔ mm_Rn pg_G d 39 105 ls (g.2.1 x 1 :: t) g r := rn_getfield tb_39_102 hT r
theorem tb_39_105 : mm_tb pg_G 39 105 = some (.aload_n 3, 0, 0, 0) := rfl
theorem st_39_105 {l0 l1 l2 : Value} {d : Nat} {t : List Value} {g : mm_M} {r : mm_R} {x : Nat} : mm_Rn pg_G d 39 105 [l0, l1, l2, .ref x] (t) g r ↔ mm_Rn pg_G d 39 106 [l0, l1, l2, .ref x] (.ref x :: t) g r := rn_aload_n tb_39_105 rfl r
theorem tb_39_106 : mm_tb pg_G 39 106 = some (.getfield 107, 3, 1, 144) := rfl
theorem st_39_106 {d : Nat} {ls t : List Value} {g : mm_M} {r : mm_R} {x : Nat} (hT : g.1 x = some (3, 10)) : mm_Rn pg_G d 39 106 ls (.ref x :: t) g r ↔ mm_Rn pg_G d 39 109 ls (g.2.1 x 1 :: t) g r := rn_getfield tb_39_106 hT r
theorem tb_39_109 : mm_tb pg_G 39 109 = some (.invokevirtual 110, 7, 4, 258) := rfl
theorem st_39_109 {d c s c' s' : Nat} {ls t : List Value} {I J : sp_I} {r : mm_R} {a0 a1 a2 : Int32} {y : Nat} (hl : t.length ≤ 4) (hT : sp_T I y = some (5, 7)) (hq : mm_Rn pg_G d 7 0 [.ref y, .int a0, .int a1, .int a2, .retAddr 0] [] (sp_me I 0 0) (none, sp_me J c' s')) : mm_Rn pg_G (d + 1) 39 109 ls (.int a2 :: .int a1 :: .int a0 :: .ref y :: t) (sp_me I c s) r ↔ mm_Rn pg_G (d + 1) 39 112 ls (t) (sp_me J (c + c') (s + s')) r := rn_virt (g := sp_me I c s) (st := .int a2 :: .int a1 :: .int a0 :: .ref y :: t) tb_39_109 (decide_eq_true hT) ⟨Nat.le_add_left _ t.length, hl, rfl⟩ hq r
theorem tb_39_112 : mm_tb pg_G 39 112 = some (.aload_n 0, 0, 0, 0) := rfl
theorem st_39_112 {l1 l2 l3 : Value} {d : Nat} {t : List Value} {g : mm_M} {r : mm_R} {x : Nat} : mm_Rn pg_G d 39 112 [.ref x, l1, l2, l3] (t) g r ↔ mm_Rn pg_G d 39 113 [.ref x, l1, l2, l3] (.ref x :: t) g r := rn_aload_n tb_39_112 rfl r
theorem tb_39_113 : mm_tb pg_G 39 113 = some (.dup, 0, 0, 0) := rfl
theorem st_39_113 {d : Nat} {ls t : List Value} {g : mm_M} {r : mm_R} {v : Value} (hc : mm_c1 v = true) : mm_Rn pg_G d 39 113 ls (v :: t) g r ↔ mm_Rn pg_G d 39 114 ls (v :: v :: t) g r := rn_dup tb_39_113 hc r
theorem tb_39_114 : mm_tb pg_G 39 114 = some (.getfield 41, 0, 6, 99) := rfl
theorem st_39_114 {d : Nat} {ls t : List Value} {g : mm_M} {r : mm_R} {x : Nat} (hT : g.1 x = some (0, 8)) : mm_Rn pg_G d 39 114 ls (.ref x :: t) g r ↔ mm_Rn pg_G d 39 117 ls (g.2.1 x 6 :: t) g r := rn_getfield tb_39_114 hT r
theorem tb_39_117 : mm_tb pg_G 39 117 = some (.iconst 1, 0, 0, 0) := rfl
theorem st_39_117 {d : Nat} {ls t : List Value} {g : mm_M} {r : mm_R} : mm_Rn pg_G d 39 117 ls (t) g r ↔ mm_Rn pg_G d 39 118 ls (io_v 1 :: t) g r := rn_iconst tb_39_117 r
theorem tb_39_118 : mm_tb pg_G 39 118 = some (.iadd, 0, 0, 0) := rfl
theorem st_39_118 {d : Nat} {ls t : List Value} {g : mm_M} {r : mm_R} {x y : Int32} : mm_Rn pg_G d 39 118 ls (.int y :: .int x :: t) g r ↔ mm_Rn pg_G d 39 119 ls (.int (x + y) :: t) g r := rn_iadd tb_39_118 r
theorem tb_39_119 : mm_tb pg_G 39 119 = some (.putfield 41, 0, 6, 99) := rfl
theorem st_39_119 {d : Nat} {ls t : List Value} {g : mm_M} {r : mm_R} {x : Nat} {v : Int32} (hT : g.1 x = some (0, 8)) : mm_Rn pg_G d 39 119 ls (.int v :: .ref x :: t) g r ↔ mm_Rn pg_G d 39 122 ls (t) (mm_wr g x 6 (.int v)) r := rn_putfield tb_39_119 hT rfl r
theorem tb_39_122 : mm_tb pg_G 39 122 = some (.aload_n 0, 0, 0, 0) := rfl
theorem st_39_122 {l1 l2 l3 : Value} {d : Nat} {t : List Value} {g : mm_M} {r : mm_R} {x : Nat} : mm_Rn pg_G d 39 122 [.ref x, l1, l2, l3] (t) g r ↔ mm_Rn pg_G d 39 123 [.ref x, l1, l2, l3] (.ref x :: t) g r := rn_aload_n tb_39_122 rfl r
theorem tb_39_123 : mm_tb pg_G 39 123 = some (.getfield 41, 0, 6, 99) := rfl
theorem st_39_123 {d : Nat} {ls t : List Value} {g : mm_M} {r : mm_R} {x : Nat} (hT : g.1 x = some (0, 8)) : mm_Rn pg_G d 39 123 ls (.ref x :: t) g r ↔ mm_Rn pg_G d 39 126 ls (g.2.1 x 6 :: t) g r := rn_getfield tb_39_123 hT r
theorem tb_39_126 : mm_tb pg_G 39 126 = some (.ireturn, 0, 0, 0) := rfl
theorem st_39_126 {d : Nat} {ls : List Value} {g : mm_M} {r : mm_R} {x : Int32} : mm_Rn pg_G d 39 126 ls [.int x] g r ↔ r = (some (.int x), g) := rn_ireturn_iff tb_39_126 (Or.inl rfl) r
theorem tb_40_0 : mm_tb pg_G 40 0 = some (.aload_n 0, 0, 0, 0) := rfl
theorem st_40_0 {l1 : Value} {d : Nat} {t : List Value} {g : mm_M} {r : mm_R} {x : Nat} : mm_Rn pg_G d 40 0 [.ref x, l1] (t) g r ↔ mm_Rn pg_G d 40 1 [.ref x, l1] (.ref x :: t) g r := rn_aload_n tb_40_0 rfl r
theorem tb_40_1 : mm_tb pg_G 40 1 = some (.getfield 37, 0, 5, 98) := rfl
theorem st_40_1 {d : Nat} {ls t : List Value} {g : mm_M} {r : mm_R} {x : Nat} (hT : g.1 x = some (0, 8)) : mm_Rn pg_G d 40 1 ls (.ref x :: t) g r ↔ mm_Rn pg_G d 40 4 ls (g.2.1 x 5 :: t) g r := rn_getfield tb_40_1 hT r
theorem tb_40_4 : mm_tb pg_G 40 4 = some (.ifCond .eq 24, 28, 0, 0) := rfl
theorem st_40_4 {d : Nat} {ls t : List Value} {g : mm_M} {r : mm_R} {x : Int32} : mm_Rn pg_G d 40 4 ls (.int x :: t) g r ↔ if x = 0 then mm_Rn pg_G d 40 28 ls (t) g r else mm_Rn pg_G d 40 7 ls (t) g r := rn_if_eq tb_40_4 r
theorem tb_40_7 : mm_tb pg_G 40 7 = some (.aload_n 0, 0, 0, 0) := rfl
theorem st_40_7 {l1 : Value} {d : Nat} {t : List Value} {g : mm_M} {r : mm_R} {x : Nat} : mm_Rn pg_G d 40 7 [.ref x, l1] (t) g r ↔ mm_Rn pg_G d 40 8 [.ref x, l1] (.ref x :: t) g r := rn_aload_n tb_40_7 rfl r
theorem tb_40_8 : mm_tb pg_G 40 8 = some (.getfield 22, 0, 2, 95) := rfl
theorem st_40_8 {d : Nat} {ls t : List Value} {g : mm_M} {r : mm_R} {x : Nat} (hT : g.1 x = some (0, 8)) : mm_Rn pg_G d 40 8 ls (.ref x :: t) g r ↔ mm_Rn pg_G d 40 11 ls (g.2.1 x 2 :: t) g r := rn_getfield tb_40_8 hT r
theorem tb_40_11 : mm_tb pg_G 40 11 = some (.invokevirtual 113, 22, 1, 238) := rfl
theorem st_40_11 {d c s c' s' : Nat} {ls t : List Value} {I J : sp_I} {r : mm_R} {y : Nat} {v : Int32} (hl : t.length ≤ 4) (hT : sp_T I y = some (1, 9)) (hq : mm_Rn pg_G d 22 0 [.ref y] [] (sp_me I 0 0) (some (.int v), sp_me J c' s')) : mm_Rn pg_G (d + 1) 40 11 ls (.ref y :: t) (sp_me I c s) r ↔ mm_Rn pg_G (d + 1) 40 14 ls (.int v :: t) (sp_me J (c + c') (s + s')) r := rn_virt (g := sp_me I c s) (st := .ref y :: t) tb_40_11 (decide_eq_true hT) ⟨Nat.le_add_left _ t.length, hl, rfl⟩ hq r
theorem tb_40_14 : mm_tb pg_G 40 14 = some (.ifCond .eq 14, 28, 0, 0) := rfl
theorem st_40_14 {d : Nat} {ls t : List Value} {g : mm_M} {r : mm_R} {x : Int32} : mm_Rn pg_G d 40 14 ls (.int x :: t) g r ↔ if x = 0 then mm_Rn pg_G d 40 28 ls (t) g r else mm_Rn pg_G d 40 17 ls (t) g r := rn_if_eq tb_40_14 r
theorem tb_40_17 : mm_tb pg_G 40 17 = some (.iload_n 1, 0, 0, 0) := rfl
theorem st_40_17 {l0 : Value} {d : Nat} {t : List Value} {g : mm_M} {r : mm_R} {x : Int32} : mm_Rn pg_G d 40 17 [l0, .int x] (t) g r ↔ mm_Rn pg_G d 40 18 [l0, .int x] (.int x :: t) g r := rn_iload_n tb_40_17 rfl r
theorem tb_40_18 : mm_tb pg_G 40 18 = some (.iconst 1, 0, 0, 0) := rfl
theorem st_40_18 {d : Nat} {ls t : List Value} {g : mm_M} {r : mm_R} : mm_Rn pg_G d 40 18 ls (t) g r ↔ mm_Rn pg_G d 40 19 ls (io_v 1 :: t) g r := rn_iconst tb_40_18 r
theorem tb_40_19 : mm_tb pg_G 40 19 = some (.if_icmp .lt 9, 28, 0, 0) := rfl
theorem st_40_19 {d : Nat} {ls t : List Value} {g : mm_M} {r : mm_R} {x y : Int32} : mm_Rn pg_G d 40 19 ls (.int y :: .int x :: t) g r ↔ if x < y then mm_Rn pg_G d 40 28 ls (t) g r else mm_Rn pg_G d 40 22 ls (t) g r := rn_icmp_lt tb_40_19 r
theorem tb_40_22 : mm_tb pg_G 40 22 = some (.iload_n 1, 0, 0, 0) := rfl
theorem st_40_22 {l0 : Value} {d : Nat} {t : List Value} {g : mm_M} {r : mm_R} {x : Int32} : mm_Rn pg_G d 40 22 [l0, .int x] (t) g r ↔ mm_Rn pg_G d 40 23 [l0, .int x] (.int x :: t) g r := rn_iload_n tb_40_22 rfl r
theorem tb_40_23 : mm_tb pg_G 40 23 = some (.bipush 50, 0, 0, 0) := rfl
theorem st_40_23 {d : Nat} {ls t : List Value} {g : mm_M} {r : mm_R} : mm_Rn pg_G d 40 23 ls (t) g r ↔ mm_Rn pg_G d 40 25 ls (io_v 50 :: t) g r := rn_bipush tb_40_23 r
theorem tb_40_25 : mm_tb pg_G 40 25 = some (.if_icmp .le 5, 30, 0, 0) := rfl
theorem st_40_25 {d : Nat} {ls t : List Value} {g : mm_M} {r : mm_R} {x y : Int32} : mm_Rn pg_G d 40 25 ls (.int y :: .int x :: t) g r ↔ if x ≤ y then mm_Rn pg_G d 40 30 ls (t) g r else mm_Rn pg_G d 40 28 ls (t) g r := rn_icmp_le tb_40_25 r
theorem tb_40_28 : mm_tb pg_G 40 28 = some (.iconst 0, 0, 0, 0) := rfl
theorem st_40_28 {d : Nat} {ls t : List Value} {g : mm_M} {r : mm_R} : mm_Rn pg_G d 40 28 ls (t) g r ↔ mm_Rn pg_G d 40 29 ls (io_v 0 :: t) g r := rn_iconst tb_40_28 r
theorem tb_40_29 : mm_tb pg_G 40 29 = some (.ireturn, 0, 0, 0) := rfl
theorem st_40_29 {d : Nat} {ls : List Value} {g : mm_M} {r : mm_R} {x : Int32} (hb : x = 0 ∨ x = 1) : mm_Rn pg_G d 40 29 ls [.int x] g r ↔ r = (some (.int x), g) := rn_ireturn_iff tb_40_29 (Or.inr ⟨rfl, hb⟩) r
theorem tb_40_30 : mm_tb pg_G 40 30 = some (.aload_n 0, 0, 0, 0) := rfl
theorem st_40_30 {l1 : Value} {d : Nat} {t : List Value} {g : mm_M} {r : mm_R} {x : Nat} : mm_Rn pg_G d 40 30 [.ref x, l1] (t) g r ↔ mm_Rn pg_G d 40 31 [.ref x, l1] (.ref x :: t) g r := rn_aload_n tb_40_30 rfl r
theorem tb_40_31 : mm_tb pg_G 40 31 = some (.getfield 22, 0, 2, 95) := rfl
theorem st_40_31 {d : Nat} {ls t : List Value} {g : mm_M} {r : mm_R} {x : Nat} (hT : g.1 x = some (0, 8)) : mm_Rn pg_G d 40 31 ls (.ref x :: t) g r ↔ mm_Rn pg_G d 40 34 ls (g.2.1 x 2 :: t) g r := rn_getfield tb_40_31 hT r
theorem tb_40_34 : mm_tb pg_G 40 34 = some (.iload_n 1, 0, 0, 0) := rfl
theorem st_40_34 {l0 : Value} {d : Nat} {t : List Value} {g : mm_M} {r : mm_R} {x : Int32} : mm_Rn pg_G d 40 34 [l0, .int x] (t) g r ↔ mm_Rn pg_G d 40 35 [l0, .int x] (.int x :: t) g r := rn_iload_n tb_40_34 rfl r
theorem tb_40_35 : mm_tb pg_G 40 35 = some (.aload_n 0, 0, 0, 0) := rfl
theorem st_40_35 {l1 : Value} {d : Nat} {t : List Value} {g : mm_M} {r : mm_R} {x : Nat} : mm_Rn pg_G d 40 35 [.ref x, l1] (t) g r ↔ mm_Rn pg_G d 40 36 [.ref x, l1] (.ref x :: t) g r := rn_aload_n tb_40_35 rfl r
theorem tb_40_36 : mm_tb pg_G 40 36 = some (.getfield 29, 0, 3, 96) := rfl
theorem st_40_36 {d : Nat} {ls t : List Value} {g : mm_M} {r : mm_R} {x : Nat} (hT : g.1 x = some (0, 8)) : mm_Rn pg_G d 40 36 ls (.ref x :: t) g r ↔ mm_Rn pg_G d 40 39 ls (g.2.1 x 3 :: t) g r := rn_getfield tb_40_36 hT r
theorem tb_40_39 : mm_tb pg_G 40 39 = some (.getfield 98, 2, 1, 84) := rfl
theorem st_40_39 {d : Nat} {ls t : List Value} {g : mm_M} {r : mm_R} {x : Nat} (hT : g.1 x = some (2, 4)) : mm_Rn pg_G d 40 39 ls (.ref x :: t) g r ↔ mm_Rn pg_G d 40 42 ls (g.2.1 x 1 :: t) g r := rn_getfield tb_40_39 hT r
theorem tb_40_42 : mm_tb pg_G 40 42 = some (.invokevirtual 116, 24, 3, 266) := rfl
theorem st_40_42 {d c s c' s' : Nat} {ls t : List Value} {I J : sp_I} {r : mm_R} {a0 a1 : Int32} {y : Nat} {v : Int32} (hl : t.length ≤ 4) (hT : sp_T I y = some (1, 9)) (hq : mm_Rn pg_G d 24 0 [.ref y, .int a0, .int a1] [] (sp_me I 0 0) (some (.int v), sp_me J c' s')) : mm_Rn pg_G (d + 1) 40 42 ls (.int a1 :: .int a0 :: .ref y :: t) (sp_me I c s) r ↔ mm_Rn pg_G (d + 1) 40 45 ls (.int v :: t) (sp_me J (c + c') (s + s')) r := rn_virt (g := sp_me I c s) (st := .int a1 :: .int a0 :: .ref y :: t) tb_40_42 (decide_eq_true hT) ⟨Nat.le_add_left _ t.length, hl, rfl⟩ hq r
theorem tb_40_45 : mm_tb pg_G 40 45 = some (.ireturn, 0, 0, 0) := rfl
theorem st_40_45 {d : Nat} {ls : List Value} {g : mm_M} {r : mm_R} {x : Int32} (hb : x = 0 ∨ x = 1) : mm_Rn pg_G d 40 45 ls [.int x] g r ↔ r = (some (.int x), g) := rn_ireturn_iff tb_40_45 (Or.inr ⟨rfl, hb⟩) r
theorem tb_41_0 : mm_tb pg_G 41 0 = some (.aload_n 0, 0, 0, 0) := rfl
theorem st_41_0 {l1 l2 l3 : Value} {d : Nat} {t : List Value} {g : mm_M} {r : mm_R} {x : Nat} : mm_Rn pg_G d 41 0 [.ref x, l1, l2, l3] (t) g r ↔ mm_Rn pg_G d 41 1 [.ref x, l1, l2, l3] (.ref x :: t) g r := rn_aload_n tb_41_0 rfl r
theorem tb_41_1 : mm_tb pg_G 41 1 = some (.getfield 37, 0, 5, 98) := rfl
theorem st_41_1 {d : Nat} {ls t : List Value} {g : mm_M} {r : mm_R} {x : Nat} (hT : g.1 x = some (0, 8)) : mm_Rn pg_G d 41 1 ls (.ref x :: t) g r ↔ mm_Rn pg_G d 41 4 ls (g.2.1 x 5 :: t) g r := rn_getfield tb_41_1 hT r
theorem tb_41_4 : mm_tb pg_G 41 4 = some (.ifCond .eq 14, 18, 0, 0) := rfl
theorem st_41_4 {d : Nat} {ls t : List Value} {g : mm_M} {r : mm_R} {x : Int32} : mm_Rn pg_G d 41 4 ls (.int x :: t) g r ↔ if x = 0 then mm_Rn pg_G d 41 18 ls (t) g r else mm_Rn pg_G d 41 7 ls (t) g r := rn_if_eq tb_41_4 r
theorem tb_41_7 : mm_tb pg_G 41 7 = some (.iload_n 1, 0, 0, 0) := rfl
theorem st_41_7 {l0 l2 l3 : Value} {d : Nat} {t : List Value} {g : mm_M} {r : mm_R} {x : Int32} : mm_Rn pg_G d 41 7 [l0, .int x, l2, l3] (t) g r ↔ mm_Rn pg_G d 41 8 [l0, .int x, l2, l3] (.int x :: t) g r := rn_iload_n tb_41_7 rfl r
theorem tb_41_8 : mm_tb pg_G 41 8 = some (.ifCond .lt 10, 18, 0, 0) := rfl
theorem st_41_8 {d : Nat} {ls t : List Value} {g : mm_M} {r : mm_R} {x : Int32} : mm_Rn pg_G d 41 8 ls (.int x :: t) g r ↔ if x < 0 then mm_Rn pg_G d 41 18 ls (t) g r else mm_Rn pg_G d 41 11 ls (t) g r := rn_if_lt tb_41_8 r
theorem tb_41_11 : mm_tb pg_G 41 11 = some (.iload_n 1, 0, 0, 0) := rfl
theorem st_41_11 {l0 l2 l3 : Value} {d : Nat} {t : List Value} {g : mm_M} {r : mm_R} {x : Int32} : mm_Rn pg_G d 41 11 [l0, .int x, l2, l3] (t) g r ↔ mm_Rn pg_G d 41 12 [l0, .int x, l2, l3] (.int x :: t) g r := rn_iload_n tb_41_11 rfl r
theorem tb_41_12 : mm_tb pg_G 41 12 = some (.sipush 200, 0, 0, 0) := rfl
theorem st_41_12 {d : Nat} {ls t : List Value} {g : mm_M} {r : mm_R} : mm_Rn pg_G d 41 12 ls (t) g r ↔ mm_Rn pg_G d 41 15 ls (io_v 200 :: t) g r := rn_sipush tb_41_12 r
theorem tb_41_15 : mm_tb pg_G 41 15 = some (.if_icmp .le 5, 20, 0, 0) := rfl
theorem st_41_15 {d : Nat} {ls t : List Value} {g : mm_M} {r : mm_R} {x y : Int32} : mm_Rn pg_G d 41 15 ls (.int y :: .int x :: t) g r ↔ if x ≤ y then mm_Rn pg_G d 41 20 ls (t) g r else mm_Rn pg_G d 41 18 ls (t) g r := rn_icmp_le tb_41_15 r
theorem tb_41_18 : mm_tb pg_G 41 18 = some (.iconst (-1), 0, 0, 0) := rfl
theorem st_41_18 {d : Nat} {ls t : List Value} {g : mm_M} {r : mm_R} : mm_Rn pg_G d 41 18 ls (t) g r ↔ mm_Rn pg_G d 41 19 ls (io_v (-1) :: t) g r := rn_iconst tb_41_18 r
theorem tb_41_19 : mm_tb pg_G 41 19 = some (.ireturn, 0, 0, 0) := rfl
theorem st_41_19 {d : Nat} {ls : List Value} {g : mm_M} {r : mm_R} {x : Int32} : mm_Rn pg_G d 41 19 ls [.int x] g r ↔ r = (some (.int x), g) := rn_ireturn_iff tb_41_19 (Or.inl rfl) r
theorem tb_41_20 : mm_tb pg_G 41 20 = some (.aload_n 0, 0, 0, 0) := rfl
theorem st_41_20 {l1 l2 l3 : Value} {d : Nat} {t : List Value} {g : mm_M} {r : mm_R} {x : Nat} : mm_Rn pg_G d 41 20 [.ref x, l1, l2, l3] (t) g r ↔ mm_Rn pg_G d 41 21 [.ref x, l1, l2, l3] (.ref x :: t) g r := rn_aload_n tb_41_20 rfl r
theorem tb_41_21 : mm_tb pg_G 41 21 = some (.getfield 44, 0, 7, 100) := rfl
theorem st_41_21 {d : Nat} {ls t : List Value} {g : mm_M} {r : mm_R} {x : Nat} (hT : g.1 x = some (0, 8)) : mm_Rn pg_G d 41 21 ls (.ref x :: t) g r ↔ mm_Rn pg_G d 41 24 ls (g.2.1 x 7 :: t) g r := rn_getfield tb_41_21 hT r
theorem tb_41_24 : mm_tb pg_G 41 24 = some (.aload_n 0, 0, 0, 0) := rfl
theorem st_41_24 {l1 l2 l3 : Value} {d : Nat} {t : List Value} {g : mm_M} {r : mm_R} {x : Nat} : mm_Rn pg_G d 41 24 [.ref x, l1, l2, l3] (t) g r ↔ mm_Rn pg_G d 41 25 [.ref x, l1, l2, l3] (.ref x :: t) g r := rn_aload_n tb_41_24 rfl r
theorem tb_41_25 : mm_tb pg_G 41 25 = some (.getfield 22, 0, 2, 95) := rfl
theorem st_41_25 {d : Nat} {ls t : List Value} {g : mm_M} {r : mm_R} {x : Nat} (hT : g.1 x = some (0, 8)) : mm_Rn pg_G d 41 25 ls (.ref x :: t) g r ↔ mm_Rn pg_G d 41 28 ls (g.2.1 x 2 :: t) g r := rn_getfield tb_41_25 hT r
theorem tb_41_28 : mm_tb pg_G 41 28 = some (.getfield 120, 1, 8, 66) := rfl
theorem st_41_28 {d : Nat} {ls t : List Value} {g : mm_M} {r : mm_R} {x : Nat} (hT : g.1 x = some (1, 9)) : mm_Rn pg_G d 41 28 ls (.ref x :: t) g r ↔ mm_Rn pg_G d 41 31 ls (g.2.1 x 8 :: t) g r := rn_getfield tb_41_28 hT r
theorem tb_41_31 : mm_tb pg_G 41 31 = some (.iadd, 0, 0, 0) := rfl
theorem st_41_31 {d : Nat} {ls t : List Value} {g : mm_M} {r : mm_R} {x y : Int32} : mm_Rn pg_G d 41 31 ls (.int y :: .int x :: t) g r ↔ mm_Rn pg_G d 41 32 ls (.int (x + y) :: t) g r := rn_iadd tb_41_31 r
theorem tb_41_32 : mm_tb pg_G 41 32 = some (.istore_n 2, 0, 0, 0) := rfl
theorem st_41_32 {l0 l1 l2 l3 : Value} {d : Nat} {t : List Value} {g : mm_M} {r : mm_R} {x : Int32} (hc : mm_c1 l1 = true) : mm_Rn pg_G d 41 32 [l0, l1, l2, l3] (.int x :: t) g r ↔ mm_Rn pg_G d 41 33 [l0, l1, .int x, l3] (t) g r := rn_istore_n tb_41_32 (mm_so_of (ls := [l0, l1, l2, l3]) (v := l1) (Nat.le_of_ble_eq_true rfl) rfl hc) r
theorem tb_41_33 : mm_tb pg_G 41 33 = some (.iconst 0, 0, 0, 0) := rfl
theorem st_41_33 {d : Nat} {ls t : List Value} {g : mm_M} {r : mm_R} : mm_Rn pg_G d 41 33 ls (t) g r ↔ mm_Rn pg_G d 41 34 ls (io_v 0 :: t) g r := rn_iconst tb_41_33 r
theorem tb_41_34 : mm_tb pg_G 41 34 = some (.istore_n 3, 0, 0, 0) := rfl
theorem st_41_34 {l0 l1 l2 l3 : Value} {d : Nat} {t : List Value} {g : mm_M} {r : mm_R} {x : Int32} (hc : mm_c1 l2 = true) : mm_Rn pg_G d 41 34 [l0, l1, l2, l3] (.int x :: t) g r ↔ mm_Rn pg_G d 41 35 [l0, l1, l2, .int x] (t) g r := rn_istore_n tb_41_34 (mm_so_of (ls := [l0, l1, l2, l3]) (v := l2) (Nat.le_of_ble_eq_true rfl) rfl hc) r
theorem tb_41_35 : mm_tb pg_G 41 35 = some (.iload_n 3, 0, 0, 0) := rfl
theorem st_41_35 {l0 l1 l2 : Value} {d : Nat} {t : List Value} {g : mm_M} {r : mm_R} {x : Int32} : mm_Rn pg_G d 41 35 [l0, l1, l2, .int x] (t) g r ↔ mm_Rn pg_G d 41 36 [l0, l1, l2, .int x] (.int x :: t) g r := rn_iload_n tb_41_35 rfl r
theorem tb_41_36 : mm_tb pg_G 41 36 = some (.iload_n 1, 0, 0, 0) := rfl
theorem st_41_36 {l0 l2 l3 : Value} {d : Nat} {t : List Value} {g : mm_M} {r : mm_R} {x : Int32} : mm_Rn pg_G d 41 36 [l0, .int x, l2, l3] (t) g r ↔ mm_Rn pg_G d 41 37 [l0, .int x, l2, l3] (.int x :: t) g r := rn_iload_n tb_41_36 rfl r
theorem tb_41_37 : mm_tb pg_G 41 37 = some (.if_icmp .ge 13, 50, 0, 0) := rfl
theorem st_41_37 {d : Nat} {ls t : List Value} {g : mm_M} {r : mm_R} {x y : Int32} : mm_Rn pg_G d 41 37 ls (.int y :: .int x :: t) g r ↔ if y ≤ x then mm_Rn pg_G d 41 50 ls (t) g r else mm_Rn pg_G d 41 40 ls (t) g r := rn_icmp_ge tb_41_37 r
theorem tb_41_40 : mm_tb pg_G 41 40 = some (.aload_n 0, 0, 0, 0) := rfl
theorem st_41_40 {l1 l2 l3 : Value} {d : Nat} {t : List Value} {g : mm_M} {r : mm_R} {x : Nat} : mm_Rn pg_G d 41 40 [.ref x, l1, l2, l3] (t) g r ↔ mm_Rn pg_G d 41 41 [.ref x, l1, l2, l3] (.ref x :: t) g r := rn_aload_n tb_41_40 rfl r
theorem tb_41_41 : mm_tb pg_G 41 41 = some (.invokevirtual 123, 63, 1, 278) := rfl
theorem st_41_41 {d c s c' s' : Nat} {ls t : List Value} {I J : sp_I} {r : mm_R} {y : Nat} (hl : t.length ≤ 4) (hT : sp_T I y = some (0, 8)) (hq : mm_Rn pg_G d 63 0 [.ref y, .retAddr 0, .retAddr 0] [] (sp_me I 0 0) (none, sp_me J c' s')) : mm_Rn pg_G (d + 1) 41 41 ls (.ref y :: t) (sp_me I c s) r ↔ mm_Rn pg_G (d + 1) 41 44 ls (t) (sp_me J (c + c') (s + s')) r := rn_virt (g := sp_me I c s) (st := .ref y :: t) tb_41_41 (decide_eq_true hT) ⟨Nat.le_add_left _ t.length, hl, rfl⟩ hq r
theorem tb_41_44 : mm_tb pg_G 41 44 = some (.iinc 3 1, 0, 0, 0) := rfl
theorem st_41_44 {l0 l1 l2 : Value} {d : Nat} {t : List Value} {g : mm_M} {r : mm_R} {x : Int32} (hc : mm_c1 l2 = true) : mm_Rn pg_G d 41 44 [l0, l1, l2, .int x] (t) g r ↔ mm_Rn pg_G d 41 47 [l0, l1, l2, .int (x + Int32.ofInt 1)] (t) g r := rn_iinc tb_41_44 rfl (mm_so_of (ls := [l0, l1, l2, .int x]) (v := l2) (Nat.le_of_ble_eq_true rfl) rfl hc) r
theorem tb_41_47 : mm_tb pg_G 41 47 = some (.goto (-12), 35, 0, 0) := rfl
theorem st_41_47 {d : Nat} {ls t : List Value} {g : mm_M} {r : mm_R} : mm_Rn pg_G d 41 47 ls (t) g r ↔ mm_Rn pg_G d 41 35 ls (t) g r := rn_goto tb_41_47 r
theorem tb_41_50 : mm_tb pg_G 41 50 = some (.aload_n 0, 0, 0, 0) := rfl
theorem st_41_50 {l1 l2 l3 : Value} {d : Nat} {t : List Value} {g : mm_M} {r : mm_R} {x : Nat} : mm_Rn pg_G d 41 50 [.ref x, l1, l2, l3] (t) g r ↔ mm_Rn pg_G d 41 51 [.ref x, l1, l2, l3] (.ref x :: t) g r := rn_aload_n tb_41_50 rfl r
theorem tb_41_51 : mm_tb pg_G 41 51 = some (.getfield 44, 0, 7, 100) := rfl
theorem st_41_51 {d : Nat} {ls t : List Value} {g : mm_M} {r : mm_R} {x : Nat} (hT : g.1 x = some (0, 8)) : mm_Rn pg_G d 41 51 ls (.ref x :: t) g r ↔ mm_Rn pg_G d 41 54 ls (g.2.1 x 7 :: t) g r := rn_getfield tb_41_51 hT r
theorem tb_41_54 : mm_tb pg_G 41 54 = some (.aload_n 0, 0, 0, 0) := rfl
theorem st_41_54 {l1 l2 l3 : Value} {d : Nat} {t : List Value} {g : mm_M} {r : mm_R} {x : Nat} : mm_Rn pg_G d 41 54 [.ref x, l1, l2, l3] (t) g r ↔ mm_Rn pg_G d 41 55 [.ref x, l1, l2, l3] (.ref x :: t) g r := rn_aload_n tb_41_54 rfl r
theorem tb_41_55 : mm_tb pg_G 41 55 = some (.getfield 22, 0, 2, 95) := rfl
theorem st_41_55 {d : Nat} {ls t : List Value} {g : mm_M} {r : mm_R} {x : Nat} (hT : g.1 x = some (0, 8)) : mm_Rn pg_G d 41 55 ls (.ref x :: t) g r ↔ mm_Rn pg_G d 41 58 ls (g.2.1 x 2 :: t) g r := rn_getfield tb_41_55 hT r
theorem tb_41_58 : mm_tb pg_G 41 58 = some (.getfield 120, 1, 8, 66) := rfl
theorem st_41_58 {d : Nat} {ls t : List Value} {g : mm_M} {r : mm_R} {x : Nat} (hT : g.1 x = some (1, 9)) : mm_Rn pg_G d 41 58 ls (.ref x :: t) g r ↔ mm_Rn pg_G d 41 61 ls (g.2.1 x 8 :: t) g r := rn_getfield tb_41_58 hT r
theorem tb_41_61 : mm_tb pg_G 41 61 = some (.iadd, 0, 0, 0) := rfl
theorem st_41_61 {d : Nat} {ls t : List Value} {g : mm_M} {r : mm_R} {x y : Int32} : mm_Rn pg_G d 41 61 ls (.int y :: .int x :: t) g r ↔ mm_Rn pg_G d 41 62 ls (.int (x + y) :: t) g r := rn_iadd tb_41_61 r
theorem tb_41_62 : mm_tb pg_G 41 62 = some (.iload_n 2, 0, 0, 0) := rfl
theorem st_41_62 {l0 l1 l3 : Value} {d : Nat} {t : List Value} {g : mm_M} {r : mm_R} {x : Int32} : mm_Rn pg_G d 41 62 [l0, l1, .int x, l3] (t) g r ↔ mm_Rn pg_G d 41 63 [l0, l1, .int x, l3] (.int x :: t) g r := rn_iload_n tb_41_62 rfl r
theorem tb_41_63 : mm_tb pg_G 41 63 = some (.isub, 0, 0, 0) := rfl
theorem st_41_63 {d : Nat} {ls t : List Value} {g : mm_M} {r : mm_R} {x y : Int32} : mm_Rn pg_G d 41 63 ls (.int y :: .int x :: t) g r ↔ mm_Rn pg_G d 41 64 ls (.int (x - y) :: t) g r := rn_isub tb_41_63 r
theorem tb_41_64 : mm_tb pg_G 41 64 = some (.ireturn, 0, 0, 0) := rfl
theorem st_41_64 {d : Nat} {ls : List Value} {g : mm_M} {r : mm_R} {x : Int32} : mm_Rn pg_G d 41 64 ls [.int x] g r ↔ r = (some (.int x), g) := rn_ireturn_iff tb_41_64 (Or.inl rfl) r
theorem tb_42_0 : mm_tb pg_G 42 0 = some (.aload_n 0, 0, 0, 0) := rfl
theorem st_42_0 {d : Nat} {t : List Value} {g : mm_M} {r : mm_R} {x : Nat} : mm_Rn pg_G d 42 0 [.ref x] (t) g r ↔ mm_Rn pg_G d 42 1 [.ref x] (.ref x :: t) g r := rn_aload_n tb_42_0 rfl r
theorem tb_42_1 : mm_tb pg_G 42 1 = some (.getfield 29, 0, 3, 96) := rfl
theorem st_42_1 {d : Nat} {ls t : List Value} {g : mm_M} {r : mm_R} {x : Nat} (hT : g.1 x = some (0, 8)) : mm_Rn pg_G d 42 1 ls (.ref x :: t) g r ↔ mm_Rn pg_G d 42 4 ls (g.2.1 x 3 :: t) g r := rn_getfield tb_42_1 hT r
theorem tb_42_4 : mm_tb pg_G 42 4 = some (.getfield 98, 2, 1, 84) := rfl
theorem st_42_4 {d : Nat} {ls t : List Value} {g : mm_M} {r : mm_R} {x : Nat} (hT : g.1 x = some (2, 4)) : mm_Rn pg_G d 42 4 ls (.ref x :: t) g r ↔ mm_Rn pg_G d 42 7 ls (g.2.1 x 1 :: t) g r := rn_getfield tb_42_4 hT r
theorem tb_42_7 : mm_tb pg_G 42 7 = some (.ireturn, 0, 0, 0) := rfl
theorem st_42_7 {d : Nat} {ls : List Value} {g : mm_M} {r : mm_R} {x : Int32} : mm_Rn pg_G d 42 7 ls [.int x] g r ↔ r = (some (.int x), g) := rn_ireturn_iff tb_42_7 (Or.inl rfl) r
theorem tb_43_0 : mm_tb pg_G 43 0 = some (.aload_n 0, 0, 0, 0) := rfl
theorem st_43_0 {l1 : Value} {d : Nat} {t : List Value} {g : mm_M} {r : mm_R} {x : Nat} : mm_Rn pg_G d 43 0 [.ref x, l1] (t) g r ↔ mm_Rn pg_G d 43 1 [.ref x, l1] (.ref x :: t) g r := rn_aload_n tb_43_0 rfl r
theorem tb_43_1 : mm_tb pg_G 43 1 = some (.getfield 29, 0, 3, 96) := rfl
theorem st_43_1 {d : Nat} {ls t : List Value} {g : mm_M} {r : mm_R} {x : Nat} (hT : g.1 x = some (0, 8)) : mm_Rn pg_G d 43 1 ls (.ref x :: t) g r ↔ mm_Rn pg_G d 43 4 ls (g.2.1 x 3 :: t) g r := rn_getfield tb_43_1 hT r
theorem tb_43_4 : mm_tb pg_G 43 4 = some (.iload_n 1, 0, 0, 0) := rfl
theorem st_43_4 {l0 : Value} {d : Nat} {t : List Value} {g : mm_M} {r : mm_R} {x : Int32} : mm_Rn pg_G d 43 4 [l0, .int x] (t) g r ↔ mm_Rn pg_G d 43 5 [l0, .int x] (.int x :: t) g r := rn_iload_n tb_43_4 rfl r
theorem tb_43_5 : mm_tb pg_G 43 5 = some (.invokevirtual 126, 31, 2, 361) := rfl
theorem st_43_5 {d c s c' s' : Nat} {ls t : List Value} {I J : sp_I} {r : mm_R} {a0 : Int32} {y : Nat} {v : Int32} (hl : t.length ≤ 4) (hT : sp_T I y = some (2, 4)) (hq : mm_Rn pg_G d 31 0 [.ref y, .int a0] [] (sp_me I 0 0) (some (.int v), sp_me J c' s')) : mm_Rn pg_G (d + 1) 43 5 ls (.int a0 :: .ref y :: t) (sp_me I c s) r ↔ mm_Rn pg_G (d + 1) 43 8 ls (.int v :: t) (sp_me J (c + c') (s + s')) r := rn_virt (g := sp_me I c s) (st := .int a0 :: .ref y :: t) tb_43_5 (decide_eq_true hT) ⟨Nat.le_add_left _ t.length, hl, rfl⟩ hq r
theorem tb_43_8 : mm_tb pg_G 43 8 = some (.ireturn, 0, 0, 0) := rfl
theorem st_43_8 {d : Nat} {ls : List Value} {g : mm_M} {r : mm_R} {x : Int32} : mm_Rn pg_G d 43 8 ls [.int x] g r ↔ r = (some (.int x), g) := rn_ireturn_iff tb_43_8 (Or.inl rfl) r
theorem tb_44_0 : mm_tb pg_G 44 0 = some (.iconst 1, 0, 0, 0) := rfl
theorem st_44_0 {d : Nat} {ls t : List Value} {g : mm_M} {r : mm_R} : mm_Rn pg_G d 44 0 ls (t) g r ↔ mm_Rn pg_G d 44 1 ls (io_v 1 :: t) g r := rn_iconst tb_44_0 r
theorem tb_44_1 : mm_tb pg_G 44 1 = some (.istore_n 2, 0, 0, 0) := rfl
theorem st_44_1 {l0 l1 l2 : Value} {d : Nat} {t : List Value} {g : mm_M} {r : mm_R} {x : Int32} (hc : mm_c1 l1 = true) : mm_Rn pg_G d 44 1 [l0, l1, l2] (.int x :: t) g r ↔ mm_Rn pg_G d 44 2 [l0, l1, .int x] (t) g r := rn_istore_n tb_44_1 (mm_so_of (ls := [l0, l1, l2]) (v := l1) (Nat.le_of_ble_eq_true rfl) rfl hc) r
theorem tb_44_2 : mm_tb pg_G 44 2 = some (.iload_n 2, 0, 0, 0) := rfl
theorem st_44_2 {l0 l1 : Value} {d : Nat} {t : List Value} {g : mm_M} {r : mm_R} {x : Int32} : mm_Rn pg_G d 44 2 [l0, l1, .int x] (t) g r ↔ mm_Rn pg_G d 44 3 [l0, l1, .int x] (.int x :: t) g r := rn_iload_n tb_44_2 rfl r
theorem tb_44_3 : mm_tb pg_G 44 3 = some (.iconst 2, 0, 0, 0) := rfl
theorem st_44_3 {d : Nat} {ls t : List Value} {g : mm_M} {r : mm_R} : mm_Rn pg_G d 44 3 ls (t) g r ↔ mm_Rn pg_G d 44 4 ls (io_v 2 :: t) g r := rn_iconst tb_44_3 r
theorem tb_44_4 : mm_tb pg_G 44 4 = some (.aload_n 0, 0, 0, 0) := rfl
theorem st_44_4 {l1 l2 : Value} {d : Nat} {t : List Value} {g : mm_M} {r : mm_R} {x : Nat} : mm_Rn pg_G d 44 4 [.ref x, l1, l2] (t) g r ↔ mm_Rn pg_G d 44 5 [.ref x, l1, l2] (.ref x :: t) g r := rn_aload_n tb_44_4 rfl r
theorem tb_44_5 : mm_tb pg_G 44 5 = some (.getfield 33, 0, 4, 97) := rfl
theorem st_44_5 {d : Nat} {ls t : List Value} {g : mm_M} {r : mm_R} {x : Nat} (hT : g.1 x = some (0, 8)) : mm_Rn pg_G d 44 5 ls (.ref x :: t) g r ↔ mm_Rn pg_G d 44 8 ls (g.2.1 x 4 :: t) g r := rn_getfield tb_44_5 hT r
theorem tb_44_8 : mm_tb pg_G 44 8 = some (.iadd, 0, 0, 0) := rfl
theorem st_44_8 {d : Nat} {ls t : List Value} {g : mm_M} {r : mm_R} {x y : Int32} : mm_Rn pg_G d 44 8 ls (.int y :: .int x :: t) g r ↔ mm_Rn pg_G d 44 9 ls (.int (x + y) :: t) g r := rn_iadd tb_44_8 r
theorem tb_44_9 : mm_tb pg_G 44 9 = some (.if_icmp .ge 28, 37, 0, 0) := rfl
theorem st_44_9 {d : Nat} {ls t : List Value} {g : mm_M} {r : mm_R} {x y : Int32} : mm_Rn pg_G d 44 9 ls (.int y :: .int x :: t) g r ↔ if y ≤ x then mm_Rn pg_G d 44 37 ls (t) g r else mm_Rn pg_G d 44 12 ls (t) g r := rn_icmp_ge tb_44_9 r
theorem tb_44_12 : mm_tb pg_G 44 12 = some (.aload_n 0, 0, 0, 0) := rfl
theorem st_44_12 {l1 l2 : Value} {d : Nat} {t : List Value} {g : mm_M} {r : mm_R} {x : Nat} : mm_Rn pg_G d 44 12 [.ref x, l1, l2] (t) g r ↔ mm_Rn pg_G d 44 13 [.ref x, l1, l2] (.ref x :: t) g r := rn_aload_n tb_44_12 rfl r
theorem tb_44_13 : mm_tb pg_G 44 13 = some (.iload_n 2, 0, 0, 0) := rfl
theorem st_44_13 {l0 l1 : Value} {d : Nat} {t : List Value} {g : mm_M} {r : mm_R} {x : Int32} : mm_Rn pg_G d 44 13 [l0, l1, .int x] (t) g r ↔ mm_Rn pg_G d 44 14 [l0, l1, .int x] (.int x :: t) g r := rn_iload_n tb_44_13 rfl r
theorem tb_44_14 : mm_tb pg_G 44 14 = some (.invokevirtual 130, 57, 2, 284) := rfl
theorem st_44_14 {d c s c' s' : Nat} {ls t : List Value} {I J : sp_I} {r : mm_R} {a0 : Int32} {y : Nat} {v : Int32} (hl : t.length ≤ 4) (hT : sp_T I y = some (0, 8)) (hq : mm_Rn pg_G d 57 0 [.ref y, .int a0] [] (sp_me I 0 0) (some (.int v), sp_me J c' s')) : mm_Rn pg_G (d + 1) 44 14 ls (.int a0 :: .ref y :: t) (sp_me I c s) r ↔ mm_Rn pg_G (d + 1) 44 17 ls (.int v :: t) (sp_me J (c + c') (s + s')) r := rn_virt (g := sp_me I c s) (st := .int a0 :: .ref y :: t) tb_44_14 (decide_eq_true hT) ⟨Nat.le_add_left _ t.length, hl, rfl⟩ hq r
theorem tb_44_17 : mm_tb pg_G 44 17 = some (.ifCond .eq 14, 31, 0, 0) := rfl
theorem st_44_17 {d : Nat} {ls t : List Value} {g : mm_M} {r : mm_R} {x : Int32} : mm_Rn pg_G d 44 17 ls (.int x :: t) g r ↔ if x = 0 then mm_Rn pg_G d 44 31 ls (t) g r else mm_Rn pg_G d 44 20 ls (t) g r := rn_if_eq tb_44_17 r
theorem tb_44_20 : mm_tb pg_G 44 20 = some (.aload_n 0, 0, 0, 0) := rfl
theorem st_44_20 {l1 l2 : Value} {d : Nat} {t : List Value} {g : mm_M} {r : mm_R} {x : Nat} : mm_Rn pg_G d 44 20 [.ref x, l1, l2] (t) g r ↔ mm_Rn pg_G d 44 21 [.ref x, l1, l2] (.ref x :: t) g r := rn_aload_n tb_44_20 rfl r
theorem tb_44_21 : mm_tb pg_G 44 21 = some (.iload_n 2, 0, 0, 0) := rfl
theorem st_44_21 {l0 l1 : Value} {d : Nat} {t : List Value} {g : mm_M} {r : mm_R} {x : Int32} : mm_Rn pg_G d 44 21 [l0, l1, .int x] (t) g r ↔ mm_Rn pg_G d 44 22 [l0, l1, .int x] (.int x :: t) g r := rn_iload_n tb_44_21 rfl r
theorem tb_44_22 : mm_tb pg_G 44 22 = some (.invokevirtual 133, 60, 2, 366) := rfl
theorem st_44_22 {d c s c' s' : Nat} {ls t : List Value} {I J : sp_I} {r : mm_R} {a0 : Int32} {y : Nat} {v : Int32} (hl : t.length ≤ 4) (hT : sp_T I y = some (0, 8)) (hq : mm_Rn pg_G d 60 0 [.ref y, .int a0, .retAddr 0, .retAddr 0] [] (sp_me I 0 0) (some (.int v), sp_me J c' s')) : mm_Rn pg_G (d + 1) 44 22 ls (.int a0 :: .ref y :: t) (sp_me I c s) r ↔ mm_Rn pg_G (d + 1) 44 25 ls (.int v :: t) (sp_me J (c + c') (s + s')) r := rn_virt (g := sp_me I c s) (st := .int a0 :: .ref y :: t) tb_44_22 (decide_eq_true hT) ⟨Nat.le_add_left _ t.length, hl, rfl⟩ hq r
theorem tb_44_25 : mm_tb pg_G 44 25 = some (.iload_n 1, 0, 0, 0) := rfl
theorem st_44_25 {l0 l2 : Value} {d : Nat} {t : List Value} {g : mm_M} {r : mm_R} {x : Int32} : mm_Rn pg_G d 44 25 [l0, .int x, l2] (t) g r ↔ mm_Rn pg_G d 44 26 [l0, .int x, l2] (.int x :: t) g r := rn_iload_n tb_44_25 rfl r
theorem tb_44_26 : mm_tb pg_G 44 26 = some (.if_icmp .ne 5, 31, 0, 0) := rfl
theorem st_44_26 {d : Nat} {ls t : List Value} {g : mm_M} {r : mm_R} {x y : Int32} : mm_Rn pg_G d 44 26 ls (.int y :: .int x :: t) g r ↔ if x = y then mm_Rn pg_G d 44 29 ls (t) g r else mm_Rn pg_G d 44 31 ls (t) g r := rn_icmp_ne tb_44_26 r
theorem tb_44_29 : mm_tb pg_G 44 29 = some (.iload_n 2, 0, 0, 0) := rfl
theorem st_44_29 {l0 l1 : Value} {d : Nat} {t : List Value} {g : mm_M} {r : mm_R} {x : Int32} : mm_Rn pg_G d 44 29 [l0, l1, .int x] (t) g r ↔ mm_Rn pg_G d 44 30 [l0, l1, .int x] (.int x :: t) g r := rn_iload_n tb_44_29 rfl r
theorem tb_44_30 : mm_tb pg_G 44 30 = some (.ireturn, 0, 0, 0) := rfl
theorem st_44_30 {d : Nat} {ls : List Value} {g : mm_M} {r : mm_R} {x : Int32} : mm_Rn pg_G d 44 30 ls [.int x] g r ↔ r = (some (.int x), g) := rn_ireturn_iff tb_44_30 (Or.inl rfl) r
theorem tb_44_31 : mm_tb pg_G 44 31 = some (.iinc 2 1, 0, 0, 0) := rfl
theorem st_44_31 {l0 l1 : Value} {d : Nat} {t : List Value} {g : mm_M} {r : mm_R} {x : Int32} (hc : mm_c1 l1 = true) : mm_Rn pg_G d 44 31 [l0, l1, .int x] (t) g r ↔ mm_Rn pg_G d 44 34 [l0, l1, .int (x + Int32.ofInt 1)] (t) g r := rn_iinc tb_44_31 rfl (mm_so_of (ls := [l0, l1, .int x]) (v := l1) (Nat.le_of_ble_eq_true rfl) rfl hc) r
theorem tb_44_34 : mm_tb pg_G 44 34 = some (.goto (-32), 2, 0, 0) := rfl
theorem st_44_34 {d : Nat} {ls t : List Value} {g : mm_M} {r : mm_R} : mm_Rn pg_G d 44 34 ls (t) g r ↔ mm_Rn pg_G d 44 2 ls (t) g r := rn_goto tb_44_34 r
theorem tb_44_37 : mm_tb pg_G 44 37 = some (.iconst 0, 0, 0, 0) := rfl
theorem st_44_37 {d : Nat} {ls t : List Value} {g : mm_M} {r : mm_R} : mm_Rn pg_G d 44 37 ls (t) g r ↔ mm_Rn pg_G d 44 38 ls (io_v 0 :: t) g r := rn_iconst tb_44_37 r
theorem tb_44_38 : mm_tb pg_G 44 38 = some (.ireturn, 0, 0, 0) := rfl
theorem st_44_38 {d : Nat} {ls : List Value} {g : mm_M} {r : mm_R} {x : Int32} : mm_Rn pg_G d 44 38 ls [.int x] g r ↔ r = (some (.int x), g) := rn_ireturn_iff tb_44_38 (Or.inl rfl) r
theorem tb_45_0 : mm_tb pg_G 45 0 = some (.iconst 0, 0, 0, 0) := rfl
theorem st_45_0 {d : Nat} {ls t : List Value} {g : mm_M} {r : mm_R} : mm_Rn pg_G d 45 0 ls (t) g r ↔ mm_Rn pg_G d 45 1 ls (io_v 0 :: t) g r := rn_iconst tb_45_0 r
theorem tb_45_1 : mm_tb pg_G 45 1 = some (.istore_n 2, 0, 0, 0) := rfl
theorem st_45_1 {l0 l1 l2 : Value} {d : Nat} {t : List Value} {g : mm_M} {r : mm_R} {x : Int32} (hc : mm_c1 l1 = true) : mm_Rn pg_G d 45 1 [l0, l1, l2] (.int x :: t) g r ↔ mm_Rn pg_G d 45 2 [l0, l1, .int x] (t) g r := rn_istore_n tb_45_1 (mm_so_of (ls := [l0, l1, l2]) (v := l1) (Nat.le_of_ble_eq_true rfl) rfl hc) r
theorem tb_45_2 : mm_tb pg_G 45 2 = some (.iload_n 2, 0, 0, 0) := rfl
theorem st_45_2 {l0 l1 : Value} {d : Nat} {t : List Value} {g : mm_M} {r : mm_R} {x : Int32} : mm_Rn pg_G d 45 2 [l0, l1, .int x] (t) g r ↔ mm_Rn pg_G d 45 3 [l0, l1, .int x] (.int x :: t) g r := rn_iload_n tb_45_2 rfl r
theorem tb_45_3 : mm_tb pg_G 45 3 = some (.aload_n 0, 0, 0, 0) := rfl
theorem st_45_3 {l1 l2 : Value} {d : Nat} {t : List Value} {g : mm_M} {r : mm_R} {x : Nat} : mm_Rn pg_G d 45 3 [.ref x, l1, l2] (t) g r ↔ mm_Rn pg_G d 45 4 [.ref x, l1, l2] (.ref x :: t) g r := rn_aload_n tb_45_3 rfl r
theorem tb_45_4 : mm_tb pg_G 45 4 = some (.getfield 33, 0, 4, 97) := rfl
theorem st_45_4 {d : Nat} {ls t : List Value} {g : mm_M} {r : mm_R} {x : Nat} (hT : g.1 x = some (0, 8)) : mm_Rn pg_G d 45 4 ls (.ref x :: t) g r ↔ mm_Rn pg_G d 45 7 ls (g.2.1 x 4 :: t) g r := rn_getfield tb_45_4 hT r
theorem tb_45_7 : mm_tb pg_G 45 7 = some (.if_icmp .ge 24, 31, 0, 0) := rfl
theorem st_45_7 {d : Nat} {ls t : List Value} {g : mm_M} {r : mm_R} {x y : Int32} : mm_Rn pg_G d 45 7 ls (.int y :: .int x :: t) g r ↔ if y ≤ x then mm_Rn pg_G d 45 31 ls (t) g r else mm_Rn pg_G d 45 10 ls (t) g r := rn_icmp_ge tb_45_7 r
theorem tb_45_10 : mm_tb pg_G 45 10 = some (.aload_n 0, 0, 0, 0) := rfl
theorem st_45_10 {l1 l2 : Value} {d : Nat} {t : List Value} {g : mm_M} {r : mm_R} {x : Nat} : mm_Rn pg_G d 45 10 [.ref x, l1, l2] (t) g r ↔ mm_Rn pg_G d 45 11 [.ref x, l1, l2] (.ref x :: t) g r := rn_aload_n tb_45_10 rfl r
theorem tb_45_11 : mm_tb pg_G 45 11 = some (.getfield 11, 0, 0, 93) := rfl
theorem st_45_11 {d : Nat} {ls t : List Value} {g : mm_M} {r : mm_R} {x : Nat} (hT : g.1 x = some (0, 8)) : mm_Rn pg_G d 45 11 ls (.ref x :: t) g r ↔ mm_Rn pg_G d 45 14 ls (g.2.1 x 0 :: t) g r := rn_getfield tb_45_11 hT r
theorem tb_45_14 : mm_tb pg_G 45 14 = some (.iload_n 2, 0, 0, 0) := rfl
theorem st_45_14 {l0 l1 : Value} {d : Nat} {t : List Value} {g : mm_M} {r : mm_R} {x : Int32} : mm_Rn pg_G d 45 14 [l0, l1, .int x] (t) g r ↔ mm_Rn pg_G d 45 15 [l0, l1, .int x] (.int x :: t) g r := rn_iload_n tb_45_14 rfl r
theorem tb_45_15 : mm_tb pg_G 45 15 = some (.aaload, 0, 0, 0) := rfl
theorem st_45_15 {d : Nat} {ls t : List Value} {g : mm_M} {r : mm_R} {x : Nat} {j : Int32} (hc : mm_in (g.1 x) 102 103 j = true) : mm_Rn pg_G d 45 15 ls (.int j :: .ref x :: t) g r ↔ mm_Rn pg_G d 45 16 ls (g.2.1 x j.toNatClampNeg :: t) g r := rn_aaload tb_45_15 hc r
theorem tb_45_16 : mm_tb pg_G 45 16 = some (.iload_n 1, 0, 0, 0) := rfl
theorem st_45_16 {l0 l2 : Value} {d : Nat} {t : List Value} {g : mm_M} {r : mm_R} {x : Int32} : mm_Rn pg_G d 45 16 [l0, .int x, l2] (t) g r ↔ mm_Rn pg_G d 45 17 [l0, .int x, l2] (.int x :: t) g r := rn_iload_n tb_45_16 rfl r
theorem tb_45_17 : mm_tb pg_G 45 17 = some (.invokevirtual 136, 16, 2, 373) := rfl
theorem st_45_17 {d c s c' s' : Nat} {ls t : List Value} {I J : sp_I} {r : mm_R} {a0 : Int32} {y : Nat} {v : Int32} (hl : t.length ≤ 4) (hT : sp_T I y = some (3, 10)) (hq : mm_Rn pg_G d 16 0 [.ref y, .int a0, .retAddr 0] [] (sp_me I 0 0) (some (.int v), sp_me J c' s')) : mm_Rn pg_G (d + 1) 45 17 ls (.int a0 :: .ref y :: t) (sp_me I c s) r ↔ mm_Rn pg_G (d + 1) 45 20 ls (.int v :: t) (sp_me J (c + c') (s + s')) r := rn_virt (g := sp_me I c s) (st := .int a0 :: .ref y :: t) tb_45_17 (decide_eq_true hT) ⟨Nat.le_add_left _ t.length, hl, rfl⟩ hq r
theorem tb_45_20 : mm_tb pg_G 45 20 = some (.ifCond .eq 5, 25, 0, 0) := rfl
theorem st_45_20 {d : Nat} {ls t : List Value} {g : mm_M} {r : mm_R} {x : Int32} : mm_Rn pg_G d 45 20 ls (.int x :: t) g r ↔ if x = 0 then mm_Rn pg_G d 45 25 ls (t) g r else mm_Rn pg_G d 45 23 ls (t) g r := rn_if_eq tb_45_20 r
theorem tb_45_23 : mm_tb pg_G 45 23 = some (.iload_n 2, 0, 0, 0) := rfl
theorem st_45_23 {l0 l1 : Value} {d : Nat} {t : List Value} {g : mm_M} {r : mm_R} {x : Int32} : mm_Rn pg_G d 45 23 [l0, l1, .int x] (t) g r ↔ mm_Rn pg_G d 45 24 [l0, l1, .int x] (.int x :: t) g r := rn_iload_n tb_45_23 rfl r
theorem tb_45_24 : mm_tb pg_G 45 24 = some (.ireturn, 0, 0, 0) := rfl
theorem st_45_24 {d : Nat} {ls : List Value} {g : mm_M} {r : mm_R} {x : Int32} : mm_Rn pg_G d 45 24 ls [.int x] g r ↔ r = (some (.int x), g) := rn_ireturn_iff tb_45_24 (Or.inl rfl) r
theorem tb_45_25 : mm_tb pg_G 45 25 = some (.iinc 2 1, 0, 0, 0) := rfl
theorem st_45_25 {l0 l1 : Value} {d : Nat} {t : List Value} {g : mm_M} {r : mm_R} {x : Int32} (hc : mm_c1 l1 = true) : mm_Rn pg_G d 45 25 [l0, l1, .int x] (t) g r ↔ mm_Rn pg_G d 45 28 [l0, l1, .int (x + Int32.ofInt 1)] (t) g r := rn_iinc tb_45_25 rfl (mm_so_of (ls := [l0, l1, .int x]) (v := l1) (Nat.le_of_ble_eq_true rfl) rfl hc) r
theorem tb_45_28 : mm_tb pg_G 45 28 = some (.goto (-26), 2, 0, 0) := rfl
theorem st_45_28 {d : Nat} {ls t : List Value} {g : mm_M} {r : mm_R} : mm_Rn pg_G d 45 28 ls (t) g r ↔ mm_Rn pg_G d 45 2 ls (t) g r := rn_goto tb_45_28 r
theorem tb_45_31 : mm_tb pg_G 45 31 = some (.iconst (-1), 0, 0, 0) := rfl
theorem st_45_31 {d : Nat} {ls t : List Value} {g : mm_M} {r : mm_R} : mm_Rn pg_G d 45 31 ls (t) g r ↔ mm_Rn pg_G d 45 32 ls (io_v (-1) :: t) g r := rn_iconst tb_45_31 r
theorem tb_45_32 : mm_tb pg_G 45 32 = some (.ireturn, 0, 0, 0) := rfl
theorem st_45_32 {d : Nat} {ls : List Value} {g : mm_M} {r : mm_R} {x : Int32} : mm_Rn pg_G d 45 32 ls [.int x] g r ↔ r = (some (.int x), g) := rn_ireturn_iff tb_45_32 (Or.inl rfl) r
theorem tb_46_0 : mm_tb pg_G 46 0 = some (.aload_n 0, 0, 0, 0) := rfl
theorem st_46_0 {d : Nat} {t : List Value} {g : mm_M} {r : mm_R} {x : Nat} : mm_Rn pg_G d 46 0 [.ref x] (t) g r ↔ mm_Rn pg_G d 46 1 [.ref x] (.ref x :: t) g r := rn_aload_n tb_46_0 rfl r
theorem tb_46_1 : mm_tb pg_G 46 1 = some (.invokevirtual 139, 62, 1, 300) := rfl
theorem st_46_1 {d c s c' s' : Nat} {ls t : List Value} {I J : sp_I} {r : mm_R} {y : Nat} {v : Int32} (hl : t.length ≤ 4) (hT : sp_T I y = some (0, 8)) (hq : mm_Rn pg_G d 62 0 [.ref y, .retAddr 0, .retAddr 0] [] (sp_me I 0 0) (some (.int v), sp_me J c' s')) : mm_Rn pg_G (d + 1) 46 1 ls (.ref y :: t) (sp_me I c s) r ↔ mm_Rn pg_G (d + 1) 46 4 ls (.int v :: t) (sp_me J (c + c') (s + s')) r := rn_virt (g := sp_me I c s) (st := .ref y :: t) tb_46_1 (decide_eq_true hT) ⟨Nat.le_add_left _ t.length, hl, rfl⟩ hq r
theorem tb_46_4 : mm_tb pg_G 46 4 = some (.ireturn, 0, 0, 0) := rfl
theorem st_46_4 {d : Nat} {ls : List Value} {g : mm_M} {r : mm_R} {x : Int32} : mm_Rn pg_G d 46 4 ls [.int x] g r ↔ r = (some (.int x), g) := rn_ireturn_iff tb_46_4 (Or.inl rfl) r
theorem tb_47_0 : mm_tb pg_G 47 0 = some (.aload_n 0, 0, 0, 0) := rfl
theorem st_47_0 {l1 l2 : Value} {d : Nat} {t : List Value} {g : mm_M} {r : mm_R} {x : Nat} : mm_Rn pg_G d 47 0 [.ref x, l1, l2] (t) g r ↔ mm_Rn pg_G d 47 1 [.ref x, l1, l2] (.ref x :: t) g r := rn_aload_n tb_47_0 rfl r
theorem tb_47_1 : mm_tb pg_G 47 1 = some (.iload_n 1, 0, 0, 0) := rfl
theorem st_47_1 {l0 l2 : Value} {d : Nat} {t : List Value} {g : mm_M} {r : mm_R} {x : Int32} : mm_Rn pg_G d 47 1 [l0, .int x, l2] (t) g r ↔ mm_Rn pg_G d 47 2 [l0, .int x, l2] (.int x :: t) g r := rn_iload_n tb_47_1 rfl r
theorem tb_47_2 : mm_tb pg_G 47 2 = some (.invokevirtual 50, 52, 2, 172) := rfl
theorem st_47_2 {d c s c' s' : Nat} {ls t : List Value} {I J : sp_I} {r : mm_R} {a0 : Int32} {y : Nat} {v : Int32} (hl : t.length ≤ 4) (hT : sp_T I y = some (0, 8)) (hq : mm_Rn pg_G d 52 0 [.ref y, .int a0] [] (sp_me I 0 0) (some (.int v), sp_me J c' s')) : mm_Rn pg_G (d + 1) 47 2 ls (.int a0 :: .ref y :: t) (sp_me I c s) r ↔ mm_Rn pg_G (d + 1) 47 5 ls (.int v :: t) (sp_me J (c + c') (s + s')) r := rn_virt (g := sp_me I c s) (st := .int a0 :: .ref y :: t) tb_47_2 (decide_eq_true hT) ⟨Nat.le_add_left _ t.length, hl, rfl⟩ hq r
theorem tb_47_5 : mm_tb pg_G 47 5 = some (.ifCond .eq 18, 23, 0, 0) := rfl
theorem st_47_5 {d : Nat} {ls t : List Value} {g : mm_M} {r : mm_R} {x : Int32} : mm_Rn pg_G d 47 5 ls (.int x :: t) g r ↔ if x = 0 then mm_Rn pg_G d 47 23 ls (t) g r else mm_Rn pg_G d 47 8 ls (t) g r := rn_if_eq tb_47_5 r
theorem tb_47_8 : mm_tb pg_G 47 8 = some (.aload_n 0, 0, 0, 0) := rfl
theorem st_47_8 {l1 l2 : Value} {d : Nat} {t : List Value} {g : mm_M} {r : mm_R} {x : Nat} : mm_Rn pg_G d 47 8 [.ref x, l1, l2] (t) g r ↔ mm_Rn pg_G d 47 9 [.ref x, l1, l2] (.ref x :: t) g r := rn_aload_n tb_47_8 rfl r
theorem tb_47_9 : mm_tb pg_G 47 9 = some (.getfield 11, 0, 0, 93) := rfl
theorem st_47_9 {d : Nat} {ls t : List Value} {g : mm_M} {r : mm_R} {x : Nat} (hT : g.1 x = some (0, 8)) : mm_Rn pg_G d 47 9 ls (.ref x :: t) g r ↔ mm_Rn pg_G d 47 12 ls (g.2.1 x 0 :: t) g r := rn_getfield tb_47_9 hT r
theorem tb_47_12 : mm_tb pg_G 47 12 = some (.iload_n 1, 0, 0, 0) := rfl
theorem st_47_12 {l0 l2 : Value} {d : Nat} {t : List Value} {g : mm_M} {r : mm_R} {x : Int32} : mm_Rn pg_G d 47 12 [l0, .int x, l2] (t) g r ↔ mm_Rn pg_G d 47 13 [l0, .int x, l2] (.int x :: t) g r := rn_iload_n tb_47_12 rfl r
theorem tb_47_13 : mm_tb pg_G 47 13 = some (.aaload, 0, 0, 0) := rfl
theorem st_47_13 {d : Nat} {ls t : List Value} {g : mm_M} {r : mm_R} {x : Nat} {j : Int32} (hc : mm_in (g.1 x) 102 103 j = true) : mm_Rn pg_G d 47 13 ls (.int j :: .ref x :: t) g r ↔ mm_Rn pg_G d 47 14 ls (g.2.1 x j.toNatClampNeg :: t) g r := rn_aaload tb_47_13 hc r
theorem tb_47_14 : mm_tb pg_G 47 14 = some (.getfield 85, 3, 4, 149) := rfl
theorem st_47_14 {d : Nat} {ls t : List Value} {g : mm_M} {r : mm_R} {x : Nat} (hT : g.1 x = some (3, 10)) : mm_Rn pg_G d 47 14 ls (.ref x :: t) g r ↔ mm_Rn pg_G d 47 17 ls (g.2.1 x 4 :: t) g r := rn_getfield tb_47_14 hT r
theorem tb_47_17 : mm_tb pg_G 47 17 = some (.invokevirtual 95, 4, 1, 254) := rfl
theorem st_47_17 {d c s c' s' : Nat} {ls t : List Value} {I J : sp_I} {r : mm_R} {y : Nat} {v : Int32} (hl : t.length ≤ 4) (hT : sp_T I y = some (5, 7)) (hq : mm_Rn pg_G d 4 0 [.ref y] [] (sp_me I 0 0) (some (.int v), sp_me J c' s')) : mm_Rn pg_G (d + 1) 47 17 ls (.ref y :: t) (sp_me I c s) r ↔ mm_Rn pg_G (d + 1) 47 20 ls (.int v :: t) (sp_me J (c + c') (s + s')) r := rn_virt (g := sp_me I c s) (st := .ref y :: t) tb_47_17 (decide_eq_true hT) ⟨Nat.le_add_left _ t.length, hl, rfl⟩ hq r
theorem tb_47_20 : mm_tb pg_G 47 20 = some (.ifCond .ne 5, 25, 0, 0) := rfl
theorem st_47_20 {d : Nat} {ls t : List Value} {g : mm_M} {r : mm_R} {x : Int32} : mm_Rn pg_G d 47 20 ls (.int x :: t) g r ↔ if x = 0 then mm_Rn pg_G d 47 23 ls (t) g r else mm_Rn pg_G d 47 25 ls (t) g r := rn_if_ne tb_47_20 r
theorem tb_47_23 : mm_tb pg_G 47 23 = some (.iconst (-1), 0, 0, 0) := rfl
theorem st_47_23 {d : Nat} {ls t : List Value} {g : mm_M} {r : mm_R} : mm_Rn pg_G d 47 23 ls (t) g r ↔ mm_Rn pg_G d 47 24 ls (io_v (-1) :: t) g r := rn_iconst tb_47_23 r
theorem tb_47_24 : mm_tb pg_G 47 24 = some (.ireturn, 0, 0, 0) := rfl
theorem st_47_24 {d : Nat} {ls : List Value} {g : mm_M} {r : mm_R} {x : Int32} : mm_Rn pg_G d 47 24 ls [.int x] g r ↔ r = (some (.int x), g) := rn_ireturn_iff tb_47_24 (Or.inl rfl) r
theorem tb_47_25 : mm_tb pg_G 47 25 = some (.aload_n 0, 0, 0, 0) := rfl
theorem st_47_25 {l1 l2 : Value} {d : Nat} {t : List Value} {g : mm_M} {r : mm_R} {x : Nat} : mm_Rn pg_G d 47 25 [.ref x, l1, l2] (t) g r ↔ mm_Rn pg_G d 47 26 [.ref x, l1, l2] (.ref x :: t) g r := rn_aload_n tb_47_25 rfl r
theorem tb_47_26 : mm_tb pg_G 47 26 = some (.getfield 11, 0, 0, 93) := rfl
theorem st_47_26 {d : Nat} {ls t : List Value} {g : mm_M} {r : mm_R} {x : Nat} (hT : g.1 x = some (0, 8)) : mm_Rn pg_G d 47 26 ls (.ref x :: t) g r ↔ mm_Rn pg_G d 47 29 ls (g.2.1 x 0 :: t) g r := rn_getfield tb_47_26 hT r
theorem tb_47_29 : mm_tb pg_G 47 29 = some (.iload_n 1, 0, 0, 0) := rfl
theorem st_47_29 {l0 l2 : Value} {d : Nat} {t : List Value} {g : mm_M} {r : mm_R} {x : Int32} : mm_Rn pg_G d 47 29 [l0, .int x, l2] (t) g r ↔ mm_Rn pg_G d 47 30 [l0, .int x, l2] (.int x :: t) g r := rn_iload_n tb_47_29 rfl r
theorem tb_47_30 : mm_tb pg_G 47 30 = some (.aaload, 0, 0, 0) := rfl
theorem st_47_30 {d : Nat} {ls t : List Value} {g : mm_M} {r : mm_R} {x : Nat} {j : Int32} (hc : mm_in (g.1 x) 102 103 j = true) : mm_Rn pg_G d 47 30 ls (.int j :: .ref x :: t) g r ↔ mm_Rn pg_G d 47 31 ls (g.2.1 x j.toNatClampNeg :: t) g r := rn_aaload tb_47_30 hc r
theorem tb_47_31 : mm_tb pg_G 47 31 = some (.getfield 85, 3, 4, 149) := rfl
theorem st_47_31 {d : Nat} {ls t : List Value} {g : mm_M} {r : mm_R} {x : Nat} (hT : g.1 x = some (3, 10)) : mm_Rn pg_G d 47 31 ls (.ref x :: t) g r ↔ mm_Rn pg_G d 47 34 ls (g.2.1 x 4 :: t) g r := rn_getfield tb_47_31 hT r
theorem tb_47_34 : mm_tb pg_G 47 34 = some (.iload_n 2, 0, 0, 0) := rfl
theorem st_47_34 {l0 l1 : Value} {d : Nat} {t : List Value} {g : mm_M} {r : mm_R} {x : Int32} : mm_Rn pg_G d 47 34 [l0, l1, .int x] (t) g r ↔ mm_Rn pg_G d 47 35 [l0, l1, .int x] (.int x :: t) g r := rn_iload_n tb_47_34 rfl r
theorem tb_47_35 : mm_tb pg_G 47 35 = some (.invokevirtual 142, 9, 2, 385) := rfl
theorem st_47_35 {d c s c' s' : Nat} {ls t : List Value} {I J : sp_I} {r : mm_R} {a0 : Int32} {y : Nat} {v : Int32} (hl : t.length ≤ 4) (hT : sp_T I y = some (5, 7)) (hq : mm_Rn pg_G d 9 0 [.ref y, .int a0] [] (sp_me I 0 0) (some (.int v), sp_me J c' s')) : mm_Rn pg_G (d + 1) 47 35 ls (.int a0 :: .ref y :: t) (sp_me I c s) r ↔ mm_Rn pg_G (d + 1) 47 38 ls (.int v :: t) (sp_me J (c + c') (s + s')) r := rn_virt (g := sp_me I c s) (st := .int a0 :: .ref y :: t) tb_47_35 (decide_eq_true hT) ⟨Nat.le_add_left _ t.length, hl, rfl⟩ hq r
theorem tb_47_38 : mm_tb pg_G 47 38 = some (.ireturn, 0, 0, 0) := rfl
theorem st_47_38 {d : Nat} {ls : List Value} {g : mm_M} {r : mm_R} {x : Int32} : mm_Rn pg_G d 47 38 ls [.int x] g r ↔ r = (some (.int x), g) := rn_ireturn_iff tb_47_38 (Or.inl rfl) r
theorem tb_48_0 : mm_tb pg_G 48 0 = some (.aload_n 0, 0, 0, 0) := rfl
theorem st_48_0 {l1 : Value} {d : Nat} {t : List Value} {g : mm_M} {r : mm_R} {x : Nat} : mm_Rn pg_G d 48 0 [.ref x, l1] (t) g r ↔ mm_Rn pg_G d 48 1 [.ref x, l1] (.ref x :: t) g r := rn_aload_n tb_48_0 rfl r
theorem tb_48_1 : mm_tb pg_G 48 1 = some (.iload_n 1, 0, 0, 0) := rfl
theorem st_48_1 {l0 : Value} {d : Nat} {t : List Value} {g : mm_M} {r : mm_R} {x : Int32} : mm_Rn pg_G d 48 1 [l0, .int x] (t) g r ↔ mm_Rn pg_G d 48 2 [l0, .int x] (.int x :: t) g r := rn_iload_n tb_48_1 rfl r
theorem tb_48_2 : mm_tb pg_G 48 2 = some (.invokevirtual 50, 52, 2, 172) := rfl
theorem st_48_2 {d c s c' s' : Nat} {ls t : List Value} {I J : sp_I} {r : mm_R} {a0 : Int32} {y : Nat} {v : Int32} (hl : t.length ≤ 4) (hT : sp_T I y = some (0, 8)) (hq : mm_Rn pg_G d 52 0 [.ref y, .int a0] [] (sp_me I 0 0) (some (.int v), sp_me J c' s')) : mm_Rn pg_G (d + 1) 48 2 ls (.int a0 :: .ref y :: t) (sp_me I c s) r ↔ mm_Rn pg_G (d + 1) 48 5 ls (.int v :: t) (sp_me J (c + c') (s + s')) r := rn_virt (g := sp_me I c s) (st := .int a0 :: .ref y :: t) tb_48_2 (decide_eq_true hT) ⟨Nat.le_add_left _ t.length, hl, rfl⟩ hq r
theorem tb_48_5 : mm_tb pg_G 48 5 = some (.ifCond .eq 15, 20, 0, 0) := rfl
theorem st_48_5 {d : Nat} {ls t : List Value} {g : mm_M} {r : mm_R} {x : Int32} : mm_Rn pg_G d 48 5 ls (.int x :: t) g r ↔ if x = 0 then mm_Rn pg_G d 48 20 ls (t) g r else mm_Rn pg_G d 48 8 ls (t) g r := rn_if_eq tb_48_5 r
theorem tb_48_8 : mm_tb pg_G 48 8 = some (.aload_n 0, 0, 0, 0) := rfl
theorem st_48_8 {l1 : Value} {d : Nat} {t : List Value} {g : mm_M} {r : mm_R} {x : Nat} : mm_Rn pg_G d 48 8 [.ref x, l1] (t) g r ↔ mm_Rn pg_G d 48 9 [.ref x, l1] (.ref x :: t) g r := rn_aload_n tb_48_8 rfl r
theorem tb_48_9 : mm_tb pg_G 48 9 = some (.getfield 11, 0, 0, 93) := rfl
theorem st_48_9 {d : Nat} {ls t : List Value} {g : mm_M} {r : mm_R} {x : Nat} (hT : g.1 x = some (0, 8)) : mm_Rn pg_G d 48 9 ls (.ref x :: t) g r ↔ mm_Rn pg_G d 48 12 ls (g.2.1 x 0 :: t) g r := rn_getfield tb_48_9 hT r
theorem tb_48_12 : mm_tb pg_G 48 12 = some (.iload_n 1, 0, 0, 0) := rfl
theorem st_48_12 {l0 : Value} {d : Nat} {t : List Value} {g : mm_M} {r : mm_R} {x : Int32} : mm_Rn pg_G d 48 12 [l0, .int x] (t) g r ↔ mm_Rn pg_G d 48 13 [l0, .int x] (.int x :: t) g r := rn_iload_n tb_48_12 rfl r
theorem tb_48_13 : mm_tb pg_G 48 13 = some (.aaload, 0, 0, 0) := rfl
theorem st_48_13 {d : Nat} {ls t : List Value} {g : mm_M} {r : mm_R} {x : Nat} {j : Int32} (hc : mm_in (g.1 x) 102 103 j = true) : mm_Rn pg_G d 48 13 ls (.int j :: .ref x :: t) g r ↔ mm_Rn pg_G d 48 14 ls (g.2.1 x j.toNatClampNeg :: t) g r := rn_aaload tb_48_13 hc r
theorem tb_48_14 : mm_tb pg_G 48 14 = some (.getfield 145, 3, 6, 152) := rfl
theorem st_48_14 {d : Nat} {ls t : List Value} {g : mm_M} {r : mm_R} {x : Nat} (hT : g.1 x = some (3, 10)) : mm_Rn pg_G d 48 14 ls (.ref x :: t) g r ↔ mm_Rn pg_G d 48 17 ls (g.2.1 x 6 :: t) g r := rn_getfield tb_48_14 hT r
theorem tb_48_17 : mm_tb pg_G 48 17 = some (.goto 4, 21, 0, 0) := rfl
theorem st_48_17 {d : Nat} {ls t : List Value} {g : mm_M} {r : mm_R} : mm_Rn pg_G d 48 17 ls (t) g r ↔ mm_Rn pg_G d 48 21 ls (t) g r := rn_goto tb_48_17 r
theorem tb_48_20 : mm_tb pg_G 48 20 = some (.iconst (-1), 0, 0, 0) := rfl
theorem st_48_20 {d : Nat} {ls t : List Value} {g : mm_M} {r : mm_R} : mm_Rn pg_G d 48 20 ls (t) g r ↔ mm_Rn pg_G d 48 21 ls (io_v (-1) :: t) g r := rn_iconst tb_48_20 r
theorem tb_48_21 : mm_tb pg_G 48 21 = some (.ireturn, 0, 0, 0) := rfl
theorem st_48_21 {d : Nat} {ls : List Value} {g : mm_M} {r : mm_R} {x : Int32} : mm_Rn pg_G d 48 21 ls [.int x] g r ↔ r = (some (.int x), g) := rn_ireturn_iff tb_48_21 (Or.inl rfl) r
