/-! a row an instruction of the program -/
theorem tb_72_0 : mm_tb pg_G 72 0 = some (.aload_n 0, 0, 0, 0) := rfl
theorem st_72_0 {l1 l2 l3 l4 l5 l6 l7 : Value} {d : Nat} {t : List Value} {g : mm_M} {r : mm_R} {x : Nat} : mm_Rn pg_G d 72 0 [.ref x, l1, l2, l3, l4, l5, l6, l7] (t) g r ↔ mm_Rn pg_G d 72 1 [.ref x, l1, l2, l3, l4, l5, l6, l7] (.ref x :: t) g r := rn_aload_n tb_72_0 rfl r
theorem tb_72_1 : mm_tb pg_G 72 1 = some (.getfield 67, 6, 8, 430) := rfl
theorem st_72_1 {d : Nat} {ls t : List Value} {g : mm_M} {r : mm_R} {x : Nat} (hT : g.1 x = some (6, 35)) : mm_Rn pg_G d 72 1 ls (.ref x :: t) g r ↔ mm_Rn pg_G d 72 4 ls (g.2.1 x 8 :: t) g r := rn_getfield tb_72_1 hT r
theorem tb_72_4 : mm_tb pg_G 72 4 = some (.ifCond .ne 51, 55, 0, 0) := rfl
theorem st_72_4 {d : Nat} {ls t : List Value} {g : mm_M} {r : mm_R} {x : Int32} : mm_Rn pg_G d 72 4 ls (.int x :: t) g r ↔ if x = 0 then mm_Rn pg_G d 72 7 ls (t) g r else mm_Rn pg_G d 72 55 ls (t) g r := rn_if_ne tb_72_4 r
theorem tb_72_7 : mm_tb pg_G 72 7 = some (.aload_n 0, 0, 0, 0) := rfl
theorem st_72_7 {l1 l2 l3 l4 l5 l6 l7 : Value} {d : Nat} {t : List Value} {g : mm_M} {r : mm_R} {x : Nat} : mm_Rn pg_G d 72 7 [.ref x, l1, l2, l3, l4, l5, l6, l7] (t) g r ↔ mm_Rn pg_G d 72 8 [.ref x, l1, l2, l3, l4, l5, l6, l7] (.ref x :: t) g r := rn_aload_n tb_72_7 rfl r
theorem tb_72_8 : mm_tb pg_G 72 8 = some (.iload_n 1, 0, 0, 0) := rfl
theorem st_72_8 {l0 l2 l3 l4 l5 l6 l7 : Value} {d : Nat} {t : List Value} {g : mm_M} {r : mm_R} {x : Int32} : mm_Rn pg_G d 72 8 [l0, .int x, l2, l3, l4, l5, l6, l7] (t) g r ↔ mm_Rn pg_G d 72 9 [l0, .int x, l2, l3, l4, l5, l6, l7] (.int x :: t) g r := rn_iload_n tb_72_8 rfl r
theorem tb_72_9 : mm_tb pg_G 72 9 = some (.invokevirtual 79, 71, 2, 503) := rfl
theorem st_72_9 {d c s c' s' : Nat} {ls t : List Value} {I J : sp_I} {r : mm_R} {a0 : Int32} {y : Nat} {v : Int32} (hl : t.length ≤ 4) (hT : sp_T I y = some (6, 35)) (hq : mm_Rn pg_G d 71 0 [.ref y, .int a0] [] (sp_me I 0 0) (some (.int v), sp_me J c' s')) : mm_Rn pg_G (d + 1) 72 9 ls (.int a0 :: .ref y :: t) (sp_me I c s) r ↔ mm_Rn pg_G (d + 1) 72 12 ls (.int v :: t) (sp_me J (c + c') (s + s')) r := rn_virt (g := sp_me I c s) (st := .int a0 :: .ref y :: t) tb_72_9 (decide_eq_true hT) ⟨Nat.le_add_left _ t.length, hl, rfl⟩ hq r
theorem tb_72_12 : mm_tb pg_G 72 12 = some (.ifCond .eq 43, 55, 0, 0) := rfl
theorem st_72_12 {d : Nat} {ls t : List Value} {g : mm_M} {r : mm_R} {x : Int32} : mm_Rn pg_G d 72 12 ls (.int x :: t) g r ↔ if x = 0 then mm_Rn pg_G d 72 55 ls (t) g r else mm_Rn pg_G d 72 15 ls (t) g r := rn_if_eq tb_72_12 r
theorem tb_72_15 : mm_tb pg_G 72 15 = some (.iload_n 2, 0, 0, 0) := rfl
theorem st_72_15 {l0 l1 l3 l4 l5 l6 l7 : Value} {d : Nat} {t : List Value} {g : mm_M} {r : mm_R} {x : Int32} : mm_Rn pg_G d 72 15 [l0, l1, .int x, l3, l4, l5, l6, l7] (t) g r ↔ mm_Rn pg_G d 72 16 [l0, l1, .int x, l3, l4, l5, l6, l7] (.int x :: t) g r := rn_iload_n tb_72_15 rfl r
theorem tb_72_16 : mm_tb pg_G 72 16 = some (.ifCond .lt 39, 55, 0, 0) := rfl
theorem st_72_16 {d : Nat} {ls t : List Value} {g : mm_M} {r : mm_R} {x : Int32} : mm_Rn pg_G d 72 16 ls (.int x :: t) g r ↔ if x < 0 then mm_Rn pg_G d 72 55 ls (t) g r else mm_Rn pg_G d 72 19 ls (t) g r := rn_if_lt tb_72_16 r
theorem tb_72_19 : mm_tb pg_G 72 19 = some (.iload_n 2, 0, 0, 0) := rfl
theorem st_72_19 {l0 l1 l3 l4 l5 l6 l7 : Value} {d : Nat} {t : List Value} {g : mm_M} {r : mm_R} {x : Int32} : mm_Rn pg_G d 72 19 [l0, l1, .int x, l3, l4, l5, l6, l7] (t) g r ↔ mm_Rn pg_G d 72 20 [l0, l1, .int x, l3, l4, l5, l6, l7] (.int x :: t) g r := rn_iload_n tb_72_19 rfl r
theorem tb_72_20 : mm_tb pg_G 72 20 = some (.iconst 3, 0, 0, 0) := rfl
theorem st_72_20 {d : Nat} {ls t : List Value} {g : mm_M} {r : mm_R} : mm_Rn pg_G d 72 20 ls (t) g r ↔ mm_Rn pg_G d 72 21 ls (io_v 3 :: t) g r := rn_iconst tb_72_20 r
theorem tb_72_21 : mm_tb pg_G 72 21 = some (.if_icmp .gt 34, 55, 0, 0) := rfl
theorem st_72_21 {d : Nat} {ls t : List Value} {g : mm_M} {r : mm_R} {x y : Int32} : mm_Rn pg_G d 72 21 ls (.int y :: .int x :: t) g r ↔ if y < x then mm_Rn pg_G d 72 55 ls (t) g r else mm_Rn pg_G d 72 24 ls (t) g r := rn_icmp_gt tb_72_21 r
theorem tb_72_24 : mm_tb pg_G 72 24 = some (.iload_n 3, 0, 0, 0) := rfl
theorem st_72_24 {l0 l1 l2 l4 l5 l6 l7 : Value} {d : Nat} {t : List Value} {g : mm_M} {r : mm_R} {x : Int32} : mm_Rn pg_G d 72 24 [l0, l1, l2, .int x, l4, l5, l6, l7] (t) g r ↔ mm_Rn pg_G d 72 25 [l0, l1, l2, .int x, l4, l5, l6, l7] (.int x :: t) g r := rn_iload_n tb_72_24 rfl r
theorem tb_72_25 : mm_tb pg_G 72 25 = some (.ifCond .lt 30, 55, 0, 0) := rfl
theorem st_72_25 {d : Nat} {ls t : List Value} {g : mm_M} {r : mm_R} {x : Int32} : mm_Rn pg_G d 72 25 ls (.int x :: t) g r ↔ if x < 0 then mm_Rn pg_G d 72 55 ls (t) g r else mm_Rn pg_G d 72 28 ls (t) g r := rn_if_lt tb_72_25 r
theorem tb_72_28 : mm_tb pg_G 72 28 = some (.iload_n 3, 0, 0, 0) := rfl
theorem st_72_28 {l0 l1 l2 l4 l5 l6 l7 : Value} {d : Nat} {t : List Value} {g : mm_M} {r : mm_R} {x : Int32} : mm_Rn pg_G d 72 28 [l0, l1, l2, .int x, l4, l5, l6, l7] (t) g r ↔ mm_Rn pg_G d 72 29 [l0, l1, l2, .int x, l4, l5, l6, l7] (.int x :: t) g r := rn_iload_n tb_72_28 rfl r
theorem tb_72_29 : mm_tb pg_G 72 29 = some (.iload 4, 0, 0, 0) := rfl
theorem st_72_29 {l0 l1 l2 l3 l5 l6 l7 : Value} {d : Nat} {t : List Value} {g : mm_M} {r : mm_R} {x : Int32} : mm_Rn pg_G d 72 29 [l0, l1, l2, l3, .int x, l5, l6, l7] (t) g r ↔ mm_Rn pg_G d 72 31 [l0, l1, l2, l3, .int x, l5, l6, l7] (.int x :: t) g r := rn_iload tb_72_29 rfl r
theorem tb_72_31 : mm_tb pg_G 72 31 = some (.if_icmp .ge 24, 55, 0, 0) := rfl
theorem st_72_31 {d : Nat} {ls t : List Value} {g : mm_M} {r : mm_R} {x y : Int32} : mm_Rn pg_G d 72 31 ls (.int y :: .int x :: t) g r ↔ if y ≤ x then mm_Rn pg_G d 72 55 ls (t) g r else mm_Rn pg_G d 72 34 ls (t) g r := rn_icmp_ge tb_72_31 r
theorem tb_72_34 : mm_tb pg_G 72 34 = some (.iload 4, 0, 0, 0) := rfl
theorem st_72_34 {l0 l1 l2 l3 l5 l6 l7 : Value} {d : Nat} {t : List Value} {g : mm_M} {r : mm_R} {x : Int32} : mm_Rn pg_G d 72 34 [l0, l1, l2, l3, .int x, l5, l6, l7] (t) g r ↔ mm_Rn pg_G d 72 36 [l0, l1, l2, l3, .int x, l5, l6, l7] (.int x :: t) g r := rn_iload tb_72_34 rfl r
theorem tb_72_36 : mm_tb pg_G 72 36 = some (.aload_n 0, 0, 0, 0) := rfl
theorem st_72_36 {l1 l2 l3 l4 l5 l6 l7 : Value} {d : Nat} {t : List Value} {g : mm_M} {r : mm_R} {x : Nat} : mm_Rn pg_G d 72 36 [.ref x, l1, l2, l3, l4, l5, l6, l7] (t) g r ↔ mm_Rn pg_G d 72 37 [.ref x, l1, l2, l3, l4, l5, l6, l7] (.ref x :: t) g r := rn_aload_n tb_72_36 rfl r
theorem tb_72_37 : mm_tb pg_G 72 37 = some (.getfield 16, 6, 3, 425) := rfl
theorem st_72_37 {d : Nat} {ls t : List Value} {g : mm_M} {r : mm_R} {x : Nat} (hT : g.1 x = some (6, 35)) : mm_Rn pg_G d 72 37 ls (.ref x :: t) g r ↔ mm_Rn pg_G d 72 40 ls (g.2.1 x 3 :: t) g r := rn_getfield tb_72_37 hT r
theorem tb_72_40 : mm_tb pg_G 72 40 = some (.iload_n 1, 0, 0, 0) := rfl
theorem st_72_40 {l0 l2 l3 l4 l5 l6 l7 : Value} {d : Nat} {t : List Value} {g : mm_M} {r : mm_R} {x : Int32} : mm_Rn pg_G d 72 40 [l0, .int x, l2, l3, l4, l5, l6, l7] (t) g r ↔ mm_Rn pg_G d 72 41 [l0, .int x, l2, l3, l4, l5, l6, l7] (.int x :: t) g r := rn_iload_n tb_72_40 rfl r
theorem tb_72_41 : mm_tb pg_G 72 41 = some (.iaload, 0, 0, 0) := rfl
theorem st_72_41 {d : Nat} {ls t : List Value} {g : mm_M} {r : mm_R} {x : Nat} {j : Int32} (hc : mm_in (g.1 x) 100 101 j = true) : mm_Rn pg_G d 72 41 ls (.int j :: .ref x :: t) g r ↔ mm_Rn pg_G d 72 42 ls (g.2.1 x j.toNatClampNeg :: t) g r := rn_iaload tb_72_41 hc r
theorem tb_72_42 : mm_tb pg_G 72 42 = some (.if_icmp .gt 13, 55, 0, 0) := rfl
theorem st_72_42 {d : Nat} {ls t : List Value} {g : mm_M} {r : mm_R} {x y : Int32} : mm_Rn pg_G d 72 42 ls (.int y :: .int x :: t) g r ↔ if y < x then mm_Rn pg_G d 72 55 ls (t) g r else mm_Rn pg_G d 72 45 ls (t) g r := rn_icmp_gt tb_72_42 r
theorem tb_72_45 : mm_tb pg_G 72 45 = some (.aload_n 0, 0, 0, 0) := rfl
theorem st_72_45 {l1 l2 l3 l4 l5 l6 l7 : Value} {d : Nat} {t : List Value} {g : mm_M} {r : mm_R} {x : Nat} : mm_Rn pg_G d 72 45 [.ref x, l1, l2, l3, l4, l5, l6, l7] (t) g r ↔ mm_Rn pg_G d 72 46 [.ref x, l1, l2, l3, l4, l5, l6, l7] (.ref x :: t) g r := rn_aload_n tb_72_45 rfl r
theorem tb_72_46 : mm_tb pg_G 72 46 = some (.getfield 19, 6, 4, 426) := rfl
theorem st_72_46 {d : Nat} {ls t : List Value} {g : mm_M} {r : mm_R} {x : Nat} (hT : g.1 x = some (6, 35)) : mm_Rn pg_G d 72 46 ls (.ref x :: t) g r ↔ mm_Rn pg_G d 72 49 ls (g.2.1 x 4 :: t) g r := rn_getfield tb_72_46 hT r
theorem tb_72_49 : mm_tb pg_G 72 49 = some (.iload_n 1, 0, 0, 0) := rfl
theorem st_72_49 {l0 l2 l3 l4 l5 l6 l7 : Value} {d : Nat} {t : List Value} {g : mm_M} {r : mm_R} {x : Int32} : mm_Rn pg_G d 72 49 [l0, .int x, l2, l3, l4, l5, l6, l7] (t) g r ↔ mm_Rn pg_G d 72 50 [l0, .int x, l2, l3, l4, l5, l6, l7] (.int x :: t) g r := rn_iload_n tb_72_49 rfl r
theorem tb_72_50 : mm_tb pg_G 72 50 = some (.iaload, 0, 0, 0) := rfl
theorem st_72_50 {d : Nat} {ls t : List Value} {g : mm_M} {r : mm_R} {x : Nat} {j : Int32} (hc : mm_in (g.1 x) 100 101 j = true) : mm_Rn pg_G d 72 50 ls (.int j :: .ref x :: t) g r ↔ mm_Rn pg_G d 72 51 ls (g.2.1 x j.toNatClampNeg :: t) g r := rn_iaload tb_72_50 hc r
theorem tb_72_51 : mm_tb pg_G 72 51 = some (.iconst 4, 0, 0, 0) := rfl
theorem st_72_51 {d : Nat} {ls t : List Value} {g : mm_M} {r : mm_R} : mm_Rn pg_G d 72 51 ls (t) g r ↔ mm_Rn pg_G d 72 52 ls (io_v 4 :: t) g r := rn_iconst tb_72_51 r
theorem tb_72_52 : mm_tb pg_G 72 52 = some (.if_icmp .ne 5, 57, 0, 0) := rfl
theorem st_72_52 {d : Nat} {ls t : List Value} {g : mm_M} {r : mm_R} {x y : Int32} : mm_Rn pg_G d 72 52 ls (.int y :: .int x :: t) g r ↔ if x = y then mm_Rn pg_G d 72 55 ls (t) g r else mm_Rn pg_G d 72 57 ls (t) g r := rn_icmp_ne tb_72_52 r
theorem tb_72_55 : mm_tb pg_G 72 55 = some (.iconst 0, 0, 0, 0) := rfl
theorem st_72_55 {d : Nat} {ls t : List Value} {g : mm_M} {r : mm_R} : mm_Rn pg_G d 72 55 ls (t) g r ↔ mm_Rn pg_G d 72 56 ls (io_v 0 :: t) g r := rn_iconst tb_72_55 r
theorem tb_72_56 : mm_tb pg_G 72 56 = some (.ireturn, 0, 0, 0) := rfl
theorem st_72_56 {d : Nat} {ls : List Value} {g : mm_M} {r : mm_R} {x : Int32} (hb : x = 0 ∨ x = 1) : mm_Rn pg_G d 72 56 ls [.int x] g r ↔ r = (some (.int x), g) := rn_ireturn_iff tb_72_56 (Or.inr ⟨rfl, hb⟩) r
theorem tb_72_57 : mm_tb pg_G 72 57 = some (.iconst 4, 0, 0, 0) := rfl
theorem st_72_57 {d : Nat} {ls t : List Value} {g : mm_M} {r : mm_R} : mm_Rn pg_G d 72 57 ls (t) g r ↔ mm_Rn pg_G d 72 58 ls (io_v 4 :: t) g r := rn_iconst tb_72_57 r
theorem tb_72_58 : mm_tb pg_G 72 58 = some (.iload_n 1, 0, 0, 0) := rfl
theorem st_72_58 {l0 l2 l3 l4 l5 l6 l7 : Value} {d : Nat} {t : List Value} {g : mm_M} {r : mm_R} {x : Int32} : mm_Rn pg_G d 72 58 [l0, .int x, l2, l3, l4, l5, l6, l7] (t) g r ↔ mm_Rn pg_G d 72 59 [l0, .int x, l2, l3, l4, l5, l6, l7] (.int x :: t) g r := rn_iload_n tb_72_58 rfl r
theorem tb_72_59 : mm_tb pg_G 72 59 = some (.imul, 0, 0, 0) := rfl
theorem st_72_59 {d : Nat} {ls t : List Value} {g : mm_M} {r : mm_R} {x y : Int32} : mm_Rn pg_G d 72 59 ls (.int y :: .int x :: t) g r ↔ mm_Rn pg_G d 72 60 ls (.int (x * y) :: t) g r := rn_imul tb_72_59 r
theorem tb_72_60 : mm_tb pg_G 72 60 = some (.istore 5, 0, 0, 0) := rfl
theorem st_72_60 {l0 l1 l2 l3 l4 l5 l6 l7 : Value} {d : Nat} {t : List Value} {g : mm_M} {r : mm_R} {x : Int32} (hc : mm_c1 l4 = true) : mm_Rn pg_G d 72 60 [l0, l1, l2, l3, l4, l5, l6, l7] (.int x :: t) g r ↔ mm_Rn pg_G d 72 62 [l0, l1, l2, l3, l4, .int x, l6, l7] (t) g r := rn_istore tb_72_60 (mm_so_of (ls := [l0, l1, l2, l3, l4, l5, l6, l7]) (v := l4) (Nat.le_of_ble_eq_true rfl) rfl hc) r
theorem tb_72_62 : mm_tb pg_G 72 62 = some (.iload 5, 0, 0, 0) := rfl
theorem st_72_62 {l0 l1 l2 l3 l4 l6 l7 : Value} {d : Nat} {t : List Value} {g : mm_M} {r : mm_R} {x : Int32} : mm_Rn pg_G d 72 62 [l0, l1, l2, l3, l4, .int x, l6, l7] (t) g r ↔ mm_Rn pg_G d 72 64 [l0, l1, l2, l3, l4, .int x, l6, l7] (.int x :: t) g r := rn_iload tb_72_62 rfl r
theorem tb_72_64 : mm_tb pg_G 72 64 = some (.iconst 4, 0, 0, 0) := rfl
theorem st_72_64 {d : Nat} {ls t : List Value} {g : mm_M} {r : mm_R} : mm_Rn pg_G d 72 64 ls (t) g r ↔ mm_Rn pg_G d 72 65 ls (io_v 4 :: t) g r := rn_iconst tb_72_64 r
theorem tb_72_65 : mm_tb pg_G 72 65 = some (.iload_n 1, 0, 0, 0) := rfl
theorem st_72_65 {l0 l2 l3 l4 l5 l6 l7 : Value} {d : Nat} {t : List Value} {g : mm_M} {r : mm_R} {x : Int32} : mm_Rn pg_G d 72 65 [l0, .int x, l2, l3, l4, l5, l6, l7] (t) g r ↔ mm_Rn pg_G d 72 66 [l0, .int x, l2, l3, l4, l5, l6, l7] (.int x :: t) g r := rn_iload_n tb_72_65 rfl r
theorem tb_72_66 : mm_tb pg_G 72 66 = some (.imul, 0, 0, 0) := rfl
theorem st_72_66 {d : Nat} {ls t : List Value} {g : mm_M} {r : mm_R} {x y : Int32} : mm_Rn pg_G d 72 66 ls (.int y :: .int x :: t) g r ↔ mm_Rn pg_G d 72 67 ls (.int (x * y) :: t) g r := rn_imul tb_72_66 r
theorem tb_72_67 : mm_tb pg_G 72 67 = some (.aload_n 0, 0, 0, 0) := rfl
theorem st_72_67 {l1 l2 l3 l4 l5 l6 l7 : Value} {d : Nat} {t : List Value} {g : mm_M} {r : mm_R} {x : Nat} : mm_Rn pg_G d 72 67 [.ref x, l1, l2, l3, l4, l5, l6, l7] (t) g r ↔ mm_Rn pg_G d 72 68 [.ref x, l1, l2, l3, l4, l5, l6, l7] (.ref x :: t) g r := rn_aload_n tb_72_67 rfl r
theorem tb_72_68 : mm_tb pg_G 72 68 = some (.getfield 19, 6, 4, 426) := rfl
theorem st_72_68 {d : Nat} {ls t : List Value} {g : mm_M} {r : mm_R} {x : Nat} (hT : g.1 x = some (6, 35)) : mm_Rn pg_G d 72 68 ls (.ref x :: t) g r ↔ mm_Rn pg_G d 72 71 ls (g.2.1 x 4 :: t) g r := rn_getfield tb_72_68 hT r
theorem tb_72_71 : mm_tb pg_G 72 71 = some (.iload_n 1, 0, 0, 0) := rfl
theorem st_72_71 {l0 l2 l3 l4 l5 l6 l7 : Value} {d : Nat} {t : List Value} {g : mm_M} {r : mm_R} {x : Int32} : mm_Rn pg_G d 72 71 [l0, .int x, l2, l3, l4, l5, l6, l7] (t) g r ↔ mm_Rn pg_G d 72 72 [l0, .int x, l2, l3, l4, l5, l6, l7] (.int x :: t) g r := rn_iload_n tb_72_71 rfl r
theorem tb_72_72 : mm_tb pg_G 72 72 = some (.iaload, 0, 0, 0) := rfl
theorem st_72_72 {d : Nat} {ls t : List Value} {g : mm_M} {r : mm_R} {x : Nat} {j : Int32} (hc : mm_in (g.1 x) 100 101 j = true) : mm_Rn pg_G d 72 72 ls (.int j :: .ref x :: t) g r ↔ mm_Rn pg_G d 72 73 ls (g.2.1 x j.toNatClampNeg :: t) g r := rn_iaload tb_72_72 hc r
theorem tb_72_73 : mm_tb pg_G 72 73 = some (.iadd, 0, 0, 0) := rfl
theorem st_72_73 {d : Nat} {ls t : List Value} {g : mm_M} {r : mm_R} {x y : Int32} : mm_Rn pg_G d 72 73 ls (.int y :: .int x :: t) g r ↔ mm_Rn pg_G d 72 74 ls (.int (x + y) :: t) g r := rn_iadd tb_72_73 r
theorem tb_72_74 : mm_tb pg_G 72 74 = some (.if_icmp .ge 115, 189, 0, 0) := rfl
theorem st_72_74 {d : Nat} {ls t : List Value} {g : mm_M} {r : mm_R} {x y : Int32} : mm_Rn pg_G d 72 74 ls (.int y :: .int x :: t) g r ↔ if y ≤ x then mm_Rn pg_G d 72 189 ls (t) g r else mm_Rn pg_G d 72 77 ls (t) g r := rn_icmp_ge tb_72_74 r
theorem tb_72_77 : mm_tb pg_G 72 77 = some (.aload_n 0, 0, 0, 0) := rfl
theorem st_72_77 {l1 l2 l3 l4 l5 l6 l7 : Value} {d : Nat} {t : List Value} {g : mm_M} {r : mm_R} {x : Nat} : mm_Rn pg_G d 72 77 [.ref x, l1, l2, l3, l4, l5, l6, l7] (t) g r ↔ mm_Rn pg_G d 72 78 [.ref x, l1, l2, l3, l4, l5, l6, l7] (.ref x :: t) g r := rn_aload_n tb_72_77 rfl r
theorem tb_72_78 : mm_tb pg_G 72 78 = some (.getfield 28, 6, 7, 429) := rfl
theorem st_72_78 {d : Nat} {ls t : List Value} {g : mm_M} {r : mm_R} {x : Nat} (hT : g.1 x = some (6, 35)) : mm_Rn pg_G d 72 78 ls (.ref x :: t) g r ↔ mm_Rn pg_G d 72 81 ls (g.2.1 x 7 :: t) g r := rn_getfield tb_72_78 hT r
theorem tb_72_81 : mm_tb pg_G 72 81 = some (.iload 5, 0, 0, 0) := rfl
theorem st_72_81 {l0 l1 l2 l3 l4 l6 l7 : Value} {d : Nat} {t : List Value} {g : mm_M} {r : mm_R} {x : Int32} : mm_Rn pg_G d 72 81 [l0, l1, l2, l3, l4, .int x, l6, l7] (t) g r ↔ mm_Rn pg_G d 72 83 [l0, l1, l2, l3, l4, .int x, l6, l7] (.int x :: t) g r := rn_iload tb_72_81 rfl r
theorem tb_72_83 : mm_tb pg_G 72 83 = some (.iaload, 0, 0, 0) := rfl
theorem st_72_83 {d : Nat} {ls t : List Value} {g : mm_M} {r : mm_R} {x : Nat} {j : Int32} (hc : mm_in (g.1 x) 100 101 j = true) : mm_Rn pg_G d 72 83 ls (.int j :: .ref x :: t) g r ↔ mm_Rn pg_G d 72 84 ls (g.2.1 x j.toNatClampNeg :: t) g r := rn_iaload tb_72_83 hc r
theorem tb_72_84 : mm_tb pg_G 72 84 = some (.iload_n 3, 0, 0, 0) := rfl
theorem st_72_84 {l0 l1 l2 l4 l5 l6 l7 : Value} {d : Nat} {t : List Value} {g : mm_M} {r : mm_R} {x : Int32} : mm_Rn pg_G d 72 84 [l0, l1, l2, .int x, l4, l5, l6, l7] (t) g r ↔ mm_Rn pg_G d 72 85 [l0, l1, l2, .int x, l4, l5, l6, l7] (.int x :: t) g r := rn_iload_n tb_72_84 rfl r
theorem tb_72_85 : mm_tb pg_G 72 85 = some (.if_icmp .le 15, 100, 0, 0) := rfl
theorem st_72_85 {d : Nat} {ls t : List Value} {g : mm_M} {r : mm_R} {x y : Int32} : mm_Rn pg_G d 72 85 ls (.int y :: .int x :: t) g r ↔ if x ≤ y then mm_Rn pg_G d 72 100 ls (t) g r else mm_Rn pg_G d 72 88 ls (t) g r := rn_icmp_le tb_72_85 r
theorem tb_72_88 : mm_tb pg_G 72 88 = some (.iload 4, 0, 0, 0) := rfl
theorem st_72_88 {l0 l1 l2 l3 l5 l6 l7 : Value} {d : Nat} {t : List Value} {g : mm_M} {r : mm_R} {x : Int32} : mm_Rn pg_G d 72 88 [l0, l1, l2, l3, .int x, l5, l6, l7] (t) g r ↔ mm_Rn pg_G d 72 90 [l0, l1, l2, l3, .int x, l5, l6, l7] (.int x :: t) g r := rn_iload tb_72_88 rfl r
theorem tb_72_90 : mm_tb pg_G 72 90 = some (.aload_n 0, 0, 0, 0) := rfl
theorem st_72_90 {l1 l2 l3 l4 l5 l6 l7 : Value} {d : Nat} {t : List Value} {g : mm_M} {r : mm_R} {x : Nat} : mm_Rn pg_G d 72 90 [.ref x, l1, l2, l3, l4, l5, l6, l7] (t) g r ↔ mm_Rn pg_G d 72 91 [.ref x, l1, l2, l3, l4, l5, l6, l7] (.ref x :: t) g r := rn_aload_n tb_72_90 rfl r
theorem tb_72_91 : mm_tb pg_G 72 91 = some (.getfield 25, 6, 6, 428) := rfl
theorem st_72_91 {d : Nat} {ls t : List Value} {g : mm_M} {r : mm_R} {x : Nat} (hT : g.1 x = some (6, 35)) : mm_Rn pg_G d 72 91 ls (.ref x :: t) g r ↔ mm_Rn pg_G d 72 94 ls (g.2.1 x 6 :: t) g r := rn_getfield tb_72_91 hT r
theorem tb_72_94 : mm_tb pg_G 72 94 = some (.iload 5, 0, 0, 0) := rfl
theorem st_72_94 {l0 l1 l2 l3 l4 l6 l7 : Value} {d : Nat} {t : List Value} {g : mm_M} {r : mm_R} {x : Int32} : mm_Rn pg_G d 72 94 [l0, l1, l2, l3, l4, .int x, l6, l7] (t) g r ↔ mm_Rn pg_G d 72 96 [l0, l1, l2, l3, l4, .int x, l6, l7] (.int x :: t) g r := rn_iload tb_72_94 rfl r
theorem tb_72_96 : mm_tb pg_G 72 96 = some (.iaload, 0, 0, 0) := rfl
theorem st_72_96 {d : Nat} {ls t : List Value} {g : mm_M} {r : mm_R} {x : Nat} {j : Int32} (hc : mm_in (g.1 x) 100 101 j = true) : mm_Rn pg_G d 72 96 ls (.int j :: .ref x :: t) g r ↔ mm_Rn pg_G d 72 97 ls (g.2.1 x j.toNatClampNeg :: t) g r := rn_iaload tb_72_96 hc r
theorem tb_72_97 : mm_tb pg_G 72 97 = some (.if_icmp .gt 7, 104, 0, 0) := rfl
theorem st_72_97 {d : Nat} {ls t : List Value} {g : mm_M} {r : mm_R} {x y : Int32} : mm_Rn pg_G d 72 97 ls (.int y :: .int x :: t) g r ↔ if y < x then mm_Rn pg_G d 72 104 ls (t) g r else mm_Rn pg_G d 72 100 ls (t) g r := rn_icmp_gt tb_72_97 r
theorem tb_72_100 : mm_tb pg_G 72 100 = some (.iconst 1, 0, 0, 0) := rfl
theorem st_72_100 {d : Nat} {ls t : List Value} {g : mm_M} {r : mm_R} : mm_Rn pg_G d 72 100 ls (t) g r ↔ mm_Rn pg_G d 72 101 ls (io_v 1 :: t) g r := rn_iconst tb_72_100 r
theorem tb_72_101 : mm_tb pg_G 72 101 = some (.goto 4, 105, 0, 0) := rfl
theorem st_72_101 {d : Nat} {ls t : List Value} {g : mm_M} {r : mm_R} : mm_Rn pg_G d 72 101 ls (t) g r ↔ mm_Rn pg_G d 72 105 ls (t) g r := rn_goto tb_72_101 r
theorem tb_72_104 : mm_tb pg_G 72 104 = some (.iconst 0, 0, 0, 0) := rfl
theorem st_72_104 {d : Nat} {ls t : List Value} {g : mm_M} {r : mm_R} : mm_Rn pg_G d 72 104 ls (t) g r ↔ mm_Rn pg_G d 72 105 ls (io_v 0 :: t) g r := rn_iconst tb_72_104 r
theorem tb_72_105 : mm_tb pg_G 72 105 = some (.istore 6, 0, 0, 0) := rfl
theorem st_72_105 {l0 l1 l2 l3 l4 l5 l6 l7 : Value} {d : Nat} {t : List Value} {g : mm_M} {r : mm_R} {x : Int32} (hc : mm_c1 l5 = true) : mm_Rn pg_G d 72 105 [l0, l1, l2, l3, l4, l5, l6, l7] (.int x :: t) g r ↔ mm_Rn pg_G d 72 107 [l0, l1, l2, l3, l4, l5, .int x, l7] (t) g r := rn_istore tb_72_105 (mm_so_of (ls := [l0, l1, l2, l3, l4, l5, l6, l7]) (v := l5) (Nat.le_of_ble_eq_true rfl) rfl hc) r
theorem tb_72_107 : mm_tb pg_G 72 107 = some (.aload_n 0, 0, 0, 0) := rfl
theorem st_72_107 {l1 l2 l3 l4 l5 l6 l7 : Value} {d : Nat} {t : List Value} {g : mm_M} {r : mm_R} {x : Nat} : mm_Rn pg_G d 72 107 [.ref x, l1, l2, l3, l4, l5, l6, l7] (t) g r ↔ mm_Rn pg_G d 72 108 [.ref x, l1, l2, l3, l4, l5, l6, l7] (.ref x :: t) g r := rn_aload_n tb_72_107 rfl r
theorem tb_72_108 : mm_tb pg_G 72 108 = some (.getfield 25, 6, 6, 428) := rfl
theorem st_72_108 {d : Nat} {ls t : List Value} {g : mm_M} {r : mm_R} {x : Nat} (hT : g.1 x = some (6, 35)) : mm_Rn pg_G d 72 108 ls (.ref x :: t) g r ↔ mm_Rn pg_G d 72 111 ls (g.2.1 x 6 :: t) g r := rn_getfield tb_72_108 hT r
theorem tb_72_111 : mm_tb pg_G 72 111 = some (.iload 5, 0, 0, 0) := rfl
theorem st_72_111 {l0 l1 l2 l3 l4 l6 l7 : Value} {d : Nat} {t : List Value} {g : mm_M} {r : mm_R} {x : Int32} : mm_Rn pg_G d 72 111 [l0, l1, l2, l3, l4, .int x, l6, l7] (t) g r ↔ mm_Rn pg_G d 72 113 [l0, l1, l2, l3, l4, .int x, l6, l7] (.int x :: t) g r := rn_iload tb_72_111 rfl r
theorem tb_72_113 : mm_tb pg_G 72 113 = some (.iaload, 0, 0, 0) := rfl
theorem st_72_113 {d : Nat} {ls t : List Value} {g : mm_M} {r : mm_R} {x : Nat} {j : Int32} (hc : mm_in (g.1 x) 100 101 j = true) : mm_Rn pg_G d 72 113 ls (.int j :: .ref x :: t) g r ↔ mm_Rn pg_G d 72 114 ls (g.2.1 x j.toNatClampNeg :: t) g r := rn_iaload tb_72_113 hc r
theorem tb_72_114 : mm_tb pg_G 72 114 = some (.iload_n 3, 0, 0, 0) := rfl
theorem st_72_114 {l0 l1 l2 l4 l5 l6 l7 : Value} {d : Nat} {t : List Value} {g : mm_M} {r : mm_R} {x : Int32} : mm_Rn pg_G d 72 114 [l0, l1, l2, .int x, l4, l5, l6, l7] (t) g r ↔ mm_Rn pg_G d 72 115 [l0, l1, l2, .int x, l4, l5, l6, l7] (.int x :: t) g r := rn_iload_n tb_72_114 rfl r
theorem tb_72_115 : mm_tb pg_G 72 115 = some (.iload 4, 0, 0, 0) := rfl
theorem st_72_115 {l0 l1 l2 l3 l5 l6 l7 : Value} {d : Nat} {t : List Value} {g : mm_M} {r : mm_R} {x : Int32} : mm_Rn pg_G d 72 115 [l0, l1, l2, l3, .int x, l5, l6, l7] (t) g r ↔ mm_Rn pg_G d 72 117 [l0, l1, l2, l3, .int x, l5, l6, l7] (.int x :: t) g r := rn_iload tb_72_115 rfl r
theorem tb_72_117 : mm_tb pg_G 72 117 = some (.aload_n 0, 0, 0, 0) := rfl
theorem st_72_117 {l1 l2 l3 l4 l5 l6 l7 : Value} {d : Nat} {t : List Value} {g : mm_M} {r : mm_R} {x : Nat} : mm_Rn pg_G d 72 117 [.ref x, l1, l2, l3, l4, l5, l6, l7] (t) g r ↔ mm_Rn pg_G d 72 118 [.ref x, l1, l2, l3, l4, l5, l6, l7] (.ref x :: t) g r := rn_aload_n tb_72_117 rfl r
theorem tb_72_118 : mm_tb pg_G 72 118 = some (.getfield 28, 6, 7, 429) := rfl
theorem st_72_118 {d : Nat} {ls t : List Value} {g : mm_M} {r : mm_R} {x : Nat} (hT : g.1 x = some (6, 35)) : mm_Rn pg_G d 72 118 ls (.ref x :: t) g r ↔ mm_Rn pg_G d 72 121 ls (g.2.1 x 7 :: t) g r := rn_getfield tb_72_118 hT r
theorem tb_72_121 : mm_tb pg_G 72 121 = some (.iload 5, 0, 0, 0) := rfl
theorem st_72_121 {l0 l1 l2 l3 l4 l6 l7 : Value} {d : Nat} {t : List Value} {g : mm_M} {r : mm_R} {x : Int32} : mm_Rn pg_G d 72 121 [l0, l1, l2, l3, l4, .int x, l6, l7] (t) g r ↔ mm_Rn pg_G d 72 123 [l0, l1, l2, l3, l4, .int x, l6, l7] (.int x :: t) g r := rn_iload tb_72_121 rfl r
theorem tb_72_123 : mm_tb pg_G 72 123 = some (.iaload, 0, 0, 0) := rfl
theorem st_72_123 {d : Nat} {ls t : List Value} {g : mm_M} {r : mm_R} {x : Nat} {j : Int32} (hc : mm_in (g.1 x) 100 101 j = true) : mm_Rn pg_G d 72 123 ls (.int j :: .ref x :: t) g r ↔ mm_Rn pg_G d 72 124 ls (g.2.1 x j.toNatClampNeg :: t) g r := rn_iaload tb_72_123 hc r
theorem tb_72_124 : mm_tb pg_G 72 124 = some (.invokestatic 75, 69, 4, 496) := rfl
theorem st_72_124 {d c s c' s' : Nat} {ls t : List Value} {I J : sp_I} {r : mm_R} {a0 a1 a2 a3 : Int32} {v : Int32} (hl : t.length ≤ 4) (hq : mm_Rn pg_G d 69 0 [.int a0, .int a1, .int a2, .int a3] [] (sp_me I 0 0) (some (.int v), sp_me J c' s')) : mm_Rn pg_G (d + 1) 72 124 ls (.int a3 :: .int a2 :: .int a1 :: .int a0 :: t) (sp_me I c s) r ↔ mm_Rn pg_G (d + 1) 72 127 ls (.int v :: t) (sp_me J (c + c') (s + s')) r := rn_stat (g := sp_me I c s) (st := .int a3 :: .int a2 :: .int a1 :: .int a0 :: t) tb_72_124 (by decide) ⟨Nat.le_add_left _ t.length, hl, rfl⟩ hq r
theorem tb_72_127 : mm_tb pg_G 72 127 = some (.ifCond .ne 26, 153, 0, 0) := rfl
theorem st_72_127 {d : Nat} {ls t : List Value} {g : mm_M} {r : mm_R} {x : Int32} : mm_Rn pg_G d 72 127 ls (.int x :: t) g r ↔ if x = 0 then mm_Rn pg_G d 72 130 ls (t) g r else mm_Rn pg_G d 72 153 ls (t) g r := rn_if_ne tb_72_127 r
theorem tb_72_130 : mm_tb pg_G 72 130 = some (.iload_n 3, 0, 0, 0) := rfl
theorem st_72_130 {l0 l1 l2 l4 l5 l6 l7 : Value} {d : Nat} {t : List Value} {g : mm_M} {r : mm_R} {x : Int32} : mm_Rn pg_G d 72 130 [l0, l1, l2, .int x, l4, l5, l6, l7] (t) g r ↔ mm_Rn pg_G d 72 131 [l0, l1, l2, .int x, l4, l5, l6, l7] (.int x :: t) g r := rn_iload_n tb_72_130 rfl r
theorem tb_72_131 : mm_tb pg_G 72 131 = some (.aload_n 0, 0, 0, 0) := rfl
theorem st_72_131 {l1 l2 l3 l4 l5 l6 l7 : Value} {d : Nat} {t : List Value} {g : mm_M} {r : mm_R} {x : Nat} : mm_Rn pg_G d 72 131 [.ref x, l1, l2, l3, l4, l5, l6, l7] (t) g r ↔ mm_Rn pg_G d 72 132 [.ref x, l1, l2, l3, l4, l5, l6, l7] (.ref x :: t) g r := rn_aload_n tb_72_131 rfl r
theorem tb_72_132 : mm_tb pg_G 72 132 = some (.getfield 25, 6, 6, 428) := rfl
theorem st_72_132 {d : Nat} {ls t : List Value} {g : mm_M} {r : mm_R} {x : Nat} (hT : g.1 x = some (6, 35)) : mm_Rn pg_G d 72 132 ls (.ref x :: t) g r ↔ mm_Rn pg_G d 72 135 ls (g.2.1 x 6 :: t) g r := rn_getfield tb_72_132 hT r
theorem tb_72_135 : mm_tb pg_G 72 135 = some (.iload 5, 0, 0, 0) := rfl
theorem st_72_135 {l0 l1 l2 l3 l4 l6 l7 : Value} {d : Nat} {t : List Value} {g : mm_M} {r : mm_R} {x : Int32} : mm_Rn pg_G d 72 135 [l0, l1, l2, l3, l4, .int x, l6, l7] (t) g r ↔ mm_Rn pg_G d 72 137 [l0, l1, l2, l3, l4, .int x, l6, l7] (.int x :: t) g r := rn_iload tb_72_135 rfl r
theorem tb_72_137 : mm_tb pg_G 72 137 = some (.iaload, 0, 0, 0) := rfl
theorem st_72_137 {d : Nat} {ls t : List Value} {g : mm_M} {r : mm_R} {x : Nat} {j : Int32} (hc : mm_in (g.1 x) 100 101 j = true) : mm_Rn pg_G d 72 137 ls (.int j :: .ref x :: t) g r ↔ mm_Rn pg_G d 72 138 ls (g.2.1 x j.toNatClampNeg :: t) g r := rn_iaload tb_72_137 hc r
theorem tb_72_138 : mm_tb pg_G 72 138 = some (.aload_n 0, 0, 0, 0) := rfl
theorem st_72_138 {l1 l2 l3 l4 l5 l6 l7 : Value} {d : Nat} {t : List Value} {g : mm_M} {r : mm_R} {x : Nat} : mm_Rn pg_G d 72 138 [.ref x, l1, l2, l3, l4, l5, l6, l7] (t) g r ↔ mm_Rn pg_G d 72 139 [.ref x, l1, l2, l3, l4, l5, l6, l7] (.ref x :: t) g r := rn_aload_n tb_72_138 rfl r
theorem tb_72_139 : mm_tb pg_G 72 139 = some (.getfield 28, 6, 7, 429) := rfl
theorem st_72_139 {d : Nat} {ls t : List Value} {g : mm_M} {r : mm_R} {x : Nat} (hT : g.1 x = some (6, 35)) : mm_Rn pg_G d 72 139 ls (.ref x :: t) g r ↔ mm_Rn pg_G d 72 142 ls (g.2.1 x 7 :: t) g r := rn_getfield tb_72_139 hT r
theorem tb_72_142 : mm_tb pg_G 72 142 = some (.iload 5, 0, 0, 0) := rfl
theorem st_72_142 {l0 l1 l2 l3 l4 l6 l7 : Value} {d : Nat} {t : List Value} {g : mm_M} {r : mm_R} {x : Int32} : mm_Rn pg_G d 72 142 [l0, l1, l2, l3, l4, .int x, l6, l7] (t) g r ↔ mm_Rn pg_G d 72 144 [l0, l1, l2, l3, l4, .int x, l6, l7] (.int x :: t) g r := rn_iload tb_72_142 rfl r
theorem tb_72_144 : mm_tb pg_G 72 144 = some (.iaload, 0, 0, 0) := rfl
theorem st_72_144 {d : Nat} {ls t : List Value} {g : mm_M} {r : mm_R} {x : Nat} {j : Int32} (hc : mm_in (g.1 x) 100 101 j = true) : mm_Rn pg_G d 72 144 ls (.int j :: .ref x :: t) g r ↔ mm_Rn pg_G d 72 145 ls (g.2.1 x j.toNatClampNeg :: t) g r := rn_iaload tb_72_144 hc r
theorem tb_72_145 : mm_tb pg_G 72 145 = some (.iload 4, 0, 0, 0) := rfl
theorem st_72_145 {l0 l1 l2 l3 l5 l6 l7 : Value} {d : Nat} {t : List Value} {g : mm_M} {r : mm_R} {x : Int32} : mm_Rn pg_G d 72 145 [l0, l1, l2, l3, .int x, l5, l6, l7] (t) g r ↔ mm_Rn pg_G d 72 147 [l0, l1, l2, l3, .int x, l5, l6, l7] (.int x :: t) g r := rn_iload tb_72_145 rfl r
theorem tb_72_147 : mm_tb pg_G 72 147 = some (.invokestatic 75, 69, 4, 496) := rfl
theorem st_72_147 {d c s c' s' : Nat} {ls t : List Value} {I J : sp_I} {r : mm_R} {a0 a1 a2 a3 : Int32} {v : Int32} (hl : t.length ≤ 4) (hq : mm_Rn pg_G d 69 0 [.int a0, .int a1, .int a2, .int a3] [] (sp_me I 0 0) (some (.int v), sp_me J c' s')) : mm_Rn pg_G (d + 1) 72 147 ls (.int a3 :: .int a2 :: .int a1 :: .int a0 :: t) (sp_me I c s) r ↔ mm_Rn pg_G (d + 1) 72 150 ls (.int v :: t) (sp_me J (c + c') (s + s')) r := rn_stat (g := sp_me I c s) (st := .int a3 :: .int a2 :: .int a1 :: .int a0 :: t) tb_72_147 (by decide) ⟨Nat.le_add_left _ t.length, hl, rfl⟩ hq r
theorem tb_72_150 : mm_tb pg_G 72 150 = some (.ifCond .eq 7, 157, 0, 0) := rfl
theorem st_72_150 {d : Nat} {ls t : List Value} {g : mm_M} {r : mm_R} {x : Int32} : mm_Rn pg_G d 72 150 ls (.int x :: t) g r ↔ if x = 0 then mm_Rn pg_G d 72 157 ls (t) g r else mm_Rn pg_G d 72 153 ls (t) g r := rn_if_eq tb_72_150 r
theorem tb_72_153 : mm_tb pg_G 72 153 = some (.iconst 1, 0, 0, 0) := rfl
theorem st_72_153 {d : Nat} {ls t : List Value} {g : mm_M} {r : mm_R} : mm_Rn pg_G d 72 153 ls (t) g r ↔ mm_Rn pg_G d 72 154 ls (io_v 1 :: t) g r := rn_iconst tb_72_153 r
theorem tb_72_154 : mm_tb pg_G 72 154 = some (.goto 4, 158, 0, 0) := rfl
theorem st_72_154 {d : Nat} {ls t : List Value} {g : mm_M} {r : mm_R} : mm_Rn pg_G d 72 154 ls (t) g r ↔ mm_Rn pg_G d 72 158 ls (t) g r := rn_goto tb_72_154 r
theorem tb_72_157 : mm_tb pg_G 72 157 = some (.iconst 0, 0, 0, 0) := rfl
theorem st_72_157 {d : Nat} {ls t : List Value} {g : mm_M} {r : mm_R} : mm_Rn pg_G d 72 157 ls (t) g r ↔ mm_Rn pg_G d 72 158 ls (io_v 0 :: t) g r := rn_iconst tb_72_157 r
theorem tb_72_158 : mm_tb pg_G 72 158 = some (.istore 7, 0, 0, 0) := rfl
theorem st_72_158 {l0 l1 l2 l3 l4 l5 l6 l7 : Value} {d : Nat} {t : List Value} {g : mm_M} {r : mm_R} {x : Int32} (hc : mm_c1 l6 = true) : mm_Rn pg_G d 72 158 [l0, l1, l2, l3, l4, l5, l6, l7] (.int x :: t) g r ↔ mm_Rn pg_G d 72 160 [l0, l1, l2, l3, l4, l5, l6, .int x] (t) g r := rn_istore tb_72_158 (mm_so_of (ls := [l0, l1, l2, l3, l4, l5, l6, l7]) (v := l6) (Nat.le_of_ble_eq_true rfl) rfl hc) r
theorem tb_72_160 : mm_tb pg_G 72 160 = some (.iload 6, 0, 0, 0) := rfl
theorem st_72_160 {l0 l1 l2 l3 l4 l5 l7 : Value} {d : Nat} {t : List Value} {g : mm_M} {r : mm_R} {x : Int32} : mm_Rn pg_G d 72 160 [l0, l1, l2, l3, l4, l5, .int x, l7] (t) g r ↔ mm_Rn pg_G d 72 162 [l0, l1, l2, l3, l4, l5, .int x, l7] (.int x :: t) g r := rn_iload tb_72_160 rfl r
theorem tb_72_162 : mm_tb pg_G 72 162 = some (.ifCond .ne 21, 183, 0, 0) := rfl
theorem st_72_162 {d : Nat} {ls t : List Value} {g : mm_M} {r : mm_R} {x : Int32} : mm_Rn pg_G d 72 162 ls (.int x :: t) g r ↔ if x = 0 then mm_Rn pg_G d 72 165 ls (t) g r else mm_Rn pg_G d 72 183 ls (t) g r := rn_if_ne tb_72_162 r
theorem tb_72_165 : mm_tb pg_G 72 165 = some (.iload 7, 0, 0, 0) := rfl
theorem st_72_165 {l0 l1 l2 l3 l4 l5 l6 : Value} {d : Nat} {t : List Value} {g : mm_M} {r : mm_R} {x : Int32} : mm_Rn pg_G d 72 165 [l0, l1, l2, l3, l4, l5, l6, .int x] (t) g r ↔ mm_Rn pg_G d 72 167 [l0, l1, l2, l3, l4, l5, l6, .int x] (.int x :: t) g r := rn_iload tb_72_165 rfl r
theorem tb_72_167 : mm_tb pg_G 72 167 = some (.ifCond .eq 14, 181, 0, 0) := rfl
theorem st_72_167 {d : Nat} {ls t : List Value} {g : mm_M} {r : mm_R} {x : Int32} : mm_Rn pg_G d 72 167 ls (.int x :: t) g r ↔ if x = 0 then mm_Rn pg_G d 72 181 ls (t) g r else mm_Rn pg_G d 72 170 ls (t) g r := rn_if_eq tb_72_167 r
theorem tb_72_170 : mm_tb pg_G 72 170 = some (.aload_n 0, 0, 0, 0) := rfl
theorem st_72_170 {l1 l2 l3 l4 l5 l6 l7 : Value} {d : Nat} {t : List Value} {g : mm_M} {r : mm_R} {x : Nat} : mm_Rn pg_G d 72 170 [.ref x, l1, l2, l3, l4, l5, l6, l7] (t) g r ↔ mm_Rn pg_G d 72 171 [.ref x, l1, l2, l3, l4, l5, l6, l7] (.ref x :: t) g r := rn_aload_n tb_72_170 rfl r
theorem tb_72_171 : mm_tb pg_G 72 171 = some (.getfield 22, 6, 5, 427) := rfl
theorem st_72_171 {d : Nat} {ls t : List Value} {g : mm_M} {r : mm_R} {x : Nat} (hT : g.1 x = some (6, 35)) : mm_Rn pg_G d 72 171 ls (.ref x :: t) g r ↔ mm_Rn pg_G d 72 174 ls (g.2.1 x 5 :: t) g r := rn_getfield tb_72_171 hT r
theorem tb_72_174 : mm_tb pg_G 72 174 = some (.iload 5, 0, 0, 0) := rfl
theorem st_72_174 {l0 l1 l2 l3 l4 l6 l7 : Value} {d : Nat} {t : List Value} {g : mm_M} {r : mm_R} {x : Int32} : mm_Rn pg_G d 72 174 [l0, l1, l2, l3, l4, .int x, l6, l7] (t) g r ↔ mm_Rn pg_G d 72 176 [l0, l1, l2, l3, l4, .int x, l6, l7] (.int x :: t) g r := rn_iload tb_72_174 rfl r
theorem tb_72_176 : mm_tb pg_G 72 176 = some (.iaload, 0, 0, 0) := rfl
theorem st_72_176 {d : Nat} {ls t : List Value} {g : mm_M} {r : mm_R} {x : Nat} {j : Int32} (hc : mm_in (g.1 x) 100 101 j = true) : mm_Rn pg_G d 72 176 ls (.int j :: .ref x :: t) g r ↔ mm_Rn pg_G d 72 177 ls (g.2.1 x j.toNatClampNeg :: t) g r := rn_iaload tb_72_176 hc r
theorem tb_72_177 : mm_tb pg_G 72 177 = some (.iload_n 2, 0, 0, 0) := rfl
theorem st_72_177 {l0 l1 l3 l4 l5 l6 l7 : Value} {d : Nat} {t : List Value} {g : mm_M} {r : mm_R} {x : Int32} : mm_Rn pg_G d 72 177 [l0, l1, .int x, l3, l4, l5, l6, l7] (t) g r ↔ mm_Rn pg_G d 72 178 [l0, l1, .int x, l3, l4, l5, l6, l7] (.int x :: t) g r := rn_iload_n tb_72_177 rfl r
theorem tb_72_178 : mm_tb pg_G 72 178 = some (.if_icmp .ne 5, 183, 0, 0) := rfl
theorem st_72_178 {d : Nat} {ls t : List Value} {g : mm_M} {r : mm_R} {x y : Int32} : mm_Rn pg_G d 72 178 ls (.int y :: .int x :: t) g r ↔ if x = y then mm_Rn pg_G d 72 181 ls (t) g r else mm_Rn pg_G d 72 183 ls (t) g r := rn_icmp_ne tb_72_178 r
theorem tb_72_181 : mm_tb pg_G 72 181 = some (.iconst 0, 0, 0, 0) := rfl
theorem st_72_181 {d : Nat} {ls t : List Value} {g : mm_M} {r : mm_R} : mm_Rn pg_G d 72 181 ls (t) g r ↔ mm_Rn pg_G d 72 182 ls (io_v 0 :: t) g r := rn_iconst tb_72_181 r
theorem tb_72_182 : mm_tb pg_G 72 182 = some (.ireturn, 0, 0, 0) := rfl
theorem st_72_182 {d : Nat} {ls : List Value} {g : mm_M} {r : mm_R} {x : Int32} (hb : x = 0 ∨ x = 1) : mm_Rn pg_G d 72 182 ls [.int x] g r ↔ r = (some (.int x), g) := rn_ireturn_iff tb_72_182 (Or.inr ⟨rfl, hb⟩) r
theorem tb_72_183 : mm_tb pg_G 72 183 = some (.iinc 5 1, 0, 0, 0) := rfl
theorem st_72_183 {l0 l1 l2 l3 l4 l6 l7 : Value} {d : Nat} {t : List Value} {g : mm_M} {r : mm_R} {x : Int32} (hc : mm_c1 l4 = true) : mm_Rn pg_G d 72 183 [l0, l1, l2, l3, l4, .int x, l6, l7] (t) g r ↔ mm_Rn pg_G d 72 186 [l0, l1, l2, l3, l4, .int (x + Int32.ofInt 1), l6, l7] (t) g r := rn_iinc tb_72_183 rfl (mm_so_of (ls := [l0, l1, l2, l3, l4, .int x, l6, l7]) (v := l4) (Nat.le_of_ble_eq_true rfl) rfl hc) r
theorem tb_72_186 : mm_tb pg_G 72 186 = some (.goto (-124), 62, 0, 0) := rfl
theorem st_72_186 {d : Nat} {ls t : List Value} {g : mm_M} {r : mm_R} : mm_Rn pg_G d 72 186 ls (t) g r ↔ mm_Rn pg_G d 72 62 ls (t) g r := rn_goto tb_72_186 r
theorem tb_72_189 : mm_tb pg_G 72 189 = some (.iconst 4, 0, 0, 0) := rfl
theorem st_72_189 {d : Nat} {ls t : List Value} {g : mm_M} {r : mm_R} : mm_Rn pg_G d 72 189 ls (t) g r ↔ mm_Rn pg_G d 72 190 ls (io_v 4 :: t) g r := rn_iconst tb_72_189 r
theorem tb_72_190 : mm_tb pg_G 72 190 = some (.iload_n 1, 0, 0, 0) := rfl
theorem st_72_190 {l0 l2 l3 l4 l5 l6 l7 : Value} {d : Nat} {t : List Value} {g : mm_M} {r : mm_R} {x : Int32} : mm_Rn pg_G d 72 190 [l0, .int x, l2, l3, l4, l5, l6, l7] (t) g r ↔ mm_Rn pg_G d 72 191 [l0, .int x, l2, l3, l4, l5, l6, l7] (.int x :: t) g r := rn_iload_n tb_72_190 rfl r
theorem tb_72_191 : mm_tb pg_G 72 191 = some (.imul, 0, 0, 0) := rfl
theorem st_72_191 {d : Nat} {ls t : List Value} {g : mm_M} {r : mm_R} {x y : Int32} : mm_Rn pg_G d 72 191 ls (.int y :: .int x :: t) g r ↔ mm_Rn pg_G d 72 192 ls (.int (x * y) :: t) g r := rn_imul tb_72_191 r
theorem tb_72_192 : mm_tb pg_G 72 192 = some (.aload_n 0, 0, 0, 0) := rfl
theorem st_72_192 {l1 l2 l3 l4 l5 l6 l7 : Value} {d : Nat} {t : List Value} {g : mm_M} {r : mm_R} {x : Nat} : mm_Rn pg_G d 72 192 [.ref x, l1, l2, l3, l4, l5, l6, l7] (t) g r ↔ mm_Rn pg_G d 72 193 [.ref x, l1, l2, l3, l4, l5, l6, l7] (.ref x :: t) g r := rn_aload_n tb_72_192 rfl r
theorem tb_72_193 : mm_tb pg_G 72 193 = some (.getfield 19, 6, 4, 426) := rfl
theorem st_72_193 {d : Nat} {ls t : List Value} {g : mm_M} {r : mm_R} {x : Nat} (hT : g.1 x = some (6, 35)) : mm_Rn pg_G d 72 193 ls (.ref x :: t) g r ↔ mm_Rn pg_G d 72 196 ls (g.2.1 x 4 :: t) g r := rn_getfield tb_72_193 hT r
theorem tb_72_196 : mm_tb pg_G 72 196 = some (.iload_n 1, 0, 0, 0) := rfl
theorem st_72_196 {l0 l2 l3 l4 l5 l6 l7 : Value} {d : Nat} {t : List Value} {g : mm_M} {r : mm_R} {x : Int32} : mm_Rn pg_G d 72 196 [l0, .int x, l2, l3, l4, l5, l6, l7] (t) g r ↔ mm_Rn pg_G d 72 197 [l0, .int x, l2, l3, l4, l5, l6, l7] (.int x :: t) g r := rn_iload_n tb_72_196 rfl r
theorem tb_72_197 : mm_tb pg_G 72 197 = some (.iaload, 0, 0, 0) := rfl
theorem st_72_197 {d : Nat} {ls t : List Value} {g : mm_M} {r : mm_R} {x : Nat} {j : Int32} (hc : mm_in (g.1 x) 100 101 j = true) : mm_Rn pg_G d 72 197 ls (.int j :: .ref x :: t) g r ↔ mm_Rn pg_G d 72 198 ls (g.2.1 x j.toNatClampNeg :: t) g r := rn_iaload tb_72_197 hc r
theorem tb_72_198 : mm_tb pg_G 72 198 = some (.iadd, 0, 0, 0) := rfl
theorem st_72_198 {d : Nat} {ls t : List Value} {g : mm_M} {r : mm_R} {x y : Int32} : mm_Rn pg_G d 72 198 ls (.int y :: .int x :: t) g r ↔ mm_Rn pg_G d 72 199 ls (.int (x + y) :: t) g r := rn_iadd tb_72_198 r
theorem tb_72_199 : mm_tb pg_G 72 199 = some (.istore 5, 0, 0, 0) := rfl
theorem st_72_199 {l0 l1 l2 l3 l4 l5 l6 l7 : Value} {d : Nat} {t : List Value} {g : mm_M} {r : mm_R} {x : Int32} (hc : mm_c1 l4 = true) : mm_Rn pg_G d 72 199 [l0, l1, l2, l3, l4, l5, l6, l7] (.int x :: t) g r ↔ mm_Rn pg_G d 72 201 [l0, l1, l2, l3, l4, .int x, l6, l7] (t) g r := rn_istore tb_72_199 (mm_so_of (ls := [l0, l1, l2, l3, l4, l5, l6, l7]) (v := l4) (Nat.le_of_ble_eq_true rfl) rfl hc) r
theorem tb_72_201 : mm_tb pg_G 72 201 = some (.aload_n 0, 0, 0, 0) := rfl
theorem st_72_201 {l1 l2 l3 l4 l5 l6 l7 : Value} {d : Nat} {t : List Value} {g : mm_M} {r : mm_R} {x : Nat} : mm_Rn pg_G d 72 201 [.ref x, l1, l2, l3, l4, l5, l6, l7] (t) g r ↔ mm_Rn pg_G d 72 202 [.ref x, l1, l2, l3, l4, l5, l6, l7] (.ref x :: t) g r := rn_aload_n tb_72_201 rfl r
theorem tb_72_202 : mm_tb pg_G 72 202 = some (.getfield 22, 6, 5, 427) := rfl
theorem st_72_202 {d : Nat} {ls t : List Value} {g : mm_M} {r : mm_R} {x : Nat} (hT : g.1 x = some (6, 35)) : mm_Rn pg_G d 72 202 ls (.ref x :: t) g r ↔ mm_Rn pg_G d 72 205 ls (g.2.1 x 5 :: t) g r := rn_getfield tb_72_202 hT r
theorem tb_72_205 : mm_tb pg_G 72 205 = some (.iload 5, 0, 0, 0) := rfl
theorem st_72_205 {l0 l1 l2 l3 l4 l6 l7 : Value} {d : Nat} {t : List Value} {g : mm_M} {r : mm_R} {x : Int32} : mm_Rn pg_G d 72 205 [l0, l1, l2, l3, l4, .int x, l6, l7] (t) g r ↔ mm_Rn pg_G d 72 207 [l0, l1, l2, l3, l4, .int x, l6, l7] (.int x :: t) g r := rn_iload tb_72_205 rfl r
theorem tb_72_207 : mm_tb pg_G 72 207 = some (.iload_n 2, 0, 0, 0) := rfl
theorem st_72_207 {l0 l1 l3 l4 l5 l6 l7 : Value} {d : Nat} {t : List Value} {g : mm_M} {r : mm_R} {x : Int32} : mm_Rn pg_G d 72 207 [l0, l1, .int x, l3, l4, l5, l6, l7] (t) g r ↔ mm_Rn pg_G d 72 208 [l0, l1, .int x, l3, l4, l5, l6, l7] (.int x :: t) g r := rn_iload_n tb_72_207 rfl r
theorem tb_72_208 : mm_tb pg_G 72 208 = some (.iastore, 0, 0, 0) := rfl
theorem st_72_208 {d : Nat} {ls t : List Value} {g : mm_M} {r : mm_R} {x : Nat} {j v : Int32} (hc : mm_in (g.1 x) 100 100 j = true) : mm_Rn pg_G d 72 208 ls (.int v :: .int j :: .ref x :: t) g r ↔ mm_Rn pg_G d 72 209 ls (t) (mm_wr g x j.toNatClampNeg (.int v)) r := rn_iastore tb_72_208 hc r
theorem tb_72_209 : mm_tb pg_G 72 209 = some (.aload_n 0, 0, 0, 0) := rfl
theorem st_72_209 {l1 l2 l3 l4 l5 l6 l7 : Value} {d : Nat} {t : List Value} {g : mm_M} {r : mm_R} {x : Nat} : mm_Rn pg_G d 72 209 [.ref x, l1, l2, l3, l4, l5, l6, l7] (t) g r ↔ mm_Rn pg_G d 72 210 [.ref x, l1, l2, l3, l4, l5, l6, l7] (.ref x :: t) g r := rn_aload_n tb_72_209 rfl r
theorem tb_72_210 : mm_tb pg_G 72 210 = some (.getfield 25, 6, 6, 428) := rfl
theorem st_72_210 {d : Nat} {ls t : List Value} {g : mm_M} {r : mm_R} {x : Nat} (hT : g.1 x = some (6, 35)) : mm_Rn pg_G d 72 210 ls (.ref x :: t) g r ↔ mm_Rn pg_G d 72 213 ls (g.2.1 x 6 :: t) g r := rn_getfield tb_72_210 hT r
theorem tb_72_213 : mm_tb pg_G 72 213 = some (.iload 5, 0, 0, 0) := rfl
theorem st_72_213 {l0 l1 l2 l3 l4 l6 l7 : Value} {d : Nat} {t : List Value} {g : mm_M} {r : mm_R} {x : Int32} : mm_Rn pg_G d 72 213 [l0, l1, l2, l3, l4, .int x, l6, l7] (t) g r ↔ mm_Rn pg_G d 72 215 [l0, l1, l2, l3, l4, .int x, l6, l7] (.int x :: t) g r := rn_iload tb_72_213 rfl r
theorem tb_72_215 : mm_tb pg_G 72 215 = some (.iload_n 3, 0, 0, 0) := rfl
theorem st_72_215 {l0 l1 l2 l4 l5 l6 l7 : Value} {d : Nat} {t : List Value} {g : mm_M} {r : mm_R} {x : Int32} : mm_Rn pg_G d 72 215 [l0, l1, l2, .int x, l4, l5, l6, l7] (t) g r ↔ mm_Rn pg_G d 72 216 [l0, l1, l2, .int x, l4, l5, l6, l7] (.int x :: t) g r := rn_iload_n tb_72_215 rfl r
theorem tb_72_216 : mm_tb pg_G 72 216 = some (.iastore, 0, 0, 0) := rfl
theorem st_72_216 {d : Nat} {ls t : List Value} {g : mm_M} {r : mm_R} {x : Nat} {j v : Int32} (hc : mm_in (g.1 x) 100 100 j = true) : mm_Rn pg_G d 72 216 ls (.int v :: .int j :: .ref x :: t) g r ↔ mm_Rn pg_G d 72 217 ls (t) (mm_wr g x j.toNatClampNeg (.int v)) r := rn_iastore tb_72_216 hc r
theorem tb_72_217 : mm_tb pg_G 72 217 = some (.aload_n 0, 0, 0, 0) := rfl
theorem st_72_217 {l1 l2 l3 l4 l5 l6 l7 : Value} {d : Nat} {t : List Value} {g : mm_M} {r : mm_R} {x : Nat} : mm_Rn pg_G d 72 217 [.ref x, l1, l2, l3, l4, l5, l6, l7] (t) g r ↔ mm_Rn pg_G d 72 218 [.ref x, l1, l2, l3, l4, l5, l6, l7] (.ref x :: t) g r := rn_aload_n tb_72_217 rfl r
theorem tb_72_218 : mm_tb pg_G 72 218 = some (.getfield 28, 6, 7, 429) := rfl
theorem st_72_218 {d : Nat} {ls t : List Value} {g : mm_M} {r : mm_R} {x : Nat} (hT : g.1 x = some (6, 35)) : mm_Rn pg_G d 72 218 ls (.ref x :: t) g r ↔ mm_Rn pg_G d 72 221 ls (g.2.1 x 7 :: t) g r := rn_getfield tb_72_218 hT r
theorem tb_72_221 : mm_tb pg_G 72 221 = some (.iload 5, 0, 0, 0) := rfl
theorem st_72_221 {l0 l1 l2 l3 l4 l6 l7 : Value} {d : Nat} {t : List Value} {g : mm_M} {r : mm_R} {x : Int32} : mm_Rn pg_G d 72 221 [l0, l1, l2, l3, l4, .int x, l6, l7] (t) g r ↔ mm_Rn pg_G d 72 223 [l0, l1, l2, l3, l4, .int x, l6, l7] (.int x :: t) g r := rn_iload tb_72_221 rfl r
theorem tb_72_223 : mm_tb pg_G 72 223 = some (.iload 4, 0, 0, 0) := rfl
theorem st_72_223 {l0 l1 l2 l3 l5 l6 l7 : Value} {d : Nat} {t : List Value} {g : mm_M} {r : mm_R} {x : Int32} : mm_Rn pg_G d 72 223 [l0, l1, l2, l3, .int x, l5, l6, l7] (t) g r ↔ mm_Rn pg_G d 72 225 [l0, l1, l2, l3, .int x, l5, l6, l7] (.int x :: t) g r := rn_iload tb_72_223 rfl r
theorem tb_72_225 : mm_tb pg_G 72 225 = some (.iastore, 0, 0, 0) := rfl
theorem st_72_225 {d : Nat} {ls t : List Value} {g : mm_M} {r : mm_R} {x : Nat} {j v : Int32} (hc : mm_in (g.1 x) 100 100 j = true) : mm_Rn pg_G d 72 225 ls (.int v :: .int j :: .ref x :: t) g r ↔ mm_Rn pg_G d 72 226 ls (t) (mm_wr g x j.toNatClampNeg (.int v)) r := rn_iastore tb_72_225 hc r
theorem tb_72_226 : mm_tb pg_G 72 226 = some (.aload_n 0, 0, 0, 0) := rfl
theorem st_72_226 {l1 l2 l3 l4 l5 l6 l7 : Value} {d : Nat} {t : List Value} {g : mm_M} {r : mm_R} {x : Nat} : mm_Rn pg_G d 72 226 [.ref x, l1, l2, l3, l4, l5, l6, l7] (t) g r ↔ mm_Rn pg_G d 72 227 [.ref x, l1, l2, l3, l4, l5, l6, l7] (.ref x :: t) g r := rn_aload_n tb_72_226 rfl r
theorem tb_72_227 : mm_tb pg_G 72 227 = some (.getfield 19, 6, 4, 426) := rfl
theorem st_72_227 {d : Nat} {ls t : List Value} {g : mm_M} {r : mm_R} {x : Nat} (hT : g.1 x = some (6, 35)) : mm_Rn pg_G d 72 227 ls (.ref x :: t) g r ↔ mm_Rn pg_G d 72 230 ls (g.2.1 x 4 :: t) g r := rn_getfield tb_72_227 hT r
theorem tb_72_230 : mm_tb pg_G 72 230 = some (.iload_n 1, 0, 0, 0) := rfl
theorem st_72_230 {l0 l2 l3 l4 l5 l6 l7 : Value} {d : Nat} {t : List Value} {g : mm_M} {r : mm_R} {x : Int32} : mm_Rn pg_G d 72 230 [l0, .int x, l2, l3, l4, l5, l6, l7] (t) g r ↔ mm_Rn pg_G d 72 231 [l0, .int x, l2, l3, l4, l5, l6, l7] (.int x :: t) g r := rn_iload_n tb_72_230 rfl r
theorem tb_72_231 : mm_tb pg_G 72 231 = some (.dup2, 0, 0, 0) := rfl
theorem st_72_231 {d : Nat} {ls t : List Value} {g : mm_M} {r : mm_R} {v u : Value} (hc : mm_c1 v = true) (hc2 : mm_c1 u = true) : mm_Rn pg_G d 72 231 ls (v :: u :: t) g r ↔ mm_Rn pg_G d 72 232 ls (v :: u :: v :: u :: t) g r := rn_dup2 tb_72_231 hc hc2 r
theorem tb_72_232 : mm_tb pg_G 72 232 = some (.iaload, 0, 0, 0) := rfl
theorem st_72_232 {d : Nat} {ls t : List Value} {g : mm_M} {r : mm_R} {x : Nat} {j : Int32} (hc : mm_in (g.1 x) 100 101 j = true) : mm_Rn pg_G d 72 232 ls (.int j :: .ref x :: t) g r ↔ mm_Rn pg_G d 72 233 ls (g.2.1 x j.toNatClampNeg :: t) g r := rn_iaload tb_72_232 hc r
theorem tb_72_233 : mm_tb pg_G 72 233 = some (.iconst 1, 0, 0, 0) := rfl
theorem st_72_233 {d : Nat} {ls t : List Value} {g : mm_M} {r : mm_R} : mm_Rn pg_G d 72 233 ls (t) g r ↔ mm_Rn pg_G d 72 234 ls (io_v 1 :: t) g r := rn_iconst tb_72_233 r
theorem tb_72_234 : mm_tb pg_G 72 234 = some (.iadd, 0, 0, 0) := rfl
theorem st_72_234 {d : Nat} {ls t : List Value} {g : mm_M} {r : mm_R} {x y : Int32} : mm_Rn pg_G d 72 234 ls (.int y :: .int x :: t) g r ↔ mm_Rn pg_G d 72 235 ls (.int (x + y) :: t) g r := rn_iadd tb_72_234 r
theorem tb_72_235 : mm_tb pg_G 72 235 = some (.iastore, 0, 0, 0) := rfl
theorem st_72_235 {d : Nat} {ls t : List Value} {g : mm_M} {r : mm_R} {x : Nat} {j v : Int32} (hc : mm_in (g.1 x) 100 100 j = true) : mm_Rn pg_G d 72 235 ls (.int v :: .int j :: .ref x :: t) g r ↔ mm_Rn pg_G d 72 236 ls (t) (mm_wr g x j.toNatClampNeg (.int v)) r := rn_iastore tb_72_235 hc r
theorem tb_72_236 : mm_tb pg_G 72 236 = some (.iconst 1, 0, 0, 0) := rfl
theorem st_72_236 {d : Nat} {ls t : List Value} {g : mm_M} {r : mm_R} : mm_Rn pg_G d 72 236 ls (t) g r ↔ mm_Rn pg_G d 72 237 ls (io_v 1 :: t) g r := rn_iconst tb_72_236 r
theorem tb_72_237 : mm_tb pg_G 72 237 = some (.ireturn, 0, 0, 0) := rfl
theorem st_72_237 {d : Nat} {ls : List Value} {g : mm_M} {r : mm_R} {x : Int32} (hb : x = 0 ∨ x = 1) : mm_Rn pg_G d 72 237 ls [.int x] g r ↔ r = (some (.int x), g) := rn_ireturn_iff tb_72_237 (Or.inr ⟨rfl, hb⟩) r
theorem tb_73_0 : mm_tb pg_G 73 0 = some (.aload_n 0, 0, 0, 0) := rfl
theorem st_73_0 {l1 l2 : Value} {d : Nat} {t : List Value} {g : mm_M} {r : mm_R} {x : Nat} : mm_Rn pg_G d 73 0 [.ref x, l1, l2] (t) g r ↔ mm_Rn pg_G d 73 1 [.ref x, l1, l2] (.ref x :: t) g r := rn_aload_n tb_73_0 rfl r
theorem tb_73_1 : mm_tb pg_G 73 1 = some (.getfield 67, 6, 8, 430) := rfl
theorem st_73_1 {d : Nat} {ls t : List Value} {g : mm_M} {r : mm_R} {x : Nat} (hT : g.1 x = some (6, 35)) : mm_Rn pg_G d 73 1 ls (.ref x :: t) g r ↔ mm_Rn pg_G d 73 4 ls (g.2.1 x 8 :: t) g r := rn_getfield tb_73_1 hT r
theorem tb_73_4 : mm_tb pg_G 73 4 = some (.ifCond .ne 19, 23, 0, 0) := rfl
theorem st_73_4 {d : Nat} {ls t : List Value} {g : mm_M} {r : mm_R} {x : Int32} : mm_Rn pg_G d 73 4 ls (.int x :: t) g r ↔ if x = 0 then mm_Rn pg_G d 73 7 ls (t) g r else mm_Rn pg_G d 73 23 ls (t) g r := rn_if_ne tb_73_4 r
theorem tb_73_7 : mm_tb pg_G 73 7 = some (.iload_n 1, 0, 0, 0) := rfl
theorem st_73_7 {l0 l2 : Value} {d : Nat} {t : List Value} {g : mm_M} {r : mm_R} {x : Int32} : mm_Rn pg_G d 73 7 [l0, .int x, l2] (t) g r ↔ mm_Rn pg_G d 73 8 [l0, .int x, l2] (.int x :: t) g r := rn_iload_n tb_73_7 rfl r
theorem tb_73_8 : mm_tb pg_G 73 8 = some (.iconst 1, 0, 0, 0) := rfl
theorem st_73_8 {d : Nat} {ls t : List Value} {g : mm_M} {r : mm_R} : mm_Rn pg_G d 73 8 ls (t) g r ↔ mm_Rn pg_G d 73 9 ls (io_v 1 :: t) g r := rn_iconst tb_73_8 r
theorem tb_73_9 : mm_tb pg_G 73 9 = some (.if_icmp .lt 14, 23, 0, 0) := rfl
theorem st_73_9 {d : Nat} {ls t : List Value} {g : mm_M} {r : mm_R} {x y : Int32} : mm_Rn pg_G d 73 9 ls (.int y :: .int x :: t) g r ↔ if x < y then mm_Rn pg_G d 73 23 ls (t) g r else mm_Rn pg_G d 73 12 ls (t) g r := rn_icmp_lt tb_73_9 r
theorem tb_73_12 : mm_tb pg_G 73 12 = some (.iload_n 1, 0, 0, 0) := rfl
theorem st_73_12 {l0 l2 : Value} {d : Nat} {t : List Value} {g : mm_M} {r : mm_R} {x : Int32} : mm_Rn pg_G d 73 12 [l0, .int x, l2] (t) g r ↔ mm_Rn pg_G d 73 13 [l0, .int x, l2] (.int x :: t) g r := rn_iload_n tb_73_12 rfl r
theorem tb_73_13 : mm_tb pg_G 73 13 = some (.iload_n 2, 0, 0, 0) := rfl
theorem st_73_13 {l0 l1 : Value} {d : Nat} {t : List Value} {g : mm_M} {r : mm_R} {x : Int32} : mm_Rn pg_G d 73 13 [l0, l1, .int x] (t) g r ↔ mm_Rn pg_G d 73 14 [l0, l1, .int x] (.int x :: t) g r := rn_iload_n tb_73_13 rfl r
theorem tb_73_14 : mm_tb pg_G 73 14 = some (.if_icmp .gt 9, 23, 0, 0) := rfl
theorem st_73_14 {d : Nat} {ls t : List Value} {g : mm_M} {r : mm_R} {x y : Int32} : mm_Rn pg_G d 73 14 ls (.int y :: .int x :: t) g r ↔ if y < x then mm_Rn pg_G d 73 23 ls (t) g r else mm_Rn pg_G d 73 17 ls (t) g r := rn_icmp_gt tb_73_14 r
theorem tb_73_17 : mm_tb pg_G 73 17 = some (.iload_n 2, 0, 0, 0) := rfl
theorem st_73_17 {l0 l1 : Value} {d : Nat} {t : List Value} {g : mm_M} {r : mm_R} {x : Int32} : mm_Rn pg_G d 73 17 [l0, l1, .int x] (t) g r ↔ mm_Rn pg_G d 73 18 [l0, l1, .int x] (.int x :: t) g r := rn_iload_n tb_73_17 rfl r
theorem tb_73_18 : mm_tb pg_G 73 18 = some (.bipush 100, 0, 0, 0) := rfl
theorem st_73_18 {d : Nat} {ls t : List Value} {g : mm_M} {r : mm_R} : mm_Rn pg_G d 73 18 ls (t) g r ↔ mm_Rn pg_G d 73 20 ls (io_v 100 :: t) g r := rn_bipush tb_73_18 r
theorem tb_73_20 : mm_tb pg_G 73 20 = some (.if_icmp .le 5, 25, 0, 0) := rfl
theorem st_73_20 {d : Nat} {ls t : List Value} {g : mm_M} {r : mm_R} {x y : Int32} : mm_Rn pg_G d 73 20 ls (.int y :: .int x :: t) g r ↔ if x ≤ y then mm_Rn pg_G d 73 25 ls (t) g r else mm_Rn pg_G d 73 23 ls (t) g r := rn_icmp_le tb_73_20 r
theorem tb_73_23 : mm_tb pg_G 73 23 = some (.iconst 0, 0, 0, 0) := rfl
theorem st_73_23 {d : Nat} {ls t : List Value} {g : mm_M} {r : mm_R} : mm_Rn pg_G d 73 23 ls (t) g r ↔ mm_Rn pg_G d 73 24 ls (io_v 0 :: t) g r := rn_iconst tb_73_23 r
theorem tb_73_24 : mm_tb pg_G 73 24 = some (.ireturn, 0, 0, 0) := rfl
theorem st_73_24 {d : Nat} {ls : List Value} {g : mm_M} {r : mm_R} {x : Int32} (hb : x = 0 ∨ x = 1) : mm_Rn pg_G d 73 24 ls [.int x] g r ↔ r = (some (.int x), g) := rn_ireturn_iff tb_73_24 (Or.inr ⟨rfl, hb⟩) r
theorem tb_73_25 : mm_tb pg_G 73 25 = some (.aload_n 0, 0, 0, 0) := rfl
theorem st_73_25 {l1 l2 : Value} {d : Nat} {t : List Value} {g : mm_M} {r : mm_R} {x : Nat} : mm_Rn pg_G d 73 25 [.ref x, l1, l2] (t) g r ↔ mm_Rn pg_G d 73 26 [.ref x, l1, l2] (.ref x :: t) g r := rn_aload_n tb_73_25 rfl r
theorem tb_73_26 : mm_tb pg_G 73 26 = some (.iload_n 1, 0, 0, 0) := rfl
theorem st_73_26 {l0 l2 : Value} {d : Nat} {t : List Value} {g : mm_M} {r : mm_R} {x : Int32} : mm_Rn pg_G d 73 26 [l0, .int x, l2] (t) g r ↔ mm_Rn pg_G d 73 27 [l0, .int x, l2] (.int x :: t) g r := rn_iload_n tb_73_26 rfl r
theorem tb_73_27 : mm_tb pg_G 73 27 = some (.putfield 83, 6, 10, 432) := rfl
theorem st_73_27 {d : Nat} {ls t : List Value} {g : mm_M} {r : mm_R} {x : Nat} {v : Int32} (hT : g.1 x = some (6, 35)) : mm_Rn pg_G d 73 27 ls (.int v :: .ref x :: t) g r ↔ mm_Rn pg_G d 73 30 ls (t) (mm_wr g x 10 (.int v)) r := rn_putfield tb_73_27 hT rfl r
theorem tb_73_30 : mm_tb pg_G 73 30 = some (.aload_n 0, 0, 0, 0) := rfl
theorem st_73_30 {l1 l2 : Value} {d : Nat} {t : List Value} {g : mm_M} {r : mm_R} {x : Nat} : mm_Rn pg_G d 73 30 [.ref x, l1, l2] (t) g r ↔ mm_Rn pg_G d 73 31 [.ref x, l1, l2] (.ref x :: t) g r := rn_aload_n tb_73_30 rfl r
theorem tb_73_31 : mm_tb pg_G 73 31 = some (.iload_n 2, 0, 0, 0) := rfl
theorem st_73_31 {l0 l1 : Value} {d : Nat} {t : List Value} {g : mm_M} {r : mm_R} {x : Int32} : mm_Rn pg_G d 73 31 [l0, l1, .int x] (t) g r ↔ mm_Rn pg_G d 73 32 [l0, l1, .int x] (.int x :: t) g r := rn_iload_n tb_73_31 rfl r
theorem tb_73_32 : mm_tb pg_G 73 32 = some (.putfield 86, 6, 11, 433) := rfl
theorem st_73_32 {d : Nat} {ls t : List Value} {g : mm_M} {r : mm_R} {x : Nat} {v : Int32} (hT : g.1 x = some (6, 35)) : mm_Rn pg_G d 73 32 ls (.int v :: .ref x :: t) g r ↔ mm_Rn pg_G d 73 35 ls (t) (mm_wr g x 11 (.int v)) r := rn_putfield tb_73_32 hT rfl r
theorem tb_73_35 : mm_tb pg_G 73 35 = some (.aload_n 0, 0, 0, 0) := rfl
theorem st_73_35 {l1 l2 : Value} {d : Nat} {t : List Value} {g : mm_M} {r : mm_R} {x : Nat} : mm_Rn pg_G d 73 35 [.ref x, l1, l2] (t) g r ↔ mm_Rn pg_G d 73 36 [.ref x, l1, l2] (.ref x :: t) g r := rn_aload_n tb_73_35 rfl r
theorem tb_73_36 : mm_tb pg_G 73 36 = some (.iload_n 1, 0, 0, 0) := rfl
theorem st_73_36 {l0 l2 : Value} {d : Nat} {t : List Value} {g : mm_M} {r : mm_R} {x : Int32} : mm_Rn pg_G d 73 36 [l0, .int x, l2] (t) g r ↔ mm_Rn pg_G d 73 37 [l0, .int x, l2] (.int x :: t) g r := rn_iload_n tb_73_36 rfl r
theorem tb_73_37 : mm_tb pg_G 73 37 = some (.putfield 89, 6, 12, 434) := rfl
theorem st_73_37 {d : Nat} {ls t : List Value} {g : mm_M} {r : mm_R} {x : Nat} {v : Int32} (hT : g.1 x = some (6, 35)) : mm_Rn pg_G d 73 37 ls (.int v :: .ref x :: t) g r ↔ mm_Rn pg_G d 73 40 ls (t) (mm_wr g x 12 (.int v)) r := rn_putfield tb_73_37 hT rfl r
theorem tb_73_40 : mm_tb pg_G 73 40 = some (.iconst 1, 0, 0, 0) := rfl
theorem st_73_40 {d : Nat} {ls t : List Value} {g : mm_M} {r : mm_R} : mm_Rn pg_G d 73 40 ls (t) g r ↔ mm_Rn pg_G d 73 41 ls (io_v 1 :: t) g r := rn_iconst tb_73_40 r
theorem tb_73_41 : mm_tb pg_G 73 41 = some (.ireturn, 0, 0, 0) := rfl
theorem st_73_41 {d : Nat} {ls : List Value} {g : mm_M} {r : mm_R} {x : Int32} (hb : x = 0 ∨ x = 1) : mm_Rn pg_G d 73 41 ls [.int x] g r ↔ r = (some (.int x), g) := rn_ireturn_iff tb_73_41 (Or.inr ⟨rfl, hb⟩) r
theorem tb_74_0 : mm_tb pg_G 74 0 = some (.aload_n 0, 0, 0, 0) := rfl
theorem st_74_0 {l1 : Value} {d : Nat} {t : List Value} {g : mm_M} {r : mm_R} {x : Nat} : mm_Rn pg_G d 74 0 [.ref x, l1] (t) g r ↔ mm_Rn pg_G d 74 1 [.ref x, l1] (.ref x :: t) g r := rn_aload_n tb_74_0 rfl r
theorem tb_74_1 : mm_tb pg_G 74 1 = some (.getfield 67, 6, 8, 430) := rfl
theorem st_74_1 {d : Nat} {ls t : List Value} {g : mm_M} {r : mm_R} {x : Nat} (hT : g.1 x = some (6, 35)) : mm_Rn pg_G d 74 1 ls (.ref x :: t) g r ↔ mm_Rn pg_G d 74 4 ls (g.2.1 x 8 :: t) g r := rn_getfield tb_74_1 hT r
theorem tb_74_4 : mm_tb pg_G 74 4 = some (.istore_n 1, 0, 0, 0) := rfl
theorem st_74_4 {l0 l1 : Value} {d : Nat} {t : List Value} {g : mm_M} {r : mm_R} {x : Int32} (hc : mm_c1 l0 = true) : mm_Rn pg_G d 74 4 [l0, l1] (.int x :: t) g r ↔ mm_Rn pg_G d 74 5 [l0, .int x] (t) g r := rn_istore_n tb_74_4 (mm_so_of (ls := [l0, l1]) (v := l0) (Nat.le_of_ble_eq_true rfl) rfl hc) r
theorem tb_74_5 : mm_tb pg_G 74 5 = some (.aload_n 0, 0, 0, 0) := rfl
theorem st_74_5 {l1 : Value} {d : Nat} {t : List Value} {g : mm_M} {r : mm_R} {x : Nat} : mm_Rn pg_G d 74 5 [.ref x, l1] (t) g r ↔ mm_Rn pg_G d 74 6 [.ref x, l1] (.ref x :: t) g r := rn_aload_n tb_74_5 rfl r
theorem tb_74_6 : mm_tb pg_G 74 6 = some (.iconst 1, 0, 0, 0) := rfl
theorem st_74_6 {d : Nat} {ls t : List Value} {g : mm_M} {r : mm_R} : mm_Rn pg_G d 74 6 ls (t) g r ↔ mm_Rn pg_G d 74 7 ls (io_v 1 :: t) g r := rn_iconst tb_74_6 r
theorem tb_74_7 : mm_tb pg_G 74 7 = some (.putfield 67, 6, 8, 430) := rfl
theorem st_74_7 {d : Nat} {ls t : List Value} {g : mm_M} {r : mm_R} {x : Nat} {v : Int32} (hT : g.1 x = some (6, 35)) (hf : fits .boolean (.int v) = true) : mm_Rn pg_G d 74 7 ls (.int v :: .ref x :: t) g r ↔ mm_Rn pg_G d 74 10 ls (t) (mm_wr g x 8 (.int v)) r := rn_putfield tb_74_7 hT hf r
theorem tb_74_10 : mm_tb pg_G 74 10 = some (.iload_n 1, 0, 0, 0) := rfl
theorem st_74_10 {l0 : Value} {d : Nat} {t : List Value} {g : mm_M} {r : mm_R} {x : Int32} : mm_Rn pg_G d 74 10 [l0, .int x] (t) g r ↔ mm_Rn pg_G d 74 11 [l0, .int x] (.int x :: t) g r := rn_iload_n tb_74_10 rfl r
theorem tb_74_11 : mm_tb pg_G 74 11 = some (.ifCond .ne 7, 18, 0, 0) := rfl
theorem st_74_11 {d : Nat} {ls t : List Value} {g : mm_M} {r : mm_R} {x : Int32} : mm_Rn pg_G d 74 11 ls (.int x :: t) g r ↔ if x = 0 then mm_Rn pg_G d 74 14 ls (t) g r else mm_Rn pg_G d 74 18 ls (t) g r := rn_if_ne tb_74_11 r
theorem tb_74_14 : mm_tb pg_G 74 14 = some (.iconst 1, 0, 0, 0) := rfl
theorem st_74_14 {d : Nat} {ls t : List Value} {g : mm_M} {r : mm_R} : mm_Rn pg_G d 74 14 ls (t) g r ↔ mm_Rn pg_G d 74 15 ls (io_v 1 :: t) g r := rn_iconst tb_74_14 r
theorem tb_74_15 : mm_tb pg_G 74 15 = some (.goto 4, 19, 0, 0) := rfl
theorem st_74_15 {d : Nat} {ls t : List Value} {g : mm_M} {r : mm_R} : mm_Rn pg_G d 74 15 ls (t) g r ↔ mm_Rn pg_G d 74 19 ls (t) g r := rn_goto tb_74_15 r
theorem tb_74_18 : mm_tb pg_G 74 18 = some (.iconst 0, 0, 0, 0) := rfl
theorem st_74_18 {d : Nat} {ls t : List Value} {g : mm_M} {r : mm_R} : mm_Rn pg_G d 74 18 ls (t) g r ↔ mm_Rn pg_G d 74 19 ls (io_v 0 :: t) g r := rn_iconst tb_74_18 r
theorem tb_74_19 : mm_tb pg_G 74 19 = some (.ireturn, 0, 0, 0) := rfl
theorem st_74_19 {d : Nat} {ls : List Value} {g : mm_M} {r : mm_R} {x : Int32} (hb : x = 0 ∨ x = 1) : mm_Rn pg_G d 74 19 ls [.int x] g r ↔ r = (some (.int x), g) := rn_ireturn_iff tb_74_19 (Or.inr ⟨rfl, hb⟩) r
theorem tb_75_0 : mm_tb pg_G 75 0 = some (.bipush 101, 0, 0, 0) := rfl
theorem st_75_0 {d : Nat} {ls t : List Value} {g : mm_M} {r : mm_R} : mm_Rn pg_G d 75 0 ls (t) g r ↔ mm_Rn pg_G d 75 2 ls (io_v 101 :: t) g r := rn_bipush tb_75_0 r
theorem tb_75_2 : mm_tb pg_G 75 2 = some (.aload_n 0, 0, 0, 0) := rfl
theorem st_75_2 {l1 : Value} {d : Nat} {t : List Value} {g : mm_M} {r : mm_R} {x : Nat} : mm_Rn pg_G d 75 2 [.ref x, l1] (t) g r ↔ mm_Rn pg_G d 75 3 [.ref x, l1] (.ref x :: t) g r := rn_aload_n tb_75_2 rfl r
theorem tb_75_3 : mm_tb pg_G 75 3 = some (.getfield 13, 6, 2, 424) := rfl
theorem st_75_3 {d : Nat} {ls t : List Value} {g : mm_M} {r : mm_R} {x : Nat} (hT : g.1 x = some (6, 35)) : mm_Rn pg_G d 75 3 ls (.ref x :: t) g r ↔ mm_Rn pg_G d 75 6 ls (g.2.1 x 2 :: t) g r := rn_getfield tb_75_3 hT r
theorem tb_75_6 : mm_tb pg_G 75 6 = some (.iload_n 1, 0, 0, 0) := rfl
theorem st_75_6 {l0 : Value} {d : Nat} {t : List Value} {g : mm_M} {r : mm_R} {x : Int32} : mm_Rn pg_G d 75 6 [l0, .int x] (t) g r ↔ mm_Rn pg_G d 75 7 [l0, .int x] (.int x :: t) g r := rn_iload_n tb_75_6 rfl r
theorem tb_75_7 : mm_tb pg_G 75 7 = some (.iaload, 0, 0, 0) := rfl
theorem st_75_7 {d : Nat} {ls t : List Value} {g : mm_M} {r : mm_R} {x : Nat} {j : Int32} (hc : mm_in (g.1 x) 100 101 j = true) : mm_Rn pg_G d 75 7 ls (.int j :: .ref x :: t) g r ↔ mm_Rn pg_G d 75 8 ls (g.2.1 x j.toNatClampNeg :: t) g r := rn_iaload tb_75_7 hc r
theorem tb_75_8 : mm_tb pg_G 75 8 = some (.isub, 0, 0, 0) := rfl
theorem st_75_8 {d : Nat} {ls t : List Value} {g : mm_M} {r : mm_R} {x y : Int32} : mm_Rn pg_G d 75 8 ls (.int y :: .int x :: t) g r ↔ mm_Rn pg_G d 75 9 ls (.int (x - y) :: t) g r := rn_isub tb_75_8 r
theorem tb_75_9 : mm_tb pg_G 75 9 = some (.ireturn, 0, 0, 0) := rfl
theorem st_75_9 {d : Nat} {ls : List Value} {g : mm_M} {r : mm_R} {x : Int32} : mm_Rn pg_G d 75 9 ls [.int x] g r ↔ r = (some (.int x), g) := rn_ireturn_iff tb_75_9 (Or.inl rfl) r
theorem tb_76_0 : mm_tb pg_G 76 0 = some (.iload_n 1, 0, 0, 0) := rfl
theorem st_76_0 {l0 l2 l3 l4 : Value} {d : Nat} {t : List Value} {g : mm_M} {r : mm_R} {x : Int32} : mm_Rn pg_G d 76 0 [l0, .int x, l2, l3, l4] (t) g r ↔ mm_Rn pg_G d 76 1 [l0, .int x, l2, l3, l4] (.int x :: t) g r := rn_iload_n tb_76_0 rfl r
theorem tb_76_1 : mm_tb pg_G 76 1 = some (.ifCond .lt 8, 9, 0, 0) := rfl
theorem st_76_1 {d : Nat} {ls t : List Value} {g : mm_M} {r : mm_R} {x : Int32} : mm_Rn pg_G d 76 1 ls (.int x :: t) g r ↔ if x < 0 then mm_Rn pg_G d 76 9 ls (t) g r else mm_Rn pg_G d 76 4 ls (t) g r := rn_if_lt tb_76_1 r
theorem tb_76_4 : mm_tb pg_G 76 4 = some (.iload_n 1, 0, 0, 0) := rfl
theorem st_76_4 {l0 l2 l3 l4 : Value} {d : Nat} {t : List Value} {g : mm_M} {r : mm_R} {x : Int32} : mm_Rn pg_G d 76 4 [l0, .int x, l2, l3, l4] (t) g r ↔ mm_Rn pg_G d 76 5 [l0, .int x, l2, l3, l4] (.int x :: t) g r := rn_iload_n tb_76_4 rfl r
theorem tb_76_5 : mm_tb pg_G 76 5 = some (.iconst 3, 0, 0, 0) := rfl
theorem st_76_5 {d : Nat} {ls t : List Value} {g : mm_M} {r : mm_R} : mm_Rn pg_G d 76 5 ls (t) g r ↔ mm_Rn pg_G d 76 6 ls (io_v 3 :: t) g r := rn_iconst tb_76_5 r
theorem tb_76_6 : mm_tb pg_G 76 6 = some (.if_icmp .le 5, 11, 0, 0) := rfl
theorem st_76_6 {d : Nat} {ls t : List Value} {g : mm_M} {r : mm_R} {x y : Int32} : mm_Rn pg_G d 76 6 ls (.int y :: .int x :: t) g r ↔ if x ≤ y then mm_Rn pg_G d 76 11 ls (t) g r else mm_Rn pg_G d 76 9 ls (t) g r := rn_icmp_le tb_76_6 r
theorem tb_76_9 : mm_tb pg_G 76 9 = some (.iconst (-1), 0, 0, 0) := rfl
theorem st_76_9 {d : Nat} {ls t : List Value} {g : mm_M} {r : mm_R} : mm_Rn pg_G d 76 9 ls (t) g r ↔ mm_Rn pg_G d 76 10 ls (io_v (-1) :: t) g r := rn_iconst tb_76_9 r
theorem tb_76_10 : mm_tb pg_G 76 10 = some (.ireturn, 0, 0, 0) := rfl
theorem st_76_10 {d : Nat} {ls : List Value} {g : mm_M} {r : mm_R} {x : Int32} : mm_Rn pg_G d 76 10 ls [.int x] g r ↔ r = (some (.int x), g) := rn_ireturn_iff tb_76_10 (Or.inl rfl) r
theorem tb_76_11 : mm_tb pg_G 76 11 = some (.iconst 0, 0, 0, 0) := rfl
theorem st_76_11 {d : Nat} {ls t : List Value} {g : mm_M} {r : mm_R} : mm_Rn pg_G d 76 11 ls (t) g r ↔ mm_Rn pg_G d 76 12 ls (io_v 0 :: t) g r := rn_iconst tb_76_11 r
theorem tb_76_12 : mm_tb pg_G 76 12 = some (.istore_n 2, 0, 0, 0) := rfl
theorem st_76_12 {l0 l1 l2 l3 l4 : Value} {d : Nat} {t : List Value} {g : mm_M} {r : mm_R} {x : Int32} (hc : mm_c1 l1 = true) : mm_Rn pg_G d 76 12 [l0, l1, l2, l3, l4] (.int x :: t) g r ↔ mm_Rn pg_G d 76 13 [l0, l1, .int x, l3, l4] (t) g r := rn_istore_n tb_76_12 (mm_so_of (ls := [l0, l1, l2, l3, l4]) (v := l1) (Nat.le_of_ble_eq_true rfl) rfl hc) r
theorem tb_76_13 : mm_tb pg_G 76 13 = some (.iconst 0, 0, 0, 0) := rfl
theorem st_76_13 {d : Nat} {ls t : List Value} {g : mm_M} {r : mm_R} : mm_Rn pg_G d 76 13 ls (t) g r ↔ mm_Rn pg_G d 76 14 ls (io_v 0 :: t) g r := rn_iconst tb_76_13 r
theorem tb_76_14 : mm_tb pg_G 76 14 = some (.istore_n 3, 0, 0, 0) := rfl
theorem st_76_14 {l0 l1 l2 l3 l4 : Value} {d : Nat} {t : List Value} {g : mm_M} {r : mm_R} {x : Int32} (hc : mm_c1 l2 = true) : mm_Rn pg_G d 76 14 [l0, l1, l2, l3, l4] (.int x :: t) g r ↔ mm_Rn pg_G d 76 15 [l0, l1, l2, .int x, l4] (t) g r := rn_istore_n tb_76_14 (mm_so_of (ls := [l0, l1, l2, l3, l4]) (v := l2) (Nat.le_of_ble_eq_true rfl) rfl hc) r
theorem tb_76_15 : mm_tb pg_G 76 15 = some (.iload_n 3, 0, 0, 0) := rfl
theorem st_76_15 {l0 l1 l2 l4 : Value} {d : Nat} {t : List Value} {g : mm_M} {r : mm_R} {x : Int32} : mm_Rn pg_G d 76 15 [l0, l1, l2, .int x, l4] (t) g r ↔ mm_Rn pg_G d 76 16 [l0, l1, l2, .int x, l4] (.int x :: t) g r := rn_iload_n tb_76_15 rfl r
theorem tb_76_16 : mm_tb pg_G 76 16 = some (.aload_n 0, 0, 0, 0) := rfl
theorem st_76_16 {l1 l2 l3 l4 : Value} {d : Nat} {t : List Value} {g : mm_M} {r : mm_R} {x : Nat} : mm_Rn pg_G d 76 16 [.ref x, l1, l2, l3, l4] (t) g r ↔ mm_Rn pg_G d 76 17 [.ref x, l1, l2, l3, l4] (.ref x :: t) g r := rn_aload_n tb_76_16 rfl r
theorem tb_76_17 : mm_tb pg_G 76 17 = some (.getfield 71, 6, 0, 422) := rfl
theorem st_76_17 {d : Nat} {ls t : List Value} {g : mm_M} {r : mm_R} {x : Nat} (hT : g.1 x = some (6, 35)) : mm_Rn pg_G d 76 17 ls (.ref x :: t) g r ↔ mm_Rn pg_G d 76 20 ls (g.2.1 x 0 :: t) g r := rn_getfield tb_76_17 hT r
theorem tb_76_20 : mm_tb pg_G 76 20 = some (.if_icmp .ge 61, 81, 0, 0) := rfl
theorem st_76_20 {d : Nat} {ls t : List Value} {g : mm_M} {r : mm_R} {x y : Int32} : mm_Rn pg_G d 76 20 ls (.int y :: .int x :: t) g r ↔ if y ≤ x then mm_Rn pg_G d 76 81 ls (t) g r else mm_Rn pg_G d 76 23 ls (t) g r := rn_icmp_ge tb_76_20 r
theorem tb_76_23 : mm_tb pg_G 76 23 = some (.iconst 4, 0, 0, 0) := rfl
theorem st_76_23 {d : Nat} {ls t : List Value} {g : mm_M} {r : mm_R} : mm_Rn pg_G d 76 23 ls (t) g r ↔ mm_Rn pg_G d 76 24 ls (io_v 4 :: t) g r := rn_iconst tb_76_23 r
theorem tb_76_24 : mm_tb pg_G 76 24 = some (.iload_n 3, 0, 0, 0) := rfl
theorem st_76_24 {l0 l1 l2 l4 : Value} {d : Nat} {t : List Value} {g : mm_M} {r : mm_R} {x : Int32} : mm_Rn pg_G d 76 24 [l0, l1, l2, .int x, l4] (t) g r ↔ mm_Rn pg_G d 76 25 [l0, l1, l2, .int x, l4] (.int x :: t) g r := rn_iload_n tb_76_24 rfl r
theorem tb_76_25 : mm_tb pg_G 76 25 = some (.imul, 0, 0, 0) := rfl
theorem st_76_25 {d : Nat} {ls t : List Value} {g : mm_M} {r : mm_R} {x y : Int32} : mm_Rn pg_G d 76 25 ls (.int y :: .int x :: t) g r ↔ mm_Rn pg_G d 76 26 ls (.int (x * y) :: t) g r := rn_imul tb_76_25 r
theorem tb_76_26 : mm_tb pg_G 76 26 = some (.istore 4, 0, 0, 0) := rfl
theorem st_76_26 {l0 l1 l2 l3 l4 : Value} {d : Nat} {t : List Value} {g : mm_M} {r : mm_R} {x : Int32} (hc : mm_c1 l3 = true) : mm_Rn pg_G d 76 26 [l0, l1, l2, l3, l4] (.int x :: t) g r ↔ mm_Rn pg_G d 76 28 [l0, l1, l2, l3, .int x] (t) g r := rn_istore tb_76_26 (mm_so_of (ls := [l0, l1, l2, l3, l4]) (v := l3) (Nat.le_of_ble_eq_true rfl) rfl hc) r
theorem tb_76_28 : mm_tb pg_G 76 28 = some (.iload 4, 0, 0, 0) := rfl
theorem st_76_28 {l0 l1 l2 l3 : Value} {d : Nat} {t : List Value} {g : mm_M} {r : mm_R} {x : Int32} : mm_Rn pg_G d 76 28 [l0, l1, l2, l3, .int x] (t) g r ↔ mm_Rn pg_G d 76 30 [l0, l1, l2, l3, .int x] (.int x :: t) g r := rn_iload tb_76_28 rfl r
theorem tb_76_30 : mm_tb pg_G 76 30 = some (.iconst 4, 0, 0, 0) := rfl
theorem st_76_30 {d : Nat} {ls t : List Value} {g : mm_M} {r : mm_R} : mm_Rn pg_G d 76 30 ls (t) g r ↔ mm_Rn pg_G d 76 31 ls (io_v 4 :: t) g r := rn_iconst tb_76_30 r
theorem tb_76_31 : mm_tb pg_G 76 31 = some (.iload_n 3, 0, 0, 0) := rfl
theorem st_76_31 {l0 l1 l2 l4 : Value} {d : Nat} {t : List Value} {g : mm_M} {r : mm_R} {x : Int32} : mm_Rn pg_G d 76 31 [l0, l1, l2, .int x, l4] (t) g r ↔ mm_Rn pg_G d 76 32 [l0, l1, l2, .int x, l4] (.int x :: t) g r := rn_iload_n tb_76_31 rfl r
theorem tb_76_32 : mm_tb pg_G 76 32 = some (.imul, 0, 0, 0) := rfl
theorem st_76_32 {d : Nat} {ls t : List Value} {g : mm_M} {r : mm_R} {x y : Int32} : mm_Rn pg_G d 76 32 ls (.int y :: .int x :: t) g r ↔ mm_Rn pg_G d 76 33 ls (.int (x * y) :: t) g r := rn_imul tb_76_32 r
theorem tb_76_33 : mm_tb pg_G 76 33 = some (.aload_n 0, 0, 0, 0) := rfl
theorem st_76_33 {l1 l2 l3 l4 : Value} {d : Nat} {t : List Value} {g : mm_M} {r : mm_R} {x : Nat} : mm_Rn pg_G d 76 33 [.ref x, l1, l2, l3, l4] (t) g r ↔ mm_Rn pg_G d 76 34 [.ref x, l1, l2, l3, l4] (.ref x :: t) g r := rn_aload_n tb_76_33 rfl r
theorem tb_76_34 : mm_tb pg_G 76 34 = some (.getfield 19, 6, 4, 426) := rfl
theorem st_76_34 {d : Nat} {ls t : List Value} {g : mm_M} {r : mm_R} {x : Nat} (hT : g.1 x = some (6, 35)) : mm_Rn pg_G d 76 34 ls (.ref x :: t) g r ↔ mm_Rn pg_G d 76 37 ls (g.2.1 x 4 :: t) g r := rn_getfield tb_76_34 hT r
theorem tb_76_37 : mm_tb pg_G 76 37 = some (.iload_n 3, 0, 0, 0) := rfl
theorem st_76_37 {l0 l1 l2 l4 : Value} {d : Nat} {t : List Value} {g : mm_M} {r : mm_R} {x : Int32} : mm_Rn pg_G d 76 37 [l0, l1, l2, .int x, l4] (t) g r ↔ mm_Rn pg_G d 76 38 [l0, l1, l2, .int x, l4] (.int x :: t) g r := rn_iload_n tb_76_37 rfl r
theorem tb_76_38 : mm_tb pg_G 76 38 = some (.iaload, 0, 0, 0) := rfl
theorem st_76_38 {d : Nat} {ls t : List Value} {g : mm_M} {r : mm_R} {x : Nat} {j : Int32} (hc : mm_in (g.1 x) 100 101 j = true) : mm_Rn pg_G d 76 38 ls (.int j :: .ref x :: t) g r ↔ mm_Rn pg_G d 76 39 ls (g.2.1 x j.toNatClampNeg :: t) g r := rn_iaload tb_76_38 hc r
theorem tb_76_39 : mm_tb pg_G 76 39 = some (.iadd, 0, 0, 0) := rfl
theorem st_76_39 {d : Nat} {ls t : List Value} {g : mm_M} {r : mm_R} {x y : Int32} : mm_Rn pg_G d 76 39 ls (.int y :: .int x :: t) g r ↔ mm_Rn pg_G d 76 40 ls (.int (x + y) :: t) g r := rn_iadd tb_76_39 r
theorem tb_76_40 : mm_tb pg_G 76 40 = some (.if_icmp .ge 35, 75, 0, 0) := rfl
theorem st_76_40 {d : Nat} {ls t : List Value} {g : mm_M} {r : mm_R} {x y : Int32} : mm_Rn pg_G d 76 40 ls (.int y :: .int x :: t) g r ↔ if y ≤ x then mm_Rn pg_G d 76 75 ls (t) g r else mm_Rn pg_G d 76 43 ls (t) g r := rn_icmp_ge tb_76_40 r
theorem tb_76_43 : mm_tb pg_G 76 43 = some (.aload_n 0, 0, 0, 0) := rfl
theorem st_76_43 {l1 l2 l3 l4 : Value} {d : Nat} {t : List Value} {g : mm_M} {r : mm_R} {x : Nat} : mm_Rn pg_G d 76 43 [.ref x, l1, l2, l3, l4] (t) g r ↔ mm_Rn pg_G d 76 44 [.ref x, l1, l2, l3, l4] (.ref x :: t) g r := rn_aload_n tb_76_43 rfl r
theorem tb_76_44 : mm_tb pg_G 76 44 = some (.getfield 22, 6, 5, 427) := rfl
theorem st_76_44 {d : Nat} {ls t : List Value} {g : mm_M} {r : mm_R} {x : Nat} (hT : g.1 x = some (6, 35)) : mm_Rn pg_G d 76 44 ls (.ref x :: t) g r ↔ mm_Rn pg_G d 76 47 ls (g.2.1 x 5 :: t) g r := rn_getfield tb_76_44 hT r
theorem tb_76_47 : mm_tb pg_G 76 47 = some (.iload 4, 0, 0, 0) := rfl
theorem st_76_47 {l0 l1 l2 l3 : Value} {d : Nat} {t : List Value} {g : mm_M} {r : mm_R} {x : Int32} : mm_Rn pg_G d 76 47 [l0, l1, l2, l3, .int x] (t) g r ↔ mm_Rn pg_G d 76 49 [l0, l1, l2, l3, .int x] (.int x :: t) g r := rn_iload tb_76_47 rfl r
theorem tb_76_49 : mm_tb pg_G 76 49 = some (.iaload, 0, 0, 0) := rfl
theorem st_76_49 {d : Nat} {ls t : List Value} {g : mm_M} {r : mm_R} {x : Nat} {j : Int32} (hc : mm_in (g.1 x) 100 101 j = true) : mm_Rn pg_G d 76 49 ls (.int j :: .ref x :: t) g r ↔ mm_Rn pg_G d 76 50 ls (g.2.1 x j.toNatClampNeg :: t) g r := rn_iaload tb_76_49 hc r
theorem tb_76_50 : mm_tb pg_G 76 50 = some (.iload_n 1, 0, 0, 0) := rfl
theorem st_76_50 {l0 l2 l3 l4 : Value} {d : Nat} {t : List Value} {g : mm_M} {r : mm_R} {x : Int32} : mm_Rn pg_G d 76 50 [l0, .int x, l2, l3, l4] (t) g r ↔ mm_Rn pg_G d 76 51 [l0, .int x, l2, l3, l4] (.int x :: t) g r := rn_iload_n tb_76_50 rfl r
theorem tb_76_51 : mm_tb pg_G 76 51 = some (.if_icmp .ne 18, 69, 0, 0) := rfl
theorem st_76_51 {d : Nat} {ls t : List Value} {g : mm_M} {r : mm_R} {x y : Int32} : mm_Rn pg_G d 76 51 ls (.int y :: .int x :: t) g r ↔ if x = y then mm_Rn pg_G d 76 54 ls (t) g r else mm_Rn pg_G d 76 69 ls (t) g r := rn_icmp_ne tb_76_51 r
theorem tb_76_54 : mm_tb pg_G 76 54 = some (.aload_n 0, 0, 0, 0) := rfl
theorem st_76_54 {l1 l2 l3 l4 : Value} {d : Nat} {t : List Value} {g : mm_M} {r : mm_R} {x : Nat} : mm_Rn pg_G d 76 54 [.ref x, l1, l2, l3, l4] (t) g r ↔ mm_Rn pg_G d 76 55 [.ref x, l1, l2, l3, l4] (.ref x :: t) g r := rn_aload_n tb_76_54 rfl r
theorem tb_76_55 : mm_tb pg_G 76 55 = some (.iload_n 3, 0, 0, 0) := rfl
theorem st_76_55 {l0 l1 l2 l4 : Value} {d : Nat} {t : List Value} {g : mm_M} {r : mm_R} {x : Int32} : mm_Rn pg_G d 76 55 [l0, l1, l2, .int x, l4] (t) g r ↔ mm_Rn pg_G d 76 56 [l0, l1, l2, .int x, l4] (.int x :: t) g r := rn_iload_n tb_76_55 rfl r
theorem tb_76_56 : mm_tb pg_G 76 56 = some (.invokevirtual 92, 75, 2, 518) := rfl
theorem st_76_56 {d c s c' s' : Nat} {ls t : List Value} {I J : sp_I} {r : mm_R} {a0 : Int32} {y : Nat} {v : Int32} (hl : t.length ≤ 4) (hT : sp_T I y = some (6, 35)) (hq : mm_Rn pg_G d 75 0 [.ref y, .int a0] [] (sp_me I 0 0) (some (.int v), sp_me J c' s')) : mm_Rn pg_G (d + 1) 76 56 ls (.int a0 :: .ref y :: t) (sp_me I c s) r ↔ mm_Rn pg_G (d + 1) 76 59 ls (.int v :: t) (sp_me J (c + c') (s + s')) r := rn_virt (g := sp_me I c s) (st := .int a0 :: .ref y :: t) tb_76_56 (decide_eq_true hT) ⟨Nat.le_add_left _ t.length, hl, rfl⟩ hq r
theorem tb_76_59 : mm_tb pg_G 76 59 = some (.iload_n 2, 0, 0, 0) := rfl
theorem st_76_59 {l0 l1 l3 l4 : Value} {d : Nat} {t : List Value} {g : mm_M} {r : mm_R} {x : Int32} : mm_Rn pg_G d 76 59 [l0, l1, .int x, l3, l4] (t) g r ↔ mm_Rn pg_G d 76 60 [l0, l1, .int x, l3, l4] (.int x :: t) g r := rn_iload_n tb_76_59 rfl r
theorem tb_76_60 : mm_tb pg_G 76 60 = some (.if_icmp .le 9, 69, 0, 0) := rfl
theorem st_76_60 {d : Nat} {ls t : List Value} {g : mm_M} {r : mm_R} {x y : Int32} : mm_Rn pg_G d 76 60 ls (.int y :: .int x :: t) g r ↔ if x ≤ y then mm_Rn pg_G d 76 69 ls (t) g r else mm_Rn pg_G d 76 63 ls (t) g r := rn_icmp_le tb_76_60 r
theorem tb_76_63 : mm_tb pg_G 76 63 = some (.aload_n 0, 0, 0, 0) := rfl
theorem st_76_63 {l1 l2 l3 l4 : Value} {d : Nat} {t : List Value} {g : mm_M} {r : mm_R} {x : Nat} : mm_Rn pg_G d 76 63 [.ref x, l1, l2, l3, l4] (t) g r ↔ mm_Rn pg_G d 76 64 [.ref x, l1, l2, l3, l4] (.ref x :: t) g r := rn_aload_n tb_76_63 rfl r
theorem tb_76_64 : mm_tb pg_G 76 64 = some (.iload_n 3, 0, 0, 0) := rfl
theorem st_76_64 {l0 l1 l2 l4 : Value} {d : Nat} {t : List Value} {g : mm_M} {r : mm_R} {x : Int32} : mm_Rn pg_G d 76 64 [l0, l1, l2, .int x, l4] (t) g r ↔ mm_Rn pg_G d 76 65 [l0, l1, l2, .int x, l4] (.int x :: t) g r := rn_iload_n tb_76_64 rfl r
theorem tb_76_65 : mm_tb pg_G 76 65 = some (.invokevirtual 92, 75, 2, 518) := rfl
theorem st_76_65 {d c s c' s' : Nat} {ls t : List Value} {I J : sp_I} {r : mm_R} {a0 : Int32} {y : Nat} {v : Int32} (hl : t.length ≤ 4) (hT : sp_T I y = some (6, 35)) (hq : mm_Rn pg_G d 75 0 [.ref y, .int a0] [] (sp_me I 0 0) (some (.int v), sp_me J c' s')) : mm_Rn pg_G (d + 1) 76 65 ls (.int a0 :: .ref y :: t) (sp_me I c s) r ↔ mm_Rn pg_G (d + 1) 76 68 ls (.int v :: t) (sp_me J (c + c') (s + s')) r := rn_virt (g := sp_me I c s) (st := .int a0 :: .ref y :: t) tb_76_65 (decide_eq_true hT) ⟨Nat.le_add_left _ t.length, hl, rfl⟩ hq r
theorem tb_76_68 : mm_tb pg_G 76 68 = some (.istore_n 2, 0, 0, 0) := rfl
theorem st_76_68 {l0 l1 l2 l3 l4 : Value} {d : Nat} {t : List Value} {g : mm_M} {r : mm_R} {x : Int32} (hc : mm_c1 l1 = true) : mm_Rn pg_G d 76 68 [l0, l1, l2, l3, l4] (.int x :: t) g r ↔ mm_Rn pg_G d 76 69 [l0, l1, .int x, l3, l4] (t) g r := rn_istore_n tb_76_68 (mm_so_of (ls := [l0, l1, l2, l3, l4]) (v := l1) (Nat.le_of_ble_eq_true rfl) rfl hc) r
theorem tb_76_69 : mm_tb pg_G 76 69 = some (.iinc 4 1, 0, 0, 0) := rfl
theorem st_76_69 {l0 l1 l2 l3 : Value} {d : Nat} {t : List Value} {g : mm_M} {r : mm_R} {x : Int32} (hc : mm_c1 l3 = true) : mm_Rn pg_G d 76 69 [l0, l1, l2, l3, .int x] (t) g r ↔ mm_Rn pg_G d 76 72 [l0, l1, l2, l3, .int (x + Int32.ofInt 1)] (t) g r := rn_iinc tb_76_69 rfl (mm_so_of (ls := [l0, l1, l2, l3, .int x]) (v := l3) (Nat.le_of_ble_eq_true rfl) rfl hc) r
theorem tb_76_72 : mm_tb pg_G 76 72 = some (.goto (-44), 28, 0, 0) := rfl
theorem st_76_72 {d : Nat} {ls t : List Value} {g : mm_M} {r : mm_R} : mm_Rn pg_G d 76 72 ls (t) g r ↔ mm_Rn pg_G d 76 28 ls (t) g r := rn_goto tb_76_72 r
theorem tb_76_75 : mm_tb pg_G 76 75 = some (.iinc 3 1, 0, 0, 0) := rfl
theorem st_76_75 {l0 l1 l2 l4 : Value} {d : Nat} {t : List Value} {g : mm_M} {r : mm_R} {x : Int32} (hc : mm_c1 l2 = true) : mm_Rn pg_G d 76 75 [l0, l1, l2, .int x, l4] (t) g r ↔ mm_Rn pg_G d 76 78 [l0, l1, l2, .int (x + Int32.ofInt 1), l4] (t) g r := rn_iinc tb_76_75 rfl (mm_so_of (ls := [l0, l1, l2, .int x, l4]) (v := l2) (Nat.le_of_ble_eq_true rfl) rfl hc) r
theorem tb_76_78 : mm_tb pg_G 76 78 = some (.goto (-63), 15, 0, 0) := rfl
theorem st_76_78 {d : Nat} {ls t : List Value} {g : mm_M} {r : mm_R} : mm_Rn pg_G d 76 78 ls (t) g r ↔ mm_Rn pg_G d 76 15 ls (t) g r := rn_goto tb_76_78 r
theorem tb_76_81 : mm_tb pg_G 76 81 = some (.iload_n 2, 0, 0, 0) := rfl
theorem st_76_81 {l0 l1 l3 l4 : Value} {d : Nat} {t : List Value} {g : mm_M} {r : mm_R} {x : Int32} : mm_Rn pg_G d 76 81 [l0, l1, .int x, l3, l4] (t) g r ↔ mm_Rn pg_G d 76 82 [l0, l1, .int x, l3, l4] (.int x :: t) g r := rn_iload_n tb_76_81 rfl r
theorem tb_76_82 : mm_tb pg_G 76 82 = some (.ireturn, 0, 0, 0) := rfl
theorem st_76_82 {d : Nat} {ls : List Value} {g : mm_M} {r : mm_R} {x : Int32} : mm_Rn pg_G d 76 82 ls [.int x] g r ↔ r = (some (.int x), g) := rn_ireturn_iff tb_76_82 (Or.inl rfl) r
theorem tb_77_0 : mm_tb pg_G 77 0 = some (.iconst 0, 0, 0, 0) := rfl
theorem st_77_0 {d : Nat} {ls t : List Value} {g : mm_M} {r : mm_R} : mm_Rn pg_G d 77 0 ls (t) g r ↔ mm_Rn pg_G d 77 1 ls (io_v 0 :: t) g r := rn_iconst tb_77_0 r
theorem tb_77_1 : mm_tb pg_G 77 1 = some (.istore_n 2, 0, 0, 0) := rfl
theorem st_77_1 {l0 l1 l2 l3 l4 l5 : Value} {d : Nat} {t : List Value} {g : mm_M} {r : mm_R} {x : Int32} (hc : mm_c1 l1 = true) : mm_Rn pg_G d 77 1 [l0, l1, l2, l3, l4, l5] (.int x :: t) g r ↔ mm_Rn pg_G d 77 2 [l0, l1, .int x, l3, l4, l5] (t) g r := rn_istore_n tb_77_1 (mm_so_of (ls := [l0, l1, l2, l3, l4, l5]) (v := l1) (Nat.le_of_ble_eq_true rfl) rfl hc) r
theorem tb_77_2 : mm_tb pg_G 77 2 = some (.iconst 0, 0, 0, 0) := rfl
theorem st_77_2 {d : Nat} {ls t : List Value} {g : mm_M} {r : mm_R} : mm_Rn pg_G d 77 2 ls (t) g r ↔ mm_Rn pg_G d 77 3 ls (io_v 0 :: t) g r := rn_iconst tb_77_2 r
theorem tb_77_3 : mm_tb pg_G 77 3 = some (.istore_n 3, 0, 0, 0) := rfl
theorem st_77_3 {l0 l1 l2 l3 l4 l5 : Value} {d : Nat} {t : List Value} {g : mm_M} {r : mm_R} {x : Int32} (hc : mm_c1 l2 = true) : mm_Rn pg_G d 77 3 [l0, l1, l2, l3, l4, l5] (.int x :: t) g r ↔ mm_Rn pg_G d 77 4 [l0, l1, l2, .int x, l4, l5] (t) g r := rn_istore_n tb_77_3 (mm_so_of (ls := [l0, l1, l2, l3, l4, l5]) (v := l2) (Nat.le_of_ble_eq_true rfl) rfl hc) r
theorem tb_77_4 : mm_tb pg_G 77 4 = some (.iload_n 3, 0, 0, 0) := rfl
theorem st_77_4 {l0 l1 l2 l4 l5 : Value} {d : Nat} {t : List Value} {g : mm_M} {r : mm_R} {x : Int32} : mm_Rn pg_G d 77 4 [l0, l1, l2, .int x, l4, l5] (t) g r ↔ mm_Rn pg_G d 77 5 [l0, l1, l2, .int x, l4, l5] (.int x :: t) g r := rn_iload_n tb_77_4 rfl r
theorem tb_77_5 : mm_tb pg_G 77 5 = some (.aload_n 0, 0, 0, 0) := rfl
theorem st_77_5 {l1 l2 l3 l4 l5 : Value} {d : Nat} {t : List Value} {g : mm_M} {r : mm_R} {x : Nat} : mm_Rn pg_G d 77 5 [.ref x, l1, l2, l3, l4, l5] (t) g r ↔ mm_Rn pg_G d 77 6 [.ref x, l1, l2, l3, l4, l5] (.ref x :: t) g r := rn_aload_n tb_77_5 rfl r
theorem tb_77_6 : mm_tb pg_G 77 6 = some (.getfield 71, 6, 0, 422) := rfl
theorem st_77_6 {d : Nat} {ls t : List Value} {g : mm_M} {r : mm_R} {x : Nat} (hT : g.1 x = some (6, 35)) : mm_Rn pg_G d 77 6 ls (.ref x :: t) g r ↔ mm_Rn pg_G d 77 9 ls (g.2.1 x 0 :: t) g r := rn_getfield tb_77_6 hT r
theorem tb_77_9 : mm_tb pg_G 77 9 = some (.if_icmp .ge 120, 129, 0, 0) := rfl
theorem st_77_9 {d : Nat} {ls t : List Value} {g : mm_M} {r : mm_R} {x y : Int32} : mm_Rn pg_G d 77 9 ls (.int y :: .int x :: t) g r ↔ if y ≤ x then mm_Rn pg_G d 77 129 ls (t) g r else mm_Rn pg_G d 77 12 ls (t) g r := rn_icmp_ge tb_77_9 r
theorem tb_77_12 : mm_tb pg_G 77 12 = some (.iconst 4, 0, 0, 0) := rfl
theorem st_77_12 {d : Nat} {ls t : List Value} {g : mm_M} {r : mm_R} : mm_Rn pg_G d 77 12 ls (t) g r ↔ mm_Rn pg_G d 77 13 ls (io_v 4 :: t) g r := rn_iconst tb_77_12 r
theorem tb_77_13 : mm_tb pg_G 77 13 = some (.iload_n 3, 0, 0, 0) := rfl
theorem st_77_13 {l0 l1 l2 l4 l5 : Value} {d : Nat} {t : List Value} {g : mm_M} {r : mm_R} {x : Int32} : mm_Rn pg_G d 77 13 [l0, l1, l2, .int x, l4, l5] (t) g r ↔ mm_Rn pg_G d 77 14 [l0, l1, l2, .int x, l4, l5] (.int x :: t) g r := rn_iload_n tb_77_13 rfl r
theorem tb_77_14 : mm_tb pg_G 77 14 = some (.imul, 0, 0, 0) := rfl
theorem st_77_14 {d : Nat} {ls t : List Value} {g : mm_M} {r : mm_R} {x y : Int32} : mm_Rn pg_G d 77 14 ls (.int y :: .int x :: t) g r ↔ mm_Rn pg_G d 77 15 ls (.int (x * y) :: t) g r := rn_imul tb_77_14 r
theorem tb_77_15 : mm_tb pg_G 77 15 = some (.istore 4, 0, 0, 0) := rfl
theorem st_77_15 {l0 l1 l2 l3 l4 l5 : Value} {d : Nat} {t : List Value} {g : mm_M} {r : mm_R} {x : Int32} (hc : mm_c1 l3 = true) : mm_Rn pg_G d 77 15 [l0, l1, l2, l3, l4, l5] (.int x :: t) g r ↔ mm_Rn pg_G d 77 17 [l0, l1, l2, l3, .int x, l5] (t) g r := rn_istore tb_77_15 (mm_so_of (ls := [l0, l1, l2, l3, l4, l5]) (v := l3) (Nat.le_of_ble_eq_true rfl) rfl hc) r
theorem tb_77_17 : mm_tb pg_G 77 17 = some (.iload 4, 0, 0, 0) := rfl
theorem st_77_17 {l0 l1 l2 l3 l5 : Value} {d : Nat} {t : List Value} {g : mm_M} {r : mm_R} {x : Int32} : mm_Rn pg_G d 77 17 [l0, l1, l2, l3, .int x, l5] (t) g r ↔ mm_Rn pg_G d 77 19 [l0, l1, l2, l3, .int x, l5] (.int x :: t) g r := rn_iload tb_77_17 rfl r
theorem tb_77_19 : mm_tb pg_G 77 19 = some (.iconst 4, 0, 0, 0) := rfl
theorem st_77_19 {d : Nat} {ls t : List Value} {g : mm_M} {r : mm_R} : mm_Rn pg_G d 77 19 ls (t) g r ↔ mm_Rn pg_G d 77 20 ls (io_v 4 :: t) g r := rn_iconst tb_77_19 r
theorem tb_77_20 : mm_tb pg_G 77 20 = some (.iload_n 3, 0, 0, 0) := rfl
theorem st_77_20 {l0 l1 l2 l4 l5 : Value} {d : Nat} {t : List Value} {g : mm_M} {r : mm_R} {x : Int32} : mm_Rn pg_G d 77 20 [l0, l1, l2, .int x, l4, l5] (t) g r ↔ mm_Rn pg_G d 77 21 [l0, l1, l2, .int x, l4, l5] (.int x :: t) g r := rn_iload_n tb_77_20 rfl r
theorem tb_77_21 : mm_tb pg_G 77 21 = some (.imul, 0, 0, 0) := rfl
theorem st_77_21 {d : Nat} {ls t : List Value} {g : mm_M} {r : mm_R} {x y : Int32} : mm_Rn pg_G d 77 21 ls (.int y :: .int x :: t) g r ↔ mm_Rn pg_G d 77 22 ls (.int (x * y) :: t) g r := rn_imul tb_77_21 r
theorem tb_77_22 : mm_tb pg_G 77 22 = some (.aload_n 0, 0, 0, 0) := rfl
theorem st_77_22 {l1 l2 l3 l4 l5 : Value} {d : Nat} {t : List Value} {g : mm_M} {r : mm_R} {x : Nat} : mm_Rn pg_G d 77 22 [.ref x, l1, l2, l3, l4, l5] (t) g r ↔ mm_Rn pg_G d 77 23 [.ref x, l1, l2, l3, l4, l5] (.ref x :: t) g r := rn_aload_n tb_77_22 rfl r
theorem tb_77_23 : mm_tb pg_G 77 23 = some (.getfield 19, 6, 4, 426) := rfl
theorem st_77_23 {d : Nat} {ls t : List Value} {g : mm_M} {r : mm_R} {x : Nat} (hT : g.1 x = some (6, 35)) : mm_Rn pg_G d 77 23 ls (.ref x :: t) g r ↔ mm_Rn pg_G d 77 26 ls (g.2.1 x 4 :: t) g r := rn_getfield tb_77_23 hT r
theorem tb_77_26 : mm_tb pg_G 77 26 = some (.iload_n 3, 0, 0, 0) := rfl
theorem st_77_26 {l0 l1 l2 l4 l5 : Value} {d : Nat} {t : List Value} {g : mm_M} {r : mm_R} {x : Int32} : mm_Rn pg_G d 77 26 [l0, l1, l2, .int x, l4, l5] (t) g r ↔ mm_Rn pg_G d 77 27 [l0, l1, l2, .int x, l4, l5] (.int x :: t) g r := rn_iload_n tb_77_26 rfl r
theorem tb_77_27 : mm_tb pg_G 77 27 = some (.iaload, 0, 0, 0) := rfl
theorem st_77_27 {d : Nat} {ls t : List Value} {g : mm_M} {r : mm_R} {x : Nat} {j : Int32} (hc : mm_in (g.1 x) 100 101 j = true) : mm_Rn pg_G d 77 27 ls (.int j :: .ref x :: t) g r ↔ mm_Rn pg_G d 77 28 ls (g.2.1 x j.toNatClampNeg :: t) g r := rn_iaload tb_77_27 hc r
theorem tb_77_28 : mm_tb pg_G 77 28 = some (.iadd, 0, 0, 0) := rfl
theorem st_77_28 {d : Nat} {ls t : List Value} {g : mm_M} {r : mm_R} {x y : Int32} : mm_Rn pg_G d 77 28 ls (.int y :: .int x :: t) g r ↔ mm_Rn pg_G d 77 29 ls (.int (x + y) :: t) g r := rn_iadd tb_77_28 r
theorem tb_77_29 : mm_tb pg_G 77 29 = some (.if_icmp .ge 94, 123, 0, 0) := rfl
theorem st_77_29 {d : Nat} {ls t : List Value} {g : mm_M} {r : mm_R} {x y : Int32} : mm_Rn pg_G d 77 29 ls (.int y :: .int x :: t) g r ↔ if y ≤ x then mm_Rn pg_G d 77 123 ls (t) g r else mm_Rn pg_G d 77 32 ls (t) g r := rn_icmp_ge tb_77_29 r
theorem tb_77_32 : mm_tb pg_G 77 32 = some (.aload_n 0, 0, 0, 0) := rfl
theorem st_77_32 {l1 l2 l3 l4 l5 : Value} {d : Nat} {t : List Value} {g : mm_M} {r : mm_R} {x : Nat} : mm_Rn pg_G d 77 32 [.ref x, l1, l2, l3, l4, l5] (t) g r ↔ mm_Rn pg_G d 77 33 [.ref x, l1, l2, l3, l4, l5] (.ref x :: t) g r := rn_aload_n tb_77_32 rfl r
theorem tb_77_33 : mm_tb pg_G 77 33 = some (.getfield 13, 6, 2, 424) := rfl
theorem st_77_33 {d : Nat} {ls t : List Value} {g : mm_M} {r : mm_R} {x : Nat} (hT : g.1 x = some (6, 35)) : mm_Rn pg_G d 77 33 ls (.ref x :: t) g r ↔ mm_Rn pg_G d 77 36 ls (g.2.1 x 2 :: t) g r := rn_getfield tb_77_33 hT r
theorem tb_77_36 : mm_tb pg_G 77 36 = some (.iload_n 3, 0, 0, 0) := rfl
theorem st_77_36 {l0 l1 l2 l4 l5 : Value} {d : Nat} {t : List Value} {g : mm_M} {r : mm_R} {x : Int32} : mm_Rn pg_G d 77 36 [l0, l1, l2, .int x, l4, l5] (t) g r ↔ mm_Rn pg_G d 77 37 [l0, l1, l2, .int x, l4, l5] (.int x :: t) g r := rn_iload_n tb_77_36 rfl r
theorem tb_77_37 : mm_tb pg_G 77 37 = some (.iaload, 0, 0, 0) := rfl
theorem st_77_37 {d : Nat} {ls t : List Value} {g : mm_M} {r : mm_R} {x : Nat} {j : Int32} (hc : mm_in (g.1 x) 100 101 j = true) : mm_Rn pg_G d 77 37 ls (.int j :: .ref x :: t) g r ↔ mm_Rn pg_G d 77 38 ls (g.2.1 x j.toNatClampNeg :: t) g r := rn_iaload tb_77_37 hc r
theorem tb_77_38 : mm_tb pg_G 77 38 = some (.aload_n 0, 0, 0, 0) := rfl
theorem st_77_38 {l1 l2 l3 l4 l5 : Value} {d : Nat} {t : List Value} {g : mm_M} {r : mm_R} {x : Nat} : mm_Rn pg_G d 77 38 [.ref x, l1, l2, l3, l4, l5] (t) g r ↔ mm_Rn pg_G d 77 39 [.ref x, l1, l2, l3, l4, l5] (.ref x :: t) g r := rn_aload_n tb_77_38 rfl r
theorem tb_77_39 : mm_tb pg_G 77 39 = some (.getfield 13, 6, 2, 424) := rfl
theorem st_77_39 {d : Nat} {ls t : List Value} {g : mm_M} {r : mm_R} {x : Nat} (hT : g.1 x = some (6, 35)) : mm_Rn pg_G d 77 39 ls (.ref x :: t) g r ↔ mm_Rn pg_G d 77 42 ls (g.2.1 x 2 :: t) g r := rn_getfield tb_77_39 hT r
theorem tb_77_42 : mm_tb pg_G 77 42 = some (.iload_n 1, 0, 0, 0) := rfl
theorem st_77_42 {l0 l2 l3 l4 l5 : Value} {d : Nat} {t : List Value} {g : mm_M} {r : mm_R} {x : Int32} : mm_Rn pg_G d 77 42 [l0, .int x, l2, l3, l4, l5] (t) g r ↔ mm_Rn pg_G d 77 43 [l0, .int x, l2, l3, l4, l5] (.int x :: t) g r := rn_iload_n tb_77_42 rfl r
theorem tb_77_43 : mm_tb pg_G 77 43 = some (.iaload, 0, 0, 0) := rfl
theorem st_77_43 {d : Nat} {ls t : List Value} {g : mm_M} {r : mm_R} {x : Nat} {j : Int32} (hc : mm_in (g.1 x) 100 101 j = true) : mm_Rn pg_G d 77 43 ls (.int j :: .ref x :: t) g r ↔ mm_Rn pg_G d 77 44 ls (g.2.1 x j.toNatClampNeg :: t) g r := rn_iaload tb_77_43 hc r
theorem tb_77_44 : mm_tb pg_G 77 44 = some (.if_icmp .le 26, 70, 0, 0) := rfl
theorem st_77_44 {d : Nat} {ls t : List Value} {g : mm_M} {r : mm_R} {x y : Int32} : mm_Rn pg_G d 77 44 ls (.int y :: .int x :: t) g r ↔ if x ≤ y then mm_Rn pg_G d 77 70 ls (t) g r else mm_Rn pg_G d 77 47 ls (t) g r := rn_icmp_le tb_77_44 r
theorem tb_77_47 : mm_tb pg_G 77 47 = some (.aload_n 0, 0, 0, 0) := rfl
theorem st_77_47 {l1 l2 l3 l4 l5 : Value} {d : Nat} {t : List Value} {g : mm_M} {r : mm_R} {x : Nat} : mm_Rn pg_G d 77 47 [.ref x, l1, l2, l3, l4, l5] (t) g r ↔ mm_Rn pg_G d 77 48 [.ref x, l1, l2, l3, l4, l5] (.ref x :: t) g r := rn_aload_n tb_77_47 rfl r
theorem tb_77_48 : mm_tb pg_G 77 48 = some (.aload_n 0, 0, 0, 0) := rfl
theorem st_77_48 {l1 l2 l3 l4 l5 : Value} {d : Nat} {t : List Value} {g : mm_M} {r : mm_R} {x : Nat} : mm_Rn pg_G d 77 48 [.ref x, l1, l2, l3, l4, l5] (t) g r ↔ mm_Rn pg_G d 77 49 [.ref x, l1, l2, l3, l4, l5] (.ref x :: t) g r := rn_aload_n tb_77_48 rfl r
theorem tb_77_49 : mm_tb pg_G 77 49 = some (.getfield 22, 6, 5, 427) := rfl
theorem st_77_49 {d : Nat} {ls t : List Value} {g : mm_M} {r : mm_R} {x : Nat} (hT : g.1 x = some (6, 35)) : mm_Rn pg_G d 77 49 ls (.ref x :: t) g r ↔ mm_Rn pg_G d 77 52 ls (g.2.1 x 5 :: t) g r := rn_getfield tb_77_49 hT r
theorem tb_77_52 : mm_tb pg_G 77 52 = some (.iload 4, 0, 0, 0) := rfl
theorem st_77_52 {l0 l1 l2 l3 l5 : Value} {d : Nat} {t : List Value} {g : mm_M} {r : mm_R} {x : Int32} : mm_Rn pg_G d 77 52 [l0, l1, l2, l3, .int x, l5] (t) g r ↔ mm_Rn pg_G d 77 54 [l0, l1, l2, l3, .int x, l5] (.int x :: t) g r := rn_iload tb_77_52 rfl r
theorem tb_77_54 : mm_tb pg_G 77 54 = some (.iaload, 0, 0, 0) := rfl
theorem st_77_54 {d : Nat} {ls t : List Value} {g : mm_M} {r : mm_R} {x : Nat} {j : Int32} (hc : mm_in (g.1 x) 100 101 j = true) : mm_Rn pg_G d 77 54 ls (.int j :: .ref x :: t) g r ↔ mm_Rn pg_G d 77 55 ls (g.2.1 x j.toNatClampNeg :: t) g r := rn_iaload tb_77_54 hc r
theorem tb_77_55 : mm_tb pg_G 77 55 = some (.invokevirtual 96, 76, 2, 531) := rfl
theorem st_77_55 {d c s c' s' : Nat} {ls t : List Value} {I J : sp_I} {r : mm_R} {a0 : Int32} {y : Nat} {v : Int32} (hl : t.length ≤ 4) (hT : sp_T I y = some (6, 35)) (hq : mm_Rn pg_G d 76 0 [.ref y, .int a0, .retAddr 0, .retAddr 0, .retAddr 0] [] (sp_me I 0 0) (some (.int v), sp_me J c' s')) : mm_Rn pg_G (d + 1) 77 55 ls (.int a0 :: .ref y :: t) (sp_me I c s) r ↔ mm_Rn pg_G (d + 1) 77 58 ls (.int v :: t) (sp_me J (c + c') (s + s')) r := rn_virt (g := sp_me I c s) (st := .int a0 :: .ref y :: t) tb_77_55 (decide_eq_true hT) ⟨Nat.le_add_left _ t.length, hl, rfl⟩ hq r
theorem tb_77_58 : mm_tb pg_G 77 58 = some (.aload_n 0, 0, 0, 0) := rfl
theorem st_77_58 {l1 l2 l3 l4 l5 : Value} {d : Nat} {t : List Value} {g : mm_M} {r : mm_R} {x : Nat} : mm_Rn pg_G d 77 58 [.ref x, l1, l2, l3, l4, l5] (t) g r ↔ mm_Rn pg_G d 77 59 [.ref x, l1, l2, l3, l4, l5] (.ref x :: t) g r := rn_aload_n tb_77_58 rfl r
theorem tb_77_59 : mm_tb pg_G 77 59 = some (.iload_n 1, 0, 0, 0) := rfl
theorem st_77_59 {l0 l2 l3 l4 l5 : Value} {d : Nat} {t : List Value} {g : mm_M} {r : mm_R} {x : Int32} : mm_Rn pg_G d 77 59 [l0, .int x, l2, l3, l4, l5] (t) g r ↔ mm_Rn pg_G d 77 60 [l0, .int x, l2, l3, l4, l5] (.int x :: t) g r := rn_iload_n tb_77_59 rfl r
theorem tb_77_60 : mm_tb pg_G 77 60 = some (.invokevirtual 92, 75, 2, 518) := rfl
theorem st_77_60 {d c s c' s' : Nat} {ls t : List Value} {I J : sp_I} {r : mm_R} {a0 : Int32} {y : Nat} {v : Int32} (hl : t.length ≤ 4) (hT : sp_T I y = some (6, 35)) (hq : mm_Rn pg_G d 75 0 [.ref y, .int a0] [] (sp_me I 0 0) (some (.int v), sp_me J c' s')) : mm_Rn pg_G (d + 1) 77 60 ls (.int a0 :: .ref y :: t) (sp_me I c s) r ↔ mm_Rn pg_G (d + 1) 77 63 ls (.int v :: t) (sp_me J (c + c') (s + s')) r := rn_virt (g := sp_me I c s) (st := .int a0 :: .ref y :: t) tb_77_60 (decide_eq_true hT) ⟨Nat.le_add_left _ t.length, hl, rfl⟩ hq r
theorem tb_77_63 : mm_tb pg_G 77 63 = some (.if_icmp .lt 7, 70, 0, 0) := rfl
theorem st_77_63 {d : Nat} {ls t : List Value} {g : mm_M} {r : mm_R} {x y : Int32} : mm_Rn pg_G d 77 63 ls (.int y :: .int x :: t) g r ↔ if x < y then mm_Rn pg_G d 77 70 ls (t) g r else mm_Rn pg_G d 77 66 ls (t) g r := rn_icmp_lt tb_77_63 r
theorem tb_77_66 : mm_tb pg_G 77 66 = some (.iconst 1, 0, 0, 0) := rfl
theorem st_77_66 {d : Nat} {ls t : List Value} {g : mm_M} {r : mm_R} : mm_Rn pg_G d 77 66 ls (t) g r ↔ mm_Rn pg_G d 77 67 ls (io_v 1 :: t) g r := rn_iconst tb_77_66 r
theorem tb_77_67 : mm_tb pg_G 77 67 = some (.goto 4, 71, 0, 0) := rfl
theorem st_77_67 {d : Nat} {ls t : List Value} {g : mm_M} {r : mm_R} : mm_Rn pg_G d 77 67 ls (t) g r ↔ mm_Rn pg_G d 77 71 ls (t) g r := rn_goto tb_77_67 r
theorem tb_77_70 : mm_tb pg_G 77 70 = some (.iconst 0, 0, 0, 0) := rfl
theorem st_77_70 {d : Nat} {ls t : List Value} {g : mm_M} {r : mm_R} : mm_Rn pg_G d 77 70 ls (t) g r ↔ mm_Rn pg_G d 77 71 ls (io_v 0 :: t) g r := rn_iconst tb_77_70 r
theorem tb_77_71 : mm_tb pg_G 77 71 = some (.istore 5, 0, 0, 0) := rfl
theorem st_77_71 {l0 l1 l2 l3 l4 l5 : Value} {d : Nat} {t : List Value} {g : mm_M} {r : mm_R} {x : Int32} (hc : mm_c1 l4 = true) : mm_Rn pg_G d 77 71 [l0, l1, l2, l3, l4, l5] (.int x :: t) g r ↔ mm_Rn pg_G d 77 73 [l0, l1, l2, l3, l4, .int x] (t) g r := rn_istore tb_77_71 (mm_so_of (ls := [l0, l1, l2, l3, l4, l5]) (v := l4) (Nat.le_of_ble_eq_true rfl) rfl hc) r
theorem tb_77_73 : mm_tb pg_G 77 73 = some (.iload 5, 0, 0, 0) := rfl
theorem st_77_73 {l0 l1 l2 l3 l4 : Value} {d : Nat} {t : List Value} {g : mm_M} {r : mm_R} {x : Int32} : mm_Rn pg_G d 77 73 [l0, l1, l2, l3, l4, .int x] (t) g r ↔ mm_Rn pg_G d 77 75 [l0, l1, l2, l3, l4, .int x] (.int x :: t) g r := rn_iload tb_77_73 rfl r
theorem tb_77_75 : mm_tb pg_G 77 75 = some (.ifCond .eq 42, 117, 0, 0) := rfl
theorem st_77_75 {d : Nat} {ls t : List Value} {g : mm_M} {r : mm_R} {x : Int32} : mm_Rn pg_G d 77 75 ls (.int x :: t) g r ↔ if x = 0 then mm_Rn pg_G d 77 117 ls (t) g r else mm_Rn pg_G d 77 78 ls (t) g r := rn_if_eq tb_77_75 r
theorem tb_77_78 : mm_tb pg_G 77 78 = some (.aload_n 0, 0, 0, 0) := rfl
theorem st_77_78 {l1 l2 l3 l4 l5 : Value} {d : Nat} {t : List Value} {g : mm_M} {r : mm_R} {x : Nat} : mm_Rn pg_G d 77 78 [.ref x, l1, l2, l3, l4, l5] (t) g r ↔ mm_Rn pg_G d 77 79 [.ref x, l1, l2, l3, l4, l5] (.ref x :: t) g r := rn_aload_n tb_77_78 rfl r
theorem tb_77_79 : mm_tb pg_G 77 79 = some (.getfield 28, 6, 7, 429) := rfl
theorem st_77_79 {d : Nat} {ls t : List Value} {g : mm_M} {r : mm_R} {x : Nat} (hT : g.1 x = some (6, 35)) : mm_Rn pg_G d 77 79 ls (.ref x :: t) g r ↔ mm_Rn pg_G d 77 82 ls (g.2.1 x 7 :: t) g r := rn_getfield tb_77_79 hT r
theorem tb_77_82 : mm_tb pg_G 77 82 = some (.iload 4, 0, 0, 0) := rfl
theorem st_77_82 {l0 l1 l2 l3 l5 : Value} {d : Nat} {t : List Value} {g : mm_M} {r : mm_R} {x : Int32} : mm_Rn pg_G d 77 82 [l0, l1, l2, l3, .int x, l5] (t) g r ↔ mm_Rn pg_G d 77 84 [l0, l1, l2, l3, .int x, l5] (.int x :: t) g r := rn_iload tb_77_82 rfl r
theorem tb_77_84 : mm_tb pg_G 77 84 = some (.iaload, 0, 0, 0) := rfl
theorem st_77_84 {d : Nat} {ls t : List Value} {g : mm_M} {r : mm_R} {x : Nat} {j : Int32} (hc : mm_in (g.1 x) 100 101 j = true) : mm_Rn pg_G d 77 84 ls (.int j :: .ref x :: t) g r ↔ mm_Rn pg_G d 77 85 ls (g.2.1 x j.toNatClampNeg :: t) g r := rn_iaload tb_77_84 hc r
theorem tb_77_85 : mm_tb pg_G 77 85 = some (.aload_n 0, 0, 0, 0) := rfl
theorem st_77_85 {l1 l2 l3 l4 l5 : Value} {d : Nat} {t : List Value} {g : mm_M} {r : mm_R} {x : Nat} : mm_Rn pg_G d 77 85 [.ref x, l1, l2, l3, l4, l5] (t) g r ↔ mm_Rn pg_G d 77 86 [.ref x, l1, l2, l3, l4, l5] (.ref x :: t) g r := rn_aload_n tb_77_85 rfl r
theorem tb_77_86 : mm_tb pg_G 77 86 = some (.getfield 25, 6, 6, 428) := rfl
theorem st_77_86 {d : Nat} {ls t : List Value} {g : mm_M} {r : mm_R} {x : Nat} (hT : g.1 x = some (6, 35)) : mm_Rn pg_G d 77 86 ls (.ref x :: t) g r ↔ mm_Rn pg_G d 77 89 ls (g.2.1 x 6 :: t) g r := rn_getfield tb_77_86 hT r
theorem tb_77_89 : mm_tb pg_G 77 89 = some (.iload 4, 0, 0, 0) := rfl
theorem st_77_89 {l0 l1 l2 l3 l5 : Value} {d : Nat} {t : List Value} {g : mm_M} {r : mm_R} {x : Int32} : mm_Rn pg_G d 77 89 [l0, l1, l2, l3, .int x, l5] (t) g r ↔ mm_Rn pg_G d 77 91 [l0, l1, l2, l3, .int x, l5] (.int x :: t) g r := rn_iload tb_77_89 rfl r
theorem tb_77_91 : mm_tb pg_G 77 91 = some (.iaload, 0, 0, 0) := rfl
theorem st_77_91 {d : Nat} {ls t : List Value} {g : mm_M} {r : mm_R} {x : Nat} {j : Int32} (hc : mm_in (g.1 x) 100 101 j = true) : mm_Rn pg_G d 77 91 ls (.int j :: .ref x :: t) g r ↔ mm_Rn pg_G d 77 92 ls (g.2.1 x j.toNatClampNeg :: t) g r := rn_iaload tb_77_91 hc r
theorem tb_77_92 : mm_tb pg_G 77 92 = some (.isub, 0, 0, 0) := rfl
theorem st_77_92 {d : Nat} {ls t : List Value} {g : mm_M} {r : mm_R} {x y : Int32} : mm_Rn pg_G d 77 92 ls (.int y :: .int x :: t) g r ↔ mm_Rn pg_G d 77 93 ls (.int (x - y) :: t) g r := rn_isub tb_77_92 r
theorem tb_77_93 : mm_tb pg_G 77 93 = some (.iconst 1, 0, 0, 0) := rfl
theorem st_77_93 {d : Nat} {ls t : List Value} {g : mm_M} {r : mm_R} : mm_Rn pg_G d 77 93 ls (t) g r ↔ mm_Rn pg_G d 77 94 ls (io_v 1 :: t) g r := rn_iconst tb_77_93 r
theorem tb_77_94 : mm_tb pg_G 77 94 = some (.isub, 0, 0, 0) := rfl
theorem st_77_94 {d : Nat} {ls t : List Value} {g : mm_M} {r : mm_R} {x y : Int32} : mm_Rn pg_G d 77 94 ls (.int y :: .int x :: t) g r ↔ mm_Rn pg_G d 77 95 ls (.int (x - y) :: t) g r := rn_isub tb_77_94 r
theorem tb_77_95 : mm_tb pg_G 77 95 = some (.iload_n 2, 0, 0, 0) := rfl
theorem st_77_95 {l0 l1 l3 l4 l5 : Value} {d : Nat} {t : List Value} {g : mm_M} {r : mm_R} {x : Int32} : mm_Rn pg_G d 77 95 [l0, l1, .int x, l3, l4, l5] (t) g r ↔ mm_Rn pg_G d 77 96 [l0, l1, .int x, l3, l4, l5] (.int x :: t) g r := rn_iload_n tb_77_95 rfl r
theorem tb_77_96 : mm_tb pg_G 77 96 = some (.if_icmp .le 21, 117, 0, 0) := rfl
theorem st_77_96 {d : Nat} {ls t : List Value} {g : mm_M} {r : mm_R} {x y : Int32} : mm_Rn pg_G d 77 96 ls (.int y :: .int x :: t) g r ↔ if x ≤ y then mm_Rn pg_G d 77 117 ls (t) g r else mm_Rn pg_G d 77 99 ls (t) g r := rn_icmp_le tb_77_96 r
theorem tb_77_99 : mm_tb pg_G 77 99 = some (.aload_n 0, 0, 0, 0) := rfl
theorem st_77_99 {l1 l2 l3 l4 l5 : Value} {d : Nat} {t : List Value} {g : mm_M} {r : mm_R} {x : Nat} : mm_Rn pg_G d 77 99 [.ref x, l1, l2, l3, l4, l5] (t) g r ↔ mm_Rn pg_G d 77 100 [.ref x, l1, l2, l3, l4, l5] (.ref x :: t) g r := rn_aload_n tb_77_99 rfl r
theorem tb_77_100 : mm_tb pg_G 77 100 = some (.getfield 28, 6, 7, 429) := rfl
theorem st_77_100 {d : Nat} {ls t : List Value} {g : mm_M} {r : mm_R} {x : Nat} (hT : g.1 x = some (6, 35)) : mm_Rn pg_G d 77 100 ls (.ref x :: t) g r ↔ mm_Rn pg_G d 77 103 ls (g.2.1 x 7 :: t) g r := rn_getfield tb_77_100 hT r
theorem tb_77_103 : mm_tb pg_G 77 103 = some (.iload 4, 0, 0, 0) := rfl
theorem st_77_103 {l0 l1 l2 l3 l5 : Value} {d : Nat} {t : List Value} {g : mm_M} {r : mm_R} {x : Int32} : mm_Rn pg_G d 77 103 [l0, l1, l2, l3, .int x, l5] (t) g r ↔ mm_Rn pg_G d 77 105 [l0, l1, l2, l3, .int x, l5] (.int x :: t) g r := rn_iload tb_77_103 rfl r
theorem tb_77_105 : mm_tb pg_G 77 105 = some (.iaload, 0, 0, 0) := rfl
theorem st_77_105 {d : Nat} {ls t : List Value} {g : mm_M} {r : mm_R} {x : Nat} {j : Int32} (hc : mm_in (g.1 x) 100 101 j = true) : mm_Rn pg_G d 77 105 ls (.int j :: .ref x :: t) g r ↔ mm_Rn pg_G d 77 106 ls (g.2.1 x j.toNatClampNeg :: t) g r := rn_iaload tb_77_105 hc r
theorem tb_77_106 : mm_tb pg_G 77 106 = some (.aload_n 0, 0, 0, 0) := rfl
theorem st_77_106 {l1 l2 l3 l4 l5 : Value} {d : Nat} {t : List Value} {g : mm_M} {r : mm_R} {x : Nat} : mm_Rn pg_G d 77 106 [.ref x, l1, l2, l3, l4, l5] (t) g r ↔ mm_Rn pg_G d 77 107 [.ref x, l1, l2, l3, l4, l5] (.ref x :: t) g r := rn_aload_n tb_77_106 rfl r
theorem tb_77_107 : mm_tb pg_G 77 107 = some (.getfield 25, 6, 6, 428) := rfl
theorem st_77_107 {d : Nat} {ls t : List Value} {g : mm_M} {r : mm_R} {x : Nat} (hT : g.1 x = some (6, 35)) : mm_Rn pg_G d 77 107 ls (.ref x :: t) g r ↔ mm_Rn pg_G d 77 110 ls (g.2.1 x 6 :: t) g r := rn_getfield tb_77_107 hT r
theorem tb_77_110 : mm_tb pg_G 77 110 = some (.iload 4, 0, 0, 0) := rfl
theorem st_77_110 {l0 l1 l2 l3 l5 : Value} {d : Nat} {t : List Value} {g : mm_M} {r : mm_R} {x : Int32} : mm_Rn pg_G d 77 110 [l0, l1, l2, l3, .int x, l5] (t) g r ↔ mm_Rn pg_G d 77 112 [l0, l1, l2, l3, .int x, l5] (.int x :: t) g r := rn_iload tb_77_110 rfl r
theorem tb_77_112 : mm_tb pg_G 77 112 = some (.iaload, 0, 0, 0) := rfl
theorem st_77_112 {d : Nat} {ls t : List Value} {g : mm_M} {r : mm_R} {x : Nat} {j : Int32} (hc : mm_in (g.1 x) 100 101 j = true) : mm_Rn pg_G d 77 112 ls (.int j :: .ref x :: t) g r ↔ mm_Rn pg_G d 77 113 ls (g.2.1 x j.toNatClampNeg :: t) g r := rn_iaload tb_77_112 hc r
theorem tb_77_113 : mm_tb pg_G 77 113 = some (.isub, 0, 0, 0) := rfl
theorem st_77_113 {d : Nat} {ls t : List Value} {g : mm_M} {r : mm_R} {x y : Int32} : mm_Rn pg_G d 77 113 ls (.int y :: .int x :: t) g r ↔ mm_Rn pg_G d 77 114 ls (.int (x - y) :: t) g r := rn_isub tb_77_113 r
theorem tb_77_114 : mm_tb pg_G 77 114 = some (.iconst 1, 0, 0, 0) := rfl
theorem st_77_114 {d : Nat} {ls t : List Value} {g : mm_M} {r : mm_R} : mm_Rn pg_G d 77 114 ls (t) g r ↔ mm_Rn pg_G d 77 115 ls (io_v 1 :: t) g r := rn_iconst tb_77_114 r
theorem tb_77_115 : mm_tb pg_G 77 115 = some (.isub, 0, 0, 0) := rfl
theorem st_77_115 {d : Nat} {ls t : List Value} {g : mm_M} {r : mm_R} {x y : Int32} : mm_Rn pg_G d 77 115 ls (.int y :: .int x :: t) g r ↔ mm_Rn pg_G d 77 116 ls (.int (x - y) :: t) g r := rn_isub tb_77_115 r
theorem tb_77_116 : mm_tb pg_G 77 116 = some (.istore_n 2, 0, 0, 0) := rfl
theorem st_77_116 {l0 l1 l2 l3 l4 l5 : Value} {d : Nat} {t : List Value} {g : mm_M} {r : mm_R} {x : Int32} (hc : mm_c1 l1 = true) : mm_Rn pg_G d 77 116 [l0, l1, l2, l3, l4, l5] (.int x :: t) g r ↔ mm_Rn pg_G d 77 117 [l0, l1, .int x, l3, l4, l5] (t) g r := rn_istore_n tb_77_116 (mm_so_of (ls := [l0, l1, l2, l3, l4, l5]) (v := l1) (Nat.le_of_ble_eq_true rfl) rfl hc) r
theorem tb_77_117 : mm_tb pg_G 77 117 = some (.iinc 4 1, 0, 0, 0) := rfl
theorem st_77_117 {l0 l1 l2 l3 l5 : Value} {d : Nat} {t : List Value} {g : mm_M} {r : mm_R} {x : Int32} (hc : mm_c1 l3 = true) : mm_Rn pg_G d 77 117 [l0, l1, l2, l3, .int x, l5] (t) g r ↔ mm_Rn pg_G d 77 120 [l0, l1, l2, l3, .int (x + Int32.ofInt 1), l5] (t) g r := rn_iinc tb_77_117 rfl (mm_so_of (ls := [l0, l1, l2, l3, .int x, l5]) (v := l3) (Nat.le_of_ble_eq_true rfl) rfl hc) r
theorem tb_77_120 : mm_tb pg_G 77 120 = some (.goto (-103), 17, 0, 0) := rfl
theorem st_77_120 {d : Nat} {ls t : List Value} {g : mm_M} {r : mm_R} : mm_Rn pg_G d 77 120 ls (t) g r ↔ mm_Rn pg_G d 77 17 ls (t) g r := rn_goto tb_77_120 r
theorem tb_77_123 : mm_tb pg_G 77 123 = some (.iinc 3 1, 0, 0, 0) := rfl
theorem st_77_123 {l0 l1 l2 l4 l5 : Value} {d : Nat} {t : List Value} {g : mm_M} {r : mm_R} {x : Int32} (hc : mm_c1 l2 = true) : mm_Rn pg_G d 77 123 [l0, l1, l2, .int x, l4, l5] (t) g r ↔ mm_Rn pg_G d 77 126 [l0, l1, l2, .int (x + Int32.ofInt 1), l4, l5] (t) g r := rn_iinc tb_77_123 rfl (mm_so_of (ls := [l0, l1, l2, .int x, l4, l5]) (v := l2) (Nat.le_of_ble_eq_true rfl) rfl hc) r
theorem tb_77_126 : mm_tb pg_G 77 126 = some (.goto (-122), 4, 0, 0) := rfl
theorem st_77_126 {d : Nat} {ls t : List Value} {g : mm_M} {r : mm_R} : mm_Rn pg_G d 77 126 ls (t) g r ↔ mm_Rn pg_G d 77 4 ls (t) g r := rn_goto tb_77_126 r
theorem tb_77_129 : mm_tb pg_G 77 129 = some (.iload_n 2, 0, 0, 0) := rfl
theorem st_77_129 {l0 l1 l3 l4 l5 : Value} {d : Nat} {t : List Value} {g : mm_M} {r : mm_R} {x : Int32} : mm_Rn pg_G d 77 129 [l0, l1, .int x, l3, l4, l5] (t) g r ↔ mm_Rn pg_G d 77 130 [l0, l1, .int x, l3, l4, l5] (.int x :: t) g r := rn_iload_n tb_77_129 rfl r
theorem tb_77_130 : mm_tb pg_G 77 130 = some (.ireturn, 0, 0, 0) := rfl
theorem st_77_130 {d : Nat} {ls : List Value} {g : mm_M} {r : mm_R} {x : Int32} : mm_Rn pg_G d 77 130 ls [.int x] g r ↔ r = (some (.int x), g) := rn_ireturn_iff tb_77_130 (Or.inl rfl) r
