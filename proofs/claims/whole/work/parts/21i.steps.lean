/-! a row an instruction of the program -/
theorem tb_93_0 : mm_tb pg_G 93 0 = some (.aload_n 0, 0, 0, 0) := rfl
theorem st_93_0 {l1 l2 l3 l4 l5 : Value} {d : Nat} {t : List Value} {g : mm_M} {r : mm_R} {x : Nat} : mm_Rn pg_G d 93 0 [.ref x, l1, l2, l3, l4, l5] (t) g r ↔ mm_Rn pg_G d 93 1 [.ref x, l1, l2, l3, l4, l5] (.ref x :: t) g r := rn_aload_n tb_93_0 rfl r
theorem tb_93_1 : mm_tb pg_G 93 1 = some (.iload_n 1, 0, 0, 0) := rfl
theorem st_93_1 {l0 l2 l3 l4 l5 : Value} {d : Nat} {t : List Value} {g : mm_M} {r : mm_R} {x : Int32} : mm_Rn pg_G d 93 1 [l0, .int x, l2, l3, l4, l5] (t) g r ↔ mm_Rn pg_G d 93 2 [l0, .int x, l2, l3, l4, l5] (.int x :: t) g r := rn_iload_n tb_93_1 rfl r
theorem tb_93_2 : mm_tb pg_G 93 2 = some (.invokevirtual 146, 87, 2, 581) := rfl
theorem st_93_2 {d c s c' s' : Nat} {ls t : List Value} {I J : sp_I} {r : mm_R} {a0 : Int32} {y : Nat} {v : Int32} (hl : t.length ≤ 4) (hT : sp_T I y = some (6, 35)) (hq : mm_Rn pg_G d 87 0 [.ref y, .int a0] [] (sp_me I 0 0) (some (.int v), sp_me J c' s')) : mm_Rn pg_G (d + 1) 93 2 ls (.int a0 :: .ref y :: t) (sp_me I c s) r ↔ mm_Rn pg_G (d + 1) 93 5 ls (.int v :: t) (sp_me J (c + c') (s + s')) r := rn_virt (g := sp_me I c s) (st := .int a0 :: .ref y :: t) tb_93_2 (decide_eq_true hT) ⟨Nat.le_add_left _ t.length, hl, rfl⟩ hq r
theorem tb_93_5 : mm_tb pg_G 93 5 = some (.istore_n 2, 0, 0, 0) := rfl
theorem st_93_5 {l0 l1 l2 l3 l4 l5 : Value} {d : Nat} {t : List Value} {g : mm_M} {r : mm_R} {x : Int32} (hc : mm_c1 l1 = true) : mm_Rn pg_G d 93 5 [l0, l1, l2, l3, l4, l5] (.int x :: t) g r ↔ mm_Rn pg_G d 93 6 [l0, l1, .int x, l3, l4, l5] (t) g r := rn_istore_n tb_93_5 (mm_so_of (ls := [l0, l1, l2, l3, l4, l5]) (v := l1) (Nat.le_of_ble_eq_true rfl) rfl hc) r
theorem tb_93_6 : mm_tb pg_G 93 6 = some (.aload_n 0, 0, 0, 0) := rfl
theorem st_93_6 {l1 l2 l3 l4 l5 : Value} {d : Nat} {t : List Value} {g : mm_M} {r : mm_R} {x : Nat} : mm_Rn pg_G d 93 6 [.ref x, l1, l2, l3, l4, l5] (t) g r ↔ mm_Rn pg_G d 93 7 [.ref x, l1, l2, l3, l4, l5] (.ref x :: t) g r := rn_aload_n tb_93_6 rfl r
theorem tb_93_7 : mm_tb pg_G 93 7 = some (.getfield 43, 6, 21, 443) := rfl
theorem st_93_7 {d : Nat} {ls t : List Value} {g : mm_M} {r : mm_R} {x : Nat} (hT : g.1 x = some (6, 35)) : mm_Rn pg_G d 93 7 ls (.ref x :: t) g r ↔ mm_Rn pg_G d 93 10 ls (g.2.1 x 21 :: t) g r := rn_getfield tb_93_7 hT r
theorem tb_93_10 : mm_tb pg_G 93 10 = some (.iload_n 1, 0, 0, 0) := rfl
theorem st_93_10 {l0 l2 l3 l4 l5 : Value} {d : Nat} {t : List Value} {g : mm_M} {r : mm_R} {x : Int32} : mm_Rn pg_G d 93 10 [l0, .int x, l2, l3, l4, l5] (t) g r ↔ mm_Rn pg_G d 93 11 [l0, .int x, l2, l3, l4, l5] (.int x :: t) g r := rn_iload_n tb_93_10 rfl r
theorem tb_93_11 : mm_tb pg_G 93 11 = some (.dup2, 0, 0, 0) := rfl
theorem st_93_11 {d : Nat} {ls t : List Value} {g : mm_M} {r : mm_R} {v u : Value} (hc : mm_c1 v = true) (hc2 : mm_c1 u = true) : mm_Rn pg_G d 93 11 ls (v :: u :: t) g r ↔ mm_Rn pg_G d 93 12 ls (v :: u :: v :: u :: t) g r := rn_dup2 tb_93_11 hc hc2 r
theorem tb_93_12 : mm_tb pg_G 93 12 = some (.iaload, 0, 0, 0) := rfl
theorem st_93_12 {d : Nat} {ls t : List Value} {g : mm_M} {r : mm_R} {x : Nat} {j : Int32} (hc : mm_in (g.1 x) 100 101 j = true) : mm_Rn pg_G d 93 12 ls (.int j :: .ref x :: t) g r ↔ mm_Rn pg_G d 93 13 ls (g.2.1 x j.toNatClampNeg :: t) g r := rn_iaload tb_93_12 hc r
theorem tb_93_13 : mm_tb pg_G 93 13 = some (.iconst 1, 0, 0, 0) := rfl
theorem st_93_13 {d : Nat} {ls t : List Value} {g : mm_M} {r : mm_R} : mm_Rn pg_G d 93 13 ls (t) g r ↔ mm_Rn pg_G d 93 14 ls (io_v 1 :: t) g r := rn_iconst tb_93_13 r
theorem tb_93_14 : mm_tb pg_G 93 14 = some (.iadd, 0, 0, 0) := rfl
theorem st_93_14 {d : Nat} {ls t : List Value} {g : mm_M} {r : mm_R} {x y : Int32} : mm_Rn pg_G d 93 14 ls (.int y :: .int x :: t) g r ↔ mm_Rn pg_G d 93 15 ls (.int (x + y) :: t) g r := rn_iadd tb_93_14 r
theorem tb_93_15 : mm_tb pg_G 93 15 = some (.iastore, 0, 0, 0) := rfl
theorem st_93_15 {d : Nat} {ls t : List Value} {g : mm_M} {r : mm_R} {x : Nat} {j v : Int32} (hc : mm_in (g.1 x) 100 100 j = true) : mm_Rn pg_G d 93 15 ls (.int v :: .int j :: .ref x :: t) g r ↔ mm_Rn pg_G d 93 16 ls (t) (mm_wr g x j.toNatClampNeg (.int v)) r := rn_iastore tb_93_15 hc r
theorem tb_93_16 : mm_tb pg_G 93 16 = some (.aload_n 0, 0, 0, 0) := rfl
theorem st_93_16 {l1 l2 l3 l4 l5 : Value} {d : Nat} {t : List Value} {g : mm_M} {r : mm_R} {x : Nat} : mm_Rn pg_G d 93 16 [.ref x, l1, l2, l3, l4, l5] (t) g r ↔ mm_Rn pg_G d 93 17 [.ref x, l1, l2, l3, l4, l5] (.ref x :: t) g r := rn_aload_n tb_93_16 rfl r
theorem tb_93_17 : mm_tb pg_G 93 17 = some (.getfield 43, 6, 21, 443) := rfl
theorem st_93_17 {d : Nat} {ls t : List Value} {g : mm_M} {r : mm_R} {x : Nat} (hT : g.1 x = some (6, 35)) : mm_Rn pg_G d 93 17 ls (.ref x :: t) g r ↔ mm_Rn pg_G d 93 20 ls (g.2.1 x 21 :: t) g r := rn_getfield tb_93_17 hT r
theorem tb_93_20 : mm_tb pg_G 93 20 = some (.iload_n 1, 0, 0, 0) := rfl
theorem st_93_20 {l0 l2 l3 l4 l5 : Value} {d : Nat} {t : List Value} {g : mm_M} {r : mm_R} {x : Int32} : mm_Rn pg_G d 93 20 [l0, .int x, l2, l3, l4, l5] (t) g r ↔ mm_Rn pg_G d 93 21 [l0, .int x, l2, l3, l4, l5] (.int x :: t) g r := rn_iload_n tb_93_20 rfl r
theorem tb_93_21 : mm_tb pg_G 93 21 = some (.iaload, 0, 0, 0) := rfl
theorem st_93_21 {d : Nat} {ls t : List Value} {g : mm_M} {r : mm_R} {x : Nat} {j : Int32} (hc : mm_in (g.1 x) 100 101 j = true) : mm_Rn pg_G d 93 21 ls (.int j :: .ref x :: t) g r ↔ mm_Rn pg_G d 93 22 ls (g.2.1 x j.toNatClampNeg :: t) g r := rn_iaload tb_93_21 hc r
theorem tb_93_22 : mm_tb pg_G 93 22 = some (.aload_n 0, 0, 0, 0) := rfl
theorem st_93_22 {l1 l2 l3 l4 l5 : Value} {d : Nat} {t : List Value} {g : mm_M} {r : mm_R} {x : Nat} : mm_Rn pg_G d 93 22 [.ref x, l1, l2, l3, l4, l5] (t) g r ↔ mm_Rn pg_G d 93 23 [.ref x, l1, l2, l3, l4, l5] (.ref x :: t) g r := rn_aload_n tb_93_22 rfl r
theorem tb_93_23 : mm_tb pg_G 93 23 = some (.getfield 40, 6, 20, 442) := rfl
theorem st_93_23 {d : Nat} {ls t : List Value} {g : mm_M} {r : mm_R} {x : Nat} (hT : g.1 x = some (6, 35)) : mm_Rn pg_G d 93 23 ls (.ref x :: t) g r ↔ mm_Rn pg_G d 93 26 ls (g.2.1 x 20 :: t) g r := rn_getfield tb_93_23 hT r
theorem tb_93_26 : mm_tb pg_G 93 26 = some (.iload_n 1, 0, 0, 0) := rfl
theorem st_93_26 {l0 l2 l3 l4 l5 : Value} {d : Nat} {t : List Value} {g : mm_M} {r : mm_R} {x : Int32} : mm_Rn pg_G d 93 26 [l0, .int x, l2, l3, l4, l5] (t) g r ↔ mm_Rn pg_G d 93 27 [l0, .int x, l2, l3, l4, l5] (.int x :: t) g r := rn_iload_n tb_93_26 rfl r
theorem tb_93_27 : mm_tb pg_G 93 27 = some (.iaload, 0, 0, 0) := rfl
theorem st_93_27 {d : Nat} {ls t : List Value} {g : mm_M} {r : mm_R} {x : Nat} {j : Int32} (hc : mm_in (g.1 x) 100 101 j = true) : mm_Rn pg_G d 93 27 ls (.int j :: .ref x :: t) g r ↔ mm_Rn pg_G d 93 28 ls (g.2.1 x j.toNatClampNeg :: t) g r := rn_iaload tb_93_27 hc r
theorem tb_93_28 : mm_tb pg_G 93 28 = some (.if_icmp .ne 7, 35, 0, 0) := rfl
theorem st_93_28 {d : Nat} {ls t : List Value} {g : mm_M} {r : mm_R} {x y : Int32} : mm_Rn pg_G d 93 28 ls (.int y :: .int x :: t) g r ↔ if x = y then mm_Rn pg_G d 93 31 ls (t) g r else mm_Rn pg_G d 93 35 ls (t) g r := rn_icmp_ne tb_93_28 r
theorem tb_93_31 : mm_tb pg_G 93 31 = some (.iconst 1, 0, 0, 0) := rfl
theorem st_93_31 {d : Nat} {ls t : List Value} {g : mm_M} {r : mm_R} : mm_Rn pg_G d 93 31 ls (t) g r ↔ mm_Rn pg_G d 93 32 ls (io_v 1 :: t) g r := rn_iconst tb_93_31 r
theorem tb_93_32 : mm_tb pg_G 93 32 = some (.goto 4, 36, 0, 0) := rfl
theorem st_93_32 {d : Nat} {ls t : List Value} {g : mm_M} {r : mm_R} : mm_Rn pg_G d 93 32 ls (t) g r ↔ mm_Rn pg_G d 93 36 ls (t) g r := rn_goto tb_93_32 r
theorem tb_93_35 : mm_tb pg_G 93 35 = some (.iconst 0, 0, 0, 0) := rfl
theorem st_93_35 {d : Nat} {ls t : List Value} {g : mm_M} {r : mm_R} : mm_Rn pg_G d 93 35 ls (t) g r ↔ mm_Rn pg_G d 93 36 ls (io_v 0 :: t) g r := rn_iconst tb_93_35 r
theorem tb_93_36 : mm_tb pg_G 93 36 = some (.istore_n 3, 0, 0, 0) := rfl
theorem st_93_36 {l0 l1 l2 l3 l4 l5 : Value} {d : Nat} {t : List Value} {g : mm_M} {r : mm_R} {x : Int32} (hc : mm_c1 l2 = true) : mm_Rn pg_G d 93 36 [l0, l1, l2, l3, l4, l5] (.int x :: t) g r ↔ mm_Rn pg_G d 93 37 [l0, l1, l2, .int x, l4, l5] (t) g r := rn_istore_n tb_93_36 (mm_so_of (ls := [l0, l1, l2, l3, l4, l5]) (v := l2) (Nat.le_of_ble_eq_true rfl) rfl hc) r
theorem tb_93_37 : mm_tb pg_G 93 37 = some (.iload_n 3, 0, 0, 0) := rfl
theorem st_93_37 {l0 l1 l2 l4 l5 : Value} {d : Nat} {t : List Value} {g : mm_M} {r : mm_R} {x : Int32} : mm_Rn pg_G d 93 37 [l0, l1, l2, .int x, l4, l5] (t) g r ↔ mm_Rn pg_G d 93 38 [l0, l1, l2, .int x, l4, l5] (.int x :: t) g r := rn_iload_n tb_93_37 rfl r
theorem tb_93_38 : mm_tb pg_G 93 38 = some (.ifCond .eq 10, 48, 0, 0) := rfl
theorem st_93_38 {d : Nat} {ls t : List Value} {g : mm_M} {r : mm_R} {x : Int32} : mm_Rn pg_G d 93 38 ls (.int x :: t) g r ↔ if x = 0 then mm_Rn pg_G d 93 48 ls (t) g r else mm_Rn pg_G d 93 41 ls (t) g r := rn_if_eq tb_93_38 r
theorem tb_93_41 : mm_tb pg_G 93 41 = some (.aload_n 0, 0, 0, 0) := rfl
theorem st_93_41 {l1 l2 l3 l4 l5 : Value} {d : Nat} {t : List Value} {g : mm_M} {r : mm_R} {x : Nat} : mm_Rn pg_G d 93 41 [.ref x, l1, l2, l3, l4, l5] (t) g r ↔ mm_Rn pg_G d 93 42 [.ref x, l1, l2, l3, l4, l5] (.ref x :: t) g r := rn_aload_n tb_93_41 rfl r
theorem tb_93_42 : mm_tb pg_G 93 42 = some (.getfield 34, 6, 18, 440) := rfl
theorem st_93_42 {d : Nat} {ls t : List Value} {g : mm_M} {r : mm_R} {x : Nat} (hT : g.1 x = some (6, 35)) : mm_Rn pg_G d 93 42 ls (.ref x :: t) g r ↔ mm_Rn pg_G d 93 45 ls (g.2.1 x 18 :: t) g r := rn_getfield tb_93_42 hT r
theorem tb_93_45 : mm_tb pg_G 93 45 = some (.iload_n 1, 0, 0, 0) := rfl
theorem st_93_45 {l0 l2 l3 l4 l5 : Value} {d : Nat} {t : List Value} {g : mm_M} {r : mm_R} {x : Int32} : mm_Rn pg_G d 93 45 [l0, .int x, l2, l3, l4, l5] (t) g r ↔ mm_Rn pg_G d 93 46 [l0, .int x, l2, l3, l4, l5] (.int x :: t) g r := rn_iload_n tb_93_45 rfl r
theorem tb_93_46 : mm_tb pg_G 93 46 = some (.iconst 2, 0, 0, 0) := rfl
theorem st_93_46 {d : Nat} {ls t : List Value} {g : mm_M} {r : mm_R} : mm_Rn pg_G d 93 46 ls (t) g r ↔ mm_Rn pg_G d 93 47 ls (io_v 2 :: t) g r := rn_iconst tb_93_46 r
theorem tb_93_47 : mm_tb pg_G 93 47 = some (.iastore, 0, 0, 0) := rfl
theorem st_93_47 {d : Nat} {ls t : List Value} {g : mm_M} {r : mm_R} {x : Nat} {j v : Int32} (hc : mm_in (g.1 x) 100 100 j = true) : mm_Rn pg_G d 93 47 ls (.int v :: .int j :: .ref x :: t) g r ↔ mm_Rn pg_G d 93 48 ls (t) (mm_wr g x j.toNatClampNeg (.int v)) r := rn_iastore tb_93_47 hc r
theorem tb_93_48 : mm_tb pg_G 93 48 = some (.aload_n 0, 0, 0, 0) := rfl
theorem st_93_48 {l1 l2 l3 l4 l5 : Value} {d : Nat} {t : List Value} {g : mm_M} {r : mm_R} {x : Nat} : mm_Rn pg_G d 93 48 [.ref x, l1, l2, l3, l4, l5] (t) g r ↔ mm_Rn pg_G d 93 49 [.ref x, l1, l2, l3, l4, l5] (.ref x :: t) g r := rn_aload_n tb_93_48 rfl r
theorem tb_93_49 : mm_tb pg_G 93 49 = some (.iload_n 1, 0, 0, 0) := rfl
theorem st_93_49 {l0 l2 l3 l4 l5 : Value} {d : Nat} {t : List Value} {g : mm_M} {r : mm_R} {x : Int32} : mm_Rn pg_G d 93 49 [l0, .int x, l2, l3, l4, l5] (t) g r ↔ mm_Rn pg_G d 93 50 [l0, .int x, l2, l3, l4, l5] (.int x :: t) g r := rn_iload_n tb_93_49 rfl r
theorem tb_93_50 : mm_tb pg_G 93 50 = some (.invokevirtual 146, 87, 2, 581) := rfl
theorem st_93_50 {d c s c' s' : Nat} {ls t : List Value} {I J : sp_I} {r : mm_R} {a0 : Int32} {y : Nat} {v : Int32} (hl : t.length ≤ 4) (hT : sp_T I y = some (6, 35)) (hq : mm_Rn pg_G d 87 0 [.ref y, .int a0] [] (sp_me I 0 0) (some (.int v), sp_me J c' s')) : mm_Rn pg_G (d + 1) 93 50 ls (.int a0 :: .ref y :: t) (sp_me I c s) r ↔ mm_Rn pg_G (d + 1) 93 53 ls (.int v :: t) (sp_me J (c + c') (s + s')) r := rn_virt (g := sp_me I c s) (st := .int a0 :: .ref y :: t) tb_93_50 (decide_eq_true hT) ⟨Nat.le_add_left _ t.length, hl, rfl⟩ hq r
theorem tb_93_53 : mm_tb pg_G 93 53 = some (.istore 4, 0, 0, 0) := rfl
theorem st_93_53 {l0 l1 l2 l3 l4 l5 : Value} {d : Nat} {t : List Value} {g : mm_M} {r : mm_R} {x : Int32} (hc : mm_c1 l3 = true) : mm_Rn pg_G d 93 53 [l0, l1, l2, l3, l4, l5] (.int x :: t) g r ↔ mm_Rn pg_G d 93 55 [l0, l1, l2, l3, .int x, l5] (t) g r := rn_istore tb_93_53 (mm_so_of (ls := [l0, l1, l2, l3, l4, l5]) (v := l3) (Nat.le_of_ble_eq_true rfl) rfl hc) r
theorem tb_93_55 : mm_tb pg_G 93 55 = some (.iload_n 2, 0, 0, 0) := rfl
theorem st_93_55 {l0 l1 l3 l4 l5 : Value} {d : Nat} {t : List Value} {g : mm_M} {r : mm_R} {x : Int32} : mm_Rn pg_G d 93 55 [l0, l1, .int x, l3, l4, l5] (t) g r ↔ mm_Rn pg_G d 93 56 [l0, l1, .int x, l3, l4, l5] (.int x :: t) g r := rn_iload_n tb_93_55 rfl r
theorem tb_93_56 : mm_tb pg_G 93 56 = some (.ifCond .ne 28, 84, 0, 0) := rfl
theorem st_93_56 {d : Nat} {ls t : List Value} {g : mm_M} {r : mm_R} {x : Int32} : mm_Rn pg_G d 93 56 ls (.int x :: t) g r ↔ if x = 0 then mm_Rn pg_G d 93 59 ls (t) g r else mm_Rn pg_G d 93 84 ls (t) g r := rn_if_ne tb_93_56 r
theorem tb_93_59 : mm_tb pg_G 93 59 = some (.iload 4, 0, 0, 0) := rfl
theorem st_93_59 {l0 l1 l2 l3 l5 : Value} {d : Nat} {t : List Value} {g : mm_M} {r : mm_R} {x : Int32} : mm_Rn pg_G d 93 59 [l0, l1, l2, l3, .int x, l5] (t) g r ↔ mm_Rn pg_G d 93 61 [l0, l1, l2, l3, .int x, l5] (.int x :: t) g r := rn_iload tb_93_59 rfl r
theorem tb_93_61 : mm_tb pg_G 93 61 = some (.ifCond .eq 23, 84, 0, 0) := rfl
theorem st_93_61 {d : Nat} {ls t : List Value} {g : mm_M} {r : mm_R} {x : Int32} : mm_Rn pg_G d 93 61 ls (.int x :: t) g r ↔ if x = 0 then mm_Rn pg_G d 93 84 ls (t) g r else mm_Rn pg_G d 93 64 ls (t) g r := rn_if_eq tb_93_61 r
theorem tb_93_64 : mm_tb pg_G 93 64 = some (.aload_n 0, 0, 0, 0) := rfl
theorem st_93_64 {l1 l2 l3 l4 l5 : Value} {d : Nat} {t : List Value} {g : mm_M} {r : mm_R} {x : Nat} : mm_Rn pg_G d 93 64 [.ref x, l1, l2, l3, l4, l5] (t) g r ↔ mm_Rn pg_G d 93 65 [.ref x, l1, l2, l3, l4, l5] (.ref x :: t) g r := rn_aload_n tb_93_64 rfl r
theorem tb_93_65 : mm_tb pg_G 93 65 = some (.dup, 0, 0, 0) := rfl
theorem st_93_65 {d : Nat} {ls t : List Value} {g : mm_M} {r : mm_R} {v : Value} (hc : mm_c1 v = true) : mm_Rn pg_G d 93 65 ls (v :: t) g r ↔ mm_Rn pg_G d 93 66 ls (v :: v :: t) g r := rn_dup tb_93_65 hc r
theorem tb_93_66 : mm_tb pg_G 93 66 = some (.getfield 149, 6, 28, 450) := rfl
theorem st_93_66 {d : Nat} {ls t : List Value} {g : mm_M} {r : mm_R} {x : Nat} (hT : g.1 x = some (6, 35)) : mm_Rn pg_G d 93 66 ls (.ref x :: t) g r ↔ mm_Rn pg_G d 93 69 ls (g.2.1 x 28 :: t) g r := rn_getfield tb_93_66 hT r
theorem tb_93_69 : mm_tb pg_G 93 69 = some (.iconst 1, 0, 0, 0) := rfl
theorem st_93_69 {d : Nat} {ls t : List Value} {g : mm_M} {r : mm_R} : mm_Rn pg_G d 93 69 ls (t) g r ↔ mm_Rn pg_G d 93 70 ls (io_v 1 :: t) g r := rn_iconst tb_93_69 r
theorem tb_93_70 : mm_tb pg_G 93 70 = some (.iadd, 0, 0, 0) := rfl
theorem st_93_70 {d : Nat} {ls t : List Value} {g : mm_M} {r : mm_R} {x y : Int32} : mm_Rn pg_G d 93 70 ls (.int y :: .int x :: t) g r ↔ mm_Rn pg_G d 93 71 ls (.int (x + y) :: t) g r := rn_iadd tb_93_70 r
theorem tb_93_71 : mm_tb pg_G 93 71 = some (.putfield 149, 6, 28, 450) := rfl
theorem st_93_71 {d : Nat} {ls t : List Value} {g : mm_M} {r : mm_R} {x : Nat} {v : Int32} (hT : g.1 x = some (6, 35)) : mm_Rn pg_G d 93 71 ls (.int v :: .ref x :: t) g r ↔ mm_Rn pg_G d 93 74 ls (t) (mm_wr g x 28 (.int v)) r := rn_putfield tb_93_71 hT rfl r
theorem tb_93_74 : mm_tb pg_G 93 74 = some (.aload_n 0, 0, 0, 0) := rfl
theorem st_93_74 {l1 l2 l3 l4 l5 : Value} {d : Nat} {t : List Value} {g : mm_M} {r : mm_R} {x : Nat} : mm_Rn pg_G d 93 74 [.ref x, l1, l2, l3, l4, l5] (t) g r ↔ mm_Rn pg_G d 93 75 [.ref x, l1, l2, l3, l4, l5] (.ref x :: t) g r := rn_aload_n tb_93_74 rfl r
theorem tb_93_75 : mm_tb pg_G 93 75 = some (.getfield 49, 6, 23, 445) := rfl
theorem st_93_75 {d : Nat} {ls t : List Value} {g : mm_M} {r : mm_R} {x : Nat} (hT : g.1 x = some (6, 35)) : mm_Rn pg_G d 93 75 ls (.ref x :: t) g r ↔ mm_Rn pg_G d 93 78 ls (g.2.1 x 23 :: t) g r := rn_getfield tb_93_75 hT r
theorem tb_93_78 : mm_tb pg_G 93 78 = some (.iload_n 1, 0, 0, 0) := rfl
theorem st_93_78 {l0 l2 l3 l4 l5 : Value} {d : Nat} {t : List Value} {g : mm_M} {r : mm_R} {x : Int32} : mm_Rn pg_G d 93 78 [l0, .int x, l2, l3, l4, l5] (t) g r ↔ mm_Rn pg_G d 93 79 [l0, .int x, l2, l3, l4, l5] (.int x :: t) g r := rn_iload_n tb_93_78 rfl r
theorem tb_93_79 : mm_tb pg_G 93 79 = some (.aload_n 0, 0, 0, 0) := rfl
theorem st_93_79 {l1 l2 l3 l4 l5 : Value} {d : Nat} {t : List Value} {g : mm_M} {r : mm_R} {x : Nat} : mm_Rn pg_G d 93 79 [.ref x, l1, l2, l3, l4, l5] (t) g r ↔ mm_Rn pg_G d 93 80 [.ref x, l1, l2, l3, l4, l5] (.ref x :: t) g r := rn_aload_n tb_93_79 rfl r
theorem tb_93_80 : mm_tb pg_G 93 80 = some (.getfield 149, 6, 28, 450) := rfl
theorem st_93_80 {d : Nat} {ls t : List Value} {g : mm_M} {r : mm_R} {x : Nat} (hT : g.1 x = some (6, 35)) : mm_Rn pg_G d 93 80 ls (.ref x :: t) g r ↔ mm_Rn pg_G d 93 83 ls (g.2.1 x 28 :: t) g r := rn_getfield tb_93_80 hT r
theorem tb_93_83 : mm_tb pg_G 93 83 = some (.iastore, 0, 0, 0) := rfl
theorem st_93_83 {d : Nat} {ls t : List Value} {g : mm_M} {r : mm_R} {x : Nat} {j v : Int32} (hc : mm_in (g.1 x) 100 100 j = true) : mm_Rn pg_G d 93 83 ls (.int v :: .int j :: .ref x :: t) g r ↔ mm_Rn pg_G d 93 84 ls (t) (mm_wr g x j.toNatClampNeg (.int v)) r := rn_iastore tb_93_83 hc r
theorem tb_93_84 : mm_tb pg_G 93 84 = some (.iconst 0, 0, 0, 0) := rfl
theorem st_93_84 {d : Nat} {ls t : List Value} {g : mm_M} {r : mm_R} : mm_Rn pg_G d 93 84 ls (t) g r ↔ mm_Rn pg_G d 93 85 ls (io_v 0 :: t) g r := rn_iconst tb_93_84 r
theorem tb_93_85 : mm_tb pg_G 93 85 = some (.istore 5, 0, 0, 0) := rfl
theorem st_93_85 {l0 l1 l2 l3 l4 l5 : Value} {d : Nat} {t : List Value} {g : mm_M} {r : mm_R} {x : Int32} (hc : mm_c1 l4 = true) : mm_Rn pg_G d 93 85 [l0, l1, l2, l3, l4, l5] (.int x :: t) g r ↔ mm_Rn pg_G d 93 87 [l0, l1, l2, l3, l4, .int x] (t) g r := rn_istore tb_93_85 (mm_so_of (ls := [l0, l1, l2, l3, l4, l5]) (v := l4) (Nat.le_of_ble_eq_true rfl) rfl hc) r
theorem tb_93_87 : mm_tb pg_G 93 87 = some (.iload 5, 0, 0, 0) := rfl
theorem st_93_87 {l0 l1 l2 l3 l4 : Value} {d : Nat} {t : List Value} {g : mm_M} {r : mm_R} {x : Int32} : mm_Rn pg_G d 93 87 [l0, l1, l2, l3, l4, .int x] (t) g r ↔ mm_Rn pg_G d 93 89 [l0, l1, l2, l3, l4, .int x] (.int x :: t) g r := rn_iload tb_93_87 rfl r
theorem tb_93_89 : mm_tb pg_G 93 89 = some (.aload_n 0, 0, 0, 0) := rfl
theorem st_93_89 {l1 l2 l3 l4 l5 : Value} {d : Nat} {t : List Value} {g : mm_M} {r : mm_R} {x : Nat} : mm_Rn pg_G d 93 89 [.ref x, l1, l2, l3, l4, l5] (t) g r ↔ mm_Rn pg_G d 93 90 [.ref x, l1, l2, l3, l4, l5] (.ref x :: t) g r := rn_aload_n tb_93_89 rfl r
theorem tb_93_90 : mm_tb pg_G 93 90 = some (.getfield 71, 6, 0, 422) := rfl
theorem st_93_90 {d : Nat} {ls t : List Value} {g : mm_M} {r : mm_R} {x : Nat} (hT : g.1 x = some (6, 35)) : mm_Rn pg_G d 93 90 ls (.ref x :: t) g r ↔ mm_Rn pg_G d 93 93 ls (g.2.1 x 0 :: t) g r := rn_getfield tb_93_90 hT r
theorem tb_93_93 : mm_tb pg_G 93 93 = some (.if_icmp .ge 48, 141, 0, 0) := rfl
theorem st_93_93 {d : Nat} {ls t : List Value} {g : mm_M} {r : mm_R} {x y : Int32} : mm_Rn pg_G d 93 93 ls (.int y :: .int x :: t) g r ↔ if y ≤ x then mm_Rn pg_G d 93 141 ls (t) g r else mm_Rn pg_G d 93 96 ls (t) g r := rn_icmp_ge tb_93_93 r
theorem tb_93_96 : mm_tb pg_G 93 96 = some (.iload 5, 0, 0, 0) := rfl
theorem st_93_96 {l0 l1 l2 l3 l4 : Value} {d : Nat} {t : List Value} {g : mm_M} {r : mm_R} {x : Int32} : mm_Rn pg_G d 93 96 [l0, l1, l2, l3, l4, .int x] (t) g r ↔ mm_Rn pg_G d 93 98 [l0, l1, l2, l3, l4, .int x] (.int x :: t) g r := rn_iload tb_93_96 rfl r
theorem tb_93_98 : mm_tb pg_G 93 98 = some (.iload_n 1, 0, 0, 0) := rfl
theorem st_93_98 {l0 l2 l3 l4 l5 : Value} {d : Nat} {t : List Value} {g : mm_M} {r : mm_R} {x : Int32} : mm_Rn pg_G d 93 98 [l0, .int x, l2, l3, l4, l5] (t) g r ↔ mm_Rn pg_G d 93 99 [l0, .int x, l2, l3, l4, l5] (.int x :: t) g r := rn_iload_n tb_93_98 rfl r
theorem tb_93_99 : mm_tb pg_G 93 99 = some (.if_icmp .eq 36, 135, 0, 0) := rfl
theorem st_93_99 {d : Nat} {ls t : List Value} {g : mm_M} {r : mm_R} {x y : Int32} : mm_Rn pg_G d 93 99 ls (.int y :: .int x :: t) g r ↔ if x = y then mm_Rn pg_G d 93 135 ls (t) g r else mm_Rn pg_G d 93 102 ls (t) g r := rn_icmp_eq tb_93_99 r
theorem tb_93_102 : mm_tb pg_G 93 102 = some (.aload_n 0, 0, 0, 0) := rfl
theorem st_93_102 {l1 l2 l3 l4 l5 : Value} {d : Nat} {t : List Value} {g : mm_M} {r : mm_R} {x : Nat} : mm_Rn pg_G d 93 102 [.ref x, l1, l2, l3, l4, l5] (t) g r ↔ mm_Rn pg_G d 93 103 [.ref x, l1, l2, l3, l4, l5] (.ref x :: t) g r := rn_aload_n tb_93_102 rfl r
theorem tb_93_103 : mm_tb pg_G 93 103 = some (.getfield 34, 6, 18, 440) := rfl
theorem st_93_103 {d : Nat} {ls t : List Value} {g : mm_M} {r : mm_R} {x : Nat} (hT : g.1 x = some (6, 35)) : mm_Rn pg_G d 93 103 ls (.ref x :: t) g r ↔ mm_Rn pg_G d 93 106 ls (g.2.1 x 18 :: t) g r := rn_getfield tb_93_103 hT r
theorem tb_93_106 : mm_tb pg_G 93 106 = some (.iload 5, 0, 0, 0) := rfl
theorem st_93_106 {l0 l1 l2 l3 l4 : Value} {d : Nat} {t : List Value} {g : mm_M} {r : mm_R} {x : Int32} : mm_Rn pg_G d 93 106 [l0, l1, l2, l3, l4, .int x] (t) g r ↔ mm_Rn pg_G d 93 108 [l0, l1, l2, l3, l4, .int x] (.int x :: t) g r := rn_iload tb_93_106 rfl r
theorem tb_93_108 : mm_tb pg_G 93 108 = some (.iaload, 0, 0, 0) := rfl
theorem st_93_108 {d : Nat} {ls t : List Value} {g : mm_M} {r : mm_R} {x : Nat} {j : Int32} (hc : mm_in (g.1 x) 100 101 j = true) : mm_Rn pg_G d 93 108 ls (.int j :: .ref x :: t) g r ↔ mm_Rn pg_G d 93 109 ls (g.2.1 x j.toNatClampNeg :: t) g r := rn_iaload tb_93_108 hc r
theorem tb_93_109 : mm_tb pg_G 93 109 = some (.iconst 1, 0, 0, 0) := rfl
theorem st_93_109 {d : Nat} {ls t : List Value} {g : mm_M} {r : mm_R} : mm_Rn pg_G d 93 109 ls (t) g r ↔ mm_Rn pg_G d 93 110 ls (io_v 1 :: t) g r := rn_iconst tb_93_109 r
theorem tb_93_110 : mm_tb pg_G 93 110 = some (.if_icmp .ne 25, 135, 0, 0) := rfl
theorem st_93_110 {d : Nat} {ls t : List Value} {g : mm_M} {r : mm_R} {x y : Int32} : mm_Rn pg_G d 93 110 ls (.int y :: .int x :: t) g r ↔ if x = y then mm_Rn pg_G d 93 113 ls (t) g r else mm_Rn pg_G d 93 135 ls (t) g r := rn_icmp_ne tb_93_110 r
theorem tb_93_113 : mm_tb pg_G 93 113 = some (.aload_n 0, 0, 0, 0) := rfl
theorem st_93_113 {l1 l2 l3 l4 l5 : Value} {d : Nat} {t : List Value} {g : mm_M} {r : mm_R} {x : Nat} : mm_Rn pg_G d 93 113 [.ref x, l1, l2, l3, l4, l5] (t) g r ↔ mm_Rn pg_G d 93 114 [.ref x, l1, l2, l3, l4, l5] (.ref x :: t) g r := rn_aload_n tb_93_113 rfl r
theorem tb_93_114 : mm_tb pg_G 93 114 = some (.iload 5, 0, 0, 0) := rfl
theorem st_93_114 {l0 l1 l2 l3 l4 : Value} {d : Nat} {t : List Value} {g : mm_M} {r : mm_R} {x : Int32} : mm_Rn pg_G d 93 114 [l0, l1, l2, l3, l4, .int x] (t) g r ↔ mm_Rn pg_G d 93 116 [l0, l1, l2, l3, l4, .int x] (.int x :: t) g r := rn_iload tb_93_114 rfl r
theorem tb_93_116 : mm_tb pg_G 93 116 = some (.iload_n 1, 0, 0, 0) := rfl
theorem st_93_116 {l0 l2 l3 l4 l5 : Value} {d : Nat} {t : List Value} {g : mm_M} {r : mm_R} {x : Int32} : mm_Rn pg_G d 93 116 [l0, .int x, l2, l3, l4, l5] (t) g r ↔ mm_Rn pg_G d 93 117 [l0, .int x, l2, l3, l4, l5] (.int x :: t) g r := rn_iload_n tb_93_116 rfl r
theorem tb_93_117 : mm_tb pg_G 93 117 = some (.invokevirtual 123, 84, 3, 568) := rfl
theorem st_93_117 {d c s c' s' : Nat} {ls t : List Value} {I J : sp_I} {r : mm_R} {a0 a1 : Int32} {y : Nat} {v : Int32} (hl : t.length ≤ 4) (hT : sp_T I y = some (6, 35)) (hq : mm_Rn pg_G d 84 0 [.ref y, .int a0, .int a1, .retAddr 0, .retAddr 0] [] (sp_me I 0 0) (some (.int v), sp_me J c' s')) : mm_Rn pg_G (d + 1) 93 117 ls (.int a1 :: .int a0 :: .ref y :: t) (sp_me I c s) r ↔ mm_Rn pg_G (d + 1) 93 120 ls (.int v :: t) (sp_me J (c + c') (s + s')) r := rn_virt (g := sp_me I c s) (st := .int a1 :: .int a0 :: .ref y :: t) tb_93_117 (decide_eq_true hT) ⟨Nat.le_add_left _ t.length, hl, rfl⟩ hq r
theorem tb_93_120 : mm_tb pg_G 93 120 = some (.ifCond .eq 15, 135, 0, 0) := rfl
theorem st_93_120 {d : Nat} {ls t : List Value} {g : mm_M} {r : mm_R} {x : Int32} : mm_Rn pg_G d 93 120 ls (.int x :: t) g r ↔ if x = 0 then mm_Rn pg_G d 93 135 ls (t) g r else mm_Rn pg_G d 93 123 ls (t) g r := rn_if_eq tb_93_120 r
theorem tb_93_123 : mm_tb pg_G 93 123 = some (.aload_n 0, 0, 0, 0) := rfl
theorem st_93_123 {l1 l2 l3 l4 l5 : Value} {d : Nat} {t : List Value} {g : mm_M} {r : mm_R} {x : Nat} : mm_Rn pg_G d 93 123 [.ref x, l1, l2, l3, l4, l5] (t) g r ↔ mm_Rn pg_G d 93 124 [.ref x, l1, l2, l3, l4, l5] (.ref x :: t) g r := rn_aload_n tb_93_123 rfl r
theorem tb_93_124 : mm_tb pg_G 93 124 = some (.iload 5, 0, 0, 0) := rfl
theorem st_93_124 {l0 l1 l2 l3 l4 : Value} {d : Nat} {t : List Value} {g : mm_M} {r : mm_R} {x : Int32} : mm_Rn pg_G d 93 124 [l0, l1, l2, l3, l4, .int x] (t) g r ↔ mm_Rn pg_G d 93 126 [l0, l1, l2, l3, l4, .int x] (.int x :: t) g r := rn_iload tb_93_124 rfl r
theorem tb_93_126 : mm_tb pg_G 93 126 = some (.aload_n 0, 0, 0, 0) := rfl
theorem st_93_126 {l1 l2 l3 l4 l5 : Value} {d : Nat} {t : List Value} {g : mm_M} {r : mm_R} {x : Nat} : mm_Rn pg_G d 93 126 [.ref x, l1, l2, l3, l4, l5] (t) g r ↔ mm_Rn pg_G d 93 127 [.ref x, l1, l2, l3, l4, l5] (.ref x :: t) g r := rn_aload_n tb_93_126 rfl r
theorem tb_93_127 : mm_tb pg_G 93 127 = some (.getfield 49, 6, 23, 445) := rfl
theorem st_93_127 {d : Nat} {ls t : List Value} {g : mm_M} {r : mm_R} {x : Nat} (hT : g.1 x = some (6, 35)) : mm_Rn pg_G d 93 127 ls (.ref x :: t) g r ↔ mm_Rn pg_G d 93 130 ls (g.2.1 x 23 :: t) g r := rn_getfield tb_93_127 hT r
theorem tb_93_130 : mm_tb pg_G 93 130 = some (.iload_n 1, 0, 0, 0) := rfl
theorem st_93_130 {l0 l2 l3 l4 l5 : Value} {d : Nat} {t : List Value} {g : mm_M} {r : mm_R} {x : Int32} : mm_Rn pg_G d 93 130 [l0, .int x, l2, l3, l4, l5] (t) g r ↔ mm_Rn pg_G d 93 131 [l0, .int x, l2, l3, l4, l5] (.int x :: t) g r := rn_iload_n tb_93_130 rfl r
theorem tb_93_131 : mm_tb pg_G 93 131 = some (.iaload, 0, 0, 0) := rfl
theorem st_93_131 {d : Nat} {ls t : List Value} {g : mm_M} {r : mm_R} {x : Nat} {j : Int32} (hc : mm_in (g.1 x) 100 101 j = true) : mm_Rn pg_G d 93 131 ls (.int j :: .ref x :: t) g r ↔ mm_Rn pg_G d 93 132 ls (g.2.1 x j.toNatClampNeg :: t) g r := rn_iaload tb_93_131 hc r
theorem tb_93_132 : mm_tb pg_G 93 132 = some (.invokevirtual 152, 92, 3, 584) := rfl
theorem st_93_132 {d c s c' s' : Nat} {ls t : List Value} {I J : sp_I} {r : mm_R} {a0 a1 : Int32} {y : Nat} (hl : t.length ≤ 4) (hT : sp_T I y = some (6, 35)) (hq : mm_Rn pg_G d 92 0 [.ref y, .int a0, .int a1, .retAddr 0] [] (sp_me I 0 0) (none, sp_me J c' s')) : mm_Rn pg_G (d + 1) 93 132 ls (.int a1 :: .int a0 :: .ref y :: t) (sp_me I c s) r ↔ mm_Rn pg_G (d + 1) 93 135 ls (t) (sp_me J (c + c') (s + s')) r := rn_virt (g := sp_me I c s) (st := .int a1 :: .int a0 :: .ref y :: t) tb_93_132 (decide_eq_true hT) ⟨Nat.le_add_left _ t.length, hl, rfl⟩ hq r
theorem tb_93_135 : mm_tb pg_G 93 135 = some (.iinc 5 1, 0, 0, 0) := rfl
theorem st_93_135 {l0 l1 l2 l3 l4 : Value} {d : Nat} {t : List Value} {g : mm_M} {r : mm_R} {x : Int32} (hc : mm_c1 l4 = true) : mm_Rn pg_G d 93 135 [l0, l1, l2, l3, l4, .int x] (t) g r ↔ mm_Rn pg_G d 93 138 [l0, l1, l2, l3, l4, .int (x + Int32.ofInt 1)] (t) g r := rn_iinc tb_93_135 rfl (mm_so_of (ls := [l0, l1, l2, l3, l4, .int x]) (v := l4) (Nat.le_of_ble_eq_true rfl) rfl hc) r
theorem tb_93_138 : mm_tb pg_G 93 138 = some (.goto (-51), 87, 0, 0) := rfl
theorem st_93_138 {d : Nat} {ls t : List Value} {g : mm_M} {r : mm_R} : mm_Rn pg_G d 93 138 ls (t) g r ↔ mm_Rn pg_G d 93 87 ls (t) g r := rn_goto tb_93_138 r
theorem tb_93_141 : mm_tb pg_G 93 141 = some (.iload 4, 0, 0, 0) := rfl
theorem st_93_141 {l0 l1 l2 l3 l5 : Value} {d : Nat} {t : List Value} {g : mm_M} {r : mm_R} {x : Int32} : mm_Rn pg_G d 93 141 [l0, l1, l2, l3, .int x, l5] (t) g r ↔ mm_Rn pg_G d 93 143 [l0, l1, l2, l3, .int x, l5] (.int x :: t) g r := rn_iload tb_93_141 rfl r
theorem tb_93_143 : mm_tb pg_G 93 143 = some (.ifCond .ne 10, 153, 0, 0) := rfl
theorem st_93_143 {d : Nat} {ls t : List Value} {g : mm_M} {r : mm_R} {x : Int32} : mm_Rn pg_G d 93 143 ls (.int x :: t) g r ↔ if x = 0 then mm_Rn pg_G d 93 146 ls (t) g r else mm_Rn pg_G d 93 153 ls (t) g r := rn_if_ne tb_93_143 r
theorem tb_93_146 : mm_tb pg_G 93 146 = some (.aload_n 0, 0, 0, 0) := rfl
theorem st_93_146 {l1 l2 l3 l4 l5 : Value} {d : Nat} {t : List Value} {g : mm_M} {r : mm_R} {x : Nat} : mm_Rn pg_G d 93 146 [.ref x, l1, l2, l3, l4, l5] (t) g r ↔ mm_Rn pg_G d 93 147 [.ref x, l1, l2, l3, l4, l5] (.ref x :: t) g r := rn_aload_n tb_93_146 rfl r
theorem tb_93_147 : mm_tb pg_G 93 147 = some (.getfield 49, 6, 23, 445) := rfl
theorem st_93_147 {d : Nat} {ls t : List Value} {g : mm_M} {r : mm_R} {x : Nat} (hT : g.1 x = some (6, 35)) : mm_Rn pg_G d 93 147 ls (.ref x :: t) g r ↔ mm_Rn pg_G d 93 150 ls (g.2.1 x 23 :: t) g r := rn_getfield tb_93_147 hT r
theorem tb_93_150 : mm_tb pg_G 93 150 = some (.iload_n 1, 0, 0, 0) := rfl
theorem st_93_150 {l0 l2 l3 l4 l5 : Value} {d : Nat} {t : List Value} {g : mm_M} {r : mm_R} {x : Int32} : mm_Rn pg_G d 93 150 [l0, .int x, l2, l3, l4, l5] (t) g r ↔ mm_Rn pg_G d 93 151 [l0, .int x, l2, l3, l4, l5] (.int x :: t) g r := rn_iload_n tb_93_150 rfl r
theorem tb_93_151 : mm_tb pg_G 93 151 = some (.iconst 0, 0, 0, 0) := rfl
theorem st_93_151 {d : Nat} {ls t : List Value} {g : mm_M} {r : mm_R} : mm_Rn pg_G d 93 151 ls (t) g r ↔ mm_Rn pg_G d 93 152 ls (io_v 0 :: t) g r := rn_iconst tb_93_151 r
theorem tb_93_152 : mm_tb pg_G 93 152 = some (.iastore, 0, 0, 0) := rfl
theorem st_93_152 {d : Nat} {ls t : List Value} {g : mm_M} {r : mm_R} {x : Nat} {j v : Int32} (hc : mm_in (g.1 x) 100 100 j = true) : mm_Rn pg_G d 93 152 ls (.int v :: .int j :: .ref x :: t) g r ↔ mm_Rn pg_G d 93 153 ls (t) (mm_wr g x j.toNatClampNeg (.int v)) r := rn_iastore tb_93_152 hc r
theorem tb_93_153 : mm_tb pg_G 93 153 = some (.iload_n 3, 0, 0, 0) := rfl
theorem st_93_153 {l0 l1 l2 l4 l5 : Value} {d : Nat} {t : List Value} {g : mm_M} {r : mm_R} {x : Int32} : mm_Rn pg_G d 93 153 [l0, l1, l2, .int x, l4, l5] (t) g r ↔ mm_Rn pg_G d 93 154 [l0, l1, l2, .int x, l4, l5] (.int x :: t) g r := rn_iload_n tb_93_153 rfl r
theorem tb_93_154 : mm_tb pg_G 93 154 = some (.ifCond .ne 5, 159, 0, 0) := rfl
theorem st_93_154 {d : Nat} {ls t : List Value} {g : mm_M} {r : mm_R} {x : Int32} : mm_Rn pg_G d 93 154 ls (.int x :: t) g r ↔ if x = 0 then mm_Rn pg_G d 93 157 ls (t) g r else mm_Rn pg_G d 93 159 ls (t) g r := rn_if_ne tb_93_154 r
theorem tb_93_157 : mm_tb pg_G 93 157 = some (.iconst 0, 0, 0, 0) := rfl
theorem st_93_157 {d : Nat} {ls t : List Value} {g : mm_M} {r : mm_R} : mm_Rn pg_G d 93 157 ls (t) g r ↔ mm_Rn pg_G d 93 158 ls (io_v 0 :: t) g r := rn_iconst tb_93_157 r
theorem tb_93_158 : mm_tb pg_G 93 158 = some (.ireturn, 0, 0, 0) := rfl
theorem st_93_158 {d : Nat} {ls : List Value} {g : mm_M} {r : mm_R} {x : Int32} : mm_Rn pg_G d 93 158 ls [.int x] g r ↔ r = (some (.int x), g) := rn_ireturn_iff tb_93_158 (Or.inl rfl) r
theorem tb_93_159 : mm_tb pg_G 93 159 = some (.aload_n 0, 0, 0, 0) := rfl
theorem st_93_159 {l1 l2 l3 l4 l5 : Value} {d : Nat} {t : List Value} {g : mm_M} {r : mm_R} {x : Nat} : mm_Rn pg_G d 93 159 [.ref x, l1, l2, l3, l4, l5] (t) g r ↔ mm_Rn pg_G d 93 160 [.ref x, l1, l2, l3, l4, l5] (.ref x :: t) g r := rn_aload_n tb_93_159 rfl r
theorem tb_93_160 : mm_tb pg_G 93 160 = some (.dup, 0, 0, 0) := rfl
theorem st_93_160 {d : Nat} {ls t : List Value} {g : mm_M} {r : mm_R} {v : Value} (hc : mm_c1 v = true) : mm_Rn pg_G d 93 160 ls (v :: t) g r ↔ mm_Rn pg_G d 93 161 ls (v :: v :: t) g r := rn_dup tb_93_160 hc r
theorem tb_93_161 : mm_tb pg_G 93 161 = some (.getfield 156, 6, 30, 452) := rfl
theorem st_93_161 {d : Nat} {ls t : List Value} {g : mm_M} {r : mm_R} {x : Nat} (hT : g.1 x = some (6, 35)) : mm_Rn pg_G d 93 161 ls (.ref x :: t) g r ↔ mm_Rn pg_G d 93 164 ls (g.2.1 x 30 :: t) g r := rn_getfield tb_93_161 hT r
theorem tb_93_164 : mm_tb pg_G 93 164 = some (.iconst 1, 0, 0, 0) := rfl
theorem st_93_164 {d : Nat} {ls t : List Value} {g : mm_M} {r : mm_R} : mm_Rn pg_G d 93 164 ls (t) g r ↔ mm_Rn pg_G d 93 165 ls (io_v 1 :: t) g r := rn_iconst tb_93_164 r
theorem tb_93_165 : mm_tb pg_G 93 165 = some (.iadd, 0, 0, 0) := rfl
theorem st_93_165 {d : Nat} {ls t : List Value} {g : mm_M} {r : mm_R} {x y : Int32} : mm_Rn pg_G d 93 165 ls (.int y :: .int x :: t) g r ↔ mm_Rn pg_G d 93 166 ls (.int (x + y) :: t) g r := rn_iadd tb_93_165 r
theorem tb_93_166 : mm_tb pg_G 93 166 = some (.putfield 156, 6, 30, 452) := rfl
theorem st_93_166 {d : Nat} {ls t : List Value} {g : mm_M} {r : mm_R} {x : Nat} {v : Int32} (hT : g.1 x = some (6, 35)) : mm_Rn pg_G d 93 166 ls (.int v :: .ref x :: t) g r ↔ mm_Rn pg_G d 93 169 ls (t) (mm_wr g x 30 (.int v)) r := rn_putfield tb_93_166 hT rfl r
theorem tb_93_169 : mm_tb pg_G 93 169 = some (.aload_n 0, 0, 0, 0) := rfl
theorem st_93_169 {l1 l2 l3 l4 l5 : Value} {d : Nat} {t : List Value} {g : mm_M} {r : mm_R} {x : Nat} : mm_Rn pg_G d 93 169 [.ref x, l1, l2, l3, l4, l5] (t) g r ↔ mm_Rn pg_G d 93 170 [.ref x, l1, l2, l3, l4, l5] (.ref x :: t) g r := rn_aload_n tb_93_169 rfl r
theorem tb_93_170 : mm_tb pg_G 93 170 = some (.getfield 105, 6, 9, 431) := rfl
theorem st_93_170 {d : Nat} {ls t : List Value} {g : mm_M} {r : mm_R} {x : Nat} (hT : g.1 x = some (6, 35)) : mm_Rn pg_G d 93 170 ls (.ref x :: t) g r ↔ mm_Rn pg_G d 93 173 ls (g.2.1 x 9 :: t) g r := rn_getfield tb_93_170 hT r
theorem tb_93_173 : mm_tb pg_G 93 173 = some (.iconst 1, 0, 0, 0) := rfl
theorem st_93_173 {d : Nat} {ls t : List Value} {g : mm_M} {r : mm_R} : mm_Rn pg_G d 93 173 ls (t) g r ↔ mm_Rn pg_G d 93 174 ls (io_v 1 :: t) g r := rn_iconst tb_93_173 r
theorem tb_93_174 : mm_tb pg_G 93 174 = some (.iadd, 0, 0, 0) := rfl
theorem st_93_174 {d : Nat} {ls t : List Value} {g : mm_M} {r : mm_R} {x y : Int32} : mm_Rn pg_G d 93 174 ls (.int y :: .int x :: t) g r ↔ mm_Rn pg_G d 93 175 ls (.int (x + y) :: t) g r := rn_iadd tb_93_174 r
theorem tb_93_175 : mm_tb pg_G 93 175 = some (.aload_n 0, 0, 0, 0) := rfl
theorem st_93_175 {l1 l2 l3 l4 l5 : Value} {d : Nat} {t : List Value} {g : mm_M} {r : mm_R} {x : Nat} : mm_Rn pg_G d 93 175 [.ref x, l1, l2, l3, l4, l5] (t) g r ↔ mm_Rn pg_G d 93 176 [.ref x, l1, l2, l3, l4, l5] (.ref x :: t) g r := rn_aload_n tb_93_175 rfl r
theorem tb_93_176 : mm_tb pg_G 93 176 = some (.getfield 37, 6, 19, 441) := rfl
theorem st_93_176 {d : Nat} {ls t : List Value} {g : mm_M} {r : mm_R} {x : Nat} (hT : g.1 x = some (6, 35)) : mm_Rn pg_G d 93 176 ls (.ref x :: t) g r ↔ mm_Rn pg_G d 93 179 ls (g.2.1 x 19 :: t) g r := rn_getfield tb_93_176 hT r
theorem tb_93_179 : mm_tb pg_G 93 179 = some (.iload_n 1, 0, 0, 0) := rfl
theorem st_93_179 {l0 l2 l3 l4 l5 : Value} {d : Nat} {t : List Value} {g : mm_M} {r : mm_R} {x : Int32} : mm_Rn pg_G d 93 179 [l0, .int x, l2, l3, l4, l5] (t) g r ↔ mm_Rn pg_G d 93 180 [l0, .int x, l2, l3, l4, l5] (.int x :: t) g r := rn_iload_n tb_93_179 rfl r
theorem tb_93_180 : mm_tb pg_G 93 180 = some (.iaload, 0, 0, 0) := rfl
theorem st_93_180 {d : Nat} {ls t : List Value} {g : mm_M} {r : mm_R} {x : Nat} {j : Int32} (hc : mm_in (g.1 x) 100 101 j = true) : mm_Rn pg_G d 93 180 ls (.int j :: .ref x :: t) g r ↔ mm_Rn pg_G d 93 181 ls (g.2.1 x j.toNatClampNeg :: t) g r := rn_iaload tb_93_180 hc r
theorem tb_93_181 : mm_tb pg_G 93 181 = some (.isub, 0, 0, 0) := rfl
theorem st_93_181 {d : Nat} {ls t : List Value} {g : mm_M} {r : mm_R} {x y : Int32} : mm_Rn pg_G d 93 181 ls (.int y :: .int x :: t) g r ↔ mm_Rn pg_G d 93 182 ls (.int (x - y) :: t) g r := rn_isub tb_93_181 r
theorem tb_93_182 : mm_tb pg_G 93 182 = some (.istore 5, 0, 0, 0) := rfl
theorem st_93_182 {l0 l1 l2 l3 l4 l5 : Value} {d : Nat} {t : List Value} {g : mm_M} {r : mm_R} {x : Int32} (hc : mm_c1 l4 = true) : mm_Rn pg_G d 93 182 [l0, l1, l2, l3, l4, l5] (.int x :: t) g r ↔ mm_Rn pg_G d 93 184 [l0, l1, l2, l3, l4, .int x] (t) g r := rn_istore tb_93_182 (mm_so_of (ls := [l0, l1, l2, l3, l4, l5]) (v := l4) (Nat.le_of_ble_eq_true rfl) rfl hc) r
theorem tb_93_184 : mm_tb pg_G 93 184 = some (.iload 5, 0, 0, 0) := rfl
theorem st_93_184 {l0 l1 l2 l3 l4 : Value} {d : Nat} {t : List Value} {g : mm_M} {r : mm_R} {x : Int32} : mm_Rn pg_G d 93 184 [l0, l1, l2, l3, l4, .int x] (t) g r ↔ mm_Rn pg_G d 93 186 [l0, l1, l2, l3, l4, .int x] (.int x :: t) g r := rn_iload tb_93_184 rfl r
theorem tb_93_186 : mm_tb pg_G 93 186 = some (.aload_n 0, 0, 0, 0) := rfl
theorem st_93_186 {l1 l2 l3 l4 l5 : Value} {d : Nat} {t : List Value} {g : mm_M} {r : mm_R} {x : Nat} : mm_Rn pg_G d 93 186 [.ref x, l1, l2, l3, l4, l5] (t) g r ↔ mm_Rn pg_G d 93 187 [.ref x, l1, l2, l3, l4, l5] (.ref x :: t) g r := rn_aload_n tb_93_186 rfl r
theorem tb_93_187 : mm_tb pg_G 93 187 = some (.getfield 61, 6, 27, 449) := rfl
theorem st_93_187 {d : Nat} {ls t : List Value} {g : mm_M} {r : mm_R} {x : Nat} (hT : g.1 x = some (6, 35)) : mm_Rn pg_G d 93 187 ls (.ref x :: t) g r ↔ mm_Rn pg_G d 93 190 ls (g.2.1 x 27 :: t) g r := rn_getfield tb_93_187 hT r
theorem tb_93_190 : mm_tb pg_G 93 190 = some (.iload_n 1, 0, 0, 0) := rfl
theorem st_93_190 {l0 l2 l3 l4 l5 : Value} {d : Nat} {t : List Value} {g : mm_M} {r : mm_R} {x : Int32} : mm_Rn pg_G d 93 190 [l0, .int x, l2, l3, l4, l5] (t) g r ↔ mm_Rn pg_G d 93 191 [l0, .int x, l2, l3, l4, l5] (.int x :: t) g r := rn_iload_n tb_93_190 rfl r
theorem tb_93_191 : mm_tb pg_G 93 191 = some (.iaload, 0, 0, 0) := rfl
theorem st_93_191 {d : Nat} {ls t : List Value} {g : mm_M} {r : mm_R} {x : Nat} {j : Int32} (hc : mm_in (g.1 x) 100 101 j = true) : mm_Rn pg_G d 93 191 ls (.int j :: .ref x :: t) g r ↔ mm_Rn pg_G d 93 192 ls (g.2.1 x j.toNatClampNeg :: t) g r := rn_iaload tb_93_191 hc r
theorem tb_93_192 : mm_tb pg_G 93 192 = some (.if_icmp .le 11, 203, 0, 0) := rfl
theorem st_93_192 {d : Nat} {ls t : List Value} {g : mm_M} {r : mm_R} {x y : Int32} : mm_Rn pg_G d 93 192 ls (.int y :: .int x :: t) g r ↔ if x ≤ y then mm_Rn pg_G d 93 203 ls (t) g r else mm_Rn pg_G d 93 195 ls (t) g r := rn_icmp_le tb_93_192 r
theorem tb_93_195 : mm_tb pg_G 93 195 = some (.aload_n 0, 0, 0, 0) := rfl
theorem st_93_195 {l1 l2 l3 l4 l5 : Value} {d : Nat} {t : List Value} {g : mm_M} {r : mm_R} {x : Nat} : mm_Rn pg_G d 93 195 [.ref x, l1, l2, l3, l4, l5] (t) g r ↔ mm_Rn pg_G d 93 196 [.ref x, l1, l2, l3, l4, l5] (.ref x :: t) g r := rn_aload_n tb_93_195 rfl r
theorem tb_93_196 : mm_tb pg_G 93 196 = some (.getfield 61, 6, 27, 449) := rfl
theorem st_93_196 {d : Nat} {ls t : List Value} {g : mm_M} {r : mm_R} {x : Nat} (hT : g.1 x = some (6, 35)) : mm_Rn pg_G d 93 196 ls (.ref x :: t) g r ↔ mm_Rn pg_G d 93 199 ls (g.2.1 x 27 :: t) g r := rn_getfield tb_93_196 hT r
theorem tb_93_199 : mm_tb pg_G 93 199 = some (.iload_n 1, 0, 0, 0) := rfl
theorem st_93_199 {l0 l2 l3 l4 l5 : Value} {d : Nat} {t : List Value} {g : mm_M} {r : mm_R} {x : Int32} : mm_Rn pg_G d 93 199 [l0, .int x, l2, l3, l4, l5] (t) g r ↔ mm_Rn pg_G d 93 200 [l0, .int x, l2, l3, l4, l5] (.int x :: t) g r := rn_iload_n tb_93_199 rfl r
theorem tb_93_200 : mm_tb pg_G 93 200 = some (.iload 5, 0, 0, 0) := rfl
theorem st_93_200 {l0 l1 l2 l3 l4 : Value} {d : Nat} {t : List Value} {g : mm_M} {r : mm_R} {x : Int32} : mm_Rn pg_G d 93 200 [l0, l1, l2, l3, l4, .int x] (t) g r ↔ mm_Rn pg_G d 93 202 [l0, l1, l2, l3, l4, .int x] (.int x :: t) g r := rn_iload tb_93_200 rfl r
theorem tb_93_202 : mm_tb pg_G 93 202 = some (.iastore, 0, 0, 0) := rfl
theorem st_93_202 {d : Nat} {ls t : List Value} {g : mm_M} {r : mm_R} {x : Nat} {j v : Int32} (hc : mm_in (g.1 x) 100 100 j = true) : mm_Rn pg_G d 93 202 ls (.int v :: .int j :: .ref x :: t) g r ↔ mm_Rn pg_G d 93 203 ls (t) (mm_wr g x j.toNatClampNeg (.int v)) r := rn_iastore tb_93_202 hc r
theorem tb_93_203 : mm_tb pg_G 93 203 = some (.iconst 1, 0, 0, 0) := rfl
theorem st_93_203 {d : Nat} {ls t : List Value} {g : mm_M} {r : mm_R} : mm_Rn pg_G d 93 203 ls (t) g r ↔ mm_Rn pg_G d 93 204 ls (io_v 1 :: t) g r := rn_iconst tb_93_203 r
theorem tb_93_204 : mm_tb pg_G 93 204 = some (.ireturn, 0, 0, 0) := rfl
theorem st_93_204 {d : Nat} {ls : List Value} {g : mm_M} {r : mm_R} {x : Int32} : mm_Rn pg_G d 93 204 ls [.int x] g r ↔ r = (some (.int x), g) := rn_ireturn_iff tb_93_204 (Or.inl rfl) r
theorem tb_94_0 : mm_tb pg_G 94 0 = some (.aload_n 0, 0, 0, 0) := rfl
theorem st_94_0 {l1 l2 l3 l4 : Value} {d : Nat} {t : List Value} {g : mm_M} {r : mm_R} {x : Nat} : mm_Rn pg_G d 94 0 [.ref x, l1, l2, l3, l4] (t) g r ↔ mm_Rn pg_G d 94 1 [.ref x, l1, l2, l3, l4] (.ref x :: t) g r := rn_aload_n tb_94_0 rfl r
theorem tb_94_1 : mm_tb pg_G 94 1 = some (.invokevirtual 159, 90, 1, 559) := rfl
theorem st_94_1 {d c s c' s' : Nat} {ls t : List Value} {I J : sp_I} {r : mm_R} {y : Nat} {v : Int32} (hl : t.length ≤ 4) (hT : sp_T I y = some (6, 35)) (hq : mm_Rn pg_G d 90 0 [.ref y, .retAddr 0, .retAddr 0, .retAddr 0, .retAddr 0] [] (sp_me I 0 0) (some (.int v), sp_me J c' s')) : mm_Rn pg_G (d + 1) 94 1 ls (.ref y :: t) (sp_me I c s) r ↔ mm_Rn pg_G (d + 1) 94 4 ls (.int v :: t) (sp_me J (c + c') (s + s')) r := rn_virt (g := sp_me I c s) (st := .ref y :: t) tb_94_1 (decide_eq_true hT) ⟨Nat.le_add_left _ t.length, hl, rfl⟩ hq r
theorem tb_94_4 : mm_tb pg_G 94 4 = some (.istore_n 1, 0, 0, 0) := rfl
theorem st_94_4 {l0 l1 l2 l3 l4 : Value} {d : Nat} {t : List Value} {g : mm_M} {r : mm_R} {x : Int32} (hc : mm_c1 l0 = true) : mm_Rn pg_G d 94 4 [l0, l1, l2, l3, l4] (.int x :: t) g r ↔ mm_Rn pg_G d 94 5 [l0, .int x, l2, l3, l4] (t) g r := rn_istore_n tb_94_4 (mm_so_of (ls := [l0, l1, l2, l3, l4]) (v := l0) (Nat.le_of_ble_eq_true rfl) rfl hc) r
theorem tb_94_5 : mm_tb pg_G 94 5 = some (.iload_n 1, 0, 0, 0) := rfl
theorem st_94_5 {l0 l2 l3 l4 : Value} {d : Nat} {t : List Value} {g : mm_M} {r : mm_R} {x : Int32} : mm_Rn pg_G d 94 5 [l0, .int x, l2, l3, l4] (t) g r ↔ mm_Rn pg_G d 94 6 [l0, .int x, l2, l3, l4] (.int x :: t) g r := rn_iload_n tb_94_5 rfl r
theorem tb_94_6 : mm_tb pg_G 94 6 = some (.ifCond .ge 7, 13, 0, 0) := rfl
theorem st_94_6 {d : Nat} {ls t : List Value} {g : mm_M} {r : mm_R} {x : Int32} : mm_Rn pg_G d 94 6 ls (.int x :: t) g r ↔ if 0 ≤ x then mm_Rn pg_G d 94 13 ls (t) g r else mm_Rn pg_G d 94 9 ls (t) g r := rn_if_ge tb_94_6 r
theorem tb_94_9 : mm_tb pg_G 94 9 = some (.iconst 0, 0, 0, 0) := rfl
theorem st_94_9 {d : Nat} {ls t : List Value} {g : mm_M} {r : mm_R} : mm_Rn pg_G d 94 9 ls (t) g r ↔ mm_Rn pg_G d 94 10 ls (io_v 0 :: t) g r := rn_iconst tb_94_9 r
theorem tb_94_10 : mm_tb pg_G 94 10 = some (.goto 21, 31, 0, 0) := rfl
theorem st_94_10 {d : Nat} {ls t : List Value} {g : mm_M} {r : mm_R} : mm_Rn pg_G d 94 10 ls (t) g r ↔ mm_Rn pg_G d 94 31 ls (t) g r := rn_goto tb_94_10 r
theorem tb_94_13 : mm_tb pg_G 94 13 = some (.iload_n 1, 0, 0, 0) := rfl
theorem st_94_13 {l0 l2 l3 l4 : Value} {d : Nat} {t : List Value} {g : mm_M} {r : mm_R} {x : Int32} : mm_Rn pg_G d 94 13 [l0, .int x, l2, l3, l4] (t) g r ↔ mm_Rn pg_G d 94 14 [l0, .int x, l2, l3, l4] (.int x :: t) g r := rn_iload_n tb_94_13 rfl r
theorem tb_94_14 : mm_tb pg_G 94 14 = some (.bipush 6, 0, 0, 0) := rfl
theorem st_94_14 {d : Nat} {ls t : List Value} {g : mm_M} {r : mm_R} : mm_Rn pg_G d 94 14 ls (t) g r ↔ mm_Rn pg_G d 94 16 ls (io_v 6 :: t) g r := rn_bipush tb_94_14 r
theorem tb_94_16 : mm_tb pg_G 94 16 = some (.if_icmp .ne 10, 26, 0, 0) := rfl
theorem st_94_16 {d : Nat} {ls t : List Value} {g : mm_M} {r : mm_R} {x y : Int32} : mm_Rn pg_G d 94 16 ls (.int y :: .int x :: t) g r ↔ if x = y then mm_Rn pg_G d 94 19 ls (t) g r else mm_Rn pg_G d 94 26 ls (t) g r := rn_icmp_ne tb_94_16 r
theorem tb_94_19 : mm_tb pg_G 94 19 = some (.aload_n 0, 0, 0, 0) := rfl
theorem st_94_19 {l1 l2 l3 l4 : Value} {d : Nat} {t : List Value} {g : mm_M} {r : mm_R} {x : Nat} : mm_Rn pg_G d 94 19 [.ref x, l1, l2, l3, l4] (t) g r ↔ mm_Rn pg_G d 94 20 [.ref x, l1, l2, l3, l4] (.ref x :: t) g r := rn_aload_n tb_94_19 rfl r
theorem tb_94_20 : mm_tb pg_G 94 20 = some (.invokevirtual 162, 91, 1, 575) := rfl
theorem st_94_20 {d c s c' s' : Nat} {ls t : List Value} {I J : sp_I} {r : mm_R} {y : Nat} {v : Int32} (hl : t.length ≤ 4) (hT : sp_T I y = some (6, 35)) (hq : mm_Rn pg_G d 91 0 [.ref y, .retAddr 0, .retAddr 0] [] (sp_me I 0 0) (some (.int v), sp_me J c' s')) : mm_Rn pg_G (d + 1) 94 20 ls (.ref y :: t) (sp_me I c s) r ↔ mm_Rn pg_G (d + 1) 94 23 ls (.int v :: t) (sp_me J (c + c') (s + s')) r := rn_virt (g := sp_me I c s) (st := .ref y :: t) tb_94_20 (decide_eq_true hT) ⟨Nat.le_add_left _ t.length, hl, rfl⟩ hq r
theorem tb_94_23 : mm_tb pg_G 94 23 = some (.goto 8, 31, 0, 0) := rfl
theorem st_94_23 {d : Nat} {ls t : List Value} {g : mm_M} {r : mm_R} : mm_Rn pg_G d 94 23 ls (t) g r ↔ mm_Rn pg_G d 94 31 ls (t) g r := rn_goto tb_94_23 r
theorem tb_94_26 : mm_tb pg_G 94 26 = some (.aload_n 0, 0, 0, 0) := rfl
theorem st_94_26 {l1 l2 l3 l4 : Value} {d : Nat} {t : List Value} {g : mm_M} {r : mm_R} {x : Nat} : mm_Rn pg_G d 94 26 [.ref x, l1, l2, l3, l4] (t) g r ↔ mm_Rn pg_G d 94 27 [.ref x, l1, l2, l3, l4] (.ref x :: t) g r := rn_aload_n tb_94_26 rfl r
theorem tb_94_27 : mm_tb pg_G 94 27 = some (.iload_n 1, 0, 0, 0) := rfl
theorem st_94_27 {l0 l2 l3 l4 : Value} {d : Nat} {t : List Value} {g : mm_M} {r : mm_R} {x : Int32} : mm_Rn pg_G d 94 27 [l0, .int x, l2, l3, l4] (t) g r ↔ mm_Rn pg_G d 94 28 [l0, .int x, l2, l3, l4] (.int x :: t) g r := rn_iload_n tb_94_27 rfl r
theorem tb_94_28 : mm_tb pg_G 94 28 = some (.invokevirtual 165, 93, 2, 578) := rfl
theorem st_94_28 {d c s c' s' : Nat} {ls t : List Value} {I J : sp_I} {r : mm_R} {a0 : Int32} {y : Nat} {v : Int32} (hl : t.length ≤ 4) (hT : sp_T I y = some (6, 35)) (hq : mm_Rn pg_G d 93 0 [.ref y, .int a0, .retAddr 0, .retAddr 0, .retAddr 0, .retAddr 0] [] (sp_me I 0 0) (some (.int v), sp_me J c' s')) : mm_Rn pg_G (d + 1) 94 28 ls (.int a0 :: .ref y :: t) (sp_me I c s) r ↔ mm_Rn pg_G (d + 1) 94 31 ls (.int v :: t) (sp_me J (c + c') (s + s')) r := rn_virt (g := sp_me I c s) (st := .int a0 :: .ref y :: t) tb_94_28 (decide_eq_true hT) ⟨Nat.le_add_left _ t.length, hl, rfl⟩ hq r
theorem tb_94_31 : mm_tb pg_G 94 31 = some (.istore_n 2, 0, 0, 0) := rfl
theorem st_94_31 {l0 l1 l2 l3 l4 : Value} {d : Nat} {t : List Value} {g : mm_M} {r : mm_R} {x : Int32} (hc : mm_c1 l1 = true) : mm_Rn pg_G d 94 31 [l0, l1, l2, l3, l4] (.int x :: t) g r ↔ mm_Rn pg_G d 94 32 [l0, l1, .int x, l3, l4] (t) g r := rn_istore_n tb_94_31 (mm_so_of (ls := [l0, l1, l2, l3, l4]) (v := l1) (Nat.le_of_ble_eq_true rfl) rfl hc) r
theorem tb_94_32 : mm_tb pg_G 94 32 = some (.iload_n 1, 0, 0, 0) := rfl
theorem st_94_32 {l0 l2 l3 l4 : Value} {d : Nat} {t : List Value} {g : mm_M} {r : mm_R} {x : Int32} : mm_Rn pg_G d 94 32 [l0, .int x, l2, l3, l4] (t) g r ↔ mm_Rn pg_G d 94 33 [l0, .int x, l2, l3, l4] (.int x :: t) g r := rn_iload_n tb_94_32 rfl r
theorem tb_94_33 : mm_tb pg_G 94 33 = some (.ifCond .ge 7, 40, 0, 0) := rfl
theorem st_94_33 {d : Nat} {ls t : List Value} {g : mm_M} {r : mm_R} {x : Int32} : mm_Rn pg_G d 94 33 ls (.int x :: t) g r ↔ if 0 ≤ x then mm_Rn pg_G d 94 40 ls (t) g r else mm_Rn pg_G d 94 36 ls (t) g r := rn_if_ge tb_94_33 r
theorem tb_94_36 : mm_tb pg_G 94 36 = some (.iconst 0, 0, 0, 0) := rfl
theorem st_94_36 {d : Nat} {ls t : List Value} {g : mm_M} {r : mm_R} : mm_Rn pg_G d 94 36 ls (t) g r ↔ mm_Rn pg_G d 94 37 ls (io_v 0 :: t) g r := rn_iconst tb_94_36 r
theorem tb_94_37 : mm_tb pg_G 94 37 = some (.goto 16, 53, 0, 0) := rfl
theorem st_94_37 {d : Nat} {ls t : List Value} {g : mm_M} {r : mm_R} : mm_Rn pg_G d 94 37 ls (t) g r ↔ mm_Rn pg_G d 94 53 ls (t) g r := rn_goto tb_94_37 r
theorem tb_94_40 : mm_tb pg_G 94 40 = some (.iload_n 1, 0, 0, 0) := rfl
theorem st_94_40 {l0 l2 l3 l4 : Value} {d : Nat} {t : List Value} {g : mm_M} {r : mm_R} {x : Int32} : mm_Rn pg_G d 94 40 [l0, .int x, l2, l3, l4] (t) g r ↔ mm_Rn pg_G d 94 41 [l0, .int x, l2, l3, l4] (.int x :: t) g r := rn_iload_n tb_94_40 rfl r
theorem tb_94_41 : mm_tb pg_G 94 41 = some (.bipush 6, 0, 0, 0) := rfl
theorem st_94_41 {d : Nat} {ls t : List Value} {g : mm_M} {r : mm_R} : mm_Rn pg_G d 94 41 ls (t) g r ↔ mm_Rn pg_G d 94 43 ls (io_v 6 :: t) g r := rn_bipush tb_94_41 r
theorem tb_94_43 : mm_tb pg_G 94 43 = some (.if_icmp .ne 7, 50, 0, 0) := rfl
theorem st_94_43 {d : Nat} {ls t : List Value} {g : mm_M} {r : mm_R} {x y : Int32} : mm_Rn pg_G d 94 43 ls (.int y :: .int x :: t) g r ↔ if x = y then mm_Rn pg_G d 94 46 ls (t) g r else mm_Rn pg_G d 94 50 ls (t) g r := rn_icmp_ne tb_94_43 r
theorem tb_94_46 : mm_tb pg_G 94 46 = some (.iconst 1, 0, 0, 0) := rfl
theorem st_94_46 {d : Nat} {ls t : List Value} {g : mm_M} {r : mm_R} : mm_Rn pg_G d 94 46 ls (t) g r ↔ mm_Rn pg_G d 94 47 ls (io_v 1 :: t) g r := rn_iconst tb_94_46 r
theorem tb_94_47 : mm_tb pg_G 94 47 = some (.goto 6, 53, 0, 0) := rfl
theorem st_94_47 {d : Nat} {ls t : List Value} {g : mm_M} {r : mm_R} : mm_Rn pg_G d 94 47 ls (t) g r ↔ mm_Rn pg_G d 94 53 ls (t) g r := rn_goto tb_94_47 r
theorem tb_94_50 : mm_tb pg_G 94 50 = some (.iconst 2, 0, 0, 0) := rfl
theorem st_94_50 {d : Nat} {ls t : List Value} {g : mm_M} {r : mm_R} : mm_Rn pg_G d 94 50 ls (t) g r ↔ mm_Rn pg_G d 94 51 ls (io_v 2 :: t) g r := rn_iconst tb_94_50 r
theorem tb_94_51 : mm_tb pg_G 94 51 = some (.iload_n 1, 0, 0, 0) := rfl
theorem st_94_51 {l0 l2 l3 l4 : Value} {d : Nat} {t : List Value} {g : mm_M} {r : mm_R} {x : Int32} : mm_Rn pg_G d 94 51 [l0, .int x, l2, l3, l4] (t) g r ↔ mm_Rn pg_G d 94 52 [l0, .int x, l2, l3, l4] (.int x :: t) g r := rn_iload_n tb_94_51 rfl r
theorem tb_94_52 : mm_tb pg_G 94 52 = some (.iadd, 0, 0, 0) := rfl
theorem st_94_52 {d : Nat} {ls t : List Value} {g : mm_M} {r : mm_R} {x y : Int32} : mm_Rn pg_G d 94 52 ls (.int y :: .int x :: t) g r ↔ mm_Rn pg_G d 94 53 ls (.int (x + y) :: t) g r := rn_iadd tb_94_52 r
theorem tb_94_53 : mm_tb pg_G 94 53 = some (.istore_n 3, 0, 0, 0) := rfl
theorem st_94_53 {l0 l1 l2 l3 l4 : Value} {d : Nat} {t : List Value} {g : mm_M} {r : mm_R} {x : Int32} (hc : mm_c1 l2 = true) : mm_Rn pg_G d 94 53 [l0, l1, l2, l3, l4] (.int x :: t) g r ↔ mm_Rn pg_G d 94 54 [l0, l1, l2, .int x, l4] (t) g r := rn_istore_n tb_94_53 (mm_so_of (ls := [l0, l1, l2, l3, l4]) (v := l2) (Nat.le_of_ble_eq_true rfl) rfl hc) r
theorem tb_94_54 : mm_tb pg_G 94 54 = some (.iload_n 1, 0, 0, 0) := rfl
theorem st_94_54 {l0 l2 l3 l4 : Value} {d : Nat} {t : List Value} {g : mm_M} {r : mm_R} {x : Int32} : mm_Rn pg_G d 94 54 [l0, .int x, l2, l3, l4] (t) g r ↔ mm_Rn pg_G d 94 55 [l0, .int x, l2, l3, l4] (.int x :: t) g r := rn_iload_n tb_94_54 rfl r
theorem tb_94_55 : mm_tb pg_G 94 55 = some (.ifCond .ge 13, 68, 0, 0) := rfl
theorem st_94_55 {d : Nat} {ls t : List Value} {g : mm_M} {r : mm_R} {x : Int32} : mm_Rn pg_G d 94 55 ls (.int x :: t) g r ↔ if 0 ≤ x then mm_Rn pg_G d 94 68 ls (t) g r else mm_Rn pg_G d 94 58 ls (t) g r := rn_if_ge tb_94_55 r
theorem tb_94_58 : mm_tb pg_G 94 58 = some (.aload_n 0, 0, 0, 0) := rfl
theorem st_94_58 {l1 l2 l3 l4 : Value} {d : Nat} {t : List Value} {g : mm_M} {r : mm_R} {x : Nat} : mm_Rn pg_G d 94 58 [.ref x, l1, l2, l3, l4] (t) g r ↔ mm_Rn pg_G d 94 59 [.ref x, l1, l2, l3, l4] (.ref x :: t) g r := rn_aload_n tb_94_58 rfl r
theorem tb_94_59 : mm_tb pg_G 94 59 = some (.dup, 0, 0, 0) := rfl
theorem st_94_59 {d : Nat} {ls t : List Value} {g : mm_M} {r : mm_R} {v : Value} (hc : mm_c1 v = true) : mm_Rn pg_G d 94 59 ls (v :: t) g r ↔ mm_Rn pg_G d 94 60 ls (v :: v :: t) g r := rn_dup tb_94_59 hc r
theorem tb_94_60 : mm_tb pg_G 94 60 = some (.getfield 168, 6, 31, 453) := rfl
theorem st_94_60 {d : Nat} {ls t : List Value} {g : mm_M} {r : mm_R} {x : Nat} (hT : g.1 x = some (6, 35)) : mm_Rn pg_G d 94 60 ls (.ref x :: t) g r ↔ mm_Rn pg_G d 94 63 ls (g.2.1 x 31 :: t) g r := rn_getfield tb_94_60 hT r
theorem tb_94_63 : mm_tb pg_G 94 63 = some (.iconst 1, 0, 0, 0) := rfl
theorem st_94_63 {d : Nat} {ls t : List Value} {g : mm_M} {r : mm_R} : mm_Rn pg_G d 94 63 ls (t) g r ↔ mm_Rn pg_G d 94 64 ls (io_v 1 :: t) g r := rn_iconst tb_94_63 r
theorem tb_94_64 : mm_tb pg_G 94 64 = some (.iadd, 0, 0, 0) := rfl
theorem st_94_64 {d : Nat} {ls t : List Value} {g : mm_M} {r : mm_R} {x y : Int32} : mm_Rn pg_G d 94 64 ls (.int y :: .int x :: t) g r ↔ mm_Rn pg_G d 94 65 ls (.int (x + y) :: t) g r := rn_iadd tb_94_64 r
theorem tb_94_65 : mm_tb pg_G 94 65 = some (.putfield 168, 6, 31, 453) := rfl
theorem st_94_65 {d : Nat} {ls t : List Value} {g : mm_M} {r : mm_R} {x : Nat} {v : Int32} (hT : g.1 x = some (6, 35)) : mm_Rn pg_G d 94 65 ls (.int v :: .ref x :: t) g r ↔ mm_Rn pg_G d 94 68 ls (t) (mm_wr g x 31 (.int v)) r := rn_putfield tb_94_65 hT rfl r
theorem tb_94_68 : mm_tb pg_G 94 68 = some (.aload_n 0, 0, 0, 0) := rfl
theorem st_94_68 {l1 l2 l3 l4 : Value} {d : Nat} {t : List Value} {g : mm_M} {r : mm_R} {x : Nat} : mm_Rn pg_G d 94 68 [.ref x, l1, l2, l3, l4] (t) g r ↔ mm_Rn pg_G d 94 69 [.ref x, l1, l2, l3, l4] (.ref x :: t) g r := rn_aload_n tb_94_68 rfl r
theorem tb_94_69 : mm_tb pg_G 94 69 = some (.getfield 171, 6, 33, 455) := rfl
theorem st_94_69 {d : Nat} {ls t : List Value} {g : mm_M} {r : mm_R} {x : Nat} (hT : g.1 x = some (6, 35)) : mm_Rn pg_G d 94 69 ls (.ref x :: t) g r ↔ mm_Rn pg_G d 94 72 ls (g.2.1 x 33 :: t) g r := rn_getfield tb_94_69 hT r
theorem tb_94_72 : mm_tb pg_G 94 72 = some (.ifCond .le 31, 103, 0, 0) := rfl
theorem st_94_72 {d : Nat} {ls t : List Value} {g : mm_M} {r : mm_R} {x : Int32} : mm_Rn pg_G d 94 72 ls (.int x :: t) g r ↔ if x ≤ 0 then mm_Rn pg_G d 94 103 ls (t) g r else mm_Rn pg_G d 94 75 ls (t) g r := rn_if_le tb_94_72 r
theorem tb_94_75 : mm_tb pg_G 94 75 = some (.aload_n 0, 0, 0, 0) := rfl
theorem st_94_75 {l1 l2 l3 l4 : Value} {d : Nat} {t : List Value} {g : mm_M} {r : mm_R} {x : Nat} : mm_Rn pg_G d 94 75 [.ref x, l1, l2, l3, l4] (t) g r ↔ mm_Rn pg_G d 94 76 [.ref x, l1, l2, l3, l4] (.ref x :: t) g r := rn_aload_n tb_94_75 rfl r
theorem tb_94_76 : mm_tb pg_G 94 76 = some (.getfield 64, 6, 34, 456) := rfl
theorem st_94_76 {d : Nat} {ls t : List Value} {g : mm_M} {r : mm_R} {x : Nat} (hT : g.1 x = some (6, 35)) : mm_Rn pg_G d 94 76 ls (.ref x :: t) g r ↔ mm_Rn pg_G d 94 79 ls (g.2.1 x 34 :: t) g r := rn_getfield tb_94_76 hT r
theorem tb_94_79 : mm_tb pg_G 94 79 = some (.aload_n 0, 0, 0, 0) := rfl
theorem st_94_79 {l1 l2 l3 l4 : Value} {d : Nat} {t : List Value} {g : mm_M} {r : mm_R} {x : Nat} : mm_Rn pg_G d 94 79 [.ref x, l1, l2, l3, l4] (t) g r ↔ mm_Rn pg_G d 94 80 [.ref x, l1, l2, l3, l4] (.ref x :: t) g r := rn_aload_n tb_94_79 rfl r
theorem tb_94_80 : mm_tb pg_G 94 80 = some (.getfield 171, 6, 33, 455) := rfl
theorem st_94_80 {d : Nat} {ls t : List Value} {g : mm_M} {r : mm_R} {x : Nat} (hT : g.1 x = some (6, 35)) : mm_Rn pg_G d 94 80 ls (.ref x :: t) g r ↔ mm_Rn pg_G d 94 83 ls (g.2.1 x 33 :: t) g r := rn_getfield tb_94_80 hT r
theorem tb_94_83 : mm_tb pg_G 94 83 = some (.iconst 1, 0, 0, 0) := rfl
theorem st_94_83 {d : Nat} {ls t : List Value} {g : mm_M} {r : mm_R} : mm_Rn pg_G d 94 83 ls (t) g r ↔ mm_Rn pg_G d 94 84 ls (io_v 1 :: t) g r := rn_iconst tb_94_83 r
theorem tb_94_84 : mm_tb pg_G 94 84 = some (.isub, 0, 0, 0) := rfl
theorem st_94_84 {d : Nat} {ls t : List Value} {g : mm_M} {r : mm_R} {x y : Int32} : mm_Rn pg_G d 94 84 ls (.int y :: .int x :: t) g r ↔ mm_Rn pg_G d 94 85 ls (.int (x - y) :: t) g r := rn_isub tb_94_84 r
theorem tb_94_85 : mm_tb pg_G 94 85 = some (.bipush 63, 0, 0, 0) := rfl
theorem st_94_85 {d : Nat} {ls t : List Value} {g : mm_M} {r : mm_R} : mm_Rn pg_G d 94 85 ls (t) g r ↔ mm_Rn pg_G d 94 87 ls (io_v 63 :: t) g r := rn_bipush tb_94_85 r
theorem tb_94_87 : mm_tb pg_G 94 87 = some (.iand, 0, 0, 0) := rfl
theorem st_94_87 {d : Nat} {ls t : List Value} {g : mm_M} {r : mm_R} {x y : Int32} : mm_Rn pg_G d 94 87 ls (.int y :: .int x :: t) g r ↔ mm_Rn pg_G d 94 88 ls (.int (x &&& y) :: t) g r := rn_iand tb_94_87 r
theorem tb_94_88 : mm_tb pg_G 94 88 = some (.iaload, 0, 0, 0) := rfl
theorem st_94_88 {d : Nat} {ls t : List Value} {g : mm_M} {r : mm_R} {x : Nat} {j : Int32} (hc : mm_in (g.1 x) 100 101 j = true) : mm_Rn pg_G d 94 88 ls (.int j :: .ref x :: t) g r ↔ mm_Rn pg_G d 94 89 ls (g.2.1 x j.toNatClampNeg :: t) g r := rn_iaload tb_94_88 hc r
theorem tb_94_89 : mm_tb pg_G 94 89 = some (.iload_n 3, 0, 0, 0) := rfl
theorem st_94_89 {l0 l1 l2 l4 : Value} {d : Nat} {t : List Value} {g : mm_M} {r : mm_R} {x : Int32} : mm_Rn pg_G d 94 89 [l0, l1, l2, .int x, l4] (t) g r ↔ mm_Rn pg_G d 94 90 [l0, l1, l2, .int x, l4] (.int x :: t) g r := rn_iload_n tb_94_89 rfl r
theorem tb_94_90 : mm_tb pg_G 94 90 = some (.if_icmp .eq 13, 103, 0, 0) := rfl
theorem st_94_90 {d : Nat} {ls t : List Value} {g : mm_M} {r : mm_R} {x y : Int32} : mm_Rn pg_G d 94 90 ls (.int y :: .int x :: t) g r ↔ if x = y then mm_Rn pg_G d 94 103 ls (t) g r else mm_Rn pg_G d 94 93 ls (t) g r := rn_icmp_eq tb_94_90 r
theorem tb_94_93 : mm_tb pg_G 94 93 = some (.aload_n 0, 0, 0, 0) := rfl
theorem st_94_93 {l1 l2 l3 l4 : Value} {d : Nat} {t : List Value} {g : mm_M} {r : mm_R} {x : Nat} : mm_Rn pg_G d 94 93 [.ref x, l1, l2, l3, l4] (t) g r ↔ mm_Rn pg_G d 94 94 [.ref x, l1, l2, l3, l4] (.ref x :: t) g r := rn_aload_n tb_94_93 rfl r
theorem tb_94_94 : mm_tb pg_G 94 94 = some (.dup, 0, 0, 0) := rfl
theorem st_94_94 {d : Nat} {ls t : List Value} {g : mm_M} {r : mm_R} {v : Value} (hc : mm_c1 v = true) : mm_Rn pg_G d 94 94 ls (v :: t) g r ↔ mm_Rn pg_G d 94 95 ls (v :: v :: t) g r := rn_dup tb_94_94 hc r
theorem tb_94_95 : mm_tb pg_G 94 95 = some (.getfield 174, 6, 32, 454) := rfl
theorem st_94_95 {d : Nat} {ls t : List Value} {g : mm_M} {r : mm_R} {x : Nat} (hT : g.1 x = some (6, 35)) : mm_Rn pg_G d 94 95 ls (.ref x :: t) g r ↔ mm_Rn pg_G d 94 98 ls (g.2.1 x 32 :: t) g r := rn_getfield tb_94_95 hT r
theorem tb_94_98 : mm_tb pg_G 94 98 = some (.iconst 1, 0, 0, 0) := rfl
theorem st_94_98 {d : Nat} {ls t : List Value} {g : mm_M} {r : mm_R} : mm_Rn pg_G d 94 98 ls (t) g r ↔ mm_Rn pg_G d 94 99 ls (io_v 1 :: t) g r := rn_iconst tb_94_98 r
theorem tb_94_99 : mm_tb pg_G 94 99 = some (.iadd, 0, 0, 0) := rfl
theorem st_94_99 {d : Nat} {ls t : List Value} {g : mm_M} {r : mm_R} {x y : Int32} : mm_Rn pg_G d 94 99 ls (.int y :: .int x :: t) g r ↔ mm_Rn pg_G d 94 100 ls (.int (x + y) :: t) g r := rn_iadd tb_94_99 r
theorem tb_94_100 : mm_tb pg_G 94 100 = some (.putfield 174, 6, 32, 454) := rfl
theorem st_94_100 {d : Nat} {ls t : List Value} {g : mm_M} {r : mm_R} {x : Nat} {v : Int32} (hT : g.1 x = some (6, 35)) : mm_Rn pg_G d 94 100 ls (.int v :: .ref x :: t) g r ↔ mm_Rn pg_G d 94 103 ls (t) (mm_wr g x 32 (.int v)) r := rn_putfield tb_94_100 hT rfl r
theorem tb_94_103 : mm_tb pg_G 94 103 = some (.aload_n 0, 0, 0, 0) := rfl
theorem st_94_103 {l1 l2 l3 l4 : Value} {d : Nat} {t : List Value} {g : mm_M} {r : mm_R} {x : Nat} : mm_Rn pg_G d 94 103 [.ref x, l1, l2, l3, l4] (t) g r ↔ mm_Rn pg_G d 94 104 [.ref x, l1, l2, l3, l4] (.ref x :: t) g r := rn_aload_n tb_94_103 rfl r
theorem tb_94_104 : mm_tb pg_G 94 104 = some (.getfield 64, 6, 34, 456) := rfl
theorem st_94_104 {d : Nat} {ls t : List Value} {g : mm_M} {r : mm_R} {x : Nat} (hT : g.1 x = some (6, 35)) : mm_Rn pg_G d 94 104 ls (.ref x :: t) g r ↔ mm_Rn pg_G d 94 107 ls (g.2.1 x 34 :: t) g r := rn_getfield tb_94_104 hT r
theorem tb_94_107 : mm_tb pg_G 94 107 = some (.aload_n 0, 0, 0, 0) := rfl
theorem st_94_107 {l1 l2 l3 l4 : Value} {d : Nat} {t : List Value} {g : mm_M} {r : mm_R} {x : Nat} : mm_Rn pg_G d 94 107 [.ref x, l1, l2, l3, l4] (t) g r ↔ mm_Rn pg_G d 94 108 [.ref x, l1, l2, l3, l4] (.ref x :: t) g r := rn_aload_n tb_94_107 rfl r
theorem tb_94_108 : mm_tb pg_G 94 108 = some (.getfield 171, 6, 33, 455) := rfl
theorem st_94_108 {d : Nat} {ls t : List Value} {g : mm_M} {r : mm_R} {x : Nat} (hT : g.1 x = some (6, 35)) : mm_Rn pg_G d 94 108 ls (.ref x :: t) g r ↔ mm_Rn pg_G d 94 111 ls (g.2.1 x 33 :: t) g r := rn_getfield tb_94_108 hT r
theorem tb_94_111 : mm_tb pg_G 94 111 = some (.bipush 63, 0, 0, 0) := rfl
theorem st_94_111 {d : Nat} {ls t : List Value} {g : mm_M} {r : mm_R} : mm_Rn pg_G d 94 111 ls (t) g r ↔ mm_Rn pg_G d 94 113 ls (io_v 63 :: t) g r := rn_bipush tb_94_111 r
theorem tb_94_113 : mm_tb pg_G 94 113 = some (.iand, 0, 0, 0) := rfl
theorem st_94_113 {d : Nat} {ls t : List Value} {g : mm_M} {r : mm_R} {x y : Int32} : mm_Rn pg_G d 94 113 ls (.int y :: .int x :: t) g r ↔ mm_Rn pg_G d 94 114 ls (.int (x &&& y) :: t) g r := rn_iand tb_94_113 r
theorem tb_94_114 : mm_tb pg_G 94 114 = some (.iload_n 3, 0, 0, 0) := rfl
theorem st_94_114 {l0 l1 l2 l4 : Value} {d : Nat} {t : List Value} {g : mm_M} {r : mm_R} {x : Int32} : mm_Rn pg_G d 94 114 [l0, l1, l2, .int x, l4] (t) g r ↔ mm_Rn pg_G d 94 115 [l0, l1, l2, .int x, l4] (.int x :: t) g r := rn_iload_n tb_94_114 rfl r
theorem tb_94_115 : mm_tb pg_G 94 115 = some (.iastore, 0, 0, 0) := rfl
theorem st_94_115 {d : Nat} {ls t : List Value} {g : mm_M} {r : mm_R} {x : Nat} {j v : Int32} (hc : mm_in (g.1 x) 100 100 j = true) : mm_Rn pg_G d 94 115 ls (.int v :: .int j :: .ref x :: t) g r ↔ mm_Rn pg_G d 94 116 ls (t) (mm_wr g x j.toNatClampNeg (.int v)) r := rn_iastore tb_94_115 hc r
theorem tb_94_116 : mm_tb pg_G 94 116 = some (.aload_n 0, 0, 0, 0) := rfl
theorem st_94_116 {l1 l2 l3 l4 : Value} {d : Nat} {t : List Value} {g : mm_M} {r : mm_R} {x : Nat} : mm_Rn pg_G d 94 116 [.ref x, l1, l2, l3, l4] (t) g r ↔ mm_Rn pg_G d 94 117 [.ref x, l1, l2, l3, l4] (.ref x :: t) g r := rn_aload_n tb_94_116 rfl r
theorem tb_94_117 : mm_tb pg_G 94 117 = some (.dup, 0, 0, 0) := rfl
theorem st_94_117 {d : Nat} {ls t : List Value} {g : mm_M} {r : mm_R} {v : Value} (hc : mm_c1 v = true) : mm_Rn pg_G d 94 117 ls (v :: t) g r ↔ mm_Rn pg_G d 94 118 ls (v :: v :: t) g r := rn_dup tb_94_117 hc r
theorem tb_94_118 : mm_tb pg_G 94 118 = some (.getfield 171, 6, 33, 455) := rfl
theorem st_94_118 {d : Nat} {ls t : List Value} {g : mm_M} {r : mm_R} {x : Nat} (hT : g.1 x = some (6, 35)) : mm_Rn pg_G d 94 118 ls (.ref x :: t) g r ↔ mm_Rn pg_G d 94 121 ls (g.2.1 x 33 :: t) g r := rn_getfield tb_94_118 hT r
theorem tb_94_121 : mm_tb pg_G 94 121 = some (.iconst 1, 0, 0, 0) := rfl
theorem st_94_121 {d : Nat} {ls t : List Value} {g : mm_M} {r : mm_R} : mm_Rn pg_G d 94 121 ls (t) g r ↔ mm_Rn pg_G d 94 122 ls (io_v 1 :: t) g r := rn_iconst tb_94_121 r
theorem tb_94_122 : mm_tb pg_G 94 122 = some (.iadd, 0, 0, 0) := rfl
theorem st_94_122 {d : Nat} {ls t : List Value} {g : mm_M} {r : mm_R} {x y : Int32} : mm_Rn pg_G d 94 122 ls (.int y :: .int x :: t) g r ↔ mm_Rn pg_G d 94 123 ls (.int (x + y) :: t) g r := rn_iadd tb_94_122 r
theorem tb_94_123 : mm_tb pg_G 94 123 = some (.putfield 171, 6, 33, 455) := rfl
theorem st_94_123 {d : Nat} {ls t : List Value} {g : mm_M} {r : mm_R} {x : Nat} {v : Int32} (hT : g.1 x = some (6, 35)) : mm_Rn pg_G d 94 123 ls (.int v :: .ref x :: t) g r ↔ mm_Rn pg_G d 94 126 ls (t) (mm_wr g x 33 (.int v)) r := rn_putfield tb_94_123 hT rfl r
theorem tb_94_126 : mm_tb pg_G 94 126 = some (.aload_n 0, 0, 0, 0) := rfl
theorem st_94_126 {l1 l2 l3 l4 : Value} {d : Nat} {t : List Value} {g : mm_M} {r : mm_R} {x : Nat} : mm_Rn pg_G d 94 126 [.ref x, l1, l2, l3, l4] (t) g r ↔ mm_Rn pg_G d 94 127 [.ref x, l1, l2, l3, l4] (.ref x :: t) g r := rn_aload_n tb_94_126 rfl r
theorem tb_94_127 : mm_tb pg_G 94 127 = some (.dup, 0, 0, 0) := rfl
theorem st_94_127 {d : Nat} {ls t : List Value} {g : mm_M} {r : mm_R} {v : Value} (hc : mm_c1 v = true) : mm_Rn pg_G d 94 127 ls (v :: t) g r ↔ mm_Rn pg_G d 94 128 ls (v :: v :: t) g r := rn_dup tb_94_127 hc r
theorem tb_94_128 : mm_tb pg_G 94 128 = some (.getfield 105, 6, 9, 431) := rfl
theorem st_94_128 {d : Nat} {ls t : List Value} {g : mm_M} {r : mm_R} {x : Nat} (hT : g.1 x = some (6, 35)) : mm_Rn pg_G d 94 128 ls (.ref x :: t) g r ↔ mm_Rn pg_G d 94 131 ls (g.2.1 x 9 :: t) g r := rn_getfield tb_94_128 hT r
theorem tb_94_131 : mm_tb pg_G 94 131 = some (.iconst 1, 0, 0, 0) := rfl
theorem st_94_131 {d : Nat} {ls t : List Value} {g : mm_M} {r : mm_R} : mm_Rn pg_G d 94 131 ls (t) g r ↔ mm_Rn pg_G d 94 132 ls (io_v 1 :: t) g r := rn_iconst tb_94_131 r
theorem tb_94_132 : mm_tb pg_G 94 132 = some (.iadd, 0, 0, 0) := rfl
theorem st_94_132 {d : Nat} {ls t : List Value} {g : mm_M} {r : mm_R} {x y : Int32} : mm_Rn pg_G d 94 132 ls (.int y :: .int x :: t) g r ↔ mm_Rn pg_G d 94 133 ls (.int (x + y) :: t) g r := rn_iadd tb_94_132 r
theorem tb_94_133 : mm_tb pg_G 94 133 = some (.putfield 105, 6, 9, 431) := rfl
theorem st_94_133 {d : Nat} {ls t : List Value} {g : mm_M} {r : mm_R} {x : Nat} {v : Int32} (hT : g.1 x = some (6, 35)) : mm_Rn pg_G d 94 133 ls (.int v :: .ref x :: t) g r ↔ mm_Rn pg_G d 94 136 ls (t) (mm_wr g x 9 (.int v)) r := rn_putfield tb_94_133 hT rfl r
theorem tb_94_136 : mm_tb pg_G 94 136 = some (.iconst 0, 0, 0, 0) := rfl
theorem st_94_136 {d : Nat} {ls t : List Value} {g : mm_M} {r : mm_R} : mm_Rn pg_G d 94 136 ls (t) g r ↔ mm_Rn pg_G d 94 137 ls (io_v 0 :: t) g r := rn_iconst tb_94_136 r
theorem tb_94_137 : mm_tb pg_G 94 137 = some (.istore 4, 0, 0, 0) := rfl
theorem st_94_137 {l0 l1 l2 l3 l4 : Value} {d : Nat} {t : List Value} {g : mm_M} {r : mm_R} {x : Int32} (hc : mm_c1 l3 = true) : mm_Rn pg_G d 94 137 [l0, l1, l2, l3, l4] (.int x :: t) g r ↔ mm_Rn pg_G d 94 139 [l0, l1, l2, l3, .int x] (t) g r := rn_istore tb_94_137 (mm_so_of (ls := [l0, l1, l2, l3, l4]) (v := l3) (Nat.le_of_ble_eq_true rfl) rfl hc) r
theorem tb_94_139 : mm_tb pg_G 94 139 = some (.iload 4, 0, 0, 0) := rfl
theorem st_94_139 {l0 l1 l2 l3 : Value} {d : Nat} {t : List Value} {g : mm_M} {r : mm_R} {x : Int32} : mm_Rn pg_G d 94 139 [l0, l1, l2, l3, .int x] (t) g r ↔ mm_Rn pg_G d 94 141 [l0, l1, l2, l3, .int x] (.int x :: t) g r := rn_iload tb_94_139 rfl r
theorem tb_94_141 : mm_tb pg_G 94 141 = some (.aload_n 0, 0, 0, 0) := rfl
theorem st_94_141 {l1 l2 l3 l4 : Value} {d : Nat} {t : List Value} {g : mm_M} {r : mm_R} {x : Nat} : mm_Rn pg_G d 94 141 [.ref x, l1, l2, l3, l4] (t) g r ↔ mm_Rn pg_G d 94 142 [.ref x, l1, l2, l3, l4] (.ref x :: t) g r := rn_aload_n tb_94_141 rfl r
theorem tb_94_142 : mm_tb pg_G 94 142 = some (.getfield 71, 6, 0, 422) := rfl
theorem st_94_142 {d : Nat} {ls t : List Value} {g : mm_M} {r : mm_R} {x : Nat} (hT : g.1 x = some (6, 35)) : mm_Rn pg_G d 94 142 ls (.ref x :: t) g r ↔ mm_Rn pg_G d 94 145 ls (g.2.1 x 0 :: t) g r := rn_getfield tb_94_142 hT r
theorem tb_94_145 : mm_tb pg_G 94 145 = some (.if_icmp .ge 53, 198, 0, 0) := rfl
theorem st_94_145 {d : Nat} {ls t : List Value} {g : mm_M} {r : mm_R} {x y : Int32} : mm_Rn pg_G d 94 145 ls (.int y :: .int x :: t) g r ↔ if y ≤ x then mm_Rn pg_G d 94 198 ls (t) g r else mm_Rn pg_G d 94 148 ls (t) g r := rn_icmp_ge tb_94_145 r
theorem tb_94_148 : mm_tb pg_G 94 148 = some (.aload_n 0, 0, 0, 0) := rfl
theorem st_94_148 {l1 l2 l3 l4 : Value} {d : Nat} {t : List Value} {g : mm_M} {r : mm_R} {x : Nat} : mm_Rn pg_G d 94 148 [.ref x, l1, l2, l3, l4] (t) g r ↔ mm_Rn pg_G d 94 149 [.ref x, l1, l2, l3, l4] (.ref x :: t) g r := rn_aload_n tb_94_148 rfl r
theorem tb_94_149 : mm_tb pg_G 94 149 = some (.getfield 34, 6, 18, 440) := rfl
theorem st_94_149 {d : Nat} {ls t : List Value} {g : mm_M} {r : mm_R} {x : Nat} (hT : g.1 x = some (6, 35)) : mm_Rn pg_G d 94 149 ls (.ref x :: t) g r ↔ mm_Rn pg_G d 94 152 ls (g.2.1 x 18 :: t) g r := rn_getfield tb_94_149 hT r
theorem tb_94_152 : mm_tb pg_G 94 152 = some (.iload 4, 0, 0, 0) := rfl
theorem st_94_152 {l0 l1 l2 l3 : Value} {d : Nat} {t : List Value} {g : mm_M} {r : mm_R} {x : Int32} : mm_Rn pg_G d 94 152 [l0, l1, l2, l3, .int x] (t) g r ↔ mm_Rn pg_G d 94 154 [l0, l1, l2, l3, .int x] (.int x :: t) g r := rn_iload tb_94_152 rfl r
theorem tb_94_154 : mm_tb pg_G 94 154 = some (.iaload, 0, 0, 0) := rfl
theorem st_94_154 {d : Nat} {ls t : List Value} {g : mm_M} {r : mm_R} {x : Nat} {j : Int32} (hc : mm_in (g.1 x) 100 101 j = true) : mm_Rn pg_G d 94 154 ls (.int j :: .ref x :: t) g r ↔ mm_Rn pg_G d 94 155 ls (g.2.1 x j.toNatClampNeg :: t) g r := rn_iaload tb_94_154 hc r
theorem tb_94_155 : mm_tb pg_G 94 155 = some (.iconst 1, 0, 0, 0) := rfl
theorem st_94_155 {d : Nat} {ls t : List Value} {g : mm_M} {r : mm_R} : mm_Rn pg_G d 94 155 ls (t) g r ↔ mm_Rn pg_G d 94 156 ls (io_v 1 :: t) g r := rn_iconst tb_94_155 r
theorem tb_94_156 : mm_tb pg_G 94 156 = some (.if_icmp .ne 36, 192, 0, 0) := rfl
theorem st_94_156 {d : Nat} {ls t : List Value} {g : mm_M} {r : mm_R} {x y : Int32} : mm_Rn pg_G d 94 156 ls (.int y :: .int x :: t) g r ↔ if x = y then mm_Rn pg_G d 94 159 ls (t) g r else mm_Rn pg_G d 94 192 ls (t) g r := rn_icmp_ne tb_94_156 r
theorem tb_94_159 : mm_tb pg_G 94 159 = some (.aload_n 0, 0, 0, 0) := rfl
theorem st_94_159 {l1 l2 l3 l4 : Value} {d : Nat} {t : List Value} {g : mm_M} {r : mm_R} {x : Nat} : mm_Rn pg_G d 94 159 [.ref x, l1, l2, l3, l4] (t) g r ↔ mm_Rn pg_G d 94 160 [.ref x, l1, l2, l3, l4] (.ref x :: t) g r := rn_aload_n tb_94_159 rfl r
theorem tb_94_160 : mm_tb pg_G 94 160 = some (.getfield 37, 6, 19, 441) := rfl
theorem st_94_160 {d : Nat} {ls t : List Value} {g : mm_M} {r : mm_R} {x : Nat} (hT : g.1 x = some (6, 35)) : mm_Rn pg_G d 94 160 ls (.ref x :: t) g r ↔ mm_Rn pg_G d 94 163 ls (g.2.1 x 19 :: t) g r := rn_getfield tb_94_160 hT r
theorem tb_94_163 : mm_tb pg_G 94 163 = some (.iload 4, 0, 0, 0) := rfl
theorem st_94_163 {l0 l1 l2 l3 : Value} {d : Nat} {t : List Value} {g : mm_M} {r : mm_R} {x : Int32} : mm_Rn pg_G d 94 163 [l0, l1, l2, l3, .int x] (t) g r ↔ mm_Rn pg_G d 94 165 [l0, l1, l2, l3, .int x] (.int x :: t) g r := rn_iload tb_94_163 rfl r
theorem tb_94_165 : mm_tb pg_G 94 165 = some (.iaload, 0, 0, 0) := rfl
theorem st_94_165 {d : Nat} {ls t : List Value} {g : mm_M} {r : mm_R} {x : Nat} {j : Int32} (hc : mm_in (g.1 x) 100 101 j = true) : mm_Rn pg_G d 94 165 ls (.int j :: .ref x :: t) g r ↔ mm_Rn pg_G d 94 166 ls (g.2.1 x j.toNatClampNeg :: t) g r := rn_iaload tb_94_165 hc r
theorem tb_94_166 : mm_tb pg_G 94 166 = some (.aload_n 0, 0, 0, 0) := rfl
theorem st_94_166 {l1 l2 l3 l4 : Value} {d : Nat} {t : List Value} {g : mm_M} {r : mm_R} {x : Nat} : mm_Rn pg_G d 94 166 [.ref x, l1, l2, l3, l4] (t) g r ↔ mm_Rn pg_G d 94 167 [.ref x, l1, l2, l3, l4] (.ref x :: t) g r := rn_aload_n tb_94_166 rfl r
theorem tb_94_167 : mm_tb pg_G 94 167 = some (.getfield 13, 6, 2, 424) := rfl
theorem st_94_167 {d : Nat} {ls t : List Value} {g : mm_M} {r : mm_R} {x : Nat} (hT : g.1 x = some (6, 35)) : mm_Rn pg_G d 94 167 ls (.ref x :: t) g r ↔ mm_Rn pg_G d 94 170 ls (g.2.1 x 2 :: t) g r := rn_getfield tb_94_167 hT r
theorem tb_94_170 : mm_tb pg_G 94 170 = some (.iload 4, 0, 0, 0) := rfl
theorem st_94_170 {l0 l1 l2 l3 : Value} {d : Nat} {t : List Value} {g : mm_M} {r : mm_R} {x : Int32} : mm_Rn pg_G d 94 170 [l0, l1, l2, l3, .int x] (t) g r ↔ mm_Rn pg_G d 94 172 [l0, l1, l2, l3, .int x] (.int x :: t) g r := rn_iload tb_94_170 rfl r
theorem tb_94_172 : mm_tb pg_G 94 172 = some (.iaload, 0, 0, 0) := rfl
theorem st_94_172 {d : Nat} {ls t : List Value} {g : mm_M} {r : mm_R} {x : Nat} {j : Int32} (hc : mm_in (g.1 x) 100 101 j = true) : mm_Rn pg_G d 94 172 ls (.int j :: .ref x :: t) g r ↔ mm_Rn pg_G d 94 173 ls (g.2.1 x j.toNatClampNeg :: t) g r := rn_iaload tb_94_172 hc r
theorem tb_94_173 : mm_tb pg_G 94 173 = some (.iadd, 0, 0, 0) := rfl
theorem st_94_173 {d : Nat} {ls t : List Value} {g : mm_M} {r : mm_R} {x y : Int32} : mm_Rn pg_G d 94 173 ls (.int y :: .int x :: t) g r ↔ mm_Rn pg_G d 94 174 ls (.int (x + y) :: t) g r := rn_iadd tb_94_173 r
theorem tb_94_174 : mm_tb pg_G 94 174 = some (.aload_n 0, 0, 0, 0) := rfl
theorem st_94_174 {l1 l2 l3 l4 : Value} {d : Nat} {t : List Value} {g : mm_M} {r : mm_R} {x : Nat} : mm_Rn pg_G d 94 174 [.ref x, l1, l2, l3, l4] (t) g r ↔ mm_Rn pg_G d 94 175 [.ref x, l1, l2, l3, l4] (.ref x :: t) g r := rn_aload_n tb_94_174 rfl r
theorem tb_94_175 : mm_tb pg_G 94 175 = some (.getfield 105, 6, 9, 431) := rfl
theorem st_94_175 {d : Nat} {ls t : List Value} {g : mm_M} {r : mm_R} {x : Nat} (hT : g.1 x = some (6, 35)) : mm_Rn pg_G d 94 175 ls (.ref x :: t) g r ↔ mm_Rn pg_G d 94 178 ls (g.2.1 x 9 :: t) g r := rn_getfield tb_94_175 hT r
theorem tb_94_178 : mm_tb pg_G 94 178 = some (.if_icmp .ne 14, 192, 0, 0) := rfl
theorem st_94_178 {d : Nat} {ls t : List Value} {g : mm_M} {r : mm_R} {x y : Int32} : mm_Rn pg_G d 94 178 ls (.int y :: .int x :: t) g r ↔ if x = y then mm_Rn pg_G d 94 181 ls (t) g r else mm_Rn pg_G d 94 192 ls (t) g r := rn_icmp_ne tb_94_178 r
theorem tb_94_181 : mm_tb pg_G 94 181 = some (.aload_n 0, 0, 0, 0) := rfl
theorem st_94_181 {l1 l2 l3 l4 : Value} {d : Nat} {t : List Value} {g : mm_M} {r : mm_R} {x : Nat} : mm_Rn pg_G d 94 181 [.ref x, l1, l2, l3, l4] (t) g r ↔ mm_Rn pg_G d 94 182 [.ref x, l1, l2, l3, l4] (.ref x :: t) g r := rn_aload_n tb_94_181 rfl r
theorem tb_94_182 : mm_tb pg_G 94 182 = some (.getfield 58, 6, 26, 448) := rfl
theorem st_94_182 {d : Nat} {ls t : List Value} {g : mm_M} {r : mm_R} {x : Nat} (hT : g.1 x = some (6, 35)) : mm_Rn pg_G d 94 182 ls (.ref x :: t) g r ↔ mm_Rn pg_G d 94 185 ls (g.2.1 x 26 :: t) g r := rn_getfield tb_94_182 hT r
theorem tb_94_185 : mm_tb pg_G 94 185 = some (.iload 4, 0, 0, 0) := rfl
theorem st_94_185 {l0 l1 l2 l3 : Value} {d : Nat} {t : List Value} {g : mm_M} {r : mm_R} {x : Int32} : mm_Rn pg_G d 94 185 [l0, l1, l2, l3, .int x] (t) g r ↔ mm_Rn pg_G d 94 187 [l0, l1, l2, l3, .int x] (.int x :: t) g r := rn_iload tb_94_185 rfl r
theorem tb_94_187 : mm_tb pg_G 94 187 = some (.dup2, 0, 0, 0) := rfl
theorem st_94_187 {d : Nat} {ls t : List Value} {g : mm_M} {r : mm_R} {v u : Value} (hc : mm_c1 v = true) (hc2 : mm_c1 u = true) : mm_Rn pg_G d 94 187 ls (v :: u :: t) g r ↔ mm_Rn pg_G d 94 188 ls (v :: u :: v :: u :: t) g r := rn_dup2 tb_94_187 hc hc2 r
theorem tb_94_188 : mm_tb pg_G 94 188 = some (.iaload, 0, 0, 0) := rfl
theorem st_94_188 {d : Nat} {ls t : List Value} {g : mm_M} {r : mm_R} {x : Nat} {j : Int32} (hc : mm_in (g.1 x) 100 101 j = true) : mm_Rn pg_G d 94 188 ls (.int j :: .ref x :: t) g r ↔ mm_Rn pg_G d 94 189 ls (g.2.1 x j.toNatClampNeg :: t) g r := rn_iaload tb_94_188 hc r
theorem tb_94_189 : mm_tb pg_G 94 189 = some (.iconst 1, 0, 0, 0) := rfl
theorem st_94_189 {d : Nat} {ls t : List Value} {g : mm_M} {r : mm_R} : mm_Rn pg_G d 94 189 ls (t) g r ↔ mm_Rn pg_G d 94 190 ls (io_v 1 :: t) g r := rn_iconst tb_94_189 r
theorem tb_94_190 : mm_tb pg_G 94 190 = some (.iadd, 0, 0, 0) := rfl
theorem st_94_190 {d : Nat} {ls t : List Value} {g : mm_M} {r : mm_R} {x y : Int32} : mm_Rn pg_G d 94 190 ls (.int y :: .int x :: t) g r ↔ mm_Rn pg_G d 94 191 ls (.int (x + y) :: t) g r := rn_iadd tb_94_190 r
theorem tb_94_191 : mm_tb pg_G 94 191 = some (.iastore, 0, 0, 0) := rfl
theorem st_94_191 {d : Nat} {ls t : List Value} {g : mm_M} {r : mm_R} {x : Nat} {j v : Int32} (hc : mm_in (g.1 x) 100 100 j = true) : mm_Rn pg_G d 94 191 ls (.int v :: .int j :: .ref x :: t) g r ↔ mm_Rn pg_G d 94 192 ls (t) (mm_wr g x j.toNatClampNeg (.int v)) r := rn_iastore tb_94_191 hc r
theorem tb_94_192 : mm_tb pg_G 94 192 = some (.iinc 4 1, 0, 0, 0) := rfl
theorem st_94_192 {l0 l1 l2 l3 : Value} {d : Nat} {t : List Value} {g : mm_M} {r : mm_R} {x : Int32} (hc : mm_c1 l3 = true) : mm_Rn pg_G d 94 192 [l0, l1, l2, l3, .int x] (t) g r ↔ mm_Rn pg_G d 94 195 [l0, l1, l2, l3, .int (x + Int32.ofInt 1)] (t) g r := rn_iinc tb_94_192 rfl (mm_so_of (ls := [l0, l1, l2, l3, .int x]) (v := l3) (Nat.le_of_ble_eq_true rfl) rfl hc) r
theorem tb_94_195 : mm_tb pg_G 94 195 = some (.goto (-56), 139, 0, 0) := rfl
theorem st_94_195 {d : Nat} {ls t : List Value} {g : mm_M} {r : mm_R} : mm_Rn pg_G d 94 195 ls (t) g r ↔ mm_Rn pg_G d 94 139 ls (t) g r := rn_goto tb_94_195 r
theorem tb_94_198 : mm_tb pg_G 94 198 = some (.iload_n 2, 0, 0, 0) := rfl
theorem st_94_198 {l0 l1 l3 l4 : Value} {d : Nat} {t : List Value} {g : mm_M} {r : mm_R} {x : Int32} : mm_Rn pg_G d 94 198 [l0, l1, .int x, l3, l4] (t) g r ↔ mm_Rn pg_G d 94 199 [l0, l1, .int x, l3, l4] (.int x :: t) g r := rn_iload_n tb_94_198 rfl r
theorem tb_94_199 : mm_tb pg_G 94 199 = some (.ireturn, 0, 0, 0) := rfl
theorem st_94_199 {d : Nat} {ls : List Value} {g : mm_M} {r : mm_R} {x : Int32} : mm_Rn pg_G d 94 199 ls [.int x] g r ↔ r = (some (.int x), g) := rn_ireturn_iff tb_94_199 (Or.inl rfl) r
theorem tb_95_0 : mm_tb pg_G 95 0 = some (.aload_n 0, 0, 0, 0) := rfl
theorem st_95_0 {l1 l2 l3 l4 : Value} {d : Nat} {t : List Value} {g : mm_M} {r : mm_R} {x : Nat} : mm_Rn pg_G d 95 0 [.ref x, l1, l2, l3, l4] (t) g r ↔ mm_Rn pg_G d 95 1 [.ref x, l1, l2, l3, l4] (.ref x :: t) g r := rn_aload_n tb_95_0 rfl r
theorem tb_95_1 : mm_tb pg_G 95 1 = some (.getfield 67, 6, 8, 430) := rfl
theorem st_95_1 {d : Nat} {ls t : List Value} {g : mm_M} {r : mm_R} {x : Nat} (hT : g.1 x = some (6, 35)) : mm_Rn pg_G d 95 1 ls (.ref x :: t) g r ↔ mm_Rn pg_G d 95 4 ls (g.2.1 x 8 :: t) g r := rn_getfield tb_95_1 hT r
theorem tb_95_4 : mm_tb pg_G 95 4 = some (.ifCond .eq 14, 18, 0, 0) := rfl
theorem st_95_4 {d : Nat} {ls t : List Value} {g : mm_M} {r : mm_R} {x : Int32} : mm_Rn pg_G d 95 4 ls (.int x :: t) g r ↔ if x = 0 then mm_Rn pg_G d 95 18 ls (t) g r else mm_Rn pg_G d 95 7 ls (t) g r := rn_if_eq tb_95_4 r
theorem tb_95_7 : mm_tb pg_G 95 7 = some (.iload_n 1, 0, 0, 0) := rfl
theorem st_95_7 {l0 l2 l3 l4 : Value} {d : Nat} {t : List Value} {g : mm_M} {r : mm_R} {x : Int32} : mm_Rn pg_G d 95 7 [l0, .int x, l2, l3, l4] (t) g r ↔ mm_Rn pg_G d 95 8 [l0, .int x, l2, l3, l4] (.int x :: t) g r := rn_iload_n tb_95_7 rfl r
theorem tb_95_8 : mm_tb pg_G 95 8 = some (.ifCond .lt 10, 18, 0, 0) := rfl
theorem st_95_8 {d : Nat} {ls t : List Value} {g : mm_M} {r : mm_R} {x : Int32} : mm_Rn pg_G d 95 8 ls (.int x :: t) g r ↔ if x < 0 then mm_Rn pg_G d 95 18 ls (t) g r else mm_Rn pg_G d 95 11 ls (t) g r := rn_if_lt tb_95_8 r
theorem tb_95_11 : mm_tb pg_G 95 11 = some (.iload_n 1, 0, 0, 0) := rfl
theorem st_95_11 {l0 l2 l3 l4 : Value} {d : Nat} {t : List Value} {g : mm_M} {r : mm_R} {x : Int32} : mm_Rn pg_G d 95 11 [l0, .int x, l2, l3, l4] (t) g r ↔ mm_Rn pg_G d 95 12 [l0, .int x, l2, l3, l4] (.int x :: t) g r := rn_iload_n tb_95_11 rfl r
theorem tb_95_12 : mm_tb pg_G 95 12 = some (.sipush 200, 0, 0, 0) := rfl
theorem st_95_12 {d : Nat} {ls t : List Value} {g : mm_M} {r : mm_R} : mm_Rn pg_G d 95 12 ls (t) g r ↔ mm_Rn pg_G d 95 15 ls (io_v 200 :: t) g r := rn_sipush tb_95_12 r
theorem tb_95_15 : mm_tb pg_G 95 15 = some (.if_icmp .le 5, 20, 0, 0) := rfl
theorem st_95_15 {d : Nat} {ls t : List Value} {g : mm_M} {r : mm_R} {x y : Int32} : mm_Rn pg_G d 95 15 ls (.int y :: .int x :: t) g r ↔ if x ≤ y then mm_Rn pg_G d 95 20 ls (t) g r else mm_Rn pg_G d 95 18 ls (t) g r := rn_icmp_le tb_95_15 r
theorem tb_95_18 : mm_tb pg_G 95 18 = some (.iconst (-1), 0, 0, 0) := rfl
theorem st_95_18 {d : Nat} {ls t : List Value} {g : mm_M} {r : mm_R} : mm_Rn pg_G d 95 18 ls (t) g r ↔ mm_Rn pg_G d 95 19 ls (io_v (-1) :: t) g r := rn_iconst tb_95_18 r
theorem tb_95_19 : mm_tb pg_G 95 19 = some (.ireturn, 0, 0, 0) := rfl
theorem st_95_19 {d : Nat} {ls : List Value} {g : mm_M} {r : mm_R} {x : Int32} : mm_Rn pg_G d 95 19 ls [.int x] g r ↔ r = (some (.int x), g) := rn_ireturn_iff tb_95_19 (Or.inl rfl) r
theorem tb_95_20 : mm_tb pg_G 95 20 = some (.iconst 0, 0, 0, 0) := rfl
theorem st_95_20 {d : Nat} {ls t : List Value} {g : mm_M} {r : mm_R} : mm_Rn pg_G d 95 20 ls (t) g r ↔ mm_Rn pg_G d 95 21 ls (io_v 0 :: t) g r := rn_iconst tb_95_20 r
theorem tb_95_21 : mm_tb pg_G 95 21 = some (.istore_n 2, 0, 0, 0) := rfl
theorem st_95_21 {l0 l1 l2 l3 l4 : Value} {d : Nat} {t : List Value} {g : mm_M} {r : mm_R} {x : Int32} (hc : mm_c1 l1 = true) : mm_Rn pg_G d 95 21 [l0, l1, l2, l3, l4] (.int x :: t) g r ↔ mm_Rn pg_G d 95 22 [l0, l1, .int x, l3, l4] (t) g r := rn_istore_n tb_95_21 (mm_so_of (ls := [l0, l1, l2, l3, l4]) (v := l1) (Nat.le_of_ble_eq_true rfl) rfl hc) r
theorem tb_95_22 : mm_tb pg_G 95 22 = some (.iconst 0, 0, 0, 0) := rfl
theorem st_95_22 {d : Nat} {ls t : List Value} {g : mm_M} {r : mm_R} : mm_Rn pg_G d 95 22 ls (t) g r ↔ mm_Rn pg_G d 95 23 ls (io_v 0 :: t) g r := rn_iconst tb_95_22 r
theorem tb_95_23 : mm_tb pg_G 95 23 = some (.istore_n 3, 0, 0, 0) := rfl
theorem st_95_23 {l0 l1 l2 l3 l4 : Value} {d : Nat} {t : List Value} {g : mm_M} {r : mm_R} {x : Int32} (hc : mm_c1 l2 = true) : mm_Rn pg_G d 95 23 [l0, l1, l2, l3, l4] (.int x :: t) g r ↔ mm_Rn pg_G d 95 24 [l0, l1, l2, .int x, l4] (t) g r := rn_istore_n tb_95_23 (mm_so_of (ls := [l0, l1, l2, l3, l4]) (v := l2) (Nat.le_of_ble_eq_true rfl) rfl hc) r
theorem tb_95_24 : mm_tb pg_G 95 24 = some (.iload_n 3, 0, 0, 0) := rfl
theorem st_95_24 {l0 l1 l2 l4 : Value} {d : Nat} {t : List Value} {g : mm_M} {r : mm_R} {x : Int32} : mm_Rn pg_G d 95 24 [l0, l1, l2, .int x, l4] (t) g r ↔ mm_Rn pg_G d 95 25 [l0, l1, l2, .int x, l4] (.int x :: t) g r := rn_iload_n tb_95_24 rfl r
theorem tb_95_25 : mm_tb pg_G 95 25 = some (.iload_n 1, 0, 0, 0) := rfl
theorem st_95_25 {l0 l2 l3 l4 : Value} {d : Nat} {t : List Value} {g : mm_M} {r : mm_R} {x : Int32} : mm_Rn pg_G d 95 25 [l0, .int x, l2, l3, l4] (t) g r ↔ mm_Rn pg_G d 95 26 [l0, .int x, l2, l3, l4] (.int x :: t) g r := rn_iload_n tb_95_25 rfl r
theorem tb_95_26 : mm_tb pg_G 95 26 = some (.if_icmp .ge 20, 46, 0, 0) := rfl
theorem st_95_26 {d : Nat} {ls t : List Value} {g : mm_M} {r : mm_R} {x y : Int32} : mm_Rn pg_G d 95 26 ls (.int y :: .int x :: t) g r ↔ if y ≤ x then mm_Rn pg_G d 95 46 ls (t) g r else mm_Rn pg_G d 95 29 ls (t) g r := rn_icmp_ge tb_95_26 r
theorem tb_95_29 : mm_tb pg_G 95 29 = some (.aload_n 0, 0, 0, 0) := rfl
theorem st_95_29 {l1 l2 l3 l4 : Value} {d : Nat} {t : List Value} {g : mm_M} {r : mm_R} {x : Nat} : mm_Rn pg_G d 95 29 [.ref x, l1, l2, l3, l4] (t) g r ↔ mm_Rn pg_G d 95 30 [.ref x, l1, l2, l3, l4] (.ref x :: t) g r := rn_aload_n tb_95_29 rfl r
theorem tb_95_30 : mm_tb pg_G 95 30 = some (.invokevirtual 177, 94, 1, 556) := rfl
theorem st_95_30 {d c s c' s' : Nat} {ls t : List Value} {I J : sp_I} {r : mm_R} {y : Nat} {v : Int32} (hl : t.length ≤ 4) (hT : sp_T I y = some (6, 35)) (hq : mm_Rn pg_G d 94 0 [.ref y, .retAddr 0, .retAddr 0, .retAddr 0, .retAddr 0] [] (sp_me I 0 0) (some (.int v), sp_me J c' s')) : mm_Rn pg_G (d + 1) 95 30 ls (.ref y :: t) (sp_me I c s) r ↔ mm_Rn pg_G (d + 1) 95 33 ls (.int v :: t) (sp_me J (c + c') (s + s')) r := rn_virt (g := sp_me I c s) (st := .ref y :: t) tb_95_30 (decide_eq_true hT) ⟨Nat.le_add_left _ t.length, hl, rfl⟩ hq r
theorem tb_95_33 : mm_tb pg_G 95 33 = some (.istore 4, 0, 0, 0) := rfl
theorem st_95_33 {l0 l1 l2 l3 l4 : Value} {d : Nat} {t : List Value} {g : mm_M} {r : mm_R} {x : Int32} (hc : mm_c1 l3 = true) : mm_Rn pg_G d 95 33 [l0, l1, l2, l3, l4] (.int x :: t) g r ↔ mm_Rn pg_G d 95 35 [l0, l1, l2, l3, .int x] (t) g r := rn_istore tb_95_33 (mm_so_of (ls := [l0, l1, l2, l3, l4]) (v := l3) (Nat.le_of_ble_eq_true rfl) rfl hc) r
theorem tb_95_35 : mm_tb pg_G 95 35 = some (.iload_n 2, 0, 0, 0) := rfl
theorem st_95_35 {l0 l1 l3 l4 : Value} {d : Nat} {t : List Value} {g : mm_M} {r : mm_R} {x : Int32} : mm_Rn pg_G d 95 35 [l0, l1, .int x, l3, l4] (t) g r ↔ mm_Rn pg_G d 95 36 [l0, l1, .int x, l3, l4] (.int x :: t) g r := rn_iload_n tb_95_35 rfl r
theorem tb_95_36 : mm_tb pg_G 95 36 = some (.iload 4, 0, 0, 0) := rfl
theorem st_95_36 {l0 l1 l2 l3 : Value} {d : Nat} {t : List Value} {g : mm_M} {r : mm_R} {x : Int32} : mm_Rn pg_G d 95 36 [l0, l1, l2, l3, .int x] (t) g r ↔ mm_Rn pg_G d 95 38 [l0, l1, l2, l3, .int x] (.int x :: t) g r := rn_iload tb_95_36 rfl r
theorem tb_95_38 : mm_tb pg_G 95 38 = some (.iadd, 0, 0, 0) := rfl
theorem st_95_38 {d : Nat} {ls t : List Value} {g : mm_M} {r : mm_R} {x y : Int32} : mm_Rn pg_G d 95 38 ls (.int y :: .int x :: t) g r ↔ mm_Rn pg_G d 95 39 ls (.int (x + y) :: t) g r := rn_iadd tb_95_38 r
theorem tb_95_39 : mm_tb pg_G 95 39 = some (.istore_n 2, 0, 0, 0) := rfl
theorem st_95_39 {l0 l1 l2 l3 l4 : Value} {d : Nat} {t : List Value} {g : mm_M} {r : mm_R} {x : Int32} (hc : mm_c1 l1 = true) : mm_Rn pg_G d 95 39 [l0, l1, l2, l3, l4] (.int x :: t) g r ↔ mm_Rn pg_G d 95 40 [l0, l1, .int x, l3, l4] (t) g r := rn_istore_n tb_95_39 (mm_so_of (ls := [l0, l1, l2, l3, l4]) (v := l1) (Nat.le_of_ble_eq_true rfl) rfl hc) r
theorem tb_95_40 : mm_tb pg_G 95 40 = some (.iinc 3 1, 0, 0, 0) := rfl
theorem st_95_40 {l0 l1 l2 l4 : Value} {d : Nat} {t : List Value} {g : mm_M} {r : mm_R} {x : Int32} (hc : mm_c1 l2 = true) : mm_Rn pg_G d 95 40 [l0, l1, l2, .int x, l4] (t) g r ↔ mm_Rn pg_G d 95 43 [l0, l1, l2, .int (x + Int32.ofInt 1), l4] (t) g r := rn_iinc tb_95_40 rfl (mm_so_of (ls := [l0, l1, l2, .int x, l4]) (v := l2) (Nat.le_of_ble_eq_true rfl) rfl hc) r
theorem tb_95_43 : mm_tb pg_G 95 43 = some (.goto (-19), 24, 0, 0) := rfl
theorem st_95_43 {d : Nat} {ls t : List Value} {g : mm_M} {r : mm_R} : mm_Rn pg_G d 95 43 ls (t) g r ↔ mm_Rn pg_G d 95 24 ls (t) g r := rn_goto tb_95_43 r
theorem tb_95_46 : mm_tb pg_G 95 46 = some (.iload_n 2, 0, 0, 0) := rfl
theorem st_95_46 {l0 l1 l3 l4 : Value} {d : Nat} {t : List Value} {g : mm_M} {r : mm_R} {x : Int32} : mm_Rn pg_G d 95 46 [l0, l1, .int x, l3, l4] (t) g r ↔ mm_Rn pg_G d 95 47 [l0, l1, .int x, l3, l4] (.int x :: t) g r := rn_iload_n tb_95_46 rfl r
theorem tb_95_47 : mm_tb pg_G 95 47 = some (.ireturn, 0, 0, 0) := rfl
theorem st_95_47 {d : Nat} {ls : List Value} {g : mm_M} {r : mm_R} {x : Int32} : mm_Rn pg_G d 95 47 ls [.int x] g r ↔ r = (some (.int x), g) := rn_ireturn_iff tb_95_47 (Or.inl rfl) r
theorem tb_96_0 : mm_tb pg_G 96 0 = some (.aload_n 0, 0, 0, 0) := rfl
theorem st_96_0 {d : Nat} {t : List Value} {g : mm_M} {r : mm_R} {x : Nat} : mm_Rn pg_G d 96 0 [.ref x] (t) g r ↔ mm_Rn pg_G d 96 1 [.ref x] (.ref x :: t) g r := rn_aload_n tb_96_0 rfl r
theorem tb_96_1 : mm_tb pg_G 96 1 = some (.getfield 105, 6, 9, 431) := rfl
theorem st_96_1 {d : Nat} {ls t : List Value} {g : mm_M} {r : mm_R} {x : Nat} (hT : g.1 x = some (6, 35)) : mm_Rn pg_G d 96 1 ls (.ref x :: t) g r ↔ mm_Rn pg_G d 96 4 ls (g.2.1 x 9 :: t) g r := rn_getfield tb_96_1 hT r
theorem tb_96_4 : mm_tb pg_G 96 4 = some (.ireturn, 0, 0, 0) := rfl
theorem st_96_4 {d : Nat} {ls : List Value} {g : mm_M} {r : mm_R} {x : Int32} : mm_Rn pg_G d 96 4 ls [.int x] g r ↔ r = (some (.int x), g) := rn_ireturn_iff tb_96_4 (Or.inl rfl) r
theorem tb_97_0 : mm_tb pg_G 97 0 = some (.iload_n 1, 0, 0, 0) := rfl
theorem st_97_0 {l0 : Value} {d : Nat} {t : List Value} {g : mm_M} {r : mm_R} {x : Int32} : mm_Rn pg_G d 97 0 [l0, .int x] (t) g r ↔ mm_Rn pg_G d 97 1 [l0, .int x] (.int x :: t) g r := rn_iload_n tb_97_0 rfl r
theorem tb_97_1 : mm_tb pg_G 97 1 = some (.ifCond .lt 17, 18, 0, 0) := rfl
theorem st_97_1 {d : Nat} {ls t : List Value} {g : mm_M} {r : mm_R} {x : Int32} : mm_Rn pg_G d 97 1 ls (.int x :: t) g r ↔ if x < 0 then mm_Rn pg_G d 97 18 ls (t) g r else mm_Rn pg_G d 97 4 ls (t) g r := rn_if_lt tb_97_1 r
theorem tb_97_4 : mm_tb pg_G 97 4 = some (.iload_n 1, 0, 0, 0) := rfl
theorem st_97_4 {l0 : Value} {d : Nat} {t : List Value} {g : mm_M} {r : mm_R} {x : Int32} : mm_Rn pg_G d 97 4 [l0, .int x] (t) g r ↔ mm_Rn pg_G d 97 5 [l0, .int x] (.int x :: t) g r := rn_iload_n tb_97_4 rfl r
theorem tb_97_5 : mm_tb pg_G 97 5 = some (.bipush 63, 0, 0, 0) := rfl
theorem st_97_5 {d : Nat} {ls t : List Value} {g : mm_M} {r : mm_R} : mm_Rn pg_G d 97 5 ls (t) g r ↔ mm_Rn pg_G d 97 7 ls (io_v 63 :: t) g r := rn_bipush tb_97_5 r
theorem tb_97_7 : mm_tb pg_G 97 7 = some (.if_icmp .gt 11, 18, 0, 0) := rfl
theorem st_97_7 {d : Nat} {ls t : List Value} {g : mm_M} {r : mm_R} {x y : Int32} : mm_Rn pg_G d 97 7 ls (.int y :: .int x :: t) g r ↔ if y < x then mm_Rn pg_G d 97 18 ls (t) g r else mm_Rn pg_G d 97 10 ls (t) g r := rn_icmp_gt tb_97_7 r
theorem tb_97_10 : mm_tb pg_G 97 10 = some (.iload_n 1, 0, 0, 0) := rfl
theorem st_97_10 {l0 : Value} {d : Nat} {t : List Value} {g : mm_M} {r : mm_R} {x : Int32} : mm_Rn pg_G d 97 10 [l0, .int x] (t) g r ↔ mm_Rn pg_G d 97 11 [l0, .int x] (.int x :: t) g r := rn_iload_n tb_97_10 rfl r
theorem tb_97_11 : mm_tb pg_G 97 11 = some (.aload_n 0, 0, 0, 0) := rfl
theorem st_97_11 {l1 : Value} {d : Nat} {t : List Value} {g : mm_M} {r : mm_R} {x : Nat} : mm_Rn pg_G d 97 11 [.ref x, l1] (t) g r ↔ mm_Rn pg_G d 97 12 [.ref x, l1] (.ref x :: t) g r := rn_aload_n tb_97_11 rfl r
theorem tb_97_12 : mm_tb pg_G 97 12 = some (.getfield 171, 6, 33, 455) := rfl
theorem st_97_12 {d : Nat} {ls t : List Value} {g : mm_M} {r : mm_R} {x : Nat} (hT : g.1 x = some (6, 35)) : mm_Rn pg_G d 97 12 ls (.ref x :: t) g r ↔ mm_Rn pg_G d 97 15 ls (g.2.1 x 33 :: t) g r := rn_getfield tb_97_12 hT r
theorem tb_97_15 : mm_tb pg_G 97 15 = some (.if_icmp .lt 7, 22, 0, 0) := rfl
theorem st_97_15 {d : Nat} {ls t : List Value} {g : mm_M} {r : mm_R} {x y : Int32} : mm_Rn pg_G d 97 15 ls (.int y :: .int x :: t) g r ↔ if x < y then mm_Rn pg_G d 97 22 ls (t) g r else mm_Rn pg_G d 97 18 ls (t) g r := rn_icmp_lt tb_97_15 r
theorem tb_97_18 : mm_tb pg_G 97 18 = some (.iconst (-1), 0, 0, 0) := rfl
theorem st_97_18 {d : Nat} {ls t : List Value} {g : mm_M} {r : mm_R} : mm_Rn pg_G d 97 18 ls (t) g r ↔ mm_Rn pg_G d 97 19 ls (io_v (-1) :: t) g r := rn_iconst tb_97_18 r
theorem tb_97_19 : mm_tb pg_G 97 19 = some (.goto 19, 38, 0, 0) := rfl
theorem st_97_19 {d : Nat} {ls t : List Value} {g : mm_M} {r : mm_R} : mm_Rn pg_G d 97 19 ls (t) g r ↔ mm_Rn pg_G d 97 38 ls (t) g r := rn_goto tb_97_19 r
theorem tb_97_22 : mm_tb pg_G 97 22 = some (.aload_n 0, 0, 0, 0) := rfl
theorem st_97_22 {l1 : Value} {d : Nat} {t : List Value} {g : mm_M} {r : mm_R} {x : Nat} : mm_Rn pg_G d 97 22 [.ref x, l1] (t) g r ↔ mm_Rn pg_G d 97 23 [.ref x, l1] (.ref x :: t) g r := rn_aload_n tb_97_22 rfl r
theorem tb_97_23 : mm_tb pg_G 97 23 = some (.getfield 64, 6, 34, 456) := rfl
theorem st_97_23 {d : Nat} {ls t : List Value} {g : mm_M} {r : mm_R} {x : Nat} (hT : g.1 x = some (6, 35)) : mm_Rn pg_G d 97 23 ls (.ref x :: t) g r ↔ mm_Rn pg_G d 97 26 ls (g.2.1 x 34 :: t) g r := rn_getfield tb_97_23 hT r
theorem tb_97_26 : mm_tb pg_G 97 26 = some (.aload_n 0, 0, 0, 0) := rfl
theorem st_97_26 {l1 : Value} {d : Nat} {t : List Value} {g : mm_M} {r : mm_R} {x : Nat} : mm_Rn pg_G d 97 26 [.ref x, l1] (t) g r ↔ mm_Rn pg_G d 97 27 [.ref x, l1] (.ref x :: t) g r := rn_aload_n tb_97_26 rfl r
theorem tb_97_27 : mm_tb pg_G 97 27 = some (.getfield 171, 6, 33, 455) := rfl
theorem st_97_27 {d : Nat} {ls t : List Value} {g : mm_M} {r : mm_R} {x : Nat} (hT : g.1 x = some (6, 35)) : mm_Rn pg_G d 97 27 ls (.ref x :: t) g r ↔ mm_Rn pg_G d 97 30 ls (g.2.1 x 33 :: t) g r := rn_getfield tb_97_27 hT r
theorem tb_97_30 : mm_tb pg_G 97 30 = some (.iconst 1, 0, 0, 0) := rfl
theorem st_97_30 {d : Nat} {ls t : List Value} {g : mm_M} {r : mm_R} : mm_Rn pg_G d 97 30 ls (t) g r ↔ mm_Rn pg_G d 97 31 ls (io_v 1 :: t) g r := rn_iconst tb_97_30 r
theorem tb_97_31 : mm_tb pg_G 97 31 = some (.isub, 0, 0, 0) := rfl
theorem st_97_31 {d : Nat} {ls t : List Value} {g : mm_M} {r : mm_R} {x y : Int32} : mm_Rn pg_G d 97 31 ls (.int y :: .int x :: t) g r ↔ mm_Rn pg_G d 97 32 ls (.int (x - y) :: t) g r := rn_isub tb_97_31 r
theorem tb_97_32 : mm_tb pg_G 97 32 = some (.iload_n 1, 0, 0, 0) := rfl
theorem st_97_32 {l0 : Value} {d : Nat} {t : List Value} {g : mm_M} {r : mm_R} {x : Int32} : mm_Rn pg_G d 97 32 [l0, .int x] (t) g r ↔ mm_Rn pg_G d 97 33 [l0, .int x] (.int x :: t) g r := rn_iload_n tb_97_32 rfl r
theorem tb_97_33 : mm_tb pg_G 97 33 = some (.isub, 0, 0, 0) := rfl
theorem st_97_33 {d : Nat} {ls t : List Value} {g : mm_M} {r : mm_R} {x y : Int32} : mm_Rn pg_G d 97 33 ls (.int y :: .int x :: t) g r ↔ mm_Rn pg_G d 97 34 ls (.int (x - y) :: t) g r := rn_isub tb_97_33 r
theorem tb_97_34 : mm_tb pg_G 97 34 = some (.bipush 63, 0, 0, 0) := rfl
theorem st_97_34 {d : Nat} {ls t : List Value} {g : mm_M} {r : mm_R} : mm_Rn pg_G d 97 34 ls (t) g r ↔ mm_Rn pg_G d 97 36 ls (io_v 63 :: t) g r := rn_bipush tb_97_34 r
theorem tb_97_36 : mm_tb pg_G 97 36 = some (.iand, 0, 0, 0) := rfl
theorem st_97_36 {d : Nat} {ls t : List Value} {g : mm_M} {r : mm_R} {x y : Int32} : mm_Rn pg_G d 97 36 ls (.int y :: .int x :: t) g r ↔ mm_Rn pg_G d 97 37 ls (.int (x &&& y) :: t) g r := rn_iand tb_97_36 r
theorem tb_97_37 : mm_tb pg_G 97 37 = some (.iaload, 0, 0, 0) := rfl
theorem st_97_37 {d : Nat} {ls t : List Value} {g : mm_M} {r : mm_R} {x : Nat} {j : Int32} (hc : mm_in (g.1 x) 100 101 j = true) : mm_Rn pg_G d 97 37 ls (.int j :: .ref x :: t) g r ↔ mm_Rn pg_G d 97 38 ls (g.2.1 x j.toNatClampNeg :: t) g r := rn_iaload tb_97_37 hc r
theorem tb_97_38 : mm_tb pg_G 97 38 = some (.ireturn, 0, 0, 0) := rfl
theorem st_97_38 {d : Nat} {ls : List Value} {g : mm_M} {r : mm_R} {x : Int32} : mm_Rn pg_G d 97 38 ls [.int x] g r ↔ r = (some (.int x), g) := rn_ireturn_iff tb_97_38 (Or.inl rfl) r
theorem tb_98_0 : mm_tb pg_G 98 0 = some (.iload_n 1, 0, 0, 0) := rfl
theorem st_98_0 {l0 l2 : Value} {d : Nat} {t : List Value} {g : mm_M} {r : mm_R} {x : Int32} : mm_Rn pg_G d 98 0 [l0, .int x, l2] (t) g r ↔ mm_Rn pg_G d 98 1 [l0, .int x, l2] (.int x :: t) g r := rn_iload_n tb_98_0 rfl r
theorem tb_98_1 : mm_tb pg_G 98 1 = some (.ifCond .ge 7, 8, 0, 0) := rfl
theorem st_98_1 {d : Nat} {ls t : List Value} {g : mm_M} {r : mm_R} {x : Int32} : mm_Rn pg_G d 98 1 ls (.int x :: t) g r ↔ if 0 ≤ x then mm_Rn pg_G d 98 8 ls (t) g r else mm_Rn pg_G d 98 4 ls (t) g r := rn_if_ge tb_98_1 r
theorem tb_98_4 : mm_tb pg_G 98 4 = some (.iconst (-1), 0, 0, 0) := rfl
theorem st_98_4 {d : Nat} {ls t : List Value} {g : mm_M} {r : mm_R} : mm_Rn pg_G d 98 4 ls (t) g r ↔ mm_Rn pg_G d 98 5 ls (io_v (-1) :: t) g r := rn_iconst tb_98_4 r
theorem tb_98_5 : mm_tb pg_G 98 5 = some (.goto 8, 13, 0, 0) := rfl
theorem st_98_5 {d : Nat} {ls t : List Value} {g : mm_M} {r : mm_R} : mm_Rn pg_G d 98 5 ls (t) g r ↔ mm_Rn pg_G d 98 13 ls (t) g r := rn_goto tb_98_5 r
theorem tb_98_8 : mm_tb pg_G 98 8 = some (.aload_n 0, 0, 0, 0) := rfl
theorem st_98_8 {l1 l2 : Value} {d : Nat} {t : List Value} {g : mm_M} {r : mm_R} {x : Nat} : mm_Rn pg_G d 98 8 [.ref x, l1, l2] (t) g r ↔ mm_Rn pg_G d 98 9 [.ref x, l1, l2] (.ref x :: t) g r := rn_aload_n tb_98_8 rfl r
theorem tb_98_9 : mm_tb pg_G 98 9 = some (.iload_n 1, 0, 0, 0) := rfl
theorem st_98_9 {l0 l2 : Value} {d : Nat} {t : List Value} {g : mm_M} {r : mm_R} {x : Int32} : mm_Rn pg_G d 98 9 [l0, .int x, l2] (t) g r ↔ mm_Rn pg_G d 98 10 [l0, .int x, l2] (.int x :: t) g r := rn_iload_n tb_98_9 rfl r
theorem tb_98_10 : mm_tb pg_G 98 10 = some (.invokevirtual 133, 85, 2, 562) := rfl
theorem st_98_10 {d c s c' s' : Nat} {ls t : List Value} {I J : sp_I} {r : mm_R} {a0 : Int32} {y : Nat} {v : Int32} (hl : t.length ≤ 4) (hT : sp_T I y = some (6, 35)) (hq : mm_Rn pg_G d 85 0 [.ref y, .int a0, .retAddr 0, .retAddr 0, .retAddr 0] [] (sp_me I 0 0) (some (.int v), sp_me J c' s')) : mm_Rn pg_G (d + 1) 98 10 ls (.int a0 :: .ref y :: t) (sp_me I c s) r ↔ mm_Rn pg_G (d + 1) 98 13 ls (.int v :: t) (sp_me J (c + c') (s + s')) r := rn_virt (g := sp_me I c s) (st := .int a0 :: .ref y :: t) tb_98_10 (decide_eq_true hT) ⟨Nat.le_add_left _ t.length, hl, rfl⟩ hq r
theorem tb_98_13 : mm_tb pg_G 98 13 = some (.istore_n 2, 0, 0, 0) := rfl
theorem st_98_13 {l0 l1 l2 : Value} {d : Nat} {t : List Value} {g : mm_M} {r : mm_R} {x : Int32} (hc : mm_c1 l1 = true) : mm_Rn pg_G d 98 13 [l0, l1, l2] (.int x :: t) g r ↔ mm_Rn pg_G d 98 14 [l0, l1, .int x] (t) g r := rn_istore_n tb_98_13 (mm_so_of (ls := [l0, l1, l2]) (v := l1) (Nat.le_of_ble_eq_true rfl) rfl hc) r
theorem tb_98_14 : mm_tb pg_G 98 14 = some (.iload_n 2, 0, 0, 0) := rfl
theorem st_98_14 {l0 l1 : Value} {d : Nat} {t : List Value} {g : mm_M} {r : mm_R} {x : Int32} : mm_Rn pg_G d 98 14 [l0, l1, .int x] (t) g r ↔ mm_Rn pg_G d 98 15 [l0, l1, .int x] (.int x :: t) g r := rn_iload_n tb_98_14 rfl r
theorem tb_98_15 : mm_tb pg_G 98 15 = some (.ifCond .ge 7, 22, 0, 0) := rfl
theorem st_98_15 {d : Nat} {ls t : List Value} {g : mm_M} {r : mm_R} {x : Int32} : mm_Rn pg_G d 98 15 ls (.int x :: t) g r ↔ if 0 ≤ x then mm_Rn pg_G d 98 22 ls (t) g r else mm_Rn pg_G d 98 18 ls (t) g r := rn_if_ge tb_98_15 r
theorem tb_98_18 : mm_tb pg_G 98 18 = some (.iconst 0, 0, 0, 0) := rfl
theorem st_98_18 {d : Nat} {ls t : List Value} {g : mm_M} {r : mm_R} : mm_Rn pg_G d 98 18 ls (t) g r ↔ mm_Rn pg_G d 98 19 ls (io_v 0 :: t) g r := rn_iconst tb_98_18 r
theorem tb_98_19 : mm_tb pg_G 98 19 = some (.goto 16, 35, 0, 0) := rfl
theorem st_98_19 {d : Nat} {ls t : List Value} {g : mm_M} {r : mm_R} : mm_Rn pg_G d 98 19 ls (t) g r ↔ mm_Rn pg_G d 98 35 ls (t) g r := rn_goto tb_98_19 r
theorem tb_98_22 : mm_tb pg_G 98 22 = some (.iload_n 2, 0, 0, 0) := rfl
theorem st_98_22 {l0 l1 : Value} {d : Nat} {t : List Value} {g : mm_M} {r : mm_R} {x : Int32} : mm_Rn pg_G d 98 22 [l0, l1, .int x] (t) g r ↔ mm_Rn pg_G d 98 23 [l0, l1, .int x] (.int x :: t) g r := rn_iload_n tb_98_22 rfl r
theorem tb_98_23 : mm_tb pg_G 98 23 = some (.bipush 6, 0, 0, 0) := rfl
theorem st_98_23 {d : Nat} {ls t : List Value} {g : mm_M} {r : mm_R} : mm_Rn pg_G d 98 23 ls (t) g r ↔ mm_Rn pg_G d 98 25 ls (io_v 6 :: t) g r := rn_bipush tb_98_23 r
theorem tb_98_25 : mm_tb pg_G 98 25 = some (.if_icmp .ne 7, 32, 0, 0) := rfl
theorem st_98_25 {d : Nat} {ls t : List Value} {g : mm_M} {r : mm_R} {x y : Int32} : mm_Rn pg_G d 98 25 ls (.int y :: .int x :: t) g r ↔ if x = y then mm_Rn pg_G d 98 28 ls (t) g r else mm_Rn pg_G d 98 32 ls (t) g r := rn_icmp_ne tb_98_25 r
theorem tb_98_28 : mm_tb pg_G 98 28 = some (.iconst 1, 0, 0, 0) := rfl
theorem st_98_28 {d : Nat} {ls t : List Value} {g : mm_M} {r : mm_R} : mm_Rn pg_G d 98 28 ls (t) g r ↔ mm_Rn pg_G d 98 29 ls (io_v 1 :: t) g r := rn_iconst tb_98_28 r
theorem tb_98_29 : mm_tb pg_G 98 29 = some (.goto 6, 35, 0, 0) := rfl
theorem st_98_29 {d : Nat} {ls t : List Value} {g : mm_M} {r : mm_R} : mm_Rn pg_G d 98 29 ls (t) g r ↔ mm_Rn pg_G d 98 35 ls (t) g r := rn_goto tb_98_29 r
theorem tb_98_32 : mm_tb pg_G 98 32 = some (.iconst 2, 0, 0, 0) := rfl
theorem st_98_32 {d : Nat} {ls t : List Value} {g : mm_M} {r : mm_R} : mm_Rn pg_G d 98 32 ls (t) g r ↔ mm_Rn pg_G d 98 33 ls (io_v 2 :: t) g r := rn_iconst tb_98_32 r
theorem tb_98_33 : mm_tb pg_G 98 33 = some (.iload_n 2, 0, 0, 0) := rfl
theorem st_98_33 {l0 l1 : Value} {d : Nat} {t : List Value} {g : mm_M} {r : mm_R} {x : Int32} : mm_Rn pg_G d 98 33 [l0, l1, .int x] (t) g r ↔ mm_Rn pg_G d 98 34 [l0, l1, .int x] (.int x :: t) g r := rn_iload_n tb_98_33 rfl r
theorem tb_98_34 : mm_tb pg_G 98 34 = some (.iadd, 0, 0, 0) := rfl
theorem st_98_34 {d : Nat} {ls t : List Value} {g : mm_M} {r : mm_R} {x y : Int32} : mm_Rn pg_G d 98 34 ls (.int y :: .int x :: t) g r ↔ mm_Rn pg_G d 98 35 ls (.int (x + y) :: t) g r := rn_iadd tb_98_34 r
theorem tb_98_35 : mm_tb pg_G 98 35 = some (.ireturn, 0, 0, 0) := rfl
theorem st_98_35 {d : Nat} {ls : List Value} {g : mm_M} {r : mm_R} {x : Int32} : mm_Rn pg_G d 98 35 ls [.int x] g r ↔ r = (some (.int x), g) := rn_ireturn_iff tb_98_35 (Or.inl rfl) r
theorem tb_99_0 : mm_tb pg_G 99 0 = some (.aload_n 0, 0, 0, 0) := rfl
theorem st_99_0 {l1 l2 : Value} {d : Nat} {t : List Value} {g : mm_M} {r : mm_R} {x : Nat} : mm_Rn pg_G d 99 0 [.ref x, l1, l2] (t) g r ↔ mm_Rn pg_G d 99 1 [.ref x, l1, l2] (.ref x :: t) g r := rn_aload_n tb_99_0 rfl r
theorem tb_99_1 : mm_tb pg_G 99 1 = some (.iload_n 1, 0, 0, 0) := rfl
theorem st_99_1 {l0 l2 : Value} {d : Nat} {t : List Value} {g : mm_M} {r : mm_R} {x : Int32} : mm_Rn pg_G d 99 1 [l0, .int x, l2] (t) g r ↔ mm_Rn pg_G d 99 2 [l0, .int x, l2] (.int x :: t) g r := rn_iload_n tb_99_1 rfl r
theorem tb_99_2 : mm_tb pg_G 99 2 = some (.invokevirtual 79, 71, 2, 503) := rfl
theorem st_99_2 {d c s c' s' : Nat} {ls t : List Value} {I J : sp_I} {r : mm_R} {a0 : Int32} {y : Nat} {v : Int32} (hl : t.length ≤ 4) (hT : sp_T I y = some (6, 35)) (hq : mm_Rn pg_G d 71 0 [.ref y, .int a0] [] (sp_me I 0 0) (some (.int v), sp_me J c' s')) : mm_Rn pg_G (d + 1) 99 2 ls (.int a0 :: .ref y :: t) (sp_me I c s) r ↔ mm_Rn pg_G (d + 1) 99 5 ls (.int v :: t) (sp_me J (c + c') (s + s')) r := rn_virt (g := sp_me I c s) (st := .int a0 :: .ref y :: t) tb_99_2 (decide_eq_true hT) ⟨Nat.le_add_left _ t.length, hl, rfl⟩ hq r
theorem tb_99_5 : mm_tb pg_G 99 5 = some (.ifCond .eq 21, 26, 0, 0) := rfl
theorem st_99_5 {d : Nat} {ls t : List Value} {g : mm_M} {r : mm_R} {x : Int32} : mm_Rn pg_G d 99 5 ls (.int x :: t) g r ↔ if x = 0 then mm_Rn pg_G d 99 26 ls (t) g r else mm_Rn pg_G d 99 8 ls (t) g r := rn_if_eq tb_99_5 r
theorem tb_99_8 : mm_tb pg_G 99 8 = some (.aload_n 0, 0, 0, 0) := rfl
theorem st_99_8 {l1 l2 : Value} {d : Nat} {t : List Value} {g : mm_M} {r : mm_R} {x : Nat} : mm_Rn pg_G d 99 8 [.ref x, l1, l2] (t) g r ↔ mm_Rn pg_G d 99 9 [.ref x, l1, l2] (.ref x :: t) g r := rn_aload_n tb_99_8 rfl r
theorem tb_99_9 : mm_tb pg_G 99 9 = some (.getfield 34, 6, 18, 440) := rfl
theorem st_99_9 {d : Nat} {ls t : List Value} {g : mm_M} {r : mm_R} {x : Nat} (hT : g.1 x = some (6, 35)) : mm_Rn pg_G d 99 9 ls (.ref x :: t) g r ↔ mm_Rn pg_G d 99 12 ls (g.2.1 x 18 :: t) g r := rn_getfield tb_99_9 hT r
theorem tb_99_12 : mm_tb pg_G 99 12 = some (.iload_n 1, 0, 0, 0) := rfl
theorem st_99_12 {l0 l2 : Value} {d : Nat} {t : List Value} {g : mm_M} {r : mm_R} {x : Int32} : mm_Rn pg_G d 99 12 [l0, .int x, l2] (t) g r ↔ mm_Rn pg_G d 99 13 [l0, .int x, l2] (.int x :: t) g r := rn_iload_n tb_99_12 rfl r
theorem tb_99_13 : mm_tb pg_G 99 13 = some (.iaload, 0, 0, 0) := rfl
theorem st_99_13 {d : Nat} {ls t : List Value} {g : mm_M} {r : mm_R} {x : Nat} {j : Int32} (hc : mm_in (g.1 x) 100 101 j = true) : mm_Rn pg_G d 99 13 ls (.int j :: .ref x :: t) g r ↔ mm_Rn pg_G d 99 14 ls (g.2.1 x j.toNatClampNeg :: t) g r := rn_iaload tb_99_13 hc r
theorem tb_99_14 : mm_tb pg_G 99 14 = some (.ifCond .eq 12, 26, 0, 0) := rfl
theorem st_99_14 {d : Nat} {ls t : List Value} {g : mm_M} {r : mm_R} {x : Int32} : mm_Rn pg_G d 99 14 ls (.int x :: t) g r ↔ if x = 0 then mm_Rn pg_G d 99 26 ls (t) g r else mm_Rn pg_G d 99 17 ls (t) g r := rn_if_eq tb_99_14 r
theorem tb_99_17 : mm_tb pg_G 99 17 = some (.iload_n 2, 0, 0, 0) := rfl
theorem st_99_17 {l0 l1 : Value} {d : Nat} {t : List Value} {g : mm_M} {r : mm_R} {x : Int32} : mm_Rn pg_G d 99 17 [l0, l1, .int x] (t) g r ↔ mm_Rn pg_G d 99 18 [l0, l1, .int x] (.int x :: t) g r := rn_iload_n tb_99_17 rfl r
theorem tb_99_18 : mm_tb pg_G 99 18 = some (.ifCond .lt 8, 26, 0, 0) := rfl
theorem st_99_18 {d : Nat} {ls t : List Value} {g : mm_M} {r : mm_R} {x : Int32} : mm_Rn pg_G d 99 18 ls (.int x :: t) g r ↔ if x < 0 then mm_Rn pg_G d 99 26 ls (t) g r else mm_Rn pg_G d 99 21 ls (t) g r := rn_if_lt tb_99_18 r
theorem tb_99_21 : mm_tb pg_G 99 21 = some (.iload_n 2, 0, 0, 0) := rfl
theorem st_99_21 {l0 l1 : Value} {d : Nat} {t : List Value} {g : mm_M} {r : mm_R} {x : Int32} : mm_Rn pg_G d 99 21 [l0, l1, .int x] (t) g r ↔ mm_Rn pg_G d 99 22 [l0, l1, .int x] (.int x :: t) g r := rn_iload_n tb_99_21 rfl r
theorem tb_99_22 : mm_tb pg_G 99 22 = some (.iconst 3, 0, 0, 0) := rfl
theorem st_99_22 {d : Nat} {ls t : List Value} {g : mm_M} {r : mm_R} : mm_Rn pg_G d 99 22 ls (t) g r ↔ mm_Rn pg_G d 99 23 ls (io_v 3 :: t) g r := rn_iconst tb_99_22 r
theorem tb_99_23 : mm_tb pg_G 99 23 = some (.if_icmp .le 5, 28, 0, 0) := rfl
theorem st_99_23 {d : Nat} {ls t : List Value} {g : mm_M} {r : mm_R} {x y : Int32} : mm_Rn pg_G d 99 23 ls (.int y :: .int x :: t) g r ↔ if x ≤ y then mm_Rn pg_G d 99 28 ls (t) g r else mm_Rn pg_G d 99 26 ls (t) g r := rn_icmp_le tb_99_23 r
theorem tb_99_26 : mm_tb pg_G 99 26 = some (.iconst (-1), 0, 0, 0) := rfl
theorem st_99_26 {d : Nat} {ls t : List Value} {g : mm_M} {r : mm_R} : mm_Rn pg_G d 99 26 ls (t) g r ↔ mm_Rn pg_G d 99 27 ls (io_v (-1) :: t) g r := rn_iconst tb_99_26 r
theorem tb_99_27 : mm_tb pg_G 99 27 = some (.ireturn, 0, 0, 0) := rfl
theorem st_99_27 {d : Nat} {ls : List Value} {g : mm_M} {r : mm_R} {x : Int32} : mm_Rn pg_G d 99 27 ls [.int x] g r ↔ r = (some (.int x), g) := rn_ireturn_iff tb_99_27 (Or.inl rfl) r
theorem tb_99_28 : mm_tb pg_G 99 28 = some (.iload_n 2, 0, 0, 0) := rfl
theorem st_99_28 {l0 l1 : Value} {d : Nat} {t : List Value} {g : mm_M} {r : mm_R} {x : Int32} : mm_Rn pg_G d 99 28 [l0, l1, .int x] (t) g r ↔ mm_Rn pg_G d 99 29 [l0, l1, .int x] (.int x :: t) g r := rn_iload_n tb_99_28 rfl r
theorem tb_99_29 : mm_tb pg_G 99 29 = some (.ifCond .ne 19, 48, 0, 0) := rfl
theorem st_99_29 {d : Nat} {ls t : List Value} {g : mm_M} {r : mm_R} {x : Int32} : mm_Rn pg_G d 99 29 ls (.int x :: t) g r ↔ if x = 0 then mm_Rn pg_G d 99 32 ls (t) g r else mm_Rn pg_G d 99 48 ls (t) g r := rn_if_ne tb_99_29 r
theorem tb_99_32 : mm_tb pg_G 99 32 = some (.aload_n 0, 0, 0, 0) := rfl
theorem st_99_32 {l1 l2 : Value} {d : Nat} {t : List Value} {g : mm_M} {r : mm_R} {x : Nat} : mm_Rn pg_G d 99 32 [.ref x, l1, l2] (t) g r ↔ mm_Rn pg_G d 99 33 [.ref x, l1, l2] (.ref x :: t) g r := rn_aload_n tb_99_32 rfl r
theorem tb_99_33 : mm_tb pg_G 99 33 = some (.getfield 40, 6, 20, 442) := rfl
theorem st_99_33 {d : Nat} {ls t : List Value} {g : mm_M} {r : mm_R} {x : Nat} (hT : g.1 x = some (6, 35)) : mm_Rn pg_G d 99 33 ls (.ref x :: t) g r ↔ mm_Rn pg_G d 99 36 ls (g.2.1 x 20 :: t) g r := rn_getfield tb_99_33 hT r
theorem tb_99_36 : mm_tb pg_G 99 36 = some (.iload_n 1, 0, 0, 0) := rfl
theorem st_99_36 {l0 l2 : Value} {d : Nat} {t : List Value} {g : mm_M} {r : mm_R} {x : Int32} : mm_Rn pg_G d 99 36 [l0, .int x, l2] (t) g r ↔ mm_Rn pg_G d 99 37 [l0, .int x, l2] (.int x :: t) g r := rn_iload_n tb_99_36 rfl r
theorem tb_99_37 : mm_tb pg_G 99 37 = some (.iaload, 0, 0, 0) := rfl
theorem st_99_37 {d : Nat} {ls t : List Value} {g : mm_M} {r : mm_R} {x : Nat} {j : Int32} (hc : mm_in (g.1 x) 100 101 j = true) : mm_Rn pg_G d 99 37 ls (.int j :: .ref x :: t) g r ↔ mm_Rn pg_G d 99 38 ls (g.2.1 x j.toNatClampNeg :: t) g r := rn_iaload tb_99_37 hc r
theorem tb_99_38 : mm_tb pg_G 99 38 = some (.aload_n 0, 0, 0, 0) := rfl
theorem st_99_38 {l1 l2 : Value} {d : Nat} {t : List Value} {g : mm_M} {r : mm_R} {x : Nat} : mm_Rn pg_G d 99 38 [.ref x, l1, l2] (t) g r ↔ mm_Rn pg_G d 99 39 [.ref x, l1, l2] (.ref x :: t) g r := rn_aload_n tb_99_38 rfl r
theorem tb_99_39 : mm_tb pg_G 99 39 = some (.getfield 43, 6, 21, 443) := rfl
theorem st_99_39 {d : Nat} {ls t : List Value} {g : mm_M} {r : mm_R} {x : Nat} (hT : g.1 x = some (6, 35)) : mm_Rn pg_G d 99 39 ls (.ref x :: t) g r ↔ mm_Rn pg_G d 99 42 ls (g.2.1 x 21 :: t) g r := rn_getfield tb_99_39 hT r
theorem tb_99_42 : mm_tb pg_G 99 42 = some (.iload_n 1, 0, 0, 0) := rfl
theorem st_99_42 {l0 l2 : Value} {d : Nat} {t : List Value} {g : mm_M} {r : mm_R} {x : Int32} : mm_Rn pg_G d 99 42 [l0, .int x, l2] (t) g r ↔ mm_Rn pg_G d 99 43 [l0, .int x, l2] (.int x :: t) g r := rn_iload_n tb_99_42 rfl r
theorem tb_99_43 : mm_tb pg_G 99 43 = some (.iaload, 0, 0, 0) := rfl
theorem st_99_43 {d : Nat} {ls t : List Value} {g : mm_M} {r : mm_R} {x : Nat} {j : Int32} (hc : mm_in (g.1 x) 100 101 j = true) : mm_Rn pg_G d 99 43 ls (.int j :: .ref x :: t) g r ↔ mm_Rn pg_G d 99 44 ls (g.2.1 x j.toNatClampNeg :: t) g r := rn_iaload tb_99_43 hc r
theorem tb_99_44 : mm_tb pg_G 99 44 = some (.isub, 0, 0, 0) := rfl
theorem st_99_44 {d : Nat} {ls t : List Value} {g : mm_M} {r : mm_R} {x y : Int32} : mm_Rn pg_G d 99 44 ls (.int y :: .int x :: t) g r ↔ mm_Rn pg_G d 99 45 ls (.int (x - y) :: t) g r := rn_isub tb_99_44 r
theorem tb_99_45 : mm_tb pg_G 99 45 = some (.goto 44, 89, 0, 0) := rfl
theorem st_99_45 {d : Nat} {ls t : List Value} {g : mm_M} {r : mm_R} : mm_Rn pg_G d 99 45 ls (t) g r ↔ mm_Rn pg_G d 99 89 ls (t) g r := rn_goto tb_99_45 r
theorem tb_99_48 : mm_tb pg_G 99 48 = some (.iload_n 2, 0, 0, 0) := rfl
theorem st_99_48 {l0 l1 : Value} {d : Nat} {t : List Value} {g : mm_M} {r : mm_R} {x : Int32} : mm_Rn pg_G d 99 48 [l0, l1, .int x] (t) g r ↔ mm_Rn pg_G d 99 49 [l0, l1, .int x] (.int x :: t) g r := rn_iload_n tb_99_48 rfl r
theorem tb_99_49 : mm_tb pg_G 99 49 = some (.iconst 1, 0, 0, 0) := rfl
theorem st_99_49 {d : Nat} {ls t : List Value} {g : mm_M} {r : mm_R} : mm_Rn pg_G d 99 49 ls (t) g r ↔ mm_Rn pg_G d 99 50 ls (io_v 1 :: t) g r := rn_iconst tb_99_49 r
theorem tb_99_50 : mm_tb pg_G 99 50 = some (.if_icmp .ne 19, 69, 0, 0) := rfl
theorem st_99_50 {d : Nat} {ls t : List Value} {g : mm_M} {r : mm_R} {x y : Int32} : mm_Rn pg_G d 99 50 ls (.int y :: .int x :: t) g r ↔ if x = y then mm_Rn pg_G d 99 53 ls (t) g r else mm_Rn pg_G d 99 69 ls (t) g r := rn_icmp_ne tb_99_50 r
theorem tb_99_53 : mm_tb pg_G 99 53 = some (.aload_n 0, 0, 0, 0) := rfl
theorem st_99_53 {l1 l2 : Value} {d : Nat} {t : List Value} {g : mm_M} {r : mm_R} {x : Nat} : mm_Rn pg_G d 99 53 [.ref x, l1, l2] (t) g r ↔ mm_Rn pg_G d 99 54 [.ref x, l1, l2] (.ref x :: t) g r := rn_aload_n tb_99_53 rfl r
theorem tb_99_54 : mm_tb pg_G 99 54 = some (.getfield 37, 6, 19, 441) := rfl
theorem st_99_54 {d : Nat} {ls t : List Value} {g : mm_M} {r : mm_R} {x : Nat} (hT : g.1 x = some (6, 35)) : mm_Rn pg_G d 99 54 ls (.ref x :: t) g r ↔ mm_Rn pg_G d 99 57 ls (g.2.1 x 19 :: t) g r := rn_getfield tb_99_54 hT r
theorem tb_99_57 : mm_tb pg_G 99 57 = some (.iload_n 1, 0, 0, 0) := rfl
theorem st_99_57 {l0 l2 : Value} {d : Nat} {t : List Value} {g : mm_M} {r : mm_R} {x : Int32} : mm_Rn pg_G d 99 57 [l0, .int x, l2] (t) g r ↔ mm_Rn pg_G d 99 58 [l0, .int x, l2] (.int x :: t) g r := rn_iload_n tb_99_57 rfl r
theorem tb_99_58 : mm_tb pg_G 99 58 = some (.iaload, 0, 0, 0) := rfl
theorem st_99_58 {d : Nat} {ls t : List Value} {g : mm_M} {r : mm_R} {x : Nat} {j : Int32} (hc : mm_in (g.1 x) 100 101 j = true) : mm_Rn pg_G d 99 58 ls (.int j :: .ref x :: t) g r ↔ mm_Rn pg_G d 99 59 ls (g.2.1 x j.toNatClampNeg :: t) g r := rn_iaload tb_99_58 hc r
theorem tb_99_59 : mm_tb pg_G 99 59 = some (.aload_n 0, 0, 0, 0) := rfl
theorem st_99_59 {l1 l2 : Value} {d : Nat} {t : List Value} {g : mm_M} {r : mm_R} {x : Nat} : mm_Rn pg_G d 99 59 [.ref x, l1, l2] (t) g r ↔ mm_Rn pg_G d 99 60 [.ref x, l1, l2] (.ref x :: t) g r := rn_aload_n tb_99_59 rfl r
theorem tb_99_60 : mm_tb pg_G 99 60 = some (.getfield 13, 6, 2, 424) := rfl
theorem st_99_60 {d : Nat} {ls t : List Value} {g : mm_M} {r : mm_R} {x : Nat} (hT : g.1 x = some (6, 35)) : mm_Rn pg_G d 99 60 ls (.ref x :: t) g r ↔ mm_Rn pg_G d 99 63 ls (g.2.1 x 2 :: t) g r := rn_getfield tb_99_60 hT r
theorem tb_99_63 : mm_tb pg_G 99 63 = some (.iload_n 1, 0, 0, 0) := rfl
theorem st_99_63 {l0 l2 : Value} {d : Nat} {t : List Value} {g : mm_M} {r : mm_R} {x : Int32} : mm_Rn pg_G d 99 63 [l0, .int x, l2] (t) g r ↔ mm_Rn pg_G d 99 64 [l0, .int x, l2] (.int x :: t) g r := rn_iload_n tb_99_63 rfl r
theorem tb_99_64 : mm_tb pg_G 99 64 = some (.iaload, 0, 0, 0) := rfl
theorem st_99_64 {d : Nat} {ls t : List Value} {g : mm_M} {r : mm_R} {x : Nat} {j : Int32} (hc : mm_in (g.1 x) 100 101 j = true) : mm_Rn pg_G d 99 64 ls (.int j :: .ref x :: t) g r ↔ mm_Rn pg_G d 99 65 ls (g.2.1 x j.toNatClampNeg :: t) g r := rn_iaload tb_99_64 hc r
theorem tb_99_65 : mm_tb pg_G 99 65 = some (.iadd, 0, 0, 0) := rfl
theorem st_99_65 {d : Nat} {ls t : List Value} {g : mm_M} {r : mm_R} {x y : Int32} : mm_Rn pg_G d 99 65 ls (.int y :: .int x :: t) g r ↔ mm_Rn pg_G d 99 66 ls (.int (x + y) :: t) g r := rn_iadd tb_99_65 r
theorem tb_99_66 : mm_tb pg_G 99 66 = some (.goto 23, 89, 0, 0) := rfl
theorem st_99_66 {d : Nat} {ls t : List Value} {g : mm_M} {r : mm_R} : mm_Rn pg_G d 99 66 ls (t) g r ↔ mm_Rn pg_G d 99 89 ls (t) g r := rn_goto tb_99_66 r
theorem tb_99_69 : mm_tb pg_G 99 69 = some (.iload_n 2, 0, 0, 0) := rfl
theorem st_99_69 {l0 l1 : Value} {d : Nat} {t : List Value} {g : mm_M} {r : mm_R} {x : Int32} : mm_Rn pg_G d 99 69 [l0, l1, .int x] (t) g r ↔ mm_Rn pg_G d 99 70 [l0, l1, .int x] (.int x :: t) g r := rn_iload_n tb_99_69 rfl r
theorem tb_99_70 : mm_tb pg_G 99 70 = some (.iconst 2, 0, 0, 0) := rfl
theorem st_99_70 {d : Nat} {ls t : List Value} {g : mm_M} {r : mm_R} : mm_Rn pg_G d 99 70 ls (t) g r ↔ mm_Rn pg_G d 99 71 ls (io_v 2 :: t) g r := rn_iconst tb_99_70 r
theorem tb_99_71 : mm_tb pg_G 99 71 = some (.if_icmp .ne 12, 83, 0, 0) := rfl
theorem st_99_71 {d : Nat} {ls t : List Value} {g : mm_M} {r : mm_R} {x y : Int32} : mm_Rn pg_G d 99 71 ls (.int y :: .int x :: t) g r ↔ if x = y then mm_Rn pg_G d 99 74 ls (t) g r else mm_Rn pg_G d 99 83 ls (t) g r := rn_icmp_ne tb_99_71 r
theorem tb_99_74 : mm_tb pg_G 99 74 = some (.aload_n 0, 0, 0, 0) := rfl
theorem st_99_74 {l1 l2 : Value} {d : Nat} {t : List Value} {g : mm_M} {r : mm_R} {x : Nat} : mm_Rn pg_G d 99 74 [.ref x, l1, l2] (t) g r ↔ mm_Rn pg_G d 99 75 [.ref x, l1, l2] (.ref x :: t) g r := rn_aload_n tb_99_74 rfl r
theorem tb_99_75 : mm_tb pg_G 99 75 = some (.getfield 52, 6, 24, 446) := rfl
theorem st_99_75 {d : Nat} {ls t : List Value} {g : mm_M} {r : mm_R} {x : Nat} (hT : g.1 x = some (6, 35)) : mm_Rn pg_G d 99 75 ls (.ref x :: t) g r ↔ mm_Rn pg_G d 99 78 ls (g.2.1 x 24 :: t) g r := rn_getfield tb_99_75 hT r
theorem tb_99_78 : mm_tb pg_G 99 78 = some (.iload_n 1, 0, 0, 0) := rfl
theorem st_99_78 {l0 l2 : Value} {d : Nat} {t : List Value} {g : mm_M} {r : mm_R} {x : Int32} : mm_Rn pg_G d 99 78 [l0, .int x, l2] (t) g r ↔ mm_Rn pg_G d 99 79 [l0, .int x, l2] (.int x :: t) g r := rn_iload_n tb_99_78 rfl r
theorem tb_99_79 : mm_tb pg_G 99 79 = some (.iaload, 0, 0, 0) := rfl
theorem st_99_79 {d : Nat} {ls t : List Value} {g : mm_M} {r : mm_R} {x : Nat} {j : Int32} (hc : mm_in (g.1 x) 100 101 j = true) : mm_Rn pg_G d 99 79 ls (.int j :: .ref x :: t) g r ↔ mm_Rn pg_G d 99 80 ls (g.2.1 x j.toNatClampNeg :: t) g r := rn_iaload tb_99_79 hc r
theorem tb_99_80 : mm_tb pg_G 99 80 = some (.goto 9, 89, 0, 0) := rfl
theorem st_99_80 {d : Nat} {ls t : List Value} {g : mm_M} {r : mm_R} : mm_Rn pg_G d 99 80 ls (t) g r ↔ mm_Rn pg_G d 99 89 ls (t) g r := rn_goto tb_99_80 r
theorem tb_99_83 : mm_tb pg_G 99 83 = some (.aload_n 0, 0, 0, 0) := rfl
theorem st_99_83 {l1 l2 : Value} {d : Nat} {t : List Value} {g : mm_M} {r : mm_R} {x : Nat} : mm_Rn pg_G d 99 83 [.ref x, l1, l2] (t) g r ↔ mm_Rn pg_G d 99 84 [.ref x, l1, l2] (.ref x :: t) g r := rn_aload_n tb_99_83 rfl r
theorem tb_99_84 : mm_tb pg_G 99 84 = some (.getfield 46, 6, 22, 444) := rfl
theorem st_99_84 {d : Nat} {ls t : List Value} {g : mm_M} {r : mm_R} {x : Nat} (hT : g.1 x = some (6, 35)) : mm_Rn pg_G d 99 84 ls (.ref x :: t) g r ↔ mm_Rn pg_G d 99 87 ls (g.2.1 x 22 :: t) g r := rn_getfield tb_99_84 hT r
theorem tb_99_87 : mm_tb pg_G 99 87 = some (.iload_n 1, 0, 0, 0) := rfl
theorem st_99_87 {l0 l2 : Value} {d : Nat} {t : List Value} {g : mm_M} {r : mm_R} {x : Int32} : mm_Rn pg_G d 99 87 [l0, .int x, l2] (t) g r ↔ mm_Rn pg_G d 99 88 [l0, .int x, l2] (.int x :: t) g r := rn_iload_n tb_99_87 rfl r
theorem tb_99_88 : mm_tb pg_G 99 88 = some (.iaload, 0, 0, 0) := rfl
theorem st_99_88 {d : Nat} {ls t : List Value} {g : mm_M} {r : mm_R} {x : Nat} {j : Int32} (hc : mm_in (g.1 x) 100 101 j = true) : mm_Rn pg_G d 99 88 ls (.int j :: .ref x :: t) g r ↔ mm_Rn pg_G d 99 89 ls (g.2.1 x j.toNatClampNeg :: t) g r := rn_iaload tb_99_88 hc r
theorem tb_99_89 : mm_tb pg_G 99 89 = some (.ireturn, 0, 0, 0) := rfl
theorem st_99_89 {d : Nat} {ls : List Value} {g : mm_M} {r : mm_R} {x : Int32} : mm_Rn pg_G d 99 89 ls [.int x] g r ↔ r = (some (.int x), g) := rn_ireturn_iff tb_99_89 (Or.inl rfl) r
theorem tb_100_0 : mm_tb pg_G 100 0 = some (.aload_n 0, 0, 0, 0) := rfl
theorem st_100_0 {l1 : Value} {d : Nat} {t : List Value} {g : mm_M} {r : mm_R} {x : Nat} : mm_Rn pg_G d 100 0 [.ref x, l1] (t) g r ↔ mm_Rn pg_G d 100 1 [.ref x, l1] (.ref x :: t) g r := rn_aload_n tb_100_0 rfl r
theorem tb_100_1 : mm_tb pg_G 100 1 = some (.iload_n 1, 0, 0, 0) := rfl
theorem st_100_1 {l0 : Value} {d : Nat} {t : List Value} {g : mm_M} {r : mm_R} {x : Int32} : mm_Rn pg_G d 100 1 [l0, .int x] (t) g r ↔ mm_Rn pg_G d 100 2 [l0, .int x] (.int x :: t) g r := rn_iload_n tb_100_1 rfl r
theorem tb_100_2 : mm_tb pg_G 100 2 = some (.invokevirtual 79, 71, 2, 503) := rfl
theorem st_100_2 {d c s c' s' : Nat} {ls t : List Value} {I J : sp_I} {r : mm_R} {a0 : Int32} {y : Nat} {v : Int32} (hl : t.length ≤ 4) (hT : sp_T I y = some (6, 35)) (hq : mm_Rn pg_G d 71 0 [.ref y, .int a0] [] (sp_me I 0 0) (some (.int v), sp_me J c' s')) : mm_Rn pg_G (d + 1) 100 2 ls (.int a0 :: .ref y :: t) (sp_me I c s) r ↔ mm_Rn pg_G (d + 1) 100 5 ls (.int v :: t) (sp_me J (c + c') (s + s')) r := rn_virt (g := sp_me I c s) (st := .int a0 :: .ref y :: t) tb_100_2 (decide_eq_true hT) ⟨Nat.le_add_left _ t.length, hl, rfl⟩ hq r
theorem tb_100_5 : mm_tb pg_G 100 5 = some (.ifCond .eq 12, 17, 0, 0) := rfl
theorem st_100_5 {d : Nat} {ls t : List Value} {g : mm_M} {r : mm_R} {x : Int32} : mm_Rn pg_G d 100 5 ls (.int x :: t) g r ↔ if x = 0 then mm_Rn pg_G d 100 17 ls (t) g r else mm_Rn pg_G d 100 8 ls (t) g r := rn_if_eq tb_100_5 r
theorem tb_100_8 : mm_tb pg_G 100 8 = some (.aload_n 0, 0, 0, 0) := rfl
theorem st_100_8 {l1 : Value} {d : Nat} {t : List Value} {g : mm_M} {r : mm_R} {x : Nat} : mm_Rn pg_G d 100 8 [.ref x, l1] (t) g r ↔ mm_Rn pg_G d 100 9 [.ref x, l1] (.ref x :: t) g r := rn_aload_n tb_100_8 rfl r
theorem tb_100_9 : mm_tb pg_G 100 9 = some (.getfield 58, 6, 26, 448) := rfl
theorem st_100_9 {d : Nat} {ls t : List Value} {g : mm_M} {r : mm_R} {x : Nat} (hT : g.1 x = some (6, 35)) : mm_Rn pg_G d 100 9 ls (.ref x :: t) g r ↔ mm_Rn pg_G d 100 12 ls (g.2.1 x 26 :: t) g r := rn_getfield tb_100_9 hT r
theorem tb_100_12 : mm_tb pg_G 100 12 = some (.iload_n 1, 0, 0, 0) := rfl
theorem st_100_12 {l0 : Value} {d : Nat} {t : List Value} {g : mm_M} {r : mm_R} {x : Int32} : mm_Rn pg_G d 100 12 [l0, .int x] (t) g r ↔ mm_Rn pg_G d 100 13 [l0, .int x] (.int x :: t) g r := rn_iload_n tb_100_12 rfl r
theorem tb_100_13 : mm_tb pg_G 100 13 = some (.iaload, 0, 0, 0) := rfl
theorem st_100_13 {d : Nat} {ls t : List Value} {g : mm_M} {r : mm_R} {x : Nat} {j : Int32} (hc : mm_in (g.1 x) 100 101 j = true) : mm_Rn pg_G d 100 13 ls (.int j :: .ref x :: t) g r ↔ mm_Rn pg_G d 100 14 ls (g.2.1 x j.toNatClampNeg :: t) g r := rn_iaload tb_100_13 hc r
theorem tb_100_14 : mm_tb pg_G 100 14 = some (.goto 4, 18, 0, 0) := rfl
theorem st_100_14 {d : Nat} {ls t : List Value} {g : mm_M} {r : mm_R} : mm_Rn pg_G d 100 14 ls (t) g r ↔ mm_Rn pg_G d 100 18 ls (t) g r := rn_goto tb_100_14 r
theorem tb_100_17 : mm_tb pg_G 100 17 = some (.iconst (-1), 0, 0, 0) := rfl
theorem st_100_17 {d : Nat} {ls t : List Value} {g : mm_M} {r : mm_R} : mm_Rn pg_G d 100 17 ls (t) g r ↔ mm_Rn pg_G d 100 18 ls (io_v (-1) :: t) g r := rn_iconst tb_100_17 r
theorem tb_100_18 : mm_tb pg_G 100 18 = some (.ireturn, 0, 0, 0) := rfl
theorem st_100_18 {d : Nat} {ls : List Value} {g : mm_M} {r : mm_R} {x : Int32} : mm_Rn pg_G d 100 18 ls [.int x] g r ↔ r = (some (.int x), g) := rn_ireturn_iff tb_100_18 (Or.inl rfl) r
