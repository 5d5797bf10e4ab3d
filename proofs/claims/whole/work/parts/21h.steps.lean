/-! a row an instruction of the program -/
theorem tb_86_0 : mm_tb pg_G 86 0 = some (.aload_n 0, 0, 0, 0) := rfl
theorem st_86_0 {l1 l2 l3 : Value} {d : Nat} {t : List Value} {g : mm_M} {r : mm_R} {x : Nat} : mm_Rn pg_G d 86 0 [.ref x, l1, l2, l3] (t) g r ↔ mm_Rn pg_G d 86 1 [.ref x, l1, l2, l3] (.ref x :: t) g r := rn_aload_n tb_86_0 rfl r
theorem tb_86_1 : mm_tb pg_G 86 1 = some (.getfield 34, 6, 18, 440) := rfl
theorem st_86_1 {d : Nat} {ls t : List Value} {g : mm_M} {r : mm_R} {x : Nat} (hT : g.1 x = some (6, 35)) : mm_Rn pg_G d 86 1 ls (.ref x :: t) g r ↔ mm_Rn pg_G d 86 4 ls (g.2.1 x 18 :: t) g r := rn_getfield tb_86_1 hT r
theorem tb_86_4 : mm_tb pg_G 86 4 = some (.iload_n 1, 0, 0, 0) := rfl
theorem st_86_4 {l0 l2 l3 : Value} {d : Nat} {t : List Value} {g : mm_M} {r : mm_R} {x : Int32} : mm_Rn pg_G d 86 4 [l0, .int x, l2, l3] (t) g r ↔ mm_Rn pg_G d 86 5 [l0, .int x, l2, l3] (.int x :: t) g r := rn_iload_n tb_86_4 rfl r
theorem tb_86_5 : mm_tb pg_G 86 5 = some (.iaload, 0, 0, 0) := rfl
theorem st_86_5 {d : Nat} {ls t : List Value} {g : mm_M} {r : mm_R} {x : Nat} {j : Int32} (hc : mm_in (g.1 x) 100 101 j = true) : mm_Rn pg_G d 86 5 ls (.int j :: .ref x :: t) g r ↔ mm_Rn pg_G d 86 6 ls (g.2.1 x j.toNatClampNeg :: t) g r := rn_iaload tb_86_5 hc r
theorem tb_86_6 : mm_tb pg_G 86 6 = some (.iconst 1, 0, 0, 0) := rfl
theorem st_86_6 {d : Nat} {ls t : List Value} {g : mm_M} {r : mm_R} : mm_Rn pg_G d 86 6 ls (t) g r ↔ mm_Rn pg_G d 86 7 ls (io_v 1 :: t) g r := rn_iconst tb_86_6 r
theorem tb_86_7 : mm_tb pg_G 86 7 = some (.if_icmp .eq 5, 12, 0, 0) := rfl
theorem st_86_7 {d : Nat} {ls t : List Value} {g : mm_M} {r : mm_R} {x y : Int32} : mm_Rn pg_G d 86 7 ls (.int y :: .int x :: t) g r ↔ if x = y then mm_Rn pg_G d 86 12 ls (t) g r else mm_Rn pg_G d 86 10 ls (t) g r := rn_icmp_eq tb_86_7 r
theorem tb_86_10 : mm_tb pg_G 86 10 = some (.iconst 0, 0, 0, 0) := rfl
theorem st_86_10 {d : Nat} {ls t : List Value} {g : mm_M} {r : mm_R} : mm_Rn pg_G d 86 10 ls (t) g r ↔ mm_Rn pg_G d 86 11 ls (io_v 0 :: t) g r := rn_iconst tb_86_10 r
theorem tb_86_11 : mm_tb pg_G 86 11 = some (.ireturn, 0, 0, 0) := rfl
theorem st_86_11 {d : Nat} {ls : List Value} {g : mm_M} {r : mm_R} {x : Int32} (hb : x = 0 ∨ x = 1) : mm_Rn pg_G d 86 11 ls [.int x] g r ↔ r = (some (.int x), g) := rn_ireturn_iff tb_86_11 (Or.inr ⟨rfl, hb⟩) r
theorem tb_86_12 : mm_tb pg_G 86 12 = some (.iconst 4, 0, 0, 0) := rfl
theorem st_86_12 {d : Nat} {ls t : List Value} {g : mm_M} {r : mm_R} : mm_Rn pg_G d 86 12 ls (t) g r ↔ mm_Rn pg_G d 86 13 ls (io_v 4 :: t) g r := rn_iconst tb_86_12 r
theorem tb_86_13 : mm_tb pg_G 86 13 = some (.iload_n 1, 0, 0, 0) := rfl
theorem st_86_13 {l0 l2 l3 : Value} {d : Nat} {t : List Value} {g : mm_M} {r : mm_R} {x : Int32} : mm_Rn pg_G d 86 13 [l0, .int x, l2, l3] (t) g r ↔ mm_Rn pg_G d 86 14 [l0, .int x, l2, l3] (.int x :: t) g r := rn_iload_n tb_86_13 rfl r
theorem tb_86_14 : mm_tb pg_G 86 14 = some (.imul, 0, 0, 0) := rfl
theorem st_86_14 {d : Nat} {ls t : List Value} {g : mm_M} {r : mm_R} {x y : Int32} : mm_Rn pg_G d 86 14 ls (.int y :: .int x :: t) g r ↔ mm_Rn pg_G d 86 15 ls (.int (x * y) :: t) g r := rn_imul tb_86_14 r
theorem tb_86_15 : mm_tb pg_G 86 15 = some (.istore_n 3, 0, 0, 0) := rfl
theorem st_86_15 {l0 l1 l2 l3 : Value} {d : Nat} {t : List Value} {g : mm_M} {r : mm_R} {x : Int32} (hc : mm_c1 l2 = true) : mm_Rn pg_G d 86 15 [l0, l1, l2, l3] (.int x :: t) g r ↔ mm_Rn pg_G d 86 16 [l0, l1, l2, .int x] (t) g r := rn_istore_n tb_86_15 (mm_so_of (ls := [l0, l1, l2, l3]) (v := l2) (Nat.le_of_ble_eq_true rfl) rfl hc) r
theorem tb_86_16 : mm_tb pg_G 86 16 = some (.iload_n 3, 0, 0, 0) := rfl
theorem st_86_16 {l0 l1 l2 : Value} {d : Nat} {t : List Value} {g : mm_M} {r : mm_R} {x : Int32} : mm_Rn pg_G d 86 16 [l0, l1, l2, .int x] (t) g r ↔ mm_Rn pg_G d 86 17 [l0, l1, l2, .int x] (.int x :: t) g r := rn_iload_n tb_86_16 rfl r
theorem tb_86_17 : mm_tb pg_G 86 17 = some (.iconst 4, 0, 0, 0) := rfl
theorem st_86_17 {d : Nat} {ls t : List Value} {g : mm_M} {r : mm_R} : mm_Rn pg_G d 86 17 ls (t) g r ↔ mm_Rn pg_G d 86 18 ls (io_v 4 :: t) g r := rn_iconst tb_86_17 r
theorem tb_86_18 : mm_tb pg_G 86 18 = some (.iload_n 1, 0, 0, 0) := rfl
theorem st_86_18 {l0 l2 l3 : Value} {d : Nat} {t : List Value} {g : mm_M} {r : mm_R} {x : Int32} : mm_Rn pg_G d 86 18 [l0, .int x, l2, l3] (t) g r ↔ mm_Rn pg_G d 86 19 [l0, .int x, l2, l3] (.int x :: t) g r := rn_iload_n tb_86_18 rfl r
theorem tb_86_19 : mm_tb pg_G 86 19 = some (.imul, 0, 0, 0) := rfl
theorem st_86_19 {d : Nat} {ls t : List Value} {g : mm_M} {r : mm_R} {x y : Int32} : mm_Rn pg_G d 86 19 ls (.int y :: .int x :: t) g r ↔ mm_Rn pg_G d 86 20 ls (.int (x * y) :: t) g r := rn_imul tb_86_19 r
theorem tb_86_20 : mm_tb pg_G 86 20 = some (.aload_n 0, 0, 0, 0) := rfl
theorem st_86_20 {l1 l2 l3 : Value} {d : Nat} {t : List Value} {g : mm_M} {r : mm_R} {x : Nat} : mm_Rn pg_G d 86 20 [.ref x, l1, l2, l3] (t) g r ↔ mm_Rn pg_G d 86 21 [.ref x, l1, l2, l3] (.ref x :: t) g r := rn_aload_n tb_86_20 rfl r
theorem tb_86_21 : mm_tb pg_G 86 21 = some (.getfield 19, 6, 4, 426) := rfl
theorem st_86_21 {d : Nat} {ls t : List Value} {g : mm_M} {r : mm_R} {x : Nat} (hT : g.1 x = some (6, 35)) : mm_Rn pg_G d 86 21 ls (.ref x :: t) g r ↔ mm_Rn pg_G d 86 24 ls (g.2.1 x 4 :: t) g r := rn_getfield tb_86_21 hT r
theorem tb_86_24 : mm_tb pg_G 86 24 = some (.iload_n 1, 0, 0, 0) := rfl
theorem st_86_24 {l0 l2 l3 : Value} {d : Nat} {t : List Value} {g : mm_M} {r : mm_R} {x : Int32} : mm_Rn pg_G d 86 24 [l0, .int x, l2, l3] (t) g r ↔ mm_Rn pg_G d 86 25 [l0, .int x, l2, l3] (.int x :: t) g r := rn_iload_n tb_86_24 rfl r
theorem tb_86_25 : mm_tb pg_G 86 25 = some (.iaload, 0, 0, 0) := rfl
theorem st_86_25 {d : Nat} {ls t : List Value} {g : mm_M} {r : mm_R} {x : Nat} {j : Int32} (hc : mm_in (g.1 x) 100 101 j = true) : mm_Rn pg_G d 86 25 ls (.int j :: .ref x :: t) g r ↔ mm_Rn pg_G d 86 26 ls (g.2.1 x j.toNatClampNeg :: t) g r := rn_iaload tb_86_25 hc r
theorem tb_86_26 : mm_tb pg_G 86 26 = some (.iadd, 0, 0, 0) := rfl
theorem st_86_26 {d : Nat} {ls t : List Value} {g : mm_M} {r : mm_R} {x y : Int32} : mm_Rn pg_G d 86 26 ls (.int y :: .int x :: t) g r ↔ mm_Rn pg_G d 86 27 ls (.int (x + y) :: t) g r := rn_iadd tb_86_26 r
theorem tb_86_27 : mm_tb pg_G 86 27 = some (.if_icmp .ge 51, 78, 0, 0) := rfl
theorem st_86_27 {d : Nat} {ls t : List Value} {g : mm_M} {r : mm_R} {x y : Int32} : mm_Rn pg_G d 86 27 ls (.int y :: .int x :: t) g r ↔ if y ≤ x then mm_Rn pg_G d 86 78 ls (t) g r else mm_Rn pg_G d 86 30 ls (t) g r := rn_icmp_ge tb_86_27 r
theorem tb_86_30 : mm_tb pg_G 86 30 = some (.aload_n 0, 0, 0, 0) := rfl
theorem st_86_30 {l1 l2 l3 : Value} {d : Nat} {t : List Value} {g : mm_M} {r : mm_R} {x : Nat} : mm_Rn pg_G d 86 30 [.ref x, l1, l2, l3] (t) g r ↔ mm_Rn pg_G d 86 31 [.ref x, l1, l2, l3] (.ref x :: t) g r := rn_aload_n tb_86_30 rfl r
theorem tb_86_31 : mm_tb pg_G 86 31 = some (.getfield 22, 6, 5, 427) := rfl
theorem st_86_31 {d : Nat} {ls t : List Value} {g : mm_M} {r : mm_R} {x : Nat} (hT : g.1 x = some (6, 35)) : mm_Rn pg_G d 86 31 ls (.ref x :: t) g r ↔ mm_Rn pg_G d 86 34 ls (g.2.1 x 5 :: t) g r := rn_getfield tb_86_31 hT r
theorem tb_86_34 : mm_tb pg_G 86 34 = some (.iload_n 3, 0, 0, 0) := rfl
theorem st_86_34 {l0 l1 l2 : Value} {d : Nat} {t : List Value} {g : mm_M} {r : mm_R} {x : Int32} : mm_Rn pg_G d 86 34 [l0, l1, l2, .int x] (t) g r ↔ mm_Rn pg_G d 86 35 [l0, l1, l2, .int x] (.int x :: t) g r := rn_iload_n tb_86_34 rfl r
theorem tb_86_35 : mm_tb pg_G 86 35 = some (.iaload, 0, 0, 0) := rfl
theorem st_86_35 {d : Nat} {ls t : List Value} {g : mm_M} {r : mm_R} {x : Nat} {j : Int32} (hc : mm_in (g.1 x) 100 101 j = true) : mm_Rn pg_G d 86 35 ls (.int j :: .ref x :: t) g r ↔ mm_Rn pg_G d 86 36 ls (g.2.1 x j.toNatClampNeg :: t) g r := rn_iaload tb_86_35 hc r
theorem tb_86_36 : mm_tb pg_G 86 36 = some (.iload_n 2, 0, 0, 0) := rfl
theorem st_86_36 {l0 l1 l3 : Value} {d : Nat} {t : List Value} {g : mm_M} {r : mm_R} {x : Int32} : mm_Rn pg_G d 86 36 [l0, l1, .int x, l3] (t) g r ↔ mm_Rn pg_G d 86 37 [l0, l1, .int x, l3] (.int x :: t) g r := rn_iload_n tb_86_36 rfl r
theorem tb_86_37 : mm_tb pg_G 86 37 = some (.if_icmp .ne 35, 72, 0, 0) := rfl
theorem st_86_37 {d : Nat} {ls t : List Value} {g : mm_M} {r : mm_R} {x y : Int32} : mm_Rn pg_G d 86 37 ls (.int y :: .int x :: t) g r ↔ if x = y then mm_Rn pg_G d 86 40 ls (t) g r else mm_Rn pg_G d 86 72 ls (t) g r := rn_icmp_ne tb_86_37 r
theorem tb_86_40 : mm_tb pg_G 86 40 = some (.aload_n 0, 0, 0, 0) := rfl
theorem st_86_40 {l1 l2 l3 : Value} {d : Nat} {t : List Value} {g : mm_M} {r : mm_R} {x : Nat} : mm_Rn pg_G d 86 40 [.ref x, l1, l2, l3] (t) g r ↔ mm_Rn pg_G d 86 41 [.ref x, l1, l2, l3] (.ref x :: t) g r := rn_aload_n tb_86_40 rfl r
theorem tb_86_41 : mm_tb pg_G 86 41 = some (.getfield 25, 6, 6, 428) := rfl
theorem st_86_41 {d : Nat} {ls t : List Value} {g : mm_M} {r : mm_R} {x : Nat} (hT : g.1 x = some (6, 35)) : mm_Rn pg_G d 86 41 ls (.ref x :: t) g r ↔ mm_Rn pg_G d 86 44 ls (g.2.1 x 6 :: t) g r := rn_getfield tb_86_41 hT r
theorem tb_86_44 : mm_tb pg_G 86 44 = some (.iload_n 3, 0, 0, 0) := rfl
theorem st_86_44 {l0 l1 l2 : Value} {d : Nat} {t : List Value} {g : mm_M} {r : mm_R} {x : Int32} : mm_Rn pg_G d 86 44 [l0, l1, l2, .int x] (t) g r ↔ mm_Rn pg_G d 86 45 [l0, l1, l2, .int x] (.int x :: t) g r := rn_iload_n tb_86_44 rfl r
theorem tb_86_45 : mm_tb pg_G 86 45 = some (.iaload, 0, 0, 0) := rfl
theorem st_86_45 {d : Nat} {ls t : List Value} {g : mm_M} {r : mm_R} {x : Nat} {j : Int32} (hc : mm_in (g.1 x) 100 101 j = true) : mm_Rn pg_G d 86 45 ls (.int j :: .ref x :: t) g r ↔ mm_Rn pg_G d 86 46 ls (g.2.1 x j.toNatClampNeg :: t) g r := rn_iaload tb_86_45 hc r
theorem tb_86_46 : mm_tb pg_G 86 46 = some (.aload_n 0, 0, 0, 0) := rfl
theorem st_86_46 {l1 l2 l3 : Value} {d : Nat} {t : List Value} {g : mm_M} {r : mm_R} {x : Nat} : mm_Rn pg_G d 86 46 [.ref x, l1, l2, l3] (t) g r ↔ mm_Rn pg_G d 86 47 [.ref x, l1, l2, l3] (.ref x :: t) g r := rn_aload_n tb_86_46 rfl r
theorem tb_86_47 : mm_tb pg_G 86 47 = some (.getfield 43, 6, 21, 443) := rfl
theorem st_86_47 {d : Nat} {ls t : List Value} {g : mm_M} {r : mm_R} {x : Nat} (hT : g.1 x = some (6, 35)) : mm_Rn pg_G d 86 47 ls (.ref x :: t) g r ↔ mm_Rn pg_G d 86 50 ls (g.2.1 x 21 :: t) g r := rn_getfield tb_86_47 hT r
theorem tb_86_50 : mm_tb pg_G 86 50 = some (.iload_n 1, 0, 0, 0) := rfl
theorem st_86_50 {l0 l2 l3 : Value} {d : Nat} {t : List Value} {g : mm_M} {r : mm_R} {x : Int32} : mm_Rn pg_G d 86 50 [l0, .int x, l2, l3] (t) g r ↔ mm_Rn pg_G d 86 51 [l0, .int x, l2, l3] (.int x :: t) g r := rn_iload_n tb_86_50 rfl r
theorem tb_86_51 : mm_tb pg_G 86 51 = some (.iaload, 0, 0, 0) := rfl
theorem st_86_51 {d : Nat} {ls t : List Value} {g : mm_M} {r : mm_R} {x : Nat} {j : Int32} (hc : mm_in (g.1 x) 100 101 j = true) : mm_Rn pg_G d 86 51 ls (.int j :: .ref x :: t) g r ↔ mm_Rn pg_G d 86 52 ls (g.2.1 x j.toNatClampNeg :: t) g r := rn_iaload tb_86_51 hc r
theorem tb_86_52 : mm_tb pg_G 86 52 = some (.if_icmp .ge 20, 72, 0, 0) := rfl
theorem st_86_52 {d : Nat} {ls t : List Value} {g : mm_M} {r : mm_R} {x y : Int32} : mm_Rn pg_G d 86 52 ls (.int y :: .int x :: t) g r ↔ if y ≤ x then mm_Rn pg_G d 86 72 ls (t) g r else mm_Rn pg_G d 86 55 ls (t) g r := rn_icmp_ge tb_86_52 r
theorem tb_86_55 : mm_tb pg_G 86 55 = some (.aload_n 0, 0, 0, 0) := rfl
theorem st_86_55 {l1 l2 l3 : Value} {d : Nat} {t : List Value} {g : mm_M} {r : mm_R} {x : Nat} : mm_Rn pg_G d 86 55 [.ref x, l1, l2, l3] (t) g r ↔ mm_Rn pg_G d 86 56 [.ref x, l1, l2, l3] (.ref x :: t) g r := rn_aload_n tb_86_55 rfl r
theorem tb_86_56 : mm_tb pg_G 86 56 = some (.getfield 43, 6, 21, 443) := rfl
theorem st_86_56 {d : Nat} {ls t : List Value} {g : mm_M} {r : mm_R} {x : Nat} (hT : g.1 x = some (6, 35)) : mm_Rn pg_G d 86 56 ls (.ref x :: t) g r ↔ mm_Rn pg_G d 86 59 ls (g.2.1 x 21 :: t) g r := rn_getfield tb_86_56 hT r
theorem tb_86_59 : mm_tb pg_G 86 59 = some (.iload_n 1, 0, 0, 0) := rfl
theorem st_86_59 {l0 l2 l3 : Value} {d : Nat} {t : List Value} {g : mm_M} {r : mm_R} {x : Int32} : mm_Rn pg_G d 86 59 [l0, .int x, l2, l3] (t) g r ↔ mm_Rn pg_G d 86 60 [l0, .int x, l2, l3] (.int x :: t) g r := rn_iload_n tb_86_59 rfl r
theorem tb_86_60 : mm_tb pg_G 86 60 = some (.iaload, 0, 0, 0) := rfl
theorem st_86_60 {d : Nat} {ls t : List Value} {g : mm_M} {r : mm_R} {x : Nat} {j : Int32} (hc : mm_in (g.1 x) 100 101 j = true) : mm_Rn pg_G d 86 60 ls (.int j :: .ref x :: t) g r ↔ mm_Rn pg_G d 86 61 ls (g.2.1 x j.toNatClampNeg :: t) g r := rn_iaload tb_86_60 hc r
theorem tb_86_61 : mm_tb pg_G 86 61 = some (.aload_n 0, 0, 0, 0) := rfl
theorem st_86_61 {l1 l2 l3 : Value} {d : Nat} {t : List Value} {g : mm_M} {r : mm_R} {x : Nat} : mm_Rn pg_G d 86 61 [.ref x, l1, l2, l3] (t) g r ↔ mm_Rn pg_G d 86 62 [.ref x, l1, l2, l3] (.ref x :: t) g r := rn_aload_n tb_86_61 rfl r
theorem tb_86_62 : mm_tb pg_G 86 62 = some (.getfield 28, 6, 7, 429) := rfl
theorem st_86_62 {d : Nat} {ls t : List Value} {g : mm_M} {r : mm_R} {x : Nat} (hT : g.1 x = some (6, 35)) : mm_Rn pg_G d 86 62 ls (.ref x :: t) g r ↔ mm_Rn pg_G d 86 65 ls (g.2.1 x 7 :: t) g r := rn_getfield tb_86_62 hT r
theorem tb_86_65 : mm_tb pg_G 86 65 = some (.iload_n 3, 0, 0, 0) := rfl
theorem st_86_65 {l0 l1 l2 : Value} {d : Nat} {t : List Value} {g : mm_M} {r : mm_R} {x : Int32} : mm_Rn pg_G d 86 65 [l0, l1, l2, .int x] (t) g r ↔ mm_Rn pg_G d 86 66 [l0, l1, l2, .int x] (.int x :: t) g r := rn_iload_n tb_86_65 rfl r
theorem tb_86_66 : mm_tb pg_G 86 66 = some (.iaload, 0, 0, 0) := rfl
theorem st_86_66 {d : Nat} {ls t : List Value} {g : mm_M} {r : mm_R} {x : Nat} {j : Int32} (hc : mm_in (g.1 x) 100 101 j = true) : mm_Rn pg_G d 86 66 ls (.int j :: .ref x :: t) g r ↔ mm_Rn pg_G d 86 67 ls (g.2.1 x j.toNatClampNeg :: t) g r := rn_iaload tb_86_66 hc r
theorem tb_86_67 : mm_tb pg_G 86 67 = some (.if_icmp .ge 5, 72, 0, 0) := rfl
theorem st_86_67 {d : Nat} {ls t : List Value} {g : mm_M} {r : mm_R} {x y : Int32} : mm_Rn pg_G d 86 67 ls (.int y :: .int x :: t) g r ↔ if y ≤ x then mm_Rn pg_G d 86 72 ls (t) g r else mm_Rn pg_G d 86 70 ls (t) g r := rn_icmp_ge tb_86_67 r
theorem tb_86_70 : mm_tb pg_G 86 70 = some (.iconst 1, 0, 0, 0) := rfl
theorem st_86_70 {d : Nat} {ls t : List Value} {g : mm_M} {r : mm_R} : mm_Rn pg_G d 86 70 ls (t) g r ↔ mm_Rn pg_G d 86 71 ls (io_v 1 :: t) g r := rn_iconst tb_86_70 r
theorem tb_86_71 : mm_tb pg_G 86 71 = some (.ireturn, 0, 0, 0) := rfl
theorem st_86_71 {d : Nat} {ls : List Value} {g : mm_M} {r : mm_R} {x : Int32} (hb : x = 0 ∨ x = 1) : mm_Rn pg_G d 86 71 ls [.int x] g r ↔ r = (some (.int x), g) := rn_ireturn_iff tb_86_71 (Or.inr ⟨rfl, hb⟩) r
theorem tb_86_72 : mm_tb pg_G 86 72 = some (.iinc 3 1, 0, 0, 0) := rfl
theorem st_86_72 {l0 l1 l2 : Value} {d : Nat} {t : List Value} {g : mm_M} {r : mm_R} {x : Int32} (hc : mm_c1 l2 = true) : mm_Rn pg_G d 86 72 [l0, l1, l2, .int x] (t) g r ↔ mm_Rn pg_G d 86 75 [l0, l1, l2, .int (x + Int32.ofInt 1)] (t) g r := rn_iinc tb_86_72 rfl (mm_so_of (ls := [l0, l1, l2, .int x]) (v := l2) (Nat.le_of_ble_eq_true rfl) rfl hc) r
theorem tb_86_75 : mm_tb pg_G 86 75 = some (.goto (-59), 16, 0, 0) := rfl
theorem st_86_75 {d : Nat} {ls t : List Value} {g : mm_M} {r : mm_R} : mm_Rn pg_G d 86 75 ls (t) g r ↔ mm_Rn pg_G d 86 16 ls (t) g r := rn_goto tb_86_75 r
theorem tb_86_78 : mm_tb pg_G 86 78 = some (.iconst 0, 0, 0, 0) := rfl
theorem st_86_78 {d : Nat} {ls t : List Value} {g : mm_M} {r : mm_R} : mm_Rn pg_G d 86 78 ls (t) g r ↔ mm_Rn pg_G d 86 79 ls (io_v 0 :: t) g r := rn_iconst tb_86_78 r
theorem tb_86_79 : mm_tb pg_G 86 79 = some (.ireturn, 0, 0, 0) := rfl
theorem st_86_79 {d : Nat} {ls : List Value} {g : mm_M} {r : mm_R} {x : Int32} (hb : x = 0 ∨ x = 1) : mm_Rn pg_G d 86 79 ls [.int x] g r ↔ r = (some (.int x), g) := rn_ireturn_iff tb_86_79 (Or.inr ⟨rfl, hb⟩) r
theorem tb_87_0 : mm_tb pg_G 87 0 = some (.aload_n 0, 0, 0, 0) := rfl
theorem st_87_0 {l1 : Value} {d : Nat} {t : List Value} {g : mm_M} {r : mm_R} {x : Nat} : mm_Rn pg_G d 87 0 [.ref x, l1] (t) g r ↔ mm_Rn pg_G d 87 1 [.ref x, l1] (.ref x :: t) g r := rn_aload_n tb_87_0 rfl r
theorem tb_87_1 : mm_tb pg_G 87 1 = some (.iload_n 1, 0, 0, 0) := rfl
theorem st_87_1 {l0 : Value} {d : Nat} {t : List Value} {g : mm_M} {r : mm_R} {x : Int32} : mm_Rn pg_G d 87 1 [l0, .int x] (t) g r ↔ mm_Rn pg_G d 87 2 [l0, .int x] (.int x :: t) g r := rn_iload_n tb_87_1 rfl r
theorem tb_87_2 : mm_tb pg_G 87 2 = some (.iconst 0, 0, 0, 0) := rfl
theorem st_87_2 {d : Nat} {ls t : List Value} {g : mm_M} {r : mm_R} : mm_Rn pg_G d 87 2 ls (t) g r ↔ mm_Rn pg_G d 87 3 ls (io_v 0 :: t) g r := rn_iconst tb_87_2 r
theorem tb_87_3 : mm_tb pg_G 87 3 = some (.invokevirtual 127, 86, 3, 544) := rfl
theorem st_87_3 {d c s c' s' : Nat} {ls t : List Value} {I J : sp_I} {r : mm_R} {a0 a1 : Int32} {y : Nat} {v : Int32} (hl : t.length ≤ 4) (hT : sp_T I y = some (6, 35)) (hq : mm_Rn pg_G d 86 0 [.ref y, .int a0, .int a1, .retAddr 0] [] (sp_me I 0 0) (some (.int v), sp_me J c' s')) : mm_Rn pg_G (d + 1) 87 3 ls (.int a1 :: .int a0 :: .ref y :: t) (sp_me I c s) r ↔ mm_Rn pg_G (d + 1) 87 6 ls (.int v :: t) (sp_me J (c + c') (s + s')) r := rn_virt (g := sp_me I c s) (st := .int a1 :: .int a0 :: .ref y :: t) tb_87_3 (decide_eq_true hT) ⟨Nat.le_add_left _ t.length, hl, rfl⟩ hq r
theorem tb_87_6 : mm_tb pg_G 87 6 = some (.ifCond .ne 30, 36, 0, 0) := rfl
theorem st_87_6 {d : Nat} {ls t : List Value} {g : mm_M} {r : mm_R} {x : Int32} : mm_Rn pg_G d 87 6 ls (.int x :: t) g r ↔ if x = 0 then mm_Rn pg_G d 87 9 ls (t) g r else mm_Rn pg_G d 87 36 ls (t) g r := rn_if_ne tb_87_6 r
theorem tb_87_9 : mm_tb pg_G 87 9 = some (.aload_n 0, 0, 0, 0) := rfl
theorem st_87_9 {l1 : Value} {d : Nat} {t : List Value} {g : mm_M} {r : mm_R} {x : Nat} : mm_Rn pg_G d 87 9 [.ref x, l1] (t) g r ↔ mm_Rn pg_G d 87 10 [.ref x, l1] (.ref x :: t) g r := rn_aload_n tb_87_9 rfl r
theorem tb_87_10 : mm_tb pg_G 87 10 = some (.iload_n 1, 0, 0, 0) := rfl
theorem st_87_10 {l0 : Value} {d : Nat} {t : List Value} {g : mm_M} {r : mm_R} {x : Int32} : mm_Rn pg_G d 87 10 [l0, .int x] (t) g r ↔ mm_Rn pg_G d 87 11 [l0, .int x] (.int x :: t) g r := rn_iload_n tb_87_10 rfl r
theorem tb_87_11 : mm_tb pg_G 87 11 = some (.iconst 1, 0, 0, 0) := rfl
theorem st_87_11 {d : Nat} {ls t : List Value} {g : mm_M} {r : mm_R} : mm_Rn pg_G d 87 11 ls (t) g r ↔ mm_Rn pg_G d 87 12 ls (io_v 1 :: t) g r := rn_iconst tb_87_11 r
theorem tb_87_12 : mm_tb pg_G 87 12 = some (.invokevirtual 127, 86, 3, 544) := rfl
theorem st_87_12 {d c s c' s' : Nat} {ls t : List Value} {I J : sp_I} {r : mm_R} {a0 a1 : Int32} {y : Nat} {v : Int32} (hl : t.length ≤ 4) (hT : sp_T I y = some (6, 35)) (hq : mm_Rn pg_G d 86 0 [.ref y, .int a0, .int a1, .retAddr 0] [] (sp_me I 0 0) (some (.int v), sp_me J c' s')) : mm_Rn pg_G (d + 1) 87 12 ls (.int a1 :: .int a0 :: .ref y :: t) (sp_me I c s) r ↔ mm_Rn pg_G (d + 1) 87 15 ls (.int v :: t) (sp_me J (c + c') (s + s')) r := rn_virt (g := sp_me I c s) (st := .int a1 :: .int a0 :: .ref y :: t) tb_87_12 (decide_eq_true hT) ⟨Nat.le_add_left _ t.length, hl, rfl⟩ hq r
theorem tb_87_15 : mm_tb pg_G 87 15 = some (.ifCond .ne 21, 36, 0, 0) := rfl
theorem st_87_15 {d : Nat} {ls t : List Value} {g : mm_M} {r : mm_R} {x : Int32} : mm_Rn pg_G d 87 15 ls (.int x :: t) g r ↔ if x = 0 then mm_Rn pg_G d 87 18 ls (t) g r else mm_Rn pg_G d 87 36 ls (t) g r := rn_if_ne tb_87_15 r
theorem tb_87_18 : mm_tb pg_G 87 18 = some (.aload_n 0, 0, 0, 0) := rfl
theorem st_87_18 {l1 : Value} {d : Nat} {t : List Value} {g : mm_M} {r : mm_R} {x : Nat} : mm_Rn pg_G d 87 18 [.ref x, l1] (t) g r ↔ mm_Rn pg_G d 87 19 [.ref x, l1] (.ref x :: t) g r := rn_aload_n tb_87_18 rfl r
theorem tb_87_19 : mm_tb pg_G 87 19 = some (.iload_n 1, 0, 0, 0) := rfl
theorem st_87_19 {l0 : Value} {d : Nat} {t : List Value} {g : mm_M} {r : mm_R} {x : Int32} : mm_Rn pg_G d 87 19 [l0, .int x] (t) g r ↔ mm_Rn pg_G d 87 20 [l0, .int x] (.int x :: t) g r := rn_iload_n tb_87_19 rfl r
theorem tb_87_20 : mm_tb pg_G 87 20 = some (.iconst 2, 0, 0, 0) := rfl
theorem st_87_20 {d : Nat} {ls t : List Value} {g : mm_M} {r : mm_R} : mm_Rn pg_G d 87 20 ls (t) g r ↔ mm_Rn pg_G d 87 21 ls (io_v 2 :: t) g r := rn_iconst tb_87_20 r
theorem tb_87_21 : mm_tb pg_G 87 21 = some (.invokevirtual 127, 86, 3, 544) := rfl
theorem st_87_21 {d c s c' s' : Nat} {ls t : List Value} {I J : sp_I} {r : mm_R} {a0 a1 : Int32} {y : Nat} {v : Int32} (hl : t.length ≤ 4) (hT : sp_T I y = some (6, 35)) (hq : mm_Rn pg_G d 86 0 [.ref y, .int a0, .int a1, .retAddr 0] [] (sp_me I 0 0) (some (.int v), sp_me J c' s')) : mm_Rn pg_G (d + 1) 87 21 ls (.int a1 :: .int a0 :: .ref y :: t) (sp_me I c s) r ↔ mm_Rn pg_G (d + 1) 87 24 ls (.int v :: t) (sp_me J (c + c') (s + s')) r := rn_virt (g := sp_me I c s) (st := .int a1 :: .int a0 :: .ref y :: t) tb_87_21 (decide_eq_true hT) ⟨Nat.le_add_left _ t.length, hl, rfl⟩ hq r
theorem tb_87_24 : mm_tb pg_G 87 24 = some (.ifCond .ne 12, 36, 0, 0) := rfl
theorem st_87_24 {d : Nat} {ls t : List Value} {g : mm_M} {r : mm_R} {x : Int32} : mm_Rn pg_G d 87 24 ls (.int x :: t) g r ↔ if x = 0 then mm_Rn pg_G d 87 27 ls (t) g r else mm_Rn pg_G d 87 36 ls (t) g r := rn_if_ne tb_87_24 r
theorem tb_87_27 : mm_tb pg_G 87 27 = some (.aload_n 0, 0, 0, 0) := rfl
theorem st_87_27 {l1 : Value} {d : Nat} {t : List Value} {g : mm_M} {r : mm_R} {x : Nat} : mm_Rn pg_G d 87 27 [.ref x, l1] (t) g r ↔ mm_Rn pg_G d 87 28 [.ref x, l1] (.ref x :: t) g r := rn_aload_n tb_87_27 rfl r
theorem tb_87_28 : mm_tb pg_G 87 28 = some (.iload_n 1, 0, 0, 0) := rfl
theorem st_87_28 {l0 : Value} {d : Nat} {t : List Value} {g : mm_M} {r : mm_R} {x : Int32} : mm_Rn pg_G d 87 28 [l0, .int x] (t) g r ↔ mm_Rn pg_G d 87 29 [l0, .int x] (.int x :: t) g r := rn_iload_n tb_87_28 rfl r
theorem tb_87_29 : mm_tb pg_G 87 29 = some (.iconst 3, 0, 0, 0) := rfl
theorem st_87_29 {d : Nat} {ls t : List Value} {g : mm_M} {r : mm_R} : mm_Rn pg_G d 87 29 ls (t) g r ↔ mm_Rn pg_G d 87 30 ls (io_v 3 :: t) g r := rn_iconst tb_87_29 r
theorem tb_87_30 : mm_tb pg_G 87 30 = some (.invokevirtual 127, 86, 3, 544) := rfl
theorem st_87_30 {d c s c' s' : Nat} {ls t : List Value} {I J : sp_I} {r : mm_R} {a0 a1 : Int32} {y : Nat} {v : Int32} (hl : t.length ≤ 4) (hT : sp_T I y = some (6, 35)) (hq : mm_Rn pg_G d 86 0 [.ref y, .int a0, .int a1, .retAddr 0] [] (sp_me I 0 0) (some (.int v), sp_me J c' s')) : mm_Rn pg_G (d + 1) 87 30 ls (.int a1 :: .int a0 :: .ref y :: t) (sp_me I c s) r ↔ mm_Rn pg_G (d + 1) 87 33 ls (.int v :: t) (sp_me J (c + c') (s + s')) r := rn_virt (g := sp_me I c s) (st := .int a1 :: .int a0 :: .ref y :: t) tb_87_30 (decide_eq_true hT) ⟨Nat.le_add_left _ t.length, hl, rfl⟩ hq r
theorem tb_87_33 : mm_tb pg_G 87 33 = some (.ifCond .eq 7, 40, 0, 0) := rfl
theorem st_87_33 {d : Nat} {ls t : List Value} {g : mm_M} {r : mm_R} {x : Int32} : mm_Rn pg_G d 87 33 ls (.int x :: t) g r ↔ if x = 0 then mm_Rn pg_G d 87 40 ls (t) g r else mm_Rn pg_G d 87 36 ls (t) g r := rn_if_eq tb_87_33 r
theorem tb_87_36 : mm_tb pg_G 87 36 = some (.iconst 1, 0, 0, 0) := rfl
theorem st_87_36 {d : Nat} {ls t : List Value} {g : mm_M} {r : mm_R} : mm_Rn pg_G d 87 36 ls (t) g r ↔ mm_Rn pg_G d 87 37 ls (io_v 1 :: t) g r := rn_iconst tb_87_36 r
theorem tb_87_37 : mm_tb pg_G 87 37 = some (.goto 4, 41, 0, 0) := rfl
theorem st_87_37 {d : Nat} {ls t : List Value} {g : mm_M} {r : mm_R} : mm_Rn pg_G d 87 37 ls (t) g r ↔ mm_Rn pg_G d 87 41 ls (t) g r := rn_goto tb_87_37 r
theorem tb_87_40 : mm_tb pg_G 87 40 = some (.iconst 0, 0, 0, 0) := rfl
theorem st_87_40 {d : Nat} {ls t : List Value} {g : mm_M} {r : mm_R} : mm_Rn pg_G d 87 40 ls (t) g r ↔ mm_Rn pg_G d 87 41 ls (io_v 0 :: t) g r := rn_iconst tb_87_40 r
theorem tb_87_41 : mm_tb pg_G 87 41 = some (.ireturn, 0, 0, 0) := rfl
theorem st_87_41 {d : Nat} {ls : List Value} {g : mm_M} {r : mm_R} {x : Int32} (hb : x = 0 ∨ x = 1) : mm_Rn pg_G d 87 41 ls [.int x] g r ↔ r = (some (.int x), g) := rn_ireturn_iff tb_87_41 (Or.inr ⟨rfl, hb⟩) r
theorem tb_88_0 : mm_tb pg_G 88 0 = some (.iload_n 1, 0, 0, 0) := rfl
theorem st_88_0 {l0 l2 : Value} {d : Nat} {t : List Value} {g : mm_M} {r : mm_R} {x : Int32} : mm_Rn pg_G d 88 0 [l0, .int x, l2] (t) g r ↔ mm_Rn pg_G d 88 1 [l0, .int x, l2] (.int x :: t) g r := rn_iload_n tb_88_0 rfl r
theorem tb_88_1 : mm_tb pg_G 88 1 = some (.ifCond .lt 8, 9, 0, 0) := rfl
theorem st_88_1 {d : Nat} {ls t : List Value} {g : mm_M} {r : mm_R} {x : Int32} : mm_Rn pg_G d 88 1 ls (.int x :: t) g r ↔ if x < 0 then mm_Rn pg_G d 88 9 ls (t) g r else mm_Rn pg_G d 88 4 ls (t) g r := rn_if_lt tb_88_1 r
theorem tb_88_4 : mm_tb pg_G 88 4 = some (.iload_n 1, 0, 0, 0) := rfl
theorem st_88_4 {l0 l2 : Value} {d : Nat} {t : List Value} {g : mm_M} {r : mm_R} {x : Int32} : mm_Rn pg_G d 88 4 [l0, .int x, l2] (t) g r ↔ mm_Rn pg_G d 88 5 [l0, .int x, l2] (.int x :: t) g r := rn_iload_n tb_88_4 rfl r
theorem tb_88_5 : mm_tb pg_G 88 5 = some (.iconst 3, 0, 0, 0) := rfl
theorem st_88_5 {d : Nat} {ls t : List Value} {g : mm_M} {r : mm_R} : mm_Rn pg_G d 88 5 ls (t) g r ↔ mm_Rn pg_G d 88 6 ls (io_v 3 :: t) g r := rn_iconst tb_88_5 r
theorem tb_88_6 : mm_tb pg_G 88 6 = some (.if_icmp .le 5, 11, 0, 0) := rfl
theorem st_88_6 {d : Nat} {ls t : List Value} {g : mm_M} {r : mm_R} {x y : Int32} : mm_Rn pg_G d 88 6 ls (.int y :: .int x :: t) g r ↔ if x ≤ y then mm_Rn pg_G d 88 11 ls (t) g r else mm_Rn pg_G d 88 9 ls (t) g r := rn_icmp_le tb_88_6 r
theorem tb_88_9 : mm_tb pg_G 88 9 = some (.iconst (-1), 0, 0, 0) := rfl
theorem st_88_9 {d : Nat} {ls t : List Value} {g : mm_M} {r : mm_R} : mm_Rn pg_G d 88 9 ls (t) g r ↔ mm_Rn pg_G d 88 10 ls (io_v (-1) :: t) g r := rn_iconst tb_88_9 r
theorem tb_88_10 : mm_tb pg_G 88 10 = some (.ireturn, 0, 0, 0) := rfl
theorem st_88_10 {d : Nat} {ls : List Value} {g : mm_M} {r : mm_R} {x : Int32} : mm_Rn pg_G d 88 10 ls [.int x] g r ↔ r = (some (.int x), g) := rn_ireturn_iff tb_88_10 (Or.inl rfl) r
theorem tb_88_11 : mm_tb pg_G 88 11 = some (.iconst 0, 0, 0, 0) := rfl
theorem st_88_11 {d : Nat} {ls t : List Value} {g : mm_M} {r : mm_R} : mm_Rn pg_G d 88 11 ls (t) g r ↔ mm_Rn pg_G d 88 12 ls (io_v 0 :: t) g r := rn_iconst tb_88_11 r
theorem tb_88_12 : mm_tb pg_G 88 12 = some (.istore_n 2, 0, 0, 0) := rfl
theorem st_88_12 {l0 l1 l2 : Value} {d : Nat} {t : List Value} {g : mm_M} {r : mm_R} {x : Int32} (hc : mm_c1 l1 = true) : mm_Rn pg_G d 88 12 [l0, l1, l2] (.int x :: t) g r ↔ mm_Rn pg_G d 88 13 [l0, l1, .int x] (t) g r := rn_istore_n tb_88_12 (mm_so_of (ls := [l0, l1, l2]) (v := l1) (Nat.le_of_ble_eq_true rfl) rfl hc) r
theorem tb_88_13 : mm_tb pg_G 88 13 = some (.iload_n 2, 0, 0, 0) := rfl
theorem st_88_13 {l0 l1 : Value} {d : Nat} {t : List Value} {g : mm_M} {r : mm_R} {x : Int32} : mm_Rn pg_G d 88 13 [l0, l1, .int x] (t) g r ↔ mm_Rn pg_G d 88 14 [l0, l1, .int x] (.int x :: t) g r := rn_iload_n tb_88_13 rfl r
theorem tb_88_14 : mm_tb pg_G 88 14 = some (.aload_n 0, 0, 0, 0) := rfl
theorem st_88_14 {l1 l2 : Value} {d : Nat} {t : List Value} {g : mm_M} {r : mm_R} {x : Nat} : mm_Rn pg_G d 88 14 [.ref x, l1, l2] (t) g r ↔ mm_Rn pg_G d 88 15 [.ref x, l1, l2] (.ref x :: t) g r := rn_aload_n tb_88_14 rfl r
theorem tb_88_15 : mm_tb pg_G 88 15 = some (.getfield 71, 6, 0, 422) := rfl
theorem st_88_15 {d : Nat} {ls t : List Value} {g : mm_M} {r : mm_R} {x : Nat} (hT : g.1 x = some (6, 35)) : mm_Rn pg_G d 88 15 ls (.ref x :: t) g r ↔ mm_Rn pg_G d 88 18 ls (g.2.1 x 0 :: t) g r := rn_getfield tb_88_15 hT r
theorem tb_88_18 : mm_tb pg_G 88 18 = some (.if_icmp .ge 20, 38, 0, 0) := rfl
theorem st_88_18 {d : Nat} {ls t : List Value} {g : mm_M} {r : mm_R} {x y : Int32} : mm_Rn pg_G d 88 18 ls (.int y :: .int x :: t) g r ↔ if y ≤ x then mm_Rn pg_G d 88 38 ls (t) g r else mm_Rn pg_G d 88 21 ls (t) g r := rn_icmp_ge tb_88_18 r
theorem tb_88_21 : mm_tb pg_G 88 21 = some (.aload_n 0, 0, 0, 0) := rfl
theorem st_88_21 {l1 l2 : Value} {d : Nat} {t : List Value} {g : mm_M} {r : mm_R} {x : Nat} : mm_Rn pg_G d 88 21 [.ref x, l1, l2] (t) g r ↔ mm_Rn pg_G d 88 22 [.ref x, l1, l2] (.ref x :: t) g r := rn_aload_n tb_88_21 rfl r
theorem tb_88_22 : mm_tb pg_G 88 22 = some (.iload_n 2, 0, 0, 0) := rfl
theorem st_88_22 {l0 l1 : Value} {d : Nat} {t : List Value} {g : mm_M} {r : mm_R} {x : Int32} : mm_Rn pg_G d 88 22 [l0, l1, .int x] (t) g r ↔ mm_Rn pg_G d 88 23 [l0, l1, .int x] (.int x :: t) g r := rn_iload_n tb_88_22 rfl r
theorem tb_88_23 : mm_tb pg_G 88 23 = some (.iload_n 1, 0, 0, 0) := rfl
theorem st_88_23 {l0 l2 : Value} {d : Nat} {t : List Value} {g : mm_M} {r : mm_R} {x : Int32} : mm_Rn pg_G d 88 23 [l0, .int x, l2] (t) g r ↔ mm_Rn pg_G d 88 24 [l0, .int x, l2] (.int x :: t) g r := rn_iload_n tb_88_23 rfl r
theorem tb_88_24 : mm_tb pg_G 88 24 = some (.invokevirtual 127, 86, 3, 544) := rfl
theorem st_88_24 {d c s c' s' : Nat} {ls t : List Value} {I J : sp_I} {r : mm_R} {a0 a1 : Int32} {y : Nat} {v : Int32} (hl : t.length ≤ 4) (hT : sp_T I y = some (6, 35)) (hq : mm_Rn pg_G d 86 0 [.ref y, .int a0, .int a1, .retAddr 0] [] (sp_me I 0 0) (some (.int v), sp_me J c' s')) : mm_Rn pg_G (d + 1) 88 24 ls (.int a1 :: .int a0 :: .ref y :: t) (sp_me I c s) r ↔ mm_Rn pg_G (d + 1) 88 27 ls (.int v :: t) (sp_me J (c + c') (s + s')) r := rn_virt (g := sp_me I c s) (st := .int a1 :: .int a0 :: .ref y :: t) tb_88_24 (decide_eq_true hT) ⟨Nat.le_add_left _ t.length, hl, rfl⟩ hq r
theorem tb_88_27 : mm_tb pg_G 88 27 = some (.ifCond .eq 5, 32, 0, 0) := rfl
theorem st_88_27 {d : Nat} {ls t : List Value} {g : mm_M} {r : mm_R} {x : Int32} : mm_Rn pg_G d 88 27 ls (.int x :: t) g r ↔ if x = 0 then mm_Rn pg_G d 88 32 ls (t) g r else mm_Rn pg_G d 88 30 ls (t) g r := rn_if_eq tb_88_27 r
theorem tb_88_30 : mm_tb pg_G 88 30 = some (.iload_n 2, 0, 0, 0) := rfl
theorem st_88_30 {l0 l1 : Value} {d : Nat} {t : List Value} {g : mm_M} {r : mm_R} {x : Int32} : mm_Rn pg_G d 88 30 [l0, l1, .int x] (t) g r ↔ mm_Rn pg_G d 88 31 [l0, l1, .int x] (.int x :: t) g r := rn_iload_n tb_88_30 rfl r
theorem tb_88_31 : mm_tb pg_G 88 31 = some (.ireturn, 0, 0, 0) := rfl
theorem st_88_31 {d : Nat} {ls : List Value} {g : mm_M} {r : mm_R} {x : Int32} : mm_Rn pg_G d 88 31 ls [.int x] g r ↔ r = (some (.int x), g) := rn_ireturn_iff tb_88_31 (Or.inl rfl) r
theorem tb_88_32 : mm_tb pg_G 88 32 = some (.iinc 2 1, 0, 0, 0) := rfl
theorem st_88_32 {l0 l1 : Value} {d : Nat} {t : List Value} {g : mm_M} {r : mm_R} {x : Int32} (hc : mm_c1 l1 = true) : mm_Rn pg_G d 88 32 [l0, l1, .int x] (t) g r ↔ mm_Rn pg_G d 88 35 [l0, l1, .int (x + Int32.ofInt 1)] (t) g r := rn_iinc tb_88_32 rfl (mm_so_of (ls := [l0, l1, .int x]) (v := l1) (Nat.le_of_ble_eq_true rfl) rfl hc) r
theorem tb_88_35 : mm_tb pg_G 88 35 = some (.goto (-22), 13, 0, 0) := rfl
theorem st_88_35 {d : Nat} {ls t : List Value} {g : mm_M} {r : mm_R} : mm_Rn pg_G d 88 35 ls (t) g r ↔ mm_Rn pg_G d 88 13 ls (t) g r := rn_goto tb_88_35 r
theorem tb_88_38 : mm_tb pg_G 88 38 = some (.iconst (-1), 0, 0, 0) := rfl
theorem st_88_38 {d : Nat} {ls t : List Value} {g : mm_M} {r : mm_R} : mm_Rn pg_G d 88 38 ls (t) g r ↔ mm_Rn pg_G d 88 39 ls (io_v (-1) :: t) g r := rn_iconst tb_88_38 r
theorem tb_88_39 : mm_tb pg_G 88 39 = some (.ireturn, 0, 0, 0) := rfl
theorem st_88_39 {d : Nat} {ls : List Value} {g : mm_M} {r : mm_R} {x : Int32} : mm_Rn pg_G d 88 39 ls [.int x] g r ↔ r = (some (.int x), g) := rn_ireturn_iff tb_88_39 (Or.inl rfl) r
theorem tb_89_0 : mm_tb pg_G 89 0 = some (.iconst 0, 0, 0, 0) := rfl
theorem st_89_0 {d : Nat} {ls t : List Value} {g : mm_M} {r : mm_R} : mm_Rn pg_G d 89 0 ls (t) g r ↔ mm_Rn pg_G d 89 1 ls (io_v 0 :: t) g r := rn_iconst tb_89_0 r
theorem tb_89_1 : mm_tb pg_G 89 1 = some (.istore_n 1, 0, 0, 0) := rfl
theorem st_89_1 {l0 l1 l2 l3 : Value} {d : Nat} {t : List Value} {g : mm_M} {r : mm_R} {x : Int32} (hc : mm_c1 l0 = true) : mm_Rn pg_G d 89 1 [l0, l1, l2, l3] (.int x :: t) g r ↔ mm_Rn pg_G d 89 2 [l0, .int x, l2, l3] (t) g r := rn_istore_n tb_89_1 (mm_so_of (ls := [l0, l1, l2, l3]) (v := l0) (Nat.le_of_ble_eq_true rfl) rfl hc) r
theorem tb_89_2 : mm_tb pg_G 89 2 = some (.iconst 0, 0, 0, 0) := rfl
theorem st_89_2 {d : Nat} {ls t : List Value} {g : mm_M} {r : mm_R} : mm_Rn pg_G d 89 2 ls (t) g r ↔ mm_Rn pg_G d 89 3 ls (io_v 0 :: t) g r := rn_iconst tb_89_2 r
theorem tb_89_3 : mm_tb pg_G 89 3 = some (.istore_n 2, 0, 0, 0) := rfl
theorem st_89_3 {l0 l1 l2 l3 : Value} {d : Nat} {t : List Value} {g : mm_M} {r : mm_R} {x : Int32} (hc : mm_c1 l1 = true) : mm_Rn pg_G d 89 3 [l0, l1, l2, l3] (.int x :: t) g r ↔ mm_Rn pg_G d 89 4 [l0, l1, .int x, l3] (t) g r := rn_istore_n tb_89_3 (mm_so_of (ls := [l0, l1, l2, l3]) (v := l1) (Nat.le_of_ble_eq_true rfl) rfl hc) r
theorem tb_89_4 : mm_tb pg_G 89 4 = some (.iload_n 2, 0, 0, 0) := rfl
theorem st_89_4 {l0 l1 l3 : Value} {d : Nat} {t : List Value} {g : mm_M} {r : mm_R} {x : Int32} : mm_Rn pg_G d 89 4 [l0, l1, .int x, l3] (t) g r ↔ mm_Rn pg_G d 89 5 [l0, l1, .int x, l3] (.int x :: t) g r := rn_iload_n tb_89_4 rfl r
theorem tb_89_5 : mm_tb pg_G 89 5 = some (.iconst 4, 0, 0, 0) := rfl
theorem st_89_5 {d : Nat} {ls t : List Value} {g : mm_M} {r : mm_R} : mm_Rn pg_G d 89 5 ls (t) g r ↔ mm_Rn pg_G d 89 6 ls (io_v 4 :: t) g r := rn_iconst tb_89_5 r
theorem tb_89_6 : mm_tb pg_G 89 6 = some (.if_icmp .ge 31, 37, 0, 0) := rfl
theorem st_89_6 {d : Nat} {ls t : List Value} {g : mm_M} {r : mm_R} {x y : Int32} : mm_Rn pg_G d 89 6 ls (.int y :: .int x :: t) g r ↔ if y ≤ x then mm_Rn pg_G d 89 37 ls (t) g r else mm_Rn pg_G d 89 9 ls (t) g r := rn_icmp_ge tb_89_6 r
theorem tb_89_9 : mm_tb pg_G 89 9 = some (.aload_n 0, 0, 0, 0) := rfl
theorem st_89_9 {l1 l2 l3 : Value} {d : Nat} {t : List Value} {g : mm_M} {r : mm_R} {x : Nat} : mm_Rn pg_G d 89 9 [.ref x, l1, l2, l3] (t) g r ↔ mm_Rn pg_G d 89 10 [.ref x, l1, l2, l3] (.ref x :: t) g r := rn_aload_n tb_89_9 rfl r
theorem tb_89_10 : mm_tb pg_G 89 10 = some (.iload_n 2, 0, 0, 0) := rfl
theorem st_89_10 {l0 l1 l3 : Value} {d : Nat} {t : List Value} {g : mm_M} {r : mm_R} {x : Int32} : mm_Rn pg_G d 89 10 [l0, l1, .int x, l3] (t) g r ↔ mm_Rn pg_G d 89 11 [l0, l1, .int x, l3] (.int x :: t) g r := rn_iload_n tb_89_10 rfl r
theorem tb_89_11 : mm_tb pg_G 89 11 = some (.invokevirtual 96, 76, 2, 531) := rfl
theorem st_89_11 {d c s c' s' : Nat} {ls t : List Value} {I J : sp_I} {r : mm_R} {a0 : Int32} {y : Nat} {v : Int32} (hl : t.length ≤ 4) (hT : sp_T I y = some (6, 35)) (hq : mm_Rn pg_G d 76 0 [.ref y, .int a0, .retAddr 0, .retAddr 0, .retAddr 0] [] (sp_me I 0 0) (some (.int v), sp_me J c' s')) : mm_Rn pg_G (d + 1) 89 11 ls (.int a0 :: .ref y :: t) (sp_me I c s) r ↔ mm_Rn pg_G (d + 1) 89 14 ls (.int v :: t) (sp_me J (c + c') (s + s')) r := rn_virt (g := sp_me I c s) (st := .int a0 :: .ref y :: t) tb_89_11 (decide_eq_true hT) ⟨Nat.le_add_left _ t.length, hl, rfl⟩ hq r
theorem tb_89_14 : mm_tb pg_G 89 14 = some (.istore_n 3, 0, 0, 0) := rfl
theorem st_89_14 {l0 l1 l2 l3 : Value} {d : Nat} {t : List Value} {g : mm_M} {r : mm_R} {x : Int32} (hc : mm_c1 l2 = true) : mm_Rn pg_G d 89 14 [l0, l1, l2, l3] (.int x :: t) g r ↔ mm_Rn pg_G d 89 15 [l0, l1, l2, .int x] (t) g r := rn_istore_n tb_89_14 (mm_so_of (ls := [l0, l1, l2, l3]) (v := l2) (Nat.le_of_ble_eq_true rfl) rfl hc) r
theorem tb_89_15 : mm_tb pg_G 89 15 = some (.aload_n 0, 0, 0, 0) := rfl
theorem st_89_15 {l1 l2 l3 : Value} {d : Nat} {t : List Value} {g : mm_M} {r : mm_R} {x : Nat} : mm_Rn pg_G d 89 15 [.ref x, l1, l2, l3] (t) g r ↔ mm_Rn pg_G d 89 16 [.ref x, l1, l2, l3] (.ref x :: t) g r := rn_aload_n tb_89_15 rfl r
theorem tb_89_16 : mm_tb pg_G 89 16 = some (.iload_n 2, 0, 0, 0) := rfl
theorem st_89_16 {l0 l1 l3 : Value} {d : Nat} {t : List Value} {g : mm_M} {r : mm_R} {x : Int32} : mm_Rn pg_G d 89 16 [l0, l1, .int x, l3] (t) g r ↔ mm_Rn pg_G d 89 17 [l0, l1, .int x, l3] (.int x :: t) g r := rn_iload_n tb_89_16 rfl r
theorem tb_89_17 : mm_tb pg_G 89 17 = some (.invokevirtual 130, 88, 2, 551) := rfl
theorem st_89_17 {d c s c' s' : Nat} {ls t : List Value} {I J : sp_I} {r : mm_R} {a0 : Int32} {y : Nat} {v : Int32} (hl : t.length ≤ 4) (hT : sp_T I y = some (6, 35)) (hq : mm_Rn pg_G d 88 0 [.ref y, .int a0, .retAddr 0] [] (sp_me I 0 0) (some (.int v), sp_me J c' s')) : mm_Rn pg_G (d + 1) 89 17 ls (.int a0 :: .ref y :: t) (sp_me I c s) r ↔ mm_Rn pg_G (d + 1) 89 20 ls (.int v :: t) (sp_me J (c + c') (s + s')) r := rn_virt (g := sp_me I c s) (st := .int a0 :: .ref y :: t) tb_89_17 (decide_eq_true hT) ⟨Nat.le_add_left _ t.length, hl, rfl⟩ hq r
theorem tb_89_20 : mm_tb pg_G 89 20 = some (.iconst (-1), 0, 0, 0) := rfl
theorem st_89_20 {d : Nat} {ls t : List Value} {g : mm_M} {r : mm_R} : mm_Rn pg_G d 89 20 ls (t) g r ↔ mm_Rn pg_G d 89 21 ls (io_v (-1) :: t) g r := rn_iconst tb_89_20 r
theorem tb_89_21 : mm_tb pg_G 89 21 = some (.if_icmp .eq 10, 31, 0, 0) := rfl
theorem st_89_21 {d : Nat} {ls t : List Value} {g : mm_M} {r : mm_R} {x y : Int32} : mm_Rn pg_G d 89 21 ls (.int y :: .int x :: t) g r ↔ if x = y then mm_Rn pg_G d 89 31 ls (t) g r else mm_Rn pg_G d 89 24 ls (t) g r := rn_icmp_eq tb_89_21 r
theorem tb_89_24 : mm_tb pg_G 89 24 = some (.iload_n 3, 0, 0, 0) := rfl
theorem st_89_24 {l0 l1 l2 : Value} {d : Nat} {t : List Value} {g : mm_M} {r : mm_R} {x : Int32} : mm_Rn pg_G d 89 24 [l0, l1, l2, .int x] (t) g r ↔ mm_Rn pg_G d 89 25 [l0, l1, l2, .int x] (.int x :: t) g r := rn_iload_n tb_89_24 rfl r
theorem tb_89_25 : mm_tb pg_G 89 25 = some (.iload_n 1, 0, 0, 0) := rfl
theorem st_89_25 {l0 l2 l3 : Value} {d : Nat} {t : List Value} {g : mm_M} {r : mm_R} {x : Int32} : mm_Rn pg_G d 89 25 [l0, .int x, l2, l3] (t) g r ↔ mm_Rn pg_G d 89 26 [l0, .int x, l2, l3] (.int x :: t) g r := rn_iload_n tb_89_25 rfl r
theorem tb_89_26 : mm_tb pg_G 89 26 = some (.if_icmp .le 5, 31, 0, 0) := rfl
theorem st_89_26 {d : Nat} {ls t : List Value} {g : mm_M} {r : mm_R} {x y : Int32} : mm_Rn pg_G d 89 26 ls (.int y :: .int x :: t) g r ↔ if x ≤ y then mm_Rn pg_G d 89 31 ls (t) g r else mm_Rn pg_G d 89 29 ls (t) g r := rn_icmp_le tb_89_26 r
theorem tb_89_29 : mm_tb pg_G 89 29 = some (.iload_n 3, 0, 0, 0) := rfl
theorem st_89_29 {l0 l1 l2 : Value} {d : Nat} {t : List Value} {g : mm_M} {r : mm_R} {x : Int32} : mm_Rn pg_G d 89 29 [l0, l1, l2, .int x] (t) g r ↔ mm_Rn pg_G d 89 30 [l0, l1, l2, .int x] (.int x :: t) g r := rn_iload_n tb_89_29 rfl r
theorem tb_89_30 : mm_tb pg_G 89 30 = some (.istore_n 1, 0, 0, 0) := rfl
theorem st_89_30 {l0 l1 l2 l3 : Value} {d : Nat} {t : List Value} {g : mm_M} {r : mm_R} {x : Int32} (hc : mm_c1 l0 = true) : mm_Rn pg_G d 89 30 [l0, l1, l2, l3] (.int x :: t) g r ↔ mm_Rn pg_G d 89 31 [l0, .int x, l2, l3] (t) g r := rn_istore_n tb_89_30 (mm_so_of (ls := [l0, l1, l2, l3]) (v := l0) (Nat.le_of_ble_eq_true rfl) rfl hc) r
theorem tb_89_31 : mm_tb pg_G 89 31 = some (.iinc 2 1, 0, 0, 0) := rfl
theorem st_89_31 {l0 l1 l3 : Value} {d : Nat} {t : List Value} {g : mm_M} {r : mm_R} {x : Int32} (hc : mm_c1 l1 = true) : mm_Rn pg_G d 89 31 [l0, l1, .int x, l3] (t) g r ↔ mm_Rn pg_G d 89 34 [l0, l1, .int (x + Int32.ofInt 1), l3] (t) g r := rn_iinc tb_89_31 rfl (mm_so_of (ls := [l0, l1, .int x, l3]) (v := l1) (Nat.le_of_ble_eq_true rfl) rfl hc) r
theorem tb_89_34 : mm_tb pg_G 89 34 = some (.goto (-30), 4, 0, 0) := rfl
theorem st_89_34 {d : Nat} {ls t : List Value} {g : mm_M} {r : mm_R} : mm_Rn pg_G d 89 34 ls (t) g r ↔ mm_Rn pg_G d 89 4 ls (t) g r := rn_goto tb_89_34 r
theorem tb_89_37 : mm_tb pg_G 89 37 = some (.iload_n 1, 0, 0, 0) := rfl
theorem st_89_37 {l0 l2 l3 : Value} {d : Nat} {t : List Value} {g : mm_M} {r : mm_R} {x : Int32} : mm_Rn pg_G d 89 37 [l0, .int x, l2, l3] (t) g r ↔ mm_Rn pg_G d 89 38 [l0, .int x, l2, l3] (.int x :: t) g r := rn_iload_n tb_89_37 rfl r
theorem tb_89_38 : mm_tb pg_G 89 38 = some (.ireturn, 0, 0, 0) := rfl
theorem st_89_38 {d : Nat} {ls : List Value} {g : mm_M} {r : mm_R} {x : Int32} : mm_Rn pg_G d 89 38 ls [.int x] g r ↔ r = (some (.int x), g) := rn_ireturn_iff tb_89_38 (Or.inl rfl) r
theorem tb_90_0 : mm_tb pg_G 90 0 = some (.aload_n 0, 0, 0, 0) := rfl
theorem st_90_0 {l1 l2 l3 l4 : Value} {d : Nat} {t : List Value} {g : mm_M} {r : mm_R} {x : Nat} : mm_Rn pg_G d 90 0 [.ref x, l1, l2, l3, l4] (t) g r ↔ mm_Rn pg_G d 90 1 [.ref x, l1, l2, l3, l4] (.ref x :: t) g r := rn_aload_n tb_90_0 rfl r
theorem tb_90_1 : mm_tb pg_G 90 1 = some (.iconst 0, 0, 0, 0) := rfl
theorem st_90_1 {d : Nat} {ls t : List Value} {g : mm_M} {r : mm_R} : mm_Rn pg_G d 90 1 ls (t) g r ↔ mm_Rn pg_G d 90 2 ls (io_v 0 :: t) g r := rn_iconst tb_90_1 r
theorem tb_90_2 : mm_tb pg_G 90 2 = some (.invokevirtual 133, 85, 2, 562) := rfl
theorem st_90_2 {d c s c' s' : Nat} {ls t : List Value} {I J : sp_I} {r : mm_R} {a0 : Int32} {y : Nat} {v : Int32} (hl : t.length ≤ 4) (hT : sp_T I y = some (6, 35)) (hq : mm_Rn pg_G d 85 0 [.ref y, .int a0, .retAddr 0, .retAddr 0, .retAddr 0] [] (sp_me I 0 0) (some (.int v), sp_me J c' s')) : mm_Rn pg_G (d + 1) 90 2 ls (.int a0 :: .ref y :: t) (sp_me I c s) r ↔ mm_Rn pg_G (d + 1) 90 5 ls (.int v :: t) (sp_me J (c + c') (s + s')) r := rn_virt (g := sp_me I c s) (st := .int a0 :: .ref y :: t) tb_90_2 (decide_eq_true hT) ⟨Nat.le_add_left _ t.length, hl, rfl⟩ hq r
theorem tb_90_5 : mm_tb pg_G 90 5 = some (.istore_n 1, 0, 0, 0) := rfl
theorem st_90_5 {l0 l1 l2 l3 l4 : Value} {d : Nat} {t : List Value} {g : mm_M} {r : mm_R} {x : Int32} (hc : mm_c1 l0 = true) : mm_Rn pg_G d 90 5 [l0, l1, l2, l3, l4] (.int x :: t) g r ↔ mm_Rn pg_G d 90 6 [l0, .int x, l2, l3, l4] (t) g r := rn_istore_n tb_90_5 (mm_so_of (ls := [l0, l1, l2, l3, l4]) (v := l0) (Nat.le_of_ble_eq_true rfl) rfl hc) r
theorem tb_90_6 : mm_tb pg_G 90 6 = some (.iload_n 1, 0, 0, 0) := rfl
theorem st_90_6 {l0 l2 l3 l4 : Value} {d : Nat} {t : List Value} {g : mm_M} {r : mm_R} {x : Int32} : mm_Rn pg_G d 90 6 [l0, .int x, l2, l3, l4] (t) g r ↔ mm_Rn pg_G d 90 7 [l0, .int x, l2, l3, l4] (.int x :: t) g r := rn_iload_n tb_90_6 rfl r
theorem tb_90_7 : mm_tb pg_G 90 7 = some (.ifCond .lt 18, 25, 0, 0) := rfl
theorem st_90_7 {d : Nat} {ls t : List Value} {g : mm_M} {r : mm_R} {x : Int32} : mm_Rn pg_G d 90 7 ls (.int x :: t) g r ↔ if x < 0 then mm_Rn pg_G d 90 25 ls (t) g r else mm_Rn pg_G d 90 10 ls (t) g r := rn_if_lt tb_90_7 r
theorem tb_90_10 : mm_tb pg_G 90 10 = some (.iload_n 1, 0, 0, 0) := rfl
theorem st_90_10 {l0 l2 l3 l4 : Value} {d : Nat} {t : List Value} {g : mm_M} {r : mm_R} {x : Int32} : mm_Rn pg_G d 90 10 [l0, .int x, l2, l3, l4] (t) g r ↔ mm_Rn pg_G d 90 11 [l0, .int x, l2, l3, l4] (.int x :: t) g r := rn_iload_n tb_90_10 rfl r
theorem tb_90_11 : mm_tb pg_G 90 11 = some (.bipush 6, 0, 0, 0) := rfl
theorem st_90_11 {d : Nat} {ls t : List Value} {g : mm_M} {r : mm_R} : mm_Rn pg_G d 90 11 ls (t) g r ↔ mm_Rn pg_G d 90 13 ls (io_v 6 :: t) g r := rn_bipush tb_90_11 r
theorem tb_90_13 : mm_tb pg_G 90 13 = some (.if_icmp .eq 12, 25, 0, 0) := rfl
theorem st_90_13 {d : Nat} {ls t : List Value} {g : mm_M} {r : mm_R} {x y : Int32} : mm_Rn pg_G d 90 13 ls (.int y :: .int x :: t) g r ↔ if x = y then mm_Rn pg_G d 90 25 ls (t) g r else mm_Rn pg_G d 90 16 ls (t) g r := rn_icmp_eq tb_90_13 r
theorem tb_90_16 : mm_tb pg_G 90 16 = some (.aload_n 0, 0, 0, 0) := rfl
theorem st_90_16 {l1 l2 l3 l4 : Value} {d : Nat} {t : List Value} {g : mm_M} {r : mm_R} {x : Nat} : mm_Rn pg_G d 90 16 [.ref x, l1, l2, l3, l4] (t) g r ↔ mm_Rn pg_G d 90 17 [.ref x, l1, l2, l3, l4] (.ref x :: t) g r := rn_aload_n tb_90_16 rfl r
theorem tb_90_17 : mm_tb pg_G 90 17 = some (.getfield 43, 6, 21, 443) := rfl
theorem st_90_17 {d : Nat} {ls t : List Value} {g : mm_M} {r : mm_R} {x : Nat} (hT : g.1 x = some (6, 35)) : mm_Rn pg_G d 90 17 ls (.ref x :: t) g r ↔ mm_Rn pg_G d 90 20 ls (g.2.1 x 21 :: t) g r := rn_getfield tb_90_17 hT r
theorem tb_90_20 : mm_tb pg_G 90 20 = some (.iload_n 1, 0, 0, 0) := rfl
theorem st_90_20 {l0 l2 l3 l4 : Value} {d : Nat} {t : List Value} {g : mm_M} {r : mm_R} {x : Int32} : mm_Rn pg_G d 90 20 [l0, .int x, l2, l3, l4] (t) g r ↔ mm_Rn pg_G d 90 21 [l0, .int x, l2, l3, l4] (.int x :: t) g r := rn_iload_n tb_90_20 rfl r
theorem tb_90_21 : mm_tb pg_G 90 21 = some (.iaload, 0, 0, 0) := rfl
theorem st_90_21 {d : Nat} {ls t : List Value} {g : mm_M} {r : mm_R} {x : Nat} {j : Int32} (hc : mm_in (g.1 x) 100 101 j = true) : mm_Rn pg_G d 90 21 ls (.int j :: .ref x :: t) g r ↔ mm_Rn pg_G d 90 22 ls (g.2.1 x j.toNatClampNeg :: t) g r := rn_iaload tb_90_21 hc r
theorem tb_90_22 : mm_tb pg_G 90 22 = some (.ifCond .le 5, 27, 0, 0) := rfl
theorem st_90_22 {d : Nat} {ls t : List Value} {g : mm_M} {r : mm_R} {x : Int32} : mm_Rn pg_G d 90 22 ls (.int x :: t) g r ↔ if x ≤ 0 then mm_Rn pg_G d 90 27 ls (t) g r else mm_Rn pg_G d 90 25 ls (t) g r := rn_if_le tb_90_22 r
theorem tb_90_25 : mm_tb pg_G 90 25 = some (.iload_n 1, 0, 0, 0) := rfl
theorem st_90_25 {l0 l2 l3 l4 : Value} {d : Nat} {t : List Value} {g : mm_M} {r : mm_R} {x : Int32} : mm_Rn pg_G d 90 25 [l0, .int x, l2, l3, l4] (t) g r ↔ mm_Rn pg_G d 90 26 [l0, .int x, l2, l3, l4] (.int x :: t) g r := rn_iload_n tb_90_25 rfl r
theorem tb_90_26 : mm_tb pg_G 90 26 = some (.ireturn, 0, 0, 0) := rfl
theorem st_90_26 {d : Nat} {ls : List Value} {g : mm_M} {r : mm_R} {x : Int32} : mm_Rn pg_G d 90 26 ls [.int x] g r ↔ r = (some (.int x), g) := rn_ireturn_iff tb_90_26 (Or.inl rfl) r
theorem tb_90_27 : mm_tb pg_G 90 27 = some (.aload_n 0, 0, 0, 0) := rfl
theorem st_90_27 {l1 l2 l3 l4 : Value} {d : Nat} {t : List Value} {g : mm_M} {r : mm_R} {x : Nat} : mm_Rn pg_G d 90 27 [.ref x, l1, l2, l3, l4] (t) g r ↔ mm_Rn pg_G d 90 28 [.ref x, l1, l2, l3, l4] (.ref x :: t) g r := rn_aload_n tb_90_27 rfl r
theorem tb_90_28 : mm_tb pg_G 90 28 = some (.invokevirtual 136, 89, 1, 574) := rfl
theorem st_90_28 {d c s c' s' : Nat} {ls t : List Value} {I J : sp_I} {r : mm_R} {y : Nat} {v : Int32} (hl : t.length ≤ 4) (hT : sp_T I y = some (6, 35)) (hq : mm_Rn pg_G d 89 0 [.ref y, .retAddr 0, .retAddr 0, .retAddr 0] [] (sp_me I 0 0) (some (.int v), sp_me J c' s')) : mm_Rn pg_G (d + 1) 90 28 ls (.ref y :: t) (sp_me I c s) r ↔ mm_Rn pg_G (d + 1) 90 31 ls (.int v :: t) (sp_me J (c + c') (s + s')) r := rn_virt (g := sp_me I c s) (st := .ref y :: t) tb_90_28 (decide_eq_true hT) ⟨Nat.le_add_left _ t.length, hl, rfl⟩ hq r
theorem tb_90_31 : mm_tb pg_G 90 31 = some (.istore_n 2, 0, 0, 0) := rfl
theorem st_90_31 {l0 l1 l2 l3 l4 : Value} {d : Nat} {t : List Value} {g : mm_M} {r : mm_R} {x : Int32} (hc : mm_c1 l1 = true) : mm_Rn pg_G d 90 31 [l0, l1, l2, l3, l4] (.int x :: t) g r ↔ mm_Rn pg_G d 90 32 [l0, l1, .int x, l3, l4] (t) g r := rn_istore_n tb_90_31 (mm_so_of (ls := [l0, l1, l2, l3, l4]) (v := l1) (Nat.le_of_ble_eq_true rfl) rfl hc) r
theorem tb_90_32 : mm_tb pg_G 90 32 = some (.aload_n 0, 0, 0, 0) := rfl
theorem st_90_32 {l1 l2 l3 l4 : Value} {d : Nat} {t : List Value} {g : mm_M} {r : mm_R} {x : Nat} : mm_Rn pg_G d 90 32 [.ref x, l1, l2, l3, l4] (t) g r ↔ mm_Rn pg_G d 90 33 [.ref x, l1, l2, l3, l4] (.ref x :: t) g r := rn_aload_n tb_90_32 rfl r
theorem tb_90_33 : mm_tb pg_G 90 33 = some (.iload_n 1, 0, 0, 0) := rfl
theorem st_90_33 {l0 l2 l3 l4 : Value} {d : Nat} {t : List Value} {g : mm_M} {r : mm_R} {x : Int32} : mm_Rn pg_G d 90 33 [l0, .int x, l2, l3, l4] (t) g r ↔ mm_Rn pg_G d 90 34 [l0, .int x, l2, l3, l4] (.int x :: t) g r := rn_iload_n tb_90_33 rfl r
theorem tb_90_34 : mm_tb pg_G 90 34 = some (.invokevirtual 92, 75, 2, 518) := rfl
theorem st_90_34 {d c s c' s' : Nat} {ls t : List Value} {I J : sp_I} {r : mm_R} {a0 : Int32} {y : Nat} {v : Int32} (hl : t.length ≤ 4) (hT : sp_T I y = some (6, 35)) (hq : mm_Rn pg_G d 75 0 [.ref y, .int a0] [] (sp_me I 0 0) (some (.int v), sp_me J c' s')) : mm_Rn pg_G (d + 1) 90 34 ls (.int a0 :: .ref y :: t) (sp_me I c s) r ↔ mm_Rn pg_G (d + 1) 90 37 ls (.int v :: t) (sp_me J (c + c') (s + s')) r := rn_virt (g := sp_me I c s) (st := .int a0 :: .ref y :: t) tb_90_34 (decide_eq_true hT) ⟨Nat.le_add_left _ t.length, hl, rfl⟩ hq r
theorem tb_90_37 : mm_tb pg_G 90 37 = some (.iload_n 2, 0, 0, 0) := rfl
theorem st_90_37 {l0 l1 l3 l4 : Value} {d : Nat} {t : List Value} {g : mm_M} {r : mm_R} {x : Int32} : mm_Rn pg_G d 90 37 [l0, l1, .int x, l3, l4] (t) g r ↔ mm_Rn pg_G d 90 38 [l0, l1, .int x, l3, l4] (.int x :: t) g r := rn_iload_n tb_90_37 rfl r
theorem tb_90_38 : mm_tb pg_G 90 38 = some (.if_icmp .le 5, 43, 0, 0) := rfl
theorem st_90_38 {d : Nat} {ls t : List Value} {g : mm_M} {r : mm_R} {x y : Int32} : mm_Rn pg_G d 90 38 ls (.int y :: .int x :: t) g r ↔ if x ≤ y then mm_Rn pg_G d 90 43 ls (t) g r else mm_Rn pg_G d 90 41 ls (t) g r := rn_icmp_le tb_90_38 r
theorem tb_90_41 : mm_tb pg_G 90 41 = some (.iload_n 1, 0, 0, 0) := rfl
theorem st_90_41 {l0 l2 l3 l4 : Value} {d : Nat} {t : List Value} {g : mm_M} {r : mm_R} {x : Int32} : mm_Rn pg_G d 90 41 [l0, .int x, l2, l3, l4] (t) g r ↔ mm_Rn pg_G d 90 42 [l0, .int x, l2, l3, l4] (.int x :: t) g r := rn_iload_n tb_90_41 rfl r
theorem tb_90_42 : mm_tb pg_G 90 42 = some (.ireturn, 0, 0, 0) := rfl
theorem st_90_42 {d : Nat} {ls : List Value} {g : mm_M} {r : mm_R} {x : Int32} : mm_Rn pg_G d 90 42 ls [.int x] g r ↔ r = (some (.int x), g) := rn_ireturn_iff tb_90_42 (Or.inl rfl) r
theorem tb_90_43 : mm_tb pg_G 90 43 = some (.iconst 0, 0, 0, 0) := rfl
theorem st_90_43 {d : Nat} {ls t : List Value} {g : mm_M} {r : mm_R} : mm_Rn pg_G d 90 43 ls (t) g r ↔ mm_Rn pg_G d 90 44 ls (io_v 0 :: t) g r := rn_iconst tb_90_43 r
theorem tb_90_44 : mm_tb pg_G 90 44 = some (.istore_n 3, 0, 0, 0) := rfl
theorem st_90_44 {l0 l1 l2 l3 l4 : Value} {d : Nat} {t : List Value} {g : mm_M} {r : mm_R} {x : Int32} (hc : mm_c1 l2 = true) : mm_Rn pg_G d 90 44 [l0, l1, l2, l3, l4] (.int x :: t) g r ↔ mm_Rn pg_G d 90 45 [l0, l1, l2, .int x, l4] (t) g r := rn_istore_n tb_90_44 (mm_so_of (ls := [l0, l1, l2, l3, l4]) (v := l2) (Nat.le_of_ble_eq_true rfl) rfl hc) r
theorem tb_90_45 : mm_tb pg_G 90 45 = some (.iload_n 3, 0, 0, 0) := rfl
theorem st_90_45 {l0 l1 l2 l4 : Value} {d : Nat} {t : List Value} {g : mm_M} {r : mm_R} {x : Int32} : mm_Rn pg_G d 90 45 [l0, l1, l2, .int x, l4] (t) g r ↔ mm_Rn pg_G d 90 46 [l0, l1, l2, .int x, l4] (.int x :: t) g r := rn_iload_n tb_90_45 rfl r
theorem tb_90_46 : mm_tb pg_G 90 46 = some (.iconst 4, 0, 0, 0) := rfl
theorem st_90_46 {d : Nat} {ls t : List Value} {g : mm_M} {r : mm_R} : mm_Rn pg_G d 90 46 ls (t) g r ↔ mm_Rn pg_G d 90 47 ls (io_v 4 :: t) g r := rn_iconst tb_90_46 r
theorem tb_90_47 : mm_tb pg_G 90 47 = some (.if_icmp .ge 37, 84, 0, 0) := rfl
theorem st_90_47 {d : Nat} {ls t : List Value} {g : mm_M} {r : mm_R} {x y : Int32} : mm_Rn pg_G d 90 47 ls (.int y :: .int x :: t) g r ↔ if y ≤ x then mm_Rn pg_G d 90 84 ls (t) g r else mm_Rn pg_G d 90 50 ls (t) g r := rn_icmp_ge tb_90_47 r
theorem tb_90_50 : mm_tb pg_G 90 50 = some (.aload_n 0, 0, 0, 0) := rfl
theorem st_90_50 {l1 l2 l3 l4 : Value} {d : Nat} {t : List Value} {g : mm_M} {r : mm_R} {x : Nat} : mm_Rn pg_G d 90 50 [.ref x, l1, l2, l3, l4] (t) g r ↔ mm_Rn pg_G d 90 51 [.ref x, l1, l2, l3, l4] (.ref x :: t) g r := rn_aload_n tb_90_50 rfl r
theorem tb_90_51 : mm_tb pg_G 90 51 = some (.iload_n 3, 0, 0, 0) := rfl
theorem st_90_51 {l0 l1 l2 l4 : Value} {d : Nat} {t : List Value} {g : mm_M} {r : mm_R} {x : Int32} : mm_Rn pg_G d 90 51 [l0, l1, l2, .int x, l4] (t) g r ↔ mm_Rn pg_G d 90 52 [l0, l1, l2, .int x, l4] (.int x :: t) g r := rn_iload_n tb_90_51 rfl r
theorem tb_90_52 : mm_tb pg_G 90 52 = some (.invokevirtual 96, 76, 2, 531) := rfl
theorem st_90_52 {d c s c' s' : Nat} {ls t : List Value} {I J : sp_I} {r : mm_R} {a0 : Int32} {y : Nat} {v : Int32} (hl : t.length ≤ 4) (hT : sp_T I y = some (6, 35)) (hq : mm_Rn pg_G d 76 0 [.ref y, .int a0, .retAddr 0, .retAddr 0, .retAddr 0] [] (sp_me I 0 0) (some (.int v), sp_me J c' s')) : mm_Rn pg_G (d + 1) 90 52 ls (.int a0 :: .ref y :: t) (sp_me I c s) r ↔ mm_Rn pg_G (d + 1) 90 55 ls (.int v :: t) (sp_me J (c + c') (s + s')) r := rn_virt (g := sp_me I c s) (st := .int a0 :: .ref y :: t) tb_90_52 (decide_eq_true hT) ⟨Nat.le_add_left _ t.length, hl, rfl⟩ hq r
theorem tb_90_55 : mm_tb pg_G 90 55 = some (.istore 4, 0, 0, 0) := rfl
theorem st_90_55 {l0 l1 l2 l3 l4 : Value} {d : Nat} {t : List Value} {g : mm_M} {r : mm_R} {x : Int32} (hc : mm_c1 l3 = true) : mm_Rn pg_G d 90 55 [l0, l1, l2, l3, l4] (.int x :: t) g r ↔ mm_Rn pg_G d 90 57 [l0, l1, l2, l3, .int x] (t) g r := rn_istore tb_90_55 (mm_so_of (ls := [l0, l1, l2, l3, l4]) (v := l3) (Nat.le_of_ble_eq_true rfl) rfl hc) r
theorem tb_90_57 : mm_tb pg_G 90 57 = some (.iload 4, 0, 0, 0) := rfl
theorem st_90_57 {l0 l1 l2 l3 : Value} {d : Nat} {t : List Value} {g : mm_M} {r : mm_R} {x : Int32} : mm_Rn pg_G d 90 57 [l0, l1, l2, l3, .int x] (t) g r ↔ mm_Rn pg_G d 90 59 [l0, l1, l2, l3, .int x] (.int x :: t) g r := rn_iload tb_90_57 rfl r
theorem tb_90_59 : mm_tb pg_G 90 59 = some (.iload_n 2, 0, 0, 0) := rfl
theorem st_90_59 {l0 l1 l3 l4 : Value} {d : Nat} {t : List Value} {g : mm_M} {r : mm_R} {x : Int32} : mm_Rn pg_G d 90 59 [l0, l1, .int x, l3, l4] (t) g r ↔ mm_Rn pg_G d 90 60 [l0, l1, .int x, l3, l4] (.int x :: t) g r := rn_iload_n tb_90_59 rfl r
theorem tb_90_60 : mm_tb pg_G 90 60 = some (.if_icmp .ne 18, 78, 0, 0) := rfl
theorem st_90_60 {d : Nat} {ls t : List Value} {g : mm_M} {r : mm_R} {x y : Int32} : mm_Rn pg_G d 90 60 ls (.int y :: .int x :: t) g r ↔ if x = y then mm_Rn pg_G d 90 63 ls (t) g r else mm_Rn pg_G d 90 78 ls (t) g r := rn_icmp_ne tb_90_60 r
theorem tb_90_63 : mm_tb pg_G 90 63 = some (.aload_n 0, 0, 0, 0) := rfl
theorem st_90_63 {l1 l2 l3 l4 : Value} {d : Nat} {t : List Value} {g : mm_M} {r : mm_R} {x : Nat} : mm_Rn pg_G d 90 63 [.ref x, l1, l2, l3, l4] (t) g r ↔ mm_Rn pg_G d 90 64 [.ref x, l1, l2, l3, l4] (.ref x :: t) g r := rn_aload_n tb_90_63 rfl r
theorem tb_90_64 : mm_tb pg_G 90 64 = some (.iload_n 3, 0, 0, 0) := rfl
theorem st_90_64 {l0 l1 l2 l4 : Value} {d : Nat} {t : List Value} {g : mm_M} {r : mm_R} {x : Int32} : mm_Rn pg_G d 90 64 [l0, l1, l2, .int x, l4] (t) g r ↔ mm_Rn pg_G d 90 65 [l0, l1, l2, .int x, l4] (.int x :: t) g r := rn_iload_n tb_90_64 rfl r
theorem tb_90_65 : mm_tb pg_G 90 65 = some (.invokevirtual 130, 88, 2, 551) := rfl
theorem st_90_65 {d c s c' s' : Nat} {ls t : List Value} {I J : sp_I} {r : mm_R} {a0 : Int32} {y : Nat} {v : Int32} (hl : t.length ≤ 4) (hT : sp_T I y = some (6, 35)) (hq : mm_Rn pg_G d 88 0 [.ref y, .int a0, .retAddr 0] [] (sp_me I 0 0) (some (.int v), sp_me J c' s')) : mm_Rn pg_G (d + 1) 90 65 ls (.int a0 :: .ref y :: t) (sp_me I c s) r ↔ mm_Rn pg_G (d + 1) 90 68 ls (.int v :: t) (sp_me J (c + c') (s + s')) r := rn_virt (g := sp_me I c s) (st := .int a0 :: .ref y :: t) tb_90_65 (decide_eq_true hT) ⟨Nat.le_add_left _ t.length, hl, rfl⟩ hq r
theorem tb_90_68 : mm_tb pg_G 90 68 = some (.iconst (-1), 0, 0, 0) := rfl
theorem st_90_68 {d : Nat} {ls t : List Value} {g : mm_M} {r : mm_R} : mm_Rn pg_G d 90 68 ls (t) g r ↔ mm_Rn pg_G d 90 69 ls (io_v (-1) :: t) g r := rn_iconst tb_90_68 r
theorem tb_90_69 : mm_tb pg_G 90 69 = some (.if_icmp .eq 9, 78, 0, 0) := rfl
theorem st_90_69 {d : Nat} {ls t : List Value} {g : mm_M} {r : mm_R} {x y : Int32} : mm_Rn pg_G d 90 69 ls (.int y :: .int x :: t) g r ↔ if x = y then mm_Rn pg_G d 90 78 ls (t) g r else mm_Rn pg_G d 90 72 ls (t) g r := rn_icmp_eq tb_90_69 r
theorem tb_90_72 : mm_tb pg_G 90 72 = some (.aload_n 0, 0, 0, 0) := rfl
theorem st_90_72 {l1 l2 l3 l4 : Value} {d : Nat} {t : List Value} {g : mm_M} {r : mm_R} {x : Nat} : mm_Rn pg_G d 90 72 [.ref x, l1, l2, l3, l4] (t) g r ↔ mm_Rn pg_G d 90 73 [.ref x, l1, l2, l3, l4] (.ref x :: t) g r := rn_aload_n tb_90_72 rfl r
theorem tb_90_73 : mm_tb pg_G 90 73 = some (.iload_n 3, 0, 0, 0) := rfl
theorem st_90_73 {l0 l1 l2 l4 : Value} {d : Nat} {t : List Value} {g : mm_M} {r : mm_R} {x : Int32} : mm_Rn pg_G d 90 73 [l0, l1, l2, .int x, l4] (t) g r ↔ mm_Rn pg_G d 90 74 [l0, l1, l2, .int x, l4] (.int x :: t) g r := rn_iload_n tb_90_73 rfl r
theorem tb_90_74 : mm_tb pg_G 90 74 = some (.invokevirtual 130, 88, 2, 551) := rfl
theorem st_90_74 {d c s c' s' : Nat} {ls t : List Value} {I J : sp_I} {r : mm_R} {a0 : Int32} {y : Nat} {v : Int32} (hl : t.length ≤ 4) (hT : sp_T I y = some (6, 35)) (hq : mm_Rn pg_G d 88 0 [.ref y, .int a0, .retAddr 0] [] (sp_me I 0 0) (some (.int v), sp_me J c' s')) : mm_Rn pg_G (d + 1) 90 74 ls (.int a0 :: .ref y :: t) (sp_me I c s) r ↔ mm_Rn pg_G (d + 1) 90 77 ls (.int v :: t) (sp_me J (c + c') (s + s')) r := rn_virt (g := sp_me I c s) (st := .int a0 :: .ref y :: t) tb_90_74 (decide_eq_true hT) ⟨Nat.le_add_left _ t.length, hl, rfl⟩ hq r
theorem tb_90_77 : mm_tb pg_G 90 77 = some (.ireturn, 0, 0, 0) := rfl
theorem st_90_77 {d : Nat} {ls : List Value} {g : mm_M} {r : mm_R} {x : Int32} : mm_Rn pg_G d 90 77 ls [.int x] g r ↔ r = (some (.int x), g) := rn_ireturn_iff tb_90_77 (Or.inl rfl) r
theorem tb_90_78 : mm_tb pg_G 90 78 = some (.iinc 3 1, 0, 0, 0) := rfl
theorem st_90_78 {l0 l1 l2 l4 : Value} {d : Nat} {t : List Value} {g : mm_M} {r : mm_R} {x : Int32} (hc : mm_c1 l2 = true) : mm_Rn pg_G d 90 78 [l0, l1, l2, .int x, l4] (t) g r ↔ mm_Rn pg_G d 90 81 [l0, l1, l2, .int (x + Int32.ofInt 1), l4] (t) g r := rn_iinc tb_90_78 rfl (mm_so_of (ls := [l0, l1, l2, .int x, l4]) (v := l2) (Nat.le_of_ble_eq_true rfl) rfl hc) r
theorem tb_90_81 : mm_tb pg_G 90 81 = some (.goto (-36), 45, 0, 0) := rfl
theorem st_90_81 {d : Nat} {ls t : List Value} {g : mm_M} {r : mm_R} : mm_Rn pg_G d 90 81 ls (t) g r ↔ mm_Rn pg_G d 90 45 ls (t) g r := rn_goto tb_90_81 r
theorem tb_90_84 : mm_tb pg_G 90 84 = some (.iconst (-1), 0, 0, 0) := rfl
theorem st_90_84 {d : Nat} {ls t : List Value} {g : mm_M} {r : mm_R} : mm_Rn pg_G d 90 84 ls (t) g r ↔ mm_Rn pg_G d 90 85 ls (io_v (-1) :: t) g r := rn_iconst tb_90_84 r
theorem tb_90_85 : mm_tb pg_G 90 85 = some (.ireturn, 0, 0, 0) := rfl
theorem st_90_85 {d : Nat} {ls : List Value} {g : mm_M} {r : mm_R} {x : Int32} : mm_Rn pg_G d 90 85 ls [.int x] g r ↔ r = (some (.int x), g) := rn_ireturn_iff tb_90_85 (Or.inl rfl) r
theorem tb_91_0 : mm_tb pg_G 91 0 = some (.aload_n 0, 0, 0, 0) := rfl
theorem st_91_0 {l1 l2 : Value} {d : Nat} {t : List Value} {g : mm_M} {r : mm_R} {x : Nat} : mm_Rn pg_G d 91 0 [.ref x, l1, l2] (t) g r ↔ mm_Rn pg_G d 91 1 [.ref x, l1, l2] (.ref x :: t) g r := rn_aload_n tb_91_0 rfl r
theorem tb_91_1 : mm_tb pg_G 91 1 = some (.getfield 31, 6, 15, 437) := rfl
theorem st_91_1 {d : Nat} {ls t : List Value} {g : mm_M} {r : mm_R} {x : Nat} (hT : g.1 x = some (6, 35)) : mm_Rn pg_G d 91 1 ls (.ref x :: t) g r ↔ mm_Rn pg_G d 91 4 ls (g.2.1 x 15 :: t) g r := rn_getfield tb_91_1 hT r
theorem tb_91_4 : mm_tb pg_G 91 4 = some (.iconst 0, 0, 0, 0) := rfl
theorem st_91_4 {d : Nat} {ls t : List Value} {g : mm_M} {r : mm_R} : mm_Rn pg_G d 91 4 ls (t) g r ↔ mm_Rn pg_G d 91 5 ls (io_v 0 :: t) g r := rn_iconst tb_91_4 r
theorem tb_91_5 : mm_tb pg_G 91 5 = some (.dup2, 0, 0, 0) := rfl
theorem st_91_5 {d : Nat} {ls t : List Value} {g : mm_M} {r : mm_R} {v u : Value} (hc : mm_c1 v = true) (hc2 : mm_c1 u = true) : mm_Rn pg_G d 91 5 ls (v :: u :: t) g r ↔ mm_Rn pg_G d 91 6 ls (v :: u :: v :: u :: t) g r := rn_dup2 tb_91_5 hc hc2 r
theorem tb_91_6 : mm_tb pg_G 91 6 = some (.iaload, 0, 0, 0) := rfl
theorem st_91_6 {d : Nat} {ls t : List Value} {g : mm_M} {r : mm_R} {x : Nat} {j : Int32} (hc : mm_in (g.1 x) 100 101 j = true) : mm_Rn pg_G d 91 6 ls (.int j :: .ref x :: t) g r ↔ mm_Rn pg_G d 91 7 ls (g.2.1 x j.toNatClampNeg :: t) g r := rn_iaload tb_91_6 hc r
theorem tb_91_7 : mm_tb pg_G 91 7 = some (.iconst 1, 0, 0, 0) := rfl
theorem st_91_7 {d : Nat} {ls t : List Value} {g : mm_M} {r : mm_R} : mm_Rn pg_G d 91 7 ls (t) g r ↔ mm_Rn pg_G d 91 8 ls (io_v 1 :: t) g r := rn_iconst tb_91_7 r
theorem tb_91_8 : mm_tb pg_G 91 8 = some (.isub, 0, 0, 0) := rfl
theorem st_91_8 {d : Nat} {ls t : List Value} {g : mm_M} {r : mm_R} {x y : Int32} : mm_Rn pg_G d 91 8 ls (.int y :: .int x :: t) g r ↔ mm_Rn pg_G d 91 9 ls (.int (x - y) :: t) g r := rn_isub tb_91_8 r
theorem tb_91_9 : mm_tb pg_G 91 9 = some (.iastore, 0, 0, 0) := rfl
theorem st_91_9 {d : Nat} {ls t : List Value} {g : mm_M} {r : mm_R} {x : Nat} {j v : Int32} (hc : mm_in (g.1 x) 100 100 j = true) : mm_Rn pg_G d 91 9 ls (.int v :: .int j :: .ref x :: t) g r ↔ mm_Rn pg_G d 91 10 ls (t) (mm_wr g x j.toNatClampNeg (.int v)) r := rn_iastore tb_91_9 hc r
theorem tb_91_10 : mm_tb pg_G 91 10 = some (.aload_n 0, 0, 0, 0) := rfl
theorem st_91_10 {l1 l2 : Value} {d : Nat} {t : List Value} {g : mm_M} {r : mm_R} {x : Nat} : mm_Rn pg_G d 91 10 [.ref x, l1, l2] (t) g r ↔ mm_Rn pg_G d 91 11 [.ref x, l1, l2] (.ref x :: t) g r := rn_aload_n tb_91_10 rfl r
theorem tb_91_11 : mm_tb pg_G 91 11 = some (.dup, 0, 0, 0) := rfl
theorem st_91_11 {d : Nat} {ls t : List Value} {g : mm_M} {r : mm_R} {v : Value} (hc : mm_c1 v = true) : mm_Rn pg_G d 91 11 ls (v :: t) g r ↔ mm_Rn pg_G d 91 12 ls (v :: v :: t) g r := rn_dup tb_91_11 hc r
theorem tb_91_12 : mm_tb pg_G 91 12 = some (.getfield 89, 6, 12, 434) := rfl
theorem st_91_12 {d : Nat} {ls t : List Value} {g : mm_M} {r : mm_R} {x : Nat} (hT : g.1 x = some (6, 35)) : mm_Rn pg_G d 91 12 ls (.ref x :: t) g r ↔ mm_Rn pg_G d 91 15 ls (g.2.1 x 12 :: t) g r := rn_getfield tb_91_12 hT r
theorem tb_91_15 : mm_tb pg_G 91 15 = some (.iconst 1, 0, 0, 0) := rfl
theorem st_91_15 {d : Nat} {ls t : List Value} {g : mm_M} {r : mm_R} : mm_Rn pg_G d 91 15 ls (t) g r ↔ mm_Rn pg_G d 91 16 ls (io_v 1 :: t) g r := rn_iconst tb_91_15 r
theorem tb_91_16 : mm_tb pg_G 91 16 = some (.isub, 0, 0, 0) := rfl
theorem st_91_16 {d : Nat} {ls t : List Value} {g : mm_M} {r : mm_R} {x y : Int32} : mm_Rn pg_G d 91 16 ls (.int y :: .int x :: t) g r ↔ mm_Rn pg_G d 91 17 ls (.int (x - y) :: t) g r := rn_isub tb_91_16 r
theorem tb_91_17 : mm_tb pg_G 91 17 = some (.putfield 89, 6, 12, 434) := rfl
theorem st_91_17 {d : Nat} {ls t : List Value} {g : mm_M} {r : mm_R} {x : Nat} {v : Int32} (hT : g.1 x = some (6, 35)) : mm_Rn pg_G d 91 17 ls (.int v :: .ref x :: t) g r ↔ mm_Rn pg_G d 91 20 ls (t) (mm_wr g x 12 (.int v)) r := rn_putfield tb_91_17 hT rfl r
theorem tb_91_20 : mm_tb pg_G 91 20 = some (.iconst 0, 0, 0, 0) := rfl
theorem st_91_20 {d : Nat} {ls t : List Value} {g : mm_M} {r : mm_R} : mm_Rn pg_G d 91 20 ls (t) g r ↔ mm_Rn pg_G d 91 21 ls (io_v 0 :: t) g r := rn_iconst tb_91_20 r
theorem tb_91_21 : mm_tb pg_G 91 21 = some (.istore_n 1, 0, 0, 0) := rfl
theorem st_91_21 {l0 l1 l2 : Value} {d : Nat} {t : List Value} {g : mm_M} {r : mm_R} {x : Int32} (hc : mm_c1 l0 = true) : mm_Rn pg_G d 91 21 [l0, l1, l2] (.int x :: t) g r ↔ mm_Rn pg_G d 91 22 [l0, .int x, l2] (t) g r := rn_istore_n tb_91_21 (mm_so_of (ls := [l0, l1, l2]) (v := l0) (Nat.le_of_ble_eq_true rfl) rfl hc) r
theorem tb_91_22 : mm_tb pg_G 91 22 = some (.aload_n 0, 0, 0, 0) := rfl
theorem st_91_22 {l1 l2 : Value} {d : Nat} {t : List Value} {g : mm_M} {r : mm_R} {x : Nat} : mm_Rn pg_G d 91 22 [.ref x, l1, l2] (t) g r ↔ mm_Rn pg_G d 91 23 [.ref x, l1, l2] (.ref x :: t) g r := rn_aload_n tb_91_22 rfl r
theorem tb_91_23 : mm_tb pg_G 91 23 = some (.getfield 31, 6, 15, 437) := rfl
theorem st_91_23 {d : Nat} {ls t : List Value} {g : mm_M} {r : mm_R} {x : Nat} (hT : g.1 x = some (6, 35)) : mm_Rn pg_G d 91 23 ls (.ref x :: t) g r ↔ mm_Rn pg_G d 91 26 ls (g.2.1 x 15 :: t) g r := rn_getfield tb_91_23 hT r
theorem tb_91_26 : mm_tb pg_G 91 26 = some (.iconst 0, 0, 0, 0) := rfl
theorem st_91_26 {d : Nat} {ls t : List Value} {g : mm_M} {r : mm_R} : mm_Rn pg_G d 91 26 ls (t) g r ↔ mm_Rn pg_G d 91 27 ls (io_v 0 :: t) g r := rn_iconst tb_91_26 r
theorem tb_91_27 : mm_tb pg_G 91 27 = some (.iaload, 0, 0, 0) := rfl
theorem st_91_27 {d : Nat} {ls t : List Value} {g : mm_M} {r : mm_R} {x : Nat} {j : Int32} (hc : mm_in (g.1 x) 100 101 j = true) : mm_Rn pg_G d 91 27 ls (.int j :: .ref x :: t) g r ↔ mm_Rn pg_G d 91 28 ls (g.2.1 x j.toNatClampNeg :: t) g r := rn_iaload tb_91_27 hc r
theorem tb_91_28 : mm_tb pg_G 91 28 = some (.ifCond .ne 55, 83, 0, 0) := rfl
theorem st_91_28 {d : Nat} {ls t : List Value} {g : mm_M} {r : mm_R} {x : Int32} : mm_Rn pg_G d 91 28 ls (.int x :: t) g r ↔ if x = 0 then mm_Rn pg_G d 91 31 ls (t) g r else mm_Rn pg_G d 91 83 ls (t) g r := rn_if_ne tb_91_28 r
theorem tb_91_31 : mm_tb pg_G 91 31 = some (.iconst 1, 0, 0, 0) := rfl
theorem st_91_31 {d : Nat} {ls t : List Value} {g : mm_M} {r : mm_R} : mm_Rn pg_G d 91 31 ls (t) g r ↔ mm_Rn pg_G d 91 32 ls (io_v 1 :: t) g r := rn_iconst tb_91_31 r
theorem tb_91_32 : mm_tb pg_G 91 32 = some (.istore_n 2, 0, 0, 0) := rfl
theorem st_91_32 {l0 l1 l2 : Value} {d : Nat} {t : List Value} {g : mm_M} {r : mm_R} {x : Int32} (hc : mm_c1 l1 = true) : mm_Rn pg_G d 91 32 [l0, l1, l2] (.int x :: t) g r ↔ mm_Rn pg_G d 91 33 [l0, l1, .int x] (t) g r := rn_istore_n tb_91_32 (mm_so_of (ls := [l0, l1, l2]) (v := l1) (Nat.le_of_ble_eq_true rfl) rfl hc) r
theorem tb_91_33 : mm_tb pg_G 91 33 = some (.iload_n 2, 0, 0, 0) := rfl
theorem st_91_33 {l0 l1 : Value} {d : Nat} {t : List Value} {g : mm_M} {r : mm_R} {x : Int32} : mm_Rn pg_G d 91 33 [l0, l1, .int x] (t) g r ↔ mm_Rn pg_G d 91 34 [l0, l1, .int x] (.int x :: t) g r := rn_iload_n tb_91_33 rfl r
theorem tb_91_34 : mm_tb pg_G 91 34 = some (.aload_n 0, 0, 0, 0) := rfl
theorem st_91_34 {l1 l2 : Value} {d : Nat} {t : List Value} {g : mm_M} {r : mm_R} {x : Nat} : mm_Rn pg_G d 91 34 [.ref x, l1, l2] (t) g r ↔ mm_Rn pg_G d 91 35 [.ref x, l1, l2] (.ref x :: t) g r := rn_aload_n tb_91_34 rfl r
theorem tb_91_35 : mm_tb pg_G 91 35 = some (.getfield 111, 6, 14, 436) := rfl
theorem st_91_35 {d : Nat} {ls t : List Value} {g : mm_M} {r : mm_R} {x : Nat} (hT : g.1 x = some (6, 35)) : mm_Rn pg_G d 91 35 ls (.ref x :: t) g r ↔ mm_Rn pg_G d 91 38 ls (g.2.1 x 14 :: t) g r := rn_getfield tb_91_35 hT r
theorem tb_91_38 : mm_tb pg_G 91 38 = some (.if_icmp .ge 23, 61, 0, 0) := rfl
theorem st_91_38 {d : Nat} {ls t : List Value} {g : mm_M} {r : mm_R} {x y : Int32} : mm_Rn pg_G d 91 38 ls (.int y :: .int x :: t) g r ↔ if y ≤ x then mm_Rn pg_G d 91 61 ls (t) g r else mm_Rn pg_G d 91 41 ls (t) g r := rn_icmp_ge tb_91_38 r
theorem tb_91_41 : mm_tb pg_G 91 41 = some (.aload_n 0, 0, 0, 0) := rfl
theorem st_91_41 {l1 l2 : Value} {d : Nat} {t : List Value} {g : mm_M} {r : mm_R} {x : Nat} : mm_Rn pg_G d 91 41 [.ref x, l1, l2] (t) g r ↔ mm_Rn pg_G d 91 42 [.ref x, l1, l2] (.ref x :: t) g r := rn_aload_n tb_91_41 rfl r
theorem tb_91_42 : mm_tb pg_G 91 42 = some (.getfield 31, 6, 15, 437) := rfl
theorem st_91_42 {d : Nat} {ls t : List Value} {g : mm_M} {r : mm_R} {x : Nat} (hT : g.1 x = some (6, 35)) : mm_Rn pg_G d 91 42 ls (.ref x :: t) g r ↔ mm_Rn pg_G d 91 45 ls (g.2.1 x 15 :: t) g r := rn_getfield tb_91_42 hT r
theorem tb_91_45 : mm_tb pg_G 91 45 = some (.iload_n 2, 0, 0, 0) := rfl
theorem st_91_45 {l0 l1 : Value} {d : Nat} {t : List Value} {g : mm_M} {r : mm_R} {x : Int32} : mm_Rn pg_G d 91 45 [l0, l1, .int x] (t) g r ↔ mm_Rn pg_G d 91 46 [l0, l1, .int x] (.int x :: t) g r := rn_iload_n tb_91_45 rfl r
theorem tb_91_46 : mm_tb pg_G 91 46 = some (.iconst 1, 0, 0, 0) := rfl
theorem st_91_46 {d : Nat} {ls t : List Value} {g : mm_M} {r : mm_R} : mm_Rn pg_G d 91 46 ls (t) g r ↔ mm_Rn pg_G d 91 47 ls (io_v 1 :: t) g r := rn_iconst tb_91_46 r
theorem tb_91_47 : mm_tb pg_G 91 47 = some (.isub, 0, 0, 0) := rfl
theorem st_91_47 {d : Nat} {ls t : List Value} {g : mm_M} {r : mm_R} {x y : Int32} : mm_Rn pg_G d 91 47 ls (.int y :: .int x :: t) g r ↔ mm_Rn pg_G d 91 48 ls (.int (x - y) :: t) g r := rn_isub tb_91_47 r
theorem tb_91_48 : mm_tb pg_G 91 48 = some (.aload_n 0, 0, 0, 0) := rfl
theorem st_91_48 {l1 l2 : Value} {d : Nat} {t : List Value} {g : mm_M} {r : mm_R} {x : Nat} : mm_Rn pg_G d 91 48 [.ref x, l1, l2] (t) g r ↔ mm_Rn pg_G d 91 49 [.ref x, l1, l2] (.ref x :: t) g r := rn_aload_n tb_91_48 rfl r
theorem tb_91_49 : mm_tb pg_G 91 49 = some (.getfield 31, 6, 15, 437) := rfl
theorem st_91_49 {d : Nat} {ls t : List Value} {g : mm_M} {r : mm_R} {x : Nat} (hT : g.1 x = some (6, 35)) : mm_Rn pg_G d 91 49 ls (.ref x :: t) g r ↔ mm_Rn pg_G d 91 52 ls (g.2.1 x 15 :: t) g r := rn_getfield tb_91_49 hT r
theorem tb_91_52 : mm_tb pg_G 91 52 = some (.iload_n 2, 0, 0, 0) := rfl
theorem st_91_52 {l0 l1 : Value} {d : Nat} {t : List Value} {g : mm_M} {r : mm_R} {x : Int32} : mm_Rn pg_G d 91 52 [l0, l1, .int x] (t) g r ↔ mm_Rn pg_G d 91 53 [l0, l1, .int x] (.int x :: t) g r := rn_iload_n tb_91_52 rfl r
theorem tb_91_53 : mm_tb pg_G 91 53 = some (.iaload, 0, 0, 0) := rfl
theorem st_91_53 {d : Nat} {ls t : List Value} {g : mm_M} {r : mm_R} {x : Nat} {j : Int32} (hc : mm_in (g.1 x) 100 101 j = true) : mm_Rn pg_G d 91 53 ls (.int j :: .ref x :: t) g r ↔ mm_Rn pg_G d 91 54 ls (g.2.1 x j.toNatClampNeg :: t) g r := rn_iaload tb_91_53 hc r
theorem tb_91_54 : mm_tb pg_G 91 54 = some (.iastore, 0, 0, 0) := rfl
theorem st_91_54 {d : Nat} {ls t : List Value} {g : mm_M} {r : mm_R} {x : Nat} {j v : Int32} (hc : mm_in (g.1 x) 100 100 j = true) : mm_Rn pg_G d 91 54 ls (.int v :: .int j :: .ref x :: t) g r ↔ mm_Rn pg_G d 91 55 ls (t) (mm_wr g x j.toNatClampNeg (.int v)) r := rn_iastore tb_91_54 hc r
theorem tb_91_55 : mm_tb pg_G 91 55 = some (.iinc 2 1, 0, 0, 0) := rfl
theorem st_91_55 {l0 l1 : Value} {d : Nat} {t : List Value} {g : mm_M} {r : mm_R} {x : Int32} (hc : mm_c1 l1 = true) : mm_Rn pg_G d 91 55 [l0, l1, .int x] (t) g r ↔ mm_Rn pg_G d 91 58 [l0, l1, .int (x + Int32.ofInt 1)] (t) g r := rn_iinc tb_91_55 rfl (mm_so_of (ls := [l0, l1, .int x]) (v := l1) (Nat.le_of_ble_eq_true rfl) rfl hc) r
theorem tb_91_58 : mm_tb pg_G 91 58 = some (.goto (-25), 33, 0, 0) := rfl
theorem st_91_58 {d : Nat} {ls t : List Value} {g : mm_M} {r : mm_R} : mm_Rn pg_G d 91 58 ls (t) g r ↔ mm_Rn pg_G d 91 33 ls (t) g r := rn_goto tb_91_58 r
theorem tb_91_61 : mm_tb pg_G 91 61 = some (.aload_n 0, 0, 0, 0) := rfl
theorem st_91_61 {l1 l2 : Value} {d : Nat} {t : List Value} {g : mm_M} {r : mm_R} {x : Nat} : mm_Rn pg_G d 91 61 [.ref x, l1, l2] (t) g r ↔ mm_Rn pg_G d 91 62 [.ref x, l1, l2] (.ref x :: t) g r := rn_aload_n tb_91_61 rfl r
theorem tb_91_62 : mm_tb pg_G 91 62 = some (.dup, 0, 0, 0) := rfl
theorem st_91_62 {d : Nat} {ls t : List Value} {g : mm_M} {r : mm_R} {v : Value} (hc : mm_c1 v = true) : mm_Rn pg_G d 91 62 ls (v :: t) g r ↔ mm_Rn pg_G d 91 63 ls (v :: v :: t) g r := rn_dup tb_91_62 hc r
theorem tb_91_63 : mm_tb pg_G 91 63 = some (.getfield 111, 6, 14, 436) := rfl
theorem st_91_63 {d : Nat} {ls t : List Value} {g : mm_M} {r : mm_R} {x : Nat} (hT : g.1 x = some (6, 35)) : mm_Rn pg_G d 91 63 ls (.ref x :: t) g r ↔ mm_Rn pg_G d 91 66 ls (g.2.1 x 14 :: t) g r := rn_getfield tb_91_63 hT r
theorem tb_91_66 : mm_tb pg_G 91 66 = some (.iconst 1, 0, 0, 0) := rfl
theorem st_91_66 {d : Nat} {ls t : List Value} {g : mm_M} {r : mm_R} : mm_Rn pg_G d 91 66 ls (t) g r ↔ mm_Rn pg_G d 91 67 ls (io_v 1 :: t) g r := rn_iconst tb_91_66 r
theorem tb_91_67 : mm_tb pg_G 91 67 = some (.isub, 0, 0, 0) := rfl
theorem st_91_67 {d : Nat} {ls t : List Value} {g : mm_M} {r : mm_R} {x y : Int32} : mm_Rn pg_G d 91 67 ls (.int y :: .int x :: t) g r ↔ mm_Rn pg_G d 91 68 ls (.int (x - y) :: t) g r := rn_isub tb_91_67 r
theorem tb_91_68 : mm_tb pg_G 91 68 = some (.putfield 111, 6, 14, 436) := rfl
theorem st_91_68 {d : Nat} {ls t : List Value} {g : mm_M} {r : mm_R} {x : Nat} {v : Int32} (hT : g.1 x = some (6, 35)) : mm_Rn pg_G d 91 68 ls (.int v :: .ref x :: t) g r ↔ mm_Rn pg_G d 91 71 ls (t) (mm_wr g x 14 (.int v)) r := rn_putfield tb_91_68 hT rfl r
theorem tb_91_71 : mm_tb pg_G 91 71 = some (.aload_n 0, 0, 0, 0) := rfl
theorem st_91_71 {l1 l2 : Value} {d : Nat} {t : List Value} {g : mm_M} {r : mm_R} {x : Nat} : mm_Rn pg_G d 91 71 [.ref x, l1, l2] (t) g r ↔ mm_Rn pg_G d 91 72 [.ref x, l1, l2] (.ref x :: t) g r := rn_aload_n tb_91_71 rfl r
theorem tb_91_72 : mm_tb pg_G 91 72 = some (.dup, 0, 0, 0) := rfl
theorem st_91_72 {d : Nat} {ls t : List Value} {g : mm_M} {r : mm_R} {v : Value} (hc : mm_c1 v = true) : mm_Rn pg_G d 91 72 ls (v :: t) g r ↔ mm_Rn pg_G d 91 73 ls (v :: v :: t) g r := rn_dup tb_91_72 hc r
theorem tb_91_73 : mm_tb pg_G 91 73 = some (.getfield 140, 6, 17, 439) := rfl
theorem st_91_73 {d : Nat} {ls t : List Value} {g : mm_M} {r : mm_R} {x : Nat} (hT : g.1 x = some (6, 35)) : mm_Rn pg_G d 91 73 ls (.ref x :: t) g r ↔ mm_Rn pg_G d 91 76 ls (g.2.1 x 17 :: t) g r := rn_getfield tb_91_73 hT r
theorem tb_91_76 : mm_tb pg_G 91 76 = some (.iconst 1, 0, 0, 0) := rfl
theorem st_91_76 {d : Nat} {ls t : List Value} {g : mm_M} {r : mm_R} : mm_Rn pg_G d 91 76 ls (t) g r ↔ mm_Rn pg_G d 91 77 ls (io_v 1 :: t) g r := rn_iconst tb_91_76 r
theorem tb_91_77 : mm_tb pg_G 91 77 = some (.iadd, 0, 0, 0) := rfl
theorem st_91_77 {d : Nat} {ls t : List Value} {g : mm_M} {r : mm_R} {x y : Int32} : mm_Rn pg_G d 91 77 ls (.int y :: .int x :: t) g r ↔ mm_Rn pg_G d 91 78 ls (.int (x + y) :: t) g r := rn_iadd tb_91_77 r
theorem tb_91_78 : mm_tb pg_G 91 78 = some (.putfield 140, 6, 17, 439) := rfl
theorem st_91_78 {d : Nat} {ls t : List Value} {g : mm_M} {r : mm_R} {x : Nat} {v : Int32} (hT : g.1 x = some (6, 35)) : mm_Rn pg_G d 91 78 ls (.int v :: .ref x :: t) g r ↔ mm_Rn pg_G d 91 81 ls (t) (mm_wr g x 17 (.int v)) r := rn_putfield tb_91_78 hT rfl r
theorem tb_91_81 : mm_tb pg_G 91 81 = some (.iconst 1, 0, 0, 0) := rfl
theorem st_91_81 {d : Nat} {ls t : List Value} {g : mm_M} {r : mm_R} : mm_Rn pg_G d 91 81 ls (t) g r ↔ mm_Rn pg_G d 91 82 ls (io_v 1 :: t) g r := rn_iconst tb_91_81 r
theorem tb_91_82 : mm_tb pg_G 91 82 = some (.istore_n 1, 0, 0, 0) := rfl
theorem st_91_82 {l0 l1 l2 : Value} {d : Nat} {t : List Value} {g : mm_M} {r : mm_R} {x : Int32} (hc : mm_c1 l0 = true) : mm_Rn pg_G d 91 82 [l0, l1, l2] (.int x :: t) g r ↔ mm_Rn pg_G d 91 83 [l0, .int x, l2] (t) g r := rn_istore_n tb_91_82 (mm_so_of (ls := [l0, l1, l2]) (v := l0) (Nat.le_of_ble_eq_true rfl) rfl hc) r
theorem tb_91_83 : mm_tb pg_G 91 83 = some (.aload_n 0, 0, 0, 0) := rfl
theorem st_91_83 {l1 l2 : Value} {d : Nat} {t : List Value} {g : mm_M} {r : mm_R} {x : Nat} : mm_Rn pg_G d 91 83 [.ref x, l1, l2] (t) g r ↔ mm_Rn pg_G d 91 84 [.ref x, l1, l2] (.ref x :: t) g r := rn_aload_n tb_91_83 rfl r
theorem tb_91_84 : mm_tb pg_G 91 84 = some (.getfield 89, 6, 12, 434) := rfl
theorem st_91_84 {d : Nat} {ls t : List Value} {g : mm_M} {r : mm_R} {x : Nat} (hT : g.1 x = some (6, 35)) : mm_Rn pg_G d 91 84 ls (.ref x :: t) g r ↔ mm_Rn pg_G d 91 87 ls (g.2.1 x 12 :: t) g r := rn_getfield tb_91_84 hT r
theorem tb_91_87 : mm_tb pg_G 91 87 = some (.ifCond .ne 34, 121, 0, 0) := rfl
theorem st_91_87 {d : Nat} {ls t : List Value} {g : mm_M} {r : mm_R} {x : Int32} : mm_Rn pg_G d 91 87 ls (.int x :: t) g r ↔ if x = 0 then mm_Rn pg_G d 91 90 ls (t) g r else mm_Rn pg_G d 91 121 ls (t) g r := rn_if_ne tb_91_87 r
theorem tb_91_90 : mm_tb pg_G 91 90 = some (.aload_n 0, 0, 0, 0) := rfl
theorem st_91_90 {l1 l2 : Value} {d : Nat} {t : List Value} {g : mm_M} {r : mm_R} {x : Nat} : mm_Rn pg_G d 91 90 [.ref x, l1, l2] (t) g r ↔ mm_Rn pg_G d 91 91 [.ref x, l1, l2] (.ref x :: t) g r := rn_aload_n tb_91_90 rfl r
theorem tb_91_91 : mm_tb pg_G 91 91 = some (.aload_n 0, 0, 0, 0) := rfl
theorem st_91_91 {l1 l2 : Value} {d : Nat} {t : List Value} {g : mm_M} {r : mm_R} {x : Nat} : mm_Rn pg_G d 91 91 [.ref x, l1, l2] (t) g r ↔ mm_Rn pg_G d 91 92 [.ref x, l1, l2] (.ref x :: t) g r := rn_aload_n tb_91_91 rfl r
theorem tb_91_92 : mm_tb pg_G 91 92 = some (.getfield 83, 6, 10, 432) := rfl
theorem st_91_92 {d : Nat} {ls t : List Value} {g : mm_M} {r : mm_R} {x : Nat} (hT : g.1 x = some (6, 35)) : mm_Rn pg_G d 91 92 ls (.ref x :: t) g r ↔ mm_Rn pg_G d 91 95 ls (g.2.1 x 10 :: t) g r := rn_getfield tb_91_92 hT r
theorem tb_91_95 : mm_tb pg_G 91 95 = some (.putfield 89, 6, 12, 434) := rfl
theorem st_91_95 {d : Nat} {ls t : List Value} {g : mm_M} {r : mm_R} {x : Nat} {v : Int32} (hT : g.1 x = some (6, 35)) : mm_Rn pg_G d 91 95 ls (.int v :: .ref x :: t) g r ↔ mm_Rn pg_G d 91 98 ls (t) (mm_wr g x 12 (.int v)) r := rn_putfield tb_91_95 hT rfl r
theorem tb_91_98 : mm_tb pg_G 91 98 = some (.aload_n 0, 0, 0, 0) := rfl
theorem st_91_98 {l1 l2 : Value} {d : Nat} {t : List Value} {g : mm_M} {r : mm_R} {x : Nat} : mm_Rn pg_G d 91 98 [.ref x, l1, l2] (t) g r ↔ mm_Rn pg_G d 91 99 [.ref x, l1, l2] (.ref x :: t) g r := rn_aload_n tb_91_98 rfl r
theorem tb_91_99 : mm_tb pg_G 91 99 = some (.aload_n 0, 0, 0, 0) := rfl
theorem st_91_99 {l1 l2 : Value} {d : Nat} {t : List Value} {g : mm_M} {r : mm_R} {x : Nat} : mm_Rn pg_G d 91 99 [.ref x, l1, l2] (t) g r ↔ mm_Rn pg_G d 91 100 [.ref x, l1, l2] (.ref x :: t) g r := rn_aload_n tb_91_99 rfl r
theorem tb_91_100 : mm_tb pg_G 91 100 = some (.getfield 114, 6, 13, 435) := rfl
theorem st_91_100 {d : Nat} {ls t : List Value} {g : mm_M} {r : mm_R} {x : Nat} (hT : g.1 x = some (6, 35)) : mm_Rn pg_G d 91 100 ls (.ref x :: t) g r ↔ mm_Rn pg_G d 91 103 ls (g.2.1 x 13 :: t) g r := rn_getfield tb_91_100 hT r
theorem tb_91_103 : mm_tb pg_G 91 103 = some (.aload_n 0, 0, 0, 0) := rfl
theorem st_91_103 {l1 l2 : Value} {d : Nat} {t : List Value} {g : mm_M} {r : mm_R} {x : Nat} : mm_Rn pg_G d 91 103 [.ref x, l1, l2] (t) g r ↔ mm_Rn pg_G d 91 104 [.ref x, l1, l2] (.ref x :: t) g r := rn_aload_n tb_91_103 rfl r
theorem tb_91_104 : mm_tb pg_G 91 104 = some (.getfield 86, 6, 11, 433) := rfl
theorem st_91_104 {d : Nat} {ls t : List Value} {g : mm_M} {r : mm_R} {x : Nat} (hT : g.1 x = some (6, 35)) : mm_Rn pg_G d 91 104 ls (.ref x :: t) g r ↔ mm_Rn pg_G d 91 107 ls (g.2.1 x 11 :: t) g r := rn_getfield tb_91_104 hT r
theorem tb_91_107 : mm_tb pg_G 91 107 = some (.iadd, 0, 0, 0) := rfl
theorem st_91_107 {d : Nat} {ls t : List Value} {g : mm_M} {r : mm_R} {x y : Int32} : mm_Rn pg_G d 91 107 ls (.int y :: .int x :: t) g r ↔ mm_Rn pg_G d 91 108 ls (.int (x + y) :: t) g r := rn_iadd tb_91_107 r
theorem tb_91_108 : mm_tb pg_G 91 108 = some (.putfield 114, 6, 13, 435) := rfl
theorem st_91_108 {d : Nat} {ls t : List Value} {g : mm_M} {r : mm_R} {x : Nat} {v : Int32} (hT : g.1 x = some (6, 35)) : mm_Rn pg_G d 91 108 ls (.int v :: .ref x :: t) g r ↔ mm_Rn pg_G d 91 111 ls (t) (mm_wr g x 13 (.int v)) r := rn_putfield tb_91_108 hT rfl r
theorem tb_91_111 : mm_tb pg_G 91 111 = some (.aload_n 0, 0, 0, 0) := rfl
theorem st_91_111 {l1 l2 : Value} {d : Nat} {t : List Value} {g : mm_M} {r : mm_R} {x : Nat} : mm_Rn pg_G d 91 111 [.ref x, l1, l2] (t) g r ↔ mm_Rn pg_G d 91 112 [.ref x, l1, l2] (.ref x :: t) g r := rn_aload_n tb_91_111 rfl r
theorem tb_91_112 : mm_tb pg_G 91 112 = some (.dup, 0, 0, 0) := rfl
theorem st_91_112 {d : Nat} {ls t : List Value} {g : mm_M} {r : mm_R} {v : Value} (hc : mm_c1 v = true) : mm_Rn pg_G d 91 112 ls (v :: t) g r ↔ mm_Rn pg_G d 91 113 ls (v :: v :: t) g r := rn_dup tb_91_112 hc r
theorem tb_91_113 : mm_tb pg_G 91 113 = some (.getfield 143, 6, 16, 438) := rfl
theorem st_91_113 {d : Nat} {ls t : List Value} {g : mm_M} {r : mm_R} {x : Nat} (hT : g.1 x = some (6, 35)) : mm_Rn pg_G d 91 113 ls (.ref x :: t) g r ↔ mm_Rn pg_G d 91 116 ls (g.2.1 x 16 :: t) g r := rn_getfield tb_91_113 hT r
theorem tb_91_116 : mm_tb pg_G 91 116 = some (.iconst 1, 0, 0, 0) := rfl
theorem st_91_116 {d : Nat} {ls t : List Value} {g : mm_M} {r : mm_R} : mm_Rn pg_G d 91 116 ls (t) g r ↔ mm_Rn pg_G d 91 117 ls (io_v 1 :: t) g r := rn_iconst tb_91_116 r
theorem tb_91_117 : mm_tb pg_G 91 117 = some (.iadd, 0, 0, 0) := rfl
theorem st_91_117 {d : Nat} {ls t : List Value} {g : mm_M} {r : mm_R} {x y : Int32} : mm_Rn pg_G d 91 117 ls (.int y :: .int x :: t) g r ↔ mm_Rn pg_G d 91 118 ls (.int (x + y) :: t) g r := rn_iadd tb_91_117 r
theorem tb_91_118 : mm_tb pg_G 91 118 = some (.putfield 143, 6, 16, 438) := rfl
theorem st_91_118 {d : Nat} {ls t : List Value} {g : mm_M} {r : mm_R} {x : Nat} {v : Int32} (hT : g.1 x = some (6, 35)) : mm_Rn pg_G d 91 118 ls (.int v :: .ref x :: t) g r ↔ mm_Rn pg_G d 91 121 ls (t) (mm_wr g x 16 (.int v)) r := rn_putfield tb_91_118 hT rfl r
theorem tb_91_121 : mm_tb pg_G 91 121 = some (.iload_n 1, 0, 0, 0) := rfl
theorem st_91_121 {l0 l2 : Value} {d : Nat} {t : List Value} {g : mm_M} {r : mm_R} {x : Int32} : mm_Rn pg_G d 91 121 [l0, .int x, l2] (t) g r ↔ mm_Rn pg_G d 91 122 [l0, .int x, l2] (.int x :: t) g r := rn_iload_n tb_91_121 rfl r
theorem tb_91_122 : mm_tb pg_G 91 122 = some (.ireturn, 0, 0, 0) := rfl
theorem st_91_122 {d : Nat} {ls : List Value} {g : mm_M} {r : mm_R} {x : Int32} : mm_Rn pg_G d 91 122 ls [.int x] g r ↔ r = (some (.int x), g) := rn_ireturn_iff tb_91_122 (Or.inl rfl) r
theorem tb_92_0 : mm_tb pg_G 92 0 = some (.aload_n 0, 0, 0, 0) := rfl
theorem st_92_0 {l1 l2 l3 : Value} {d : Nat} {t : List Value} {g : mm_M} {r : mm_R} {x : Nat} : mm_Rn pg_G d 92 0 [.ref x, l1, l2, l3] (t) g r ↔ mm_Rn pg_G d 92 1 [.ref x, l1, l2, l3] (.ref x :: t) g r := rn_aload_n tb_92_0 rfl r
theorem tb_92_1 : mm_tb pg_G 92 1 = some (.getfield 46, 6, 22, 444) := rfl
theorem st_92_1 {d : Nat} {ls t : List Value} {g : mm_M} {r : mm_R} {x : Nat} (hT : g.1 x = some (6, 35)) : mm_Rn pg_G d 92 1 ls (.ref x :: t) g r ↔ mm_Rn pg_G d 92 4 ls (g.2.1 x 22 :: t) g r := rn_getfield tb_92_1 hT r
theorem tb_92_4 : mm_tb pg_G 92 4 = some (.iload_n 1, 0, 0, 0) := rfl
theorem st_92_4 {l0 l2 l3 : Value} {d : Nat} {t : List Value} {g : mm_M} {r : mm_R} {x : Int32} : mm_Rn pg_G d 92 4 [l0, .int x, l2, l3] (t) g r ↔ mm_Rn pg_G d 92 5 [l0, .int x, l2, l3] (.int x :: t) g r := rn_iload_n tb_92_4 rfl r
theorem tb_92_5 : mm_tb pg_G 92 5 = some (.dup2, 0, 0, 0) := rfl
theorem st_92_5 {d : Nat} {ls t : List Value} {g : mm_M} {r : mm_R} {v u : Value} (hc : mm_c1 v = true) (hc2 : mm_c1 u = true) : mm_Rn pg_G d 92 5 ls (v :: u :: t) g r ↔ mm_Rn pg_G d 92 6 ls (v :: u :: v :: u :: t) g r := rn_dup2 tb_92_5 hc hc2 r
theorem tb_92_6 : mm_tb pg_G 92 6 = some (.iaload, 0, 0, 0) := rfl
theorem st_92_6 {d : Nat} {ls t : List Value} {g : mm_M} {r : mm_R} {x : Nat} {j : Int32} (hc : mm_in (g.1 x) 100 101 j = true) : mm_Rn pg_G d 92 6 ls (.int j :: .ref x :: t) g r ↔ mm_Rn pg_G d 92 7 ls (g.2.1 x j.toNatClampNeg :: t) g r := rn_iaload tb_92_6 hc r
theorem tb_92_7 : mm_tb pg_G 92 7 = some (.iconst 1, 0, 0, 0) := rfl
theorem st_92_7 {d : Nat} {ls t : List Value} {g : mm_M} {r : mm_R} : mm_Rn pg_G d 92 7 ls (t) g r ↔ mm_Rn pg_G d 92 8 ls (io_v 1 :: t) g r := rn_iconst tb_92_7 r
theorem tb_92_8 : mm_tb pg_G 92 8 = some (.iadd, 0, 0, 0) := rfl
theorem st_92_8 {d : Nat} {ls t : List Value} {g : mm_M} {r : mm_R} {x y : Int32} : mm_Rn pg_G d 92 8 ls (.int y :: .int x :: t) g r ↔ mm_Rn pg_G d 92 9 ls (.int (x + y) :: t) g r := rn_iadd tb_92_8 r
theorem tb_92_9 : mm_tb pg_G 92 9 = some (.iastore, 0, 0, 0) := rfl
theorem st_92_9 {d : Nat} {ls t : List Value} {g : mm_M} {r : mm_R} {x : Nat} {j v : Int32} (hc : mm_in (g.1 x) 100 100 j = true) : mm_Rn pg_G d 92 9 ls (.int v :: .int j :: .ref x :: t) g r ↔ mm_Rn pg_G d 92 10 ls (t) (mm_wr g x j.toNatClampNeg (.int v)) r := rn_iastore tb_92_9 hc r
theorem tb_92_10 : mm_tb pg_G 92 10 = some (.iload_n 2, 0, 0, 0) := rfl
theorem st_92_10 {l0 l1 l3 : Value} {d : Nat} {t : List Value} {g : mm_M} {r : mm_R} {x : Int32} : mm_Rn pg_G d 92 10 [l0, l1, .int x, l3] (t) g r ↔ mm_Rn pg_G d 92 11 [l0, l1, .int x, l3] (.int x :: t) g r := rn_iload_n tb_92_10 rfl r
theorem tb_92_11 : mm_tb pg_G 92 11 = some (.ifCond .ne 4, 15, 0, 0) := rfl
theorem st_92_11 {d : Nat} {ls t : List Value} {g : mm_M} {r : mm_R} {x : Int32} : mm_Rn pg_G d 92 11 ls (.int x :: t) g r ↔ if x = 0 then mm_Rn pg_G d 92 14 ls (t) g r else mm_Rn pg_G d 92 15 ls (t) g r := rn_if_ne tb_92_11 r
theorem tb_92_14 : mm_tb pg_G 92 14 = some (.return_, 0, 0, 0) := rfl
theorem st_92_14 {d : Nat} {ls : List Value} {g : mm_M} {r : mm_R} : mm_Rn pg_G d 92 14 ls [] g r ↔ r = (none, g) := rn_return_iff tb_92_14 rfl r
theorem tb_92_15 : mm_tb pg_G 92 15 = some (.iconst 0, 0, 0, 0) := rfl
theorem st_92_15 {d : Nat} {ls t : List Value} {g : mm_M} {r : mm_R} : mm_Rn pg_G d 92 15 ls (t) g r ↔ mm_Rn pg_G d 92 16 ls (io_v 0 :: t) g r := rn_iconst tb_92_15 r
theorem tb_92_16 : mm_tb pg_G 92 16 = some (.istore_n 3, 0, 0, 0) := rfl
theorem st_92_16 {l0 l1 l2 l3 : Value} {d : Nat} {t : List Value} {g : mm_M} {r : mm_R} {x : Int32} (hc : mm_c1 l2 = true) : mm_Rn pg_G d 92 16 [l0, l1, l2, l3] (.int x :: t) g r ↔ mm_Rn pg_G d 92 17 [l0, l1, l2, .int x] (t) g r := rn_istore_n tb_92_16 (mm_so_of (ls := [l0, l1, l2, l3]) (v := l2) (Nat.le_of_ble_eq_true rfl) rfl hc) r
theorem tb_92_17 : mm_tb pg_G 92 17 = some (.iload_n 3, 0, 0, 0) := rfl
theorem st_92_17 {l0 l1 l2 : Value} {d : Nat} {t : List Value} {g : mm_M} {r : mm_R} {x : Int32} : mm_Rn pg_G d 92 17 [l0, l1, l2, .int x] (t) g r ↔ mm_Rn pg_G d 92 18 [l0, l1, l2, .int x] (.int x :: t) g r := rn_iload_n tb_92_17 rfl r
theorem tb_92_18 : mm_tb pg_G 92 18 = some (.aload_n 0, 0, 0, 0) := rfl
theorem st_92_18 {l1 l2 l3 : Value} {d : Nat} {t : List Value} {g : mm_M} {r : mm_R} {x : Nat} : mm_Rn pg_G d 92 18 [.ref x, l1, l2, l3] (t) g r ↔ mm_Rn pg_G d 92 19 [.ref x, l1, l2, l3] (.ref x :: t) g r := rn_aload_n tb_92_18 rfl r
theorem tb_92_19 : mm_tb pg_G 92 19 = some (.getfield 52, 6, 24, 446) := rfl
theorem st_92_19 {d : Nat} {ls t : List Value} {g : mm_M} {r : mm_R} {x : Nat} (hT : g.1 x = some (6, 35)) : mm_Rn pg_G d 92 19 ls (.ref x :: t) g r ↔ mm_Rn pg_G d 92 22 ls (g.2.1 x 24 :: t) g r := rn_getfield tb_92_19 hT r
theorem tb_92_22 : mm_tb pg_G 92 22 = some (.iload_n 1, 0, 0, 0) := rfl
theorem st_92_22 {l0 l2 l3 : Value} {d : Nat} {t : List Value} {g : mm_M} {r : mm_R} {x : Int32} : mm_Rn pg_G d 92 22 [l0, .int x, l2, l3] (t) g r ↔ mm_Rn pg_G d 92 23 [l0, .int x, l2, l3] (.int x :: t) g r := rn_iload_n tb_92_22 rfl r
theorem tb_92_23 : mm_tb pg_G 92 23 = some (.iaload, 0, 0, 0) := rfl
theorem st_92_23 {d : Nat} {ls t : List Value} {g : mm_M} {r : mm_R} {x : Nat} {j : Int32} (hc : mm_in (g.1 x) 100 101 j = true) : mm_Rn pg_G d 92 23 ls (.int j :: .ref x :: t) g r ↔ mm_Rn pg_G d 92 24 ls (g.2.1 x j.toNatClampNeg :: t) g r := rn_iaload tb_92_23 hc r
theorem tb_92_24 : mm_tb pg_G 92 24 = some (.if_icmp .ge 25, 49, 0, 0) := rfl
theorem st_92_24 {d : Nat} {ls t : List Value} {g : mm_M} {r : mm_R} {x y : Int32} : mm_Rn pg_G d 92 24 ls (.int y :: .int x :: t) g r ↔ if y ≤ x then mm_Rn pg_G d 92 49 ls (t) g r else mm_Rn pg_G d 92 27 ls (t) g r := rn_icmp_ge tb_92_24 r
theorem tb_92_27 : mm_tb pg_G 92 27 = some (.aload_n 0, 0, 0, 0) := rfl
theorem st_92_27 {l1 l2 l3 : Value} {d : Nat} {t : List Value} {g : mm_M} {r : mm_R} {x : Nat} : mm_Rn pg_G d 92 27 [.ref x, l1, l2, l3] (t) g r ↔ mm_Rn pg_G d 92 28 [.ref x, l1, l2, l3] (.ref x :: t) g r := rn_aload_n tb_92_27 rfl r
theorem tb_92_28 : mm_tb pg_G 92 28 = some (.getfield 55, 6, 25, 447) := rfl
theorem st_92_28 {d : Nat} {ls t : List Value} {g : mm_M} {r : mm_R} {x : Nat} (hT : g.1 x = some (6, 35)) : mm_Rn pg_G d 92 28 ls (.ref x :: t) g r ↔ mm_Rn pg_G d 92 31 ls (g.2.1 x 25 :: t) g r := rn_getfield tb_92_28 hT r
theorem tb_92_31 : mm_tb pg_G 92 31 = some (.bipush 60, 0, 0, 0) := rfl
theorem st_92_31 {d : Nat} {ls t : List Value} {g : mm_M} {r : mm_R} : mm_Rn pg_G d 92 31 ls (t) g r ↔ mm_Rn pg_G d 92 33 ls (io_v 60 :: t) g r := rn_bipush tb_92_31 r
theorem tb_92_33 : mm_tb pg_G 92 33 = some (.iload_n 1, 0, 0, 0) := rfl
theorem st_92_33 {l0 l2 l3 : Value} {d : Nat} {t : List Value} {g : mm_M} {r : mm_R} {x : Int32} : mm_Rn pg_G d 92 33 [l0, .int x, l2, l3] (t) g r ↔ mm_Rn pg_G d 92 34 [l0, .int x, l2, l3] (.int x :: t) g r := rn_iload_n tb_92_33 rfl r
theorem tb_92_34 : mm_tb pg_G 92 34 = some (.imul, 0, 0, 0) := rfl
theorem st_92_34 {d : Nat} {ls t : List Value} {g : mm_M} {r : mm_R} {x y : Int32} : mm_Rn pg_G d 92 34 ls (.int y :: .int x :: t) g r ↔ mm_Rn pg_G d 92 35 ls (.int (x * y) :: t) g r := rn_imul tb_92_34 r
theorem tb_92_35 : mm_tb pg_G 92 35 = some (.iload_n 3, 0, 0, 0) := rfl
theorem st_92_35 {l0 l1 l2 : Value} {d : Nat} {t : List Value} {g : mm_M} {r : mm_R} {x : Int32} : mm_Rn pg_G d 92 35 [l0, l1, l2, .int x] (t) g r ↔ mm_Rn pg_G d 92 36 [l0, l1, l2, .int x] (.int x :: t) g r := rn_iload_n tb_92_35 rfl r
theorem tb_92_36 : mm_tb pg_G 92 36 = some (.iadd, 0, 0, 0) := rfl
theorem st_92_36 {d : Nat} {ls t : List Value} {g : mm_M} {r : mm_R} {x y : Int32} : mm_Rn pg_G d 92 36 ls (.int y :: .int x :: t) g r ↔ mm_Rn pg_G d 92 37 ls (.int (x + y) :: t) g r := rn_iadd tb_92_36 r
theorem tb_92_37 : mm_tb pg_G 92 37 = some (.iaload, 0, 0, 0) := rfl
theorem st_92_37 {d : Nat} {ls t : List Value} {g : mm_M} {r : mm_R} {x : Nat} {j : Int32} (hc : mm_in (g.1 x) 100 101 j = true) : mm_Rn pg_G d 92 37 ls (.int j :: .ref x :: t) g r ↔ mm_Rn pg_G d 92 38 ls (g.2.1 x j.toNatClampNeg :: t) g r := rn_iaload tb_92_37 hc r
theorem tb_92_38 : mm_tb pg_G 92 38 = some (.iload_n 2, 0, 0, 0) := rfl
theorem st_92_38 {l0 l1 l3 : Value} {d : Nat} {t : List Value} {g : mm_M} {r : mm_R} {x : Int32} : mm_Rn pg_G d 92 38 [l0, l1, .int x, l3] (t) g r ↔ mm_Rn pg_G d 92 39 [l0, l1, .int x, l3] (.int x :: t) g r := rn_iload_n tb_92_38 rfl r
theorem tb_92_39 : mm_tb pg_G 92 39 = some (.if_icmp .ne 4, 43, 0, 0) := rfl
theorem st_92_39 {d : Nat} {ls t : List Value} {g : mm_M} {r : mm_R} {x y : Int32} : mm_Rn pg_G d 92 39 ls (.int y :: .int x :: t) g r ↔ if x = y then mm_Rn pg_G d 92 42 ls (t) g r else mm_Rn pg_G d 92 43 ls (t) g r := rn_icmp_ne tb_92_39 r
theorem tb_92_42 : mm_tb pg_G 92 42 = some (.return_, 0, 0, 0) := rfl
theorem st_92_42 {d : Nat} {ls : List Value} {g : mm_M} {r : mm_R} : mm_Rn pg_G d 92 42 ls [] g r ↔ r = (none, g) := rn_return_iff tb_92_42 rfl r
theorem tb_92_43 : mm_tb pg_G 92 43 = some (.iinc 3 1, 0, 0, 0) := rfl
theorem st_92_43 {l0 l1 l2 : Value} {d : Nat} {t : List Value} {g : mm_M} {r : mm_R} {x : Int32} (hc : mm_c1 l2 = true) : mm_Rn pg_G d 92 43 [l0, l1, l2, .int x] (t) g r ↔ mm_Rn pg_G d 92 46 [l0, l1, l2, .int (x + Int32.ofInt 1)] (t) g r := rn_iinc tb_92_43 rfl (mm_so_of (ls := [l0, l1, l2, .int x]) (v := l2) (Nat.le_of_ble_eq_true rfl) rfl hc) r
theorem tb_92_46 : mm_tb pg_G 92 46 = some (.goto (-29), 17, 0, 0) := rfl
theorem st_92_46 {d : Nat} {ls t : List Value} {g : mm_M} {r : mm_R} : mm_Rn pg_G d 92 46 ls (t) g r ↔ mm_Rn pg_G d 92 17 ls (t) g r := rn_goto tb_92_46 r
theorem tb_92_49 : mm_tb pg_G 92 49 = some (.aload_n 0, 0, 0, 0) := rfl
theorem st_92_49 {l1 l2 l3 : Value} {d : Nat} {t : List Value} {g : mm_M} {r : mm_R} {x : Nat} : mm_Rn pg_G d 92 49 [.ref x, l1, l2, l3] (t) g r ↔ mm_Rn pg_G d 92 50 [.ref x, l1, l2, l3] (.ref x :: t) g r := rn_aload_n tb_92_49 rfl r
theorem tb_92_50 : mm_tb pg_G 92 50 = some (.getfield 52, 6, 24, 446) := rfl
theorem st_92_50 {d : Nat} {ls t : List Value} {g : mm_M} {r : mm_R} {x : Nat} (hT : g.1 x = some (6, 35)) : mm_Rn pg_G d 92 50 ls (.ref x :: t) g r ↔ mm_Rn pg_G d 92 53 ls (g.2.1 x 24 :: t) g r := rn_getfield tb_92_50 hT r
theorem tb_92_53 : mm_tb pg_G 92 53 = some (.iload_n 1, 0, 0, 0) := rfl
theorem st_92_53 {l0 l2 l3 : Value} {d : Nat} {t : List Value} {g : mm_M} {r : mm_R} {x : Int32} : mm_Rn pg_G d 92 53 [l0, .int x, l2, l3] (t) g r ↔ mm_Rn pg_G d 92 54 [l0, .int x, l2, l3] (.int x :: t) g r := rn_iload_n tb_92_53 rfl r
theorem tb_92_54 : mm_tb pg_G 92 54 = some (.iaload, 0, 0, 0) := rfl
theorem st_92_54 {d : Nat} {ls t : List Value} {g : mm_M} {r : mm_R} {x : Nat} {j : Int32} (hc : mm_in (g.1 x) 100 101 j = true) : mm_Rn pg_G d 92 54 ls (.int j :: .ref x :: t) g r ↔ mm_Rn pg_G d 92 55 ls (g.2.1 x j.toNatClampNeg :: t) g r := rn_iaload tb_92_54 hc r
theorem tb_92_55 : mm_tb pg_G 92 55 = some (.bipush 60, 0, 0, 0) := rfl
theorem st_92_55 {d : Nat} {ls t : List Value} {g : mm_M} {r : mm_R} : mm_Rn pg_G d 92 55 ls (t) g r ↔ mm_Rn pg_G d 92 57 ls (io_v 60 :: t) g r := rn_bipush tb_92_55 r
theorem tb_92_57 : mm_tb pg_G 92 57 = some (.if_icmp .ne 4, 61, 0, 0) := rfl
theorem st_92_57 {d : Nat} {ls t : List Value} {g : mm_M} {r : mm_R} {x y : Int32} : mm_Rn pg_G d 92 57 ls (.int y :: .int x :: t) g r ↔ if x = y then mm_Rn pg_G d 92 60 ls (t) g r else mm_Rn pg_G d 92 61 ls (t) g r := rn_icmp_ne tb_92_57 r
theorem tb_92_60 : mm_tb pg_G 92 60 = some (.return_, 0, 0, 0) := rfl
theorem st_92_60 {d : Nat} {ls : List Value} {g : mm_M} {r : mm_R} : mm_Rn pg_G d 92 60 ls [] g r ↔ r = (none, g) := rn_return_iff tb_92_60 rfl r
theorem tb_92_61 : mm_tb pg_G 92 61 = some (.aload_n 0, 0, 0, 0) := rfl
theorem st_92_61 {l1 l2 l3 : Value} {d : Nat} {t : List Value} {g : mm_M} {r : mm_R} {x : Nat} : mm_Rn pg_G d 92 61 [.ref x, l1, l2, l3] (t) g r ↔ mm_Rn pg_G d 92 62 [.ref x, l1, l2, l3] (.ref x :: t) g r := rn_aload_n tb_92_61 rfl r
theorem tb_92_62 : mm_tb pg_G 92 62 = some (.getfield 55, 6, 25, 447) := rfl
theorem st_92_62 {d : Nat} {ls t : List Value} {g : mm_M} {r : mm_R} {x : Nat} (hT : g.1 x = some (6, 35)) : mm_Rn pg_G d 92 62 ls (.ref x :: t) g r ↔ mm_Rn pg_G d 92 65 ls (g.2.1 x 25 :: t) g r := rn_getfield tb_92_62 hT r
theorem tb_92_65 : mm_tb pg_G 92 65 = some (.bipush 60, 0, 0, 0) := rfl
theorem st_92_65 {d : Nat} {ls t : List Value} {g : mm_M} {r : mm_R} : mm_Rn pg_G d 92 65 ls (t) g r ↔ mm_Rn pg_G d 92 67 ls (io_v 60 :: t) g r := rn_bipush tb_92_65 r
theorem tb_92_67 : mm_tb pg_G 92 67 = some (.iload_n 1, 0, 0, 0) := rfl
theorem st_92_67 {l0 l2 l3 : Value} {d : Nat} {t : List Value} {g : mm_M} {r : mm_R} {x : Int32} : mm_Rn pg_G d 92 67 [l0, .int x, l2, l3] (t) g r ↔ mm_Rn pg_G d 92 68 [l0, .int x, l2, l3] (.int x :: t) g r := rn_iload_n tb_92_67 rfl r
theorem tb_92_68 : mm_tb pg_G 92 68 = some (.imul, 0, 0, 0) := rfl
theorem st_92_68 {d : Nat} {ls t : List Value} {g : mm_M} {r : mm_R} {x y : Int32} : mm_Rn pg_G d 92 68 ls (.int y :: .int x :: t) g r ↔ mm_Rn pg_G d 92 69 ls (.int (x * y) :: t) g r := rn_imul tb_92_68 r
theorem tb_92_69 : mm_tb pg_G 92 69 = some (.aload_n 0, 0, 0, 0) := rfl
theorem st_92_69 {l1 l2 l3 : Value} {d : Nat} {t : List Value} {g : mm_M} {r : mm_R} {x : Nat} : mm_Rn pg_G d 92 69 [.ref x, l1, l2, l3] (t) g r ↔ mm_Rn pg_G d 92 70 [.ref x, l1, l2, l3] (.ref x :: t) g r := rn_aload_n tb_92_69 rfl r
theorem tb_92_70 : mm_tb pg_G 92 70 = some (.getfield 52, 6, 24, 446) := rfl
theorem st_92_70 {d : Nat} {ls t : List Value} {g : mm_M} {r : mm_R} {x : Nat} (hT : g.1 x = some (6, 35)) : mm_Rn pg_G d 92 70 ls (.ref x :: t) g r ↔ mm_Rn pg_G d 92 73 ls (g.2.1 x 24 :: t) g r := rn_getfield tb_92_70 hT r
theorem tb_92_73 : mm_tb pg_G 92 73 = some (.iload_n 1, 0, 0, 0) := rfl
theorem st_92_73 {l0 l2 l3 : Value} {d : Nat} {t : List Value} {g : mm_M} {r : mm_R} {x : Int32} : mm_Rn pg_G d 92 73 [l0, .int x, l2, l3] (t) g r ↔ mm_Rn pg_G d 92 74 [l0, .int x, l2, l3] (.int x :: t) g r := rn_iload_n tb_92_73 rfl r
theorem tb_92_74 : mm_tb pg_G 92 74 = some (.iaload, 0, 0, 0) := rfl
theorem st_92_74 {d : Nat} {ls t : List Value} {g : mm_M} {r : mm_R} {x : Nat} {j : Int32} (hc : mm_in (g.1 x) 100 101 j = true) : mm_Rn pg_G d 92 74 ls (.int j :: .ref x :: t) g r ↔ mm_Rn pg_G d 92 75 ls (g.2.1 x j.toNatClampNeg :: t) g r := rn_iaload tb_92_74 hc r
theorem tb_92_75 : mm_tb pg_G 92 75 = some (.iadd, 0, 0, 0) := rfl
theorem st_92_75 {d : Nat} {ls t : List Value} {g : mm_M} {r : mm_R} {x y : Int32} : mm_Rn pg_G d 92 75 ls (.int y :: .int x :: t) g r ↔ mm_Rn pg_G d 92 76 ls (.int (x + y) :: t) g r := rn_iadd tb_92_75 r
theorem tb_92_76 : mm_tb pg_G 92 76 = some (.iload_n 2, 0, 0, 0) := rfl
theorem st_92_76 {l0 l1 l3 : Value} {d : Nat} {t : List Value} {g : mm_M} {r : mm_R} {x : Int32} : mm_Rn pg_G d 92 76 [l0, l1, .int x, l3] (t) g r ↔ mm_Rn pg_G d 92 77 [l0, l1, .int x, l3] (.int x :: t) g r := rn_iload_n tb_92_76 rfl r
theorem tb_92_77 : mm_tb pg_G 92 77 = some (.iastore, 0, 0, 0) := rfl
theorem st_92_77 {d : Nat} {ls t : List Value} {g : mm_M} {r : mm_R} {x : Nat} {j v : Int32} (hc : mm_in (g.1 x) 100 100 j = true) : mm_Rn pg_G d 92 77 ls (.int v :: .int j :: .ref x :: t) g r ↔ mm_Rn pg_G d 92 78 ls (t) (mm_wr g x j.toNatClampNeg (.int v)) r := rn_iastore tb_92_77 hc r
theorem tb_92_78 : mm_tb pg_G 92 78 = some (.aload_n 0, 0, 0, 0) := rfl
theorem st_92_78 {l1 l2 l3 : Value} {d : Nat} {t : List Value} {g : mm_M} {r : mm_R} {x : Nat} : mm_Rn pg_G d 92 78 [.ref x, l1, l2, l3] (t) g r ↔ mm_Rn pg_G d 92 79 [.ref x, l1, l2, l3] (.ref x :: t) g r := rn_aload_n tb_92_78 rfl r
theorem tb_92_79 : mm_tb pg_G 92 79 = some (.getfield 52, 6, 24, 446) := rfl
theorem st_92_79 {d : Nat} {ls t : List Value} {g : mm_M} {r : mm_R} {x : Nat} (hT : g.1 x = some (6, 35)) : mm_Rn pg_G d 92 79 ls (.ref x :: t) g r ↔ mm_Rn pg_G d 92 82 ls (g.2.1 x 24 :: t) g r := rn_getfield tb_92_79 hT r
theorem tb_92_82 : mm_tb pg_G 92 82 = some (.iload_n 1, 0, 0, 0) := rfl
theorem st_92_82 {l0 l2 l3 : Value} {d : Nat} {t : List Value} {g : mm_M} {r : mm_R} {x : Int32} : mm_Rn pg_G d 92 82 [l0, .int x, l2, l3] (t) g r ↔ mm_Rn pg_G d 92 83 [l0, .int x, l2, l3] (.int x :: t) g r := rn_iload_n tb_92_82 rfl r
theorem tb_92_83 : mm_tb pg_G 92 83 = some (.dup2, 0, 0, 0) := rfl
theorem st_92_83 {d : Nat} {ls t : List Value} {g : mm_M} {r : mm_R} {v u : Value} (hc : mm_c1 v = true) (hc2 : mm_c1 u = true) : mm_Rn pg_G d 92 83 ls (v :: u :: t) g r ↔ mm_Rn pg_G d 92 84 ls (v :: u :: v :: u :: t) g r := rn_dup2 tb_92_83 hc hc2 r
theorem tb_92_84 : mm_tb pg_G 92 84 = some (.iaload, 0, 0, 0) := rfl
theorem st_92_84 {d : Nat} {ls t : List Value} {g : mm_M} {r : mm_R} {x : Nat} {j : Int32} (hc : mm_in (g.1 x) 100 101 j = true) : mm_Rn pg_G d 92 84 ls (.int j :: .ref x :: t) g r ↔ mm_Rn pg_G d 92 85 ls (g.2.1 x j.toNatClampNeg :: t) g r := rn_iaload tb_92_84 hc r
theorem tb_92_85 : mm_tb pg_G 92 85 = some (.iconst 1, 0, 0, 0) := rfl
theorem st_92_85 {d : Nat} {ls t : List Value} {g : mm_M} {r : mm_R} : mm_Rn pg_G d 92 85 ls (t) g r ↔ mm_Rn pg_G d 92 86 ls (io_v 1 :: t) g r := rn_iconst tb_92_85 r
theorem tb_92_86 : mm_tb pg_G 92 86 = some (.iadd, 0, 0, 0) := rfl
theorem st_92_86 {d : Nat} {ls t : List Value} {g : mm_M} {r : mm_R} {x y : Int32} : mm_Rn pg_G d 92 86 ls (.int y :: .int x :: t) g r ↔ mm_Rn pg_G d 92 87 ls (.int (x + y) :: t) g r := rn_iadd tb_92_86 r
theorem tb_92_87 : mm_tb pg_G 92 87 = some (.iastore, 0, 0, 0) := rfl
theorem st_92_87 {d : Nat} {ls t : List Value} {g : mm_M} {r : mm_R} {x : Nat} {j v : Int32} (hc : mm_in (g.1 x) 100 100 j = true) : mm_Rn pg_G d 92 87 ls (.int v :: .int j :: .ref x :: t) g r ↔ mm_Rn pg_G d 92 88 ls (t) (mm_wr g x j.toNatClampNeg (.int v)) r := rn_iastore tb_92_87 hc r
theorem tb_92_88 : mm_tb pg_G 92 88 = some (.return_, 0, 0, 0) := rfl
theorem st_92_88 {d : Nat} {ls : List Value} {g : mm_M} {r : mm_R} : mm_Rn pg_G d 92 88 ls [] g r ↔ r = (none, g) := rn_return_iff tb_92_88 rfl r
