/-! a row an instruction of the program -/
theorem tb_63_0 : mm_tb pg_G 63 0 = some (.aload_n 0, 0, 0, 0) := rfl
theorem st_63_0 {l1 l2 : Value} {d : Nat} {t : List Value} {g : mm_M} {r : mm_R} {x : Nat} : mm_Rn pg_G d 63 0 [.ref x, l1, l2] (t) g r ↔ mm_Rn pg_G d 63 1 [.ref x, l1, l2] (.ref x :: t) g r := rn_aload_n tb_63_0 rfl r
theorem tb_63_1 : mm_tb pg_G 63 1 = some (.invokevirtual 193, 61, 1, 281) := rfl
theorem st_63_1 {d c s c' s' : Nat} {ls t : List Value} {I J : sp_I} {r : mm_R} {y : Nat} {v : Int32} (hl : t.length ≤ 4) (hT : sp_T I y = some (0, 8)) (hq : mm_Rn pg_G d 61 0 [.ref y, .retAddr 0, .retAddr 0] [] (sp_me I 0 0) (some (.int v), sp_me J c' s')) : mm_Rn pg_G (d + 1) 63 1 ls (.ref y :: t) (sp_me I c s) r ↔ mm_Rn pg_G (d + 1) 63 4 ls (.int v :: t) (sp_me J (c + c') (s + s')) r := rn_virt (g := sp_me I c s) (st := .ref y :: t) tb_63_1 (decide_eq_true hT) ⟨Nat.le_add_left _ t.length, hl, rfl⟩ hq r
theorem tb_63_4 : mm_tb pg_G 63 4 = some (.istore_n 1, 0, 0, 0) := rfl
theorem st_63_4 {l0 l1 l2 : Value} {d : Nat} {t : List Value} {g : mm_M} {r : mm_R} {x : Int32} (hc : mm_c1 l0 = true) : mm_Rn pg_G d 63 4 [l0, l1, l2] (.int x :: t) g r ↔ mm_Rn pg_G d 63 5 [l0, .int x, l2] (t) g r := rn_istore_n tb_63_4 (mm_so_of (ls := [l0, l1, l2]) (v := l0) (Nat.le_of_ble_eq_true rfl) rfl hc) r
theorem tb_63_5 : mm_tb pg_G 63 5 = some (.aload_n 0, 0, 0, 0) := rfl
theorem st_63_5 {l1 l2 : Value} {d : Nat} {t : List Value} {g : mm_M} {r : mm_R} {x : Nat} : mm_Rn pg_G d 63 5 [.ref x, l1, l2] (t) g r ↔ mm_Rn pg_G d 63 6 [.ref x, l1, l2] (.ref x :: t) g r := rn_aload_n tb_63_5 rfl r
theorem tb_63_6 : mm_tb pg_G 63 6 = some (.iload_n 1, 0, 0, 0) := rfl
theorem st_63_6 {l0 l2 : Value} {d : Nat} {t : List Value} {g : mm_M} {r : mm_R} {x : Int32} : mm_Rn pg_G d 63 6 [l0, .int x, l2] (t) g r ↔ mm_Rn pg_G d 63 7 [l0, .int x, l2] (.int x :: t) g r := rn_iload_n tb_63_6 rfl r
theorem tb_63_7 : mm_tb pg_G 63 7 = some (.invokevirtual 196, 64, 2, 293) := rfl
theorem st_63_7 {d c s c' s' : Nat} {ls t : List Value} {I J : sp_I} {r : mm_R} {a0 : Int32} {y : Nat} {v : Int32} (hl : t.length ≤ 4) (hT : sp_T I y = some (0, 8)) (hq : mm_Rn pg_G d 64 0 [.ref y, .int a0, .retAddr 0, .retAddr 0, .retAddr 0] [] (sp_me I 0 0) (some (.int v), sp_me J c' s')) : mm_Rn pg_G (d + 1) 63 7 ls (.int a0 :: .ref y :: t) (sp_me I c s) r ↔ mm_Rn pg_G (d + 1) 63 10 ls (.int v :: t) (sp_me J (c + c') (s + s')) r := rn_virt (g := sp_me I c s) (st := .int a0 :: .ref y :: t) tb_63_7 (decide_eq_true hT) ⟨Nat.le_add_left _ t.length, hl, rfl⟩ hq r
theorem tb_63_10 : mm_tb pg_G 63 10 = some (.istore_n 2, 0, 0, 0) := rfl
theorem st_63_10 {l0 l1 l2 : Value} {d : Nat} {t : List Value} {g : mm_M} {r : mm_R} {x : Int32} (hc : mm_c1 l1 = true) : mm_Rn pg_G d 63 10 [l0, l1, l2] (.int x :: t) g r ↔ mm_Rn pg_G d 63 11 [l0, l1, .int x] (t) g r := rn_istore_n tb_63_10 (mm_so_of (ls := [l0, l1, l2]) (v := l1) (Nat.le_of_ble_eq_true rfl) rfl hc) r
theorem tb_63_11 : mm_tb pg_G 63 11 = some (.iload_n 2, 0, 0, 0) := rfl
theorem st_63_11 {l0 l1 : Value} {d : Nat} {t : List Value} {g : mm_M} {r : mm_R} {x : Int32} : mm_Rn pg_G d 63 11 [l0, l1, .int x] (t) g r ↔ mm_Rn pg_G d 63 12 [l0, l1, .int x] (.int x :: t) g r := rn_iload_n tb_63_11 rfl r
theorem tb_63_12 : mm_tb pg_G 63 12 = some (.iconst 1, 0, 0, 0) := rfl
theorem st_63_12 {d : Nat} {ls t : List Value} {g : mm_M} {r : mm_R} : mm_Rn pg_G d 63 12 ls (t) g r ↔ mm_Rn pg_G d 63 13 ls (io_v 1 :: t) g r := rn_iconst tb_63_12 r
theorem tb_63_13 : mm_tb pg_G 63 13 = some (.if_icmp .ne 13, 26, 0, 0) := rfl
theorem st_63_13 {d : Nat} {ls t : List Value} {g : mm_M} {r : mm_R} {x y : Int32} : mm_Rn pg_G d 63 13 ls (.int y :: .int x :: t) g r ↔ if x = y then mm_Rn pg_G d 63 16 ls (t) g r else mm_Rn pg_G d 63 26 ls (t) g r := rn_icmp_ne tb_63_13 r
theorem tb_63_16 : mm_tb pg_G 63 16 = some (.aload_n 0, 0, 0, 0) := rfl
theorem st_63_16 {l1 l2 : Value} {d : Nat} {t : List Value} {g : mm_M} {r : mm_R} {x : Nat} : mm_Rn pg_G d 63 16 [.ref x, l1, l2] (t) g r ↔ mm_Rn pg_G d 63 17 [.ref x, l1, l2] (.ref x :: t) g r := rn_aload_n tb_63_16 rfl r
theorem tb_63_17 : mm_tb pg_G 63 17 = some (.getfield 22, 0, 2, 95) := rfl
theorem st_63_17 {d : Nat} {ls t : List Value} {g : mm_M} {r : mm_R} {x : Nat} (hT : g.1 x = some (0, 8)) : mm_Rn pg_G d 63 17 ls (.ref x :: t) g r ↔ mm_Rn pg_G d 63 20 ls (g.2.1 x 2 :: t) g r := rn_getfield tb_63_17 hT r
theorem tb_63_20 : mm_tb pg_G 63 20 = some (.invokevirtual 199, 26, 1, 316) := rfl
theorem st_63_20 {d c s c' s' : Nat} {ls t : List Value} {I J : sp_I} {r : mm_R} {y : Nat} (hl : t.length ≤ 4) (hT : sp_T I y = some (1, 9)) (hq : mm_Rn pg_G d 26 0 [.ref y] [] (sp_me I 0 0) (none, sp_me J c' s')) : mm_Rn pg_G (d + 1) 63 20 ls (.ref y :: t) (sp_me I c s) r ↔ mm_Rn pg_G (d + 1) 63 23 ls (t) (sp_me J (c + c') (s + s')) r := rn_virt (g := sp_me I c s) (st := .ref y :: t) tb_63_20 (decide_eq_true hT) ⟨Nat.le_add_left _ t.length, hl, rfl⟩ hq r
theorem tb_63_23 : mm_tb pg_G 63 23 = some (.goto 24, 47, 0, 0) := rfl
theorem st_63_23 {d : Nat} {ls t : List Value} {g : mm_M} {r : mm_R} : mm_Rn pg_G d 63 23 ls (t) g r ↔ mm_Rn pg_G d 63 47 ls (t) g r := rn_goto tb_63_23 r
theorem tb_63_26 : mm_tb pg_G 63 26 = some (.iload_n 2, 0, 0, 0) := rfl
theorem st_63_26 {l0 l1 : Value} {d : Nat} {t : List Value} {g : mm_M} {r : mm_R} {x : Int32} : mm_Rn pg_G d 63 26 [l0, l1, .int x] (t) g r ↔ mm_Rn pg_G d 63 27 [l0, l1, .int x] (.int x :: t) g r := rn_iload_n tb_63_26 rfl r
theorem tb_63_27 : mm_tb pg_G 63 27 = some (.ifCond .eq 20, 47, 0, 0) := rfl
theorem st_63_27 {d : Nat} {ls t : List Value} {g : mm_M} {r : mm_R} {x : Int32} : mm_Rn pg_G d 63 27 ls (.int x :: t) g r ↔ if x = 0 then mm_Rn pg_G d 63 47 ls (t) g r else mm_Rn pg_G d 63 30 ls (t) g r := rn_if_eq tb_63_27 r
theorem tb_63_30 : mm_tb pg_G 63 30 = some (.aload_n 0, 0, 0, 0) := rfl
theorem st_63_30 {l1 l2 : Value} {d : Nat} {t : List Value} {g : mm_M} {r : mm_R} {x : Nat} : mm_Rn pg_G d 63 30 [.ref x, l1, l2] (t) g r ↔ mm_Rn pg_G d 63 31 [.ref x, l1, l2] (.ref x :: t) g r := rn_aload_n tb_63_30 rfl r
theorem tb_63_31 : mm_tb pg_G 63 31 = some (.iload_n 2, 0, 0, 0) := rfl
theorem st_63_31 {l0 l1 : Value} {d : Nat} {t : List Value} {g : mm_M} {r : mm_R} {x : Int32} : mm_Rn pg_G d 63 31 [l0, l1, .int x] (t) g r ↔ mm_Rn pg_G d 63 32 [l0, l1, .int x] (.int x :: t) g r := rn_iload_n tb_63_31 rfl r
theorem tb_63_32 : mm_tb pg_G 63 32 = some (.iconst 2, 0, 0, 0) := rfl
theorem st_63_32 {d : Nat} {ls t : List Value} {g : mm_M} {r : mm_R} : mm_Rn pg_G d 63 32 ls (t) g r ↔ mm_Rn pg_G d 63 33 ls (io_v 2 :: t) g r := rn_iconst tb_63_32 r
theorem tb_63_33 : mm_tb pg_G 63 33 = some (.isub, 0, 0, 0) := rfl
theorem st_63_33 {d : Nat} {ls t : List Value} {g : mm_M} {r : mm_R} {x y : Int32} : mm_Rn pg_G d 63 33 ls (.int y :: .int x :: t) g r ↔ mm_Rn pg_G d 63 34 ls (.int (x - y) :: t) g r := rn_isub tb_63_33 r
theorem tb_63_34 : mm_tb pg_G 63 34 = some (.invokevirtual 202, 65, 2, 320) := rfl
theorem st_63_34 {d c s c' s' : Nat} {ls t : List Value} {I J : sp_I} {r : mm_R} {a0 : Int32} {y : Nat} (hl : t.length ≤ 4) (hT : sp_T I y = some (0, 8)) (hq : mm_Rn pg_G d 65 0 [.ref y, .int a0] [] (sp_me I 0 0) (none, sp_me J c' s')) : mm_Rn pg_G (d + 1) 63 34 ls (.int a0 :: .ref y :: t) (sp_me I c s) r ↔ mm_Rn pg_G (d + 1) 63 37 ls (t) (sp_me J (c + c') (s + s')) r := rn_virt (g := sp_me I c s) (st := .int a0 :: .ref y :: t) tb_63_34 (decide_eq_true hT) ⟨Nat.le_add_left _ t.length, hl, rfl⟩ hq r
theorem tb_63_37 : mm_tb pg_G 63 37 = some (.iload_n 2, 0, 0, 0) := rfl
theorem st_63_37 {l0 l1 : Value} {d : Nat} {t : List Value} {g : mm_M} {r : mm_R} {x : Int32} : mm_Rn pg_G d 63 37 [l0, l1, .int x] (t) g r ↔ mm_Rn pg_G d 63 38 [l0, l1, .int x] (.int x :: t) g r := rn_iload_n tb_63_37 rfl r
theorem tb_63_38 : mm_tb pg_G 63 38 = some (.iload_n 1, 0, 0, 0) := rfl
theorem st_63_38 {l0 l2 : Value} {d : Nat} {t : List Value} {g : mm_M} {r : mm_R} {x : Int32} : mm_Rn pg_G d 63 38 [l0, .int x, l2] (t) g r ↔ mm_Rn pg_G d 63 39 [l0, .int x, l2] (.int x :: t) g r := rn_iload_n tb_63_38 rfl r
theorem tb_63_39 : mm_tb pg_G 63 39 = some (.if_icmp .eq 8, 47, 0, 0) := rfl
theorem st_63_39 {d : Nat} {ls t : List Value} {g : mm_M} {r : mm_R} {x y : Int32} : mm_Rn pg_G d 63 39 ls (.int y :: .int x :: t) g r ↔ if x = y then mm_Rn pg_G d 63 47 ls (t) g r else mm_Rn pg_G d 63 42 ls (t) g r := rn_icmp_eq tb_63_39 r
theorem tb_63_42 : mm_tb pg_G 63 42 = some (.aload_n 0, 0, 0, 0) := rfl
theorem st_63_42 {l1 l2 : Value} {d : Nat} {t : List Value} {g : mm_M} {r : mm_R} {x : Nat} : mm_Rn pg_G d 63 42 [.ref x, l1, l2] (t) g r ↔ mm_Rn pg_G d 63 43 [.ref x, l1, l2] (.ref x :: t) g r := rn_aload_n tb_63_42 rfl r
theorem tb_63_43 : mm_tb pg_G 63 43 = some (.iload_n 2, 0, 0, 0) := rfl
theorem st_63_43 {l0 l1 : Value} {d : Nat} {t : List Value} {g : mm_M} {r : mm_R} {x : Int32} : mm_Rn pg_G d 63 43 [l0, l1, .int x] (t) g r ↔ mm_Rn pg_G d 63 44 [l0, l1, .int x] (.int x :: t) g r := rn_iload_n tb_63_43 rfl r
theorem tb_63_44 : mm_tb pg_G 63 44 = some (.invokevirtual 206, 66, 2, 335) := rfl
theorem st_63_44 {d c s c' s' : Nat} {ls t : List Value} {I J : sp_I} {r : mm_R} {a0 : Int32} {y : Nat} (hl : t.length ≤ 4) (hT : sp_T I y = some (0, 8)) (hq : mm_Rn pg_G d 66 0 [.ref y, .int a0, .retAddr 0, .retAddr 0] [] (sp_me I 0 0) (none, sp_me J c' s')) : mm_Rn pg_G (d + 1) 63 44 ls (.int a0 :: .ref y :: t) (sp_me I c s) r ↔ mm_Rn pg_G (d + 1) 63 47 ls (t) (sp_me J (c + c') (s + s')) r := rn_virt (g := sp_me I c s) (st := .int a0 :: .ref y :: t) tb_63_44 (decide_eq_true hT) ⟨Nat.le_add_left _ t.length, hl, rfl⟩ hq r
theorem tb_63_47 : mm_tb pg_G 63 47 = some (.aload_n 0, 0, 0, 0) := rfl
theorem st_63_47 {l1 l2 : Value} {d : Nat} {t : List Value} {g : mm_M} {r : mm_R} {x : Nat} : mm_Rn pg_G d 63 47 [.ref x, l1, l2] (t) g r ↔ mm_Rn pg_G d 63 48 [.ref x, l1, l2] (.ref x :: t) g r := rn_aload_n tb_63_47 rfl r
theorem tb_63_48 : mm_tb pg_G 63 48 = some (.getfield 29, 0, 3, 96) := rfl
theorem st_63_48 {d : Nat} {ls t : List Value} {g : mm_M} {r : mm_R} {x : Nat} (hT : g.1 x = some (0, 8)) : mm_Rn pg_G d 63 48 ls (.ref x :: t) g r ↔ mm_Rn pg_G d 63 51 ls (g.2.1 x 3 :: t) g r := rn_getfield tb_63_48 hT r
theorem tb_63_51 : mm_tb pg_G 63 51 = some (.iload_n 2, 0, 0, 0) := rfl
theorem st_63_51 {l0 l1 : Value} {d : Nat} {t : List Value} {g : mm_M} {r : mm_R} {x : Int32} : mm_Rn pg_G d 63 51 [l0, l1, .int x] (t) g r ↔ mm_Rn pg_G d 63 52 [l0, l1, .int x] (.int x :: t) g r := rn_iload_n tb_63_51 rfl r
theorem tb_63_52 : mm_tb pg_G 63 52 = some (.invokevirtual 209, 30, 2, 342) := rfl
theorem st_63_52 {d c s c' s' : Nat} {ls t : List Value} {I J : sp_I} {r : mm_R} {a0 : Int32} {y : Nat} (hl : t.length ≤ 4) (hT : sp_T I y = some (2, 4)) (hq : mm_Rn pg_G d 30 0 [.ref y, .int a0] [] (sp_me I 0 0) (none, sp_me J c' s')) : mm_Rn pg_G (d + 1) 63 52 ls (.int a0 :: .ref y :: t) (sp_me I c s) r ↔ mm_Rn pg_G (d + 1) 63 55 ls (t) (sp_me J (c + c') (s + s')) r := rn_virt (g := sp_me I c s) (st := .int a0 :: .ref y :: t) tb_63_52 (decide_eq_true hT) ⟨Nat.le_add_left _ t.length, hl, rfl⟩ hq r
theorem tb_63_55 : mm_tb pg_G 63 55 = some (.aload_n 0, 0, 0, 0) := rfl
theorem st_63_55 {l1 l2 : Value} {d : Nat} {t : List Value} {g : mm_M} {r : mm_R} {x : Nat} : mm_Rn pg_G d 63 55 [.ref x, l1, l2] (t) g r ↔ mm_Rn pg_G d 63 56 [.ref x, l1, l2] (.ref x :: t) g r := rn_aload_n tb_63_55 rfl r
theorem tb_63_56 : mm_tb pg_G 63 56 = some (.invokevirtual 212, 67, 1, 350) := rfl
theorem st_63_56 {d c s c' s' : Nat} {ls t : List Value} {I J : sp_I} {r : mm_R} {y : Nat} (hl : t.length ≤ 4) (hT : sp_T I y = some (0, 8)) (hq : mm_Rn pg_G d 67 0 [.ref y, .retAddr 0] [] (sp_me I 0 0) (none, sp_me J c' s')) : mm_Rn pg_G (d + 1) 63 56 ls (.ref y :: t) (sp_me I c s) r ↔ mm_Rn pg_G (d + 1) 63 59 ls (t) (sp_me J (c + c') (s + s')) r := rn_virt (g := sp_me I c s) (st := .ref y :: t) tb_63_56 (decide_eq_true hT) ⟨Nat.le_add_left _ t.length, hl, rfl⟩ hq r
theorem tb_63_59 : mm_tb pg_G 63 59 = some (.return_, 0, 0, 0) := rfl
theorem st_63_59 {d : Nat} {ls : List Value} {g : mm_M} {r : mm_R} : mm_Rn pg_G d 63 59 ls [] g r ↔ r = (none, g) := rn_return_iff tb_63_59 rfl r
theorem tb_64_0 : mm_tb pg_G 64 0 = some (.iload_n 1, 0, 0, 0) := rfl
theorem st_64_0 {l0 l2 l3 l4 : Value} {d : Nat} {t : List Value} {g : mm_M} {r : mm_R} {x : Int32} : mm_Rn pg_G d 64 0 [l0, .int x, l2, l3, l4] (t) g r ↔ mm_Rn pg_G d 64 1 [l0, .int x, l2, l3, l4] (.int x :: t) g r := rn_iload_n tb_64_0 rfl r
theorem tb_64_1 : mm_tb pg_G 64 1 = some (.ifCond .eq 8, 9, 0, 0) := rfl
theorem st_64_1 {d : Nat} {ls t : List Value} {g : mm_M} {r : mm_R} {x : Int32} : mm_Rn pg_G d 64 1 ls (.int x :: t) g r ↔ if x = 0 then mm_Rn pg_G d 64 9 ls (t) g r else mm_Rn pg_G d 64 4 ls (t) g r := rn_if_eq tb_64_1 r
theorem tb_64_4 : mm_tb pg_G 64 4 = some (.iload_n 1, 0, 0, 0) := rfl
theorem st_64_4 {l0 l2 l3 l4 : Value} {d : Nat} {t : List Value} {g : mm_M} {r : mm_R} {x : Int32} : mm_Rn pg_G d 64 4 [l0, .int x, l2, l3, l4] (t) g r ↔ mm_Rn pg_G d 64 5 [l0, .int x, l2, l3, l4] (.int x :: t) g r := rn_iload_n tb_64_4 rfl r
theorem tb_64_5 : mm_tb pg_G 64 5 = some (.iconst 1, 0, 0, 0) := rfl
theorem st_64_5 {d : Nat} {ls t : List Value} {g : mm_M} {r : mm_R} : mm_Rn pg_G d 64 5 ls (t) g r ↔ mm_Rn pg_G d 64 6 ls (io_v 1 :: t) g r := rn_iconst tb_64_5 r
theorem tb_64_6 : mm_tb pg_G 64 6 = some (.if_icmp .ne 5, 11, 0, 0) := rfl
theorem st_64_6 {d : Nat} {ls t : List Value} {g : mm_M} {r : mm_R} {x y : Int32} : mm_Rn pg_G d 64 6 ls (.int y :: .int x :: t) g r ↔ if x = y then mm_Rn pg_G d 64 9 ls (t) g r else mm_Rn pg_G d 64 11 ls (t) g r := rn_icmp_ne tb_64_6 r
theorem tb_64_9 : mm_tb pg_G 64 9 = some (.iload_n 1, 0, 0, 0) := rfl
theorem st_64_9 {l0 l2 l3 l4 : Value} {d : Nat} {t : List Value} {g : mm_M} {r : mm_R} {x : Int32} : mm_Rn pg_G d 64 9 [l0, .int x, l2, l3, l4] (t) g r ↔ mm_Rn pg_G d 64 10 [l0, .int x, l2, l3, l4] (.int x :: t) g r := rn_iload_n tb_64_9 rfl r
theorem tb_64_10 : mm_tb pg_G 64 10 = some (.ireturn, 0, 0, 0) := rfl
theorem st_64_10 {d : Nat} {ls : List Value} {g : mm_M} {r : mm_R} {x : Int32} : mm_Rn pg_G d 64 10 ls [.int x] g r ↔ r = (some (.int x), g) := rn_ireturn_iff tb_64_10 (Or.inl rfl) r
theorem tb_64_11 : mm_tb pg_G 64 11 = some (.aload_n 0, 0, 0, 0) := rfl
theorem st_64_11 {l1 l2 l3 l4 : Value} {d : Nat} {t : List Value} {g : mm_M} {r : mm_R} {x : Nat} : mm_Rn pg_G d 64 11 [.ref x, l1, l2, l3, l4] (t) g r ↔ mm_Rn pg_G d 64 12 [.ref x, l1, l2, l3, l4] (.ref x :: t) g r := rn_aload_n tb_64_11 rfl r
theorem tb_64_12 : mm_tb pg_G 64 12 = some (.getfield 11, 0, 0, 93) := rfl
theorem st_64_12 {d : Nat} {ls t : List Value} {g : mm_M} {r : mm_R} {x : Nat} (hT : g.1 x = some (0, 8)) : mm_Rn pg_G d 64 12 ls (.ref x :: t) g r ↔ mm_Rn pg_G d 64 15 ls (g.2.1 x 0 :: t) g r := rn_getfield tb_64_12 hT r
theorem tb_64_15 : mm_tb pg_G 64 15 = some (.iload_n 1, 0, 0, 0) := rfl
theorem st_64_15 {l0 l2 l3 l4 : Value} {d : Nat} {t : List Value} {g : mm_M} {r : mm_R} {x : Int32} : mm_Rn pg_G d 64 15 [l0, .int x, l2, l3, l4] (t) g r ↔ mm_Rn pg_G d 64 16 [l0, .int x, l2, l3, l4] (.int x :: t) g r := rn_iload_n tb_64_15 rfl r
theorem tb_64_16 : mm_tb pg_G 64 16 = some (.iconst 2, 0, 0, 0) := rfl
theorem st_64_16 {d : Nat} {ls t : List Value} {g : mm_M} {r : mm_R} : mm_Rn pg_G d 64 16 ls (t) g r ↔ mm_Rn pg_G d 64 17 ls (io_v 2 :: t) g r := rn_iconst tb_64_16 r
theorem tb_64_17 : mm_tb pg_G 64 17 = some (.isub, 0, 0, 0) := rfl
theorem st_64_17 {d : Nat} {ls t : List Value} {g : mm_M} {r : mm_R} {x y : Int32} : mm_Rn pg_G d 64 17 ls (.int y :: .int x :: t) g r ↔ mm_Rn pg_G d 64 18 ls (.int (x - y) :: t) g r := rn_isub tb_64_17 r
theorem tb_64_18 : mm_tb pg_G 64 18 = some (.aaload, 0, 0, 0) := rfl
theorem st_64_18 {d : Nat} {ls t : List Value} {g : mm_M} {r : mm_R} {x : Nat} {j : Int32} (hc : mm_in (g.1 x) 102 103 j = true) : mm_Rn pg_G d 64 18 ls (.int j :: .ref x :: t) g r ↔ mm_Rn pg_G d 64 19 ls (g.2.1 x j.toNatClampNeg :: t) g r := rn_aaload tb_64_18 hc r
theorem tb_64_19 : mm_tb pg_G 64 19 = some (.astore_n 2, 0, 0, 0) := rfl
theorem st_64_19 {l0 l1 l2 l3 l4 : Value} {d : Nat} {t : List Value} {g : mm_M} {r : mm_R} {x : Nat} (hc : mm_c1 l1 = true) : mm_Rn pg_G d 64 19 [l0, l1, l2, l3, l4] (.ref x :: t) g r ↔ mm_Rn pg_G d 64 20 [l0, l1, .ref x, l3, l4] (t) g r := rn_astore_n tb_64_19 (mm_so_of (ls := [l0, l1, l2, l3, l4]) (v := l1) (Nat.le_of_ble_eq_true rfl) rfl hc) r
theorem tb_64_20 : mm_tb pg_G 64 20 = some (.aload_n 2, 0, 0, 0) := rfl
theorem st_64_20 {l0 l1 l3 l4 : Value} {d : Nat} {t : List Value} {g : mm_M} {r : mm_R} {x : Nat} : mm_Rn pg_G d 64 20 [l0, l1, .ref x, l3, l4] (t) g r ↔ mm_Rn pg_G d 64 21 [l0, l1, .ref x, l3, l4] (.ref x :: t) g r := rn_aload_n tb_64_20 rfl r
theorem tb_64_21 : mm_tb pg_G 64 21 = some (.getfield 85, 3, 4, 149) := rfl
theorem st_64_21 {d : Nat} {ls t : List Value} {g : mm_M} {r : mm_R} {x : Nat} (hT : g.1 x = some (3, 10)) : mm_Rn pg_G d 64 21 ls (.ref x :: t) g r ↔ mm_Rn pg_G d 64 24 ls (g.2.1 x 4 :: t) g r := rn_getfield tb_64_21 hT r
theorem tb_64_24 : mm_tb pg_G 64 24 = some (.invokevirtual 161, 6, 1, 296) := rfl
theorem st_64_24 {d c s c' s' : Nat} {ls t : List Value} {I J : sp_I} {r : mm_R} {y : Nat} {v : Int32} (hl : t.length ≤ 4) (hT : sp_T I y = some (5, 7)) (hq : mm_Rn pg_G d 6 0 [.ref y] [] (sp_me I 0 0) (some (.int v), sp_me J c' s')) : mm_Rn pg_G (d + 1) 64 24 ls (.ref y :: t) (sp_me I c s) r ↔ mm_Rn pg_G (d + 1) 64 27 ls (.int v :: t) (sp_me J (c + c') (s + s')) r := rn_virt (g := sp_me I c s) (st := .ref y :: t) tb_64_24 (decide_eq_true hT) ⟨Nat.le_add_left _ t.length, hl, rfl⟩ hq r
theorem tb_64_27 : mm_tb pg_G 64 27 = some (.ifCond .eq 5, 32, 0, 0) := rfl
theorem st_64_27 {d : Nat} {ls t : List Value} {g : mm_M} {r : mm_R} {x : Int32} : mm_Rn pg_G d 64 27 ls (.int x :: t) g r ↔ if x = 0 then mm_Rn pg_G d 64 32 ls (t) g r else mm_Rn pg_G d 64 30 ls (t) g r := rn_if_eq tb_64_27 r
theorem tb_64_30 : mm_tb pg_G 64 30 = some (.iload_n 1, 0, 0, 0) := rfl
theorem st_64_30 {l0 l2 l3 l4 : Value} {d : Nat} {t : List Value} {g : mm_M} {r : mm_R} {x : Int32} : mm_Rn pg_G d 64 30 [l0, .int x, l2, l3, l4] (t) g r ↔ mm_Rn pg_G d 64 31 [l0, .int x, l2, l3, l4] (.int x :: t) g r := rn_iload_n tb_64_30 rfl r
theorem tb_64_31 : mm_tb pg_G 64 31 = some (.ireturn, 0, 0, 0) := rfl
theorem st_64_31 {d : Nat} {ls : List Value} {g : mm_M} {r : mm_R} {x : Int32} : mm_Rn pg_G d 64 31 ls [.int x] g r ↔ r = (some (.int x), g) := rn_ireturn_iff tb_64_31 (Or.inl rfl) r
theorem tb_64_32 : mm_tb pg_G 64 32 = some (.aload_n 0, 0, 0, 0) := rfl
theorem st_64_32 {l1 l2 l3 l4 : Value} {d : Nat} {t : List Value} {g : mm_M} {r : mm_R} {x : Nat} : mm_Rn pg_G d 64 32 [.ref x, l1, l2, l3, l4] (t) g r ↔ mm_Rn pg_G d 64 33 [.ref x, l1, l2, l3, l4] (.ref x :: t) g r := rn_aload_n tb_64_32 rfl r
theorem tb_64_33 : mm_tb pg_G 64 33 = some (.invokevirtual 139, 62, 1, 300) := rfl
theorem st_64_33 {d c s c' s' : Nat} {ls t : List Value} {I J : sp_I} {r : mm_R} {y : Nat} {v : Int32} (hl : t.length ≤ 4) (hT : sp_T I y = some (0, 8)) (hq : mm_Rn pg_G d 62 0 [.ref y, .retAddr 0, .retAddr 0] [] (sp_me I 0 0) (some (.int v), sp_me J c' s')) : mm_Rn pg_G (d + 1) 64 33 ls (.ref y :: t) (sp_me I c s) r ↔ mm_Rn pg_G (d + 1) 64 36 ls (.int v :: t) (sp_me J (c + c') (s + s')) r := rn_virt (g := sp_me I c s) (st := .ref y :: t) tb_64_33 (decide_eq_true hT) ⟨Nat.le_add_left _ t.length, hl, rfl⟩ hq r
theorem tb_64_36 : mm_tb pg_G 64 36 = some (.istore_n 3, 0, 0, 0) := rfl
theorem st_64_36 {l0 l1 l2 l3 l4 : Value} {d : Nat} {t : List Value} {g : mm_M} {r : mm_R} {x : Int32} (hc : mm_c1 l2 = true) : mm_Rn pg_G d 64 36 [l0, l1, l2, l3, l4] (.int x :: t) g r ↔ mm_Rn pg_G d 64 37 [l0, l1, l2, .int x, l4] (t) g r := rn_istore_n tb_64_36 (mm_so_of (ls := [l0, l1, l2, l3, l4]) (v := l2) (Nat.le_of_ble_eq_true rfl) rfl hc) r
theorem tb_64_37 : mm_tb pg_G 64 37 = some (.aload_n 2, 0, 0, 0) := rfl
theorem st_64_37 {l0 l1 l3 l4 : Value} {d : Nat} {t : List Value} {g : mm_M} {r : mm_R} {x : Nat} : mm_Rn pg_G d 64 37 [l0, l1, .ref x, l3, l4] (t) g r ↔ mm_Rn pg_G d 64 38 [l0, l1, .ref x, l3, l4] (.ref x :: t) g r := rn_aload_n tb_64_37 rfl r
theorem tb_64_38 : mm_tb pg_G 64 38 = some (.invokevirtual 67, 11, 1, 204) := rfl
theorem st_64_38 {d c s c' s' : Nat} {ls t : List Value} {I J : sp_I} {r : mm_R} {y : Nat} {v : Int32} (hl : t.length ≤ 4) (hT : sp_T I y = some (3, 10)) (hq : mm_Rn pg_G d 11 0 [.ref y] [] (sp_me I 0 0) (some (.int v), sp_me J c' s')) : mm_Rn pg_G (d + 1) 64 38 ls (.ref y :: t) (sp_me I c s) r ↔ mm_Rn pg_G (d + 1) 64 41 ls (.int v :: t) (sp_me J (c + c') (s + s')) r := rn_virt (g := sp_me I c s) (st := .ref y :: t) tb_64_38 (decide_eq_true hT) ⟨Nat.le_add_left _ t.length, hl, rfl⟩ hq r
theorem tb_64_41 : mm_tb pg_G 64 41 = some (.iload_n 3, 0, 0, 0) := rfl
theorem st_64_41 {l0 l1 l2 l4 : Value} {d : Nat} {t : List Value} {g : mm_M} {r : mm_R} {x : Int32} : mm_Rn pg_G d 64 41 [l0, l1, l2, .int x, l4] (t) g r ↔ mm_Rn pg_G d 64 42 [l0, l1, l2, .int x, l4] (.int x :: t) g r := rn_iload_n tb_64_41 rfl r
theorem tb_64_42 : mm_tb pg_G 64 42 = some (.if_icmp .le 5, 47, 0, 0) := rfl
theorem st_64_42 {d : Nat} {ls t : List Value} {g : mm_M} {r : mm_R} {x y : Int32} : mm_Rn pg_G d 64 42 ls (.int y :: .int x :: t) g r ↔ if x ≤ y then mm_Rn pg_G d 64 47 ls (t) g r else mm_Rn pg_G d 64 45 ls (t) g r := rn_icmp_le tb_64_42 r
theorem tb_64_45 : mm_tb pg_G 64 45 = some (.iload_n 1, 0, 0, 0) := rfl
theorem st_64_45 {l0 l2 l3 l4 : Value} {d : Nat} {t : List Value} {g : mm_M} {r : mm_R} {x : Int32} : mm_Rn pg_G d 64 45 [l0, .int x, l2, l3, l4] (t) g r ↔ mm_Rn pg_G d 64 46 [l0, .int x, l2, l3, l4] (.int x :: t) g r := rn_iload_n tb_64_45 rfl r
theorem tb_64_46 : mm_tb pg_G 64 46 = some (.ireturn, 0, 0, 0) := rfl
theorem st_64_46 {d : Nat} {ls : List Value} {g : mm_M} {r : mm_R} {x : Int32} : mm_Rn pg_G d 64 46 ls [.int x] g r ↔ r = (some (.int x), g) := rn_ireturn_iff tb_64_46 (Or.inl rfl) r
theorem tb_64_47 : mm_tb pg_G 64 47 = some (.iconst 0, 0, 0, 0) := rfl
theorem st_64_47 {d : Nat} {ls t : List Value} {g : mm_M} {r : mm_R} : mm_Rn pg_G d 64 47 ls (t) g r ↔ mm_Rn pg_G d 64 48 ls (io_v 0 :: t) g r := rn_iconst tb_64_47 r
theorem tb_64_48 : mm_tb pg_G 64 48 = some (.istore 4, 0, 0, 0) := rfl
theorem st_64_48 {l0 l1 l2 l3 l4 : Value} {d : Nat} {t : List Value} {g : mm_M} {r : mm_R} {x : Int32} (hc : mm_c1 l3 = true) : mm_Rn pg_G d 64 48 [l0, l1, l2, l3, l4] (.int x :: t) g r ↔ mm_Rn pg_G d 64 50 [l0, l1, l2, l3, .int x] (t) g r := rn_istore tb_64_48 (mm_so_of (ls := [l0, l1, l2, l3, l4]) (v := l3) (Nat.le_of_ble_eq_true rfl) rfl hc) r
theorem tb_64_50 : mm_tb pg_G 64 50 = some (.iload 4, 0, 0, 0) := rfl
theorem st_64_50 {l0 l1 l2 l3 : Value} {d : Nat} {t : List Value} {g : mm_M} {r : mm_R} {x : Int32} : mm_Rn pg_G d 64 50 [l0, l1, l2, l3, .int x] (t) g r ↔ mm_Rn pg_G d 64 52 [l0, l1, l2, l3, .int x] (.int x :: t) g r := rn_iload tb_64_50 rfl r
theorem tb_64_52 : mm_tb pg_G 64 52 = some (.aload_n 0, 0, 0, 0) := rfl
theorem st_64_52 {l1 l2 l3 l4 : Value} {d : Nat} {t : List Value} {g : mm_M} {r : mm_R} {x : Nat} : mm_Rn pg_G d 64 52 [.ref x, l1, l2, l3, l4] (t) g r ↔ mm_Rn pg_G d 64 53 [.ref x, l1, l2, l3, l4] (.ref x :: t) g r := rn_aload_n tb_64_52 rfl r
theorem tb_64_53 : mm_tb pg_G 64 53 = some (.getfield 33, 0, 4, 97) := rfl
theorem st_64_53 {d : Nat} {ls t : List Value} {g : mm_M} {r : mm_R} {x : Nat} (hT : g.1 x = some (0, 8)) : mm_Rn pg_G d 64 53 ls (.ref x :: t) g r ↔ mm_Rn pg_G d 64 56 ls (g.2.1 x 4 :: t) g r := rn_getfield tb_64_53 hT r
theorem tb_64_56 : mm_tb pg_G 64 56 = some (.if_icmp .ge 32, 88, 0, 0) := rfl
theorem st_64_56 {d : Nat} {ls t : List Value} {g : mm_M} {r : mm_R} {x y : Int32} : mm_Rn pg_G d 64 56 ls (.int y :: .int x :: t) g r ↔ if y ≤ x then mm_Rn pg_G d 64 88 ls (t) g r else mm_Rn pg_G d 64 59 ls (t) g r := rn_icmp_ge tb_64_56 r
theorem tb_64_59 : mm_tb pg_G 64 59 = some (.aload_n 0, 0, 0, 0) := rfl
theorem st_64_59 {l1 l2 l3 l4 : Value} {d : Nat} {t : List Value} {g : mm_M} {r : mm_R} {x : Nat} : mm_Rn pg_G d 64 59 [.ref x, l1, l2, l3, l4] (t) g r ↔ mm_Rn pg_G d 64 60 [.ref x, l1, l2, l3, l4] (.ref x :: t) g r := rn_aload_n tb_64_59 rfl r
theorem tb_64_60 : mm_tb pg_G 64 60 = some (.getfield 11, 0, 0, 93) := rfl
theorem st_64_60 {d : Nat} {ls t : List Value} {g : mm_M} {r : mm_R} {x : Nat} (hT : g.1 x = some (0, 8)) : mm_Rn pg_G d 64 60 ls (.ref x :: t) g r ↔ mm_Rn pg_G d 64 63 ls (g.2.1 x 0 :: t) g r := rn_getfield tb_64_60 hT r
theorem tb_64_63 : mm_tb pg_G 64 63 = some (.iload 4, 0, 0, 0) := rfl
theorem st_64_63 {l0 l1 l2 l3 : Value} {d : Nat} {t : List Value} {g : mm_M} {r : mm_R} {x : Int32} : mm_Rn pg_G d 64 63 [l0, l1, l2, l3, .int x] (t) g r ↔ mm_Rn pg_G d 64 65 [l0, l1, l2, l3, .int x] (.int x :: t) g r := rn_iload tb_64_63 rfl r
theorem tb_64_65 : mm_tb pg_G 64 65 = some (.aaload, 0, 0, 0) := rfl
theorem st_64_65 {d : Nat} {ls t : List Value} {g : mm_M} {r : mm_R} {x : Nat} {j : Int32} (hc : mm_in (g.1 x) 102 103 j = true) : mm_Rn pg_G d 64 65 ls (.int j :: .ref x :: t) g r ↔ mm_Rn pg_G d 64 66 ls (g.2.1 x j.toNatClampNeg :: t) g r := rn_aaload tb_64_65 hc r
theorem tb_64_66 : mm_tb pg_G 64 66 = some (.aload_n 0, 0, 0, 0) := rfl
theorem st_64_66 {l1 l2 l3 l4 : Value} {d : Nat} {t : List Value} {g : mm_M} {r : mm_R} {x : Nat} : mm_Rn pg_G d 64 66 [.ref x, l1, l2, l3, l4] (t) g r ↔ mm_Rn pg_G d 64 67 [.ref x, l1, l2, l3, l4] (.ref x :: t) g r := rn_aload_n tb_64_66 rfl r
theorem tb_64_67 : mm_tb pg_G 64 67 = some (.getfield 15, 0, 1, 94) := rfl
theorem st_64_67 {d : Nat} {ls t : List Value} {g : mm_M} {r : mm_R} {x : Nat} (hT : g.1 x = some (0, 8)) : mm_Rn pg_G d 64 67 ls (.ref x :: t) g r ↔ mm_Rn pg_G d 64 70 ls (g.2.1 x 1 :: t) g r := rn_getfield tb_64_67 hT r
theorem tb_64_70 : mm_tb pg_G 64 70 = some (.invokevirtual 189, 18, 2, 303) := rfl
theorem st_64_70 {d c s c' s' : Nat} {ls t : List Value} {I J : sp_I} {r : mm_R} {y a0 : Nat} {v : Int32} (hl : t.length ≤ 4) (hT : sp_T I y = some (3, 10)) (hq : mm_Rn pg_G d 18 0 [.ref y, .ref a0, .retAddr 0, .retAddr 0] [] (sp_me I 0 0) (some (.int v), sp_me J c' s')) : mm_Rn pg_G (d + 1) 64 70 ls (.ref a0 :: .ref y :: t) (sp_me I c s) r ↔ mm_Rn pg_G (d + 1) 64 73 ls (.int v :: t) (sp_me J (c + c') (s + s')) r := rn_virt (g := sp_me I c s) (st := .ref a0 :: .ref y :: t) tb_64_70 (decide_eq_true hT) ⟨Nat.le_add_left _ t.length, hl, rfl⟩ hq r
theorem tb_64_73 : mm_tb pg_G 64 73 = some (.iload_n 3, 0, 0, 0) := rfl
theorem st_64_73 {l0 l1 l2 l4 : Value} {d : Nat} {t : List Value} {g : mm_M} {r : mm_R} {x : Int32} : mm_Rn pg_G d 64 73 [l0, l1, l2, .int x, l4] (t) g r ↔ mm_Rn pg_G d 64 74 [l0, l1, l2, .int x, l4] (.int x :: t) g r := rn_iload_n tb_64_73 rfl r
theorem tb_64_74 : mm_tb pg_G 64 74 = some (.if_icmp .ne 8, 82, 0, 0) := rfl
theorem st_64_74 {d : Nat} {ls t : List Value} {g : mm_M} {r : mm_R} {x y : Int32} : mm_Rn pg_G d 64 74 ls (.int y :: .int x :: t) g r ↔ if x = y then mm_Rn pg_G d 64 77 ls (t) g r else mm_Rn pg_G d 64 82 ls (t) g r := rn_icmp_ne tb_64_74 r
theorem tb_64_77 : mm_tb pg_G 64 77 = some (.iconst 2, 0, 0, 0) := rfl
theorem st_64_77 {d : Nat} {ls t : List Value} {g : mm_M} {r : mm_R} : mm_Rn pg_G d 64 77 ls (t) g r ↔ mm_Rn pg_G d 64 78 ls (io_v 2 :: t) g r := rn_iconst tb_64_77 r
theorem tb_64_78 : mm_tb pg_G 64 78 = some (.iload 4, 0, 0, 0) := rfl
theorem st_64_78 {l0 l1 l2 l3 : Value} {d : Nat} {t : List Value} {g : mm_M} {r : mm_R} {x : Int32} : mm_Rn pg_G d 64 78 [l0, l1, l2, l3, .int x] (t) g r ↔ mm_Rn pg_G d 64 80 [l0, l1, l2, l3, .int x] (.int x :: t) g r := rn_iload tb_64_78 rfl r
theorem tb_64_80 : mm_tb pg_G 64 80 = some (.iadd, 0, 0, 0) := rfl
theorem st_64_80 {d : Nat} {ls t : List Value} {g : mm_M} {r : mm_R} {x y : Int32} : mm_Rn pg_G d 64 80 ls (.int y :: .int x :: t) g r ↔ mm_Rn pg_G d 64 81 ls (.int (x + y) :: t) g r := rn_iadd tb_64_80 r
theorem tb_64_81 : mm_tb pg_G 64 81 = some (.ireturn, 0, 0, 0) := rfl
theorem st_64_81 {d : Nat} {ls : List Value} {g : mm_M} {r : mm_R} {x : Int32} : mm_Rn pg_G d 64 81 ls [.int x] g r ↔ r = (some (.int x), g) := rn_ireturn_iff tb_64_81 (Or.inl rfl) r
theorem tb_64_82 : mm_tb pg_G 64 82 = some (.iinc 4 1, 0, 0, 0) := rfl
theorem st_64_82 {l0 l1 l2 l3 : Value} {d : Nat} {t : List Value} {g : mm_M} {r : mm_R} {x : Int32} (hc : mm_c1 l3 = true) : mm_Rn pg_G d 64 82 [l0, l1, l2, l3, .int x] (t) g r ↔ mm_Rn pg_G d 64 85 [l0, l1, l2, l3, .int (x + Int32.ofInt 1)] (t) g r := rn_iinc tb_64_82 rfl (mm_so_of (ls := [l0, l1, l2, l3, .int x]) (v := l3) (Nat.le_of_ble_eq_true rfl) rfl hc) r
theorem tb_64_85 : mm_tb pg_G 64 85 = some (.goto (-35), 50, 0, 0) := rfl
theorem st_64_85 {d : Nat} {ls t : List Value} {g : mm_M} {r : mm_R} : mm_Rn pg_G d 64 85 ls (t) g r ↔ mm_Rn pg_G d 64 50 ls (t) g r := rn_goto tb_64_85 r
theorem tb_64_88 : mm_tb pg_G 64 88 = some (.iload_n 1, 0, 0, 0) := rfl
theorem st_64_88 {l0 l2 l3 l4 : Value} {d : Nat} {t : List Value} {g : mm_M} {r : mm_R} {x : Int32} : mm_Rn pg_G d 64 88 [l0, .int x, l2, l3, l4] (t) g r ↔ mm_Rn pg_G d 64 89 [l0, .int x, l2, l3, l4] (.int x :: t) g r := rn_iload_n tb_64_88 rfl r
theorem tb_64_89 : mm_tb pg_G 64 89 = some (.ireturn, 0, 0, 0) := rfl
theorem st_64_89 {d : Nat} {ls : List Value} {g : mm_M} {r : mm_R} {x : Int32} : mm_Rn pg_G d 64 89 ls [.int x] g r ↔ r = (some (.int x), g) := rn_ireturn_iff tb_64_89 (Or.inl rfl) r
theorem tb_65_0 : mm_tb pg_G 65 0 = some (.aload_n 0, 0, 0, 0) := rfl
theorem st_65_0 {l1 : Value} {d : Nat} {t : List Value} {g : mm_M} {r : mm_R} {x : Nat} : mm_Rn pg_G d 65 0 [.ref x, l1] (t) g r ↔ mm_Rn pg_G d 65 1 [.ref x, l1] (.ref x :: t) g r := rn_aload_n tb_65_0 rfl r
theorem tb_65_1 : mm_tb pg_G 65 1 = some (.getfield 11, 0, 0, 93) := rfl
theorem st_65_1 {d : Nat} {ls t : List Value} {g : mm_M} {r : mm_R} {x : Nat} (hT : g.1 x = some (0, 8)) : mm_Rn pg_G d 65 1 ls (.ref x :: t) g r ↔ mm_Rn pg_G d 65 4 ls (g.2.1 x 0 :: t) g r := rn_getfield tb_65_1 hT r
theorem tb_65_4 : mm_tb pg_G 65 4 = some (.iload_n 1, 0, 0, 0) := rfl
theorem st_65_4 {l0 : Value} {d : Nat} {t : List Value} {g : mm_M} {r : mm_R} {x : Int32} : mm_Rn pg_G d 65 4 [l0, .int x] (t) g r ↔ mm_Rn pg_G d 65 5 [l0, .int x] (.int x :: t) g r := rn_iload_n tb_65_4 rfl r
theorem tb_65_5 : mm_tb pg_G 65 5 = some (.aaload, 0, 0, 0) := rfl
theorem st_65_5 {d : Nat} {ls t : List Value} {g : mm_M} {r : mm_R} {x : Nat} {j : Int32} (hc : mm_in (g.1 x) 102 103 j = true) : mm_Rn pg_G d 65 5 ls (.int j :: .ref x :: t) g r ↔ mm_Rn pg_G d 65 6 ls (g.2.1 x j.toNatClampNeg :: t) g r := rn_aaload tb_65_5 hc r
theorem tb_65_6 : mm_tb pg_G 65 6 = some (.invokevirtual 215, 19, 1, 323) := rfl
theorem st_65_6 {d c s c' s' : Nat} {ls t : List Value} {I J : sp_I} {r : mm_R} {y : Nat} (hl : t.length ≤ 4) (hT : sp_T I y = some (3, 10)) (hq : mm_Rn pg_G d 19 0 [.ref y, .retAddr 0, .retAddr 0] [] (sp_me I 0 0) (none, sp_me J c' s')) : mm_Rn pg_G (d + 1) 65 6 ls (.ref y :: t) (sp_me I c s) r ↔ mm_Rn pg_G (d + 1) 65 9 ls (t) (sp_me J (c + c') (s + s')) r := rn_virt (g := sp_me I c s) (st := .ref y :: t) tb_65_6 (decide_eq_true hT) ⟨Nat.le_add_left _ t.length, hl, rfl⟩ hq r
theorem tb_65_9 : mm_tb pg_G 65 9 = some (.aload_n 0, 0, 0, 0) := rfl
theorem st_65_9 {l1 : Value} {d : Nat} {t : List Value} {g : mm_M} {r : mm_R} {x : Nat} : mm_Rn pg_G d 65 9 [.ref x, l1] (t) g r ↔ mm_Rn pg_G d 65 10 [.ref x, l1] (.ref x :: t) g r := rn_aload_n tb_65_9 rfl r
theorem tb_65_10 : mm_tb pg_G 65 10 = some (.getfield 11, 0, 0, 93) := rfl
theorem st_65_10 {d : Nat} {ls t : List Value} {g : mm_M} {r : mm_R} {x : Nat} (hT : g.1 x = some (0, 8)) : mm_Rn pg_G d 65 10 ls (.ref x :: t) g r ↔ mm_Rn pg_G d 65 13 ls (g.2.1 x 0 :: t) g r := rn_getfield tb_65_10 hT r
theorem tb_65_13 : mm_tb pg_G 65 13 = some (.iload_n 1, 0, 0, 0) := rfl
theorem st_65_13 {l0 : Value} {d : Nat} {t : List Value} {g : mm_M} {r : mm_R} {x : Int32} : mm_Rn pg_G d 65 13 [l0, .int x] (t) g r ↔ mm_Rn pg_G d 65 14 [l0, .int x] (.int x :: t) g r := rn_iload_n tb_65_13 rfl r
theorem tb_65_14 : mm_tb pg_G 65 14 = some (.aaload, 0, 0, 0) := rfl
theorem st_65_14 {d : Nat} {ls t : List Value} {g : mm_M} {r : mm_R} {x : Nat} {j : Int32} (hc : mm_in (g.1 x) 102 103 j = true) : mm_Rn pg_G d 65 14 ls (.int j :: .ref x :: t) g r ↔ mm_Rn pg_G d 65 15 ls (g.2.1 x j.toNatClampNeg :: t) g r := rn_aaload tb_65_14 hc r
theorem tb_65_15 : mm_tb pg_G 65 15 = some (.getfield 85, 3, 4, 149) := rfl
theorem st_65_15 {d : Nat} {ls t : List Value} {g : mm_M} {r : mm_R} {x : Nat} (hT : g.1 x = some (3, 10)) : mm_Rn pg_G d 65 15 ls (.ref x :: t) g r ↔ mm_Rn pg_G d 65 18 ls (g.2.1 x 4 :: t) g r := rn_getfield tb_65_15 hT r
theorem tb_65_18 : mm_tb pg_G 65 18 = some (.invokevirtual 89, 5, 1, 250) := rfl
theorem st_65_18 {d c s c' s' : Nat} {ls t : List Value} {I J : sp_I} {r : mm_R} {y : Nat} {v : Int32} (hl : t.length ≤ 4) (hT : sp_T I y = some (5, 7)) (hq : mm_Rn pg_G d 5 0 [.ref y] [] (sp_me I 0 0) (some (.int v), sp_me J c' s')) : mm_Rn pg_G (d + 1) 65 18 ls (.ref y :: t) (sp_me I c s) r ↔ mm_Rn pg_G (d + 1) 65 21 ls (.int v :: t) (sp_me J (c + c') (s + s')) r := rn_virt (g := sp_me I c s) (st := .ref y :: t) tb_65_18 (decide_eq_true hT) ⟨Nat.le_add_left _ t.length, hl, rfl⟩ hq r
theorem tb_65_21 : mm_tb pg_G 65 21 = some (.ifCond .ne 44, 65, 0, 0) := rfl
theorem st_65_21 {d : Nat} {ls t : List Value} {g : mm_M} {r : mm_R} {x : Int32} : mm_Rn pg_G d 65 21 ls (.int x :: t) g r ↔ if x = 0 then mm_Rn pg_G d 65 24 ls (t) g r else mm_Rn pg_G d 65 65 ls (t) g r := rn_if_ne tb_65_21 r
theorem tb_65_24 : mm_tb pg_G 65 24 = some (.aload_n 0, 0, 0, 0) := rfl
theorem st_65_24 {l1 : Value} {d : Nat} {t : List Value} {g : mm_M} {r : mm_R} {x : Nat} : mm_Rn pg_G d 65 24 [.ref x, l1] (t) g r ↔ mm_Rn pg_G d 65 25 [.ref x, l1] (.ref x :: t) g r := rn_aload_n tb_65_24 rfl r
theorem tb_65_25 : mm_tb pg_G 65 25 = some (.dup, 0, 0, 0) := rfl
theorem st_65_25 {d : Nat} {ls t : List Value} {g : mm_M} {r : mm_R} {v : Value} (hc : mm_c1 v = true) : mm_Rn pg_G d 65 25 ls (v :: t) g r ↔ mm_Rn pg_G d 65 26 ls (v :: v :: t) g r := rn_dup tb_65_25 hc r
theorem tb_65_26 : mm_tb pg_G 65 26 = some (.getfield 44, 0, 7, 100) := rfl
theorem st_65_26 {d : Nat} {ls t : List Value} {g : mm_M} {r : mm_R} {x : Nat} (hT : g.1 x = some (0, 8)) : mm_Rn pg_G d 65 26 ls (.ref x :: t) g r ↔ mm_Rn pg_G d 65 29 ls (g.2.1 x 7 :: t) g r := rn_getfield tb_65_26 hT r
theorem tb_65_29 : mm_tb pg_G 65 29 = some (.iconst 1, 0, 0, 0) := rfl
theorem st_65_29 {d : Nat} {ls t : List Value} {g : mm_M} {r : mm_R} : mm_Rn pg_G d 65 29 ls (t) g r ↔ mm_Rn pg_G d 65 30 ls (io_v 1 :: t) g r := rn_iconst tb_65_29 r
theorem tb_65_30 : mm_tb pg_G 65 30 = some (.iadd, 0, 0, 0) := rfl
theorem st_65_30 {d : Nat} {ls t : List Value} {g : mm_M} {r : mm_R} {x y : Int32} : mm_Rn pg_G d 65 30 ls (.int y :: .int x :: t) g r ↔ mm_Rn pg_G d 65 31 ls (.int (x + y) :: t) g r := rn_iadd tb_65_30 r
theorem tb_65_31 : mm_tb pg_G 65 31 = some (.putfield 44, 0, 7, 100) := rfl
theorem st_65_31 {d : Nat} {ls t : List Value} {g : mm_M} {r : mm_R} {x : Nat} {v : Int32} (hT : g.1 x = some (0, 8)) : mm_Rn pg_G d 65 31 ls (.int v :: .ref x :: t) g r ↔ mm_Rn pg_G d 65 34 ls (t) (mm_wr g x 7 (.int v)) r := rn_putfield tb_65_31 hT rfl r
theorem tb_65_34 : mm_tb pg_G 65 34 = some (.aload_n 0, 0, 0, 0) := rfl
theorem st_65_34 {l1 : Value} {d : Nat} {t : List Value} {g : mm_M} {r : mm_R} {x : Nat} : mm_Rn pg_G d 65 34 [.ref x, l1] (t) g r ↔ mm_Rn pg_G d 65 35 [.ref x, l1] (.ref x :: t) g r := rn_aload_n tb_65_34 rfl r
theorem tb_65_35 : mm_tb pg_G 65 35 = some (.getfield 11, 0, 0, 93) := rfl
theorem st_65_35 {d : Nat} {ls t : List Value} {g : mm_M} {r : mm_R} {x : Nat} (hT : g.1 x = some (0, 8)) : mm_Rn pg_G d 65 35 ls (.ref x :: t) g r ↔ mm_Rn pg_G d 65 38 ls (g.2.1 x 0 :: t) g r := rn_getfield tb_65_35 hT r
theorem tb_65_38 : mm_tb pg_G 65 38 = some (.iload_n 1, 0, 0, 0) := rfl
theorem st_65_38 {l0 : Value} {d : Nat} {t : List Value} {g : mm_M} {r : mm_R} {x : Int32} : mm_Rn pg_G d 65 38 [l0, .int x] (t) g r ↔ mm_Rn pg_G d 65 39 [l0, .int x] (.int x :: t) g r := rn_iload_n tb_65_38 rfl r
theorem tb_65_39 : mm_tb pg_G 65 39 = some (.aaload, 0, 0, 0) := rfl
theorem st_65_39 {d : Nat} {ls t : List Value} {g : mm_M} {r : mm_R} {x : Nat} {j : Int32} (hc : mm_in (g.1 x) 102 103 j = true) : mm_Rn pg_G d 65 39 ls (.int j :: .ref x :: t) g r ↔ mm_Rn pg_G d 65 40 ls (g.2.1 x j.toNatClampNeg :: t) g r := rn_aaload tb_65_39 hc r
theorem tb_65_40 : mm_tb pg_G 65 40 = some (.aload_n 0, 0, 0, 0) := rfl
theorem st_65_40 {l1 : Value} {d : Nat} {t : List Value} {g : mm_M} {r : mm_R} {x : Nat} : mm_Rn pg_G d 65 40 [.ref x, l1] (t) g r ↔ mm_Rn pg_G d 65 41 [.ref x, l1] (.ref x :: t) g r := rn_aload_n tb_65_40 rfl r
theorem tb_65_41 : mm_tb pg_G 65 41 = some (.getfield 29, 0, 3, 96) := rfl
theorem st_65_41 {d : Nat} {ls t : List Value} {g : mm_M} {r : mm_R} {x : Nat} (hT : g.1 x = some (0, 8)) : mm_Rn pg_G d 65 41 ls (.ref x :: t) g r ↔ mm_Rn pg_G d 65 44 ls (g.2.1 x 3 :: t) g r := rn_getfield tb_65_41 hT r
theorem tb_65_44 : mm_tb pg_G 65 44 = some (.getfield 98, 2, 1, 84) := rfl
theorem st_65_44 {d : Nat} {ls t : List Value} {g : mm_M} {r : mm_R} {x : Nat} (hT : g.1 x = some (2, 4)) : mm_Rn pg_G d 65 44 ls (.ref x :: t) g r ↔ mm_Rn pg_G d 65 47 ls (g.2.1 x 1 :: t) g r := rn_getfield tb_65_44 hT r
theorem tb_65_47 : mm_tb pg_G 65 47 = some (.iconst 1, 0, 0, 0) := rfl
theorem st_65_47 {d : Nat} {ls t : List Value} {g : mm_M} {r : mm_R} : mm_Rn pg_G d 65 47 ls (t) g r ↔ mm_Rn pg_G d 65 48 ls (io_v 1 :: t) g r := rn_iconst tb_65_47 r
theorem tb_65_48 : mm_tb pg_G 65 48 = some (.iadd, 0, 0, 0) := rfl
theorem st_65_48 {d : Nat} {ls t : List Value} {g : mm_M} {r : mm_R} {x y : Int32} : mm_Rn pg_G d 65 48 ls (.int y :: .int x :: t) g r ↔ mm_Rn pg_G d 65 49 ls (.int (x + y) :: t) g r := rn_iadd tb_65_48 r
theorem tb_65_49 : mm_tb pg_G 65 49 = some (.aload_n 0, 0, 0, 0) := rfl
theorem st_65_49 {l1 : Value} {d : Nat} {t : List Value} {g : mm_M} {r : mm_R} {x : Nat} : mm_Rn pg_G d 65 49 [.ref x, l1] (t) g r ↔ mm_Rn pg_G d 65 50 [.ref x, l1] (.ref x :: t) g r := rn_aload_n tb_65_49 rfl r
theorem tb_65_50 : mm_tb pg_G 65 50 = some (.getfield 11, 0, 0, 93) := rfl
theorem st_65_50 {d : Nat} {ls t : List Value} {g : mm_M} {r : mm_R} {x : Nat} (hT : g.1 x = some (0, 8)) : mm_Rn pg_G d 65 50 ls (.ref x :: t) g r ↔ mm_Rn pg_G d 65 53 ls (g.2.1 x 0 :: t) g r := rn_getfield tb_65_50 hT r
theorem tb_65_53 : mm_tb pg_G 65 53 = some (.iload_n 1, 0, 0, 0) := rfl
theorem st_65_53 {l0 : Value} {d : Nat} {t : List Value} {g : mm_M} {r : mm_R} {x : Int32} : mm_Rn pg_G d 65 53 [l0, .int x] (t) g r ↔ mm_Rn pg_G d 65 54 [l0, .int x] (.int x :: t) g r := rn_iload_n tb_65_53 rfl r
theorem tb_65_54 : mm_tb pg_G 65 54 = some (.aaload, 0, 0, 0) := rfl
theorem st_65_54 {d : Nat} {ls t : List Value} {g : mm_M} {r : mm_R} {x : Nat} {j : Int32} (hc : mm_in (g.1 x) 102 103 j = true) : mm_Rn pg_G d 65 54 ls (.int j :: .ref x :: t) g r ↔ mm_Rn pg_G d 65 55 ls (g.2.1 x j.toNatClampNeg :: t) g r := rn_aaload tb_65_54 hc r
theorem tb_65_55 : mm_tb pg_G 65 55 = some (.getfield 85, 3, 4, 149) := rfl
theorem st_65_55 {d : Nat} {ls t : List Value} {g : mm_M} {r : mm_R} {x : Nat} (hT : g.1 x = some (3, 10)) : mm_Rn pg_G d 65 55 ls (.ref x :: t) g r ↔ mm_Rn pg_G d 65 58 ls (g.2.1 x 4 :: t) g r := rn_getfield tb_65_55 hT r
theorem tb_65_58 : mm_tb pg_G 65 58 = some (.getfield 101, 5, 3, 129) := rfl
theorem st_65_58 {d : Nat} {ls t : List Value} {g : mm_M} {r : mm_R} {x : Nat} (hT : g.1 x = some (5, 7)) : mm_Rn pg_G d 65 58 ls (.ref x :: t) g r ↔ mm_Rn pg_G d 65 61 ls (g.2.1 x 3 :: t) g r := rn_getfield tb_65_58 hT r
theorem tb_65_61 : mm_tb pg_G 65 61 = some (.isub, 0, 0, 0) := rfl
theorem st_65_61 {d : Nat} {ls t : List Value} {g : mm_M} {r : mm_R} {x y : Int32} : mm_Rn pg_G d 65 61 ls (.int y :: .int x :: t) g r ↔ mm_Rn pg_G d 65 62 ls (.int (x - y) :: t) g r := rn_isub tb_65_61 r
theorem tb_65_62 : mm_tb pg_G 65 62 = some (.invokevirtual 216, 20, 2, 331) := rfl
theorem st_65_62 {d c s c' s' : Nat} {ls t : List Value} {I J : sp_I} {r : mm_R} {a0 : Int32} {y : Nat} (hl : t.length ≤ 4) (hT : sp_T I y = some (3, 10)) (hq : mm_Rn pg_G d 20 0 [.ref y, .int a0] [] (sp_me I 0 0) (none, sp_me J c' s')) : mm_Rn pg_G (d + 1) 65 62 ls (.int a0 :: .ref y :: t) (sp_me I c s) r ↔ mm_Rn pg_G (d + 1) 65 65 ls (t) (sp_me J (c + c') (s + s')) r := rn_virt (g := sp_me I c s) (st := .int a0 :: .ref y :: t) tb_65_62 (decide_eq_true hT) ⟨Nat.le_add_left _ t.length, hl, rfl⟩ hq r
theorem tb_65_65 : mm_tb pg_G 65 65 = some (.return_, 0, 0, 0) := rfl
theorem st_65_65 {d : Nat} {ls : List Value} {g : mm_M} {r : mm_R} : mm_Rn pg_G d 65 65 ls [] g r ↔ r = (none, g) := rn_return_iff tb_65_65 rfl r
theorem tb_66_0 : mm_tb pg_G 66 0 = some (.iload_n 1, 0, 0, 0) := rfl
theorem st_66_0 {l0 l2 l3 : Value} {d : Nat} {t : List Value} {g : mm_M} {r : mm_R} {x : Int32} : mm_Rn pg_G d 66 0 [l0, .int x, l2, l3] (t) g r ↔ mm_Rn pg_G d 66 1 [l0, .int x, l2, l3] (.int x :: t) g r := rn_iload_n tb_66_0 rfl r
theorem tb_66_1 : mm_tb pg_G 66 1 = some (.iconst 2, 0, 0, 0) := rfl
theorem st_66_1 {d : Nat} {ls t : List Value} {g : mm_M} {r : mm_R} : mm_Rn pg_G d 66 1 ls (t) g r ↔ mm_Rn pg_G d 66 2 ls (io_v 2 :: t) g r := rn_iconst tb_66_1 r
theorem tb_66_2 : mm_tb pg_G 66 2 = some (.isub, 0, 0, 0) := rfl
theorem st_66_2 {d : Nat} {ls t : List Value} {g : mm_M} {r : mm_R} {x y : Int32} : mm_Rn pg_G d 66 2 ls (.int y :: .int x :: t) g r ↔ mm_Rn pg_G d 66 3 ls (.int (x - y) :: t) g r := rn_isub tb_66_2 r
theorem tb_66_3 : mm_tb pg_G 66 3 = some (.istore_n 2, 0, 0, 0) := rfl
theorem st_66_3 {l0 l1 l2 l3 : Value} {d : Nat} {t : List Value} {g : mm_M} {r : mm_R} {x : Int32} (hc : mm_c1 l1 = true) : mm_Rn pg_G d 66 3 [l0, l1, l2, l3] (.int x :: t) g r ↔ mm_Rn pg_G d 66 4 [l0, l1, .int x, l3] (t) g r := rn_istore_n tb_66_3 (mm_so_of (ls := [l0, l1, l2, l3]) (v := l1) (Nat.le_of_ble_eq_true rfl) rfl hc) r
theorem tb_66_4 : mm_tb pg_G 66 4 = some (.iconst 0, 0, 0, 0) := rfl
theorem st_66_4 {d : Nat} {ls t : List Value} {g : mm_M} {r : mm_R} : mm_Rn pg_G d 66 4 ls (t) g r ↔ mm_Rn pg_G d 66 5 ls (io_v 0 :: t) g r := rn_iconst tb_66_4 r
theorem tb_66_5 : mm_tb pg_G 66 5 = some (.istore_n 3, 0, 0, 0) := rfl
theorem st_66_5 {l0 l1 l2 l3 : Value} {d : Nat} {t : List Value} {g : mm_M} {r : mm_R} {x : Int32} (hc : mm_c1 l2 = true) : mm_Rn pg_G d 66 5 [l0, l1, l2, l3] (.int x :: t) g r ↔ mm_Rn pg_G d 66 6 [l0, l1, l2, .int x] (t) g r := rn_istore_n tb_66_5 (mm_so_of (ls := [l0, l1, l2, l3]) (v := l2) (Nat.le_of_ble_eq_true rfl) rfl hc) r
theorem tb_66_6 : mm_tb pg_G 66 6 = some (.iload_n 3, 0, 0, 0) := rfl
theorem st_66_6 {l0 l1 l2 : Value} {d : Nat} {t : List Value} {g : mm_M} {r : mm_R} {x : Int32} : mm_Rn pg_G d 66 6 [l0, l1, l2, .int x] (t) g r ↔ mm_Rn pg_G d 66 7 [l0, l1, l2, .int x] (.int x :: t) g r := rn_iload_n tb_66_6 rfl r
theorem tb_66_7 : mm_tb pg_G 66 7 = some (.aload_n 0, 0, 0, 0) := rfl
theorem st_66_7 {l1 l2 l3 : Value} {d : Nat} {t : List Value} {g : mm_M} {r : mm_R} {x : Nat} : mm_Rn pg_G d 66 7 [.ref x, l1, l2, l3] (t) g r ↔ mm_Rn pg_G d 66 8 [.ref x, l1, l2, l3] (.ref x :: t) g r := rn_aload_n tb_66_7 rfl r
theorem tb_66_8 : mm_tb pg_G 66 8 = some (.getfield 33, 0, 4, 97) := rfl
theorem st_66_8 {d : Nat} {ls t : List Value} {g : mm_M} {r : mm_R} {x : Nat} (hT : g.1 x = some (0, 8)) : mm_Rn pg_G d 66 8 ls (.ref x :: t) g r ↔ mm_Rn pg_G d 66 11 ls (g.2.1 x 4 :: t) g r := rn_getfield tb_66_8 hT r
theorem tb_66_11 : mm_tb pg_G 66 11 = some (.if_icmp .ge 57, 68, 0, 0) := rfl
theorem st_66_11 {d : Nat} {ls t : List Value} {g : mm_M} {r : mm_R} {x y : Int32} : mm_Rn pg_G d 66 11 ls (.int y :: .int x :: t) g r ↔ if y ≤ x then mm_Rn pg_G d 66 68 ls (t) g r else mm_Rn pg_G d 66 14 ls (t) g r := rn_icmp_ge tb_66_11 r
theorem tb_66_14 : mm_tb pg_G 66 14 = some (.aload_n 0, 0, 0, 0) := rfl
theorem st_66_14 {l1 l2 l3 : Value} {d : Nat} {t : List Value} {g : mm_M} {r : mm_R} {x : Nat} : mm_Rn pg_G d 66 14 [.ref x, l1, l2, l3] (t) g r ↔ mm_Rn pg_G d 66 15 [.ref x, l1, l2, l3] (.ref x :: t) g r := rn_aload_n tb_66_14 rfl r
theorem tb_66_15 : mm_tb pg_G 66 15 = some (.getfield 11, 0, 0, 93) := rfl
theorem st_66_15 {d : Nat} {ls t : List Value} {g : mm_M} {r : mm_R} {x : Nat} (hT : g.1 x = some (0, 8)) : mm_Rn pg_G d 66 15 ls (.ref x :: t) g r ↔ mm_Rn pg_G d 66 18 ls (g.2.1 x 0 :: t) g r := rn_getfield tb_66_15 hT r
theorem tb_66_18 : mm_tb pg_G 66 18 = some (.iload_n 3, 0, 0, 0) := rfl
theorem st_66_18 {l0 l1 l2 : Value} {d : Nat} {t : List Value} {g : mm_M} {r : mm_R} {x : Int32} : mm_Rn pg_G d 66 18 [l0, l1, l2, .int x] (t) g r ↔ mm_Rn pg_G d 66 19 [l0, l1, l2, .int x] (.int x :: t) g r := rn_iload_n tb_66_18 rfl r
theorem tb_66_19 : mm_tb pg_G 66 19 = some (.aaload, 0, 0, 0) := rfl
theorem st_66_19 {d : Nat} {ls t : List Value} {g : mm_M} {r : mm_R} {x : Nat} {j : Int32} (hc : mm_in (g.1 x) 102 103 j = true) : mm_Rn pg_G d 66 19 ls (.int j :: .ref x :: t) g r ↔ mm_Rn pg_G d 66 20 ls (g.2.1 x j.toNatClampNeg :: t) g r := rn_aaload tb_66_19 hc r
theorem tb_66_20 : mm_tb pg_G 66 20 = some (.getfield 85, 3, 4, 149) := rfl
theorem st_66_20 {d : Nat} {ls t : List Value} {g : mm_M} {r : mm_R} {x : Nat} (hT : g.1 x = some (3, 10)) : mm_Rn pg_G d 66 20 ls (.ref x :: t) g r ↔ mm_Rn pg_G d 66 23 ls (g.2.1 x 4 :: t) g r := rn_getfield tb_66_20 hT r
theorem tb_66_23 : mm_tb pg_G 66 23 = some (.invokevirtual 89, 5, 1, 250) := rfl
theorem st_66_23 {d c s c' s' : Nat} {ls t : List Value} {I J : sp_I} {r : mm_R} {y : Nat} {v : Int32} (hl : t.length ≤ 4) (hT : sp_T I y = some (5, 7)) (hq : mm_Rn pg_G d 5 0 [.ref y] [] (sp_me I 0 0) (some (.int v), sp_me J c' s')) : mm_Rn pg_G (d + 1) 66 23 ls (.ref y :: t) (sp_me I c s) r ↔ mm_Rn pg_G (d + 1) 66 26 ls (.int v :: t) (sp_me J (c + c') (s + s')) r := rn_virt (g := sp_me I c s) (st := .ref y :: t) tb_66_23 (decide_eq_true hT) ⟨Nat.le_add_left _ t.length, hl, rfl⟩ hq r
theorem tb_66_26 : mm_tb pg_G 66 26 = some (.ifCond .eq 36, 62, 0, 0) := rfl
theorem st_66_26 {d : Nat} {ls t : List Value} {g : mm_M} {r : mm_R} {x : Int32} : mm_Rn pg_G d 66 26 ls (.int x :: t) g r ↔ if x = 0 then mm_Rn pg_G d 66 62 ls (t) g r else mm_Rn pg_G d 66 29 ls (t) g r := rn_if_eq tb_66_26 r
theorem tb_66_29 : mm_tb pg_G 66 29 = some (.aload_n 0, 0, 0, 0) := rfl
theorem st_66_29 {l1 l2 l3 : Value} {d : Nat} {t : List Value} {g : mm_M} {r : mm_R} {x : Nat} : mm_Rn pg_G d 66 29 [.ref x, l1, l2, l3] (t) g r ↔ mm_Rn pg_G d 66 30 [.ref x, l1, l2, l3] (.ref x :: t) g r := rn_aload_n tb_66_29 rfl r
theorem tb_66_30 : mm_tb pg_G 66 30 = some (.iconst 2, 0, 0, 0) := rfl
theorem st_66_30 {d : Nat} {ls t : List Value} {g : mm_M} {r : mm_R} : mm_Rn pg_G d 66 30 ls (t) g r ↔ mm_Rn pg_G d 66 31 ls (io_v 2 :: t) g r := rn_iconst tb_66_30 r
theorem tb_66_31 : mm_tb pg_G 66 31 = some (.iload_n 3, 0, 0, 0) := rfl
theorem st_66_31 {l0 l1 l2 : Value} {d : Nat} {t : List Value} {g : mm_M} {r : mm_R} {x : Int32} : mm_Rn pg_G d 66 31 [l0, l1, l2, .int x] (t) g r ↔ mm_Rn pg_G d 66 32 [l0, l1, l2, .int x] (.int x :: t) g r := rn_iload_n tb_66_31 rfl r
theorem tb_66_32 : mm_tb pg_G 66 32 = some (.iadd, 0, 0, 0) := rfl
theorem st_66_32 {d : Nat} {ls t : List Value} {g : mm_M} {r : mm_R} {x y : Int32} : mm_Rn pg_G d 66 32 ls (.int y :: .int x :: t) g r ↔ mm_Rn pg_G d 66 33 ls (.int (x + y) :: t) g r := rn_iadd tb_66_32 r
theorem tb_66_33 : mm_tb pg_G 66 33 = some (.iload_n 1, 0, 0, 0) := rfl
theorem st_66_33 {l0 l2 l3 : Value} {d : Nat} {t : List Value} {g : mm_M} {r : mm_R} {x : Int32} : mm_Rn pg_G d 66 33 [l0, .int x, l2, l3] (t) g r ↔ mm_Rn pg_G d 66 34 [l0, .int x, l2, l3] (.int x :: t) g r := rn_iload_n tb_66_33 rfl r
theorem tb_66_34 : mm_tb pg_G 66 34 = some (.invokevirtual 186, 59, 3, 287) := rfl
theorem st_66_34 {d c s c' s' : Nat} {ls t : List Value} {I J : sp_I} {r : mm_R} {a0 a1 : Int32} {y : Nat} {v : Int32} (hl : t.length ≤ 4) (hT : sp_T I y = some (0, 8)) (hq : mm_Rn pg_G d 59 0 [.ref y, .int a0, .int a1, .retAddr 0, .retAddr 0] [] (sp_me I 0 0) (some (.int v), sp_me J c' s')) : mm_Rn pg_G (d + 1) 66 34 ls (.int a1 :: .int a0 :: .ref y :: t) (sp_me I c s) r ↔ mm_Rn pg_G (d + 1) 66 37 ls (.int v :: t) (sp_me J (c + c') (s + s')) r := rn_virt (g := sp_me I c s) (st := .int a1 :: .int a0 :: .ref y :: t) tb_66_34 (decide_eq_true hT) ⟨Nat.le_add_left _ t.length, hl, rfl⟩ hq r
theorem tb_66_37 : mm_tb pg_G 66 37 = some (.ifCond .eq 25, 62, 0, 0) := rfl
theorem st_66_37 {d : Nat} {ls t : List Value} {g : mm_M} {r : mm_R} {x : Int32} : mm_Rn pg_G d 66 37 ls (.int x :: t) g r ↔ if x = 0 then mm_Rn pg_G d 66 62 ls (t) g r else mm_Rn pg_G d 66 40 ls (t) g r := rn_if_eq tb_66_37 r
theorem tb_66_40 : mm_tb pg_G 66 40 = some (.aload_n 0, 0, 0, 0) := rfl
theorem st_66_40 {l1 l2 l3 : Value} {d : Nat} {t : List Value} {g : mm_M} {r : mm_R} {x : Nat} : mm_Rn pg_G d 66 40 [.ref x, l1, l2, l3] (t) g r ↔ mm_Rn pg_G d 66 41 [.ref x, l1, l2, l3] (.ref x :: t) g r := rn_aload_n tb_66_40 rfl r
theorem tb_66_41 : mm_tb pg_G 66 41 = some (.getfield 11, 0, 0, 93) := rfl
theorem st_66_41 {d : Nat} {ls t : List Value} {g : mm_M} {r : mm_R} {x : Nat} (hT : g.1 x = some (0, 8)) : mm_Rn pg_G d 66 41 ls (.ref x :: t) g r ↔ mm_Rn pg_G d 66 44 ls (g.2.1 x 0 :: t) g r := rn_getfield tb_66_41 hT r
theorem tb_66_44 : mm_tb pg_G 66 44 = some (.iload_n 3, 0, 0, 0) := rfl
theorem st_66_44 {l0 l1 l2 : Value} {d : Nat} {t : List Value} {g : mm_M} {r : mm_R} {x : Int32} : mm_Rn pg_G d 66 44 [l0, l1, l2, .int x] (t) g r ↔ mm_Rn pg_G d 66 45 [l0, l1, l2, .int x] (.int x :: t) g r := rn_iload_n tb_66_44 rfl r
theorem tb_66_45 : mm_tb pg_G 66 45 = some (.aaload, 0, 0, 0) := rfl
theorem st_66_45 {d : Nat} {ls t : List Value} {g : mm_M} {r : mm_R} {x : Nat} {j : Int32} (hc : mm_in (g.1 x) 102 103 j = true) : mm_Rn pg_G d 66 45 ls (.int j :: .ref x :: t) g r ↔ mm_Rn pg_G d 66 46 ls (g.2.1 x j.toNatClampNeg :: t) g r := rn_aaload tb_66_45 hc r
theorem tb_66_46 : mm_tb pg_G 66 46 = some (.getfield 85, 3, 4, 149) := rfl
theorem st_66_46 {d : Nat} {ls t : List Value} {g : mm_M} {r : mm_R} {x : Nat} (hT : g.1 x = some (3, 10)) : mm_Rn pg_G d 66 46 ls (.ref x :: t) g r ↔ mm_Rn pg_G d 66 49 ls (g.2.1 x 4 :: t) g r := rn_getfield tb_66_46 hT r
theorem tb_66_49 : mm_tb pg_G 66 49 = some (.iload_n 2, 0, 0, 0) := rfl
theorem st_66_49 {l0 l1 l3 : Value} {d : Nat} {t : List Value} {g : mm_M} {r : mm_R} {x : Int32} : mm_Rn pg_G d 66 49 [l0, l1, .int x, l3] (t) g r ↔ mm_Rn pg_G d 66 50 [l0, l1, .int x, l3] (.int x :: t) g r := rn_iload_n tb_66_49 rfl r
theorem tb_66_50 : mm_tb pg_G 66 50 = some (.aload_n 0, 0, 0, 0) := rfl
theorem st_66_50 {l1 l2 l3 : Value} {d : Nat} {t : List Value} {g : mm_M} {r : mm_R} {x : Nat} : mm_Rn pg_G d 66 50 [.ref x, l1, l2, l3] (t) g r ↔ mm_Rn pg_G d 66 51 [.ref x, l1, l2, l3] (.ref x :: t) g r := rn_aload_n tb_66_50 rfl r
theorem tb_66_51 : mm_tb pg_G 66 51 = some (.getfield 11, 0, 0, 93) := rfl
theorem st_66_51 {d : Nat} {ls t : List Value} {g : mm_M} {r : mm_R} {x : Nat} (hT : g.1 x = some (0, 8)) : mm_Rn pg_G d 66 51 ls (.ref x :: t) g r ↔ mm_Rn pg_G d 66 54 ls (g.2.1 x 0 :: t) g r := rn_getfield tb_66_51 hT r
theorem tb_66_54 : mm_tb pg_G 66 54 = some (.iload_n 2, 0, 0, 0) := rfl
theorem st_66_54 {l0 l1 l3 : Value} {d : Nat} {t : List Value} {g : mm_M} {r : mm_R} {x : Int32} : mm_Rn pg_G d 66 54 [l0, l1, .int x, l3] (t) g r ↔ mm_Rn pg_G d 66 55 [l0, l1, .int x, l3] (.int x :: t) g r := rn_iload_n tb_66_54 rfl r
theorem tb_66_55 : mm_tb pg_G 66 55 = some (.aaload, 0, 0, 0) := rfl
theorem st_66_55 {d : Nat} {ls t : List Value} {g : mm_M} {r : mm_R} {x : Nat} {j : Int32} (hc : mm_in (g.1 x) 102 103 j = true) : mm_Rn pg_G d 66 55 ls (.int j :: .ref x :: t) g r ↔ mm_Rn pg_G d 66 56 ls (g.2.1 x j.toNatClampNeg :: t) g r := rn_aaload tb_66_55 hc r
theorem tb_66_56 : mm_tb pg_G 66 56 = some (.getfield 219, 3, 9, 157) := rfl
theorem st_66_56 {d : Nat} {ls t : List Value} {g : mm_M} {r : mm_R} {x : Nat} (hT : g.1 x = some (3, 10)) : mm_Rn pg_G d 66 56 ls (.ref x :: t) g r ↔ mm_Rn pg_G d 66 59 ls (g.2.1 x 9 :: t) g r := rn_getfield tb_66_56 hT r
theorem tb_66_59 : mm_tb pg_G 66 59 = some (.invokevirtual 222, 8, 3, 338) := rfl
theorem st_66_59 {d c s c' s' : Nat} {ls t : List Value} {I J : sp_I} {r : mm_R} {a0 a1 : Int32} {y : Nat} (hl : t.length ≤ 4) (hT : sp_T I y = some (5, 7)) (hq : mm_Rn pg_G d 8 0 [.ref y, .int a0, .int a1] [] (sp_me I 0 0) (none, sp_me J c' s')) : mm_Rn pg_G (d + 1) 66 59 ls (.int a1 :: .int a0 :: .ref y :: t) (sp_me I c s) r ↔ mm_Rn pg_G (d + 1) 66 62 ls (t) (sp_me J (c + c') (s + s')) r := rn_virt (g := sp_me I c s) (st := .int a1 :: .int a0 :: .ref y :: t) tb_66_59 (decide_eq_true hT) ⟨Nat.le_add_left _ t.length, hl, rfl⟩ hq r
theorem tb_66_62 : mm_tb pg_G 66 62 = some (.iinc 3 1, 0, 0, 0) := rfl
theorem st_66_62 {l0 l1 l2 : Value} {d : Nat} {t : List Value} {g : mm_M} {r : mm_R} {x : Int32} (hc : mm_c1 l2 = true) : mm_Rn pg_G d 66 62 [l0, l1, l2, .int x] (t) g r ↔ mm_Rn pg_G d 66 65 [l0, l1, l2, .int (x + Int32.ofInt 1)] (t) g r := rn_iinc tb_66_62 rfl (mm_so_of (ls := [l0, l1, l2, .int x]) (v := l2) (Nat.le_of_ble_eq_true rfl) rfl hc) r
theorem tb_66_65 : mm_tb pg_G 66 65 = some (.goto (-59), 6, 0, 0) := rfl
theorem st_66_65 {d : Nat} {ls t : List Value} {g : mm_M} {r : mm_R} : mm_Rn pg_G d 66 65 ls (t) g r ↔ mm_Rn pg_G d 66 6 ls (t) g r := rn_goto tb_66_65 r
theorem tb_66_68 : mm_tb pg_G 66 68 = some (.return_, 0, 0, 0) := rfl
theorem st_66_68 {d : Nat} {ls : List Value} {g : mm_M} {r : mm_R} : mm_Rn pg_G d 66 68 ls [] g r ↔ r = (none, g) := rn_return_iff tb_66_68 rfl r
theorem tb_67_0 : mm_tb pg_G 67 0 = some (.iconst 0, 0, 0, 0) := rfl
theorem st_67_0 {d : Nat} {ls t : List Value} {g : mm_M} {r : mm_R} : mm_Rn pg_G d 67 0 ls (t) g r ↔ mm_Rn pg_G d 67 1 ls (io_v 0 :: t) g r := rn_iconst tb_67_0 r
theorem tb_67_1 : mm_tb pg_G 67 1 = some (.istore_n 1, 0, 0, 0) := rfl
theorem st_67_1 {l0 l1 : Value} {d : Nat} {t : List Value} {g : mm_M} {r : mm_R} {x : Int32} (hc : mm_c1 l0 = true) : mm_Rn pg_G d 67 1 [l0, l1] (.int x :: t) g r ↔ mm_Rn pg_G d 67 2 [l0, .int x] (t) g r := rn_istore_n tb_67_1 (mm_so_of (ls := [l0, l1]) (v := l0) (Nat.le_of_ble_eq_true rfl) rfl hc) r
theorem tb_67_2 : mm_tb pg_G 67 2 = some (.iload_n 1, 0, 0, 0) := rfl
theorem st_67_2 {l0 : Value} {d : Nat} {t : List Value} {g : mm_M} {r : mm_R} {x : Int32} : mm_Rn pg_G d 67 2 [l0, .int x] (t) g r ↔ mm_Rn pg_G d 67 3 [l0, .int x] (.int x :: t) g r := rn_iload_n tb_67_2 rfl r
theorem tb_67_3 : mm_tb pg_G 67 3 = some (.aload_n 0, 0, 0, 0) := rfl
theorem st_67_3 {l1 : Value} {d : Nat} {t : List Value} {g : mm_M} {r : mm_R} {x : Nat} : mm_Rn pg_G d 67 3 [.ref x, l1] (t) g r ↔ mm_Rn pg_G d 67 4 [.ref x, l1] (.ref x :: t) g r := rn_aload_n tb_67_3 rfl r
theorem tb_67_4 : mm_tb pg_G 67 4 = some (.getfield 33, 0, 4, 97) := rfl
theorem st_67_4 {d : Nat} {ls t : List Value} {g : mm_M} {r : mm_R} {x : Nat} (hT : g.1 x = some (0, 8)) : mm_Rn pg_G d 67 4 ls (.ref x :: t) g r ↔ mm_Rn pg_G d 67 7 ls (g.2.1 x 4 :: t) g r := rn_getfield tb_67_4 hT r
theorem tb_67_7 : mm_tb pg_G 67 7 = some (.if_icmp .ge 61, 68, 0, 0) := rfl
theorem st_67_7 {d : Nat} {ls t : List Value} {g : mm_M} {r : mm_R} {x y : Int32} : mm_Rn pg_G d 67 7 ls (.int y :: .int x :: t) g r ↔ if y ≤ x then mm_Rn pg_G d 67 68 ls (t) g r else mm_Rn pg_G d 67 10 ls (t) g r := rn_icmp_ge tb_67_7 r
theorem tb_67_10 : mm_tb pg_G 67 10 = some (.aload_n 0, 0, 0, 0) := rfl
theorem st_67_10 {l1 : Value} {d : Nat} {t : List Value} {g : mm_M} {r : mm_R} {x : Nat} : mm_Rn pg_G d 67 10 [.ref x, l1] (t) g r ↔ mm_Rn pg_G d 67 11 [.ref x, l1] (.ref x :: t) g r := rn_aload_n tb_67_10 rfl r
theorem tb_67_11 : mm_tb pg_G 67 11 = some (.getfield 11, 0, 0, 93) := rfl
theorem st_67_11 {d : Nat} {ls t : List Value} {g : mm_M} {r : mm_R} {x : Nat} (hT : g.1 x = some (0, 8)) : mm_Rn pg_G d 67 11 ls (.ref x :: t) g r ↔ mm_Rn pg_G d 67 14 ls (g.2.1 x 0 :: t) g r := rn_getfield tb_67_11 hT r
theorem tb_67_14 : mm_tb pg_G 67 14 = some (.iload_n 1, 0, 0, 0) := rfl
theorem st_67_14 {l0 : Value} {d : Nat} {t : List Value} {g : mm_M} {r : mm_R} {x : Int32} : mm_Rn pg_G d 67 14 [l0, .int x] (t) g r ↔ mm_Rn pg_G d 67 15 [l0, .int x] (.int x :: t) g r := rn_iload_n tb_67_14 rfl r
theorem tb_67_15 : mm_tb pg_G 67 15 = some (.aaload, 0, 0, 0) := rfl
theorem st_67_15 {d : Nat} {ls t : List Value} {g : mm_M} {r : mm_R} {x : Nat} {j : Int32} (hc : mm_in (g.1 x) 102 103 j = true) : mm_Rn pg_G d 67 15 ls (.int j :: .ref x :: t) g r ↔ mm_Rn pg_G d 67 16 ls (g.2.1 x j.toNatClampNeg :: t) g r := rn_aaload tb_67_15 hc r
theorem tb_67_16 : mm_tb pg_G 67 16 = some (.getfield 85, 3, 4, 149) := rfl
theorem st_67_16 {d : Nat} {ls t : List Value} {g : mm_M} {r : mm_R} {x : Nat} (hT : g.1 x = some (3, 10)) : mm_Rn pg_G d 67 16 ls (.ref x :: t) g r ↔ mm_Rn pg_G d 67 19 ls (g.2.1 x 4 :: t) g r := rn_getfield tb_67_16 hT r
theorem tb_67_19 : mm_tb pg_G 67 19 = some (.invokevirtual 89, 5, 1, 250) := rfl
theorem st_67_19 {d c s c' s' : Nat} {ls t : List Value} {I J : sp_I} {r : mm_R} {y : Nat} {v : Int32} (hl : t.length ≤ 4) (hT : sp_T I y = some (5, 7)) (hq : mm_Rn pg_G d 5 0 [.ref y] [] (sp_me I 0 0) (some (.int v), sp_me J c' s')) : mm_Rn pg_G (d + 1) 67 19 ls (.ref y :: t) (sp_me I c s) r ↔ mm_Rn pg_G (d + 1) 67 22 ls (.int v :: t) (sp_me J (c + c') (s + s')) r := rn_virt (g := sp_me I c s) (st := .ref y :: t) tb_67_19 (decide_eq_true hT) ⟨Nat.le_add_left _ t.length, hl, rfl⟩ hq r
theorem tb_67_22 : mm_tb pg_G 67 22 = some (.ifCond .eq 40, 62, 0, 0) := rfl
theorem st_67_22 {d : Nat} {ls t : List Value} {g : mm_M} {r : mm_R} {x : Int32} : mm_Rn pg_G d 67 22 ls (.int x :: t) g r ↔ if x = 0 then mm_Rn pg_G d 67 62 ls (t) g r else mm_Rn pg_G d 67 25 ls (t) g r := rn_if_eq tb_67_22 r
theorem tb_67_25 : mm_tb pg_G 67 25 = some (.aload_n 0, 0, 0, 0) := rfl
theorem st_67_25 {l1 : Value} {d : Nat} {t : List Value} {g : mm_M} {r : mm_R} {x : Nat} : mm_Rn pg_G d 67 25 [.ref x, l1] (t) g r ↔ mm_Rn pg_G d 67 26 [.ref x, l1] (.ref x :: t) g r := rn_aload_n tb_67_25 rfl r
theorem tb_67_26 : mm_tb pg_G 67 26 = some (.getfield 11, 0, 0, 93) := rfl
theorem st_67_26 {d : Nat} {ls t : List Value} {g : mm_M} {r : mm_R} {x : Nat} (hT : g.1 x = some (0, 8)) : mm_Rn pg_G d 67 26 ls (.ref x :: t) g r ↔ mm_Rn pg_G d 67 29 ls (g.2.1 x 0 :: t) g r := rn_getfield tb_67_26 hT r
theorem tb_67_29 : mm_tb pg_G 67 29 = some (.iload_n 1, 0, 0, 0) := rfl
theorem st_67_29 {l0 : Value} {d : Nat} {t : List Value} {g : mm_M} {r : mm_R} {x : Int32} : mm_Rn pg_G d 67 29 [l0, .int x] (t) g r ↔ mm_Rn pg_G d 67 30 [l0, .int x] (.int x :: t) g r := rn_iload_n tb_67_29 rfl r
theorem tb_67_30 : mm_tb pg_G 67 30 = some (.aaload, 0, 0, 0) := rfl
theorem st_67_30 {d : Nat} {ls t : List Value} {g : mm_M} {r : mm_R} {x : Nat} {j : Int32} (hc : mm_in (g.1 x) 102 103 j = true) : mm_Rn pg_G d 67 30 ls (.int j :: .ref x :: t) g r ↔ mm_Rn pg_G d 67 31 ls (g.2.1 x j.toNatClampNeg :: t) g r := rn_aaload tb_67_30 hc r
theorem tb_67_31 : mm_tb pg_G 67 31 = some (.getfield 85, 3, 4, 149) := rfl
theorem st_67_31 {d : Nat} {ls t : List Value} {g : mm_M} {r : mm_R} {x : Nat} (hT : g.1 x = some (3, 10)) : mm_Rn pg_G d 67 31 ls (.ref x :: t) g r ↔ mm_Rn pg_G d 67 34 ls (g.2.1 x 4 :: t) g r := rn_getfield tb_67_31 hT r
theorem tb_67_34 : mm_tb pg_G 67 34 = some (.getfield 182, 5, 4, 131) := rfl
theorem st_67_34 {d : Nat} {ls t : List Value} {g : mm_M} {r : mm_R} {x : Nat} (hT : g.1 x = some (5, 7)) : mm_Rn pg_G d 67 34 ls (.ref x :: t) g r ↔ mm_Rn pg_G d 67 37 ls (g.2.1 x 4 :: t) g r := rn_getfield tb_67_34 hT r
theorem tb_67_37 : mm_tb pg_G 67 37 = some (.aload_n 0, 0, 0, 0) := rfl
theorem st_67_37 {l1 : Value} {d : Nat} {t : List Value} {g : mm_M} {r : mm_R} {x : Nat} : mm_Rn pg_G d 67 37 [.ref x, l1] (t) g r ↔ mm_Rn pg_G d 67 38 [.ref x, l1] (.ref x :: t) g r := rn_aload_n tb_67_37 rfl r
theorem tb_67_38 : mm_tb pg_G 67 38 = some (.getfield 29, 0, 3, 96) := rfl
theorem st_67_38 {d : Nat} {ls t : List Value} {g : mm_M} {r : mm_R} {x : Nat} (hT : g.1 x = some (0, 8)) : mm_Rn pg_G d 67 38 ls (.ref x :: t) g r ↔ mm_Rn pg_G d 67 41 ls (g.2.1 x 3 :: t) g r := rn_getfield tb_67_38 hT r
theorem tb_67_41 : mm_tb pg_G 67 41 = some (.getfield 98, 2, 1, 84) := rfl
theorem st_67_41 {d : Nat} {ls t : List Value} {g : mm_M} {r : mm_R} {x : Nat} (hT : g.1 x = some (2, 4)) : mm_Rn pg_G d 67 41 ls (.ref x :: t) g r ↔ mm_Rn pg_G d 67 44 ls (g.2.1 x 1 :: t) g r := rn_getfield tb_67_41 hT r
theorem tb_67_44 : mm_tb pg_G 67 44 = some (.if_icmp .ne 18, 62, 0, 0) := rfl
theorem st_67_44 {d : Nat} {ls t : List Value} {g : mm_M} {r : mm_R} {x y : Int32} : mm_Rn pg_G d 67 44 ls (.int y :: .int x :: t) g r ↔ if x = y then mm_Rn pg_G d 67 47 ls (t) g r else mm_Rn pg_G d 67 62 ls (t) g r := rn_icmp_ne tb_67_44 r
theorem tb_67_47 : mm_tb pg_G 67 47 = some (.aload_n 0, 0, 0, 0) := rfl
theorem st_67_47 {l1 : Value} {d : Nat} {t : List Value} {g : mm_M} {r : mm_R} {x : Nat} : mm_Rn pg_G d 67 47 [.ref x, l1] (t) g r ↔ mm_Rn pg_G d 67 48 [.ref x, l1] (.ref x :: t) g r := rn_aload_n tb_67_47 rfl r
theorem tb_67_48 : mm_tb pg_G 67 48 = some (.getfield 11, 0, 0, 93) := rfl
theorem st_67_48 {d : Nat} {ls t : List Value} {g : mm_M} {r : mm_R} {x : Nat} (hT : g.1 x = some (0, 8)) : mm_Rn pg_G d 67 48 ls (.ref x :: t) g r ↔ mm_Rn pg_G d 67 51 ls (g.2.1 x 0 :: t) g r := rn_getfield tb_67_48 hT r
theorem tb_67_51 : mm_tb pg_G 67 51 = some (.iload_n 1, 0, 0, 0) := rfl
theorem st_67_51 {l0 : Value} {d : Nat} {t : List Value} {g : mm_M} {r : mm_R} {x : Int32} : mm_Rn pg_G d 67 51 [l0, .int x] (t) g r ↔ mm_Rn pg_G d 67 52 [l0, .int x] (.int x :: t) g r := rn_iload_n tb_67_51 rfl r
theorem tb_67_52 : mm_tb pg_G 67 52 = some (.aaload, 0, 0, 0) := rfl
theorem st_67_52 {d : Nat} {ls t : List Value} {g : mm_M} {r : mm_R} {x : Nat} {j : Int32} (hc : mm_in (g.1 x) 102 103 j = true) : mm_Rn pg_G d 67 52 ls (.int j :: .ref x :: t) g r ↔ mm_Rn pg_G d 67 53 ls (g.2.1 x j.toNatClampNeg :: t) g r := rn_aaload tb_67_52 hc r
theorem tb_67_53 : mm_tb pg_G 67 53 = some (.dup, 0, 0, 0) := rfl
theorem st_67_53 {d : Nat} {ls t : List Value} {g : mm_M} {r : mm_R} {v : Value} (hc : mm_c1 v = true) : mm_Rn pg_G d 67 53 ls (v :: t) g r ↔ mm_Rn pg_G d 67 54 ls (v :: v :: t) g r := rn_dup tb_67_53 hc r
theorem tb_67_54 : mm_tb pg_G 67 54 = some (.getfield 145, 3, 6, 152) := rfl
theorem st_67_54 {d : Nat} {ls t : List Value} {g : mm_M} {r : mm_R} {x : Nat} (hT : g.1 x = some (3, 10)) : mm_Rn pg_G d 67 54 ls (.ref x :: t) g r ↔ mm_Rn pg_G d 67 57 ls (g.2.1 x 6 :: t) g r := rn_getfield tb_67_54 hT r
theorem tb_67_57 : mm_tb pg_G 67 57 = some (.iconst 1, 0, 0, 0) := rfl
theorem st_67_57 {d : Nat} {ls t : List Value} {g : mm_M} {r : mm_R} : mm_Rn pg_G d 67 57 ls (t) g r ↔ mm_Rn pg_G d 67 58 ls (io_v 1 :: t) g r := rn_iconst tb_67_57 r
theorem tb_67_58 : mm_tb pg_G 67 58 = some (.iadd, 0, 0, 0) := rfl
theorem st_67_58 {d : Nat} {ls t : List Value} {g : mm_M} {r : mm_R} {x y : Int32} : mm_Rn pg_G d 67 58 ls (.int y :: .int x :: t) g r ↔ mm_Rn pg_G d 67 59 ls (.int (x + y) :: t) g r := rn_iadd tb_67_58 r
theorem tb_67_59 : mm_tb pg_G 67 59 = some (.putfield 145, 3, 6, 152) := rfl
theorem st_67_59 {d : Nat} {ls t : List Value} {g : mm_M} {r : mm_R} {x : Nat} {v : Int32} (hT : g.1 x = some (3, 10)) : mm_Rn pg_G d 67 59 ls (.int v :: .ref x :: t) g r ↔ mm_Rn pg_G d 67 62 ls (t) (mm_wr g x 6 (.int v)) r := rn_putfield tb_67_59 hT rfl r
theorem tb_67_62 : mm_tb pg_G 67 62 = some (.iinc 1 1, 0, 0, 0) := rfl
theorem st_67_62 {l0 : Value} {d : Nat} {t : List Value} {g : mm_M} {r : mm_R} {x : Int32} (hc : mm_c1 l0 = true) : mm_Rn pg_G d 67 62 [l0, .int x] (t) g r ↔ mm_Rn pg_G d 67 65 [l0, .int (x + Int32.ofInt 1)] (t) g r := rn_iinc tb_67_62 rfl (mm_so_of (ls := [l0, .int x]) (v := l0) (Nat.le_of_ble_eq_true rfl) rfl hc) r
theorem tb_67_65 : mm_tb pg_G 67 65 = some (.goto (-63), 2, 0, 0) := rfl
theorem st_67_65 {d : Nat} {ls t : List Value} {g : mm_M} {r : mm_R} : mm_Rn pg_G d 67 65 ls (t) g r ↔ mm_Rn pg_G d 67 2 ls (t) g r := rn_goto tb_67_65 r
theorem tb_67_68 : mm_tb pg_G 67 68 = some (.return_, 0, 0, 0) := rfl
theorem st_67_68 {d : Nat} {ls : List Value} {g : mm_M} {r : mm_R} : mm_Rn pg_G d 67 68 ls [] g r ↔ r = (none, g) := rn_return_iff tb_67_68 rfl r
theorem tb_68_0 : mm_tb pg_G 68 0 = some (.aload_n 0, 0, 0, 0) := rfl
theorem st_68_0 {d : Nat} {t : List Value} {g : mm_M} {r : mm_R} {x : Nat} : mm_Rn pg_G d 68 0 [.ref x] (t) g r ↔ mm_Rn pg_G d 68 1 [.ref x] (.ref x :: t) g r := rn_aload_n tb_68_0 rfl r
theorem tb_68_1 : mm_tb pg_G 68 1 = some (.invokespecial 1, 998, 0, 421) := rfl
theorem st_68_1 {d : Nat} {ls t : List Value} {g : mm_M} {r : mm_R} {x : Nat} (hl : t.length ≤ 4) : mm_Rn pg_G (d + 1) 68 1 ls (.ref x :: t) g r ↔ mm_Rn pg_G (d + 1) 68 4 ls (t) g r := rn_oinit tb_68_1 hl r
theorem tb_68_4 : mm_tb pg_G 68 4 = some (.aload_n 0, 0, 0, 0) := rfl
theorem st_68_4 {d : Nat} {t : List Value} {g : mm_M} {r : mm_R} {x : Nat} : mm_Rn pg_G d 68 4 [.ref x] (t) g r ↔ mm_Rn pg_G d 68 5 [.ref x] (.ref x :: t) g r := rn_aload_n tb_68_4 rfl r
theorem tb_68_5 : mm_tb pg_G 68 5 = some (.bipush 6, 0, 0, 0) := rfl
theorem st_68_5 {d : Nat} {ls t : List Value} {g : mm_M} {r : mm_R} : mm_Rn pg_G d 68 5 ls (t) g r ↔ mm_Rn pg_G d 68 7 ls (io_v 6 :: t) g r := rn_bipush tb_68_5 r
theorem tb_68_7 : mm_tb pg_G 68 7 = some (.newarray .int, 0, 0, 0) := rfl
theorem st_68_7 {d : Nat} {ls t : List Value} {g : mm_M} {r : mm_R} {x : Nat} {n : Int32} (hx : mm_pk pg_G 68 7 ls g.2.1 = x) (hT : g.1 x = none) (h0 : 0 ≤ n) (h1 : n.toNatClampNeg ≤ 1000) : mm_Rn pg_G d 68 7 ls (.int n :: t) g r ↔ mm_Rn pg_G d 68 9 ls (.ref x :: t) (mm_al g x 100 n.toNatClampNeg fun _ => .int 0) r := rn_newarray tb_68_7 hx hT h0 h1 r
theorem tb_68_9 : mm_tb pg_G 68 9 = some (.putfield 7, 6, 1, 423) := rfl
theorem st_68_9 {d : Nat} {ls t : List Value} {g : mm_M} {r : mm_R} {x : Nat} {v : Nat} (hT : g.1 x = some (6, 35)) : mm_Rn pg_G d 68 9 ls (.ref v :: .ref x :: t) g r ↔ mm_Rn pg_G d 68 12 ls (t) (mm_wr g x 1 (.ref v)) r := rn_putfield tb_68_9 hT rfl r
theorem tb_68_12 : mm_tb pg_G 68 12 = some (.aload_n 0, 0, 0, 0) := rfl
theorem st_68_12 {d : Nat} {t : List Value} {g : mm_M} {r : mm_R} {x : Nat} : mm_Rn pg_G d 68 12 [.ref x] (t) g r ↔ mm_Rn pg_G d 68 13 [.ref x] (.ref x :: t) g r := rn_aload_n tb_68_12 rfl r
theorem tb_68_13 : mm_tb pg_G 68 13 = some (.bipush 6, 0, 0, 0) := rfl
theorem st_68_13 {d : Nat} {ls t : List Value} {g : mm_M} {r : mm_R} : mm_Rn pg_G d 68 13 ls (t) g r ↔ mm_Rn pg_G d 68 15 ls (io_v 6 :: t) g r := rn_bipush tb_68_13 r
theorem tb_68_15 : mm_tb pg_G 68 15 = some (.newarray .int, 0, 0, 0) := rfl
theorem st_68_15 {d : Nat} {ls t : List Value} {g : mm_M} {r : mm_R} {x : Nat} {n : Int32} (hx : mm_pk pg_G 68 15 ls g.2.1 = x) (hT : g.1 x = none) (h0 : 0 ≤ n) (h1 : n.toNatClampNeg ≤ 1000) : mm_Rn pg_G d 68 15 ls (.int n :: t) g r ↔ mm_Rn pg_G d 68 17 ls (.ref x :: t) (mm_al g x 100 n.toNatClampNeg fun _ => .int 0) r := rn_newarray tb_68_15 hx hT h0 h1 r
theorem tb_68_17 : mm_tb pg_G 68 17 = some (.putfield 13, 6, 2, 424) := rfl
theorem st_68_17 {d : Nat} {ls t : List Value} {g : mm_M} {r : mm_R} {x : Nat} {v : Nat} (hT : g.1 x = some (6, 35)) : mm_Rn pg_G d 68 17 ls (.ref v :: .ref x :: t) g r ↔ mm_Rn pg_G d 68 20 ls (t) (mm_wr g x 2 (.ref v)) r := rn_putfield tb_68_17 hT rfl r
theorem tb_68_20 : mm_tb pg_G 68 20 = some (.aload_n 0, 0, 0, 0) := rfl
theorem st_68_20 {d : Nat} {t : List Value} {g : mm_M} {r : mm_R} {x : Nat} : mm_Rn pg_G d 68 20 [.ref x] (t) g r ↔ mm_Rn pg_G d 68 21 [.ref x] (.ref x :: t) g r := rn_aload_n tb_68_20 rfl r
theorem tb_68_21 : mm_tb pg_G 68 21 = some (.bipush 6, 0, 0, 0) := rfl
theorem st_68_21 {d : Nat} {ls t : List Value} {g : mm_M} {r : mm_R} : mm_Rn pg_G d 68 21 ls (t) g r ↔ mm_Rn pg_G d 68 23 ls (io_v 6 :: t) g r := rn_bipush tb_68_21 r
theorem tb_68_23 : mm_tb pg_G 68 23 = some (.newarray .int, 0, 0, 0) := rfl
theorem st_68_23 {d : Nat} {ls t : List Value} {g : mm_M} {r : mm_R} {x : Nat} {n : Int32} (hx : mm_pk pg_G 68 23 ls g.2.1 = x) (hT : g.1 x = none) (h0 : 0 ≤ n) (h1 : n.toNatClampNeg ≤ 1000) : mm_Rn pg_G d 68 23 ls (.int n :: t) g r ↔ mm_Rn pg_G d 68 25 ls (.ref x :: t) (mm_al g x 100 n.toNatClampNeg fun _ => .int 0) r := rn_newarray tb_68_23 hx hT h0 h1 r
theorem tb_68_25 : mm_tb pg_G 68 25 = some (.putfield 16, 6, 3, 425) := rfl
theorem st_68_25 {d : Nat} {ls t : List Value} {g : mm_M} {r : mm_R} {x : Nat} {v : Nat} (hT : g.1 x = some (6, 35)) : mm_Rn pg_G d 68 25 ls (.ref v :: .ref x :: t) g r ↔ mm_Rn pg_G d 68 28 ls (t) (mm_wr g x 3 (.ref v)) r := rn_putfield tb_68_25 hT rfl r
theorem tb_68_28 : mm_tb pg_G 68 28 = some (.aload_n 0, 0, 0, 0) := rfl
theorem st_68_28 {d : Nat} {t : List Value} {g : mm_M} {r : mm_R} {x : Nat} : mm_Rn pg_G d 68 28 [.ref x] (t) g r ↔ mm_Rn pg_G d 68 29 [.ref x] (.ref x :: t) g r := rn_aload_n tb_68_28 rfl r
theorem tb_68_29 : mm_tb pg_G 68 29 = some (.bipush 6, 0, 0, 0) := rfl
theorem st_68_29 {d : Nat} {ls t : List Value} {g : mm_M} {r : mm_R} : mm_Rn pg_G d 68 29 ls (t) g r ↔ mm_Rn pg_G d 68 31 ls (io_v 6 :: t) g r := rn_bipush tb_68_29 r
theorem tb_68_31 : mm_tb pg_G 68 31 = some (.newarray .int, 0, 0, 0) := rfl
theorem st_68_31 {d : Nat} {ls t : List Value} {g : mm_M} {r : mm_R} {x : Nat} {n : Int32} (hx : mm_pk pg_G 68 31 ls g.2.1 = x) (hT : g.1 x = none) (h0 : 0 ≤ n) (h1 : n.toNatClampNeg ≤ 1000) : mm_Rn pg_G d 68 31 ls (.int n :: t) g r ↔ mm_Rn pg_G d 68 33 ls (.ref x :: t) (mm_al g x 100 n.toNatClampNeg fun _ => .int 0) r := rn_newarray tb_68_31 hx hT h0 h1 r
theorem tb_68_33 : mm_tb pg_G 68 33 = some (.putfield 19, 6, 4, 426) := rfl
theorem st_68_33 {d : Nat} {ls t : List Value} {g : mm_M} {r : mm_R} {x : Nat} {v : Nat} (hT : g.1 x = some (6, 35)) : mm_Rn pg_G d 68 33 ls (.ref v :: .ref x :: t) g r ↔ mm_Rn pg_G d 68 36 ls (t) (mm_wr g x 4 (.ref v)) r := rn_putfield tb_68_33 hT rfl r
theorem tb_68_36 : mm_tb pg_G 68 36 = some (.aload_n 0, 0, 0, 0) := rfl
theorem st_68_36 {d : Nat} {t : List Value} {g : mm_M} {r : mm_R} {x : Nat} : mm_Rn pg_G d 68 36 [.ref x] (t) g r ↔ mm_Rn pg_G d 68 37 [.ref x] (.ref x :: t) g r := rn_aload_n tb_68_36 rfl r
theorem tb_68_37 : mm_tb pg_G 68 37 = some (.bipush 24, 0, 0, 0) := rfl
theorem st_68_37 {d : Nat} {ls t : List Value} {g : mm_M} {r : mm_R} : mm_Rn pg_G d 68 37 ls (t) g r ↔ mm_Rn pg_G d 68 39 ls (io_v 24 :: t) g r := rn_bipush tb_68_37 r
theorem tb_68_39 : mm_tb pg_G 68 39 = some (.newarray .int, 0, 0, 0) := rfl
theorem st_68_39 {d : Nat} {ls t : List Value} {g : mm_M} {r : mm_R} {x : Nat} {n : Int32} (hx : mm_pk pg_G 68 39 ls g.2.1 = x) (hT : g.1 x = none) (h0 : 0 ≤ n) (h1 : n.toNatClampNeg ≤ 1000) : mm_Rn pg_G d 68 39 ls (.int n :: t) g r ↔ mm_Rn pg_G d 68 41 ls (.ref x :: t) (mm_al g x 100 n.toNatClampNeg fun _ => .int 0) r := rn_newarray tb_68_39 hx hT h0 h1 r
theorem tb_68_41 : mm_tb pg_G 68 41 = some (.putfield 22, 6, 5, 427) := rfl
theorem st_68_41 {d : Nat} {ls t : List Value} {g : mm_M} {r : mm_R} {x : Nat} {v : Nat} (hT : g.1 x = some (6, 35)) : mm_Rn pg_G d 68 41 ls (.ref v :: .ref x :: t) g r ↔ mm_Rn pg_G d 68 44 ls (t) (mm_wr g x 5 (.ref v)) r := rn_putfield tb_68_41 hT rfl r
theorem tb_68_44 : mm_tb pg_G 68 44 = some (.aload_n 0, 0, 0, 0) := rfl
theorem st_68_44 {d : Nat} {t : List Value} {g : mm_M} {r : mm_R} {x : Nat} : mm_Rn pg_G d 68 44 [.ref x] (t) g r ↔ mm_Rn pg_G d 68 45 [.ref x] (.ref x :: t) g r := rn_aload_n tb_68_44 rfl r
theorem tb_68_45 : mm_tb pg_G 68 45 = some (.bipush 24, 0, 0, 0) := rfl
theorem st_68_45 {d : Nat} {ls t : List Value} {g : mm_M} {r : mm_R} : mm_Rn pg_G d 68 45 ls (t) g r ↔ mm_Rn pg_G d 68 47 ls (io_v 24 :: t) g r := rn_bipush tb_68_45 r
theorem tb_68_47 : mm_tb pg_G 68 47 = some (.newarray .int, 0, 0, 0) := rfl
theorem st_68_47 {d : Nat} {ls t : List Value} {g : mm_M} {r : mm_R} {x : Nat} {n : Int32} (hx : mm_pk pg_G 68 47 ls g.2.1 = x) (hT : g.1 x = none) (h0 : 0 ≤ n) (h1 : n.toNatClampNeg ≤ 1000) : mm_Rn pg_G d 68 47 ls (.int n :: t) g r ↔ mm_Rn pg_G d 68 49 ls (.ref x :: t) (mm_al g x 100 n.toNatClampNeg fun _ => .int 0) r := rn_newarray tb_68_47 hx hT h0 h1 r
theorem tb_68_49 : mm_tb pg_G 68 49 = some (.putfield 25, 6, 6, 428) := rfl
theorem st_68_49 {d : Nat} {ls t : List Value} {g : mm_M} {r : mm_R} {x : Nat} {v : Nat} (hT : g.1 x = some (6, 35)) : mm_Rn pg_G d 68 49 ls (.ref v :: .ref x :: t) g r ↔ mm_Rn pg_G d 68 52 ls (t) (mm_wr g x 6 (.ref v)) r := rn_putfield tb_68_49 hT rfl r
theorem tb_68_52 : mm_tb pg_G 68 52 = some (.aload_n 0, 0, 0, 0) := rfl
theorem st_68_52 {d : Nat} {t : List Value} {g : mm_M} {r : mm_R} {x : Nat} : mm_Rn pg_G d 68 52 [.ref x] (t) g r ↔ mm_Rn pg_G d 68 53 [.ref x] (.ref x :: t) g r := rn_aload_n tb_68_52 rfl r
theorem tb_68_53 : mm_tb pg_G 68 53 = some (.bipush 24, 0, 0, 0) := rfl
theorem st_68_53 {d : Nat} {ls t : List Value} {g : mm_M} {r : mm_R} : mm_Rn pg_G d 68 53 ls (t) g r ↔ mm_Rn pg_G d 68 55 ls (io_v 24 :: t) g r := rn_bipush tb_68_53 r
theorem tb_68_55 : mm_tb pg_G 68 55 = some (.newarray .int, 0, 0, 0) := rfl
theorem st_68_55 {d : Nat} {ls t : List Value} {g : mm_M} {r : mm_R} {x : Nat} {n : Int32} (hx : mm_pk pg_G 68 55 ls g.2.1 = x) (hT : g.1 x = none) (h0 : 0 ≤ n) (h1 : n.toNatClampNeg ≤ 1000) : mm_Rn pg_G d 68 55 ls (.int n :: t) g r ↔ mm_Rn pg_G d 68 57 ls (.ref x :: t) (mm_al g x 100 n.toNatClampNeg fun _ => .int 0) r := rn_newarray tb_68_55 hx hT h0 h1 r
theorem tb_68_57 : mm_tb pg_G 68 57 = some (.putfield 28, 6, 7, 429) := rfl
theorem st_68_57 {d : Nat} {ls t : List Value} {g : mm_M} {r : mm_R} {x : Nat} {v : Nat} (hT : g.1 x = some (6, 35)) : mm_Rn pg_G d 68 57 ls (.ref v :: .ref x :: t) g r ↔ mm_Rn pg_G d 68 60 ls (t) (mm_wr g x 7 (.ref v)) r := rn_putfield tb_68_57 hT rfl r
theorem tb_68_60 : mm_tb pg_G 68 60 = some (.aload_n 0, 0, 0, 0) := rfl
theorem st_68_60 {d : Nat} {t : List Value} {g : mm_M} {r : mm_R} {x : Nat} : mm_Rn pg_G d 68 60 [.ref x] (t) g r ↔ mm_Rn pg_G d 68 61 [.ref x] (.ref x :: t) g r := rn_aload_n tb_68_60 rfl r
theorem tb_68_61 : mm_tb pg_G 68 61 = some (.bipush 8, 0, 0, 0) := rfl
theorem st_68_61 {d : Nat} {ls t : List Value} {g : mm_M} {r : mm_R} : mm_Rn pg_G d 68 61 ls (t) g r ↔ mm_Rn pg_G d 68 63 ls (io_v 8 :: t) g r := rn_bipush tb_68_61 r
theorem tb_68_63 : mm_tb pg_G 68 63 = some (.newarray .int, 0, 0, 0) := rfl
theorem st_68_63 {d : Nat} {ls t : List Value} {g : mm_M} {r : mm_R} {x : Nat} {n : Int32} (hx : mm_pk pg_G 68 63 ls g.2.1 = x) (hT : g.1 x = none) (h0 : 0 ≤ n) (h1 : n.toNatClampNeg ≤ 1000) : mm_Rn pg_G d 68 63 ls (.int n :: t) g r ↔ mm_Rn pg_G d 68 65 ls (.ref x :: t) (mm_al g x 100 n.toNatClampNeg fun _ => .int 0) r := rn_newarray tb_68_63 hx hT h0 h1 r
theorem tb_68_65 : mm_tb pg_G 68 65 = some (.putfield 31, 6, 15, 437) := rfl
theorem st_68_65 {d : Nat} {ls t : List Value} {g : mm_M} {r : mm_R} {x : Nat} {v : Nat} (hT : g.1 x = some (6, 35)) : mm_Rn pg_G d 68 65 ls (.ref v :: .ref x :: t) g r ↔ mm_Rn pg_G d 68 68 ls (t) (mm_wr g x 15 (.ref v)) r := rn_putfield tb_68_65 hT rfl r
theorem tb_68_68 : mm_tb pg_G 68 68 = some (.aload_n 0, 0, 0, 0) := rfl
theorem st_68_68 {d : Nat} {t : List Value} {g : mm_M} {r : mm_R} {x : Nat} : mm_Rn pg_G d 68 68 [.ref x] (t) g r ↔ mm_Rn pg_G d 68 69 [.ref x] (.ref x :: t) g r := rn_aload_n tb_68_68 rfl r
theorem tb_68_69 : mm_tb pg_G 68 69 = some (.bipush 6, 0, 0, 0) := rfl
theorem st_68_69 {d : Nat} {ls t : List Value} {g : mm_M} {r : mm_R} : mm_Rn pg_G d 68 69 ls (t) g r ↔ mm_Rn pg_G d 68 71 ls (io_v 6 :: t) g r := rn_bipush tb_68_69 r
theorem tb_68_71 : mm_tb pg_G 68 71 = some (.newarray .int, 0, 0, 0) := rfl
theorem st_68_71 {d : Nat} {ls t : List Value} {g : mm_M} {r : mm_R} {x : Nat} {n : Int32} (hx : mm_pk pg_G 68 71 ls g.2.1 = x) (hT : g.1 x = none) (h0 : 0 ≤ n) (h1 : n.toNatClampNeg ≤ 1000) : mm_Rn pg_G d 68 71 ls (.int n :: t) g r ↔ mm_Rn pg_G d 68 73 ls (.ref x :: t) (mm_al g x 100 n.toNatClampNeg fun _ => .int 0) r := rn_newarray tb_68_71 hx hT h0 h1 r
theorem tb_68_73 : mm_tb pg_G 68 73 = some (.putfield 34, 6, 18, 440) := rfl
theorem st_68_73 {d : Nat} {ls t : List Value} {g : mm_M} {r : mm_R} {x : Nat} {v : Nat} (hT : g.1 x = some (6, 35)) : mm_Rn pg_G d 68 73 ls (.ref v :: .ref x :: t) g r ↔ mm_Rn pg_G d 68 76 ls (t) (mm_wr g x 18 (.ref v)) r := rn_putfield tb_68_73 hT rfl r
theorem tb_68_76 : mm_tb pg_G 68 76 = some (.aload_n 0, 0, 0, 0) := rfl
theorem st_68_76 {d : Nat} {t : List Value} {g : mm_M} {r : mm_R} {x : Nat} : mm_Rn pg_G d 68 76 [.ref x] (t) g r ↔ mm_Rn pg_G d 68 77 [.ref x] (.ref x :: t) g r := rn_aload_n tb_68_76 rfl r
theorem tb_68_77 : mm_tb pg_G 68 77 = some (.bipush 6, 0, 0, 0) := rfl
theorem st_68_77 {d : Nat} {ls t : List Value} {g : mm_M} {r : mm_R} : mm_Rn pg_G d 68 77 ls (t) g r ↔ mm_Rn pg_G d 68 79 ls (io_v 6 :: t) g r := rn_bipush tb_68_77 r
theorem tb_68_79 : mm_tb pg_G 68 79 = some (.newarray .int, 0, 0, 0) := rfl
theorem st_68_79 {d : Nat} {ls t : List Value} {g : mm_M} {r : mm_R} {x : Nat} {n : Int32} (hx : mm_pk pg_G 68 79 ls g.2.1 = x) (hT : g.1 x = none) (h0 : 0 ≤ n) (h1 : n.toNatClampNeg ≤ 1000) : mm_Rn pg_G d 68 79 ls (.int n :: t) g r ↔ mm_Rn pg_G d 68 81 ls (.ref x :: t) (mm_al g x 100 n.toNatClampNeg fun _ => .int 0) r := rn_newarray tb_68_79 hx hT h0 h1 r
theorem tb_68_81 : mm_tb pg_G 68 81 = some (.putfield 37, 6, 19, 441) := rfl
theorem st_68_81 {d : Nat} {ls t : List Value} {g : mm_M} {r : mm_R} {x : Nat} {v : Nat} (hT : g.1 x = some (6, 35)) : mm_Rn pg_G d 68 81 ls (.ref v :: .ref x :: t) g r ↔ mm_Rn pg_G d 68 84 ls (t) (mm_wr g x 19 (.ref v)) r := rn_putfield tb_68_81 hT rfl r
theorem tb_68_84 : mm_tb pg_G 68 84 = some (.aload_n 0, 0, 0, 0) := rfl
theorem st_68_84 {d : Nat} {t : List Value} {g : mm_M} {r : mm_R} {x : Nat} : mm_Rn pg_G d 68 84 [.ref x] (t) g r ↔ mm_Rn pg_G d 68 85 [.ref x] (.ref x :: t) g r := rn_aload_n tb_68_84 rfl r
theorem tb_68_85 : mm_tb pg_G 68 85 = some (.bipush 6, 0, 0, 0) := rfl
theorem st_68_85 {d : Nat} {ls t : List Value} {g : mm_M} {r : mm_R} : mm_Rn pg_G d 68 85 ls (t) g r ↔ mm_Rn pg_G d 68 87 ls (io_v 6 :: t) g r := rn_bipush tb_68_85 r
theorem tb_68_87 : mm_tb pg_G 68 87 = some (.newarray .int, 0, 0, 0) := rfl
theorem st_68_87 {d : Nat} {ls t : List Value} {g : mm_M} {r : mm_R} {x : Nat} {n : Int32} (hx : mm_pk pg_G 68 87 ls g.2.1 = x) (hT : g.1 x = none) (h0 : 0 ≤ n) (h1 : n.toNatClampNeg ≤ 1000) : mm_Rn pg_G d 68 87 ls (.int n :: t) g r ↔ mm_Rn pg_G d 68 89 ls (.ref x :: t) (mm_al g x 100 n.toNatClampNeg fun _ => .int 0) r := rn_newarray tb_68_87 hx hT h0 h1 r
theorem tb_68_89 : mm_tb pg_G 68 89 = some (.putfield 40, 6, 20, 442) := rfl
theorem st_68_89 {d : Nat} {ls t : List Value} {g : mm_M} {r : mm_R} {x : Nat} {v : Nat} (hT : g.1 x = some (6, 35)) : mm_Rn pg_G d 68 89 ls (.ref v :: .ref x :: t) g r ↔ mm_Rn pg_G d 68 92 ls (t) (mm_wr g x 20 (.ref v)) r := rn_putfield tb_68_89 hT rfl r
theorem tb_68_92 : mm_tb pg_G 68 92 = some (.aload_n 0, 0, 0, 0) := rfl
theorem st_68_92 {d : Nat} {t : List Value} {g : mm_M} {r : mm_R} {x : Nat} : mm_Rn pg_G d 68 92 [.ref x] (t) g r ↔ mm_Rn pg_G d 68 93 [.ref x] (.ref x :: t) g r := rn_aload_n tb_68_92 rfl r
theorem tb_68_93 : mm_tb pg_G 68 93 = some (.bipush 6, 0, 0, 0) := rfl
theorem st_68_93 {d : Nat} {ls t : List Value} {g : mm_M} {r : mm_R} : mm_Rn pg_G d 68 93 ls (t) g r ↔ mm_Rn pg_G d 68 95 ls (io_v 6 :: t) g r := rn_bipush tb_68_93 r
theorem tb_68_95 : mm_tb pg_G 68 95 = some (.newarray .int, 0, 0, 0) := rfl
theorem st_68_95 {d : Nat} {ls t : List Value} {g : mm_M} {r : mm_R} {x : Nat} {n : Int32} (hx : mm_pk pg_G 68 95 ls g.2.1 = x) (hT : g.1 x = none) (h0 : 0 ≤ n) (h1 : n.toNatClampNeg ≤ 1000) : mm_Rn pg_G d 68 95 ls (.int n :: t) g r ↔ mm_Rn pg_G d 68 97 ls (.ref x :: t) (mm_al g x 100 n.toNatClampNeg fun _ => .int 0) r := rn_newarray tb_68_95 hx hT h0 h1 r
theorem tb_68_97 : mm_tb pg_G 68 97 = some (.putfield 43, 6, 21, 443) := rfl
theorem st_68_97 {d : Nat} {ls t : List Value} {g : mm_M} {r : mm_R} {x : Nat} {v : Nat} (hT : g.1 x = some (6, 35)) : mm_Rn pg_G d 68 97 ls (.ref v :: .ref x :: t) g r ↔ mm_Rn pg_G d 68 100 ls (t) (mm_wr g x 21 (.ref v)) r := rn_putfield tb_68_97 hT rfl r
theorem tb_68_100 : mm_tb pg_G 68 100 = some (.aload_n 0, 0, 0, 0) := rfl
theorem st_68_100 {d : Nat} {t : List Value} {g : mm_M} {r : mm_R} {x : Nat} : mm_Rn pg_G d 68 100 [.ref x] (t) g r ↔ mm_Rn pg_G d 68 101 [.ref x] (.ref x :: t) g r := rn_aload_n tb_68_100 rfl r
theorem tb_68_101 : mm_tb pg_G 68 101 = some (.bipush 6, 0, 0, 0) := rfl
theorem st_68_101 {d : Nat} {ls t : List Value} {g : mm_M} {r : mm_R} : mm_Rn pg_G d 68 101 ls (t) g r ↔ mm_Rn pg_G d 68 103 ls (io_v 6 :: t) g r := rn_bipush tb_68_101 r
theorem tb_68_103 : mm_tb pg_G 68 103 = some (.newarray .int, 0, 0, 0) := rfl
theorem st_68_103 {d : Nat} {ls t : List Value} {g : mm_M} {r : mm_R} {x : Nat} {n : Int32} (hx : mm_pk pg_G 68 103 ls g.2.1 = x) (hT : g.1 x = none) (h0 : 0 ≤ n) (h1 : n.toNatClampNeg ≤ 1000) : mm_Rn pg_G d 68 103 ls (.int n :: t) g r ↔ mm_Rn pg_G d 68 105 ls (.ref x :: t) (mm_al g x 100 n.toNatClampNeg fun _ => .int 0) r := rn_newarray tb_68_103 hx hT h0 h1 r
theorem tb_68_105 : mm_tb pg_G 68 105 = some (.putfield 46, 6, 22, 444) := rfl
theorem st_68_105 {d : Nat} {ls t : List Value} {g : mm_M} {r : mm_R} {x : Nat} {v : Nat} (hT : g.1 x = some (6, 35)) : mm_Rn pg_G d 68 105 ls (.ref v :: .ref x :: t) g r ↔ mm_Rn pg_G d 68 108 ls (t) (mm_wr g x 22 (.ref v)) r := rn_putfield tb_68_105 hT rfl r
theorem tb_68_108 : mm_tb pg_G 68 108 = some (.aload_n 0, 0, 0, 0) := rfl
theorem st_68_108 {d : Nat} {t : List Value} {g : mm_M} {r : mm_R} {x : Nat} : mm_Rn pg_G d 68 108 [.ref x] (t) g r ↔ mm_Rn pg_G d 68 109 [.ref x] (.ref x :: t) g r := rn_aload_n tb_68_108 rfl r
theorem tb_68_109 : mm_tb pg_G 68 109 = some (.bipush 6, 0, 0, 0) := rfl
theorem st_68_109 {d : Nat} {ls t : List Value} {g : mm_M} {r : mm_R} : mm_Rn pg_G d 68 109 ls (t) g r ↔ mm_Rn pg_G d 68 111 ls (io_v 6 :: t) g r := rn_bipush tb_68_109 r
theorem tb_68_111 : mm_tb pg_G 68 111 = some (.newarray .int, 0, 0, 0) := rfl
theorem st_68_111 {d : Nat} {ls t : List Value} {g : mm_M} {r : mm_R} {x : Nat} {n : Int32} (hx : mm_pk pg_G 68 111 ls g.2.1 = x) (hT : g.1 x = none) (h0 : 0 ≤ n) (h1 : n.toNatClampNeg ≤ 1000) : mm_Rn pg_G d 68 111 ls (.int n :: t) g r ↔ mm_Rn pg_G d 68 113 ls (.ref x :: t) (mm_al g x 100 n.toNatClampNeg fun _ => .int 0) r := rn_newarray tb_68_111 hx hT h0 h1 r
theorem tb_68_113 : mm_tb pg_G 68 113 = some (.putfield 49, 6, 23, 445) := rfl
theorem st_68_113 {d : Nat} {ls t : List Value} {g : mm_M} {r : mm_R} {x : Nat} {v : Nat} (hT : g.1 x = some (6, 35)) : mm_Rn pg_G d 68 113 ls (.ref v :: .ref x :: t) g r ↔ mm_Rn pg_G d 68 116 ls (t) (mm_wr g x 23 (.ref v)) r := rn_putfield tb_68_113 hT rfl r
theorem tb_68_116 : mm_tb pg_G 68 116 = some (.aload_n 0, 0, 0, 0) := rfl
theorem st_68_116 {d : Nat} {t : List Value} {g : mm_M} {r : mm_R} {x : Nat} : mm_Rn pg_G d 68 116 [.ref x] (t) g r ↔ mm_Rn pg_G d 68 117 [.ref x] (.ref x :: t) g r := rn_aload_n tb_68_116 rfl r
theorem tb_68_117 : mm_tb pg_G 68 117 = some (.bipush 6, 0, 0, 0) := rfl
theorem st_68_117 {d : Nat} {ls t : List Value} {g : mm_M} {r : mm_R} : mm_Rn pg_G d 68 117 ls (t) g r ↔ mm_Rn pg_G d 68 119 ls (io_v 6 :: t) g r := rn_bipush tb_68_117 r
theorem tb_68_119 : mm_tb pg_G 68 119 = some (.newarray .int, 0, 0, 0) := rfl
theorem st_68_119 {d : Nat} {ls t : List Value} {g : mm_M} {r : mm_R} {x : Nat} {n : Int32} (hx : mm_pk pg_G 68 119 ls g.2.1 = x) (hT : g.1 x = none) (h0 : 0 ≤ n) (h1 : n.toNatClampNeg ≤ 1000) : mm_Rn pg_G d 68 119 ls (.int n :: t) g r ↔ mm_Rn pg_G d 68 121 ls (.ref x :: t) (mm_al g x 100 n.toNatClampNeg fun _ => .int 0) r := rn_newarray tb_68_119 hx hT h0 h1 r
theorem tb_68_121 : mm_tb pg_G 68 121 = some (.putfield 52, 6, 24, 446) := rfl
theorem st_68_121 {d : Nat} {ls t : List Value} {g : mm_M} {r : mm_R} {x : Nat} {v : Nat} (hT : g.1 x = some (6, 35)) : mm_Rn pg_G d 68 121 ls (.ref v :: .ref x :: t) g r ↔ mm_Rn pg_G d 68 124 ls (t) (mm_wr g x 24 (.ref v)) r := rn_putfield tb_68_121 hT rfl r
theorem tb_68_124 : mm_tb pg_G 68 124 = some (.aload_n 0, 0, 0, 0) := rfl
theorem st_68_124 {d : Nat} {t : List Value} {g : mm_M} {r : mm_R} {x : Nat} : mm_Rn pg_G d 68 124 [.ref x] (t) g r ↔ mm_Rn pg_G d 68 125 [.ref x] (.ref x :: t) g r := rn_aload_n tb_68_124 rfl r
theorem tb_68_125 : mm_tb pg_G 68 125 = some (.sipush 360, 0, 0, 0) := rfl
theorem st_68_125 {d : Nat} {ls t : List Value} {g : mm_M} {r : mm_R} : mm_Rn pg_G d 68 125 ls (t) g r ↔ mm_Rn pg_G d 68 128 ls (io_v 360 :: t) g r := rn_sipush tb_68_125 r
theorem tb_68_128 : mm_tb pg_G 68 128 = some (.newarray .int, 0, 0, 0) := rfl
theorem st_68_128 {d : Nat} {ls t : List Value} {g : mm_M} {r : mm_R} {x : Nat} {n : Int32} (hx : mm_pk pg_G 68 128 ls g.2.1 = x) (hT : g.1 x = none) (h0 : 0 ≤ n) (h1 : n.toNatClampNeg ≤ 1000) : mm_Rn pg_G d 68 128 ls (.int n :: t) g r ↔ mm_Rn pg_G d 68 130 ls (.ref x :: t) (mm_al g x 100 n.toNatClampNeg fun _ => .int 0) r := rn_newarray tb_68_128 hx hT h0 h1 r
theorem tb_68_130 : mm_tb pg_G 68 130 = some (.putfield 55, 6, 25, 447) := rfl
theorem st_68_130 {d : Nat} {ls t : List Value} {g : mm_M} {r : mm_R} {x : Nat} {v : Nat} (hT : g.1 x = some (6, 35)) : mm_Rn pg_G d 68 130 ls (.ref v :: .ref x :: t) g r ↔ mm_Rn pg_G d 68 133 ls (t) (mm_wr g x 25 (.ref v)) r := rn_putfield tb_68_130 hT rfl r
theorem tb_68_133 : mm_tb pg_G 68 133 = some (.aload_n 0, 0, 0, 0) := rfl
theorem st_68_133 {d : Nat} {t : List Value} {g : mm_M} {r : mm_R} {x : Nat} : mm_Rn pg_G d 68 133 [.ref x] (t) g r ↔ mm_Rn pg_G d 68 134 [.ref x] (.ref x :: t) g r := rn_aload_n tb_68_133 rfl r
theorem tb_68_134 : mm_tb pg_G 68 134 = some (.bipush 6, 0, 0, 0) := rfl
theorem st_68_134 {d : Nat} {ls t : List Value} {g : mm_M} {r : mm_R} : mm_Rn pg_G d 68 134 ls (t) g r ↔ mm_Rn pg_G d 68 136 ls (io_v 6 :: t) g r := rn_bipush tb_68_134 r
theorem tb_68_136 : mm_tb pg_G 68 136 = some (.newarray .int, 0, 0, 0) := rfl
theorem st_68_136 {d : Nat} {ls t : List Value} {g : mm_M} {r : mm_R} {x : Nat} {n : Int32} (hx : mm_pk pg_G 68 136 ls g.2.1 = x) (hT : g.1 x = none) (h0 : 0 ≤ n) (h1 : n.toNatClampNeg ≤ 1000) : mm_Rn pg_G d 68 136 ls (.int n :: t) g r ↔ mm_Rn pg_G d 68 138 ls (.ref x :: t) (mm_al g x 100 n.toNatClampNeg fun _ => .int 0) r := rn_newarray tb_68_136 hx hT h0 h1 r
theorem tb_68_138 : mm_tb pg_G 68 138 = some (.putfield 58, 6, 26, 448) := rfl
theorem st_68_138 {d : Nat} {ls t : List Value} {g : mm_M} {r : mm_R} {x : Nat} {v : Nat} (hT : g.1 x = some (6, 35)) : mm_Rn pg_G d 68 138 ls (.ref v :: .ref x :: t) g r ↔ mm_Rn pg_G d 68 141 ls (t) (mm_wr g x 26 (.ref v)) r := rn_putfield tb_68_138 hT rfl r
theorem tb_68_141 : mm_tb pg_G 68 141 = some (.aload_n 0, 0, 0, 0) := rfl
theorem st_68_141 {d : Nat} {t : List Value} {g : mm_M} {r : mm_R} {x : Nat} : mm_Rn pg_G d 68 141 [.ref x] (t) g r ↔ mm_Rn pg_G d 68 142 [.ref x] (.ref x :: t) g r := rn_aload_n tb_68_141 rfl r
theorem tb_68_142 : mm_tb pg_G 68 142 = some (.bipush 6, 0, 0, 0) := rfl
theorem st_68_142 {d : Nat} {ls t : List Value} {g : mm_M} {r : mm_R} : mm_Rn pg_G d 68 142 ls (t) g r ↔ mm_Rn pg_G d 68 144 ls (io_v 6 :: t) g r := rn_bipush tb_68_142 r
theorem tb_68_144 : mm_tb pg_G 68 144 = some (.newarray .int, 0, 0, 0) := rfl
theorem st_68_144 {d : Nat} {ls t : List Value} {g : mm_M} {r : mm_R} {x : Nat} {n : Int32} (hx : mm_pk pg_G 68 144 ls g.2.1 = x) (hT : g.1 x = none) (h0 : 0 ≤ n) (h1 : n.toNatClampNeg ≤ 1000) : mm_Rn pg_G d 68 144 ls (.int n :: t) g r ↔ mm_Rn pg_G d 68 146 ls (.ref x :: t) (mm_al g x 100 n.toNatClampNeg fun _ => .int 0) r := rn_newarray tb_68_144 hx hT h0 h1 r
theorem tb_68_146 : mm_tb pg_G 68 146 = some (.putfield 61, 6, 27, 449) := rfl
theorem st_68_146 {d : Nat} {ls t : List Value} {g : mm_M} {r : mm_R} {x : Nat} {v : Nat} (hT : g.1 x = some (6, 35)) : mm_Rn pg_G d 68 146 ls (.ref v :: .ref x :: t) g r ↔ mm_Rn pg_G d 68 149 ls (t) (mm_wr g x 27 (.ref v)) r := rn_putfield tb_68_146 hT rfl r
theorem tb_68_149 : mm_tb pg_G 68 149 = some (.aload_n 0, 0, 0, 0) := rfl
theorem st_68_149 {d : Nat} {t : List Value} {g : mm_M} {r : mm_R} {x : Nat} : mm_Rn pg_G d 68 149 [.ref x] (t) g r ↔ mm_Rn pg_G d 68 150 [.ref x] (.ref x :: t) g r := rn_aload_n tb_68_149 rfl r
theorem tb_68_150 : mm_tb pg_G 68 150 = some (.bipush 64, 0, 0, 0) := rfl
theorem st_68_150 {d : Nat} {ls t : List Value} {g : mm_M} {r : mm_R} : mm_Rn pg_G d 68 150 ls (t) g r ↔ mm_Rn pg_G d 68 152 ls (io_v 64 :: t) g r := rn_bipush tb_68_150 r
theorem tb_68_152 : mm_tb pg_G 68 152 = some (.newarray .int, 0, 0, 0) := rfl
theorem st_68_152 {d : Nat} {ls t : List Value} {g : mm_M} {r : mm_R} {x : Nat} {n : Int32} (hx : mm_pk pg_G 68 152 ls g.2.1 = x) (hT : g.1 x = none) (h0 : 0 ≤ n) (h1 : n.toNatClampNeg ≤ 1000) : mm_Rn pg_G d 68 152 ls (.int n :: t) g r ↔ mm_Rn pg_G d 68 154 ls (.ref x :: t) (mm_al g x 100 n.toNatClampNeg fun _ => .int 0) r := rn_newarray tb_68_152 hx hT h0 h1 r
theorem tb_68_154 : mm_tb pg_G 68 154 = some (.putfield 64, 6, 34, 456) := rfl
theorem st_68_154 {d : Nat} {ls t : List Value} {g : mm_M} {r : mm_R} {x : Nat} {v : Nat} (hT : g.1 x = some (6, 35)) : mm_Rn pg_G d 68 154 ls (.ref v :: .ref x :: t) g r ↔ mm_Rn pg_G d 68 157 ls (t) (mm_wr g x 34 (.ref v)) r := rn_putfield tb_68_154 hT rfl r
theorem tb_68_157 : mm_tb pg_G 68 157 = some (.return_, 0, 0, 0) := rfl
theorem st_68_157 {d : Nat} {ls : List Value} {g : mm_M} {r : mm_R} : mm_Rn pg_G d 68 157 ls [] g r ↔ r = (none, g) := rn_return_iff tb_68_157 rfl r
theorem tb_69_0 : mm_tb pg_G 69 0 = some (.iload_n 0, 0, 0, 0) := rfl
theorem st_69_0 {l1 l2 l3 : Value} {d : Nat} {t : List Value} {g : mm_M} {r : mm_R} {x : Int32} : mm_Rn pg_G d 69 0 [.int x, l1, l2, l3] (t) g r ↔ mm_Rn pg_G d 69 1 [.int x, l1, l2, l3] (.int x :: t) g r := rn_iload_n tb_69_0 rfl r
theorem tb_69_1 : mm_tb pg_G 69 1 = some (.iload_n 1, 0, 0, 0) := rfl
theorem st_69_1 {l0 l2 l3 : Value} {d : Nat} {t : List Value} {g : mm_M} {r : mm_R} {x : Int32} : mm_Rn pg_G d 69 1 [l0, .int x, l2, l3] (t) g r ↔ mm_Rn pg_G d 69 2 [l0, .int x, l2, l3] (.int x :: t) g r := rn_iload_n tb_69_1 rfl r
theorem tb_69_2 : mm_tb pg_G 69 2 = some (.if_icmp .gt 17, 19, 0, 0) := rfl
theorem st_69_2 {d : Nat} {ls t : List Value} {g : mm_M} {r : mm_R} {x y : Int32} : mm_Rn pg_G d 69 2 ls (.int y :: .int x :: t) g r ↔ if y < x then mm_Rn pg_G d 69 19 ls (t) g r else mm_Rn pg_G d 69 5 ls (t) g r := rn_icmp_gt tb_69_2 r
theorem tb_69_5 : mm_tb pg_G 69 5 = some (.iload_n 1, 0, 0, 0) := rfl
theorem st_69_5 {l0 l2 l3 : Value} {d : Nat} {t : List Value} {g : mm_M} {r : mm_R} {x : Int32} : mm_Rn pg_G d 69 5 [l0, .int x, l2, l3] (t) g r ↔ mm_Rn pg_G d 69 6 [l0, .int x, l2, l3] (.int x :: t) g r := rn_iload_n tb_69_5 rfl r
theorem tb_69_6 : mm_tb pg_G 69 6 = some (.iload_n 2, 0, 0, 0) := rfl
theorem st_69_6 {l0 l1 l3 : Value} {d : Nat} {t : List Value} {g : mm_M} {r : mm_R} {x : Int32} : mm_Rn pg_G d 69 6 [l0, l1, .int x, l3] (t) g r ↔ mm_Rn pg_G d 69 7 [l0, l1, .int x, l3] (.int x :: t) g r := rn_iload_n tb_69_6 rfl r
theorem tb_69_7 : mm_tb pg_G 69 7 = some (.if_icmp .gt 12, 19, 0, 0) := rfl
theorem st_69_7 {d : Nat} {ls t : List Value} {g : mm_M} {r : mm_R} {x y : Int32} : mm_Rn pg_G d 69 7 ls (.int y :: .int x :: t) g r ↔ if y < x then mm_Rn pg_G d 69 19 ls (t) g r else mm_Rn pg_G d 69 10 ls (t) g r := rn_icmp_gt tb_69_7 r
theorem tb_69_10 : mm_tb pg_G 69 10 = some (.iload_n 2, 0, 0, 0) := rfl
theorem st_69_10 {l0 l1 l3 : Value} {d : Nat} {t : List Value} {g : mm_M} {r : mm_R} {x : Int32} : mm_Rn pg_G d 69 10 [l0, l1, .int x, l3] (t) g r ↔ mm_Rn pg_G d 69 11 [l0, l1, .int x, l3] (.int x :: t) g r := rn_iload_n tb_69_10 rfl r
theorem tb_69_11 : mm_tb pg_G 69 11 = some (.iload_n 3, 0, 0, 0) := rfl
theorem st_69_11 {l0 l1 l2 : Value} {d : Nat} {t : List Value} {g : mm_M} {r : mm_R} {x : Int32} : mm_Rn pg_G d 69 11 [l0, l1, l2, .int x] (t) g r ↔ mm_Rn pg_G d 69 12 [l0, l1, l2, .int x] (.int x :: t) g r := rn_iload_n tb_69_11 rfl r
theorem tb_69_12 : mm_tb pg_G 69 12 = some (.if_icmp .gt 7, 19, 0, 0) := rfl
theorem st_69_12 {d : Nat} {ls t : List Value} {g : mm_M} {r : mm_R} {x y : Int32} : mm_Rn pg_G d 69 12 ls (.int y :: .int x :: t) g r ↔ if y < x then mm_Rn pg_G d 69 19 ls (t) g r else mm_Rn pg_G d 69 15 ls (t) g r := rn_icmp_gt tb_69_12 r
theorem tb_69_15 : mm_tb pg_G 69 15 = some (.iconst 1, 0, 0, 0) := rfl
theorem st_69_15 {d : Nat} {ls t : List Value} {g : mm_M} {r : mm_R} : mm_Rn pg_G d 69 15 ls (t) g r ↔ mm_Rn pg_G d 69 16 ls (io_v 1 :: t) g r := rn_iconst tb_69_15 r
theorem tb_69_16 : mm_tb pg_G 69 16 = some (.goto 4, 20, 0, 0) := rfl
theorem st_69_16 {d : Nat} {ls t : List Value} {g : mm_M} {r : mm_R} : mm_Rn pg_G d 69 16 ls (t) g r ↔ mm_Rn pg_G d 69 20 ls (t) g r := rn_goto tb_69_16 r
theorem tb_69_19 : mm_tb pg_G 69 19 = some (.iconst 0, 0, 0, 0) := rfl
theorem st_69_19 {d : Nat} {ls t : List Value} {g : mm_M} {r : mm_R} : mm_Rn pg_G d 69 19 ls (t) g r ↔ mm_Rn pg_G d 69 20 ls (io_v 0 :: t) g r := rn_iconst tb_69_19 r
theorem tb_69_20 : mm_tb pg_G 69 20 = some (.ireturn, 0, 0, 0) := rfl
theorem st_69_20 {d : Nat} {ls : List Value} {g : mm_M} {r : mm_R} {x : Int32} (hb : x = 0 ∨ x = 1) : mm_Rn pg_G d 69 20 ls [.int x] g r ↔ r = (some (.int x), g) := rn_ireturn_iff tb_69_20 (Or.inr ⟨rfl, hb⟩) r
theorem tb_70_0 : mm_tb pg_G 70 0 = some (.aload_n 0, 0, 0, 0) := rfl
theorem st_70_0 {l1 l2 l3 : Value} {d : Nat} {t : List Value} {g : mm_M} {r : mm_R} {x : Nat} : mm_Rn pg_G d 70 0 [.ref x, l1, l2, l3] (t) g r ↔ mm_Rn pg_G d 70 1 [.ref x, l1, l2, l3] (.ref x :: t) g r := rn_aload_n tb_70_0 rfl r
theorem tb_70_1 : mm_tb pg_G 70 1 = some (.getfield 67, 6, 8, 430) := rfl
theorem st_70_1 {d : Nat} {ls t : List Value} {g : mm_M} {r : mm_R} {x : Nat} (hT : g.1 x = some (6, 35)) : mm_Rn pg_G d 70 1 ls (.ref x :: t) g r ↔ mm_Rn pg_G d 70 4 ls (g.2.1 x 8 :: t) g r := rn_getfield tb_70_1 hT r
theorem tb_70_4 : mm_tb pg_G 70 4 = some (.ifCond .ne 28, 32, 0, 0) := rfl
theorem st_70_4 {d : Nat} {ls t : List Value} {g : mm_M} {r : mm_R} {x : Int32} : mm_Rn pg_G d 70 4 ls (.int x :: t) g r ↔ if x = 0 then mm_Rn pg_G d 70 7 ls (t) g r else mm_Rn pg_G d 70 32 ls (t) g r := rn_if_ne tb_70_4 r
theorem tb_70_7 : mm_tb pg_G 70 7 = some (.aload_n 0, 0, 0, 0) := rfl
theorem st_70_7 {l1 l2 l3 : Value} {d : Nat} {t : List Value} {g : mm_M} {r : mm_R} {x : Nat} : mm_Rn pg_G d 70 7 [.ref x, l1, l2, l3] (t) g r ↔ mm_Rn pg_G d 70 8 [.ref x, l1, l2, l3] (.ref x :: t) g r := rn_aload_n tb_70_7 rfl r
theorem tb_70_8 : mm_tb pg_G 70 8 = some (.getfield 71, 6, 0, 422) := rfl
theorem st_70_8 {d : Nat} {ls t : List Value} {g : mm_M} {r : mm_R} {x : Nat} (hT : g.1 x = some (6, 35)) : mm_Rn pg_G d 70 8 ls (.ref x :: t) g r ↔ mm_Rn pg_G d 70 11 ls (g.2.1 x 0 :: t) g r := rn_getfield tb_70_8 hT r
theorem tb_70_11 : mm_tb pg_G 70 11 = some (.bipush 6, 0, 0, 0) := rfl
theorem st_70_11 {d : Nat} {ls t : List Value} {g : mm_M} {r : mm_R} : mm_Rn pg_G d 70 11 ls (t) g r ↔ mm_Rn pg_G d 70 13 ls (io_v 6 :: t) g r := rn_bipush tb_70_11 r
theorem tb_70_13 : mm_tb pg_G 70 13 = some (.if_icmp .eq 19, 32, 0, 0) := rfl
theorem st_70_13 {d : Nat} {ls t : List Value} {g : mm_M} {r : mm_R} {x y : Int32} : mm_Rn pg_G d 70 13 ls (.int y :: .int x :: t) g r ↔ if x = y then mm_Rn pg_G d 70 32 ls (t) g r else mm_Rn pg_G d 70 16 ls (t) g r := rn_icmp_eq tb_70_13 r
theorem tb_70_16 : mm_tb pg_G 70 16 = some (.iconst 1, 0, 0, 0) := rfl
theorem st_70_16 {d : Nat} {ls t : List Value} {g : mm_M} {r : mm_R} : mm_Rn pg_G d 70 16 ls (t) g r ↔ mm_Rn pg_G d 70 17 ls (io_v 1 :: t) g r := rn_iconst tb_70_16 r
theorem tb_70_17 : mm_tb pg_G 70 17 = some (.iload_n 3, 0, 0, 0) := rfl
theorem st_70_17 {l0 l1 l2 : Value} {d : Nat} {t : List Value} {g : mm_M} {r : mm_R} {x : Int32} : mm_Rn pg_G d 70 17 [l0, l1, l2, .int x] (t) g r ↔ mm_Rn pg_G d 70 18 [l0, l1, l2, .int x] (.int x :: t) g r := rn_iload_n tb_70_17 rfl r
theorem tb_70_18 : mm_tb pg_G 70 18 = some (.iload_n 2, 0, 0, 0) := rfl
theorem st_70_18 {l0 l1 l3 : Value} {d : Nat} {t : List Value} {g : mm_M} {r : mm_R} {x : Int32} : mm_Rn pg_G d 70 18 [l0, l1, .int x, l3] (t) g r ↔ mm_Rn pg_G d 70 19 [l0, l1, .int x, l3] (.int x :: t) g r := rn_iload_n tb_70_18 rfl r
theorem tb_70_19 : mm_tb pg_G 70 19 = some (.iload_n 1, 0, 0, 0) := rfl
theorem st_70_19 {l0 l2 l3 : Value} {d : Nat} {t : List Value} {g : mm_M} {r : mm_R} {x : Int32} : mm_Rn pg_G d 70 19 [l0, .int x, l2, l3] (t) g r ↔ mm_Rn pg_G d 70 20 [l0, .int x, l2, l3] (.int x :: t) g r := rn_iload_n tb_70_19 rfl r
theorem tb_70_20 : mm_tb pg_G 70 20 = some (.invokestatic 75, 69, 4, 496) := rfl
theorem st_70_20 {d c s c' s' : Nat} {ls t : List Value} {I J : sp_I} {r : mm_R} {a0 a1 a2 a3 : Int32} {v : Int32} (hl : t.length ≤ 4) (hq : mm_Rn pg_G d 69 0 [.int a0, .int a1, .int a2, .int a3] [] (sp_me I 0 0) (some (.int v), sp_me J c' s')) : mm_Rn pg_G (d + 1) 70 20 ls (.int a3 :: .int a2 :: .int a1 :: .int a0 :: t) (sp_me I c s) r ↔ mm_Rn pg_G (d + 1) 70 23 ls (.int v :: t) (sp_me J (c + c') (s + s')) r := rn_stat (g := sp_me I c s) (st := .int a3 :: .int a2 :: .int a1 :: .int a0 :: t) tb_70_20 (by decide) ⟨Nat.le_add_left _ t.length, hl, rfl⟩ hq r
theorem tb_70_23 : mm_tb pg_G 70 23 = some (.ifCond .eq 9, 32, 0, 0) := rfl
theorem st_70_23 {d : Nat} {ls t : List Value} {g : mm_M} {r : mm_R} {x : Int32} : mm_Rn pg_G d 70 23 ls (.int x :: t) g r ↔ if x = 0 then mm_Rn pg_G d 70 32 ls (t) g r else mm_Rn pg_G d 70 26 ls (t) g r := rn_if_eq tb_70_23 r
theorem tb_70_26 : mm_tb pg_G 70 26 = some (.iload_n 1, 0, 0, 0) := rfl
theorem st_70_26 {l0 l2 l3 : Value} {d : Nat} {t : List Value} {g : mm_M} {r : mm_R} {x : Int32} : mm_Rn pg_G d 70 26 [l0, .int x, l2, l3] (t) g r ↔ mm_Rn pg_G d 70 27 [l0, .int x, l2, l3] (.int x :: t) g r := rn_iload_n tb_70_26 rfl r
theorem tb_70_27 : mm_tb pg_G 70 27 = some (.bipush 100, 0, 0, 0) := rfl
theorem st_70_27 {d : Nat} {ls t : List Value} {g : mm_M} {r : mm_R} : mm_Rn pg_G d 70 27 ls (t) g r ↔ mm_Rn pg_G d 70 29 ls (io_v 100 :: t) g r := rn_bipush tb_70_27 r
theorem tb_70_29 : mm_tb pg_G 70 29 = some (.if_icmp .le 5, 34, 0, 0) := rfl
theorem st_70_29 {d : Nat} {ls t : List Value} {g : mm_M} {r : mm_R} {x y : Int32} : mm_Rn pg_G d 70 29 ls (.int y :: .int x :: t) g r ↔ if x ≤ y then mm_Rn pg_G d 70 34 ls (t) g r else mm_Rn pg_G d 70 32 ls (t) g r := rn_icmp_le tb_70_29 r
theorem tb_70_32 : mm_tb pg_G 70 32 = some (.iconst (-1), 0, 0, 0) := rfl
theorem st_70_32 {d : Nat} {ls t : List Value} {g : mm_M} {r : mm_R} : mm_Rn pg_G d 70 32 ls (t) g r ↔ mm_Rn pg_G d 70 33 ls (io_v (-1) :: t) g r := rn_iconst tb_70_32 r
theorem tb_70_33 : mm_tb pg_G 70 33 = some (.ireturn, 0, 0, 0) := rfl
theorem st_70_33 {d : Nat} {ls : List Value} {g : mm_M} {r : mm_R} {x : Int32} : mm_Rn pg_G d 70 33 ls [.int x] g r ↔ r = (some (.int x), g) := rn_ireturn_iff tb_70_33 (Or.inl rfl) r
theorem tb_70_34 : mm_tb pg_G 70 34 = some (.aload_n 0, 0, 0, 0) := rfl
theorem st_70_34 {l1 l2 l3 : Value} {d : Nat} {t : List Value} {g : mm_M} {r : mm_R} {x : Nat} : mm_Rn pg_G d 70 34 [.ref x, l1, l2, l3] (t) g r ↔ mm_Rn pg_G d 70 35 [.ref x, l1, l2, l3] (.ref x :: t) g r := rn_aload_n tb_70_34 rfl r
theorem tb_70_35 : mm_tb pg_G 70 35 = some (.getfield 7, 6, 1, 423) := rfl
theorem st_70_35 {d : Nat} {ls t : List Value} {g : mm_M} {r : mm_R} {x : Nat} (hT : g.1 x = some (6, 35)) : mm_Rn pg_G d 70 35 ls (.ref x :: t) g r ↔ mm_Rn pg_G d 70 38 ls (g.2.1 x 1 :: t) g r := rn_getfield tb_70_35 hT r
theorem tb_70_38 : mm_tb pg_G 70 38 = some (.aload_n 0, 0, 0, 0) := rfl
theorem st_70_38 {l1 l2 l3 : Value} {d : Nat} {t : List Value} {g : mm_M} {r : mm_R} {x : Nat} : mm_Rn pg_G d 70 38 [.ref x, l1, l2, l3] (t) g r ↔ mm_Rn pg_G d 70 39 [.ref x, l1, l2, l3] (.ref x :: t) g r := rn_aload_n tb_70_38 rfl r
theorem tb_70_39 : mm_tb pg_G 70 39 = some (.getfield 71, 6, 0, 422) := rfl
theorem st_70_39 {d : Nat} {ls t : List Value} {g : mm_M} {r : mm_R} {x : Nat} (hT : g.1 x = some (6, 35)) : mm_Rn pg_G d 70 39 ls (.ref x :: t) g r ↔ mm_Rn pg_G d 70 42 ls (g.2.1 x 0 :: t) g r := rn_getfield tb_70_39 hT r
theorem tb_70_42 : mm_tb pg_G 70 42 = some (.iload_n 1, 0, 0, 0) := rfl
theorem st_70_42 {l0 l2 l3 : Value} {d : Nat} {t : List Value} {g : mm_M} {r : mm_R} {x : Int32} : mm_Rn pg_G d 70 42 [l0, .int x, l2, l3] (t) g r ↔ mm_Rn pg_G d 70 43 [l0, .int x, l2, l3] (.int x :: t) g r := rn_iload_n tb_70_42 rfl r
theorem tb_70_43 : mm_tb pg_G 70 43 = some (.iastore, 0, 0, 0) := rfl
theorem st_70_43 {d : Nat} {ls t : List Value} {g : mm_M} {r : mm_R} {x : Nat} {j v : Int32} (hc : mm_in (g.1 x) 100 100 j = true) : mm_Rn pg_G d 70 43 ls (.int v :: .int j :: .ref x :: t) g r ↔ mm_Rn pg_G d 70 44 ls (t) (mm_wr g x j.toNatClampNeg (.int v)) r := rn_iastore tb_70_43 hc r
theorem tb_70_44 : mm_tb pg_G 70 44 = some (.aload_n 0, 0, 0, 0) := rfl
theorem st_70_44 {l1 l2 l3 : Value} {d : Nat} {t : List Value} {g : mm_M} {r : mm_R} {x : Nat} : mm_Rn pg_G d 70 44 [.ref x, l1, l2, l3] (t) g r ↔ mm_Rn pg_G d 70 45 [.ref x, l1, l2, l3] (.ref x :: t) g r := rn_aload_n tb_70_44 rfl r
theorem tb_70_45 : mm_tb pg_G 70 45 = some (.getfield 13, 6, 2, 424) := rfl
theorem st_70_45 {d : Nat} {ls t : List Value} {g : mm_M} {r : mm_R} {x : Nat} (hT : g.1 x = some (6, 35)) : mm_Rn pg_G d 70 45 ls (.ref x :: t) g r ↔ mm_Rn pg_G d 70 48 ls (g.2.1 x 2 :: t) g r := rn_getfield tb_70_45 hT r
theorem tb_70_48 : mm_tb pg_G 70 48 = some (.aload_n 0, 0, 0, 0) := rfl
theorem st_70_48 {l1 l2 l3 : Value} {d : Nat} {t : List Value} {g : mm_M} {r : mm_R} {x : Nat} : mm_Rn pg_G d 70 48 [.ref x, l1, l2, l3] (t) g r ↔ mm_Rn pg_G d 70 49 [.ref x, l1, l2, l3] (.ref x :: t) g r := rn_aload_n tb_70_48 rfl r
theorem tb_70_49 : mm_tb pg_G 70 49 = some (.getfield 71, 6, 0, 422) := rfl
theorem st_70_49 {d : Nat} {ls t : List Value} {g : mm_M} {r : mm_R} {x : Nat} (hT : g.1 x = some (6, 35)) : mm_Rn pg_G d 70 49 ls (.ref x :: t) g r ↔ mm_Rn pg_G d 70 52 ls (g.2.1 x 0 :: t) g r := rn_getfield tb_70_49 hT r
theorem tb_70_52 : mm_tb pg_G 70 52 = some (.iload_n 2, 0, 0, 0) := rfl
theorem st_70_52 {l0 l1 l3 : Value} {d : Nat} {t : List Value} {g : mm_M} {r : mm_R} {x : Int32} : mm_Rn pg_G d 70 52 [l0, l1, .int x, l3] (t) g r ↔ mm_Rn pg_G d 70 53 [l0, l1, .int x, l3] (.int x :: t) g r := rn_iload_n tb_70_52 rfl r
theorem tb_70_53 : mm_tb pg_G 70 53 = some (.iastore, 0, 0, 0) := rfl
theorem st_70_53 {d : Nat} {ls t : List Value} {g : mm_M} {r : mm_R} {x : Nat} {j v : Int32} (hc : mm_in (g.1 x) 100 100 j = true) : mm_Rn pg_G d 70 53 ls (.int v :: .int j :: .ref x :: t) g r ↔ mm_Rn pg_G d 70 54 ls (t) (mm_wr g x j.toNatClampNeg (.int v)) r := rn_iastore tb_70_53 hc r
theorem tb_70_54 : mm_tb pg_G 70 54 = some (.aload_n 0, 0, 0, 0) := rfl
theorem st_70_54 {l1 l2 l3 : Value} {d : Nat} {t : List Value} {g : mm_M} {r : mm_R} {x : Nat} : mm_Rn pg_G d 70 54 [.ref x, l1, l2, l3] (t) g r ↔ mm_Rn pg_G d 70 55 [.ref x, l1, l2, l3] (.ref x :: t) g r := rn_aload_n tb_70_54 rfl r
theorem tb_70_55 : mm_tb pg_G 70 55 = some (.getfield 16, 6, 3, 425) := rfl
theorem st_70_55 {d : Nat} {ls t : List Value} {g : mm_M} {r : mm_R} {x : Nat} (hT : g.1 x = some (6, 35)) : mm_Rn pg_G d 70 55 ls (.ref x :: t) g r ↔ mm_Rn pg_G d 70 58 ls (g.2.1 x 3 :: t) g r := rn_getfield tb_70_55 hT r
theorem tb_70_58 : mm_tb pg_G 70 58 = some (.aload_n 0, 0, 0, 0) := rfl
theorem st_70_58 {l1 l2 l3 : Value} {d : Nat} {t : List Value} {g : mm_M} {r : mm_R} {x : Nat} : mm_Rn pg_G d 70 58 [.ref x, l1, l2, l3] (t) g r ↔ mm_Rn pg_G d 70 59 [.ref x, l1, l2, l3] (.ref x :: t) g r := rn_aload_n tb_70_58 rfl r
theorem tb_70_59 : mm_tb pg_G 70 59 = some (.getfield 71, 6, 0, 422) := rfl
theorem st_70_59 {d : Nat} {ls t : List Value} {g : mm_M} {r : mm_R} {x : Nat} (hT : g.1 x = some (6, 35)) : mm_Rn pg_G d 70 59 ls (.ref x :: t) g r ↔ mm_Rn pg_G d 70 62 ls (g.2.1 x 0 :: t) g r := rn_getfield tb_70_59 hT r
theorem tb_70_62 : mm_tb pg_G 70 62 = some (.iload_n 3, 0, 0, 0) := rfl
theorem st_70_62 {l0 l1 l2 : Value} {d : Nat} {t : List Value} {g : mm_M} {r : mm_R} {x : Int32} : mm_Rn pg_G d 70 62 [l0, l1, l2, .int x] (t) g r ↔ mm_Rn pg_G d 70 63 [l0, l1, l2, .int x] (.int x :: t) g r := rn_iload_n tb_70_62 rfl r
theorem tb_70_63 : mm_tb pg_G 70 63 = some (.iastore, 0, 0, 0) := rfl
theorem st_70_63 {d : Nat} {ls t : List Value} {g : mm_M} {r : mm_R} {x : Nat} {j v : Int32} (hc : mm_in (g.1 x) 100 100 j = true) : mm_Rn pg_G d 70 63 ls (.int v :: .int j :: .ref x :: t) g r ↔ mm_Rn pg_G d 70 64 ls (t) (mm_wr g x j.toNatClampNeg (.int v)) r := rn_iastore tb_70_63 hc r
theorem tb_70_64 : mm_tb pg_G 70 64 = some (.aload_n 0, 0, 0, 0) := rfl
theorem st_70_64 {l1 l2 l3 : Value} {d : Nat} {t : List Value} {g : mm_M} {r : mm_R} {x : Nat} : mm_Rn pg_G d 70 64 [.ref x, l1, l2, l3] (t) g r ↔ mm_Rn pg_G d 70 65 [.ref x, l1, l2, l3] (.ref x :: t) g r := rn_aload_n tb_70_64 rfl r
theorem tb_70_65 : mm_tb pg_G 70 65 = some (.dup, 0, 0, 0) := rfl
theorem st_70_65 {d : Nat} {ls t : List Value} {g : mm_M} {r : mm_R} {v : Value} (hc : mm_c1 v = true) : mm_Rn pg_G d 70 65 ls (v :: t) g r ↔ mm_Rn pg_G d 70 66 ls (v :: v :: t) g r := rn_dup tb_70_65 hc r
theorem tb_70_66 : mm_tb pg_G 70 66 = some (.getfield 71, 6, 0, 422) := rfl
theorem st_70_66 {d : Nat} {ls t : List Value} {g : mm_M} {r : mm_R} {x : Nat} (hT : g.1 x = some (6, 35)) : mm_Rn pg_G d 70 66 ls (.ref x :: t) g r ↔ mm_Rn pg_G d 70 69 ls (g.2.1 x 0 :: t) g r := rn_getfield tb_70_66 hT r
theorem tb_70_69 : mm_tb pg_G 70 69 = some (.iconst 1, 0, 0, 0) := rfl
theorem st_70_69 {d : Nat} {ls t : List Value} {g : mm_M} {r : mm_R} : mm_Rn pg_G d 70 69 ls (t) g r ↔ mm_Rn pg_G d 70 70 ls (io_v 1 :: t) g r := rn_iconst tb_70_69 r
theorem tb_70_70 : mm_tb pg_G 70 70 = some (.iadd, 0, 0, 0) := rfl
theorem st_70_70 {d : Nat} {ls t : List Value} {g : mm_M} {r : mm_R} {x y : Int32} : mm_Rn pg_G d 70 70 ls (.int y :: .int x :: t) g r ↔ mm_Rn pg_G d 70 71 ls (.int (x + y) :: t) g r := rn_iadd tb_70_70 r
theorem tb_70_71 : mm_tb pg_G 70 71 = some (.putfield 71, 6, 0, 422) := rfl
theorem st_70_71 {d : Nat} {ls t : List Value} {g : mm_M} {r : mm_R} {x : Nat} {v : Int32} (hT : g.1 x = some (6, 35)) : mm_Rn pg_G d 70 71 ls (.int v :: .ref x :: t) g r ↔ mm_Rn pg_G d 70 74 ls (t) (mm_wr g x 0 (.int v)) r := rn_putfield tb_70_71 hT rfl r
theorem tb_70_74 : mm_tb pg_G 70 74 = some (.aload_n 0, 0, 0, 0) := rfl
theorem st_70_74 {l1 l2 l3 : Value} {d : Nat} {t : List Value} {g : mm_M} {r : mm_R} {x : Nat} : mm_Rn pg_G d 70 74 [.ref x, l1, l2, l3] (t) g r ↔ mm_Rn pg_G d 70 75 [.ref x, l1, l2, l3] (.ref x :: t) g r := rn_aload_n tb_70_74 rfl r
theorem tb_70_75 : mm_tb pg_G 70 75 = some (.getfield 71, 6, 0, 422) := rfl
theorem st_70_75 {d : Nat} {ls t : List Value} {g : mm_M} {r : mm_R} {x : Nat} (hT : g.1 x = some (6, 35)) : mm_Rn pg_G d 70 75 ls (.ref x :: t) g r ↔ mm_Rn pg_G d 70 78 ls (g.2.1 x 0 :: t) g r := rn_getfield tb_70_75 hT r
theorem tb_70_78 : mm_tb pg_G 70 78 = some (.iconst 1, 0, 0, 0) := rfl
theorem st_70_78 {d : Nat} {ls t : List Value} {g : mm_M} {r : mm_R} : mm_Rn pg_G d 70 78 ls (t) g r ↔ mm_Rn pg_G d 70 79 ls (io_v 1 :: t) g r := rn_iconst tb_70_78 r
theorem tb_70_79 : mm_tb pg_G 70 79 = some (.isub, 0, 0, 0) := rfl
theorem st_70_79 {d : Nat} {ls t : List Value} {g : mm_M} {r : mm_R} {x y : Int32} : mm_Rn pg_G d 70 79 ls (.int y :: .int x :: t) g r ↔ mm_Rn pg_G d 70 80 ls (.int (x - y) :: t) g r := rn_isub tb_70_79 r
theorem tb_70_80 : mm_tb pg_G 70 80 = some (.ireturn, 0, 0, 0) := rfl
theorem st_70_80 {d : Nat} {ls : List Value} {g : mm_M} {r : mm_R} {x : Int32} : mm_Rn pg_G d 70 80 ls [.int x] g r ↔ r = (some (.int x), g) := rn_ireturn_iff tb_70_80 (Or.inl rfl) r
theorem tb_71_0 : mm_tb pg_G 71 0 = some (.iload_n 1, 0, 0, 0) := rfl
theorem st_71_0 {l0 : Value} {d : Nat} {t : List Value} {g : mm_M} {r : mm_R} {x : Int32} : mm_Rn pg_G d 71 0 [l0, .int x] (t) g r ↔ mm_Rn pg_G d 71 1 [l0, .int x] (.int x :: t) g r := rn_iload_n tb_71_0 rfl r
theorem tb_71_1 : mm_tb pg_G 71 1 = some (.ifCond .lt 15, 16, 0, 0) := rfl
theorem st_71_1 {d : Nat} {ls t : List Value} {g : mm_M} {r : mm_R} {x : Int32} : mm_Rn pg_G d 71 1 ls (.int x :: t) g r ↔ if x < 0 then mm_Rn pg_G d 71 16 ls (t) g r else mm_Rn pg_G d 71 4 ls (t) g r := rn_if_lt tb_71_1 r
theorem tb_71_4 : mm_tb pg_G 71 4 = some (.iload_n 1, 0, 0, 0) := rfl
theorem st_71_4 {l0 : Value} {d : Nat} {t : List Value} {g : mm_M} {r : mm_R} {x : Int32} : mm_Rn pg_G d 71 4 [l0, .int x] (t) g r ↔ mm_Rn pg_G d 71 5 [l0, .int x] (.int x :: t) g r := rn_iload_n tb_71_4 rfl r
theorem tb_71_5 : mm_tb pg_G 71 5 = some (.aload_n 0, 0, 0, 0) := rfl
theorem st_71_5 {l1 : Value} {d : Nat} {t : List Value} {g : mm_M} {r : mm_R} {x : Nat} : mm_Rn pg_G d 71 5 [.ref x, l1] (t) g r ↔ mm_Rn pg_G d 71 6 [.ref x, l1] (.ref x :: t) g r := rn_aload_n tb_71_5 rfl r
theorem tb_71_6 : mm_tb pg_G 71 6 = some (.getfield 71, 6, 0, 422) := rfl
theorem st_71_6 {d : Nat} {ls t : List Value} {g : mm_M} {r : mm_R} {x : Nat} (hT : g.1 x = some (6, 35)) : mm_Rn pg_G d 71 6 ls (.ref x :: t) g r ↔ mm_Rn pg_G d 71 9 ls (g.2.1 x 0 :: t) g r := rn_getfield tb_71_6 hT r
theorem tb_71_9 : mm_tb pg_G 71 9 = some (.if_icmp .ge 7, 16, 0, 0) := rfl
theorem st_71_9 {d : Nat} {ls t : List Value} {g : mm_M} {r : mm_R} {x y : Int32} : mm_Rn pg_G d 71 9 ls (.int y :: .int x :: t) g r ↔ if y ≤ x then mm_Rn pg_G d 71 16 ls (t) g r else mm_Rn pg_G d 71 12 ls (t) g r := rn_icmp_ge tb_71_9 r
theorem tb_71_12 : mm_tb pg_G 71 12 = some (.iconst 1, 0, 0, 0) := rfl
theorem st_71_12 {d : Nat} {ls t : List Value} {g : mm_M} {r : mm_R} : mm_Rn pg_G d 71 12 ls (t) g r ↔ mm_Rn pg_G d 71 13 ls (io_v 1 :: t) g r := rn_iconst tb_71_12 r
theorem tb_71_13 : mm_tb pg_G 71 13 = some (.goto 4, 17, 0, 0) := rfl
theorem st_71_13 {d : Nat} {ls t : List Value} {g : mm_M} {r : mm_R} : mm_Rn pg_G d 71 13 ls (t) g r ↔ mm_Rn pg_G d 71 17 ls (t) g r := rn_goto tb_71_13 r
theorem tb_71_16 : mm_tb pg_G 71 16 = some (.iconst 0, 0, 0, 0) := rfl
theorem st_71_16 {d : Nat} {ls t : List Value} {g : mm_M} {r : mm_R} : mm_Rn pg_G d 71 16 ls (t) g r ↔ mm_Rn pg_G d 71 17 ls (io_v 0 :: t) g r := rn_iconst tb_71_16 r
theorem tb_71_17 : mm_tb pg_G 71 17 = some (.ireturn, 0, 0, 0) := rfl
theorem st_71_17 {d : Nat} {ls : List Value} {g : mm_M} {r : mm_R} {x : Int32} (hb : x = 0 ∨ x = 1) : mm_Rn pg_G d 71 17 ls [.int x] g r ↔ r = (some (.int x), g) := rn_ireturn_iff tb_71_17 (Or.inr ⟨rfl, hb⟩) r
