/-! a row an instruction of the program -/
theorem tb_18_0 : mm_tb pg_G 18 0 = some (.iconst 0, 0, 0, 0) := rfl
theorem st_18_0 {d : Nat} {ls t : List Value} {g : mm_M} {r : mm_R} : mm_Rn pg_G d 18 0 ls (t) g r ↔ mm_Rn pg_G d 18 1 ls (io_v 0 :: t) g r := rn_iconst tb_18_0 r
theorem tb_18_1 : mm_tb pg_G 18 1 = some (.istore_n 2, 0, 0, 0) := rfl
theorem st_18_1 {l0 l1 l2 l3 : Value} {d : Nat} {t : List Value} {g : mm_M} {r : mm_R} {x : Int32} (hc : mm_c1 l1 = true) : mm_Rn pg_G d 18 1 [l0, l1, l2, l3] (.int x :: t) g r ↔ mm_Rn pg_G d 18 2 [l0, l1, .int x, l3] (t) g r := rn_istore_n tb_18_1 (mm_so_of (ls := [l0, l1, l2, l3]) (v := l1) (Nat.le_of_ble_eq_true rfl) rfl hc) r
theorem tb_18_2 : mm_tb pg_G 18 2 = some (.iconst 0, 0, 0, 0) := rfl
theorem st_18_2 {d : Nat} {ls t : List Value} {g : mm_M} {r : mm_R} : mm_Rn pg_G d 18 2 ls (t) g r ↔ mm_Rn pg_G d 18 3 ls (io_v 0 :: t) g r := rn_iconst tb_18_2 r
theorem tb_18_3 : mm_tb pg_G 18 3 = some (.istore_n 3, 0, 0, 0) := rfl
theorem st_18_3 {l0 l1 l2 l3 : Value} {d : Nat} {t : List Value} {g : mm_M} {r : mm_R} {x : Int32} (hc : mm_c1 l2 = true) : mm_Rn pg_G d 18 3 [l0, l1, l2, l3] (.int x :: t) g r ↔ mm_Rn pg_G d 18 4 [l0, l1, l2, .int x] (t) g r := rn_istore_n tb_18_3 (mm_so_of (ls := [l0, l1, l2, l3]) (v := l2) (Nat.le_of_ble_eq_true rfl) rfl hc) r
theorem tb_18_4 : mm_tb pg_G 18 4 = some (.iload_n 3, 0, 0, 0) := rfl
theorem st_18_4 {l0 l1 l2 : Value} {d : Nat} {t : List Value} {g : mm_M} {r : mm_R} {x : Int32} : mm_Rn pg_G d 18 4 [l0, l1, l2, .int x] (t) g r ↔ mm_Rn pg_G d 18 5 [l0, l1, l2, .int x] (.int x :: t) g r := rn_iload_n tb_18_4 rfl r
theorem tb_18_5 : mm_tb pg_G 18 5 = some (.aload_n 0, 0, 0, 0) := rfl
theorem st_18_5 {l1 l2 l3 : Value} {d : Nat} {t : List Value} {g : mm_M} {r : mm_R} {x : Nat} : mm_Rn pg_G d 18 5 [.ref x, l1, l2, l3] (t) g r ↔ mm_Rn pg_G d 18 6 [.ref x, l1, l2, l3] (.ref x :: t) g r := rn_aload_n tb_18_5 rfl r
theorem tb_18_6 : mm_tb pg_G 18 6 = some (.getfield 24, 3, 5, 150) := rfl
theorem st_18_6 {d : Nat} {ls t : List Value} {g : mm_M} {r : mm_R} {x : Nat} (hT : g.1 x = some (3, 10)) : mm_Rn pg_G d 18 6 ls (.ref x :: t) g r ↔ mm_Rn pg_G d 18 9 ls (g.2.1 x 5 :: t) g r := rn_getfield tb_18_6 hT r
theorem tb_18_9 : mm_tb pg_G 18 9 = some (.if_icmp .ge 38, 47, 0, 0) := rfl
theorem st_18_9 {d : Nat} {ls t : List Value} {g : mm_M} {r : mm_R} {x y : Int32} : mm_Rn pg_G d 18 9 ls (.int y :: .int x :: t) g r ↔ if y ≤ x then mm_Rn pg_G d 18 47 ls (t) g r else mm_Rn pg_G d 18 12 ls (t) g r := rn_icmp_ge tb_18_9 r
theorem tb_18_12 : mm_tb pg_G 18 12 = some (.aload_n 0, 0, 0, 0) := rfl
theorem st_18_12 {l1 l2 l3 : Value} {d : Nat} {t : List Value} {g : mm_M} {r : mm_R} {x : Nat} : mm_Rn pg_G d 18 12 [.ref x, l1, l2, l3] (t) g r ↔ mm_Rn pg_G d 18 13 [.ref x, l1, l2, l3] (.ref x :: t) g r := rn_aload_n tb_18_12 rfl r
theorem tb_18_13 : mm_tb pg_G 18 13 = some (.aload_n 0, 0, 0, 0) := rfl
theorem st_18_13 {l1 l2 l3 : Value} {d : Nat} {t : List Value} {g : mm_M} {r : mm_R} {x : Nat} : mm_Rn pg_G d 18 13 [.ref x, l1, l2, l3] (t) g r ↔ mm_Rn pg_G d 18 14 [.ref x, l1, l2, l3] (.ref x :: t) g r := rn_aload_n tb_18_13 rfl r
theorem tb_18_14 : mm_tb pg_G 18 14 = some (.getfield 11, 3, 3, 147) := rfl
theorem st_18_14 {d : Nat} {ls t : List Value} {g : mm_M} {r : mm_R} {x : Nat} (hT : g.1 x = some (3, 10)) : mm_Rn pg_G d 18 14 ls (.ref x :: t) g r ↔ mm_Rn pg_G d 18 17 ls (g.2.1 x 3 :: t) g r := rn_getfield tb_18_14 hT r
theorem tb_18_17 : mm_tb pg_G 18 17 = some (.iload_n 3, 0, 0, 0) := rfl
theorem st_18_17 {l0 l1 l2 : Value} {d : Nat} {t : List Value} {g : mm_M} {r : mm_R} {x : Int32} : mm_Rn pg_G d 18 17 [l0, l1, l2, .int x] (t) g r ↔ mm_Rn pg_G d 18 18 [l0, l1, l2, .int x] (.int x :: t) g r := rn_iload_n tb_18_17 rfl r
theorem tb_18_18 : mm_tb pg_G 18 18 = some (.aaload, 0, 0, 0) := rfl
theorem st_18_18 {d : Nat} {ls t : List Value} {g : mm_M} {r : mm_R} {x : Nat} {j : Int32} (hc : mm_in (g.1 x) 102 103 j = true) : mm_Rn pg_G d 18 18 ls (.int j :: .ref x :: t) g r ↔ mm_Rn pg_G d 18 19 ls (g.2.1 x j.toNatClampNeg :: t) g r := rn_aaload tb_18_18 hc r
theorem tb_18_19 : mm_tb pg_G 18 19 = some (.invokevirtual 82, 15, 2, 307) := rfl
theorem st_18_19 {d c s c' s' : Nat} {ls t : List Value} {I J : sp_I} {r : mm_R} {y a0 : Nat} {v : Int32} (hl : t.length ≤ 4) (hT : sp_T I y = some (3, 10)) (hq : mm_Rn pg_G d 15 0 [.ref y, .ref a0] [] (sp_me I 0 0) (some (.int v), sp_me J c' s')) : mm_Rn pg_G (d + 1) 18 19 ls (.ref a0 :: .ref y :: t) (sp_me I c s) r ↔ mm_Rn pg_G (d + 1) 18 22 ls (.int v :: t) (sp_me J (c + c') (s + s')) r := rn_virt (g := sp_me I c s) (st := .ref a0 :: .ref y :: t) tb_18_19 (decide_eq_true hT) ⟨Nat.le_add_left _ t.length, hl, rfl⟩ hq r
theorem tb_18_22 : mm_tb pg_G 18 22 = some (.ifCond .eq 19, 41, 0, 0) := rfl
theorem st_18_22 {d : Nat} {ls t : List Value} {g : mm_M} {r : mm_R} {x : Int32} : mm_Rn pg_G d 18 22 ls (.int x :: t) g r ↔ if x = 0 then mm_Rn pg_G d 18 41 ls (t) g r else mm_Rn pg_G d 18 25 ls (t) g r := rn_if_eq tb_18_22 r
theorem tb_18_25 : mm_tb pg_G 18 25 = some (.iload_n 2, 0, 0, 0) := rfl
theorem st_18_25 {l0 l1 l3 : Value} {d : Nat} {t : List Value} {g : mm_M} {r : mm_R} {x : Int32} : mm_Rn pg_G d 18 25 [l0, l1, .int x, l3] (t) g r ↔ mm_Rn pg_G d 18 26 [l0, l1, .int x, l3] (.int x :: t) g r := rn_iload_n tb_18_25 rfl r
theorem tb_18_26 : mm_tb pg_G 18 26 = some (.aload_n 1, 0, 0, 0) := rfl
theorem st_18_26 {l0 l2 l3 : Value} {d : Nat} {t : List Value} {g : mm_M} {r : mm_R} {x : Nat} : mm_Rn pg_G d 18 26 [l0, .ref x, l2, l3] (t) g r ↔ mm_Rn pg_G d 18 27 [l0, .ref x, l2, l3] (.ref x :: t) g r := rn_aload_n tb_18_26 rfl r
theorem tb_18_27 : mm_tb pg_G 18 27 = some (.aload_n 0, 0, 0, 0) := rfl
theorem st_18_27 {l1 l2 l3 : Value} {d : Nat} {t : List Value} {g : mm_M} {r : mm_R} {x : Nat} : mm_Rn pg_G d 18 27 [.ref x, l1, l2, l3] (t) g r ↔ mm_Rn pg_G d 18 28 [.ref x, l1, l2, l3] (.ref x :: t) g r := rn_aload_n tb_18_27 rfl r
theorem tb_18_28 : mm_tb pg_G 18 28 = some (.getfield 11, 3, 3, 147) := rfl
theorem st_18_28 {d : Nat} {ls t : List Value} {g : mm_M} {r : mm_R} {x : Nat} (hT : g.1 x = some (3, 10)) : mm_Rn pg_G d 18 28 ls (.ref x :: t) g r ↔ mm_Rn pg_G d 18 31 ls (g.2.1 x 3 :: t) g r := rn_getfield tb_18_28 hT r
theorem tb_18_31 : mm_tb pg_G 18 31 = some (.iload_n 3, 0, 0, 0) := rfl
theorem st_18_31 {l0 l1 l2 : Value} {d : Nat} {t : List Value} {g : mm_M} {r : mm_R} {x : Int32} : mm_Rn pg_G d 18 31 [l0, l1, l2, .int x] (t) g r ↔ mm_Rn pg_G d 18 32 [l0, l1, l2, .int x] (.int x :: t) g r := rn_iload_n tb_18_31 rfl r
theorem tb_18_32 : mm_tb pg_G 18 32 = some (.aaload, 0, 0, 0) := rfl
theorem st_18_32 {d : Nat} {ls t : List Value} {g : mm_M} {r : mm_R} {x : Nat} {j : Int32} (hc : mm_in (g.1 x) 102 103 j = true) : mm_Rn pg_G d 18 32 ls (.int j :: .ref x :: t) g r ↔ mm_Rn pg_G d 18 33 ls (g.2.1 x j.toNatClampNeg :: t) g r := rn_aaload tb_18_32 hc r
theorem tb_18_33 : mm_tb pg_G 18 33 = some (.getfield 56, 4, 0, 196) := rfl
theorem st_18_33 {d : Nat} {ls t : List Value} {g : mm_M} {r : mm_R} {x : Nat} (hT : g.1 x = some (4, 3)) : mm_Rn pg_G d 18 33 ls (.ref x :: t) g r ↔ mm_Rn pg_G d 18 36 ls (g.2.1 x 0 :: t) g r := rn_getfield tb_18_33 hT r
theorem tb_18_36 : mm_tb pg_G 18 36 = some (.iaload, 0, 0, 0) := rfl
theorem st_18_36 {d : Nat} {ls t : List Value} {g : mm_M} {r : mm_R} {x : Nat} {j : Int32} (hc : mm_in (g.1 x) 100 101 j = true) : mm_Rn pg_G d 18 36 ls (.int j :: .ref x :: t) g r ↔ mm_Rn pg_G d 18 37 ls (g.2.1 x j.toNatClampNeg :: t) g r := rn_iaload tb_18_36 hc r
theorem tb_18_37 : mm_tb pg_G 18 37 = some (.invokestatic 65, 999, 0, 237) := rfl
theorem st_18_37 {d : Nat} {ls t : List Value} {g : mm_M} {r : mm_R} {x y : Int32} (hl : t.length ≤ 4) : mm_Rn pg_G (d + 1) 18 37 ls (.int y :: .int x :: t) g r ↔ mm_Rn pg_G (d + 1) 18 40 ls (.int (if x < y then y else x) :: t) g r := rn_max tb_18_37 hl r
theorem tb_18_40 : mm_tb pg_G 18 40 = some (.istore_n 2, 0, 0, 0) := rfl
theorem st_18_40 {l0 l1 l2 l3 : Value} {d : Nat} {t : List Value} {g : mm_M} {r : mm_R} {x : Int32} (hc : mm_c1 l1 = true) : mm_Rn pg_G d 18 40 [l0, l1, l2, l3] (.int x :: t) g r ↔ mm_Rn pg_G d 18 41 [l0, l1, .int x, l3] (t) g r := rn_istore_n tb_18_40 (mm_so_of (ls := [l0, l1, l2, l3]) (v := l1) (Nat.le_of_ble_eq_true rfl) rfl hc) r
theorem tb_18_41 : mm_tb pg_G 18 41 = some (.iinc 3 1, 0, 0, 0) := rfl
theorem st_18_41 {l0 l1 l2 : Value} {d : Nat} {t : List Value} {g : mm_M} {r : mm_R} {x : Int32} (hc : mm_c1 l2 = true) : mm_Rn pg_G d 18 41 [l0, l1, l2, .int x] (t) g r ↔ mm_Rn pg_G d 18 44 [l0, l1, l2, .int (x + Int32.ofInt 1)] (t) g r := rn_iinc tb_18_41 rfl (mm_so_of (ls := [l0, l1, l2, .int x]) (v := l2) (Nat.le_of_ble_eq_true rfl) rfl hc) r
theorem tb_18_44 : mm_tb pg_G 18 44 = some (.goto (-40), 4, 0, 0) := rfl
theorem st_18_44 {d : Nat} {ls t : List Value} {g : mm_M} {r : mm_R} : mm_Rn pg_G d 18 44 ls (t) g r ↔ mm_Rn pg_G d 18 4 ls (t) g r := rn_goto tb_18_44 r
theorem tb_18_47 : mm_tb pg_G 18 47 = some (.iload_n 2, 0, 0, 0) := rfl
theorem st_18_47 {l0 l1 l3 : Value} {d : Nat} {t : List Value} {g : mm_M} {r : mm_R} {x : Int32} : mm_Rn pg_G d 18 47 [l0, l1, .int x, l3] (t) g r ↔ mm_Rn pg_G d 18 48 [l0, l1, .int x, l3] (.int x :: t) g r := rn_iload_n tb_18_47 rfl r
theorem tb_18_48 : mm_tb pg_G 18 48 = some (.ireturn, 0, 0, 0) := rfl
theorem st_18_48 {d : Nat} {ls : List Value} {g : mm_M} {r : mm_R} {x : Int32} : mm_Rn pg_G d 18 48 ls [.int x] g r ↔ r = (some (.int x), g) := rn_ireturn_iff tb_18_48 (Or.inl rfl) r
theorem tb_19_0 : mm_tb pg_G 19 0 = some (.aload_n 0, 0, 0, 0) := rfl
theorem st_19_0 {l1 l2 : Value} {d : Nat} {t : List Value} {g : mm_M} {r : mm_R} {x : Nat} : mm_Rn pg_G d 19 0 [.ref x, l1, l2] (t) g r ↔ mm_Rn pg_G d 19 1 [.ref x, l1, l2] (.ref x :: t) g r := rn_aload_n tb_19_0 rfl r
theorem tb_19_1 : mm_tb pg_G 19 1 = some (.invokevirtual 86, 17, 1, 327) := rfl
theorem st_19_1 {d c s c' s' : Nat} {ls t : List Value} {I J : sp_I} {r : mm_R} {y : Nat} {v : Int32} (hl : t.length ≤ 4) (hT : sp_T I y = some (3, 10)) (hq : mm_Rn pg_G d 17 0 [.ref y, .retAddr 0] [] (sp_me I 0 0) (some (.int v), sp_me J c' s')) : mm_Rn pg_G (d + 1) 19 1 ls (.ref y :: t) (sp_me I c s) r ↔ mm_Rn pg_G (d + 1) 19 4 ls (.int v :: t) (sp_me J (c + c') (s + s')) r := rn_virt (g := sp_me I c s) (st := .ref y :: t) tb_19_1 (decide_eq_true hT) ⟨Nat.le_add_left _ t.length, hl, rfl⟩ hq r
theorem tb_19_4 : mm_tb pg_G 19 4 = some (.istore_n 1, 0, 0, 0) := rfl
theorem st_19_4 {l0 l1 l2 : Value} {d : Nat} {t : List Value} {g : mm_M} {r : mm_R} {x : Int32} (hc : mm_c1 l0 = true) : mm_Rn pg_G d 19 4 [l0, l1, l2] (.int x :: t) g r ↔ mm_Rn pg_G d 19 5 [l0, .int x, l2] (t) g r := rn_istore_n tb_19_4 (mm_so_of (ls := [l0, l1, l2]) (v := l0) (Nat.le_of_ble_eq_true rfl) rfl hc) r
theorem tb_19_5 : mm_tb pg_G 19 5 = some (.aload_n 0, 0, 0, 0) := rfl
theorem st_19_5 {l1 l2 : Value} {d : Nat} {t : List Value} {g : mm_M} {r : mm_R} {x : Nat} : mm_Rn pg_G d 19 5 [.ref x, l1, l2] (t) g r ↔ mm_Rn pg_G d 19 6 [.ref x, l1, l2] (.ref x :: t) g r := rn_aload_n tb_19_5 rfl r
theorem tb_19_6 : mm_tb pg_G 19 6 = some (.getfield 20, 3, 4, 148) := rfl
theorem st_19_6 {d : Nat} {ls t : List Value} {g : mm_M} {r : mm_R} {x : Nat} (hT : g.1 x = some (3, 10)) : mm_Rn pg_G d 19 6 ls (.ref x :: t) g r ↔ mm_Rn pg_G d 19 9 ls (g.2.1 x 4 :: t) g r := rn_getfield tb_19_6 hT r
theorem tb_19_9 : mm_tb pg_G 19 9 = some (.dup, 0, 0, 0) := rfl
theorem st_19_9 {d : Nat} {ls t : List Value} {g : mm_M} {r : mm_R} {v : Value} (hc : mm_c1 v = true) : mm_Rn pg_G d 19 9 ls (v :: t) g r ↔ mm_Rn pg_G d 19 10 ls (v :: v :: t) g r := rn_dup tb_19_9 hc r
theorem tb_19_10 : mm_tb pg_G 19 10 = some (.getfield 75, 5, 2, 127) := rfl
theorem st_19_10 {d : Nat} {ls t : List Value} {g : mm_M} {r : mm_R} {x : Nat} (hT : g.1 x = some (5, 7)) : mm_Rn pg_G d 19 10 ls (.ref x :: t) g r ↔ mm_Rn pg_G d 19 13 ls (g.2.1 x 2 :: t) g r := rn_getfield tb_19_10 hT r
theorem tb_19_13 : mm_tb pg_G 19 13 = some (.iconst 1, 0, 0, 0) := rfl
theorem st_19_13 {d : Nat} {ls t : List Value} {g : mm_M} {r : mm_R} : mm_Rn pg_G d 19 13 ls (t) g r ↔ mm_Rn pg_G d 19 14 ls (io_v 1 :: t) g r := rn_iconst tb_19_13 r
theorem tb_19_14 : mm_tb pg_G 19 14 = some (.iadd, 0, 0, 0) := rfl
theorem st_19_14 {d : Nat} {ls t : List Value} {g : mm_M} {r : mm_R} {x y : Int32} : mm_Rn pg_G d 19 14 ls (.int y :: .int x :: t) g r ↔ mm_Rn pg_G d 19 15 ls (.int (x + y) :: t) g r := rn_iadd tb_19_14 r
theorem tb_19_15 : mm_tb pg_G 19 15 = some (.putfield 75, 5, 2, 127) := rfl
theorem st_19_15 {d : Nat} {ls t : List Value} {g : mm_M} {r : mm_R} {x : Nat} {v : Int32} (hT : g.1 x = some (5, 7)) : mm_Rn pg_G d 19 15 ls (.int v :: .ref x :: t) g r ↔ mm_Rn pg_G d 19 18 ls (t) (mm_wr g x 2 (.int v)) r := rn_putfield tb_19_15 hT rfl r
theorem tb_19_18 : mm_tb pg_G 19 18 = some (.aload_n 0, 0, 0, 0) := rfl
theorem st_19_18 {l1 l2 : Value} {d : Nat} {t : List Value} {g : mm_M} {r : mm_R} {x : Nat} : mm_Rn pg_G d 19 18 [.ref x, l1, l2] (t) g r ↔ mm_Rn pg_G d 19 19 [.ref x, l1, l2] (.ref x :: t) g r := rn_aload_n tb_19_18 rfl r
theorem tb_19_19 : mm_tb pg_G 19 19 = some (.invokevirtual 86, 17, 1, 327) := rfl
theorem st_19_19 {d c s c' s' : Nat} {ls t : List Value} {I J : sp_I} {r : mm_R} {y : Nat} {v : Int32} (hl : t.length ≤ 4) (hT : sp_T I y = some (3, 10)) (hq : mm_Rn pg_G d 17 0 [.ref y, .retAddr 0] [] (sp_me I 0 0) (some (.int v), sp_me J c' s')) : mm_Rn pg_G (d + 1) 19 19 ls (.ref y :: t) (sp_me I c s) r ↔ mm_Rn pg_G (d + 1) 19 22 ls (.int v :: t) (sp_me J (c + c') (s + s')) r := rn_virt (g := sp_me I c s) (st := .ref y :: t) tb_19_19 (decide_eq_true hT) ⟨Nat.le_add_left _ t.length, hl, rfl⟩ hq r
theorem tb_19_22 : mm_tb pg_G 19 22 = some (.istore_n 2, 0, 0, 0) := rfl
theorem st_19_22 {l0 l1 l2 : Value} {d : Nat} {t : List Value} {g : mm_M} {r : mm_R} {x : Int32} (hc : mm_c1 l1 = true) : mm_Rn pg_G d 19 22 [l0, l1, l2] (.int x :: t) g r ↔ mm_Rn pg_G d 19 23 [l0, l1, .int x] (t) g r := rn_istore_n tb_19_22 (mm_so_of (ls := [l0, l1, l2]) (v := l1) (Nat.le_of_ble_eq_true rfl) rfl hc) r
theorem tb_19_23 : mm_tb pg_G 19 23 = some (.iload_n 1, 0, 0, 0) := rfl
theorem st_19_23 {l0 l2 : Value} {d : Nat} {t : List Value} {g : mm_M} {r : mm_R} {x : Int32} : mm_Rn pg_G d 19 23 [l0, .int x, l2] (t) g r ↔ mm_Rn pg_G d 19 24 [l0, .int x, l2] (.int x :: t) g r := rn_iload_n tb_19_23 rfl r
theorem tb_19_24 : mm_tb pg_G 19 24 = some (.ifCond .ne 17, 41, 0, 0) := rfl
theorem st_19_24 {d : Nat} {ls t : List Value} {g : mm_M} {r : mm_R} {x : Int32} : mm_Rn pg_G d 19 24 ls (.int x :: t) g r ↔ if x = 0 then mm_Rn pg_G d 19 27 ls (t) g r else mm_Rn pg_G d 19 41 ls (t) g r := rn_if_ne tb_19_24 r
theorem tb_19_27 : mm_tb pg_G 19 27 = some (.iload_n 2, 0, 0, 0) := rfl
theorem st_19_27 {l0 l1 : Value} {d : Nat} {t : List Value} {g : mm_M} {r : mm_R} {x : Int32} : mm_Rn pg_G d 19 27 [l0, l1, .int x] (t) g r ↔ mm_Rn pg_G d 19 28 [l0, l1, .int x] (.int x :: t) g r := rn_iload_n tb_19_27 rfl r
theorem tb_19_28 : mm_tb pg_G 19 28 = some (.ifCond .eq 13, 41, 0, 0) := rfl
theorem st_19_28 {d : Nat} {ls t : List Value} {g : mm_M} {r : mm_R} {x : Int32} : mm_Rn pg_G d 19 28 ls (.int x :: t) g r ↔ if x = 0 then mm_Rn pg_G d 19 41 ls (t) g r else mm_Rn pg_G d 19 31 ls (t) g r := rn_if_eq tb_19_28 r
theorem tb_19_31 : mm_tb pg_G 19 31 = some (.aload_n 0, 0, 0, 0) := rfl
theorem st_19_31 {l1 l2 : Value} {d : Nat} {t : List Value} {g : mm_M} {r : mm_R} {x : Nat} : mm_Rn pg_G d 19 31 [.ref x, l1, l2] (t) g r ↔ mm_Rn pg_G d 19 32 [.ref x, l1, l2] (.ref x :: t) g r := rn_aload_n tb_19_31 rfl r
theorem tb_19_32 : mm_tb pg_G 19 32 = some (.dup, 0, 0, 0) := rfl
theorem st_19_32 {d : Nat} {ls t : List Value} {g : mm_M} {r : mm_R} {v : Value} (hc : mm_c1 v = true) : mm_Rn pg_G d 19 32 ls (v :: t) g r ↔ mm_Rn pg_G d 19 33 ls (v :: v :: t) g r := rn_dup tb_19_32 hc r
theorem tb_19_33 : mm_tb pg_G 19 33 = some (.getfield 34, 3, 8, 155) := rfl
theorem st_19_33 {d : Nat} {ls t : List Value} {g : mm_M} {r : mm_R} {x : Nat} (hT : g.1 x = some (3, 10)) : mm_Rn pg_G d 19 33 ls (.ref x :: t) g r ↔ mm_Rn pg_G d 19 36 ls (g.2.1 x 8 :: t) g r := rn_getfield tb_19_33 hT r
theorem tb_19_36 : mm_tb pg_G 19 36 = some (.iconst 1, 0, 0, 0) := rfl
theorem st_19_36 {d : Nat} {ls t : List Value} {g : mm_M} {r : mm_R} : mm_Rn pg_G d 19 36 ls (t) g r ↔ mm_Rn pg_G d 19 37 ls (io_v 1 :: t) g r := rn_iconst tb_19_36 r
theorem tb_19_37 : mm_tb pg_G 19 37 = some (.iadd, 0, 0, 0) := rfl
theorem st_19_37 {d : Nat} {ls t : List Value} {g : mm_M} {r : mm_R} {x y : Int32} : mm_Rn pg_G d 19 37 ls (.int y :: .int x :: t) g r ↔ mm_Rn pg_G d 19 38 ls (.int (x + y) :: t) g r := rn_iadd tb_19_37 r
theorem tb_19_38 : mm_tb pg_G 19 38 = some (.putfield 34, 3, 8, 155) := rfl
theorem st_19_38 {d : Nat} {ls t : List Value} {g : mm_M} {r : mm_R} {x : Nat} {v : Int32} (hT : g.1 x = some (3, 10)) : mm_Rn pg_G d 19 38 ls (.int v :: .ref x :: t) g r ↔ mm_Rn pg_G d 19 41 ls (t) (mm_wr g x 8 (.int v)) r := rn_putfield tb_19_38 hT rfl r
theorem tb_19_41 : mm_tb pg_G 19 41 = some (.aload_n 0, 0, 0, 0) := rfl
theorem st_19_41 {l1 l2 : Value} {d : Nat} {t : List Value} {g : mm_M} {r : mm_R} {x : Nat} : mm_Rn pg_G d 19 41 [.ref x, l1, l2] (t) g r ↔ mm_Rn pg_G d 19 42 [.ref x, l1, l2] (.ref x :: t) g r := rn_aload_n tb_19_41 rfl r
theorem tb_19_42 : mm_tb pg_G 19 42 = some (.iload_n 1, 0, 0, 0) := rfl
theorem st_19_42 {l0 l2 : Value} {d : Nat} {t : List Value} {g : mm_M} {r : mm_R} {x : Int32} : mm_Rn pg_G d 19 42 [l0, .int x, l2] (t) g r ↔ mm_Rn pg_G d 19 43 [l0, .int x, l2] (.int x :: t) g r := rn_iload_n tb_19_42 rfl r
theorem tb_19_43 : mm_tb pg_G 19 43 = some (.ifCond .ne 7, 50, 0, 0) := rfl
theorem st_19_43 {d : Nat} {ls t : List Value} {g : mm_M} {r : mm_R} {x : Int32} : mm_Rn pg_G d 19 43 ls (.int x :: t) g r ↔ if x = 0 then mm_Rn pg_G d 19 46 ls (t) g r else mm_Rn pg_G d 19 50 ls (t) g r := rn_if_ne tb_19_43 r
theorem tb_19_46 : mm_tb pg_G 19 46 = some (.iload_n 2, 0, 0, 0) := rfl
theorem st_19_46 {l0 l1 : Value} {d : Nat} {t : List Value} {g : mm_M} {r : mm_R} {x : Int32} : mm_Rn pg_G d 19 46 [l0, l1, .int x] (t) g r ↔ mm_Rn pg_G d 19 47 [l0, l1, .int x] (.int x :: t) g r := rn_iload_n tb_19_46 rfl r
theorem tb_19_47 : mm_tb pg_G 19 47 = some (.ifCond .eq 10, 57, 0, 0) := rfl
theorem st_19_47 {d : Nat} {ls t : List Value} {g : mm_M} {r : mm_R} {x : Int32} : mm_Rn pg_G d 19 47 ls (.int x :: t) g r ↔ if x = 0 then mm_Rn pg_G d 19 57 ls (t) g r else mm_Rn pg_G d 19 50 ls (t) g r := rn_if_eq tb_19_47 r
theorem tb_19_50 : mm_tb pg_G 19 50 = some (.aload_n 0, 0, 0, 0) := rfl
theorem st_19_50 {l1 l2 : Value} {d : Nat} {t : List Value} {g : mm_M} {r : mm_R} {x : Nat} : mm_Rn pg_G d 19 50 [.ref x, l1, l2] (t) g r ↔ mm_Rn pg_G d 19 51 [.ref x, l1, l2] (.ref x :: t) g r := rn_aload_n tb_19_50 rfl r
theorem tb_19_51 : mm_tb pg_G 19 51 = some (.getfield 34, 3, 8, 155) := rfl
theorem st_19_51 {d : Nat} {ls t : List Value} {g : mm_M} {r : mm_R} {x : Nat} (hT : g.1 x = some (3, 10)) : mm_Rn pg_G d 19 51 ls (.ref x :: t) g r ↔ mm_Rn pg_G d 19 54 ls (g.2.1 x 8 :: t) g r := rn_getfield tb_19_51 hT r
theorem tb_19_54 : mm_tb pg_G 19 54 = some (.goto 4, 58, 0, 0) := rfl
theorem st_19_54 {d : Nat} {ls t : List Value} {g : mm_M} {r : mm_R} : mm_Rn pg_G d 19 54 ls (t) g r ↔ mm_Rn pg_G d 19 58 ls (t) g r := rn_goto tb_19_54 r
theorem tb_19_57 : mm_tb pg_G 19 57 = some (.iconst 0, 0, 0, 0) := rfl
theorem st_19_57 {d : Nat} {ls t : List Value} {g : mm_M} {r : mm_R} : mm_Rn pg_G d 19 57 ls (t) g r ↔ mm_Rn pg_G d 19 58 ls (io_v 0 :: t) g r := rn_iconst tb_19_57 r
theorem tb_19_58 : mm_tb pg_G 19 58 = some (.putfield 37, 3, 9, 156) := rfl
theorem st_19_58 {d : Nat} {ls t : List Value} {g : mm_M} {r : mm_R} {x : Nat} {v : Int32} (hT : g.1 x = some (3, 10)) : mm_Rn pg_G d 19 58 ls (.int v :: .ref x :: t) g r ↔ mm_Rn pg_G d 19 61 ls (t) (mm_wr g x 9 (.int v)) r := rn_putfield tb_19_58 hT rfl r
theorem tb_19_61 : mm_tb pg_G 19 61 = some (.return_, 0, 0, 0) := rfl
theorem st_19_61 {d : Nat} {ls : List Value} {g : mm_M} {r : mm_R} : mm_Rn pg_G d 19 61 ls [] g r ↔ r = (none, g) := rn_return_iff tb_19_61 rfl r
theorem tb_20_0 : mm_tb pg_G 20 0 = some (.aload_n 0, 0, 0, 0) := rfl
theorem st_20_0 {l1 : Value} {d : Nat} {t : List Value} {g : mm_M} {r : mm_R} {x : Nat} : mm_Rn pg_G d 20 0 [.ref x, l1] (t) g r ↔ mm_Rn pg_G d 20 1 [.ref x, l1] (.ref x :: t) g r := rn_aload_n tb_20_0 rfl r
theorem tb_20_1 : mm_tb pg_G 20 1 = some (.aload_n 0, 0, 0, 0) := rfl
theorem st_20_1 {l1 : Value} {d : Nat} {t : List Value} {g : mm_M} {r : mm_R} {x : Nat} : mm_Rn pg_G d 20 1 [.ref x, l1] (t) g r ↔ mm_Rn pg_G d 20 2 [.ref x, l1] (.ref x :: t) g r := rn_aload_n tb_20_1 rfl r
theorem tb_20_2 : mm_tb pg_G 20 2 = some (.getfield 31, 3, 7, 153) := rfl
theorem st_20_2 {d : Nat} {ls t : List Value} {g : mm_M} {r : mm_R} {x : Nat} (hT : g.1 x = some (3, 10)) : mm_Rn pg_G d 20 2 ls (.ref x :: t) g r ↔ mm_Rn pg_G d 20 5 ls (g.2.1 x 7 :: t) g r := rn_getfield tb_20_2 hT r
theorem tb_20_5 : mm_tb pg_G 20 5 = some (.iload_n 1, 0, 0, 0) := rfl
theorem st_20_5 {l0 : Value} {d : Nat} {t : List Value} {g : mm_M} {r : mm_R} {x : Int32} : mm_Rn pg_G d 20 5 [l0, .int x] (t) g r ↔ mm_Rn pg_G d 20 6 [l0, .int x] (.int x :: t) g r := rn_iload_n tb_20_5 rfl r
theorem tb_20_6 : mm_tb pg_G 20 6 = some (.invokestatic 65, 999, 0, 237) := rfl
theorem st_20_6 {d : Nat} {ls t : List Value} {g : mm_M} {r : mm_R} {x y : Int32} (hl : t.length ≤ 4) : mm_Rn pg_G (d + 1) 20 6 ls (.int y :: .int x :: t) g r ↔ mm_Rn pg_G (d + 1) 20 9 ls (.int (if x < y then y else x) :: t) g r := rn_max tb_20_6 hl r
theorem tb_20_9 : mm_tb pg_G 20 9 = some (.putfield 31, 3, 7, 153) := rfl
theorem st_20_9 {d : Nat} {ls t : List Value} {g : mm_M} {r : mm_R} {x : Nat} {v : Int32} (hT : g.1 x = some (3, 10)) : mm_Rn pg_G d 20 9 ls (.int v :: .ref x :: t) g r ↔ mm_Rn pg_G d 20 12 ls (t) (mm_wr g x 7 (.int v)) r := rn_putfield tb_20_9 hT rfl r
theorem tb_20_12 : mm_tb pg_G 20 12 = some (.return_, 0, 0, 0) := rfl
theorem st_20_12 {d : Nat} {ls : List Value} {g : mm_M} {r : mm_R} : mm_Rn pg_G d 20 12 ls [] g r ↔ r = (none, g) := rn_return_iff tb_20_12 rfl r
theorem tb_21_0 : mm_tb pg_G 21 0 = some (.aload_n 0, 0, 0, 0) := rfl
theorem st_21_0 {d : Nat} {t : List Value} {g : mm_M} {r : mm_R} {x : Nat} : mm_Rn pg_G d 21 0 [.ref x] (t) g r ↔ mm_Rn pg_G d 21 1 [.ref x] (.ref x :: t) g r := rn_aload_n tb_21_0 rfl r
theorem tb_21_1 : mm_tb pg_G 21 1 = some (.invokespecial 3, 998, 0, 52) := rfl
theorem st_21_1 {d : Nat} {ls t : List Value} {g : mm_M} {r : mm_R} {x : Nat} (hl : t.length ≤ 4) : mm_Rn pg_G (d + 1) 21 1 ls (.ref x :: t) g r ↔ mm_Rn pg_G (d + 1) 21 4 ls (t) g r := rn_oinit tb_21_1 hl r
theorem tb_21_4 : mm_tb pg_G 21 4 = some (.aload_n 0, 0, 0, 0) := rfl
theorem st_21_4 {d : Nat} {t : List Value} {g : mm_M} {r : mm_R} {x : Nat} : mm_Rn pg_G d 21 4 [.ref x] (t) g r ↔ mm_Rn pg_G d 21 5 [.ref x] (.ref x :: t) g r := rn_aload_n tb_21_4 rfl r
theorem tb_21_5 : mm_tb pg_G 21 5 = some (.bipush 8, 0, 0, 0) := rfl
theorem st_21_5 {d : Nat} {ls t : List Value} {g : mm_M} {r : mm_R} : mm_Rn pg_G d 21 5 ls (t) g r ↔ mm_Rn pg_G d 21 7 ls (io_v 8 :: t) g r := rn_bipush tb_21_5 r
theorem tb_21_7 : mm_tb pg_G 21 7 = some (.newarray .int, 0, 0, 0) := rfl
theorem st_21_7 {d : Nat} {ls t : List Value} {g : mm_M} {r : mm_R} {x : Nat} {n : Int32} (hx : mm_pk pg_G 21 7 ls g.2.1 = x) (hT : g.1 x = none) (h0 : 0 ≤ n) (h1 : n.toNatClampNeg ≤ 1000) : mm_Rn pg_G d 21 7 ls (.int n :: t) g r ↔ mm_Rn pg_G d 21 9 ls (.ref x :: t) (mm_al g x 100 n.toNatClampNeg fun _ => .int 0) r := rn_newarray tb_21_7 hx hT h0 h1 r
theorem tb_21_9 : mm_tb pg_G 21 9 = some (.putfield 9, 1, 0, 53) := rfl
theorem st_21_9 {d : Nat} {ls t : List Value} {g : mm_M} {r : mm_R} {x : Nat} {v : Nat} (hT : g.1 x = some (1, 9)) : mm_Rn pg_G d 21 9 ls (.ref v :: .ref x :: t) g r ↔ mm_Rn pg_G d 21 12 ls (t) (mm_wr g x 0 (.ref v)) r := rn_putfield tb_21_9 hT rfl r
theorem tb_21_12 : mm_tb pg_G 21 12 = some (.aload_n 0, 0, 0, 0) := rfl
theorem st_21_12 {d : Nat} {t : List Value} {g : mm_M} {r : mm_R} {x : Nat} : mm_Rn pg_G d 21 12 [.ref x] (t) g r ↔ mm_Rn pg_G d 21 13 [.ref x] (.ref x :: t) g r := rn_aload_n tb_21_12 rfl r
theorem tb_21_13 : mm_tb pg_G 21 13 = some (.iconst 0, 0, 0, 0) := rfl
theorem st_21_13 {d : Nat} {ls t : List Value} {g : mm_M} {r : mm_R} : mm_Rn pg_G d 21 13 ls (t) g r ↔ mm_Rn pg_G d 21 14 ls (io_v 0 :: t) g r := rn_iconst tb_21_13 r
theorem tb_21_14 : mm_tb pg_G 21 14 = some (.putfield 15, 1, 1, 54) := rfl
theorem st_21_14 {d : Nat} {ls t : List Value} {g : mm_M} {r : mm_R} {x : Nat} {v : Int32} (hT : g.1 x = some (1, 9)) : mm_Rn pg_G d 21 14 ls (.int v :: .ref x :: t) g r ↔ mm_Rn pg_G d 21 17 ls (t) (mm_wr g x 1 (.int v)) r := rn_putfield tb_21_14 hT rfl r
theorem tb_21_17 : mm_tb pg_G 21 17 = some (.aload_n 0, 0, 0, 0) := rfl
theorem st_21_17 {d : Nat} {t : List Value} {g : mm_M} {r : mm_R} {x : Nat} : mm_Rn pg_G d 21 17 [.ref x] (t) g r ↔ mm_Rn pg_G d 21 18 [.ref x] (.ref x :: t) g r := rn_aload_n tb_21_17 rfl r
theorem tb_21_18 : mm_tb pg_G 21 18 = some (.iconst 0, 0, 0, 0) := rfl
theorem st_21_18 {d : Nat} {ls t : List Value} {g : mm_M} {r : mm_R} : mm_Rn pg_G d 21 18 ls (t) g r ↔ mm_Rn pg_G d 21 19 ls (io_v 0 :: t) g r := rn_iconst tb_21_18 r
theorem tb_21_19 : mm_tb pg_G 21 19 = some (.putfield 19, 1, 2, 55) := rfl
theorem st_21_19 {d : Nat} {ls t : List Value} {g : mm_M} {r : mm_R} {x : Nat} {v : Int32} (hT : g.1 x = some (1, 9)) : mm_Rn pg_G d 21 19 ls (.int v :: .ref x :: t) g r ↔ mm_Rn pg_G d 21 22 ls (t) (mm_wr g x 2 (.int v)) r := rn_putfield tb_21_19 hT rfl r
theorem tb_21_22 : mm_tb pg_G 21 22 = some (.aload_n 0, 0, 0, 0) := rfl
theorem st_21_22 {d : Nat} {t : List Value} {g : mm_M} {r : mm_R} {x : Nat} : mm_Rn pg_G d 21 22 [.ref x] (t) g r ↔ mm_Rn pg_G d 21 23 [.ref x] (.ref x :: t) g r := rn_aload_n tb_21_22 rfl r
theorem tb_21_23 : mm_tb pg_G 21 23 = some (.iconst 0, 0, 0, 0) := rfl
theorem st_21_23 {d : Nat} {ls t : List Value} {g : mm_M} {r : mm_R} : mm_Rn pg_G d 21 23 ls (t) g r ↔ mm_Rn pg_G d 21 24 ls (io_v 0 :: t) g r := rn_iconst tb_21_23 r
theorem tb_21_24 : mm_tb pg_G 21 24 = some (.putfield 22, 1, 3, 57) := rfl
theorem st_21_24 {d : Nat} {ls t : List Value} {g : mm_M} {r : mm_R} {x : Nat} {v : Int32} (hT : g.1 x = some (1, 9)) : mm_Rn pg_G d 21 24 ls (.int v :: .ref x :: t) g r ↔ mm_Rn pg_G d 21 27 ls (t) (mm_wr g x 3 (.int v)) r := rn_putfield tb_21_24 hT rfl r
theorem tb_21_27 : mm_tb pg_G 21 27 = some (.aload_n 0, 0, 0, 0) := rfl
theorem st_21_27 {d : Nat} {t : List Value} {g : mm_M} {r : mm_R} {x : Nat} : mm_Rn pg_G d 21 27 [.ref x] (t) g r ↔ mm_Rn pg_G d 21 28 [.ref x] (.ref x :: t) g r := rn_aload_n tb_21_27 rfl r
theorem tb_21_28 : mm_tb pg_G 21 28 = some (.iconst 0, 0, 0, 0) := rfl
theorem st_21_28 {d : Nat} {ls t : List Value} {g : mm_M} {r : mm_R} : mm_Rn pg_G d 21 28 ls (t) g r ↔ mm_Rn pg_G d 21 29 ls (io_v 0 :: t) g r := rn_iconst tb_21_28 r
theorem tb_21_29 : mm_tb pg_G 21 29 = some (.putfield 25, 1, 4, 59) := rfl
theorem st_21_29 {d : Nat} {ls t : List Value} {g : mm_M} {r : mm_R} {x : Nat} {v : Int32} (hT : g.1 x = some (1, 9)) : mm_Rn pg_G d 21 29 ls (.int v :: .ref x :: t) g r ↔ mm_Rn pg_G d 21 32 ls (t) (mm_wr g x 4 (.int v)) r := rn_putfield tb_21_29 hT rfl r
theorem tb_21_32 : mm_tb pg_G 21 32 = some (.aload_n 0, 0, 0, 0) := rfl
theorem st_21_32 {d : Nat} {t : List Value} {g : mm_M} {r : mm_R} {x : Nat} : mm_Rn pg_G d 21 32 [.ref x] (t) g r ↔ mm_Rn pg_G d 21 33 [.ref x] (.ref x :: t) g r := rn_aload_n tb_21_32 rfl r
theorem tb_21_33 : mm_tb pg_G 21 33 = some (.iconst 0, 0, 0, 0) := rfl
theorem st_21_33 {d : Nat} {ls t : List Value} {g : mm_M} {r : mm_R} : mm_Rn pg_G d 21 33 ls (t) g r ↔ mm_Rn pg_G d 21 34 ls (io_v 0 :: t) g r := rn_iconst tb_21_33 r
theorem tb_21_34 : mm_tb pg_G 21 34 = some (.putfield 28, 1, 5, 61) := rfl
theorem st_21_34 {d : Nat} {ls t : List Value} {g : mm_M} {r : mm_R} {x : Nat} {v : Int32} (hT : g.1 x = some (1, 9)) : mm_Rn pg_G d 21 34 ls (.int v :: .ref x :: t) g r ↔ mm_Rn pg_G d 21 37 ls (t) (mm_wr g x 5 (.int v)) r := rn_putfield tb_21_34 hT rfl r
theorem tb_21_37 : mm_tb pg_G 21 37 = some (.aload_n 0, 0, 0, 0) := rfl
theorem st_21_37 {d : Nat} {t : List Value} {g : mm_M} {r : mm_R} {x : Nat} : mm_Rn pg_G d 21 37 [.ref x] (t) g r ↔ mm_Rn pg_G d 21 38 [.ref x] (.ref x :: t) g r := rn_aload_n tb_21_37 rfl r
theorem tb_21_38 : mm_tb pg_G 21 38 = some (.iconst 0, 0, 0, 0) := rfl
theorem st_21_38 {d : Nat} {ls t : List Value} {g : mm_M} {r : mm_R} : mm_Rn pg_G d 21 38 ls (t) g r ↔ mm_Rn pg_G d 21 39 ls (io_v 0 :: t) g r := rn_iconst tb_21_38 r
theorem tb_21_39 : mm_tb pg_G 21 39 = some (.putfield 31, 1, 6, 62) := rfl
theorem st_21_39 {d : Nat} {ls t : List Value} {g : mm_M} {r : mm_R} {x : Nat} {v : Int32} (hT : g.1 x = some (1, 9)) : mm_Rn pg_G d 21 39 ls (.int v :: .ref x :: t) g r ↔ mm_Rn pg_G d 21 42 ls (t) (mm_wr g x 6 (.int v)) r := rn_putfield tb_21_39 hT rfl r
theorem tb_21_42 : mm_tb pg_G 21 42 = some (.aload_n 0, 0, 0, 0) := rfl
theorem st_21_42 {d : Nat} {t : List Value} {g : mm_M} {r : mm_R} {x : Nat} : mm_Rn pg_G d 21 42 [.ref x] (t) g r ↔ mm_Rn pg_G d 21 43 [.ref x] (.ref x :: t) g r := rn_aload_n tb_21_42 rfl r
theorem tb_21_43 : mm_tb pg_G 21 43 = some (.iconst 0, 0, 0, 0) := rfl
theorem st_21_43 {d : Nat} {ls t : List Value} {g : mm_M} {r : mm_R} : mm_Rn pg_G d 21 43 ls (t) g r ↔ mm_Rn pg_G d 21 44 ls (io_v 0 :: t) g r := rn_iconst tb_21_43 r
theorem tb_21_44 : mm_tb pg_G 21 44 = some (.putfield 34, 1, 7, 64) := rfl
theorem st_21_44 {d : Nat} {ls t : List Value} {g : mm_M} {r : mm_R} {x : Nat} {v : Int32} (hT : g.1 x = some (1, 9)) : mm_Rn pg_G d 21 44 ls (.int v :: .ref x :: t) g r ↔ mm_Rn pg_G d 21 47 ls (t) (mm_wr g x 7 (.int v)) r := rn_putfield tb_21_44 hT rfl r
theorem tb_21_47 : mm_tb pg_G 21 47 = some (.aload_n 0, 0, 0, 0) := rfl
theorem st_21_47 {d : Nat} {t : List Value} {g : mm_M} {r : mm_R} {x : Nat} : mm_Rn pg_G d 21 47 [.ref x] (t) g r ↔ mm_Rn pg_G d 21 48 [.ref x] (.ref x :: t) g r := rn_aload_n tb_21_47 rfl r
theorem tb_21_48 : mm_tb pg_G 21 48 = some (.iconst 0, 0, 0, 0) := rfl
theorem st_21_48 {d : Nat} {ls t : List Value} {g : mm_M} {r : mm_R} : mm_Rn pg_G d 21 48 ls (t) g r ↔ mm_Rn pg_G d 21 49 ls (io_v 0 :: t) g r := rn_iconst tb_21_48 r
theorem tb_21_49 : mm_tb pg_G 21 49 = some (.putfield 37, 1, 8, 65) := rfl
theorem st_21_49 {d : Nat} {ls t : List Value} {g : mm_M} {r : mm_R} {x : Nat} {v : Int32} (hT : g.1 x = some (1, 9)) : mm_Rn pg_G d 21 49 ls (.int v :: .ref x :: t) g r ↔ mm_Rn pg_G d 21 52 ls (t) (mm_wr g x 8 (.int v)) r := rn_putfield tb_21_49 hT rfl r
theorem tb_21_52 : mm_tb pg_G 21 52 = some (.return_, 0, 0, 0) := rfl
theorem st_21_52 {d : Nat} {ls : List Value} {g : mm_M} {r : mm_R} : mm_Rn pg_G d 21 52 ls [] g r ↔ r = (none, g) := rn_return_iff tb_21_52 rfl r
theorem tb_22_0 : mm_tb pg_G 22 0 = some (.aload_n 0, 0, 0, 0) := rfl
theorem st_22_0 {d : Nat} {t : List Value} {g : mm_M} {r : mm_R} {x : Nat} : mm_Rn pg_G d 22 0 [.ref x] (t) g r ↔ mm_Rn pg_G d 22 1 [.ref x] (.ref x :: t) g r := rn_aload_n tb_22_0 rfl r
theorem tb_22_1 : mm_tb pg_G 22 1 = some (.getfield 22, 1, 3, 57) := rfl
theorem st_22_1 {d : Nat} {ls t : List Value} {g : mm_M} {r : mm_R} {x : Nat} (hT : g.1 x = some (1, 9)) : mm_Rn pg_G d 22 1 ls (.ref x :: t) g r ↔ mm_Rn pg_G d 22 4 ls (g.2.1 x 3 :: t) g r := rn_getfield tb_22_1 hT r
theorem tb_22_4 : mm_tb pg_G 22 4 = some (.ifCond .le 7, 11, 0, 0) := rfl
theorem st_22_4 {d : Nat} {ls t : List Value} {g : mm_M} {r : mm_R} {x : Int32} : mm_Rn pg_G d 22 4 ls (.int x :: t) g r ↔ if x ≤ 0 then mm_Rn pg_G d 22 11 ls (t) g r else mm_Rn pg_G d 22 7 ls (t) g r := rn_if_le tb_22_4 r
theorem tb_22_7 : mm_tb pg_G 22 7 = some (.iconst 1, 0, 0, 0) := rfl
theorem st_22_7 {d : Nat} {ls t : List Value} {g : mm_M} {r : mm_R} : mm_Rn pg_G d 22 7 ls (t) g r ↔ mm_Rn pg_G d 22 8 ls (io_v 1 :: t) g r := rn_iconst tb_22_7 r
theorem tb_22_8 : mm_tb pg_G 22 8 = some (.goto 4, 12, 0, 0) := rfl
theorem st_22_8 {d : Nat} {ls t : List Value} {g : mm_M} {r : mm_R} : mm_Rn pg_G d 22 8 ls (t) g r ↔ mm_Rn pg_G d 22 12 ls (t) g r := rn_goto tb_22_8 r
theorem tb_22_11 : mm_tb pg_G 22 11 = some (.iconst 0, 0, 0, 0) := rfl
theorem st_22_11 {d : Nat} {ls t : List Value} {g : mm_M} {r : mm_R} : mm_Rn pg_G d 22 11 ls (t) g r ↔ mm_Rn pg_G d 22 12 ls (io_v 0 :: t) g r := rn_iconst tb_22_11 r
theorem tb_22_12 : mm_tb pg_G 22 12 = some (.ireturn, 0, 0, 0) := rfl
theorem st_22_12 {d : Nat} {ls : List Value} {g : mm_M} {r : mm_R} {x : Int32} (hb : x = 0 ∨ x = 1) : mm_Rn pg_G d 22 12 ls [.int x] g r ↔ r = (some (.int x), g) := rn_ireturn_iff tb_22_12 (Or.inr ⟨rfl, hb⟩) r
theorem tb_23_0 : mm_tb pg_G 23 0 = some (.aload_n 0, 0, 0, 0) := rfl
theorem st_23_0 {l1 l2 : Value} {d : Nat} {t : List Value} {g : mm_M} {r : mm_R} {x : Nat} : mm_Rn pg_G d 23 0 [.ref x, l1, l2] (t) g r ↔ mm_Rn pg_G d 23 1 [.ref x, l1, l2] (.ref x :: t) g r := rn_aload_n tb_23_0 rfl r
theorem tb_23_1 : mm_tb pg_G 23 1 = some (.iload_n 1, 0, 0, 0) := rfl
theorem st_23_1 {l0 l2 : Value} {d : Nat} {t : List Value} {g : mm_M} {r : mm_R} {x : Int32} : mm_Rn pg_G d 23 1 [l0, .int x, l2] (t) g r ↔ mm_Rn pg_G d 23 2 [l0, .int x, l2] (.int x :: t) g r := rn_iload_n tb_23_1 rfl r
theorem tb_23_2 : mm_tb pg_G 23 2 = some (.putfield 22, 1, 3, 57) := rfl
theorem st_23_2 {d : Nat} {ls t : List Value} {g : mm_M} {r : mm_R} {x : Nat} {v : Int32} (hT : g.1 x = some (1, 9)) : mm_Rn pg_G d 23 2 ls (.int v :: .ref x :: t) g r ↔ mm_Rn pg_G d 23 5 ls (t) (mm_wr g x 3 (.int v)) r := rn_putfield tb_23_2 hT rfl r
theorem tb_23_5 : mm_tb pg_G 23 5 = some (.aload_n 0, 0, 0, 0) := rfl
theorem st_23_5 {l1 l2 : Value} {d : Nat} {t : List Value} {g : mm_M} {r : mm_R} {x : Nat} : mm_Rn pg_G d 23 5 [.ref x, l1, l2] (t) g r ↔ mm_Rn pg_G d 23 6 [.ref x, l1, l2] (.ref x :: t) g r := rn_aload_n tb_23_5 rfl r
theorem tb_23_6 : mm_tb pg_G 23 6 = some (.iload_n 2, 0, 0, 0) := rfl
theorem st_23_6 {l0 l1 : Value} {d : Nat} {t : List Value} {g : mm_M} {r : mm_R} {x : Int32} : mm_Rn pg_G d 23 6 [l0, l1, .int x] (t) g r ↔ mm_Rn pg_G d 23 7 [l0, l1, .int x] (.int x :: t) g r := rn_iload_n tb_23_6 rfl r
theorem tb_23_7 : mm_tb pg_G 23 7 = some (.putfield 25, 1, 4, 59) := rfl
theorem st_23_7 {d : Nat} {ls t : List Value} {g : mm_M} {r : mm_R} {x : Nat} {v : Int32} (hT : g.1 x = some (1, 9)) : mm_Rn pg_G d 23 7 ls (.int v :: .ref x :: t) g r ↔ mm_Rn pg_G d 23 10 ls (t) (mm_wr g x 4 (.int v)) r := rn_putfield tb_23_7 hT rfl r
theorem tb_23_10 : mm_tb pg_G 23 10 = some (.aload_n 0, 0, 0, 0) := rfl
theorem st_23_10 {l1 l2 : Value} {d : Nat} {t : List Value} {g : mm_M} {r : mm_R} {x : Nat} : mm_Rn pg_G d 23 10 [.ref x, l1, l2] (t) g r ↔ mm_Rn pg_G d 23 11 [.ref x, l1, l2] (.ref x :: t) g r := rn_aload_n tb_23_10 rfl r
theorem tb_23_11 : mm_tb pg_G 23 11 = some (.iload_n 1, 0, 0, 0) := rfl
theorem st_23_11 {l0 l2 : Value} {d : Nat} {t : List Value} {g : mm_M} {r : mm_R} {x : Int32} : mm_Rn pg_G d 23 11 [l0, .int x, l2] (t) g r ↔ mm_Rn pg_G d 23 12 [l0, .int x, l2] (.int x :: t) g r := rn_iload_n tb_23_11 rfl r
theorem tb_23_12 : mm_tb pg_G 23 12 = some (.putfield 28, 1, 5, 61) := rfl
theorem st_23_12 {d : Nat} {ls t : List Value} {g : mm_M} {r : mm_R} {x : Nat} {v : Int32} (hT : g.1 x = some (1, 9)) : mm_Rn pg_G d 23 12 ls (.int v :: .ref x :: t) g r ↔ mm_Rn pg_G d 23 15 ls (t) (mm_wr g x 5 (.int v)) r := rn_putfield tb_23_12 hT rfl r
theorem tb_23_15 : mm_tb pg_G 23 15 = some (.return_, 0, 0, 0) := rfl
theorem st_23_15 {d : Nat} {ls : List Value} {g : mm_M} {r : mm_R} : mm_Rn pg_G d 23 15 ls [] g r ↔ r = (none, g) := rn_return_iff tb_23_15 rfl r
theorem tb_24_0 : mm_tb pg_G 24 0 = some (.aload_n 0, 0, 0, 0) := rfl
theorem st_24_0 {l1 l2 : Value} {d : Nat} {t : List Value} {g : mm_M} {r : mm_R} {x : Nat} : mm_Rn pg_G d 24 0 [.ref x, l1, l2] (t) g r ↔ mm_Rn pg_G d 24 1 [.ref x, l1, l2] (.ref x :: t) g r := rn_aload_n tb_24_0 rfl r
theorem tb_24_1 : mm_tb pg_G 24 1 = some (.getfield 19, 1, 2, 55) := rfl
theorem st_24_1 {d : Nat} {ls t : List Value} {g : mm_M} {r : mm_R} {x : Nat} (hT : g.1 x = some (1, 9)) : mm_Rn pg_G d 24 1 ls (.ref x :: t) g r ↔ mm_Rn pg_G d 24 4 ls (g.2.1 x 2 :: t) g r := rn_getfield tb_24_1 hT r
theorem tb_24_4 : mm_tb pg_G 24 4 = some (.bipush 8, 0, 0, 0) := rfl
theorem st_24_4 {d : Nat} {ls t : List Value} {g : mm_M} {r : mm_R} : mm_Rn pg_G d 24 4 ls (t) g r ↔ mm_Rn pg_G d 24 6 ls (io_v 8 :: t) g r := rn_bipush tb_24_4 r
theorem tb_24_6 : mm_tb pg_G 24 6 = some (.if_icmp .ne 5, 11, 0, 0) := rfl
theorem st_24_6 {d : Nat} {ls t : List Value} {g : mm_M} {r : mm_R} {x y : Int32} : mm_Rn pg_G d 24 6 ls (.int y :: .int x :: t) g r ↔ if x = y then mm_Rn pg_G d 24 9 ls (t) g r else mm_Rn pg_G d 24 11 ls (t) g r := rn_icmp_ne tb_24_6 r
theorem tb_24_9 : mm_tb pg_G 24 9 = some (.iconst 0, 0, 0, 0) := rfl
theorem st_24_9 {d : Nat} {ls t : List Value} {g : mm_M} {r : mm_R} : mm_Rn pg_G d 24 9 ls (t) g r ↔ mm_Rn pg_G d 24 10 ls (io_v 0 :: t) g r := rn_iconst tb_24_9 r
theorem tb_24_10 : mm_tb pg_G 24 10 = some (.ireturn, 0, 0, 0) := rfl
theorem st_24_10 {d : Nat} {ls : List Value} {g : mm_M} {r : mm_R} {x : Int32} (hb : x = 0 ∨ x = 1) : mm_Rn pg_G d 24 10 ls [.int x] g r ↔ r = (some (.int x), g) := rn_ireturn_iff tb_24_10 (Or.inr ⟨rfl, hb⟩) r
theorem tb_24_11 : mm_tb pg_G 24 11 = some (.aload_n 0, 0, 0, 0) := rfl
theorem st_24_11 {l1 l2 : Value} {d : Nat} {t : List Value} {g : mm_M} {r : mm_R} {x : Nat} : mm_Rn pg_G d 24 11 [.ref x, l1, l2] (t) g r ↔ mm_Rn pg_G d 24 12 [.ref x, l1, l2] (.ref x :: t) g r := rn_aload_n tb_24_11 rfl r
theorem tb_24_12 : mm_tb pg_G 24 12 = some (.getfield 19, 1, 2, 55) := rfl
theorem st_24_12 {d : Nat} {ls t : List Value} {g : mm_M} {r : mm_R} {x : Nat} (hT : g.1 x = some (1, 9)) : mm_Rn pg_G d 24 12 ls (.ref x :: t) g r ↔ mm_Rn pg_G d 24 15 ls (g.2.1 x 2 :: t) g r := rn_getfield tb_24_12 hT r
theorem tb_24_15 : mm_tb pg_G 24 15 = some (.ifCond .ne 50, 65, 0, 0) := rfl
theorem st_24_15 {d : Nat} {ls t : List Value} {g : mm_M} {r : mm_R} {x : Int32} : mm_Rn pg_G d 24 15 ls (.int x :: t) g r ↔ if x = 0 then mm_Rn pg_G d 24 18 ls (t) g r else mm_Rn pg_G d 24 65 ls (t) g r := rn_if_ne tb_24_15 r
theorem tb_24_18 : mm_tb pg_G 24 18 = some (.aload_n 0, 0, 0, 0) := rfl
theorem st_24_18 {l1 l2 : Value} {d : Nat} {t : List Value} {g : mm_M} {r : mm_R} {x : Nat} : mm_Rn pg_G d 24 18 [.ref x, l1, l2] (t) g r ↔ mm_Rn pg_G d 24 19 [.ref x, l1, l2] (.ref x :: t) g r := rn_aload_n tb_24_18 rfl r
theorem tb_24_19 : mm_tb pg_G 24 19 = some (.getfield 28, 1, 5, 61) := rfl
theorem st_24_19 {d : Nat} {ls t : List Value} {g : mm_M} {r : mm_R} {x : Nat} (hT : g.1 x = some (1, 9)) : mm_Rn pg_G d 24 19 ls (.ref x :: t) g r ↔ mm_Rn pg_G d 24 22 ls (g.2.1 x 5 :: t) g r := rn_getfield tb_24_19 hT r
theorem tb_24_22 : mm_tb pg_G 24 22 = some (.i2l, 0, 0, 0) := rfl
theorem st_24_22 {d : Nat} {ls t : List Value} {g : mm_M} {r : mm_R} {x : Int32} : mm_Rn pg_G d 24 22 ls (.int x :: t) g r ↔ mm_Rn pg_G d 24 23 ls (.long x.toInt64 :: t) g r := rn_i2l tb_24_22 r
theorem tb_24_23 : mm_tb pg_G 24 23 = some (.aload_n 0, 0, 0, 0) := rfl
theorem st_24_23 {l1 l2 : Value} {d : Nat} {t : List Value} {g : mm_M} {r : mm_R} {x : Nat} : mm_Rn pg_G d 24 23 [.ref x, l1, l2] (t) g r ↔ mm_Rn pg_G d 24 24 [.ref x, l1, l2] (.ref x :: t) g r := rn_aload_n tb_24_23 rfl r
theorem tb_24_24 : mm_tb pg_G 24 24 = some (.getfield 25, 1, 4, 59) := rfl
theorem st_24_24 {d : Nat} {ls t : List Value} {g : mm_M} {r : mm_R} {x : Nat} (hT : g.1 x = some (1, 9)) : mm_Rn pg_G d 24 24 ls (.ref x :: t) g r ↔ mm_Rn pg_G d 24 27 ls (g.2.1 x 4 :: t) g r := rn_getfield tb_24_24 hT r
theorem tb_24_27 : mm_tb pg_G 24 27 = some (.i2l, 0, 0, 0) := rfl
theorem st_24_27 {d : Nat} {ls t : List Value} {g : mm_M} {r : mm_R} {x : Int32} : mm_Rn pg_G d 24 27 ls (.int x :: t) g r ↔ mm_Rn pg_G d 24 28 ls (.long x.toInt64 :: t) g r := rn_i2l tb_24_27 r
theorem tb_24_28 : mm_tb pg_G 24 28 = some (.lmul, 0, 0, 0) := rfl
theorem st_24_28 {d : Nat} {ls t : List Value} {g : mm_M} {r : mm_R} {x y : Int64} : mm_Rn pg_G d 24 28 ls (.long y :: .long x :: t) g r ↔ mm_Rn pg_G d 24 29 ls (.long (x * y) :: t) g r := rn_lmul tb_24_28 r
theorem tb_24_29 : mm_tb pg_G 24 29 = some (.aload_n 0, 0, 0, 0) := rfl
theorem st_24_29 {l1 l2 : Value} {d : Nat} {t : List Value} {g : mm_M} {r : mm_R} {x : Nat} : mm_Rn pg_G d 24 29 [.ref x, l1, l2] (t) g r ↔ mm_Rn pg_G d 24 30 [.ref x, l1, l2] (.ref x :: t) g r := rn_aload_n tb_24_29 rfl r
theorem tb_24_30 : mm_tb pg_G 24 30 = some (.getfield 31, 1, 6, 62) := rfl
theorem st_24_30 {d : Nat} {ls t : List Value} {g : mm_M} {r : mm_R} {x : Nat} (hT : g.1 x = some (1, 9)) : mm_Rn pg_G d 24 30 ls (.ref x :: t) g r ↔ mm_Rn pg_G d 24 33 ls (g.2.1 x 6 :: t) g r := rn_getfield tb_24_30 hT r
theorem tb_24_33 : mm_tb pg_G 24 33 = some (.i2l, 0, 0, 0) := rfl
theorem st_24_33 {d : Nat} {ls t : List Value} {g : mm_M} {r : mm_R} {x : Int32} : mm_Rn pg_G d 24 33 ls (.int x :: t) g r ↔ mm_Rn pg_G d 24 34 ls (.long x.toInt64 :: t) g r := rn_i2l tb_24_33 r
theorem tb_24_34 : mm_tb pg_G 24 34 = some (.iload_n 2, 0, 0, 0) := rfl
theorem st_24_34 {l0 l1 : Value} {d : Nat} {t : List Value} {g : mm_M} {r : mm_R} {x : Int32} : mm_Rn pg_G d 24 34 [l0, l1, .int x] (t) g r ↔ mm_Rn pg_G d 24 35 [l0, l1, .int x] (.int x :: t) g r := rn_iload_n tb_24_34 rfl r
theorem tb_24_35 : mm_tb pg_G 24 35 = some (.i2l, 0, 0, 0) := rfl
theorem st_24_35 {d : Nat} {ls t : List Value} {g : mm_M} {r : mm_R} {x : Int32} : mm_Rn pg_G d 24 35 ls (.int x :: t) g r ↔ mm_Rn pg_G d 24 36 ls (.long x.toInt64 :: t) g r := rn_i2l tb_24_35 r
theorem tb_24_36 : mm_tb pg_G 24 36 = some (.lsub, 0, 0, 0) := rfl
theorem st_24_36 {d : Nat} {ls t : List Value} {g : mm_M} {r : mm_R} {x y : Int64} : mm_Rn pg_G d 24 36 ls (.long y :: .long x :: t) g r ↔ mm_Rn pg_G d 24 37 ls (.long (x - y) :: t) g r := rn_lsub tb_24_36 r
theorem tb_24_37 : mm_tb pg_G 24 37 = some (.aload_n 0, 0, 0, 0) := rfl
theorem st_24_37 {l1 l2 : Value} {d : Nat} {t : List Value} {g : mm_M} {r : mm_R} {x : Nat} : mm_Rn pg_G d 24 37 [.ref x, l1, l2] (t) g r ↔ mm_Rn pg_G d 24 38 [.ref x, l1, l2] (.ref x :: t) g r := rn_aload_n tb_24_37 rfl r
theorem tb_24_38 : mm_tb pg_G 24 38 = some (.getfield 22, 1, 3, 57) := rfl
theorem st_24_38 {d : Nat} {ls t : List Value} {g : mm_M} {r : mm_R} {x : Nat} (hT : g.1 x = some (1, 9)) : mm_Rn pg_G d 24 38 ls (.ref x :: t) g r ↔ mm_Rn pg_G d 24 41 ls (g.2.1 x 3 :: t) g r := rn_getfield tb_24_38 hT r
theorem tb_24_41 : mm_tb pg_G 24 41 = some (.i2l, 0, 0, 0) := rfl
theorem st_24_41 {d : Nat} {ls t : List Value} {g : mm_M} {r : mm_R} {x : Int32} : mm_Rn pg_G d 24 41 ls (.int x :: t) g r ↔ mm_Rn pg_G d 24 42 ls (.long x.toInt64 :: t) g r := rn_i2l tb_24_41 r
theorem tb_24_42 : mm_tb pg_G 24 42 = some (.lmul, 0, 0, 0) := rfl
theorem st_24_42 {d : Nat} {ls t : List Value} {g : mm_M} {r : mm_R} {x y : Int64} : mm_Rn pg_G d 24 42 ls (.long y :: .long x :: t) g r ↔ mm_Rn pg_G d 24 43 ls (.long (x * y) :: t) g r := rn_lmul tb_24_42 r
theorem tb_24_43 : mm_tb pg_G 24 43 = some (.lcmp, 0, 0, 0) := rfl
theorem st_24_43 {d : Nat} {ls t : List Value} {g : mm_M} {r : mm_R} {x y : Int64} : mm_Rn pg_G d 24 43 ls (.long y :: .long x :: t) g r ↔ mm_Rn pg_G d 24 44 ls (.int (lg_cmp x y) :: t) g r := rn_lcmp tb_24_43 r
theorem tb_24_44 : mm_tb pg_G 24 44 = some (.ifCond .lt 21, 65, 0, 0) := rfl
theorem st_24_44 {d : Nat} {ls t : List Value} {g : mm_M} {r : mm_R} {x : Int32} : mm_Rn pg_G d 24 44 ls (.int x :: t) g r ↔ if x < 0 then mm_Rn pg_G d 24 65 ls (t) g r else mm_Rn pg_G d 24 47 ls (t) g r := rn_if_lt tb_24_44 r
theorem tb_24_47 : mm_tb pg_G 24 47 = some (.aload_n 0, 0, 0, 0) := rfl
theorem st_24_47 {l1 l2 : Value} {d : Nat} {t : List Value} {g : mm_M} {r : mm_R} {x : Nat} : mm_Rn pg_G d 24 47 [.ref x, l1, l2] (t) g r ↔ mm_Rn pg_G d 24 48 [.ref x, l1, l2] (.ref x :: t) g r := rn_aload_n tb_24_47 rfl r
theorem tb_24_48 : mm_tb pg_G 24 48 = some (.iload_n 2, 0, 0, 0) := rfl
theorem st_24_48 {l0 l1 : Value} {d : Nat} {t : List Value} {g : mm_M} {r : mm_R} {x : Int32} : mm_Rn pg_G d 24 48 [l0, l1, .int x] (t) g r ↔ mm_Rn pg_G d 24 49 [l0, l1, .int x] (.int x :: t) g r := rn_iload_n tb_24_48 rfl r
theorem tb_24_49 : mm_tb pg_G 24 49 = some (.aload_n 0, 0, 0, 0) := rfl
theorem st_24_49 {l1 l2 : Value} {d : Nat} {t : List Value} {g : mm_M} {r : mm_R} {x : Nat} : mm_Rn pg_G d 24 49 [.ref x, l1, l2] (t) g r ↔ mm_Rn pg_G d 24 50 [.ref x, l1, l2] (.ref x :: t) g r := rn_aload_n tb_24_49 rfl r
theorem tb_24_50 : mm_tb pg_G 24 50 = some (.getfield 25, 1, 4, 59) := rfl
theorem st_24_50 {d : Nat} {ls t : List Value} {g : mm_M} {r : mm_R} {x : Nat} (hT : g.1 x = some (1, 9)) : mm_Rn pg_G d 24 50 ls (.ref x :: t) g r ↔ mm_Rn pg_G d 24 53 ls (g.2.1 x 4 :: t) g r := rn_getfield tb_24_50 hT r
theorem tb_24_53 : mm_tb pg_G 24 53 = some (.iadd, 0, 0, 0) := rfl
theorem st_24_53 {d : Nat} {ls t : List Value} {g : mm_M} {r : mm_R} {x y : Int32} : mm_Rn pg_G d 24 53 ls (.int y :: .int x :: t) g r ↔ mm_Rn pg_G d 24 54 ls (.int (x + y) :: t) g r := rn_iadd tb_24_53 r
theorem tb_24_54 : mm_tb pg_G 24 54 = some (.putfield 31, 1, 6, 62) := rfl
theorem st_24_54 {d : Nat} {ls t : List Value} {g : mm_M} {r : mm_R} {x : Nat} {v : Int32} (hT : g.1 x = some (1, 9)) : mm_Rn pg_G d 24 54 ls (.int v :: .ref x :: t) g r ↔ mm_Rn pg_G d 24 57 ls (t) (mm_wr g x 6 (.int v)) r := rn_putfield tb_24_54 hT rfl r
theorem tb_24_57 : mm_tb pg_G 24 57 = some (.aload_n 0, 0, 0, 0) := rfl
theorem st_24_57 {l1 l2 : Value} {d : Nat} {t : List Value} {g : mm_M} {r : mm_R} {x : Nat} : mm_Rn pg_G d 24 57 [.ref x, l1, l2] (t) g r ↔ mm_Rn pg_G d 24 58 [.ref x, l1, l2] (.ref x :: t) g r := rn_aload_n tb_24_57 rfl r
theorem tb_24_58 : mm_tb pg_G 24 58 = some (.aload_n 0, 0, 0, 0) := rfl
theorem st_24_58 {l1 l2 : Value} {d : Nat} {t : List Value} {g : mm_M} {r : mm_R} {x : Nat} : mm_Rn pg_G d 24 58 [.ref x, l1, l2] (t) g r ↔ mm_Rn pg_G d 24 59 [.ref x, l1, l2] (.ref x :: t) g r := rn_aload_n tb_24_58 rfl r
theorem tb_24_59 : mm_tb pg_G 24 59 = some (.getfield 22, 1, 3, 57) := rfl
theorem st_24_59 {d : Nat} {ls t : List Value} {g : mm_M} {r : mm_R} {x : Nat} (hT : g.1 x = some (1, 9)) : mm_Rn pg_G d 24 59 ls (.ref x :: t) g r ↔ mm_Rn pg_G d 24 62 ls (g.2.1 x 3 :: t) g r := rn_getfield tb_24_59 hT r
theorem tb_24_62 : mm_tb pg_G 24 62 = some (.putfield 28, 1, 5, 61) := rfl
theorem st_24_62 {d : Nat} {ls t : List Value} {g : mm_M} {r : mm_R} {x : Nat} {v : Int32} (hT : g.1 x = some (1, 9)) : mm_Rn pg_G d 24 62 ls (.int v :: .ref x :: t) g r ↔ mm_Rn pg_G d 24 65 ls (t) (mm_wr g x 5 (.int v)) r := rn_putfield tb_24_62 hT rfl r
theorem tb_24_65 : mm_tb pg_G 24 65 = some (.aload_n 0, 0, 0, 0) := rfl
theorem st_24_65 {l1 l2 : Value} {d : Nat} {t : List Value} {g : mm_M} {r : mm_R} {x : Nat} : mm_Rn pg_G d 24 65 [.ref x, l1, l2] (t) g r ↔ mm_Rn pg_G d 24 66 [.ref x, l1, l2] (.ref x :: t) g r := rn_aload_n tb_24_65 rfl r
theorem tb_24_66 : mm_tb pg_G 24 66 = some (.getfield 9, 1, 0, 53) := rfl
theorem st_24_66 {d : Nat} {ls t : List Value} {g : mm_M} {r : mm_R} {x : Nat} (hT : g.1 x = some (1, 9)) : mm_Rn pg_G d 24 66 ls (.ref x :: t) g r ↔ mm_Rn pg_G d 24 69 ls (g.2.1 x 0 :: t) g r := rn_getfield tb_24_66 hT r
theorem tb_24_69 : mm_tb pg_G 24 69 = some (.aload_n 0, 0, 0, 0) := rfl
theorem st_24_69 {l1 l2 : Value} {d : Nat} {t : List Value} {g : mm_M} {r : mm_R} {x : Nat} : mm_Rn pg_G d 24 69 [.ref x, l1, l2] (t) g r ↔ mm_Rn pg_G d 24 70 [.ref x, l1, l2] (.ref x :: t) g r := rn_aload_n tb_24_69 rfl r
theorem tb_24_70 : mm_tb pg_G 24 70 = some (.aload_n 0, 0, 0, 0) := rfl
theorem st_24_70 {l1 l2 : Value} {d : Nat} {t : List Value} {g : mm_M} {r : mm_R} {x : Nat} : mm_Rn pg_G d 24 70 [.ref x, l1, l2] (t) g r ↔ mm_Rn pg_G d 24 71 [.ref x, l1, l2] (.ref x :: t) g r := rn_aload_n tb_24_70 rfl r
theorem tb_24_71 : mm_tb pg_G 24 71 = some (.getfield 19, 1, 2, 55) := rfl
theorem st_24_71 {d : Nat} {ls t : List Value} {g : mm_M} {r : mm_R} {x : Nat} (hT : g.1 x = some (1, 9)) : mm_Rn pg_G d 24 71 ls (.ref x :: t) g r ↔ mm_Rn pg_G d 24 74 ls (g.2.1 x 2 :: t) g r := rn_getfield tb_24_71 hT r
theorem tb_24_74 : mm_tb pg_G 24 74 = some (.invokevirtual 40, 25, 2, 270) := rfl
theorem st_24_74 {d c s c' s' : Nat} {ls t : List Value} {I J : sp_I} {r : mm_R} {a0 : Int32} {y : Nat} {v : Int32} (hl : t.length ≤ 4) (hT : sp_T I y = some (1, 9)) (hq : mm_Rn pg_G d 25 0 [.ref y, .int a0] [] (sp_me I 0 0) (some (.int v), sp_me J c' s')) : mm_Rn pg_G (d + 1) 24 74 ls (.int a0 :: .ref y :: t) (sp_me I c s) r ↔ mm_Rn pg_G (d + 1) 24 77 ls (.int v :: t) (sp_me J (c + c') (s + s')) r := rn_virt (g := sp_me I c s) (st := .int a0 :: .ref y :: t) tb_24_74 (decide_eq_true hT) ⟨Nat.le_add_left _ t.length, hl, rfl⟩ hq r
theorem tb_24_77 : mm_tb pg_G 24 77 = some (.iload_n 1, 0, 0, 0) := rfl
theorem st_24_77 {l0 l2 : Value} {d : Nat} {t : List Value} {g : mm_M} {r : mm_R} {x : Int32} : mm_Rn pg_G d 24 77 [l0, .int x, l2] (t) g r ↔ mm_Rn pg_G d 24 78 [l0, .int x, l2] (.int x :: t) g r := rn_iload_n tb_24_77 rfl r
theorem tb_24_78 : mm_tb pg_G 24 78 = some (.iastore, 0, 0, 0) := rfl
theorem st_24_78 {d : Nat} {ls t : List Value} {g : mm_M} {r : mm_R} {x : Nat} {j v : Int32} (hc : mm_in (g.1 x) 100 100 j = true) : mm_Rn pg_G d 24 78 ls (.int v :: .int j :: .ref x :: t) g r ↔ mm_Rn pg_G d 24 79 ls (t) (mm_wr g x j.toNatClampNeg (.int v)) r := rn_iastore tb_24_78 hc r
theorem tb_24_79 : mm_tb pg_G 24 79 = some (.aload_n 0, 0, 0, 0) := rfl
theorem st_24_79 {l1 l2 : Value} {d : Nat} {t : List Value} {g : mm_M} {r : mm_R} {x : Nat} : mm_Rn pg_G d 24 79 [.ref x, l1, l2] (t) g r ↔ mm_Rn pg_G d 24 80 [.ref x, l1, l2] (.ref x :: t) g r := rn_aload_n tb_24_79 rfl r
theorem tb_24_80 : mm_tb pg_G 24 80 = some (.dup, 0, 0, 0) := rfl
theorem st_24_80 {d : Nat} {ls t : List Value} {g : mm_M} {r : mm_R} {v : Value} (hc : mm_c1 v = true) : mm_Rn pg_G d 24 80 ls (v :: t) g r ↔ mm_Rn pg_G d 24 81 ls (v :: v :: t) g r := rn_dup tb_24_80 hc r
theorem tb_24_81 : mm_tb pg_G 24 81 = some (.getfield 19, 1, 2, 55) := rfl
theorem st_24_81 {d : Nat} {ls t : List Value} {g : mm_M} {r : mm_R} {x : Nat} (hT : g.1 x = some (1, 9)) : mm_Rn pg_G d 24 81 ls (.ref x :: t) g r ↔ mm_Rn pg_G d 24 84 ls (g.2.1 x 2 :: t) g r := rn_getfield tb_24_81 hT r
theorem tb_24_84 : mm_tb pg_G 24 84 = some (.iconst 1, 0, 0, 0) := rfl
theorem st_24_84 {d : Nat} {ls t : List Value} {g : mm_M} {r : mm_R} : mm_Rn pg_G d 24 84 ls (t) g r ↔ mm_Rn pg_G d 24 85 ls (io_v 1 :: t) g r := rn_iconst tb_24_84 r
theorem tb_24_85 : mm_tb pg_G 24 85 = some (.iadd, 0, 0, 0) := rfl
theorem st_24_85 {d : Nat} {ls t : List Value} {g : mm_M} {r : mm_R} {x y : Int32} : mm_Rn pg_G d 24 85 ls (.int y :: .int x :: t) g r ↔ mm_Rn pg_G d 24 86 ls (.int (x + y) :: t) g r := rn_iadd tb_24_85 r
theorem tb_24_86 : mm_tb pg_G 24 86 = some (.putfield 19, 1, 2, 55) := rfl
theorem st_24_86 {d : Nat} {ls t : List Value} {g : mm_M} {r : mm_R} {x : Nat} {v : Int32} (hT : g.1 x = some (1, 9)) : mm_Rn pg_G d 24 86 ls (.int v :: .ref x :: t) g r ↔ mm_Rn pg_G d 24 89 ls (t) (mm_wr g x 2 (.int v)) r := rn_putfield tb_24_86 hT rfl r
theorem tb_24_89 : mm_tb pg_G 24 89 = some (.iconst 1, 0, 0, 0) := rfl
theorem st_24_89 {d : Nat} {ls t : List Value} {g : mm_M} {r : mm_R} : mm_Rn pg_G d 24 89 ls (t) g r ↔ mm_Rn pg_G d 24 90 ls (io_v 1 :: t) g r := rn_iconst tb_24_89 r
theorem tb_24_90 : mm_tb pg_G 24 90 = some (.ireturn, 0, 0, 0) := rfl
theorem st_24_90 {d : Nat} {ls : List Value} {g : mm_M} {r : mm_R} {x : Int32} (hb : x = 0 ∨ x = 1) : mm_Rn pg_G d 24 90 ls [.int x] g r ↔ r = (some (.int x), g) := rn_ireturn_iff tb_24_90 (Or.inr ⟨rfl, hb⟩) r
theorem tb_25_0 : mm_tb pg_G 25 0 = some (.aload_n 0, 0, 0, 0) := rfl
theorem st_25_0 {l1 : Value} {d : Nat} {t : List Value} {g : mm_M} {r : mm_R} {x : Nat} : mm_Rn pg_G d 25 0 [.ref x, l1] (t) g r ↔ mm_Rn pg_G d 25 1 [.ref x, l1] (.ref x :: t) g r := rn_aload_n tb_25_0 rfl r
theorem tb_25_1 : mm_tb pg_G 25 1 = some (.getfield 15, 1, 1, 54) := rfl
theorem st_25_1 {d : Nat} {ls t : List Value} {g : mm_M} {r : mm_R} {x : Nat} (hT : g.1 x = some (1, 9)) : mm_Rn pg_G d 25 1 ls (.ref x :: t) g r ↔ mm_Rn pg_G d 25 4 ls (g.2.1 x 1 :: t) g r := rn_getfield tb_25_1 hT r
theorem tb_25_4 : mm_tb pg_G 25 4 = some (.iload_n 1, 0, 0, 0) := rfl
theorem st_25_4 {l0 : Value} {d : Nat} {t : List Value} {g : mm_M} {r : mm_R} {x : Int32} : mm_Rn pg_G d 25 4 [l0, .int x] (t) g r ↔ mm_Rn pg_G d 25 5 [l0, .int x] (.int x :: t) g r := rn_iload_n tb_25_4 rfl r
theorem tb_25_5 : mm_tb pg_G 25 5 = some (.iadd, 0, 0, 0) := rfl
theorem st_25_5 {d : Nat} {ls t : List Value} {g : mm_M} {r : mm_R} {x y : Int32} : mm_Rn pg_G d 25 5 ls (.int y :: .int x :: t) g r ↔ mm_Rn pg_G d 25 6 ls (.int (x + y) :: t) g r := rn_iadd tb_25_5 r
theorem tb_25_6 : mm_tb pg_G 25 6 = some (.bipush 7, 0, 0, 0) := rfl
theorem st_25_6 {d : Nat} {ls t : List Value} {g : mm_M} {r : mm_R} : mm_Rn pg_G d 25 6 ls (t) g r ↔ mm_Rn pg_G d 25 8 ls (io_v 7 :: t) g r := rn_bipush tb_25_6 r
theorem tb_25_8 : mm_tb pg_G 25 8 = some (.iand, 0, 0, 0) := rfl
theorem st_25_8 {d : Nat} {ls t : List Value} {g : mm_M} {r : mm_R} {x y : Int32} : mm_Rn pg_G d 25 8 ls (.int y :: .int x :: t) g r ↔ mm_Rn pg_G d 25 9 ls (.int (x &&& y) :: t) g r := rn_iand tb_25_8 r
theorem tb_25_9 : mm_tb pg_G 25 9 = some (.ireturn, 0, 0, 0) := rfl
theorem st_25_9 {d : Nat} {ls : List Value} {g : mm_M} {r : mm_R} {x : Int32} : mm_Rn pg_G d 25 9 ls [.int x] g r ↔ r = (some (.int x), g) := rn_ireturn_iff tb_25_9 (Or.inl rfl) r
theorem tb_26_0 : mm_tb pg_G 26 0 = some (.aload_n 0, 0, 0, 0) := rfl
theorem st_26_0 {d : Nat} {t : List Value} {g : mm_M} {r : mm_R} {x : Nat} : mm_Rn pg_G d 26 0 [.ref x] (t) g r ↔ mm_Rn pg_G d 26 1 [.ref x] (.ref x :: t) g r := rn_aload_n tb_26_0 rfl r
theorem tb_26_1 : mm_tb pg_G 26 1 = some (.getfield 9, 1, 0, 53) := rfl
theorem st_26_1 {d : Nat} {ls t : List Value} {g : mm_M} {r : mm_R} {x : Nat} (hT : g.1 x = some (1, 9)) : mm_Rn pg_G d 26 1 ls (.ref x :: t) g r ↔ mm_Rn pg_G d 26 4 ls (g.2.1 x 0 :: t) g r := rn_getfield tb_26_1 hT r
theorem tb_26_4 : mm_tb pg_G 26 4 = some (.aload_n 0, 0, 0, 0) := rfl
theorem st_26_4 {d : Nat} {t : List Value} {g : mm_M} {r : mm_R} {x : Nat} : mm_Rn pg_G d 26 4 [.ref x] (t) g r ↔ mm_Rn pg_G d 26 5 [.ref x] (.ref x :: t) g r := rn_aload_n tb_26_4 rfl r
theorem tb_26_5 : mm_tb pg_G 26 5 = some (.getfield 15, 1, 1, 54) := rfl
theorem st_26_5 {d : Nat} {ls t : List Value} {g : mm_M} {r : mm_R} {x : Nat} (hT : g.1 x = some (1, 9)) : mm_Rn pg_G d 26 5 ls (.ref x :: t) g r ↔ mm_Rn pg_G d 26 8 ls (g.2.1 x 1 :: t) g r := rn_getfield tb_26_5 hT r
theorem tb_26_8 : mm_tb pg_G 26 8 = some (.dup2, 0, 0, 0) := rfl
theorem st_26_8 {d : Nat} {ls t : List Value} {g : mm_M} {r : mm_R} {v u : Value} (hc : mm_c1 v = true) (hc2 : mm_c1 u = true) : mm_Rn pg_G d 26 8 ls (v :: u :: t) g r ↔ mm_Rn pg_G d 26 9 ls (v :: u :: v :: u :: t) g r := rn_dup2 tb_26_8 hc hc2 r
theorem tb_26_9 : mm_tb pg_G 26 9 = some (.iaload, 0, 0, 0) := rfl
theorem st_26_9 {d : Nat} {ls t : List Value} {g : mm_M} {r : mm_R} {x : Nat} {j : Int32} (hc : mm_in (g.1 x) 100 101 j = true) : mm_Rn pg_G d 26 9 ls (.int j :: .ref x :: t) g r ↔ mm_Rn pg_G d 26 10 ls (g.2.1 x j.toNatClampNeg :: t) g r := rn_iaload tb_26_9 hc r
theorem tb_26_10 : mm_tb pg_G 26 10 = some (.iconst 1, 0, 0, 0) := rfl
theorem st_26_10 {d : Nat} {ls t : List Value} {g : mm_M} {r : mm_R} : mm_Rn pg_G d 26 10 ls (t) g r ↔ mm_Rn pg_G d 26 11 ls (io_v 1 :: t) g r := rn_iconst tb_26_10 r
theorem tb_26_11 : mm_tb pg_G 26 11 = some (.isub, 0, 0, 0) := rfl
theorem st_26_11 {d : Nat} {ls t : List Value} {g : mm_M} {r : mm_R} {x y : Int32} : mm_Rn pg_G d 26 11 ls (.int y :: .int x :: t) g r ↔ mm_Rn pg_G d 26 12 ls (.int (x - y) :: t) g r := rn_isub tb_26_11 r
theorem tb_26_12 : mm_tb pg_G 26 12 = some (.iastore, 0, 0, 0) := rfl
theorem st_26_12 {d : Nat} {ls t : List Value} {g : mm_M} {r : mm_R} {x : Nat} {j v : Int32} (hc : mm_in (g.1 x) 100 100 j = true) : mm_Rn pg_G d 26 12 ls (.int v :: .int j :: .ref x :: t) g r ↔ mm_Rn pg_G d 26 13 ls (t) (mm_wr g x j.toNatClampNeg (.int v)) r := rn_iastore tb_26_12 hc r
theorem tb_26_13 : mm_tb pg_G 26 13 = some (.aload_n 0, 0, 0, 0) := rfl
theorem st_26_13 {d : Nat} {t : List Value} {g : mm_M} {r : mm_R} {x : Nat} : mm_Rn pg_G d 26 13 [.ref x] (t) g r ↔ mm_Rn pg_G d 26 14 [.ref x] (.ref x :: t) g r := rn_aload_n tb_26_13 rfl r
theorem tb_26_14 : mm_tb pg_G 26 14 = some (.getfield 9, 1, 0, 53) := rfl
theorem st_26_14 {d : Nat} {ls t : List Value} {g : mm_M} {r : mm_R} {x : Nat} (hT : g.1 x = some (1, 9)) : mm_Rn pg_G d 26 14 ls (.ref x :: t) g r ↔ mm_Rn pg_G d 26 17 ls (g.2.1 x 0 :: t) g r := rn_getfield tb_26_14 hT r
theorem tb_26_17 : mm_tb pg_G 26 17 = some (.aload_n 0, 0, 0, 0) := rfl
theorem st_26_17 {d : Nat} {t : List Value} {g : mm_M} {r : mm_R} {x : Nat} : mm_Rn pg_G d 26 17 [.ref x] (t) g r ↔ mm_Rn pg_G d 26 18 [.ref x] (.ref x :: t) g r := rn_aload_n tb_26_17 rfl r
theorem tb_26_18 : mm_tb pg_G 26 18 = some (.getfield 15, 1, 1, 54) := rfl
theorem st_26_18 {d : Nat} {ls t : List Value} {g : mm_M} {r : mm_R} {x : Nat} (hT : g.1 x = some (1, 9)) : mm_Rn pg_G d 26 18 ls (.ref x :: t) g r ↔ mm_Rn pg_G d 26 21 ls (g.2.1 x 1 :: t) g r := rn_getfield tb_26_18 hT r
theorem tb_26_21 : mm_tb pg_G 26 21 = some (.iaload, 0, 0, 0) := rfl
theorem st_26_21 {d : Nat} {ls t : List Value} {g : mm_M} {r : mm_R} {x : Nat} {j : Int32} (hc : mm_in (g.1 x) 100 101 j = true) : mm_Rn pg_G d 26 21 ls (.int j :: .ref x :: t) g r ↔ mm_Rn pg_G d 26 22 ls (g.2.1 x j.toNatClampNeg :: t) g r := rn_iaload tb_26_21 hc r
theorem tb_26_22 : mm_tb pg_G 26 22 = some (.ifCond .ne 32, 54, 0, 0) := rfl
theorem st_26_22 {d : Nat} {ls t : List Value} {g : mm_M} {r : mm_R} {x : Int32} : mm_Rn pg_G d 26 22 ls (.int x :: t) g r ↔ if x = 0 then mm_Rn pg_G d 26 25 ls (t) g r else mm_Rn pg_G d 26 54 ls (t) g r := rn_if_ne tb_26_22 r
theorem tb_26_25 : mm_tb pg_G 26 25 = some (.aload_n 0, 0, 0, 0) := rfl
theorem st_26_25 {d : Nat} {t : List Value} {g : mm_M} {r : mm_R} {x : Nat} : mm_Rn pg_G d 26 25 [.ref x] (t) g r ↔ mm_Rn pg_G d 26 26 [.ref x] (.ref x :: t) g r := rn_aload_n tb_26_25 rfl r
theorem tb_26_26 : mm_tb pg_G 26 26 = some (.aload_n 0, 0, 0, 0) := rfl
theorem st_26_26 {d : Nat} {t : List Value} {g : mm_M} {r : mm_R} {x : Nat} : mm_Rn pg_G d 26 26 [.ref x] (t) g r ↔ mm_Rn pg_G d 26 27 [.ref x] (.ref x :: t) g r := rn_aload_n tb_26_26 rfl r
theorem tb_26_27 : mm_tb pg_G 26 27 = some (.iconst 1, 0, 0, 0) := rfl
theorem st_26_27 {d : Nat} {ls t : List Value} {g : mm_M} {r : mm_R} : mm_Rn pg_G d 26 27 ls (t) g r ↔ mm_Rn pg_G d 26 28 ls (io_v 1 :: t) g r := rn_iconst tb_26_27 r
theorem tb_26_28 : mm_tb pg_G 26 28 = some (.invokevirtual 40, 25, 2, 270) := rfl
theorem st_26_28 {d c s c' s' : Nat} {ls t : List Value} {I J : sp_I} {r : mm_R} {a0 : Int32} {y : Nat} {v : Int32} (hl : t.length ≤ 4) (hT : sp_T I y = some (1, 9)) (hq : mm_Rn pg_G d 25 0 [.ref y, .int a0] [] (sp_me I 0 0) (some (.int v), sp_me J c' s')) : mm_Rn pg_G (d + 1) 26 28 ls (.int a0 :: .ref y :: t) (sp_me I c s) r ↔ mm_Rn pg_G (d + 1) 26 31 ls (.int v :: t) (sp_me J (c + c') (s + s')) r := rn_virt (g := sp_me I c s) (st := .int a0 :: .ref y :: t) tb_26_28 (decide_eq_true hT) ⟨Nat.le_add_left _ t.length, hl, rfl⟩ hq r
theorem tb_26_31 : mm_tb pg_G 26 31 = some (.putfield 15, 1, 1, 54) := rfl
theorem st_26_31 {d : Nat} {ls t : List Value} {g : mm_M} {r : mm_R} {x : Nat} {v : Int32} (hT : g.1 x = some (1, 9)) : mm_Rn pg_G d 26 31 ls (.int v :: .ref x :: t) g r ↔ mm_Rn pg_G d 26 34 ls (t) (mm_wr g x 1 (.int v)) r := rn_putfield tb_26_31 hT rfl r
theorem tb_26_34 : mm_tb pg_G 26 34 = some (.aload_n 0, 0, 0, 0) := rfl
theorem st_26_34 {d : Nat} {t : List Value} {g : mm_M} {r : mm_R} {x : Nat} : mm_Rn pg_G d 26 34 [.ref x] (t) g r ↔ mm_Rn pg_G d 26 35 [.ref x] (.ref x :: t) g r := rn_aload_n tb_26_34 rfl r
theorem tb_26_35 : mm_tb pg_G 26 35 = some (.dup, 0, 0, 0) := rfl
theorem st_26_35 {d : Nat} {ls t : List Value} {g : mm_M} {r : mm_R} {v : Value} (hc : mm_c1 v = true) : mm_Rn pg_G d 26 35 ls (v :: t) g r ↔ mm_Rn pg_G d 26 36 ls (v :: v :: t) g r := rn_dup tb_26_35 hc r
theorem tb_26_36 : mm_tb pg_G 26 36 = some (.getfield 19, 1, 2, 55) := rfl
theorem st_26_36 {d : Nat} {ls t : List Value} {g : mm_M} {r : mm_R} {x : Nat} (hT : g.1 x = some (1, 9)) : mm_Rn pg_G d 26 36 ls (.ref x :: t) g r ↔ mm_Rn pg_G d 26 39 ls (g.2.1 x 2 :: t) g r := rn_getfield tb_26_36 hT r
theorem tb_26_39 : mm_tb pg_G 26 39 = some (.iconst 1, 0, 0, 0) := rfl
theorem st_26_39 {d : Nat} {ls t : List Value} {g : mm_M} {r : mm_R} : mm_Rn pg_G d 26 39 ls (t) g r ↔ mm_Rn pg_G d 26 40 ls (io_v 1 :: t) g r := rn_iconst tb_26_39 r
theorem tb_26_40 : mm_tb pg_G 26 40 = some (.isub, 0, 0, 0) := rfl
theorem st_26_40 {d : Nat} {ls t : List Value} {g : mm_M} {r : mm_R} {x y : Int32} : mm_Rn pg_G d 26 40 ls (.int y :: .int x :: t) g r ↔ mm_Rn pg_G d 26 41 ls (.int (x - y) :: t) g r := rn_isub tb_26_40 r
theorem tb_26_41 : mm_tb pg_G 26 41 = some (.putfield 19, 1, 2, 55) := rfl
theorem st_26_41 {d : Nat} {ls t : List Value} {g : mm_M} {r : mm_R} {x : Nat} {v : Int32} (hT : g.1 x = some (1, 9)) : mm_Rn pg_G d 26 41 ls (.int v :: .ref x :: t) g r ↔ mm_Rn pg_G d 26 44 ls (t) (mm_wr g x 2 (.int v)) r := rn_putfield tb_26_41 hT rfl r
theorem tb_26_44 : mm_tb pg_G 26 44 = some (.aload_n 0, 0, 0, 0) := rfl
theorem st_26_44 {d : Nat} {t : List Value} {g : mm_M} {r : mm_R} {x : Nat} : mm_Rn pg_G d 26 44 [.ref x] (t) g r ↔ mm_Rn pg_G d 26 45 [.ref x] (.ref x :: t) g r := rn_aload_n tb_26_44 rfl r
theorem tb_26_45 : mm_tb pg_G 26 45 = some (.dup, 0, 0, 0) := rfl
theorem st_26_45 {d : Nat} {ls t : List Value} {g : mm_M} {r : mm_R} {v : Value} (hc : mm_c1 v = true) : mm_Rn pg_G d 26 45 ls (v :: t) g r ↔ mm_Rn pg_G d 26 46 ls (v :: v :: t) g r := rn_dup tb_26_45 hc r
theorem tb_26_46 : mm_tb pg_G 26 46 = some (.getfield 37, 1, 8, 65) := rfl
theorem st_26_46 {d : Nat} {ls t : List Value} {g : mm_M} {r : mm_R} {x : Nat} (hT : g.1 x = some (1, 9)) : mm_Rn pg_G d 26 46 ls (.ref x :: t) g r ↔ mm_Rn pg_G d 26 49 ls (g.2.1 x 8 :: t) g r := rn_getfield tb_26_46 hT r
theorem tb_26_49 : mm_tb pg_G 26 49 = some (.iconst 1, 0, 0, 0) := rfl
theorem st_26_49 {d : Nat} {ls t : List Value} {g : mm_M} {r : mm_R} : mm_Rn pg_G d 26 49 ls (t) g r ↔ mm_Rn pg_G d 26 50 ls (io_v 1 :: t) g r := rn_iconst tb_26_49 r
theorem tb_26_50 : mm_tb pg_G 26 50 = some (.iadd, 0, 0, 0) := rfl
theorem st_26_50 {d : Nat} {ls t : List Value} {g : mm_M} {r : mm_R} {x y : Int32} : mm_Rn pg_G d 26 50 ls (.int y :: .int x :: t) g r ↔ mm_Rn pg_G d 26 51 ls (.int (x + y) :: t) g r := rn_iadd tb_26_50 r
theorem tb_26_51 : mm_tb pg_G 26 51 = some (.putfield 37, 1, 8, 65) := rfl
theorem st_26_51 {d : Nat} {ls t : List Value} {g : mm_M} {r : mm_R} {x : Nat} {v : Int32} (hT : g.1 x = some (1, 9)) : mm_Rn pg_G d 26 51 ls (.int v :: .ref x :: t) g r ↔ mm_Rn pg_G d 26 54 ls (t) (mm_wr g x 8 (.int v)) r := rn_putfield tb_26_51 hT rfl r
theorem tb_26_54 : mm_tb pg_G 26 54 = some (.aload_n 0, 0, 0, 0) := rfl
theorem st_26_54 {d : Nat} {t : List Value} {g : mm_M} {r : mm_R} {x : Nat} : mm_Rn pg_G d 26 54 [.ref x] (t) g r ↔ mm_Rn pg_G d 26 55 [.ref x] (.ref x :: t) g r := rn_aload_n tb_26_54 rfl r
theorem tb_26_55 : mm_tb pg_G 26 55 = some (.dup, 0, 0, 0) := rfl
theorem st_26_55 {d : Nat} {ls t : List Value} {g : mm_M} {r : mm_R} {v : Value} (hc : mm_c1 v = true) : mm_Rn pg_G d 26 55 ls (v :: t) g r ↔ mm_Rn pg_G d 26 56 ls (v :: v :: t) g r := rn_dup tb_26_55 hc r
theorem tb_26_56 : mm_tb pg_G 26 56 = some (.getfield 28, 1, 5, 61) := rfl
theorem st_26_56 {d : Nat} {ls t : List Value} {g : mm_M} {r : mm_R} {x : Nat} (hT : g.1 x = some (1, 9)) : mm_Rn pg_G d 26 56 ls (.ref x :: t) g r ↔ mm_Rn pg_G d 26 59 ls (g.2.1 x 5 :: t) g r := rn_getfield tb_26_56 hT r
theorem tb_26_59 : mm_tb pg_G 26 59 = some (.iconst 1, 0, 0, 0) := rfl
theorem st_26_59 {d : Nat} {ls t : List Value} {g : mm_M} {r : mm_R} : mm_Rn pg_G d 26 59 ls (t) g r ↔ mm_Rn pg_G d 26 60 ls (io_v 1 :: t) g r := rn_iconst tb_26_59 r
theorem tb_26_60 : mm_tb pg_G 26 60 = some (.isub, 0, 0, 0) := rfl
theorem st_26_60 {d : Nat} {ls t : List Value} {g : mm_M} {r : mm_R} {x y : Int32} : mm_Rn pg_G d 26 60 ls (.int y :: .int x :: t) g r ↔ mm_Rn pg_G d 26 61 ls (.int (x - y) :: t) g r := rn_isub tb_26_60 r
theorem tb_26_61 : mm_tb pg_G 26 61 = some (.putfield 28, 1, 5, 61) := rfl
theorem st_26_61 {d : Nat} {ls t : List Value} {g : mm_M} {r : mm_R} {x : Nat} {v : Int32} (hT : g.1 x = some (1, 9)) : mm_Rn pg_G d 26 61 ls (.int v :: .ref x :: t) g r ↔ mm_Rn pg_G d 26 64 ls (t) (mm_wr g x 5 (.int v)) r := rn_putfield tb_26_61 hT rfl r
theorem tb_26_64 : mm_tb pg_G 26 64 = some (.aload_n 0, 0, 0, 0) := rfl
theorem st_26_64 {d : Nat} {t : List Value} {g : mm_M} {r : mm_R} {x : Nat} : mm_Rn pg_G d 26 64 [.ref x] (t) g r ↔ mm_Rn pg_G d 26 65 [.ref x] (.ref x :: t) g r := rn_aload_n tb_26_64 rfl r
theorem tb_26_65 : mm_tb pg_G 26 65 = some (.getfield 28, 1, 5, 61) := rfl
theorem st_26_65 {d : Nat} {ls t : List Value} {g : mm_M} {r : mm_R} {x : Nat} (hT : g.1 x = some (1, 9)) : mm_Rn pg_G d 26 65 ls (.ref x :: t) g r ↔ mm_Rn pg_G d 26 68 ls (g.2.1 x 5 :: t) g r := rn_getfield tb_26_65 hT r
theorem tb_26_68 : mm_tb pg_G 26 68 = some (.ifCond .ne 34, 102, 0, 0) := rfl
theorem st_26_68 {d : Nat} {ls t : List Value} {g : mm_M} {r : mm_R} {x : Int32} : mm_Rn pg_G d 26 68 ls (.int x :: t) g r ↔ if x = 0 then mm_Rn pg_G d 26 71 ls (t) g r else mm_Rn pg_G d 26 102 ls (t) g r := rn_if_ne tb_26_68 r
theorem tb_26_71 : mm_tb pg_G 26 71 = some (.aload_n 0, 0, 0, 0) := rfl
theorem st_26_71 {d : Nat} {t : List Value} {g : mm_M} {r : mm_R} {x : Nat} : mm_Rn pg_G d 26 71 [.ref x] (t) g r ↔ mm_Rn pg_G d 26 72 [.ref x] (.ref x :: t) g r := rn_aload_n tb_26_71 rfl r
theorem tb_26_72 : mm_tb pg_G 26 72 = some (.aload_n 0, 0, 0, 0) := rfl
theorem st_26_72 {d : Nat} {t : List Value} {g : mm_M} {r : mm_R} {x : Nat} : mm_Rn pg_G d 26 72 [.ref x] (t) g r ↔ mm_Rn pg_G d 26 73 [.ref x] (.ref x :: t) g r := rn_aload_n tb_26_72 rfl r
theorem tb_26_73 : mm_tb pg_G 26 73 = some (.getfield 22, 1, 3, 57) := rfl
theorem st_26_73 {d : Nat} {ls t : List Value} {g : mm_M} {r : mm_R} {x : Nat} (hT : g.1 x = some (1, 9)) : mm_Rn pg_G d 26 73 ls (.ref x :: t) g r ↔ mm_Rn pg_G d 26 76 ls (g.2.1 x 3 :: t) g r := rn_getfield tb_26_73 hT r
theorem tb_26_76 : mm_tb pg_G 26 76 = some (.putfield 28, 1, 5, 61) := rfl
theorem st_26_76 {d : Nat} {ls t : List Value} {g : mm_M} {r : mm_R} {x : Nat} {v : Int32} (hT : g.1 x = some (1, 9)) : mm_Rn pg_G d 26 76 ls (.int v :: .ref x :: t) g r ↔ mm_Rn pg_G d 26 79 ls (t) (mm_wr g x 5 (.int v)) r := rn_putfield tb_26_76 hT rfl r
theorem tb_26_79 : mm_tb pg_G 26 79 = some (.aload_n 0, 0, 0, 0) := rfl
theorem st_26_79 {d : Nat} {t : List Value} {g : mm_M} {r : mm_R} {x : Nat} : mm_Rn pg_G d 26 79 [.ref x] (t) g r ↔ mm_Rn pg_G d 26 80 [.ref x] (.ref x :: t) g r := rn_aload_n tb_26_79 rfl r
theorem tb_26_80 : mm_tb pg_G 26 80 = some (.dup, 0, 0, 0) := rfl
theorem st_26_80 {d : Nat} {ls t : List Value} {g : mm_M} {r : mm_R} {v : Value} (hc : mm_c1 v = true) : mm_Rn pg_G d 26 80 ls (v :: t) g r ↔ mm_Rn pg_G d 26 81 ls (v :: v :: t) g r := rn_dup tb_26_80 hc r
theorem tb_26_81 : mm_tb pg_G 26 81 = some (.getfield 31, 1, 6, 62) := rfl
theorem st_26_81 {d : Nat} {ls t : List Value} {g : mm_M} {r : mm_R} {x : Nat} (hT : g.1 x = some (1, 9)) : mm_Rn pg_G d 26 81 ls (.ref x :: t) g r ↔ mm_Rn pg_G d 26 84 ls (g.2.1 x 6 :: t) g r := rn_getfield tb_26_81 hT r
theorem tb_26_84 : mm_tb pg_G 26 84 = some (.aload_n 0, 0, 0, 0) := rfl
theorem st_26_84 {d : Nat} {t : List Value} {g : mm_M} {r : mm_R} {x : Nat} : mm_Rn pg_G d 26 84 [.ref x] (t) g r ↔ mm_Rn pg_G d 26 85 [.ref x] (.ref x :: t) g r := rn_aload_n tb_26_84 rfl r
theorem tb_26_85 : mm_tb pg_G 26 85 = some (.getfield 25, 1, 4, 59) := rfl
theorem st_26_85 {d : Nat} {ls t : List Value} {g : mm_M} {r : mm_R} {x : Nat} (hT : g.1 x = some (1, 9)) : mm_Rn pg_G d 26 85 ls (.ref x :: t) g r ↔ mm_Rn pg_G d 26 88 ls (g.2.1 x 4 :: t) g r := rn_getfield tb_26_85 hT r
theorem tb_26_88 : mm_tb pg_G 26 88 = some (.iadd, 0, 0, 0) := rfl
theorem st_26_88 {d : Nat} {ls t : List Value} {g : mm_M} {r : mm_R} {x y : Int32} : mm_Rn pg_G d 26 88 ls (.int y :: .int x :: t) g r ↔ mm_Rn pg_G d 26 89 ls (.int (x + y) :: t) g r := rn_iadd tb_26_88 r
theorem tb_26_89 : mm_tb pg_G 26 89 = some (.putfield 31, 1, 6, 62) := rfl
theorem st_26_89 {d : Nat} {ls t : List Value} {g : mm_M} {r : mm_R} {x : Nat} {v : Int32} (hT : g.1 x = some (1, 9)) : mm_Rn pg_G d 26 89 ls (.int v :: .ref x :: t) g r ↔ mm_Rn pg_G d 26 92 ls (t) (mm_wr g x 6 (.int v)) r := rn_putfield tb_26_89 hT rfl r
theorem tb_26_92 : mm_tb pg_G 26 92 = some (.aload_n 0, 0, 0, 0) := rfl
theorem st_26_92 {d : Nat} {t : List Value} {g : mm_M} {r : mm_R} {x : Nat} : mm_Rn pg_G d 26 92 [.ref x] (t) g r ↔ mm_Rn pg_G d 26 93 [.ref x] (.ref x :: t) g r := rn_aload_n tb_26_92 rfl r
theorem tb_26_93 : mm_tb pg_G 26 93 = some (.dup, 0, 0, 0) := rfl
theorem st_26_93 {d : Nat} {ls t : List Value} {g : mm_M} {r : mm_R} {v : Value} (hc : mm_c1 v = true) : mm_Rn pg_G d 26 93 ls (v :: t) g r ↔ mm_Rn pg_G d 26 94 ls (v :: v :: t) g r := rn_dup tb_26_93 hc r
theorem tb_26_94 : mm_tb pg_G 26 94 = some (.getfield 34, 1, 7, 64) := rfl
theorem st_26_94 {d : Nat} {ls t : List Value} {g : mm_M} {r : mm_R} {x : Nat} (hT : g.1 x = some (1, 9)) : mm_Rn pg_G d 26 94 ls (.ref x :: t) g r ↔ mm_Rn pg_G d 26 97 ls (g.2.1 x 7 :: t) g r := rn_getfield tb_26_94 hT r
theorem tb_26_97 : mm_tb pg_G 26 97 = some (.iconst 1, 0, 0, 0) := rfl
theorem st_26_97 {d : Nat} {ls t : List Value} {g : mm_M} {r : mm_R} : mm_Rn pg_G d 26 97 ls (t) g r ↔ mm_Rn pg_G d 26 98 ls (io_v 1 :: t) g r := rn_iconst tb_26_97 r
theorem tb_26_98 : mm_tb pg_G 26 98 = some (.iadd, 0, 0, 0) := rfl
theorem st_26_98 {d : Nat} {ls t : List Value} {g : mm_M} {r : mm_R} {x y : Int32} : mm_Rn pg_G d 26 98 ls (.int y :: .int x :: t) g r ↔ mm_Rn pg_G d 26 99 ls (.int (x + y) :: t) g r := rn_iadd tb_26_98 r
theorem tb_26_99 : mm_tb pg_G 26 99 = some (.putfield 34, 1, 7, 64) := rfl
theorem st_26_99 {d : Nat} {ls t : List Value} {g : mm_M} {r : mm_R} {x : Nat} {v : Int32} (hT : g.1 x = some (1, 9)) : mm_Rn pg_G d 26 99 ls (.int v :: .ref x :: t) g r ↔ mm_Rn pg_G d 26 102 ls (t) (mm_wr g x 7 (.int v)) r := rn_putfield tb_26_99 hT rfl r
theorem tb_26_102 : mm_tb pg_G 26 102 = some (.return_, 0, 0, 0) := rfl
theorem st_26_102 {d : Nat} {ls : List Value} {g : mm_M} {r : mm_R} : mm_Rn pg_G d 26 102 ls [] g r ↔ r = (none, g) := rn_return_iff tb_26_102 rfl r
theorem tb_27_0 : mm_tb pg_G 27 0 = some (.iconst 0, 0, 0, 0) := rfl
theorem st_27_0 {d : Nat} {ls t : List Value} {g : mm_M} {r : mm_R} : mm_Rn pg_G d 27 0 ls (t) g r ↔ mm_Rn pg_G d 27 1 ls (io_v 0 :: t) g r := rn_iconst tb_27_0 r
theorem tb_27_1 : mm_tb pg_G 27 1 = some (.istore_n 1, 0, 0, 0) := rfl
theorem st_27_1 {l0 l1 l2 : Value} {d : Nat} {t : List Value} {g : mm_M} {r : mm_R} {x : Int32} (hc : mm_c1 l0 = true) : mm_Rn pg_G d 27 1 [l0, l1, l2] (.int x :: t) g r ↔ mm_Rn pg_G d 27 2 [l0, .int x, l2] (t) g r := rn_istore_n tb_27_1 (mm_so_of (ls := [l0, l1, l2]) (v := l0) (Nat.le_of_ble_eq_true rfl) rfl hc) r
theorem tb_27_2 : mm_tb pg_G 27 2 = some (.iconst 0, 0, 0, 0) := rfl
theorem st_27_2 {d : Nat} {ls t : List Value} {g : mm_M} {r : mm_R} : mm_Rn pg_G d 27 2 ls (t) g r ↔ mm_Rn pg_G d 27 3 ls (io_v 0 :: t) g r := rn_iconst tb_27_2 r
theorem tb_27_3 : mm_tb pg_G 27 3 = some (.istore_n 2, 0, 0, 0) := rfl
theorem st_27_3 {l0 l1 l2 : Value} {d : Nat} {t : List Value} {g : mm_M} {r : mm_R} {x : Int32} (hc : mm_c1 l1 = true) : mm_Rn pg_G d 27 3 [l0, l1, l2] (.int x :: t) g r ↔ mm_Rn pg_G d 27 4 [l0, l1, .int x] (t) g r := rn_istore_n tb_27_3 (mm_so_of (ls := [l0, l1, l2]) (v := l1) (Nat.le_of_ble_eq_true rfl) rfl hc) r
theorem tb_27_4 : mm_tb pg_G 27 4 = some (.iload_n 2, 0, 0, 0) := rfl
theorem st_27_4 {l0 l1 : Value} {d : Nat} {t : List Value} {g : mm_M} {r : mm_R} {x : Int32} : mm_Rn pg_G d 27 4 [l0, l1, .int x] (t) g r ↔ mm_Rn pg_G d 27 5 [l0, l1, .int x] (.int x :: t) g r := rn_iload_n tb_27_4 rfl r
theorem tb_27_5 : mm_tb pg_G 27 5 = some (.aload_n 0, 0, 0, 0) := rfl
theorem st_27_5 {l1 l2 : Value} {d : Nat} {t : List Value} {g : mm_M} {r : mm_R} {x : Nat} : mm_Rn pg_G d 27 5 [.ref x, l1, l2] (t) g r ↔ mm_Rn pg_G d 27 6 [.ref x, l1, l2] (.ref x :: t) g r := rn_aload_n tb_27_5 rfl r
theorem tb_27_6 : mm_tb pg_G 27 6 = some (.getfield 19, 1, 2, 55) := rfl
theorem st_27_6 {d : Nat} {ls t : List Value} {g : mm_M} {r : mm_R} {x : Nat} (hT : g.1 x = some (1, 9)) : mm_Rn pg_G d 27 6 ls (.ref x :: t) g r ↔ mm_Rn pg_G d 27 9 ls (g.2.1 x 2 :: t) g r := rn_getfield tb_27_6 hT r
theorem tb_27_9 : mm_tb pg_G 27 9 = some (.if_icmp .ge 22, 31, 0, 0) := rfl
theorem st_27_9 {d : Nat} {ls t : List Value} {g : mm_M} {r : mm_R} {x y : Int32} : mm_Rn pg_G d 27 9 ls (.int y :: .int x :: t) g r ↔ if y ≤ x then mm_Rn pg_G d 27 31 ls (t) g r else mm_Rn pg_G d 27 12 ls (t) g r := rn_icmp_ge tb_27_9 r
theorem tb_27_12 : mm_tb pg_G 27 12 = some (.iload_n 1, 0, 0, 0) := rfl
theorem st_27_12 {l0 l2 : Value} {d : Nat} {t : List Value} {g : mm_M} {r : mm_R} {x : Int32} : mm_Rn pg_G d 27 12 [l0, .int x, l2] (t) g r ↔ mm_Rn pg_G d 27 13 [l0, .int x, l2] (.int x :: t) g r := rn_iload_n tb_27_12 rfl r
theorem tb_27_13 : mm_tb pg_G 27 13 = some (.aload_n 0, 0, 0, 0) := rfl
theorem st_27_13 {l1 l2 : Value} {d : Nat} {t : List Value} {g : mm_M} {r : mm_R} {x : Nat} : mm_Rn pg_G d 27 13 [.ref x, l1, l2] (t) g r ↔ mm_Rn pg_G d 27 14 [.ref x, l1, l2] (.ref x :: t) g r := rn_aload_n tb_27_13 rfl r
theorem tb_27_14 : mm_tb pg_G 27 14 = some (.getfield 9, 1, 0, 53) := rfl
theorem st_27_14 {d : Nat} {ls t : List Value} {g : mm_M} {r : mm_R} {x : Nat} (hT : g.1 x = some (1, 9)) : mm_Rn pg_G d 27 14 ls (.ref x :: t) g r ↔ mm_Rn pg_G d 27 17 ls (g.2.1 x 0 :: t) g r := rn_getfield tb_27_14 hT r
theorem tb_27_17 : mm_tb pg_G 27 17 = some (.aload_n 0, 0, 0, 0) := rfl
theorem st_27_17 {l1 l2 : Value} {d : Nat} {t : List Value} {g : mm_M} {r : mm_R} {x : Nat} : mm_Rn pg_G d 27 17 [.ref x, l1, l2] (t) g r ↔ mm_Rn pg_G d 27 18 [.ref x, l1, l2] (.ref x :: t) g r := rn_aload_n tb_27_17 rfl r
theorem tb_27_18 : mm_tb pg_G 27 18 = some (.iload_n 2, 0, 0, 0) := rfl
theorem st_27_18 {l0 l1 : Value} {d : Nat} {t : List Value} {g : mm_M} {r : mm_R} {x : Int32} : mm_Rn pg_G d 27 18 [l0, l1, .int x] (t) g r ↔ mm_Rn pg_G d 27 19 [l0, l1, .int x] (.int x :: t) g r := rn_iload_n tb_27_18 rfl r
theorem tb_27_19 : mm_tb pg_G 27 19 = some (.invokevirtual 40, 25, 2, 270) := rfl
theorem st_27_19 {d c s c' s' : Nat} {ls t : List Value} {I J : sp_I} {r : mm_R} {a0 : Int32} {y : Nat} {v : Int32} (hl : t.length ≤ 4) (hT : sp_T I y = some (1, 9)) (hq : mm_Rn pg_G d 25 0 [.ref y, .int a0] [] (sp_me I 0 0) (some (.int v), sp_me J c' s')) : mm_Rn pg_G (d + 1) 27 19 ls (.int a0 :: .ref y :: t) (sp_me I c s) r ↔ mm_Rn pg_G (d + 1) 27 22 ls (.int v :: t) (sp_me J (c + c') (s + s')) r := rn_virt (g := sp_me I c s) (st := .int a0 :: .ref y :: t) tb_27_19 (decide_eq_true hT) ⟨Nat.le_add_left _ t.length, hl, rfl⟩ hq r
theorem tb_27_22 : mm_tb pg_G 27 22 = some (.iaload, 0, 0, 0) := rfl
theorem st_27_22 {d : Nat} {ls t : List Value} {g : mm_M} {r : mm_R} {x : Nat} {j : Int32} (hc : mm_in (g.1 x) 100 101 j = true) : mm_Rn pg_G d 27 22 ls (.int j :: .ref x :: t) g r ↔ mm_Rn pg_G d 27 23 ls (g.2.1 x j.toNatClampNeg :: t) g r := rn_iaload tb_27_22 hc r
theorem tb_27_23 : mm_tb pg_G 27 23 = some (.iadd, 0, 0, 0) := rfl
theorem st_27_23 {d : Nat} {ls t : List Value} {g : mm_M} {r : mm_R} {x y : Int32} : mm_Rn pg_G d 27 23 ls (.int y :: .int x :: t) g r ↔ mm_Rn pg_G d 27 24 ls (.int (x + y) :: t) g r := rn_iadd tb_27_23 r
theorem tb_27_24 : mm_tb pg_G 27 24 = some (.istore_n 1, 0, 0, 0) := rfl
theorem st_27_24 {l0 l1 l2 : Value} {d : Nat} {t : List Value} {g : mm_M} {r : mm_R} {x : Int32} (hc : mm_c1 l0 = true) : mm_Rn pg_G d 27 24 [l0, l1, l2] (.int x :: t) g r ↔ mm_Rn pg_G d 27 25 [l0, .int x, l2] (t) g r := rn_istore_n tb_27_24 (mm_so_of (ls := [l0, l1, l2]) (v := l0) (Nat.le_of_ble_eq_true rfl) rfl hc) r
theorem tb_27_25 : mm_tb pg_G 27 25 = some (.iinc 2 1, 0, 0, 0) := rfl
theorem st_27_25 {l0 l1 : Value} {d : Nat} {t : List Value} {g : mm_M} {r : mm_R} {x : Int32} (hc : mm_c1 l1 = true) : mm_Rn pg_G d 27 25 [l0, l1, .int x] (t) g r ↔ mm_Rn pg_G d 27 28 [l0, l1, .int (x + Int32.ofInt 1)] (t) g r := rn_iinc tb_27_25 rfl (mm_so_of (ls := [l0, l1, .int x]) (v := l1) (Nat.le_of_ble_eq_true rfl) rfl hc) r
theorem tb_27_28 : mm_tb pg_G 27 28 = some (.goto (-24), 4, 0, 0) := rfl
theorem st_27_28 {d : Nat} {ls t : List Value} {g : mm_M} {r : mm_R} : mm_Rn pg_G d 27 28 ls (t) g r ↔ mm_Rn pg_G d 27 4 ls (t) g r := rn_goto tb_27_28 r
theorem tb_27_31 : mm_tb pg_G 27 31 = some (.iload_n 1, 0, 0, 0) := rfl
theorem st_27_31 {l0 l2 : Value} {d : Nat} {t : List Value} {g : mm_M} {r : mm_R} {x : Int32} : mm_Rn pg_G d 27 31 [l0, .int x, l2] (t) g r ↔ mm_Rn pg_G d 27 32 [l0, .int x, l2] (.int x :: t) g r := rn_iload_n tb_27_31 rfl r
theorem tb_27_32 : mm_tb pg_G 27 32 = some (.ireturn, 0, 0, 0) := rfl
theorem st_27_32 {d : Nat} {ls : List Value} {g : mm_M} {r : mm_R} {x : Int32} : mm_Rn pg_G d 27 32 ls [.int x] g r ↔ r = (some (.int x), g) := rn_ireturn_iff tb_27_32 (Or.inl rfl) r
theorem tb_28_0 : mm_tb pg_G 28 0 = some (.iload_n 1, 0, 0, 0) := rfl
theorem st_28_0 {l0 : Value} {d : Nat} {t : List Value} {g : mm_M} {r : mm_R} {x : Int32} : mm_Rn pg_G d 28 0 [l0, .int x] (t) g r ↔ mm_Rn pg_G d 28 1 [l0, .int x] (.int x :: t) g r := rn_iload_n tb_28_0 rfl r
theorem tb_28_1 : mm_tb pg_G 28 1 = some (.tableswitch 69 0 5 #[39, 44, 49, 54, 59, 64], 0, 39, 0) := rfl
theorem st_28_1_d {d : Nat} {ls t : List Value} {g : mm_M} {r : mm_R} {x : Int32} (hx : x.toInt < 0 ∨ 5 < x.toInt) : mm_Rn pg_G d 28 1 ls (.int x :: t) g r ↔ mm_Rn pg_G d 28 70 ls (t) g r := rn_ts tb_28_1 (if_pos hx) rfl r
theorem st_28_1_0 {d : Nat} {ls t : List Value} {g : mm_M} {r : mm_R} {x : Int32} (hx : x.toInt = 0) : mm_Rn pg_G d 28 1 ls (.int x :: t) g r ↔ mm_Rn pg_G d 28 40 ls (t) g r := rn_ts (off := 39) tb_28_1 (by rw [hx]; rfl) rfl r
theorem st_28_1_1 {d : Nat} {ls t : List Value} {g : mm_M} {r : mm_R} {x : Int32} (hx : x.toInt = 1) : mm_Rn pg_G d 28 1 ls (.int x :: t) g r ↔ mm_Rn pg_G d 28 45 ls (t) g r := rn_ts (off := 44) tb_28_1 (by rw [hx]; rfl) rfl r
theorem st_28_1_2 {d : Nat} {ls t : List Value} {g : mm_M} {r : mm_R} {x : Int32} (hx : x.toInt = 2) : mm_Rn pg_G d 28 1 ls (.int x :: t) g r ↔ mm_Rn pg_G d 28 50 ls (t) g r := rn_ts (off := 49) tb_28_1 (by rw [hx]; rfl) rfl r
theorem st_28_1_3 {d : Nat} {ls t : List Value} {g : mm_M} {r : mm_R} {x : Int32} (hx : x.toInt = 3) : mm_Rn pg_G d 28 1 ls (.int x :: t) g r ↔ mm_Rn pg_G d 28 55 ls (t) g r := rn_ts (off := 54) tb_28_1 (by rw [hx]; rfl) rfl r
theorem st_28_1_4 {d : Nat} {ls t : List Value} {g : mm_M} {r : mm_R} {x : Int32} (hx : x.toInt = 4) : mm_Rn pg_G d 28 1 ls (.int x :: t) g r ↔ mm_Rn pg_G d 28 60 ls (t) g r := rn_ts (off := 59) tb_28_1 (by rw [hx]; rfl) rfl r
theorem st_28_1_5 {d : Nat} {ls t : List Value} {g : mm_M} {r : mm_R} {x : Int32} (hx : x.toInt = 5) : mm_Rn pg_G d 28 1 ls (.int x :: t) g r ↔ mm_Rn pg_G d 28 65 ls (t) g r := rn_ts (off := 64) tb_28_1 (by rw [hx]; rfl) rfl r
theorem tb_28_40 : mm_tb pg_G 28 40 = some (.aload_n 0, 0, 0, 0) := rfl
theorem st_28_40 {l1 : Value} {d : Nat} {t : List Value} {g : mm_M} {r : mm_R} {x : Nat} : mm_Rn pg_G d 28 40 [.ref x, l1] (t) g r ↔ mm_Rn pg_G d 28 41 [.ref x, l1] (.ref x :: t) g r := rn_aload_n tb_28_40 rfl r
theorem tb_28_41 : mm_tb pg_G 28 41 = some (.getfield 31, 1, 6, 62) := rfl
theorem st_28_41 {d : Nat} {ls t : List Value} {g : mm_M} {r : mm_R} {x : Nat} (hT : g.1 x = some (1, 9)) : mm_Rn pg_G d 28 41 ls (.ref x :: t) g r ↔ mm_Rn pg_G d 28 44 ls (g.2.1 x 6 :: t) g r := rn_getfield tb_28_41 hT r
theorem tb_28_44 : mm_tb pg_G 28 44 = some (.ireturn, 0, 0, 0) := rfl
theorem st_28_44 {d : Nat} {ls : List Value} {g : mm_M} {r : mm_R} {x : Int32} : mm_Rn pg_G d 28 44 ls [.int x] g r ↔ r = (some (.int x), g) := rn_ireturn_iff tb_28_44 (Or.inl rfl) r
theorem tb_28_45 : mm_tb pg_G 28 45 = some (.aload_n 0, 0, 0, 0) := rfl
theorem st_28_45 {l1 : Value} {d : Nat} {t : List Value} {g : mm_M} {r : mm_R} {x : Nat} : mm_Rn pg_G d 28 45 [.ref x, l1] (t) g r ↔ mm_Rn pg_G d 28 46 [.ref x, l1] (.ref x :: t) g r := rn_aload_n tb_28_45 rfl r
theorem tb_28_46 : mm_tb pg_G 28 46 = some (.getfield 28, 1, 5, 61) := rfl
theorem st_28_46 {d : Nat} {ls t : List Value} {g : mm_M} {r : mm_R} {x : Nat} (hT : g.1 x = some (1, 9)) : mm_Rn pg_G d 28 46 ls (.ref x :: t) g r ↔ mm_Rn pg_G d 28 49 ls (g.2.1 x 5 :: t) g r := rn_getfield tb_28_46 hT r
theorem tb_28_49 : mm_tb pg_G 28 49 = some (.ireturn, 0, 0, 0) := rfl
theorem st_28_49 {d : Nat} {ls : List Value} {g : mm_M} {r : mm_R} {x : Int32} : mm_Rn pg_G d 28 49 ls [.int x] g r ↔ r = (some (.int x), g) := rn_ireturn_iff tb_28_49 (Or.inl rfl) r
theorem tb_28_50 : mm_tb pg_G 28 50 = some (.aload_n 0, 0, 0, 0) := rfl
theorem st_28_50 {l1 : Value} {d : Nat} {t : List Value} {g : mm_M} {r : mm_R} {x : Nat} : mm_Rn pg_G d 28 50 [.ref x, l1] (t) g r ↔ mm_Rn pg_G d 28 51 [.ref x, l1] (.ref x :: t) g r := rn_aload_n tb_28_50 rfl r
theorem tb_28_51 : mm_tb pg_G 28 51 = some (.getfield 19, 1, 2, 55) := rfl
theorem st_28_51 {d : Nat} {ls t : List Value} {g : mm_M} {r : mm_R} {x : Nat} (hT : g.1 x = some (1, 9)) : mm_Rn pg_G d 28 51 ls (.ref x :: t) g r ↔ mm_Rn pg_G d 28 54 ls (g.2.1 x 2 :: t) g r := rn_getfield tb_28_51 hT r
theorem tb_28_54 : mm_tb pg_G 28 54 = some (.ireturn, 0, 0, 0) := rfl
theorem st_28_54 {d : Nat} {ls : List Value} {g : mm_M} {r : mm_R} {x : Int32} : mm_Rn pg_G d 28 54 ls [.int x] g r ↔ r = (some (.int x), g) := rn_ireturn_iff tb_28_54 (Or.inl rfl) r
theorem tb_28_55 : mm_tb pg_G 28 55 = some (.aload_n 0, 0, 0, 0) := rfl
theorem st_28_55 {l1 : Value} {d : Nat} {t : List Value} {g : mm_M} {r : mm_R} {x : Nat} : mm_Rn pg_G d 28 55 [.ref x, l1] (t) g r ↔ mm_Rn pg_G d 28 56 [.ref x, l1] (.ref x :: t) g r := rn_aload_n tb_28_55 rfl r
theorem tb_28_56 : mm_tb pg_G 28 56 = some (.invokevirtual 44, 27, 1, 405) := rfl
theorem st_28_56 {d c s c' s' : Nat} {ls t : List Value} {I J : sp_I} {r : mm_R} {y : Nat} {v : Int32} (hl : t.length ≤ 4) (hT : sp_T I y = some (1, 9)) (hq : mm_Rn pg_G d 27 0 [.ref y, .retAddr 0, .retAddr 0] [] (sp_me I 0 0) (some (.int v), sp_me J c' s')) : mm_Rn pg_G (d + 1) 28 56 ls (.ref y :: t) (sp_me I c s) r ↔ mm_Rn pg_G (d + 1) 28 59 ls (.int v :: t) (sp_me J (c + c') (s + s')) r := rn_virt (g := sp_me I c s) (st := .ref y :: t) tb_28_56 (decide_eq_true hT) ⟨Nat.le_add_left _ t.length, hl, rfl⟩ hq r
theorem tb_28_59 : mm_tb pg_G 28 59 = some (.ireturn, 0, 0, 0) := rfl
theorem st_28_59 {d : Nat} {ls : List Value} {g : mm_M} {r : mm_R} {x : Int32} : mm_Rn pg_G d 28 59 ls [.int x] g r ↔ r = (some (.int x), g) := rn_ireturn_iff tb_28_59 (Or.inl rfl) r
theorem tb_28_60 : mm_tb pg_G 28 60 = some (.aload_n 0, 0, 0, 0) := rfl
theorem st_28_60 {l1 : Value} {d : Nat} {t : List Value} {g : mm_M} {r : mm_R} {x : Nat} : mm_Rn pg_G d 28 60 [.ref x, l1] (t) g r ↔ mm_Rn pg_G d 28 61 [.ref x, l1] (.ref x :: t) g r := rn_aload_n tb_28_60 rfl r
theorem tb_28_61 : mm_tb pg_G 28 61 = some (.getfield 34, 1, 7, 64) := rfl
theorem st_28_61 {d : Nat} {ls t : List Value} {g : mm_M} {r : mm_R} {x : Nat} (hT : g.1 x = some (1, 9)) : mm_Rn pg_G d 28 61 ls (.ref x :: t) g r ↔ mm_Rn pg_G d 28 64 ls (g.2.1 x 7 :: t) g r := rn_getfield tb_28_61 hT r
theorem tb_28_64 : mm_tb pg_G 28 64 = some (.ireturn, 0, 0, 0) := rfl
theorem st_28_64 {d : Nat} {ls : List Value} {g : mm_M} {r : mm_R} {x : Int32} : mm_Rn pg_G d 28 64 ls [.int x] g r ↔ r = (some (.int x), g) := rn_ireturn_iff tb_28_64 (Or.inl rfl) r
theorem tb_28_65 : mm_tb pg_G 28 65 = some (.aload_n 0, 0, 0, 0) := rfl
theorem st_28_65 {l1 : Value} {d : Nat} {t : List Value} {g : mm_M} {r : mm_R} {x : Nat} : mm_Rn pg_G d 28 65 [.ref x, l1] (t) g r ↔ mm_Rn pg_G d 28 66 [.ref x, l1] (.ref x :: t) g r := rn_aload_n tb_28_65 rfl r
theorem tb_28_66 : mm_tb pg_G 28 66 = some (.getfield 37, 1, 8, 65) := rfl
theorem st_28_66 {d : Nat} {ls t : List Value} {g : mm_M} {r : mm_R} {x : Nat} (hT : g.1 x = some (1, 9)) : mm_Rn pg_G d 28 66 ls (.ref x :: t) g r ↔ mm_Rn pg_G d 28 69 ls (g.2.1 x 8 :: t) g r := rn_getfield tb_28_66 hT r
theorem tb_28_69 : mm_tb pg_G 28 69 = some (.ireturn, 0, 0, 0) := rfl
theorem st_28_69 {d : Nat} {ls : List Value} {g : mm_M} {r : mm_R} {x : Int32} : mm_Rn pg_G d 28 69 ls [.int x] g r ↔ r = (some (.int x), g) := rn_ireturn_iff tb_28_69 (Or.inl rfl) r
theorem tb_28_70 : mm_tb pg_G 28 70 = some (.iconst (-1), 0, 0, 0) := rfl
theorem st_28_70 {d : Nat} {ls t : List Value} {g : mm_M} {r : mm_R} : mm_Rn pg_G d 28 70 ls (t) g r ↔ mm_Rn pg_G d 28 71 ls (io_v (-1) :: t) g r := rn_iconst tb_28_70 r
theorem tb_28_71 : mm_tb pg_G 28 71 = some (.ireturn, 0, 0, 0) := rfl
theorem st_28_71 {d : Nat} {ls : List Value} {g : mm_M} {r : mm_R} {x : Int32} : mm_Rn pg_G d 28 71 ls [.int x] g r ↔ r = (some (.int x), g) := rn_ireturn_iff tb_28_71 (Or.inl rfl) r
theorem tb_29_0 : mm_tb pg_G 29 0 = some (.aload_n 0, 0, 0, 0) := rfl
theorem st_29_0 {d : Nat} {t : List Value} {g : mm_M} {r : mm_R} {x : Nat} : mm_Rn pg_G d 29 0 [.ref x] (t) g r ↔ mm_Rn pg_G d 29 1 [.ref x] (.ref x :: t) g r := rn_aload_n tb_29_0 rfl r
theorem tb_29_1 : mm_tb pg_G 29 1 = some (.invokespecial 3, 998, 0, 81) := rfl
theorem st_29_1 {d : Nat} {ls t : List Value} {g : mm_M} {r : mm_R} {x : Nat} (hl : t.length ≤ 4) : mm_Rn pg_G (d + 1) 29 1 ls (.ref x :: t) g r ↔ mm_Rn pg_G (d + 1) 29 4 ls (t) g r := rn_oinit tb_29_1 hl r
theorem tb_29_4 : mm_tb pg_G 29 4 = some (.aload_n 0, 0, 0, 0) := rfl
theorem st_29_4 {d : Nat} {t : List Value} {g : mm_M} {r : mm_R} {x : Nat} : mm_Rn pg_G d 29 4 [.ref x] (t) g r ↔ mm_Rn pg_G d 29 5 [.ref x] (.ref x :: t) g r := rn_aload_n tb_29_4 rfl r
theorem tb_29_5 : mm_tb pg_G 29 5 = some (.bipush 64, 0, 0, 0) := rfl
theorem st_29_5 {d : Nat} {ls t : List Value} {g : mm_M} {r : mm_R} : mm_Rn pg_G d 29 5 ls (t) g r ↔ mm_Rn pg_G d 29 7 ls (io_v 64 :: t) g r := rn_bipush tb_29_5 r
theorem tb_29_7 : mm_tb pg_G 29 7 = some (.newarray .int, 0, 0, 0) := rfl
theorem st_29_7 {d : Nat} {ls t : List Value} {g : mm_M} {r : mm_R} {x : Nat} {n : Int32} (hx : mm_pk pg_G 29 7 ls g.2.1 = x) (hT : g.1 x = none) (h0 : 0 ≤ n) (h1 : n.toNatClampNeg ≤ 1000) : mm_Rn pg_G d 29 7 ls (.int n :: t) g r ↔ mm_Rn pg_G d 29 9 ls (.ref x :: t) (mm_al g x 100 n.toNatClampNeg fun _ => .int 0) r := rn_newarray tb_29_7 hx hT h0 h1 r
theorem tb_29_9 : mm_tb pg_G 29 9 = some (.putfield 9, 2, 0, 82) := rfl
theorem st_29_9 {d : Nat} {ls t : List Value} {g : mm_M} {r : mm_R} {x : Nat} {v : Nat} (hT : g.1 x = some (2, 4)) : mm_Rn pg_G d 29 9 ls (.ref v :: .ref x :: t) g r ↔ mm_Rn pg_G d 29 12 ls (t) (mm_wr g x 0 (.ref v)) r := rn_putfield tb_29_9 hT rfl r
theorem tb_29_12 : mm_tb pg_G 29 12 = some (.aload_n 0, 0, 0, 0) := rfl
theorem st_29_12 {d : Nat} {t : List Value} {g : mm_M} {r : mm_R} {x : Nat} : mm_Rn pg_G d 29 12 [.ref x] (t) g r ↔ mm_Rn pg_G d 29 13 [.ref x] (.ref x :: t) g r := rn_aload_n tb_29_12 rfl r
theorem tb_29_13 : mm_tb pg_G 29 13 = some (.iconst 0, 0, 0, 0) := rfl
theorem st_29_13 {d : Nat} {ls t : List Value} {g : mm_M} {r : mm_R} : mm_Rn pg_G d 29 13 ls (t) g r ↔ mm_Rn pg_G d 29 14 ls (io_v 0 :: t) g r := rn_iconst tb_29_13 r
theorem tb_29_14 : mm_tb pg_G 29 14 = some (.putfield 15, 2, 1, 83) := rfl
theorem st_29_14 {d : Nat} {ls t : List Value} {g : mm_M} {r : mm_R} {x : Nat} {v : Int32} (hT : g.1 x = some (2, 4)) : mm_Rn pg_G d 29 14 ls (.int v :: .ref x :: t) g r ↔ mm_Rn pg_G d 29 17 ls (t) (mm_wr g x 1 (.int v)) r := rn_putfield tb_29_14 hT rfl r
theorem tb_29_17 : mm_tb pg_G 29 17 = some (.aload_n 0, 0, 0, 0) := rfl
theorem st_29_17 {d : Nat} {t : List Value} {g : mm_M} {r : mm_R} {x : Nat} : mm_Rn pg_G d 29 17 [.ref x] (t) g r ↔ mm_Rn pg_G d 29 18 [.ref x] (.ref x :: t) g r := rn_aload_n tb_29_17 rfl r
theorem tb_29_18 : mm_tb pg_G 29 18 = some (.iconst 0, 0, 0, 0) := rfl
theorem st_29_18 {d : Nat} {ls t : List Value} {g : mm_M} {r : mm_R} : mm_Rn pg_G d 29 18 ls (t) g r ↔ mm_Rn pg_G d 29 19 ls (io_v 0 :: t) g r := rn_iconst tb_29_18 r
theorem tb_29_19 : mm_tb pg_G 29 19 = some (.putfield 19, 2, 2, 85) := rfl
theorem st_29_19 {d : Nat} {ls t : List Value} {g : mm_M} {r : mm_R} {x : Nat} {v : Int32} (hT : g.1 x = some (2, 4)) : mm_Rn pg_G d 29 19 ls (.int v :: .ref x :: t) g r ↔ mm_Rn pg_G d 29 22 ls (t) (mm_wr g x 2 (.int v)) r := rn_putfield tb_29_19 hT rfl r
theorem tb_29_22 : mm_tb pg_G 29 22 = some (.aload_n 0, 0, 0, 0) := rfl
theorem st_29_22 {d : Nat} {t : List Value} {g : mm_M} {r : mm_R} {x : Nat} : mm_Rn pg_G d 29 22 [.ref x] (t) g r ↔ mm_Rn pg_G d 29 23 [.ref x] (.ref x :: t) g r := rn_aload_n tb_29_22 rfl r
theorem tb_29_23 : mm_tb pg_G 29 23 = some (.iconst 0, 0, 0, 0) := rfl
theorem st_29_23 {d : Nat} {ls t : List Value} {g : mm_M} {r : mm_R} : mm_Rn pg_G d 29 23 ls (t) g r ↔ mm_Rn pg_G d 29 24 ls (io_v 0 :: t) g r := rn_iconst tb_29_23 r
theorem tb_29_24 : mm_tb pg_G 29 24 = some (.putfield 22, 2, 3, 87) := rfl
theorem st_29_24 {d : Nat} {ls t : List Value} {g : mm_M} {r : mm_R} {x : Nat} {v : Int32} (hT : g.1 x = some (2, 4)) : mm_Rn pg_G d 29 24 ls (.int v :: .ref x :: t) g r ↔ mm_Rn pg_G d 29 27 ls (t) (mm_wr g x 3 (.int v)) r := rn_putfield tb_29_24 hT rfl r
theorem tb_29_27 : mm_tb pg_G 29 27 = some (.return_, 0, 0, 0) := rfl
theorem st_29_27 {d : Nat} {ls : List Value} {g : mm_M} {r : mm_R} : mm_Rn pg_G d 29 27 ls [] g r ↔ r = (none, g) := rn_return_iff tb_29_27 rfl r
theorem tb_30_0 : mm_tb pg_G 30 0 = some (.iload_n 1, 0, 0, 0) := rfl
theorem st_30_0 {l0 : Value} {d : Nat} {t : List Value} {g : mm_M} {r : mm_R} {x : Int32} : mm_Rn pg_G d 30 0 [l0, .int x] (t) g r ↔ mm_Rn pg_G d 30 1 [l0, .int x] (.int x :: t) g r := rn_iload_n tb_30_0 rfl r
theorem tb_30_1 : mm_tb pg_G 30 1 = some (.ifCond .ne 13, 14, 0, 0) := rfl
theorem st_30_1 {d : Nat} {ls t : List Value} {g : mm_M} {r : mm_R} {x : Int32} : mm_Rn pg_G d 30 1 ls (.int x :: t) g r ↔ if x = 0 then mm_Rn pg_G d 30 4 ls (t) g r else mm_Rn pg_G d 30 14 ls (t) g r := rn_if_ne tb_30_1 r
theorem tb_30_4 : mm_tb pg_G 30 4 = some (.aload_n 0, 0, 0, 0) := rfl
theorem st_30_4 {l1 : Value} {d : Nat} {t : List Value} {g : mm_M} {r : mm_R} {x : Nat} : mm_Rn pg_G d 30 4 [.ref x, l1] (t) g r ↔ mm_Rn pg_G d 30 5 [.ref x, l1] (.ref x :: t) g r := rn_aload_n tb_30_4 rfl r
theorem tb_30_5 : mm_tb pg_G 30 5 = some (.dup, 0, 0, 0) := rfl
theorem st_30_5 {d : Nat} {ls t : List Value} {g : mm_M} {r : mm_R} {v : Value} (hc : mm_c1 v = true) : mm_Rn pg_G d 30 5 ls (v :: t) g r ↔ mm_Rn pg_G d 30 6 ls (v :: v :: t) g r := rn_dup tb_30_5 hc r
theorem tb_30_6 : mm_tb pg_G 30 6 = some (.getfield 19, 2, 2, 85) := rfl
theorem st_30_6 {d : Nat} {ls t : List Value} {g : mm_M} {r : mm_R} {x : Nat} (hT : g.1 x = some (2, 4)) : mm_Rn pg_G d 30 6 ls (.ref x :: t) g r ↔ mm_Rn pg_G d 30 9 ls (g.2.1 x 2 :: t) g r := rn_getfield tb_30_6 hT r
theorem tb_30_9 : mm_tb pg_G 30 9 = some (.iconst 1, 0, 0, 0) := rfl
theorem st_30_9 {d : Nat} {ls t : List Value} {g : mm_M} {r : mm_R} : mm_Rn pg_G d 30 9 ls (t) g r ↔ mm_Rn pg_G d 30 10 ls (io_v 1 :: t) g r := rn_iconst tb_30_9 r
theorem tb_30_10 : mm_tb pg_G 30 10 = some (.iadd, 0, 0, 0) := rfl
theorem st_30_10 {d : Nat} {ls t : List Value} {g : mm_M} {r : mm_R} {x y : Int32} : mm_Rn pg_G d 30 10 ls (.int y :: .int x :: t) g r ↔ mm_Rn pg_G d 30 11 ls (.int (x + y) :: t) g r := rn_iadd tb_30_10 r
theorem tb_30_11 : mm_tb pg_G 30 11 = some (.putfield 19, 2, 2, 85) := rfl
theorem st_30_11 {d : Nat} {ls t : List Value} {g : mm_M} {r : mm_R} {x : Nat} {v : Int32} (hT : g.1 x = some (2, 4)) : mm_Rn pg_G d 30 11 ls (.int v :: .ref x :: t) g r ↔ mm_Rn pg_G d 30 14 ls (t) (mm_wr g x 2 (.int v)) r := rn_putfield tb_30_11 hT rfl r
theorem tb_30_14 : mm_tb pg_G 30 14 = some (.aload_n 0, 0, 0, 0) := rfl
theorem st_30_14 {l1 : Value} {d : Nat} {t : List Value} {g : mm_M} {r : mm_R} {x : Nat} : mm_Rn pg_G d 30 14 [.ref x, l1] (t) g r ↔ mm_Rn pg_G d 30 15 [.ref x, l1] (.ref x :: t) g r := rn_aload_n tb_30_14 rfl r
theorem tb_30_15 : mm_tb pg_G 30 15 = some (.getfield 15, 2, 1, 83) := rfl
theorem st_30_15 {d : Nat} {ls t : List Value} {g : mm_M} {r : mm_R} {x : Nat} (hT : g.1 x = some (2, 4)) : mm_Rn pg_G d 30 15 ls (.ref x :: t) g r ↔ mm_Rn pg_G d 30 18 ls (g.2.1 x 1 :: t) g r := rn_getfield tb_30_15 hT r
theorem tb_30_18 : mm_tb pg_G 30 18 = some (.ifCond .le 22, 40, 0, 0) := rfl
theorem st_30_18 {d : Nat} {ls t : List Value} {g : mm_M} {r : mm_R} {x : Int32} : mm_Rn pg_G d 30 18 ls (.int x :: t) g r ↔ if x ≤ 0 then mm_Rn pg_G d 30 40 ls (t) g r else mm_Rn pg_G d 30 21 ls (t) g r := rn_if_le tb_30_18 r
theorem tb_30_21 : mm_tb pg_G 30 21 = some (.iload_n 1, 0, 0, 0) := rfl
theorem st_30_21 {l0 : Value} {d : Nat} {t : List Value} {g : mm_M} {r : mm_R} {x : Int32} : mm_Rn pg_G d 30 21 [l0, .int x] (t) g r ↔ mm_Rn pg_G d 30 22 [l0, .int x] (.int x :: t) g r := rn_iload_n tb_30_21 rfl r
theorem tb_30_22 : mm_tb pg_G 30 22 = some (.aload_n 0, 0, 0, 0) := rfl
theorem st_30_22 {l1 : Value} {d : Nat} {t : List Value} {g : mm_M} {r : mm_R} {x : Nat} : mm_Rn pg_G d 30 22 [.ref x, l1] (t) g r ↔ mm_Rn pg_G d 30 23 [.ref x, l1] (.ref x :: t) g r := rn_aload_n tb_30_22 rfl r
theorem tb_30_23 : mm_tb pg_G 30 23 = some (.iconst 0, 0, 0, 0) := rfl
theorem st_30_23 {d : Nat} {ls t : List Value} {g : mm_M} {r : mm_R} : mm_Rn pg_G d 30 23 ls (t) g r ↔ mm_Rn pg_G d 30 24 ls (io_v 0 :: t) g r := rn_iconst tb_30_23 r
theorem tb_30_24 : mm_tb pg_G 30 24 = some (.invokevirtual 25, 31, 2, 346) := rfl
theorem st_30_24 {d c s c' s' : Nat} {ls t : List Value} {I J : sp_I} {r : mm_R} {a0 : Int32} {y : Nat} {v : Int32} (hl : t.length ≤ 4) (hT : sp_T I y = some (2, 4)) (hq : mm_Rn pg_G d 31 0 [.ref y, .int a0] [] (sp_me I 0 0) (some (.int v), sp_me J c' s')) : mm_Rn pg_G (d + 1) 30 24 ls (.int a0 :: .ref y :: t) (sp_me I c s) r ↔ mm_Rn pg_G (d + 1) 30 27 ls (.int v :: t) (sp_me J (c + c') (s + s')) r := rn_virt (g := sp_me I c s) (st := .int a0 :: .ref y :: t) tb_30_24 (decide_eq_true hT) ⟨Nat.le_add_left _ t.length, hl, rfl⟩ hq r
theorem tb_30_27 : mm_tb pg_G 30 27 = some (.if_icmp .eq 13, 40, 0, 0) := rfl
theorem st_30_27 {d : Nat} {ls t : List Value} {g : mm_M} {r : mm_R} {x y : Int32} : mm_Rn pg_G d 30 27 ls (.int y :: .int x :: t) g r ↔ if x = y then mm_Rn pg_G d 30 40 ls (t) g r else mm_Rn pg_G d 30 30 ls (t) g r := rn_icmp_eq tb_30_27 r
theorem tb_30_30 : mm_tb pg_G 30 30 = some (.aload_n 0, 0, 0, 0) := rfl
theorem st_30_30 {l1 : Value} {d : Nat} {t : List Value} {g : mm_M} {r : mm_R} {x : Nat} : mm_Rn pg_G d 30 30 [.ref x, l1] (t) g r ↔ mm_Rn pg_G d 30 31 [.ref x, l1] (.ref x :: t) g r := rn_aload_n tb_30_30 rfl r
theorem tb_30_31 : mm_tb pg_G 30 31 = some (.dup, 0, 0, 0) := rfl
theorem st_30_31 {d : Nat} {ls t : List Value} {g : mm_M} {r : mm_R} {v : Value} (hc : mm_c1 v = true) : mm_Rn pg_G d 30 31 ls (v :: t) g r ↔ mm_Rn pg_G d 30 32 ls (v :: v :: t) g r := rn_dup tb_30_31 hc r
theorem tb_30_32 : mm_tb pg_G 30 32 = some (.getfield 22, 2, 3, 87) := rfl
theorem st_30_32 {d : Nat} {ls t : List Value} {g : mm_M} {r : mm_R} {x : Nat} (hT : g.1 x = some (2, 4)) : mm_Rn pg_G d 30 32 ls (.ref x :: t) g r ↔ mm_Rn pg_G d 30 35 ls (g.2.1 x 3 :: t) g r := rn_getfield tb_30_32 hT r
theorem tb_30_35 : mm_tb pg_G 30 35 = some (.iconst 1, 0, 0, 0) := rfl
theorem st_30_35 {d : Nat} {ls t : List Value} {g : mm_M} {r : mm_R} : mm_Rn pg_G d 30 35 ls (t) g r ↔ mm_Rn pg_G d 30 36 ls (io_v 1 :: t) g r := rn_iconst tb_30_35 r
theorem tb_30_36 : mm_tb pg_G 30 36 = some (.iadd, 0, 0, 0) := rfl
theorem st_30_36 {d : Nat} {ls t : List Value} {g : mm_M} {r : mm_R} {x y : Int32} : mm_Rn pg_G d 30 36 ls (.int y :: .int x :: t) g r ↔ mm_Rn pg_G d 30 37 ls (.int (x + y) :: t) g r := rn_iadd tb_30_36 r
theorem tb_30_37 : mm_tb pg_G 30 37 = some (.putfield 22, 2, 3, 87) := rfl
theorem st_30_37 {d : Nat} {ls t : List Value} {g : mm_M} {r : mm_R} {x : Nat} {v : Int32} (hT : g.1 x = some (2, 4)) : mm_Rn pg_G d 30 37 ls (.int v :: .ref x :: t) g r ↔ mm_Rn pg_G d 30 40 ls (t) (mm_wr g x 3 (.int v)) r := rn_putfield tb_30_37 hT rfl r
theorem tb_30_40 : mm_tb pg_G 30 40 = some (.aload_n 0, 0, 0, 0) := rfl
theorem st_30_40 {l1 : Value} {d : Nat} {t : List Value} {g : mm_M} {r : mm_R} {x : Nat} : mm_Rn pg_G d 30 40 [.ref x, l1] (t) g r ↔ mm_Rn pg_G d 30 41 [.ref x, l1] (.ref x :: t) g r := rn_aload_n tb_30_40 rfl r
theorem tb_30_41 : mm_tb pg_G 30 41 = some (.getfield 9, 2, 0, 82) := rfl
theorem st_30_41 {d : Nat} {ls t : List Value} {g : mm_M} {r : mm_R} {x : Nat} (hT : g.1 x = some (2, 4)) : mm_Rn pg_G d 30 41 ls (.ref x :: t) g r ↔ mm_Rn pg_G d 30 44 ls (g.2.1 x 0 :: t) g r := rn_getfield tb_30_41 hT r
theorem tb_30_44 : mm_tb pg_G 30 44 = some (.aload_n 0, 0, 0, 0) := rfl
theorem st_30_44 {l1 : Value} {d : Nat} {t : List Value} {g : mm_M} {r : mm_R} {x : Nat} : mm_Rn pg_G d 30 44 [.ref x, l1] (t) g r ↔ mm_Rn pg_G d 30 45 [.ref x, l1] (.ref x :: t) g r := rn_aload_n tb_30_44 rfl r
theorem tb_30_45 : mm_tb pg_G 30 45 = some (.getfield 15, 2, 1, 83) := rfl
theorem st_30_45 {d : Nat} {ls t : List Value} {g : mm_M} {r : mm_R} {x : Nat} (hT : g.1 x = some (2, 4)) : mm_Rn pg_G d 30 45 ls (.ref x :: t) g r ↔ mm_Rn pg_G d 30 48 ls (g.2.1 x 1 :: t) g r := rn_getfield tb_30_45 hT r
theorem tb_30_48 : mm_tb pg_G 30 48 = some (.bipush 63, 0, 0, 0) := rfl
theorem st_30_48 {d : Nat} {ls t : List Value} {g : mm_M} {r : mm_R} : mm_Rn pg_G d 30 48 ls (t) g r ↔ mm_Rn pg_G d 30 50 ls (io_v 63 :: t) g r := rn_bipush tb_30_48 r
theorem tb_30_50 : mm_tb pg_G 30 50 = some (.iand, 0, 0, 0) := rfl
theorem st_30_50 {d : Nat} {ls t : List Value} {g : mm_M} {r : mm_R} {x y : Int32} : mm_Rn pg_G d 30 50 ls (.int y :: .int x :: t) g r ↔ mm_Rn pg_G d 30 51 ls (.int (x &&& y) :: t) g r := rn_iand tb_30_50 r
theorem tb_30_51 : mm_tb pg_G 30 51 = some (.iload_n 1, 0, 0, 0) := rfl
theorem st_30_51 {l0 : Value} {d : Nat} {t : List Value} {g : mm_M} {r : mm_R} {x : Int32} : mm_Rn pg_G d 30 51 [l0, .int x] (t) g r ↔ mm_Rn pg_G d 30 52 [l0, .int x] (.int x :: t) g r := rn_iload_n tb_30_51 rfl r
theorem tb_30_52 : mm_tb pg_G 30 52 = some (.iastore, 0, 0, 0) := rfl
theorem st_30_52 {d : Nat} {ls t : List Value} {g : mm_M} {r : mm_R} {x : Nat} {j v : Int32} (hc : mm_in (g.1 x) 100 100 j = true) : mm_Rn pg_G d 30 52 ls (.int v :: .int j :: .ref x :: t) g r ↔ mm_Rn pg_G d 30 53 ls (t) (mm_wr g x j.toNatClampNeg (.int v)) r := rn_iastore tb_30_52 hc r
theorem tb_30_53 : mm_tb pg_G 30 53 = some (.aload_n 0, 0, 0, 0) := rfl
theorem st_30_53 {l1 : Value} {d : Nat} {t : List Value} {g : mm_M} {r : mm_R} {x : Nat} : mm_Rn pg_G d 30 53 [.ref x, l1] (t) g r ↔ mm_Rn pg_G d 30 54 [.ref x, l1] (.ref x :: t) g r := rn_aload_n tb_30_53 rfl r
theorem tb_30_54 : mm_tb pg_G 30 54 = some (.dup, 0, 0, 0) := rfl
theorem st_30_54 {d : Nat} {ls t : List Value} {g : mm_M} {r : mm_R} {v : Value} (hc : mm_c1 v = true) : mm_Rn pg_G d 30 54 ls (v :: t) g r ↔ mm_Rn pg_G d 30 55 ls (v :: v :: t) g r := rn_dup tb_30_54 hc r
theorem tb_30_55 : mm_tb pg_G 30 55 = some (.getfield 15, 2, 1, 83) := rfl
theorem st_30_55 {d : Nat} {ls t : List Value} {g : mm_M} {r : mm_R} {x : Nat} (hT : g.1 x = some (2, 4)) : mm_Rn pg_G d 30 55 ls (.ref x :: t) g r ↔ mm_Rn pg_G d 30 58 ls (g.2.1 x 1 :: t) g r := rn_getfield tb_30_55 hT r
theorem tb_30_58 : mm_tb pg_G 30 58 = some (.iconst 1, 0, 0, 0) := rfl
theorem st_30_58 {d : Nat} {ls t : List Value} {g : mm_M} {r : mm_R} : mm_Rn pg_G d 30 58 ls (t) g r ↔ mm_Rn pg_G d 30 59 ls (io_v 1 :: t) g r := rn_iconst tb_30_58 r
theorem tb_30_59 : mm_tb pg_G 30 59 = some (.iadd, 0, 0, 0) := rfl
theorem st_30_59 {d : Nat} {ls t : List Value} {g : mm_M} {r : mm_R} {x y : Int32} : mm_Rn pg_G d 30 59 ls (.int y :: .int x :: t) g r ↔ mm_Rn pg_G d 30 60 ls (.int (x + y) :: t) g r := rn_iadd tb_30_59 r
theorem tb_30_60 : mm_tb pg_G 30 60 = some (.putfield 15, 2, 1, 83) := rfl
theorem st_30_60 {d : Nat} {ls t : List Value} {g : mm_M} {r : mm_R} {x : Nat} {v : Int32} (hT : g.1 x = some (2, 4)) : mm_Rn pg_G d 30 60 ls (.int v :: .ref x :: t) g r ↔ mm_Rn pg_G d 30 63 ls (t) (mm_wr g x 1 (.int v)) r := rn_putfield tb_30_60 hT rfl r
theorem tb_30_63 : mm_tb pg_G 30 63 = some (.return_, 0, 0, 0) := rfl
theorem st_30_63 {d : Nat} {ls : List Value} {g : mm_M} {r : mm_R} : mm_Rn pg_G d 30 63 ls [] g r ↔ r = (none, g) := rn_return_iff tb_30_63 rfl r
theorem tb_31_0 : mm_tb pg_G 31 0 = some (.iload_n 1, 0, 0, 0) := rfl
theorem st_31_0 {l0 : Value} {d : Nat} {t : List Value} {g : mm_M} {r : mm_R} {x : Int32} : mm_Rn pg_G d 31 0 [l0, .int x] (t) g r ↔ mm_Rn pg_G d 31 1 [l0, .int x] (.int x :: t) g r := rn_iload_n tb_31_0 rfl r
theorem tb_31_1 : mm_tb pg_G 31 1 = some (.ifCond .lt 17, 18, 0, 0) := rfl
theorem st_31_1 {d : Nat} {ls t : List Value} {g : mm_M} {r : mm_R} {x : Int32} : mm_Rn pg_G d 31 1 ls (.int x :: t) g r ↔ if x < 0 then mm_Rn pg_G d 31 18 ls (t) g r else mm_Rn pg_G d 31 4 ls (t) g r := rn_if_lt tb_31_1 r
theorem tb_31_4 : mm_tb pg_G 31 4 = some (.iload_n 1, 0, 0, 0) := rfl
theorem st_31_4 {l0 : Value} {d : Nat} {t : List Value} {g : mm_M} {r : mm_R} {x : Int32} : mm_Rn pg_G d 31 4 [l0, .int x] (t) g r ↔ mm_Rn pg_G d 31 5 [l0, .int x] (.int x :: t) g r := rn_iload_n tb_31_4 rfl r
theorem tb_31_5 : mm_tb pg_G 31 5 = some (.bipush 64, 0, 0, 0) := rfl
theorem st_31_5 {d : Nat} {ls t : List Value} {g : mm_M} {r : mm_R} : mm_Rn pg_G d 31 5 ls (t) g r ↔ mm_Rn pg_G d 31 7 ls (io_v 64 :: t) g r := rn_bipush tb_31_5 r
theorem tb_31_7 : mm_tb pg_G 31 7 = some (.if_icmp .ge 11, 18, 0, 0) := rfl
theorem st_31_7 {d : Nat} {ls t : List Value} {g : mm_M} {r : mm_R} {x y : Int32} : mm_Rn pg_G d 31 7 ls (.int y :: .int x :: t) g r ↔ if y ≤ x then mm_Rn pg_G d 31 18 ls (t) g r else mm_Rn pg_G d 31 10 ls (t) g r := rn_icmp_ge tb_31_7 r
theorem tb_31_10 : mm_tb pg_G 31 10 = some (.iload_n 1, 0, 0, 0) := rfl
theorem st_31_10 {l0 : Value} {d : Nat} {t : List Value} {g : mm_M} {r : mm_R} {x : Int32} : mm_Rn pg_G d 31 10 [l0, .int x] (t) g r ↔ mm_Rn pg_G d 31 11 [l0, .int x] (.int x :: t) g r := rn_iload_n tb_31_10 rfl r
theorem tb_31_11 : mm_tb pg_G 31 11 = some (.aload_n 0, 0, 0, 0) := rfl
theorem st_31_11 {l1 : Value} {d : Nat} {t : List Value} {g : mm_M} {r : mm_R} {x : Nat} : mm_Rn pg_G d 31 11 [.ref x, l1] (t) g r ↔ mm_Rn pg_G d 31 12 [.ref x, l1] (.ref x :: t) g r := rn_aload_n tb_31_11 rfl r
theorem tb_31_12 : mm_tb pg_G 31 12 = some (.getfield 15, 2, 1, 83) := rfl
theorem st_31_12 {d : Nat} {ls t : List Value} {g : mm_M} {r : mm_R} {x : Nat} (hT : g.1 x = some (2, 4)) : mm_Rn pg_G d 31 12 ls (.ref x :: t) g r ↔ mm_Rn pg_G d 31 15 ls (g.2.1 x 1 :: t) g r := rn_getfield tb_31_12 hT r
theorem tb_31_15 : mm_tb pg_G 31 15 = some (.if_icmp .lt 5, 20, 0, 0) := rfl
theorem st_31_15 {d : Nat} {ls t : List Value} {g : mm_M} {r : mm_R} {x y : Int32} : mm_Rn pg_G d 31 15 ls (.int y :: .int x :: t) g r ↔ if x < y then mm_Rn pg_G d 31 20 ls (t) g r else mm_Rn pg_G d 31 18 ls (t) g r := rn_icmp_lt tb_31_15 r
theorem tb_31_18 : mm_tb pg_G 31 18 = some (.iconst (-1), 0, 0, 0) := rfl
theorem st_31_18 {d : Nat} {ls t : List Value} {g : mm_M} {r : mm_R} : mm_Rn pg_G d 31 18 ls (t) g r ↔ mm_Rn pg_G d 31 19 ls (io_v (-1) :: t) g r := rn_iconst tb_31_18 r
theorem tb_31_19 : mm_tb pg_G 31 19 = some (.ireturn, 0, 0, 0) := rfl
theorem st_31_19 {d : Nat} {ls : List Value} {g : mm_M} {r : mm_R} {x : Int32} : mm_Rn pg_G d 31 19 ls [.int x] g r ↔ r = (some (.int x), g) := rn_ireturn_iff tb_31_19 (Or.inl rfl) r
theorem tb_31_20 : mm_tb pg_G 31 20 = some (.aload_n 0, 0, 0, 0) := rfl
theorem st_31_20 {l1 : Value} {d : Nat} {t : List Value} {g : mm_M} {r : mm_R} {x : Nat} : mm_Rn pg_G d 31 20 [.ref x, l1] (t) g r ↔ mm_Rn pg_G d 31 21 [.ref x, l1] (.ref x :: t) g r := rn_aload_n tb_31_20 rfl r
theorem tb_31_21 : mm_tb pg_G 31 21 = some (.getfield 9, 2, 0, 82) := rfl
theorem st_31_21 {d : Nat} {ls t : List Value} {g : mm_M} {r : mm_R} {x : Nat} (hT : g.1 x = some (2, 4)) : mm_Rn pg_G d 31 21 ls (.ref x :: t) g r ↔ mm_Rn pg_G d 31 24 ls (g.2.1 x 0 :: t) g r := rn_getfield tb_31_21 hT r
theorem tb_31_24 : mm_tb pg_G 31 24 = some (.aload_n 0, 0, 0, 0) := rfl
theorem st_31_24 {l1 : Value} {d : Nat} {t : List Value} {g : mm_M} {r : mm_R} {x : Nat} : mm_Rn pg_G d 31 24 [.ref x, l1] (t) g r ↔ mm_Rn pg_G d 31 25 [.ref x, l1] (.ref x :: t) g r := rn_aload_n tb_31_24 rfl r
theorem tb_31_25 : mm_tb pg_G 31 25 = some (.getfield 15, 2, 1, 83) := rfl
theorem st_31_25 {d : Nat} {ls t : List Value} {g : mm_M} {r : mm_R} {x : Nat} (hT : g.1 x = some (2, 4)) : mm_Rn pg_G d 31 25 ls (.ref x :: t) g r ↔ mm_Rn pg_G d 31 28 ls (g.2.1 x 1 :: t) g r := rn_getfield tb_31_25 hT r
theorem tb_31_28 : mm_tb pg_G 31 28 = some (.iconst 1, 0, 0, 0) := rfl
theorem st_31_28 {d : Nat} {ls t : List Value} {g : mm_M} {r : mm_R} : mm_Rn pg_G d 31 28 ls (t) g r ↔ mm_Rn pg_G d 31 29 ls (io_v 1 :: t) g r := rn_iconst tb_31_28 r
theorem tb_31_29 : mm_tb pg_G 31 29 = some (.isub, 0, 0, 0) := rfl
theorem st_31_29 {d : Nat} {ls t : List Value} {g : mm_M} {r : mm_R} {x y : Int32} : mm_Rn pg_G d 31 29 ls (.int y :: .int x :: t) g r ↔ mm_Rn pg_G d 31 30 ls (.int (x - y) :: t) g r := rn_isub tb_31_29 r
theorem tb_31_30 : mm_tb pg_G 31 30 = some (.iload_n 1, 0, 0, 0) := rfl
theorem st_31_30 {l0 : Value} {d : Nat} {t : List Value} {g : mm_M} {r : mm_R} {x : Int32} : mm_Rn pg_G d 31 30 [l0, .int x] (t) g r ↔ mm_Rn pg_G d 31 31 [l0, .int x] (.int x :: t) g r := rn_iload_n tb_31_30 rfl r
theorem tb_31_31 : mm_tb pg_G 31 31 = some (.isub, 0, 0, 0) := rfl
theorem st_31_31 {d : Nat} {ls t : List Value} {g : mm_M} {r : mm_R} {x y : Int32} : mm_Rn pg_G d 31 31 ls (.int y :: .int x :: t) g r ↔ mm_Rn pg_G d 31 32 ls (.int (x - y) :: t) g r := rn_isub tb_31_31 r
theorem tb_31_32 : mm_tb pg_G 31 32 = some (.bipush 63, 0, 0, 0) := rfl
theorem st_31_32 {d : Nat} {ls t : List Value} {g : mm_M} {r : mm_R} : mm_Rn pg_G d 31 32 ls (t) g r ↔ mm_Rn pg_G d 31 34 ls (io_v 63 :: t) g r := rn_bipush tb_31_32 r
theorem tb_31_34 : mm_tb pg_G 31 34 = some (.iand, 0, 0, 0) := rfl
theorem st_31_34 {d : Nat} {ls t : List Value} {g : mm_M} {r : mm_R} {x y : Int32} : mm_Rn pg_G d 31 34 ls (.int y :: .int x :: t) g r ↔ mm_Rn pg_G d 31 35 ls (.int (x &&& y) :: t) g r := rn_iand tb_31_34 r
theorem tb_31_35 : mm_tb pg_G 31 35 = some (.iaload, 0, 0, 0) := rfl
theorem st_31_35 {d : Nat} {ls t : List Value} {g : mm_M} {r : mm_R} {x : Nat} {j : Int32} (hc : mm_in (g.1 x) 100 101 j = true) : mm_Rn pg_G d 31 35 ls (.int j :: .ref x :: t) g r ↔ mm_Rn pg_G d 31 36 ls (g.2.1 x j.toNatClampNeg :: t) g r := rn_iaload tb_31_35 hc r
theorem tb_31_36 : mm_tb pg_G 31 36 = some (.ireturn, 0, 0, 0) := rfl
theorem st_31_36 {d : Nat} {ls : List Value} {g : mm_M} {r : mm_R} {x : Int32} : mm_Rn pg_G d 31 36 ls [.int x] g r ↔ r = (some (.int x), g) := rn_ireturn_iff tb_31_36 (Or.inl rfl) r
theorem tb_32_0 : mm_tb pg_G 32 0 = some (.aload_n 0, 0, 0, 0) := rfl
theorem st_32_0 {d : Nat} {t : List Value} {g : mm_M} {r : mm_R} {x : Nat} : mm_Rn pg_G d 32 0 [.ref x] (t) g r ↔ mm_Rn pg_G d 32 1 [.ref x] (.ref x :: t) g r := rn_aload_n tb_32_0 rfl r
theorem tb_32_1 : mm_tb pg_G 32 1 = some (.invokespecial 1, 998, 0, 44) := rfl
theorem st_32_1 {d : Nat} {ls t : List Value} {g : mm_M} {r : mm_R} {x : Nat} (hl : t.length ≤ 4) : mm_Rn pg_G (d + 1) 32 1 ls (.ref x :: t) g r ↔ mm_Rn pg_G (d + 1) 32 4 ls (t) g r := rn_oinit tb_32_1 hl r
theorem tb_32_4 : mm_tb pg_G 32 4 = some (.aload_n 0, 0, 0, 0) := rfl
theorem st_32_4 {d : Nat} {t : List Value} {g : mm_M} {r : mm_R} {x : Nat} : mm_Rn pg_G d 32 4 [.ref x] (t) g r ↔ mm_Rn pg_G d 32 5 [.ref x] (.ref x :: t) g r := rn_aload_n tb_32_4 rfl r
theorem tb_32_5 : mm_tb pg_G 32 5 = some (.bipush 6, 0, 0, 0) := rfl
theorem st_32_5 {d : Nat} {ls t : List Value} {g : mm_M} {r : mm_R} : mm_Rn pg_G d 32 5 ls (t) g r ↔ mm_Rn pg_G d 32 7 ls (io_v 6 :: t) g r := rn_bipush tb_32_5 r
theorem tb_32_7 : mm_tb pg_G 32 7 = some (.anewarray 9, 102, 0, 47) := rfl
theorem st_32_7 {d : Nat} {ls t : List Value} {g : mm_M} {r : mm_R} {x : Nat} {n : Int32} (hx : mm_pk pg_G 32 7 ls g.2.1 = x) (hT : g.1 x = none) (h0 : 0 ≤ n) (h1 : n.toNatClampNeg ≤ 1000) : mm_Rn pg_G d 32 7 ls (.int n :: t) g r ↔ mm_Rn pg_G d 32 10 ls (.ref x :: t) (mm_al g x 102 n.toNatClampNeg fun _ => .null) r := rn_anewarray tb_32_7 hx hT h0 h1 r
theorem tb_32_10 : mm_tb pg_G 32 10 = some (.putfield 11, 0, 0, 93) := rfl
theorem st_32_10 {d : Nat} {ls t : List Value} {g : mm_M} {r : mm_R} {x : Nat} {v : Nat} (hT : g.1 x = some (0, 8)) : mm_Rn pg_G d 32 10 ls (.ref v :: .ref x :: t) g r ↔ mm_Rn pg_G d 32 13 ls (t) (mm_wr g x 0 (.ref v)) r := rn_putfield tb_32_10 hT rfl r
theorem tb_32_13 : mm_tb pg_G 32 13 = some (.aload_n 0, 0, 0, 0) := rfl
theorem st_32_13 {d : Nat} {t : List Value} {g : mm_M} {r : mm_R} {x : Nat} : mm_Rn pg_G d 32 13 [.ref x] (t) g r ↔ mm_Rn pg_G d 32 14 [.ref x] (.ref x :: t) g r := rn_aload_n tb_32_13 rfl r
theorem tb_32_14 : mm_tb pg_G 32 14 = some (.iconst 4, 0, 0, 0) := rfl
theorem st_32_14 {d : Nat} {ls t : List Value} {g : mm_M} {r : mm_R} : mm_Rn pg_G d 32 14 ls (t) g r ↔ mm_Rn pg_G d 32 15 ls (io_v 4 :: t) g r := rn_iconst tb_32_14 r
theorem tb_32_15 : mm_tb pg_G 32 15 = some (.newarray .int, 0, 0, 0) := rfl
theorem st_32_15 {d : Nat} {ls t : List Value} {g : mm_M} {r : mm_R} {x : Nat} {n : Int32} (hx : mm_pk pg_G 32 15 ls g.2.1 = x) (hT : g.1 x = none) (h0 : 0 ≤ n) (h1 : n.toNatClampNeg ≤ 1000) : mm_Rn pg_G d 32 15 ls (.int n :: t) g r ↔ mm_Rn pg_G d 32 17 ls (.ref x :: t) (mm_al g x 100 n.toNatClampNeg fun _ => .int 0) r := rn_newarray tb_32_15 hx hT h0 h1 r
theorem tb_32_17 : mm_tb pg_G 32 17 = some (.putfield 15, 0, 1, 94) := rfl
theorem st_32_17 {d : Nat} {ls t : List Value} {g : mm_M} {r : mm_R} {x : Nat} {v : Nat} (hT : g.1 x = some (0, 8)) : mm_Rn pg_G d 32 17 ls (.ref v :: .ref x :: t) g r ↔ mm_Rn pg_G d 32 20 ls (t) (mm_wr g x 1 (.ref v)) r := rn_putfield tb_32_17 hT rfl r
theorem tb_32_20 : mm_tb pg_G 32 20 = some (.aload_n 0, 0, 0, 0) := rfl
theorem st_32_20 {d : Nat} {t : List Value} {g : mm_M} {r : mm_R} {x : Nat} : mm_Rn pg_G d 32 20 [.ref x] (t) g r ↔ mm_Rn pg_G d 32 21 [.ref x] (.ref x :: t) g r := rn_aload_n tb_32_20 rfl r
theorem tb_32_21 : mm_tb pg_G 32 21 = some (.new 19, 1, 0, 48) := rfl
theorem st_32_21 {d : Nat} {ls t : List Value} {g : mm_M} {r : mm_R} {x : Nat} (hx : mm_pk pg_G 32 21 ls g.2.1 = x) (hT : g.1 x = none) : mm_Rn pg_G d 32 21 ls (t) g r ↔ mm_Rn pg_G d 32 24 ls (.ref x :: t) (mm_al g x 1 9 fun k => defaultValue (mm_ft pg_G 1 k)) r := rn_new tb_32_21 hx hT r
theorem tb_32_24 : mm_tb pg_G 32 24 = some (.dup, 0, 0, 0) := rfl
theorem st_32_24 {d : Nat} {ls t : List Value} {g : mm_M} {r : mm_R} {v : Value} (hc : mm_c1 v = true) : mm_Rn pg_G d 32 24 ls (v :: t) g r ↔ mm_Rn pg_G d 32 25 ls (v :: v :: t) g r := rn_dup tb_32_24 hc r
theorem tb_32_25 : mm_tb pg_G 32 25 = some (.invokespecial 21, 21, 1, 0) := rfl
theorem st_32_25 {d c s c' s' : Nat} {ls t : List Value} {I J : sp_I} {r : mm_R} {y : Nat} (hl : t.length ≤ 4) (hq : mm_Rn pg_G d 21 0 [.ref y] [] (sp_me I 0 0) (none, sp_me J c' s')) : mm_Rn pg_G (d + 1) 32 25 ls (.ref y :: t) (sp_me I c s) r ↔ mm_Rn pg_G (d + 1) 32 28 ls (t) (sp_me J (c + c') (s + s')) r := rn_spec (g := sp_me I c s) (st := .ref y :: t) tb_32_25 (by decide) rfl ⟨Nat.le_add_left _ t.length, hl, rfl⟩ hq r
theorem tb_32_28 : mm_tb pg_G 32 28 = some (.putfield 22, 0, 2, 95) := rfl
theorem st_32_28 {d : Nat} {ls t : List Value} {g : mm_M} {r : mm_R} {x : Nat} {v : Nat} (hT : g.1 x = some (0, 8)) : mm_Rn pg_G d 32 28 ls (.ref v :: .ref x :: t) g r ↔ mm_Rn pg_G d 32 31 ls (t) (mm_wr g x 2 (.ref v)) r := rn_putfield tb_32_28 hT rfl r
theorem tb_32_31 : mm_tb pg_G 32 31 = some (.aload_n 0, 0, 0, 0) := rfl
theorem st_32_31 {d : Nat} {t : List Value} {g : mm_M} {r : mm_R} {x : Nat} : mm_Rn pg_G d 32 31 [.ref x] (t) g r ↔ mm_Rn pg_G d 32 32 [.ref x] (.ref x :: t) g r := rn_aload_n tb_32_31 rfl r
theorem tb_32_32 : mm_tb pg_G 32 32 = some (.new 26, 2, 0, 77) := rfl
theorem st_32_32 {d : Nat} {ls t : List Value} {g : mm_M} {r : mm_R} {x : Nat} (hx : mm_pk pg_G 32 32 ls g.2.1 = x) (hT : g.1 x = none) : mm_Rn pg_G d 32 32 ls (t) g r ↔ mm_Rn pg_G d 32 35 ls (.ref x :: t) (mm_al g x 2 4 fun k => defaultValue (mm_ft pg_G 2 k)) r := rn_new tb_32_32 hx hT r
theorem tb_32_35 : mm_tb pg_G 32 35 = some (.dup, 0, 0, 0) := rfl
theorem st_32_35 {d : Nat} {ls t : List Value} {g : mm_M} {r : mm_R} {v : Value} (hc : mm_c1 v = true) : mm_Rn pg_G d 32 35 ls (v :: t) g r ↔ mm_Rn pg_G d 32 36 ls (v :: v :: t) g r := rn_dup tb_32_35 hc r
theorem tb_32_36 : mm_tb pg_G 32 36 = some (.invokespecial 28, 29, 1, 1) := rfl
theorem st_32_36 {d c s c' s' : Nat} {ls t : List Value} {I J : sp_I} {r : mm_R} {y : Nat} (hl : t.length ≤ 4) (hq : mm_Rn pg_G d 29 0 [.ref y] [] (sp_me I 0 0) (none, sp_me J c' s')) : mm_Rn pg_G (d + 1) 32 36 ls (.ref y :: t) (sp_me I c s) r ↔ mm_Rn pg_G (d + 1) 32 39 ls (t) (sp_me J (c + c') (s + s')) r := rn_spec (g := sp_me I c s) (st := .ref y :: t) tb_32_36 (by decide) rfl ⟨Nat.le_add_left _ t.length, hl, rfl⟩ hq r
theorem tb_32_39 : mm_tb pg_G 32 39 = some (.putfield 29, 0, 3, 96) := rfl
theorem st_32_39 {d : Nat} {ls t : List Value} {g : mm_M} {r : mm_R} {x : Nat} {v : Nat} (hT : g.1 x = some (0, 8)) : mm_Rn pg_G d 32 39 ls (.ref v :: .ref x :: t) g r ↔ mm_Rn pg_G d 32 42 ls (t) (mm_wr g x 3 (.ref v)) r := rn_putfield tb_32_39 hT rfl r
theorem tb_32_42 : mm_tb pg_G 32 42 = some (.aload_n 0, 0, 0, 0) := rfl
theorem st_32_42 {d : Nat} {t : List Value} {g : mm_M} {r : mm_R} {x : Nat} : mm_Rn pg_G d 32 42 [.ref x] (t) g r ↔ mm_Rn pg_G d 32 43 [.ref x] (.ref x :: t) g r := rn_aload_n tb_32_42 rfl r
theorem tb_32_43 : mm_tb pg_G 32 43 = some (.iconst 0, 0, 0, 0) := rfl
theorem st_32_43 {d : Nat} {ls t : List Value} {g : mm_M} {r : mm_R} : mm_Rn pg_G d 32 43 ls (t) g r ↔ mm_Rn pg_G d 32 44 ls (io_v 0 :: t) g r := rn_iconst tb_32_43 r
theorem tb_32_44 : mm_tb pg_G 32 44 = some (.putfield 33, 0, 4, 97) := rfl
theorem st_32_44 {d : Nat} {ls t : List Value} {g : mm_M} {r : mm_R} {x : Nat} {v : Int32} (hT : g.1 x = some (0, 8)) : mm_Rn pg_G d 32 44 ls (.int v :: .ref x :: t) g r ↔ mm_Rn pg_G d 32 47 ls (t) (mm_wr g x 4 (.int v)) r := rn_putfield tb_32_44 hT rfl r
theorem tb_32_47 : mm_tb pg_G 32 47 = some (.aload_n 0, 0, 0, 0) := rfl
theorem st_32_47 {d : Nat} {t : List Value} {g : mm_M} {r : mm_R} {x : Nat} : mm_Rn pg_G d 32 47 [.ref x] (t) g r ↔ mm_Rn pg_G d 32 48 [.ref x] (.ref x :: t) g r := rn_aload_n tb_32_47 rfl r
theorem tb_32_48 : mm_tb pg_G 32 48 = some (.iconst 0, 0, 0, 0) := rfl
theorem st_32_48 {d : Nat} {ls t : List Value} {g : mm_M} {r : mm_R} : mm_Rn pg_G d 32 48 ls (t) g r ↔ mm_Rn pg_G d 32 49 ls (io_v 0 :: t) g r := rn_iconst tb_32_48 r
theorem tb_32_49 : mm_tb pg_G 32 49 = some (.putfield 37, 0, 5, 98) := rfl
theorem st_32_49 {d : Nat} {ls t : List Value} {g : mm_M} {r : mm_R} {x : Nat} {v : Int32} (hT : g.1 x = some (0, 8)) (hf : fits .boolean (.int v) = true) : mm_Rn pg_G d 32 49 ls (.int v :: .ref x :: t) g r ↔ mm_Rn pg_G d 32 52 ls (t) (mm_wr g x 5 (.int v)) r := rn_putfield tb_32_49 hT hf r
theorem tb_32_52 : mm_tb pg_G 32 52 = some (.aload_n 0, 0, 0, 0) := rfl
theorem st_32_52 {d : Nat} {t : List Value} {g : mm_M} {r : mm_R} {x : Nat} : mm_Rn pg_G d 32 52 [.ref x] (t) g r ↔ mm_Rn pg_G d 32 53 [.ref x] (.ref x :: t) g r := rn_aload_n tb_32_52 rfl r
theorem tb_32_53 : mm_tb pg_G 32 53 = some (.iconst 0, 0, 0, 0) := rfl
theorem st_32_53 {d : Nat} {ls t : List Value} {g : mm_M} {r : mm_R} : mm_Rn pg_G d 32 53 ls (t) g r ↔ mm_Rn pg_G d 32 54 ls (io_v 0 :: t) g r := rn_iconst tb_32_53 r
theorem tb_32_54 : mm_tb pg_G 32 54 = some (.putfield 41, 0, 6, 99) := rfl
theorem st_32_54 {d : Nat} {ls t : List Value} {g : mm_M} {r : mm_R} {x : Nat} {v : Int32} (hT : g.1 x = some (0, 8)) : mm_Rn pg_G d 32 54 ls (.int v :: .ref x :: t) g r ↔ mm_Rn pg_G d 32 57 ls (t) (mm_wr g x 6 (.int v)) r := rn_putfield tb_32_54 hT rfl r
theorem tb_32_57 : mm_tb pg_G 32 57 = some (.aload_n 0, 0, 0, 0) := rfl
theorem st_32_57 {d : Nat} {t : List Value} {g : mm_M} {r : mm_R} {x : Nat} : mm_Rn pg_G d 32 57 [.ref x] (t) g r ↔ mm_Rn pg_G d 32 58 [.ref x] (.ref x :: t) g r := rn_aload_n tb_32_57 rfl r
theorem tb_32_58 : mm_tb pg_G 32 58 = some (.iconst 0, 0, 0, 0) := rfl
theorem st_32_58 {d : Nat} {ls t : List Value} {g : mm_M} {r : mm_R} : mm_Rn pg_G d 32 58 ls (t) g r ↔ mm_Rn pg_G d 32 59 ls (io_v 0 :: t) g r := rn_iconst tb_32_58 r
theorem tb_32_59 : mm_tb pg_G 32 59 = some (.putfield 44, 0, 7, 100) := rfl
theorem st_32_59 {d : Nat} {ls t : List Value} {g : mm_M} {r : mm_R} {x : Nat} {v : Int32} (hT : g.1 x = some (0, 8)) : mm_Rn pg_G d 32 59 ls (.int v :: .ref x :: t) g r ↔ mm_Rn pg_G d 32 62 ls (t) (mm_wr g x 7 (.int v)) r := rn_putfield tb_32_59 hT rfl r
theorem tb_32_62 : mm_tb pg_G 32 62 = some (.return_, 0, 0, 0) := rfl
theorem st_32_62 {d : Nat} {ls : List Value} {g : mm_M} {r : mm_R} : mm_Rn pg_G d 32 62 ls [] g r ↔ r = (none, g) := rn_return_iff tb_32_62 rfl r
