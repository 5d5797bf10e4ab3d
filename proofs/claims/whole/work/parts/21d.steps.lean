/-! a row an instruction of the program -/
theorem tb_49_0 : mm_tb pg_G 49 0 = some (.aload_n 0, 0, 0, 0) := rfl
theorem st_49_0 {l1 : Value} {d : Nat} {t : List Value} {g : mm_M} {r : mm_R} {x : Nat} : mm_Rn pg_G d 49 0 [.ref x, l1] (t) g r ↔ mm_Rn pg_G d 49 1 [.ref x, l1] (.ref x :: t) g r := rn_aload_n tb_49_0 rfl r
theorem tb_49_1 : mm_tb pg_G 49 1 = some (.iload_n 1, 0, 0, 0) := rfl
theorem st_49_1 {l0 : Value} {d : Nat} {t : List Value} {g : mm_M} {r : mm_R} {x : Int32} : mm_Rn pg_G d 49 1 [l0, .int x] (t) g r ↔ mm_Rn pg_G d 49 2 [l0, .int x] (.int x :: t) g r := rn_iload_n tb_49_1 rfl r
theorem tb_49_2 : mm_tb pg_G 49 2 = some (.invokevirtual 50, 52, 2, 172) := rfl
theorem st_49_2 {d c s c' s' : Nat} {ls t : List Value} {I J : sp_I} {r : mm_R} {a0 : Int32} {y : Nat} {v : Int32} (hl : t.length ≤ 4) (hT : sp_T I y = some (0, 8)) (hq : mm_Rn pg_G d 52 0 [.ref y, .int a0] [] (sp_me I 0 0) (some (.int v), sp_me J c' s')) : mm_Rn pg_G (d + 1) 49 2 ls (.int a0 :: .ref y :: t) (sp_me I c s) r ↔ mm_Rn pg_G (d + 1) 49 5 ls (.int v :: t) (sp_me J (c + c') (s + s')) r := rn_virt (g := sp_me I c s) (st := .int a0 :: .ref y :: t) tb_49_2 (decide_eq_true hT) ⟨Nat.le_add_left _ t.length, hl, rfl⟩ hq r
theorem tb_49_5 : mm_tb pg_G 49 5 = some (.ifCond .eq 15, 20, 0, 0) := rfl
theorem st_49_5 {d : Nat} {ls t : List Value} {g : mm_M} {r : mm_R} {x : Int32} : mm_Rn pg_G d 49 5 ls (.int x :: t) g r ↔ if x = 0 then mm_Rn pg_G d 49 20 ls (t) g r else mm_Rn pg_G d 49 8 ls (t) g r := rn_if_eq tb_49_5 r
theorem tb_49_8 : mm_tb pg_G 49 8 = some (.aload_n 0, 0, 0, 0) := rfl
theorem st_49_8 {l1 : Value} {d : Nat} {t : List Value} {g : mm_M} {r : mm_R} {x : Nat} : mm_Rn pg_G d 49 8 [.ref x, l1] (t) g r ↔ mm_Rn pg_G d 49 9 [.ref x, l1] (.ref x :: t) g r := rn_aload_n tb_49_8 rfl r
theorem tb_49_9 : mm_tb pg_G 49 9 = some (.getfield 11, 0, 0, 93) := rfl
theorem st_49_9 {d : Nat} {ls t : List Value} {g : mm_M} {r : mm_R} {x : Nat} (hT : g.1 x = some (0, 8)) : mm_Rn pg_G d 49 9 ls (.ref x :: t) g r ↔ mm_Rn pg_G d 49 12 ls (g.2.1 x 0 :: t) g r := rn_getfield tb_49_9 hT r
theorem tb_49_12 : mm_tb pg_G 49 12 = some (.iload_n 1, 0, 0, 0) := rfl
theorem st_49_12 {l0 : Value} {d : Nat} {t : List Value} {g : mm_M} {r : mm_R} {x : Int32} : mm_Rn pg_G d 49 12 [l0, .int x] (t) g r ↔ mm_Rn pg_G d 49 13 [l0, .int x] (.int x :: t) g r := rn_iload_n tb_49_12 rfl r
theorem tb_49_13 : mm_tb pg_G 49 13 = some (.aaload, 0, 0, 0) := rfl
theorem st_49_13 {d : Nat} {ls t : List Value} {g : mm_M} {r : mm_R} {x : Nat} {j : Int32} (hc : mm_in (g.1 x) 102 103 j = true) : mm_Rn pg_G d 49 13 ls (.int j :: .ref x :: t) g r ↔ mm_Rn pg_G d 49 14 ls (g.2.1 x j.toNatClampNeg :: t) g r := rn_aaload tb_49_13 hc r
theorem tb_49_14 : mm_tb pg_G 49 14 = some (.getfield 148, 3, 7, 154) := rfl
theorem st_49_14 {d : Nat} {ls t : List Value} {g : mm_M} {r : mm_R} {x : Nat} (hT : g.1 x = some (3, 10)) : mm_Rn pg_G d 49 14 ls (.ref x :: t) g r ↔ mm_Rn pg_G d 49 17 ls (g.2.1 x 7 :: t) g r := rn_getfield tb_49_14 hT r
theorem tb_49_17 : mm_tb pg_G 49 17 = some (.goto 4, 21, 0, 0) := rfl
theorem st_49_17 {d : Nat} {ls t : List Value} {g : mm_M} {r : mm_R} : mm_Rn pg_G d 49 17 ls (t) g r ↔ mm_Rn pg_G d 49 21 ls (t) g r := rn_goto tb_49_17 r
theorem tb_49_20 : mm_tb pg_G 49 20 = some (.iconst (-1), 0, 0, 0) := rfl
theorem st_49_20 {d : Nat} {ls t : List Value} {g : mm_M} {r : mm_R} : mm_Rn pg_G d 49 20 ls (t) g r ↔ mm_Rn pg_G d 49 21 ls (io_v (-1) :: t) g r := rn_iconst tb_49_20 r
theorem tb_49_21 : mm_tb pg_G 49 21 = some (.ireturn, 0, 0, 0) := rfl
theorem st_49_21 {d : Nat} {ls : List Value} {g : mm_M} {r : mm_R} {x : Int32} : mm_Rn pg_G d 49 21 ls [.int x] g r ↔ r = (some (.int x), g) := rn_ireturn_iff tb_49_21 (Or.inl rfl) r
theorem tb_50_0 : mm_tb pg_G 50 0 = some (.aload_n 0, 0, 0, 0) := rfl
theorem st_50_0 {l1 : Value} {d : Nat} {t : List Value} {g : mm_M} {r : mm_R} {x : Nat} : mm_Rn pg_G d 50 0 [.ref x, l1] (t) g r ↔ mm_Rn pg_G d 50 1 [.ref x, l1] (.ref x :: t) g r := rn_aload_n tb_50_0 rfl r
theorem tb_50_1 : mm_tb pg_G 50 1 = some (.getfield 22, 0, 2, 95) := rfl
theorem st_50_1 {d : Nat} {ls t : List Value} {g : mm_M} {r : mm_R} {x : Nat} (hT : g.1 x = some (0, 8)) : mm_Rn pg_G d 50 1 ls (.ref x :: t) g r ↔ mm_Rn pg_G d 50 4 ls (g.2.1 x 2 :: t) g r := rn_getfield tb_50_1 hT r
theorem tb_50_4 : mm_tb pg_G 50 4 = some (.invokevirtual 113, 22, 1, 238) := rfl
theorem st_50_4 {d c s c' s' : Nat} {ls t : List Value} {I J : sp_I} {r : mm_R} {y : Nat} {v : Int32} (hl : t.length ≤ 4) (hT : sp_T I y = some (1, 9)) (hq : mm_Rn pg_G d 22 0 [.ref y] [] (sp_me I 0 0) (some (.int v), sp_me J c' s')) : mm_Rn pg_G (d + 1) 50 4 ls (.ref y :: t) (sp_me I c s) r ↔ mm_Rn pg_G (d + 1) 50 7 ls (.int v :: t) (sp_me J (c + c') (s + s')) r := rn_virt (g := sp_me I c s) (st := .ref y :: t) tb_50_4 (decide_eq_true hT) ⟨Nat.le_add_left _ t.length, hl, rfl⟩ hq r
theorem tb_50_7 : mm_tb pg_G 50 7 = some (.ifCond .eq 14, 21, 0, 0) := rfl
theorem st_50_7 {d : Nat} {ls t : List Value} {g : mm_M} {r : mm_R} {x : Int32} : mm_Rn pg_G d 50 7 ls (.int x :: t) g r ↔ if x = 0 then mm_Rn pg_G d 50 21 ls (t) g r else mm_Rn pg_G d 50 10 ls (t) g r := rn_if_eq tb_50_7 r
theorem tb_50_10 : mm_tb pg_G 50 10 = some (.aload_n 0, 0, 0, 0) := rfl
theorem st_50_10 {l1 : Value} {d : Nat} {t : List Value} {g : mm_M} {r : mm_R} {x : Nat} : mm_Rn pg_G d 50 10 [.ref x, l1] (t) g r ↔ mm_Rn pg_G d 50 11 [.ref x, l1] (.ref x :: t) g r := rn_aload_n tb_50_10 rfl r
theorem tb_50_11 : mm_tb pg_G 50 11 = some (.getfield 22, 0, 2, 95) := rfl
theorem st_50_11 {d : Nat} {ls t : List Value} {g : mm_M} {r : mm_R} {x : Nat} (hT : g.1 x = some (0, 8)) : mm_Rn pg_G d 50 11 ls (.ref x :: t) g r ↔ mm_Rn pg_G d 50 14 ls (g.2.1 x 2 :: t) g r := rn_getfield tb_50_11 hT r
theorem tb_50_14 : mm_tb pg_G 50 14 = some (.iload_n 1, 0, 0, 0) := rfl
theorem st_50_14 {l0 : Value} {d : Nat} {t : List Value} {g : mm_M} {r : mm_R} {x : Int32} : mm_Rn pg_G d 50 14 [l0, .int x] (t) g r ↔ mm_Rn pg_G d 50 15 [l0, .int x] (.int x :: t) g r := rn_iload_n tb_50_14 rfl r
theorem tb_50_15 : mm_tb pg_G 50 15 = some (.invokevirtual 151, 28, 2, 401) := rfl
theorem st_50_15 {d c s c' s' : Nat} {ls t : List Value} {I J : sp_I} {r : mm_R} {a0 : Int32} {y : Nat} {v : Int32} (hl : t.length ≤ 4) (hT : sp_T I y = some (1, 9)) (hq : mm_Rn pg_G d 28 0 [.ref y, .int a0] [] (sp_me I 0 0) (some (.int v), sp_me J c' s')) : mm_Rn pg_G (d + 1) 50 15 ls (.int a0 :: .ref y :: t) (sp_me I c s) r ↔ mm_Rn pg_G (d + 1) 50 18 ls (.int v :: t) (sp_me J (c + c') (s + s')) r := rn_virt (g := sp_me I c s) (st := .int a0 :: .ref y :: t) tb_50_15 (decide_eq_true hT) ⟨Nat.le_add_left _ t.length, hl, rfl⟩ hq r
theorem tb_50_18 : mm_tb pg_G 50 18 = some (.goto 4, 22, 0, 0) := rfl
theorem st_50_18 {d : Nat} {ls t : List Value} {g : mm_M} {r : mm_R} : mm_Rn pg_G d 50 18 ls (t) g r ↔ mm_Rn pg_G d 50 22 ls (t) g r := rn_goto tb_50_18 r
theorem tb_50_21 : mm_tb pg_G 50 21 = some (.iconst (-1), 0, 0, 0) := rfl
theorem st_50_21 {d : Nat} {ls t : List Value} {g : mm_M} {r : mm_R} : mm_Rn pg_G d 50 21 ls (t) g r ↔ mm_Rn pg_G d 50 22 ls (io_v (-1) :: t) g r := rn_iconst tb_50_21 r
theorem tb_50_22 : mm_tb pg_G 50 22 = some (.ireturn, 0, 0, 0) := rfl
theorem st_50_22 {d : Nat} {ls : List Value} {g : mm_M} {r : mm_R} {x : Int32} : mm_Rn pg_G d 50 22 ls [.int x] g r ↔ r = (some (.int x), g) := rn_ireturn_iff tb_50_22 (Or.inl rfl) r
theorem tb_51_0 : mm_tb pg_G 51 0 = some (.iload_n 1, 0, 0, 0) := rfl
theorem st_51_0 {l0 : Value} {d : Nat} {t : List Value} {g : mm_M} {r : mm_R} {x : Int32} : mm_Rn pg_G d 51 0 [l0, .int x] (t) g r ↔ mm_Rn pg_G d 51 1 [l0, .int x] (.int x :: t) g r := rn_iload_n tb_51_0 rfl r
theorem tb_51_1 : mm_tb pg_G 51 1 = some (.tableswitch 57 0 3 #[31, 39, 47, 52], 0, 31, 0) := rfl
theorem st_51_1_d {d : Nat} {ls t : List Value} {g : mm_M} {r : mm_R} {x : Int32} (hx : x.toInt < 0 ∨ 3 < x.toInt) : mm_Rn pg_G d 51 1 ls (.int x :: t) g r ↔ mm_Rn pg_G d 51 58 ls (t) g r := rn_ts tb_51_1 (if_pos hx) rfl r
theorem st_51_1_0 {d : Nat} {ls t : List Value} {g : mm_M} {r : mm_R} {x : Int32} (hx : x.toInt = 0) : mm_Rn pg_G d 51 1 ls (.int x :: t) g r ↔ mm_Rn pg_G d 51 32 ls (t) g r := rn_ts (off := 31) tb_51_1 (by rw [hx]; rfl) rfl r
theorem st_51_1_1 {d : Nat} {ls t : List Value} {g : mm_M} {r : mm_R} {x : Int32} (hx : x.toInt = 1) : mm_Rn pg_G d 51 1 ls (.int x :: t) g r ↔ mm_Rn pg_G d 51 40 ls (t) g r := rn_ts (off := 39) tb_51_1 (by rw [hx]; rfl) rfl r
theorem st_51_1_2 {d : Nat} {ls t : List Value} {g : mm_M} {r : mm_R} {x : Int32} (hx : x.toInt = 2) : mm_Rn pg_G d 51 1 ls (.int x :: t) g r ↔ mm_Rn pg_G d 51 48 ls (t) g r := rn_ts (off := 47) tb_51_1 (by rw [hx]; rfl) rfl r
theorem st_51_1_3 {d : Nat} {ls t : List Value} {g : mm_M} {r : mm_R} {x : Int32} (hx : x.toInt = 3) : mm_Rn pg_G d 51 1 ls (.int x :: t) g r ↔ mm_Rn pg_G d 51 53 ls (t) g r := rn_ts (off := 52) tb_51_1 (by rw [hx]; rfl) rfl r
theorem tb_51_32 : mm_tb pg_G 51 32 = some (.aload_n 0, 0, 0, 0) := rfl
theorem st_51_32 {l1 : Value} {d : Nat} {t : List Value} {g : mm_M} {r : mm_R} {x : Nat} : mm_Rn pg_G d 51 32 [.ref x, l1] (t) g r ↔ mm_Rn pg_G d 51 33 [.ref x, l1] (.ref x :: t) g r := rn_aload_n tb_51_32 rfl r
theorem tb_51_33 : mm_tb pg_G 51 33 = some (.getfield 29, 0, 3, 96) := rfl
theorem st_51_33 {d : Nat} {ls t : List Value} {g : mm_M} {r : mm_R} {x : Nat} (hT : g.1 x = some (0, 8)) : mm_Rn pg_G d 51 33 ls (.ref x :: t) g r ↔ mm_Rn pg_G d 51 36 ls (g.2.1 x 3 :: t) g r := rn_getfield tb_51_33 hT r
theorem tb_51_36 : mm_tb pg_G 51 36 = some (.getfield 152, 2, 2, 86) := rfl
theorem st_51_36 {d : Nat} {ls t : List Value} {g : mm_M} {r : mm_R} {x : Nat} (hT : g.1 x = some (2, 4)) : mm_Rn pg_G d 51 36 ls (.ref x :: t) g r ↔ mm_Rn pg_G d 51 39 ls (g.2.1 x 2 :: t) g r := rn_getfield tb_51_36 hT r
theorem tb_51_39 : mm_tb pg_G 51 39 = some (.ireturn, 0, 0, 0) := rfl
theorem st_51_39 {d : Nat} {ls : List Value} {g : mm_M} {r : mm_R} {x : Int32} : mm_Rn pg_G d 51 39 ls [.int x] g r ↔ r = (some (.int x), g) := rn_ireturn_iff tb_51_39 (Or.inl rfl) r
theorem tb_51_40 : mm_tb pg_G 51 40 = some (.aload_n 0, 0, 0, 0) := rfl
theorem st_51_40 {l1 : Value} {d : Nat} {t : List Value} {g : mm_M} {r : mm_R} {x : Nat} : mm_Rn pg_G d 51 40 [.ref x, l1] (t) g r ↔ mm_Rn pg_G d 51 41 [.ref x, l1] (.ref x :: t) g r := rn_aload_n tb_51_40 rfl r
theorem tb_51_41 : mm_tb pg_G 51 41 = some (.getfield 29, 0, 3, 96) := rfl
theorem st_51_41 {d : Nat} {ls t : List Value} {g : mm_M} {r : mm_R} {x : Nat} (hT : g.1 x = some (0, 8)) : mm_Rn pg_G d 51 41 ls (.ref x :: t) g r ↔ mm_Rn pg_G d 51 44 ls (g.2.1 x 3 :: t) g r := rn_getfield tb_51_41 hT r
theorem tb_51_44 : mm_tb pg_G 51 44 = some (.getfield 155, 2, 3, 88) := rfl
theorem st_51_44 {d : Nat} {ls t : List Value} {g : mm_M} {r : mm_R} {x : Nat} (hT : g.1 x = some (2, 4)) : mm_Rn pg_G d 51 44 ls (.ref x :: t) g r ↔ mm_Rn pg_G d 51 47 ls (g.2.1 x 3 :: t) g r := rn_getfield tb_51_44 hT r
theorem tb_51_47 : mm_tb pg_G 51 47 = some (.ireturn, 0, 0, 0) := rfl
theorem st_51_47 {d : Nat} {ls : List Value} {g : mm_M} {r : mm_R} {x : Int32} : mm_Rn pg_G d 51 47 ls [.int x] g r ↔ r = (some (.int x), g) := rn_ireturn_iff tb_51_47 (Or.inl rfl) r
theorem tb_51_48 : mm_tb pg_G 51 48 = some (.aload_n 0, 0, 0, 0) := rfl
theorem st_51_48 {l1 : Value} {d : Nat} {t : List Value} {g : mm_M} {r : mm_R} {x : Nat} : mm_Rn pg_G d 51 48 [.ref x, l1] (t) g r ↔ mm_Rn pg_G d 51 49 [.ref x, l1] (.ref x :: t) g r := rn_aload_n tb_51_48 rfl r
theorem tb_51_49 : mm_tb pg_G 51 49 = some (.getfield 44, 0, 7, 100) := rfl
theorem st_51_49 {d : Nat} {ls t : List Value} {g : mm_M} {r : mm_R} {x : Nat} (hT : g.1 x = some (0, 8)) : mm_Rn pg_G d 51 49 ls (.ref x :: t) g r ↔ mm_Rn pg_G d 51 52 ls (g.2.1 x 7 :: t) g r := rn_getfield tb_51_49 hT r
theorem tb_51_52 : mm_tb pg_G 51 52 = some (.ireturn, 0, 0, 0) := rfl
theorem st_51_52 {d : Nat} {ls : List Value} {g : mm_M} {r : mm_R} {x : Int32} : mm_Rn pg_G d 51 52 ls [.int x] g r ↔ r = (some (.int x), g) := rn_ireturn_iff tb_51_52 (Or.inl rfl) r
theorem tb_51_53 : mm_tb pg_G 51 53 = some (.aload_n 0, 0, 0, 0) := rfl
theorem st_51_53 {l1 : Value} {d : Nat} {t : List Value} {g : mm_M} {r : mm_R} {x : Nat} : mm_Rn pg_G d 51 53 [.ref x, l1] (t) g r ↔ mm_Rn pg_G d 51 54 [.ref x, l1] (.ref x :: t) g r := rn_aload_n tb_51_53 rfl r
theorem tb_51_54 : mm_tb pg_G 51 54 = some (.invokevirtual 158, 54, 1, 413) := rfl
theorem st_51_54 {d c s c' s' : Nat} {ls t : List Value} {I J : sp_I} {r : mm_R} {y : Nat} {v : Int32} (hl : t.length ≤ 4) (hT : sp_T I y = some (0, 8)) (hq : mm_Rn pg_G d 54 0 [.ref y, .retAddr 0, .retAddr 0] [] (sp_me I 0 0) (some (.int v), sp_me J c' s')) : mm_Rn pg_G (d + 1) 51 54 ls (.ref y :: t) (sp_me I c s) r ↔ mm_Rn pg_G (d + 1) 51 57 ls (.int v :: t) (sp_me J (c + c') (s + s')) r := rn_virt (g := sp_me I c s) (st := .ref y :: t) tb_51_54 (decide_eq_true hT) ⟨Nat.le_add_left _ t.length, hl, rfl⟩ hq r
theorem tb_51_57 : mm_tb pg_G 51 57 = some (.ireturn, 0, 0, 0) := rfl
theorem st_51_57 {d : Nat} {ls : List Value} {g : mm_M} {r : mm_R} {x : Int32} : mm_Rn pg_G d 51 57 ls [.int x] g r ↔ r = (some (.int x), g) := rn_ireturn_iff tb_51_57 (Or.inl rfl) r
theorem tb_51_58 : mm_tb pg_G 51 58 = some (.iconst (-1), 0, 0, 0) := rfl
theorem st_51_58 {d : Nat} {ls t : List Value} {g : mm_M} {r : mm_R} : mm_Rn pg_G d 51 58 ls (t) g r ↔ mm_Rn pg_G d 51 59 ls (io_v (-1) :: t) g r := rn_iconst tb_51_58 r
theorem tb_51_59 : mm_tb pg_G 51 59 = some (.ireturn, 0, 0, 0) := rfl
theorem st_51_59 {d : Nat} {ls : List Value} {g : mm_M} {r : mm_R} {x : Int32} : mm_Rn pg_G d 51 59 ls [.int x] g r ↔ r = (some (.int x), g) := rn_ireturn_iff tb_51_59 (Or.inl rfl) r
theorem tb_52_0 : mm_tb pg_G 52 0 = some (.iconst 0, 0, 0, 0) := rfl
theorem st_52_0 {d : Nat} {ls t : List Value} {g : mm_M} {r : mm_R} : mm_Rn pg_G d 52 0 ls (t) g r ↔ mm_Rn pg_G d 52 1 ls (io_v 0 :: t) g r := rn_iconst tb_52_0 r
theorem tb_52_1 : mm_tb pg_G 52 1 = some (.iload_n 1, 0, 0, 0) := rfl
theorem st_52_1 {l0 : Value} {d : Nat} {t : List Value} {g : mm_M} {r : mm_R} {x : Int32} : mm_Rn pg_G d 52 1 [l0, .int x] (t) g r ↔ mm_Rn pg_G d 52 2 [l0, .int x] (.int x :: t) g r := rn_iload_n tb_52_1 rfl r
theorem tb_52_2 : mm_tb pg_G 52 2 = some (.if_icmp .gt 15, 17, 0, 0) := rfl
theorem st_52_2 {d : Nat} {ls t : List Value} {g : mm_M} {r : mm_R} {x y : Int32} : mm_Rn pg_G d 52 2 ls (.int y :: .int x :: t) g r ↔ if y < x then mm_Rn pg_G d 52 17 ls (t) g r else mm_Rn pg_G d 52 5 ls (t) g r := rn_icmp_gt tb_52_2 r
theorem tb_52_5 : mm_tb pg_G 52 5 = some (.iload_n 1, 0, 0, 0) := rfl
theorem st_52_5 {l0 : Value} {d : Nat} {t : List Value} {g : mm_M} {r : mm_R} {x : Int32} : mm_Rn pg_G d 52 5 [l0, .int x] (t) g r ↔ mm_Rn pg_G d 52 6 [l0, .int x] (.int x :: t) g r := rn_iload_n tb_52_5 rfl r
theorem tb_52_6 : mm_tb pg_G 52 6 = some (.aload_n 0, 0, 0, 0) := rfl
theorem st_52_6 {l1 : Value} {d : Nat} {t : List Value} {g : mm_M} {r : mm_R} {x : Nat} : mm_Rn pg_G d 52 6 [.ref x, l1] (t) g r ↔ mm_Rn pg_G d 52 7 [.ref x, l1] (.ref x :: t) g r := rn_aload_n tb_52_6 rfl r
theorem tb_52_7 : mm_tb pg_G 52 7 = some (.getfield 33, 0, 4, 97) := rfl
theorem st_52_7 {d : Nat} {ls t : List Value} {g : mm_M} {r : mm_R} {x : Nat} (hT : g.1 x = some (0, 8)) : mm_Rn pg_G d 52 7 ls (.ref x :: t) g r ↔ mm_Rn pg_G d 52 10 ls (g.2.1 x 4 :: t) g r := rn_getfield tb_52_7 hT r
theorem tb_52_10 : mm_tb pg_G 52 10 = some (.if_icmp .ge 7, 17, 0, 0) := rfl
theorem st_52_10 {d : Nat} {ls t : List Value} {g : mm_M} {r : mm_R} {x y : Int32} : mm_Rn pg_G d 52 10 ls (.int y :: .int x :: t) g r ↔ if y ≤ x then mm_Rn pg_G d 52 17 ls (t) g r else mm_Rn pg_G d 52 13 ls (t) g r := rn_icmp_ge tb_52_10 r
theorem tb_52_13 : mm_tb pg_G 52 13 = some (.iconst 1, 0, 0, 0) := rfl
theorem st_52_13 {d : Nat} {ls t : List Value} {g : mm_M} {r : mm_R} : mm_Rn pg_G d 52 13 ls (t) g r ↔ mm_Rn pg_G d 52 14 ls (io_v 1 :: t) g r := rn_iconst tb_52_13 r
theorem tb_52_14 : mm_tb pg_G 52 14 = some (.goto 4, 18, 0, 0) := rfl
theorem st_52_14 {d : Nat} {ls t : List Value} {g : mm_M} {r : mm_R} : mm_Rn pg_G d 52 14 ls (t) g r ↔ mm_Rn pg_G d 52 18 ls (t) g r := rn_goto tb_52_14 r
theorem tb_52_17 : mm_tb pg_G 52 17 = some (.iconst 0, 0, 0, 0) := rfl
theorem st_52_17 {d : Nat} {ls t : List Value} {g : mm_M} {r : mm_R} : mm_Rn pg_G d 52 17 ls (t) g r ↔ mm_Rn pg_G d 52 18 ls (io_v 0 :: t) g r := rn_iconst tb_52_17 r
theorem tb_52_18 : mm_tb pg_G 52 18 = some (.ireturn, 0, 0, 0) := rfl
theorem st_52_18 {d : Nat} {ls : List Value} {g : mm_M} {r : mm_R} {x : Int32} (hb : x = 0 ∨ x = 1) : mm_Rn pg_G d 52 18 ls [.int x] g r ↔ r = (some (.int x), g) := rn_ireturn_iff tb_52_18 (Or.inr ⟨rfl, hb⟩) r
theorem tb_53_0 : mm_tb pg_G 53 0 = some (.iconst 0, 0, 0, 0) := rfl
theorem st_53_0 {d : Nat} {ls t : List Value} {g : mm_M} {r : mm_R} : mm_Rn pg_G d 53 0 ls (t) g r ↔ mm_Rn pg_G d 53 1 ls (io_v 0 :: t) g r := rn_iconst tb_53_0 r
theorem tb_53_1 : mm_tb pg_G 53 1 = some (.iload_n 0, 0, 0, 0) := rfl
theorem st_53_1 {d : Nat} {t : List Value} {g : mm_M} {r : mm_R} {x : Int32} : mm_Rn pg_G d 53 1 [.int x] (t) g r ↔ mm_Rn pg_G d 53 2 [.int x] (.int x :: t) g r := rn_iload_n tb_53_1 rfl r
theorem tb_53_2 : mm_tb pg_G 53 2 = some (.if_icmp .gt 12, 14, 0, 0) := rfl
theorem st_53_2 {d : Nat} {ls t : List Value} {g : mm_M} {r : mm_R} {x y : Int32} : mm_Rn pg_G d 53 2 ls (.int y :: .int x :: t) g r ↔ if y < x then mm_Rn pg_G d 53 14 ls (t) g r else mm_Rn pg_G d 53 5 ls (t) g r := rn_icmp_gt tb_53_2 r
theorem tb_53_5 : mm_tb pg_G 53 5 = some (.iload_n 0, 0, 0, 0) := rfl
theorem st_53_5 {d : Nat} {t : List Value} {g : mm_M} {r : mm_R} {x : Int32} : mm_Rn pg_G d 53 5 [.int x] (t) g r ↔ mm_Rn pg_G d 53 6 [.int x] (.int x :: t) g r := rn_iload_n tb_53_5 rfl r
theorem tb_53_6 : mm_tb pg_G 53 6 = some (.iconst 4, 0, 0, 0) := rfl
theorem st_53_6 {d : Nat} {ls t : List Value} {g : mm_M} {r : mm_R} : mm_Rn pg_G d 53 6 ls (t) g r ↔ mm_Rn pg_G d 53 7 ls (io_v 4 :: t) g r := rn_iconst tb_53_6 r
theorem tb_53_7 : mm_tb pg_G 53 7 = some (.if_icmp .ge 7, 14, 0, 0) := rfl
theorem st_53_7 {d : Nat} {ls t : List Value} {g : mm_M} {r : mm_R} {x y : Int32} : mm_Rn pg_G d 53 7 ls (.int y :: .int x :: t) g r ↔ if y ≤ x then mm_Rn pg_G d 53 14 ls (t) g r else mm_Rn pg_G d 53 10 ls (t) g r := rn_icmp_ge tb_53_7 r
theorem tb_53_10 : mm_tb pg_G 53 10 = some (.iconst 1, 0, 0, 0) := rfl
theorem st_53_10 {d : Nat} {ls t : List Value} {g : mm_M} {r : mm_R} : mm_Rn pg_G d 53 10 ls (t) g r ↔ mm_Rn pg_G d 53 11 ls (io_v 1 :: t) g r := rn_iconst tb_53_10 r
theorem tb_53_11 : mm_tb pg_G 53 11 = some (.goto 4, 15, 0, 0) := rfl
theorem st_53_11 {d : Nat} {ls t : List Value} {g : mm_M} {r : mm_R} : mm_Rn pg_G d 53 11 ls (t) g r ↔ mm_Rn pg_G d 53 15 ls (t) g r := rn_goto tb_53_11 r
theorem tb_53_14 : mm_tb pg_G 53 14 = some (.iconst 0, 0, 0, 0) := rfl
theorem st_53_14 {d : Nat} {ls t : List Value} {g : mm_M} {r : mm_R} : mm_Rn pg_G d 53 14 ls (t) g r ↔ mm_Rn pg_G d 53 15 ls (io_v 0 :: t) g r := rn_iconst tb_53_14 r
theorem tb_53_15 : mm_tb pg_G 53 15 = some (.ireturn, 0, 0, 0) := rfl
theorem st_53_15 {d : Nat} {ls : List Value} {g : mm_M} {r : mm_R} {x : Int32} (hb : x = 0 ∨ x = 1) : mm_Rn pg_G d 53 15 ls [.int x] g r ↔ r = (some (.int x), g) := rn_ireturn_iff tb_53_15 (Or.inr ⟨rfl, hb⟩) r
theorem tb_54_0 : mm_tb pg_G 54 0 = some (.iconst 0, 0, 0, 0) := rfl
theorem st_54_0 {d : Nat} {ls t : List Value} {g : mm_M} {r : mm_R} : mm_Rn pg_G d 54 0 ls (t) g r ↔ mm_Rn pg_G d 54 1 ls (io_v 0 :: t) g r := rn_iconst tb_54_0 r
theorem tb_54_1 : mm_tb pg_G 54 1 = some (.istore_n 1, 0, 0, 0) := rfl
theorem st_54_1 {l0 l1 l2 : Value} {d : Nat} {t : List Value} {g : mm_M} {r : mm_R} {x : Int32} (hc : mm_c1 l0 = true) : mm_Rn pg_G d 54 1 [l0, l1, l2] (.int x :: t) g r ↔ mm_Rn pg_G d 54 2 [l0, .int x, l2] (t) g r := rn_istore_n tb_54_1 (mm_so_of (ls := [l0, l1, l2]) (v := l0) (Nat.le_of_ble_eq_true rfl) rfl hc) r
theorem tb_54_2 : mm_tb pg_G 54 2 = some (.iconst 0, 0, 0, 0) := rfl
theorem st_54_2 {d : Nat} {ls t : List Value} {g : mm_M} {r : mm_R} : mm_Rn pg_G d 54 2 ls (t) g r ↔ mm_Rn pg_G d 54 3 ls (io_v 0 :: t) g r := rn_iconst tb_54_2 r
theorem tb_54_3 : mm_tb pg_G 54 3 = some (.istore_n 2, 0, 0, 0) := rfl
theorem st_54_3 {l0 l1 l2 : Value} {d : Nat} {t : List Value} {g : mm_M} {r : mm_R} {x : Int32} (hc : mm_c1 l1 = true) : mm_Rn pg_G d 54 3 [l0, l1, l2] (.int x :: t) g r ↔ mm_Rn pg_G d 54 4 [l0, l1, .int x] (t) g r := rn_istore_n tb_54_3 (mm_so_of (ls := [l0, l1, l2]) (v := l1) (Nat.le_of_ble_eq_true rfl) rfl hc) r
theorem tb_54_4 : mm_tb pg_G 54 4 = some (.iload_n 2, 0, 0, 0) := rfl
theorem st_54_4 {l0 l1 : Value} {d : Nat} {t : List Value} {g : mm_M} {r : mm_R} {x : Int32} : mm_Rn pg_G d 54 4 [l0, l1, .int x] (t) g r ↔ mm_Rn pg_G d 54 5 [l0, l1, .int x] (.int x :: t) g r := rn_iload_n tb_54_4 rfl r
theorem tb_54_5 : mm_tb pg_G 54 5 = some (.aload_n 0, 0, 0, 0) := rfl
theorem st_54_5 {l1 l2 : Value} {d : Nat} {t : List Value} {g : mm_M} {r : mm_R} {x : Nat} : mm_Rn pg_G d 54 5 [.ref x, l1, l2] (t) g r ↔ mm_Rn pg_G d 54 6 [.ref x, l1, l2] (.ref x :: t) g r := rn_aload_n tb_54_5 rfl r
theorem tb_54_6 : mm_tb pg_G 54 6 = some (.getfield 33, 0, 4, 97) := rfl
theorem st_54_6 {d : Nat} {ls t : List Value} {g : mm_M} {r : mm_R} {x : Nat} (hT : g.1 x = some (0, 8)) : mm_Rn pg_G d 54 6 ls (.ref x :: t) g r ↔ mm_Rn pg_G d 54 9 ls (g.2.1 x 4 :: t) g r := rn_getfield tb_54_6 hT r
theorem tb_54_9 : mm_tb pg_G 54 9 = some (.if_icmp .ge 42, 51, 0, 0) := rfl
theorem st_54_9 {d : Nat} {ls t : List Value} {g : mm_M} {r : mm_R} {x y : Int32} : mm_Rn pg_G d 54 9 ls (.int y :: .int x :: t) g r ↔ if y ≤ x then mm_Rn pg_G d 54 51 ls (t) g r else mm_Rn pg_G d 54 12 ls (t) g r := rn_icmp_ge tb_54_9 r
theorem tb_54_12 : mm_tb pg_G 54 12 = some (.aload_n 0, 0, 0, 0) := rfl
theorem st_54_12 {l1 l2 : Value} {d : Nat} {t : List Value} {g : mm_M} {r : mm_R} {x : Nat} : mm_Rn pg_G d 54 12 [.ref x, l1, l2] (t) g r ↔ mm_Rn pg_G d 54 13 [.ref x, l1, l2] (.ref x :: t) g r := rn_aload_n tb_54_12 rfl r
theorem tb_54_13 : mm_tb pg_G 54 13 = some (.getfield 11, 0, 0, 93) := rfl
theorem st_54_13 {d : Nat} {ls t : List Value} {g : mm_M} {r : mm_R} {x : Nat} (hT : g.1 x = some (0, 8)) : mm_Rn pg_G d 54 13 ls (.ref x :: t) g r ↔ mm_Rn pg_G d 54 16 ls (g.2.1 x 0 :: t) g r := rn_getfield tb_54_13 hT r
theorem tb_54_16 : mm_tb pg_G 54 16 = some (.iload_n 2, 0, 0, 0) := rfl
theorem st_54_16 {l0 l1 : Value} {d : Nat} {t : List Value} {g : mm_M} {r : mm_R} {x : Int32} : mm_Rn pg_G d 54 16 [l0, l1, .int x] (t) g r ↔ mm_Rn pg_G d 54 17 [l0, l1, .int x] (.int x :: t) g r := rn_iload_n tb_54_16 rfl r
theorem tb_54_17 : mm_tb pg_G 54 17 = some (.aaload, 0, 0, 0) := rfl
theorem st_54_17 {d : Nat} {ls t : List Value} {g : mm_M} {r : mm_R} {x : Nat} {j : Int32} (hc : mm_in (g.1 x) 102 103 j = true) : mm_Rn pg_G d 54 17 ls (.int j :: .ref x :: t) g r ↔ mm_Rn pg_G d 54 18 ls (g.2.1 x j.toNatClampNeg :: t) g r := rn_aaload tb_54_17 hc r
theorem tb_54_18 : mm_tb pg_G 54 18 = some (.getfield 85, 3, 4, 149) := rfl
theorem st_54_18 {d : Nat} {ls t : List Value} {g : mm_M} {r : mm_R} {x : Nat} (hT : g.1 x = some (3, 10)) : mm_Rn pg_G d 54 18 ls (.ref x :: t) g r ↔ mm_Rn pg_G d 54 21 ls (g.2.1 x 4 :: t) g r := rn_getfield tb_54_18 hT r
theorem tb_54_21 : mm_tb pg_G 54 21 = some (.invokevirtual 89, 5, 1, 250) := rfl
theorem st_54_21 {d c s c' s' : Nat} {ls t : List Value} {I J : sp_I} {r : mm_R} {y : Nat} {v : Int32} (hl : t.length ≤ 4) (hT : sp_T I y = some (5, 7)) (hq : mm_Rn pg_G d 5 0 [.ref y] [] (sp_me I 0 0) (some (.int v), sp_me J c' s')) : mm_Rn pg_G (d + 1) 54 21 ls (.ref y :: t) (sp_me I c s) r ↔ mm_Rn pg_G (d + 1) 54 24 ls (.int v :: t) (sp_me J (c + c') (s + s')) r := rn_virt (g := sp_me I c s) (st := .ref y :: t) tb_54_21 (decide_eq_true hT) ⟨Nat.le_add_left _ t.length, hl, rfl⟩ hq r
theorem tb_54_24 : mm_tb pg_G 54 24 = some (.ifCond .eq 21, 45, 0, 0) := rfl
theorem st_54_24 {d : Nat} {ls t : List Value} {g : mm_M} {r : mm_R} {x : Int32} : mm_Rn pg_G d 54 24 ls (.int x :: t) g r ↔ if x = 0 then mm_Rn pg_G d 54 45 ls (t) g r else mm_Rn pg_G d 54 27 ls (t) g r := rn_if_eq tb_54_24 r
theorem tb_54_27 : mm_tb pg_G 54 27 = some (.aload_n 0, 0, 0, 0) := rfl
theorem st_54_27 {l1 l2 : Value} {d : Nat} {t : List Value} {g : mm_M} {r : mm_R} {x : Nat} : mm_Rn pg_G d 54 27 [.ref x, l1, l2] (t) g r ↔ mm_Rn pg_G d 54 28 [.ref x, l1, l2] (.ref x :: t) g r := rn_aload_n tb_54_27 rfl r
theorem tb_54_28 : mm_tb pg_G 54 28 = some (.getfield 11, 0, 0, 93) := rfl
theorem st_54_28 {d : Nat} {ls t : List Value} {g : mm_M} {r : mm_R} {x : Nat} (hT : g.1 x = some (0, 8)) : mm_Rn pg_G d 54 28 ls (.ref x :: t) g r ↔ mm_Rn pg_G d 54 31 ls (g.2.1 x 0 :: t) g r := rn_getfield tb_54_28 hT r
theorem tb_54_31 : mm_tb pg_G 54 31 = some (.iload_n 2, 0, 0, 0) := rfl
theorem st_54_31 {l0 l1 : Value} {d : Nat} {t : List Value} {g : mm_M} {r : mm_R} {x : Int32} : mm_Rn pg_G d 54 31 [l0, l1, .int x] (t) g r ↔ mm_Rn pg_G d 54 32 [l0, l1, .int x] (.int x :: t) g r := rn_iload_n tb_54_31 rfl r
theorem tb_54_32 : mm_tb pg_G 54 32 = some (.aaload, 0, 0, 0) := rfl
theorem st_54_32 {d : Nat} {ls t : List Value} {g : mm_M} {r : mm_R} {x : Nat} {j : Int32} (hc : mm_in (g.1 x) 102 103 j = true) : mm_Rn pg_G d 54 32 ls (.int j :: .ref x :: t) g r ↔ mm_Rn pg_G d 54 33 ls (g.2.1 x j.toNatClampNeg :: t) g r := rn_aaload tb_54_32 hc r
theorem tb_54_33 : mm_tb pg_G 54 33 = some (.getfield 85, 3, 4, 149) := rfl
theorem st_54_33 {d : Nat} {ls t : List Value} {g : mm_M} {r : mm_R} {x : Nat} (hT : g.1 x = some (3, 10)) : mm_Rn pg_G d 54 33 ls (.ref x :: t) g r ↔ mm_Rn pg_G d 54 36 ls (g.2.1 x 4 :: t) g r := rn_getfield tb_54_33 hT r
theorem tb_54_36 : mm_tb pg_G 54 36 = some (.invokevirtual 161, 6, 1, 296) := rfl
theorem st_54_36 {d c s c' s' : Nat} {ls t : List Value} {I J : sp_I} {r : mm_R} {y : Nat} {v : Int32} (hl : t.length ≤ 4) (hT : sp_T I y = some (5, 7)) (hq : mm_Rn pg_G d 6 0 [.ref y] [] (sp_me I 0 0) (some (.int v), sp_me J c' s')) : mm_Rn pg_G (d + 1) 54 36 ls (.ref y :: t) (sp_me I c s) r ↔ mm_Rn pg_G (d + 1) 54 39 ls (.int v :: t) (sp_me J (c + c') (s + s')) r := rn_virt (g := sp_me I c s) (st := .ref y :: t) tb_54_36 (decide_eq_true hT) ⟨Nat.le_add_left _ t.length, hl, rfl⟩ hq r
theorem tb_54_39 : mm_tb pg_G 54 39 = some (.ifCond .eq 6, 45, 0, 0) := rfl
theorem st_54_39 {d : Nat} {ls t : List Value} {g : mm_M} {r : mm_R} {x : Int32} : mm_Rn pg_G d 54 39 ls (.int x :: t) g r ↔ if x = 0 then mm_Rn pg_G d 54 45 ls (t) g r else mm_Rn pg_G d 54 42 ls (t) g r := rn_if_eq tb_54_39 r
theorem tb_54_42 : mm_tb pg_G 54 42 = some (.iinc 1 1, 0, 0, 0) := rfl
theorem st_54_42 {l0 l2 : Value} {d : Nat} {t : List Value} {g : mm_M} {r : mm_R} {x : Int32} (hc : mm_c1 l0 = true) : mm_Rn pg_G d 54 42 [l0, .int x, l2] (t) g r ↔ mm_Rn pg_G d 54 45 [l0, .int (x + Int32.ofInt 1), l2] (t) g r := rn_iinc tb_54_42 rfl (mm_so_of (ls := [l0, .int x, l2]) (v := l0) (Nat.le_of_ble_eq_true rfl) rfl hc) r
theorem tb_54_45 : mm_tb pg_G 54 45 = some (.iinc 2 1, 0, 0, 0) := rfl
theorem st_54_45 {l0 l1 : Value} {d : Nat} {t : List Value} {g : mm_M} {r : mm_R} {x : Int32} (hc : mm_c1 l1 = true) : mm_Rn pg_G d 54 45 [l0, l1, .int x] (t) g r ↔ mm_Rn pg_G d 54 48 [l0, l1, .int (x + Int32.ofInt 1)] (t) g r := rn_iinc tb_54_45 rfl (mm_so_of (ls := [l0, l1, .int x]) (v := l1) (Nat.le_of_ble_eq_true rfl) rfl hc) r
theorem tb_54_48 : mm_tb pg_G 54 48 = some (.goto (-44), 4, 0, 0) := rfl
theorem st_54_48 {d : Nat} {ls t : List Value} {g : mm_M} {r : mm_R} : mm_Rn pg_G d 54 48 ls (t) g r ↔ mm_Rn pg_G d 54 4 ls (t) g r := rn_goto tb_54_48 r
theorem tb_54_51 : mm_tb pg_G 54 51 = some (.iload_n 1, 0, 0, 0) := rfl
theorem st_54_51 {l0 l2 : Value} {d : Nat} {t : List Value} {g : mm_M} {r : mm_R} {x : Int32} : mm_Rn pg_G d 54 51 [l0, .int x, l2] (t) g r ↔ mm_Rn pg_G d 54 52 [l0, .int x, l2] (.int x :: t) g r := rn_iload_n tb_54_51 rfl r
theorem tb_54_52 : mm_tb pg_G 54 52 = some (.ireturn, 0, 0, 0) := rfl
theorem st_54_52 {d : Nat} {ls : List Value} {g : mm_M} {r : mm_R} {x : Int32} : mm_Rn pg_G d 54 52 ls [.int x] g r ↔ r = (some (.int x), g) := rn_ireturn_iff tb_54_52 (Or.inl rfl) r
theorem tb_55_0 : mm_tb pg_G 55 0 = some (.aload_n 0, 0, 0, 0) := rfl
theorem st_55_0 {l1 l2 l3 l4 l5 l6 : Value} {d : Nat} {t : List Value} {g : mm_M} {r : mm_R} {x : Nat} : mm_Rn pg_G d 55 0 [.ref x, l1, l2, l3, l4, l5, l6] (t) g r ↔ mm_Rn pg_G d 55 1 [.ref x, l1, l2, l3, l4, l5, l6] (.ref x :: t) g r := rn_aload_n tb_55_0 rfl r
theorem tb_55_1 : mm_tb pg_G 55 1 = some (.aload_n 1, 0, 0, 0) := rfl
theorem st_55_1 {l0 l2 l3 l4 l5 l6 : Value} {d : Nat} {t : List Value} {g : mm_M} {r : mm_R} {x : Nat} : mm_Rn pg_G d 55 1 [l0, .ref x, l2, l3, l4, l5, l6] (t) g r ↔ mm_Rn pg_G d 55 2 [l0, .ref x, l2, l3, l4, l5, l6] (.ref x :: t) g r := rn_aload_n tb_55_1 rfl r
theorem tb_55_2 : mm_tb pg_G 55 2 = some (.invokevirtual 164, 56, 2, 230) := rfl
theorem st_55_2 {d c s c' s' : Nat} {ls t : List Value} {I J : sp_I} {r : mm_R} {y a0 : Nat} {v : Int32} (hl : t.length ≤ 4) (hT : sp_T I y = some (0, 8)) (hq : mm_Rn pg_G d 56 0 [.ref y, .ref a0, .retAddr 0, .retAddr 0] [] (sp_me I 0 0) (some (.int v), sp_me J c' s')) : mm_Rn pg_G (d + 1) 55 2 ls (.ref a0 :: .ref y :: t) (sp_me I c s) r ↔ mm_Rn pg_G (d + 1) 55 5 ls (.int v :: t) (sp_me J (c + c') (s + s')) r := rn_virt (g := sp_me I c s) (st := .ref a0 :: .ref y :: t) tb_55_2 (decide_eq_true hT) ⟨Nat.le_add_left _ t.length, hl, rfl⟩ hq r
theorem tb_55_5 : mm_tb pg_G 55 5 = some (.i2l, 0, 0, 0) := rfl
theorem st_55_5 {d : Nat} {ls t : List Value} {g : mm_M} {r : mm_R} {x : Int32} : mm_Rn pg_G d 55 5 ls (.int x :: t) g r ↔ mm_Rn pg_G d 55 6 ls (.long x.toInt64 :: t) g r := rn_i2l tb_55_5 r
theorem tb_55_6 : mm_tb pg_G 55 6 = some (.lstore_n 2, 0, 0, 0) := rfl
theorem st_55_6 {l0 l1 l2 l3 l4 l5 l6 : Value} {d : Nat} {t : List Value} {g : mm_M} {r : mm_R} {x : Int64} (hc : mm_c1 l1 = true) : mm_Rn pg_G d 55 6 [l0, l1, l2, l3, l4, l5, l6] (.long x :: t) g r ↔ mm_Rn pg_G d 55 7 [l0, l1, .long x, .retAddr 0, l4, l5, l6] (t) g r := rn_lstore_n tb_55_6 (mm_so_of (ls := [l0, l1, l2, l3, l4, l5, l6]) (v := l1) (Nat.le_of_ble_eq_true rfl) rfl hc) r
theorem tb_55_7 : mm_tb pg_G 55 7 = some (.aload_n 1, 0, 0, 0) := rfl
theorem st_55_7 {l0 l2 l3 l4 l5 l6 : Value} {d : Nat} {t : List Value} {g : mm_M} {r : mm_R} {x : Nat} : mm_Rn pg_G d 55 7 [l0, .ref x, l2, l3, l4, l5, l6] (t) g r ↔ mm_Rn pg_G d 55 8 [l0, .ref x, l2, l3, l4, l5, l6] (.ref x :: t) g r := rn_aload_n tb_55_7 rfl r
theorem tb_55_8 : mm_tb pg_G 55 8 = some (.getfield 107, 3, 1, 144) := rfl
theorem st_55_8 {d : Nat} {ls t : List Value} {g : mm_M} {r : mm_R} {x : Nat} (hT : g.1 x = some (3, 10)) : mm_Rn pg_G d 55 8 ls (.ref x :: t) g r ↔ mm_Rn pg_G d 55 11 ls (g.2.1 x 1 :: t) g r := rn_getfield tb_55_8 hT r
theorem tb_55_11 : mm_tb pg_G 55 11 = some (.i2l, 0, 0, 0) := rfl
theorem st_55_11 {d : Nat} {ls t : List Value} {g : mm_M} {r : mm_R} {x : Int32} : mm_Rn pg_G d 55 11 ls (.int x :: t) g r ↔ mm_Rn pg_G d 55 12 ls (.long x.toInt64 :: t) g r := rn_i2l tb_55_11 r
theorem tb_55_12 : mm_tb pg_G 55 12 = some (.lstore 4, 0, 0, 0) := rfl
theorem st_55_12 {l0 l1 l2 l3 l4 l5 l6 : Value} {d : Nat} {t : List Value} {g : mm_M} {r : mm_R} {x : Int64} (hc : mm_c1 l3 = true) : mm_Rn pg_G d 55 12 [l0, l1, l2, l3, l4, l5, l6] (.long x :: t) g r ↔ mm_Rn pg_G d 55 14 [l0, l1, l2, l3, .long x, .retAddr 0, l6] (t) g r := rn_lstore tb_55_12 (mm_so_of (ls := [l0, l1, l2, l3, l4, l5, l6]) (v := l3) (Nat.le_of_ble_eq_true rfl) rfl hc) r
theorem tb_55_14 : mm_tb pg_G 55 14 = some (.iconst 0, 0, 0, 0) := rfl
theorem st_55_14 {d : Nat} {ls t : List Value} {g : mm_M} {r : mm_R} : mm_Rn pg_G d 55 14 ls (t) g r ↔ mm_Rn pg_G d 55 15 ls (io_v 0 :: t) g r := rn_iconst tb_55_14 r
theorem tb_55_15 : mm_tb pg_G 55 15 = some (.istore 6, 0, 0, 0) := rfl
theorem st_55_15 {l0 l1 l2 l3 l4 l5 l6 : Value} {d : Nat} {t : List Value} {g : mm_M} {r : mm_R} {x : Int32} (hc : mm_c1 l5 = true) : mm_Rn pg_G d 55 15 [l0, l1, l2, l3, l4, l5, l6] (.int x :: t) g r ↔ mm_Rn pg_G d 55 17 [l0, l1, l2, l3, l4, l5, .int x] (t) g r := rn_istore tb_55_15 (mm_so_of (ls := [l0, l1, l2, l3, l4, l5, l6]) (v := l5) (Nat.le_of_ble_eq_true rfl) rfl hc) r
theorem tb_55_17 : mm_tb pg_G 55 17 = some (.iload 6, 0, 0, 0) := rfl
theorem st_55_17 {l0 l1 l2 l3 l4 l5 : Value} {d : Nat} {t : List Value} {g : mm_M} {r : mm_R} {x : Int32} : mm_Rn pg_G d 55 17 [l0, l1, l2, l3, l4, l5, .int x] (t) g r ↔ mm_Rn pg_G d 55 19 [l0, l1, l2, l3, l4, l5, .int x] (.int x :: t) g r := rn_iload tb_55_17 rfl r
theorem tb_55_19 : mm_tb pg_G 55 19 = some (.aload_n 0, 0, 0, 0) := rfl
theorem st_55_19 {l1 l2 l3 l4 l5 l6 : Value} {d : Nat} {t : List Value} {g : mm_M} {r : mm_R} {x : Nat} : mm_Rn pg_G d 55 19 [.ref x, l1, l2, l3, l4, l5, l6] (t) g r ↔ mm_Rn pg_G d 55 20 [.ref x, l1, l2, l3, l4, l5, l6] (.ref x :: t) g r := rn_aload_n tb_55_19 rfl r
theorem tb_55_20 : mm_tb pg_G 55 20 = some (.getfield 33, 0, 4, 97) := rfl
theorem st_55_20 {d : Nat} {ls t : List Value} {g : mm_M} {r : mm_R} {x : Nat} (hT : g.1 x = some (0, 8)) : mm_Rn pg_G d 55 20 ls (.ref x :: t) g r ↔ mm_Rn pg_G d 55 23 ls (g.2.1 x 4 :: t) g r := rn_getfield tb_55_20 hT r
theorem tb_55_23 : mm_tb pg_G 55 23 = some (.if_icmp .ge 71, 94, 0, 0) := rfl
theorem st_55_23 {d : Nat} {ls t : List Value} {g : mm_M} {r : mm_R} {x y : Int32} : mm_Rn pg_G d 55 23 ls (.int y :: .int x :: t) g r ↔ if y ≤ x then mm_Rn pg_G d 55 94 ls (t) g r else mm_Rn pg_G d 55 26 ls (t) g r := rn_icmp_ge tb_55_23 r
theorem tb_55_26 : mm_tb pg_G 55 26 = some (.aload_n 0, 0, 0, 0) := rfl
theorem st_55_26 {l1 l2 l3 l4 l5 l6 : Value} {d : Nat} {t : List Value} {g : mm_M} {r : mm_R} {x : Nat} : mm_Rn pg_G d 55 26 [.ref x, l1, l2, l3, l4, l5, l6] (t) g r ↔ mm_Rn pg_G d 55 27 [.ref x, l1, l2, l3, l4, l5, l6] (.ref x :: t) g r := rn_aload_n tb_55_26 rfl r
theorem tb_55_27 : mm_tb pg_G 55 27 = some (.getfield 11, 0, 0, 93) := rfl
theorem st_55_27 {d : Nat} {ls t : List Value} {g : mm_M} {r : mm_R} {x : Nat} (hT : g.1 x = some (0, 8)) : mm_Rn pg_G d 55 27 ls (.ref x :: t) g r ↔ mm_Rn pg_G d 55 30 ls (g.2.1 x 0 :: t) g r := rn_getfield tb_55_27 hT r
theorem tb_55_30 : mm_tb pg_G 55 30 = some (.iload 6, 0, 0, 0) := rfl
theorem st_55_30 {l0 l1 l2 l3 l4 l5 : Value} {d : Nat} {t : List Value} {g : mm_M} {r : mm_R} {x : Int32} : mm_Rn pg_G d 55 30 [l0, l1, l2, l3, l4, l5, .int x] (t) g r ↔ mm_Rn pg_G d 55 32 [l0, l1, l2, l3, l4, l5, .int x] (.int x :: t) g r := rn_iload tb_55_30 rfl r
theorem tb_55_32 : mm_tb pg_G 55 32 = some (.aaload, 0, 0, 0) := rfl
theorem st_55_32 {d : Nat} {ls t : List Value} {g : mm_M} {r : mm_R} {x : Nat} {j : Int32} (hc : mm_in (g.1 x) 102 103 j = true) : mm_Rn pg_G d 55 32 ls (.int j :: .ref x :: t) g r ↔ mm_Rn pg_G d 55 33 ls (g.2.1 x j.toNatClampNeg :: t) g r := rn_aaload tb_55_32 hc r
theorem tb_55_33 : mm_tb pg_G 55 33 = some (.getfield 107, 3, 1, 144) := rfl
theorem st_55_33 {d : Nat} {ls t : List Value} {g : mm_M} {r : mm_R} {x : Nat} (hT : g.1 x = some (3, 10)) : mm_Rn pg_G d 55 33 ls (.ref x :: t) g r ↔ mm_Rn pg_G d 55 36 ls (g.2.1 x 1 :: t) g r := rn_getfield tb_55_33 hT r
theorem tb_55_36 : mm_tb pg_G 55 36 = some (.aload_n 1, 0, 0, 0) := rfl
theorem st_55_36 {l0 l2 l3 l4 l5 l6 : Value} {d : Nat} {t : List Value} {g : mm_M} {r : mm_R} {x : Nat} : mm_Rn pg_G d 55 36 [l0, .ref x, l2, l3, l4, l5, l6] (t) g r ↔ mm_Rn pg_G d 55 37 [l0, .ref x, l2, l3, l4, l5, l6] (.ref x :: t) g r := rn_aload_n tb_55_36 rfl r
theorem tb_55_37 : mm_tb pg_G 55 37 = some (.getfield 107, 3, 1, 144) := rfl
theorem st_55_37 {d : Nat} {ls t : List Value} {g : mm_M} {r : mm_R} {x : Nat} (hT : g.1 x = some (3, 10)) : mm_Rn pg_G d 55 37 ls (.ref x :: t) g r ↔ mm_Rn pg_G d 55 40 ls (g.2.1 x 1 :: t) g r := rn_getfield tb_55_37 hT r
theorem tb_55_40 : mm_tb pg_G 55 40 = some (.if_icmp .gt 48, 88, 0, 0) := rfl
theorem st_55_40 {d : Nat} {ls t : List Value} {g : mm_M} {r : mm_R} {x y : Int32} : mm_Rn pg_G d 55 40 ls (.int y :: .int x :: t) g r ↔ if y < x then mm_Rn pg_G d 55 88 ls (t) g r else mm_Rn pg_G d 55 43 ls (t) g r := rn_icmp_gt tb_55_40 r
theorem tb_55_43 : mm_tb pg_G 55 43 = some (.lload_n 2, 0, 0, 0) := rfl
theorem st_55_43 {l0 l1 l3 l4 l5 l6 : Value} {d : Nat} {t : List Value} {g : mm_M} {r : mm_R} {x : Int64} : mm_Rn pg_G d 55 43 [l0, l1, .long x, l3, l4, l5, l6] (t) g r ↔ mm_Rn pg_G d 55 44 [l0, l1, .long x, l3, l4, l5, l6] (.long x :: t) g r := rn_lload_n tb_55_43 rfl r
theorem tb_55_44 : mm_tb pg_G 55 44 = some (.aload_n 0, 0, 0, 0) := rfl
theorem st_55_44 {l1 l2 l3 l4 l5 l6 : Value} {d : Nat} {t : List Value} {g : mm_M} {r : mm_R} {x : Nat} : mm_Rn pg_G d 55 44 [.ref x, l1, l2, l3, l4, l5, l6] (t) g r ↔ mm_Rn pg_G d 55 45 [.ref x, l1, l2, l3, l4, l5, l6] (.ref x :: t) g r := rn_aload_n tb_55_44 rfl r
theorem tb_55_45 : mm_tb pg_G 55 45 = some (.getfield 11, 0, 0, 93) := rfl
theorem st_55_45 {d : Nat} {ls t : List Value} {g : mm_M} {r : mm_R} {x : Nat} (hT : g.1 x = some (0, 8)) : mm_Rn pg_G d 55 45 ls (.ref x :: t) g r ↔ mm_Rn pg_G d 55 48 ls (g.2.1 x 0 :: t) g r := rn_getfield tb_55_45 hT r
theorem tb_55_48 : mm_tb pg_G 55 48 = some (.iload 6, 0, 0, 0) := rfl
theorem st_55_48 {l0 l1 l2 l3 l4 l5 : Value} {d : Nat} {t : List Value} {g : mm_M} {r : mm_R} {x : Int32} : mm_Rn pg_G d 55 48 [l0, l1, l2, l3, l4, l5, .int x] (t) g r ↔ mm_Rn pg_G d 55 50 [l0, l1, l2, l3, l4, l5, .int x] (.int x :: t) g r := rn_iload tb_55_48 rfl r
theorem tb_55_50 : mm_tb pg_G 55 50 = some (.aaload, 0, 0, 0) := rfl
theorem st_55_50 {d : Nat} {ls t : List Value} {g : mm_M} {r : mm_R} {x : Nat} {j : Int32} (hc : mm_in (g.1 x) 102 103 j = true) : mm_Rn pg_G d 55 50 ls (.int j :: .ref x :: t) g r ↔ mm_Rn pg_G d 55 51 ls (g.2.1 x j.toNatClampNeg :: t) g r := rn_aaload tb_55_50 hc r
theorem tb_55_51 : mm_tb pg_G 55 51 = some (.getfield 107, 3, 1, 144) := rfl
theorem st_55_51 {d : Nat} {ls t : List Value} {g : mm_M} {r : mm_R} {x : Nat} (hT : g.1 x = some (3, 10)) : mm_Rn pg_G d 55 51 ls (.ref x :: t) g r ↔ mm_Rn pg_G d 55 54 ls (g.2.1 x 1 :: t) g r := rn_getfield tb_55_51 hT r
theorem tb_55_54 : mm_tb pg_G 55 54 = some (.i2l, 0, 0, 0) := rfl
theorem st_55_54 {d : Nat} {ls t : List Value} {g : mm_M} {r : mm_R} {x : Int32} : mm_Rn pg_G d 55 54 ls (.int x :: t) g r ↔ mm_Rn pg_G d 55 55 ls (.long x.toInt64 :: t) g r := rn_i2l tb_55_54 r
theorem tb_55_55 : mm_tb pg_G 55 55 = some (.lmul, 0, 0, 0) := rfl
theorem st_55_55 {d : Nat} {ls t : List Value} {g : mm_M} {r : mm_R} {x y : Int64} : mm_Rn pg_G d 55 55 ls (.long y :: .long x :: t) g r ↔ mm_Rn pg_G d 55 56 ls (.long (x * y) :: t) g r := rn_lmul tb_55_55 r
theorem tb_55_56 : mm_tb pg_G 55 56 = some (.aload_n 0, 0, 0, 0) := rfl
theorem st_55_56 {l1 l2 l3 l4 l5 l6 : Value} {d : Nat} {t : List Value} {g : mm_M} {r : mm_R} {x : Nat} : mm_Rn pg_G d 55 56 [.ref x, l1, l2, l3, l4, l5, l6] (t) g r ↔ mm_Rn pg_G d 55 57 [.ref x, l1, l2, l3, l4, l5, l6] (.ref x :: t) g r := rn_aload_n tb_55_56 rfl r
theorem tb_55_57 : mm_tb pg_G 55 57 = some (.getfield 11, 0, 0, 93) := rfl
theorem st_55_57 {d : Nat} {ls t : List Value} {g : mm_M} {r : mm_R} {x : Nat} (hT : g.1 x = some (0, 8)) : mm_Rn pg_G d 55 57 ls (.ref x :: t) g r ↔ mm_Rn pg_G d 55 60 ls (g.2.1 x 0 :: t) g r := rn_getfield tb_55_57 hT r
theorem tb_55_60 : mm_tb pg_G 55 60 = some (.iload 6, 0, 0, 0) := rfl
theorem st_55_60 {l0 l1 l2 l3 l4 l5 : Value} {d : Nat} {t : List Value} {g : mm_M} {r : mm_R} {x : Int32} : mm_Rn pg_G d 55 60 [l0, l1, l2, l3, l4, l5, .int x] (t) g r ↔ mm_Rn pg_G d 55 62 [l0, l1, l2, l3, l4, l5, .int x] (.int x :: t) g r := rn_iload tb_55_60 rfl r
theorem tb_55_62 : mm_tb pg_G 55 62 = some (.aaload, 0, 0, 0) := rfl
theorem st_55_62 {d : Nat} {ls t : List Value} {g : mm_M} {r : mm_R} {x : Nat} {j : Int32} (hc : mm_in (g.1 x) 102 103 j = true) : mm_Rn pg_G d 55 62 ls (.int j :: .ref x :: t) g r ↔ mm_Rn pg_G d 55 63 ls (g.2.1 x j.toNatClampNeg :: t) g r := rn_aaload tb_55_62 hc r
theorem tb_55_63 : mm_tb pg_G 55 63 = some (.getfield 57, 3, 2, 146) := rfl
theorem st_55_63 {d : Nat} {ls t : List Value} {g : mm_M} {r : mm_R} {x : Nat} (hT : g.1 x = some (3, 10)) : mm_Rn pg_G d 55 63 ls (.ref x :: t) g r ↔ mm_Rn pg_G d 55 66 ls (g.2.1 x 2 :: t) g r := rn_getfield tb_55_63 hT r
theorem tb_55_66 : mm_tb pg_G 55 66 = some (.i2l, 0, 0, 0) := rfl
theorem st_55_66 {d : Nat} {ls t : List Value} {g : mm_M} {r : mm_R} {x : Int32} : mm_Rn pg_G d 55 66 ls (.int x :: t) g r ↔ mm_Rn pg_G d 55 67 ls (.long x.toInt64 :: t) g r := rn_i2l tb_55_66 r
theorem tb_55_67 : mm_tb pg_G 55 67 = some (.lload 4, 0, 0, 0) := rfl
theorem st_55_67 {l0 l1 l2 l3 l5 l6 : Value} {d : Nat} {t : List Value} {g : mm_M} {r : mm_R} {x : Int64} : mm_Rn pg_G d 55 67 [l0, l1, l2, l3, .long x, l5, l6] (t) g r ↔ mm_Rn pg_G d 55 69 [l0, l1, l2, l3, .long x, l5, l6] (.long x :: t) g r := rn_lload tb_55_67 rfl r
theorem tb_55_69 : mm_tb pg_G 55 69 = some (.lmul, 0, 0, 0) := rfl
theorem st_55_69 {d : Nat} {ls t : List Value} {g : mm_M} {r : mm_R} {x y : Int64} : mm_Rn pg_G d 55 69 ls (.long y :: .long x :: t) g r ↔ mm_Rn pg_G d 55 70 ls (.long (x * y) :: t) g r := rn_lmul tb_55_69 r
theorem tb_55_70 : mm_tb pg_G 55 70 = some (.ladd, 0, 0, 0) := rfl
theorem st_55_70 {d : Nat} {ls t : List Value} {g : mm_M} {r : mm_R} {x y : Int64} : mm_Rn pg_G d 55 70 ls (.long y :: .long x :: t) g r ↔ mm_Rn pg_G d 55 71 ls (.long (x + y) :: t) g r := rn_ladd tb_55_70 r
theorem tb_55_71 : mm_tb pg_G 55 71 = some (.lstore_n 2, 0, 0, 0) := rfl
theorem st_55_71 {l0 l1 l2 l3 l4 l5 l6 : Value} {d : Nat} {t : List Value} {g : mm_M} {r : mm_R} {x : Int64} (hc : mm_c1 l1 = true) : mm_Rn pg_G d 55 71 [l0, l1, l2, l3, l4, l5, l6] (.long x :: t) g r ↔ mm_Rn pg_G d 55 72 [l0, l1, .long x, .retAddr 0, l4, l5, l6] (t) g r := rn_lstore_n tb_55_71 (mm_so_of (ls := [l0, l1, l2, l3, l4, l5, l6]) (v := l1) (Nat.le_of_ble_eq_true rfl) rfl hc) r
theorem tb_55_72 : mm_tb pg_G 55 72 = some (.lload 4, 0, 0, 0) := rfl
theorem st_55_72 {l0 l1 l2 l3 l5 l6 : Value} {d : Nat} {t : List Value} {g : mm_M} {r : mm_R} {x : Int64} : mm_Rn pg_G d 55 72 [l0, l1, l2, l3, .long x, l5, l6] (t) g r ↔ mm_Rn pg_G d 55 74 [l0, l1, l2, l3, .long x, l5, l6] (.long x :: t) g r := rn_lload tb_55_72 rfl r
theorem tb_55_74 : mm_tb pg_G 55 74 = some (.aload_n 0, 0, 0, 0) := rfl
theorem st_55_74 {l1 l2 l3 l4 l5 l6 : Value} {d : Nat} {t : List Value} {g : mm_M} {r : mm_R} {x : Nat} : mm_Rn pg_G d 55 74 [.ref x, l1, l2, l3, l4, l5, l6] (t) g r ↔ mm_Rn pg_G d 55 75 [.ref x, l1, l2, l3, l4, l5, l6] (.ref x :: t) g r := rn_aload_n tb_55_74 rfl r
theorem tb_55_75 : mm_tb pg_G 55 75 = some (.getfield 11, 0, 0, 93) := rfl
theorem st_55_75 {d : Nat} {ls t : List Value} {g : mm_M} {r : mm_R} {x : Nat} (hT : g.1 x = some (0, 8)) : mm_Rn pg_G d 55 75 ls (.ref x :: t) g r ↔ mm_Rn pg_G d 55 78 ls (g.2.1 x 0 :: t) g r := rn_getfield tb_55_75 hT r
theorem tb_55_78 : mm_tb pg_G 55 78 = some (.iload 6, 0, 0, 0) := rfl
theorem st_55_78 {l0 l1 l2 l3 l4 l5 : Value} {d : Nat} {t : List Value} {g : mm_M} {r : mm_R} {x : Int32} : mm_Rn pg_G d 55 78 [l0, l1, l2, l3, l4, l5, .int x] (t) g r ↔ mm_Rn pg_G d 55 80 [l0, l1, l2, l3, l4, l5, .int x] (.int x :: t) g r := rn_iload tb_55_78 rfl r
theorem tb_55_80 : mm_tb pg_G 55 80 = some (.aaload, 0, 0, 0) := rfl
theorem st_55_80 {d : Nat} {ls t : List Value} {g : mm_M} {r : mm_R} {x : Nat} {j : Int32} (hc : mm_in (g.1 x) 102 103 j = true) : mm_Rn pg_G d 55 80 ls (.int j :: .ref x :: t) g r ↔ mm_Rn pg_G d 55 81 ls (g.2.1 x j.toNatClampNeg :: t) g r := rn_aaload tb_55_80 hc r
theorem tb_55_81 : mm_tb pg_G 55 81 = some (.getfield 107, 3, 1, 144) := rfl
theorem st_55_81 {d : Nat} {ls t : List Value} {g : mm_M} {r : mm_R} {x : Nat} (hT : g.1 x = some (3, 10)) : mm_Rn pg_G d 55 81 ls (.ref x :: t) g r ↔ mm_Rn pg_G d 55 84 ls (g.2.1 x 1 :: t) g r := rn_getfield tb_55_81 hT r
theorem tb_55_84 : mm_tb pg_G 55 84 = some (.i2l, 0, 0, 0) := rfl
theorem st_55_84 {d : Nat} {ls t : List Value} {g : mm_M} {r : mm_R} {x : Int32} : mm_Rn pg_G d 55 84 ls (.int x :: t) g r ↔ mm_Rn pg_G d 55 85 ls (.long x.toInt64 :: t) g r := rn_i2l tb_55_84 r
theorem tb_55_85 : mm_tb pg_G 55 85 = some (.lmul, 0, 0, 0) := rfl
theorem st_55_85 {d : Nat} {ls t : List Value} {g : mm_M} {r : mm_R} {x y : Int64} : mm_Rn pg_G d 55 85 ls (.long y :: .long x :: t) g r ↔ mm_Rn pg_G d 55 86 ls (.long (x * y) :: t) g r := rn_lmul tb_55_85 r
theorem tb_55_86 : mm_tb pg_G 55 86 = some (.lstore 4, 0, 0, 0) := rfl
theorem st_55_86 {l0 l1 l2 l3 l4 l5 l6 : Value} {d : Nat} {t : List Value} {g : mm_M} {r : mm_R} {x : Int64} (hc : mm_c1 l3 = true) : mm_Rn pg_G d 55 86 [l0, l1, l2, l3, l4, l5, l6] (.long x :: t) g r ↔ mm_Rn pg_G d 55 88 [l0, l1, l2, l3, .long x, .retAddr 0, l6] (t) g r := rn_lstore tb_55_86 (mm_so_of (ls := [l0, l1, l2, l3, l4, l5, l6]) (v := l3) (Nat.le_of_ble_eq_true rfl) rfl hc) r
theorem tb_55_88 : mm_tb pg_G 55 88 = some (.iinc 6 1, 0, 0, 0) := rfl
theorem st_55_88 {l0 l1 l2 l3 l4 l5 : Value} {d : Nat} {t : List Value} {g : mm_M} {r : mm_R} {x : Int32} (hc : mm_c1 l5 = true) : mm_Rn pg_G d 55 88 [l0, l1, l2, l3, l4, l5, .int x] (t) g r ↔ mm_Rn pg_G d 55 91 [l0, l1, l2, l3, l4, l5, .int (x + Int32.ofInt 1)] (t) g r := rn_iinc tb_55_88 rfl (mm_so_of (ls := [l0, l1, l2, l3, l4, l5, .int x]) (v := l5) (Nat.le_of_ble_eq_true rfl) rfl hc) r
theorem tb_55_91 : mm_tb pg_G 55 91 = some (.goto (-74), 17, 0, 0) := rfl
theorem st_55_91 {d : Nat} {ls t : List Value} {g : mm_M} {r : mm_R} : mm_Rn pg_G d 55 91 ls (t) g r ↔ mm_Rn pg_G d 55 17 ls (t) g r := rn_goto tb_55_91 r
theorem tb_55_94 : mm_tb pg_G 55 94 = some (.aload_n 0, 0, 0, 0) := rfl
theorem st_55_94 {l1 l2 l3 l4 l5 l6 : Value} {d : Nat} {t : List Value} {g : mm_M} {r : mm_R} {x : Nat} : mm_Rn pg_G d 55 94 [.ref x, l1, l2, l3, l4, l5, l6] (t) g r ↔ mm_Rn pg_G d 55 95 [.ref x, l1, l2, l3, l4, l5, l6] (.ref x :: t) g r := rn_aload_n tb_55_94 rfl r
theorem tb_55_95 : mm_tb pg_G 55 95 = some (.getfield 22, 0, 2, 95) := rfl
theorem st_55_95 {d : Nat} {ls t : List Value} {g : mm_M} {r : mm_R} {x : Nat} (hT : g.1 x = some (0, 8)) : mm_Rn pg_G d 55 95 ls (.ref x :: t) g r ↔ mm_Rn pg_G d 55 98 ls (g.2.1 x 2 :: t) g r := rn_getfield tb_55_95 hT r
theorem tb_55_98 : mm_tb pg_G 55 98 = some (.invokevirtual 113, 22, 1, 238) := rfl
theorem st_55_98 {d c s c' s' : Nat} {ls t : List Value} {I J : sp_I} {r : mm_R} {y : Nat} {v : Int32} (hl : t.length ≤ 4) (hT : sp_T I y = some (1, 9)) (hq : mm_Rn pg_G d 22 0 [.ref y] [] (sp_me I 0 0) (some (.int v), sp_me J c' s')) : mm_Rn pg_G (d + 1) 55 98 ls (.ref y :: t) (sp_me I c s) r ↔ mm_Rn pg_G (d + 1) 55 101 ls (.int v :: t) (sp_me J (c + c') (s + s')) r := rn_virt (g := sp_me I c s) (st := .ref y :: t) tb_55_98 (decide_eq_true hT) ⟨Nat.le_add_left _ t.length, hl, rfl⟩ hq r
theorem tb_55_101 : mm_tb pg_G 55 101 = some (.ifCond .eq 39, 140, 0, 0) := rfl
theorem st_55_101 {d : Nat} {ls t : List Value} {g : mm_M} {r : mm_R} {x : Int32} : mm_Rn pg_G d 55 101 ls (.int x :: t) g r ↔ if x = 0 then mm_Rn pg_G d 55 140 ls (t) g r else mm_Rn pg_G d 55 104 ls (t) g r := rn_if_eq tb_55_101 r
theorem tb_55_104 : mm_tb pg_G 55 104 = some (.lload_n 2, 0, 0, 0) := rfl
theorem st_55_104 {l0 l1 l3 l4 l5 l6 : Value} {d : Nat} {t : List Value} {g : mm_M} {r : mm_R} {x : Int64} : mm_Rn pg_G d 55 104 [l0, l1, .long x, l3, l4, l5, l6] (t) g r ↔ mm_Rn pg_G d 55 105 [l0, l1, .long x, l3, l4, l5, l6] (.long x :: t) g r := rn_lload_n tb_55_104 rfl r
theorem tb_55_105 : mm_tb pg_G 55 105 = some (.aload_n 0, 0, 0, 0) := rfl
theorem st_55_105 {l1 l2 l3 l4 l5 l6 : Value} {d : Nat} {t : List Value} {g : mm_M} {r : mm_R} {x : Nat} : mm_Rn pg_G d 55 105 [.ref x, l1, l2, l3, l4, l5, l6] (t) g r ↔ mm_Rn pg_G d 55 106 [.ref x, l1, l2, l3, l4, l5, l6] (.ref x :: t) g r := rn_aload_n tb_55_105 rfl r
theorem tb_55_106 : mm_tb pg_G 55 106 = some (.getfield 22, 0, 2, 95) := rfl
theorem st_55_106 {d : Nat} {ls t : List Value} {g : mm_M} {r : mm_R} {x : Nat} (hT : g.1 x = some (0, 8)) : mm_Rn pg_G d 55 106 ls (.ref x :: t) g r ↔ mm_Rn pg_G d 55 109 ls (g.2.1 x 2 :: t) g r := rn_getfield tb_55_106 hT r
theorem tb_55_109 : mm_tb pg_G 55 109 = some (.getfield 168, 1, 4, 60) := rfl
theorem st_55_109 {d : Nat} {ls t : List Value} {g : mm_M} {r : mm_R} {x : Nat} (hT : g.1 x = some (1, 9)) : mm_Rn pg_G d 55 109 ls (.ref x :: t) g r ↔ mm_Rn pg_G d 55 112 ls (g.2.1 x 4 :: t) g r := rn_getfield tb_55_109 hT r
theorem tb_55_112 : mm_tb pg_G 55 112 = some (.i2l, 0, 0, 0) := rfl
theorem st_55_112 {d : Nat} {ls t : List Value} {g : mm_M} {r : mm_R} {x : Int32} : mm_Rn pg_G d 55 112 ls (.int x :: t) g r ↔ mm_Rn pg_G d 55 113 ls (.long x.toInt64 :: t) g r := rn_i2l tb_55_112 r
theorem tb_55_113 : mm_tb pg_G 55 113 = some (.lmul, 0, 0, 0) := rfl
theorem st_55_113 {d : Nat} {ls t : List Value} {g : mm_M} {r : mm_R} {x y : Int64} : mm_Rn pg_G d 55 113 ls (.long y :: .long x :: t) g r ↔ mm_Rn pg_G d 55 114 ls (.long (x * y) :: t) g r := rn_lmul tb_55_113 r
theorem tb_55_114 : mm_tb pg_G 55 114 = some (.aload_n 0, 0, 0, 0) := rfl
theorem st_55_114 {l1 l2 l3 l4 l5 l6 : Value} {d : Nat} {t : List Value} {g : mm_M} {r : mm_R} {x : Nat} : mm_Rn pg_G d 55 114 [.ref x, l1, l2, l3, l4, l5, l6] (t) g r ↔ mm_Rn pg_G d 55 115 [.ref x, l1, l2, l3, l4, l5, l6] (.ref x :: t) g r := rn_aload_n tb_55_114 rfl r
theorem tb_55_115 : mm_tb pg_G 55 115 = some (.getfield 22, 0, 2, 95) := rfl
theorem st_55_115 {d : Nat} {ls t : List Value} {g : mm_M} {r : mm_R} {x : Nat} (hT : g.1 x = some (0, 8)) : mm_Rn pg_G d 55 115 ls (.ref x :: t) g r ↔ mm_Rn pg_G d 55 118 ls (g.2.1 x 2 :: t) g r := rn_getfield tb_55_115 hT r
theorem tb_55_118 : mm_tb pg_G 55 118 = some (.getfield 169, 1, 3, 58) := rfl
theorem st_55_118 {d : Nat} {ls t : List Value} {g : mm_M} {r : mm_R} {x : Nat} (hT : g.1 x = some (1, 9)) : mm_Rn pg_G d 55 118 ls (.ref x :: t) g r ↔ mm_Rn pg_G d 55 121 ls (g.2.1 x 3 :: t) g r := rn_getfield tb_55_118 hT r
theorem tb_55_121 : mm_tb pg_G 55 121 = some (.i2l, 0, 0, 0) := rfl
theorem st_55_121 {d : Nat} {ls t : List Value} {g : mm_M} {r : mm_R} {x : Int32} : mm_Rn pg_G d 55 121 ls (.int x :: t) g r ↔ mm_Rn pg_G d 55 122 ls (.long x.toInt64 :: t) g r := rn_i2l tb_55_121 r
theorem tb_55_122 : mm_tb pg_G 55 122 = some (.lload 4, 0, 0, 0) := rfl
theorem st_55_122 {l0 l1 l2 l3 l5 l6 : Value} {d : Nat} {t : List Value} {g : mm_M} {r : mm_R} {x : Int64} : mm_Rn pg_G d 55 122 [l0, l1, l2, l3, .long x, l5, l6] (t) g r ↔ mm_Rn pg_G d 55 124 [l0, l1, l2, l3, .long x, l5, l6] (.long x :: t) g r := rn_lload tb_55_122 rfl r
theorem tb_55_124 : mm_tb pg_G 55 124 = some (.lmul, 0, 0, 0) := rfl
theorem st_55_124 {d : Nat} {ls t : List Value} {g : mm_M} {r : mm_R} {x y : Int64} : mm_Rn pg_G d 55 124 ls (.long y :: .long x :: t) g r ↔ mm_Rn pg_G d 55 125 ls (.long (x * y) :: t) g r := rn_lmul tb_55_124 r
theorem tb_55_125 : mm_tb pg_G 55 125 = some (.ladd, 0, 0, 0) := rfl
theorem st_55_125 {d : Nat} {ls t : List Value} {g : mm_M} {r : mm_R} {x y : Int64} : mm_Rn pg_G d 55 125 ls (.long y :: .long x :: t) g r ↔ mm_Rn pg_G d 55 126 ls (.long (x + y) :: t) g r := rn_ladd tb_55_125 r
theorem tb_55_126 : mm_tb pg_G 55 126 = some (.lstore_n 2, 0, 0, 0) := rfl
theorem st_55_126 {l0 l1 l2 l3 l4 l5 l6 : Value} {d : Nat} {t : List Value} {g : mm_M} {r : mm_R} {x : Int64} (hc : mm_c1 l1 = true) : mm_Rn pg_G d 55 126 [l0, l1, l2, l3, l4, l5, l6] (.long x :: t) g r ↔ mm_Rn pg_G d 55 127 [l0, l1, .long x, .retAddr 0, l4, l5, l6] (t) g r := rn_lstore_n tb_55_126 (mm_so_of (ls := [l0, l1, l2, l3, l4, l5, l6]) (v := l1) (Nat.le_of_ble_eq_true rfl) rfl hc) r
theorem tb_55_127 : mm_tb pg_G 55 127 = some (.lload 4, 0, 0, 0) := rfl
theorem st_55_127 {l0 l1 l2 l3 l5 l6 : Value} {d : Nat} {t : List Value} {g : mm_M} {r : mm_R} {x : Int64} : mm_Rn pg_G d 55 127 [l0, l1, l2, l3, .long x, l5, l6] (t) g r ↔ mm_Rn pg_G d 55 129 [l0, l1, l2, l3, .long x, l5, l6] (.long x :: t) g r := rn_lload tb_55_127 rfl r
theorem tb_55_129 : mm_tb pg_G 55 129 = some (.aload_n 0, 0, 0, 0) := rfl
theorem st_55_129 {l1 l2 l3 l4 l5 l6 : Value} {d : Nat} {t : List Value} {g : mm_M} {r : mm_R} {x : Nat} : mm_Rn pg_G d 55 129 [.ref x, l1, l2, l3, l4, l5, l6] (t) g r ↔ mm_Rn pg_G d 55 130 [.ref x, l1, l2, l3, l4, l5, l6] (.ref x :: t) g r := rn_aload_n tb_55_129 rfl r
theorem tb_55_130 : mm_tb pg_G 55 130 = some (.getfield 22, 0, 2, 95) := rfl
theorem st_55_130 {d : Nat} {ls t : List Value} {g : mm_M} {r : mm_R} {x : Nat} (hT : g.1 x = some (0, 8)) : mm_Rn pg_G d 55 130 ls (.ref x :: t) g r ↔ mm_Rn pg_G d 55 133 ls (g.2.1 x 2 :: t) g r := rn_getfield tb_55_130 hT r
theorem tb_55_133 : mm_tb pg_G 55 133 = some (.getfield 168, 1, 4, 60) := rfl
theorem st_55_133 {d : Nat} {ls t : List Value} {g : mm_M} {r : mm_R} {x : Nat} (hT : g.1 x = some (1, 9)) : mm_Rn pg_G d 55 133 ls (.ref x :: t) g r ↔ mm_Rn pg_G d 55 136 ls (g.2.1 x 4 :: t) g r := rn_getfield tb_55_133 hT r
theorem tb_55_136 : mm_tb pg_G 55 136 = some (.i2l, 0, 0, 0) := rfl
theorem st_55_136 {d : Nat} {ls t : List Value} {g : mm_M} {r : mm_R} {x : Int32} : mm_Rn pg_G d 55 136 ls (.int x :: t) g r ↔ mm_Rn pg_G d 55 137 ls (.long x.toInt64 :: t) g r := rn_i2l tb_55_136 r
theorem tb_55_137 : mm_tb pg_G 55 137 = some (.lmul, 0, 0, 0) := rfl
theorem st_55_137 {d : Nat} {ls t : List Value} {g : mm_M} {r : mm_R} {x y : Int64} : mm_Rn pg_G d 55 137 ls (.long y :: .long x :: t) g r ↔ mm_Rn pg_G d 55 138 ls (.long (x * y) :: t) g r := rn_lmul tb_55_137 r
theorem tb_55_138 : mm_tb pg_G 55 138 = some (.lstore 4, 0, 0, 0) := rfl
theorem st_55_138 {l0 l1 l2 l3 l4 l5 l6 : Value} {d : Nat} {t : List Value} {g : mm_M} {r : mm_R} {x : Int64} (hc : mm_c1 l3 = true) : mm_Rn pg_G d 55 138 [l0, l1, l2, l3, l4, l5, l6] (.long x :: t) g r ↔ mm_Rn pg_G d 55 140 [l0, l1, l2, l3, .long x, .retAddr 0, l6] (t) g r := rn_lstore tb_55_138 (mm_so_of (ls := [l0, l1, l2, l3, l4, l5, l6]) (v := l3) (Nat.le_of_ble_eq_true rfl) rfl hc) r
theorem tb_55_140 : mm_tb pg_G 55 140 = some (.lload_n 2, 0, 0, 0) := rfl
theorem st_55_140 {l0 l1 l3 l4 l5 l6 : Value} {d : Nat} {t : List Value} {g : mm_M} {r : mm_R} {x : Int64} : mm_Rn pg_G d 55 140 [l0, l1, .long x, l3, l4, l5, l6] (t) g r ↔ mm_Rn pg_G d 55 141 [l0, l1, .long x, l3, l4, l5, l6] (.long x :: t) g r := rn_lload_n tb_55_140 rfl r
theorem tb_55_141 : mm_tb pg_G 55 141 = some (.lload 4, 0, 0, 0) := rfl
theorem st_55_141 {l0 l1 l2 l3 l5 l6 : Value} {d : Nat} {t : List Value} {g : mm_M} {r : mm_R} {x : Int64} : mm_Rn pg_G d 55 141 [l0, l1, l2, l3, .long x, l5, l6] (t) g r ↔ mm_Rn pg_G d 55 143 [l0, l1, l2, l3, .long x, l5, l6] (.long x :: t) g r := rn_lload tb_55_141 rfl r
theorem tb_55_143 : mm_tb pg_G 55 143 = some (.lcmp, 0, 0, 0) := rfl
theorem st_55_143 {d : Nat} {ls t : List Value} {g : mm_M} {r : mm_R} {x y : Int64} : mm_Rn pg_G d 55 143 ls (.long y :: .long x :: t) g r ↔ mm_Rn pg_G d 55 144 ls (.int (lg_cmp x y) :: t) g r := rn_lcmp tb_55_143 r
theorem tb_55_144 : mm_tb pg_G 55 144 = some (.ifCond .gt 7, 151, 0, 0) := rfl
theorem st_55_144 {d : Nat} {ls t : List Value} {g : mm_M} {r : mm_R} {x : Int32} : mm_Rn pg_G d 55 144 ls (.int x :: t) g r ↔ if 0 < x then mm_Rn pg_G d 55 151 ls (t) g r else mm_Rn pg_G d 55 147 ls (t) g r := rn_if_gt tb_55_144 r
theorem tb_55_147 : mm_tb pg_G 55 147 = some (.iconst 1, 0, 0, 0) := rfl
theorem st_55_147 {d : Nat} {ls t : List Value} {g : mm_M} {r : mm_R} : mm_Rn pg_G d 55 147 ls (t) g r ↔ mm_Rn pg_G d 55 148 ls (io_v 1 :: t) g r := rn_iconst tb_55_147 r
theorem tb_55_148 : mm_tb pg_G 55 148 = some (.goto 4, 152, 0, 0) := rfl
theorem st_55_148 {d : Nat} {ls t : List Value} {g : mm_M} {r : mm_R} : mm_Rn pg_G d 55 148 ls (t) g r ↔ mm_Rn pg_G d 55 152 ls (t) g r := rn_goto tb_55_148 r
theorem tb_55_151 : mm_tb pg_G 55 151 = some (.iconst 0, 0, 0, 0) := rfl
theorem st_55_151 {d : Nat} {ls t : List Value} {g : mm_M} {r : mm_R} : mm_Rn pg_G d 55 151 ls (t) g r ↔ mm_Rn pg_G d 55 152 ls (io_v 0 :: t) g r := rn_iconst tb_55_151 r
theorem tb_55_152 : mm_tb pg_G 55 152 = some (.ireturn, 0, 0, 0) := rfl
theorem st_55_152 {d : Nat} {ls : List Value} {g : mm_M} {r : mm_R} {x : Int32} (hb : x = 0 ∨ x = 1) : mm_Rn pg_G d 55 152 ls [.int x] g r ↔ r = (some (.int x), g) := rn_ireturn_iff tb_55_152 (Or.inr ⟨rfl, hb⟩) r
theorem tb_56_0 : mm_tb pg_G 56 0 = some (.iconst 0, 0, 0, 0) := rfl
theorem st_56_0 {d : Nat} {ls t : List Value} {g : mm_M} {r : mm_R} : mm_Rn pg_G d 56 0 ls (t) g r ↔ mm_Rn pg_G d 56 1 ls (io_v 0 :: t) g r := rn_iconst tb_56_0 r
theorem tb_56_1 : mm_tb pg_G 56 1 = some (.istore_n 2, 0, 0, 0) := rfl
theorem st_56_1 {l0 l1 l2 l3 : Value} {d : Nat} {t : List Value} {g : mm_M} {r : mm_R} {x : Int32} (hc : mm_c1 l1 = true) : mm_Rn pg_G d 56 1 [l0, l1, l2, l3] (.int x :: t) g r ↔ mm_Rn pg_G d 56 2 [l0, l1, .int x, l3] (t) g r := rn_istore_n tb_56_1 (mm_so_of (ls := [l0, l1, l2, l3]) (v := l1) (Nat.le_of_ble_eq_true rfl) rfl hc) r
theorem tb_56_2 : mm_tb pg_G 56 2 = some (.iconst 0, 0, 0, 0) := rfl
theorem st_56_2 {d : Nat} {ls t : List Value} {g : mm_M} {r : mm_R} : mm_Rn pg_G d 56 2 ls (t) g r ↔ mm_Rn pg_G d 56 3 ls (io_v 0 :: t) g r := rn_iconst tb_56_2 r
theorem tb_56_3 : mm_tb pg_G 56 3 = some (.istore_n 3, 0, 0, 0) := rfl
theorem st_56_3 {l0 l1 l2 l3 : Value} {d : Nat} {t : List Value} {g : mm_M} {r : mm_R} {x : Int32} (hc : mm_c1 l2 = true) : mm_Rn pg_G d 56 3 [l0, l1, l2, l3] (.int x :: t) g r ↔ mm_Rn pg_G d 56 4 [l0, l1, l2, .int x] (t) g r := rn_istore_n tb_56_3 (mm_so_of (ls := [l0, l1, l2, l3]) (v := l2) (Nat.le_of_ble_eq_true rfl) rfl hc) r
theorem tb_56_4 : mm_tb pg_G 56 4 = some (.iload_n 3, 0, 0, 0) := rfl
theorem st_56_4 {l0 l1 l2 : Value} {d : Nat} {t : List Value} {g : mm_M} {r : mm_R} {x : Int32} : mm_Rn pg_G d 56 4 [l0, l1, l2, .int x] (t) g r ↔ mm_Rn pg_G d 56 5 [l0, l1, l2, .int x] (.int x :: t) g r := rn_iload_n tb_56_4 rfl r
theorem tb_56_5 : mm_tb pg_G 56 5 = some (.aload_n 0, 0, 0, 0) := rfl
theorem st_56_5 {l1 l2 l3 : Value} {d : Nat} {t : List Value} {g : mm_M} {r : mm_R} {x : Nat} : mm_Rn pg_G d 56 5 [.ref x, l1, l2, l3] (t) g r ↔ mm_Rn pg_G d 56 6 [.ref x, l1, l2, l3] (.ref x :: t) g r := rn_aload_n tb_56_5 rfl r
theorem tb_56_6 : mm_tb pg_G 56 6 = some (.getfield 33, 0, 4, 97) := rfl
theorem st_56_6 {d : Nat} {ls t : List Value} {g : mm_M} {r : mm_R} {x : Nat} (hT : g.1 x = some (0, 8)) : mm_Rn pg_G d 56 6 ls (.ref x :: t) g r ↔ mm_Rn pg_G d 56 9 ls (g.2.1 x 4 :: t) g r := rn_getfield tb_56_6 hT r
theorem tb_56_9 : mm_tb pg_G 56 9 = some (.if_icmp .ge 47, 56, 0, 0) := rfl
theorem st_56_9 {d : Nat} {ls t : List Value} {g : mm_M} {r : mm_R} {x y : Int32} : mm_Rn pg_G d 56 9 ls (.int y :: .int x :: t) g r ↔ if y ≤ x then mm_Rn pg_G d 56 56 ls (t) g r else mm_Rn pg_G d 56 12 ls (t) g r := rn_icmp_ge tb_56_9 r
theorem tb_56_12 : mm_tb pg_G 56 12 = some (.aload_n 0, 0, 0, 0) := rfl
theorem st_56_12 {l1 l2 l3 : Value} {d : Nat} {t : List Value} {g : mm_M} {r : mm_R} {x : Nat} : mm_Rn pg_G d 56 12 [.ref x, l1, l2, l3] (t) g r ↔ mm_Rn pg_G d 56 13 [.ref x, l1, l2, l3] (.ref x :: t) g r := rn_aload_n tb_56_12 rfl r
theorem tb_56_13 : mm_tb pg_G 56 13 = some (.getfield 11, 0, 0, 93) := rfl
theorem st_56_13 {d : Nat} {ls t : List Value} {g : mm_M} {r : mm_R} {x : Nat} (hT : g.1 x = some (0, 8)) : mm_Rn pg_G d 56 13 ls (.ref x :: t) g r ↔ mm_Rn pg_G d 56 16 ls (g.2.1 x 0 :: t) g r := rn_getfield tb_56_13 hT r
theorem tb_56_16 : mm_tb pg_G 56 16 = some (.iload_n 3, 0, 0, 0) := rfl
theorem st_56_16 {l0 l1 l2 : Value} {d : Nat} {t : List Value} {g : mm_M} {r : mm_R} {x : Int32} : mm_Rn pg_G d 56 16 [l0, l1, l2, .int x] (t) g r ↔ mm_Rn pg_G d 56 17 [l0, l1, l2, .int x] (.int x :: t) g r := rn_iload_n tb_56_16 rfl r
theorem tb_56_17 : mm_tb pg_G 56 17 = some (.aaload, 0, 0, 0) := rfl
theorem st_56_17 {d : Nat} {ls t : List Value} {g : mm_M} {r : mm_R} {x : Nat} {j : Int32} (hc : mm_in (g.1 x) 102 103 j = true) : mm_Rn pg_G d 56 17 ls (.int j :: .ref x :: t) g r ↔ mm_Rn pg_G d 56 18 ls (g.2.1 x j.toNatClampNeg :: t) g r := rn_aaload tb_56_17 hc r
theorem tb_56_18 : mm_tb pg_G 56 18 = some (.getfield 107, 3, 1, 144) := rfl
theorem st_56_18 {d : Nat} {ls t : List Value} {g : mm_M} {r : mm_R} {x : Nat} (hT : g.1 x = some (3, 10)) : mm_Rn pg_G d 56 18 ls (.ref x :: t) g r ↔ mm_Rn pg_G d 56 21 ls (g.2.1 x 1 :: t) g r := rn_getfield tb_56_18 hT r
theorem tb_56_21 : mm_tb pg_G 56 21 = some (.aload_n 1, 0, 0, 0) := rfl
theorem st_56_21 {l0 l2 l3 : Value} {d : Nat} {t : List Value} {g : mm_M} {r : mm_R} {x : Nat} : mm_Rn pg_G d 56 21 [l0, .ref x, l2, l3] (t) g r ↔ mm_Rn pg_G d 56 22 [l0, .ref x, l2, l3] (.ref x :: t) g r := rn_aload_n tb_56_21 rfl r
theorem tb_56_22 : mm_tb pg_G 56 22 = some (.getfield 107, 3, 1, 144) := rfl
theorem st_56_22 {d : Nat} {ls t : List Value} {g : mm_M} {r : mm_R} {x : Nat} (hT : g.1 x = some (3, 10)) : mm_Rn pg_G d 56 22 ls (.ref x :: t) g r ↔ mm_Rn pg_G d 56 25 ls (g.2.1 x 1 :: t) g r := rn_getfield tb_56_22 hT r
theorem tb_56_25 : mm_tb pg_G 56 25 = some (.if_icmp .le 25, 50, 0, 0) := rfl
theorem st_56_25 {d : Nat} {ls t : List Value} {g : mm_M} {r : mm_R} {x y : Int32} : mm_Rn pg_G d 56 25 ls (.int y :: .int x :: t) g r ↔ if x ≤ y then mm_Rn pg_G d 56 50 ls (t) g r else mm_Rn pg_G d 56 28 ls (t) g r := rn_icmp_le tb_56_25 r
theorem tb_56_28 : mm_tb pg_G 56 28 = some (.iload_n 2, 0, 0, 0) := rfl
theorem st_56_28 {l0 l1 l3 : Value} {d : Nat} {t : List Value} {g : mm_M} {r : mm_R} {x : Int32} : mm_Rn pg_G d 56 28 [l0, l1, .int x, l3] (t) g r ↔ mm_Rn pg_G d 56 29 [l0, l1, .int x, l3] (.int x :: t) g r := rn_iload_n tb_56_28 rfl r
theorem tb_56_29 : mm_tb pg_G 56 29 = some (.aload_n 0, 0, 0, 0) := rfl
theorem st_56_29 {l1 l2 l3 : Value} {d : Nat} {t : List Value} {g : mm_M} {r : mm_R} {x : Nat} : mm_Rn pg_G d 56 29 [.ref x, l1, l2, l3] (t) g r ↔ mm_Rn pg_G d 56 30 [.ref x, l1, l2, l3] (.ref x :: t) g r := rn_aload_n tb_56_29 rfl r
theorem tb_56_30 : mm_tb pg_G 56 30 = some (.getfield 11, 0, 0, 93) := rfl
theorem st_56_30 {d : Nat} {ls t : List Value} {g : mm_M} {r : mm_R} {x : Nat} (hT : g.1 x = some (0, 8)) : mm_Rn pg_G d 56 30 ls (.ref x :: t) g r ↔ mm_Rn pg_G d 56 33 ls (g.2.1 x 0 :: t) g r := rn_getfield tb_56_30 hT r
theorem tb_56_33 : mm_tb pg_G 56 33 = some (.iload_n 3, 0, 0, 0) := rfl
theorem st_56_33 {l0 l1 l2 : Value} {d : Nat} {t : List Value} {g : mm_M} {r : mm_R} {x : Int32} : mm_Rn pg_G d 56 33 [l0, l1, l2, .int x] (t) g r ↔ mm_Rn pg_G d 56 34 [l0, l1, l2, .int x] (.int x :: t) g r := rn_iload_n tb_56_33 rfl r
theorem tb_56_34 : mm_tb pg_G 56 34 = some (.aaload, 0, 0, 0) := rfl
theorem st_56_34 {d : Nat} {ls t : List Value} {g : mm_M} {r : mm_R} {x : Nat} {j : Int32} (hc : mm_in (g.1 x) 102 103 j = true) : mm_Rn pg_G d 56 34 ls (.int j :: .ref x :: t) g r ↔ mm_Rn pg_G d 56 35 ls (g.2.1 x j.toNatClampNeg :: t) g r := rn_aaload tb_56_34 hc r
theorem tb_56_35 : mm_tb pg_G 56 35 = some (.aload_n 0, 0, 0, 0) := rfl
theorem st_56_35 {l1 l2 l3 : Value} {d : Nat} {t : List Value} {g : mm_M} {r : mm_R} {x : Nat} : mm_Rn pg_G d 56 35 [.ref x, l1, l2, l3] (t) g r ↔ mm_Rn pg_G d 56 36 [.ref x, l1, l2, l3] (.ref x :: t) g r := rn_aload_n tb_56_35 rfl r
theorem tb_56_36 : mm_tb pg_G 56 36 = some (.getfield 15, 0, 1, 94) := rfl
theorem st_56_36 {d : Nat} {ls t : List Value} {g : mm_M} {r : mm_R} {x : Nat} (hT : g.1 x = some (0, 8)) : mm_Rn pg_G d 56 36 ls (.ref x :: t) g r ↔ mm_Rn pg_G d 56 39 ls (g.2.1 x 1 :: t) g r := rn_getfield tb_56_36 hT r
theorem tb_56_39 : mm_tb pg_G 56 39 = some (.aload_n 1, 0, 0, 0) := rfl
theorem st_56_39 {l0 l2 l3 : Value} {d : Nat} {t : List Value} {g : mm_M} {r : mm_R} {x : Nat} : mm_Rn pg_G d 56 39 [l0, .ref x, l2, l3] (t) g r ↔ mm_Rn pg_G d 56 40 [l0, .ref x, l2, l3] (.ref x :: t) g r := rn_aload_n tb_56_39 rfl r
theorem tb_56_40 : mm_tb pg_G 56 40 = some (.invokevirtual 67, 11, 1, 204) := rfl
theorem st_56_40 {d c s c' s' : Nat} {ls t : List Value} {I J : sp_I} {r : mm_R} {y : Nat} {v : Int32} (hl : t.length ≤ 4) (hT : sp_T I y = some (3, 10)) (hq : mm_Rn pg_G d 11 0 [.ref y] [] (sp_me I 0 0) (some (.int v), sp_me J c' s')) : mm_Rn pg_G (d + 1) 56 40 ls (.ref y :: t) (sp_me I c s) r ↔ mm_Rn pg_G (d + 1) 56 43 ls (.int v :: t) (sp_me J (c + c') (s + s')) r := rn_virt (g := sp_me I c s) (st := .ref y :: t) tb_56_40 (decide_eq_true hT) ⟨Nat.le_add_left _ t.length, hl, rfl⟩ hq r
theorem tb_56_43 : mm_tb pg_G 56 43 = some (.invokevirtual 172, 14, 3, 233) := rfl
theorem st_56_43 {d c s c' s' : Nat} {ls t : List Value} {I J : sp_I} {r : mm_R} {a1 : Int32} {y a0 : Nat} {v : Int32} (hl : t.length ≤ 4) (hT : sp_T I y = some (3, 10)) (hq : mm_Rn pg_G d 14 0 [.ref y, .ref a0, .int a1, .retAddr 0, .retAddr 0] [] (sp_me I 0 0) (some (.int v), sp_me J c' s')) : mm_Rn pg_G (d + 1) 56 43 ls (.int a1 :: .ref a0 :: .ref y :: t) (sp_me I c s) r ↔ mm_Rn pg_G (d + 1) 56 46 ls (.int v :: t) (sp_me J (c + c') (s + s')) r := rn_virt (g := sp_me I c s) (st := .int a1 :: .ref a0 :: .ref y :: t) tb_56_43 (decide_eq_true hT) ⟨Nat.le_add_left _ t.length, hl, rfl⟩ hq r
theorem tb_56_46 : mm_tb pg_G 56 46 = some (.invokestatic 71, 999, 0, 208) := rfl
theorem st_56_46 {d : Nat} {ls t : List Value} {g : mm_M} {r : mm_R} {x y : Int32} (hl : t.length ≤ 4) : mm_Rn pg_G (d + 1) 56 46 ls (.int y :: .int x :: t) g r ↔ mm_Rn pg_G (d + 1) 56 49 ls (.int (if x < y then y else x) :: t) g r := rn_max tb_56_46 hl r
theorem tb_56_49 : mm_tb pg_G 56 49 = some (.istore_n 2, 0, 0, 0) := rfl
theorem st_56_49 {l0 l1 l2 l3 : Value} {d : Nat} {t : List Value} {g : mm_M} {r : mm_R} {x : Int32} (hc : mm_c1 l1 = true) : mm_Rn pg_G d 56 49 [l0, l1, l2, l3] (.int x :: t) g r ↔ mm_Rn pg_G d 56 50 [l0, l1, .int x, l3] (t) g r := rn_istore_n tb_56_49 (mm_so_of (ls := [l0, l1, l2, l3]) (v := l1) (Nat.le_of_ble_eq_true rfl) rfl hc) r
theorem tb_56_50 : mm_tb pg_G 56 50 = some (.iinc 3 1, 0, 0, 0) := rfl
theorem st_56_50 {l0 l1 l2 : Value} {d : Nat} {t : List Value} {g : mm_M} {r : mm_R} {x : Int32} (hc : mm_c1 l2 = true) : mm_Rn pg_G d 56 50 [l0, l1, l2, .int x] (t) g r ↔ mm_Rn pg_G d 56 53 [l0, l1, l2, .int (x + Int32.ofInt 1)] (t) g r := rn_iinc tb_56_50 rfl (mm_so_of (ls := [l0, l1, l2, .int x]) (v := l2) (Nat.le_of_ble_eq_true rfl) rfl hc) r
theorem tb_56_53 : mm_tb pg_G 56 53 = some (.goto (-49), 4, 0, 0) := rfl
theorem st_56_53 {d : Nat} {ls t : List Value} {g : mm_M} {r : mm_R} : mm_Rn pg_G d 56 53 ls (t) g r ↔ mm_Rn pg_G d 56 4 ls (t) g r := rn_goto tb_56_53 r
theorem tb_56_56 : mm_tb pg_G 56 56 = some (.iload_n 2, 0, 0, 0) := rfl
theorem st_56_56 {l0 l1 l3 : Value} {d : Nat} {t : List Value} {g : mm_M} {r : mm_R} {x : Int32} : mm_Rn pg_G d 56 56 [l0, l1, .int x, l3] (t) g r ↔ mm_Rn pg_G d 56 57 [l0, l1, .int x, l3] (.int x :: t) g r := rn_iload_n tb_56_56 rfl r
theorem tb_56_57 : mm_tb pg_G 56 57 = some (.ireturn, 0, 0, 0) := rfl
theorem st_56_57 {d : Nat} {ls : List Value} {g : mm_M} {r : mm_R} {x : Int32} : mm_Rn pg_G d 56 57 ls [.int x] g r ↔ r = (some (.int x), g) := rn_ireturn_iff tb_56_57 (Or.inl rfl) r
theorem tb_57_0 : mm_tb pg_G 57 0 = some (.iload_n 1, 0, 0, 0) := rfl
theorem st_57_0 {l0 : Value} {d : Nat} {t : List Value} {g : mm_M} {r : mm_R} {x : Int32} : mm_Rn pg_G d 57 0 [l0, .int x] (t) g r ↔ mm_Rn pg_G d 57 1 [l0, .int x] (.int x :: t) g r := rn_iload_n tb_57_0 rfl r
theorem tb_57_1 : mm_tb pg_G 57 1 = some (.iconst 1, 0, 0, 0) := rfl
theorem st_57_1 {d : Nat} {ls t : List Value} {g : mm_M} {r : mm_R} : mm_Rn pg_G d 57 1 ls (t) g r ↔ mm_Rn pg_G d 57 2 ls (io_v 1 :: t) g r := rn_iconst tb_57_1 r
theorem tb_57_2 : mm_tb pg_G 57 2 = some (.if_icmp .ne 19, 21, 0, 0) := rfl
theorem st_57_2 {d : Nat} {ls t : List Value} {g : mm_M} {r : mm_R} {x y : Int32} : mm_Rn pg_G d 57 2 ls (.int y :: .int x :: t) g r ↔ if x = y then mm_Rn pg_G d 57 5 ls (t) g r else mm_Rn pg_G d 57 21 ls (t) g r := rn_icmp_ne tb_57_2 r
theorem tb_57_5 : mm_tb pg_G 57 5 = some (.aload_n 0, 0, 0, 0) := rfl
theorem st_57_5 {l1 : Value} {d : Nat} {t : List Value} {g : mm_M} {r : mm_R} {x : Nat} : mm_Rn pg_G d 57 5 [.ref x, l1] (t) g r ↔ mm_Rn pg_G d 57 6 [.ref x, l1] (.ref x :: t) g r := rn_aload_n tb_57_5 rfl r
theorem tb_57_6 : mm_tb pg_G 57 6 = some (.getfield 22, 0, 2, 95) := rfl
theorem st_57_6 {d : Nat} {ls t : List Value} {g : mm_M} {r : mm_R} {x : Nat} (hT : g.1 x = some (0, 8)) : mm_Rn pg_G d 57 6 ls (.ref x :: t) g r ↔ mm_Rn pg_G d 57 9 ls (g.2.1 x 2 :: t) g r := rn_getfield tb_57_6 hT r
theorem tb_57_9 : mm_tb pg_G 57 9 = some (.getfield 176, 1, 2, 56) := rfl
theorem st_57_9 {d : Nat} {ls t : List Value} {g : mm_M} {r : mm_R} {x : Nat} (hT : g.1 x = some (1, 9)) : mm_Rn pg_G d 57 9 ls (.ref x :: t) g r ↔ mm_Rn pg_G d 57 12 ls (g.2.1 x 2 :: t) g r := rn_getfield tb_57_9 hT r
theorem tb_57_12 : mm_tb pg_G 57 12 = some (.ifCond .le 7, 19, 0, 0) := rfl
theorem st_57_12 {d : Nat} {ls t : List Value} {g : mm_M} {r : mm_R} {x : Int32} : mm_Rn pg_G d 57 12 ls (.int x :: t) g r ↔ if x ≤ 0 then mm_Rn pg_G d 57 19 ls (t) g r else mm_Rn pg_G d 57 15 ls (t) g r := rn_if_le tb_57_12 r
theorem tb_57_15 : mm_tb pg_G 57 15 = some (.iconst 1, 0, 0, 0) := rfl
theorem st_57_15 {d : Nat} {ls t : List Value} {g : mm_M} {r : mm_R} : mm_Rn pg_G d 57 15 ls (t) g r ↔ mm_Rn pg_G d 57 16 ls (io_v 1 :: t) g r := rn_iconst tb_57_15 r
theorem tb_57_16 : mm_tb pg_G 57 16 = some (.goto 4, 20, 0, 0) := rfl
theorem st_57_16 {d : Nat} {ls t : List Value} {g : mm_M} {r : mm_R} : mm_Rn pg_G d 57 16 ls (t) g r ↔ mm_Rn pg_G d 57 20 ls (t) g r := rn_goto tb_57_16 r
theorem tb_57_19 : mm_tb pg_G 57 19 = some (.iconst 0, 0, 0, 0) := rfl
theorem st_57_19 {d : Nat} {ls t : List Value} {g : mm_M} {r : mm_R} : mm_Rn pg_G d 57 19 ls (t) g r ↔ mm_Rn pg_G d 57 20 ls (io_v 0 :: t) g r := rn_iconst tb_57_19 r
theorem tb_57_20 : mm_tb pg_G 57 20 = some (.ireturn, 0, 0, 0) := rfl
theorem st_57_20 {d : Nat} {ls : List Value} {g : mm_M} {r : mm_R} {x : Int32} (hb : x = 0 ∨ x = 1) : mm_Rn pg_G d 57 20 ls [.int x] g r ↔ r = (some (.int x), g) := rn_ireturn_iff tb_57_20 (Or.inr ⟨rfl, hb⟩) r
theorem tb_57_21 : mm_tb pg_G 57 21 = some (.aload_n 0, 0, 0, 0) := rfl
theorem st_57_21 {l1 : Value} {d : Nat} {t : List Value} {g : mm_M} {r : mm_R} {x : Nat} : mm_Rn pg_G d 57 21 [.ref x, l1] (t) g r ↔ mm_Rn pg_G d 57 22 [.ref x, l1] (.ref x :: t) g r := rn_aload_n tb_57_21 rfl r
theorem tb_57_22 : mm_tb pg_G 57 22 = some (.getfield 11, 0, 0, 93) := rfl
theorem st_57_22 {d : Nat} {ls t : List Value} {g : mm_M} {r : mm_R} {x : Nat} (hT : g.1 x = some (0, 8)) : mm_Rn pg_G d 57 22 ls (.ref x :: t) g r ↔ mm_Rn pg_G d 57 25 ls (g.2.1 x 0 :: t) g r := rn_getfield tb_57_22 hT r
theorem tb_57_25 : mm_tb pg_G 57 25 = some (.iload_n 1, 0, 0, 0) := rfl
theorem st_57_25 {l0 : Value} {d : Nat} {t : List Value} {g : mm_M} {r : mm_R} {x : Int32} : mm_Rn pg_G d 57 25 [l0, .int x] (t) g r ↔ mm_Rn pg_G d 57 26 [l0, .int x] (.int x :: t) g r := rn_iload_n tb_57_25 rfl r
theorem tb_57_26 : mm_tb pg_G 57 26 = some (.iconst 2, 0, 0, 0) := rfl
theorem st_57_26 {d : Nat} {ls t : List Value} {g : mm_M} {r : mm_R} : mm_Rn pg_G d 57 26 ls (t) g r ↔ mm_Rn pg_G d 57 27 ls (io_v 2 :: t) g r := rn_iconst tb_57_26 r
theorem tb_57_27 : mm_tb pg_G 57 27 = some (.isub, 0, 0, 0) := rfl
theorem st_57_27 {d : Nat} {ls t : List Value} {g : mm_M} {r : mm_R} {x y : Int32} : mm_Rn pg_G d 57 27 ls (.int y :: .int x :: t) g r ↔ mm_Rn pg_G d 57 28 ls (.int (x - y) :: t) g r := rn_isub tb_57_27 r
theorem tb_57_28 : mm_tb pg_G 57 28 = some (.aaload, 0, 0, 0) := rfl
theorem st_57_28 {d : Nat} {ls t : List Value} {g : mm_M} {r : mm_R} {x : Nat} {j : Int32} (hc : mm_in (g.1 x) 102 103 j = true) : mm_Rn pg_G d 57 28 ls (.int j :: .ref x :: t) g r ↔ mm_Rn pg_G d 57 29 ls (g.2.1 x j.toNatClampNeg :: t) g r := rn_aaload tb_57_28 hc r
theorem tb_57_29 : mm_tb pg_G 57 29 = some (.getfield 85, 3, 4, 149) := rfl
theorem st_57_29 {d : Nat} {ls t : List Value} {g : mm_M} {r : mm_R} {x : Nat} (hT : g.1 x = some (3, 10)) : mm_Rn pg_G d 57 29 ls (.ref x :: t) g r ↔ mm_Rn pg_G d 57 32 ls (g.2.1 x 4 :: t) g r := rn_getfield tb_57_29 hT r
theorem tb_57_32 : mm_tb pg_G 57 32 = some (.invokevirtual 89, 5, 1, 250) := rfl
theorem st_57_32 {d c s c' s' : Nat} {ls t : List Value} {I J : sp_I} {r : mm_R} {y : Nat} {v : Int32} (hl : t.length ≤ 4) (hT : sp_T I y = some (5, 7)) (hq : mm_Rn pg_G d 5 0 [.ref y] [] (sp_me I 0 0) (some (.int v), sp_me J c' s')) : mm_Rn pg_G (d + 1) 57 32 ls (.ref y :: t) (sp_me I c s) r ↔ mm_Rn pg_G (d + 1) 57 35 ls (.int v :: t) (sp_me J (c + c') (s + s')) r := rn_virt (g := sp_me I c s) (st := .ref y :: t) tb_57_32 (decide_eq_true hT) ⟨Nat.le_add_left _ t.length, hl, rfl⟩ hq r
theorem tb_57_35 : mm_tb pg_G 57 35 = some (.ireturn, 0, 0, 0) := rfl
theorem st_57_35 {d : Nat} {ls : List Value} {g : mm_M} {r : mm_R} {x : Int32} (hb : x = 0 ∨ x = 1) : mm_Rn pg_G d 57 35 ls [.int x] g r ↔ r = (some (.int x), g) := rn_ireturn_iff tb_57_35 (Or.inr ⟨rfl, hb⟩) r
theorem tb_58_0 : mm_tb pg_G 58 0 = some (.iload_n 1, 0, 0, 0) := rfl
theorem st_58_0 {l0 : Value} {d : Nat} {t : List Value} {g : mm_M} {r : mm_R} {x : Int32} : mm_Rn pg_G d 58 0 [l0, .int x] (t) g r ↔ mm_Rn pg_G d 58 1 [l0, .int x] (.int x :: t) g r := rn_iload_n tb_58_0 rfl r
theorem tb_58_1 : mm_tb pg_G 58 1 = some (.iconst 1, 0, 0, 0) := rfl
theorem st_58_1 {d : Nat} {ls t : List Value} {g : mm_M} {r : mm_R} : mm_Rn pg_G d 58 1 ls (t) g r ↔ mm_Rn pg_G d 58 2 ls (io_v 1 :: t) g r := rn_iconst tb_58_1 r
theorem tb_58_2 : mm_tb pg_G 58 2 = some (.if_icmp .ne 11, 13, 0, 0) := rfl
theorem st_58_2 {d : Nat} {ls t : List Value} {g : mm_M} {r : mm_R} {x y : Int32} : mm_Rn pg_G d 58 2 ls (.int y :: .int x :: t) g r ↔ if x = y then mm_Rn pg_G d 58 5 ls (t) g r else mm_Rn pg_G d 58 13 ls (t) g r := rn_icmp_ne tb_58_2 r
theorem tb_58_5 : mm_tb pg_G 58 5 = some (.aload_n 0, 0, 0, 0) := rfl
theorem st_58_5 {l1 : Value} {d : Nat} {t : List Value} {g : mm_M} {r : mm_R} {x : Nat} : mm_Rn pg_G d 58 5 [.ref x, l1] (t) g r ↔ mm_Rn pg_G d 58 6 [.ref x, l1] (.ref x :: t) g r := rn_aload_n tb_58_5 rfl r
theorem tb_58_6 : mm_tb pg_G 58 6 = some (.getfield 22, 0, 2, 95) := rfl
theorem st_58_6 {d : Nat} {ls t : List Value} {g : mm_M} {r : mm_R} {x : Nat} (hT : g.1 x = some (0, 8)) : mm_Rn pg_G d 58 6 ls (.ref x :: t) g r ↔ mm_Rn pg_G d 58 9 ls (g.2.1 x 2 :: t) g r := rn_getfield tb_58_6 hT r
theorem tb_58_9 : mm_tb pg_G 58 9 = some (.getfield 179, 1, 6, 63) := rfl
theorem st_58_9 {d : Nat} {ls t : List Value} {g : mm_M} {r : mm_R} {x : Nat} (hT : g.1 x = some (1, 9)) : mm_Rn pg_G d 58 9 ls (.ref x :: t) g r ↔ mm_Rn pg_G d 58 12 ls (g.2.1 x 6 :: t) g r := rn_getfield tb_58_9 hT r
theorem tb_58_12 : mm_tb pg_G 58 12 = some (.ireturn, 0, 0, 0) := rfl
theorem st_58_12 {d : Nat} {ls : List Value} {g : mm_M} {r : mm_R} {x : Int32} : mm_Rn pg_G d 58 12 ls [.int x] g r ↔ r = (some (.int x), g) := rn_ireturn_iff tb_58_12 (Or.inl rfl) r
theorem tb_58_13 : mm_tb pg_G 58 13 = some (.aload_n 0, 0, 0, 0) := rfl
theorem st_58_13 {l1 : Value} {d : Nat} {t : List Value} {g : mm_M} {r : mm_R} {x : Nat} : mm_Rn pg_G d 58 13 [.ref x, l1] (t) g r ↔ mm_Rn pg_G d 58 14 [.ref x, l1] (.ref x :: t) g r := rn_aload_n tb_58_13 rfl r
theorem tb_58_14 : mm_tb pg_G 58 14 = some (.getfield 11, 0, 0, 93) := rfl
theorem st_58_14 {d : Nat} {ls t : List Value} {g : mm_M} {r : mm_R} {x : Nat} (hT : g.1 x = some (0, 8)) : mm_Rn pg_G d 58 14 ls (.ref x :: t) g r ↔ mm_Rn pg_G d 58 17 ls (g.2.1 x 0 :: t) g r := rn_getfield tb_58_14 hT r
theorem tb_58_17 : mm_tb pg_G 58 17 = some (.iload_n 1, 0, 0, 0) := rfl
theorem st_58_17 {l0 : Value} {d : Nat} {t : List Value} {g : mm_M} {r : mm_R} {x : Int32} : mm_Rn pg_G d 58 17 [l0, .int x] (t) g r ↔ mm_Rn pg_G d 58 18 [l0, .int x] (.int x :: t) g r := rn_iload_n tb_58_17 rfl r
theorem tb_58_18 : mm_tb pg_G 58 18 = some (.iconst 2, 0, 0, 0) := rfl
theorem st_58_18 {d : Nat} {ls t : List Value} {g : mm_M} {r : mm_R} : mm_Rn pg_G d 58 18 ls (t) g r ↔ mm_Rn pg_G d 58 19 ls (io_v 2 :: t) g r := rn_iconst tb_58_18 r
theorem tb_58_19 : mm_tb pg_G 58 19 = some (.isub, 0, 0, 0) := rfl
theorem st_58_19 {d : Nat} {ls t : List Value} {g : mm_M} {r : mm_R} {x y : Int32} : mm_Rn pg_G d 58 19 ls (.int y :: .int x :: t) g r ↔ mm_Rn pg_G d 58 20 ls (.int (x - y) :: t) g r := rn_isub tb_58_19 r
theorem tb_58_20 : mm_tb pg_G 58 20 = some (.aaload, 0, 0, 0) := rfl
theorem st_58_20 {d : Nat} {ls t : List Value} {g : mm_M} {r : mm_R} {x : Nat} {j : Int32} (hc : mm_in (g.1 x) 102 103 j = true) : mm_Rn pg_G d 58 20 ls (.int j :: .ref x :: t) g r ↔ mm_Rn pg_G d 58 21 ls (g.2.1 x j.toNatClampNeg :: t) g r := rn_aaload tb_58_20 hc r
theorem tb_58_21 : mm_tb pg_G 58 21 = some (.getfield 85, 3, 4, 149) := rfl
theorem st_58_21 {d : Nat} {ls t : List Value} {g : mm_M} {r : mm_R} {x : Nat} (hT : g.1 x = some (3, 10)) : mm_Rn pg_G d 58 21 ls (.ref x :: t) g r ↔ mm_Rn pg_G d 58 24 ls (g.2.1 x 4 :: t) g r := rn_getfield tb_58_21 hT r
theorem tb_58_24 : mm_tb pg_G 58 24 = some (.getfield 182, 5, 4, 131) := rfl
theorem st_58_24 {d : Nat} {ls t : List Value} {g : mm_M} {r : mm_R} {x : Nat} (hT : g.1 x = some (5, 7)) : mm_Rn pg_G d 58 24 ls (.ref x :: t) g r ↔ mm_Rn pg_G d 58 27 ls (g.2.1 x 4 :: t) g r := rn_getfield tb_58_24 hT r
theorem tb_58_27 : mm_tb pg_G 58 27 = some (.ireturn, 0, 0, 0) := rfl
theorem st_58_27 {d : Nat} {ls : List Value} {g : mm_M} {r : mm_R} {x : Int32} : mm_Rn pg_G d 58 27 ls [.int x] g r ↔ r = (some (.int x), g) := rn_ireturn_iff tb_58_27 (Or.inl rfl) r
theorem tb_59_0 : mm_tb pg_G 59 0 = some (.aload_n 0, 0, 0, 0) := rfl
theorem st_59_0 {l1 l2 l3 l4 : Value} {d : Nat} {t : List Value} {g : mm_M} {r : mm_R} {x : Nat} : mm_Rn pg_G d 59 0 [.ref x, l1, l2, l3, l4] (t) g r ↔ mm_Rn pg_G d 59 1 [.ref x, l1, l2, l3, l4] (.ref x :: t) g r := rn_aload_n tb_59_0 rfl r
theorem tb_59_1 : mm_tb pg_G 59 1 = some (.iload_n 1, 0, 0, 0) := rfl
theorem st_59_1 {l0 l2 l3 l4 : Value} {d : Nat} {t : List Value} {g : mm_M} {r : mm_R} {x : Int32} : mm_Rn pg_G d 59 1 [l0, .int x, l2, l3, l4] (t) g r ↔ mm_Rn pg_G d 59 2 [l0, .int x, l2, l3, l4] (.int x :: t) g r := rn_iload_n tb_59_1 rfl r
theorem tb_59_2 : mm_tb pg_G 59 2 = some (.invokevirtual 183, 58, 2, 290) := rfl
theorem st_59_2 {d c s c' s' : Nat} {ls t : List Value} {I J : sp_I} {r : mm_R} {a0 : Int32} {y : Nat} {v : Int32} (hl : t.length ≤ 4) (hT : sp_T I y = some (0, 8)) (hq : mm_Rn pg_G d 58 0 [.ref y, .int a0] [] (sp_me I 0 0) (some (.int v), sp_me J c' s')) : mm_Rn pg_G (d + 1) 59 2 ls (.int a0 :: .ref y :: t) (sp_me I c s) r ↔ mm_Rn pg_G (d + 1) 59 5 ls (.int v :: t) (sp_me J (c + c') (s + s')) r := rn_virt (g := sp_me I c s) (st := .int a0 :: .ref y :: t) tb_59_2 (decide_eq_true hT) ⟨Nat.le_add_left _ t.length, hl, rfl⟩ hq r
theorem tb_59_5 : mm_tb pg_G 59 5 = some (.istore_n 3, 0, 0, 0) := rfl
theorem st_59_5 {l0 l1 l2 l3 l4 : Value} {d : Nat} {t : List Value} {g : mm_M} {r : mm_R} {x : Int32} (hc : mm_c1 l2 = true) : mm_Rn pg_G d 59 5 [l0, l1, l2, l3, l4] (.int x :: t) g r ↔ mm_Rn pg_G d 59 6 [l0, l1, l2, .int x, l4] (t) g r := rn_istore_n tb_59_5 (mm_so_of (ls := [l0, l1, l2, l3, l4]) (v := l2) (Nat.le_of_ble_eq_true rfl) rfl hc) r
theorem tb_59_6 : mm_tb pg_G 59 6 = some (.aload_n 0, 0, 0, 0) := rfl
theorem st_59_6 {l1 l2 l3 l4 : Value} {d : Nat} {t : List Value} {g : mm_M} {r : mm_R} {x : Nat} : mm_Rn pg_G d 59 6 [.ref x, l1, l2, l3, l4] (t) g r ↔ mm_Rn pg_G d 59 7 [.ref x, l1, l2, l3, l4] (.ref x :: t) g r := rn_aload_n tb_59_6 rfl r
theorem tb_59_7 : mm_tb pg_G 59 7 = some (.iload_n 2, 0, 0, 0) := rfl
theorem st_59_7 {l0 l1 l3 l4 : Value} {d : Nat} {t : List Value} {g : mm_M} {r : mm_R} {x : Int32} : mm_Rn pg_G d 59 7 [l0, l1, .int x, l3, l4] (t) g r ↔ mm_Rn pg_G d 59 8 [l0, l1, .int x, l3, l4] (.int x :: t) g r := rn_iload_n tb_59_7 rfl r
theorem tb_59_8 : mm_tb pg_G 59 8 = some (.invokevirtual 183, 58, 2, 290) := rfl
theorem st_59_8 {d c s c' s' : Nat} {ls t : List Value} {I J : sp_I} {r : mm_R} {a0 : Int32} {y : Nat} {v : Int32} (hl : t.length ≤ 4) (hT : sp_T I y = some (0, 8)) (hq : mm_Rn pg_G d 58 0 [.ref y, .int a0] [] (sp_me I 0 0) (some (.int v), sp_me J c' s')) : mm_Rn pg_G (d + 1) 59 8 ls (.int a0 :: .ref y :: t) (sp_me I c s) r ↔ mm_Rn pg_G (d + 1) 59 11 ls (.int v :: t) (sp_me J (c + c') (s + s')) r := rn_virt (g := sp_me I c s) (st := .int a0 :: .ref y :: t) tb_59_8 (decide_eq_true hT) ⟨Nat.le_add_left _ t.length, hl, rfl⟩ hq r
theorem tb_59_11 : mm_tb pg_G 59 11 = some (.istore 4, 0, 0, 0) := rfl
theorem st_59_11 {l0 l1 l2 l3 l4 : Value} {d : Nat} {t : List Value} {g : mm_M} {r : mm_R} {x : Int32} (hc : mm_c1 l3 = true) : mm_Rn pg_G d 59 11 [l0, l1, l2, l3, l4] (.int x :: t) g r ↔ mm_Rn pg_G d 59 13 [l0, l1, l2, l3, .int x] (t) g r := rn_istore tb_59_11 (mm_so_of (ls := [l0, l1, l2, l3, l4]) (v := l3) (Nat.le_of_ble_eq_true rfl) rfl hc) r
theorem tb_59_13 : mm_tb pg_G 59 13 = some (.iload_n 3, 0, 0, 0) := rfl
theorem st_59_13 {l0 l1 l2 l4 : Value} {d : Nat} {t : List Value} {g : mm_M} {r : mm_R} {x : Int32} : mm_Rn pg_G d 59 13 [l0, l1, l2, .int x, l4] (t) g r ↔ mm_Rn pg_G d 59 14 [l0, l1, l2, .int x, l4] (.int x :: t) g r := rn_iload_n tb_59_13 rfl r
theorem tb_59_14 : mm_tb pg_G 59 14 = some (.iload 4, 0, 0, 0) := rfl
theorem st_59_14 {l0 l1 l2 l3 : Value} {d : Nat} {t : List Value} {g : mm_M} {r : mm_R} {x : Int32} : mm_Rn pg_G d 59 14 [l0, l1, l2, l3, .int x] (t) g r ↔ mm_Rn pg_G d 59 16 [l0, l1, l2, l3, .int x] (.int x :: t) g r := rn_iload tb_59_14 rfl r
theorem tb_59_16 : mm_tb pg_G 59 16 = some (.if_icmp .eq 15, 31, 0, 0) := rfl
theorem st_59_16 {d : Nat} {ls t : List Value} {g : mm_M} {r : mm_R} {x y : Int32} : mm_Rn pg_G d 59 16 ls (.int y :: .int x :: t) g r ↔ if x = y then mm_Rn pg_G d 59 31 ls (t) g r else mm_Rn pg_G d 59 19 ls (t) g r := rn_icmp_eq tb_59_16 r
theorem tb_59_19 : mm_tb pg_G 59 19 = some (.iload_n 3, 0, 0, 0) := rfl
theorem st_59_19 {l0 l1 l2 l4 : Value} {d : Nat} {t : List Value} {g : mm_M} {r : mm_R} {x : Int32} : mm_Rn pg_G d 59 19 [l0, l1, l2, .int x, l4] (t) g r ↔ mm_Rn pg_G d 59 20 [l0, l1, l2, .int x, l4] (.int x :: t) g r := rn_iload_n tb_59_19 rfl r
theorem tb_59_20 : mm_tb pg_G 59 20 = some (.iload 4, 0, 0, 0) := rfl
theorem st_59_20 {l0 l1 l2 l3 : Value} {d : Nat} {t : List Value} {g : mm_M} {r : mm_R} {x : Int32} : mm_Rn pg_G d 59 20 [l0, l1, l2, l3, .int x] (t) g r ↔ mm_Rn pg_G d 59 22 [l0, l1, l2, l3, .int x] (.int x :: t) g r := rn_iload tb_59_20 rfl r
theorem tb_59_22 : mm_tb pg_G 59 22 = some (.if_icmp .ge 7, 29, 0, 0) := rfl
theorem st_59_22 {d : Nat} {ls t : List Value} {g : mm_M} {r : mm_R} {x y : Int32} : mm_Rn pg_G d 59 22 ls (.int y :: .int x :: t) g r ↔ if y ≤ x then mm_Rn pg_G d 59 29 ls (t) g r else mm_Rn pg_G d 59 25 ls (t) g r := rn_icmp_ge tb_59_22 r
theorem tb_59_25 : mm_tb pg_G 59 25 = some (.iconst 1, 0, 0, 0) := rfl
theorem st_59_25 {d : Nat} {ls t : List Value} {g : mm_M} {r : mm_R} : mm_Rn pg_G d 59 25 ls (t) g r ↔ mm_Rn pg_G d 59 26 ls (io_v 1 :: t) g r := rn_iconst tb_59_25 r
theorem tb_59_26 : mm_tb pg_G 59 26 = some (.goto 4, 30, 0, 0) := rfl
theorem st_59_26 {d : Nat} {ls t : List Value} {g : mm_M} {r : mm_R} : mm_Rn pg_G d 59 26 ls (t) g r ↔ mm_Rn pg_G d 59 30 ls (t) g r := rn_goto tb_59_26 r
theorem tb_59_29 : mm_tb pg_G 59 29 = some (.iconst 0, 0, 0, 0) := rfl
theorem st_59_29 {d : Nat} {ls t : List Value} {g : mm_M} {r : mm_R} : mm_Rn pg_G d 59 29 ls (t) g r ↔ mm_Rn pg_G d 59 30 ls (io_v 0 :: t) g r := rn_iconst tb_59_29 r
theorem tb_59_30 : mm_tb pg_G 59 30 = some (.ireturn, 0, 0, 0) := rfl
theorem st_59_30 {d : Nat} {ls : List Value} {g : mm_M} {r : mm_R} {x : Int32} (hb : x = 0 ∨ x = 1) : mm_Rn pg_G d 59 30 ls [.int x] g r ↔ r = (some (.int x), g) := rn_ireturn_iff tb_59_30 (Or.inr ⟨rfl, hb⟩) r
theorem tb_59_31 : mm_tb pg_G 59 31 = some (.iload_n 1, 0, 0, 0) := rfl
theorem st_59_31 {l0 l2 l3 l4 : Value} {d : Nat} {t : List Value} {g : mm_M} {r : mm_R} {x : Int32} : mm_Rn pg_G d 59 31 [l0, .int x, l2, l3, l4] (t) g r ↔ mm_Rn pg_G d 59 32 [l0, .int x, l2, l3, l4] (.int x :: t) g r := rn_iload_n tb_59_31 rfl r
theorem tb_59_32 : mm_tb pg_G 59 32 = some (.iconst 1, 0, 0, 0) := rfl
theorem st_59_32 {d : Nat} {ls t : List Value} {g : mm_M} {r : mm_R} : mm_Rn pg_G d 59 32 ls (t) g r ↔ mm_Rn pg_G d 59 33 ls (io_v 1 :: t) g r := rn_iconst tb_59_32 r
theorem tb_59_33 : mm_tb pg_G 59 33 = some (.if_icmp .eq 17, 50, 0, 0) := rfl
theorem st_59_33 {d : Nat} {ls t : List Value} {g : mm_M} {r : mm_R} {x y : Int32} : mm_Rn pg_G d 59 33 ls (.int y :: .int x :: t) g r ↔ if x = y then mm_Rn pg_G d 59 50 ls (t) g r else mm_Rn pg_G d 59 36 ls (t) g r := rn_icmp_eq tb_59_33 r
theorem tb_59_36 : mm_tb pg_G 59 36 = some (.iload_n 2, 0, 0, 0) := rfl
theorem st_59_36 {l0 l1 l3 l4 : Value} {d : Nat} {t : List Value} {g : mm_M} {r : mm_R} {x : Int32} : mm_Rn pg_G d 59 36 [l0, l1, .int x, l3, l4] (t) g r ↔ mm_Rn pg_G d 59 37 [l0, l1, .int x, l3, l4] (.int x :: t) g r := rn_iload_n tb_59_36 rfl r
theorem tb_59_37 : mm_tb pg_G 59 37 = some (.iconst 1, 0, 0, 0) := rfl
theorem st_59_37 {d : Nat} {ls t : List Value} {g : mm_M} {r : mm_R} : mm_Rn pg_G d 59 37 ls (t) g r ↔ mm_Rn pg_G d 59 38 ls (io_v 1 :: t) g r := rn_iconst tb_59_37 r
theorem tb_59_38 : mm_tb pg_G 59 38 = some (.if_icmp .eq 8, 46, 0, 0) := rfl
theorem st_59_38 {d : Nat} {ls t : List Value} {g : mm_M} {r : mm_R} {x y : Int32} : mm_Rn pg_G d 59 38 ls (.int y :: .int x :: t) g r ↔ if x = y then mm_Rn pg_G d 59 46 ls (t) g r else mm_Rn pg_G d 59 41 ls (t) g r := rn_icmp_eq tb_59_38 r
theorem tb_59_41 : mm_tb pg_G 59 41 = some (.iload_n 1, 0, 0, 0) := rfl
theorem st_59_41 {l0 l2 l3 l4 : Value} {d : Nat} {t : List Value} {g : mm_M} {r : mm_R} {x : Int32} : mm_Rn pg_G d 59 41 [l0, .int x, l2, l3, l4] (t) g r ↔ mm_Rn pg_G d 59 42 [l0, .int x, l2, l3, l4] (.int x :: t) g r := rn_iload_n tb_59_41 rfl r
theorem tb_59_42 : mm_tb pg_G 59 42 = some (.iload_n 2, 0, 0, 0) := rfl
theorem st_59_42 {l0 l1 l3 l4 : Value} {d : Nat} {t : List Value} {g : mm_M} {r : mm_R} {x : Int32} : mm_Rn pg_G d 59 42 [l0, l1, .int x, l3, l4] (t) g r ↔ mm_Rn pg_G d 59 43 [l0, l1, .int x, l3, l4] (.int x :: t) g r := rn_iload_n tb_59_42 rfl r
theorem tb_59_43 : mm_tb pg_G 59 43 = some (.if_icmp .ge 7, 50, 0, 0) := rfl
theorem st_59_43 {d : Nat} {ls t : List Value} {g : mm_M} {r : mm_R} {x y : Int32} : mm_Rn pg_G d 59 43 ls (.int y :: .int x :: t) g r ↔ if y ≤ x then mm_Rn pg_G d 59 50 ls (t) g r else mm_Rn pg_G d 59 46 ls (t) g r := rn_icmp_ge tb_59_43 r
theorem tb_59_46 : mm_tb pg_G 59 46 = some (.iconst 1, 0, 0, 0) := rfl
theorem st_59_46 {d : Nat} {ls t : List Value} {g : mm_M} {r : mm_R} : mm_Rn pg_G d 59 46 ls (t) g r ↔ mm_Rn pg_G d 59 47 ls (io_v 1 :: t) g r := rn_iconst tb_59_46 r
theorem tb_59_47 : mm_tb pg_G 59 47 = some (.goto 4, 51, 0, 0) := rfl
theorem st_59_47 {d : Nat} {ls t : List Value} {g : mm_M} {r : mm_R} : mm_Rn pg_G d 59 47 ls (t) g r ↔ mm_Rn pg_G d 59 51 ls (t) g r := rn_goto tb_59_47 r
theorem tb_59_50 : mm_tb pg_G 59 50 = some (.iconst 0, 0, 0, 0) := rfl
theorem st_59_50 {d : Nat} {ls t : List Value} {g : mm_M} {r : mm_R} : mm_Rn pg_G d 59 50 ls (t) g r ↔ mm_Rn pg_G d 59 51 ls (io_v 0 :: t) g r := rn_iconst tb_59_50 r
theorem tb_59_51 : mm_tb pg_G 59 51 = some (.ireturn, 0, 0, 0) := rfl
theorem st_59_51 {d : Nat} {ls : List Value} {g : mm_M} {r : mm_R} {x : Int32} (hb : x = 0 ∨ x = 1) : mm_Rn pg_G d 59 51 ls [.int x] g r ↔ r = (some (.int x), g) := rn_ireturn_iff tb_59_51 (Or.inr ⟨rfl, hb⟩) r
theorem tb_60_0 : mm_tb pg_G 60 0 = some (.iconst 0, 0, 0, 0) := rfl
theorem st_60_0 {d : Nat} {ls t : List Value} {g : mm_M} {r : mm_R} : mm_Rn pg_G d 60 0 ls (t) g r ↔ mm_Rn pg_G d 60 1 ls (io_v 0 :: t) g r := rn_iconst tb_60_0 r
theorem tb_60_1 : mm_tb pg_G 60 1 = some (.istore_n 2, 0, 0, 0) := rfl
theorem st_60_1 {l0 l1 l2 l3 : Value} {d : Nat} {t : List Value} {g : mm_M} {r : mm_R} {x : Int32} (hc : mm_c1 l1 = true) : mm_Rn pg_G d 60 1 [l0, l1, l2, l3] (.int x :: t) g r ↔ mm_Rn pg_G d 60 2 [l0, l1, .int x, l3] (t) g r := rn_istore_n tb_60_1 (mm_so_of (ls := [l0, l1, l2, l3]) (v := l1) (Nat.le_of_ble_eq_true rfl) rfl hc) r
theorem tb_60_2 : mm_tb pg_G 60 2 = some (.iconst 1, 0, 0, 0) := rfl
theorem st_60_2 {d : Nat} {ls t : List Value} {g : mm_M} {r : mm_R} : mm_Rn pg_G d 60 2 ls (t) g r ↔ mm_Rn pg_G d 60 3 ls (io_v 1 :: t) g r := rn_iconst tb_60_2 r
theorem tb_60_3 : mm_tb pg_G 60 3 = some (.istore_n 3, 0, 0, 0) := rfl
theorem st_60_3 {l0 l1 l2 l3 : Value} {d : Nat} {t : List Value} {g : mm_M} {r : mm_R} {x : Int32} (hc : mm_c1 l2 = true) : mm_Rn pg_G d 60 3 [l0, l1, l2, l3] (.int x :: t) g r ↔ mm_Rn pg_G d 60 4 [l0, l1, l2, .int x] (t) g r := rn_istore_n tb_60_3 (mm_so_of (ls := [l0, l1, l2, l3]) (v := l2) (Nat.le_of_ble_eq_true rfl) rfl hc) r
theorem tb_60_4 : mm_tb pg_G 60 4 = some (.iload_n 3, 0, 0, 0) := rfl
theorem st_60_4 {l0 l1 l2 : Value} {d : Nat} {t : List Value} {g : mm_M} {r : mm_R} {x : Int32} : mm_Rn pg_G d 60 4 [l0, l1, l2, .int x] (t) g r ↔ mm_Rn pg_G d 60 5 [l0, l1, l2, .int x] (.int x :: t) g r := rn_iload_n tb_60_4 rfl r
theorem tb_60_5 : mm_tb pg_G 60 5 = some (.iconst 2, 0, 0, 0) := rfl
theorem st_60_5 {d : Nat} {ls t : List Value} {g : mm_M} {r : mm_R} : mm_Rn pg_G d 60 5 ls (t) g r ↔ mm_Rn pg_G d 60 6 ls (io_v 2 :: t) g r := rn_iconst tb_60_5 r
theorem tb_60_6 : mm_tb pg_G 60 6 = some (.aload_n 0, 0, 0, 0) := rfl
theorem st_60_6 {l1 l2 l3 : Value} {d : Nat} {t : List Value} {g : mm_M} {r : mm_R} {x : Nat} : mm_Rn pg_G d 60 6 [.ref x, l1, l2, l3] (t) g r ↔ mm_Rn pg_G d 60 7 [.ref x, l1, l2, l3] (.ref x :: t) g r := rn_aload_n tb_60_6 rfl r
theorem tb_60_7 : mm_tb pg_G 60 7 = some (.getfield 33, 0, 4, 97) := rfl
theorem st_60_7 {d : Nat} {ls t : List Value} {g : mm_M} {r : mm_R} {x : Nat} (hT : g.1 x = some (0, 8)) : mm_Rn pg_G d 60 7 ls (.ref x :: t) g r ↔ mm_Rn pg_G d 60 10 ls (g.2.1 x 4 :: t) g r := rn_getfield tb_60_7 hT r
theorem tb_60_10 : mm_tb pg_G 60 10 = some (.iadd, 0, 0, 0) := rfl
theorem st_60_10 {d : Nat} {ls t : List Value} {g : mm_M} {r : mm_R} {x y : Int32} : mm_Rn pg_G d 60 10 ls (.int y :: .int x :: t) g r ↔ mm_Rn pg_G d 60 11 ls (.int (x + y) :: t) g r := rn_iadd tb_60_10 r
theorem tb_60_11 : mm_tb pg_G 60 11 = some (.if_icmp .ge 29, 40, 0, 0) := rfl
theorem st_60_11 {d : Nat} {ls t : List Value} {g : mm_M} {r : mm_R} {x y : Int32} : mm_Rn pg_G d 60 11 ls (.int y :: .int x :: t) g r ↔ if y ≤ x then mm_Rn pg_G d 60 40 ls (t) g r else mm_Rn pg_G d 60 14 ls (t) g r := rn_icmp_ge tb_60_11 r
theorem tb_60_14 : mm_tb pg_G 60 14 = some (.aload_n 0, 0, 0, 0) := rfl
theorem st_60_14 {l1 l2 l3 : Value} {d : Nat} {t : List Value} {g : mm_M} {r : mm_R} {x : Nat} : mm_Rn pg_G d 60 14 [.ref x, l1, l2, l3] (t) g r ↔ mm_Rn pg_G d 60 15 [.ref x, l1, l2, l3] (.ref x :: t) g r := rn_aload_n tb_60_14 rfl r
theorem tb_60_15 : mm_tb pg_G 60 15 = some (.iload_n 3, 0, 0, 0) := rfl
theorem st_60_15 {l0 l1 l2 : Value} {d : Nat} {t : List Value} {g : mm_M} {r : mm_R} {x : Int32} : mm_Rn pg_G d 60 15 [l0, l1, l2, .int x] (t) g r ↔ mm_Rn pg_G d 60 16 [l0, l1, l2, .int x] (.int x :: t) g r := rn_iload_n tb_60_15 rfl r
theorem tb_60_16 : mm_tb pg_G 60 16 = some (.invokevirtual 130, 57, 2, 284) := rfl
theorem st_60_16 {d c s c' s' : Nat} {ls t : List Value} {I J : sp_I} {r : mm_R} {a0 : Int32} {y : Nat} {v : Int32} (hl : t.length ≤ 4) (hT : sp_T I y = some (0, 8)) (hq : mm_Rn pg_G d 57 0 [.ref y, .int a0] [] (sp_me I 0 0) (some (.int v), sp_me J c' s')) : mm_Rn pg_G (d + 1) 60 16 ls (.int a0 :: .ref y :: t) (sp_me I c s) r ↔ mm_Rn pg_G (d + 1) 60 19 ls (.int v :: t) (sp_me J (c + c') (s + s')) r := rn_virt (g := sp_me I c s) (st := .int a0 :: .ref y :: t) tb_60_16 (decide_eq_true hT) ⟨Nat.le_add_left _ t.length, hl, rfl⟩ hq r
theorem tb_60_19 : mm_tb pg_G 60 19 = some (.ifCond .eq 15, 34, 0, 0) := rfl
theorem st_60_19 {d : Nat} {ls t : List Value} {g : mm_M} {r : mm_R} {x : Int32} : mm_Rn pg_G d 60 19 ls (.int x :: t) g r ↔ if x = 0 then mm_Rn pg_G d 60 34 ls (t) g r else mm_Rn pg_G d 60 22 ls (t) g r := rn_if_eq tb_60_19 r
theorem tb_60_22 : mm_tb pg_G 60 22 = some (.aload_n 0, 0, 0, 0) := rfl
theorem st_60_22 {l1 l2 l3 : Value} {d : Nat} {t : List Value} {g : mm_M} {r : mm_R} {x : Nat} : mm_Rn pg_G d 60 22 [.ref x, l1, l2, l3] (t) g r ↔ mm_Rn pg_G d 60 23 [.ref x, l1, l2, l3] (.ref x :: t) g r := rn_aload_n tb_60_22 rfl r
theorem tb_60_23 : mm_tb pg_G 60 23 = some (.iload_n 3, 0, 0, 0) := rfl
theorem st_60_23 {l0 l1 l2 : Value} {d : Nat} {t : List Value} {g : mm_M} {r : mm_R} {x : Int32} : mm_Rn pg_G d 60 23 [l0, l1, l2, .int x] (t) g r ↔ mm_Rn pg_G d 60 24 [l0, l1, l2, .int x] (.int x :: t) g r := rn_iload_n tb_60_23 rfl r
theorem tb_60_24 : mm_tb pg_G 60 24 = some (.iload_n 1, 0, 0, 0) := rfl
theorem st_60_24 {l0 l2 l3 : Value} {d : Nat} {t : List Value} {g : mm_M} {r : mm_R} {x : Int32} : mm_Rn pg_G d 60 24 [l0, .int x, l2, l3] (t) g r ↔ mm_Rn pg_G d 60 25 [l0, .int x, l2, l3] (.int x :: t) g r := rn_iload_n tb_60_24 rfl r
theorem tb_60_25 : mm_tb pg_G 60 25 = some (.invokevirtual 186, 59, 3, 287) := rfl
theorem st_60_25 {d c s c' s' : Nat} {ls t : List Value} {I J : sp_I} {r : mm_R} {a0 a1 : Int32} {y : Nat} {v : Int32} (hl : t.length ≤ 4) (hT : sp_T I y = some (0, 8)) (hq : mm_Rn pg_G d 59 0 [.ref y, .int a0, .int a1, .retAddr 0, .retAddr 0] [] (sp_me I 0 0) (some (.int v), sp_me J c' s')) : mm_Rn pg_G (d + 1) 60 25 ls (.int a1 :: .int a0 :: .ref y :: t) (sp_me I c s) r ↔ mm_Rn pg_G (d + 1) 60 28 ls (.int v :: t) (sp_me J (c + c') (s + s')) r := rn_virt (g := sp_me I c s) (st := .int a1 :: .int a0 :: .ref y :: t) tb_60_25 (decide_eq_true hT) ⟨Nat.le_add_left _ t.length, hl, rfl⟩ hq r
theorem tb_60_28 : mm_tb pg_G 60 28 = some (.ifCond .eq 6, 34, 0, 0) := rfl
theorem st_60_28 {d : Nat} {ls t : List Value} {g : mm_M} {r : mm_R} {x : Int32} : mm_Rn pg_G d 60 28 ls (.int x :: t) g r ↔ if x = 0 then mm_Rn pg_G d 60 34 ls (t) g r else mm_Rn pg_G d 60 31 ls (t) g r := rn_if_eq tb_60_28 r
theorem tb_60_31 : mm_tb pg_G 60 31 = some (.iinc 2 1, 0, 0, 0) := rfl
theorem st_60_31 {l0 l1 l3 : Value} {d : Nat} {t : List Value} {g : mm_M} {r : mm_R} {x : Int32} (hc : mm_c1 l1 = true) : mm_Rn pg_G d 60 31 [l0, l1, .int x, l3] (t) g r ↔ mm_Rn pg_G d 60 34 [l0, l1, .int (x + Int32.ofInt 1), l3] (t) g r := rn_iinc tb_60_31 rfl (mm_so_of (ls := [l0, l1, .int x, l3]) (v := l1) (Nat.le_of_ble_eq_true rfl) rfl hc) r
theorem tb_60_34 : mm_tb pg_G 60 34 = some (.iinc 3 1, 0, 0, 0) := rfl
theorem st_60_34 {l0 l1 l2 : Value} {d : Nat} {t : List Value} {g : mm_M} {r : mm_R} {x : Int32} (hc : mm_c1 l2 = true) : mm_Rn pg_G d 60 34 [l0, l1, l2, .int x] (t) g r ↔ mm_Rn pg_G d 60 37 [l0, l1, l2, .int (x + Int32.ofInt 1)] (t) g r := rn_iinc tb_60_34 rfl (mm_so_of (ls := [l0, l1, l2, .int x]) (v := l2) (Nat.le_of_ble_eq_true rfl) rfl hc) r
theorem tb_60_37 : mm_tb pg_G 60 37 = some (.goto (-33), 4, 0, 0) := rfl
theorem st_60_37 {d : Nat} {ls t : List Value} {g : mm_M} {r : mm_R} : mm_Rn pg_G d 60 37 ls (t) g r ↔ mm_Rn pg_G d 60 4 ls (t) g r := rn_goto tb_60_37 r
theorem tb_60_40 : mm_tb pg_G 60 40 = some (.iload_n 2, 0, 0, 0) := rfl
theorem st_60_40 {l0 l1 l3 : Value} {d : Nat} {t : List Value} {g : mm_M} {r : mm_R} {x : Int32} : mm_Rn pg_G d 60 40 [l0, l1, .int x, l3] (t) g r ↔ mm_Rn pg_G d 60 41 [l0, l1, .int x, l3] (.int x :: t) g r := rn_iload_n tb_60_40 rfl r
theorem tb_60_41 : mm_tb pg_G 60 41 = some (.ireturn, 0, 0, 0) := rfl
theorem st_60_41 {d : Nat} {ls : List Value} {g : mm_M} {r : mm_R} {x : Int32} : mm_Rn pg_G d 60 41 ls [.int x] g r ↔ r = (some (.int x), g) := rn_ireturn_iff tb_60_41 (Or.inl rfl) r
theorem tb_61_0 : mm_tb pg_G 61 0 = some (.iconst 0, 0, 0, 0) := rfl
theorem st_61_0 {d : Nat} {ls t : List Value} {g : mm_M} {r : mm_R} : mm_Rn pg_G d 61 0 ls (t) g r ↔ mm_Rn pg_G d 61 1 ls (io_v 0 :: t) g r := rn_iconst tb_61_0 r
theorem tb_61_1 : mm_tb pg_G 61 1 = some (.istore_n 1, 0, 0, 0) := rfl
theorem st_61_1 {l0 l1 l2 : Value} {d : Nat} {t : List Value} {g : mm_M} {r : mm_R} {x : Int32} (hc : mm_c1 l0 = true) : mm_Rn pg_G d 61 1 [l0, l1, l2] (.int x :: t) g r ↔ mm_Rn pg_G d 61 2 [l0, .int x, l2] (t) g r := rn_istore_n tb_61_1 (mm_so_of (ls := [l0, l1, l2]) (v := l0) (Nat.le_of_ble_eq_true rfl) rfl hc) r
theorem tb_61_2 : mm_tb pg_G 61 2 = some (.iconst 1, 0, 0, 0) := rfl
theorem st_61_2 {d : Nat} {ls t : List Value} {g : mm_M} {r : mm_R} : mm_Rn pg_G d 61 2 ls (t) g r ↔ mm_Rn pg_G d 61 3 ls (io_v 1 :: t) g r := rn_iconst tb_61_2 r
theorem tb_61_3 : mm_tb pg_G 61 3 = some (.istore_n 2, 0, 0, 0) := rfl
theorem st_61_3 {l0 l1 l2 : Value} {d : Nat} {t : List Value} {g : mm_M} {r : mm_R} {x : Int32} (hc : mm_c1 l1 = true) : mm_Rn pg_G d 61 3 [l0, l1, l2] (.int x :: t) g r ↔ mm_Rn pg_G d 61 4 [l0, l1, .int x] (t) g r := rn_istore_n tb_61_3 (mm_so_of (ls := [l0, l1, l2]) (v := l1) (Nat.le_of_ble_eq_true rfl) rfl hc) r
theorem tb_61_4 : mm_tb pg_G 61 4 = some (.iload_n 2, 0, 0, 0) := rfl
theorem st_61_4 {l0 l1 : Value} {d : Nat} {t : List Value} {g : mm_M} {r : mm_R} {x : Int32} : mm_Rn pg_G d 61 4 [l0, l1, .int x] (t) g r ↔ mm_Rn pg_G d 61 5 [l0, l1, .int x] (.int x :: t) g r := rn_iload_n tb_61_4 rfl r
theorem tb_61_5 : mm_tb pg_G 61 5 = some (.iconst 2, 0, 0, 0) := rfl
theorem st_61_5 {d : Nat} {ls t : List Value} {g : mm_M} {r : mm_R} : mm_Rn pg_G d 61 5 ls (t) g r ↔ mm_Rn pg_G d 61 6 ls (io_v 2 :: t) g r := rn_iconst tb_61_5 r
theorem tb_61_6 : mm_tb pg_G 61 6 = some (.aload_n 0, 0, 0, 0) := rfl
theorem st_61_6 {l1 l2 : Value} {d : Nat} {t : List Value} {g : mm_M} {r : mm_R} {x : Nat} : mm_Rn pg_G d 61 6 [.ref x, l1, l2] (t) g r ↔ mm_Rn pg_G d 61 7 [.ref x, l1, l2] (.ref x :: t) g r := rn_aload_n tb_61_6 rfl r
theorem tb_61_7 : mm_tb pg_G 61 7 = some (.getfield 33, 0, 4, 97) := rfl
theorem st_61_7 {d : Nat} {ls t : List Value} {g : mm_M} {r : mm_R} {x : Nat} (hT : g.1 x = some (0, 8)) : mm_Rn pg_G d 61 7 ls (.ref x :: t) g r ↔ mm_Rn pg_G d 61 10 ls (g.2.1 x 4 :: t) g r := rn_getfield tb_61_7 hT r
theorem tb_61_10 : mm_tb pg_G 61 10 = some (.iadd, 0, 0, 0) := rfl
theorem st_61_10 {d : Nat} {ls t : List Value} {g : mm_M} {r : mm_R} {x y : Int32} : mm_Rn pg_G d 61 10 ls (.int y :: .int x :: t) g r ↔ mm_Rn pg_G d 61 11 ls (.int (x + y) :: t) g r := rn_iadd tb_61_10 r
theorem tb_61_11 : mm_tb pg_G 61 11 = some (.if_icmp .ge 32, 43, 0, 0) := rfl
theorem st_61_11 {d : Nat} {ls t : List Value} {g : mm_M} {r : mm_R} {x y : Int32} : mm_Rn pg_G d 61 11 ls (.int y :: .int x :: t) g r ↔ if y ≤ x then mm_Rn pg_G d 61 43 ls (t) g r else mm_Rn pg_G d 61 14 ls (t) g r := rn_icmp_ge tb_61_11 r
theorem tb_61_14 : mm_tb pg_G 61 14 = some (.aload_n 0, 0, 0, 0) := rfl
theorem st_61_14 {l1 l2 : Value} {d : Nat} {t : List Value} {g : mm_M} {r : mm_R} {x : Nat} : mm_Rn pg_G d 61 14 [.ref x, l1, l2] (t) g r ↔ mm_Rn pg_G d 61 15 [.ref x, l1, l2] (.ref x :: t) g r := rn_aload_n tb_61_14 rfl r
theorem tb_61_15 : mm_tb pg_G 61 15 = some (.iload_n 2, 0, 0, 0) := rfl
theorem st_61_15 {l0 l1 : Value} {d : Nat} {t : List Value} {g : mm_M} {r : mm_R} {x : Int32} : mm_Rn pg_G d 61 15 [l0, l1, .int x] (t) g r ↔ mm_Rn pg_G d 61 16 [l0, l1, .int x] (.int x :: t) g r := rn_iload_n tb_61_15 rfl r
theorem tb_61_16 : mm_tb pg_G 61 16 = some (.invokevirtual 130, 57, 2, 284) := rfl
theorem st_61_16 {d c s c' s' : Nat} {ls t : List Value} {I J : sp_I} {r : mm_R} {a0 : Int32} {y : Nat} {v : Int32} (hl : t.length ≤ 4) (hT : sp_T I y = some (0, 8)) (hq : mm_Rn pg_G d 57 0 [.ref y, .int a0] [] (sp_me I 0 0) (some (.int v), sp_me J c' s')) : mm_Rn pg_G (d + 1) 61 16 ls (.int a0 :: .ref y :: t) (sp_me I c s) r ↔ mm_Rn pg_G (d + 1) 61 19 ls (.int v :: t) (sp_me J (c + c') (s + s')) r := rn_virt (g := sp_me I c s) (st := .int a0 :: .ref y :: t) tb_61_16 (decide_eq_true hT) ⟨Nat.le_add_left _ t.length, hl, rfl⟩ hq r
theorem tb_61_19 : mm_tb pg_G 61 19 = some (.ifCond .eq 18, 37, 0, 0) := rfl
theorem st_61_19 {d : Nat} {ls t : List Value} {g : mm_M} {r : mm_R} {x : Int32} : mm_Rn pg_G d 61 19 ls (.int x :: t) g r ↔ if x = 0 then mm_Rn pg_G d 61 37 ls (t) g r else mm_Rn pg_G d 61 22 ls (t) g r := rn_if_eq tb_61_19 r
theorem tb_61_22 : mm_tb pg_G 61 22 = some (.iload_n 1, 0, 0, 0) := rfl
theorem st_61_22 {l0 l2 : Value} {d : Nat} {t : List Value} {g : mm_M} {r : mm_R} {x : Int32} : mm_Rn pg_G d 61 22 [l0, .int x, l2] (t) g r ↔ mm_Rn pg_G d 61 23 [l0, .int x, l2] (.int x :: t) g r := rn_iload_n tb_61_22 rfl r
theorem tb_61_23 : mm_tb pg_G 61 23 = some (.ifCond .eq 12, 35, 0, 0) := rfl
theorem st_61_23 {d : Nat} {ls t : List Value} {g : mm_M} {r : mm_R} {x : Int32} : mm_Rn pg_G d 61 23 ls (.int x :: t) g r ↔ if x = 0 then mm_Rn pg_G d 61 35 ls (t) g r else mm_Rn pg_G d 61 26 ls (t) g r := rn_if_eq tb_61_23 r
theorem tb_61_26 : mm_tb pg_G 61 26 = some (.aload_n 0, 0, 0, 0) := rfl
theorem st_61_26 {l1 l2 : Value} {d : Nat} {t : List Value} {g : mm_M} {r : mm_R} {x : Nat} : mm_Rn pg_G d 61 26 [.ref x, l1, l2] (t) g r ↔ mm_Rn pg_G d 61 27 [.ref x, l1, l2] (.ref x :: t) g r := rn_aload_n tb_61_26 rfl r
theorem tb_61_27 : mm_tb pg_G 61 27 = some (.iload_n 2, 0, 0, 0) := rfl
theorem st_61_27 {l0 l1 : Value} {d : Nat} {t : List Value} {g : mm_M} {r : mm_R} {x : Int32} : mm_Rn pg_G d 61 27 [l0, l1, .int x] (t) g r ↔ mm_Rn pg_G d 61 28 [l0, l1, .int x] (.int x :: t) g r := rn_iload_n tb_61_27 rfl r
theorem tb_61_28 : mm_tb pg_G 61 28 = some (.iload_n 1, 0, 0, 0) := rfl
theorem st_61_28 {l0 l2 : Value} {d : Nat} {t : List Value} {g : mm_M} {r : mm_R} {x : Int32} : mm_Rn pg_G d 61 28 [l0, .int x, l2] (t) g r ↔ mm_Rn pg_G d 61 29 [l0, .int x, l2] (.int x :: t) g r := rn_iload_n tb_61_28 rfl r
theorem tb_61_29 : mm_tb pg_G 61 29 = some (.invokevirtual 186, 59, 3, 287) := rfl
theorem st_61_29 {d c s c' s' : Nat} {ls t : List Value} {I J : sp_I} {r : mm_R} {a0 a1 : Int32} {y : Nat} {v : Int32} (hl : t.length ≤ 4) (hT : sp_T I y = some (0, 8)) (hq : mm_Rn pg_G d 59 0 [.ref y, .int a0, .int a1, .retAddr 0, .retAddr 0] [] (sp_me I 0 0) (some (.int v), sp_me J c' s')) : mm_Rn pg_G (d + 1) 61 29 ls (.int a1 :: .int a0 :: .ref y :: t) (sp_me I c s) r ↔ mm_Rn pg_G (d + 1) 61 32 ls (.int v :: t) (sp_me J (c + c') (s + s')) r := rn_virt (g := sp_me I c s) (st := .int a1 :: .int a0 :: .ref y :: t) tb_61_29 (decide_eq_true hT) ⟨Nat.le_add_left _ t.length, hl, rfl⟩ hq r
theorem tb_61_32 : mm_tb pg_G 61 32 = some (.ifCond .eq 5, 37, 0, 0) := rfl
theorem st_61_32 {d : Nat} {ls t : List Value} {g : mm_M} {r : mm_R} {x : Int32} : mm_Rn pg_G d 61 32 ls (.int x :: t) g r ↔ if x = 0 then mm_Rn pg_G d 61 37 ls (t) g r else mm_Rn pg_G d 61 35 ls (t) g r := rn_if_eq tb_61_32 r
theorem tb_61_35 : mm_tb pg_G 61 35 = some (.iload_n 2, 0, 0, 0) := rfl
theorem st_61_35 {l0 l1 : Value} {d : Nat} {t : List Value} {g : mm_M} {r : mm_R} {x : Int32} : mm_Rn pg_G d 61 35 [l0, l1, .int x] (t) g r ↔ mm_Rn pg_G d 61 36 [l0, l1, .int x] (.int x :: t) g r := rn_iload_n tb_61_35 rfl r
theorem tb_61_36 : mm_tb pg_G 61 36 = some (.istore_n 1, 0, 0, 0) := rfl
theorem st_61_36 {l0 l1 l2 : Value} {d : Nat} {t : List Value} {g : mm_M} {r : mm_R} {x : Int32} (hc : mm_c1 l0 = true) : mm_Rn pg_G d 61 36 [l0, l1, l2] (.int x :: t) g r ↔ mm_Rn pg_G d 61 37 [l0, .int x, l2] (t) g r := rn_istore_n tb_61_36 (mm_so_of (ls := [l0, l1, l2]) (v := l0) (Nat.le_of_ble_eq_true rfl) rfl hc) r
theorem tb_61_37 : mm_tb pg_G 61 37 = some (.iinc 2 1, 0, 0, 0) := rfl
theorem st_61_37 {l0 l1 : Value} {d : Nat} {t : List Value} {g : mm_M} {r : mm_R} {x : Int32} (hc : mm_c1 l1 = true) : mm_Rn pg_G d 61 37 [l0, l1, .int x] (t) g r ↔ mm_Rn pg_G d 61 40 [l0, l1, .int (x + Int32.ofInt 1)] (t) g r := rn_iinc tb_61_37 rfl (mm_so_of (ls := [l0, l1, .int x]) (v := l1) (Nat.le_of_ble_eq_true rfl) rfl hc) r
theorem tb_61_40 : mm_tb pg_G 61 40 = some (.goto (-36), 4, 0, 0) := rfl
theorem st_61_40 {d : Nat} {ls t : List Value} {g : mm_M} {r : mm_R} : mm_Rn pg_G d 61 40 ls (t) g r ↔ mm_Rn pg_G d 61 4 ls (t) g r := rn_goto tb_61_40 r
theorem tb_61_43 : mm_tb pg_G 61 43 = some (.iload_n 1, 0, 0, 0) := rfl
theorem st_61_43 {l0 l2 : Value} {d : Nat} {t : List Value} {g : mm_M} {r : mm_R} {x : Int32} : mm_Rn pg_G d 61 43 [l0, .int x, l2] (t) g r ↔ mm_Rn pg_G d 61 44 [l0, .int x, l2] (.int x :: t) g r := rn_iload_n tb_61_43 rfl r
theorem tb_61_44 : mm_tb pg_G 61 44 = some (.ireturn, 0, 0, 0) := rfl
theorem st_61_44 {d : Nat} {ls : List Value} {g : mm_M} {r : mm_R} {x : Int32} : mm_Rn pg_G d 61 44 ls [.int x] g r ↔ r = (some (.int x), g) := rn_ireturn_iff tb_61_44 (Or.inl rfl) r
theorem tb_62_0 : mm_tb pg_G 62 0 = some (.iconst 0, 0, 0, 0) := rfl
theorem st_62_0 {d : Nat} {ls t : List Value} {g : mm_M} {r : mm_R} : mm_Rn pg_G d 62 0 ls (t) g r ↔ mm_Rn pg_G d 62 1 ls (io_v 0 :: t) g r := rn_iconst tb_62_0 r
theorem tb_62_1 : mm_tb pg_G 62 1 = some (.istore_n 1, 0, 0, 0) := rfl
theorem st_62_1 {l0 l1 l2 : Value} {d : Nat} {t : List Value} {g : mm_M} {r : mm_R} {x : Int32} (hc : mm_c1 l0 = true) : mm_Rn pg_G d 62 1 [l0, l1, l2] (.int x :: t) g r ↔ mm_Rn pg_G d 62 2 [l0, .int x, l2] (t) g r := rn_istore_n tb_62_1 (mm_so_of (ls := [l0, l1, l2]) (v := l0) (Nat.le_of_ble_eq_true rfl) rfl hc) r
theorem tb_62_2 : mm_tb pg_G 62 2 = some (.iconst 0, 0, 0, 0) := rfl
theorem st_62_2 {d : Nat} {ls t : List Value} {g : mm_M} {r : mm_R} : mm_Rn pg_G d 62 2 ls (t) g r ↔ mm_Rn pg_G d 62 3 ls (io_v 0 :: t) g r := rn_iconst tb_62_2 r
theorem tb_62_3 : mm_tb pg_G 62 3 = some (.istore_n 2, 0, 0, 0) := rfl
theorem st_62_3 {l0 l1 l2 : Value} {d : Nat} {t : List Value} {g : mm_M} {r : mm_R} {x : Int32} (hc : mm_c1 l1 = true) : mm_Rn pg_G d 62 3 [l0, l1, l2] (.int x :: t) g r ↔ mm_Rn pg_G d 62 4 [l0, l1, .int x] (t) g r := rn_istore_n tb_62_3 (mm_so_of (ls := [l0, l1, l2]) (v := l1) (Nat.le_of_ble_eq_true rfl) rfl hc) r
theorem tb_62_4 : mm_tb pg_G 62 4 = some (.iload_n 2, 0, 0, 0) := rfl
theorem st_62_4 {l0 l1 : Value} {d : Nat} {t : List Value} {g : mm_M} {r : mm_R} {x : Int32} : mm_Rn pg_G d 62 4 [l0, l1, .int x] (t) g r ↔ mm_Rn pg_G d 62 5 [l0, l1, .int x] (.int x :: t) g r := rn_iload_n tb_62_4 rfl r
theorem tb_62_5 : mm_tb pg_G 62 5 = some (.aload_n 0, 0, 0, 0) := rfl
theorem st_62_5 {l1 l2 : Value} {d : Nat} {t : List Value} {g : mm_M} {r : mm_R} {x : Nat} : mm_Rn pg_G d 62 5 [.ref x, l1, l2] (t) g r ↔ mm_Rn pg_G d 62 6 [.ref x, l1, l2] (.ref x :: t) g r := rn_aload_n tb_62_5 rfl r
theorem tb_62_6 : mm_tb pg_G 62 6 = some (.getfield 33, 0, 4, 97) := rfl
theorem st_62_6 {d : Nat} {ls t : List Value} {g : mm_M} {r : mm_R} {x : Nat} (hT : g.1 x = some (0, 8)) : mm_Rn pg_G d 62 6 ls (.ref x :: t) g r ↔ mm_Rn pg_G d 62 9 ls (g.2.1 x 4 :: t) g r := rn_getfield tb_62_6 hT r
theorem tb_62_9 : mm_tb pg_G 62 9 = some (.if_icmp .ge 27, 36, 0, 0) := rfl
theorem st_62_9 {d : Nat} {ls t : List Value} {g : mm_M} {r : mm_R} {x y : Int32} : mm_Rn pg_G d 62 9 ls (.int y :: .int x :: t) g r ↔ if y ≤ x then mm_Rn pg_G d 62 36 ls (t) g r else mm_Rn pg_G d 62 12 ls (t) g r := rn_icmp_ge tb_62_9 r
theorem tb_62_12 : mm_tb pg_G 62 12 = some (.iload_n 1, 0, 0, 0) := rfl
theorem st_62_12 {l0 l2 : Value} {d : Nat} {t : List Value} {g : mm_M} {r : mm_R} {x : Int32} : mm_Rn pg_G d 62 12 [l0, .int x, l2] (t) g r ↔ mm_Rn pg_G d 62 13 [l0, .int x, l2] (.int x :: t) g r := rn_iload_n tb_62_12 rfl r
theorem tb_62_13 : mm_tb pg_G 62 13 = some (.aload_n 0, 0, 0, 0) := rfl
theorem st_62_13 {l1 l2 : Value} {d : Nat} {t : List Value} {g : mm_M} {r : mm_R} {x : Nat} : mm_Rn pg_G d 62 13 [.ref x, l1, l2] (t) g r ↔ mm_Rn pg_G d 62 14 [.ref x, l1, l2] (.ref x :: t) g r := rn_aload_n tb_62_13 rfl r
theorem tb_62_14 : mm_tb pg_G 62 14 = some (.getfield 11, 0, 0, 93) := rfl
theorem st_62_14 {d : Nat} {ls t : List Value} {g : mm_M} {r : mm_R} {x : Nat} (hT : g.1 x = some (0, 8)) : mm_Rn pg_G d 62 14 ls (.ref x :: t) g r ↔ mm_Rn pg_G d 62 17 ls (g.2.1 x 0 :: t) g r := rn_getfield tb_62_14 hT r
theorem tb_62_17 : mm_tb pg_G 62 17 = some (.iload_n 2, 0, 0, 0) := rfl
theorem st_62_17 {l0 l1 : Value} {d : Nat} {t : List Value} {g : mm_M} {r : mm_R} {x : Int32} : mm_Rn pg_G d 62 17 [l0, l1, .int x] (t) g r ↔ mm_Rn pg_G d 62 18 [l0, l1, .int x] (.int x :: t) g r := rn_iload_n tb_62_17 rfl r
theorem tb_62_18 : mm_tb pg_G 62 18 = some (.aaload, 0, 0, 0) := rfl
theorem st_62_18 {d : Nat} {ls t : List Value} {g : mm_M} {r : mm_R} {x : Nat} {j : Int32} (hc : mm_in (g.1 x) 102 103 j = true) : mm_Rn pg_G d 62 18 ls (.int j :: .ref x :: t) g r ↔ mm_Rn pg_G d 62 19 ls (g.2.1 x j.toNatClampNeg :: t) g r := rn_aaload tb_62_18 hc r
theorem tb_62_19 : mm_tb pg_G 62 19 = some (.aload_n 0, 0, 0, 0) := rfl
theorem st_62_19 {l1 l2 : Value} {d : Nat} {t : List Value} {g : mm_M} {r : mm_R} {x : Nat} : mm_Rn pg_G d 62 19 [.ref x, l1, l2] (t) g r ↔ mm_Rn pg_G d 62 20 [.ref x, l1, l2] (.ref x :: t) g r := rn_aload_n tb_62_19 rfl r
theorem tb_62_20 : mm_tb pg_G 62 20 = some (.getfield 15, 0, 1, 94) := rfl
theorem st_62_20 {d : Nat} {ls t : List Value} {g : mm_M} {r : mm_R} {x : Nat} (hT : g.1 x = some (0, 8)) : mm_Rn pg_G d 62 20 ls (.ref x :: t) g r ↔ mm_Rn pg_G d 62 23 ls (g.2.1 x 1 :: t) g r := rn_getfield tb_62_20 hT r
theorem tb_62_23 : mm_tb pg_G 62 23 = some (.invokevirtual 189, 18, 2, 303) := rfl
theorem st_62_23 {d c s c' s' : Nat} {ls t : List Value} {I J : sp_I} {r : mm_R} {y a0 : Nat} {v : Int32} (hl : t.length ≤ 4) (hT : sp_T I y = some (3, 10)) (hq : mm_Rn pg_G d 18 0 [.ref y, .ref a0, .retAddr 0, .retAddr 0] [] (sp_me I 0 0) (some (.int v), sp_me J c' s')) : mm_Rn pg_G (d + 1) 62 23 ls (.ref a0 :: .ref y :: t) (sp_me I c s) r ↔ mm_Rn pg_G (d + 1) 62 26 ls (.int v :: t) (sp_me J (c + c') (s + s')) r := rn_virt (g := sp_me I c s) (st := .ref a0 :: .ref y :: t) tb_62_23 (decide_eq_true hT) ⟨Nat.le_add_left _ t.length, hl, rfl⟩ hq r
theorem tb_62_26 : mm_tb pg_G 62 26 = some (.invokestatic 71, 999, 0, 208) := rfl
theorem st_62_26 {d : Nat} {ls t : List Value} {g : mm_M} {r : mm_R} {x y : Int32} (hl : t.length ≤ 4) : mm_Rn pg_G (d + 1) 62 26 ls (.int y :: .int x :: t) g r ↔ mm_Rn pg_G (d + 1) 62 29 ls (.int (if x < y then y else x) :: t) g r := rn_max tb_62_26 hl r
theorem tb_62_29 : mm_tb pg_G 62 29 = some (.istore_n 1, 0, 0, 0) := rfl
theorem st_62_29 {l0 l1 l2 : Value} {d : Nat} {t : List Value} {g : mm_M} {r : mm_R} {x : Int32} (hc : mm_c1 l0 = true) : mm_Rn pg_G d 62 29 [l0, l1, l2] (.int x :: t) g r ↔ mm_Rn pg_G d 62 30 [l0, .int x, l2] (t) g r := rn_istore_n tb_62_29 (mm_so_of (ls := [l0, l1, l2]) (v := l0) (Nat.le_of_ble_eq_true rfl) rfl hc) r
theorem tb_62_30 : mm_tb pg_G 62 30 = some (.iinc 2 1, 0, 0, 0) := rfl
theorem st_62_30 {l0 l1 : Value} {d : Nat} {t : List Value} {g : mm_M} {r : mm_R} {x : Int32} (hc : mm_c1 l1 = true) : mm_Rn pg_G d 62 30 [l0, l1, .int x] (t) g r ↔ mm_Rn pg_G d 62 33 [l0, l1, .int (x + Int32.ofInt 1)] (t) g r := rn_iinc tb_62_30 rfl (mm_so_of (ls := [l0, l1, .int x]) (v := l1) (Nat.le_of_ble_eq_true rfl) rfl hc) r
theorem tb_62_33 : mm_tb pg_G 62 33 = some (.goto (-29), 4, 0, 0) := rfl
theorem st_62_33 {d : Nat} {ls t : List Value} {g : mm_M} {r : mm_R} : mm_Rn pg_G d 62 33 ls (t) g r ↔ mm_Rn pg_G d 62 4 ls (t) g r := rn_goto tb_62_33 r
theorem tb_62_36 : mm_tb pg_G 62 36 = some (.iload_n 1, 0, 0, 0) := rfl
theorem st_62_36 {l0 l2 : Value} {d : Nat} {t : List Value} {g : mm_M} {r : mm_R} {x : Int32} : mm_Rn pg_G d 62 36 [l0, .int x, l2] (t) g r ↔ mm_Rn pg_G d 62 37 [l0, .int x, l2] (.int x :: t) g r := rn_iload_n tb_62_36 rfl r
theorem tb_62_37 : mm_tb pg_G 62 37 = some (.ireturn, 0, 0, 0) := rfl
theorem st_62_37 {d : Nat} {ls : List Value} {g : mm_M} {r : mm_R} {x : Int32} : mm_Rn pg_G d 62 37 ls [.int x] g r ↔ r = (some (.int x), g) := rn_ireturn_iff tb_62_37 (Or.inl rfl) r
