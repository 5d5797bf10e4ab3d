/-! the instructions -/
set_option maxRecDepth 100000 in
theorem pg_k0 : pg_t0.all (fun q => mm_ok pg_S 0 q.1 q.2) = true := by decide +kernel
set_option maxRecDepth 100000 in
theorem pg_k1 : pg_t1.all (fun q => mm_ok pg_S 1 q.1 q.2) = true := by decide +kernel
set_option maxRecDepth 100000 in
theorem pg_k2 : pg_t2.all (fun q => mm_ok pg_S 2 q.1 q.2) = true := by decide +kernel
set_option maxRecDepth 100000 in
theorem pg_k3 : pg_t3.all (fun q => mm_ok pg_S 3 q.1 q.2) = true := by decide +kernel
set_option maxRecDepth 100000 in
theorem pg_k4 : pg_t4.all (fun q => mm_ok pg_S 4 q.1 q.2) = true := by decide +kernel
set_option maxRecDepth 100000 in
theorem pg_k5 : pg_t5.all (fun q => mm_ok pg_S 5 q.1 q.2) = true := by decide +kernel
set_option maxRecDepth 100000 in
theorem pg_k6 : pg_t6.all (fun q => mm_ok pg_S 6 q.1 q.2) = true := by decide +kernel
set_option maxRecDepth 100000 in
theorem pg_k7 : pg_t7.all (fun q => mm_ok pg_S 7 q.1 q.2) = true := by decide +kernel
set_option maxRecDepth 100000 in
theorem pg_k8 : pg_t8.all (fun q => mm_ok pg_S 8 q.1 q.2) = true := by decide +kernel
set_option maxRecDepth 100000 in
theorem pg_k9 : pg_t9.all (fun q => mm_ok pg_S 9 q.1 q.2) = true := by decide +kernel
set_option maxRecDepth 100000 in
theorem pg_k10 : pg_t10.all (fun q => mm_ok pg_S 10 q.1 q.2) = true := by decide +kernel
set_option maxRecDepth 100000 in
theorem pg_k11 : pg_t11.all (fun q => mm_ok pg_S 11 q.1 q.2) = true := by decide +kernel
set_option maxRecDepth 100000 in
theorem pg_k12 : pg_t12.all (fun q => mm_ok pg_S 12 q.1 q.2) = true := by decide +kernel
set_option maxRecDepth 100000 in
theorem pg_k13 : pg_t13.all (fun q => mm_ok pg_S 13 q.1 q.2) = true := by decide +kernel
set_option maxRecDepth 100000 in
theorem pg_k14 : pg_t14.all (fun q => mm_ok pg_S 14 q.1 q.2) = true := by decide +kernel
set_option maxRecDepth 100000 in
theorem pg_k15 : pg_t15.all (fun q => mm_ok pg_S 15 q.1 q.2) = true := by decide +kernel
set_option maxRecDepth 100000 in
theorem pg_k16 : pg_t16.all (fun q => mm_ok pg_S 16 q.1 q.2) = true := by decide +kernel
set_option maxRecDepth 100000 in
theorem pg_k17 : pg_t17.all (fun q => mm_ok pg_S 17 q.1 q.2) = true := by decide +kernel
set_option maxRecDepth 100000 in
theorem pg_k18 : pg_t18.all (fun q => mm_ok pg_S 18 q.1 q.2) = true := by decide +kernel
set_option maxRecDepth 100000 in
theorem pg_k19 : pg_t19.all (fun q => mm_ok pg_S 19 q.1 q.2) = true := by decide +kernel
set_option maxRecDepth 100000 in
theorem pg_k20 : pg_t20.all (fun q => mm_ok pg_S 20 q.1 q.2) = true := by decide +kernel
set_option maxRecDepth 100000 in
theorem pg_k21 : pg_t21.all (fun q => mm_ok pg_S 21 q.1 q.2) = true := by decide +kernel
set_option maxRecDepth 100000 in
theorem pg_k22 : pg_t22.all (fun q => mm_ok pg_S 22 q.1 q.2) = true := by decide +kernel
set_option maxRecDepth 100000 in
theorem pg_k23 : pg_t23.all (fun q => mm_ok pg_S 23 q.1 q.2) = true := by decide +kernel
set_option maxRecDepth 100000 in
theorem pg_k24 : pg_t24.all (fun q => mm_ok pg_S 24 q.1 q.2) = true := by decide +kernel
set_option maxRecDepth 100000 in
theorem pg_k25 : pg_t25.all (fun q => mm_ok pg_S 25 q.1 q.2) = true := by decide +kernel
set_option maxRecDepth 100000 in
theorem pg_k26 : pg_t26.all (fun q => mm_ok pg_S 26 q.1 q.2) = true := by decide +kernel
set_option maxRecDepth 100000 in
theorem pg_k27 : pg_t27.all (fun q => mm_ok pg_S 27 q.1 q.2) = true := by decide +kernel
set_option maxRecDepth 100000 in
theorem pg_k28 : pg_t28.all (fun q => mm_ok pg_S 28 q.1 q.2) = true := by decide +kernel
set_option maxRecDepth 100000 in
theorem pg_k29 : pg_t29.all (fun q => mm_ok pg_S 29 q.1 q.2) = true := by decide +kernel
set_option maxRecDepth 100000 in
theorem pg_k30 : pg_t30.all (fun q => mm_ok pg_S 30 q.1 q.2) = true := by decide +kernel
set_option maxRecDepth 100000 in
theorem pg_k31 : pg_t31.all (fun q => mm_ok pg_S 31 q.1 q.2) = true := by decide +kernel
set_option maxRecDepth 100000 in
theorem pg_k32 : pg_t32.all (fun q => mm_ok pg_S 32 q.1 q.2) = true := by decide +kernel
set_option maxRecDepth 100000 in
theorem pg_k33 : pg_t33.all (fun q => mm_ok pg_S 33 q.1 q.2) = true := by decide +kernel
set_option maxRecDepth 100000 in
theorem pg_k34 : pg_t34.all (fun q => mm_ok pg_S 34 q.1 q.2) = true := by decide +kernel
set_option maxRecDepth 100000 in
theorem pg_k35 : pg_t35.all (fun q => mm_ok pg_S 35 q.1 q.2) = true := by decide +kernel
set_option maxRecDepth 100000 in
theorem pg_k36 : pg_t36.all (fun q => mm_ok pg_S 36 q.1 q.2) = true := by decide +kernel
set_option maxRecDepth 100000 in
theorem pg_k37 : pg_t37.all (fun q => mm_ok pg_S 37 q.1 q.2) = true := by decide +kernel
set_option maxRecDepth 100000 in
theorem pg_k38 : pg_t38.all (fun q => mm_ok pg_S 38 q.1 q.2) = true := by decide +kernel
set_option maxRecDepth 100000 in
theorem pg_k39 : pg_t39.all (fun q => mm_ok pg_S 39 q.1 q.2) = true := by decide +kernel
set_option maxRecDepth 100000 in
theorem pg_k40 : pg_t40.all (fun q => mm_ok pg_S 40 q.1 q.2) = true := by decide +kernel
set_option maxRecDepth 100000 in
theorem pg_k41 : pg_t41.all (fun q => mm_ok pg_S 41 q.1 q.2) = true := by decide +kernel
set_option maxRecDepth 100000 in
theorem pg_k42 : pg_t42.all (fun q => mm_ok pg_S 42 q.1 q.2) = true := by decide +kernel
set_option maxRecDepth 100000 in
theorem pg_k43 : pg_t43.all (fun q => mm_ok pg_S 43 q.1 q.2) = true := by decide +kernel
set_option maxRecDepth 100000 in
theorem pg_k44 : pg_t44.all (fun q => mm_ok pg_S 44 q.1 q.2) = true := by decide +kernel
set_option maxRecDepth 100000 in
theorem pg_k45 : pg_t45.all (fun q => mm_ok pg_S 45 q.1 q.2) = true := by decide +kernel
set_option maxRecDepth 100000 in
theorem pg_k46 : pg_t46.all (fun q => mm_ok pg_S 46 q.1 q.2) = true := by decide +kernel
set_option maxRecDepth 100000 in
theorem pg_k47 : pg_t47.all (fun q => mm_ok pg_S 47 q.1 q.2) = true := by decide +kernel
set_option maxRecDepth 100000 in
theorem pg_k48 : pg_t48.all (fun q => mm_ok pg_S 48 q.1 q.2) = true := by decide +kernel
set_option maxRecDepth 100000 in
theorem pg_k49 : pg_t49.all (fun q => mm_ok pg_S 49 q.1 q.2) = true := by decide +kernel
set_option maxRecDepth 100000 in
theorem pg_k50 : pg_t50.all (fun q => mm_ok pg_S 50 q.1 q.2) = true := by decide +kernel
set_option maxRecDepth 100000 in
theorem pg_k51 : pg_t51.all (fun q => mm_ok pg_S 51 q.1 q.2) = true := by decide +kernel
set_option maxRecDepth 100000 in
theorem pg_k52 : pg_t52.all (fun q => mm_ok pg_S 52 q.1 q.2) = true := by decide +kernel
set_option maxRecDepth 100000 in
theorem pg_k53 : pg_t53.all (fun q => mm_ok pg_S 53 q.1 q.2) = true := by decide +kernel
set_option maxRecDepth 100000 in
theorem pg_k54 : pg_t54.all (fun q => mm_ok pg_S 54 q.1 q.2) = true := by decide +kernel
set_option maxRecDepth 100000 in
theorem pg_k55 : pg_t55.all (fun q => mm_ok pg_S 55 q.1 q.2) = true := by decide +kernel
set_option maxRecDepth 100000 in
theorem pg_k56 : pg_t56.all (fun q => mm_ok pg_S 56 q.1 q.2) = true := by decide +kernel
set_option maxRecDepth 100000 in
theorem pg_k57 : pg_t57.all (fun q => mm_ok pg_S 57 q.1 q.2) = true := by decide +kernel
set_option maxRecDepth 100000 in
theorem pg_k58 : pg_t58.all (fun q => mm_ok pg_S 58 q.1 q.2) = true := by decide +kernel
set_option maxRecDepth 100000 in
theorem pg_k59 : pg_t59.all (fun q => mm_ok pg_S 59 q.1 q.2) = true := by decide +kernel
set_option maxRecDepth 100000 in
theorem pg_k60 : pg_t60.all (fun q => mm_ok pg_S 60 q.1 q.2) = true := by decide +kernel
set_option maxRecDepth 100000 in
theorem pg_k61 : pg_t61.all (fun q => mm_ok pg_S 61 q.1 q.2) = true := by decide +kernel
set_option maxRecDepth 100000 in
theorem pg_k62 : pg_t62.all (fun q => mm_ok pg_S 62 q.1 q.2) = true := by decide +kernel
set_option maxRecDepth 100000 in
theorem pg_k63 : pg_t63.all (fun q => mm_ok pg_S 63 q.1 q.2) = true := by decide +kernel
set_option maxRecDepth 100000 in
theorem pg_k64 : pg_t64.all (fun q => mm_ok pg_S 64 q.1 q.2) = true := by decide +kernel
set_option maxRecDepth 100000 in
theorem pg_k65 : pg_t65.all (fun q => mm_ok pg_S 65 q.1 q.2) = true := by decide +kernel
set_option maxRecDepth 100000 in
theorem pg_k66 : pg_t66.all (fun q => mm_ok pg_S 66 q.1 q.2) = true := by decide +kernel
set_option maxRecDepth 100000 in
theorem pg_k67 : pg_t67.all (fun q => mm_ok pg_S 67 q.1 q.2) = true := by decide +kernel
set_option maxRecDepth 100000 in
theorem pg_k68 : pg_t68.all (fun q => mm_ok pg_S 68 q.1 q.2) = true := by decide +kernel
set_option maxRecDepth 100000 in
theorem pg_k69 : pg_t69.all (fun q => mm_ok pg_S 69 q.1 q.2) = true := by decide +kernel
set_option maxRecDepth 100000 in
theorem pg_k70 : pg_t70.all (fun q => mm_ok pg_S 70 q.1 q.2) = true := by decide +kernel
set_option maxRecDepth 100000 in
theorem pg_k71 : pg_t71.all (fun q => mm_ok pg_S 71 q.1 q.2) = true := by decide +kernel
set_option maxRecDepth 100000 in
theorem pg_k72 : pg_t72.all (fun q => mm_ok pg_S 72 q.1 q.2) = true := by decide +kernel
set_option maxRecDepth 100000 in
theorem pg_k73 : pg_t73.all (fun q => mm_ok pg_S 73 q.1 q.2) = true := by decide +kernel
set_option maxRecDepth 100000 in
theorem pg_k74 : pg_t74.all (fun q => mm_ok pg_S 74 q.1 q.2) = true := by decide +kernel
set_option maxRecDepth 100000 in
theorem pg_k75 : pg_t75.all (fun q => mm_ok pg_S 75 q.1 q.2) = true := by decide +kernel
set_option maxRecDepth 100000 in
theorem pg_k76 : pg_t76.all (fun q => mm_ok pg_S 76 q.1 q.2) = true := by decide +kernel
set_option maxRecDepth 100000 in
theorem pg_k77 : pg_t77.all (fun q => mm_ok pg_S 77 q.1 q.2) = true := by decide +kernel
set_option maxRecDepth 100000 in
theorem pg_k78 : pg_t78.all (fun q => mm_ok pg_S 78 q.1 q.2) = true := by decide +kernel
set_option maxRecDepth 100000 in
theorem pg_k79 : pg_t79.all (fun q => mm_ok pg_S 79 q.1 q.2) = true := by decide +kernel
set_option maxRecDepth 100000 in
theorem pg_k80 : pg_t80.all (fun q => mm_ok pg_S 80 q.1 q.2) = true := by decide +kernel
set_option maxRecDepth 100000 in
theorem pg_k81 : pg_t81.all (fun q => mm_ok pg_S 81 q.1 q.2) = true := by decide +kernel
set_option maxRecDepth 100000 in
theorem pg_k82 : pg_t82.all (fun q => mm_ok pg_S 82 q.1 q.2) = true := by decide +kernel
set_option maxRecDepth 100000 in
theorem pg_k83 : pg_t83.all (fun q => mm_ok pg_S 83 q.1 q.2) = true := by decide +kernel
set_option maxRecDepth 100000 in
theorem pg_k84 : pg_t84.all (fun q => mm_ok pg_S 84 q.1 q.2) = true := by decide +kernel
set_option maxRecDepth 100000 in
theorem pg_k85 : pg_t85.all (fun q => mm_ok pg_S 85 q.1 q.2) = true := by decide +kernel
set_option maxRecDepth 100000 in
theorem pg_k86 : pg_t86.all (fun q => mm_ok pg_S 86 q.1 q.2) = true := by decide +kernel
set_option maxRecDepth 100000 in
theorem pg_k87 : pg_t87.all (fun q => mm_ok pg_S 87 q.1 q.2) = true := by decide +kernel
set_option maxRecDepth 100000 in
theorem pg_k88 : pg_t88.all (fun q => mm_ok pg_S 88 q.1 q.2) = true := by decide +kernel
set_option maxRecDepth 100000 in
theorem pg_k89 : pg_t89.all (fun q => mm_ok pg_S 89 q.1 q.2) = true := by decide +kernel
set_option maxRecDepth 100000 in
theorem pg_k90 : pg_t90.all (fun q => mm_ok pg_S 90 q.1 q.2) = true := by decide +kernel
set_option maxRecDepth 100000 in
theorem pg_k91 : pg_t91.all (fun q => mm_ok pg_S 91 q.1 q.2) = true := by decide +kernel
set_option maxRecDepth 100000 in
theorem pg_k92 : pg_t92.all (fun q => mm_ok pg_S 92 q.1 q.2) = true := by decide +kernel
set_option maxRecDepth 100000 in
theorem pg_k93 : pg_t93.all (fun q => mm_ok pg_S 93 q.1 q.2) = true := by decide +kernel
set_option maxRecDepth 100000 in
theorem pg_k94 : pg_t94.all (fun q => mm_ok pg_S 94 q.1 q.2) = true := by decide +kernel
set_option maxRecDepth 100000 in
theorem pg_k95 : pg_t95.all (fun q => mm_ok pg_S 95 q.1 q.2) = true := by decide +kernel
set_option maxRecDepth 100000 in
theorem pg_k96 : pg_t96.all (fun q => mm_ok pg_S 96 q.1 q.2) = true := by decide +kernel
set_option maxRecDepth 100000 in
theorem pg_k97 : pg_t97.all (fun q => mm_ok pg_S 97 q.1 q.2) = true := by decide +kernel
set_option maxRecDepth 100000 in
theorem pg_k98 : pg_t98.all (fun q => mm_ok pg_S 98 q.1 q.2) = true := by decide +kernel
set_option maxRecDepth 100000 in
theorem pg_k99 : pg_t99.all (fun q => mm_ok pg_S 99 q.1 q.2) = true := by decide +kernel
set_option maxRecDepth 100000 in
theorem pg_k100 : pg_t100.all (fun q => mm_ok pg_S 100 q.1 q.2) = true := by decide +kernel
set_option maxRecDepth 100000 in
theorem pg_k101 : pg_t101.all (fun q => mm_ok pg_S 101 q.1 q.2) = true := by decide +kernel
set_option maxRecDepth 100000 in
theorem pg_k102 : pg_t102.all (fun q => mm_ok pg_S 102 q.1 q.2) = true := by decide +kernel
set_option maxRecDepth 100000 in
theorem pg_k103 : pg_t103.all (fun q => mm_ok pg_S 103 q.1 q.2) = true := by decide +kernel
set_option maxRecDepth 100000 in
theorem pg_k104 : pg_t104.all (fun q => mm_ok pg_S 104 q.1 q.2) = true := by decide +kernel
theorem pg_kall : ∀ μ, (pg_ls.getD μ []).all (fun q => mm_ok pg_S μ q.1 q.2) = true
  | 0 => pg_k0
  | 1 => pg_k1
  | 2 => pg_k2
  | 3 => pg_k3
  | 4 => pg_k4
  | 5 => pg_k5
  | 6 => pg_k6
  | 7 => pg_k7
  | 8 => pg_k8
  | 9 => pg_k9
  | 10 => pg_k10
  | 11 => pg_k11
  | 12 => pg_k12
  | 13 => pg_k13
  | 14 => pg_k14
  | 15 => pg_k15
  | 16 => pg_k16
  | 17 => pg_k17
  | 18 => pg_k18
  | 19 => pg_k19
  | 20 => pg_k20
  | 21 => pg_k21
  | 22 => pg_k22
  | 23 => pg_k23
  | 24 => pg_k24
  | 25 => pg_k25
  | 26 => pg_k26
  | 27 => pg_k27
  | 28 => pg_k28
  | 29 => pg_k29
  | 30 => pg_k30
  | 31 => pg_k31
  | 32 => pg_k32
  | 33 => pg_k33
  | 34 => pg_k34
  | 35 => pg_k35
  | 36 => pg_k36
  | 37 => pg_k37
  | 38 => pg_k38
  | 39 => pg_k39
  | 40 => pg_k40
  | 41 => pg_k41
  | 42 => pg_k42
  | 43 => pg_k43
  | 44 => pg_k44
  | 45 => pg_k45
  | 46 => pg_k46
  | 47 => pg_k47
  | 48 => pg_k48
  | 49 => pg_k49
  | 50 => pg_k50
  | 51 => pg_k51
  | 52 => pg_k52
  | 53 => pg_k53
  | 54 => pg_k54
  | 55 => pg_k55
  | 56 => pg_k56
  | 57 => pg_k57
  | 58 => pg_k58
  | 59 => pg_k59
  | 60 => pg_k60
  | 61 => pg_k61
  | 62 => pg_k62
  | 63 => pg_k63
  | 64 => pg_k64
  | 65 => pg_k65
  | 66 => pg_k66
  | 67 => pg_k67
  | 68 => pg_k68
  | 69 => pg_k69
  | 70 => pg_k70
  | 71 => pg_k71
  | 72 => pg_k72
  | 73 => pg_k73
  | 74 => pg_k74
  | 75 => pg_k75
  | 76 => pg_k76
  | 77 => pg_k77
  | 78 => pg_k78
  | 79 => pg_k79
  | 80 => pg_k80
  | 81 => pg_k81
  | 82 => pg_k82
  | 83 => pg_k83
  | 84 => pg_k84
  | 85 => pg_k85
  | 86 => pg_k86
  | 87 => pg_k87
  | 88 => pg_k88
  | 89 => pg_k89
  | 90 => pg_k90
  | 91 => pg_k91
  | 92 => pg_k92
  | 93 => pg_k93
  | 94 => pg_k94
  | 95 => pg_k95
  | 96 => pg_k96
  | 97 => pg_k97
  | 98 => pg_k98
  | 99 => pg_k99
  | 100 => pg_k100
  | 101 => pg_k101
  | 102 => pg_k102
  | 103 => pg_k103
  | 104 => pg_k104
  | _ + 105 => rfl
theorem pg_lookup {pc : Nat} {e : mm_E} : ∀ l : List (Nat × mm_E), l.lookup pc = some e → (pc, e) ∈ l
  | [], h => by cases h
  | (k, b) :: l, h => by
    by_cases hk : pc = k
    · subst hk
      rw [List.lookup_cons_self] at h
      cases h
      exact List.mem_cons_self
    · rw [List.lookup_cons, show (pc == k) = false from by simpa using hk] at h
      exact List.mem_cons_of_mem _ (pg_lookup l h)
theorem pg_good : mm_Good pg_S := by
  refine ⟨fun μ pc e h => ?_, pg_AL_good, ⟨by decide, pg_cok⟩, ⟨pg_mok, pg_NL_good⟩, List.mem_of_getElem? (i := 76) (by decide +kernel), ⟨List.mem_of_getElem? (i := 45) (by decide +kernel), List.mem_of_getElem? (i := 46) (by decide +kernel)⟩, List.mem_of_getElem? (i := 209) (by decide +kernel), List.mem_of_getElem? (i := 38) (by decide +kernel), List.mem_of_getElem? (i := 210) (by decide +kernel)⟩
  exact List.all_eq_true.mp (pg_kall μ) (pc, e) (pg_lookup _ h)
