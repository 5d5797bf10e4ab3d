/-! the program: its tables -/
def sp_r (v : Value) : Nat := match v with
  | .ref x => x
  | .int x => x.toNatClampNeg
  | _ => 0
/-- StackPolicyKernel$Section.<init>(III)V -/
def pg_t0 : List (Nat × mm_E) := [(0, .aload_n 0, 0, 0, 0), (1, .invokespecial 1, 998, 0, 194), (4, .aload_n 0, 0, 0, 0), (5, .iload_n 1, 0, 0, 0), (6, .putfield 7, 4, 0, 195), (9, .aload_n 0, 0, 0, 0), (10, .iload_n 2, 0, 0, 0), (11, .putfield 13, 4, 1, 197), (14, .aload_n 0, 0, 0, 0), (15, .iload_n 3, 0, 0, 0), (16, .putfield 16, 4, 2, 199), (19, .return_, 0, 0, 0)]
/-- StackPolicyKernel$Section.agreesWith(III)Z -/
def pg_t1 : List (Nat × mm_E) := [(0, .iload_n 3, 0, 0, 0), (1, .aload_n 0, 0, 0, 0), (2, .getfield 13, 4, 1, 197), (5, .if_icmp .le 11, 16, 0, 0), (8, .aload_n 0, 0, 0, 0), (9, .getfield 16, 4, 2, 199), (12, .iload_n 2, 0, 0, 0), (13, .if_icmp .gt 7, 20, 0, 0), (16, .iconst 1, 0, 0, 0), (17, .goto 4, 21, 0, 0), (20, .iconst 0, 0, 0, 0), (21, .istore 4, 0, 0, 0), (23, .aload_n 0, 0, 0, 0), (24, .getfield 13, 4, 1, 197), (27, .iload_n 2, 0, 0, 0), (28, .if_icmp .gt 15, 43, 0, 0), (31, .iload_n 3, 0, 0, 0), (32, .aload_n 0, 0, 0, 0), (33, .getfield 16, 4, 2, 199), (36, .if_icmp .gt 7, 43, 0, 0), (39, .iconst 1, 0, 0, 0), (40, .goto 4, 44, 0, 0), (43, .iconst 0, 0, 0, 0), (44, .istore 5, 0, 0, 0), (46, .iload_n 2, 0, 0, 0), (47, .aload_n 0, 0, 0, 0), (48, .getfield 13, 4, 1, 197), (51, .if_icmp .gt 15, 66, 0, 0), (54, .aload_n 0, 0, 0, 0), (55, .getfield 16, 4, 2, 199), (58, .iload_n 3, 0, 0, 0), (59, .if_icmp .gt 7, 66, 0, 0), (62, .iconst 1, 0, 0, 0), (63, .goto 4, 67, 0, 0), (66, .iconst 0, 0, 0, 0), (67, .istore 6, 0, 0, 0), (69, .iload 4, 0, 0, 0), (71, .ifCond .ne 21, 92, 0, 0), (74, .iload_n 1, 0, 0, 0), (75, .aload_n 0, 0, 0, 0), (76, .getfield 7, 4, 0, 195), (79, .if_icmp .eq 17, 96, 0, 0), (82, .iload 5, 0, 0, 0), (84, .ifCond .ne 8, 92, 0, 0), (87, .iload 6, 0, 0, 0), (89, .ifCond .eq 7, 96, 0, 0), (92, .iconst 1, 0, 0, 0), (93, .goto 4, 97, 0, 0), (96, .iconst 0, 0, 0, 0), (97, .ireturn, 0, 0, 0)]
/-- StackPolicyKernel$Section.isHeldAfter(I)Z -/
def pg_t2 : List (Nat × mm_E) := [(0, .aload_n 0, 0, 0, 0), (1, .getfield 13, 4, 1, 197), (4, .iload_n 1, 0, 0, 0), (5, .if_icmp .ge 15, 20, 0, 0), (8, .iload_n 1, 0, 0, 0), (9, .aload_n 0, 0, 0, 0), (10, .getfield 16, 4, 2, 199), (13, .if_icmp .ge 7, 20, 0, 0), (16, .iconst 1, 0, 0, 0), (17, .goto 4, 21, 0, 0), (20, .iconst 0, 0, 0, 0), (21, .ireturn, 0, 0, 0)]
/-- StackPolicyKernel$Job.<init>()V -/
def pg_t3 : List (Nat × mm_E) := [(0, .aload_n 0, 0, 0, 0), (1, .invokespecial 3, 998, 0, 123), (4, .aload_n 0, 0, 0, 0), (5, .bipush 6, 0, 0, 0), (7, .newarray .int, 0, 0, 0), (9, .putfield 9, 5, 0, 124), (12, .aload_n 0, 0, 0, 0), (13, .iconst 0, 0, 0, 0), (14, .putfield 15, 5, 1, 125), (17, .aload_n 0, 0, 0, 0), (18, .iconst 0, 0, 0, 0), (19, .putfield 19, 5, 2, 126), (22, .aload_n 0, 0, 0, 0), (23, .iconst 0, 0, 0, 0), (24, .putfield 22, 5, 3, 128), (27, .aload_n 0, 0, 0, 0), (28, .iconst 0, 0, 0, 0), (29, .putfield 25, 5, 4, 130), (32, .aload_n 0, 0, 0, 0), (33, .iconst 0, 0, 0, 0), (34, .putfield 28, 5, 5, 132), (37, .aload_n 0, 0, 0, 0), (38, .iconst 0, 0, 0, 0), (39, .putfield 31, 5, 6, 133), (42, .return_, 0, 0, 0)]
/-- StackPolicyKernel$Job.wasReleased()Z -/
def pg_t4 : List (Nat × mm_E) := [(0, .aload_n 0, 0, 0, 0), (1, .getfield 15, 5, 1, 125), (4, .ifCond .le 7, 11, 0, 0), (7, .iconst 1, 0, 0, 0), (8, .goto 4, 12, 0, 0), (11, .iconst 0, 0, 0, 0), (12, .ireturn, 0, 0, 0)]
/-- StackPolicyKernel$Job.isPending()Z -/
def pg_t5 : List (Nat × mm_E) := [(0, .aload_n 0, 0, 0, 0), (1, .getfield 19, 5, 2, 126), (4, .aload_n 0, 0, 0, 0), (5, .getfield 15, 5, 1, 125), (8, .if_icmp .ge 7, 15, 0, 0), (11, .iconst 1, 0, 0, 0), (12, .goto 4, 16, 0, 0), (15, .iconst 0, 0, 0, 0), (16, .ireturn, 0, 0, 0)]
/-- StackPolicyKernel$Job.hasRun()Z -/
def pg_t6 : List (Nat × mm_E) := [(0, .aload_n 0, 0, 0, 0), (1, .getfield 19, 5, 2, 126), (4, .ifCond .le 7, 11, 0, 0), (7, .iconst 1, 0, 0, 0), (8, .goto 4, 12, 0, 0), (11, .iconst 0, 0, 0, 0), (12, .ireturn, 0, 0, 0)]
/-- StackPolicyKernel$Job.begin(III)V -/
def pg_t7 : List (Nat × mm_E) := [(0, .aload_n 0, 0, 0, 0), (1, .iload_n 1, 0, 0, 0), (2, .putfield 15, 5, 1, 125), (5, .aload_n 0, 0, 0, 0), (6, .iconst 0, 0, 0, 0), (7, .putfield 19, 5, 2, 126), (10, .aload_n 0, 0, 0, 0), (11, .iload_n 2, 0, 0, 0), (12, .putfield 22, 5, 3, 128), (15, .aload_n 0, 0, 0, 0), (16, .iload_n 2, 0, 0, 0), (17, .iload_n 3, 0, 0, 0), (18, .iadd, 0, 0, 0), (19, .putfield 25, 5, 4, 130), (22, .aload_n 0, 0, 0, 0), (23, .iconst 0, 0, 0, 0), (24, .putfield 28, 5, 5, 132), (27, .aload_n 0, 0, 0, 0), (28, .iconst 0, 0, 0, 0), (29, .putfield 31, 5, 6, 133), (32, .iconst 0, 0, 0, 0), (33, .istore 4, 0, 0, 0), (35, .iload 4, 0, 0, 0), (37, .bipush 6, 0, 0, 0), (39, .if_icmp .ge 17, 56, 0, 0), (42, .aload_n 0, 0, 0, 0), (43, .getfield 9, 5, 0, 124), (46, .iload 4, 0, 0, 0), (48, .iconst 0, 0, 0, 0), (49, .iastore, 0, 0, 0), (50, .iinc 4 1, 0, 0, 0), (53, .goto (-18), 35, 0, 0), (56, .return_, 0, 0, 0)]
/-- StackPolicyKernel$Job.noteBlocked(II)V -/
def pg_t8 : List (Nat × mm_E) := [(0, .aload_n 0, 0, 0, 0), (1, .dup, 0, 0, 0), (2, .getfield 31, 5, 6, 133), (5, .iconst 1, 0, 0, 0), (6, .iadd, 0, 0, 0), (7, .putfield 31, 5, 6, 133), (10, .iload_n 2, 0, 0, 0), (11, .ifCond .eq 30, 41, 0, 0), (14, .aload_n 0, 0, 0, 0), (15, .getfield 9, 5, 0, 124), (18, .iload_n 1, 0, 0, 0), (19, .iaload, 0, 0, 0), (20, .iload_n 2, 0, 0, 0), (21, .if_icmp .eq 20, 41, 0, 0), (24, .aload_n 0, 0, 0, 0), (25, .getfield 9, 5, 0, 124), (28, .iload_n 1, 0, 0, 0), (29, .iload_n 2, 0, 0, 0), (30, .iastore, 0, 0, 0), (31, .aload_n 0, 0, 0, 0), (32, .dup, 0, 0, 0), (33, .getfield 28, 5, 5, 132), (36, .iconst 1, 0, 0, 0), (37, .iadd, 0, 0, 0), (38, .putfield 28, 5, 5, 132), (41, .return_, 0, 0, 0)]
/-- StackPolicyKernel$Job.figure(I)I -/
def pg_t9 : List (Nat × mm_E) := [(0, .iload_n 1, 0, 0, 0), (1, .tableswitch 56 0 3 #[31, 41, 46, 51], 0, 31, 0), (32, .aload_n 0, 0, 0, 0), (33, .getfield 15, 5, 1, 125), (36, .aload_n 0, 0, 0, 0), (37, .getfield 19, 5, 2, 126), (40, .isub, 0, 0, 0), (41, .ireturn, 0, 0, 0), (42, .aload_n 0, 0, 0, 0), (43, .getfield 25, 5, 4, 130), (46, .ireturn, 0, 0, 0), (47, .aload_n 0, 0, 0, 0), (48, .getfield 28, 5, 5, 132), (51, .ireturn, 0, 0, 0), (52, .aload_n 0, 0, 0, 0), (53, .getfield 31, 5, 6, 133), (56, .ireturn, 0, 0, 0), (57, .iconst (-1), 0, 0, 0), (58, .ireturn, 0, 0, 0)]
/-- StackPolicyKernel$Task.<init>(III)V -/
def pg_t10 : List (Nat × mm_E) := [(0, .aload_n 0, 0, 0, 0), (1, .invokespecial 3, 998, 0, 117), (4, .aload_n 0, 0, 0, 0), (5, .iconst 4, 0, 0, 0), (6, .anewarray 9, 103, 0, 118), (9, .putfield 11, 3, 3, 147), (12, .aload_n 0, 0, 0, 0), (13, .new 17, 5, 0, 119), (16, .dup, 0, 0, 0), (17, .invokespecial 19, 3, 1, 2), (20, .putfield 20, 3, 4, 148), (23, .aload_n 0, 0, 0, 0), (24, .iconst 0, 0, 0, 0), (25, .putfield 24, 3, 5, 150), (28, .aload_n 0, 0, 0, 0), (29, .iconst 0, 0, 0, 0), (30, .putfield 28, 3, 6, 151), (33, .aload_n 0, 0, 0, 0), (34, .iconst 0, 0, 0, 0), (35, .putfield 31, 3, 7, 153), (38, .aload_n 0, 0, 0, 0), (39, .iconst 0, 0, 0, 0), (40, .putfield 34, 3, 8, 155), (43, .aload_n 0, 0, 0, 0), (44, .iconst 0, 0, 0, 0), (45, .putfield 37, 3, 9, 156), (48, .aload_n 0, 0, 0, 0), (49, .iload_n 1, 0, 0, 0), (50, .putfield 40, 3, 0, 141), (53, .aload_n 0, 0, 0, 0), (54, .iload_n 2, 0, 0, 0), (55, .putfield 43, 3, 1, 143), (58, .aload_n 0, 0, 0, 0), (59, .iload_n 3, 0, 0, 0), (60, .putfield 46, 3, 2, 145), (63, .return_, 0, 0, 0)]
/-- StackPolicyKernel$Task.level()I -/
def pg_t11 : List (Nat × mm_E) := [(0, .bipush 101, 0, 0, 0), (2, .aload_n 0, 0, 0, 0), (3, .getfield 43, 3, 1, 143), (6, .isub, 0, 0, 0), (7, .ireturn, 0, 0, 0)]
/-- StackPolicyKernel$Task.allowsSection(III)Z -/
def pg_t12 : List (Nat × mm_E) := [(0, .aload_n 0, 0, 0, 0), (1, .getfield 24, 3, 5, 150), (4, .iconst 4, 0, 0, 0), (5, .if_icmp .ne 5, 10, 0, 0), (8, .iconst 0, 0, 0, 0), (9, .ireturn, 0, 0, 0), (10, .iconst 0, 0, 0, 0), (11, .istore 4, 0, 0, 0), (13, .iload 4, 0, 0, 0), (15, .aload_n 0, 0, 0, 0), (16, .getfield 24, 3, 5, 150), (19, .if_icmp .ge 27, 46, 0, 0), (22, .aload_n 0, 0, 0, 0), (23, .getfield 11, 3, 3, 147), (26, .iload 4, 0, 0, 0), (28, .aaload, 0, 0, 0), (29, .iload_n 1, 0, 0, 0), (30, .iload_n 2, 0, 0, 0), (31, .iload_n 3, 0, 0, 0), (32, .invokevirtual 49, 1, 4, 182), (35, .ifCond .ne 5, 40, 0, 0), (38, .iconst 0, 0, 0, 0), (39, .ireturn, 0, 0, 0), (40, .iinc 4 1, 0, 0, 0), (43, .goto (-30), 13, 0, 0), (46, .iconst 1, 0, 0, 0), (47, .ireturn, 0, 0, 0)]
/-- StackPolicyKernel$Task.addSection(III)V -/
def pg_t13 : List (Nat × mm_E) := [(0, .aload_n 0, 0, 0, 0), (1, .getfield 11, 3, 3, 147), (4, .aload_n 0, 0, 0, 0), (5, .getfield 24, 3, 5, 150), (8, .new 9, 4, 0, 118), (11, .dup, 0, 0, 0), (12, .iload_n 1, 0, 0, 0), (13, .iload_n 2, 0, 0, 0), (14, .iload_n 3, 0, 0, 0), (15, .invokespecial 53, 0, 4, 191), (18, .aastore, 103, 4, 0), (19, .aload_n 0, 0, 0, 0), (20, .dup, 0, 0, 0), (21, .getfield 24, 3, 5, 150), (24, .iconst 1, 0, 0, 0), (25, .iadd, 0, 0, 0), (26, .putfield 24, 3, 5, 150), (29, .return_, 0, 0, 0)]
/-- StackPolicyKernel$Task.longestHold([II)I -/
def pg_t14 : List (Nat × mm_E) := [(0, .iconst 0, 0, 0, 0), (1, .istore_n 3, 0, 0, 0), (2, .iconst 0, 0, 0, 0), (3, .istore 4, 0, 0, 0), (5, .iload 4, 0, 0, 0), (7, .aload_n 0, 0, 0, 0), (8, .getfield 24, 3, 5, 150), (11, .if_icmp .ge 53, 64, 0, 0), (14, .aload_n 1, 0, 0, 0), (15, .aload_n 0, 0, 0, 0), (16, .getfield 11, 3, 3, 147), (19, .iload 4, 0, 0, 0), (21, .aaload, 0, 0, 0), (22, .getfield 56, 4, 0, 196), (25, .iaload, 0, 0, 0), (26, .iload_n 2, 0, 0, 0), (27, .if_icmp .lt 31, 58, 0, 0), (30, .iload_n 3, 0, 0, 0), (31, .aload_n 0, 0, 0, 0), (32, .getfield 11, 3, 3, 147), (35, .iload 4, 0, 0, 0), (37, .aaload, 0, 0, 0), (38, .getfield 59, 4, 2, 200), (41, .aload_n 0, 0, 0, 0), (42, .getfield 11, 3, 3, 147), (45, .iload 4, 0, 0, 0), (47, .aaload, 0, 0, 0), (48, .getfield 62, 4, 1, 198), (51, .isub, 0, 0, 0), (52, .iconst 1, 0, 0, 0), (53, .isub, 0, 0, 0), (54, .invokestatic 65, 999, 0, 237), (57, .istore_n 3, 0, 0, 0), (58, .iinc 4 1, 0, 0, 0), (61, .goto (-56), 5, 0, 0), (64, .iload_n 3, 0, 0, 0), (65, .ireturn, 0, 0, 0)]
/-- StackPolicyKernel$Task.isHeld(LStackPolicyKernel$Section;)Z -/
def pg_t15 : List (Nat × mm_E) := [(0, .aload_n 0, 0, 0, 0), (1, .getfield 20, 3, 4, 148), (4, .invokevirtual 71, 5, 1, 311), (7, .ifCond .eq 21, 28, 0, 0), (10, .aload_n 1, 0, 0, 0), (11, .aload_n 0, 0, 0, 0), (12, .getfield 20, 3, 4, 148), (15, .getfield 75, 5, 2, 127), (18, .invokevirtual 78, 2, 2, 312), (21, .ifCond .eq 7, 28, 0, 0), (24, .iconst 1, 0, 0, 0), (25, .goto 4, 29, 0, 0), (28, .iconst 0, 0, 0, 0), (29, .ireturn, 0, 0, 0)]
/-- StackPolicyKernel$Task.holds(I)Z -/
def pg_t16 : List (Nat × mm_E) := [(0, .iconst 0, 0, 0, 0), (1, .istore_n 2, 0, 0, 0), (2, .iload_n 2, 0, 0, 0), (3, .aload_n 0, 0, 0, 0), (4, .getfield 24, 3, 5, 150), (7, .if_icmp .ge 37, 44, 0, 0), (10, .aload_n 0, 0, 0, 0), (11, .getfield 11, 3, 3, 147), (14, .iload_n 2, 0, 0, 0), (15, .aaload, 0, 0, 0), (16, .getfield 56, 4, 0, 196), (19, .iload_n 1, 0, 0, 0), (20, .if_icmp .ne 18, 38, 0, 0), (23, .aload_n 0, 0, 0, 0), (24, .aload_n 0, 0, 0, 0), (25, .getfield 11, 3, 3, 147), (28, .iload_n 2, 0, 0, 0), (29, .aaload, 0, 0, 0), (30, .invokevirtual 82, 15, 2, 307), (33, .ifCond .eq 5, 38, 0, 0), (36, .iconst 1, 0, 0, 0), (37, .ireturn, 0, 0, 0), (38, .iinc 2 1, 0, 0, 0), (41, .goto (-39), 2, 0, 0), (44, .iconst 0, 0, 0, 0), (45, .ireturn, 0, 0, 0)]
/-- StackPolicyKernel$Task.holdsSomething()Z -/
def pg_t17 : List (Nat × mm_E) := [(0, .iconst 0, 0, 0, 0), (1, .istore_n 1, 0, 0, 0), (2, .iload_n 1, 0, 0, 0), (3, .aload_n 0, 0, 0, 0), (4, .getfield 24, 3, 5, 150), (7, .if_icmp .ge 24, 31, 0, 0), (10, .aload_n 0, 0, 0, 0), (11, .aload_n 0, 0, 0, 0), (12, .getfield 11, 3, 3, 147), (15, .iload_n 1, 0, 0, 0), (16, .aaload, 0, 0, 0), (17, .invokevirtual 82, 15, 2, 307), (20, .ifCond .eq 5, 25, 0, 0), (23, .iconst 1, 0, 0, 0), (24, .ireturn, 0, 0, 0), (25, .iinc 1 1, 0, 0, 0), (28, .goto (-26), 2, 0, 0), (31, .iconst 0, 0, 0, 0), (32, .ireturn, 0, 0, 0)]
/-- StackPolicyKernel$Task.highestHeld([I)I -/
def pg_t18 : List (Nat × mm_E) := [(0, .iconst 0, 0, 0, 0), (1, .istore_n 2, 0, 0, 0), (2, .iconst 0, 0, 0, 0), (3, .istore_n 3, 0, 0, 0), (4, .iload_n 3, 0, 0, 0), (5, .aload_n 0, 0, 0, 0), (6, .getfield 24, 3, 5, 150), (9, .if_icmp .ge 38, 47, 0, 0), (12, .aload_n 0, 0, 0, 0), (13, .aload_n 0, 0, 0, 0), (14, .getfield 11, 3, 3, 147), (17, .iload_n 3, 0, 0, 0), (18, .aaload, 0, 0, 0), (19, .invokevirtual 82, 15, 2, 307), (22, .ifCond .eq 19, 41, 0, 0), (25, .iload_n 2, 0, 0, 0), (26, .aload_n 1, 0, 0, 0), (27, .aload_n 0, 0, 0, 0), (28, .getfield 11, 3, 3, 147), (31, .iload_n 3, 0, 0, 0), (32, .aaload, 0, 0, 0), (33, .getfield 56, 4, 0, 196), (36, .iaload, 0, 0, 0), (37, .invokestatic 65, 999, 0, 237), (40, .istore_n 2, 0, 0, 0), (41, .iinc 3 1, 0, 0, 0), (44, .goto (-40), 4, 0, 0), (47, .iload_n 2, 0, 0, 0), (48, .ireturn, 0, 0, 0)]
/-- StackPolicyKernel$Task.runTick()V -/
def pg_t19 : List (Nat × mm_E) := [(0, .aload_n 0, 0, 0, 0), (1, .invokevirtual 86, 17, 1, 327), (4, .istore_n 1, 0, 0, 0), (5, .aload_n 0, 0, 0, 0), (6, .getfield 20, 3, 4, 148), (9, .dup, 0, 0, 0), (10, .getfield 75, 5, 2, 127), (13, .iconst 1, 0, 0, 0), (14, .iadd, 0, 0, 0), (15, .putfield 75, 5, 2, 127), (18, .aload_n 0, 0, 0, 0), (19, .invokevirtual 86, 17, 1, 327), (22, .istore_n 2, 0, 0, 0), (23, .iload_n 1, 0, 0, 0), (24, .ifCond .ne 17, 41, 0, 0), (27, .iload_n 2, 0, 0, 0), (28, .ifCond .eq 13, 41, 0, 0), (31, .aload_n 0, 0, 0, 0), (32, .dup, 0, 0, 0), (33, .getfield 34, 3, 8, 155), (36, .iconst 1, 0, 0, 0), (37, .iadd, 0, 0, 0), (38, .putfield 34, 3, 8, 155), (41, .aload_n 0, 0, 0, 0), (42, .iload_n 1, 0, 0, 0), (43, .ifCond .ne 7, 50, 0, 0), (46, .iload_n 2, 0, 0, 0), (47, .ifCond .eq 10, 57, 0, 0), (50, .aload_n 0, 0, 0, 0), (51, .getfield 34, 3, 8, 155), (54, .goto 4, 58, 0, 0), (57, .iconst 0, 0, 0, 0), (58, .putfield 37, 3, 9, 156), (61, .return_, 0, 0, 0)]
/-- StackPolicyKernel$Task.noteResponse(I)V -/
def pg_t20 : List (Nat × mm_E) := [(0, .aload_n 0, 0, 0, 0), (1, .aload_n 0, 0, 0, 0), (2, .getfield 31, 3, 7, 153), (5, .iload_n 1, 0, 0, 0), (6, .invokestatic 65, 999, 0, 237), (9, .putfield 31, 3, 7, 153), (12, .return_, 0, 0, 0)]
/-- StackPolicyKernel$Server.<init>()V -/
def pg_t21 : List (Nat × mm_E) := [(0, .aload_n 0, 0, 0, 0), (1, .invokespecial 3, 998, 0, 52), (4, .aload_n 0, 0, 0, 0), (5, .bipush 8, 0, 0, 0), (7, .newarray .int, 0, 0, 0), (9, .putfield 9, 1, 0, 53), (12, .aload_n 0, 0, 0, 0), (13, .iconst 0, 0, 0, 0), (14, .putfield 15, 1, 1, 54), (17, .aload_n 0, 0, 0, 0), (18, .iconst 0, 0, 0, 0), (19, .putfield 19, 1, 2, 55), (22, .aload_n 0, 0, 0, 0), (23, .iconst 0, 0, 0, 0), (24, .putfield 22, 1, 3, 57), (27, .aload_n 0, 0, 0, 0), (28, .iconst 0, 0, 0, 0), (29, .putfield 25, 1, 4, 59), (32, .aload_n 0, 0, 0, 0), (33, .iconst 0, 0, 0, 0), (34, .putfield 28, 1, 5, 61), (37, .aload_n 0, 0, 0, 0), (38, .iconst 0, 0, 0, 0), (39, .putfield 31, 1, 6, 62), (42, .aload_n 0, 0, 0, 0), (43, .iconst 0, 0, 0, 0), (44, .putfield 34, 1, 7, 64), (47, .aload_n 0, 0, 0, 0), (48, .iconst 0, 0, 0, 0), (49, .putfield 37, 1, 8, 65), (52, .return_, 0, 0, 0)]
/-- StackPolicyKernel$Server.exists()Z -/
def pg_t22 : List (Nat × mm_E) := [(0, .aload_n 0, 0, 0, 0), (1, .getfield 22, 1, 3, 57), (4, .ifCond .le 7, 11, 0, 0), (7, .iconst 1, 0, 0, 0), (8, .goto 4, 12, 0, 0), (11, .iconst 0, 0, 0, 0), (12, .ireturn, 0, 0, 0)]
/-- StackPolicyKernel$Server.setUp(II)V -/
def pg_t23 : List (Nat × mm_E) := [(0, .aload_n 0, 0, 0, 0), (1, .iload_n 1, 0, 0, 0), (2, .putfield 22, 1, 3, 57), (5, .aload_n 0, 0, 0, 0), (6, .iload_n 2, 0, 0, 0), (7, .putfield 25, 1, 4, 59), (10, .aload_n 0, 0, 0, 0), (11, .iload_n 1, 0, 0, 0), (12, .putfield 28, 1, 5, 61), (15, .return_, 0, 0, 0)]
/-- StackPolicyKernel$Server.takeRequest(II)Z -/
def pg_t24 : List (Nat × mm_E) := [(0, .aload_n 0, 0, 0, 0), (1, .getfield 19, 1, 2, 55), (4, .bipush 8, 0, 0, 0), (6, .if_icmp .ne 5, 11, 0, 0), (9, .iconst 0, 0, 0, 0), (10, .ireturn, 0, 0, 0), (11, .aload_n 0, 0, 0, 0), (12, .getfield 19, 1, 2, 55), (15, .ifCond .ne 50, 65, 0, 0), (18, .aload_n 0, 0, 0, 0), (19, .getfield 28, 1, 5, 61), (22, .i2l, 0, 0, 0), (23, .aload_n 0, 0, 0, 0), (24, .getfield 25, 1, 4, 59), (27, .i2l, 0, 0, 0), (28, .lmul, 0, 0, 0), (29, .aload_n 0, 0, 0, 0), (30, .getfield 31, 1, 6, 62), (33, .i2l, 0, 0, 0), (34, .iload_n 2, 0, 0, 0), (35, .i2l, 0, 0, 0), (36, .lsub, 0, 0, 0), (37, .aload_n 0, 0, 0, 0), (38, .getfield 22, 1, 3, 57), (41, .i2l, 0, 0, 0), (42, .lmul, 0, 0, 0), (43, .lcmp, 0, 0, 0), (44, .ifCond .lt 21, 65, 0, 0), (47, .aload_n 0, 0, 0, 0), (48, .iload_n 2, 0, 0, 0), (49, .aload_n 0, 0, 0, 0), (50, .getfield 25, 1, 4, 59), (53, .iadd, 0, 0, 0), (54, .putfield 31, 1, 6, 62), (57, .aload_n 0, 0, 0, 0), (58, .aload_n 0, 0, 0, 0), (59, .getfield 22, 1, 3, 57), (62, .putfield 28, 1, 5, 61), (65, .aload_n 0, 0, 0, 0), (66, .getfield 9, 1, 0, 53), (69, .aload_n 0, 0, 0, 0), (70, .aload_n 0, 0, 0, 0), (71, .getfield 19, 1, 2, 55), (74, .invokevirtual 40, 25, 2, 270), (77, .iload_n 1, 0, 0, 0), (78, .iastore, 0, 0, 0), (79, .aload_n 0, 0, 0, 0), (80, .dup, 0, 0, 0), (81, .getfield 19, 1, 2, 55), (84, .iconst 1, 0, 0, 0), (85, .iadd, 0, 0, 0), (86, .putfield 19, 1, 2, 55), (89, .iconst 1, 0, 0, 0), (90, .ireturn, 0, 0, 0)]
/-- StackPolicyKernel$Server.slot(I)I -/
def pg_t25 : List (Nat × mm_E) := [(0, .aload_n 0, 0, 0, 0), (1, .getfield 15, 1, 1, 54), (4, .iload_n 1, 0, 0, 0), (5, .iadd, 0, 0, 0), (6, .bipush 7, 0, 0, 0), (8, .iand, 0, 0, 0), (9, .ireturn, 0, 0, 0)]
/-- StackPolicyKernel$Server.runTick()V -/
def pg_t26 : List (Nat × mm_E) := [(0, .aload_n 0, 0, 0, 0), (1, .getfield 9, 1, 0, 53), (4, .aload_n 0, 0, 0, 0), (5, .getfield 15, 1, 1, 54), (8, .dup2, 0, 0, 0), (9, .iaload, 0, 0, 0), (10, .iconst 1, 0, 0, 0), (11, .isub, 0, 0, 0), (12, .iastore, 0, 0, 0), (13, .aload_n 0, 0, 0, 0), (14, .getfield 9, 1, 0, 53), (17, .aload_n 0, 0, 0, 0), (18, .getfield 15, 1, 1, 54), (21, .iaload, 0, 0, 0), (22, .ifCond .ne 32, 54, 0, 0), (25, .aload_n 0, 0, 0, 0), (26, .aload_n 0, 0, 0, 0), (27, .iconst 1, 0, 0, 0), (28, .invokevirtual 40, 25, 2, 270), (31, .putfield 15, 1, 1, 54), (34, .aload_n 0, 0, 0, 0), (35, .dup, 0, 0, 0), (36, .getfield 19, 1, 2, 55), (39, .iconst 1, 0, 0, 0), (40, .isub, 0, 0, 0), (41, .putfield 19, 1, 2, 55), (44, .aload_n 0, 0, 0, 0), (45, .dup, 0, 0, 0), (46, .getfield 37, 1, 8, 65), (49, .iconst 1, 0, 0, 0), (50, .iadd, 0, 0, 0), (51, .putfield 37, 1, 8, 65), (54, .aload_n 0, 0, 0, 0), (55, .dup, 0, 0, 0), (56, .getfield 28, 1, 5, 61), (59, .iconst 1, 0, 0, 0), (60, .isub, 0, 0, 0), (61, .putfield 28, 1, 5, 61), (64, .aload_n 0, 0, 0, 0), (65, .getfield 28, 1, 5, 61), (68, .ifCond .ne 34, 102, 0, 0), (71, .aload_n 0, 0, 0, 0), (72, .aload_n 0, 0, 0, 0), (73, .getfield 22, 1, 3, 57), (76, .putfield 28, 1, 5, 61), (79, .aload_n 0, 0, 0, 0), (80, .dup, 0, 0, 0), (81, .getfield 31, 1, 6, 62), (84, .aload_n 0, 0, 0, 0), (85, .getfield 25, 1, 4, 59), (88, .iadd, 0, 0, 0), (89, .putfield 31, 1, 6, 62), (92, .aload_n 0, 0, 0, 0), (93, .dup, 0, 0, 0), (94, .getfield 34, 1, 7, 64), (97, .iconst 1, 0, 0, 0), (98, .iadd, 0, 0, 0), (99, .putfield 34, 1, 7, 64), (102, .return_, 0, 0, 0)]
/-- StackPolicyKernel$Server.neededTicks()I -/
def pg_t27 : List (Nat × mm_E) := [(0, .iconst 0, 0, 0, 0), (1, .istore_n 1, 0, 0, 0), (2, .iconst 0, 0, 0, 0), (3, .istore_n 2, 0, 0, 0), (4, .iload_n 2, 0, 0, 0), (5, .aload_n 0, 0, 0, 0), (6, .getfield 19, 1, 2, 55), (9, .if_icmp .ge 22, 31, 0, 0), (12, .iload_n 1, 0, 0, 0), (13, .aload_n 0, 0, 0, 0), (14, .getfield 9, 1, 0, 53), (17, .aload_n 0, 0, 0, 0), (18, .iload_n 2, 0, 0, 0), (19, .invokevirtual 40, 25, 2, 270), (22, .iaload, 0, 0, 0), (23, .iadd, 0, 0, 0), (24, .istore_n 1, 0, 0, 0), (25, .iinc 2 1, 0, 0, 0), (28, .goto (-24), 4, 0, 0), (31, .iload_n 1, 0, 0, 0), (32, .ireturn, 0, 0, 0)]
/-- StackPolicyKernel$Server.figure(I)I -/
def pg_t28 : List (Nat × mm_E) := [(0, .iload_n 1, 0, 0, 0), (1, .tableswitch 69 0 5 #[39, 44, 49, 54, 59, 64], 0, 39, 0), (40, .aload_n 0, 0, 0, 0), (41, .getfield 31, 1, 6, 62), (44, .ireturn, 0, 0, 0), (45, .aload_n 0, 0, 0, 0), (46, .getfield 28, 1, 5, 61), (49, .ireturn, 0, 0, 0), (50, .aload_n 0, 0, 0, 0), (51, .getfield 19, 1, 2, 55), (54, .ireturn, 0, 0, 0), (55, .aload_n 0, 0, 0, 0), (56, .invokevirtual 44, 27, 1, 405), (59, .ireturn, 0, 0, 0), (60, .aload_n 0, 0, 0, 0), (61, .getfield 34, 1, 7, 64), (64, .ireturn, 0, 0, 0), (65, .aload_n 0, 0, 0, 0), (66, .getfield 37, 1, 8, 65), (69, .ireturn, 0, 0, 0), (70, .iconst (-1), 0, 0, 0), (71, .ireturn, 0, 0, 0)]
/-- StackPolicyKernel$Trace.<init>()V -/
def pg_t29 : List (Nat × mm_E) := [(0, .aload_n 0, 0, 0, 0), (1, .invokespecial 3, 998, 0, 81), (4, .aload_n 0, 0, 0, 0), (5, .bipush 64, 0, 0, 0), (7, .newarray .int, 0, 0, 0), (9, .putfield 9, 2, 0, 82), (12, .aload_n 0, 0, 0, 0), (13, .iconst 0, 0, 0, 0), (14, .putfield 15, 2, 1, 83), (17, .aload_n 0, 0, 0, 0), (18, .iconst 0, 0, 0, 0), (19, .putfield 19, 2, 2, 85), (22, .aload_n 0, 0, 0, 0), (23, .iconst 0, 0, 0, 0), (24, .putfield 22, 2, 3, 87), (27, .return_, 0, 0, 0)]
/-- StackPolicyKernel$Trace.note(I)V -/
def pg_t30 : List (Nat × mm_E) := [(0, .iload_n 1, 0, 0, 0), (1, .ifCond .ne 13, 14, 0, 0), (4, .aload_n 0, 0, 0, 0), (5, .dup, 0, 0, 0), (6, .getfield 19, 2, 2, 85), (9, .iconst 1, 0, 0, 0), (10, .iadd, 0, 0, 0), (11, .putfield 19, 2, 2, 85), (14, .aload_n 0, 0, 0, 0), (15, .getfield 15, 2, 1, 83), (18, .ifCond .le 22, 40, 0, 0), (21, .iload_n 1, 0, 0, 0), (22, .aload_n 0, 0, 0, 0), (23, .iconst 0, 0, 0, 0), (24, .invokevirtual 25, 31, 2, 346), (27, .if_icmp .eq 13, 40, 0, 0), (30, .aload_n 0, 0, 0, 0), (31, .dup, 0, 0, 0), (32, .getfield 22, 2, 3, 87), (35, .iconst 1, 0, 0, 0), (36, .iadd, 0, 0, 0), (37, .putfield 22, 2, 3, 87), (40, .aload_n 0, 0, 0, 0), (41, .getfield 9, 2, 0, 82), (44, .aload_n 0, 0, 0, 0), (45, .getfield 15, 2, 1, 83), (48, .bipush 63, 0, 0, 0), (50, .iand, 0, 0, 0), (51, .iload_n 1, 0, 0, 0), (52, .iastore, 0, 0, 0), (53, .aload_n 0, 0, 0, 0), (54, .dup, 0, 0, 0), (55, .getfield 15, 2, 1, 83), (58, .iconst 1, 0, 0, 0), (59, .iadd, 0, 0, 0), (60, .putfield 15, 2, 1, 83), (63, .return_, 0, 0, 0)]
/-- StackPolicyKernel$Trace.codeBack(I)I -/
def pg_t31 : List (Nat × mm_E) := [(0, .iload_n 1, 0, 0, 0), (1, .ifCond .lt 17, 18, 0, 0), (4, .iload_n 1, 0, 0, 0), (5, .bipush 64, 0, 0, 0), (7, .if_icmp .ge 11, 18, 0, 0), (10, .iload_n 1, 0, 0, 0), (11, .aload_n 0, 0, 0, 0), (12, .getfield 15, 2, 1, 83), (15, .if_icmp .lt 5, 20, 0, 0), (18, .iconst (-1), 0, 0, 0), (19, .ireturn, 0, 0, 0), (20, .aload_n 0, 0, 0, 0), (21, .getfield 9, 2, 0, 82), (24, .aload_n 0, 0, 0, 0), (25, .getfield 15, 2, 1, 83), (28, .iconst 1, 0, 0, 0), (29, .isub, 0, 0, 0), (30, .iload_n 1, 0, 0, 0), (31, .isub, 0, 0, 0), (32, .bipush 63, 0, 0, 0), (34, .iand, 0, 0, 0), (35, .iaload, 0, 0, 0), (36, .ireturn, 0, 0, 0)]
/-- StackPolicyKernel.<init>()V -/
def pg_t32 : List (Nat × mm_E) := [(0, .aload_n 0, 0, 0, 0), (1, .invokespecial 1, 998, 0, 44), (4, .aload_n 0, 0, 0, 0), (5, .bipush 6, 0, 0, 0), (7, .anewarray 9, 102, 0, 47), (10, .putfield 11, 0, 0, 93), (13, .aload_n 0, 0, 0, 0), (14, .iconst 4, 0, 0, 0), (15, .newarray .int, 0, 0, 0), (17, .putfield 15, 0, 1, 94), (20, .aload_n 0, 0, 0, 0), (21, .new 19, 1, 0, 48), (24, .dup, 0, 0, 0), (25, .invokespecial 21, 21, 1, 0), (28, .putfield 22, 0, 2, 95), (31, .aload_n 0, 0, 0, 0), (32, .new 26, 2, 0, 77), (35, .dup, 0, 0, 0), (36, .invokespecial 28, 29, 1, 1), (39, .putfield 29, 0, 3, 96), (42, .aload_n 0, 0, 0, 0), (43, .iconst 0, 0, 0, 0), (44, .putfield 33, 0, 4, 97), (47, .aload_n 0, 0, 0, 0), (48, .iconst 0, 0, 0, 0), (49, .putfield 37, 0, 5, 98), (52, .aload_n 0, 0, 0, 0), (53, .iconst 0, 0, 0, 0), (54, .putfield 41, 0, 6, 99), (57, .aload_n 0, 0, 0, 0), (58, .iconst 0, 0, 0, 0), (59, .putfield 44, 0, 7, 100), (62, .return_, 0, 0, 0)]
/-- StackPolicyKernel.task(III)I -/
def pg_t33 : List (Nat × mm_E) := [(0, .iconst 1, 0, 0, 0), (1, .iload_n 3, 0, 0, 0), (2, .if_icmp .gt 23, 25, 0, 0), (5, .iload_n 3, 0, 0, 0), (6, .iload_n 2, 0, 0, 0), (7, .if_icmp .gt 18, 25, 0, 0), (10, .iload_n 2, 0, 0, 0), (11, .iload_n 1, 0, 0, 0), (12, .if_icmp .gt 13, 25, 0, 0), (15, .iload_n 1, 0, 0, 0), (16, .bipush 100, 0, 0, 0), (18, .if_icmp .gt 7, 25, 0, 0), (21, .iconst 1, 0, 0, 0), (22, .goto 4, 26, 0, 0), (25, .iconst 0, 0, 0, 0), (26, .istore 4, 0, 0, 0), (28, .aload_n 0, 0, 0, 0), (29, .getfield 37, 0, 5, 98), (32, .ifCond .ne 17, 49, 0, 0), (35, .aload_n 0, 0, 0, 0), (36, .getfield 33, 0, 4, 97), (39, .bipush 6, 0, 0, 0), (41, .if_icmp .eq 8, 49, 0, 0), (44, .iload 4, 0, 0, 0), (46, .ifCond .ne 5, 51, 0, 0), (49, .iconst (-1), 0, 0, 0), (50, .ireturn, 0, 0, 0), (51, .aload_n 0, 0, 0, 0), (52, .getfield 11, 0, 0, 93), (55, .aload_n 0, 0, 0, 0), (56, .getfield 33, 0, 4, 97), (59, .new 9, 3, 0, 47), (62, .dup, 0, 0, 0), (63, .iload_n 1, 0, 0, 0), (64, .iload_n 2, 0, 0, 0), (65, .iload_n 3, 0, 0, 0), (66, .invokespecial 47, 10, 4, 114), (69, .aastore, 102, 3, 0), (70, .aload_n 0, 0, 0, 0), (71, .dup, 0, 0, 0), (72, .getfield 33, 0, 4, 97), (75, .iconst 1, 0, 0, 0), (76, .iadd, 0, 0, 0), (77, .putfield 33, 0, 4, 97), (80, .aload_n 0, 0, 0, 0), (81, .getfield 33, 0, 4, 97), (84, .iconst 1, 0, 0, 0), (85, .isub, 0, 0, 0), (86, .ireturn, 0, 0, 0)]
/-- StackPolicyKernel.section(IIII)Z -/
def pg_t34 : List (Nat × mm_E) := [(0, .aload_n 0, 0, 0, 0), (1, .getfield 37, 0, 5, 98), (4, .ifCond .ne 18, 22, 0, 0), (7, .aload_n 0, 0, 0, 0), (8, .iload_n 1, 0, 0, 0), (9, .invokevirtual 50, 52, 2, 172), (12, .ifCond .eq 10, 22, 0, 0), (15, .iload_n 2, 0, 0, 0), (16, .invokestatic 54, 53, 1, 175), (19, .ifCond .ne 5, 24, 0, 0), (22, .iconst 0, 0, 0, 0), (23, .ireturn, 0, 0, 0), (24, .aload_n 0, 0, 0, 0), (25, .getfield 11, 0, 0, 93), (28, .iload_n 1, 0, 0, 0), (29, .aaload, 0, 0, 0), (30, .astore 5, 0, 0, 0), (32, .iload_n 3, 0, 0, 0), (33, .ifCond .lt 31, 64, 0, 0), (36, .iload_n 3, 0, 0, 0), (37, .iload 4, 0, 0, 0), (39, .if_icmp .ge 25, 64, 0, 0), (42, .iload 4, 0, 0, 0), (44, .aload 5, 0, 0, 0), (46, .getfield 57, 3, 2, 146), (49, .if_icmp .gt 15, 64, 0, 0), (52, .aload 5, 0, 0, 0), (54, .iload_n 2, 0, 0, 0), (55, .iload_n 3, 0, 0, 0), (56, .iload 4, 0, 0, 0), (58, .invokevirtual 60, 12, 4, 178), (61, .ifCond .ne 5, 66, 0, 0), (64, .iconst 0, 0, 0, 0), (65, .ireturn, 0, 0, 0), (66, .aload 5, 0, 0, 0), (68, .iload_n 2, 0, 0, 0), (69, .iload_n 3, 0, 0, 0), (70, .iload 4, 0, 0, 0), (72, .invokevirtual 64, 13, 4, 186), (75, .aload_n 0, 0, 0, 0), (76, .getfield 15, 0, 1, 94), (79, .iload_n 2, 0, 0, 0), (80, .aload_n 0, 0, 0, 0), (81, .getfield 15, 0, 1, 94), (84, .iload_n 2, 0, 0, 0), (85, .iaload, 0, 0, 0), (86, .aload 5, 0, 0, 0), (88, .invokevirtual 67, 11, 1, 204), (91, .invokestatic 71, 999, 0, 208), (94, .iastore, 0, 0, 0), (95, .iconst 1, 0, 0, 0), (96, .ireturn, 0, 0, 0)]
/-- StackPolicyKernel.server(II)Z -/
def pg_t35 : List (Nat × mm_E) := [(0, .aload_n 0, 0, 0, 0), (1, .getfield 37, 0, 5, 98), (4, .ifCond .ne 19, 23, 0, 0), (7, .iload_n 1, 0, 0, 0), (8, .iconst 1, 0, 0, 0), (9, .if_icmp .lt 14, 23, 0, 0), (12, .iload_n 1, 0, 0, 0), (13, .iload_n 2, 0, 0, 0), (14, .if_icmp .gt 9, 23, 0, 0), (17, .iload_n 2, 0, 0, 0), (18, .bipush 100, 0, 0, 0), (20, .if_icmp .le 5, 25, 0, 0), (23, .iconst 0, 0, 0, 0), (24, .ireturn, 0, 0, 0), (25, .aload_n 0, 0, 0, 0), (26, .getfield 22, 0, 2, 95), (29, .iload_n 1, 0, 0, 0), (30, .iload_n 2, 0, 0, 0), (31, .invokevirtual 77, 23, 3, 215), (34, .iconst 1, 0, 0, 0), (35, .ireturn, 0, 0, 0)]
/-- StackPolicyKernel.start()Z -/
def pg_t36 : List (Nat × mm_E) := [(0, .aload_n 0, 0, 0, 0), (1, .getfield 37, 0, 5, 98), (4, .ifCond .eq 5, 9, 0, 0), (7, .iconst 0, 0, 0, 0), (8, .ireturn, 0, 0, 0), (9, .aload_n 0, 0, 0, 0), (10, .iconst 1, 0, 0, 0), (11, .putfield 37, 0, 5, 98), (14, .iconst 1, 0, 0, 0), (15, .ireturn, 0, 0, 0)]
/-- StackPolicyKernel.verdict()I -/
def pg_t37 : List (Nat × mm_E) := [(0, .iconst 0, 0, 0, 0), (1, .istore_n 1, 0, 0, 0), (2, .iload_n 1, 0, 0, 0), (3, .aload_n 0, 0, 0, 0), (4, .getfield 33, 0, 4, 97), (7, .if_icmp .ge 24, 31, 0, 0), (10, .aload_n 0, 0, 0, 0), (11, .aload_n 0, 0, 0, 0), (12, .getfield 11, 0, 0, 93), (15, .iload_n 1, 0, 0, 0), (16, .aaload, 0, 0, 0), (17, .invokevirtual 81, 55, 2, 227), (20, .ifCond .ne 5, 25, 0, 0), (23, .iload_n 1, 0, 0, 0), (24, .ireturn, 0, 0, 0), (25, .iinc 1 1, 0, 0, 0), (28, .goto (-26), 2, 0, 0), (31, .iconst (-1), 0, 0, 0), (32, .ireturn, 0, 0, 0)]
/-- StackPolicyKernel.ceiling(I)I -/
def pg_t38 : List (Nat × mm_E) := [(0, .iload_n 1, 0, 0, 0), (1, .invokestatic 54, 53, 1, 175), (4, .ifCond .eq 12, 16, 0, 0), (7, .aload_n 0, 0, 0, 0), (8, .getfield 15, 0, 1, 94), (11, .iload_n 1, 0, 0, 0), (12, .iaload, 0, 0, 0), (13, .goto 4, 17, 0, 0), (16, .iconst (-1), 0, 0, 0), (17, .ireturn, 0, 0, 0)]
/-- StackPolicyKernel.release(II)I -/
def pg_t39 : List (Nat × mm_E) := [(0, .aload_n 0, 0, 0, 0), (1, .getfield 37, 0, 5, 98), (4, .ifCond .ne 5, 9, 0, 0), (7, .iconst (-1), 0, 0, 0), (8, .ireturn, 0, 0, 0), (9, .aload_n 0, 0, 0, 0), (10, .iload_n 1, 0, 0, 0), (11, .invokevirtual 50, 52, 2, 172), (14, .ifCond .eq 21, 35, 0, 0), (17, .iload_n 2, 0, 0, 0), (18, .iconst 1, 0, 0, 0), (19, .if_icmp .lt 16, 35, 0, 0), (22, .iload_n 2, 0, 0, 0), (23, .aload_n 0, 0, 0, 0), (24, .getfield 11, 0, 0, 93), (27, .iload_n 1, 0, 0, 0), (28, .aaload, 0, 0, 0), (29, .getfield 57, 3, 2, 146), (32, .if_icmp .le 6, 38, 0, 0), (35, .bipush (-2), 0, 0, 0), (37, .ireturn, 0, 0, 0), (38, .aload_n 0, 0, 0, 0), (39, .getfield 11, 0, 0, 93), (42, .iload_n 1, 0, 0, 0), (43, .aaload, 0, 0, 0), (44, .astore_n 3, 0, 0, 0), (45, .aload_n 3, 0, 0, 0), (46, .getfield 85, 3, 4, 149), (49, .invokevirtual 89, 5, 1, 250), (52, .ifCond .eq 6, 58, 0, 0), (55, .bipush (-3), 0, 0, 0), (57, .ireturn, 0, 0, 0), (58, .aload_n 3, 0, 0, 0), (59, .getfield 85, 3, 4, 149), (62, .invokevirtual 95, 4, 1, 254), (65, .ifCond .eq 28, 93, 0, 0), (68, .aload_n 0, 0, 0, 0), (69, .getfield 29, 0, 3, 96), (72, .getfield 98, 2, 1, 84), (75, .aload_n 3, 0, 0, 0), (76, .getfield 85, 3, 4, 149), (79, .getfield 101, 5, 3, 129), (82, .isub, 0, 0, 0), (83, .aload_n 3, 0, 0, 0), (84, .getfield 104, 3, 0, 142), (87, .if_icmp .ge 6, 93, 0, 0), (90, .bipush (-4), 0, 0, 0), (92, .ireturn, 0, 0, 0), (93, .aload_n 3, 0, 0, 0), (94, .getfield 85, 3, 4, 149), (97, .iload_n 2, 0, 0, 0), (98, .aload_n 0, 0, 0, 0), (99, .getfield 29, 0, 3, 96), (102, .getfield 98, 2, 1, 84), (105, .aload_n 3, 0, 0, 0), (106, .getfield 107, 3, 1, 144), (109, .invokevirtual 110, 7, 4, 258), (112, .aload_n 0, 0, 0, 0), (113, .dup, 0, 0, 0), (114, .getfield 41, 0, 6, 99), (117, .iconst 1, 0, 0, 0), (118, .iadd, 0, 0, 0), (119, .putfield 41, 0, 6, 99), (122, .aload_n 0, 0, 0, 0), (123, .getfield 41, 0, 6, 99), (126, .ireturn, 0, 0, 0)]
/-- StackPolicyKernel.submit(I)Z -/
def pg_t40 : List (Nat × mm_E) := [(0, .aload_n 0, 0, 0, 0), (1, .getfield 37, 0, 5, 98), (4, .ifCond .eq 24, 28, 0, 0), (7, .aload_n 0, 0, 0, 0), (8, .getfield 22, 0, 2, 95), (11, .invokevirtual 113, 22, 1, 238), (14, .ifCond .eq 14, 28, 0, 0), (17, .iload_n 1, 0, 0, 0), (18, .iconst 1, 0, 0, 0), (19, .if_icmp .lt 9, 28, 0, 0), (22, .iload_n 1, 0, 0, 0), (23, .bipush 50, 0, 0, 0), (25, .if_icmp .le 5, 30, 0, 0), (28, .iconst 0, 0, 0, 0), (29, .ireturn, 0, 0, 0), (30, .aload_n 0, 0, 0, 0), (31, .getfield 22, 0, 2, 95), (34, .iload_n 1, 0, 0, 0), (35, .aload_n 0, 0, 0, 0), (36, .getfield 29, 0, 3, 96), (39, .getfield 98, 2, 1, 84), (42, .invokevirtual 116, 24, 3, 266), (45, .ireturn, 0, 0, 0)]
/-- StackPolicyKernel.step(I)I -/
def pg_t41 : List (Nat × mm_E) := [(0, .aload_n 0, 0, 0, 0), (1, .getfield 37, 0, 5, 98), (4, .ifCond .eq 14, 18, 0, 0), (7, .iload_n 1, 0, 0, 0), (8, .ifCond .lt 10, 18, 0, 0), (11, .iload_n 1, 0, 0, 0), (12, .sipush 200, 0, 0, 0), (15, .if_icmp .le 5, 20, 0, 0), (18, .iconst (-1), 0, 0, 0), (19, .ireturn, 0, 0, 0), (20, .aload_n 0, 0, 0, 0), (21, .getfield 44, 0, 7, 100), (24, .aload_n 0, 0, 0, 0), (25, .getfield 22, 0, 2, 95), (28, .getfield 120, 1, 8, 66), (31, .iadd, 0, 0, 0), (32, .istore_n 2, 0, 0, 0), (33, .iconst 0, 0, 0, 0), (34, .istore_n 3, 0, 0, 0), (35, .iload_n 3, 0, 0, 0), (36, .iload_n 1, 0, 0, 0), (37, .if_icmp .ge 13, 50, 0, 0), (40, .aload_n 0, 0, 0, 0), (41, .invokevirtual 123, 63, 1, 278), (44, .iinc 3 1, 0, 0, 0), (47, .goto (-12), 35, 0, 0), (50, .aload_n 0, 0, 0, 0), (51, .getfield 44, 0, 7, 100), (54, .aload_n 0, 0, 0, 0), (55, .getfield 22, 0, 2, 95), (58, .getfield 120, 1, 8, 66), (61, .iadd, 0, 0, 0), (62, .iload_n 2, 0, 0, 0), (63, .isub, 0, 0, 0), (64, .ireturn, 0, 0, 0)]
/-- StackPolicyKernel.time()I -/
def pg_t42 : List (Nat × mm_E) := [(0, .aload_n 0, 0, 0, 0), (1, .getfield 29, 0, 3, 96), (4, .getfield 98, 2, 1, 84), (7, .ireturn, 0, 0, 0)]
/-- StackPolicyKernel.ran(I)I -/
def pg_t43 : List (Nat × mm_E) := [(0, .aload_n 0, 0, 0, 0), (1, .getfield 29, 0, 3, 96), (4, .iload_n 1, 0, 0, 0), (5, .invokevirtual 126, 31, 2, 361), (8, .ireturn, 0, 0, 0)]
/-- StackPolicyKernel.queued(I)I -/
def pg_t44 : List (Nat × mm_E) := [(0, .iconst 1, 0, 0, 0), (1, .istore_n 2, 0, 0, 0), (2, .iload_n 2, 0, 0, 0), (3, .iconst 2, 0, 0, 0), (4, .aload_n 0, 0, 0, 0), (5, .getfield 33, 0, 4, 97), (8, .iadd, 0, 0, 0), (9, .if_icmp .ge 28, 37, 0, 0), (12, .aload_n 0, 0, 0, 0), (13, .iload_n 2, 0, 0, 0), (14, .invokevirtual 130, 57, 2, 284), (17, .ifCond .eq 14, 31, 0, 0), (20, .aload_n 0, 0, 0, 0), (21, .iload_n 2, 0, 0, 0), (22, .invokevirtual 133, 60, 2, 366), (25, .iload_n 1, 0, 0, 0), (26, .if_icmp .ne 5, 31, 0, 0), (29, .iload_n 2, 0, 0, 0), (30, .ireturn, 0, 0, 0), (31, .iinc 2 1, 0, 0, 0), (34, .goto (-32), 2, 0, 0), (37, .iconst 0, 0, 0, 0), (38, .ireturn, 0, 0, 0)]
/-- StackPolicyKernel.holder(I)I -/
def pg_t45 : List (Nat × mm_E) := [(0, .iconst 0, 0, 0, 0), (1, .istore_n 2, 0, 0, 0), (2, .iload_n 2, 0, 0, 0), (3, .aload_n 0, 0, 0, 0), (4, .getfield 33, 0, 4, 97), (7, .if_icmp .ge 24, 31, 0, 0), (10, .aload_n 0, 0, 0, 0), (11, .getfield 11, 0, 0, 93), (14, .iload_n 2, 0, 0, 0), (15, .aaload, 0, 0, 0), (16, .iload_n 1, 0, 0, 0), (17, .invokevirtual 136, 16, 2, 373), (20, .ifCond .eq 5, 25, 0, 0), (23, .iload_n 2, 0, 0, 0), (24, .ireturn, 0, 0, 0), (25, .iinc 2 1, 0, 0, 0), (28, .goto (-26), 2, 0, 0), (31, .iconst (-1), 0, 0, 0), (32, .ireturn, 0, 0, 0)]
/-- StackPolicyKernel.systemCeiling()I -/
def pg_t46 : List (Nat × mm_E) := [(0, .aload_n 0, 0, 0, 0), (1, .invokevirtual 139, 62, 1, 300), (4, .ireturn, 0, 0, 0)]
/-- StackPolicyKernel.job(II)I -/
def pg_t47 : List (Nat × mm_E) := [(0, .aload_n 0, 0, 0, 0), (1, .iload_n 1, 0, 0, 0), (2, .invokevirtual 50, 52, 2, 172), (5, .ifCond .eq 18, 23, 0, 0), (8, .aload_n 0, 0, 0, 0), (9, .getfield 11, 0, 0, 93), (12, .iload_n 1, 0, 0, 0), (13, .aaload, 0, 0, 0), (14, .getfield 85, 3, 4, 149), (17, .invokevirtual 95, 4, 1, 254), (20, .ifCond .ne 5, 25, 0, 0), (23, .iconst (-1), 0, 0, 0), (24, .ireturn, 0, 0, 0), (25, .aload_n 0, 0, 0, 0), (26, .getfield 11, 0, 0, 93), (29, .iload_n 1, 0, 0, 0), (30, .aaload, 0, 0, 0), (31, .getfield 85, 3, 4, 149), (34, .iload_n 2, 0, 0, 0), (35, .invokevirtual 142, 9, 2, 385), (38, .ireturn, 0, 0, 0)]
/-- StackPolicyKernel.misses(I)I -/
def pg_t48 : List (Nat × mm_E) := [(0, .aload_n 0, 0, 0, 0), (1, .iload_n 1, 0, 0, 0), (2, .invokevirtual 50, 52, 2, 172), (5, .ifCond .eq 15, 20, 0, 0), (8, .aload_n 0, 0, 0, 0), (9, .getfield 11, 0, 0, 93), (12, .iload_n 1, 0, 0, 0), (13, .aaload, 0, 0, 0), (14, .getfield 145, 3, 6, 152), (17, .goto 4, 21, 0, 0), (20, .iconst (-1), 0, 0, 0), (21, .ireturn, 0, 0, 0)]
/-- StackPolicyKernel.worst(I)I -/
def pg_t49 : List (Nat × mm_E) := [(0, .aload_n 0, 0, 0, 0), (1, .iload_n 1, 0, 0, 0), (2, .invokevirtual 50, 52, 2, 172), (5, .ifCond .eq 15, 20, 0, 0), (8, .aload_n 0, 0, 0, 0), (9, .getfield 11, 0, 0, 93), (12, .iload_n 1, 0, 0, 0), (13, .aaload, 0, 0, 0), (14, .getfield 148, 3, 7, 154), (17, .goto 4, 21, 0, 0), (20, .iconst (-1), 0, 0, 0), (21, .ireturn, 0, 0, 0)]
/-- StackPolicyKernel.serverFigure(I)I -/
def pg_t50 : List (Nat × mm_E) := [(0, .aload_n 0, 0, 0, 0), (1, .getfield 22, 0, 2, 95), (4, .invokevirtual 113, 22, 1, 238), (7, .ifCond .eq 14, 21, 0, 0), (10, .aload_n 0, 0, 0, 0), (11, .getfield 22, 0, 2, 95), (14, .iload_n 1, 0, 0, 0), (15, .invokevirtual 151, 28, 2, 401), (18, .goto 4, 22, 0, 0), (21, .iconst (-1), 0, 0, 0), (22, .ireturn, 0, 0, 0)]
/-- StackPolicyKernel.count(I)I -/
def pg_t51 : List (Nat × mm_E) := [(0, .iload_n 1, 0, 0, 0), (1, .tableswitch 57 0 3 #[31, 39, 47, 52], 0, 31, 0), (32, .aload_n 0, 0, 0, 0), (33, .getfield 29, 0, 3, 96), (36, .getfield 152, 2, 2, 86), (39, .ireturn, 0, 0, 0), (40, .aload_n 0, 0, 0, 0), (41, .getfield 29, 0, 3, 96), (44, .getfield 155, 2, 3, 88), (47, .ireturn, 0, 0, 0), (48, .aload_n 0, 0, 0, 0), (49, .getfield 44, 0, 7, 100), (52, .ireturn, 0, 0, 0), (53, .aload_n 0, 0, 0, 0), (54, .invokevirtual 158, 54, 1, 413), (57, .ireturn, 0, 0, 0), (58, .iconst (-1), 0, 0, 0), (59, .ireturn, 0, 0, 0)]
/-- StackPolicyKernel.isTask(I)Z -/
def pg_t52 : List (Nat × mm_E) := [(0, .iconst 0, 0, 0, 0), (1, .iload_n 1, 0, 0, 0), (2, .if_icmp .gt 15, 17, 0, 0), (5, .iload_n 1, 0, 0, 0), (6, .aload_n 0, 0, 0, 0), (7, .getfield 33, 0, 4, 97), (10, .if_icmp .ge 7, 17, 0, 0), (13, .iconst 1, 0, 0, 0), (14, .goto 4, 18, 0, 0), (17, .iconst 0, 0, 0, 0), (18, .ireturn, 0, 0, 0)]
/-- StackPolicyKernel.isResource(I)Z -/
def pg_t53 : List (Nat × mm_E) := [(0, .iconst 0, 0, 0, 0), (1, .iload_n 0, 0, 0, 0), (2, .if_icmp .gt 12, 14, 0, 0), (5, .iload_n 0, 0, 0, 0), (6, .iconst 4, 0, 0, 0), (7, .if_icmp .ge 7, 14, 0, 0), (10, .iconst 1, 0, 0, 0), (11, .goto 4, 15, 0, 0), (14, .iconst 0, 0, 0, 0), (15, .ireturn, 0, 0, 0)]
/-- StackPolicyKernel.begunPendingJobs()I -/
def pg_t54 : List (Nat × mm_E) := [(0, .iconst 0, 0, 0, 0), (1, .istore_n 1, 0, 0, 0), (2, .iconst 0, 0, 0, 0), (3, .istore_n 2, 0, 0, 0), (4, .iload_n 2, 0, 0, 0), (5, .aload_n 0, 0, 0, 0), (6, .getfield 33, 0, 4, 97), (9, .if_icmp .ge 42, 51, 0, 0), (12, .aload_n 0, 0, 0, 0), (13, .getfield 11, 0, 0, 93), (16, .iload_n 2, 0, 0, 0), (17, .aaload, 0, 0, 0), (18, .getfield 85, 3, 4, 149), (21, .invokevirtual 89, 5, 1, 250), (24, .ifCond .eq 21, 45, 0, 0), (27, .aload_n 0, 0, 0, 0), (28, .getfield 11, 0, 0, 93), (31, .iload_n 2, 0, 0, 0), (32, .aaload, 0, 0, 0), (33, .getfield 85, 3, 4, 149), (36, .invokevirtual 161, 6, 1, 296), (39, .ifCond .eq 6, 45, 0, 0), (42, .iinc 1 1, 0, 0, 0), (45, .iinc 2 1, 0, 0, 0), (48, .goto (-44), 4, 0, 0), (51, .iload_n 1, 0, 0, 0), (52, .ireturn, 0, 0, 0)]
/-- StackPolicyKernel.passes(LStackPolicyKernel$Task;)Z -/
def pg_t55 : List (Nat × mm_E) := [(0, .aload_n 0, 0, 0, 0), (1, .aload_n 1, 0, 0, 0), (2, .invokevirtual 164, 56, 2, 230), (5, .i2l, 0, 0, 0), (6, .lstore_n 2, 0, 0, 0), (7, .aload_n 1, 0, 0, 0), (8, .getfield 107, 3, 1, 144), (11, .i2l, 0, 0, 0), (12, .lstore 4, 0, 0, 0), (14, .iconst 0, 0, 0, 0), (15, .istore 6, 0, 0, 0), (17, .iload 6, 0, 0, 0), (19, .aload_n 0, 0, 0, 0), (20, .getfield 33, 0, 4, 97), (23, .if_icmp .ge 71, 94, 0, 0), (26, .aload_n 0, 0, 0, 0), (27, .getfield 11, 0, 0, 93), (30, .iload 6, 0, 0, 0), (32, .aaload, 0, 0, 0), (33, .getfield 107, 3, 1, 144), (36, .aload_n 1, 0, 0, 0), (37, .getfield 107, 3, 1, 144), (40, .if_icmp .gt 48, 88, 0, 0), (43, .lload_n 2, 0, 0, 0), (44, .aload_n 0, 0, 0, 0), (45, .getfield 11, 0, 0, 93), (48, .iload 6, 0, 0, 0), (50, .aaload, 0, 0, 0), (51, .getfield 107, 3, 1, 144), (54, .i2l, 0, 0, 0), (55, .lmul, 0, 0, 0), (56, .aload_n 0, 0, 0, 0), (57, .getfield 11, 0, 0, 93), (60, .iload 6, 0, 0, 0), (62, .aaload, 0, 0, 0), (63, .getfield 57, 3, 2, 146), (66, .i2l, 0, 0, 0), (67, .lload 4, 0, 0, 0), (69, .lmul, 0, 0, 0), (70, .ladd, 0, 0, 0), (71, .lstore_n 2, 0, 0, 0), (72, .lload 4, 0, 0, 0), (74, .aload_n 0, 0, 0, 0), (75, .getfield 11, 0, 0, 93), (78, .iload 6, 0, 0, 0), (80, .aaload, 0, 0, 0), (81, .getfield 107, 3, 1, 144), (84, .i2l, 0, 0, 0), (85, .lmul, 0, 0, 0), (86, .lstore 4, 0, 0, 0), (88, .iinc 6 1, 0, 0, 0), (91, .goto (-74), 17, 0, 0), (94, .aload_n 0, 0, 0, 0), (95, .getfield 22, 0, 2, 95), (98, .invokevirtual 113, 22, 1, 238), (101, .ifCond .eq 39, 140, 0, 0), (104, .lload_n 2, 0, 0, 0), (105, .aload_n 0, 0, 0, 0), (106, .getfield 22, 0, 2, 95), (109, .getfield 168, 1, 4, 60), (112, .i2l, 0, 0, 0), (113, .lmul, 0, 0, 0), (114, .aload_n 0, 0, 0, 0), (115, .getfield 22, 0, 2, 95), (118, .getfield 169, 1, 3, 58), (121, .i2l, 0, 0, 0), (122, .lload 4, 0, 0, 0), (124, .lmul, 0, 0, 0), (125, .ladd, 0, 0, 0), (126, .lstore_n 2, 0, 0, 0), (127, .lload 4, 0, 0, 0), (129, .aload_n 0, 0, 0, 0), (130, .getfield 22, 0, 2, 95), (133, .getfield 168, 1, 4, 60), (136, .i2l, 0, 0, 0), (137, .lmul, 0, 0, 0), (138, .lstore 4, 0, 0, 0), (140, .lload_n 2, 0, 0, 0), (141, .lload 4, 0, 0, 0), (143, .lcmp, 0, 0, 0), (144, .ifCond .gt 7, 151, 0, 0), (147, .iconst 1, 0, 0, 0), (148, .goto 4, 152, 0, 0), (151, .iconst 0, 0, 0, 0), (152, .ireturn, 0, 0, 0)]
/-- StackPolicyKernel.longestHoldAgainst(LStackPolicyKernel$Task;)I -/
def pg_t56 : List (Nat × mm_E) := [(0, .iconst 0, 0, 0, 0), (1, .istore_n 2, 0, 0, 0), (2, .iconst 0, 0, 0, 0), (3, .istore_n 3, 0, 0, 0), (4, .iload_n 3, 0, 0, 0), (5, .aload_n 0, 0, 0, 0), (6, .getfield 33, 0, 4, 97), (9, .if_icmp .ge 47, 56, 0, 0), (12, .aload_n 0, 0, 0, 0), (13, .getfield 11, 0, 0, 93), (16, .iload_n 3, 0, 0, 0), (17, .aaload, 0, 0, 0), (18, .getfield 107, 3, 1, 144), (21, .aload_n 1, 0, 0, 0), (22, .getfield 107, 3, 1, 144), (25, .if_icmp .le 25, 50, 0, 0), (28, .iload_n 2, 0, 0, 0), (29, .aload_n 0, 0, 0, 0), (30, .getfield 11, 0, 0, 93), (33, .iload_n 3, 0, 0, 0), (34, .aaload, 0, 0, 0), (35, .aload_n 0, 0, 0, 0), (36, .getfield 15, 0, 1, 94), (39, .aload_n 1, 0, 0, 0), (40, .invokevirtual 67, 11, 1, 204), (43, .invokevirtual 172, 14, 3, 233), (46, .invokestatic 71, 999, 0, 208), (49, .istore_n 2, 0, 0, 0), (50, .iinc 3 1, 0, 0, 0), (53, .goto (-49), 4, 0, 0), (56, .iload_n 2, 0, 0, 0), (57, .ireturn, 0, 0, 0)]
/-- StackPolicyKernel.isInOrder(I)Z -/
def pg_t57 : List (Nat × mm_E) := [(0, .iload_n 1, 0, 0, 0), (1, .iconst 1, 0, 0, 0), (2, .if_icmp .ne 19, 21, 0, 0), (5, .aload_n 0, 0, 0, 0), (6, .getfield 22, 0, 2, 95), (9, .getfield 176, 1, 2, 56), (12, .ifCond .le 7, 19, 0, 0), (15, .iconst 1, 0, 0, 0), (16, .goto 4, 20, 0, 0), (19, .iconst 0, 0, 0, 0), (20, .ireturn, 0, 0, 0), (21, .aload_n 0, 0, 0, 0), (22, .getfield 11, 0, 0, 93), (25, .iload_n 1, 0, 0, 0), (26, .iconst 2, 0, 0, 0), (27, .isub, 0, 0, 0), (28, .aaload, 0, 0, 0), (29, .getfield 85, 3, 4, 149), (32, .invokevirtual 89, 5, 1, 250), (35, .ireturn, 0, 0, 0)]
/-- StackPolicyKernel.deadlineOf(I)I -/
def pg_t58 : List (Nat × mm_E) := [(0, .iload_n 1, 0, 0, 0), (1, .iconst 1, 0, 0, 0), (2, .if_icmp .ne 11, 13, 0, 0), (5, .aload_n 0, 0, 0, 0), (6, .getfield 22, 0, 2, 95), (9, .getfield 179, 1, 6, 63), (12, .ireturn, 0, 0, 0), (13, .aload_n 0, 0, 0, 0), (14, .getfield 11, 0, 0, 93), (17, .iload_n 1, 0, 0, 0), (18, .iconst 2, 0, 0, 0), (19, .isub, 0, 0, 0), (20, .aaload, 0, 0, 0), (21, .getfield 85, 3, 4, 149), (24, .getfield 182, 5, 4, 131), (27, .ireturn, 0, 0, 0)]
/-- StackPolicyKernel.comesBefore(II)Z -/
def pg_t59 : List (Nat × mm_E) := [(0, .aload_n 0, 0, 0, 0), (1, .iload_n 1, 0, 0, 0), (2, .invokevirtual 183, 58, 2, 290), (5, .istore_n 3, 0, 0, 0), (6, .aload_n 0, 0, 0, 0), (7, .iload_n 2, 0, 0, 0), (8, .invokevirtual 183, 58, 2, 290), (11, .istore 4, 0, 0, 0), (13, .iload_n 3, 0, 0, 0), (14, .iload 4, 0, 0, 0), (16, .if_icmp .eq 15, 31, 0, 0), (19, .iload_n 3, 0, 0, 0), (20, .iload 4, 0, 0, 0), (22, .if_icmp .ge 7, 29, 0, 0), (25, .iconst 1, 0, 0, 0), (26, .goto 4, 30, 0, 0), (29, .iconst 0, 0, 0, 0), (30, .ireturn, 0, 0, 0), (31, .iload_n 1, 0, 0, 0), (32, .iconst 1, 0, 0, 0), (33, .if_icmp .eq 17, 50, 0, 0), (36, .iload_n 2, 0, 0, 0), (37, .iconst 1, 0, 0, 0), (38, .if_icmp .eq 8, 46, 0, 0), (41, .iload_n 1, 0, 0, 0), (42, .iload_n 2, 0, 0, 0), (43, .if_icmp .ge 7, 50, 0, 0), (46, .iconst 1, 0, 0, 0), (47, .goto 4, 51, 0, 0), (50, .iconst 0, 0, 0, 0), (51, .ireturn, 0, 0, 0)]
/-- StackPolicyKernel.placeInOrder(I)I -/
def pg_t60 : List (Nat × mm_E) := [(0, .iconst 0, 0, 0, 0), (1, .istore_n 2, 0, 0, 0), (2, .iconst 1, 0, 0, 0), (3, .istore_n 3, 0, 0, 0), (4, .iload_n 3, 0, 0, 0), (5, .iconst 2, 0, 0, 0), (6, .aload_n 0, 0, 0, 0), (7, .getfield 33, 0, 4, 97), (10, .iadd, 0, 0, 0), (11, .if_icmp .ge 29, 40, 0, 0), (14, .aload_n 0, 0, 0, 0), (15, .iload_n 3, 0, 0, 0), (16, .invokevirtual 130, 57, 2, 284), (19, .ifCond .eq 15, 34, 0, 0), (22, .aload_n 0, 0, 0, 0), (23, .iload_n 3, 0, 0, 0), (24, .iload_n 1, 0, 0, 0), (25, .invokevirtual 186, 59, 3, 287), (28, .ifCond .eq 6, 34, 0, 0), (31, .iinc 2 1, 0, 0, 0), (34, .iinc 3 1, 0, 0, 0), (37, .goto (-33), 4, 0, 0), (40, .iload_n 2, 0, 0, 0), (41, .ireturn, 0, 0, 0)]
/-- StackPolicyKernel.firstInOrder()I -/
def pg_t61 : List (Nat × mm_E) := [(0, .iconst 0, 0, 0, 0), (1, .istore_n 1, 0, 0, 0), (2, .iconst 1, 0, 0, 0), (3, .istore_n 2, 0, 0, 0), (4, .iload_n 2, 0, 0, 0), (5, .iconst 2, 0, 0, 0), (6, .aload_n 0, 0, 0, 0), (7, .getfield 33, 0, 4, 97), (10, .iadd, 0, 0, 0), (11, .if_icmp .ge 32, 43, 0, 0), (14, .aload_n 0, 0, 0, 0), (15, .iload_n 2, 0, 0, 0), (16, .invokevirtual 130, 57, 2, 284), (19, .ifCond .eq 18, 37, 0, 0), (22, .iload_n 1, 0, 0, 0), (23, .ifCond .eq 12, 35, 0, 0), (26, .aload_n 0, 0, 0, 0), (27, .iload_n 2, 0, 0, 0), (28, .iload_n 1, 0, 0, 0), (29, .invokevirtual 186, 59, 3, 287), (32, .ifCond .eq 5, 37, 0, 0), (35, .iload_n 2, 0, 0, 0), (36, .istore_n 1, 0, 0, 0), (37, .iinc 2 1, 0, 0, 0), (40, .goto (-36), 4, 0, 0), (43, .iload_n 1, 0, 0, 0), (44, .ireturn, 0, 0, 0)]
/-- StackPolicyKernel.highestHeldCeiling()I -/
def pg_t62 : List (Nat × mm_E) := [(0, .iconst 0, 0, 0, 0), (1, .istore_n 1, 0, 0, 0), (2, .iconst 0, 0, 0, 0), (3, .istore_n 2, 0, 0, 0), (4, .iload_n 2, 0, 0, 0), (5, .aload_n 0, 0, 0, 0), (6, .getfield 33, 0, 4, 97), (9, .if_icmp .ge 27, 36, 0, 0), (12, .iload_n 1, 0, 0, 0), (13, .aload_n 0, 0, 0, 0), (14, .getfield 11, 0, 0, 93), (17, .iload_n 2, 0, 0, 0), (18, .aaload, 0, 0, 0), (19, .aload_n 0, 0, 0, 0), (20, .getfield 15, 0, 1, 94), (23, .invokevirtual 189, 18, 2, 303), (26, .invokestatic 71, 999, 0, 208), (29, .istore_n 1, 0, 0, 0), (30, .iinc 2 1, 0, 0, 0), (33, .goto (-29), 4, 0, 0), (36, .iload_n 1, 0, 0, 0), (37, .ireturn, 0, 0, 0)]
/-- StackPolicyKernel.makeTick()V -/
def pg_t63 : List (Nat × mm_E) := [(0, .aload_n 0, 0, 0, 0), (1, .invokevirtual 193, 61, 1, 281), (4, .istore_n 1, 0, 0, 0), (5, .aload_n 0, 0, 0, 0), (6, .iload_n 1, 0, 0, 0), (7, .invokevirtual 196, 64, 2, 293), (10, .istore_n 2, 0, 0, 0), (11, .iload_n 2, 0, 0, 0), (12, .iconst 1, 0, 0, 0), (13, .if_icmp .ne 13, 26, 0, 0), (16, .aload_n 0, 0, 0, 0), (17, .getfield 22, 0, 2, 95), (20, .invokevirtual 199, 26, 1, 316), (23, .goto 24, 47, 0, 0), (26, .iload_n 2, 0, 0, 0), (27, .ifCond .eq 20, 47, 0, 0), (30, .aload_n 0, 0, 0, 0), (31, .iload_n 2, 0, 0, 0), (32, .iconst 2, 0, 0, 0), (33, .isub, 0, 0, 0), (34, .invokevirtual 202, 65, 2, 320), (37, .iload_n 2, 0, 0, 0), (38, .iload_n 1, 0, 0, 0), (39, .if_icmp .eq 8, 47, 0, 0), (42, .aload_n 0, 0, 0, 0), (43, .iload_n 2, 0, 0, 0), (44, .invokevirtual 206, 66, 2, 335), (47, .aload_n 0, 0, 0, 0), (48, .getfield 29, 0, 3, 96), (51, .iload_n 2, 0, 0, 0), (52, .invokevirtual 209, 30, 2, 342), (55, .aload_n 0, 0, 0, 0), (56, .invokevirtual 212, 67, 1, 350), (59, .return_, 0, 0, 0)]
/-- StackPolicyKernel.chooseRunner(I)I -/
def pg_t64 : List (Nat × mm_E) := [(0, .iload_n 1, 0, 0, 0), (1, .ifCond .eq 8, 9, 0, 0), (4, .iload_n 1, 0, 0, 0), (5, .iconst 1, 0, 0, 0), (6, .if_icmp .ne 5, 11, 0, 0), (9, .iload_n 1, 0, 0, 0), (10, .ireturn, 0, 0, 0), (11, .aload_n 0, 0, 0, 0), (12, .getfield 11, 0, 0, 93), (15, .iload_n 1, 0, 0, 0), (16, .iconst 2, 0, 0, 0), (17, .isub, 0, 0, 0), (18, .aaload, 0, 0, 0), (19, .astore_n 2, 0, 0, 0), (20, .aload_n 2, 0, 0, 0), (21, .getfield 85, 3, 4, 149), (24, .invokevirtual 161, 6, 1, 296), (27, .ifCond .eq 5, 32, 0, 0), (30, .iload_n 1, 0, 0, 0), (31, .ireturn, 0, 0, 0), (32, .aload_n 0, 0, 0, 0), (33, .invokevirtual 139, 62, 1, 300), (36, .istore_n 3, 0, 0, 0), (37, .aload_n 2, 0, 0, 0), (38, .invokevirtual 67, 11, 1, 204), (41, .iload_n 3, 0, 0, 0), (42, .if_icmp .le 5, 47, 0, 0), (45, .iload_n 1, 0, 0, 0), (46, .ireturn, 0, 0, 0), (47, .iconst 0, 0, 0, 0), (48, .istore 4, 0, 0, 0), (50, .iload 4, 0, 0, 0), (52, .aload_n 0, 0, 0, 0), (53, .getfield 33, 0, 4, 97), (56, .if_icmp .ge 32, 88, 0, 0), (59, .aload_n 0, 0, 0, 0), (60, .getfield 11, 0, 0, 93), (63, .iload 4, 0, 0, 0), (65, .aaload, 0, 0, 0), (66, .aload_n 0, 0, 0, 0), (67, .getfield 15, 0, 1, 94), (70, .invokevirtual 189, 18, 2, 303), (73, .iload_n 3, 0, 0, 0), (74, .if_icmp .ne 8, 82, 0, 0), (77, .iconst 2, 0, 0, 0), (78, .iload 4, 0, 0, 0), (80, .iadd, 0, 0, 0), (81, .ireturn, 0, 0, 0), (82, .iinc 4 1, 0, 0, 0), (85, .goto (-35), 50, 0, 0), (88, .iload_n 1, 0, 0, 0), (89, .ireturn, 0, 0, 0)]
/-- StackPolicyKernel.runJob(I)V -/
def pg_t65 : List (Nat × mm_E) := [(0, .aload_n 0, 0, 0, 0), (1, .getfield 11, 0, 0, 93), (4, .iload_n 1, 0, 0, 0), (5, .aaload, 0, 0, 0), (6, .invokevirtual 215, 19, 1, 323), (9, .aload_n 0, 0, 0, 0), (10, .getfield 11, 0, 0, 93), (13, .iload_n 1, 0, 0, 0), (14, .aaload, 0, 0, 0), (15, .getfield 85, 3, 4, 149), (18, .invokevirtual 89, 5, 1, 250), (21, .ifCond .ne 44, 65, 0, 0), (24, .aload_n 0, 0, 0, 0), (25, .dup, 0, 0, 0), (26, .getfield 44, 0, 7, 100), (29, .iconst 1, 0, 0, 0), (30, .iadd, 0, 0, 0), (31, .putfield 44, 0, 7, 100), (34, .aload_n 0, 0, 0, 0), (35, .getfield 11, 0, 0, 93), (38, .iload_n 1, 0, 0, 0), (39, .aaload, 0, 0, 0), (40, .aload_n 0, 0, 0, 0), (41, .getfield 29, 0, 3, 96), (44, .getfield 98, 2, 1, 84), (47, .iconst 1, 0, 0, 0), (48, .iadd, 0, 0, 0), (49, .aload_n 0, 0, 0, 0), (50, .getfield 11, 0, 0, 93), (53, .iload_n 1, 0, 0, 0), (54, .aaload, 0, 0, 0), (55, .getfield 85, 3, 4, 149), (58, .getfield 101, 5, 3, 129), (61, .isub, 0, 0, 0), (62, .invokevirtual 216, 20, 2, 331), (65, .return_, 0, 0, 0)]
/-- StackPolicyKernel.noteBlocked(I)V -/
def pg_t66 : List (Nat × mm_E) := [(0, .iload_n 1, 0, 0, 0), (1, .iconst 2, 0, 0, 0), (2, .isub, 0, 0, 0), (3, .istore_n 2, 0, 0, 0), (4, .iconst 0, 0, 0, 0), (5, .istore_n 3, 0, 0, 0), (6, .iload_n 3, 0, 0, 0), (7, .aload_n 0, 0, 0, 0), (8, .getfield 33, 0, 4, 97), (11, .if_icmp .ge 57, 68, 0, 0), (14, .aload_n 0, 0, 0, 0), (15, .getfield 11, 0, 0, 93), (18, .iload_n 3, 0, 0, 0), (19, .aaload, 0, 0, 0), (20, .getfield 85, 3, 4, 149), (23, .invokevirtual 89, 5, 1, 250), (26, .ifCond .eq 36, 62, 0, 0), (29, .aload_n 0, 0, 0, 0), (30, .iconst 2, 0, 0, 0), (31, .iload_n 3, 0, 0, 0), (32, .iadd, 0, 0, 0), (33, .iload_n 1, 0, 0, 0), (34, .invokevirtual 186, 59, 3, 287), (37, .ifCond .eq 25, 62, 0, 0), (40, .aload_n 0, 0, 0, 0), (41, .getfield 11, 0, 0, 93), (44, .iload_n 3, 0, 0, 0), (45, .aaload, 0, 0, 0), (46, .getfield 85, 3, 4, 149), (49, .iload_n 2, 0, 0, 0), (50, .aload_n 0, 0, 0, 0), (51, .getfield 11, 0, 0, 93), (54, .iload_n 2, 0, 0, 0), (55, .aaload, 0, 0, 0), (56, .getfield 219, 3, 9, 157), (59, .invokevirtual 222, 8, 3, 338), (62, .iinc 3 1, 0, 0, 0), (65, .goto (-59), 6, 0, 0), (68, .return_, 0, 0, 0)]
/-- StackPolicyKernel.noteMisses()V -/
def pg_t67 : List (Nat × mm_E) := [(0, .iconst 0, 0, 0, 0), (1, .istore_n 1, 0, 0, 0), (2, .iload_n 1, 0, 0, 0), (3, .aload_n 0, 0, 0, 0), (4, .getfield 33, 0, 4, 97), (7, .if_icmp .ge 61, 68, 0, 0), (10, .aload_n 0, 0, 0, 0), (11, .getfield 11, 0, 0, 93), (14, .iload_n 1, 0, 0, 0), (15, .aaload, 0, 0, 0), (16, .getfield 85, 3, 4, 149), (19, .invokevirtual 89, 5, 1, 250), (22, .ifCond .eq 40, 62, 0, 0), (25, .aload_n 0, 0, 0, 0), (26, .getfield 11, 0, 0, 93), (29, .iload_n 1, 0, 0, 0), (30, .aaload, 0, 0, 0), (31, .getfield 85, 3, 4, 149), (34, .getfield 182, 5, 4, 131), (37, .aload_n 0, 0, 0, 0), (38, .getfield 29, 0, 3, 96), (41, .getfield 98, 2, 1, 84), (44, .if_icmp .ne 18, 62, 0, 0), (47, .aload_n 0, 0, 0, 0), (48, .getfield 11, 0, 0, 93), (51, .iload_n 1, 0, 0, 0), (52, .aaload, 0, 0, 0), (53, .dup, 0, 0, 0), (54, .getfield 145, 3, 6, 152), (57, .iconst 1, 0, 0, 0), (58, .iadd, 0, 0, 0), (59, .putfield 145, 3, 6, 152), (62, .iinc 1 1, 0, 0, 0), (65, .goto (-63), 2, 0, 0), (68, .return_, 0, 0, 0)]
/-- StackPolicyKernelModel.<init>()V -/
def pg_t68 : List (Nat × mm_E) := [(0, .aload_n 0, 0, 0, 0), (1, .invokespecial 1, 998, 0, 421), (4, .aload_n 0, 0, 0, 0), (5, .bipush 6, 0, 0, 0), (7, .newarray .int, 0, 0, 0), (9, .putfield 7, 6, 1, 423), (12, .aload_n 0, 0, 0, 0), (13, .bipush 6, 0, 0, 0), (15, .newarray .int, 0, 0, 0), (17, .putfield 13, 6, 2, 424), (20, .aload_n 0, 0, 0, 0), (21, .bipush 6, 0, 0, 0), (23, .newarray .int, 0, 0, 0), (25, .putfield 16, 6, 3, 425), (28, .aload_n 0, 0, 0, 0), (29, .bipush 6, 0, 0, 0), (31, .newarray .int, 0, 0, 0), (33, .putfield 19, 6, 4, 426), (36, .aload_n 0, 0, 0, 0), (37, .bipush 24, 0, 0, 0), (39, .newarray .int, 0, 0, 0), (41, .putfield 22, 6, 5, 427), (44, .aload_n 0, 0, 0, 0), (45, .bipush 24, 0, 0, 0), (47, .newarray .int, 0, 0, 0), (49, .putfield 25, 6, 6, 428), (52, .aload_n 0, 0, 0, 0), (53, .bipush 24, 0, 0, 0), (55, .newarray .int, 0, 0, 0), (57, .putfield 28, 6, 7, 429), (60, .aload_n 0, 0, 0, 0), (61, .bipush 8, 0, 0, 0), (63, .newarray .int, 0, 0, 0), (65, .putfield 31, 6, 15, 437), (68, .aload_n 0, 0, 0, 0), (69, .bipush 6, 0, 0, 0), (71, .newarray .int, 0, 0, 0), (73, .putfield 34, 6, 18, 440), (76, .aload_n 0, 0, 0, 0), (77, .bipush 6, 0, 0, 0), (79, .newarray .int, 0, 0, 0), (81, .putfield 37, 6, 19, 441), (84, .aload_n 0, 0, 0, 0), (85, .bipush 6, 0, 0, 0), (87, .newarray .int, 0, 0, 0), (89, .putfield 40, 6, 20, 442), (92, .aload_n 0, 0, 0, 0), (93, .bipush 6, 0, 0, 0), (95, .newarray .int, 0, 0, 0), (97, .putfield 43, 6, 21, 443), (100, .aload_n 0, 0, 0, 0), (101, .bipush 6, 0, 0, 0), (103, .newarray .int, 0, 0, 0), (105, .putfield 46, 6, 22, 444), (108, .aload_n 0, 0, 0, 0), (109, .bipush 6, 0, 0, 0), (111, .newarray .int, 0, 0, 0), (113, .putfield 49, 6, 23, 445), (116, .aload_n 0, 0, 0, 0), (117, .bipush 6, 0, 0, 0), (119, .newarray .int, 0, 0, 0), (121, .putfield 52, 6, 24, 446), (124, .aload_n 0, 0, 0, 0), (125, .sipush 360, 0, 0, 0), (128, .newarray .int, 0, 0, 0), (130, .putfield 55, 6, 25, 447), (133, .aload_n 0, 0, 0, 0), (134, .bipush 6, 0, 0, 0), (136, .newarray .int, 0, 0, 0), (138, .putfield 58, 6, 26, 448), (141, .aload_n 0, 0, 0, 0), (142, .bipush 6, 0, 0, 0), (144, .newarray .int, 0, 0, 0), (146, .putfield 61, 6, 27, 449), (149, .aload_n 0, 0, 0, 0), (150, .bipush 64, 0, 0, 0), (152, .newarray .int, 0, 0, 0), (154, .putfield 64, 6, 34, 456), (157, .return_, 0, 0, 0)]
/-- StackPolicyKernelModel.rising(IIII)Z -/
def pg_t69 : List (Nat × mm_E) := [(0, .iload_n 0, 0, 0, 0), (1, .iload_n 1, 0, 0, 0), (2, .if_icmp .gt 17, 19, 0, 0), (5, .iload_n 1, 0, 0, 0), (6, .iload_n 2, 0, 0, 0), (7, .if_icmp .gt 12, 19, 0, 0), (10, .iload_n 2, 0, 0, 0), (11, .iload_n 3, 0, 0, 0), (12, .if_icmp .gt 7, 19, 0, 0), (15, .iconst 1, 0, 0, 0), (16, .goto 4, 20, 0, 0), (19, .iconst 0, 0, 0, 0), (20, .ireturn, 0, 0, 0)]
/-- StackPolicyKernelModel.task(III)I -/
def pg_t70 : List (Nat × mm_E) := [(0, .aload_n 0, 0, 0, 0), (1, .getfield 67, 6, 8, 430), (4, .ifCond .ne 28, 32, 0, 0), (7, .aload_n 0, 0, 0, 0), (8, .getfield 71, 6, 0, 422), (11, .bipush 6, 0, 0, 0), (13, .if_icmp .eq 19, 32, 0, 0), (16, .iconst 1, 0, 0, 0), (17, .iload_n 3, 0, 0, 0), (18, .iload_n 2, 0, 0, 0), (19, .iload_n 1, 0, 0, 0), (20, .invokestatic 75, 69, 4, 496), (23, .ifCond .eq 9, 32, 0, 0), (26, .iload_n 1, 0, 0, 0), (27, .bipush 100, 0, 0, 0), (29, .if_icmp .le 5, 34, 0, 0), (32, .iconst (-1), 0, 0, 0), (33, .ireturn, 0, 0, 0), (34, .aload_n 0, 0, 0, 0), (35, .getfield 7, 6, 1, 423), (38, .aload_n 0, 0, 0, 0), (39, .getfield 71, 6, 0, 422), (42, .iload_n 1, 0, 0, 0), (43, .iastore, 0, 0, 0), (44, .aload_n 0, 0, 0, 0), (45, .getfield 13, 6, 2, 424), (48, .aload_n 0, 0, 0, 0), (49, .getfield 71, 6, 0, 422), (52, .iload_n 2, 0, 0, 0), (53, .iastore, 0, 0, 0), (54, .aload_n 0, 0, 0, 0), (55, .getfield 16, 6, 3, 425), (58, .aload_n 0, 0, 0, 0), (59, .getfield 71, 6, 0, 422), (62, .iload_n 3, 0, 0, 0), (63, .iastore, 0, 0, 0), (64, .aload_n 0, 0, 0, 0), (65, .dup, 0, 0, 0), (66, .getfield 71, 6, 0, 422), (69, .iconst 1, 0, 0, 0), (70, .iadd, 0, 0, 0), (71, .putfield 71, 6, 0, 422), (74, .aload_n 0, 0, 0, 0), (75, .getfield 71, 6, 0, 422), (78, .iconst 1, 0, 0, 0), (79, .isub, 0, 0, 0), (80, .ireturn, 0, 0, 0)]
/-- StackPolicyKernelModel.isTask(I)Z -/
def pg_t71 : List (Nat × mm_E) := [(0, .iload_n 1, 0, 0, 0), (1, .ifCond .lt 15, 16, 0, 0), (4, .iload_n 1, 0, 0, 0), (5, .aload_n 0, 0, 0, 0), (6, .getfield 71, 6, 0, 422), (9, .if_icmp .ge 7, 16, 0, 0), (12, .iconst 1, 0, 0, 0), (13, .goto 4, 17, 0, 0), (16, .iconst 0, 0, 0, 0), (17, .ireturn, 0, 0, 0)]
/-- StackPolicyKernelModel.section(IIII)Z -/
def pg_t72 : List (Nat × mm_E) := [(0, .aload_n 0, 0, 0, 0), (1, .getfield 67, 6, 8, 430), (4, .ifCond .ne 51, 55, 0, 0), (7, .aload_n 0, 0, 0, 0), (8, .iload_n 1, 0, 0, 0), (9, .invokevirtual 79, 71, 2, 503), (12, .ifCond .eq 43, 55, 0, 0), (15, .iload_n 2, 0, 0, 0), (16, .ifCond .lt 39, 55, 0, 0), (19, .iload_n 2, 0, 0, 0), (20, .iconst 3, 0, 0, 0), (21, .if_icmp .gt 34, 55, 0, 0), (24, .iload_n 3, 0, 0, 0), (25, .ifCond .lt 30, 55, 0, 0), (28, .iload_n 3, 0, 0, 0), (29, .iload 4, 0, 0, 0), (31, .if_icmp .ge 24, 55, 0, 0), (34, .iload 4, 0, 0, 0), (36, .aload_n 0, 0, 0, 0), (37, .getfield 16, 6, 3, 425), (40, .iload_n 1, 0, 0, 0), (41, .iaload, 0, 0, 0), (42, .if_icmp .gt 13, 55, 0, 0), (45, .aload_n 0, 0, 0, 0), (46, .getfield 19, 6, 4, 426), (49, .iload_n 1, 0, 0, 0), (50, .iaload, 0, 0, 0), (51, .iconst 4, 0, 0, 0), (52, .if_icmp .ne 5, 57, 0, 0), (55, .iconst 0, 0, 0, 0), (56, .ireturn, 0, 0, 0), (57, .iconst 4, 0, 0, 0), (58, .iload_n 1, 0, 0, 0), (59, .imul, 0, 0, 0), (60, .istore 5, 0, 0, 0), (62, .iload 5, 0, 0, 0), (64, .iconst 4, 0, 0, 0), (65, .iload_n 1, 0, 0, 0), (66, .imul, 0, 0, 0), (67, .aload_n 0, 0, 0, 0), (68, .getfield 19, 6, 4, 426), (71, .iload_n 1, 0, 0, 0), (72, .iaload, 0, 0, 0), (73, .iadd, 0, 0, 0), (74, .if_icmp .ge 115, 189, 0, 0), (77, .aload_n 0, 0, 0, 0), (78, .getfield 28, 6, 7, 429), (81, .iload 5, 0, 0, 0), (83, .iaload, 0, 0, 0), (84, .iload_n 3, 0, 0, 0), (85, .if_icmp .le 15, 100, 0, 0), (88, .iload 4, 0, 0, 0), (90, .aload_n 0, 0, 0, 0), (91, .getfield 25, 6, 6, 428), (94, .iload 5, 0, 0, 0), (96, .iaload, 0, 0, 0), (97, .if_icmp .gt 7, 104, 0, 0), (100, .iconst 1, 0, 0, 0), (101, .goto 4, 105, 0, 0), (104, .iconst 0, 0, 0, 0), (105, .istore 6, 0, 0, 0), (107, .aload_n 0, 0, 0, 0), (108, .getfield 25, 6, 6, 428), (111, .iload 5, 0, 0, 0), (113, .iaload, 0, 0, 0), (114, .iload_n 3, 0, 0, 0), (115, .iload 4, 0, 0, 0), (117, .aload_n 0, 0, 0, 0), (118, .getfield 28, 6, 7, 429), (121, .iload 5, 0, 0, 0), (123, .iaload, 0, 0, 0), (124, .invokestatic 75, 69, 4, 496), (127, .ifCond .ne 26, 153, 0, 0), (130, .iload_n 3, 0, 0, 0), (131, .aload_n 0, 0, 0, 0), (132, .getfield 25, 6, 6, 428), (135, .iload 5, 0, 0, 0), (137, .iaload, 0, 0, 0), (138, .aload_n 0, 0, 0, 0), (139, .getfield 28, 6, 7, 429), (142, .iload 5, 0, 0, 0), (144, .iaload, 0, 0, 0), (145, .iload 4, 0, 0, 0), (147, .invokestatic 75, 69, 4, 496), (150, .ifCond .eq 7, 157, 0, 0), (153, .iconst 1, 0, 0, 0), (154, .goto 4, 158, 0, 0), (157, .iconst 0, 0, 0, 0), (158, .istore 7, 0, 0, 0), (160, .iload 6, 0, 0, 0), (162, .ifCond .ne 21, 183, 0, 0), (165, .iload 7, 0, 0, 0), (167, .ifCond .eq 14, 181, 0, 0), (170, .aload_n 0, 0, 0, 0), (171, .getfield 22, 6, 5, 427), (174, .iload 5, 0, 0, 0), (176, .iaload, 0, 0, 0), (177, .iload_n 2, 0, 0, 0), (178, .if_icmp .ne 5, 183, 0, 0), (181, .iconst 0, 0, 0, 0), (182, .ireturn, 0, 0, 0), (183, .iinc 5 1, 0, 0, 0), (186, .goto (-124), 62, 0, 0), (189, .iconst 4, 0, 0, 0), (190, .iload_n 1, 0, 0, 0), (191, .imul, 0, 0, 0), (192, .aload_n 0, 0, 0, 0), (193, .getfield 19, 6, 4, 426), (196, .iload_n 1, 0, 0, 0), (197, .iaload, 0, 0, 0), (198, .iadd, 0, 0, 0), (199, .istore 5, 0, 0, 0), (201, .aload_n 0, 0, 0, 0), (202, .getfield 22, 6, 5, 427), (205, .iload 5, 0, 0, 0), (207, .iload_n 2, 0, 0, 0), (208, .iastore, 0, 0, 0), (209, .aload_n 0, 0, 0, 0), (210, .getfield 25, 6, 6, 428), (213, .iload 5, 0, 0, 0), (215, .iload_n 3, 0, 0, 0), (216, .iastore, 0, 0, 0), (217, .aload_n 0, 0, 0, 0), (218, .getfield 28, 6, 7, 429), (221, .iload 5, 0, 0, 0), (223, .iload 4, 0, 0, 0), (225, .iastore, 0, 0, 0), (226, .aload_n 0, 0, 0, 0), (227, .getfield 19, 6, 4, 426), (230, .iload_n 1, 0, 0, 0), (231, .dup2, 0, 0, 0), (232, .iaload, 0, 0, 0), (233, .iconst 1, 0, 0, 0), (234, .iadd, 0, 0, 0), (235, .iastore, 0, 0, 0), (236, .iconst 1, 0, 0, 0), (237, .ireturn, 0, 0, 0)]
/-- StackPolicyKernelModel.server(II)Z -/
def pg_t73 : List (Nat × mm_E) := [(0, .aload_n 0, 0, 0, 0), (1, .getfield 67, 6, 8, 430), (4, .ifCond .ne 19, 23, 0, 0), (7, .iload_n 1, 0, 0, 0), (8, .iconst 1, 0, 0, 0), (9, .if_icmp .lt 14, 23, 0, 0), (12, .iload_n 1, 0, 0, 0), (13, .iload_n 2, 0, 0, 0), (14, .if_icmp .gt 9, 23, 0, 0), (17, .iload_n 2, 0, 0, 0), (18, .bipush 100, 0, 0, 0), (20, .if_icmp .le 5, 25, 0, 0), (23, .iconst 0, 0, 0, 0), (24, .ireturn, 0, 0, 0), (25, .aload_n 0, 0, 0, 0), (26, .iload_n 1, 0, 0, 0), (27, .putfield 83, 6, 10, 432), (30, .aload_n 0, 0, 0, 0), (31, .iload_n 2, 0, 0, 0), (32, .putfield 86, 6, 11, 433), (35, .aload_n 0, 0, 0, 0), (36, .iload_n 1, 0, 0, 0), (37, .putfield 89, 6, 12, 434), (40, .iconst 1, 0, 0, 0), (41, .ireturn, 0, 0, 0)]
/-- StackPolicyKernelModel.start()Z -/
def pg_t74 : List (Nat × mm_E) := [(0, .aload_n 0, 0, 0, 0), (1, .getfield 67, 6, 8, 430), (4, .istore_n 1, 0, 0, 0), (5, .aload_n 0, 0, 0, 0), (6, .iconst 1, 0, 0, 0), (7, .putfield 67, 6, 8, 430), (10, .iload_n 1, 0, 0, 0), (11, .ifCond .ne 7, 18, 0, 0), (14, .iconst 1, 0, 0, 0), (15, .goto 4, 19, 0, 0), (18, .iconst 0, 0, 0, 0), (19, .ireturn, 0, 0, 0)]
/-- StackPolicyKernelModel.level(I)I -/
def pg_t75 : List (Nat × mm_E) := [(0, .bipush 101, 0, 0, 0), (2, .aload_n 0, 0, 0, 0), (3, .getfield 13, 6, 2, 424), (6, .iload_n 1, 0, 0, 0), (7, .iaload, 0, 0, 0), (8, .isub, 0, 0, 0), (9, .ireturn, 0, 0, 0)]
/-- StackPolicyKernelModel.ceiling(I)I -/
def pg_t76 : List (Nat × mm_E) := [(0, .iload_n 1, 0, 0, 0), (1, .ifCond .lt 8, 9, 0, 0), (4, .iload_n 1, 0, 0, 0), (5, .iconst 3, 0, 0, 0), (6, .if_icmp .le 5, 11, 0, 0), (9, .iconst (-1), 0, 0, 0), (10, .ireturn, 0, 0, 0), (11, .iconst 0, 0, 0, 0), (12, .istore_n 2, 0, 0, 0), (13, .iconst 0, 0, 0, 0), (14, .istore_n 3, 0, 0, 0), (15, .iload_n 3, 0, 0, 0), (16, .aload_n 0, 0, 0, 0), (17, .getfield 71, 6, 0, 422), (20, .if_icmp .ge 61, 81, 0, 0), (23, .iconst 4, 0, 0, 0), (24, .iload_n 3, 0, 0, 0), (25, .imul, 0, 0, 0), (26, .istore 4, 0, 0, 0), (28, .iload 4, 0, 0, 0), (30, .iconst 4, 0, 0, 0), (31, .iload_n 3, 0, 0, 0), (32, .imul, 0, 0, 0), (33, .aload_n 0, 0, 0, 0), (34, .getfield 19, 6, 4, 426), (37, .iload_n 3, 0, 0, 0), (38, .iaload, 0, 0, 0), (39, .iadd, 0, 0, 0), (40, .if_icmp .ge 35, 75, 0, 0), (43, .aload_n 0, 0, 0, 0), (44, .getfield 22, 6, 5, 427), (47, .iload 4, 0, 0, 0), (49, .iaload, 0, 0, 0), (50, .iload_n 1, 0, 0, 0), (51, .if_icmp .ne 18, 69, 0, 0), (54, .aload_n 0, 0, 0, 0), (55, .iload_n 3, 0, 0, 0), (56, .invokevirtual 92, 75, 2, 518), (59, .iload_n 2, 0, 0, 0), (60, .if_icmp .le 9, 69, 0, 0), (63, .aload_n 0, 0, 0, 0), (64, .iload_n 3, 0, 0, 0), (65, .invokevirtual 92, 75, 2, 518), (68, .istore_n 2, 0, 0, 0), (69, .iinc 4 1, 0, 0, 0), (72, .goto (-44), 28, 0, 0), (75, .iinc 3 1, 0, 0, 0), (78, .goto (-63), 15, 0, 0), (81, .iload_n 2, 0, 0, 0), (82, .ireturn, 0, 0, 0)]
/-- StackPolicyKernelModel.overhang(I)I -/
def pg_t77 : List (Nat × mm_E) := [(0, .iconst 0, 0, 0, 0), (1, .istore_n 2, 0, 0, 0), (2, .iconst 0, 0, 0, 0), (3, .istore_n 3, 0, 0, 0), (4, .iload_n 3, 0, 0, 0), (5, .aload_n 0, 0, 0, 0), (6, .getfield 71, 6, 0, 422), (9, .if_icmp .ge 120, 129, 0, 0), (12, .iconst 4, 0, 0, 0), (13, .iload_n 3, 0, 0, 0), (14, .imul, 0, 0, 0), (15, .istore 4, 0, 0, 0), (17, .iload 4, 0, 0, 0), (19, .iconst 4, 0, 0, 0), (20, .iload_n 3, 0, 0, 0), (21, .imul, 0, 0, 0), (22, .aload_n 0, 0, 0, 0), (23, .getfield 19, 6, 4, 426), (26, .iload_n 3, 0, 0, 0), (27, .iaload, 0, 0, 0), (28, .iadd, 0, 0, 0), (29, .if_icmp .ge 94, 123, 0, 0), (32, .aload_n 0, 0, 0, 0), (33, .getfield 13, 6, 2, 424), (36, .iload_n 3, 0, 0, 0), (37, .iaload, 0, 0, 0), (38, .aload_n 0, 0, 0, 0), (39, .getfield 13, 6, 2, 424), (42, .iload_n 1, 0, 0, 0), (43, .iaload, 0, 0, 0), (44, .if_icmp .le 26, 70, 0, 0), (47, .aload_n 0, 0, 0, 0), (48, .aload_n 0, 0, 0, 0), (49, .getfield 22, 6, 5, 427), (52, .iload 4, 0, 0, 0), (54, .iaload, 0, 0, 0), (55, .invokevirtual 96, 76, 2, 531), (58, .aload_n 0, 0, 0, 0), (59, .iload_n 1, 0, 0, 0), (60, .invokevirtual 92, 75, 2, 518), (63, .if_icmp .lt 7, 70, 0, 0), (66, .iconst 1, 0, 0, 0), (67, .goto 4, 71, 0, 0), (70, .iconst 0, 0, 0, 0), (71, .istore 5, 0, 0, 0), (73, .iload 5, 0, 0, 0), (75, .ifCond .eq 42, 117, 0, 0), (78, .aload_n 0, 0, 0, 0), (79, .getfield 28, 6, 7, 429), (82, .iload 4, 0, 0, 0), (84, .iaload, 0, 0, 0), (85, .aload_n 0, 0, 0, 0), (86, .getfield 25, 6, 6, 428), (89, .iload 4, 0, 0, 0), (91, .iaload, 0, 0, 0), (92, .isub, 0, 0, 0), (93, .iconst 1, 0, 0, 0), (94, .isub, 0, 0, 0), (95, .iload_n 2, 0, 0, 0), (96, .if_icmp .le 21, 117, 0, 0), (99, .aload_n 0, 0, 0, 0), (100, .getfield 28, 6, 7, 429), (103, .iload 4, 0, 0, 0), (105, .iaload, 0, 0, 0), (106, .aload_n 0, 0, 0, 0), (107, .getfield 25, 6, 6, 428), (110, .iload 4, 0, 0, 0), (112, .iaload, 0, 0, 0), (113, .isub, 0, 0, 0), (114, .iconst 1, 0, 0, 0), (115, .isub, 0, 0, 0), (116, .istore_n 2, 0, 0, 0), (117, .iinc 4 1, 0, 0, 0), (120, .goto (-103), 17, 0, 0), (123, .iinc 3 1, 0, 0, 0), (126, .goto (-122), 4, 0, 0), (129, .iload_n 2, 0, 0, 0), (130, .ireturn, 0, 0, 0)]
/-- StackPolicyKernelModel.passes(I)Z -/
def pg_t78 : List (Nat × mm_E) := [(0, .aload_n 0, 0, 0, 0), (1, .getfield 83, 6, 10, 432), (4, .ifCond .le 11, 15, 0, 0), (7, .aload_n 0, 0, 0, 0), (8, .getfield 86, 6, 11, 433), (11, .i2l, 0, 0, 0), (12, .goto 4, 16, 0, 0), (15, .lconst 1, 0, 0, 0), (16, .lstore_n 2, 0, 0, 0), (17, .iconst 0, 0, 0, 0), (18, .istore 4, 0, 0, 0), (20, .iload 4, 0, 0, 0), (22, .aload_n 0, 0, 0, 0), (23, .getfield 71, 6, 0, 422), (26, .if_icmp .ge 36, 62, 0, 0), (29, .aload_n 0, 0, 0, 0), (30, .getfield 13, 6, 2, 424), (33, .iload 4, 0, 0, 0), (35, .iaload, 0, 0, 0), (36, .aload_n 0, 0, 0, 0), (37, .getfield 13, 6, 2, 424), (40, .iload_n 1, 0, 0, 0), (41, .iaload, 0, 0, 0), (42, .if_icmp .gt 14, 56, 0, 0), (45, .lload_n 2, 0, 0, 0), (46, .aload_n 0, 0, 0, 0), (47, .getfield 13, 6, 2, 424), (50, .iload 4, 0, 0, 0), (52, .iaload, 0, 0, 0), (53, .i2l, 0, 0, 0), (54, .lmul, 0, 0, 0), (55, .lstore_n 2, 0, 0, 0), (56, .iinc 4 1, 0, 0, 0), (59, .goto (-39), 20, 0, 0), (62, .aload_n 0, 0, 0, 0), (63, .getfield 83, 6, 10, 432), (66, .ifCond .le 19, 85, 0, 0), (69, .lload_n 2, 0, 0, 0), (70, .aload_n 0, 0, 0, 0), (71, .getfield 86, 6, 11, 433), (74, .i2l, 0, 0, 0), (75, .ldiv, 0, 0, 0), (76, .aload_n 0, 0, 0, 0), (77, .getfield 83, 6, 10, 432), (80, .i2l, 0, 0, 0), (81, .lmul, 0, 0, 0), (82, .goto 4, 86, 0, 0), (85, .lconst 0, 0, 0, 0), (86, .lstore 4, 0, 0, 0), (88, .iconst 0, 0, 0, 0), (89, .istore 6, 0, 0, 0), (91, .iload 6, 0, 0, 0), (93, .aload_n 0, 0, 0, 0), (94, .getfield 71, 6, 0, 422), (97, .if_icmp .ge 49, 146, 0, 0), (100, .aload_n 0, 0, 0, 0), (101, .getfield 13, 6, 2, 424), (104, .iload 6, 0, 0, 0), (106, .iaload, 0, 0, 0), (107, .aload_n 0, 0, 0, 0), (108, .getfield 13, 6, 2, 424), (111, .iload_n 1, 0, 0, 0), (112, .iaload, 0, 0, 0), (113, .if_icmp .gt 27, 140, 0, 0), (116, .lload 4, 0, 0, 0), (118, .lload_n 2, 0, 0, 0), (119, .aload_n 0, 0, 0, 0), (120, .getfield 13, 6, 2, 424), (123, .iload 6, 0, 0, 0), (125, .iaload, 0, 0, 0), (126, .i2l, 0, 0, 0), (127, .ldiv, 0, 0, 0), (128, .aload_n 0, 0, 0, 0), (129, .getfield 16, 6, 3, 425), (132, .iload 6, 0, 0, 0), (134, .iaload, 0, 0, 0), (135, .i2l, 0, 0, 0), (136, .lmul, 0, 0, 0), (137, .ladd, 0, 0, 0), (138, .lstore 4, 0, 0, 0), (140, .iinc 6 1, 0, 0, 0), (143, .goto (-52), 91, 0, 0), (146, .aload_n 0, 0, 0, 0), (147, .iload_n 1, 0, 0, 0), (148, .invokevirtual 99, 77, 2, 528), (151, .istore 6, 0, 0, 0), (153, .lload 4, 0, 0, 0), (155, .lload_n 2, 0, 0, 0), (156, .aload_n 0, 0, 0, 0), (157, .getfield 13, 6, 2, 424), (160, .iload_n 1, 0, 0, 0), (161, .iaload, 0, 0, 0), (162, .i2l, 0, 0, 0), (163, .ldiv, 0, 0, 0), (164, .iload 6, 0, 0, 0), (166, .i2l, 0, 0, 0), (167, .lmul, 0, 0, 0), (168, .ladd, 0, 0, 0), (169, .lstore 4, 0, 0, 0), (171, .lload 4, 0, 0, 0), (173, .lload_n 2, 0, 0, 0), (174, .lcmp, 0, 0, 0), (175, .ifCond .gt 7, 182, 0, 0), (178, .iconst 1, 0, 0, 0), (179, .goto 4, 183, 0, 0), (182, .iconst 0, 0, 0, 0), (183, .ireturn, 0, 0, 0)]
/-- StackPolicyKernelModel.verdict()I -/
def pg_t79 : List (Nat × mm_E) := [(0, .iconst 0, 0, 0, 0), (1, .istore_n 1, 0, 0, 0), (2, .iload_n 1, 0, 0, 0), (3, .aload_n 0, 0, 0, 0), (4, .getfield 71, 6, 0, 422), (7, .if_icmp .ge 19, 26, 0, 0), (10, .aload_n 0, 0, 0, 0), (11, .iload_n 1, 0, 0, 0), (12, .invokevirtual 102, 78, 2, 525), (15, .ifCond .ne 5, 20, 0, 0), (18, .iload_n 1, 0, 0, 0), (19, .ireturn, 0, 0, 0), (20, .iinc 1 1, 0, 0, 0), (23, .goto (-21), 2, 0, 0), (26, .iconst (-1), 0, 0, 0), (27, .ireturn, 0, 0, 0)]
/-- StackPolicyKernelModel.release(II)I -/
def pg_t80 : List (Nat × mm_E) := [(0, .aload_n 0, 0, 0, 0), (1, .getfield 67, 6, 8, 430), (4, .ifCond .ne 5, 9, 0, 0), (7, .iconst (-1), 0, 0, 0), (8, .ireturn, 0, 0, 0), (9, .aload_n 0, 0, 0, 0), (10, .iload_n 1, 0, 0, 0), (11, .invokevirtual 79, 71, 2, 503), (14, .ifCond .eq 18, 32, 0, 0), (17, .iload_n 2, 0, 0, 0), (18, .iconst 1, 0, 0, 0), (19, .if_icmp .lt 13, 32, 0, 0), (22, .iload_n 2, 0, 0, 0), (23, .aload_n 0, 0, 0, 0), (24, .getfield 16, 6, 3, 425), (27, .iload_n 1, 0, 0, 0), (28, .iaload, 0, 0, 0), (29, .if_icmp .le 6, 35, 0, 0), (32, .bipush (-2), 0, 0, 0), (34, .ireturn, 0, 0, 0), (35, .aload_n 0, 0, 0, 0), (36, .getfield 34, 6, 18, 440), (39, .iload_n 1, 0, 0, 0), (40, .iaload, 0, 0, 0), (41, .iconst 1, 0, 0, 0), (42, .if_icmp .ne 6, 48, 0, 0), (45, .bipush (-3), 0, 0, 0), (47, .ireturn, 0, 0, 0), (48, .aload_n 0, 0, 0, 0), (49, .getfield 34, 6, 18, 440), (52, .iload_n 1, 0, 0, 0), (53, .iaload, 0, 0, 0), (54, .iconst 2, 0, 0, 0), (55, .if_icmp .ne 26, 81, 0, 0), (58, .aload_n 0, 0, 0, 0), (59, .getfield 105, 6, 9, 431), (62, .aload_n 0, 0, 0, 0), (63, .getfield 37, 6, 19, 441), (66, .iload_n 1, 0, 0, 0), (67, .iaload, 0, 0, 0), (68, .isub, 0, 0, 0), (69, .aload_n 0, 0, 0, 0), (70, .getfield 7, 6, 1, 423), (73, .iload_n 1, 0, 0, 0), (74, .iaload, 0, 0, 0), (75, .if_icmp .ge 6, 81, 0, 0), (78, .bipush (-4), 0, 0, 0), (80, .ireturn, 0, 0, 0), (81, .aload_n 0, 0, 0, 0), (82, .getfield 34, 6, 18, 440), (85, .iload_n 1, 0, 0, 0), (86, .iconst 1, 0, 0, 0), (87, .iastore, 0, 0, 0), (88, .aload_n 0, 0, 0, 0), (89, .getfield 37, 6, 19, 441), (92, .iload_n 1, 0, 0, 0), (93, .aload_n 0, 0, 0, 0), (94, .getfield 105, 6, 9, 431), (97, .iastore, 0, 0, 0), (98, .aload_n 0, 0, 0, 0), (99, .getfield 40, 6, 20, 442), (102, .iload_n 1, 0, 0, 0), (103, .iload_n 2, 0, 0, 0), (104, .iastore, 0, 0, 0), (105, .aload_n 0, 0, 0, 0), (106, .getfield 43, 6, 21, 443), (109, .iload_n 1, 0, 0, 0), (110, .iconst 0, 0, 0, 0), (111, .iastore, 0, 0, 0), (112, .aload_n 0, 0, 0, 0), (113, .getfield 46, 6, 22, 444), (116, .iload_n 1, 0, 0, 0), (117, .iconst 0, 0, 0, 0), (118, .iastore, 0, 0, 0), (119, .aload_n 0, 0, 0, 0), (120, .getfield 49, 6, 23, 445), (123, .iload_n 1, 0, 0, 0), (124, .iconst 0, 0, 0, 0), (125, .iastore, 0, 0, 0), (126, .aload_n 0, 0, 0, 0), (127, .getfield 52, 6, 24, 446), (130, .iload_n 1, 0, 0, 0), (131, .iconst 0, 0, 0, 0), (132, .iastore, 0, 0, 0), (133, .aload_n 0, 0, 0, 0), (134, .dup, 0, 0, 0), (135, .getfield 108, 6, 29, 451), (138, .iconst 1, 0, 0, 0), (139, .iadd, 0, 0, 0), (140, .putfield 108, 6, 29, 451), (143, .aload_n 0, 0, 0, 0), (144, .getfield 108, 6, 29, 451), (147, .ireturn, 0, 0, 0)]
/-- StackPolicyKernelModel.submit(I)Z -/
def pg_t81 : List (Nat × mm_E) := [(0, .aload_n 0, 0, 0, 0), (1, .getfield 67, 6, 8, 430), (4, .ifCond .eq 30, 34, 0, 0), (7, .aload_n 0, 0, 0, 0), (8, .getfield 83, 6, 10, 432), (11, .ifCond .eq 23, 34, 0, 0), (14, .iload_n 1, 0, 0, 0), (15, .iconst 1, 0, 0, 0), (16, .if_icmp .lt 18, 34, 0, 0), (19, .iload_n 1, 0, 0, 0), (20, .bipush 50, 0, 0, 0), (22, .if_icmp .gt 12, 34, 0, 0), (25, .aload_n 0, 0, 0, 0), (26, .getfield 111, 6, 14, 436), (29, .bipush 8, 0, 0, 0), (31, .if_icmp .ne 5, 36, 0, 0), (34, .iconst 0, 0, 0, 0), (35, .ireturn, 0, 0, 0), (36, .aload_n 0, 0, 0, 0), (37, .getfield 111, 6, 14, 436), (40, .ifCond .ne 50, 90, 0, 0), (43, .aload_n 0, 0, 0, 0), (44, .getfield 89, 6, 12, 434), (47, .aload_n 0, 0, 0, 0), (48, .getfield 86, 6, 11, 433), (51, .imul, 0, 0, 0), (52, .aload_n 0, 0, 0, 0), (53, .getfield 114, 6, 13, 435), (56, .aload_n 0, 0, 0, 0), (57, .getfield 105, 6, 9, 431), (60, .isub, 0, 0, 0), (61, .aload_n 0, 0, 0, 0), (62, .getfield 83, 6, 10, 432), (65, .imul, 0, 0, 0), (66, .if_icmp .lt 24, 90, 0, 0), (69, .aload_n 0, 0, 0, 0), (70, .aload_n 0, 0, 0, 0), (71, .getfield 105, 6, 9, 431), (74, .aload_n 0, 0, 0, 0), (75, .getfield 86, 6, 11, 433), (78, .iadd, 0, 0, 0), (79, .putfield 114, 6, 13, 435), (82, .aload_n 0, 0, 0, 0), (83, .aload_n 0, 0, 0, 0), (84, .getfield 83, 6, 10, 432), (87, .putfield 89, 6, 12, 434), (90, .aload_n 0, 0, 0, 0), (91, .getfield 31, 6, 15, 437), (94, .aload_n 0, 0, 0, 0), (95, .getfield 111, 6, 14, 436), (98, .iload_n 1, 0, 0, 0), (99, .iastore, 0, 0, 0), (100, .aload_n 0, 0, 0, 0), (101, .dup, 0, 0, 0), (102, .getfield 111, 6, 14, 436), (105, .iconst 1, 0, 0, 0), (106, .iadd, 0, 0, 0), (107, .putfield 111, 6, 14, 436), (110, .iconst 1, 0, 0, 0), (111, .ireturn, 0, 0, 0)]
/-- StackPolicyKernelModel.there(I)Z -/
def pg_t82 : List (Nat × mm_E) := [(0, .iload_n 1, 0, 0, 0), (1, .bipush 6, 0, 0, 0), (3, .if_icmp .ne 18, 21, 0, 0), (6, .aload_n 0, 0, 0, 0), (7, .getfield 111, 6, 14, 436), (10, .ifCond .le 7, 17, 0, 0), (13, .iconst 1, 0, 0, 0), (14, .goto 22, 36, 0, 0), (17, .iconst 0, 0, 0, 0), (18, .goto 18, 36, 0, 0), (21, .aload_n 0, 0, 0, 0), (22, .getfield 34, 6, 18, 440), (25, .iload_n 1, 0, 0, 0), (26, .iaload, 0, 0, 0), (27, .iconst 1, 0, 0, 0), (28, .if_icmp .ne 7, 35, 0, 0), (31, .iconst 1, 0, 0, 0), (32, .goto 4, 36, 0, 0), (35, .iconst 0, 0, 0, 0), (36, .ireturn, 0, 0, 0)]
/-- StackPolicyKernelModel.deadline(I)I -/
def pg_t83 : List (Nat × mm_E) := [(0, .iload_n 1, 0, 0, 0), (1, .bipush 6, 0, 0, 0), (3, .if_icmp .ne 10, 13, 0, 0), (6, .aload_n 0, 0, 0, 0), (7, .getfield 114, 6, 13, 435), (10, .goto 16, 26, 0, 0), (13, .aload_n 0, 0, 0, 0), (14, .getfield 37, 6, 19, 441), (17, .iload_n 1, 0, 0, 0), (18, .iaload, 0, 0, 0), (19, .aload_n 0, 0, 0, 0), (20, .getfield 13, 6, 2, 424), (23, .iload_n 1, 0, 0, 0), (24, .iaload, 0, 0, 0), (25, .iadd, 0, 0, 0), (26, .ireturn, 0, 0, 0)]
/-- StackPolicyKernelModel.earlier(II)Z -/
def pg_t84 : List (Nat × mm_E) := [(0, .aload_n 0, 0, 0, 0), (1, .iload_n 1, 0, 0, 0), (2, .invokevirtual 117, 83, 2, 571), (5, .istore_n 3, 0, 0, 0), (6, .aload_n 0, 0, 0, 0), (7, .iload_n 2, 0, 0, 0), (8, .invokevirtual 117, 83, 2, 571), (11, .istore 4, 0, 0, 0), (13, .iload_n 3, 0, 0, 0), (14, .iload 4, 0, 0, 0), (16, .if_icmp .lt 14, 30, 0, 0), (19, .iload_n 3, 0, 0, 0), (20, .iload 4, 0, 0, 0), (22, .if_icmp .ne 12, 34, 0, 0), (25, .iload_n 1, 0, 0, 0), (26, .iload_n 2, 0, 0, 0), (27, .if_icmp .ge 7, 34, 0, 0), (30, .iconst 1, 0, 0, 0), (31, .goto 4, 35, 0, 0), (34, .iconst 0, 0, 0, 0), (35, .ireturn, 0, 0, 0)]
/-- StackPolicyKernelModel.inOrder(I)I -/
def pg_t85 : List (Nat × mm_E) := [(0, .iconst 0, 0, 0, 0), (1, .istore_n 2, 0, 0, 0), (2, .iload_n 2, 0, 0, 0), (3, .bipush 6, 0, 0, 0), (5, .if_icmp .gt 64, 69, 0, 0), (8, .iconst 0, 0, 0, 0), (9, .istore_n 3, 0, 0, 0), (10, .iconst 0, 0, 0, 0), (11, .istore 4, 0, 0, 0), (13, .iload 4, 0, 0, 0), (15, .bipush 6, 0, 0, 0), (17, .if_icmp .gt 31, 48, 0, 0), (20, .aload_n 0, 0, 0, 0), (21, .iload 4, 0, 0, 0), (23, .invokevirtual 120, 82, 2, 565), (26, .ifCond .eq 16, 42, 0, 0), (29, .aload_n 0, 0, 0, 0), (30, .iload 4, 0, 0, 0), (32, .iload_n 2, 0, 0, 0), (33, .invokevirtual 123, 84, 3, 568), (36, .ifCond .eq 6, 42, 0, 0), (39, .iinc 3 1, 0, 0, 0), (42, .iinc 4 1, 0, 0, 0), (45, .goto (-32), 13, 0, 0), (48, .aload_n 0, 0, 0, 0), (49, .iload_n 2, 0, 0, 0), (50, .invokevirtual 120, 82, 2, 565), (53, .ifCond .eq 10, 63, 0, 0), (56, .iload_n 3, 0, 0, 0), (57, .iload_n 1, 0, 0, 0), (58, .if_icmp .ne 5, 63, 0, 0), (61, .iload_n 2, 0, 0, 0), (62, .ireturn, 0, 0, 0), (63, .iinc 2 1, 0, 0, 0), (66, .goto (-64), 2, 0, 0), (69, .iconst (-1), 0, 0, 0), (70, .ireturn, 0, 0, 0)]
/-- StackPolicyKernelModel.holds(II)Z -/
def pg_t86 : List (Nat × mm_E) := [(0, .aload_n 0, 0, 0, 0), (1, .getfield 34, 6, 18, 440), (4, .iload_n 1, 0, 0, 0), (5, .iaload, 0, 0, 0), (6, .iconst 1, 0, 0, 0), (7, .if_icmp .eq 5, 12, 0, 0), (10, .iconst 0, 0, 0, 0), (11, .ireturn, 0, 0, 0), (12, .iconst 4, 0, 0, 0), (13, .iload_n 1, 0, 0, 0), (14, .imul, 0, 0, 0), (15, .istore_n 3, 0, 0, 0), (16, .iload_n 3, 0, 0, 0), (17, .iconst 4, 0, 0, 0), (18, .iload_n 1, 0, 0, 0), (19, .imul, 0, 0, 0), (20, .aload_n 0, 0, 0, 0), (21, .getfield 19, 6, 4, 426), (24, .iload_n 1, 0, 0, 0), (25, .iaload, 0, 0, 0), (26, .iadd, 0, 0, 0), (27, .if_icmp .ge 51, 78, 0, 0), (30, .aload_n 0, 0, 0, 0), (31, .getfield 22, 6, 5, 427), (34, .iload_n 3, 0, 0, 0), (35, .iaload, 0, 0, 0), (36, .iload_n 2, 0, 0, 0), (37, .if_icmp .ne 35, 72, 0, 0), (40, .aload_n 0, 0, 0, 0), (41, .getfield 25, 6, 6, 428), (44, .iload_n 3, 0, 0, 0), (45, .iaload, 0, 0, 0), (46, .aload_n 0, 0, 0, 0), (47, .getfield 43, 6, 21, 443), (50, .iload_n 1, 0, 0, 0), (51, .iaload, 0, 0, 0), (52, .if_icmp .ge 20, 72, 0, 0), (55, .aload_n 0, 0, 0, 0), (56, .getfield 43, 6, 21, 443), (59, .iload_n 1, 0, 0, 0), (60, .iaload, 0, 0, 0), (61, .aload_n 0, 0, 0, 0), (62, .getfield 28, 6, 7, 429), (65, .iload_n 3, 0, 0, 0), (66, .iaload, 0, 0, 0), (67, .if_icmp .ge 5, 72, 0, 0), (70, .iconst 1, 0, 0, 0), (71, .ireturn, 0, 0, 0), (72, .iinc 3 1, 0, 0, 0), (75, .goto (-59), 16, 0, 0), (78, .iconst 0, 0, 0, 0), (79, .ireturn, 0, 0, 0)]
/-- StackPolicyKernelModel.holdsAny(I)Z -/
def pg_t87 : List (Nat × mm_E) := [(0, .aload_n 0, 0, 0, 0), (1, .iload_n 1, 0, 0, 0), (2, .iconst 0, 0, 0, 0), (3, .invokevirtual 127, 86, 3, 544), (6, .ifCond .ne 30, 36, 0, 0), (9, .aload_n 0, 0, 0, 0), (10, .iload_n 1, 0, 0, 0), (11, .iconst 1, 0, 0, 0), (12, .invokevirtual 127, 86, 3, 544), (15, .ifCond .ne 21, 36, 0, 0), (18, .aload_n 0, 0, 0, 0), (19, .iload_n 1, 0, 0, 0), (20, .iconst 2, 0, 0, 0), (21, .invokevirtual 127, 86, 3, 544), (24, .ifCond .ne 12, 36, 0, 0), (27, .aload_n 0, 0, 0, 0), (28, .iload_n 1, 0, 0, 0), (29, .iconst 3, 0, 0, 0), (30, .invokevirtual 127, 86, 3, 544), (33, .ifCond .eq 7, 40, 0, 0), (36, .iconst 1, 0, 0, 0), (37, .goto 4, 41, 0, 0), (40, .iconst 0, 0, 0, 0), (41, .ireturn, 0, 0, 0)]
/-- StackPolicyKernelModel.holder(I)I -/
def pg_t88 : List (Nat × mm_E) := [(0, .iload_n 1, 0, 0, 0), (1, .ifCond .lt 8, 9, 0, 0), (4, .iload_n 1, 0, 0, 0), (5, .iconst 3, 0, 0, 0), (6, .if_icmp .le 5, 11, 0, 0), (9, .iconst (-1), 0, 0, 0), (10, .ireturn, 0, 0, 0), (11, .iconst 0, 0, 0, 0), (12, .istore_n 2, 0, 0, 0), (13, .iload_n 2, 0, 0, 0), (14, .aload_n 0, 0, 0, 0), (15, .getfield 71, 6, 0, 422), (18, .if_icmp .ge 20, 38, 0, 0), (21, .aload_n 0, 0, 0, 0), (22, .iload_n 2, 0, 0, 0), (23, .iload_n 1, 0, 0, 0), (24, .invokevirtual 127, 86, 3, 544), (27, .ifCond .eq 5, 32, 0, 0), (30, .iload_n 2, 0, 0, 0), (31, .ireturn, 0, 0, 0), (32, .iinc 2 1, 0, 0, 0), (35, .goto (-22), 13, 0, 0), (38, .iconst (-1), 0, 0, 0), (39, .ireturn, 0, 0, 0)]
/-- StackPolicyKernelModel.systemCeiling()I -/
def pg_t89 : List (Nat × mm_E) := [(0, .iconst 0, 0, 0, 0), (1, .istore_n 1, 0, 0, 0), (2, .iconst 0, 0, 0, 0), (3, .istore_n 2, 0, 0, 0), (4, .iload_n 2, 0, 0, 0), (5, .iconst 4, 0, 0, 0), (6, .if_icmp .ge 31, 37, 0, 0), (9, .aload_n 0, 0, 0, 0), (10, .iload_n 2, 0, 0, 0), (11, .invokevirtual 96, 76, 2, 531), (14, .istore_n 3, 0, 0, 0), (15, .aload_n 0, 0, 0, 0), (16, .iload_n 2, 0, 0, 0), (17, .invokevirtual 130, 88, 2, 551), (20, .iconst (-1), 0, 0, 0), (21, .if_icmp .eq 10, 31, 0, 0), (24, .iload_n 3, 0, 0, 0), (25, .iload_n 1, 0, 0, 0), (26, .if_icmp .le 5, 31, 0, 0), (29, .iload_n 3, 0, 0, 0), (30, .istore_n 1, 0, 0, 0), (31, .iinc 2 1, 0, 0, 0), (34, .goto (-30), 4, 0, 0), (37, .iload_n 1, 0, 0, 0), (38, .ireturn, 0, 0, 0)]
/-- StackPolicyKernelModel.choice()I -/
def pg_t90 : List (Nat × mm_E) := [(0, .aload_n 0, 0, 0, 0), (1, .iconst 0, 0, 0, 0), (2, .invokevirtual 133, 85, 2, 562), (5, .istore_n 1, 0, 0, 0), (6, .iload_n 1, 0, 0, 0), (7, .ifCond .lt 18, 25, 0, 0), (10, .iload_n 1, 0, 0, 0), (11, .bipush 6, 0, 0, 0), (13, .if_icmp .eq 12, 25, 0, 0), (16, .aload_n 0, 0, 0, 0), (17, .getfield 43, 6, 21, 443), (20, .iload_n 1, 0, 0, 0), (21, .iaload, 0, 0, 0), (22, .ifCond .le 5, 27, 0, 0), (25, .iload_n 1, 0, 0, 0), (26, .ireturn, 0, 0, 0), (27, .aload_n 0, 0, 0, 0), (28, .invokevirtual 136, 89, 1, 574), (31, .istore_n 2, 0, 0, 0), (32, .aload_n 0, 0, 0, 0), (33, .iload_n 1, 0, 0, 0), (34, .invokevirtual 92, 75, 2, 518), (37, .iload_n 2, 0, 0, 0), (38, .if_icmp .le 5, 43, 0, 0), (41, .iload_n 1, 0, 0, 0), (42, .ireturn, 0, 0, 0), (43, .iconst 0, 0, 0, 0), (44, .istore_n 3, 0, 0, 0), (45, .iload_n 3, 0, 0, 0), (46, .iconst 4, 0, 0, 0), (47, .if_icmp .ge 37, 84, 0, 0), (50, .aload_n 0, 0, 0, 0), (51, .iload_n 3, 0, 0, 0), (52, .invokevirtual 96, 76, 2, 531), (55, .istore 4, 0, 0, 0), (57, .iload 4, 0, 0, 0), (59, .iload_n 2, 0, 0, 0), (60, .if_icmp .ne 18, 78, 0, 0), (63, .aload_n 0, 0, 0, 0), (64, .iload_n 3, 0, 0, 0), (65, .invokevirtual 130, 88, 2, 551), (68, .iconst (-1), 0, 0, 0), (69, .if_icmp .eq 9, 78, 0, 0), (72, .aload_n 0, 0, 0, 0), (73, .iload_n 3, 0, 0, 0), (74, .invokevirtual 130, 88, 2, 551), (77, .ireturn, 0, 0, 0), (78, .iinc 3 1, 0, 0, 0), (81, .goto (-36), 45, 0, 0), (84, .iconst (-1), 0, 0, 0), (85, .ireturn, 0, 0, 0)]
/-- StackPolicyKernelModel.serve()I -/
def pg_t91 : List (Nat × mm_E) := [(0, .aload_n 0, 0, 0, 0), (1, .getfield 31, 6, 15, 437), (4, .iconst 0, 0, 0, 0), (5, .dup2, 0, 0, 0), (6, .iaload, 0, 0, 0), (7, .iconst 1, 0, 0, 0), (8, .isub, 0, 0, 0), (9, .iastore, 0, 0, 0), (10, .aload_n 0, 0, 0, 0), (11, .dup, 0, 0, 0), (12, .getfield 89, 6, 12, 434), (15, .iconst 1, 0, 0, 0), (16, .isub, 0, 0, 0), (17, .putfield 89, 6, 12, 434), (20, .iconst 0, 0, 0, 0), (21, .istore_n 1, 0, 0, 0), (22, .aload_n 0, 0, 0, 0), (23, .getfield 31, 6, 15, 437), (26, .iconst 0, 0, 0, 0), (27, .iaload, 0, 0, 0), (28, .ifCond .ne 55, 83, 0, 0), (31, .iconst 1, 0, 0, 0), (32, .istore_n 2, 0, 0, 0), (33, .iload_n 2, 0, 0, 0), (34, .aload_n 0, 0, 0, 0), (35, .getfield 111, 6, 14, 436), (38, .if_icmp .ge 23, 61, 0, 0), (41, .aload_n 0, 0, 0, 0), (42, .getfield 31, 6, 15, 437), (45, .iload_n 2, 0, 0, 0), (46, .iconst 1, 0, 0, 0), (47, .isub, 0, 0, 0), (48, .aload_n 0, 0, 0, 0), (49, .getfield 31, 6, 15, 437), (52, .iload_n 2, 0, 0, 0), (53, .iaload, 0, 0, 0), (54, .iastore, 0, 0, 0), (55, .iinc 2 1, 0, 0, 0), (58, .goto (-25), 33, 0, 0), (61, .aload_n 0, 0, 0, 0), (62, .dup, 0, 0, 0), (63, .getfield 111, 6, 14, 436), (66, .iconst 1, 0, 0, 0), (67, .isub, 0, 0, 0), (68, .putfield 111, 6, 14, 436), (71, .aload_n 0, 0, 0, 0), (72, .dup, 0, 0, 0), (73, .getfield 140, 6, 17, 439), (76, .iconst 1, 0, 0, 0), (77, .iadd, 0, 0, 0), (78, .putfield 140, 6, 17, 439), (81, .iconst 1, 0, 0, 0), (82, .istore_n 1, 0, 0, 0), (83, .aload_n 0, 0, 0, 0), (84, .getfield 89, 6, 12, 434), (87, .ifCond .ne 34, 121, 0, 0), (90, .aload_n 0, 0, 0, 0), (91, .aload_n 0, 0, 0, 0), (92, .getfield 83, 6, 10, 432), (95, .putfield 89, 6, 12, 434), (98, .aload_n 0, 0, 0, 0), (99, .aload_n 0, 0, 0, 0), (100, .getfield 114, 6, 13, 435), (103, .aload_n 0, 0, 0, 0), (104, .getfield 86, 6, 11, 433), (107, .iadd, 0, 0, 0), (108, .putfield 114, 6, 13, 435), (111, .aload_n 0, 0, 0, 0), (112, .dup, 0, 0, 0), (113, .getfield 143, 6, 16, 438), (116, .iconst 1, 0, 0, 0), (117, .iadd, 0, 0, 0), (118, .putfield 143, 6, 16, 438), (121, .iload_n 1, 0, 0, 0), (122, .ireturn, 0, 0, 0)]
/-- StackPolicyKernelModel.stop(II)V -/
def pg_t92 : List (Nat × mm_E) := [(0, .aload_n 0, 0, 0, 0), (1, .getfield 46, 6, 22, 444), (4, .iload_n 1, 0, 0, 0), (5, .dup2, 0, 0, 0), (6, .iaload, 0, 0, 0), (7, .iconst 1, 0, 0, 0), (8, .iadd, 0, 0, 0), (9, .iastore, 0, 0, 0), (10, .iload_n 2, 0, 0, 0), (11, .ifCond .ne 4, 15, 0, 0), (14, .return_, 0, 0, 0), (15, .iconst 0, 0, 0, 0), (16, .istore_n 3, 0, 0, 0), (17, .iload_n 3, 0, 0, 0), (18, .aload_n 0, 0, 0, 0), (19, .getfield 52, 6, 24, 446), (22, .iload_n 1, 0, 0, 0), (23, .iaload, 0, 0, 0), (24, .if_icmp .ge 25, 49, 0, 0), (27, .aload_n 0, 0, 0, 0), (28, .getfield 55, 6, 25, 447), (31, .bipush 60, 0, 0, 0), (33, .iload_n 1, 0, 0, 0), (34, .imul, 0, 0, 0), (35, .iload_n 3, 0, 0, 0), (36, .iadd, 0, 0, 0), (37, .iaload, 0, 0, 0), (38, .iload_n 2, 0, 0, 0), (39, .if_icmp .ne 4, 43, 0, 0), (42, .return_, 0, 0, 0), (43, .iinc 3 1, 0, 0, 0), (46, .goto (-29), 17, 0, 0), (49, .aload_n 0, 0, 0, 0), (50, .getfield 52, 6, 24, 446), (53, .iload_n 1, 0, 0, 0), (54, .iaload, 0, 0, 0), (55, .bipush 60, 0, 0, 0), (57, .if_icmp .ne 4, 61, 0, 0), (60, .return_, 0, 0, 0), (61, .aload_n 0, 0, 0, 0), (62, .getfield 55, 6, 25, 447), (65, .bipush 60, 0, 0, 0), (67, .iload_n 1, 0, 0, 0), (68, .imul, 0, 0, 0), (69, .aload_n 0, 0, 0, 0), (70, .getfield 52, 6, 24, 446), (73, .iload_n 1, 0, 0, 0), (74, .iaload, 0, 0, 0), (75, .iadd, 0, 0, 0), (76, .iload_n 2, 0, 0, 0), (77, .iastore, 0, 0, 0), (78, .aload_n 0, 0, 0, 0), (79, .getfield 52, 6, 24, 446), (82, .iload_n 1, 0, 0, 0), (83, .dup2, 0, 0, 0), (84, .iaload, 0, 0, 0), (85, .iconst 1, 0, 0, 0), (86, .iadd, 0, 0, 0), (87, .iastore, 0, 0, 0), (88, .return_, 0, 0, 0)]
/-- StackPolicyKernelModel.work(I)I -/
def pg_t93 : List (Nat × mm_E) := [(0, .aload_n 0, 0, 0, 0), (1, .iload_n 1, 0, 0, 0), (2, .invokevirtual 146, 87, 2, 581), (5, .istore_n 2, 0, 0, 0), (6, .aload_n 0, 0, 0, 0), (7, .getfield 43, 6, 21, 443), (10, .iload_n 1, 0, 0, 0), (11, .dup2, 0, 0, 0), (12, .iaload, 0, 0, 0), (13, .iconst 1, 0, 0, 0), (14, .iadd, 0, 0, 0), (15, .iastore, 0, 0, 0), (16, .aload_n 0, 0, 0, 0), (17, .getfield 43, 6, 21, 443), (20, .iload_n 1, 0, 0, 0), (21, .iaload, 0, 0, 0), (22, .aload_n 0, 0, 0, 0), (23, .getfield 40, 6, 20, 442), (26, .iload_n 1, 0, 0, 0), (27, .iaload, 0, 0, 0), (28, .if_icmp .ne 7, 35, 0, 0), (31, .iconst 1, 0, 0, 0), (32, .goto 4, 36, 0, 0), (35, .iconst 0, 0, 0, 0), (36, .istore_n 3, 0, 0, 0), (37, .iload_n 3, 0, 0, 0), (38, .ifCond .eq 10, 48, 0, 0), (41, .aload_n 0, 0, 0, 0), (42, .getfield 34, 6, 18, 440), (45, .iload_n 1, 0, 0, 0), (46, .iconst 2, 0, 0, 0), (47, .iastore, 0, 0, 0), (48, .aload_n 0, 0, 0, 0), (49, .iload_n 1, 0, 0, 0), (50, .invokevirtual 146, 87, 2, 581), (53, .istore 4, 0, 0, 0), (55, .iload_n 2, 0, 0, 0), (56, .ifCond .ne 28, 84, 0, 0), (59, .iload 4, 0, 0, 0), (61, .ifCond .eq 23, 84, 0, 0), (64, .aload_n 0, 0, 0, 0), (65, .dup, 0, 0, 0), (66, .getfield 149, 6, 28, 450), (69, .iconst 1, 0, 0, 0), (70, .iadd, 0, 0, 0), (71, .putfield 149, 6, 28, 450), (74, .aload_n 0, 0, 0, 0), (75, .getfield 49, 6, 23, 445), (78, .iload_n 1, 0, 0, 0), (79, .aload_n 0, 0, 0, 0), (80, .getfield 149, 6, 28, 450), (83, .iastore, 0, 0, 0), (84, .iconst 0, 0, 0, 0), (85, .istore 5, 0, 0, 0), (87, .iload 5, 0, 0, 0), (89, .aload_n 0, 0, 0, 0), (90, .getfield 71, 6, 0, 422), (93, .if_icmp .ge 48, 141, 0, 0), (96, .iload 5, 0, 0, 0), (98, .iload_n 1, 0, 0, 0), (99, .if_icmp .eq 36, 135, 0, 0), (102, .aload_n 0, 0, 0, 0), (103, .getfield 34, 6, 18, 440), (106, .iload 5, 0, 0, 0), (108, .iaload, 0, 0, 0), (109, .iconst 1, 0, 0, 0), (110, .if_icmp .ne 25, 135, 0, 0), (113, .aload_n 0, 0, 0, 0), (114, .iload 5, 0, 0, 0), (116, .iload_n 1, 0, 0, 0), (117, .invokevirtual 123, 84, 3, 568), (120, .ifCond .eq 15, 135, 0, 0), (123, .aload_n 0, 0, 0, 0), (124, .iload 5, 0, 0, 0), (126, .aload_n 0, 0, 0, 0), (127, .getfield 49, 6, 23, 445), (130, .iload_n 1, 0, 0, 0), (131, .iaload, 0, 0, 0), (132, .invokevirtual 152, 92, 3, 584), (135, .iinc 5 1, 0, 0, 0), (138, .goto (-51), 87, 0, 0), (141, .iload 4, 0, 0, 0), (143, .ifCond .ne 10, 153, 0, 0), (146, .aload_n 0, 0, 0, 0), (147, .getfield 49, 6, 23, 445), (150, .iload_n 1, 0, 0, 0), (151, .iconst 0, 0, 0, 0), (152, .iastore, 0, 0, 0), (153, .iload_n 3, 0, 0, 0), (154, .ifCond .ne 5, 159, 0, 0), (157, .iconst 0, 0, 0, 0), (158, .ireturn, 0, 0, 0), (159, .aload_n 0, 0, 0, 0), (160, .dup, 0, 0, 0), (161, .getfield 156, 6, 30, 452), (164, .iconst 1, 0, 0, 0), (165, .iadd, 0, 0, 0), (166, .putfield 156, 6, 30, 452), (169, .aload_n 0, 0, 0, 0), (170, .getfield 105, 6, 9, 431), (173, .iconst 1, 0, 0, 0), (174, .iadd, 0, 0, 0), (175, .aload_n 0, 0, 0, 0), (176, .getfield 37, 6, 19, 441), (179, .iload_n 1, 0, 0, 0), (180, .iaload, 0, 0, 0), (181, .isub, 0, 0, 0), (182, .istore 5, 0, 0, 0), (184, .iload 5, 0, 0, 0), (186, .aload_n 0, 0, 0, 0), (187, .getfield 61, 6, 27, 449), (190, .iload_n 1, 0, 0, 0), (191, .iaload, 0, 0, 0), (192, .if_icmp .le 11, 203, 0, 0), (195, .aload_n 0, 0, 0, 0), (196, .getfield 61, 6, 27, 449), (199, .iload_n 1, 0, 0, 0), (200, .iload 5, 0, 0, 0), (202, .iastore, 0, 0, 0), (203, .iconst 1, 0, 0, 0), (204, .ireturn, 0, 0, 0)]
/-- StackPolicyKernelModel.tick()I -/
def pg_t94 : List (Nat × mm_E) := [(0, .aload_n 0, 0, 0, 0), (1, .invokevirtual 159, 90, 1, 559), (4, .istore_n 1, 0, 0, 0), (5, .iload_n 1, 0, 0, 0), (6, .ifCond .ge 7, 13, 0, 0), (9, .iconst 0, 0, 0, 0), (10, .goto 21, 31, 0, 0), (13, .iload_n 1, 0, 0, 0), (14, .bipush 6, 0, 0, 0), (16, .if_icmp .ne 10, 26, 0, 0), (19, .aload_n 0, 0, 0, 0), (20, .invokevirtual 162, 91, 1, 575), (23, .goto 8, 31, 0, 0), (26, .aload_n 0, 0, 0, 0), (27, .iload_n 1, 0, 0, 0), (28, .invokevirtual 165, 93, 2, 578), (31, .istore_n 2, 0, 0, 0), (32, .iload_n 1, 0, 0, 0), (33, .ifCond .ge 7, 40, 0, 0), (36, .iconst 0, 0, 0, 0), (37, .goto 16, 53, 0, 0), (40, .iload_n 1, 0, 0, 0), (41, .bipush 6, 0, 0, 0), (43, .if_icmp .ne 7, 50, 0, 0), (46, .iconst 1, 0, 0, 0), (47, .goto 6, 53, 0, 0), (50, .iconst 2, 0, 0, 0), (51, .iload_n 1, 0, 0, 0), (52, .iadd, 0, 0, 0), (53, .istore_n 3, 0, 0, 0), (54, .iload_n 1, 0, 0, 0), (55, .ifCond .ge 13, 68, 0, 0), (58, .aload_n 0, 0, 0, 0), (59, .dup, 0, 0, 0), (60, .getfield 168, 6, 31, 453), (63, .iconst 1, 0, 0, 0), (64, .iadd, 0, 0, 0), (65, .putfield 168, 6, 31, 453), (68, .aload_n 0, 0, 0, 0), (69, .getfield 171, 6, 33, 455), (72, .ifCond .le 31, 103, 0, 0), (75, .aload_n 0, 0, 0, 0), (76, .getfield 64, 6, 34, 456), (79, .aload_n 0, 0, 0, 0), (80, .getfield 171, 6, 33, 455), (83, .iconst 1, 0, 0, 0), (84, .isub, 0, 0, 0), (85, .bipush 63, 0, 0, 0), (87, .iand, 0, 0, 0), (88, .iaload, 0, 0, 0), (89, .iload_n 3, 0, 0, 0), (90, .if_icmp .eq 13, 103, 0, 0), (93, .aload_n 0, 0, 0, 0), (94, .dup, 0, 0, 0), (95, .getfield 174, 6, 32, 454), (98, .iconst 1, 0, 0, 0), (99, .iadd, 0, 0, 0), (100, .putfield 174, 6, 32, 454), (103, .aload_n 0, 0, 0, 0), (104, .getfield 64, 6, 34, 456), (107, .aload_n 0, 0, 0, 0), (108, .getfield 171, 6, 33, 455), (111, .bipush 63, 0, 0, 0), (113, .iand, 0, 0, 0), (114, .iload_n 3, 0, 0, 0), (115, .iastore, 0, 0, 0), (116, .aload_n 0, 0, 0, 0), (117, .dup, 0, 0, 0), (118, .getfield 171, 6, 33, 455), (121, .iconst 1, 0, 0, 0), (122, .iadd, 0, 0, 0), (123, .putfield 171, 6, 33, 455), (126, .aload_n 0, 0, 0, 0), (127, .dup, 0, 0, 0), (128, .getfield 105, 6, 9, 431), (131, .iconst 1, 0, 0, 0), (132, .iadd, 0, 0, 0), (133, .putfield 105, 6, 9, 431), (136, .iconst 0, 0, 0, 0), (137, .istore 4, 0, 0, 0), (139, .iload 4, 0, 0, 0), (141, .aload_n 0, 0, 0, 0), (142, .getfield 71, 6, 0, 422), (145, .if_icmp .ge 53, 198, 0, 0), (148, .aload_n 0, 0, 0, 0), (149, .getfield 34, 6, 18, 440), (152, .iload 4, 0, 0, 0), (154, .iaload, 0, 0, 0), (155, .iconst 1, 0, 0, 0), (156, .if_icmp .ne 36, 192, 0, 0), (159, .aload_n 0, 0, 0, 0), (160, .getfield 37, 6, 19, 441), (163, .iload 4, 0, 0, 0), (165, .iaload, 0, 0, 0), (166, .aload_n 0, 0, 0, 0), (167, .getfield 13, 6, 2, 424), (170, .iload 4, 0, 0, 0), (172, .iaload, 0, 0, 0), (173, .iadd, 0, 0, 0), (174, .aload_n 0, 0, 0, 0), (175, .getfield 105, 6, 9, 431), (178, .if_icmp .ne 14, 192, 0, 0), (181, .aload_n 0, 0, 0, 0), (182, .getfield 58, 6, 26, 448), (185, .iload 4, 0, 0, 0), (187, .dup2, 0, 0, 0), (188, .iaload, 0, 0, 0), (189, .iconst 1, 0, 0, 0), (190, .iadd, 0, 0, 0), (191, .iastore, 0, 0, 0), (192, .iinc 4 1, 0, 0, 0), (195, .goto (-56), 139, 0, 0), (198, .iload_n 2, 0, 0, 0), (199, .ireturn, 0, 0, 0)]
/-- StackPolicyKernelModel.step(I)I -/
def pg_t95 : List (Nat × mm_E) := [(0, .aload_n 0, 0, 0, 0), (1, .getfield 67, 6, 8, 430), (4, .ifCond .eq 14, 18, 0, 0), (7, .iload_n 1, 0, 0, 0), (8, .ifCond .lt 10, 18, 0, 0), (11, .iload_n 1, 0, 0, 0), (12, .sipush 200, 0, 0, 0), (15, .if_icmp .le 5, 20, 0, 0), (18, .iconst (-1), 0, 0, 0), (19, .ireturn, 0, 0, 0), (20, .iconst 0, 0, 0, 0), (21, .istore_n 2, 0, 0, 0), (22, .iconst 0, 0, 0, 0), (23, .istore_n 3, 0, 0, 0), (24, .iload_n 3, 0, 0, 0), (25, .iload_n 1, 0, 0, 0), (26, .if_icmp .ge 20, 46, 0, 0), (29, .aload_n 0, 0, 0, 0), (30, .invokevirtual 177, 94, 1, 556), (33, .istore 4, 0, 0, 0), (35, .iload_n 2, 0, 0, 0), (36, .iload 4, 0, 0, 0), (38, .iadd, 0, 0, 0), (39, .istore_n 2, 0, 0, 0), (40, .iinc 3 1, 0, 0, 0), (43, .goto (-19), 24, 0, 0), (46, .iload_n 2, 0, 0, 0), (47, .ireturn, 0, 0, 0)]
/-- StackPolicyKernelModel.time()I -/
def pg_t96 : List (Nat × mm_E) := [(0, .aload_n 0, 0, 0, 0), (1, .getfield 105, 6, 9, 431), (4, .ireturn, 0, 0, 0)]
/-- StackPolicyKernelModel.ran(I)I -/
def pg_t97 : List (Nat × mm_E) := [(0, .iload_n 1, 0, 0, 0), (1, .ifCond .lt 17, 18, 0, 0), (4, .iload_n 1, 0, 0, 0), (5, .bipush 63, 0, 0, 0), (7, .if_icmp .gt 11, 18, 0, 0), (10, .iload_n 1, 0, 0, 0), (11, .aload_n 0, 0, 0, 0), (12, .getfield 171, 6, 33, 455), (15, .if_icmp .lt 7, 22, 0, 0), (18, .iconst (-1), 0, 0, 0), (19, .goto 19, 38, 0, 0), (22, .aload_n 0, 0, 0, 0), (23, .getfield 64, 6, 34, 456), (26, .aload_n 0, 0, 0, 0), (27, .getfield 171, 6, 33, 455), (30, .iconst 1, 0, 0, 0), (31, .isub, 0, 0, 0), (32, .iload_n 1, 0, 0, 0), (33, .isub, 0, 0, 0), (34, .bipush 63, 0, 0, 0), (36, .iand, 0, 0, 0), (37, .iaload, 0, 0, 0), (38, .ireturn, 0, 0, 0)]
/-- StackPolicyKernelModel.queued(I)I -/
def pg_t98 : List (Nat × mm_E) := [(0, .iload_n 1, 0, 0, 0), (1, .ifCond .ge 7, 8, 0, 0), (4, .iconst (-1), 0, 0, 0), (5, .goto 8, 13, 0, 0), (8, .aload_n 0, 0, 0, 0), (9, .iload_n 1, 0, 0, 0), (10, .invokevirtual 133, 85, 2, 562), (13, .istore_n 2, 0, 0, 0), (14, .iload_n 2, 0, 0, 0), (15, .ifCond .ge 7, 22, 0, 0), (18, .iconst 0, 0, 0, 0), (19, .goto 16, 35, 0, 0), (22, .iload_n 2, 0, 0, 0), (23, .bipush 6, 0, 0, 0), (25, .if_icmp .ne 7, 32, 0, 0), (28, .iconst 1, 0, 0, 0), (29, .goto 6, 35, 0, 0), (32, .iconst 2, 0, 0, 0), (33, .iload_n 2, 0, 0, 0), (34, .iadd, 0, 0, 0), (35, .ireturn, 0, 0, 0)]
/-- StackPolicyKernelModel.job(II)I -/
def pg_t99 : List (Nat × mm_E) := [(0, .aload_n 0, 0, 0, 0), (1, .iload_n 1, 0, 0, 0), (2, .invokevirtual 79, 71, 2, 503), (5, .ifCond .eq 21, 26, 0, 0), (8, .aload_n 0, 0, 0, 0), (9, .getfield 34, 6, 18, 440), (12, .iload_n 1, 0, 0, 0), (13, .iaload, 0, 0, 0), (14, .ifCond .eq 12, 26, 0, 0), (17, .iload_n 2, 0, 0, 0), (18, .ifCond .lt 8, 26, 0, 0), (21, .iload_n 2, 0, 0, 0), (22, .iconst 3, 0, 0, 0), (23, .if_icmp .le 5, 28, 0, 0), (26, .iconst (-1), 0, 0, 0), (27, .ireturn, 0, 0, 0), (28, .iload_n 2, 0, 0, 0), (29, .ifCond .ne 19, 48, 0, 0), (32, .aload_n 0, 0, 0, 0), (33, .getfield 40, 6, 20, 442), (36, .iload_n 1, 0, 0, 0), (37, .iaload, 0, 0, 0), (38, .aload_n 0, 0, 0, 0), (39, .getfield 43, 6, 21, 443), (42, .iload_n 1, 0, 0, 0), (43, .iaload, 0, 0, 0), (44, .isub, 0, 0, 0), (45, .goto 44, 89, 0, 0), (48, .iload_n 2, 0, 0, 0), (49, .iconst 1, 0, 0, 0), (50, .if_icmp .ne 19, 69, 0, 0), (53, .aload_n 0, 0, 0, 0), (54, .getfield 37, 6, 19, 441), (57, .iload_n 1, 0, 0, 0), (58, .iaload, 0, 0, 0), (59, .aload_n 0, 0, 0, 0), (60, .getfield 13, 6, 2, 424), (63, .iload_n 1, 0, 0, 0), (64, .iaload, 0, 0, 0), (65, .iadd, 0, 0, 0), (66, .goto 23, 89, 0, 0), (69, .iload_n 2, 0, 0, 0), (70, .iconst 2, 0, 0, 0), (71, .if_icmp .ne 12, 83, 0, 0), (74, .aload_n 0, 0, 0, 0), (75, .getfield 52, 6, 24, 446), (78, .iload_n 1, 0, 0, 0), (79, .iaload, 0, 0, 0), (80, .goto 9, 89, 0, 0), (83, .aload_n 0, 0, 0, 0), (84, .getfield 46, 6, 22, 444), (87, .iload_n 1, 0, 0, 0), (88, .iaload, 0, 0, 0), (89, .ireturn, 0, 0, 0)]
/-- StackPolicyKernelModel.misses(I)I -/
def pg_t100 : List (Nat × mm_E) := [(0, .aload_n 0, 0, 0, 0), (1, .iload_n 1, 0, 0, 0), (2, .invokevirtual 79, 71, 2, 503), (5, .ifCond .eq 12, 17, 0, 0), (8, .aload_n 0, 0, 0, 0), (9, .getfield 58, 6, 26, 448), (12, .iload_n 1, 0, 0, 0), (13, .iaload, 0, 0, 0), (14, .goto 4, 18, 0, 0), (17, .iconst (-1), 0, 0, 0), (18, .ireturn, 0, 0, 0)]
/-- StackPolicyKernelModel.worst(I)I -/
def pg_t101 : List (Nat × mm_E) := [(0, .aload_n 0, 0, 0, 0), (1, .iload_n 1, 0, 0, 0), (2, .invokevirtual 79, 71, 2, 503), (5, .ifCond .eq 12, 17, 0, 0), (8, .aload_n 0, 0, 0, 0), (9, .getfield 61, 6, 27, 449), (12, .iload_n 1, 0, 0, 0), (13, .iaload, 0, 0, 0), (14, .goto 4, 18, 0, 0), (17, .iconst (-1), 0, 0, 0), (18, .ireturn, 0, 0, 0)]
/-- StackPolicyKernelModel.serverFigure(I)I -/
def pg_t102 : List (Nat × mm_E) := [(0, .aload_n 0, 0, 0, 0), (1, .getfield 83, 6, 10, 432), (4, .ifCond .eq 12, 16, 0, 0), (7, .iload_n 1, 0, 0, 0), (8, .ifCond .lt 8, 16, 0, 0), (11, .iload_n 1, 0, 0, 0), (12, .iconst 5, 0, 0, 0), (13, .if_icmp .le 5, 18, 0, 0), (16, .iconst (-1), 0, 0, 0), (17, .ireturn, 0, 0, 0), (18, .iconst 0, 0, 0, 0), (19, .istore_n 2, 0, 0, 0), (20, .iconst 0, 0, 0, 0), (21, .istore_n 3, 0, 0, 0), (22, .iload_n 3, 0, 0, 0), (23, .aload_n 0, 0, 0, 0), (24, .getfield 111, 6, 14, 436), (27, .if_icmp .ge 18, 45, 0, 0), (30, .iload_n 2, 0, 0, 0), (31, .aload_n 0, 0, 0, 0), (32, .getfield 31, 6, 15, 437), (35, .iload_n 3, 0, 0, 0), (36, .iaload, 0, 0, 0), (37, .iadd, 0, 0, 0), (38, .istore_n 2, 0, 0, 0), (39, .iinc 3 1, 0, 0, 0), (42, .goto (-20), 22, 0, 0), (45, .iload_n 1, 0, 0, 0), (46, .ifCond .ne 10, 56, 0, 0), (49, .aload_n 0, 0, 0, 0), (50, .getfield 114, 6, 13, 435), (53, .goto 52, 105, 0, 0), (56, .iload_n 1, 0, 0, 0), (57, .iconst 1, 0, 0, 0), (58, .if_icmp .ne 10, 68, 0, 0), (61, .aload_n 0, 0, 0, 0), (62, .getfield 89, 6, 12, 434), (65, .goto 40, 105, 0, 0), (68, .iload_n 1, 0, 0, 0), (69, .iconst 2, 0, 0, 0), (70, .if_icmp .ne 10, 80, 0, 0), (73, .aload_n 0, 0, 0, 0), (74, .getfield 111, 6, 14, 436), (77, .goto 28, 105, 0, 0), (80, .iload_n 1, 0, 0, 0), (81, .iconst 3, 0, 0, 0), (82, .if_icmp .ne 7, 89, 0, 0), (85, .iload_n 2, 0, 0, 0), (86, .goto 19, 105, 0, 0), (89, .iload_n 1, 0, 0, 0), (90, .iconst 4, 0, 0, 0), (91, .if_icmp .ne 10, 101, 0, 0), (94, .aload_n 0, 0, 0, 0), (95, .getfield 143, 6, 16, 438), (98, .goto 7, 105, 0, 0), (101, .aload_n 0, 0, 0, 0), (102, .getfield 140, 6, 17, 439), (105, .ireturn, 0, 0, 0)]
/-- StackPolicyKernelModel.count(I)I -/
def pg_t103 : List (Nat × mm_E) := [(0, .iconst 0, 0, 0, 0), (1, .istore_n 2, 0, 0, 0), (2, .iconst 0, 0, 0, 0), (3, .istore_n 3, 0, 0, 0), (4, .iload_n 3, 0, 0, 0), (5, .aload_n 0, 0, 0, 0), (6, .getfield 71, 6, 0, 422), (9, .if_icmp .ge 31, 40, 0, 0), (12, .aload_n 0, 0, 0, 0), (13, .getfield 34, 6, 18, 440), (16, .iload_n 3, 0, 0, 0), (17, .iaload, 0, 0, 0), (18, .iconst 1, 0, 0, 0), (19, .if_icmp .ne 15, 34, 0, 0), (22, .aload_n 0, 0, 0, 0), (23, .getfield 43, 6, 21, 443), (26, .iload_n 3, 0, 0, 0), (27, .iaload, 0, 0, 0), (28, .ifCond .le 6, 34, 0, 0), (31, .iinc 2 1, 0, 0, 0), (34, .iinc 3 1, 0, 0, 0), (37, .goto (-33), 4, 0, 0), (40, .iload_n 1, 0, 0, 0), (41, .ifCond .ne 10, 51, 0, 0), (44, .aload_n 0, 0, 0, 0), (45, .getfield 168, 6, 31, 453), (48, .goto 37, 85, 0, 0), (51, .iload_n 1, 0, 0, 0), (52, .iconst 1, 0, 0, 0), (53, .if_icmp .ne 10, 63, 0, 0), (56, .aload_n 0, 0, 0, 0), (57, .getfield 174, 6, 32, 454), (60, .goto 25, 85, 0, 0), (63, .iload_n 1, 0, 0, 0), (64, .iconst 2, 0, 0, 0), (65, .if_icmp .ne 10, 75, 0, 0), (68, .aload_n 0, 0, 0, 0), (69, .getfield 156, 6, 30, 452), (72, .goto 13, 85, 0, 0), (75, .iload_n 1, 0, 0, 0), (76, .iconst 3, 0, 0, 0), (77, .if_icmp .ne 7, 84, 0, 0), (80, .iload_n 2, 0, 0, 0), (81, .goto 4, 85, 0, 0), (84, .iconst (-1), 0, 0, 0), (85, .ireturn, 0, 0, 0)]
/-- StackPolicyKernelLaw.law([I)Z -/
def pg_t104 : List (Nat × mm_E) := [(0, .new 7, 0, 0, 39), (3, .dup, 0, 0, 0), (4, .invokespecial 9, 32, 1, 41), (7, .astore_n 1, 0, 0, 0), (8, .new 10, 6, 0, 416), (11, .dup, 0, 0, 0), (12, .invokespecial 12, 68, 1, 418), (15, .astore_n 2, 0, 0, 0), (16, .iconst 0, 0, 0, 0), (17, .istore_n 3, 0, 0, 0), (18, .iload_n 3, 0, 0, 0), (19, .aload_n 0, 0, 0, 0), (20, .arraylength, 0, 0, 0), (21, .iconst 5, 0, 0, 0), (22, .isub, 0, 0, 0), (23, .if_icmp .gt 584, 607, 0, 0), (26, .aload_n 0, 0, 0, 0), (27, .iload_n 3, 0, 0, 0), (28, .iaload, 0, 0, 0), (29, .bipush 31, 0, 0, 0), (31, .iand, 0, 0, 0), (32, .tableswitch 569 0 18 #[92, 135, 188, 221, 234, 247, 270, 303, 326, 349, 362, 385, 408, 431, 444, 477, 500, 523, 546], 0, 92, 0), (124, .aload_n 1, 0, 0, 0), (125, .aload_n 0, 0, 0, 0), (126, .iload_n 3, 0, 0, 0), (127, .iconst 1, 0, 0, 0), (128, .iadd, 0, 0, 0), (129, .iaload, 0, 0, 0), (130, .aload_n 0, 0, 0, 0), (131, .iload_n 3, 0, 0, 0), (132, .iconst 2, 0, 0, 0), (133, .iadd, 0, 0, 0), (134, .iaload, 0, 0, 0), (135, .aload_n 0, 0, 0, 0), (136, .iload_n 3, 0, 0, 0), (137, .iconst 3, 0, 0, 0), (138, .iadd, 0, 0, 0), (139, .iaload, 0, 0, 0), (140, .invokevirtual 13, 33, 4, 109), (143, .aload_n 2, 0, 0, 0), (144, .aload_n 0, 0, 0, 0), (145, .iload_n 3, 0, 0, 0), (146, .iconst 1, 0, 0, 0), (147, .iadd, 0, 0, 0), (148, .iaload, 0, 0, 0), (149, .aload_n 0, 0, 0, 0), (150, .iload_n 3, 0, 0, 0), (151, .iconst 2, 0, 0, 0), (152, .iadd, 0, 0, 0), (153, .iaload, 0, 0, 0), (154, .aload_n 0, 0, 0, 0), (155, .iload_n 3, 0, 0, 0), (156, .iconst 3, 0, 0, 0), (157, .iadd, 0, 0, 0), (158, .iaload, 0, 0, 0), (159, .invokevirtual 17, 70, 4, 492), (162, .if_icmp .eq 439, 601, 0, 0), (165, .iconst 0, 0, 0, 0), (166, .ireturn, 0, 0, 0), (167, .aload_n 1, 0, 0, 0), (168, .aload_n 0, 0, 0, 0), (169, .iload_n 3, 0, 0, 0), (170, .iconst 1, 0, 0, 0), (171, .iadd, 0, 0, 0), (172, .iaload, 0, 0, 0), (173, .aload_n 0, 0, 0, 0), (174, .iload_n 3, 0, 0, 0), (175, .iconst 2, 0, 0, 0), (176, .iadd, 0, 0, 0), (177, .iaload, 0, 0, 0), (178, .aload_n 0, 0, 0, 0), (179, .iload_n 3, 0, 0, 0), (180, .iconst 3, 0, 0, 0), (181, .iadd, 0, 0, 0), (182, .iaload, 0, 0, 0), (183, .aload_n 0, 0, 0, 0), (184, .iload_n 3, 0, 0, 0), (185, .iconst 4, 0, 0, 0), (186, .iadd, 0, 0, 0), (187, .iaload, 0, 0, 0), (188, .invokevirtual 18, 34, 5, 168), (191, .aload_n 2, 0, 0, 0), (192, .aload_n 0, 0, 0, 0), (193, .iload_n 3, 0, 0, 0), (194, .iconst 1, 0, 0, 0), (195, .iadd, 0, 0, 0), (196, .iaload, 0, 0, 0), (197, .aload_n 0, 0, 0, 0), (198, .iload_n 3, 0, 0, 0), (199, .iconst 2, 0, 0, 0), (200, .iadd, 0, 0, 0), (201, .iaload, 0, 0, 0), (202, .aload_n 0, 0, 0, 0), (203, .iload_n 3, 0, 0, 0), (204, .iconst 3, 0, 0, 0), (205, .iadd, 0, 0, 0), (206, .iaload, 0, 0, 0), (207, .aload_n 0, 0, 0, 0), (208, .iload_n 3, 0, 0, 0), (209, .iconst 4, 0, 0, 0), (210, .iadd, 0, 0, 0), (211, .iaload, 0, 0, 0), (212, .invokevirtual 22, 72, 5, 499), (215, .if_icmp .eq 386, 601, 0, 0), (218, .iconst 0, 0, 0, 0), (219, .ireturn, 0, 0, 0), (220, .aload_n 1, 0, 0, 0), (221, .aload_n 0, 0, 0, 0), (222, .iload_n 3, 0, 0, 0), (223, .iconst 1, 0, 0, 0), (224, .iadd, 0, 0, 0), (225, .iaload, 0, 0, 0), (226, .aload_n 0, 0, 0, 0), (227, .iload_n 3, 0, 0, 0), (228, .iconst 2, 0, 0, 0), (229, .iadd, 0, 0, 0), (230, .iaload, 0, 0, 0), (231, .invokevirtual 23, 35, 3, 211), (234, .aload_n 2, 0, 0, 0), (235, .aload_n 0, 0, 0, 0), (236, .iload_n 3, 0, 0, 0), (237, .iconst 1, 0, 0, 0), (238, .iadd, 0, 0, 0), (239, .iaload, 0, 0, 0), (240, .aload_n 0, 0, 0, 0), (241, .iload_n 3, 0, 0, 0), (242, .iconst 2, 0, 0, 0), (243, .iadd, 0, 0, 0), (244, .iaload, 0, 0, 0), (245, .invokevirtual 27, 73, 3, 506), (248, .if_icmp .eq 353, 601, 0, 0), (251, .iconst 0, 0, 0, 0), (252, .ireturn, 0, 0, 0), (253, .aload_n 1, 0, 0, 0), (254, .invokevirtual 28, 36, 1, 219), (257, .aload_n 2, 0, 0, 0), (258, .invokevirtual 32, 74, 1, 510), (261, .if_icmp .eq 340, 601, 0, 0), (264, .iconst 0, 0, 0, 0), (265, .ireturn, 0, 0, 0), (266, .aload_n 1, 0, 0, 0), (267, .invokevirtual 33, 37, 1, 223), (270, .aload_n 2, 0, 0, 0), (271, .invokevirtual 37, 79, 1, 521), (274, .if_icmp .eq 327, 601, 0, 0), (277, .iconst 0, 0, 0, 0), (278, .ireturn, 0, 0, 0), (279, .aload_n 1, 0, 0, 0), (280, .aload_n 0, 0, 0, 0), (281, .iload_n 3, 0, 0, 0), (282, .iconst 1, 0, 0, 0), (283, .iadd, 0, 0, 0), (284, .iaload, 0, 0, 0), (285, .invokevirtual 38, 38, 2, 242), (288, .aload_n 2, 0, 0, 0), (289, .aload_n 0, 0, 0, 0), (290, .iload_n 3, 0, 0, 0), (291, .iconst 1, 0, 0, 0), (292, .iadd, 0, 0, 0), (293, .iaload, 0, 0, 0), (294, .invokevirtual 42, 76, 2, 514), (297, .if_icmp .eq 304, 601, 0, 0), (300, .iconst 0, 0, 0, 0), (301, .ireturn, 0, 0, 0), (302, .aload_n 1, 0, 0, 0), (303, .aload_n 0, 0, 0, 0), (304, .iload_n 3, 0, 0, 0), (305, .iconst 1, 0, 0, 0), (306, .iadd, 0, 0, 0), (307, .iaload, 0, 0, 0), (308, .aload_n 0, 0, 0, 0), (309, .iload_n 3, 0, 0, 0), (310, .iconst 2, 0, 0, 0), (311, .iadd, 0, 0, 0), (312, .iaload, 0, 0, 0), (313, .invokevirtual 43, 39, 3, 246), (316, .aload_n 2, 0, 0, 0), (317, .aload_n 0, 0, 0, 0), (318, .iload_n 3, 0, 0, 0), (319, .iconst 1, 0, 0, 0), (320, .iadd, 0, 0, 0), (321, .iaload, 0, 0, 0), (322, .aload_n 0, 0, 0, 0), (323, .iload_n 3, 0, 0, 0), (324, .iconst 2, 0, 0, 0), (325, .iadd, 0, 0, 0), (326, .iaload, 0, 0, 0), (327, .invokevirtual 47, 80, 3, 532), (330, .if_icmp .eq 271, 601, 0, 0), (333, .iconst 0, 0, 0, 0), (334, .ireturn, 0, 0, 0), (335, .aload_n 1, 0, 0, 0), (336, .aload_n 0, 0, 0, 0), (337, .iload_n 3, 0, 0, 0), (338, .iconst 1, 0, 0, 0), (339, .iadd, 0, 0, 0), (340, .iaload, 0, 0, 0), (341, .invokevirtual 48, 40, 2, 262), (344, .aload_n 2, 0, 0, 0), (345, .aload_n 0, 0, 0, 0), (346, .iload_n 3, 0, 0, 0), (347, .iconst 1, 0, 0, 0), (348, .iadd, 0, 0, 0), (349, .iaload, 0, 0, 0), (350, .invokevirtual 52, 81, 2, 536), (353, .if_icmp .eq 248, 601, 0, 0), (356, .iconst 0, 0, 0, 0), (357, .ireturn, 0, 0, 0), (358, .aload_n 1, 0, 0, 0), (359, .aload_n 0, 0, 0, 0), (360, .iload_n 3, 0, 0, 0), (361, .iconst 1, 0, 0, 0), (362, .iadd, 0, 0, 0), (363, .iaload, 0, 0, 0), (364, .invokevirtual 53, 41, 2, 274), (367, .aload_n 2, 0, 0, 0), (368, .aload_n 0, 0, 0, 0), (369, .iload_n 3, 0, 0, 0), (370, .iconst 1, 0, 0, 0), (371, .iadd, 0, 0, 0), (372, .iaload, 0, 0, 0), (373, .invokevirtual 56, 95, 2, 552), (376, .if_icmp .eq 225, 601, 0, 0), (379, .iconst 0, 0, 0, 0), (380, .ireturn, 0, 0, 0), (381, .aload_n 1, 0, 0, 0), (382, .invokevirtual 57, 42, 1, 353), (385, .aload_n 2, 0, 0, 0), (386, .invokevirtual 60, 96, 1, 587), (389, .if_icmp .eq 212, 601, 0, 0), (392, .iconst 0, 0, 0, 0), (393, .ireturn, 0, 0, 0), (394, .aload_n 1, 0, 0, 0), (395, .aload_n 0, 0, 0, 0), (396, .iload_n 3, 0, 0, 0), (397, .iconst 1, 0, 0, 0), (398, .iadd, 0, 0, 0), (399, .iaload, 0, 0, 0), (400, .invokevirtual 61, 43, 2, 357), (403, .aload_n 2, 0, 0, 0), (404, .aload_n 0, 0, 0, 0), (405, .iload_n 3, 0, 0, 0), (406, .iconst 1, 0, 0, 0), (407, .iadd, 0, 0, 0), (408, .iaload, 0, 0, 0), (409, .invokevirtual 64, 97, 2, 591), (412, .if_icmp .eq 189, 601, 0, 0), (415, .iconst 0, 0, 0, 0), (416, .ireturn, 0, 0, 0), (417, .aload_n 1, 0, 0, 0), (418, .aload_n 0, 0, 0, 0), (419, .iload_n 3, 0, 0, 0), (420, .iconst 1, 0, 0, 0), (421, .iadd, 0, 0, 0), (422, .iaload, 0, 0, 0), (423, .invokevirtual 65, 44, 2, 362), (426, .aload_n 2, 0, 0, 0), (427, .aload_n 0, 0, 0, 0), (428, .iload_n 3, 0, 0, 0), (429, .iconst 1, 0, 0, 0), (430, .iadd, 0, 0, 0), (431, .iaload, 0, 0, 0), (432, .invokevirtual 68, 98, 2, 595), (435, .if_icmp .eq 166, 601, 0, 0), (438, .iconst 0, 0, 0, 0), (439, .ireturn, 0, 0, 0), (440, .aload_n 1, 0, 0, 0), (441, .aload_n 0, 0, 0, 0), (442, .iload_n 3, 0, 0, 0), (443, .iconst 1, 0, 0, 0), (444, .iadd, 0, 0, 0), (445, .iaload, 0, 0, 0), (446, .invokevirtual 69, 45, 2, 369), (449, .aload_n 2, 0, 0, 0), (450, .aload_n 0, 0, 0, 0), (451, .iload_n 3, 0, 0, 0), (452, .iconst 1, 0, 0, 0), (453, .iadd, 0, 0, 0), (454, .iaload, 0, 0, 0), (455, .invokevirtual 72, 88, 2, 540), (458, .if_icmp .eq 143, 601, 0, 0), (461, .iconst 0, 0, 0, 0), (462, .ireturn, 0, 0, 0), (463, .aload_n 1, 0, 0, 0), (464, .invokevirtual 73, 46, 1, 377), (467, .aload_n 2, 0, 0, 0), (468, .invokevirtual 76, 89, 1, 547), (471, .if_icmp .eq 130, 601, 0, 0), (474, .iconst 0, 0, 0, 0), (475, .ireturn, 0, 0, 0), (476, .aload_n 1, 0, 0, 0), (477, .aload_n 0, 0, 0, 0), (478, .iload_n 3, 0, 0, 0), (479, .iconst 1, 0, 0, 0), (480, .iadd, 0, 0, 0), (481, .iaload, 0, 0, 0), (482, .aload_n 0, 0, 0, 0), (483, .iload_n 3, 0, 0, 0), (484, .iconst 2, 0, 0, 0), (485, .iadd, 0, 0, 0), (486, .iaload, 0, 0, 0), (487, .invokevirtual 77, 47, 3, 381), (490, .aload_n 2, 0, 0, 0), (491, .aload_n 0, 0, 0, 0), (492, .iload_n 3, 0, 0, 0), (493, .iconst 1, 0, 0, 0), (494, .iadd, 0, 0, 0), (495, .iaload, 0, 0, 0), (496, .aload_n 0, 0, 0, 0), (497, .iload_n 3, 0, 0, 0), (498, .iconst 2, 0, 0, 0), (499, .iadd, 0, 0, 0), (500, .iaload, 0, 0, 0), (501, .invokevirtual 80, 99, 3, 599), (504, .if_icmp .eq 97, 601, 0, 0), (507, .iconst 0, 0, 0, 0), (508, .ireturn, 0, 0, 0), (509, .aload_n 1, 0, 0, 0), (510, .aload_n 0, 0, 0, 0), (511, .iload_n 3, 0, 0, 0), (512, .iconst 1, 0, 0, 0), (513, .iadd, 0, 0, 0), (514, .iaload, 0, 0, 0), (515, .invokevirtual 81, 48, 2, 389), (518, .aload_n 2, 0, 0, 0), (519, .aload_n 0, 0, 0, 0), (520, .iload_n 3, 0, 0, 0), (521, .iconst 1, 0, 0, 0), (522, .iadd, 0, 0, 0), (523, .iaload, 0, 0, 0), (524, .invokevirtual 84, 100, 2, 603), (527, .if_icmp .eq 74, 601, 0, 0), (530, .iconst 0, 0, 0, 0), (531, .ireturn, 0, 0, 0), (532, .aload_n 1, 0, 0, 0), (533, .aload_n 0, 0, 0, 0), (534, .iload_n 3, 0, 0, 0), (535, .iconst 1, 0, 0, 0), (536, .iadd, 0, 0, 0), (537, .iaload, 0, 0, 0), (538, .invokevirtual 85, 49, 2, 393), (541, .aload_n 2, 0, 0, 0), (542, .aload_n 0, 0, 0, 0), (543, .iload_n 3, 0, 0, 0), (544, .iconst 1, 0, 0, 0), (545, .iadd, 0, 0, 0), (546, .iaload, 0, 0, 0), (547, .invokevirtual 88, 101, 2, 607), (550, .if_icmp .eq 51, 601, 0, 0), (553, .iconst 0, 0, 0, 0), (554, .ireturn, 0, 0, 0), (555, .aload_n 1, 0, 0, 0), (556, .aload_n 0, 0, 0, 0), (557, .iload_n 3, 0, 0, 0), (558, .iconst 1, 0, 0, 0), (559, .iadd, 0, 0, 0), (560, .iaload, 0, 0, 0), (561, .invokevirtual 89, 50, 2, 397), (564, .aload_n 2, 0, 0, 0), (565, .aload_n 0, 0, 0, 0), (566, .iload_n 3, 0, 0, 0), (567, .iconst 1, 0, 0, 0), (568, .iadd, 0, 0, 0), (569, .iaload, 0, 0, 0), (570, .invokevirtual 92, 102, 2, 611), (573, .if_icmp .eq 28, 601, 0, 0), (576, .iconst 0, 0, 0, 0), (577, .ireturn, 0, 0, 0), (578, .aload_n 1, 0, 0, 0), (579, .aload_n 0, 0, 0, 0), (580, .iload_n 3, 0, 0, 0), (581, .iconst 1, 0, 0, 0), (582, .iadd, 0, 0, 0), (583, .iaload, 0, 0, 0), (584, .invokevirtual 93, 51, 2, 409), (587, .aload_n 2, 0, 0, 0), (588, .aload_n 0, 0, 0, 0), (589, .iload_n 3, 0, 0, 0), (590, .iconst 1, 0, 0, 0), (591, .iadd, 0, 0, 0), (592, .iaload, 0, 0, 0), (593, .invokevirtual 96, 103, 2, 615), (596, .if_icmp .eq 5, 601, 0, 0), (599, .iconst 0, 0, 0, 0), (600, .ireturn, 0, 0, 0), (601, .iinc 3 5, 0, 0, 0), (604, .goto (-586), 18, 0, 0), (607, .iconst 1, 0, 0, 0), (608, .ireturn, 0, 0, 0)]
def pg_ls : List (List (Nat × mm_E)) := [pg_t0, pg_t1, pg_t2, pg_t3, pg_t4, pg_t5, pg_t6, pg_t7, pg_t8, pg_t9, pg_t10, pg_t11, pg_t12, pg_t13, pg_t14, pg_t15, pg_t16, pg_t17, pg_t18, pg_t19, pg_t20, pg_t21, pg_t22, pg_t23, pg_t24, pg_t25, pg_t26, pg_t27, pg_t28, pg_t29, pg_t30, pg_t31, pg_t32, pg_t33, pg_t34, pg_t35, pg_t36, pg_t37, pg_t38, pg_t39, pg_t40, pg_t41, pg_t42, pg_t43, pg_t44, pg_t45, pg_t46, pg_t47, pg_t48, pg_t49, pg_t50, pg_t51, pg_t52, pg_t53, pg_t54, pg_t55, pg_t56, pg_t57, pg_t58, pg_t59, pg_t60, pg_t61, pg_t62, pg_t63, pg_t64, pg_t65, pg_t66, pg_t67, pg_t68, pg_t69, pg_t70, pg_t71, pg_t72, pg_t73, pg_t74, pg_t75, pg_t76, pg_t77, pg_t78, pg_t79, pg_t80, pg_t81, pg_t82, pg_t83, pg_t84, pg_t85, pg_t86, pg_t87, pg_t88, pg_t89, pg_t90, pg_t91, pg_t92, pg_t93, pg_t94, pg_t95, pg_t96, pg_t97, pg_t98, pg_t99, pg_t100, pg_t101, pg_t102, pg_t103, pg_t104]
def pg_tb (μ pc : Nat) : Option mm_E := (pg_ls.getD μ []).lookup pc
def pg_mx (μ : Nat) : Nat := ([4, 7, 2, 1, 1, 1, 1, 5, 3, 2, 4, 1, 5, 4, 5, 2, 3, 2, 4, 3, 2, 1, 1, 3, 3, 2, 1, 3, 2, 1, 2, 2, 1, 5, 6, 3, 1, 2, 2, 4, 2, 4, 1, 2, 3, 3, 1, 3, 2, 2, 2, 2, 2, 1, 3, 7, 4, 2, 2, 5, 4, 3, 3, 3, 5, 2, 4, 2, 1, 4, 4, 2, 8, 3, 2, 2, 5, 6, 7, 2, 3, 2, 2, 2, 5, 5, 4, 2, 3, 4, 5, 3, 4, 6, 5, 5, 1, 2, 3, 3, 2, 2, 4, 4, 4] : List Nat).getD μ 0
def pg_rb (μ : Nat) : Nat := ([0, 2, 2, 0, 2, 2, 2, 0, 0, 1, 0, 1, 2, 0, 1, 2, 2, 2, 1, 0, 0, 0, 2, 0, 2, 1, 0, 1, 1, 0, 0, 1, 0, 1, 2, 2, 2, 1, 1, 1, 2, 1, 1, 1, 1, 1, 1, 1, 1, 1, 1, 1, 2, 2, 1, 2, 1, 2, 1, 2, 1, 1, 1, 0, 1, 0, 0, 0, 0, 2, 1, 2, 2, 2, 2, 1, 1, 1, 2, 1, 1, 2, 2, 1, 2, 1, 2, 2, 1, 1, 1, 1, 0, 1, 1, 1, 1, 1, 1, 1, 1, 1, 1, 1, 2] : List Nat).getD μ 0
def pg_rc (μ : Nat) : Nat := ([4, 4, 4, 5, 5, 5, 5, 5, 5, 5, 3, 3, 3, 3, 3, 3, 3, 3, 3, 3, 3, 1, 1, 1, 1, 1, 1, 1, 1, 2, 2, 2, 0, 0, 0, 0, 0, 0, 0, 0, 0, 0, 0, 0, 0, 0, 0, 0, 0, 0, 0, 0, 0, 0, 0, 0, 0, 0, 0, 0, 0, 0, 0, 0, 0, 0, 0, 0, 6, 6, 6, 6, 6, 6, 6, 6, 6, 6, 6, 6, 6, 6, 6, 6, 6, 6, 6, 6, 6, 6, 6, 6, 6, 6, 6, 6, 6, 6, 6, 6, 6, 6, 6, 6, 0] : List Nat).getD μ 0
def pg_km (μ : Nat) : Nat × Nat := ([(2, 4), (1, 4), (1, 2), (3, 1), (1, 1), (1, 1), (1, 1), (1, 4), (1, 3), (1, 2), (2, 4), (1, 1), (1, 4), (1, 4), (1, 3), (1, 2), (1, 2), (1, 1), (1, 2), (1, 1), (1, 2), (3, 1), (1, 1), (1, 3), (1, 3), (1, 2), (1, 1), (1, 1), (1, 2), (3, 1), (1, 2), (1, 2), (2, 1), (1, 4), (1, 5), (1, 3), (1, 1), (1, 1), (1, 2), (1, 3), (1, 2), (1, 2), (1, 1), (1, 2), (1, 2), (1, 2), (1, 1), (1, 3), (1, 2), (1, 2), (1, 2), (1, 2), (1, 2), (0, 1), (1, 1), (1, 2), (1, 2), (1, 2), (1, 2), (1, 3), (1, 2), (1, 1), (1, 1), (1, 1), (1, 2), (1, 2), (1, 2), (1, 1), (2, 1), (0, 4), (1, 4), (1, 2), (1, 5), (1, 3), (1, 1), (1, 2), (1, 2), (1, 2), (1, 2), (1, 1), (1, 3), (1, 2), (1, 2), (1, 2), (1, 3), (1, 2), (1, 3), (1, 2), (1, 2), (1, 1), (1, 1), (1, 1), (1, 3), (1, 2), (1, 1), (1, 2), (1, 1), (1, 2), (1, 2), (1, 3), (1, 2), (1, 2), (1, 2), (1, 2), (0, 1)] : List (Nat × Nat)).getD μ (0, 0)
def pg_sl (ci : Nat) : Nat := ([8, 9, 4, 10, 3, 7, 35] : List Nat).getD ci 0
def pg_fts : List (List FieldType) := [[.array (.object "StackPolicyKernel$Task"), .array .int, .object "StackPolicyKernel$Server", .object "StackPolicyKernel$Trace", .int, .boolean, .int, .int], [.array .int, .int, .int, .int, .int, .int, .int, .int, .int], [.array .int, .int, .int, .int], [.int, .int, .int, .array (.object "StackPolicyKernel$Section"), .object "StackPolicyKernel$Job", .int, .int, .int, .int, .int], [.int, .int, .int], [.array .int, .int, .int, .int, .int, .int, .int], [.int, .array .int, .array .int, .array .int, .array .int, .array .int, .array .int, .array .int, .boolean, .int, .int, .int, .int, .int, .int, .array .int, .int, .int, .array .int, .array .int, .array .int, .array .int, .array .int, .array .int, .array .int, .array .int, .array .int, .array .int, .int, .int, .int, .int, .int, .int, .array .int]]
def pg_ft (ci k : Nat) : FieldType := (pg_fts.getD ci []).getD k .int
def pg_pk (μ pc : Nat) (ls : List Value) (V : mm_V) : Nat :=
  if μ = 3 ∧ pc = 7 then sp_r (mm_ld ls 0) + 1 else
  if μ = 10 ∧ pc = 6 then sp_r (mm_ld ls 0) + 1 else
  if μ = 10 ∧ pc = 13 then sp_r (mm_ld ls 0) + 2 else
  if μ = 13 ∧ pc = 8 then sp_r (mm_ld ls 0) + 4 + sp_r (V (sp_r (mm_ld ls 0)) 5) else
  if μ = 21 ∧ pc = 7 then 4 else
  if μ = 29 ∧ pc = 7 then 6 else
  if μ = 32 ∧ pc = 7 then 1 else
  if μ = 32 ∧ pc = 15 then 2 else
  if μ = 32 ∧ pc = 21 then 3 else
  if μ = 32 ∧ pc = 32 then 5 else
  if μ = 33 ∧ pc = 59 then 32 + 8 * sp_r (V 0 4) else
  if μ = 68 ∧ pc = 7 then 9 else
  if μ = 68 ∧ pc = 15 then 10 else
  if μ = 68 ∧ pc = 23 then 11 else
  if μ = 68 ∧ pc = 31 then 12 else
  if μ = 68 ∧ pc = 39 then 13 else
  if μ = 68 ∧ pc = 47 then 14 else
  if μ = 68 ∧ pc = 55 then 15 else
  if μ = 68 ∧ pc = 63 then 16 else
  if μ = 68 ∧ pc = 71 then 17 else
  if μ = 68 ∧ pc = 79 then 18 else
  if μ = 68 ∧ pc = 87 then 19 else
  if μ = 68 ∧ pc = 95 then 20 else
  if μ = 68 ∧ pc = 103 then 21 else
  if μ = 68 ∧ pc = 111 then 22 else
  if μ = 68 ∧ pc = 119 then 23 else
  if μ = 68 ∧ pc = 128 then 24 else
  if μ = 68 ∧ pc = 136 then 25 else
  if μ = 68 ∧ pc = 144 then 26 else
  if μ = 68 ∧ pc = 152 then 27 else
  if μ = 104 ∧ pc = 0 then 0 else
  if μ = 104 ∧ pc = 8 then 8 else
  0
def pg_G : mm_G := (pg_tb, pg_mx, pg_ft, pg_sl, pg_pk, pg_rb, pg_rc)
def pg_F0 : u_T := fun k => match k with
  | 0 => ("StackPolicyKernel", "tasks", "[LStackPolicyKernel$Task;", true)
  | 1 => ("StackPolicyKernel", "ceilings", "[I", true)
  | 2 => ("StackPolicyKernel", "theServer", "LStackPolicyKernel$Server;", true)
  | 3 => ("StackPolicyKernel", "trace", "LStackPolicyKernel$Trace;", true)
  | 4 => ("StackPolicyKernel", "taskCount", "I", false)
  | 5 => ("StackPolicyKernel", "started", "Z", false)
  | 6 => ("StackPolicyKernel", "releasedJobs", "I", false)
  | _ => ("StackPolicyKernel", "endedJobs", "I", false)
def pg_F1 : u_T := fun k => match k with
  | 0 => ("StackPolicyKernel$Server", "needs", "[I", true)
  | 1 => ("StackPolicyKernel$Server", "oldest", "I", false)
  | 2 => ("StackPolicyKernel$Server", "waiting", "I", false)
  | 3 => ("StackPolicyKernel$Server", "size", "I", false)
  | 4 => ("StackPolicyKernel$Server", "period", "I", false)
  | 5 => ("StackPolicyKernel$Server", "budget", "I", false)
  | 6 => ("StackPolicyKernel$Server", "deadline", "I", false)
  | 7 => ("StackPolicyKernel$Server", "usedUp", "I", false)
  | _ => ("StackPolicyKernel$Server", "finished", "I", false)
def pg_F2 : u_T := fun k => match k with
  | 0 => ("StackPolicyKernel$Trace", "codes", "[I", true)
  | 1 => ("StackPolicyKernel$Trace", "ticks", "I", false)
  | 2 => ("StackPolicyKernel$Trace", "idleTicks", "I", false)
  | _ => ("StackPolicyKernel$Trace", "changes", "I", false)
def pg_F3 : u_T := fun k => match k with
  | 0 => ("StackPolicyKernel$Task", "period", "I", true)
  | 1 => ("StackPolicyKernel$Task", "span", "I", true)
  | 2 => ("StackPolicyKernel$Task", "cost", "I", true)
  | 3 => ("StackPolicyKernel$Task", "sections", "[LStackPolicyKernel$Section;", true)
  | 4 => ("StackPolicyKernel$Task", "job", "LStackPolicyKernel$Job;", true)
  | 5 => ("StackPolicyKernel$Task", "sectionCount", "I", false)
  | 6 => ("StackPolicyKernel$Task", "missedJobs", "I", false)
  | 7 => ("StackPolicyKernel$Task", "longestResponse", "I", false)
  | 8 => ("StackPolicyKernel$Task", "spells", "I", false)
  | _ => ("StackPolicyKernel$Task", "tickSpell", "I", false)
def pg_F4 : u_T := fun k => match k with
  | 0 => ("StackPolicyKernel$Section", "resource", "I", true)
  | 1 => ("StackPolicyKernel$Section", "from", "I", true)
  | _ => ("StackPolicyKernel$Section", "to", "I", true)
def pg_F5 : u_T := fun k => match k with
  | 0 => ("StackPolicyKernel$Job", "countedSpells", "[I", true)
  | 1 => ("StackPolicyKernel$Job", "amount", "I", false)
  | 2 => ("StackPolicyKernel$Job", "ticksRun", "I", false)
  | 3 => ("StackPolicyKernel$Job", "releaseTime", "I", false)
  | 4 => ("StackPolicyKernel$Job", "deadline", "I", false)
  | 5 => ("StackPolicyKernel$Job", "blockings", "I", false)
  | _ => ("StackPolicyKernel$Job", "blockedTicks", "I", false)
def pg_F6 : u_T := fun k => match k with
  | 0 => ("StackPolicyKernelModel", "tasks", "I", false)
  | 1 => ("StackPolicyKernelModel", "period", "[I", true)
  | 2 => ("StackPolicyKernelModel", "span", "[I", true)
  | 3 => ("StackPolicyKernelModel", "cost", "[I", true)
  | 4 => ("StackPolicyKernelModel", "parts", "[I", true)
  | 5 => ("StackPolicyKernelModel", "resource", "[I", true)
  | 6 => ("StackPolicyKernelModel", "from", "[I", true)
  | 7 => ("StackPolicyKernelModel", "to", "[I", true)
  | 8 => ("StackPolicyKernelModel", "started", "Z", false)
  | 9 => ("StackPolicyKernelModel", "now", "I", false)
  | 10 => ("StackPolicyKernelModel", "size", "I", false)
  | 11 => ("StackPolicyKernelModel", "cycle", "I", false)
  | 12 => ("StackPolicyKernelModel", "budget", "I", false)
  | 13 => ("StackPolicyKernelModel", "due", "I", false)
  | 14 => ("StackPolicyKernelModel", "waits", "I", false)
  | 15 => ("StackPolicyKernelModel", "need", "[I", true)
  | 16 => ("StackPolicyKernelModel", "usedUp", "I", false)
  | 17 => ("StackPolicyKernelModel", "served", "I", false)
  | 18 => ("StackPolicyKernelModel", "phase", "[I", true)
  | 19 => ("StackPolicyKernelModel", "since", "[I", true)
  | 20 => ("StackPolicyKernelModel", "amount", "[I", true)
  | 21 => ("StackPolicyKernelModel", "done", "[I", true)
  | 22 => ("StackPolicyKernelModel", "stopped", "[I", true)
  | 23 => ("StackPolicyKernelModel", "inSpell", "[I", true)
  | 24 => ("StackPolicyKernelModel", "spellCount", "[I", true)
  | 25 => ("StackPolicyKernelModel", "spell", "[I", true)
  | 26 => ("StackPolicyKernelModel", "missed", "[I", true)
  | 27 => ("StackPolicyKernelModel", "longest", "[I", true)
  | 28 => ("StackPolicyKernelModel", "spells", "I", false)
  | 29 => ("StackPolicyKernelModel", "jobs", "I", false)
  | 30 => ("StackPolicyKernelModel", "ended", "I", false)
  | 31 => ("StackPolicyKernelModel", "idle", "I", false)
  | 32 => ("StackPolicyKernelModel", "changes", "I", false)
  | 33 => ("StackPolicyKernelModel", "ticks", "I", false)
  | _ => ("StackPolicyKernelModel", "codes", "[I", true)
def pg_ck (ci : Nat) : vw_C := ([("StackPolicyKernel", pg_F0, 8), ("StackPolicyKernel$Server", pg_F1, 9), ("StackPolicyKernel$Trace", pg_F2, 4), ("StackPolicyKernel$Task", pg_F3, 10), ("StackPolicyKernel$Section", pg_F4, 3), ("StackPolicyKernel$Job", pg_F5, 7), ("StackPolicyKernelModel", pg_F6, 35)] : List vw_C).getD ci ("", pg_F0, 0)
def pg_ek (kd : Nat) : Nat := if kd = 102 then 3 else 4

def pg_mb (μ : Nat) : ByteArray := ([prog_3_method_1_code, prog_3_method_2_code, prog_3_method_3_code, prog_2_method_1_code, prog_2_method_2_code, prog_2_method_3_code, prog_2_method_4_code, prog_2_method_5_code, prog_2_method_6_code, prog_2_method_7_code, prog_5_method_1_code, prog_5_method_2_code, prog_5_method_3_code, prog_5_method_4_code, prog_5_method_5_code, prog_5_method_6_code, prog_5_method_7_code, prog_5_method_8_code, prog_5_method_9_code, prog_5_method_10_code, prog_5_method_11_code, prog_4_method_1_code, prog_4_method_2_code, prog_4_method_3_code, prog_4_method_4_code, prog_4_method_5_code, prog_4_method_6_code, prog_4_method_7_code, prog_4_method_8_code, prog_6_method_1_code, prog_6_method_2_code, prog_6_method_3_code, prog_1_method_1_code, prog_1_method_2_code, prog_1_method_3_code, prog_1_method_4_code, prog_1_method_5_code, prog_1_method_6_code, prog_1_method_7_code, prog_1_method_8_code, prog_1_method_9_code, prog_1_method_10_code, prog_1_method_11_code, prog_1_method_12_code, prog_1_method_13_code, prog_1_method_14_code, prog_1_method_15_code, prog_1_method_16_code, prog_1_method_17_code, prog_1_method_18_code, prog_1_method_19_code, prog_1_method_20_code, prog_1_method_21_code, prog_1_method_22_code, prog_1_method_23_code, prog_1_method_24_code, prog_1_method_25_code, prog_1_method_26_code, prog_1_method_27_code, prog_1_method_28_code, prog_1_method_29_code, prog_1_method_30_code, prog_1_method_31_code, prog_1_method_32_code, prog_1_method_33_code, prog_1_method_34_code, prog_1_method_35_code, prog_1_method_36_code, prog_8_method_1_code, prog_8_method_2_code, prog_8_method_3_code, prog_8_method_4_code, prog_8_method_5_code, prog_8_method_6_code, prog_8_method_7_code, prog_8_method_8_code, prog_8_method_9_code, prog_8_method_10_code, prog_8_method_11_code, prog_8_method_12_code, prog_8_method_13_code, prog_8_method_14_code, prog_8_method_15_code, prog_8_method_16_code, prog_8_method_17_code, prog_8_method_18_code, prog_8_method_19_code, prog_8_method_20_code, prog_8_method_21_code, prog_8_method_22_code, prog_8_method_23_code, prog_8_method_24_code, prog_8_method_25_code, prog_8_method_26_code, prog_8_method_27_code, prog_8_method_28_code, prog_8_method_29_code, prog_8_method_30_code, prog_8_method_31_code, prog_8_method_32_code, prog_8_method_33_code, prog_8_method_34_code, prog_8_method_35_code, prog_8_method_36_code, code] : List ByteArray).getD μ code
def pg_mn (μ : Nat) : MethodName := ([⟨"StackPolicyKernel$Section", "<init>", "(III)V"⟩, ⟨"StackPolicyKernel$Section", "agreesWith", "(III)Z"⟩, ⟨"StackPolicyKernel$Section", "isHeldAfter", "(I)Z"⟩, ⟨"StackPolicyKernel$Job", "<init>", "()V"⟩, ⟨"StackPolicyKernel$Job", "wasReleased", "()Z"⟩, ⟨"StackPolicyKernel$Job", "isPending", "()Z"⟩, ⟨"StackPolicyKernel$Job", "hasRun", "()Z"⟩, ⟨"StackPolicyKernel$Job", "begin", "(III)V"⟩, ⟨"StackPolicyKernel$Job", "noteBlocked", "(II)V"⟩, ⟨"StackPolicyKernel$Job", "figure", "(I)I"⟩, ⟨"StackPolicyKernel$Task", "<init>", "(III)V"⟩, ⟨"StackPolicyKernel$Task", "level", "()I"⟩, ⟨"StackPolicyKernel$Task", "allowsSection", "(III)Z"⟩, ⟨"StackPolicyKernel$Task", "addSection", "(III)V"⟩, ⟨"StackPolicyKernel$Task", "longestHold", "([II)I"⟩, ⟨"StackPolicyKernel$Task", "isHeld", "(LStackPolicyKernel$Section;)Z"⟩, ⟨"StackPolicyKernel$Task", "holds", "(I)Z"⟩, ⟨"StackPolicyKernel$Task", "holdsSomething", "()Z"⟩, ⟨"StackPolicyKernel$Task", "highestHeld", "([I)I"⟩, ⟨"StackPolicyKernel$Task", "runTick", "()V"⟩, ⟨"StackPolicyKernel$Task", "noteResponse", "(I)V"⟩, ⟨"StackPolicyKernel$Server", "<init>", "()V"⟩, ⟨"StackPolicyKernel$Server", "exists", "()Z"⟩, ⟨"StackPolicyKernel$Server", "setUp", "(II)V"⟩, ⟨"StackPolicyKernel$Server", "takeRequest", "(II)Z"⟩, ⟨"StackPolicyKernel$Server", "slot", "(I)I"⟩, ⟨"StackPolicyKernel$Server", "runTick", "()V"⟩, ⟨"StackPolicyKernel$Server", "neededTicks", "()I"⟩, ⟨"StackPolicyKernel$Server", "figure", "(I)I"⟩, ⟨"StackPolicyKernel$Trace", "<init>", "()V"⟩, ⟨"StackPolicyKernel$Trace", "note", "(I)V"⟩, ⟨"StackPolicyKernel$Trace", "codeBack", "(I)I"⟩, ⟨"StackPolicyKernel", "<init>", "()V"⟩, ⟨"StackPolicyKernel", "task", "(III)I"⟩, ⟨"StackPolicyKernel", "section", "(IIII)Z"⟩, ⟨"StackPolicyKernel", "server", "(II)Z"⟩, ⟨"StackPolicyKernel", "start", "()Z"⟩, ⟨"StackPolicyKernel", "verdict", "()I"⟩, ⟨"StackPolicyKernel", "ceiling", "(I)I"⟩, ⟨"StackPolicyKernel", "release", "(II)I"⟩, ⟨"StackPolicyKernel", "submit", "(I)Z"⟩, ⟨"StackPolicyKernel", "step", "(I)I"⟩, ⟨"StackPolicyKernel", "time", "()I"⟩, ⟨"StackPolicyKernel", "ran", "(I)I"⟩, ⟨"StackPolicyKernel", "queued", "(I)I"⟩, ⟨"StackPolicyKernel", "holder", "(I)I"⟩, ⟨"StackPolicyKernel", "systemCeiling", "()I"⟩, ⟨"StackPolicyKernel", "job", "(II)I"⟩, ⟨"StackPolicyKernel", "misses", "(I)I"⟩, ⟨"StackPolicyKernel", "worst", "(I)I"⟩, ⟨"StackPolicyKernel", "serverFigure", "(I)I"⟩, ⟨"StackPolicyKernel", "count", "(I)I"⟩, ⟨"StackPolicyKernel", "isTask", "(I)Z"⟩, ⟨"StackPolicyKernel", "isResource", "(I)Z"⟩, ⟨"StackPolicyKernel", "begunPendingJobs", "()I"⟩, ⟨"StackPolicyKernel", "passes", "(LStackPolicyKernel$Task;)Z"⟩, ⟨"StackPolicyKernel", "longestHoldAgainst", "(LStackPolicyKernel$Task;)I"⟩, ⟨"StackPolicyKernel", "isInOrder", "(I)Z"⟩, ⟨"StackPolicyKernel", "deadlineOf", "(I)I"⟩, ⟨"StackPolicyKernel", "comesBefore", "(II)Z"⟩, ⟨"StackPolicyKernel", "placeInOrder", "(I)I"⟩, ⟨"StackPolicyKernel", "firstInOrder", "()I"⟩, ⟨"StackPolicyKernel", "highestHeldCeiling", "()I"⟩, ⟨"StackPolicyKernel", "makeTick", "()V"⟩, ⟨"StackPolicyKernel", "chooseRunner", "(I)I"⟩, ⟨"StackPolicyKernel", "runJob", "(I)V"⟩, ⟨"StackPolicyKernel", "noteBlocked", "(I)V"⟩, ⟨"StackPolicyKernel", "noteMisses", "()V"⟩, ⟨"StackPolicyKernelModel", "<init>", "()V"⟩, ⟨"StackPolicyKernelModel", "rising", "(IIII)Z"⟩, ⟨"StackPolicyKernelModel", "task", "(III)I"⟩, ⟨"StackPolicyKernelModel", "isTask", "(I)Z"⟩, ⟨"StackPolicyKernelModel", "section", "(IIII)Z"⟩, ⟨"StackPolicyKernelModel", "server", "(II)Z"⟩, ⟨"StackPolicyKernelModel", "start", "()Z"⟩, ⟨"StackPolicyKernelModel", "level", "(I)I"⟩, ⟨"StackPolicyKernelModel", "ceiling", "(I)I"⟩, ⟨"StackPolicyKernelModel", "overhang", "(I)I"⟩, ⟨"StackPolicyKernelModel", "passes", "(I)Z"⟩, ⟨"StackPolicyKernelModel", "verdict", "()I"⟩, ⟨"StackPolicyKernelModel", "release", "(II)I"⟩, ⟨"StackPolicyKernelModel", "submit", "(I)Z"⟩, ⟨"StackPolicyKernelModel", "there", "(I)Z"⟩, ⟨"StackPolicyKernelModel", "deadline", "(I)I"⟩, ⟨"StackPolicyKernelModel", "earlier", "(II)Z"⟩, ⟨"StackPolicyKernelModel", "inOrder", "(I)I"⟩, ⟨"StackPolicyKernelModel", "holds", "(II)Z"⟩, ⟨"StackPolicyKernelModel", "holdsAny", "(I)Z"⟩, ⟨"StackPolicyKernelModel", "holder", "(I)I"⟩, ⟨"StackPolicyKernelModel", "systemCeiling", "()I"⟩, ⟨"StackPolicyKernelModel", "choice", "()I"⟩, ⟨"StackPolicyKernelModel", "serve", "()I"⟩, ⟨"StackPolicyKernelModel", "stop", "(II)V"⟩, ⟨"StackPolicyKernelModel", "work", "(I)I"⟩, ⟨"StackPolicyKernelModel", "tick", "()I"⟩, ⟨"StackPolicyKernelModel", "step", "(I)I"⟩, ⟨"StackPolicyKernelModel", "time", "()I"⟩, ⟨"StackPolicyKernelModel", "ran", "(I)I"⟩, ⟨"StackPolicyKernelModel", "queued", "(I)I"⟩, ⟨"StackPolicyKernelModel", "job", "(II)I"⟩, ⟨"StackPolicyKernelModel", "misses", "(I)I"⟩, ⟨"StackPolicyKernelModel", "worst", "(I)I"⟩, ⟨"StackPolicyKernelModel", "serverFigure", "(I)I"⟩, ⟨"StackPolicyKernelModel", "count", "(I)I"⟩, ⟨"StackPolicyKernelLaw", "law", "([I)Z"⟩] : List MethodName).getD μ ⟨"", "", ""⟩
def pg_mr (μ : Nat) : Option FieldType := ([none, some .boolean, some .boolean, none, some .boolean, some .boolean, some .boolean, none, none, some .int, none, some .int, some .boolean, none, some .int, some .boolean, some .boolean, some .boolean, some .int, none, none, none, some .boolean, none, some .boolean, some .int, none, some .int, some .int, none, none, some .int, none, some .int, some .boolean, some .boolean, some .boolean, some .int, some .int, some .int, some .boolean, some .int, some .int, some .int, some .int, some .int, some .int, some .int, some .int, some .int, some .int, some .int, some .boolean, some .boolean, some .int, some .boolean, some .int, some .boolean, some .int, some .boolean, some .int, some .int, some .int, none, some .int, none, none, none, none, some .boolean, some .int, some .boolean, some .boolean, some .boolean, some .boolean, some .int, some .int, some .int, some .boolean, some .int, some .int, some .boolean, some .boolean, some .int, some .boolean, some .int, some .boolean, some .boolean, some .int, some .int, some .int, some .int, none, some .int, some .int, some .int, some .int, some .int, some .int, some .int, some .int, some .int, some .int, some .int, some .boolean] : List (Option FieldType)).getD μ none
def pg_A0 : List Jvm.Cond := [.selects "StackPolicyKernel" ⟨"StackPolicyKernel", "isTask", "(I)Z"⟩ ⟨"StackPolicyKernel", "isTask", "(I)Z"⟩,
  .selects "StackPolicyKernel" ⟨"StackPolicyKernel", "passes", "(LStackPolicyKernel$Task;)Z"⟩ ⟨"StackPolicyKernel", "passes", "(LStackPolicyKernel$Task;)Z"⟩,
  .selects "StackPolicyKernel" ⟨"StackPolicyKernel", "longestHoldAgainst", "(LStackPolicyKernel$Task;)I"⟩ ⟨"StackPolicyKernel", "longestHoldAgainst", "(LStackPolicyKernel$Task;)I"⟩,
  .selects "StackPolicyKernel" ⟨"StackPolicyKernel", "makeTick", "()V"⟩ ⟨"StackPolicyKernel", "makeTick", "()V"⟩,
  .selects "StackPolicyKernel" ⟨"StackPolicyKernel", "firstInOrder", "()I"⟩ ⟨"StackPolicyKernel", "firstInOrder", "()I"⟩,
  .selects "StackPolicyKernel" ⟨"StackPolicyKernel", "isInOrder", "(I)Z"⟩ ⟨"StackPolicyKernel", "isInOrder", "(I)Z"⟩,
  .selects "StackPolicyKernel" ⟨"StackPolicyKernel", "comesBefore", "(II)Z"⟩ ⟨"StackPolicyKernel", "comesBefore", "(II)Z"⟩,
  .selects "StackPolicyKernel" ⟨"StackPolicyKernel", "deadlineOf", "(I)I"⟩ ⟨"StackPolicyKernel", "deadlineOf", "(I)I"⟩,
  .selects "StackPolicyKernel" ⟨"StackPolicyKernel", "chooseRunner", "(I)I"⟩ ⟨"StackPolicyKernel", "chooseRunner", "(I)I"⟩,
  .selects "StackPolicyKernel" ⟨"StackPolicyKernel", "highestHeldCeiling", "()I"⟩ ⟨"StackPolicyKernel", "highestHeldCeiling", "()I"⟩,
  .selects "StackPolicyKernel" ⟨"StackPolicyKernel", "runJob", "(I)V"⟩ ⟨"StackPolicyKernel", "runJob", "(I)V"⟩,
  .selects "StackPolicyKernel" ⟨"StackPolicyKernel", "noteBlocked", "(I)V"⟩ ⟨"StackPolicyKernel", "noteBlocked", "(I)V"⟩,
  .selects "StackPolicyKernel" ⟨"StackPolicyKernel", "noteMisses", "()V"⟩ ⟨"StackPolicyKernel", "noteMisses", "()V"⟩,
  .selects "StackPolicyKernel" ⟨"StackPolicyKernel", "placeInOrder", "(I)I"⟩ ⟨"StackPolicyKernel", "placeInOrder", "(I)I"⟩,
  .selects "StackPolicyKernel" ⟨"StackPolicyKernel", "begunPendingJobs", "()I"⟩ ⟨"StackPolicyKernel", "begunPendingJobs", "()I"⟩,
  .selects "StackPolicyKernelModel" ⟨"StackPolicyKernelModel", "isTask", "(I)Z"⟩ ⟨"StackPolicyKernelModel", "isTask", "(I)Z"⟩,
  .selects "StackPolicyKernelModel" ⟨"StackPolicyKernelModel", "level", "(I)I"⟩ ⟨"StackPolicyKernelModel", "level", "(I)I"⟩,
  .selects "StackPolicyKernelModel" ⟨"StackPolicyKernelModel", "passes", "(I)Z"⟩ ⟨"StackPolicyKernelModel", "passes", "(I)Z"⟩,
  .selects "StackPolicyKernelModel" ⟨"StackPolicyKernelModel", "overhang", "(I)I"⟩ ⟨"StackPolicyKernelModel", "overhang", "(I)I"⟩,
  .selects "StackPolicyKernelModel" ⟨"StackPolicyKernelModel", "holds", "(II)Z"⟩ ⟨"StackPolicyKernelModel", "holds", "(II)Z"⟩,
  .selects "StackPolicyKernelModel" ⟨"StackPolicyKernelModel", "tick", "()I"⟩ ⟨"StackPolicyKernelModel", "tick", "()I"⟩,
  .selects "StackPolicyKernelModel" ⟨"StackPolicyKernelModel", "choice", "()I"⟩ ⟨"StackPolicyKernelModel", "choice", "()I"⟩,
  .selects "StackPolicyKernelModel" ⟨"StackPolicyKernelModel", "inOrder", "(I)I"⟩ ⟨"StackPolicyKernelModel", "inOrder", "(I)I"⟩,
  .selects "StackPolicyKernelModel" ⟨"StackPolicyKernelModel", "there", "(I)Z"⟩ ⟨"StackPolicyKernelModel", "there", "(I)Z"⟩,
  .selects "StackPolicyKernelModel" ⟨"StackPolicyKernelModel", "earlier", "(II)Z"⟩ ⟨"StackPolicyKernelModel", "earlier", "(II)Z"⟩,
  .selects "StackPolicyKernelModel" ⟨"StackPolicyKernelModel", "deadline", "(I)I"⟩ ⟨"StackPolicyKernelModel", "deadline", "(I)I"⟩,
  .selects "StackPolicyKernelModel" ⟨"StackPolicyKernelModel", "serve", "()I"⟩ ⟨"StackPolicyKernelModel", "serve", "()I"⟩,
  .selects "StackPolicyKernelModel" ⟨"StackPolicyKernelModel", "work", "(I)I"⟩ ⟨"StackPolicyKernelModel", "work", "(I)I"⟩,
  .selects "StackPolicyKernelModel" ⟨"StackPolicyKernelModel", "holdsAny", "(I)Z"⟩ ⟨"StackPolicyKernelModel", "holdsAny", "(I)Z"⟩,
  .selects "StackPolicyKernelModel" ⟨"StackPolicyKernelModel", "stop", "(II)V"⟩ ⟨"StackPolicyKernelModel", "stop", "(II)V"⟩,
  .initialized "StackPolicyKernelLaw",
  .initialized "StackPolicyKernel",
  .initialized "StackPolicyKernel$Server",
  .initialized "StackPolicyKernel$Trace",
  .initialized "StackPolicyKernelModel",
  .initialized "StackPolicyKernel$Task",
  .initialized "StackPolicyKernel$Job",
  .initialized "StackPolicyKernel$Section",
  .initialized "java/lang/Math",
  .classLink "StackPolicyKernelLaw" 7 "StackPolicyKernel"]
def pg_A1 : List Jvm.Cond := [.instantiable "StackPolicyKernel" 8,
  .methodLink "StackPolicyKernelLaw" 9 ⟨"StackPolicyKernel", "<init>", "()V"⟩,
  .instanceMethod ⟨"StackPolicyKernel", "<init>", "()V"⟩,
  .code ⟨"StackPolicyKernel", "<init>", "()V"⟩ prog_1_method_1_code 1 (Option.none : Option Jvm.ClassFile.FieldType),
  .methodLink "StackPolicyKernel" 1 ⟨"java/lang/Object", "<init>", "()V"⟩,
  .instanceMethod ⟨"java/lang/Object", "<init>", "()V"⟩,
  .code ⟨"java/lang/Object", "<init>", "()V"⟩ object_method_1_code 1 (Option.none : Option Jvm.ClassFile.FieldType),
  .classLink "StackPolicyKernel" 9 "StackPolicyKernel$Task",
  .classLink "StackPolicyKernel" 19 "StackPolicyKernel$Server",
  .instantiable "StackPolicyKernel$Server" 9,
  .instanceMethod ⟨"StackPolicyKernel$Server", "<init>", "()V"⟩,
  .code ⟨"StackPolicyKernel$Server", "<init>", "()V"⟩ prog_4_method_1_code 1 (Option.none : Option Jvm.ClassFile.FieldType),
  .methodLink "StackPolicyKernel$Server" 3 ⟨"java/lang/Object", "<init>", "()V"⟩,
  .fieldLink "StackPolicyKernel$Server" 9 "StackPolicyKernel$Server" "needs" "[I",
  .fieldLink "StackPolicyKernel$Server" 15 "StackPolicyKernel$Server" "oldest" "I",
  .fieldLink "StackPolicyKernel$Server" 19 "StackPolicyKernel$Server" "waiting" "I",
  .fieldLink "StackPolicyKernel" 176 "StackPolicyKernel$Server" "waiting" "I",
  .fieldLink "StackPolicyKernel$Server" 22 "StackPolicyKernel$Server" "size" "I",
  .fieldLink "StackPolicyKernel" 169 "StackPolicyKernel$Server" "size" "I",
  .fieldLink "StackPolicyKernel$Server" 25 "StackPolicyKernel$Server" "period" "I",
  .fieldLink "StackPolicyKernel" 168 "StackPolicyKernel$Server" "period" "I",
  .fieldLink "StackPolicyKernel$Server" 28 "StackPolicyKernel$Server" "budget" "I",
  .fieldLink "StackPolicyKernel$Server" 31 "StackPolicyKernel$Server" "deadline" "I",
  .fieldLink "StackPolicyKernel" 179 "StackPolicyKernel$Server" "deadline" "I",
  .fieldLink "StackPolicyKernel$Server" 34 "StackPolicyKernel$Server" "usedUp" "I",
  .fieldLink "StackPolicyKernel$Server" 37 "StackPolicyKernel$Server" "finished" "I",
  .fieldLink "StackPolicyKernel" 120 "StackPolicyKernel$Server" "finished" "I",
  .laysFinal "StackPolicyKernel$Server" "StackPolicyKernel$Server" "needs" "[I",
  .lays "StackPolicyKernel$Server" "StackPolicyKernel$Server" "oldest" "I",
  .lays "StackPolicyKernel$Server" "StackPolicyKernel$Server" "waiting" "I",
  .lays "StackPolicyKernel$Server" "StackPolicyKernel$Server" "size" "I",
  .lays "StackPolicyKernel$Server" "StackPolicyKernel$Server" "period" "I",
  .lays "StackPolicyKernel$Server" "StackPolicyKernel$Server" "budget" "I",
  .lays "StackPolicyKernel$Server" "StackPolicyKernel$Server" "deadline" "I",
  .lays "StackPolicyKernel$Server" "StackPolicyKernel$Server" "usedUp" "I",
  .lays "StackPolicyKernel$Server" "StackPolicyKernel$Server" "finished" "I",
  .arrayClass Jvm.ClassFile.FieldType.int,
  .classLink "StackPolicyKernel" 26 "StackPolicyKernel$Trace",
  .instantiable "StackPolicyKernel$Trace" 4,
  .instanceMethod ⟨"StackPolicyKernel$Trace", "<init>", "()V"⟩]
def pg_A2 : List Jvm.Cond := [.code ⟨"StackPolicyKernel$Trace", "<init>", "()V"⟩ prog_6_method_1_code 1 (Option.none : Option Jvm.ClassFile.FieldType),
  .methodLink "StackPolicyKernel$Trace" 3 ⟨"java/lang/Object", "<init>", "()V"⟩,
  .fieldLink "StackPolicyKernel$Trace" 9 "StackPolicyKernel$Trace" "codes" "[I",
  .fieldLink "StackPolicyKernel$Trace" 15 "StackPolicyKernel$Trace" "ticks" "I",
  .fieldLink "StackPolicyKernel" 98 "StackPolicyKernel$Trace" "ticks" "I",
  .fieldLink "StackPolicyKernel$Trace" 19 "StackPolicyKernel$Trace" "idleTicks" "I",
  .fieldLink "StackPolicyKernel" 152 "StackPolicyKernel$Trace" "idleTicks" "I",
  .fieldLink "StackPolicyKernel$Trace" 22 "StackPolicyKernel$Trace" "changes" "I",
  .fieldLink "StackPolicyKernel" 155 "StackPolicyKernel$Trace" "changes" "I",
  .laysFinal "StackPolicyKernel$Trace" "StackPolicyKernel$Trace" "codes" "[I",
  .lays "StackPolicyKernel$Trace" "StackPolicyKernel$Trace" "ticks" "I",
  .lays "StackPolicyKernel$Trace" "StackPolicyKernel$Trace" "idleTicks" "I",
  .lays "StackPolicyKernel$Trace" "StackPolicyKernel$Trace" "changes" "I",
  .fieldLink "StackPolicyKernel" 11 "StackPolicyKernel" "tasks" "[LStackPolicyKernel$Task;",
  .fieldLink "StackPolicyKernel" 15 "StackPolicyKernel" "ceilings" "[I",
  .fieldLink "StackPolicyKernel" 22 "StackPolicyKernel" "theServer" "LStackPolicyKernel$Server;",
  .fieldLink "StackPolicyKernel" 29 "StackPolicyKernel" "trace" "LStackPolicyKernel$Trace;",
  .fieldLink "StackPolicyKernel" 33 "StackPolicyKernel" "taskCount" "I",
  .fieldLink "StackPolicyKernel" 37 "StackPolicyKernel" "started" "Z",
  .fieldLink "StackPolicyKernel" 41 "StackPolicyKernel" "releasedJobs" "I",
  .fieldLink "StackPolicyKernel" 44 "StackPolicyKernel" "endedJobs" "I",
  .laysFinal "StackPolicyKernel" "StackPolicyKernel" "tasks" "[LStackPolicyKernel$Task;",
  .laysFinal "StackPolicyKernel" "StackPolicyKernel" "ceilings" "[I",
  .laysFinal "StackPolicyKernel" "StackPolicyKernel" "theServer" "LStackPolicyKernel$Server;",
  .laysFinal "StackPolicyKernel" "StackPolicyKernel" "trace" "LStackPolicyKernel$Trace;",
  .lays "StackPolicyKernel" "StackPolicyKernel" "taskCount" "I",
  .lays "StackPolicyKernel" "StackPolicyKernel" "started" "Z",
  .lays "StackPolicyKernel" "StackPolicyKernel" "releasedJobs" "I",
  .lays "StackPolicyKernel" "StackPolicyKernel" "endedJobs" "I",
  .methodLink "StackPolicyKernelLaw" 13 ⟨"StackPolicyKernel", "task", "(III)I"⟩,
  .instanceMethod ⟨"StackPolicyKernel", "task", "(III)I"⟩,
  .selects "StackPolicyKernel" ⟨"StackPolicyKernel", "task", "(III)I"⟩ ⟨"StackPolicyKernel", "task", "(III)I"⟩,
  .code ⟨"StackPolicyKernel", "task", "(III)I"⟩ prog_1_method_2_code 5 (Option.some Jvm.ClassFile.FieldType.int),
  .instantiable "StackPolicyKernel$Task" 10,
  .methodLink "StackPolicyKernel" 47 ⟨"StackPolicyKernel$Task", "<init>", "(III)V"⟩,
  .instanceMethod ⟨"StackPolicyKernel$Task", "<init>", "(III)V"⟩,
  .code ⟨"StackPolicyKernel$Task", "<init>", "(III)V"⟩ prog_5_method_1_code 4 (Option.none : Option Jvm.ClassFile.FieldType),
  .methodLink "StackPolicyKernel$Task" 3 ⟨"java/lang/Object", "<init>", "()V"⟩,
  .classLink "StackPolicyKernel$Task" 9 "StackPolicyKernel$Section",
  .classLink "StackPolicyKernel$Task" 17 "StackPolicyKernel$Job"]
def pg_A3 : List Jvm.Cond := [.instantiable "StackPolicyKernel$Job" 7,
  .instanceMethod ⟨"StackPolicyKernel$Job", "<init>", "()V"⟩,
  .code ⟨"StackPolicyKernel$Job", "<init>", "()V"⟩ prog_2_method_1_code 1 (Option.none : Option Jvm.ClassFile.FieldType),
  .methodLink "StackPolicyKernel$Job" 3 ⟨"java/lang/Object", "<init>", "()V"⟩,
  .fieldLink "StackPolicyKernel$Job" 9 "StackPolicyKernel$Job" "countedSpells" "[I",
  .fieldLink "StackPolicyKernel$Job" 15 "StackPolicyKernel$Job" "amount" "I",
  .fieldLink "StackPolicyKernel$Job" 19 "StackPolicyKernel$Job" "ticksRun" "I",
  .fieldLink "StackPolicyKernel$Task" 75 "StackPolicyKernel$Job" "ticksRun" "I",
  .fieldLink "StackPolicyKernel$Job" 22 "StackPolicyKernel$Job" "releaseTime" "I",
  .fieldLink "StackPolicyKernel" 101 "StackPolicyKernel$Job" "releaseTime" "I",
  .fieldLink "StackPolicyKernel$Job" 25 "StackPolicyKernel$Job" "deadline" "I",
  .fieldLink "StackPolicyKernel" 182 "StackPolicyKernel$Job" "deadline" "I",
  .fieldLink "StackPolicyKernel$Job" 28 "StackPolicyKernel$Job" "blockings" "I",
  .fieldLink "StackPolicyKernel$Job" 31 "StackPolicyKernel$Job" "blockedTicks" "I",
  .laysFinal "StackPolicyKernel$Job" "StackPolicyKernel$Job" "countedSpells" "[I",
  .lays "StackPolicyKernel$Job" "StackPolicyKernel$Job" "amount" "I",
  .lays "StackPolicyKernel$Job" "StackPolicyKernel$Job" "ticksRun" "I",
  .lays "StackPolicyKernel$Job" "StackPolicyKernel$Job" "releaseTime" "I",
  .lays "StackPolicyKernel$Job" "StackPolicyKernel$Job" "deadline" "I",
  .lays "StackPolicyKernel$Job" "StackPolicyKernel$Job" "blockings" "I",
  .lays "StackPolicyKernel$Job" "StackPolicyKernel$Job" "blockedTicks" "I",
  .fieldLink "StackPolicyKernel$Task" 40 "StackPolicyKernel$Task" "period" "I",
  .fieldLink "StackPolicyKernel" 104 "StackPolicyKernel$Task" "period" "I",
  .fieldLink "StackPolicyKernel$Task" 43 "StackPolicyKernel$Task" "span" "I",
  .fieldLink "StackPolicyKernel" 107 "StackPolicyKernel$Task" "span" "I",
  .fieldLink "StackPolicyKernel$Task" 46 "StackPolicyKernel$Task" "cost" "I",
  .fieldLink "StackPolicyKernel" 57 "StackPolicyKernel$Task" "cost" "I",
  .fieldLink "StackPolicyKernel$Task" 11 "StackPolicyKernel$Task" "sections" "[LStackPolicyKernel$Section;",
  .fieldLink "StackPolicyKernel$Task" 20 "StackPolicyKernel$Task" "job" "LStackPolicyKernel$Job;",
  .fieldLink "StackPolicyKernel" 85 "StackPolicyKernel$Task" "job" "LStackPolicyKernel$Job;",
  .fieldLink "StackPolicyKernel$Task" 24 "StackPolicyKernel$Task" "sectionCount" "I",
  .fieldLink "StackPolicyKernel$Task" 28 "StackPolicyKernel$Task" "missedJobs" "I",
  .fieldLink "StackPolicyKernel" 145 "StackPolicyKernel$Task" "missedJobs" "I",
  .fieldLink "StackPolicyKernel$Task" 31 "StackPolicyKernel$Task" "longestResponse" "I",
  .fieldLink "StackPolicyKernel" 148 "StackPolicyKernel$Task" "longestResponse" "I",
  .fieldLink "StackPolicyKernel$Task" 34 "StackPolicyKernel$Task" "spells" "I",
  .fieldLink "StackPolicyKernel$Task" 37 "StackPolicyKernel$Task" "tickSpell" "I",
  .fieldLink "StackPolicyKernel" 219 "StackPolicyKernel$Task" "tickSpell" "I",
  .laysFinal "StackPolicyKernel$Task" "StackPolicyKernel$Task" "period" "I",
  .laysFinal "StackPolicyKernel$Task" "StackPolicyKernel$Task" "span" "I"]
def pg_A4 : List Jvm.Cond := [.laysFinal "StackPolicyKernel$Task" "StackPolicyKernel$Task" "cost" "I",
  .laysFinal "StackPolicyKernel$Task" "StackPolicyKernel$Task" "sections" "[LStackPolicyKernel$Section;",
  .laysFinal "StackPolicyKernel$Task" "StackPolicyKernel$Task" "job" "LStackPolicyKernel$Job;",
  .lays "StackPolicyKernel$Task" "StackPolicyKernel$Task" "sectionCount" "I",
  .lays "StackPolicyKernel$Task" "StackPolicyKernel$Task" "missedJobs" "I",
  .lays "StackPolicyKernel$Task" "StackPolicyKernel$Task" "longestResponse" "I",
  .lays "StackPolicyKernel$Task" "StackPolicyKernel$Task" "spells" "I",
  .lays "StackPolicyKernel$Task" "StackPolicyKernel$Task" "tickSpell" "I",
  .methodLink "StackPolicyKernelLaw" 18 ⟨"StackPolicyKernel", "section", "(IIII)Z"⟩,
  .instanceMethod ⟨"StackPolicyKernel", "section", "(IIII)Z"⟩,
  .selects "StackPolicyKernel" ⟨"StackPolicyKernel", "section", "(IIII)Z"⟩ ⟨"StackPolicyKernel", "section", "(IIII)Z"⟩,
  .code ⟨"StackPolicyKernel", "section", "(IIII)Z"⟩ prog_1_method_3_code 6 (Option.some Jvm.ClassFile.FieldType.boolean),
  .methodLink "StackPolicyKernel" 50 ⟨"StackPolicyKernel", "isTask", "(I)Z"⟩,
  .instanceMethod ⟨"StackPolicyKernel", "isTask", "(I)Z"⟩,
  .code ⟨"StackPolicyKernel", "isTask", "(I)Z"⟩ prog_1_method_21_code 2 (Option.some Jvm.ClassFile.FieldType.boolean),
  .methodLink "StackPolicyKernel" 54 ⟨"StackPolicyKernel", "isResource", "(I)Z"⟩,
  .static ⟨"StackPolicyKernel", "isResource", "(I)Z"⟩,
  .code ⟨"StackPolicyKernel", "isResource", "(I)Z"⟩ prog_1_method_22_code 1 (Option.some Jvm.ClassFile.FieldType.boolean),
  .methodLink "StackPolicyKernel" 60 ⟨"StackPolicyKernel$Task", "allowsSection", "(III)Z"⟩,
  .instanceMethod ⟨"StackPolicyKernel$Task", "allowsSection", "(III)Z"⟩,
  .selects "StackPolicyKernel$Task" ⟨"StackPolicyKernel$Task", "allowsSection", "(III)Z"⟩ ⟨"StackPolicyKernel$Task", "allowsSection", "(III)Z"⟩,
  .code ⟨"StackPolicyKernel$Task", "allowsSection", "(III)Z"⟩ prog_5_method_3_code 5 (Option.some Jvm.ClassFile.FieldType.boolean),
  .methodLink "StackPolicyKernel$Task" 49 ⟨"StackPolicyKernel$Section", "agreesWith", "(III)Z"⟩,
  .instanceMethod ⟨"StackPolicyKernel$Section", "agreesWith", "(III)Z"⟩,
  .selects "StackPolicyKernel$Section" ⟨"StackPolicyKernel$Section", "agreesWith", "(III)Z"⟩ ⟨"StackPolicyKernel$Section", "agreesWith", "(III)Z"⟩,
  .code ⟨"StackPolicyKernel$Section", "agreesWith", "(III)Z"⟩ prog_3_method_2_code 7 (Option.some Jvm.ClassFile.FieldType.boolean),
  .methodLink "StackPolicyKernel" 64 ⟨"StackPolicyKernel$Task", "addSection", "(III)V"⟩,
  .instanceMethod ⟨"StackPolicyKernel$Task", "addSection", "(III)V"⟩,
  .selects "StackPolicyKernel$Task" ⟨"StackPolicyKernel$Task", "addSection", "(III)V"⟩ ⟨"StackPolicyKernel$Task", "addSection", "(III)V"⟩,
  .code ⟨"StackPolicyKernel$Task", "addSection", "(III)V"⟩ prog_5_method_4_code 4 (Option.none : Option Jvm.ClassFile.FieldType),
  .instantiable "StackPolicyKernel$Section" 3,
  .methodLink "StackPolicyKernel$Task" 53 ⟨"StackPolicyKernel$Section", "<init>", "(III)V"⟩,
  .instanceMethod ⟨"StackPolicyKernel$Section", "<init>", "(III)V"⟩,
  .code ⟨"StackPolicyKernel$Section", "<init>", "(III)V"⟩ prog_3_method_1_code 4 (Option.none : Option Jvm.ClassFile.FieldType),
  .methodLink "StackPolicyKernel$Section" 1 ⟨"java/lang/Object", "<init>", "()V"⟩,
  .fieldLink "StackPolicyKernel$Section" 7 "StackPolicyKernel$Section" "resource" "I",
  .fieldLink "StackPolicyKernel$Task" 56 "StackPolicyKernel$Section" "resource" "I",
  .fieldLink "StackPolicyKernel$Section" 13 "StackPolicyKernel$Section" "from" "I",
  .fieldLink "StackPolicyKernel$Task" 62 "StackPolicyKernel$Section" "from" "I",
  .fieldLink "StackPolicyKernel$Section" 16 "StackPolicyKernel$Section" "to" "I"]
def pg_A5 : List Jvm.Cond := [.fieldLink "StackPolicyKernel$Task" 59 "StackPolicyKernel$Section" "to" "I",
  .laysFinal "StackPolicyKernel$Section" "StackPolicyKernel$Section" "resource" "I",
  .laysFinal "StackPolicyKernel$Section" "StackPolicyKernel$Section" "from" "I",
  .laysFinal "StackPolicyKernel$Section" "StackPolicyKernel$Section" "to" "I",
  .methodLink "StackPolicyKernel" 67 ⟨"StackPolicyKernel$Task", "level", "()I"⟩,
  .instanceMethod ⟨"StackPolicyKernel$Task", "level", "()I"⟩,
  .selects "StackPolicyKernel$Task" ⟨"StackPolicyKernel$Task", "level", "()I"⟩ ⟨"StackPolicyKernel$Task", "level", "()I"⟩,
  .code ⟨"StackPolicyKernel$Task", "level", "()I"⟩ prog_5_method_2_code 1 (Option.some Jvm.ClassFile.FieldType.int),
  .methodLink "StackPolicyKernel" 71 ⟨"java/lang/Math", "max", "(II)I"⟩,
  .static ⟨"java/lang/Math", "max", "(II)I"⟩,
  .code ⟨"java/lang/Math", "max", "(II)I"⟩ prog_9_method_65_code 2 (Option.some Jvm.ClassFile.FieldType.int),
  .methodLink "StackPolicyKernelLaw" 23 ⟨"StackPolicyKernel", "server", "(II)Z"⟩,
  .instanceMethod ⟨"StackPolicyKernel", "server", "(II)Z"⟩,
  .selects "StackPolicyKernel" ⟨"StackPolicyKernel", "server", "(II)Z"⟩ ⟨"StackPolicyKernel", "server", "(II)Z"⟩,
  .code ⟨"StackPolicyKernel", "server", "(II)Z"⟩ prog_1_method_4_code 3 (Option.some Jvm.ClassFile.FieldType.boolean),
  .methodLink "StackPolicyKernel" 77 ⟨"StackPolicyKernel$Server", "setUp", "(II)V"⟩,
  .instanceMethod ⟨"StackPolicyKernel$Server", "setUp", "(II)V"⟩,
  .selects "StackPolicyKernel$Server" ⟨"StackPolicyKernel$Server", "setUp", "(II)V"⟩ ⟨"StackPolicyKernel$Server", "setUp", "(II)V"⟩,
  .code ⟨"StackPolicyKernel$Server", "setUp", "(II)V"⟩ prog_4_method_3_code 3 (Option.none : Option Jvm.ClassFile.FieldType),
  .methodLink "StackPolicyKernelLaw" 28 ⟨"StackPolicyKernel", "start", "()Z"⟩,
  .instanceMethod ⟨"StackPolicyKernel", "start", "()Z"⟩,
  .selects "StackPolicyKernel" ⟨"StackPolicyKernel", "start", "()Z"⟩ ⟨"StackPolicyKernel", "start", "()Z"⟩,
  .code ⟨"StackPolicyKernel", "start", "()Z"⟩ prog_1_method_5_code 1 (Option.some Jvm.ClassFile.FieldType.boolean),
  .methodLink "StackPolicyKernelLaw" 33 ⟨"StackPolicyKernel", "verdict", "()I"⟩,
  .instanceMethod ⟨"StackPolicyKernel", "verdict", "()I"⟩,
  .selects "StackPolicyKernel" ⟨"StackPolicyKernel", "verdict", "()I"⟩ ⟨"StackPolicyKernel", "verdict", "()I"⟩,
  .code ⟨"StackPolicyKernel", "verdict", "()I"⟩ prog_1_method_6_code 2 (Option.some Jvm.ClassFile.FieldType.int),
  .methodLink "StackPolicyKernel" 81 ⟨"StackPolicyKernel", "passes", "(LStackPolicyKernel$Task;)Z"⟩,
  .instanceMethod ⟨"StackPolicyKernel", "passes", "(LStackPolicyKernel$Task;)Z"⟩,
  .code ⟨"StackPolicyKernel", "passes", "(LStackPolicyKernel$Task;)Z"⟩ prog_1_method_24_code 7 (Option.some Jvm.ClassFile.FieldType.boolean),
  .methodLink "StackPolicyKernel" 164 ⟨"StackPolicyKernel", "longestHoldAgainst", "(LStackPolicyKernel$Task;)I"⟩,
  .instanceMethod ⟨"StackPolicyKernel", "longestHoldAgainst", "(LStackPolicyKernel$Task;)I"⟩,
  .code ⟨"StackPolicyKernel", "longestHoldAgainst", "(LStackPolicyKernel$Task;)I"⟩ prog_1_method_25_code 4 (Option.some Jvm.ClassFile.FieldType.int),
  .methodLink "StackPolicyKernel" 172 ⟨"StackPolicyKernel$Task", "longestHold", "([II)I"⟩,
  .instanceMethod ⟨"StackPolicyKernel$Task", "longestHold", "([II)I"⟩,
  .selects "StackPolicyKernel$Task" ⟨"StackPolicyKernel$Task", "longestHold", "([II)I"⟩ ⟨"StackPolicyKernel$Task", "longestHold", "([II)I"⟩,
  .code ⟨"StackPolicyKernel$Task", "longestHold", "([II)I"⟩ prog_5_method_5_code 5 (Option.some Jvm.ClassFile.FieldType.int),
  .methodLink "StackPolicyKernel$Task" 65 ⟨"java/lang/Math", "max", "(II)I"⟩,
  .methodLink "StackPolicyKernel" 113 ⟨"StackPolicyKernel$Server", "exists", "()Z"⟩,
  .instanceMethod ⟨"StackPolicyKernel$Server", "exists", "()Z"⟩]
def pg_A6 : List Jvm.Cond := [.selects "StackPolicyKernel$Server" ⟨"StackPolicyKernel$Server", "exists", "()Z"⟩ ⟨"StackPolicyKernel$Server", "exists", "()Z"⟩,
  .code ⟨"StackPolicyKernel$Server", "exists", "()Z"⟩ prog_4_method_2_code 1 (Option.some Jvm.ClassFile.FieldType.boolean),
  .methodLink "StackPolicyKernelLaw" 38 ⟨"StackPolicyKernel", "ceiling", "(I)I"⟩,
  .instanceMethod ⟨"StackPolicyKernel", "ceiling", "(I)I"⟩,
  .selects "StackPolicyKernel" ⟨"StackPolicyKernel", "ceiling", "(I)I"⟩ ⟨"StackPolicyKernel", "ceiling", "(I)I"⟩,
  .code ⟨"StackPolicyKernel", "ceiling", "(I)I"⟩ prog_1_method_7_code 2 (Option.some Jvm.ClassFile.FieldType.int),
  .methodLink "StackPolicyKernelLaw" 43 ⟨"StackPolicyKernel", "release", "(II)I"⟩,
  .instanceMethod ⟨"StackPolicyKernel", "release", "(II)I"⟩,
  .selects "StackPolicyKernel" ⟨"StackPolicyKernel", "release", "(II)I"⟩ ⟨"StackPolicyKernel", "release", "(II)I"⟩,
  .code ⟨"StackPolicyKernel", "release", "(II)I"⟩ prog_1_method_8_code 4 (Option.some Jvm.ClassFile.FieldType.int),
  .methodLink "StackPolicyKernel" 89 ⟨"StackPolicyKernel$Job", "isPending", "()Z"⟩,
  .instanceMethod ⟨"StackPolicyKernel$Job", "isPending", "()Z"⟩,
  .selects "StackPolicyKernel$Job" ⟨"StackPolicyKernel$Job", "isPending", "()Z"⟩ ⟨"StackPolicyKernel$Job", "isPending", "()Z"⟩,
  .code ⟨"StackPolicyKernel$Job", "isPending", "()Z"⟩ prog_2_method_3_code 1 (Option.some Jvm.ClassFile.FieldType.boolean),
  .methodLink "StackPolicyKernel" 95 ⟨"StackPolicyKernel$Job", "wasReleased", "()Z"⟩,
  .instanceMethod ⟨"StackPolicyKernel$Job", "wasReleased", "()Z"⟩,
  .selects "StackPolicyKernel$Job" ⟨"StackPolicyKernel$Job", "wasReleased", "()Z"⟩ ⟨"StackPolicyKernel$Job", "wasReleased", "()Z"⟩,
  .code ⟨"StackPolicyKernel$Job", "wasReleased", "()Z"⟩ prog_2_method_2_code 1 (Option.some Jvm.ClassFile.FieldType.boolean),
  .methodLink "StackPolicyKernel" 110 ⟨"StackPolicyKernel$Job", "begin", "(III)V"⟩,
  .instanceMethod ⟨"StackPolicyKernel$Job", "begin", "(III)V"⟩,
  .selects "StackPolicyKernel$Job" ⟨"StackPolicyKernel$Job", "begin", "(III)V"⟩ ⟨"StackPolicyKernel$Job", "begin", "(III)V"⟩,
  .code ⟨"StackPolicyKernel$Job", "begin", "(III)V"⟩ prog_2_method_5_code 5 (Option.none : Option Jvm.ClassFile.FieldType),
  .methodLink "StackPolicyKernelLaw" 48 ⟨"StackPolicyKernel", "submit", "(I)Z"⟩,
  .instanceMethod ⟨"StackPolicyKernel", "submit", "(I)Z"⟩,
  .selects "StackPolicyKernel" ⟨"StackPolicyKernel", "submit", "(I)Z"⟩ ⟨"StackPolicyKernel", "submit", "(I)Z"⟩,
  .code ⟨"StackPolicyKernel", "submit", "(I)Z"⟩ prog_1_method_9_code 2 (Option.some Jvm.ClassFile.FieldType.boolean),
  .methodLink "StackPolicyKernel" 116 ⟨"StackPolicyKernel$Server", "takeRequest", "(II)Z"⟩,
  .instanceMethod ⟨"StackPolicyKernel$Server", "takeRequest", "(II)Z"⟩,
  .selects "StackPolicyKernel$Server" ⟨"StackPolicyKernel$Server", "takeRequest", "(II)Z"⟩ ⟨"StackPolicyKernel$Server", "takeRequest", "(II)Z"⟩,
  .code ⟨"StackPolicyKernel$Server", "takeRequest", "(II)Z"⟩ prog_4_method_4_code 3 (Option.some Jvm.ClassFile.FieldType.boolean),
  .methodLink "StackPolicyKernel$Server" 40 ⟨"StackPolicyKernel$Server", "slot", "(I)I"⟩,
  .instanceMethod ⟨"StackPolicyKernel$Server", "slot", "(I)I"⟩,
  .selects "StackPolicyKernel$Server" ⟨"StackPolicyKernel$Server", "slot", "(I)I"⟩ ⟨"StackPolicyKernel$Server", "slot", "(I)I"⟩,
  .code ⟨"StackPolicyKernel$Server", "slot", "(I)I"⟩ prog_4_method_5_code 2 (Option.some Jvm.ClassFile.FieldType.int),
  .methodLink "StackPolicyKernelLaw" 53 ⟨"StackPolicyKernel", "step", "(I)I"⟩,
  .instanceMethod ⟨"StackPolicyKernel", "step", "(I)I"⟩,
  .selects "StackPolicyKernel" ⟨"StackPolicyKernel", "step", "(I)I"⟩ ⟨"StackPolicyKernel", "step", "(I)I"⟩,
  .code ⟨"StackPolicyKernel", "step", "(I)I"⟩ prog_1_method_10_code 4 (Option.some Jvm.ClassFile.FieldType.int),
  .methodLink "StackPolicyKernel" 123 ⟨"StackPolicyKernel", "makeTick", "()V"⟩,
  .instanceMethod ⟨"StackPolicyKernel", "makeTick", "()V"⟩]
def pg_A7 : List Jvm.Cond := [.code ⟨"StackPolicyKernel", "makeTick", "()V"⟩ prog_1_method_32_code 3 (Option.none : Option Jvm.ClassFile.FieldType),
  .methodLink "StackPolicyKernel" 193 ⟨"StackPolicyKernel", "firstInOrder", "()I"⟩,
  .instanceMethod ⟨"StackPolicyKernel", "firstInOrder", "()I"⟩,
  .code ⟨"StackPolicyKernel", "firstInOrder", "()I"⟩ prog_1_method_30_code 3 (Option.some Jvm.ClassFile.FieldType.int),
  .methodLink "StackPolicyKernel" 130 ⟨"StackPolicyKernel", "isInOrder", "(I)Z"⟩,
  .instanceMethod ⟨"StackPolicyKernel", "isInOrder", "(I)Z"⟩,
  .code ⟨"StackPolicyKernel", "isInOrder", "(I)Z"⟩ prog_1_method_26_code 2 (Option.some Jvm.ClassFile.FieldType.boolean),
  .methodLink "StackPolicyKernel" 186 ⟨"StackPolicyKernel", "comesBefore", "(II)Z"⟩,
  .instanceMethod ⟨"StackPolicyKernel", "comesBefore", "(II)Z"⟩,
  .code ⟨"StackPolicyKernel", "comesBefore", "(II)Z"⟩ prog_1_method_28_code 5 (Option.some Jvm.ClassFile.FieldType.boolean),
  .methodLink "StackPolicyKernel" 183 ⟨"StackPolicyKernel", "deadlineOf", "(I)I"⟩,
  .instanceMethod ⟨"StackPolicyKernel", "deadlineOf", "(I)I"⟩,
  .code ⟨"StackPolicyKernel", "deadlineOf", "(I)I"⟩ prog_1_method_27_code 2 (Option.some Jvm.ClassFile.FieldType.int),
  .methodLink "StackPolicyKernel" 196 ⟨"StackPolicyKernel", "chooseRunner", "(I)I"⟩,
  .instanceMethod ⟨"StackPolicyKernel", "chooseRunner", "(I)I"⟩,
  .code ⟨"StackPolicyKernel", "chooseRunner", "(I)I"⟩ prog_1_method_33_code 5 (Option.some Jvm.ClassFile.FieldType.int),
  .methodLink "StackPolicyKernel" 161 ⟨"StackPolicyKernel$Job", "hasRun", "()Z"⟩,
  .instanceMethod ⟨"StackPolicyKernel$Job", "hasRun", "()Z"⟩,
  .selects "StackPolicyKernel$Job" ⟨"StackPolicyKernel$Job", "hasRun", "()Z"⟩ ⟨"StackPolicyKernel$Job", "hasRun", "()Z"⟩,
  .code ⟨"StackPolicyKernel$Job", "hasRun", "()Z"⟩ prog_2_method_4_code 1 (Option.some Jvm.ClassFile.FieldType.boolean),
  .methodLink "StackPolicyKernel" 139 ⟨"StackPolicyKernel", "highestHeldCeiling", "()I"⟩,
  .instanceMethod ⟨"StackPolicyKernel", "highestHeldCeiling", "()I"⟩,
  .code ⟨"StackPolicyKernel", "highestHeldCeiling", "()I"⟩ prog_1_method_31_code 3 (Option.some Jvm.ClassFile.FieldType.int),
  .methodLink "StackPolicyKernel" 189 ⟨"StackPolicyKernel$Task", "highestHeld", "([I)I"⟩,
  .instanceMethod ⟨"StackPolicyKernel$Task", "highestHeld", "([I)I"⟩,
  .selects "StackPolicyKernel$Task" ⟨"StackPolicyKernel$Task", "highestHeld", "([I)I"⟩ ⟨"StackPolicyKernel$Task", "highestHeld", "([I)I"⟩,
  .code ⟨"StackPolicyKernel$Task", "highestHeld", "([I)I"⟩ prog_5_method_9_code 4 (Option.some Jvm.ClassFile.FieldType.int),
  .methodLink "StackPolicyKernel$Task" 82 ⟨"StackPolicyKernel$Task", "isHeld", "(LStackPolicyKernel$Section;)Z"⟩,
  .instanceMethod ⟨"StackPolicyKernel$Task", "isHeld", "(LStackPolicyKernel$Section;)Z"⟩,
  .selects "StackPolicyKernel$Task" ⟨"StackPolicyKernel$Task", "isHeld", "(LStackPolicyKernel$Section;)Z"⟩ ⟨"StackPolicyKernel$Task", "isHeld", "(LStackPolicyKernel$Section;)Z"⟩,
  .code ⟨"StackPolicyKernel$Task", "isHeld", "(LStackPolicyKernel$Section;)Z"⟩ prog_5_method_6_code 2 (Option.some Jvm.ClassFile.FieldType.boolean),
  .methodLink "StackPolicyKernel$Task" 71 ⟨"StackPolicyKernel$Job", "isPending", "()Z"⟩,
  .methodLink "StackPolicyKernel$Task" 78 ⟨"StackPolicyKernel$Section", "isHeldAfter", "(I)Z"⟩,
  .instanceMethod ⟨"StackPolicyKernel$Section", "isHeldAfter", "(I)Z"⟩,
  .selects "StackPolicyKernel$Section" ⟨"StackPolicyKernel$Section", "isHeldAfter", "(I)Z"⟩ ⟨"StackPolicyKernel$Section", "isHeldAfter", "(I)Z"⟩,
  .code ⟨"StackPolicyKernel$Section", "isHeldAfter", "(I)Z"⟩ prog_3_method_3_code 2 (Option.some Jvm.ClassFile.FieldType.boolean),
  .methodLink "StackPolicyKernel" 199 ⟨"StackPolicyKernel$Server", "runTick", "()V"⟩,
  .instanceMethod ⟨"StackPolicyKernel$Server", "runTick", "()V"⟩,
  .selects "StackPolicyKernel$Server" ⟨"StackPolicyKernel$Server", "runTick", "()V"⟩ ⟨"StackPolicyKernel$Server", "runTick", "()V"⟩,
  .code ⟨"StackPolicyKernel$Server", "runTick", "()V"⟩ prog_4_method_6_code 1 (Option.none : Option Jvm.ClassFile.FieldType)]
def pg_A8 : List Jvm.Cond := [.methodLink "StackPolicyKernel" 202 ⟨"StackPolicyKernel", "runJob", "(I)V"⟩,
  .instanceMethod ⟨"StackPolicyKernel", "runJob", "(I)V"⟩,
  .code ⟨"StackPolicyKernel", "runJob", "(I)V"⟩ prog_1_method_34_code 2 (Option.none : Option Jvm.ClassFile.FieldType),
  .methodLink "StackPolicyKernel" 215 ⟨"StackPolicyKernel$Task", "runTick", "()V"⟩,
  .instanceMethod ⟨"StackPolicyKernel$Task", "runTick", "()V"⟩,
  .selects "StackPolicyKernel$Task" ⟨"StackPolicyKernel$Task", "runTick", "()V"⟩ ⟨"StackPolicyKernel$Task", "runTick", "()V"⟩,
  .code ⟨"StackPolicyKernel$Task", "runTick", "()V"⟩ prog_5_method_10_code 3 (Option.none : Option Jvm.ClassFile.FieldType),
  .methodLink "StackPolicyKernel$Task" 86 ⟨"StackPolicyKernel$Task", "holdsSomething", "()Z"⟩,
  .instanceMethod ⟨"StackPolicyKernel$Task", "holdsSomething", "()Z"⟩,
  .selects "StackPolicyKernel$Task" ⟨"StackPolicyKernel$Task", "holdsSomething", "()Z"⟩ ⟨"StackPolicyKernel$Task", "holdsSomething", "()Z"⟩,
  .code ⟨"StackPolicyKernel$Task", "holdsSomething", "()Z"⟩ prog_5_method_8_code 2 (Option.some Jvm.ClassFile.FieldType.boolean),
  .methodLink "StackPolicyKernel" 216 ⟨"StackPolicyKernel$Task", "noteResponse", "(I)V"⟩,
  .instanceMethod ⟨"StackPolicyKernel$Task", "noteResponse", "(I)V"⟩,
  .selects "StackPolicyKernel$Task" ⟨"StackPolicyKernel$Task", "noteResponse", "(I)V"⟩ ⟨"StackPolicyKernel$Task", "noteResponse", "(I)V"⟩,
  .code ⟨"StackPolicyKernel$Task", "noteResponse", "(I)V"⟩ prog_5_method_11_code 2 (Option.none : Option Jvm.ClassFile.FieldType),
  .methodLink "StackPolicyKernel" 206 ⟨"StackPolicyKernel", "noteBlocked", "(I)V"⟩,
  .instanceMethod ⟨"StackPolicyKernel", "noteBlocked", "(I)V"⟩,
  .code ⟨"StackPolicyKernel", "noteBlocked", "(I)V"⟩ prog_1_method_35_code 4 (Option.none : Option Jvm.ClassFile.FieldType),
  .methodLink "StackPolicyKernel" 222 ⟨"StackPolicyKernel$Job", "noteBlocked", "(II)V"⟩,
  .instanceMethod ⟨"StackPolicyKernel$Job", "noteBlocked", "(II)V"⟩,
  .selects "StackPolicyKernel$Job" ⟨"StackPolicyKernel$Job", "noteBlocked", "(II)V"⟩ ⟨"StackPolicyKernel$Job", "noteBlocked", "(II)V"⟩,
  .code ⟨"StackPolicyKernel$Job", "noteBlocked", "(II)V"⟩ prog_2_method_6_code 3 (Option.none : Option Jvm.ClassFile.FieldType),
  .methodLink "StackPolicyKernel" 209 ⟨"StackPolicyKernel$Trace", "note", "(I)V"⟩,
  .instanceMethod ⟨"StackPolicyKernel$Trace", "note", "(I)V"⟩,
  .selects "StackPolicyKernel$Trace" ⟨"StackPolicyKernel$Trace", "note", "(I)V"⟩ ⟨"StackPolicyKernel$Trace", "note", "(I)V"⟩,
  .code ⟨"StackPolicyKernel$Trace", "note", "(I)V"⟩ prog_6_method_2_code 2 (Option.none : Option Jvm.ClassFile.FieldType),
  .methodLink "StackPolicyKernel$Trace" 25 ⟨"StackPolicyKernel$Trace", "codeBack", "(I)I"⟩,
  .instanceMethod ⟨"StackPolicyKernel$Trace", "codeBack", "(I)I"⟩,
  .selects "StackPolicyKernel$Trace" ⟨"StackPolicyKernel$Trace", "codeBack", "(I)I"⟩ ⟨"StackPolicyKernel$Trace", "codeBack", "(I)I"⟩,
  .code ⟨"StackPolicyKernel$Trace", "codeBack", "(I)I"⟩ prog_6_method_3_code 2 (Option.some Jvm.ClassFile.FieldType.int),
  .methodLink "StackPolicyKernel" 212 ⟨"StackPolicyKernel", "noteMisses", "()V"⟩,
  .instanceMethod ⟨"StackPolicyKernel", "noteMisses", "()V"⟩,
  .code ⟨"StackPolicyKernel", "noteMisses", "()V"⟩ prog_1_method_36_code 2 (Option.none : Option Jvm.ClassFile.FieldType),
  .methodLink "StackPolicyKernelLaw" 57 ⟨"StackPolicyKernel", "time", "()I"⟩,
  .instanceMethod ⟨"StackPolicyKernel", "time", "()I"⟩,
  .selects "StackPolicyKernel" ⟨"StackPolicyKernel", "time", "()I"⟩ ⟨"StackPolicyKernel", "time", "()I"⟩,
  .code ⟨"StackPolicyKernel", "time", "()I"⟩ prog_1_method_11_code 1 (Option.some Jvm.ClassFile.FieldType.int),
  .methodLink "StackPolicyKernelLaw" 61 ⟨"StackPolicyKernel", "ran", "(I)I"⟩,
  .instanceMethod ⟨"StackPolicyKernel", "ran", "(I)I"⟩,
  .selects "StackPolicyKernel" ⟨"StackPolicyKernel", "ran", "(I)I"⟩ ⟨"StackPolicyKernel", "ran", "(I)I"⟩]
def pg_A9 : List Jvm.Cond := [.code ⟨"StackPolicyKernel", "ran", "(I)I"⟩ prog_1_method_12_code 2 (Option.some Jvm.ClassFile.FieldType.int),
  .methodLink "StackPolicyKernel" 126 ⟨"StackPolicyKernel$Trace", "codeBack", "(I)I"⟩,
  .methodLink "StackPolicyKernelLaw" 65 ⟨"StackPolicyKernel", "queued", "(I)I"⟩,
  .instanceMethod ⟨"StackPolicyKernel", "queued", "(I)I"⟩,
  .selects "StackPolicyKernel" ⟨"StackPolicyKernel", "queued", "(I)I"⟩ ⟨"StackPolicyKernel", "queued", "(I)I"⟩,
  .code ⟨"StackPolicyKernel", "queued", "(I)I"⟩ prog_1_method_13_code 3 (Option.some Jvm.ClassFile.FieldType.int),
  .methodLink "StackPolicyKernel" 133 ⟨"StackPolicyKernel", "placeInOrder", "(I)I"⟩,
  .instanceMethod ⟨"StackPolicyKernel", "placeInOrder", "(I)I"⟩,
  .code ⟨"StackPolicyKernel", "placeInOrder", "(I)I"⟩ prog_1_method_29_code 4 (Option.some Jvm.ClassFile.FieldType.int),
  .methodLink "StackPolicyKernelLaw" 69 ⟨"StackPolicyKernel", "holder", "(I)I"⟩,
  .instanceMethod ⟨"StackPolicyKernel", "holder", "(I)I"⟩,
  .selects "StackPolicyKernel" ⟨"StackPolicyKernel", "holder", "(I)I"⟩ ⟨"StackPolicyKernel", "holder", "(I)I"⟩,
  .code ⟨"StackPolicyKernel", "holder", "(I)I"⟩ prog_1_method_14_code 3 (Option.some Jvm.ClassFile.FieldType.int),
  .methodLink "StackPolicyKernel" 136 ⟨"StackPolicyKernel$Task", "holds", "(I)Z"⟩,
  .instanceMethod ⟨"StackPolicyKernel$Task", "holds", "(I)Z"⟩,
  .selects "StackPolicyKernel$Task" ⟨"StackPolicyKernel$Task", "holds", "(I)Z"⟩ ⟨"StackPolicyKernel$Task", "holds", "(I)Z"⟩,
  .code ⟨"StackPolicyKernel$Task", "holds", "(I)Z"⟩ prog_5_method_7_code 3 (Option.some Jvm.ClassFile.FieldType.boolean),
  .methodLink "StackPolicyKernelLaw" 73 ⟨"StackPolicyKernel", "systemCeiling", "()I"⟩,
  .instanceMethod ⟨"StackPolicyKernel", "systemCeiling", "()I"⟩,
  .selects "StackPolicyKernel" ⟨"StackPolicyKernel", "systemCeiling", "()I"⟩ ⟨"StackPolicyKernel", "systemCeiling", "()I"⟩,
  .code ⟨"StackPolicyKernel", "systemCeiling", "()I"⟩ prog_1_method_15_code 1 (Option.some Jvm.ClassFile.FieldType.int),
  .methodLink "StackPolicyKernelLaw" 77 ⟨"StackPolicyKernel", "job", "(II)I"⟩,
  .instanceMethod ⟨"StackPolicyKernel", "job", "(II)I"⟩,
  .selects "StackPolicyKernel" ⟨"StackPolicyKernel", "job", "(II)I"⟩ ⟨"StackPolicyKernel", "job", "(II)I"⟩,
  .code ⟨"StackPolicyKernel", "job", "(II)I"⟩ prog_1_method_16_code 3 (Option.some Jvm.ClassFile.FieldType.int),
  .methodLink "StackPolicyKernel" 142 ⟨"StackPolicyKernel$Job", "figure", "(I)I"⟩,
  .instanceMethod ⟨"StackPolicyKernel$Job", "figure", "(I)I"⟩,
  .selects "StackPolicyKernel$Job" ⟨"StackPolicyKernel$Job", "figure", "(I)I"⟩ ⟨"StackPolicyKernel$Job", "figure", "(I)I"⟩,
  .code ⟨"StackPolicyKernel$Job", "figure", "(I)I"⟩ prog_2_method_7_code 2 (Option.some Jvm.ClassFile.FieldType.int),
  .methodLink "StackPolicyKernelLaw" 81 ⟨"StackPolicyKernel", "misses", "(I)I"⟩,
  .instanceMethod ⟨"StackPolicyKernel", "misses", "(I)I"⟩,
  .selects "StackPolicyKernel" ⟨"StackPolicyKernel", "misses", "(I)I"⟩ ⟨"StackPolicyKernel", "misses", "(I)I"⟩,
  .code ⟨"StackPolicyKernel", "misses", "(I)I"⟩ prog_1_method_17_code 2 (Option.some Jvm.ClassFile.FieldType.int),
  .methodLink "StackPolicyKernelLaw" 85 ⟨"StackPolicyKernel", "worst", "(I)I"⟩,
  .instanceMethod ⟨"StackPolicyKernel", "worst", "(I)I"⟩,
  .selects "StackPolicyKernel" ⟨"StackPolicyKernel", "worst", "(I)I"⟩ ⟨"StackPolicyKernel", "worst", "(I)I"⟩,
  .code ⟨"StackPolicyKernel", "worst", "(I)I"⟩ prog_1_method_18_code 2 (Option.some Jvm.ClassFile.FieldType.int),
  .methodLink "StackPolicyKernelLaw" 89 ⟨"StackPolicyKernel", "serverFigure", "(I)I"⟩,
  .instanceMethod ⟨"StackPolicyKernel", "serverFigure", "(I)I"⟩,
  .selects "StackPolicyKernel" ⟨"StackPolicyKernel", "serverFigure", "(I)I"⟩ ⟨"StackPolicyKernel", "serverFigure", "(I)I"⟩]
def pg_A10 : List Jvm.Cond := [.code ⟨"StackPolicyKernel", "serverFigure", "(I)I"⟩ prog_1_method_19_code 2 (Option.some Jvm.ClassFile.FieldType.int),
  .methodLink "StackPolicyKernel" 151 ⟨"StackPolicyKernel$Server", "figure", "(I)I"⟩,
  .instanceMethod ⟨"StackPolicyKernel$Server", "figure", "(I)I"⟩,
  .selects "StackPolicyKernel$Server" ⟨"StackPolicyKernel$Server", "figure", "(I)I"⟩ ⟨"StackPolicyKernel$Server", "figure", "(I)I"⟩,
  .code ⟨"StackPolicyKernel$Server", "figure", "(I)I"⟩ prog_4_method_8_code 2 (Option.some Jvm.ClassFile.FieldType.int),
  .methodLink "StackPolicyKernel$Server" 44 ⟨"StackPolicyKernel$Server", "neededTicks", "()I"⟩,
  .instanceMethod ⟨"StackPolicyKernel$Server", "neededTicks", "()I"⟩,
  .selects "StackPolicyKernel$Server" ⟨"StackPolicyKernel$Server", "neededTicks", "()I"⟩ ⟨"StackPolicyKernel$Server", "neededTicks", "()I"⟩,
  .code ⟨"StackPolicyKernel$Server", "neededTicks", "()I"⟩ prog_4_method_7_code 3 (Option.some Jvm.ClassFile.FieldType.int),
  .methodLink "StackPolicyKernelLaw" 93 ⟨"StackPolicyKernel", "count", "(I)I"⟩,
  .instanceMethod ⟨"StackPolicyKernel", "count", "(I)I"⟩,
  .selects "StackPolicyKernel" ⟨"StackPolicyKernel", "count", "(I)I"⟩ ⟨"StackPolicyKernel", "count", "(I)I"⟩,
  .code ⟨"StackPolicyKernel", "count", "(I)I"⟩ prog_1_method_20_code 2 (Option.some Jvm.ClassFile.FieldType.int),
  .methodLink "StackPolicyKernel" 158 ⟨"StackPolicyKernel", "begunPendingJobs", "()I"⟩,
  .instanceMethod ⟨"StackPolicyKernel", "begunPendingJobs", "()I"⟩,
  .code ⟨"StackPolicyKernel", "begunPendingJobs", "()I"⟩ prog_1_method_23_code 3 (Option.some Jvm.ClassFile.FieldType.int),
  .classLink "StackPolicyKernelLaw" 10 "StackPolicyKernelModel",
  .instantiable "StackPolicyKernelModel" 35,
  .methodLink "StackPolicyKernelLaw" 12 ⟨"StackPolicyKernelModel", "<init>", "()V"⟩,
  .instanceMethod ⟨"StackPolicyKernelModel", "<init>", "()V"⟩,
  .code ⟨"StackPolicyKernelModel", "<init>", "()V"⟩ prog_8_method_1_code 1 (Option.none : Option Jvm.ClassFile.FieldType),
  .methodLink "StackPolicyKernelModel" 1 ⟨"java/lang/Object", "<init>", "()V"⟩,
  .fieldLink "StackPolicyKernelModel" 71 "StackPolicyKernelModel" "tasks" "I",
  .fieldLink "StackPolicyKernelModel" 7 "StackPolicyKernelModel" "period" "[I",
  .fieldLink "StackPolicyKernelModel" 13 "StackPolicyKernelModel" "span" "[I",
  .fieldLink "StackPolicyKernelModel" 16 "StackPolicyKernelModel" "cost" "[I",
  .fieldLink "StackPolicyKernelModel" 19 "StackPolicyKernelModel" "parts" "[I",
  .fieldLink "StackPolicyKernelModel" 22 "StackPolicyKernelModel" "resource" "[I",
  .fieldLink "StackPolicyKernelModel" 25 "StackPolicyKernelModel" "from" "[I",
  .fieldLink "StackPolicyKernelModel" 28 "StackPolicyKernelModel" "to" "[I",
  .fieldLink "StackPolicyKernelModel" 67 "StackPolicyKernelModel" "started" "Z",
  .fieldLink "StackPolicyKernelModel" 105 "StackPolicyKernelModel" "now" "I",
  .fieldLink "StackPolicyKernelModel" 83 "StackPolicyKernelModel" "size" "I",
  .fieldLink "StackPolicyKernelModel" 86 "StackPolicyKernelModel" "cycle" "I",
  .fieldLink "StackPolicyKernelModel" 89 "StackPolicyKernelModel" "budget" "I",
  .fieldLink "StackPolicyKernelModel" 114 "StackPolicyKernelModel" "due" "I",
  .fieldLink "StackPolicyKernelModel" 111 "StackPolicyKernelModel" "waits" "I",
  .fieldLink "StackPolicyKernelModel" 31 "StackPolicyKernelModel" "need" "[I",
  .fieldLink "StackPolicyKernelModel" 143 "StackPolicyKernelModel" "usedUp" "I",
  .fieldLink "StackPolicyKernelModel" 140 "StackPolicyKernelModel" "served" "I"]
def pg_A11 : List Jvm.Cond := [.fieldLink "StackPolicyKernelModel" 34 "StackPolicyKernelModel" "phase" "[I",
  .fieldLink "StackPolicyKernelModel" 37 "StackPolicyKernelModel" "since" "[I",
  .fieldLink "StackPolicyKernelModel" 40 "StackPolicyKernelModel" "amount" "[I",
  .fieldLink "StackPolicyKernelModel" 43 "StackPolicyKernelModel" "done" "[I",
  .fieldLink "StackPolicyKernelModel" 46 "StackPolicyKernelModel" "stopped" "[I",
  .fieldLink "StackPolicyKernelModel" 49 "StackPolicyKernelModel" "inSpell" "[I",
  .fieldLink "StackPolicyKernelModel" 52 "StackPolicyKernelModel" "spellCount" "[I",
  .fieldLink "StackPolicyKernelModel" 55 "StackPolicyKernelModel" "spell" "[I",
  .fieldLink "StackPolicyKernelModel" 58 "StackPolicyKernelModel" "missed" "[I",
  .fieldLink "StackPolicyKernelModel" 61 "StackPolicyKernelModel" "longest" "[I",
  .fieldLink "StackPolicyKernelModel" 149 "StackPolicyKernelModel" "spells" "I",
  .fieldLink "StackPolicyKernelModel" 108 "StackPolicyKernelModel" "jobs" "I",
  .fieldLink "StackPolicyKernelModel" 156 "StackPolicyKernelModel" "ended" "I",
  .fieldLink "StackPolicyKernelModel" 168 "StackPolicyKernelModel" "idle" "I",
  .fieldLink "StackPolicyKernelModel" 174 "StackPolicyKernelModel" "changes" "I",
  .fieldLink "StackPolicyKernelModel" 171 "StackPolicyKernelModel" "ticks" "I",
  .fieldLink "StackPolicyKernelModel" 64 "StackPolicyKernelModel" "codes" "[I",
  .lays "StackPolicyKernelModel" "StackPolicyKernelModel" "tasks" "I",
  .laysFinal "StackPolicyKernelModel" "StackPolicyKernelModel" "period" "[I",
  .laysFinal "StackPolicyKernelModel" "StackPolicyKernelModel" "span" "[I",
  .laysFinal "StackPolicyKernelModel" "StackPolicyKernelModel" "cost" "[I",
  .laysFinal "StackPolicyKernelModel" "StackPolicyKernelModel" "parts" "[I",
  .laysFinal "StackPolicyKernelModel" "StackPolicyKernelModel" "resource" "[I",
  .laysFinal "StackPolicyKernelModel" "StackPolicyKernelModel" "from" "[I",
  .laysFinal "StackPolicyKernelModel" "StackPolicyKernelModel" "to" "[I",
  .lays "StackPolicyKernelModel" "StackPolicyKernelModel" "started" "Z",
  .lays "StackPolicyKernelModel" "StackPolicyKernelModel" "now" "I",
  .lays "StackPolicyKernelModel" "StackPolicyKernelModel" "size" "I",
  .lays "StackPolicyKernelModel" "StackPolicyKernelModel" "cycle" "I",
  .lays "StackPolicyKernelModel" "StackPolicyKernelModel" "budget" "I",
  .lays "StackPolicyKernelModel" "StackPolicyKernelModel" "due" "I",
  .lays "StackPolicyKernelModel" "StackPolicyKernelModel" "waits" "I",
  .laysFinal "StackPolicyKernelModel" "StackPolicyKernelModel" "need" "[I",
  .lays "StackPolicyKernelModel" "StackPolicyKernelModel" "usedUp" "I",
  .lays "StackPolicyKernelModel" "StackPolicyKernelModel" "served" "I",
  .laysFinal "StackPolicyKernelModel" "StackPolicyKernelModel" "phase" "[I",
  .laysFinal "StackPolicyKernelModel" "StackPolicyKernelModel" "since" "[I",
  .laysFinal "StackPolicyKernelModel" "StackPolicyKernelModel" "amount" "[I",
  .laysFinal "StackPolicyKernelModel" "StackPolicyKernelModel" "done" "[I",
  .laysFinal "StackPolicyKernelModel" "StackPolicyKernelModel" "stopped" "[I"]
def pg_A12 : List Jvm.Cond := [.laysFinal "StackPolicyKernelModel" "StackPolicyKernelModel" "inSpell" "[I",
  .laysFinal "StackPolicyKernelModel" "StackPolicyKernelModel" "spellCount" "[I",
  .laysFinal "StackPolicyKernelModel" "StackPolicyKernelModel" "spell" "[I",
  .laysFinal "StackPolicyKernelModel" "StackPolicyKernelModel" "missed" "[I",
  .laysFinal "StackPolicyKernelModel" "StackPolicyKernelModel" "longest" "[I",
  .lays "StackPolicyKernelModel" "StackPolicyKernelModel" "spells" "I",
  .lays "StackPolicyKernelModel" "StackPolicyKernelModel" "jobs" "I",
  .lays "StackPolicyKernelModel" "StackPolicyKernelModel" "ended" "I",
  .lays "StackPolicyKernelModel" "StackPolicyKernelModel" "idle" "I",
  .lays "StackPolicyKernelModel" "StackPolicyKernelModel" "changes" "I",
  .lays "StackPolicyKernelModel" "StackPolicyKernelModel" "ticks" "I",
  .laysFinal "StackPolicyKernelModel" "StackPolicyKernelModel" "codes" "[I",
  .methodLink "StackPolicyKernelLaw" 17 ⟨"StackPolicyKernelModel", "task", "(III)I"⟩,
  .instanceMethod ⟨"StackPolicyKernelModel", "task", "(III)I"⟩,
  .selects "StackPolicyKernelModel" ⟨"StackPolicyKernelModel", "task", "(III)I"⟩ ⟨"StackPolicyKernelModel", "task", "(III)I"⟩,
  .code ⟨"StackPolicyKernelModel", "task", "(III)I"⟩ prog_8_method_3_code 4 (Option.some Jvm.ClassFile.FieldType.int),
  .methodLink "StackPolicyKernelModel" 75 ⟨"StackPolicyKernelModel", "rising", "(IIII)Z"⟩,
  .static ⟨"StackPolicyKernelModel", "rising", "(IIII)Z"⟩,
  .code ⟨"StackPolicyKernelModel", "rising", "(IIII)Z"⟩ prog_8_method_2_code 4 (Option.some Jvm.ClassFile.FieldType.boolean),
  .methodLink "StackPolicyKernelLaw" 22 ⟨"StackPolicyKernelModel", "section", "(IIII)Z"⟩,
  .instanceMethod ⟨"StackPolicyKernelModel", "section", "(IIII)Z"⟩,
  .selects "StackPolicyKernelModel" ⟨"StackPolicyKernelModel", "section", "(IIII)Z"⟩ ⟨"StackPolicyKernelModel", "section", "(IIII)Z"⟩,
  .code ⟨"StackPolicyKernelModel", "section", "(IIII)Z"⟩ prog_8_method_5_code 8 (Option.some Jvm.ClassFile.FieldType.boolean),
  .methodLink "StackPolicyKernelModel" 79 ⟨"StackPolicyKernelModel", "isTask", "(I)Z"⟩,
  .instanceMethod ⟨"StackPolicyKernelModel", "isTask", "(I)Z"⟩,
  .code ⟨"StackPolicyKernelModel", "isTask", "(I)Z"⟩ prog_8_method_4_code 2 (Option.some Jvm.ClassFile.FieldType.boolean),
  .methodLink "StackPolicyKernelLaw" 27 ⟨"StackPolicyKernelModel", "server", "(II)Z"⟩,
  .instanceMethod ⟨"StackPolicyKernelModel", "server", "(II)Z"⟩,
  .selects "StackPolicyKernelModel" ⟨"StackPolicyKernelModel", "server", "(II)Z"⟩ ⟨"StackPolicyKernelModel", "server", "(II)Z"⟩,
  .code ⟨"StackPolicyKernelModel", "server", "(II)Z"⟩ prog_8_method_6_code 3 (Option.some Jvm.ClassFile.FieldType.boolean),
  .methodLink "StackPolicyKernelLaw" 32 ⟨"StackPolicyKernelModel", "start", "()Z"⟩,
  .instanceMethod ⟨"StackPolicyKernelModel", "start", "()Z"⟩,
  .selects "StackPolicyKernelModel" ⟨"StackPolicyKernelModel", "start", "()Z"⟩ ⟨"StackPolicyKernelModel", "start", "()Z"⟩,
  .code ⟨"StackPolicyKernelModel", "start", "()Z"⟩ prog_8_method_7_code 2 (Option.some Jvm.ClassFile.FieldType.boolean),
  .methodLink "StackPolicyKernelLaw" 42 ⟨"StackPolicyKernelModel", "ceiling", "(I)I"⟩,
  .instanceMethod ⟨"StackPolicyKernelModel", "ceiling", "(I)I"⟩,
  .selects "StackPolicyKernelModel" ⟨"StackPolicyKernelModel", "ceiling", "(I)I"⟩ ⟨"StackPolicyKernelModel", "ceiling", "(I)I"⟩,
  .code ⟨"StackPolicyKernelModel", "ceiling", "(I)I"⟩ prog_8_method_9_code 5 (Option.some Jvm.ClassFile.FieldType.int),
  .methodLink "StackPolicyKernelModel" 92 ⟨"StackPolicyKernelModel", "level", "(I)I"⟩,
  .instanceMethod ⟨"StackPolicyKernelModel", "level", "(I)I"⟩]
def pg_A13 : List Jvm.Cond := [.code ⟨"StackPolicyKernelModel", "level", "(I)I"⟩ prog_8_method_8_code 2 (Option.some Jvm.ClassFile.FieldType.int),
  .methodLink "StackPolicyKernelLaw" 37 ⟨"StackPolicyKernelModel", "verdict", "()I"⟩,
  .instanceMethod ⟨"StackPolicyKernelModel", "verdict", "()I"⟩,
  .selects "StackPolicyKernelModel" ⟨"StackPolicyKernelModel", "verdict", "()I"⟩ ⟨"StackPolicyKernelModel", "verdict", "()I"⟩,
  .code ⟨"StackPolicyKernelModel", "verdict", "()I"⟩ prog_8_method_12_code 2 (Option.some Jvm.ClassFile.FieldType.int),
  .methodLink "StackPolicyKernelModel" 102 ⟨"StackPolicyKernelModel", "passes", "(I)Z"⟩,
  .instanceMethod ⟨"StackPolicyKernelModel", "passes", "(I)Z"⟩,
  .code ⟨"StackPolicyKernelModel", "passes", "(I)Z"⟩ prog_8_method_11_code 7 (Option.some Jvm.ClassFile.FieldType.boolean),
  .methodLink "StackPolicyKernelModel" 99 ⟨"StackPolicyKernelModel", "overhang", "(I)I"⟩,
  .instanceMethod ⟨"StackPolicyKernelModel", "overhang", "(I)I"⟩,
  .code ⟨"StackPolicyKernelModel", "overhang", "(I)I"⟩ prog_8_method_10_code 6 (Option.some Jvm.ClassFile.FieldType.int),
  .methodLink "StackPolicyKernelModel" 96 ⟨"StackPolicyKernelModel", "ceiling", "(I)I"⟩,
  .methodLink "StackPolicyKernelLaw" 47 ⟨"StackPolicyKernelModel", "release", "(II)I"⟩,
  .instanceMethod ⟨"StackPolicyKernelModel", "release", "(II)I"⟩,
  .selects "StackPolicyKernelModel" ⟨"StackPolicyKernelModel", "release", "(II)I"⟩ ⟨"StackPolicyKernelModel", "release", "(II)I"⟩,
  .code ⟨"StackPolicyKernelModel", "release", "(II)I"⟩ prog_8_method_13_code 3 (Option.some Jvm.ClassFile.FieldType.int),
  .methodLink "StackPolicyKernelLaw" 52 ⟨"StackPolicyKernelModel", "submit", "(I)Z"⟩,
  .instanceMethod ⟨"StackPolicyKernelModel", "submit", "(I)Z"⟩,
  .selects "StackPolicyKernelModel" ⟨"StackPolicyKernelModel", "submit", "(I)Z"⟩ ⟨"StackPolicyKernelModel", "submit", "(I)Z"⟩,
  .code ⟨"StackPolicyKernelModel", "submit", "(I)Z"⟩ prog_8_method_14_code 2 (Option.some Jvm.ClassFile.FieldType.boolean),
  .methodLink "StackPolicyKernelLaw" 72 ⟨"StackPolicyKernelModel", "holder", "(I)I"⟩,
  .instanceMethod ⟨"StackPolicyKernelModel", "holder", "(I)I"⟩,
  .selects "StackPolicyKernelModel" ⟨"StackPolicyKernelModel", "holder", "(I)I"⟩ ⟨"StackPolicyKernelModel", "holder", "(I)I"⟩,
  .code ⟨"StackPolicyKernelModel", "holder", "(I)I"⟩ prog_8_method_21_code 3 (Option.some Jvm.ClassFile.FieldType.int),
  .methodLink "StackPolicyKernelModel" 127 ⟨"StackPolicyKernelModel", "holds", "(II)Z"⟩,
  .instanceMethod ⟨"StackPolicyKernelModel", "holds", "(II)Z"⟩,
  .code ⟨"StackPolicyKernelModel", "holds", "(II)Z"⟩ prog_8_method_19_code 4 (Option.some Jvm.ClassFile.FieldType.boolean),
  .methodLink "StackPolicyKernelLaw" 76 ⟨"StackPolicyKernelModel", "systemCeiling", "()I"⟩,
  .instanceMethod ⟨"StackPolicyKernelModel", "systemCeiling", "()I"⟩,
  .selects "StackPolicyKernelModel" ⟨"StackPolicyKernelModel", "systemCeiling", "()I"⟩ ⟨"StackPolicyKernelModel", "systemCeiling", "()I"⟩,
  .code ⟨"StackPolicyKernelModel", "systemCeiling", "()I"⟩ prog_8_method_22_code 4 (Option.some Jvm.ClassFile.FieldType.int),
  .methodLink "StackPolicyKernelModel" 130 ⟨"StackPolicyKernelModel", "holder", "(I)I"⟩,
  .methodLink "StackPolicyKernelLaw" 56 ⟨"StackPolicyKernelModel", "step", "(I)I"⟩,
  .instanceMethod ⟨"StackPolicyKernelModel", "step", "(I)I"⟩,
  .selects "StackPolicyKernelModel" ⟨"StackPolicyKernelModel", "step", "(I)I"⟩ ⟨"StackPolicyKernelModel", "step", "(I)I"⟩,
  .code ⟨"StackPolicyKernelModel", "step", "(I)I"⟩ prog_8_method_28_code 5 (Option.some Jvm.ClassFile.FieldType.int),
  .methodLink "StackPolicyKernelModel" 177 ⟨"StackPolicyKernelModel", "tick", "()I"⟩,
  .instanceMethod ⟨"StackPolicyKernelModel", "tick", "()I"⟩,
  .code ⟨"StackPolicyKernelModel", "tick", "()I"⟩ prog_8_method_27_code 5 (Option.some Jvm.ClassFile.FieldType.int),
  .methodLink "StackPolicyKernelModel" 159 ⟨"StackPolicyKernelModel", "choice", "()I"⟩]
def pg_A14 : List Jvm.Cond := [.instanceMethod ⟨"StackPolicyKernelModel", "choice", "()I"⟩,
  .code ⟨"StackPolicyKernelModel", "choice", "()I"⟩ prog_8_method_23_code 5 (Option.some Jvm.ClassFile.FieldType.int),
  .methodLink "StackPolicyKernelModel" 133 ⟨"StackPolicyKernelModel", "inOrder", "(I)I"⟩,
  .instanceMethod ⟨"StackPolicyKernelModel", "inOrder", "(I)I"⟩,
  .code ⟨"StackPolicyKernelModel", "inOrder", "(I)I"⟩ prog_8_method_18_code 5 (Option.some Jvm.ClassFile.FieldType.int),
  .methodLink "StackPolicyKernelModel" 120 ⟨"StackPolicyKernelModel", "there", "(I)Z"⟩,
  .instanceMethod ⟨"StackPolicyKernelModel", "there", "(I)Z"⟩,
  .code ⟨"StackPolicyKernelModel", "there", "(I)Z"⟩ prog_8_method_15_code 2 (Option.some Jvm.ClassFile.FieldType.boolean),
  .methodLink "StackPolicyKernelModel" 123 ⟨"StackPolicyKernelModel", "earlier", "(II)Z"⟩,
  .instanceMethod ⟨"StackPolicyKernelModel", "earlier", "(II)Z"⟩,
  .code ⟨"StackPolicyKernelModel", "earlier", "(II)Z"⟩ prog_8_method_17_code 5 (Option.some Jvm.ClassFile.FieldType.boolean),
  .methodLink "StackPolicyKernelModel" 117 ⟨"StackPolicyKernelModel", "deadline", "(I)I"⟩,
  .instanceMethod ⟨"StackPolicyKernelModel", "deadline", "(I)I"⟩,
  .code ⟨"StackPolicyKernelModel", "deadline", "(I)I"⟩ prog_8_method_16_code 2 (Option.some Jvm.ClassFile.FieldType.int),
  .methodLink "StackPolicyKernelModel" 136 ⟨"StackPolicyKernelModel", "systemCeiling", "()I"⟩,
  .methodLink "StackPolicyKernelModel" 162 ⟨"StackPolicyKernelModel", "serve", "()I"⟩,
  .instanceMethod ⟨"StackPolicyKernelModel", "serve", "()I"⟩,
  .code ⟨"StackPolicyKernelModel", "serve", "()I"⟩ prog_8_method_24_code 3 (Option.some Jvm.ClassFile.FieldType.int),
  .methodLink "StackPolicyKernelModel" 165 ⟨"StackPolicyKernelModel", "work", "(I)I"⟩,
  .instanceMethod ⟨"StackPolicyKernelModel", "work", "(I)I"⟩,
  .code ⟨"StackPolicyKernelModel", "work", "(I)I"⟩ prog_8_method_26_code 6 (Option.some Jvm.ClassFile.FieldType.int),
  .methodLink "StackPolicyKernelModel" 146 ⟨"StackPolicyKernelModel", "holdsAny", "(I)Z"⟩,
  .instanceMethod ⟨"StackPolicyKernelModel", "holdsAny", "(I)Z"⟩,
  .code ⟨"StackPolicyKernelModel", "holdsAny", "(I)Z"⟩ prog_8_method_20_code 2 (Option.some Jvm.ClassFile.FieldType.boolean),
  .methodLink "StackPolicyKernelModel" 152 ⟨"StackPolicyKernelModel", "stop", "(II)V"⟩,
  .instanceMethod ⟨"StackPolicyKernelModel", "stop", "(II)V"⟩,
  .code ⟨"StackPolicyKernelModel", "stop", "(II)V"⟩ prog_8_method_25_code 4 (Option.none : Option Jvm.ClassFile.FieldType),
  .methodLink "StackPolicyKernelLaw" 60 ⟨"StackPolicyKernelModel", "time", "()I"⟩,
  .instanceMethod ⟨"StackPolicyKernelModel", "time", "()I"⟩,
  .selects "StackPolicyKernelModel" ⟨"StackPolicyKernelModel", "time", "()I"⟩ ⟨"StackPolicyKernelModel", "time", "()I"⟩,
  .code ⟨"StackPolicyKernelModel", "time", "()I"⟩ prog_8_method_29_code 1 (Option.some Jvm.ClassFile.FieldType.int),
  .methodLink "StackPolicyKernelLaw" 64 ⟨"StackPolicyKernelModel", "ran", "(I)I"⟩,
  .instanceMethod ⟨"StackPolicyKernelModel", "ran", "(I)I"⟩,
  .selects "StackPolicyKernelModel" ⟨"StackPolicyKernelModel", "ran", "(I)I"⟩ ⟨"StackPolicyKernelModel", "ran", "(I)I"⟩,
  .code ⟨"StackPolicyKernelModel", "ran", "(I)I"⟩ prog_8_method_30_code 2 (Option.some Jvm.ClassFile.FieldType.int),
  .methodLink "StackPolicyKernelLaw" 68 ⟨"StackPolicyKernelModel", "queued", "(I)I"⟩,
  .instanceMethod ⟨"StackPolicyKernelModel", "queued", "(I)I"⟩,
  .selects "StackPolicyKernelModel" ⟨"StackPolicyKernelModel", "queued", "(I)I"⟩ ⟨"StackPolicyKernelModel", "queued", "(I)I"⟩,
  .code ⟨"StackPolicyKernelModel", "queued", "(I)I"⟩ prog_8_method_31_code 3 (Option.some Jvm.ClassFile.FieldType.int),
  .methodLink "StackPolicyKernelLaw" 80 ⟨"StackPolicyKernelModel", "job", "(II)I"⟩]
def pg_A15 : List Jvm.Cond := [.instanceMethod ⟨"StackPolicyKernelModel", "job", "(II)I"⟩,
  .selects "StackPolicyKernelModel" ⟨"StackPolicyKernelModel", "job", "(II)I"⟩ ⟨"StackPolicyKernelModel", "job", "(II)I"⟩,
  .code ⟨"StackPolicyKernelModel", "job", "(II)I"⟩ prog_8_method_32_code 3 (Option.some Jvm.ClassFile.FieldType.int),
  .methodLink "StackPolicyKernelLaw" 84 ⟨"StackPolicyKernelModel", "misses", "(I)I"⟩,
  .instanceMethod ⟨"StackPolicyKernelModel", "misses", "(I)I"⟩,
  .selects "StackPolicyKernelModel" ⟨"StackPolicyKernelModel", "misses", "(I)I"⟩ ⟨"StackPolicyKernelModel", "misses", "(I)I"⟩,
  .code ⟨"StackPolicyKernelModel", "misses", "(I)I"⟩ prog_8_method_33_code 2 (Option.some Jvm.ClassFile.FieldType.int),
  .methodLink "StackPolicyKernelLaw" 88 ⟨"StackPolicyKernelModel", "worst", "(I)I"⟩,
  .instanceMethod ⟨"StackPolicyKernelModel", "worst", "(I)I"⟩,
  .selects "StackPolicyKernelModel" ⟨"StackPolicyKernelModel", "worst", "(I)I"⟩ ⟨"StackPolicyKernelModel", "worst", "(I)I"⟩,
  .code ⟨"StackPolicyKernelModel", "worst", "(I)I"⟩ prog_8_method_34_code 2 (Option.some Jvm.ClassFile.FieldType.int),
  .methodLink "StackPolicyKernelLaw" 92 ⟨"StackPolicyKernelModel", "serverFigure", "(I)I"⟩,
  .instanceMethod ⟨"StackPolicyKernelModel", "serverFigure", "(I)I"⟩,
  .selects "StackPolicyKernelModel" ⟨"StackPolicyKernelModel", "serverFigure", "(I)I"⟩ ⟨"StackPolicyKernelModel", "serverFigure", "(I)I"⟩,
  .code ⟨"StackPolicyKernelModel", "serverFigure", "(I)I"⟩ prog_8_method_35_code 4 (Option.some Jvm.ClassFile.FieldType.int),
  .methodLink "StackPolicyKernelLaw" 96 ⟨"StackPolicyKernelModel", "count", "(I)I"⟩,
  .instanceMethod ⟨"StackPolicyKernelModel", "count", "(I)I"⟩,
  .selects "StackPolicyKernelModel" ⟨"StackPolicyKernelModel", "count", "(I)I"⟩ ⟨"StackPolicyKernelModel", "count", "(I)I"⟩,
  .code ⟨"StackPolicyKernelModel", "count", "(I)I"⟩ prog_8_method_36_code 4 (Option.some Jvm.ClassFile.FieldType.int)]
def pg_AL : List Jvm.Cond := pg_A0 ++ (pg_A1 ++ (pg_A2 ++ (pg_A3 ++ (pg_A4 ++ (pg_A5 ++ (pg_A6 ++ (pg_A7 ++ (pg_A8 ++ (pg_A9 ++ (pg_A10 ++ (pg_A11 ++ (pg_A12 ++ (pg_A13 ++ (pg_A14 ++ (pg_A15)))))))))))))))
def pg_NL : List Jvm.Cond := [.methodLinkNest "StackPolicyKernel" 21 ⟨"StackPolicyKernel$Server", "<init>", "()V"⟩ "StackPolicyKernel",
  .methodLinkNest "StackPolicyKernel" 28 ⟨"StackPolicyKernel$Trace", "<init>", "()V"⟩ "StackPolicyKernel",
  .methodLinkNest "StackPolicyKernel$Task" 19 ⟨"StackPolicyKernel$Job", "<init>", "()V"⟩ "StackPolicyKernel"]
def pg_S : mm_S := (pg_G, 7, pg_ck, pg_ek, pg_mb, pg_mn, pg_mr, pg_AL, pg_km, 104, pg_NL)
