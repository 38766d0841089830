/-! 04.6T: the instructions -/
def c_T_init : List (Nat × Instr × Nat) := [(0, .aload_n 0, 1), (1, .invokespecial 1, 3), (4, .aload_n 0, 1), (5, .new 7, 3), (8, .dup, 1), (9, .invokespecial 9, 3), (12, .putfield 10, 3), (15, .aload_n 0, 1), (16, .new 7, 3), (19, .dup, 1), (20, .invokespecial 9, 3), (23, .putfield 16, 3), (26, .aload_n 0, 1), (27, .new 7, 3), (30, .dup, 1), (31, .invokespecial 9, 3), (34, .putfield 19, 3), (37, .aload_n 0, 1), (38, .new 22, 3), (41, .dup, 1), (42, .invokespecial 24, 3), (45, .putfield 25, 3), (48, .aload_n 0, 1), (49, .new 29, 3), (52, .dup, 1), (53, .invokespecial 31, 3), (56, .putfield 32, 3), (59, .return_, 1)]
theorem c_T_init_ok : (c_T_init).all (fun q => decide (decode prog_1_method_1_code q.1 = .ok q.2)) = true := by decide +kernel
theorem d_T_init_0 : decode prog_1_method_1_code 0 = .ok (.aload_n 0, 1) := jx_dec c_T_init_ok 0 rfl
theorem d_T_init_1 : decode prog_1_method_1_code 1 = .ok (.invokespecial 1, 3) := jx_dec c_T_init_ok 1 rfl
theorem d_T_init_4 : decode prog_1_method_1_code 4 = .ok (.aload_n 0, 1) := jx_dec c_T_init_ok 2 rfl
theorem d_T_init_5 : decode prog_1_method_1_code 5 = .ok (.new 7, 3) := jx_dec c_T_init_ok 3 rfl
theorem d_T_init_8 : decode prog_1_method_1_code 8 = .ok (.dup, 1) := jx_dec c_T_init_ok 4 rfl
theorem d_T_init_9 : decode prog_1_method_1_code 9 = .ok (.invokespecial 9, 3) := jx_dec c_T_init_ok 5 rfl
theorem d_T_init_12 : decode prog_1_method_1_code 12 = .ok (.putfield 10, 3) := jx_dec c_T_init_ok 6 rfl
theorem d_T_init_15 : decode prog_1_method_1_code 15 = .ok (.aload_n 0, 1) := jx_dec c_T_init_ok 7 rfl
theorem d_T_init_16 : decode prog_1_method_1_code 16 = .ok (.new 7, 3) := jx_dec c_T_init_ok 8 rfl
theorem d_T_init_19 : decode prog_1_method_1_code 19 = .ok (.dup, 1) := jx_dec c_T_init_ok 9 rfl
theorem d_T_init_20 : decode prog_1_method_1_code 20 = .ok (.invokespecial 9, 3) := jx_dec c_T_init_ok 10 rfl
theorem d_T_init_23 : decode prog_1_method_1_code 23 = .ok (.putfield 16, 3) := jx_dec c_T_init_ok 11 rfl
theorem d_T_init_26 : decode prog_1_method_1_code 26 = .ok (.aload_n 0, 1) := jx_dec c_T_init_ok 12 rfl
theorem d_T_init_27 : decode prog_1_method_1_code 27 = .ok (.new 7, 3) := jx_dec c_T_init_ok 13 rfl
theorem d_T_init_30 : decode prog_1_method_1_code 30 = .ok (.dup, 1) := jx_dec c_T_init_ok 14 rfl
theorem d_T_init_31 : decode prog_1_method_1_code 31 = .ok (.invokespecial 9, 3) := jx_dec c_T_init_ok 15 rfl
theorem d_T_init_34 : decode prog_1_method_1_code 34 = .ok (.putfield 19, 3) := jx_dec c_T_init_ok 16 rfl
theorem d_T_init_37 : decode prog_1_method_1_code 37 = .ok (.aload_n 0, 1) := jx_dec c_T_init_ok 17 rfl
theorem d_T_init_38 : decode prog_1_method_1_code 38 = .ok (.new 22, 3) := jx_dec c_T_init_ok 18 rfl
theorem d_T_init_41 : decode prog_1_method_1_code 41 = .ok (.dup, 1) := jx_dec c_T_init_ok 19 rfl
theorem d_T_init_42 : decode prog_1_method_1_code 42 = .ok (.invokespecial 24, 3) := jx_dec c_T_init_ok 20 rfl
theorem d_T_init_45 : decode prog_1_method_1_code 45 = .ok (.putfield 25, 3) := jx_dec c_T_init_ok 21 rfl
theorem d_T_init_48 : decode prog_1_method_1_code 48 = .ok (.aload_n 0, 1) := jx_dec c_T_init_ok 22 rfl
theorem d_T_init_49 : decode prog_1_method_1_code 49 = .ok (.new 29, 3) := jx_dec c_T_init_ok 23 rfl
theorem d_T_init_52 : decode prog_1_method_1_code 52 = .ok (.dup, 1) := jx_dec c_T_init_ok 24 rfl
theorem d_T_init_53 : decode prog_1_method_1_code 53 = .ok (.invokespecial 31, 3) := jx_dec c_T_init_ok 25 rfl
theorem d_T_init_56 : decode prog_1_method_1_code 56 = .ok (.putfield 32, 3) := jx_dec c_T_init_ok 26 rfl
theorem d_T_init_59 : decode prog_1_method_1_code 59 = .ok (.return_, 1) := jx_dec c_T_init_ok 27 rfl
def c_T_exact : List (Nat × Instr × Nat) := [(0, .aload_n 0, 1), (1, .getfield 150, 3), (4, .ireturn, 1)]
theorem c_T_exact_ok : (c_T_exact).all (fun q => decide (decode prog_1_method_10_code q.1 = .ok q.2)) = true := by decide +kernel
theorem d_T_exact_0 : decode prog_1_method_10_code 0 = .ok (.aload_n 0, 1) := jx_dec c_T_exact_ok 0 rfl
theorem d_T_exact_1 : decode prog_1_method_10_code 1 = .ok (.getfield 150, 3) := jx_dec c_T_exact_ok 1 rfl
theorem d_T_exact_4 : decode prog_1_method_10_code 4 = .ok (.ireturn, 1) := jx_dec c_T_exact_ok 2 rfl
def c_T_bound : List (Nat × Instr × Nat) := [(0, .iconst 0, 1), (1, .istore_n 1, 1), (2, .iconst 0, 1), (3, .istore_n 2, 1), (4, .iload_n 2, 1), (5, .aload_n 0, 1), (6, .getfield 16, 3), (9, .invokevirtual 41, 3), (12, .if_icmp .ge 44, 3), (15, .aload_n 0, 1), (16, .getfield 16, 3), (19, .iload_n 2, 1), (20, .invokevirtual 166, 3), (23, .checkcast 98, 3), (26, .getfield 170, 3), (29, .ifCond .ne 21, 3), (32, .iload_n 1, 1), (33, .aload_n 0, 1), (34, .aload_n 0, 1), (35, .getfield 16, 3), (38, .iload_n 2, 1), (39, .invokevirtual 166, 3), (42, .checkcast 98, 3), (45, .invokevirtual 173, 3), (48, .iadd, 1), (49, .istore_n 1, 1), (50, .iinc 2 1, 3), (53, .goto (-49), 3), (56, .iload_n 1, 1), (57, .ireturn, 1)]
theorem c_T_bound_ok : (c_T_bound).all (fun q => decide (decode prog_1_method_11_code q.1 = .ok q.2)) = true := by decide +kernel
theorem d_T_bound_0 : decode prog_1_method_11_code 0 = .ok (.iconst 0, 1) := jx_dec c_T_bound_ok 0 rfl
theorem d_T_bound_1 : decode prog_1_method_11_code 1 = .ok (.istore_n 1, 1) := jx_dec c_T_bound_ok 1 rfl
theorem d_T_bound_2 : decode prog_1_method_11_code 2 = .ok (.iconst 0, 1) := jx_dec c_T_bound_ok 2 rfl
theorem d_T_bound_3 : decode prog_1_method_11_code 3 = .ok (.istore_n 2, 1) := jx_dec c_T_bound_ok 3 rfl
theorem d_T_bound_4 : decode prog_1_method_11_code 4 = .ok (.iload_n 2, 1) := jx_dec c_T_bound_ok 4 rfl
theorem d_T_bound_5 : decode prog_1_method_11_code 5 = .ok (.aload_n 0, 1) := jx_dec c_T_bound_ok 5 rfl
theorem d_T_bound_6 : decode prog_1_method_11_code 6 = .ok (.getfield 16, 3) := jx_dec c_T_bound_ok 6 rfl
theorem d_T_bound_9 : decode prog_1_method_11_code 9 = .ok (.invokevirtual 41, 3) := jx_dec c_T_bound_ok 7 rfl
theorem d_T_bound_12 : decode prog_1_method_11_code 12 = .ok (.if_icmp .ge 44, 3) := jx_dec c_T_bound_ok 8 rfl
theorem d_T_bound_15 : decode prog_1_method_11_code 15 = .ok (.aload_n 0, 1) := jx_dec c_T_bound_ok 9 rfl
theorem d_T_bound_16 : decode prog_1_method_11_code 16 = .ok (.getfield 16, 3) := jx_dec c_T_bound_ok 10 rfl
theorem d_T_bound_19 : decode prog_1_method_11_code 19 = .ok (.iload_n 2, 1) := jx_dec c_T_bound_ok 11 rfl
theorem d_T_bound_20 : decode prog_1_method_11_code 20 = .ok (.invokevirtual 166, 3) := jx_dec c_T_bound_ok 12 rfl
theorem d_T_bound_23 : decode prog_1_method_11_code 23 = .ok (.checkcast 98, 3) := jx_dec c_T_bound_ok 13 rfl
theorem d_T_bound_26 : decode prog_1_method_11_code 26 = .ok (.getfield 170, 3) := jx_dec c_T_bound_ok 14 rfl
theorem d_T_bound_29 : decode prog_1_method_11_code 29 = .ok (.ifCond .ne 21, 3) := jx_dec c_T_bound_ok 15 rfl
theorem d_T_bound_32 : decode prog_1_method_11_code 32 = .ok (.iload_n 1, 1) := jx_dec c_T_bound_ok 16 rfl
theorem d_T_bound_33 : decode prog_1_method_11_code 33 = .ok (.aload_n 0, 1) := jx_dec c_T_bound_ok 17 rfl
theorem d_T_bound_34 : decode prog_1_method_11_code 34 = .ok (.aload_n 0, 1) := jx_dec c_T_bound_ok 18 rfl
theorem d_T_bound_35 : decode prog_1_method_11_code 35 = .ok (.getfield 16, 3) := jx_dec c_T_bound_ok 19 rfl
theorem d_T_bound_38 : decode prog_1_method_11_code 38 = .ok (.iload_n 2, 1) := jx_dec c_T_bound_ok 20 rfl
theorem d_T_bound_39 : decode prog_1_method_11_code 39 = .ok (.invokevirtual 166, 3) := jx_dec c_T_bound_ok 21 rfl
theorem d_T_bound_42 : decode prog_1_method_11_code 42 = .ok (.checkcast 98, 3) := jx_dec c_T_bound_ok 22 rfl
theorem d_T_bound_45 : decode prog_1_method_11_code 45 = .ok (.invokevirtual 173, 3) := jx_dec c_T_bound_ok 23 rfl
theorem d_T_bound_48 : decode prog_1_method_11_code 48 = .ok (.iadd, 1) := jx_dec c_T_bound_ok 24 rfl
theorem d_T_bound_49 : decode prog_1_method_11_code 49 = .ok (.istore_n 1, 1) := jx_dec c_T_bound_ok 25 rfl
theorem d_T_bound_50 : decode prog_1_method_11_code 50 = .ok (.iinc 2 1, 3) := jx_dec c_T_bound_ok 26 rfl
theorem d_T_bound_53 : decode prog_1_method_11_code 53 = .ok (.goto (-49), 3) := jx_dec c_T_bound_ok 27 rfl
theorem d_T_bound_56 : decode prog_1_method_11_code 56 = .ok (.iload_n 1, 1) := jx_dec c_T_bound_ok 28 rfl
theorem d_T_bound_57 : decode prog_1_method_11_code 57 = .ok (.ireturn, 1) := jx_dec c_T_bound_ok 29 rfl
def c_T_leastLatenessAlone : List (Nat × Instr × Nat) := [(0, .ldc 40, 2), (2, .istore_n 2, 1), (3, .iconst 0, 1), (4, .istore_n 3, 1), (5, .iload_n 3, 1), (6, .aload_n 0, 1), (7, .getfield 10, 3), (10, .invokevirtual 41, 3), (13, .if_icmp .ge 61, 3), (16, .aload_n 0, 1), (17, .getfield 10, 3), (20, .iload_n 3, 1), (21, .invokevirtual 166, 3), (24, .checkcast 49, 3), (27, .astore 4, 2), (29, .aload 4, 2), (31, .aload_n 1, 1), (32, .invokevirtual 254, 3), (35, .ifCond .eq 13, 3), (38, .aload_n 0, 1), (39, .aload 4, 2), (41, .aload_n 1, 1), (42, .invokevirtual 140, 3), (45, .goto 4, 3), (48, .iconst (-1), 1), (49, .istore 5, 2), (51, .iload 5, 2), (53, .iconst (-1), 1), (54, .if_icmp .eq 14, 3), (57, .iload_n 2, 1), (58, .aload_n 1, 1), (59, .iload 5, 2), (61, .invokevirtual 241, 3), (64, .invokestatic 257, 3), (67, .istore_n 2, 1), (68, .iinc 3 1, 3), (71, .goto (-66), 3), (74, .iload_n 2, 1), (75, .ireturn, 1)]
theorem c_T_leastLatenessAlone_ok : (c_T_leastLatenessAlone).all (fun q => decide (decode prog_1_method_33_code q.1 = .ok q.2)) = true := by decide +kernel
theorem d_T_leastLatenessAlone_0 : decode prog_1_method_33_code 0 = .ok (.ldc 40, 2) := jx_dec c_T_leastLatenessAlone_ok 0 rfl
theorem d_T_leastLatenessAlone_2 : decode prog_1_method_33_code 2 = .ok (.istore_n 2, 1) := jx_dec c_T_leastLatenessAlone_ok 1 rfl
theorem d_T_leastLatenessAlone_3 : decode prog_1_method_33_code 3 = .ok (.iconst 0, 1) := jx_dec c_T_leastLatenessAlone_ok 2 rfl
theorem d_T_leastLatenessAlone_4 : decode prog_1_method_33_code 4 = .ok (.istore_n 3, 1) := jx_dec c_T_leastLatenessAlone_ok 3 rfl
theorem d_T_leastLatenessAlone_5 : decode prog_1_method_33_code 5 = .ok (.iload_n 3, 1) := jx_dec c_T_leastLatenessAlone_ok 4 rfl
theorem d_T_leastLatenessAlone_6 : decode prog_1_method_33_code 6 = .ok (.aload_n 0, 1) := jx_dec c_T_leastLatenessAlone_ok 5 rfl
theorem d_T_leastLatenessAlone_7 : decode prog_1_method_33_code 7 = .ok (.getfield 10, 3) := jx_dec c_T_leastLatenessAlone_ok 6 rfl
theorem d_T_leastLatenessAlone_10 : decode prog_1_method_33_code 10 = .ok (.invokevirtual 41, 3) := jx_dec c_T_leastLatenessAlone_ok 7 rfl
theorem d_T_leastLatenessAlone_13 : decode prog_1_method_33_code 13 = .ok (.if_icmp .ge 61, 3) := jx_dec c_T_leastLatenessAlone_ok 8 rfl
theorem d_T_leastLatenessAlone_16 : decode prog_1_method_33_code 16 = .ok (.aload_n 0, 1) := jx_dec c_T_leastLatenessAlone_ok 9 rfl
theorem d_T_leastLatenessAlone_17 : decode prog_1_method_33_code 17 = .ok (.getfield 10, 3) := jx_dec c_T_leastLatenessAlone_ok 10 rfl
theorem d_T_leastLatenessAlone_20 : decode prog_1_method_33_code 20 = .ok (.iload_n 3, 1) := jx_dec c_T_leastLatenessAlone_ok 11 rfl
theorem d_T_leastLatenessAlone_21 : decode prog_1_method_33_code 21 = .ok (.invokevirtual 166, 3) := jx_dec c_T_leastLatenessAlone_ok 12 rfl
theorem d_T_leastLatenessAlone_24 : decode prog_1_method_33_code 24 = .ok (.checkcast 49, 3) := jx_dec c_T_leastLatenessAlone_ok 13 rfl
theorem d_T_leastLatenessAlone_27 : decode prog_1_method_33_code 27 = .ok (.astore 4, 2) := jx_dec c_T_leastLatenessAlone_ok 14 rfl
theorem d_T_leastLatenessAlone_29 : decode prog_1_method_33_code 29 = .ok (.aload 4, 2) := jx_dec c_T_leastLatenessAlone_ok 15 rfl
theorem d_T_leastLatenessAlone_31 : decode prog_1_method_33_code 31 = .ok (.aload_n 1, 1) := jx_dec c_T_leastLatenessAlone_ok 16 rfl
theorem d_T_leastLatenessAlone_32 : decode prog_1_method_33_code 32 = .ok (.invokevirtual 254, 3) := jx_dec c_T_leastLatenessAlone_ok 17 rfl
theorem d_T_leastLatenessAlone_35 : decode prog_1_method_33_code 35 = .ok (.ifCond .eq 13, 3) := jx_dec c_T_leastLatenessAlone_ok 18 rfl
theorem d_T_leastLatenessAlone_38 : decode prog_1_method_33_code 38 = .ok (.aload_n 0, 1) := jx_dec c_T_leastLatenessAlone_ok 19 rfl
theorem d_T_leastLatenessAlone_39 : decode prog_1_method_33_code 39 = .ok (.aload 4, 2) := jx_dec c_T_leastLatenessAlone_ok 20 rfl
theorem d_T_leastLatenessAlone_41 : decode prog_1_method_33_code 41 = .ok (.aload_n 1, 1) := jx_dec c_T_leastLatenessAlone_ok 21 rfl
theorem d_T_leastLatenessAlone_42 : decode prog_1_method_33_code 42 = .ok (.invokevirtual 140, 3) := jx_dec c_T_leastLatenessAlone_ok 22 rfl
theorem d_T_leastLatenessAlone_45 : decode prog_1_method_33_code 45 = .ok (.goto 4, 3) := jx_dec c_T_leastLatenessAlone_ok 23 rfl
theorem d_T_leastLatenessAlone_48 : decode prog_1_method_33_code 48 = .ok (.iconst (-1), 1) := jx_dec c_T_leastLatenessAlone_ok 24 rfl
theorem d_T_leastLatenessAlone_49 : decode prog_1_method_33_code 49 = .ok (.istore 5, 2) := jx_dec c_T_leastLatenessAlone_ok 25 rfl
theorem d_T_leastLatenessAlone_51 : decode prog_1_method_33_code 51 = .ok (.iload 5, 2) := jx_dec c_T_leastLatenessAlone_ok 26 rfl
theorem d_T_leastLatenessAlone_53 : decode prog_1_method_33_code 53 = .ok (.iconst (-1), 1) := jx_dec c_T_leastLatenessAlone_ok 27 rfl
theorem d_T_leastLatenessAlone_54 : decode prog_1_method_33_code 54 = .ok (.if_icmp .eq 14, 3) := jx_dec c_T_leastLatenessAlone_ok 28 rfl
theorem d_T_leastLatenessAlone_57 : decode prog_1_method_33_code 57 = .ok (.iload_n 2, 1) := jx_dec c_T_leastLatenessAlone_ok 29 rfl
theorem d_T_leastLatenessAlone_58 : decode prog_1_method_33_code 58 = .ok (.aload_n 1, 1) := jx_dec c_T_leastLatenessAlone_ok 30 rfl
theorem d_T_leastLatenessAlone_59 : decode prog_1_method_33_code 59 = .ok (.iload 5, 2) := jx_dec c_T_leastLatenessAlone_ok 31 rfl
theorem d_T_leastLatenessAlone_61 : decode prog_1_method_33_code 61 = .ok (.invokevirtual 241, 3) := jx_dec c_T_leastLatenessAlone_ok 32 rfl
theorem d_T_leastLatenessAlone_64 : decode prog_1_method_33_code 64 = .ok (.invokestatic 257, 3) := jx_dec c_T_leastLatenessAlone_ok 33 rfl
theorem d_T_leastLatenessAlone_67 : decode prog_1_method_33_code 67 = .ok (.istore_n 2, 1) := jx_dec c_T_leastLatenessAlone_ok 34 rfl
theorem d_T_leastLatenessAlone_68 : decode prog_1_method_33_code 68 = .ok (.iinc 3 1, 3) := jx_dec c_T_leastLatenessAlone_ok 35 rfl
theorem d_T_leastLatenessAlone_71 : decode prog_1_method_33_code 71 = .ok (.goto (-66), 3) := jx_dec c_T_leastLatenessAlone_ok 36 rfl
theorem d_T_leastLatenessAlone_74 : decode prog_1_method_33_code 74 = .ok (.iload_n 2, 1) := jx_dec c_T_leastLatenessAlone_ok 37 rfl
theorem d_T_leastLatenessAlone_75 : decode prog_1_method_33_code 75 = .ok (.ireturn, 1) := jx_dec c_T_leastLatenessAlone_ok 38 rfl
def c_T_startAsOnlyOne : List (Nat × Instr × Nat) := [(0, .aload_n 1, 1), (1, .aload_n 2, 1), (2, .aload_n 1, 1), (3, .aload_n 0, 1), (4, .getfield 153, 3), (7, .invokevirtual 247, 3), (10, .aload_n 1, 1), (11, .getfield 200, 3), (14, .aload_n 0, 1), (15, .getfield 25, 3), (18, .invokevirtual 250, 3), (21, .ireturn, 1)]
theorem c_T_startAsOnlyOne_ok : (c_T_startAsOnlyOne).all (fun q => decide (decode prog_1_method_32_code q.1 = .ok q.2)) = true := by decide +kernel
theorem d_T_startAsOnlyOne_0 : decode prog_1_method_32_code 0 = .ok (.aload_n 1, 1) := jx_dec c_T_startAsOnlyOne_ok 0 rfl
theorem d_T_startAsOnlyOne_1 : decode prog_1_method_32_code 1 = .ok (.aload_n 2, 1) := jx_dec c_T_startAsOnlyOne_ok 1 rfl
theorem d_T_startAsOnlyOne_2 : decode prog_1_method_32_code 2 = .ok (.aload_n 1, 1) := jx_dec c_T_startAsOnlyOne_ok 2 rfl
theorem d_T_startAsOnlyOne_3 : decode prog_1_method_32_code 3 = .ok (.aload_n 0, 1) := jx_dec c_T_startAsOnlyOne_ok 3 rfl
theorem d_T_startAsOnlyOne_4 : decode prog_1_method_32_code 4 = .ok (.getfield 153, 3) := jx_dec c_T_startAsOnlyOne_ok 4 rfl
theorem d_T_startAsOnlyOne_7 : decode prog_1_method_32_code 7 = .ok (.invokevirtual 247, 3) := jx_dec c_T_startAsOnlyOne_ok 5 rfl
theorem d_T_startAsOnlyOne_10 : decode prog_1_method_32_code 10 = .ok (.aload_n 1, 1) := jx_dec c_T_startAsOnlyOne_ok 6 rfl
theorem d_T_startAsOnlyOne_11 : decode prog_1_method_32_code 11 = .ok (.getfield 200, 3) := jx_dec c_T_startAsOnlyOne_ok 7 rfl
theorem d_T_startAsOnlyOne_14 : decode prog_1_method_32_code 14 = .ok (.aload_n 0, 1) := jx_dec c_T_startAsOnlyOne_ok 8 rfl
theorem d_T_startAsOnlyOne_15 : decode prog_1_method_32_code 15 = .ok (.getfield 25, 3) := jx_dec c_T_startAsOnlyOne_ok 9 rfl
theorem d_T_startAsOnlyOne_18 : decode prog_1_method_32_code 18 = .ok (.invokevirtual 250, 3) := jx_dec c_T_startAsOnlyOne_ok 10 rfl
theorem d_T_startAsOnlyOne_21 : decode prog_1_method_32_code 21 = .ok (.ireturn, 1) := jx_dec c_T_startAsOnlyOne_ok 11 rfl
def c_T_count : List (Nat × Instr × Nat) := [(0, .iload_n 1, 1), (1, .tableswitch 98 0 7 #[47, 55, 63, 69, 75, 81, 88, 93], 47), (48, .aload_n 0, 1), (49, .getfield 10, 3), (52, .invokevirtual 41, 3), (55, .ireturn, 1), (56, .aload_n 0, 1), (57, .getfield 16, 3), (60, .invokevirtual 41, 3), (63, .ireturn, 1), (64, .aload_n 0, 1), (65, .iconst 0, 1), (66, .invokevirtual 147, 3), (69, .ireturn, 1), (70, .aload_n 0, 1), (71, .iconst 1, 1), (72, .invokevirtual 147, 3), (75, .ireturn, 1), (76, .aload_n 0, 1), (77, .iconst 2, 1), (78, .invokevirtual 147, 3), (81, .ireturn, 1), (82, .aload_n 0, 1), (83, .iconst (-1), 1), (84, .iconst 0, 1), (85, .invokevirtual 203, 3), (88, .ireturn, 1), (89, .aload_n 0, 1), (90, .getfield 153, 3), (93, .ireturn, 1), (94, .aload_n 0, 1), (95, .invokevirtual 163, 3), (98, .ireturn, 1), (99, .iconst (-1), 1), (100, .ireturn, 1)]
theorem c_T_count_ok : (c_T_count).all (fun q => decide (decode prog_1_method_20_code q.1 = .ok q.2)) = true := by decide +kernel
theorem d_T_count_0 : decode prog_1_method_20_code 0 = .ok (.iload_n 1, 1) := jx_dec c_T_count_ok 0 rfl
theorem d_T_count_1 : decode prog_1_method_20_code 1 = .ok (.tableswitch 98 0 7 #[47, 55, 63, 69, 75, 81, 88, 93], 47) := jx_dec c_T_count_ok 1 rfl
theorem d_T_count_48 : decode prog_1_method_20_code 48 = .ok (.aload_n 0, 1) := jx_dec c_T_count_ok 2 rfl
theorem d_T_count_49 : decode prog_1_method_20_code 49 = .ok (.getfield 10, 3) := jx_dec c_T_count_ok 3 rfl
theorem d_T_count_52 : decode prog_1_method_20_code 52 = .ok (.invokevirtual 41, 3) := jx_dec c_T_count_ok 4 rfl
theorem d_T_count_55 : decode prog_1_method_20_code 55 = .ok (.ireturn, 1) := jx_dec c_T_count_ok 5 rfl
theorem d_T_count_56 : decode prog_1_method_20_code 56 = .ok (.aload_n 0, 1) := jx_dec c_T_count_ok 6 rfl
theorem d_T_count_57 : decode prog_1_method_20_code 57 = .ok (.getfield 16, 3) := jx_dec c_T_count_ok 7 rfl
theorem d_T_count_60 : decode prog_1_method_20_code 60 = .ok (.invokevirtual 41, 3) := jx_dec c_T_count_ok 8 rfl
theorem d_T_count_63 : decode prog_1_method_20_code 63 = .ok (.ireturn, 1) := jx_dec c_T_count_ok 9 rfl
theorem d_T_count_64 : decode prog_1_method_20_code 64 = .ok (.aload_n 0, 1) := jx_dec c_T_count_ok 10 rfl
theorem d_T_count_65 : decode prog_1_method_20_code 65 = .ok (.iconst 0, 1) := jx_dec c_T_count_ok 11 rfl
theorem d_T_count_66 : decode prog_1_method_20_code 66 = .ok (.invokevirtual 147, 3) := jx_dec c_T_count_ok 12 rfl
theorem d_T_count_69 : decode prog_1_method_20_code 69 = .ok (.ireturn, 1) := jx_dec c_T_count_ok 13 rfl
theorem d_T_count_70 : decode prog_1_method_20_code 70 = .ok (.aload_n 0, 1) := jx_dec c_T_count_ok 14 rfl
theorem d_T_count_71 : decode prog_1_method_20_code 71 = .ok (.iconst 1, 1) := jx_dec c_T_count_ok 15 rfl
theorem d_T_count_72 : decode prog_1_method_20_code 72 = .ok (.invokevirtual 147, 3) := jx_dec c_T_count_ok 16 rfl
theorem d_T_count_75 : decode prog_1_method_20_code 75 = .ok (.ireturn, 1) := jx_dec c_T_count_ok 17 rfl
theorem d_T_count_76 : decode prog_1_method_20_code 76 = .ok (.aload_n 0, 1) := jx_dec c_T_count_ok 18 rfl
theorem d_T_count_77 : decode prog_1_method_20_code 77 = .ok (.iconst 2, 1) := jx_dec c_T_count_ok 19 rfl
theorem d_T_count_78 : decode prog_1_method_20_code 78 = .ok (.invokevirtual 147, 3) := jx_dec c_T_count_ok 20 rfl
theorem d_T_count_81 : decode prog_1_method_20_code 81 = .ok (.ireturn, 1) := jx_dec c_T_count_ok 21 rfl
theorem d_T_count_82 : decode prog_1_method_20_code 82 = .ok (.aload_n 0, 1) := jx_dec c_T_count_ok 22 rfl
theorem d_T_count_83 : decode prog_1_method_20_code 83 = .ok (.iconst (-1), 1) := jx_dec c_T_count_ok 23 rfl
theorem d_T_count_84 : decode prog_1_method_20_code 84 = .ok (.iconst 0, 1) := jx_dec c_T_count_ok 24 rfl
theorem d_T_count_85 : decode prog_1_method_20_code 85 = .ok (.invokevirtual 203, 3) := jx_dec c_T_count_ok 25 rfl
theorem d_T_count_88 : decode prog_1_method_20_code 88 = .ok (.ireturn, 1) := jx_dec c_T_count_ok 26 rfl
theorem d_T_count_89 : decode prog_1_method_20_code 89 = .ok (.aload_n 0, 1) := jx_dec c_T_count_ok 27 rfl
theorem d_T_count_90 : decode prog_1_method_20_code 90 = .ok (.getfield 153, 3) := jx_dec c_T_count_ok 28 rfl
theorem d_T_count_93 : decode prog_1_method_20_code 93 = .ok (.ireturn, 1) := jx_dec c_T_count_ok 29 rfl
theorem d_T_count_94 : decode prog_1_method_20_code 94 = .ok (.aload_n 0, 1) := jx_dec c_T_count_ok 30 rfl
theorem d_T_count_95 : decode prog_1_method_20_code 95 = .ok (.invokevirtual 163, 3) := jx_dec c_T_count_ok 31 rfl
theorem d_T_count_98 : decode prog_1_method_20_code 98 = .ok (.ireturn, 1) := jx_dec c_T_count_ok 32 rfl
theorem d_T_count_99 : decode prog_1_method_20_code 99 = .ok (.iconst (-1), 1) := jx_dec c_T_count_ok 33 rfl
theorem d_T_count_100 : decode prog_1_method_20_code 100 = .ok (.ireturn, 1) := jx_dec c_T_count_ok 34 rfl
def c_T_tasksIn : List (Nat × Instr × Nat) := [(0, .iconst 0, 1), (1, .istore_n 2, 1), (2, .iconst 0, 1), (3, .istore_n 3, 1), (4, .iload_n 3, 1), (5, .aload_n 0, 1), (6, .getfield 16, 3), (9, .invokevirtual 41, 3), (12, .if_icmp .ge 30, 3), (15, .aload_n 0, 1), (16, .getfield 16, 3), (19, .iload_n 3, 1), (20, .invokevirtual 166, 3), (23, .checkcast 98, 3), (26, .getfield 170, 3), (29, .iload_n 1, 1), (30, .if_icmp .ne 6, 3), (33, .iinc 2 1, 3), (36, .iinc 3 1, 3), (39, .goto (-35), 3), (42, .iload_n 2, 1), (43, .ireturn, 1)]
theorem c_T_tasksIn_ok : (c_T_tasksIn).all (fun q => decide (decode prog_1_method_27_code q.1 = .ok q.2)) = true := by decide +kernel
theorem d_T_tasksIn_0 : decode prog_1_method_27_code 0 = .ok (.iconst 0, 1) := jx_dec c_T_tasksIn_ok 0 rfl
theorem d_T_tasksIn_1 : decode prog_1_method_27_code 1 = .ok (.istore_n 2, 1) := jx_dec c_T_tasksIn_ok 1 rfl
theorem d_T_tasksIn_2 : decode prog_1_method_27_code 2 = .ok (.iconst 0, 1) := jx_dec c_T_tasksIn_ok 2 rfl
theorem d_T_tasksIn_3 : decode prog_1_method_27_code 3 = .ok (.istore_n 3, 1) := jx_dec c_T_tasksIn_ok 3 rfl
theorem d_T_tasksIn_4 : decode prog_1_method_27_code 4 = .ok (.iload_n 3, 1) := jx_dec c_T_tasksIn_ok 4 rfl
theorem d_T_tasksIn_5 : decode prog_1_method_27_code 5 = .ok (.aload_n 0, 1) := jx_dec c_T_tasksIn_ok 5 rfl
theorem d_T_tasksIn_6 : decode prog_1_method_27_code 6 = .ok (.getfield 16, 3) := jx_dec c_T_tasksIn_ok 6 rfl
theorem d_T_tasksIn_9 : decode prog_1_method_27_code 9 = .ok (.invokevirtual 41, 3) := jx_dec c_T_tasksIn_ok 7 rfl
theorem d_T_tasksIn_12 : decode prog_1_method_27_code 12 = .ok (.if_icmp .ge 30, 3) := jx_dec c_T_tasksIn_ok 8 rfl
theorem d_T_tasksIn_15 : decode prog_1_method_27_code 15 = .ok (.aload_n 0, 1) := jx_dec c_T_tasksIn_ok 9 rfl
theorem d_T_tasksIn_16 : decode prog_1_method_27_code 16 = .ok (.getfield 16, 3) := jx_dec c_T_tasksIn_ok 10 rfl
theorem d_T_tasksIn_19 : decode prog_1_method_27_code 19 = .ok (.iload_n 3, 1) := jx_dec c_T_tasksIn_ok 11 rfl
theorem d_T_tasksIn_20 : decode prog_1_method_27_code 20 = .ok (.invokevirtual 166, 3) := jx_dec c_T_tasksIn_ok 12 rfl
theorem d_T_tasksIn_23 : decode prog_1_method_27_code 23 = .ok (.checkcast 98, 3) := jx_dec c_T_tasksIn_ok 13 rfl
theorem d_T_tasksIn_26 : decode prog_1_method_27_code 26 = .ok (.getfield 170, 3) := jx_dec c_T_tasksIn_ok 14 rfl
theorem d_T_tasksIn_29 : decode prog_1_method_27_code 29 = .ok (.iload_n 1, 1) := jx_dec c_T_tasksIn_ok 15 rfl
theorem d_T_tasksIn_30 : decode prog_1_method_27_code 30 = .ok (.if_icmp .ne 6, 3) := jx_dec c_T_tasksIn_ok 16 rfl
theorem d_T_tasksIn_33 : decode prog_1_method_27_code 33 = .ok (.iinc 2 1, 3) := jx_dec c_T_tasksIn_ok 17 rfl
theorem d_T_tasksIn_36 : decode prog_1_method_27_code 36 = .ok (.iinc 3 1, 3) := jx_dec c_T_tasksIn_ok 18 rfl
theorem d_T_tasksIn_39 : decode prog_1_method_27_code 39 = .ok (.goto (-35), 3) := jx_dec c_T_tasksIn_ok 19 rfl
theorem d_T_tasksIn_42 : decode prog_1_method_27_code 42 = .ok (.iload_n 2, 1) := jx_dec c_T_tasksIn_ok 20 rfl
theorem d_T_tasksIn_43 : decode prog_1_method_27_code 43 = .ok (.ireturn, 1) := jx_dec c_T_tasksIn_ok 21 rfl
def c_T_tasksOf : List (Nat × Instr × Nat) := [(0, .iconst 0, 1), (1, .istore_n 3, 1), (2, .iconst 0, 1), (3, .istore 4, 2), (5, .iload 4, 2), (7, .aload_n 0, 1), (8, .getfield 16, 3), (11, .invokevirtual 41, 3), (14, .if_icmp .ge 32, 3), (17, .aload_n 0, 1), (18, .getfield 16, 3), (21, .iload 4, 2), (23, .invokevirtual 166, 3), (26, .checkcast 98, 3), (29, .iload_n 1, 1), (30, .iload_n 2, 1), (31, .invokevirtual 237, 3), (34, .ifCond .eq 6, 3), (37, .iinc 3 1, 3), (40, .iinc 4 1, 3), (43, .goto (-38), 3), (46, .iload_n 3, 1), (47, .ireturn, 1)]
theorem c_T_tasksOf_ok : (c_T_tasksOf).all (fun q => decide (decode prog_1_method_28_code q.1 = .ok q.2)) = true := by decide +kernel
theorem d_T_tasksOf_0 : decode prog_1_method_28_code 0 = .ok (.iconst 0, 1) := jx_dec c_T_tasksOf_ok 0 rfl
theorem d_T_tasksOf_1 : decode prog_1_method_28_code 1 = .ok (.istore_n 3, 1) := jx_dec c_T_tasksOf_ok 1 rfl
theorem d_T_tasksOf_2 : decode prog_1_method_28_code 2 = .ok (.iconst 0, 1) := jx_dec c_T_tasksOf_ok 2 rfl
theorem d_T_tasksOf_3 : decode prog_1_method_28_code 3 = .ok (.istore 4, 2) := jx_dec c_T_tasksOf_ok 3 rfl
theorem d_T_tasksOf_5 : decode prog_1_method_28_code 5 = .ok (.iload 4, 2) := jx_dec c_T_tasksOf_ok 4 rfl
theorem d_T_tasksOf_7 : decode prog_1_method_28_code 7 = .ok (.aload_n 0, 1) := jx_dec c_T_tasksOf_ok 5 rfl
theorem d_T_tasksOf_8 : decode prog_1_method_28_code 8 = .ok (.getfield 16, 3) := jx_dec c_T_tasksOf_ok 6 rfl
theorem d_T_tasksOf_11 : decode prog_1_method_28_code 11 = .ok (.invokevirtual 41, 3) := jx_dec c_T_tasksOf_ok 7 rfl
theorem d_T_tasksOf_14 : decode prog_1_method_28_code 14 = .ok (.if_icmp .ge 32, 3) := jx_dec c_T_tasksOf_ok 8 rfl
theorem d_T_tasksOf_17 : decode prog_1_method_28_code 17 = .ok (.aload_n 0, 1) := jx_dec c_T_tasksOf_ok 9 rfl
theorem d_T_tasksOf_18 : decode prog_1_method_28_code 18 = .ok (.getfield 16, 3) := jx_dec c_T_tasksOf_ok 10 rfl
theorem d_T_tasksOf_21 : decode prog_1_method_28_code 21 = .ok (.iload 4, 2) := jx_dec c_T_tasksOf_ok 11 rfl
theorem d_T_tasksOf_23 : decode prog_1_method_28_code 23 = .ok (.invokevirtual 166, 3) := jx_dec c_T_tasksOf_ok 12 rfl
theorem d_T_tasksOf_26 : decode prog_1_method_28_code 26 = .ok (.checkcast 98, 3) := jx_dec c_T_tasksOf_ok 13 rfl
theorem d_T_tasksOf_29 : decode prog_1_method_28_code 29 = .ok (.iload_n 1, 1) := jx_dec c_T_tasksOf_ok 14 rfl
theorem d_T_tasksOf_30 : decode prog_1_method_28_code 30 = .ok (.iload_n 2, 1) := jx_dec c_T_tasksOf_ok 15 rfl
theorem d_T_tasksOf_31 : decode prog_1_method_28_code 31 = .ok (.invokevirtual 237, 3) := jx_dec c_T_tasksOf_ok 16 rfl
theorem d_T_tasksOf_34 : decode prog_1_method_28_code 34 = .ok (.ifCond .eq 6, 3) := jx_dec c_T_tasksOf_ok 17 rfl
theorem d_T_tasksOf_37 : decode prog_1_method_28_code 37 = .ok (.iinc 3 1, 3) := jx_dec c_T_tasksOf_ok 18 rfl
theorem d_T_tasksOf_40 : decode prog_1_method_28_code 40 = .ok (.iinc 4 1, 3) := jx_dec c_T_tasksOf_ok 19 rfl
theorem d_T_tasksOf_43 : decode prog_1_method_28_code 43 = .ok (.goto (-38), 3) := jx_dec c_T_tasksOf_ok 20 rfl
theorem d_T_tasksOf_46 : decode prog_1_method_28_code 46 = .ok (.iload_n 3, 1) := jx_dec c_T_tasksOf_ok 21 rfl
theorem d_T_tasksOf_47 : decode prog_1_method_28_code 47 = .ok (.ireturn, 1) := jx_dec c_T_tasksOf_ok 22 rfl
def c_T_latenessOfPlan : List (Nat × Instr × Nat) := [(0, .iconst 0, 1), (1, .istore_n 1, 1), (2, .iconst 0, 1), (3, .istore_n 2, 1), (4, .iload_n 2, 1), (5, .aload_n 0, 1), (6, .getfield 16, 3), (9, .invokevirtual 41, 3), (12, .if_icmp .ge 52, 3), (15, .aload_n 0, 1), (16, .getfield 16, 3), (19, .iload_n 2, 1), (20, .invokevirtual 166, 3), (23, .checkcast 98, 3), (26, .astore_n 3, 1), (27, .aload_n 3, 1), (28, .getfield 170, 3), (31, .ifCond .ne 27, 3), (34, .iload_n 1, 1), (35, .aload_n 3, 1), (36, .getfield 127, 3), (39, .iconst (-1), 1), (40, .if_icmp .ne 8, 3), (43, .ldc 40, 2), (45, .goto 11, 3), (48, .aload_n 3, 1), (49, .aload_n 3, 1), (50, .getfield 185, 3), (53, .invokevirtual 241, 3), (56, .iadd, 1), (57, .istore_n 1, 1), (58, .iinc 2 1, 3), (61, .goto (-57), 3), (64, .iload_n 1, 1), (65, .ireturn, 1)]
theorem c_T_latenessOfPlan_ok : (c_T_latenessOfPlan).all (fun q => decide (decode prog_1_method_29_code q.1 = .ok q.2)) = true := by decide +kernel
theorem d_T_latenessOfPlan_0 : decode prog_1_method_29_code 0 = .ok (.iconst 0, 1) := jx_dec c_T_latenessOfPlan_ok 0 rfl
theorem d_T_latenessOfPlan_1 : decode prog_1_method_29_code 1 = .ok (.istore_n 1, 1) := jx_dec c_T_latenessOfPlan_ok 1 rfl
theorem d_T_latenessOfPlan_2 : decode prog_1_method_29_code 2 = .ok (.iconst 0, 1) := jx_dec c_T_latenessOfPlan_ok 2 rfl
theorem d_T_latenessOfPlan_3 : decode prog_1_method_29_code 3 = .ok (.istore_n 2, 1) := jx_dec c_T_latenessOfPlan_ok 3 rfl
theorem d_T_latenessOfPlan_4 : decode prog_1_method_29_code 4 = .ok (.iload_n 2, 1) := jx_dec c_T_latenessOfPlan_ok 4 rfl
theorem d_T_latenessOfPlan_5 : decode prog_1_method_29_code 5 = .ok (.aload_n 0, 1) := jx_dec c_T_latenessOfPlan_ok 5 rfl
theorem d_T_latenessOfPlan_6 : decode prog_1_method_29_code 6 = .ok (.getfield 16, 3) := jx_dec c_T_latenessOfPlan_ok 6 rfl
theorem d_T_latenessOfPlan_9 : decode prog_1_method_29_code 9 = .ok (.invokevirtual 41, 3) := jx_dec c_T_latenessOfPlan_ok 7 rfl
theorem d_T_latenessOfPlan_12 : decode prog_1_method_29_code 12 = .ok (.if_icmp .ge 52, 3) := jx_dec c_T_latenessOfPlan_ok 8 rfl
theorem d_T_latenessOfPlan_15 : decode prog_1_method_29_code 15 = .ok (.aload_n 0, 1) := jx_dec c_T_latenessOfPlan_ok 9 rfl
theorem d_T_latenessOfPlan_16 : decode prog_1_method_29_code 16 = .ok (.getfield 16, 3) := jx_dec c_T_latenessOfPlan_ok 10 rfl
theorem d_T_latenessOfPlan_19 : decode prog_1_method_29_code 19 = .ok (.iload_n 2, 1) := jx_dec c_T_latenessOfPlan_ok 11 rfl
theorem d_T_latenessOfPlan_20 : decode prog_1_method_29_code 20 = .ok (.invokevirtual 166, 3) := jx_dec c_T_latenessOfPlan_ok 12 rfl
theorem d_T_latenessOfPlan_23 : decode prog_1_method_29_code 23 = .ok (.checkcast 98, 3) := jx_dec c_T_latenessOfPlan_ok 13 rfl
theorem d_T_latenessOfPlan_26 : decode prog_1_method_29_code 26 = .ok (.astore_n 3, 1) := jx_dec c_T_latenessOfPlan_ok 14 rfl
theorem d_T_latenessOfPlan_27 : decode prog_1_method_29_code 27 = .ok (.aload_n 3, 1) := jx_dec c_T_latenessOfPlan_ok 15 rfl
theorem d_T_latenessOfPlan_28 : decode prog_1_method_29_code 28 = .ok (.getfield 170, 3) := jx_dec c_T_latenessOfPlan_ok 16 rfl
theorem d_T_latenessOfPlan_31 : decode prog_1_method_29_code 31 = .ok (.ifCond .ne 27, 3) := jx_dec c_T_latenessOfPlan_ok 17 rfl
theorem d_T_latenessOfPlan_34 : decode prog_1_method_29_code 34 = .ok (.iload_n 1, 1) := jx_dec c_T_latenessOfPlan_ok 18 rfl
theorem d_T_latenessOfPlan_35 : decode prog_1_method_29_code 35 = .ok (.aload_n 3, 1) := jx_dec c_T_latenessOfPlan_ok 19 rfl
theorem d_T_latenessOfPlan_36 : decode prog_1_method_29_code 36 = .ok (.getfield 127, 3) := jx_dec c_T_latenessOfPlan_ok 20 rfl
theorem d_T_latenessOfPlan_39 : decode prog_1_method_29_code 39 = .ok (.iconst (-1), 1) := jx_dec c_T_latenessOfPlan_ok 21 rfl
theorem d_T_latenessOfPlan_40 : decode prog_1_method_29_code 40 = .ok (.if_icmp .ne 8, 3) := jx_dec c_T_latenessOfPlan_ok 22 rfl
theorem d_T_latenessOfPlan_43 : decode prog_1_method_29_code 43 = .ok (.ldc 40, 2) := jx_dec c_T_latenessOfPlan_ok 23 rfl
theorem d_T_latenessOfPlan_45 : decode prog_1_method_29_code 45 = .ok (.goto 11, 3) := jx_dec c_T_latenessOfPlan_ok 24 rfl
theorem d_T_latenessOfPlan_48 : decode prog_1_method_29_code 48 = .ok (.aload_n 3, 1) := jx_dec c_T_latenessOfPlan_ok 25 rfl
theorem d_T_latenessOfPlan_49 : decode prog_1_method_29_code 49 = .ok (.aload_n 3, 1) := jx_dec c_T_latenessOfPlan_ok 26 rfl
theorem d_T_latenessOfPlan_50 : decode prog_1_method_29_code 50 = .ok (.getfield 185, 3) := jx_dec c_T_latenessOfPlan_ok 27 rfl
theorem d_T_latenessOfPlan_53 : decode prog_1_method_29_code 53 = .ok (.invokevirtual 241, 3) := jx_dec c_T_latenessOfPlan_ok 28 rfl
theorem d_T_latenessOfPlan_56 : decode prog_1_method_29_code 56 = .ok (.iadd, 1) := jx_dec c_T_latenessOfPlan_ok 29 rfl
theorem d_T_latenessOfPlan_57 : decode prog_1_method_29_code 57 = .ok (.istore_n 1, 1) := jx_dec c_T_latenessOfPlan_ok 30 rfl
theorem d_T_latenessOfPlan_58 : decode prog_1_method_29_code 58 = .ok (.iinc 2 1, 3) := jx_dec c_T_latenessOfPlan_ok 31 rfl
theorem d_T_latenessOfPlan_61 : decode prog_1_method_29_code 61 = .ok (.goto (-57), 3) := jx_dec c_T_latenessOfPlan_ok 32 rfl
theorem d_T_latenessOfPlan_64 : decode prog_1_method_29_code 64 = .ok (.iload_n 1, 1) := jx_dec c_T_latenessOfPlan_ok 33 rfl
theorem d_T_latenessOfPlan_65 : decode prog_1_method_29_code 65 = .ok (.ireturn, 1) := jx_dec c_T_latenessOfPlan_ok 34 rfl
def c_T_person : List (Nat × Instr × Nat) := [(0, .iload_n 1, 1), (1, .iconst 0, 1), (2, .sipush 255, 3), (5, .invokestatic 36, 3), (8, .iload_n 2, 1), (9, .iconst 0, 1), (10, .ldc 40, 2), (12, .invokestatic 36, 3), (15, .iload_n 3, 1), (16, .iload_n 2, 1), (17, .iconst 1, 1), (18, .iadd, 1), (19, .ldc 40, 2), (21, .invokestatic 36, 3), (24, .iload 4, 2), (26, .iconst 0, 1), (27, .iconst 3, 1), (28, .invokestatic 36, 3), (31, .aload_n 0, 1), (32, .getfield 10, 3), (35, .invokevirtual 41, 3), (38, .iconst 4, 1), (39, .invokestatic 45, 3), (42, .new 49, 3), (45, .dup, 1), (46, .aload_n 0, 1), (47, .getfield 10, 3), (50, .invokevirtual 41, 3), (53, .iload_n 1, 1), (54, .iload_n 2, 1), (55, .iload_n 3, 1), (56, .iload 4, 2), (58, .invokespecial 51, 3), (61, .astore 5, 2), (63, .aload_n 0, 1), (64, .getfield 10, 3), (67, .aload 5, 2), (69, .invokevirtual 54, 3), (72, .pop, 1), (73, .aload 5, 2), (75, .getfield 58, 3), (78, .ireturn, 1)]
theorem c_T_person_ok : (c_T_person).all (fun q => decide (decode prog_1_method_2_code q.1 = .ok q.2)) = true := by decide +kernel
theorem d_T_person_0 : decode prog_1_method_2_code 0 = .ok (.iload_n 1, 1) := jx_dec c_T_person_ok 0 rfl
theorem d_T_person_1 : decode prog_1_method_2_code 1 = .ok (.iconst 0, 1) := jx_dec c_T_person_ok 1 rfl
theorem d_T_person_2 : decode prog_1_method_2_code 2 = .ok (.sipush 255, 3) := jx_dec c_T_person_ok 2 rfl
theorem d_T_person_5 : decode prog_1_method_2_code 5 = .ok (.invokestatic 36, 3) := jx_dec c_T_person_ok 3 rfl
theorem d_T_person_8 : decode prog_1_method_2_code 8 = .ok (.iload_n 2, 1) := jx_dec c_T_person_ok 4 rfl
theorem d_T_person_9 : decode prog_1_method_2_code 9 = .ok (.iconst 0, 1) := jx_dec c_T_person_ok 5 rfl
theorem d_T_person_10 : decode prog_1_method_2_code 10 = .ok (.ldc 40, 2) := jx_dec c_T_person_ok 6 rfl
theorem d_T_person_12 : decode prog_1_method_2_code 12 = .ok (.invokestatic 36, 3) := jx_dec c_T_person_ok 7 rfl
theorem d_T_person_15 : decode prog_1_method_2_code 15 = .ok (.iload_n 3, 1) := jx_dec c_T_person_ok 8 rfl
theorem d_T_person_16 : decode prog_1_method_2_code 16 = .ok (.iload_n 2, 1) := jx_dec c_T_person_ok 9 rfl
theorem d_T_person_17 : decode prog_1_method_2_code 17 = .ok (.iconst 1, 1) := jx_dec c_T_person_ok 10 rfl
theorem d_T_person_18 : decode prog_1_method_2_code 18 = .ok (.iadd, 1) := jx_dec c_T_person_ok 11 rfl
theorem d_T_person_19 : decode prog_1_method_2_code 19 = .ok (.ldc 40, 2) := jx_dec c_T_person_ok 12 rfl
theorem d_T_person_21 : decode prog_1_method_2_code 21 = .ok (.invokestatic 36, 3) := jx_dec c_T_person_ok 13 rfl
theorem d_T_person_24 : decode prog_1_method_2_code 24 = .ok (.iload 4, 2) := jx_dec c_T_person_ok 14 rfl
theorem d_T_person_26 : decode prog_1_method_2_code 26 = .ok (.iconst 0, 1) := jx_dec c_T_person_ok 15 rfl
theorem d_T_person_27 : decode prog_1_method_2_code 27 = .ok (.iconst 3, 1) := jx_dec c_T_person_ok 16 rfl
theorem d_T_person_28 : decode prog_1_method_2_code 28 = .ok (.invokestatic 36, 3) := jx_dec c_T_person_ok 17 rfl
theorem d_T_person_31 : decode prog_1_method_2_code 31 = .ok (.aload_n 0, 1) := jx_dec c_T_person_ok 18 rfl
theorem d_T_person_32 : decode prog_1_method_2_code 32 = .ok (.getfield 10, 3) := jx_dec c_T_person_ok 19 rfl
theorem d_T_person_35 : decode prog_1_method_2_code 35 = .ok (.invokevirtual 41, 3) := jx_dec c_T_person_ok 20 rfl
theorem d_T_person_38 : decode prog_1_method_2_code 38 = .ok (.iconst 4, 1) := jx_dec c_T_person_ok 21 rfl
theorem d_T_person_39 : decode prog_1_method_2_code 39 = .ok (.invokestatic 45, 3) := jx_dec c_T_person_ok 22 rfl
theorem d_T_person_42 : decode prog_1_method_2_code 42 = .ok (.new 49, 3) := jx_dec c_T_person_ok 23 rfl
theorem d_T_person_45 : decode prog_1_method_2_code 45 = .ok (.dup, 1) := jx_dec c_T_person_ok 24 rfl
theorem d_T_person_46 : decode prog_1_method_2_code 46 = .ok (.aload_n 0, 1) := jx_dec c_T_person_ok 25 rfl
theorem d_T_person_47 : decode prog_1_method_2_code 47 = .ok (.getfield 10, 3) := jx_dec c_T_person_ok 26 rfl
theorem d_T_person_50 : decode prog_1_method_2_code 50 = .ok (.invokevirtual 41, 3) := jx_dec c_T_person_ok 27 rfl
theorem d_T_person_53 : decode prog_1_method_2_code 53 = .ok (.iload_n 1, 1) := jx_dec c_T_person_ok 28 rfl
theorem d_T_person_54 : decode prog_1_method_2_code 54 = .ok (.iload_n 2, 1) := jx_dec c_T_person_ok 29 rfl
theorem d_T_person_55 : decode prog_1_method_2_code 55 = .ok (.iload_n 3, 1) := jx_dec c_T_person_ok 30 rfl
theorem d_T_person_56 : decode prog_1_method_2_code 56 = .ok (.iload 4, 2) := jx_dec c_T_person_ok 31 rfl
theorem d_T_person_58 : decode prog_1_method_2_code 58 = .ok (.invokespecial 51, 3) := jx_dec c_T_person_ok 32 rfl
theorem d_T_person_61 : decode prog_1_method_2_code 61 = .ok (.astore 5, 2) := jx_dec c_T_person_ok 33 rfl
theorem d_T_person_63 : decode prog_1_method_2_code 63 = .ok (.aload_n 0, 1) := jx_dec c_T_person_ok 34 rfl
theorem d_T_person_64 : decode prog_1_method_2_code 64 = .ok (.getfield 10, 3) := jx_dec c_T_person_ok 35 rfl
theorem d_T_person_67 : decode prog_1_method_2_code 67 = .ok (.aload 5, 2) := jx_dec c_T_person_ok 36 rfl
theorem d_T_person_69 : decode prog_1_method_2_code 69 = .ok (.invokevirtual 54, 3) := jx_dec c_T_person_ok 37 rfl
theorem d_T_person_72 : decode prog_1_method_2_code 72 = .ok (.pop, 1) := jx_dec c_T_person_ok 38 rfl
theorem d_T_person_73 : decode prog_1_method_2_code 73 = .ok (.aload 5, 2) := jx_dec c_T_person_ok 39 rfl
theorem d_T_person_75 : decode prog_1_method_2_code 75 = .ok (.getfield 58, 3) := jx_dec c_T_person_ok 40 rfl
theorem d_T_person_78 : decode prog_1_method_2_code 78 = .ok (.ireturn, 1) := jx_dec c_T_person_ok 41 rfl
def c_T_needWithin : List (Nat × Instr × Nat) := [(0, .iload_n 0, 1), (1, .iload_n 1, 1), (2, .if_icmp .lt 8, 3), (5, .iload_n 0, 1), (6, .iload_n 2, 1), (7, .if_icmp .le 13, 3), (10, .new 102, 3), (13, .dup, 1), (14, .ldc 224, 2), (16, .invokespecial 106, 3), (19, .athrow, 1), (20, .return_, 1)]
theorem c_T_needWithin_ok : (c_T_needWithin).all (fun q => decide (decode prog_1_method_23_code q.1 = .ok q.2)) = true := by decide +kernel
theorem d_T_needWithin_0 : decode prog_1_method_23_code 0 = .ok (.iload_n 0, 1) := jx_dec c_T_needWithin_ok 0 rfl
theorem d_T_needWithin_1 : decode prog_1_method_23_code 1 = .ok (.iload_n 1, 1) := jx_dec c_T_needWithin_ok 1 rfl
theorem d_T_needWithin_2 : decode prog_1_method_23_code 2 = .ok (.if_icmp .lt 8, 3) := jx_dec c_T_needWithin_ok 2 rfl
theorem d_T_needWithin_5 : decode prog_1_method_23_code 5 = .ok (.iload_n 0, 1) := jx_dec c_T_needWithin_ok 3 rfl
theorem d_T_needWithin_6 : decode prog_1_method_23_code 6 = .ok (.iload_n 2, 1) := jx_dec c_T_needWithin_ok 4 rfl
theorem d_T_needWithin_7 : decode prog_1_method_23_code 7 = .ok (.if_icmp .le 13, 3) := jx_dec c_T_needWithin_ok 5 rfl
theorem d_T_needWithin_10 : decode prog_1_method_23_code 10 = .ok (.new 102, 3) := jx_dec c_T_needWithin_ok 6 rfl
theorem d_T_needWithin_13 : decode prog_1_method_23_code 13 = .ok (.dup, 1) := jx_dec c_T_needWithin_ok 7 rfl
theorem d_T_needWithin_14 : decode prog_1_method_23_code 14 = .ok (.ldc 224, 2) := jx_dec c_T_needWithin_ok 8 rfl
theorem d_T_needWithin_16 : decode prog_1_method_23_code 16 = .ok (.invokespecial 106, 3) := jx_dec c_T_needWithin_ok 9 rfl
theorem d_T_needWithin_19 : decode prog_1_method_23_code 19 = .ok (.athrow, 1) := jx_dec c_T_needWithin_ok 10 rfl
theorem d_T_needWithin_20 : decode prog_1_method_23_code 20 = .ok (.return_, 1) := jx_dec c_T_needWithin_ok 11 rfl
def c_T_needRoom : List (Nat × Instr × Nat) := [(0, .iload_n 0, 1), (1, .iload_n 1, 1), (2, .if_icmp .lt 13, 3), (5, .new 226, 3), (8, .dup, 1), (9, .ldc 228, 2), (11, .invokespecial 230, 3), (14, .athrow, 1), (15, .return_, 1)]
theorem c_T_needRoom_ok : (c_T_needRoom).all (fun q => decide (decode prog_1_method_24_code q.1 = .ok q.2)) = true := by decide +kernel
theorem d_T_needRoom_0 : decode prog_1_method_24_code 0 = .ok (.iload_n 0, 1) := jx_dec c_T_needRoom_ok 0 rfl
theorem d_T_needRoom_1 : decode prog_1_method_24_code 1 = .ok (.iload_n 1, 1) := jx_dec c_T_needRoom_ok 1 rfl
theorem d_T_needRoom_2 : decode prog_1_method_24_code 2 = .ok (.if_icmp .lt 13, 3) := jx_dec c_T_needRoom_ok 2 rfl
theorem d_T_needRoom_5 : decode prog_1_method_24_code 5 = .ok (.new 226, 3) := jx_dec c_T_needRoom_ok 3 rfl
theorem d_T_needRoom_8 : decode prog_1_method_24_code 8 = .ok (.dup, 1) := jx_dec c_T_needRoom_ok 4 rfl
theorem d_T_needRoom_9 : decode prog_1_method_24_code 9 = .ok (.ldc 228, 2) := jx_dec c_T_needRoom_ok 5 rfl
theorem d_T_needRoom_11 : decode prog_1_method_24_code 11 = .ok (.invokespecial 230, 3) := jx_dec c_T_needRoom_ok 6 rfl
theorem d_T_needRoom_14 : decode prog_1_method_24_code 14 = .ok (.athrow, 1) := jx_dec c_T_needRoom_ok 7 rfl
theorem d_T_needRoom_15 : decode prog_1_method_24_code 15 = .ok (.return_, 1) := jx_dec c_T_needRoom_ok 8 rfl
def c_T_rest : List (Nat × Instr × Nat) := [(0, .aload_n 0, 1), (1, .iload_n 1, 1), (2, .invokevirtual 62, 3), (5, .astore 4, 2), (7, .iload_n 2, 1), (8, .aload 4, 2), (10, .getfield 66, 3), (13, .aload 4, 2), (15, .getfield 69, 3), (18, .invokestatic 36, 3), (21, .iload_n 3, 1), (22, .iload_n 2, 1), (23, .aload 4, 2), (25, .getfield 69, 3), (28, .invokestatic 36, 3), (31, .aload 4, 2), (33, .iload_n 2, 1), (34, .iload_n 3, 1), (35, .if_icmp .ne 7, 3), (38, .iconst 0, 1), (39, .goto 4, 3), (42, .iload_n 2, 1), (43, .putfield 72, 3), (46, .aload 4, 2), (48, .iload_n 2, 1), (49, .iload_n 3, 1), (50, .if_icmp .ne 7, 3), (53, .iconst 0, 1), (54, .goto 4, 3), (57, .iload_n 3, 1), (58, .putfield 75, 3), (61, .return_, 1)]
theorem c_T_rest_ok : (c_T_rest).all (fun q => decide (decode prog_1_method_3_code q.1 = .ok q.2)) = true := by decide +kernel
theorem d_T_rest_0 : decode prog_1_method_3_code 0 = .ok (.aload_n 0, 1) := jx_dec c_T_rest_ok 0 rfl
theorem d_T_rest_1 : decode prog_1_method_3_code 1 = .ok (.iload_n 1, 1) := jx_dec c_T_rest_ok 1 rfl
theorem d_T_rest_2 : decode prog_1_method_3_code 2 = .ok (.invokevirtual 62, 3) := jx_dec c_T_rest_ok 2 rfl
theorem d_T_rest_5 : decode prog_1_method_3_code 5 = .ok (.astore 4, 2) := jx_dec c_T_rest_ok 3 rfl
theorem d_T_rest_7 : decode prog_1_method_3_code 7 = .ok (.iload_n 2, 1) := jx_dec c_T_rest_ok 4 rfl
theorem d_T_rest_8 : decode prog_1_method_3_code 8 = .ok (.aload 4, 2) := jx_dec c_T_rest_ok 5 rfl
theorem d_T_rest_10 : decode prog_1_method_3_code 10 = .ok (.getfield 66, 3) := jx_dec c_T_rest_ok 6 rfl
theorem d_T_rest_13 : decode prog_1_method_3_code 13 = .ok (.aload 4, 2) := jx_dec c_T_rest_ok 7 rfl
theorem d_T_rest_15 : decode prog_1_method_3_code 15 = .ok (.getfield 69, 3) := jx_dec c_T_rest_ok 8 rfl
theorem d_T_rest_18 : decode prog_1_method_3_code 18 = .ok (.invokestatic 36, 3) := jx_dec c_T_rest_ok 9 rfl
theorem d_T_rest_21 : decode prog_1_method_3_code 21 = .ok (.iload_n 3, 1) := jx_dec c_T_rest_ok 10 rfl
theorem d_T_rest_22 : decode prog_1_method_3_code 22 = .ok (.iload_n 2, 1) := jx_dec c_T_rest_ok 11 rfl
theorem d_T_rest_23 : decode prog_1_method_3_code 23 = .ok (.aload 4, 2) := jx_dec c_T_rest_ok 12 rfl
theorem d_T_rest_25 : decode prog_1_method_3_code 25 = .ok (.getfield 69, 3) := jx_dec c_T_rest_ok 13 rfl
theorem d_T_rest_28 : decode prog_1_method_3_code 28 = .ok (.invokestatic 36, 3) := jx_dec c_T_rest_ok 14 rfl
theorem d_T_rest_31 : decode prog_1_method_3_code 31 = .ok (.aload 4, 2) := jx_dec c_T_rest_ok 15 rfl
theorem d_T_rest_33 : decode prog_1_method_3_code 33 = .ok (.iload_n 2, 1) := jx_dec c_T_rest_ok 16 rfl
theorem d_T_rest_34 : decode prog_1_method_3_code 34 = .ok (.iload_n 3, 1) := jx_dec c_T_rest_ok 17 rfl
theorem d_T_rest_35 : decode prog_1_method_3_code 35 = .ok (.if_icmp .ne 7, 3) := jx_dec c_T_rest_ok 18 rfl
theorem d_T_rest_38 : decode prog_1_method_3_code 38 = .ok (.iconst 0, 1) := jx_dec c_T_rest_ok 19 rfl
theorem d_T_rest_39 : decode prog_1_method_3_code 39 = .ok (.goto 4, 3) := jx_dec c_T_rest_ok 20 rfl
theorem d_T_rest_42 : decode prog_1_method_3_code 42 = .ok (.iload_n 2, 1) := jx_dec c_T_rest_ok 21 rfl
theorem d_T_rest_43 : decode prog_1_method_3_code 43 = .ok (.putfield 72, 3) := jx_dec c_T_rest_ok 22 rfl
theorem d_T_rest_46 : decode prog_1_method_3_code 46 = .ok (.aload 4, 2) := jx_dec c_T_rest_ok 23 rfl
theorem d_T_rest_48 : decode prog_1_method_3_code 48 = .ok (.iload_n 2, 1) := jx_dec c_T_rest_ok 24 rfl
theorem d_T_rest_49 : decode prog_1_method_3_code 49 = .ok (.iload_n 3, 1) := jx_dec c_T_rest_ok 25 rfl
theorem d_T_rest_50 : decode prog_1_method_3_code 50 = .ok (.if_icmp .ne 7, 3) := jx_dec c_T_rest_ok 26 rfl
theorem d_T_rest_53 : decode prog_1_method_3_code 53 = .ok (.iconst 0, 1) := jx_dec c_T_rest_ok 27 rfl
theorem d_T_rest_54 : decode prog_1_method_3_code 54 = .ok (.goto 4, 3) := jx_dec c_T_rest_ok 28 rfl
theorem d_T_rest_57 : decode prog_1_method_3_code 57 = .ok (.iload_n 3, 1) := jx_dec c_T_rest_ok 29 rfl
theorem d_T_rest_58 : decode prog_1_method_3_code 58 = .ok (.putfield 75, 3) := jx_dec c_T_rest_ok 30 rfl
theorem d_T_rest_61 : decode prog_1_method_3_code 61 = .ok (.return_, 1) := jx_dec c_T_rest_ok 31 rfl
def c_T_personOf : List (Nat × Instr × Nat) := [(0, .iload_n 1, 1), (1, .ifCond .lt 14, 3), (4, .iload_n 1, 1), (5, .aload_n 0, 1), (6, .getfield 10, 3), (9, .invokevirtual 41, 3), (12, .if_icmp .lt 13, 3), (15, .new 217, 3), (18, .dup, 1), (19, .ldc 219, 2), (21, .invokespecial 221, 3), (24, .athrow, 1), (25, .aload_n 0, 1), (26, .getfield 10, 3), (29, .iload_n 1, 1), (30, .invokevirtual 166, 3), (33, .checkcast 49, 3), (36, .areturn, 1)]
theorem c_T_personOf_ok : (c_T_personOf).all (fun q => decide (decode prog_1_method_21_code q.1 = .ok q.2)) = true := by decide +kernel
theorem d_T_personOf_0 : decode prog_1_method_21_code 0 = .ok (.iload_n 1, 1) := jx_dec c_T_personOf_ok 0 rfl
theorem d_T_personOf_1 : decode prog_1_method_21_code 1 = .ok (.ifCond .lt 14, 3) := jx_dec c_T_personOf_ok 1 rfl
theorem d_T_personOf_4 : decode prog_1_method_21_code 4 = .ok (.iload_n 1, 1) := jx_dec c_T_personOf_ok 2 rfl
theorem d_T_personOf_5 : decode prog_1_method_21_code 5 = .ok (.aload_n 0, 1) := jx_dec c_T_personOf_ok 3 rfl
theorem d_T_personOf_6 : decode prog_1_method_21_code 6 = .ok (.getfield 10, 3) := jx_dec c_T_personOf_ok 4 rfl
theorem d_T_personOf_9 : decode prog_1_method_21_code 9 = .ok (.invokevirtual 41, 3) := jx_dec c_T_personOf_ok 5 rfl
theorem d_T_personOf_12 : decode prog_1_method_21_code 12 = .ok (.if_icmp .lt 13, 3) := jx_dec c_T_personOf_ok 6 rfl
theorem d_T_personOf_15 : decode prog_1_method_21_code 15 = .ok (.new 217, 3) := jx_dec c_T_personOf_ok 7 rfl
theorem d_T_personOf_18 : decode prog_1_method_21_code 18 = .ok (.dup, 1) := jx_dec c_T_personOf_ok 8 rfl
theorem d_T_personOf_19 : decode prog_1_method_21_code 19 = .ok (.ldc 219, 2) := jx_dec c_T_personOf_ok 9 rfl
theorem d_T_personOf_21 : decode prog_1_method_21_code 21 = .ok (.invokespecial 221, 3) := jx_dec c_T_personOf_ok 10 rfl
theorem d_T_personOf_24 : decode prog_1_method_21_code 24 = .ok (.athrow, 1) := jx_dec c_T_personOf_ok 11 rfl
theorem d_T_personOf_25 : decode prog_1_method_21_code 25 = .ok (.aload_n 0, 1) := jx_dec c_T_personOf_ok 12 rfl
theorem d_T_personOf_26 : decode prog_1_method_21_code 26 = .ok (.getfield 10, 3) := jx_dec c_T_personOf_ok 13 rfl
theorem d_T_personOf_29 : decode prog_1_method_21_code 29 = .ok (.iload_n 1, 1) := jx_dec c_T_personOf_ok 14 rfl
theorem d_T_personOf_30 : decode prog_1_method_21_code 30 = .ok (.invokevirtual 166, 3) := jx_dec c_T_personOf_ok 15 rfl
theorem d_T_personOf_33 : decode prog_1_method_21_code 33 = .ok (.checkcast 49, 3) := jx_dec c_T_personOf_ok 16 rfl
theorem d_T_personOf_36 : decode prog_1_method_21_code 36 = .ok (.areturn, 1) := jx_dec c_T_personOf_ok 17 rfl
def c_T_train : List (Nat × Instr × Nat) := [(0, .aload_n 0, 1), (1, .iload_n 1, 1), (2, .invokevirtual 62, 3), (5, .astore_n 3, 1), (6, .iload_n 2, 1), (7, .iconst 0, 1), (8, .bipush 7, 2), (10, .invokestatic 36, 3), (13, .aload_n 3, 1), (14, .iload_n 2, 1), (15, .invokevirtual 78, 3), (18, .ifCond .eq 13, 3), (21, .new 82, 3), (24, .dup, 1), (25, .ldc 84, 2), (27, .invokespecial 86, 3), (30, .athrow, 1), (31, .aload_n 3, 1), (32, .dup, 1), (33, .getfield 89, 3), (36, .iconst 1, 1), (37, .iload_n 2, 1), (38, .ishl, 1), (39, .ior, 1), (40, .putfield 89, 3), (43, .aload_n 3, 1), (44, .getfield 89, 3), (47, .invokestatic 92, 3), (50, .ireturn, 1)]
theorem c_T_train_ok : (c_T_train).all (fun q => decide (decode prog_1_method_4_code q.1 = .ok q.2)) = true := by decide +kernel
theorem d_T_train_0 : decode prog_1_method_4_code 0 = .ok (.aload_n 0, 1) := jx_dec c_T_train_ok 0 rfl
theorem d_T_train_1 : decode prog_1_method_4_code 1 = .ok (.iload_n 1, 1) := jx_dec c_T_train_ok 1 rfl
theorem d_T_train_2 : decode prog_1_method_4_code 2 = .ok (.invokevirtual 62, 3) := jx_dec c_T_train_ok 2 rfl
theorem d_T_train_5 : decode prog_1_method_4_code 5 = .ok (.astore_n 3, 1) := jx_dec c_T_train_ok 3 rfl
theorem d_T_train_6 : decode prog_1_method_4_code 6 = .ok (.iload_n 2, 1) := jx_dec c_T_train_ok 4 rfl
theorem d_T_train_7 : decode prog_1_method_4_code 7 = .ok (.iconst 0, 1) := jx_dec c_T_train_ok 5 rfl
theorem d_T_train_8 : decode prog_1_method_4_code 8 = .ok (.bipush 7, 2) := jx_dec c_T_train_ok 6 rfl
theorem d_T_train_10 : decode prog_1_method_4_code 10 = .ok (.invokestatic 36, 3) := jx_dec c_T_train_ok 7 rfl
theorem d_T_train_13 : decode prog_1_method_4_code 13 = .ok (.aload_n 3, 1) := jx_dec c_T_train_ok 8 rfl
theorem d_T_train_14 : decode prog_1_method_4_code 14 = .ok (.iload_n 2, 1) := jx_dec c_T_train_ok 9 rfl
theorem d_T_train_15 : decode prog_1_method_4_code 15 = .ok (.invokevirtual 78, 3) := jx_dec c_T_train_ok 10 rfl
theorem d_T_train_18 : decode prog_1_method_4_code 18 = .ok (.ifCond .eq 13, 3) := jx_dec c_T_train_ok 11 rfl
theorem d_T_train_21 : decode prog_1_method_4_code 21 = .ok (.new 82, 3) := jx_dec c_T_train_ok 12 rfl
theorem d_T_train_24 : decode prog_1_method_4_code 24 = .ok (.dup, 1) := jx_dec c_T_train_ok 13 rfl
theorem d_T_train_25 : decode prog_1_method_4_code 25 = .ok (.ldc 84, 2) := jx_dec c_T_train_ok 14 rfl
theorem d_T_train_27 : decode prog_1_method_4_code 27 = .ok (.invokespecial 86, 3) := jx_dec c_T_train_ok 15 rfl
theorem d_T_train_30 : decode prog_1_method_4_code 30 = .ok (.athrow, 1) := jx_dec c_T_train_ok 16 rfl
theorem d_T_train_31 : decode prog_1_method_4_code 31 = .ok (.aload_n 3, 1) := jx_dec c_T_train_ok 17 rfl
theorem d_T_train_32 : decode prog_1_method_4_code 32 = .ok (.dup, 1) := jx_dec c_T_train_ok 18 rfl
theorem d_T_train_33 : decode prog_1_method_4_code 33 = .ok (.getfield 89, 3) := jx_dec c_T_train_ok 19 rfl
theorem d_T_train_36 : decode prog_1_method_4_code 36 = .ok (.iconst 1, 1) := jx_dec c_T_train_ok 20 rfl
theorem d_T_train_37 : decode prog_1_method_4_code 37 = .ok (.iload_n 2, 1) := jx_dec c_T_train_ok 21 rfl
theorem d_T_train_38 : decode prog_1_method_4_code 38 = .ok (.ishl, 1) := jx_dec c_T_train_ok 22 rfl
theorem d_T_train_39 : decode prog_1_method_4_code 39 = .ok (.ior, 1) := jx_dec c_T_train_ok 23 rfl
theorem d_T_train_40 : decode prog_1_method_4_code 40 = .ok (.putfield 89, 3) := jx_dec c_T_train_ok 24 rfl
theorem d_T_train_43 : decode prog_1_method_4_code 43 = .ok (.aload_n 3, 1) := jx_dec c_T_train_ok 25 rfl
theorem d_T_train_44 : decode prog_1_method_4_code 44 = .ok (.getfield 89, 3) := jx_dec c_T_train_ok 26 rfl
theorem d_T_train_47 : decode prog_1_method_4_code 47 = .ok (.invokestatic 92, 3) := jx_dec c_T_train_ok 27 rfl
theorem d_T_train_50 : decode prog_1_method_4_code 50 = .ok (.ireturn, 1) := jx_dec c_T_train_ok 28 rfl
def c_T_task : List (Nat × Instr × Nat) := [(0, .iload_n 1, 1), (1, .iconst 0, 1), (2, .bipush 7, 2), (4, .invokestatic 36, 3), (7, .iload_n 2, 1), (8, .iconst 1, 1), (9, .sipush 5000, 3), (12, .invokestatic 36, 3), (15, .iload_n 3, 1), (16, .iconst 0, 1), (17, .ldc 40, 2), (19, .invokestatic 36, 3), (22, .iload 4, 2), (24, .iconst 0, 1), (25, .iconst 3, 1), (26, .invokestatic 36, 3), (29, .aload_n 0, 1), (30, .getfield 16, 3), (33, .invokevirtual 41, 3), (36, .bipush 16, 2), (38, .invokestatic 45, 3), (41, .new 98, 3), (44, .dup, 1), (45, .aload_n 0, 1), (46, .getfield 16, 3), (49, .invokevirtual 41, 3), (52, .iload_n 1, 1), (53, .iload_n 2, 1), (54, .iload_n 3, 1), (55, .iload 4, 2), (57, .invokespecial 100, 3), (60, .astore 5, 2), (62, .aload_n 0, 1), (63, .getfield 16, 3), (66, .aload 5, 2), (68, .invokevirtual 54, 3), (71, .pop, 1), (72, .aload 5, 2), (74, .getfield 101, 3), (77, .ireturn, 1)]
theorem c_T_task_ok : (c_T_task).all (fun q => decide (decode prog_1_method_5_code q.1 = .ok q.2)) = true := by decide +kernel
theorem d_T_task_0 : decode prog_1_method_5_code 0 = .ok (.iload_n 1, 1) := jx_dec c_T_task_ok 0 rfl
theorem d_T_task_1 : decode prog_1_method_5_code 1 = .ok (.iconst 0, 1) := jx_dec c_T_task_ok 1 rfl
theorem d_T_task_2 : decode prog_1_method_5_code 2 = .ok (.bipush 7, 2) := jx_dec c_T_task_ok 2 rfl
theorem d_T_task_4 : decode prog_1_method_5_code 4 = .ok (.invokestatic 36, 3) := jx_dec c_T_task_ok 3 rfl
theorem d_T_task_7 : decode prog_1_method_5_code 7 = .ok (.iload_n 2, 1) := jx_dec c_T_task_ok 4 rfl
theorem d_T_task_8 : decode prog_1_method_5_code 8 = .ok (.iconst 1, 1) := jx_dec c_T_task_ok 5 rfl
theorem d_T_task_9 : decode prog_1_method_5_code 9 = .ok (.sipush 5000, 3) := jx_dec c_T_task_ok 6 rfl
theorem d_T_task_12 : decode prog_1_method_5_code 12 = .ok (.invokestatic 36, 3) := jx_dec c_T_task_ok 7 rfl
theorem d_T_task_15 : decode prog_1_method_5_code 15 = .ok (.iload_n 3, 1) := jx_dec c_T_task_ok 8 rfl
theorem d_T_task_16 : decode prog_1_method_5_code 16 = .ok (.iconst 0, 1) := jx_dec c_T_task_ok 9 rfl
theorem d_T_task_17 : decode prog_1_method_5_code 17 = .ok (.ldc 40, 2) := jx_dec c_T_task_ok 10 rfl
theorem d_T_task_19 : decode prog_1_method_5_code 19 = .ok (.invokestatic 36, 3) := jx_dec c_T_task_ok 11 rfl
theorem d_T_task_22 : decode prog_1_method_5_code 22 = .ok (.iload 4, 2) := jx_dec c_T_task_ok 12 rfl
theorem d_T_task_24 : decode prog_1_method_5_code 24 = .ok (.iconst 0, 1) := jx_dec c_T_task_ok 13 rfl
theorem d_T_task_25 : decode prog_1_method_5_code 25 = .ok (.iconst 3, 1) := jx_dec c_T_task_ok 14 rfl
theorem d_T_task_26 : decode prog_1_method_5_code 26 = .ok (.invokestatic 36, 3) := jx_dec c_T_task_ok 15 rfl
theorem d_T_task_29 : decode prog_1_method_5_code 29 = .ok (.aload_n 0, 1) := jx_dec c_T_task_ok 16 rfl
theorem d_T_task_30 : decode prog_1_method_5_code 30 = .ok (.getfield 16, 3) := jx_dec c_T_task_ok 17 rfl
theorem d_T_task_33 : decode prog_1_method_5_code 33 = .ok (.invokevirtual 41, 3) := jx_dec c_T_task_ok 18 rfl
theorem d_T_task_36 : decode prog_1_method_5_code 36 = .ok (.bipush 16, 2) := jx_dec c_T_task_ok 19 rfl
theorem d_T_task_38 : decode prog_1_method_5_code 38 = .ok (.invokestatic 45, 3) := jx_dec c_T_task_ok 20 rfl
theorem d_T_task_41 : decode prog_1_method_5_code 41 = .ok (.new 98, 3) := jx_dec c_T_task_ok 21 rfl
theorem d_T_task_44 : decode prog_1_method_5_code 44 = .ok (.dup, 1) := jx_dec c_T_task_ok 22 rfl
theorem d_T_task_45 : decode prog_1_method_5_code 45 = .ok (.aload_n 0, 1) := jx_dec c_T_task_ok 23 rfl
theorem d_T_task_46 : decode prog_1_method_5_code 46 = .ok (.getfield 16, 3) := jx_dec c_T_task_ok 24 rfl
theorem d_T_task_49 : decode prog_1_method_5_code 49 = .ok (.invokevirtual 41, 3) := jx_dec c_T_task_ok 25 rfl
theorem d_T_task_52 : decode prog_1_method_5_code 52 = .ok (.iload_n 1, 1) := jx_dec c_T_task_ok 26 rfl
theorem d_T_task_53 : decode prog_1_method_5_code 53 = .ok (.iload_n 2, 1) := jx_dec c_T_task_ok 27 rfl
theorem d_T_task_54 : decode prog_1_method_5_code 54 = .ok (.iload_n 3, 1) := jx_dec c_T_task_ok 28 rfl
theorem d_T_task_55 : decode prog_1_method_5_code 55 = .ok (.iload 4, 2) := jx_dec c_T_task_ok 29 rfl
theorem d_T_task_57 : decode prog_1_method_5_code 57 = .ok (.invokespecial 100, 3) := jx_dec c_T_task_ok 30 rfl
theorem d_T_task_60 : decode prog_1_method_5_code 60 = .ok (.astore 5, 2) := jx_dec c_T_task_ok 31 rfl
theorem d_T_task_62 : decode prog_1_method_5_code 62 = .ok (.aload_n 0, 1) := jx_dec c_T_task_ok 32 rfl
theorem d_T_task_63 : decode prog_1_method_5_code 63 = .ok (.getfield 16, 3) := jx_dec c_T_task_ok 33 rfl
theorem d_T_task_66 : decode prog_1_method_5_code 66 = .ok (.aload 5, 2) := jx_dec c_T_task_ok 34 rfl
theorem d_T_task_68 : decode prog_1_method_5_code 68 = .ok (.invokevirtual 54, 3) := jx_dec c_T_task_ok 35 rfl
theorem d_T_task_71 : decode prog_1_method_5_code 71 = .ok (.pop, 1) := jx_dec c_T_task_ok 36 rfl
theorem d_T_task_72 : decode prog_1_method_5_code 72 = .ok (.aload 5, 2) := jx_dec c_T_task_ok 37 rfl
theorem d_T_task_74 : decode prog_1_method_5_code 74 = .ok (.getfield 101, 3) := jx_dec c_T_task_ok 38 rfl
theorem d_T_task_77 : decode prog_1_method_5_code 77 = .ok (.ireturn, 1) := jx_dec c_T_task_ok 39 rfl
def c_T_way : List (Nat × Instr × Nat) := [(0, .iload_n 1, 1), (1, .iconst 0, 1), (2, .iconst 3, 1), (3, .invokestatic 36, 3), (6, .iload_n 2, 1), (7, .iconst 0, 1), (8, .iconst 3, 1), (9, .invokestatic 36, 3), (12, .iload_n 3, 1), (13, .iconst 0, 1), (14, .sipush 1000, 3), (17, .invokestatic 36, 3), (20, .iload_n 1, 1), (21, .iload_n 2, 1), (22, .if_icmp .ne 13, 3), (25, .new 102, 3), (28, .dup, 1), (29, .ldc 104, 2), (31, .invokespecial 106, 3), (34, .athrow, 1), (35, .aload_n 0, 1), (36, .getfield 25, 3), (39, .iload_n 1, 1), (40, .iload_n 2, 1), (41, .iload_n 3, 1), (42, .invokevirtual 107, 3), (45, .return_, 1)]
theorem c_T_way_ok : (c_T_way).all (fun q => decide (decode prog_1_method_6_code q.1 = .ok q.2)) = true := by decide +kernel
theorem d_T_way_0 : decode prog_1_method_6_code 0 = .ok (.iload_n 1, 1) := jx_dec c_T_way_ok 0 rfl
theorem d_T_way_1 : decode prog_1_method_6_code 1 = .ok (.iconst 0, 1) := jx_dec c_T_way_ok 1 rfl
theorem d_T_way_2 : decode prog_1_method_6_code 2 = .ok (.iconst 3, 1) := jx_dec c_T_way_ok 2 rfl
theorem d_T_way_3 : decode prog_1_method_6_code 3 = .ok (.invokestatic 36, 3) := jx_dec c_T_way_ok 3 rfl
theorem d_T_way_6 : decode prog_1_method_6_code 6 = .ok (.iload_n 2, 1) := jx_dec c_T_way_ok 4 rfl
theorem d_T_way_7 : decode prog_1_method_6_code 7 = .ok (.iconst 0, 1) := jx_dec c_T_way_ok 5 rfl
theorem d_T_way_8 : decode prog_1_method_6_code 8 = .ok (.iconst 3, 1) := jx_dec c_T_way_ok 6 rfl
theorem d_T_way_9 : decode prog_1_method_6_code 9 = .ok (.invokestatic 36, 3) := jx_dec c_T_way_ok 7 rfl
theorem d_T_way_12 : decode prog_1_method_6_code 12 = .ok (.iload_n 3, 1) := jx_dec c_T_way_ok 8 rfl
theorem d_T_way_13 : decode prog_1_method_6_code 13 = .ok (.iconst 0, 1) := jx_dec c_T_way_ok 9 rfl
theorem d_T_way_14 : decode prog_1_method_6_code 14 = .ok (.sipush 1000, 3) := jx_dec c_T_way_ok 10 rfl
theorem d_T_way_17 : decode prog_1_method_6_code 17 = .ok (.invokestatic 36, 3) := jx_dec c_T_way_ok 11 rfl
theorem d_T_way_20 : decode prog_1_method_6_code 20 = .ok (.iload_n 1, 1) := jx_dec c_T_way_ok 12 rfl
theorem d_T_way_21 : decode prog_1_method_6_code 21 = .ok (.iload_n 2, 1) := jx_dec c_T_way_ok 13 rfl
theorem d_T_way_22 : decode prog_1_method_6_code 22 = .ok (.if_icmp .ne 13, 3) := jx_dec c_T_way_ok 14 rfl
theorem d_T_way_25 : decode prog_1_method_6_code 25 = .ok (.new 102, 3) := jx_dec c_T_way_ok 15 rfl
theorem d_T_way_28 : decode prog_1_method_6_code 28 = .ok (.dup, 1) := jx_dec c_T_way_ok 16 rfl
theorem d_T_way_29 : decode prog_1_method_6_code 29 = .ok (.ldc 104, 2) := jx_dec c_T_way_ok 17 rfl
theorem d_T_way_31 : decode prog_1_method_6_code 31 = .ok (.invokespecial 106, 3) := jx_dec c_T_way_ok 18 rfl
theorem d_T_way_34 : decode prog_1_method_6_code 34 = .ok (.athrow, 1) := jx_dec c_T_way_ok 19 rfl
theorem d_T_way_35 : decode prog_1_method_6_code 35 = .ok (.aload_n 0, 1) := jx_dec c_T_way_ok 20 rfl
theorem d_T_way_36 : decode prog_1_method_6_code 36 = .ok (.getfield 25, 3) := jx_dec c_T_way_ok 21 rfl
theorem d_T_way_39 : decode prog_1_method_6_code 39 = .ok (.iload_n 1, 1) := jx_dec c_T_way_ok 22 rfl
theorem d_T_way_40 : decode prog_1_method_6_code 40 = .ok (.iload_n 2, 1) := jx_dec c_T_way_ok 23 rfl
theorem d_T_way_41 : decode prog_1_method_6_code 41 = .ok (.iload_n 3, 1) := jx_dec c_T_way_ok 24 rfl
theorem d_T_way_42 : decode prog_1_method_6_code 42 = .ok (.invokevirtual 107, 3) := jx_dec c_T_way_ok 25 rfl
theorem d_T_way_45 : decode prog_1_method_6_code 45 = .ok (.return_, 1) := jx_dec c_T_way_ok 26 rfl
def c_T_refuse : List (Nat × Instr × Nat) := [(0, .aload_n 0, 1), (1, .iload_n 1, 1), (2, .invokevirtual 62, 3), (5, .astore_n 3, 1), (6, .aload_n 0, 1), (7, .iload_n 2, 1), (8, .invokevirtual 110, 3), (11, .astore 4, 2), (13, .aload 4, 2), (15, .invokestatic 114, 3), (18, .aload_n 3, 1), (19, .aload 4, 2), (21, .invokevirtual 118, 3), (24, .ifCond .eq 13, 3), (27, .new 82, 3), (30, .dup, 1), (31, .ldc 122, 2), (33, .invokespecial 86, 3), (36, .athrow, 1), (37, .aload_n 3, 1), (38, .dup, 1), (39, .getfield 124, 3), (42, .iconst 1, 1), (43, .aload 4, 2), (45, .getfield 101, 3), (48, .ishl, 1), (49, .ior, 1), (50, .putfield 124, 3), (53, .aload 4, 2), (55, .getfield 127, 3), (58, .aload_n 3, 1), (59, .getfield 58, 3), (62, .if_icmp .ne 7, 3), (65, .iconst 1, 1), (66, .goto 4, 3), (69, .iconst 0, 1), (70, .istore 5, 2), (72, .iload 5, 2), (74, .ifCond .eq 8, 3), (77, .aload 4, 2), (79, .invokevirtual 130, 3), (82, .iload 5, 2), (84, .ireturn, 1)]
theorem c_T_refuse_ok : (c_T_refuse).all (fun q => decide (decode prog_1_method_7_code q.1 = .ok q.2)) = true := by decide +kernel
theorem d_T_refuse_0 : decode prog_1_method_7_code 0 = .ok (.aload_n 0, 1) := jx_dec c_T_refuse_ok 0 rfl
theorem d_T_refuse_1 : decode prog_1_method_7_code 1 = .ok (.iload_n 1, 1) := jx_dec c_T_refuse_ok 1 rfl
theorem d_T_refuse_2 : decode prog_1_method_7_code 2 = .ok (.invokevirtual 62, 3) := jx_dec c_T_refuse_ok 2 rfl
theorem d_T_refuse_5 : decode prog_1_method_7_code 5 = .ok (.astore_n 3, 1) := jx_dec c_T_refuse_ok 3 rfl
theorem d_T_refuse_6 : decode prog_1_method_7_code 6 = .ok (.aload_n 0, 1) := jx_dec c_T_refuse_ok 4 rfl
theorem d_T_refuse_7 : decode prog_1_method_7_code 7 = .ok (.iload_n 2, 1) := jx_dec c_T_refuse_ok 5 rfl
theorem d_T_refuse_8 : decode prog_1_method_7_code 8 = .ok (.invokevirtual 110, 3) := jx_dec c_T_refuse_ok 6 rfl
theorem d_T_refuse_11 : decode prog_1_method_7_code 11 = .ok (.astore 4, 2) := jx_dec c_T_refuse_ok 7 rfl
theorem d_T_refuse_13 : decode prog_1_method_7_code 13 = .ok (.aload 4, 2) := jx_dec c_T_refuse_ok 8 rfl
theorem d_T_refuse_15 : decode prog_1_method_7_code 15 = .ok (.invokestatic 114, 3) := jx_dec c_T_refuse_ok 9 rfl
theorem d_T_refuse_18 : decode prog_1_method_7_code 18 = .ok (.aload_n 3, 1) := jx_dec c_T_refuse_ok 10 rfl
theorem d_T_refuse_19 : decode prog_1_method_7_code 19 = .ok (.aload 4, 2) := jx_dec c_T_refuse_ok 11 rfl
theorem d_T_refuse_21 : decode prog_1_method_7_code 21 = .ok (.invokevirtual 118, 3) := jx_dec c_T_refuse_ok 12 rfl
theorem d_T_refuse_24 : decode prog_1_method_7_code 24 = .ok (.ifCond .eq 13, 3) := jx_dec c_T_refuse_ok 13 rfl
theorem d_T_refuse_27 : decode prog_1_method_7_code 27 = .ok (.new 82, 3) := jx_dec c_T_refuse_ok 14 rfl
theorem d_T_refuse_30 : decode prog_1_method_7_code 30 = .ok (.dup, 1) := jx_dec c_T_refuse_ok 15 rfl
theorem d_T_refuse_31 : decode prog_1_method_7_code 31 = .ok (.ldc 122, 2) := jx_dec c_T_refuse_ok 16 rfl
theorem d_T_refuse_33 : decode prog_1_method_7_code 33 = .ok (.invokespecial 86, 3) := jx_dec c_T_refuse_ok 17 rfl
theorem d_T_refuse_36 : decode prog_1_method_7_code 36 = .ok (.athrow, 1) := jx_dec c_T_refuse_ok 18 rfl
theorem d_T_refuse_37 : decode prog_1_method_7_code 37 = .ok (.aload_n 3, 1) := jx_dec c_T_refuse_ok 19 rfl
theorem d_T_refuse_38 : decode prog_1_method_7_code 38 = .ok (.dup, 1) := jx_dec c_T_refuse_ok 20 rfl
theorem d_T_refuse_39 : decode prog_1_method_7_code 39 = .ok (.getfield 124, 3) := jx_dec c_T_refuse_ok 21 rfl
theorem d_T_refuse_42 : decode prog_1_method_7_code 42 = .ok (.iconst 1, 1) := jx_dec c_T_refuse_ok 22 rfl
theorem d_T_refuse_43 : decode prog_1_method_7_code 43 = .ok (.aload 4, 2) := jx_dec c_T_refuse_ok 23 rfl
theorem d_T_refuse_45 : decode prog_1_method_7_code 45 = .ok (.getfield 101, 3) := jx_dec c_T_refuse_ok 24 rfl
theorem d_T_refuse_48 : decode prog_1_method_7_code 48 = .ok (.ishl, 1) := jx_dec c_T_refuse_ok 25 rfl
theorem d_T_refuse_49 : decode prog_1_method_7_code 49 = .ok (.ior, 1) := jx_dec c_T_refuse_ok 26 rfl
theorem d_T_refuse_50 : decode prog_1_method_7_code 50 = .ok (.putfield 124, 3) := jx_dec c_T_refuse_ok 27 rfl
theorem d_T_refuse_53 : decode prog_1_method_7_code 53 = .ok (.aload 4, 2) := jx_dec c_T_refuse_ok 28 rfl
theorem d_T_refuse_55 : decode prog_1_method_7_code 55 = .ok (.getfield 127, 3) := jx_dec c_T_refuse_ok 29 rfl
theorem d_T_refuse_58 : decode prog_1_method_7_code 58 = .ok (.aload_n 3, 1) := jx_dec c_T_refuse_ok 30 rfl
theorem d_T_refuse_59 : decode prog_1_method_7_code 59 = .ok (.getfield 58, 3) := jx_dec c_T_refuse_ok 31 rfl
theorem d_T_refuse_62 : decode prog_1_method_7_code 62 = .ok (.if_icmp .ne 7, 3) := jx_dec c_T_refuse_ok 32 rfl
theorem d_T_refuse_65 : decode prog_1_method_7_code 65 = .ok (.iconst 1, 1) := jx_dec c_T_refuse_ok 33 rfl
theorem d_T_refuse_66 : decode prog_1_method_7_code 66 = .ok (.goto 4, 3) := jx_dec c_T_refuse_ok 34 rfl
theorem d_T_refuse_69 : decode prog_1_method_7_code 69 = .ok (.iconst 0, 1) := jx_dec c_T_refuse_ok 35 rfl
theorem d_T_refuse_70 : decode prog_1_method_7_code 70 = .ok (.istore 5, 2) := jx_dec c_T_refuse_ok 36 rfl
theorem d_T_refuse_72 : decode prog_1_method_7_code 72 = .ok (.iload 5, 2) := jx_dec c_T_refuse_ok 37 rfl
theorem d_T_refuse_74 : decode prog_1_method_7_code 74 = .ok (.ifCond .eq 8, 3) := jx_dec c_T_refuse_ok 38 rfl
theorem d_T_refuse_77 : decode prog_1_method_7_code 77 = .ok (.aload 4, 2) := jx_dec c_T_refuse_ok 39 rfl
theorem d_T_refuse_79 : decode prog_1_method_7_code 79 = .ok (.invokevirtual 130, 3) := jx_dec c_T_refuse_ok 40 rfl
theorem d_T_refuse_82 : decode prog_1_method_7_code 82 = .ok (.iload 5, 2) := jx_dec c_T_refuse_ok 41 rfl
theorem d_T_refuse_84 : decode prog_1_method_7_code 84 = .ok (.ireturn, 1) := jx_dec c_T_refuse_ok 42 rfl
def c_T_taskOf : List (Nat × Instr × Nat) := [(0, .iload_n 1, 1), (1, .ifCond .lt 14, 3), (4, .iload_n 1, 1), (5, .aload_n 0, 1), (6, .getfield 16, 3), (9, .invokevirtual 41, 3), (12, .if_icmp .lt 13, 3), (15, .new 217, 3), (18, .dup, 1), (19, .ldc 222, 2), (21, .invokespecial 221, 3), (24, .athrow, 1), (25, .aload_n 0, 1), (26, .getfield 16, 3), (29, .iload_n 1, 1), (30, .invokevirtual 166, 3), (33, .checkcast 98, 3), (36, .areturn, 1)]
theorem c_T_taskOf_ok : (c_T_taskOf).all (fun q => decide (decode prog_1_method_22_code q.1 = .ok q.2)) = true := by decide +kernel
theorem d_T_taskOf_0 : decode prog_1_method_22_code 0 = .ok (.iload_n 1, 1) := jx_dec c_T_taskOf_ok 0 rfl
theorem d_T_taskOf_1 : decode prog_1_method_22_code 1 = .ok (.ifCond .lt 14, 3) := jx_dec c_T_taskOf_ok 1 rfl
theorem d_T_taskOf_4 : decode prog_1_method_22_code 4 = .ok (.iload_n 1, 1) := jx_dec c_T_taskOf_ok 2 rfl
theorem d_T_taskOf_5 : decode prog_1_method_22_code 5 = .ok (.aload_n 0, 1) := jx_dec c_T_taskOf_ok 3 rfl
theorem d_T_taskOf_6 : decode prog_1_method_22_code 6 = .ok (.getfield 16, 3) := jx_dec c_T_taskOf_ok 4 rfl
theorem d_T_taskOf_9 : decode prog_1_method_22_code 9 = .ok (.invokevirtual 41, 3) := jx_dec c_T_taskOf_ok 5 rfl
theorem d_T_taskOf_12 : decode prog_1_method_22_code 12 = .ok (.if_icmp .lt 13, 3) := jx_dec c_T_taskOf_ok 6 rfl
theorem d_T_taskOf_15 : decode prog_1_method_22_code 15 = .ok (.new 217, 3) := jx_dec c_T_taskOf_ok 7 rfl
theorem d_T_taskOf_18 : decode prog_1_method_22_code 18 = .ok (.dup, 1) := jx_dec c_T_taskOf_ok 8 rfl
theorem d_T_taskOf_19 : decode prog_1_method_22_code 19 = .ok (.ldc 222, 2) := jx_dec c_T_taskOf_ok 9 rfl
theorem d_T_taskOf_21 : decode prog_1_method_22_code 21 = .ok (.invokespecial 221, 3) := jx_dec c_T_taskOf_ok 10 rfl
theorem d_T_taskOf_24 : decode prog_1_method_22_code 24 = .ok (.athrow, 1) := jx_dec c_T_taskOf_ok 11 rfl
theorem d_T_taskOf_25 : decode prog_1_method_22_code 25 = .ok (.aload_n 0, 1) := jx_dec c_T_taskOf_ok 12 rfl
theorem d_T_taskOf_26 : decode prog_1_method_22_code 26 = .ok (.getfield 16, 3) := jx_dec c_T_taskOf_ok 13 rfl
theorem d_T_taskOf_29 : decode prog_1_method_22_code 29 = .ok (.iload_n 1, 1) := jx_dec c_T_taskOf_ok 14 rfl
theorem d_T_taskOf_30 : decode prog_1_method_22_code 30 = .ok (.invokevirtual 166, 3) := jx_dec c_T_taskOf_ok 15 rfl
theorem d_T_taskOf_33 : decode prog_1_method_22_code 33 = .ok (.checkcast 98, 3) := jx_dec c_T_taskOf_ok 16 rfl
theorem d_T_taskOf_36 : decode prog_1_method_22_code 36 = .ok (.areturn, 1) := jx_dec c_T_taskOf_ok 17 rfl
def c_T_needOpen : List (Nat × Instr × Nat) := [(0, .aload_n 0, 1), (1, .getfield 170, 3), (4, .ifCond .eq 13, 3), (7, .new 82, 3), (10, .dup, 1), (11, .ldc 231, 2), (13, .invokespecial 86, 3), (16, .athrow, 1), (17, .return_, 1)]
theorem c_T_needOpen_ok : (c_T_needOpen).all (fun q => decide (decode prog_1_method_25_code q.1 = .ok q.2)) = true := by decide +kernel
theorem d_T_needOpen_0 : decode prog_1_method_25_code 0 = .ok (.aload_n 0, 1) := jx_dec c_T_needOpen_ok 0 rfl
theorem d_T_needOpen_1 : decode prog_1_method_25_code 1 = .ok (.getfield 170, 3) := jx_dec c_T_needOpen_ok 1 rfl
theorem d_T_needOpen_4 : decode prog_1_method_25_code 4 = .ok (.ifCond .eq 13, 3) := jx_dec c_T_needOpen_ok 2 rfl
theorem d_T_needOpen_7 : decode prog_1_method_25_code 7 = .ok (.new 82, 3) := jx_dec c_T_needOpen_ok 3 rfl
theorem d_T_needOpen_10 : decode prog_1_method_25_code 10 = .ok (.dup, 1) := jx_dec c_T_needOpen_ok 4 rfl
theorem d_T_needOpen_11 : decode prog_1_method_25_code 11 = .ok (.ldc 231, 2) := jx_dec c_T_needOpen_ok 5 rfl
theorem d_T_needOpen_13 : decode prog_1_method_25_code 13 = .ok (.invokespecial 86, 3) := jx_dec c_T_needOpen_ok 6 rfl
theorem d_T_needOpen_16 : decode prog_1_method_25_code 16 = .ok (.athrow, 1) := jx_dec c_T_needOpen_ok 7 rfl
theorem d_T_needOpen_17 : decode prog_1_method_25_code 17 = .ok (.return_, 1) := jx_dec c_T_needOpen_ok 8 rfl
def c_T_bar : List (Nat × Instr × Nat) := [(0, .aload_n 0, 1), (1, .iload_n 1, 1), (2, .invokevirtual 62, 3), (5, .astore_n 3, 1), (6, .aload_n 0, 1), (7, .iload_n 2, 1), (8, .invokevirtual 110, 3), (11, .astore 4, 2), (13, .aload 4, 2), (15, .invokestatic 114, 3), (18, .aload_n 3, 1), (19, .getfield 133, 3), (22, .ifCond .ne 5, 3), (25, .iconst 1, 1), (26, .ireturn, 1), (27, .aload_n 3, 1), (28, .aload 4, 2), (30, .getfield 137, 3), (33, .invokevirtual 78, 3), (36, .ifCond .ne 5, 3), (39, .iconst 2, 1), (40, .ireturn, 1), (41, .aload_n 3, 1), (42, .aload 4, 2), (44, .invokevirtual 118, 3), (47, .ifCond .eq 5, 3), (50, .iconst 3, 1), (51, .ireturn, 1), (52, .aload_n 0, 1), (53, .aload_n 3, 1), (54, .aload 4, 2), (56, .invokevirtual 140, 3), (59, .iconst (-1), 1), (60, .if_icmp .ne 7, 3), (63, .iconst 4, 1), (64, .goto 4, 3), (67, .iconst 0, 1), (68, .ireturn, 1)]
theorem c_T_bar_ok : (c_T_bar).all (fun q => decide (decode prog_1_method_8_code q.1 = .ok q.2)) = true := by decide +kernel
theorem d_T_bar_0 : decode prog_1_method_8_code 0 = .ok (.aload_n 0, 1) := jx_dec c_T_bar_ok 0 rfl
theorem d_T_bar_1 : decode prog_1_method_8_code 1 = .ok (.iload_n 1, 1) := jx_dec c_T_bar_ok 1 rfl
theorem d_T_bar_2 : decode prog_1_method_8_code 2 = .ok (.invokevirtual 62, 3) := jx_dec c_T_bar_ok 2 rfl
theorem d_T_bar_5 : decode prog_1_method_8_code 5 = .ok (.astore_n 3, 1) := jx_dec c_T_bar_ok 3 rfl
theorem d_T_bar_6 : decode prog_1_method_8_code 6 = .ok (.aload_n 0, 1) := jx_dec c_T_bar_ok 4 rfl
theorem d_T_bar_7 : decode prog_1_method_8_code 7 = .ok (.iload_n 2, 1) := jx_dec c_T_bar_ok 5 rfl
theorem d_T_bar_8 : decode prog_1_method_8_code 8 = .ok (.invokevirtual 110, 3) := jx_dec c_T_bar_ok 6 rfl
theorem d_T_bar_11 : decode prog_1_method_8_code 11 = .ok (.astore 4, 2) := jx_dec c_T_bar_ok 7 rfl
theorem d_T_bar_13 : decode prog_1_method_8_code 13 = .ok (.aload 4, 2) := jx_dec c_T_bar_ok 8 rfl
theorem d_T_bar_15 : decode prog_1_method_8_code 15 = .ok (.invokestatic 114, 3) := jx_dec c_T_bar_ok 9 rfl
theorem d_T_bar_18 : decode prog_1_method_8_code 18 = .ok (.aload_n 3, 1) := jx_dec c_T_bar_ok 10 rfl
theorem d_T_bar_19 : decode prog_1_method_8_code 19 = .ok (.getfield 133, 3) := jx_dec c_T_bar_ok 11 rfl
theorem d_T_bar_22 : decode prog_1_method_8_code 22 = .ok (.ifCond .ne 5, 3) := jx_dec c_T_bar_ok 12 rfl
theorem d_T_bar_25 : decode prog_1_method_8_code 25 = .ok (.iconst 1, 1) := jx_dec c_T_bar_ok 13 rfl
theorem d_T_bar_26 : decode prog_1_method_8_code 26 = .ok (.ireturn, 1) := jx_dec c_T_bar_ok 14 rfl
theorem d_T_bar_27 : decode prog_1_method_8_code 27 = .ok (.aload_n 3, 1) := jx_dec c_T_bar_ok 15 rfl
theorem d_T_bar_28 : decode prog_1_method_8_code 28 = .ok (.aload 4, 2) := jx_dec c_T_bar_ok 16 rfl
theorem d_T_bar_30 : decode prog_1_method_8_code 30 = .ok (.getfield 137, 3) := jx_dec c_T_bar_ok 17 rfl
theorem d_T_bar_33 : decode prog_1_method_8_code 33 = .ok (.invokevirtual 78, 3) := jx_dec c_T_bar_ok 18 rfl
theorem d_T_bar_36 : decode prog_1_method_8_code 36 = .ok (.ifCond .ne 5, 3) := jx_dec c_T_bar_ok 19 rfl
theorem d_T_bar_39 : decode prog_1_method_8_code 39 = .ok (.iconst 2, 1) := jx_dec c_T_bar_ok 20 rfl
theorem d_T_bar_40 : decode prog_1_method_8_code 40 = .ok (.ireturn, 1) := jx_dec c_T_bar_ok 21 rfl
theorem d_T_bar_41 : decode prog_1_method_8_code 41 = .ok (.aload_n 3, 1) := jx_dec c_T_bar_ok 22 rfl
theorem d_T_bar_42 : decode prog_1_method_8_code 42 = .ok (.aload 4, 2) := jx_dec c_T_bar_ok 23 rfl
theorem d_T_bar_44 : decode prog_1_method_8_code 44 = .ok (.invokevirtual 118, 3) := jx_dec c_T_bar_ok 24 rfl
theorem d_T_bar_47 : decode prog_1_method_8_code 47 = .ok (.ifCond .eq 5, 3) := jx_dec c_T_bar_ok 25 rfl
theorem d_T_bar_50 : decode prog_1_method_8_code 50 = .ok (.iconst 3, 1) := jx_dec c_T_bar_ok 26 rfl
theorem d_T_bar_51 : decode prog_1_method_8_code 51 = .ok (.ireturn, 1) := jx_dec c_T_bar_ok 27 rfl
theorem d_T_bar_52 : decode prog_1_method_8_code 52 = .ok (.aload_n 0, 1) := jx_dec c_T_bar_ok 28 rfl
theorem d_T_bar_53 : decode prog_1_method_8_code 53 = .ok (.aload_n 3, 1) := jx_dec c_T_bar_ok 29 rfl
theorem d_T_bar_54 : decode prog_1_method_8_code 54 = .ok (.aload 4, 2) := jx_dec c_T_bar_ok 30 rfl
theorem d_T_bar_56 : decode prog_1_method_8_code 56 = .ok (.invokevirtual 140, 3) := jx_dec c_T_bar_ok 31 rfl
theorem d_T_bar_59 : decode prog_1_method_8_code 59 = .ok (.iconst (-1), 1) := jx_dec c_T_bar_ok 32 rfl
theorem d_T_bar_60 : decode prog_1_method_8_code 60 = .ok (.if_icmp .ne 7, 3) := jx_dec c_T_bar_ok 33 rfl
theorem d_T_bar_63 : decode prog_1_method_8_code 63 = .ok (.iconst 4, 1) := jx_dec c_T_bar_ok 34 rfl
theorem d_T_bar_64 : decode prog_1_method_8_code 64 = .ok (.goto 4, 3) := jx_dec c_T_bar_ok 35 rfl
theorem d_T_bar_67 : decode prog_1_method_8_code 67 = .ok (.iconst 0, 1) := jx_dec c_T_bar_ok 36 rfl
theorem d_T_bar_68 : decode prog_1_method_8_code 68 = .ok (.ireturn, 1) := jx_dec c_T_bar_ok 37 rfl
def c_T_assign : List (Nat × Instr × Nat) := [(0, .iload_n 1, 1), (1, .iconst 0, 1), (2, .iconst 5, 1), (3, .invokestatic 36, 3), (6, .aload_n 0, 1), (7, .invokevirtual 144, 3), (10, .aload_n 0, 1), (11, .aload_n 0, 1), (12, .iconst 0, 1), (13, .invokevirtual 147, 3), (16, .iload_n 1, 1), (17, .if_icmp .gt 7, 3), (20, .iconst 1, 1), (21, .goto 4, 3), (24, .iconst 0, 1), (25, .putfield 150, 3), (28, .aload_n 0, 1), (29, .getfield 150, 3), (32, .ifCond .eq 29, 3), (35, .aload_n 0, 1), (36, .getfield 32, 3), (39, .aload_n 0, 1), (40, .getfield 10, 3), (43, .aload_n 0, 1), (44, .getfield 16, 3), (47, .aload_n 0, 1), (48, .getfield 25, 3), (51, .aload_n 0, 1), (52, .getfield 153, 3), (55, .invokevirtual 156, 3), (58, .goto 7, 3), (61, .aload_n 0, 1), (62, .invokevirtual 160, 3), (65, .aload_n 0, 1), (66, .invokevirtual 163, 3), (69, .ireturn, 1)]
theorem c_T_assign_ok : (c_T_assign).all (fun q => decide (decode prog_1_method_9_code q.1 = .ok q.2)) = true := by decide +kernel
theorem d_T_assign_0 : decode prog_1_method_9_code 0 = .ok (.iload_n 1, 1) := jx_dec c_T_assign_ok 0 rfl
theorem d_T_assign_1 : decode prog_1_method_9_code 1 = .ok (.iconst 0, 1) := jx_dec c_T_assign_ok 1 rfl
theorem d_T_assign_2 : decode prog_1_method_9_code 2 = .ok (.iconst 5, 1) := jx_dec c_T_assign_ok 2 rfl
theorem d_T_assign_3 : decode prog_1_method_9_code 3 = .ok (.invokestatic 36, 3) := jx_dec c_T_assign_ok 3 rfl
theorem d_T_assign_6 : decode prog_1_method_9_code 6 = .ok (.aload_n 0, 1) := jx_dec c_T_assign_ok 4 rfl
theorem d_T_assign_7 : decode prog_1_method_9_code 7 = .ok (.invokevirtual 144, 3) := jx_dec c_T_assign_ok 5 rfl
theorem d_T_assign_10 : decode prog_1_method_9_code 10 = .ok (.aload_n 0, 1) := jx_dec c_T_assign_ok 6 rfl
theorem d_T_assign_11 : decode prog_1_method_9_code 11 = .ok (.aload_n 0, 1) := jx_dec c_T_assign_ok 7 rfl
theorem d_T_assign_12 : decode prog_1_method_9_code 12 = .ok (.iconst 0, 1) := jx_dec c_T_assign_ok 8 rfl
theorem d_T_assign_13 : decode prog_1_method_9_code 13 = .ok (.invokevirtual 147, 3) := jx_dec c_T_assign_ok 9 rfl
theorem d_T_assign_16 : decode prog_1_method_9_code 16 = .ok (.iload_n 1, 1) := jx_dec c_T_assign_ok 10 rfl
theorem d_T_assign_17 : decode prog_1_method_9_code 17 = .ok (.if_icmp .gt 7, 3) := jx_dec c_T_assign_ok 11 rfl
theorem d_T_assign_20 : decode prog_1_method_9_code 20 = .ok (.iconst 1, 1) := jx_dec c_T_assign_ok 12 rfl
theorem d_T_assign_21 : decode prog_1_method_9_code 21 = .ok (.goto 4, 3) := jx_dec c_T_assign_ok 13 rfl
theorem d_T_assign_24 : decode prog_1_method_9_code 24 = .ok (.iconst 0, 1) := jx_dec c_T_assign_ok 14 rfl
theorem d_T_assign_25 : decode prog_1_method_9_code 25 = .ok (.putfield 150, 3) := jx_dec c_T_assign_ok 15 rfl
theorem d_T_assign_28 : decode prog_1_method_9_code 28 = .ok (.aload_n 0, 1) := jx_dec c_T_assign_ok 16 rfl
theorem d_T_assign_29 : decode prog_1_method_9_code 29 = .ok (.getfield 150, 3) := jx_dec c_T_assign_ok 17 rfl
theorem d_T_assign_32 : decode prog_1_method_9_code 32 = .ok (.ifCond .eq 29, 3) := jx_dec c_T_assign_ok 18 rfl
theorem d_T_assign_35 : decode prog_1_method_9_code 35 = .ok (.aload_n 0, 1) := jx_dec c_T_assign_ok 19 rfl
theorem d_T_assign_36 : decode prog_1_method_9_code 36 = .ok (.getfield 32, 3) := jx_dec c_T_assign_ok 20 rfl
theorem d_T_assign_39 : decode prog_1_method_9_code 39 = .ok (.aload_n 0, 1) := jx_dec c_T_assign_ok 21 rfl
theorem d_T_assign_40 : decode prog_1_method_9_code 40 = .ok (.getfield 10, 3) := jx_dec c_T_assign_ok 22 rfl
theorem d_T_assign_43 : decode prog_1_method_9_code 43 = .ok (.aload_n 0, 1) := jx_dec c_T_assign_ok 23 rfl
theorem d_T_assign_44 : decode prog_1_method_9_code 44 = .ok (.getfield 16, 3) := jx_dec c_T_assign_ok 24 rfl
theorem d_T_assign_47 : decode prog_1_method_9_code 47 = .ok (.aload_n 0, 1) := jx_dec c_T_assign_ok 25 rfl
theorem d_T_assign_48 : decode prog_1_method_9_code 48 = .ok (.getfield 25, 3) := jx_dec c_T_assign_ok 26 rfl
theorem d_T_assign_51 : decode prog_1_method_9_code 51 = .ok (.aload_n 0, 1) := jx_dec c_T_assign_ok 27 rfl
theorem d_T_assign_52 : decode prog_1_method_9_code 52 = .ok (.getfield 153, 3) := jx_dec c_T_assign_ok 28 rfl
theorem d_T_assign_55 : decode prog_1_method_9_code 55 = .ok (.invokevirtual 156, 3) := jx_dec c_T_assign_ok 29 rfl
theorem d_T_assign_58 : decode prog_1_method_9_code 58 = .ok (.goto 7, 3) := jx_dec c_T_assign_ok 30 rfl
theorem d_T_assign_61 : decode prog_1_method_9_code 61 = .ok (.aload_n 0, 1) := jx_dec c_T_assign_ok 31 rfl
theorem d_T_assign_62 : decode prog_1_method_9_code 62 = .ok (.invokevirtual 160, 3) := jx_dec c_T_assign_ok 32 rfl
theorem d_T_assign_65 : decode prog_1_method_9_code 65 = .ok (.aload_n 0, 1) := jx_dec c_T_assign_ok 33 rfl
theorem d_T_assign_66 : decode prog_1_method_9_code 66 = .ok (.invokevirtual 163, 3) := jx_dec c_T_assign_ok 34 rfl
theorem d_T_assign_69 : decode prog_1_method_9_code 69 = .ok (.ireturn, 1) := jx_dec c_T_assign_ok 35 rfl
def c_T_freeOpenTasks : List (Nat × Instr × Nat) := [(0, .iconst 0, 1), (1, .istore_n 1, 1), (2, .iload_n 1, 1), (3, .aload_n 0, 1), (4, .getfield 16, 3), (7, .invokevirtual 41, 3), (10, .if_icmp .ge 40, 3), (13, .aload_n 0, 1), (14, .getfield 16, 3), (17, .iload_n 1, 1), (18, .invokevirtual 166, 3), (21, .checkcast 98, 3), (24, .getfield 170, 3), (27, .ifCond .ne 17, 3), (30, .aload_n 0, 1), (31, .getfield 16, 3), (34, .iload_n 1, 1), (35, .invokevirtual 166, 3), (38, .checkcast 98, 3), (41, .invokevirtual 130, 3), (44, .iinc 1 1, 3), (47, .goto (-45), 3), (50, .return_, 1)]
theorem c_T_freeOpenTasks_ok : (c_T_freeOpenTasks).all (fun q => decide (decode prog_1_method_34_code q.1 = .ok q.2)) = true := by decide +kernel
theorem d_T_freeOpenTasks_0 : decode prog_1_method_34_code 0 = .ok (.iconst 0, 1) := jx_dec c_T_freeOpenTasks_ok 0 rfl
theorem d_T_freeOpenTasks_1 : decode prog_1_method_34_code 1 = .ok (.istore_n 1, 1) := jx_dec c_T_freeOpenTasks_ok 1 rfl
theorem d_T_freeOpenTasks_2 : decode prog_1_method_34_code 2 = .ok (.iload_n 1, 1) := jx_dec c_T_freeOpenTasks_ok 2 rfl
theorem d_T_freeOpenTasks_3 : decode prog_1_method_34_code 3 = .ok (.aload_n 0, 1) := jx_dec c_T_freeOpenTasks_ok 3 rfl
theorem d_T_freeOpenTasks_4 : decode prog_1_method_34_code 4 = .ok (.getfield 16, 3) := jx_dec c_T_freeOpenTasks_ok 4 rfl
theorem d_T_freeOpenTasks_7 : decode prog_1_method_34_code 7 = .ok (.invokevirtual 41, 3) := jx_dec c_T_freeOpenTasks_ok 5 rfl
theorem d_T_freeOpenTasks_10 : decode prog_1_method_34_code 10 = .ok (.if_icmp .ge 40, 3) := jx_dec c_T_freeOpenTasks_ok 6 rfl
theorem d_T_freeOpenTasks_13 : decode prog_1_method_34_code 13 = .ok (.aload_n 0, 1) := jx_dec c_T_freeOpenTasks_ok 7 rfl
theorem d_T_freeOpenTasks_14 : decode prog_1_method_34_code 14 = .ok (.getfield 16, 3) := jx_dec c_T_freeOpenTasks_ok 8 rfl
theorem d_T_freeOpenTasks_17 : decode prog_1_method_34_code 17 = .ok (.iload_n 1, 1) := jx_dec c_T_freeOpenTasks_ok 9 rfl
theorem d_T_freeOpenTasks_18 : decode prog_1_method_34_code 18 = .ok (.invokevirtual 166, 3) := jx_dec c_T_freeOpenTasks_ok 10 rfl
theorem d_T_freeOpenTasks_21 : decode prog_1_method_34_code 21 = .ok (.checkcast 98, 3) := jx_dec c_T_freeOpenTasks_ok 11 rfl
theorem d_T_freeOpenTasks_24 : decode prog_1_method_34_code 24 = .ok (.getfield 170, 3) := jx_dec c_T_freeOpenTasks_ok 12 rfl
theorem d_T_freeOpenTasks_27 : decode prog_1_method_34_code 27 = .ok (.ifCond .ne 17, 3) := jx_dec c_T_freeOpenTasks_ok 13 rfl
theorem d_T_freeOpenTasks_30 : decode prog_1_method_34_code 30 = .ok (.aload_n 0, 1) := jx_dec c_T_freeOpenTasks_ok 14 rfl
theorem d_T_freeOpenTasks_31 : decode prog_1_method_34_code 31 = .ok (.getfield 16, 3) := jx_dec c_T_freeOpenTasks_ok 15 rfl
theorem d_T_freeOpenTasks_34 : decode prog_1_method_34_code 34 = .ok (.iload_n 1, 1) := jx_dec c_T_freeOpenTasks_ok 16 rfl
theorem d_T_freeOpenTasks_35 : decode prog_1_method_34_code 35 = .ok (.invokevirtual 166, 3) := jx_dec c_T_freeOpenTasks_ok 17 rfl
theorem d_T_freeOpenTasks_38 : decode prog_1_method_34_code 38 = .ok (.checkcast 98, 3) := jx_dec c_T_freeOpenTasks_ok 18 rfl
theorem d_T_freeOpenTasks_41 : decode prog_1_method_34_code 41 = .ok (.invokevirtual 130, 3) := jx_dec c_T_freeOpenTasks_ok 19 rfl
theorem d_T_freeOpenTasks_44 : decode prog_1_method_34_code 44 = .ok (.iinc 1 1, 3) := jx_dec c_T_freeOpenTasks_ok 20 rfl
theorem d_T_freeOpenTasks_47 : decode prog_1_method_34_code 47 = .ok (.goto (-45), 3) := jx_dec c_T_freeOpenTasks_ok 21 rfl
theorem d_T_freeOpenTasks_50 : decode prog_1_method_34_code 50 = .ok (.return_, 1) := jx_dec c_T_freeOpenTasks_ok 22 rfl
def c_T_planByRule : List (Nat × Instr × Nat) := [(0, .aload_n 0, 1), (1, .invokevirtual 262, 3), (4, .iconst 0, 1), (5, .istore_n 1, 1), (6, .iload_n 1, 1), (7, .aload_n 0, 1), (8, .getfield 10, 3), (11, .invokevirtual 41, 3), (14, .if_icmp .ge 58, 3), (17, .aload_n 0, 1), (18, .getfield 10, 3), (21, .iload_n 1, 1), (22, .invokevirtual 166, 3), (25, .checkcast 49, 3), (28, .astore_n 2, 1), (29, .aload_n 2, 1), (30, .aload_n 2, 1), (31, .aload_n 0, 1), (32, .getfield 153, 3), (35, .invokevirtual 247, 3), (38, .putfield 265, 3), (41, .aload_n 2, 1), (42, .aload_n 2, 1), (43, .getfield 200, 3), (46, .putfield 268, 3), (49, .aload_n 2, 1), (50, .aload_n 0, 1), (51, .iload_n 1, 1), (52, .iconst 1, 1), (53, .invokevirtual 203, 3), (56, .aload_n 0, 1), (57, .iload_n 1, 1), (58, .iconst 2, 1), (59, .invokevirtual 203, 3), (62, .iadd, 1), (63, .putfield 271, 3), (66, .iinc 1 1, 3), (69, .goto (-63), 3), (72, .iconst 0, 1), (73, .istore_n 1, 1), (74, .iload_n 1, 1), (75, .aload_n 0, 1), (76, .getfield 19, 3), (79, .invokevirtual 41, 3), (82, .if_icmp .ge 24, 3), (85, .aload_n 0, 1), (86, .aload_n 0, 1), (87, .getfield 19, 3), (90, .iload_n 1, 1), (91, .invokevirtual 166, 3), (94, .checkcast 98, 3), (97, .invokevirtual 274, 3), (100, .iinc 1 1, 3), (103, .goto (-29), 3), (106, .return_, 1)]
theorem c_T_planByRule_ok : (c_T_planByRule).all (fun q => decide (decode prog_1_method_35_code q.1 = .ok q.2)) = true := by decide +kernel
theorem d_T_planByRule_0 : decode prog_1_method_35_code 0 = .ok (.aload_n 0, 1) := jx_dec c_T_planByRule_ok 0 rfl
theorem d_T_planByRule_1 : decode prog_1_method_35_code 1 = .ok (.invokevirtual 262, 3) := jx_dec c_T_planByRule_ok 1 rfl
theorem d_T_planByRule_4 : decode prog_1_method_35_code 4 = .ok (.iconst 0, 1) := jx_dec c_T_planByRule_ok 2 rfl
theorem d_T_planByRule_5 : decode prog_1_method_35_code 5 = .ok (.istore_n 1, 1) := jx_dec c_T_planByRule_ok 3 rfl
theorem d_T_planByRule_6 : decode prog_1_method_35_code 6 = .ok (.iload_n 1, 1) := jx_dec c_T_planByRule_ok 4 rfl
theorem d_T_planByRule_7 : decode prog_1_method_35_code 7 = .ok (.aload_n 0, 1) := jx_dec c_T_planByRule_ok 5 rfl
theorem d_T_planByRule_8 : decode prog_1_method_35_code 8 = .ok (.getfield 10, 3) := jx_dec c_T_planByRule_ok 6 rfl
theorem d_T_planByRule_11 : decode prog_1_method_35_code 11 = .ok (.invokevirtual 41, 3) := jx_dec c_T_planByRule_ok 7 rfl
theorem d_T_planByRule_14 : decode prog_1_method_35_code 14 = .ok (.if_icmp .ge 58, 3) := jx_dec c_T_planByRule_ok 8 rfl
theorem d_T_planByRule_17 : decode prog_1_method_35_code 17 = .ok (.aload_n 0, 1) := jx_dec c_T_planByRule_ok 9 rfl
theorem d_T_planByRule_18 : decode prog_1_method_35_code 18 = .ok (.getfield 10, 3) := jx_dec c_T_planByRule_ok 10 rfl
theorem d_T_planByRule_21 : decode prog_1_method_35_code 21 = .ok (.iload_n 1, 1) := jx_dec c_T_planByRule_ok 11 rfl
theorem d_T_planByRule_22 : decode prog_1_method_35_code 22 = .ok (.invokevirtual 166, 3) := jx_dec c_T_planByRule_ok 12 rfl
theorem d_T_planByRule_25 : decode prog_1_method_35_code 25 = .ok (.checkcast 49, 3) := jx_dec c_T_planByRule_ok 13 rfl
theorem d_T_planByRule_28 : decode prog_1_method_35_code 28 = .ok (.astore_n 2, 1) := jx_dec c_T_planByRule_ok 14 rfl
theorem d_T_planByRule_29 : decode prog_1_method_35_code 29 = .ok (.aload_n 2, 1) := jx_dec c_T_planByRule_ok 15 rfl
theorem d_T_planByRule_30 : decode prog_1_method_35_code 30 = .ok (.aload_n 2, 1) := jx_dec c_T_planByRule_ok 16 rfl
theorem d_T_planByRule_31 : decode prog_1_method_35_code 31 = .ok (.aload_n 0, 1) := jx_dec c_T_planByRule_ok 17 rfl
theorem d_T_planByRule_32 : decode prog_1_method_35_code 32 = .ok (.getfield 153, 3) := jx_dec c_T_planByRule_ok 18 rfl
theorem d_T_planByRule_35 : decode prog_1_method_35_code 35 = .ok (.invokevirtual 247, 3) := jx_dec c_T_planByRule_ok 19 rfl
theorem d_T_planByRule_38 : decode prog_1_method_35_code 38 = .ok (.putfield 265, 3) := jx_dec c_T_planByRule_ok 20 rfl
theorem d_T_planByRule_41 : decode prog_1_method_35_code 41 = .ok (.aload_n 2, 1) := jx_dec c_T_planByRule_ok 21 rfl
theorem d_T_planByRule_42 : decode prog_1_method_35_code 42 = .ok (.aload_n 2, 1) := jx_dec c_T_planByRule_ok 22 rfl
theorem d_T_planByRule_43 : decode prog_1_method_35_code 43 = .ok (.getfield 200, 3) := jx_dec c_T_planByRule_ok 23 rfl
theorem d_T_planByRule_46 : decode prog_1_method_35_code 46 = .ok (.putfield 268, 3) := jx_dec c_T_planByRule_ok 24 rfl
theorem d_T_planByRule_49 : decode prog_1_method_35_code 49 = .ok (.aload_n 2, 1) := jx_dec c_T_planByRule_ok 25 rfl
theorem d_T_planByRule_50 : decode prog_1_method_35_code 50 = .ok (.aload_n 0, 1) := jx_dec c_T_planByRule_ok 26 rfl
theorem d_T_planByRule_51 : decode prog_1_method_35_code 51 = .ok (.iload_n 1, 1) := jx_dec c_T_planByRule_ok 27 rfl
theorem d_T_planByRule_52 : decode prog_1_method_35_code 52 = .ok (.iconst 1, 1) := jx_dec c_T_planByRule_ok 28 rfl
theorem d_T_planByRule_53 : decode prog_1_method_35_code 53 = .ok (.invokevirtual 203, 3) := jx_dec c_T_planByRule_ok 29 rfl
theorem d_T_planByRule_56 : decode prog_1_method_35_code 56 = .ok (.aload_n 0, 1) := jx_dec c_T_planByRule_ok 30 rfl
theorem d_T_planByRule_57 : decode prog_1_method_35_code 57 = .ok (.iload_n 1, 1) := jx_dec c_T_planByRule_ok 31 rfl
theorem d_T_planByRule_58 : decode prog_1_method_35_code 58 = .ok (.iconst 2, 1) := jx_dec c_T_planByRule_ok 32 rfl
theorem d_T_planByRule_59 : decode prog_1_method_35_code 59 = .ok (.invokevirtual 203, 3) := jx_dec c_T_planByRule_ok 33 rfl
theorem d_T_planByRule_62 : decode prog_1_method_35_code 62 = .ok (.iadd, 1) := jx_dec c_T_planByRule_ok 34 rfl
theorem d_T_planByRule_63 : decode prog_1_method_35_code 63 = .ok (.putfield 271, 3) := jx_dec c_T_planByRule_ok 35 rfl
theorem d_T_planByRule_66 : decode prog_1_method_35_code 66 = .ok (.iinc 1 1, 3) := jx_dec c_T_planByRule_ok 36 rfl
theorem d_T_planByRule_69 : decode prog_1_method_35_code 69 = .ok (.goto (-63), 3) := jx_dec c_T_planByRule_ok 37 rfl
theorem d_T_planByRule_72 : decode prog_1_method_35_code 72 = .ok (.iconst 0, 1) := jx_dec c_T_planByRule_ok 38 rfl
theorem d_T_planByRule_73 : decode prog_1_method_35_code 73 = .ok (.istore_n 1, 1) := jx_dec c_T_planByRule_ok 39 rfl
theorem d_T_planByRule_74 : decode prog_1_method_35_code 74 = .ok (.iload_n 1, 1) := jx_dec c_T_planByRule_ok 40 rfl
theorem d_T_planByRule_75 : decode prog_1_method_35_code 75 = .ok (.aload_n 0, 1) := jx_dec c_T_planByRule_ok 41 rfl
theorem d_T_planByRule_76 : decode prog_1_method_35_code 76 = .ok (.getfield 19, 3) := jx_dec c_T_planByRule_ok 42 rfl
theorem d_T_planByRule_79 : decode prog_1_method_35_code 79 = .ok (.invokevirtual 41, 3) := jx_dec c_T_planByRule_ok 43 rfl
theorem d_T_planByRule_82 : decode prog_1_method_35_code 82 = .ok (.if_icmp .ge 24, 3) := jx_dec c_T_planByRule_ok 44 rfl
theorem d_T_planByRule_85 : decode prog_1_method_35_code 85 = .ok (.aload_n 0, 1) := jx_dec c_T_planByRule_ok 45 rfl
theorem d_T_planByRule_86 : decode prog_1_method_35_code 86 = .ok (.aload_n 0, 1) := jx_dec c_T_planByRule_ok 46 rfl
theorem d_T_planByRule_87 : decode prog_1_method_35_code 87 = .ok (.getfield 19, 3) := jx_dec c_T_planByRule_ok 47 rfl
theorem d_T_planByRule_90 : decode prog_1_method_35_code 90 = .ok (.iload_n 1, 1) := jx_dec c_T_planByRule_ok 48 rfl
theorem d_T_planByRule_91 : decode prog_1_method_35_code 91 = .ok (.invokevirtual 166, 3) := jx_dec c_T_planByRule_ok 49 rfl
theorem d_T_planByRule_94 : decode prog_1_method_35_code 94 = .ok (.checkcast 98, 3) := jx_dec c_T_planByRule_ok 50 rfl
theorem d_T_planByRule_97 : decode prog_1_method_35_code 97 = .ok (.invokevirtual 274, 3) := jx_dec c_T_planByRule_ok 51 rfl
theorem d_T_planByRule_100 : decode prog_1_method_35_code 100 = .ok (.iinc 1 1, 3) := jx_dec c_T_planByRule_ok 52 rfl
theorem d_T_planByRule_103 : decode prog_1_method_35_code 103 = .ok (.goto (-29), 3) := jx_dec c_T_planByRule_ok 53 rfl
theorem d_T_planByRule_106 : decode prog_1_method_35_code 106 = .ok (.return_, 1) := jx_dec c_T_planByRule_ok 54 rfl
def c_T_sortOpenByDue : List (Nat × Instr × Nat) := [(0, .aload_n 0, 1), (1, .getfield 19, 3), (4, .invokevirtual 277, 3), (7, .iconst 0, 1), (8, .istore_n 1, 1), (9, .iload_n 1, 1), (10, .aload_n 0, 1), (11, .getfield 16, 3), (14, .invokevirtual 41, 3), (17, .if_icmp .ge 78, 3), (20, .aload_n 0, 1), (21, .getfield 16, 3), (24, .iload_n 1, 1), (25, .invokevirtual 166, 3), (28, .checkcast 98, 3), (31, .astore_n 2, 1), (32, .aload_n 2, 1), (33, .getfield 170, 3), (36, .ifCond .ne 53, 3), (39, .aload_n 0, 1), (40, .getfield 19, 3), (43, .invokevirtual 41, 3), (46, .istore_n 3, 1), (47, .iload_n 3, 1), (48, .ifCond .le 32, 3), (51, .aload_n 0, 1), (52, .getfield 19, 3), (55, .iload_n 3, 1), (56, .iconst 1, 1), (57, .isub, 1), (58, .invokevirtual 166, 3), (61, .checkcast 98, 3), (64, .getfield 210, 3), (67, .aload_n 2, 1), (68, .getfield 210, 3), (71, .if_icmp .le 9, 3), (74, .iinc 3 (-1), 3), (77, .goto (-30), 3), (80, .aload_n 0, 1), (81, .getfield 19, 3), (84, .iload_n 3, 1), (85, .aload_n 2, 1), (86, .invokevirtual 280, 3), (89, .iinc 1 1, 3), (92, .goto (-83), 3), (95, .return_, 1)]
theorem c_T_sortOpenByDue_ok : (c_T_sortOpenByDue).all (fun q => decide (decode prog_1_method_36_code q.1 = .ok q.2)) = true := by decide +kernel
theorem d_T_sortOpenByDue_0 : decode prog_1_method_36_code 0 = .ok (.aload_n 0, 1) := jx_dec c_T_sortOpenByDue_ok 0 rfl
theorem d_T_sortOpenByDue_1 : decode prog_1_method_36_code 1 = .ok (.getfield 19, 3) := jx_dec c_T_sortOpenByDue_ok 1 rfl
theorem d_T_sortOpenByDue_4 : decode prog_1_method_36_code 4 = .ok (.invokevirtual 277, 3) := jx_dec c_T_sortOpenByDue_ok 2 rfl
theorem d_T_sortOpenByDue_7 : decode prog_1_method_36_code 7 = .ok (.iconst 0, 1) := jx_dec c_T_sortOpenByDue_ok 3 rfl
theorem d_T_sortOpenByDue_8 : decode prog_1_method_36_code 8 = .ok (.istore_n 1, 1) := jx_dec c_T_sortOpenByDue_ok 4 rfl
theorem d_T_sortOpenByDue_9 : decode prog_1_method_36_code 9 = .ok (.iload_n 1, 1) := jx_dec c_T_sortOpenByDue_ok 5 rfl
theorem d_T_sortOpenByDue_10 : decode prog_1_method_36_code 10 = .ok (.aload_n 0, 1) := jx_dec c_T_sortOpenByDue_ok 6 rfl
theorem d_T_sortOpenByDue_11 : decode prog_1_method_36_code 11 = .ok (.getfield 16, 3) := jx_dec c_T_sortOpenByDue_ok 7 rfl
theorem d_T_sortOpenByDue_14 : decode prog_1_method_36_code 14 = .ok (.invokevirtual 41, 3) := jx_dec c_T_sortOpenByDue_ok 8 rfl
theorem d_T_sortOpenByDue_17 : decode prog_1_method_36_code 17 = .ok (.if_icmp .ge 78, 3) := jx_dec c_T_sortOpenByDue_ok 9 rfl
theorem d_T_sortOpenByDue_20 : decode prog_1_method_36_code 20 = .ok (.aload_n 0, 1) := jx_dec c_T_sortOpenByDue_ok 10 rfl
theorem d_T_sortOpenByDue_21 : decode prog_1_method_36_code 21 = .ok (.getfield 16, 3) := jx_dec c_T_sortOpenByDue_ok 11 rfl
theorem d_T_sortOpenByDue_24 : decode prog_1_method_36_code 24 = .ok (.iload_n 1, 1) := jx_dec c_T_sortOpenByDue_ok 12 rfl
theorem d_T_sortOpenByDue_25 : decode prog_1_method_36_code 25 = .ok (.invokevirtual 166, 3) := jx_dec c_T_sortOpenByDue_ok 13 rfl
theorem d_T_sortOpenByDue_28 : decode prog_1_method_36_code 28 = .ok (.checkcast 98, 3) := jx_dec c_T_sortOpenByDue_ok 14 rfl
theorem d_T_sortOpenByDue_31 : decode prog_1_method_36_code 31 = .ok (.astore_n 2, 1) := jx_dec c_T_sortOpenByDue_ok 15 rfl
theorem d_T_sortOpenByDue_32 : decode prog_1_method_36_code 32 = .ok (.aload_n 2, 1) := jx_dec c_T_sortOpenByDue_ok 16 rfl
theorem d_T_sortOpenByDue_33 : decode prog_1_method_36_code 33 = .ok (.getfield 170, 3) := jx_dec c_T_sortOpenByDue_ok 17 rfl
theorem d_T_sortOpenByDue_36 : decode prog_1_method_36_code 36 = .ok (.ifCond .ne 53, 3) := jx_dec c_T_sortOpenByDue_ok 18 rfl
theorem d_T_sortOpenByDue_39 : decode prog_1_method_36_code 39 = .ok (.aload_n 0, 1) := jx_dec c_T_sortOpenByDue_ok 19 rfl
theorem d_T_sortOpenByDue_40 : decode prog_1_method_36_code 40 = .ok (.getfield 19, 3) := jx_dec c_T_sortOpenByDue_ok 20 rfl
theorem d_T_sortOpenByDue_43 : decode prog_1_method_36_code 43 = .ok (.invokevirtual 41, 3) := jx_dec c_T_sortOpenByDue_ok 21 rfl
theorem d_T_sortOpenByDue_46 : decode prog_1_method_36_code 46 = .ok (.istore_n 3, 1) := jx_dec c_T_sortOpenByDue_ok 22 rfl
theorem d_T_sortOpenByDue_47 : decode prog_1_method_36_code 47 = .ok (.iload_n 3, 1) := jx_dec c_T_sortOpenByDue_ok 23 rfl
theorem d_T_sortOpenByDue_48 : decode prog_1_method_36_code 48 = .ok (.ifCond .le 32, 3) := jx_dec c_T_sortOpenByDue_ok 24 rfl
theorem d_T_sortOpenByDue_51 : decode prog_1_method_36_code 51 = .ok (.aload_n 0, 1) := jx_dec c_T_sortOpenByDue_ok 25 rfl
theorem d_T_sortOpenByDue_52 : decode prog_1_method_36_code 52 = .ok (.getfield 19, 3) := jx_dec c_T_sortOpenByDue_ok 26 rfl
theorem d_T_sortOpenByDue_55 : decode prog_1_method_36_code 55 = .ok (.iload_n 3, 1) := jx_dec c_T_sortOpenByDue_ok 27 rfl
theorem d_T_sortOpenByDue_56 : decode prog_1_method_36_code 56 = .ok (.iconst 1, 1) := jx_dec c_T_sortOpenByDue_ok 28 rfl
theorem d_T_sortOpenByDue_57 : decode prog_1_method_36_code 57 = .ok (.isub, 1) := jx_dec c_T_sortOpenByDue_ok 29 rfl
theorem d_T_sortOpenByDue_58 : decode prog_1_method_36_code 58 = .ok (.invokevirtual 166, 3) := jx_dec c_T_sortOpenByDue_ok 30 rfl
theorem d_T_sortOpenByDue_61 : decode prog_1_method_36_code 61 = .ok (.checkcast 98, 3) := jx_dec c_T_sortOpenByDue_ok 31 rfl
theorem d_T_sortOpenByDue_64 : decode prog_1_method_36_code 64 = .ok (.getfield 210, 3) := jx_dec c_T_sortOpenByDue_ok 32 rfl
theorem d_T_sortOpenByDue_67 : decode prog_1_method_36_code 67 = .ok (.aload_n 2, 1) := jx_dec c_T_sortOpenByDue_ok 33 rfl
theorem d_T_sortOpenByDue_68 : decode prog_1_method_36_code 68 = .ok (.getfield 210, 3) := jx_dec c_T_sortOpenByDue_ok 34 rfl
theorem d_T_sortOpenByDue_71 : decode prog_1_method_36_code 71 = .ok (.if_icmp .le 9, 3) := jx_dec c_T_sortOpenByDue_ok 35 rfl
theorem d_T_sortOpenByDue_74 : decode prog_1_method_36_code 74 = .ok (.iinc 3 (-1), 3) := jx_dec c_T_sortOpenByDue_ok 36 rfl
theorem d_T_sortOpenByDue_77 : decode prog_1_method_36_code 77 = .ok (.goto (-30), 3) := jx_dec c_T_sortOpenByDue_ok 37 rfl
theorem d_T_sortOpenByDue_80 : decode prog_1_method_36_code 80 = .ok (.aload_n 0, 1) := jx_dec c_T_sortOpenByDue_ok 38 rfl
theorem d_T_sortOpenByDue_81 : decode prog_1_method_36_code 81 = .ok (.getfield 19, 3) := jx_dec c_T_sortOpenByDue_ok 39 rfl
theorem d_T_sortOpenByDue_84 : decode prog_1_method_36_code 84 = .ok (.iload_n 3, 1) := jx_dec c_T_sortOpenByDue_ok 40 rfl
theorem d_T_sortOpenByDue_85 : decode prog_1_method_36_code 85 = .ok (.aload_n 2, 1) := jx_dec c_T_sortOpenByDue_ok 41 rfl
theorem d_T_sortOpenByDue_86 : decode prog_1_method_36_code 86 = .ok (.invokevirtual 280, 3) := jx_dec c_T_sortOpenByDue_ok 42 rfl
theorem d_T_sortOpenByDue_89 : decode prog_1_method_36_code 89 = .ok (.iinc 1 1, 3) := jx_dec c_T_sortOpenByDue_ok 43 rfl
theorem d_T_sortOpenByDue_92 : decode prog_1_method_36_code 92 = .ok (.goto (-83), 3) := jx_dec c_T_sortOpenByDue_ok 44 rfl
theorem d_T_sortOpenByDue_95 : decode prog_1_method_36_code 95 = .ok (.return_, 1) := jx_dec c_T_sortOpenByDue_ok 45 rfl
def c_T_addToBestRow : List (Nat × Instr × Nat) := [(0, .iconst (-1), 1), (1, .istore_n 2, 1), (2, .iconst (-1), 1), (3, .istore_n 3, 1), (4, .iconst 0, 1), (5, .istore 4, 2), (7, .iconst 0, 1), (8, .istore 5, 2), (10, .iload 5, 2), (12, .aload_n 0, 1), (13, .getfield 10, 3), (16, .invokevirtual 41, 3), (19, .if_icmp .ge 107, 3), (22, .aload_n 0, 1), (23, .getfield 10, 3), (26, .iload 5, 2), (28, .invokevirtual 166, 3), (31, .checkcast 49, 3), (34, .astore 6, 2), (36, .aload 6, 2), (38, .aload_n 1, 1), (39, .invokevirtual 254, 3), (42, .ifCond .eq 26, 3), (45, .aload 6, 2), (47, .aload_n 1, 1), (48, .aload 6, 2), (50, .getfield 265, 3), (53, .aload 6, 2), (55, .getfield 268, 3), (58, .aload_n 0, 1), (59, .getfield 25, 3), (62, .invokevirtual 250, 3), (65, .goto 4, 3), (68, .iconst (-1), 1), (69, .istore 7, 2), (71, .iload 7, 2), (73, .iconst (-1), 1), (74, .if_icmp .ne 6, 3), (77, .goto 43, 3), (80, .iload_n 2, 1), (81, .iconst (-1), 1), (82, .if_icmp .eq 25, 3), (85, .iload 7, 2), (87, .iload_n 3, 1), (88, .if_icmp .lt 19, 3), (91, .iload 7, 2), (93, .iload_n 3, 1), (94, .if_icmp .ne 26, 3), (97, .aload 6, 2), (99, .getfield 271, 3), (102, .iload 4, 2), (104, .if_icmp .ge 16, 3), (107, .iload 5, 2), (109, .istore_n 2, 1), (110, .iload 7, 2), (112, .istore_n 3, 1), (113, .aload 6, 2), (115, .getfield 271, 3), (118, .istore 4, 2), (120, .iinc 5 1, 3), (123, .goto (-113), 3), (126, .iload_n 2, 1), (127, .iconst (-1), 1), (128, .if_icmp .eq 24, 3), (131, .aload_n 1, 1), (132, .iload_n 2, 1), (133, .iload_n 3, 1), (134, .invokevirtual 283, 3), (137, .aload_n 0, 1), (138, .getfield 10, 3), (141, .iload_n 2, 1), (142, .invokevirtual 166, 3), (145, .checkcast 49, 3), (148, .aload_n 1, 1), (149, .invokevirtual 286, 3), (152, .return_, 1)]
theorem c_T_addToBestRow_ok : (c_T_addToBestRow).all (fun q => decide (decode prog_1_method_37_code q.1 = .ok q.2)) = true := by decide +kernel
theorem d_T_addToBestRow_0 : decode prog_1_method_37_code 0 = .ok (.iconst (-1), 1) := jx_dec c_T_addToBestRow_ok 0 rfl
theorem d_T_addToBestRow_1 : decode prog_1_method_37_code 1 = .ok (.istore_n 2, 1) := jx_dec c_T_addToBestRow_ok 1 rfl
theorem d_T_addToBestRow_2 : decode prog_1_method_37_code 2 = .ok (.iconst (-1), 1) := jx_dec c_T_addToBestRow_ok 2 rfl
theorem d_T_addToBestRow_3 : decode prog_1_method_37_code 3 = .ok (.istore_n 3, 1) := jx_dec c_T_addToBestRow_ok 3 rfl
theorem d_T_addToBestRow_4 : decode prog_1_method_37_code 4 = .ok (.iconst 0, 1) := jx_dec c_T_addToBestRow_ok 4 rfl
theorem d_T_addToBestRow_5 : decode prog_1_method_37_code 5 = .ok (.istore 4, 2) := jx_dec c_T_addToBestRow_ok 5 rfl
theorem d_T_addToBestRow_7 : decode prog_1_method_37_code 7 = .ok (.iconst 0, 1) := jx_dec c_T_addToBestRow_ok 6 rfl
theorem d_T_addToBestRow_8 : decode prog_1_method_37_code 8 = .ok (.istore 5, 2) := jx_dec c_T_addToBestRow_ok 7 rfl
theorem d_T_addToBestRow_10 : decode prog_1_method_37_code 10 = .ok (.iload 5, 2) := jx_dec c_T_addToBestRow_ok 8 rfl
theorem d_T_addToBestRow_12 : decode prog_1_method_37_code 12 = .ok (.aload_n 0, 1) := jx_dec c_T_addToBestRow_ok 9 rfl
theorem d_T_addToBestRow_13 : decode prog_1_method_37_code 13 = .ok (.getfield 10, 3) := jx_dec c_T_addToBestRow_ok 10 rfl
theorem d_T_addToBestRow_16 : decode prog_1_method_37_code 16 = .ok (.invokevirtual 41, 3) := jx_dec c_T_addToBestRow_ok 11 rfl
theorem d_T_addToBestRow_19 : decode prog_1_method_37_code 19 = .ok (.if_icmp .ge 107, 3) := jx_dec c_T_addToBestRow_ok 12 rfl
theorem d_T_addToBestRow_22 : decode prog_1_method_37_code 22 = .ok (.aload_n 0, 1) := jx_dec c_T_addToBestRow_ok 13 rfl
theorem d_T_addToBestRow_23 : decode prog_1_method_37_code 23 = .ok (.getfield 10, 3) := jx_dec c_T_addToBestRow_ok 14 rfl
theorem d_T_addToBestRow_26 : decode prog_1_method_37_code 26 = .ok (.iload 5, 2) := jx_dec c_T_addToBestRow_ok 15 rfl
theorem d_T_addToBestRow_28 : decode prog_1_method_37_code 28 = .ok (.invokevirtual 166, 3) := jx_dec c_T_addToBestRow_ok 16 rfl
theorem d_T_addToBestRow_31 : decode prog_1_method_37_code 31 = .ok (.checkcast 49, 3) := jx_dec c_T_addToBestRow_ok 17 rfl
theorem d_T_addToBestRow_34 : decode prog_1_method_37_code 34 = .ok (.astore 6, 2) := jx_dec c_T_addToBestRow_ok 18 rfl
theorem d_T_addToBestRow_36 : decode prog_1_method_37_code 36 = .ok (.aload 6, 2) := jx_dec c_T_addToBestRow_ok 19 rfl
theorem d_T_addToBestRow_38 : decode prog_1_method_37_code 38 = .ok (.aload_n 1, 1) := jx_dec c_T_addToBestRow_ok 20 rfl
theorem d_T_addToBestRow_39 : decode prog_1_method_37_code 39 = .ok (.invokevirtual 254, 3) := jx_dec c_T_addToBestRow_ok 21 rfl
theorem d_T_addToBestRow_42 : decode prog_1_method_37_code 42 = .ok (.ifCond .eq 26, 3) := jx_dec c_T_addToBestRow_ok 22 rfl
theorem d_T_addToBestRow_45 : decode prog_1_method_37_code 45 = .ok (.aload 6, 2) := jx_dec c_T_addToBestRow_ok 23 rfl
theorem d_T_addToBestRow_47 : decode prog_1_method_37_code 47 = .ok (.aload_n 1, 1) := jx_dec c_T_addToBestRow_ok 24 rfl
theorem d_T_addToBestRow_48 : decode prog_1_method_37_code 48 = .ok (.aload 6, 2) := jx_dec c_T_addToBestRow_ok 25 rfl
theorem d_T_addToBestRow_50 : decode prog_1_method_37_code 50 = .ok (.getfield 265, 3) := jx_dec c_T_addToBestRow_ok 26 rfl
theorem d_T_addToBestRow_53 : decode prog_1_method_37_code 53 = .ok (.aload 6, 2) := jx_dec c_T_addToBestRow_ok 27 rfl
theorem d_T_addToBestRow_55 : decode prog_1_method_37_code 55 = .ok (.getfield 268, 3) := jx_dec c_T_addToBestRow_ok 28 rfl
theorem d_T_addToBestRow_58 : decode prog_1_method_37_code 58 = .ok (.aload_n 0, 1) := jx_dec c_T_addToBestRow_ok 29 rfl
theorem d_T_addToBestRow_59 : decode prog_1_method_37_code 59 = .ok (.getfield 25, 3) := jx_dec c_T_addToBestRow_ok 30 rfl
theorem d_T_addToBestRow_62 : decode prog_1_method_37_code 62 = .ok (.invokevirtual 250, 3) := jx_dec c_T_addToBestRow_ok 31 rfl
theorem d_T_addToBestRow_65 : decode prog_1_method_37_code 65 = .ok (.goto 4, 3) := jx_dec c_T_addToBestRow_ok 32 rfl
theorem d_T_addToBestRow_68 : decode prog_1_method_37_code 68 = .ok (.iconst (-1), 1) := jx_dec c_T_addToBestRow_ok 33 rfl
theorem d_T_addToBestRow_69 : decode prog_1_method_37_code 69 = .ok (.istore 7, 2) := jx_dec c_T_addToBestRow_ok 34 rfl
theorem d_T_addToBestRow_71 : decode prog_1_method_37_code 71 = .ok (.iload 7, 2) := jx_dec c_T_addToBestRow_ok 35 rfl
theorem d_T_addToBestRow_73 : decode prog_1_method_37_code 73 = .ok (.iconst (-1), 1) := jx_dec c_T_addToBestRow_ok 36 rfl
theorem d_T_addToBestRow_74 : decode prog_1_method_37_code 74 = .ok (.if_icmp .ne 6, 3) := jx_dec c_T_addToBestRow_ok 37 rfl
theorem d_T_addToBestRow_77 : decode prog_1_method_37_code 77 = .ok (.goto 43, 3) := jx_dec c_T_addToBestRow_ok 38 rfl
theorem d_T_addToBestRow_80 : decode prog_1_method_37_code 80 = .ok (.iload_n 2, 1) := jx_dec c_T_addToBestRow_ok 39 rfl
theorem d_T_addToBestRow_81 : decode prog_1_method_37_code 81 = .ok (.iconst (-1), 1) := jx_dec c_T_addToBestRow_ok 40 rfl
theorem d_T_addToBestRow_82 : decode prog_1_method_37_code 82 = .ok (.if_icmp .eq 25, 3) := jx_dec c_T_addToBestRow_ok 41 rfl
theorem d_T_addToBestRow_85 : decode prog_1_method_37_code 85 = .ok (.iload 7, 2) := jx_dec c_T_addToBestRow_ok 42 rfl
theorem d_T_addToBestRow_87 : decode prog_1_method_37_code 87 = .ok (.iload_n 3, 1) := jx_dec c_T_addToBestRow_ok 43 rfl
theorem d_T_addToBestRow_88 : decode prog_1_method_37_code 88 = .ok (.if_icmp .lt 19, 3) := jx_dec c_T_addToBestRow_ok 44 rfl
theorem d_T_addToBestRow_91 : decode prog_1_method_37_code 91 = .ok (.iload 7, 2) := jx_dec c_T_addToBestRow_ok 45 rfl
theorem d_T_addToBestRow_93 : decode prog_1_method_37_code 93 = .ok (.iload_n 3, 1) := jx_dec c_T_addToBestRow_ok 46 rfl
theorem d_T_addToBestRow_94 : decode prog_1_method_37_code 94 = .ok (.if_icmp .ne 26, 3) := jx_dec c_T_addToBestRow_ok 47 rfl
theorem d_T_addToBestRow_97 : decode prog_1_method_37_code 97 = .ok (.aload 6, 2) := jx_dec c_T_addToBestRow_ok 48 rfl
theorem d_T_addToBestRow_99 : decode prog_1_method_37_code 99 = .ok (.getfield 271, 3) := jx_dec c_T_addToBestRow_ok 49 rfl
theorem d_T_addToBestRow_102 : decode prog_1_method_37_code 102 = .ok (.iload 4, 2) := jx_dec c_T_addToBestRow_ok 50 rfl
theorem d_T_addToBestRow_104 : decode prog_1_method_37_code 104 = .ok (.if_icmp .ge 16, 3) := jx_dec c_T_addToBestRow_ok 51 rfl
theorem d_T_addToBestRow_107 : decode prog_1_method_37_code 107 = .ok (.iload 5, 2) := jx_dec c_T_addToBestRow_ok 52 rfl
theorem d_T_addToBestRow_109 : decode prog_1_method_37_code 109 = .ok (.istore_n 2, 1) := jx_dec c_T_addToBestRow_ok 53 rfl
theorem d_T_addToBestRow_110 : decode prog_1_method_37_code 110 = .ok (.iload 7, 2) := jx_dec c_T_addToBestRow_ok 54 rfl
theorem d_T_addToBestRow_112 : decode prog_1_method_37_code 112 = .ok (.istore_n 3, 1) := jx_dec c_T_addToBestRow_ok 55 rfl
theorem d_T_addToBestRow_113 : decode prog_1_method_37_code 113 = .ok (.aload 6, 2) := jx_dec c_T_addToBestRow_ok 56 rfl
theorem d_T_addToBestRow_115 : decode prog_1_method_37_code 115 = .ok (.getfield 271, 3) := jx_dec c_T_addToBestRow_ok 57 rfl
theorem d_T_addToBestRow_118 : decode prog_1_method_37_code 118 = .ok (.istore 4, 2) := jx_dec c_T_addToBestRow_ok 58 rfl
theorem d_T_addToBestRow_120 : decode prog_1_method_37_code 120 = .ok (.iinc 5 1, 3) := jx_dec c_T_addToBestRow_ok 59 rfl
theorem d_T_addToBestRow_123 : decode prog_1_method_37_code 123 = .ok (.goto (-113), 3) := jx_dec c_T_addToBestRow_ok 60 rfl
theorem d_T_addToBestRow_126 : decode prog_1_method_37_code 126 = .ok (.iload_n 2, 1) := jx_dec c_T_addToBestRow_ok 61 rfl
theorem d_T_addToBestRow_127 : decode prog_1_method_37_code 127 = .ok (.iconst (-1), 1) := jx_dec c_T_addToBestRow_ok 62 rfl
theorem d_T_addToBestRow_128 : decode prog_1_method_37_code 128 = .ok (.if_icmp .eq 24, 3) := jx_dec c_T_addToBestRow_ok 63 rfl
theorem d_T_addToBestRow_131 : decode prog_1_method_37_code 131 = .ok (.aload_n 1, 1) := jx_dec c_T_addToBestRow_ok 64 rfl
theorem d_T_addToBestRow_132 : decode prog_1_method_37_code 132 = .ok (.iload_n 2, 1) := jx_dec c_T_addToBestRow_ok 65 rfl
theorem d_T_addToBestRow_133 : decode prog_1_method_37_code 133 = .ok (.iload_n 3, 1) := jx_dec c_T_addToBestRow_ok 66 rfl
theorem d_T_addToBestRow_134 : decode prog_1_method_37_code 134 = .ok (.invokevirtual 283, 3) := jx_dec c_T_addToBestRow_ok 67 rfl
theorem d_T_addToBestRow_137 : decode prog_1_method_37_code 137 = .ok (.aload_n 0, 1) := jx_dec c_T_addToBestRow_ok 68 rfl
theorem d_T_addToBestRow_138 : decode prog_1_method_37_code 138 = .ok (.getfield 10, 3) := jx_dec c_T_addToBestRow_ok 69 rfl
theorem d_T_addToBestRow_141 : decode prog_1_method_37_code 141 = .ok (.iload_n 2, 1) := jx_dec c_T_addToBestRow_ok 70 rfl
theorem d_T_addToBestRow_142 : decode prog_1_method_37_code 142 = .ok (.invokevirtual 166, 3) := jx_dec c_T_addToBestRow_ok 71 rfl
theorem d_T_addToBestRow_145 : decode prog_1_method_37_code 145 = .ok (.checkcast 49, 3) := jx_dec c_T_addToBestRow_ok 72 rfl
theorem d_T_addToBestRow_148 : decode prog_1_method_37_code 148 = .ok (.aload_n 1, 1) := jx_dec c_T_addToBestRow_ok 73 rfl
theorem d_T_addToBestRow_149 : decode prog_1_method_37_code 149 = .ok (.invokevirtual 286, 3) := jx_dec c_T_addToBestRow_ok 74 rfl
theorem d_T_addToBestRow_152 : decode prog_1_method_37_code 152 = .ok (.return_, 1) := jx_dec c_T_addToBestRow_ok 75 rfl
def c_T_give : List (Nat × Instr × Nat) := [(0, .aload_n 0, 1), (1, .iload_n 1, 1), (2, .invokevirtual 62, 3), (5, .astore_n 2, 1), (6, .aload_n 0, 1), (7, .aload_n 2, 1), (8, .invokevirtual 177, 3), (11, .aload_n 0, 1), (12, .aload_n 2, 1), (13, .getfield 58, 3), (16, .iconst 0, 1), (17, .invokevirtual 181, 3), (20, .istore_n 3, 1), (21, .iload_n 3, 1), (22, .iconst (-1), 1), (23, .if_icmp .eq 24, 3), (26, .aload_n 0, 1), (27, .getfield 16, 3), (30, .iload_n 3, 1), (31, .invokevirtual 166, 3), (34, .checkcast 98, 3), (37, .getfield 185, 3), (40, .aload_n 0, 1), (41, .getfield 153, 3), (44, .if_icmp .le 5, 3), (47, .iconst (-1), 1), (48, .ireturn, 1), (49, .aload_n 0, 1), (50, .getfield 16, 3), (53, .iload_n 3, 1), (54, .invokevirtual 166, 3), (57, .checkcast 98, 3), (60, .astore 4, 2), (62, .aload 4, 2), (64, .iconst 1, 1), (65, .putfield 170, 3), (68, .aload 4, 2), (70, .aload_n 0, 1), (71, .getfield 153, 3), (74, .putfield 185, 3), (77, .aload_n 2, 1), (78, .iload_n 3, 1), (79, .putfield 188, 3), (82, .aload_n 2, 1), (83, .aload_n 0, 1), (84, .getfield 153, 3), (87, .aload 4, 2), (89, .getfield 191, 3), (92, .iadd, 1), (93, .putfield 194, 3), (96, .aload_n 2, 1), (97, .aload 4, 2), (99, .getfield 197, 3), (102, .putfield 200, 3), (105, .iload_n 3, 1), (106, .ireturn, 1)]
theorem c_T_give_ok : (c_T_give).all (fun q => decide (decode prog_1_method_12_code q.1 = .ok q.2)) = true := by decide +kernel
theorem d_T_give_0 : decode prog_1_method_12_code 0 = .ok (.aload_n 0, 1) := jx_dec c_T_give_ok 0 rfl
theorem d_T_give_1 : decode prog_1_method_12_code 1 = .ok (.iload_n 1, 1) := jx_dec c_T_give_ok 1 rfl
theorem d_T_give_2 : decode prog_1_method_12_code 2 = .ok (.invokevirtual 62, 3) := jx_dec c_T_give_ok 2 rfl
theorem d_T_give_5 : decode prog_1_method_12_code 5 = .ok (.astore_n 2, 1) := jx_dec c_T_give_ok 3 rfl
theorem d_T_give_6 : decode prog_1_method_12_code 6 = .ok (.aload_n 0, 1) := jx_dec c_T_give_ok 4 rfl
theorem d_T_give_7 : decode prog_1_method_12_code 7 = .ok (.aload_n 2, 1) := jx_dec c_T_give_ok 5 rfl
theorem d_T_give_8 : decode prog_1_method_12_code 8 = .ok (.invokevirtual 177, 3) := jx_dec c_T_give_ok 6 rfl
theorem d_T_give_11 : decode prog_1_method_12_code 11 = .ok (.aload_n 0, 1) := jx_dec c_T_give_ok 7 rfl
theorem d_T_give_12 : decode prog_1_method_12_code 12 = .ok (.aload_n 2, 1) := jx_dec c_T_give_ok 8 rfl
theorem d_T_give_13 : decode prog_1_method_12_code 13 = .ok (.getfield 58, 3) := jx_dec c_T_give_ok 9 rfl
theorem d_T_give_16 : decode prog_1_method_12_code 16 = .ok (.iconst 0, 1) := jx_dec c_T_give_ok 10 rfl
theorem d_T_give_17 : decode prog_1_method_12_code 17 = .ok (.invokevirtual 181, 3) := jx_dec c_T_give_ok 11 rfl
theorem d_T_give_20 : decode prog_1_method_12_code 20 = .ok (.istore_n 3, 1) := jx_dec c_T_give_ok 12 rfl
theorem d_T_give_21 : decode prog_1_method_12_code 21 = .ok (.iload_n 3, 1) := jx_dec c_T_give_ok 13 rfl
theorem d_T_give_22 : decode prog_1_method_12_code 22 = .ok (.iconst (-1), 1) := jx_dec c_T_give_ok 14 rfl
theorem d_T_give_23 : decode prog_1_method_12_code 23 = .ok (.if_icmp .eq 24, 3) := jx_dec c_T_give_ok 15 rfl
theorem d_T_give_26 : decode prog_1_method_12_code 26 = .ok (.aload_n 0, 1) := jx_dec c_T_give_ok 16 rfl
theorem d_T_give_27 : decode prog_1_method_12_code 27 = .ok (.getfield 16, 3) := jx_dec c_T_give_ok 17 rfl
theorem d_T_give_30 : decode prog_1_method_12_code 30 = .ok (.iload_n 3, 1) := jx_dec c_T_give_ok 18 rfl
theorem d_T_give_31 : decode prog_1_method_12_code 31 = .ok (.invokevirtual 166, 3) := jx_dec c_T_give_ok 19 rfl
theorem d_T_give_34 : decode prog_1_method_12_code 34 = .ok (.checkcast 98, 3) := jx_dec c_T_give_ok 20 rfl
theorem d_T_give_37 : decode prog_1_method_12_code 37 = .ok (.getfield 185, 3) := jx_dec c_T_give_ok 21 rfl
theorem d_T_give_40 : decode prog_1_method_12_code 40 = .ok (.aload_n 0, 1) := jx_dec c_T_give_ok 22 rfl
theorem d_T_give_41 : decode prog_1_method_12_code 41 = .ok (.getfield 153, 3) := jx_dec c_T_give_ok 23 rfl
theorem d_T_give_44 : decode prog_1_method_12_code 44 = .ok (.if_icmp .le 5, 3) := jx_dec c_T_give_ok 24 rfl
theorem d_T_give_47 : decode prog_1_method_12_code 47 = .ok (.iconst (-1), 1) := jx_dec c_T_give_ok 25 rfl
theorem d_T_give_48 : decode prog_1_method_12_code 48 = .ok (.ireturn, 1) := jx_dec c_T_give_ok 26 rfl
theorem d_T_give_49 : decode prog_1_method_12_code 49 = .ok (.aload_n 0, 1) := jx_dec c_T_give_ok 27 rfl
theorem d_T_give_50 : decode prog_1_method_12_code 50 = .ok (.getfield 16, 3) := jx_dec c_T_give_ok 28 rfl
theorem d_T_give_53 : decode prog_1_method_12_code 53 = .ok (.iload_n 3, 1) := jx_dec c_T_give_ok 29 rfl
theorem d_T_give_54 : decode prog_1_method_12_code 54 = .ok (.invokevirtual 166, 3) := jx_dec c_T_give_ok 30 rfl
theorem d_T_give_57 : decode prog_1_method_12_code 57 = .ok (.checkcast 98, 3) := jx_dec c_T_give_ok 31 rfl
theorem d_T_give_60 : decode prog_1_method_12_code 60 = .ok (.astore 4, 2) := jx_dec c_T_give_ok 32 rfl
theorem d_T_give_62 : decode prog_1_method_12_code 62 = .ok (.aload 4, 2) := jx_dec c_T_give_ok 33 rfl
theorem d_T_give_64 : decode prog_1_method_12_code 64 = .ok (.iconst 1, 1) := jx_dec c_T_give_ok 34 rfl
theorem d_T_give_65 : decode prog_1_method_12_code 65 = .ok (.putfield 170, 3) := jx_dec c_T_give_ok 35 rfl
theorem d_T_give_68 : decode prog_1_method_12_code 68 = .ok (.aload 4, 2) := jx_dec c_T_give_ok 36 rfl
theorem d_T_give_70 : decode prog_1_method_12_code 70 = .ok (.aload_n 0, 1) := jx_dec c_T_give_ok 37 rfl
theorem d_T_give_71 : decode prog_1_method_12_code 71 = .ok (.getfield 153, 3) := jx_dec c_T_give_ok 38 rfl
theorem d_T_give_74 : decode prog_1_method_12_code 74 = .ok (.putfield 185, 3) := jx_dec c_T_give_ok 39 rfl
theorem d_T_give_77 : decode prog_1_method_12_code 77 = .ok (.aload_n 2, 1) := jx_dec c_T_give_ok 40 rfl
theorem d_T_give_78 : decode prog_1_method_12_code 78 = .ok (.iload_n 3, 1) := jx_dec c_T_give_ok 41 rfl
theorem d_T_give_79 : decode prog_1_method_12_code 79 = .ok (.putfield 188, 3) := jx_dec c_T_give_ok 42 rfl
theorem d_T_give_82 : decode prog_1_method_12_code 82 = .ok (.aload_n 2, 1) := jx_dec c_T_give_ok 43 rfl
theorem d_T_give_83 : decode prog_1_method_12_code 83 = .ok (.aload_n 0, 1) := jx_dec c_T_give_ok 44 rfl
theorem d_T_give_84 : decode prog_1_method_12_code 84 = .ok (.getfield 153, 3) := jx_dec c_T_give_ok 45 rfl
theorem d_T_give_87 : decode prog_1_method_12_code 87 = .ok (.aload 4, 2) := jx_dec c_T_give_ok 46 rfl
theorem d_T_give_89 : decode prog_1_method_12_code 89 = .ok (.getfield 191, 3) := jx_dec c_T_give_ok 47 rfl
theorem d_T_give_92 : decode prog_1_method_12_code 92 = .ok (.iadd, 1) := jx_dec c_T_give_ok 48 rfl
theorem d_T_give_93 : decode prog_1_method_12_code 93 = .ok (.putfield 194, 3) := jx_dec c_T_give_ok 49 rfl
theorem d_T_give_96 : decode prog_1_method_12_code 96 = .ok (.aload_n 2, 1) := jx_dec c_T_give_ok 50 rfl
theorem d_T_give_97 : decode prog_1_method_12_code 97 = .ok (.aload 4, 2) := jx_dec c_T_give_ok 51 rfl
theorem d_T_give_99 : decode prog_1_method_12_code 99 = .ok (.getfield 197, 3) := jx_dec c_T_give_ok 52 rfl
theorem d_T_give_102 : decode prog_1_method_12_code 102 = .ok (.putfield 200, 3) := jx_dec c_T_give_ok 53 rfl
theorem d_T_give_105 : decode prog_1_method_12_code 105 = .ok (.iload_n 3, 1) := jx_dec c_T_give_ok 54 rfl
theorem d_T_give_106 : decode prog_1_method_12_code 106 = .ok (.ireturn, 1) := jx_dec c_T_give_ok 55 rfl
def c_T_needAtWork : List (Nat × Instr × Nat) := [(0, .aload_n 1, 1), (1, .getfield 133, 3), (4, .ifCond .eq 11, 3), (7, .aload_n 1, 1), (8, .getfield 188, 3), (11, .iconst (-1), 1), (12, .if_icmp .eq 13, 3), (15, .new 82, 3), (18, .dup, 1), (19, .ldc 233, 2), (21, .invokespecial 86, 3), (24, .athrow, 1), (25, .aload_n 0, 1), (26, .getfield 153, 3), (29, .aload_n 1, 1), (30, .getfield 66, 3), (33, .if_icmp .lt 14, 3), (36, .aload_n 0, 1), (37, .getfield 153, 3), (40, .aload_n 1, 1), (41, .getfield 69, 3), (44, .if_icmp .lt 7, 3), (47, .iconst 1, 1), (48, .goto 4, 3), (51, .iconst 0, 1), (52, .istore_n 2, 1), (53, .aload_n 0, 1), (54, .getfield 153, 3), (57, .aload_n 1, 1), (58, .getfield 72, 3), (61, .if_icmp .lt 18, 3), (64, .aload_n 0, 1), (65, .getfield 153, 3), (68, .aload_n 1, 1), (69, .getfield 75, 3), (72, .if_icmp .ge 7, 3), (75, .iconst 1, 1), (76, .goto 4, 3), (79, .iconst 0, 1), (80, .istore_n 3, 1), (81, .iload_n 2, 1), (82, .ifCond .ne 7, 3), (85, .iload_n 3, 1), (86, .ifCond .eq 13, 3), (89, .new 82, 3), (92, .dup, 1), (93, .ldc 235, 2), (95, .invokespecial 86, 3), (98, .athrow, 1), (99, .return_, 1)]
theorem c_T_needAtWork_ok : (c_T_needAtWork).all (fun q => decide (decode prog_1_method_26_code q.1 = .ok q.2)) = true := by decide +kernel
theorem d_T_needAtWork_0 : decode prog_1_method_26_code 0 = .ok (.aload_n 1, 1) := jx_dec c_T_needAtWork_ok 0 rfl
theorem d_T_needAtWork_1 : decode prog_1_method_26_code 1 = .ok (.getfield 133, 3) := jx_dec c_T_needAtWork_ok 1 rfl
theorem d_T_needAtWork_4 : decode prog_1_method_26_code 4 = .ok (.ifCond .eq 11, 3) := jx_dec c_T_needAtWork_ok 2 rfl
theorem d_T_needAtWork_7 : decode prog_1_method_26_code 7 = .ok (.aload_n 1, 1) := jx_dec c_T_needAtWork_ok 3 rfl
theorem d_T_needAtWork_8 : decode prog_1_method_26_code 8 = .ok (.getfield 188, 3) := jx_dec c_T_needAtWork_ok 4 rfl
theorem d_T_needAtWork_11 : decode prog_1_method_26_code 11 = .ok (.iconst (-1), 1) := jx_dec c_T_needAtWork_ok 5 rfl
theorem d_T_needAtWork_12 : decode prog_1_method_26_code 12 = .ok (.if_icmp .eq 13, 3) := jx_dec c_T_needAtWork_ok 6 rfl
theorem d_T_needAtWork_15 : decode prog_1_method_26_code 15 = .ok (.new 82, 3) := jx_dec c_T_needAtWork_ok 7 rfl
theorem d_T_needAtWork_18 : decode prog_1_method_26_code 18 = .ok (.dup, 1) := jx_dec c_T_needAtWork_ok 8 rfl
theorem d_T_needAtWork_19 : decode prog_1_method_26_code 19 = .ok (.ldc 233, 2) := jx_dec c_T_needAtWork_ok 9 rfl
theorem d_T_needAtWork_21 : decode prog_1_method_26_code 21 = .ok (.invokespecial 86, 3) := jx_dec c_T_needAtWork_ok 10 rfl
theorem d_T_needAtWork_24 : decode prog_1_method_26_code 24 = .ok (.athrow, 1) := jx_dec c_T_needAtWork_ok 11 rfl
theorem d_T_needAtWork_25 : decode prog_1_method_26_code 25 = .ok (.aload_n 0, 1) := jx_dec c_T_needAtWork_ok 12 rfl
theorem d_T_needAtWork_26 : decode prog_1_method_26_code 26 = .ok (.getfield 153, 3) := jx_dec c_T_needAtWork_ok 13 rfl
theorem d_T_needAtWork_29 : decode prog_1_method_26_code 29 = .ok (.aload_n 1, 1) := jx_dec c_T_needAtWork_ok 14 rfl
theorem d_T_needAtWork_30 : decode prog_1_method_26_code 30 = .ok (.getfield 66, 3) := jx_dec c_T_needAtWork_ok 15 rfl
theorem d_T_needAtWork_33 : decode prog_1_method_26_code 33 = .ok (.if_icmp .lt 14, 3) := jx_dec c_T_needAtWork_ok 16 rfl
theorem d_T_needAtWork_36 : decode prog_1_method_26_code 36 = .ok (.aload_n 0, 1) := jx_dec c_T_needAtWork_ok 17 rfl
theorem d_T_needAtWork_37 : decode prog_1_method_26_code 37 = .ok (.getfield 153, 3) := jx_dec c_T_needAtWork_ok 18 rfl
theorem d_T_needAtWork_40 : decode prog_1_method_26_code 40 = .ok (.aload_n 1, 1) := jx_dec c_T_needAtWork_ok 19 rfl
theorem d_T_needAtWork_41 : decode prog_1_method_26_code 41 = .ok (.getfield 69, 3) := jx_dec c_T_needAtWork_ok 20 rfl
theorem d_T_needAtWork_44 : decode prog_1_method_26_code 44 = .ok (.if_icmp .lt 7, 3) := jx_dec c_T_needAtWork_ok 21 rfl
theorem d_T_needAtWork_47 : decode prog_1_method_26_code 47 = .ok (.iconst 1, 1) := jx_dec c_T_needAtWork_ok 22 rfl
theorem d_T_needAtWork_48 : decode prog_1_method_26_code 48 = .ok (.goto 4, 3) := jx_dec c_T_needAtWork_ok 23 rfl
theorem d_T_needAtWork_51 : decode prog_1_method_26_code 51 = .ok (.iconst 0, 1) := jx_dec c_T_needAtWork_ok 24 rfl
theorem d_T_needAtWork_52 : decode prog_1_method_26_code 52 = .ok (.istore_n 2, 1) := jx_dec c_T_needAtWork_ok 25 rfl
theorem d_T_needAtWork_53 : decode prog_1_method_26_code 53 = .ok (.aload_n 0, 1) := jx_dec c_T_needAtWork_ok 26 rfl
theorem d_T_needAtWork_54 : decode prog_1_method_26_code 54 = .ok (.getfield 153, 3) := jx_dec c_T_needAtWork_ok 27 rfl
theorem d_T_needAtWork_57 : decode prog_1_method_26_code 57 = .ok (.aload_n 1, 1) := jx_dec c_T_needAtWork_ok 28 rfl
theorem d_T_needAtWork_58 : decode prog_1_method_26_code 58 = .ok (.getfield 72, 3) := jx_dec c_T_needAtWork_ok 29 rfl
theorem d_T_needAtWork_61 : decode prog_1_method_26_code 61 = .ok (.if_icmp .lt 18, 3) := jx_dec c_T_needAtWork_ok 30 rfl
theorem d_T_needAtWork_64 : decode prog_1_method_26_code 64 = .ok (.aload_n 0, 1) := jx_dec c_T_needAtWork_ok 31 rfl
theorem d_T_needAtWork_65 : decode prog_1_method_26_code 65 = .ok (.getfield 153, 3) := jx_dec c_T_needAtWork_ok 32 rfl
theorem d_T_needAtWork_68 : decode prog_1_method_26_code 68 = .ok (.aload_n 1, 1) := jx_dec c_T_needAtWork_ok 33 rfl
theorem d_T_needAtWork_69 : decode prog_1_method_26_code 69 = .ok (.getfield 75, 3) := jx_dec c_T_needAtWork_ok 34 rfl
theorem d_T_needAtWork_72 : decode prog_1_method_26_code 72 = .ok (.if_icmp .ge 7, 3) := jx_dec c_T_needAtWork_ok 35 rfl
theorem d_T_needAtWork_75 : decode prog_1_method_26_code 75 = .ok (.iconst 1, 1) := jx_dec c_T_needAtWork_ok 36 rfl
theorem d_T_needAtWork_76 : decode prog_1_method_26_code 76 = .ok (.goto 4, 3) := jx_dec c_T_needAtWork_ok 37 rfl
theorem d_T_needAtWork_79 : decode prog_1_method_26_code 79 = .ok (.iconst 0, 1) := jx_dec c_T_needAtWork_ok 38 rfl
theorem d_T_needAtWork_80 : decode prog_1_method_26_code 80 = .ok (.istore_n 3, 1) := jx_dec c_T_needAtWork_ok 39 rfl
theorem d_T_needAtWork_81 : decode prog_1_method_26_code 81 = .ok (.iload_n 2, 1) := jx_dec c_T_needAtWork_ok 40 rfl
theorem d_T_needAtWork_82 : decode prog_1_method_26_code 82 = .ok (.ifCond .ne 7, 3) := jx_dec c_T_needAtWork_ok 41 rfl
theorem d_T_needAtWork_85 : decode prog_1_method_26_code 85 = .ok (.iload_n 3, 1) := jx_dec c_T_needAtWork_ok 42 rfl
theorem d_T_needAtWork_86 : decode prog_1_method_26_code 86 = .ok (.ifCond .eq 13, 3) := jx_dec c_T_needAtWork_ok 43 rfl
theorem d_T_needAtWork_89 : decode prog_1_method_26_code 89 = .ok (.new 82, 3) := jx_dec c_T_needAtWork_ok 44 rfl
theorem d_T_needAtWork_92 : decode prog_1_method_26_code 92 = .ok (.dup, 1) := jx_dec c_T_needAtWork_ok 45 rfl
theorem d_T_needAtWork_93 : decode prog_1_method_26_code 93 = .ok (.ldc 235, 2) := jx_dec c_T_needAtWork_ok 46 rfl
theorem d_T_needAtWork_95 : decode prog_1_method_26_code 95 = .ok (.invokespecial 86, 3) := jx_dec c_T_needAtWork_ok 47 rfl
theorem d_T_needAtWork_98 : decode prog_1_method_26_code 98 = .ok (.athrow, 1) := jx_dec c_T_needAtWork_ok 48 rfl
theorem d_T_needAtWork_99 : decode prog_1_method_26_code 99 = .ok (.return_, 1) := jx_dec c_T_needAtWork_ok 49 rfl
def c_T_plannedTask : List (Nat × Instr × Nat) := [(0, .iconst 0, 1), (1, .istore_n 3, 1), (2, .iload_n 3, 1), (3, .aload_n 0, 1), (4, .getfield 16, 3), (7, .invokevirtual 41, 3), (10, .if_icmp .ge 49, 3), (13, .aload_n 0, 1), (14, .getfield 16, 3), (17, .iload_n 3, 1), (18, .invokevirtual 166, 3), (21, .checkcast 98, 3), (24, .iload_n 1, 1), (25, .iconst 0, 1), (26, .invokevirtual 237, 3), (29, .ifCond .eq 24, 3), (32, .aload_n 0, 1), (33, .aload_n 0, 1), (34, .getfield 16, 3), (37, .iload_n 3, 1), (38, .invokevirtual 166, 3), (41, .checkcast 98, 3), (44, .invokevirtual 244, 3), (47, .iload_n 2, 1), (48, .if_icmp .ne 5, 3), (51, .iload_n 3, 1), (52, .ireturn, 1), (53, .iinc 3 1, 3), (56, .goto (-54), 3), (59, .iconst (-1), 1), (60, .ireturn, 1)]
theorem c_T_plannedTask_ok : (c_T_plannedTask).all (fun q => decide (decode prog_1_method_30_code q.1 = .ok q.2)) = true := by decide +kernel
theorem d_T_plannedTask_0 : decode prog_1_method_30_code 0 = .ok (.iconst 0, 1) := jx_dec c_T_plannedTask_ok 0 rfl
theorem d_T_plannedTask_1 : decode prog_1_method_30_code 1 = .ok (.istore_n 3, 1) := jx_dec c_T_plannedTask_ok 1 rfl
theorem d_T_plannedTask_2 : decode prog_1_method_30_code 2 = .ok (.iload_n 3, 1) := jx_dec c_T_plannedTask_ok 2 rfl
theorem d_T_plannedTask_3 : decode prog_1_method_30_code 3 = .ok (.aload_n 0, 1) := jx_dec c_T_plannedTask_ok 3 rfl
theorem d_T_plannedTask_4 : decode prog_1_method_30_code 4 = .ok (.getfield 16, 3) := jx_dec c_T_plannedTask_ok 4 rfl
theorem d_T_plannedTask_7 : decode prog_1_method_30_code 7 = .ok (.invokevirtual 41, 3) := jx_dec c_T_plannedTask_ok 5 rfl
theorem d_T_plannedTask_10 : decode prog_1_method_30_code 10 = .ok (.if_icmp .ge 49, 3) := jx_dec c_T_plannedTask_ok 6 rfl
theorem d_T_plannedTask_13 : decode prog_1_method_30_code 13 = .ok (.aload_n 0, 1) := jx_dec c_T_plannedTask_ok 7 rfl
theorem d_T_plannedTask_14 : decode prog_1_method_30_code 14 = .ok (.getfield 16, 3) := jx_dec c_T_plannedTask_ok 8 rfl
theorem d_T_plannedTask_17 : decode prog_1_method_30_code 17 = .ok (.iload_n 3, 1) := jx_dec c_T_plannedTask_ok 9 rfl
theorem d_T_plannedTask_18 : decode prog_1_method_30_code 18 = .ok (.invokevirtual 166, 3) := jx_dec c_T_plannedTask_ok 10 rfl
theorem d_T_plannedTask_21 : decode prog_1_method_30_code 21 = .ok (.checkcast 98, 3) := jx_dec c_T_plannedTask_ok 11 rfl
theorem d_T_plannedTask_24 : decode prog_1_method_30_code 24 = .ok (.iload_n 1, 1) := jx_dec c_T_plannedTask_ok 12 rfl
theorem d_T_plannedTask_25 : decode prog_1_method_30_code 25 = .ok (.iconst 0, 1) := jx_dec c_T_plannedTask_ok 13 rfl
theorem d_T_plannedTask_26 : decode prog_1_method_30_code 26 = .ok (.invokevirtual 237, 3) := jx_dec c_T_plannedTask_ok 14 rfl
theorem d_T_plannedTask_29 : decode prog_1_method_30_code 29 = .ok (.ifCond .eq 24, 3) := jx_dec c_T_plannedTask_ok 15 rfl
theorem d_T_plannedTask_32 : decode prog_1_method_30_code 32 = .ok (.aload_n 0, 1) := jx_dec c_T_plannedTask_ok 16 rfl
theorem d_T_plannedTask_33 : decode prog_1_method_30_code 33 = .ok (.aload_n 0, 1) := jx_dec c_T_plannedTask_ok 17 rfl
theorem d_T_plannedTask_34 : decode prog_1_method_30_code 34 = .ok (.getfield 16, 3) := jx_dec c_T_plannedTask_ok 18 rfl
theorem d_T_plannedTask_37 : decode prog_1_method_30_code 37 = .ok (.iload_n 3, 1) := jx_dec c_T_plannedTask_ok 19 rfl
theorem d_T_plannedTask_38 : decode prog_1_method_30_code 38 = .ok (.invokevirtual 166, 3) := jx_dec c_T_plannedTask_ok 20 rfl
theorem d_T_plannedTask_41 : decode prog_1_method_30_code 41 = .ok (.checkcast 98, 3) := jx_dec c_T_plannedTask_ok 21 rfl
theorem d_T_plannedTask_44 : decode prog_1_method_30_code 44 = .ok (.invokevirtual 244, 3) := jx_dec c_T_plannedTask_ok 22 rfl
theorem d_T_plannedTask_47 : decode prog_1_method_30_code 47 = .ok (.iload_n 2, 1) := jx_dec c_T_plannedTask_ok 23 rfl
theorem d_T_plannedTask_48 : decode prog_1_method_30_code 48 = .ok (.if_icmp .ne 5, 3) := jx_dec c_T_plannedTask_ok 24 rfl
theorem d_T_plannedTask_51 : decode prog_1_method_30_code 51 = .ok (.iload_n 3, 1) := jx_dec c_T_plannedTask_ok 25 rfl
theorem d_T_plannedTask_52 : decode prog_1_method_30_code 52 = .ok (.ireturn, 1) := jx_dec c_T_plannedTask_ok 26 rfl
theorem d_T_plannedTask_53 : decode prog_1_method_30_code 53 = .ok (.iinc 3 1, 3) := jx_dec c_T_plannedTask_ok 27 rfl
theorem d_T_plannedTask_56 : decode prog_1_method_30_code 56 = .ok (.goto (-54), 3) := jx_dec c_T_plannedTask_ok 28 rfl
theorem d_T_plannedTask_59 : decode prog_1_method_30_code 59 = .ok (.iconst (-1), 1) := jx_dec c_T_plannedTask_ok 29 rfl
theorem d_T_plannedTask_60 : decode prog_1_method_30_code 60 = .ok (.ireturn, 1) := jx_dec c_T_plannedTask_ok 30 rfl
def c_T_plannedBefore : List (Nat × Instr × Nat) := [(0, .iconst 0, 1), (1, .istore_n 2, 1), (2, .iconst 0, 1), (3, .istore_n 3, 1), (4, .iload_n 3, 1), (5, .aload_n 0, 1), (6, .getfield 16, 3), (9, .invokevirtual 41, 3), (12, .if_icmp .ge 82, 3), (15, .aload_n 0, 1), (16, .getfield 16, 3), (19, .iload_n 3, 1), (20, .invokevirtual 166, 3), (23, .checkcast 98, 3), (26, .astore 4, 2), (28, .aload 4, 2), (30, .getfield 185, 3), (33, .aload_n 1, 1), (34, .getfield 185, 3), (37, .if_icmp .lt 23, 3), (40, .aload 4, 2), (42, .getfield 185, 3), (45, .aload_n 1, 1), (46, .getfield 185, 3), (49, .if_icmp .ne 15, 3), (52, .iload_n 3, 1), (53, .aload_n 1, 1), (54, .getfield 101, 3), (57, .if_icmp .ge 7, 3), (60, .iconst 1, 1), (61, .goto 4, 3), (64, .iconst 0, 1), (65, .istore 5, 2), (67, .iload 5, 2), (69, .ifCond .eq 19, 3), (72, .aload 4, 2), (74, .aload_n 1, 1), (75, .getfield 127, 3), (78, .iconst 0, 1), (79, .invokevirtual 237, 3), (82, .ifCond .eq 6, 3), (85, .iinc 2 1, 3), (88, .iinc 3 1, 3), (91, .goto (-87), 3), (94, .iload_n 2, 1), (95, .ireturn, 1)]
theorem c_T_plannedBefore_ok : (c_T_plannedBefore).all (fun q => decide (decode prog_1_method_31_code q.1 = .ok q.2)) = true := by decide +kernel
theorem d_T_plannedBefore_0 : decode prog_1_method_31_code 0 = .ok (.iconst 0, 1) := jx_dec c_T_plannedBefore_ok 0 rfl
theorem d_T_plannedBefore_1 : decode prog_1_method_31_code 1 = .ok (.istore_n 2, 1) := jx_dec c_T_plannedBefore_ok 1 rfl
theorem d_T_plannedBefore_2 : decode prog_1_method_31_code 2 = .ok (.iconst 0, 1) := jx_dec c_T_plannedBefore_ok 2 rfl
theorem d_T_plannedBefore_3 : decode prog_1_method_31_code 3 = .ok (.istore_n 3, 1) := jx_dec c_T_plannedBefore_ok 3 rfl
theorem d_T_plannedBefore_4 : decode prog_1_method_31_code 4 = .ok (.iload_n 3, 1) := jx_dec c_T_plannedBefore_ok 4 rfl
theorem d_T_plannedBefore_5 : decode prog_1_method_31_code 5 = .ok (.aload_n 0, 1) := jx_dec c_T_plannedBefore_ok 5 rfl
theorem d_T_plannedBefore_6 : decode prog_1_method_31_code 6 = .ok (.getfield 16, 3) := jx_dec c_T_plannedBefore_ok 6 rfl
theorem d_T_plannedBefore_9 : decode prog_1_method_31_code 9 = .ok (.invokevirtual 41, 3) := jx_dec c_T_plannedBefore_ok 7 rfl
theorem d_T_plannedBefore_12 : decode prog_1_method_31_code 12 = .ok (.if_icmp .ge 82, 3) := jx_dec c_T_plannedBefore_ok 8 rfl
theorem d_T_plannedBefore_15 : decode prog_1_method_31_code 15 = .ok (.aload_n 0, 1) := jx_dec c_T_plannedBefore_ok 9 rfl
theorem d_T_plannedBefore_16 : decode prog_1_method_31_code 16 = .ok (.getfield 16, 3) := jx_dec c_T_plannedBefore_ok 10 rfl
theorem d_T_plannedBefore_19 : decode prog_1_method_31_code 19 = .ok (.iload_n 3, 1) := jx_dec c_T_plannedBefore_ok 11 rfl
theorem d_T_plannedBefore_20 : decode prog_1_method_31_code 20 = .ok (.invokevirtual 166, 3) := jx_dec c_T_plannedBefore_ok 12 rfl
theorem d_T_plannedBefore_23 : decode prog_1_method_31_code 23 = .ok (.checkcast 98, 3) := jx_dec c_T_plannedBefore_ok 13 rfl
theorem d_T_plannedBefore_26 : decode prog_1_method_31_code 26 = .ok (.astore 4, 2) := jx_dec c_T_plannedBefore_ok 14 rfl
theorem d_T_plannedBefore_28 : decode prog_1_method_31_code 28 = .ok (.aload 4, 2) := jx_dec c_T_plannedBefore_ok 15 rfl
theorem d_T_plannedBefore_30 : decode prog_1_method_31_code 30 = .ok (.getfield 185, 3) := jx_dec c_T_plannedBefore_ok 16 rfl
theorem d_T_plannedBefore_33 : decode prog_1_method_31_code 33 = .ok (.aload_n 1, 1) := jx_dec c_T_plannedBefore_ok 17 rfl
theorem d_T_plannedBefore_34 : decode prog_1_method_31_code 34 = .ok (.getfield 185, 3) := jx_dec c_T_plannedBefore_ok 18 rfl
theorem d_T_plannedBefore_37 : decode prog_1_method_31_code 37 = .ok (.if_icmp .lt 23, 3) := jx_dec c_T_plannedBefore_ok 19 rfl
theorem d_T_plannedBefore_40 : decode prog_1_method_31_code 40 = .ok (.aload 4, 2) := jx_dec c_T_plannedBefore_ok 20 rfl
theorem d_T_plannedBefore_42 : decode prog_1_method_31_code 42 = .ok (.getfield 185, 3) := jx_dec c_T_plannedBefore_ok 21 rfl
theorem d_T_plannedBefore_45 : decode prog_1_method_31_code 45 = .ok (.aload_n 1, 1) := jx_dec c_T_plannedBefore_ok 22 rfl
theorem d_T_plannedBefore_46 : decode prog_1_method_31_code 46 = .ok (.getfield 185, 3) := jx_dec c_T_plannedBefore_ok 23 rfl
theorem d_T_plannedBefore_49 : decode prog_1_method_31_code 49 = .ok (.if_icmp .ne 15, 3) := jx_dec c_T_plannedBefore_ok 24 rfl
theorem d_T_plannedBefore_52 : decode prog_1_method_31_code 52 = .ok (.iload_n 3, 1) := jx_dec c_T_plannedBefore_ok 25 rfl
theorem d_T_plannedBefore_53 : decode prog_1_method_31_code 53 = .ok (.aload_n 1, 1) := jx_dec c_T_plannedBefore_ok 26 rfl
theorem d_T_plannedBefore_54 : decode prog_1_method_31_code 54 = .ok (.getfield 101, 3) := jx_dec c_T_plannedBefore_ok 27 rfl
theorem d_T_plannedBefore_57 : decode prog_1_method_31_code 57 = .ok (.if_icmp .ge 7, 3) := jx_dec c_T_plannedBefore_ok 28 rfl
theorem d_T_plannedBefore_60 : decode prog_1_method_31_code 60 = .ok (.iconst 1, 1) := jx_dec c_T_plannedBefore_ok 29 rfl
theorem d_T_plannedBefore_61 : decode prog_1_method_31_code 61 = .ok (.goto 4, 3) := jx_dec c_T_plannedBefore_ok 30 rfl
theorem d_T_plannedBefore_64 : decode prog_1_method_31_code 64 = .ok (.iconst 0, 1) := jx_dec c_T_plannedBefore_ok 31 rfl
theorem d_T_plannedBefore_65 : decode prog_1_method_31_code 65 = .ok (.istore 5, 2) := jx_dec c_T_plannedBefore_ok 32 rfl
theorem d_T_plannedBefore_67 : decode prog_1_method_31_code 67 = .ok (.iload 5, 2) := jx_dec c_T_plannedBefore_ok 33 rfl
theorem d_T_plannedBefore_69 : decode prog_1_method_31_code 69 = .ok (.ifCond .eq 19, 3) := jx_dec c_T_plannedBefore_ok 34 rfl
theorem d_T_plannedBefore_72 : decode prog_1_method_31_code 72 = .ok (.aload 4, 2) := jx_dec c_T_plannedBefore_ok 35 rfl
theorem d_T_plannedBefore_74 : decode prog_1_method_31_code 74 = .ok (.aload_n 1, 1) := jx_dec c_T_plannedBefore_ok 36 rfl
theorem d_T_plannedBefore_75 : decode prog_1_method_31_code 75 = .ok (.getfield 127, 3) := jx_dec c_T_plannedBefore_ok 37 rfl
theorem d_T_plannedBefore_78 : decode prog_1_method_31_code 78 = .ok (.iconst 0, 1) := jx_dec c_T_plannedBefore_ok 38 rfl
theorem d_T_plannedBefore_79 : decode prog_1_method_31_code 79 = .ok (.invokevirtual 237, 3) := jx_dec c_T_plannedBefore_ok 39 rfl
theorem d_T_plannedBefore_82 : decode prog_1_method_31_code 82 = .ok (.ifCond .eq 6, 3) := jx_dec c_T_plannedBefore_ok 40 rfl
theorem d_T_plannedBefore_85 : decode prog_1_method_31_code 85 = .ok (.iinc 2 1, 3) := jx_dec c_T_plannedBefore_ok 41 rfl
theorem d_T_plannedBefore_88 : decode prog_1_method_31_code 88 = .ok (.iinc 3 1, 3) := jx_dec c_T_plannedBefore_ok 42 rfl
theorem d_T_plannedBefore_91 : decode prog_1_method_31_code 91 = .ok (.goto (-87), 3) := jx_dec c_T_plannedBefore_ok 43 rfl
theorem d_T_plannedBefore_94 : decode prog_1_method_31_code 94 = .ok (.iload_n 2, 1) := jx_dec c_T_plannedBefore_ok 44 rfl
theorem d_T_plannedBefore_95 : decode prog_1_method_31_code 95 = .ok (.ireturn, 1) := jx_dec c_T_plannedBefore_ok 45 rfl
def c_T_done : List (Nat × Instr × Nat) := [(0, .aload_n 0, 1), (1, .iload_n 1, 1), (2, .invokevirtual 62, 3), (5, .astore_n 2, 1), (6, .aload_n 2, 1), (7, .getfield 188, 3), (10, .iconst (-1), 1), (11, .if_icmp .eq 14, 3), (14, .aload_n 0, 1), (15, .getfield 153, 3), (18, .aload_n 2, 1), (19, .getfield 194, 3), (22, .if_icmp .ge 13, 3), (25, .new 82, 3), (28, .dup, 1), (29, .ldc 201, 2), (31, .invokespecial 86, 3), (34, .athrow, 1), (35, .aload_n 0, 1), (36, .getfield 16, 3), (39, .aload_n 2, 1), (40, .getfield 188, 3), (43, .invokevirtual 166, 3), (46, .checkcast 98, 3), (49, .iconst 2, 1), (50, .putfield 170, 3), (53, .aload_n 2, 1), (54, .iconst (-1), 1), (55, .putfield 188, 3), (58, .aload_n 0, 1), (59, .aload_n 2, 1), (60, .getfield 58, 3), (63, .iconst 2, 1), (64, .invokevirtual 203, 3), (67, .ireturn, 1)]
theorem c_T_done_ok : (c_T_done).all (fun q => decide (decode prog_1_method_13_code q.1 = .ok q.2)) = true := by decide +kernel
theorem d_T_done_0 : decode prog_1_method_13_code 0 = .ok (.aload_n 0, 1) := jx_dec c_T_done_ok 0 rfl
theorem d_T_done_1 : decode prog_1_method_13_code 1 = .ok (.iload_n 1, 1) := jx_dec c_T_done_ok 1 rfl
theorem d_T_done_2 : decode prog_1_method_13_code 2 = .ok (.invokevirtual 62, 3) := jx_dec c_T_done_ok 2 rfl
theorem d_T_done_5 : decode prog_1_method_13_code 5 = .ok (.astore_n 2, 1) := jx_dec c_T_done_ok 3 rfl
theorem d_T_done_6 : decode prog_1_method_13_code 6 = .ok (.aload_n 2, 1) := jx_dec c_T_done_ok 4 rfl
theorem d_T_done_7 : decode prog_1_method_13_code 7 = .ok (.getfield 188, 3) := jx_dec c_T_done_ok 5 rfl
theorem d_T_done_10 : decode prog_1_method_13_code 10 = .ok (.iconst (-1), 1) := jx_dec c_T_done_ok 6 rfl
theorem d_T_done_11 : decode prog_1_method_13_code 11 = .ok (.if_icmp .eq 14, 3) := jx_dec c_T_done_ok 7 rfl
theorem d_T_done_14 : decode prog_1_method_13_code 14 = .ok (.aload_n 0, 1) := jx_dec c_T_done_ok 8 rfl
theorem d_T_done_15 : decode prog_1_method_13_code 15 = .ok (.getfield 153, 3) := jx_dec c_T_done_ok 9 rfl
theorem d_T_done_18 : decode prog_1_method_13_code 18 = .ok (.aload_n 2, 1) := jx_dec c_T_done_ok 10 rfl
theorem d_T_done_19 : decode prog_1_method_13_code 19 = .ok (.getfield 194, 3) := jx_dec c_T_done_ok 11 rfl
theorem d_T_done_22 : decode prog_1_method_13_code 22 = .ok (.if_icmp .ge 13, 3) := jx_dec c_T_done_ok 12 rfl
theorem d_T_done_25 : decode prog_1_method_13_code 25 = .ok (.new 82, 3) := jx_dec c_T_done_ok 13 rfl
theorem d_T_done_28 : decode prog_1_method_13_code 28 = .ok (.dup, 1) := jx_dec c_T_done_ok 14 rfl
theorem d_T_done_29 : decode prog_1_method_13_code 29 = .ok (.ldc 201, 2) := jx_dec c_T_done_ok 15 rfl
theorem d_T_done_31 : decode prog_1_method_13_code 31 = .ok (.invokespecial 86, 3) := jx_dec c_T_done_ok 16 rfl
theorem d_T_done_34 : decode prog_1_method_13_code 34 = .ok (.athrow, 1) := jx_dec c_T_done_ok 17 rfl
theorem d_T_done_35 : decode prog_1_method_13_code 35 = .ok (.aload_n 0, 1) := jx_dec c_T_done_ok 18 rfl
theorem d_T_done_36 : decode prog_1_method_13_code 36 = .ok (.getfield 16, 3) := jx_dec c_T_done_ok 19 rfl
theorem d_T_done_39 : decode prog_1_method_13_code 39 = .ok (.aload_n 2, 1) := jx_dec c_T_done_ok 20 rfl
theorem d_T_done_40 : decode prog_1_method_13_code 40 = .ok (.getfield 188, 3) := jx_dec c_T_done_ok 21 rfl
theorem d_T_done_43 : decode prog_1_method_13_code 43 = .ok (.invokevirtual 166, 3) := jx_dec c_T_done_ok 22 rfl
theorem d_T_done_46 : decode prog_1_method_13_code 46 = .ok (.checkcast 98, 3) := jx_dec c_T_done_ok 23 rfl
theorem d_T_done_49 : decode prog_1_method_13_code 49 = .ok (.iconst 2, 1) := jx_dec c_T_done_ok 24 rfl
theorem d_T_done_50 : decode prog_1_method_13_code 50 = .ok (.putfield 170, 3) := jx_dec c_T_done_ok 25 rfl
theorem d_T_done_53 : decode prog_1_method_13_code 53 = .ok (.aload_n 2, 1) := jx_dec c_T_done_ok 26 rfl
theorem d_T_done_54 : decode prog_1_method_13_code 54 = .ok (.iconst (-1), 1) := jx_dec c_T_done_ok 27 rfl
theorem d_T_done_55 : decode prog_1_method_13_code 55 = .ok (.putfield 188, 3) := jx_dec c_T_done_ok 28 rfl
theorem d_T_done_58 : decode prog_1_method_13_code 58 = .ok (.aload_n 0, 1) := jx_dec c_T_done_ok 29 rfl
theorem d_T_done_59 : decode prog_1_method_13_code 59 = .ok (.aload_n 2, 1) := jx_dec c_T_done_ok 30 rfl
theorem d_T_done_60 : decode prog_1_method_13_code 60 = .ok (.getfield 58, 3) := jx_dec c_T_done_ok 31 rfl
theorem d_T_done_63 : decode prog_1_method_13_code 63 = .ok (.iconst 2, 1) := jx_dec c_T_done_ok 32 rfl
theorem d_T_done_64 : decode prog_1_method_13_code 64 = .ok (.invokevirtual 203, 3) := jx_dec c_T_done_ok 33 rfl
theorem d_T_done_67 : decode prog_1_method_13_code 67 = .ok (.ireturn, 1) := jx_dec c_T_done_ok 34 rfl
def c_T_leaves : List (Nat × Instr × Nat) := [(0, .aload_n 0, 1), (1, .iload_n 1, 1), (2, .invokevirtual 62, 3), (5, .astore_n 2, 1), (6, .aload_n 2, 1), (7, .getfield 133, 3), (10, .ifCond .ne 13, 3), (13, .new 82, 3), (16, .dup, 1), (17, .ldc 206, 2), (19, .invokespecial 86, 3), (22, .athrow, 1), (23, .aload_n 2, 1), (24, .iconst 0, 1), (25, .putfield 133, 3), (28, .aload_n 2, 1), (29, .iconst (-1), 1), (30, .putfield 188, 3), (33, .iconst 0, 1), (34, .istore_n 3, 1), (35, .iconst 0, 1), (36, .istore 4, 2), (38, .iload 4, 2), (40, .aload_n 0, 1), (41, .getfield 16, 3), (44, .invokevirtual 41, 3), (47, .if_icmp .ge 52, 3), (50, .aload_n 0, 1), (51, .getfield 16, 3), (54, .iload 4, 2), (56, .invokevirtual 166, 3), (59, .checkcast 98, 3), (62, .astore 5, 2), (64, .aload 5, 2), (66, .getfield 127, 3), (69, .aload_n 2, 1), (70, .getfield 58, 3), (73, .if_icmp .ne 20, 3), (76, .aload 5, 2), (78, .getfield 170, 3), (81, .iconst 2, 1), (82, .if_icmp .eq 11, 3), (85, .aload 5, 2), (87, .invokevirtual 130, 3), (90, .iinc 3 1, 3), (93, .iinc 4 1, 3), (96, .goto (-58), 3), (99, .iload_n 3, 1), (100, .ireturn, 1)]
theorem c_T_leaves_ok : (c_T_leaves).all (fun q => decide (decode prog_1_method_14_code q.1 = .ok q.2)) = true := by decide +kernel
theorem d_T_leaves_0 : decode prog_1_method_14_code 0 = .ok (.aload_n 0, 1) := jx_dec c_T_leaves_ok 0 rfl
theorem d_T_leaves_1 : decode prog_1_method_14_code 1 = .ok (.iload_n 1, 1) := jx_dec c_T_leaves_ok 1 rfl
theorem d_T_leaves_2 : decode prog_1_method_14_code 2 = .ok (.invokevirtual 62, 3) := jx_dec c_T_leaves_ok 2 rfl
theorem d_T_leaves_5 : decode prog_1_method_14_code 5 = .ok (.astore_n 2, 1) := jx_dec c_T_leaves_ok 3 rfl
theorem d_T_leaves_6 : decode prog_1_method_14_code 6 = .ok (.aload_n 2, 1) := jx_dec c_T_leaves_ok 4 rfl
theorem d_T_leaves_7 : decode prog_1_method_14_code 7 = .ok (.getfield 133, 3) := jx_dec c_T_leaves_ok 5 rfl
theorem d_T_leaves_10 : decode prog_1_method_14_code 10 = .ok (.ifCond .ne 13, 3) := jx_dec c_T_leaves_ok 6 rfl
theorem d_T_leaves_13 : decode prog_1_method_14_code 13 = .ok (.new 82, 3) := jx_dec c_T_leaves_ok 7 rfl
theorem d_T_leaves_16 : decode prog_1_method_14_code 16 = .ok (.dup, 1) := jx_dec c_T_leaves_ok 8 rfl
theorem d_T_leaves_17 : decode prog_1_method_14_code 17 = .ok (.ldc 206, 2) := jx_dec c_T_leaves_ok 9 rfl
theorem d_T_leaves_19 : decode prog_1_method_14_code 19 = .ok (.invokespecial 86, 3) := jx_dec c_T_leaves_ok 10 rfl
theorem d_T_leaves_22 : decode prog_1_method_14_code 22 = .ok (.athrow, 1) := jx_dec c_T_leaves_ok 11 rfl
theorem d_T_leaves_23 : decode prog_1_method_14_code 23 = .ok (.aload_n 2, 1) := jx_dec c_T_leaves_ok 12 rfl
theorem d_T_leaves_24 : decode prog_1_method_14_code 24 = .ok (.iconst 0, 1) := jx_dec c_T_leaves_ok 13 rfl
theorem d_T_leaves_25 : decode prog_1_method_14_code 25 = .ok (.putfield 133, 3) := jx_dec c_T_leaves_ok 14 rfl
theorem d_T_leaves_28 : decode prog_1_method_14_code 28 = .ok (.aload_n 2, 1) := jx_dec c_T_leaves_ok 15 rfl
theorem d_T_leaves_29 : decode prog_1_method_14_code 29 = .ok (.iconst (-1), 1) := jx_dec c_T_leaves_ok 16 rfl
theorem d_T_leaves_30 : decode prog_1_method_14_code 30 = .ok (.putfield 188, 3) := jx_dec c_T_leaves_ok 17 rfl
theorem d_T_leaves_33 : decode prog_1_method_14_code 33 = .ok (.iconst 0, 1) := jx_dec c_T_leaves_ok 18 rfl
theorem d_T_leaves_34 : decode prog_1_method_14_code 34 = .ok (.istore_n 3, 1) := jx_dec c_T_leaves_ok 19 rfl
theorem d_T_leaves_35 : decode prog_1_method_14_code 35 = .ok (.iconst 0, 1) := jx_dec c_T_leaves_ok 20 rfl
theorem d_T_leaves_36 : decode prog_1_method_14_code 36 = .ok (.istore 4, 2) := jx_dec c_T_leaves_ok 21 rfl
theorem d_T_leaves_38 : decode prog_1_method_14_code 38 = .ok (.iload 4, 2) := jx_dec c_T_leaves_ok 22 rfl
theorem d_T_leaves_40 : decode prog_1_method_14_code 40 = .ok (.aload_n 0, 1) := jx_dec c_T_leaves_ok 23 rfl
theorem d_T_leaves_41 : decode prog_1_method_14_code 41 = .ok (.getfield 16, 3) := jx_dec c_T_leaves_ok 24 rfl
theorem d_T_leaves_44 : decode prog_1_method_14_code 44 = .ok (.invokevirtual 41, 3) := jx_dec c_T_leaves_ok 25 rfl
theorem d_T_leaves_47 : decode prog_1_method_14_code 47 = .ok (.if_icmp .ge 52, 3) := jx_dec c_T_leaves_ok 26 rfl
theorem d_T_leaves_50 : decode prog_1_method_14_code 50 = .ok (.aload_n 0, 1) := jx_dec c_T_leaves_ok 27 rfl
theorem d_T_leaves_51 : decode prog_1_method_14_code 51 = .ok (.getfield 16, 3) := jx_dec c_T_leaves_ok 28 rfl
theorem d_T_leaves_54 : decode prog_1_method_14_code 54 = .ok (.iload 4, 2) := jx_dec c_T_leaves_ok 29 rfl
theorem d_T_leaves_56 : decode prog_1_method_14_code 56 = .ok (.invokevirtual 166, 3) := jx_dec c_T_leaves_ok 30 rfl
theorem d_T_leaves_59 : decode prog_1_method_14_code 59 = .ok (.checkcast 98, 3) := jx_dec c_T_leaves_ok 31 rfl
theorem d_T_leaves_62 : decode prog_1_method_14_code 62 = .ok (.astore 5, 2) := jx_dec c_T_leaves_ok 32 rfl
theorem d_T_leaves_64 : decode prog_1_method_14_code 64 = .ok (.aload 5, 2) := jx_dec c_T_leaves_ok 33 rfl
theorem d_T_leaves_66 : decode prog_1_method_14_code 66 = .ok (.getfield 127, 3) := jx_dec c_T_leaves_ok 34 rfl
theorem d_T_leaves_69 : decode prog_1_method_14_code 69 = .ok (.aload_n 2, 1) := jx_dec c_T_leaves_ok 35 rfl
theorem d_T_leaves_70 : decode prog_1_method_14_code 70 = .ok (.getfield 58, 3) := jx_dec c_T_leaves_ok 36 rfl
theorem d_T_leaves_73 : decode prog_1_method_14_code 73 = .ok (.if_icmp .ne 20, 3) := jx_dec c_T_leaves_ok 37 rfl
theorem d_T_leaves_76 : decode prog_1_method_14_code 76 = .ok (.aload 5, 2) := jx_dec c_T_leaves_ok 38 rfl
theorem d_T_leaves_78 : decode prog_1_method_14_code 78 = .ok (.getfield 170, 3) := jx_dec c_T_leaves_ok 39 rfl
theorem d_T_leaves_81 : decode prog_1_method_14_code 81 = .ok (.iconst 2, 1) := jx_dec c_T_leaves_ok 40 rfl
theorem d_T_leaves_82 : decode prog_1_method_14_code 82 = .ok (.if_icmp .eq 11, 3) := jx_dec c_T_leaves_ok 41 rfl
theorem d_T_leaves_85 : decode prog_1_method_14_code 85 = .ok (.aload 5, 2) := jx_dec c_T_leaves_ok 42 rfl
theorem d_T_leaves_87 : decode prog_1_method_14_code 87 = .ok (.invokevirtual 130, 3) := jx_dec c_T_leaves_ok 43 rfl
theorem d_T_leaves_90 : decode prog_1_method_14_code 90 = .ok (.iinc 3 1, 3) := jx_dec c_T_leaves_ok 44 rfl
theorem d_T_leaves_93 : decode prog_1_method_14_code 93 = .ok (.iinc 4 1, 3) := jx_dec c_T_leaves_ok 45 rfl
theorem d_T_leaves_96 : decode prog_1_method_14_code 96 = .ok (.goto (-58), 3) := jx_dec c_T_leaves_ok 46 rfl
theorem d_T_leaves_99 : decode prog_1_method_14_code 99 = .ok (.iload_n 3, 1) := jx_dec c_T_leaves_ok 47 rfl
theorem d_T_leaves_100 : decode prog_1_method_14_code 100 = .ok (.ireturn, 1) := jx_dec c_T_leaves_ok 48 rfl
def c_T_fair : List (Nat × Instr × Nat) := [(0, .aload_n 0, 1), (1, .iload_n 1, 1), (2, .invokevirtual 62, 3), (5, .astore_n 2, 1), (6, .aload_n 0, 1), (7, .iconst 2, 1), (8, .invokevirtual 147, 3), (11, .istore_n 3, 1), (12, .iload_n 3, 1), (13, .ifCond .ne 7, 3), (16, .iconst 0, 1), (17, .goto 17, 3), (20, .bipush 100, 2), (22, .aload_n 0, 1), (23, .aload_n 2, 1), (24, .getfield 58, 3), (27, .iconst 2, 1), (28, .invokevirtual 203, 3), (31, .imul, 1), (32, .iload_n 3, 1), (33, .idiv, 1), (34, .ireturn, 1)]
theorem c_T_fair_ok : (c_T_fair).all (fun q => decide (decode prog_1_method_15_code q.1 = .ok q.2)) = true := by decide +kernel
theorem d_T_fair_0 : decode prog_1_method_15_code 0 = .ok (.aload_n 0, 1) := jx_dec c_T_fair_ok 0 rfl
theorem d_T_fair_1 : decode prog_1_method_15_code 1 = .ok (.iload_n 1, 1) := jx_dec c_T_fair_ok 1 rfl
theorem d_T_fair_2 : decode prog_1_method_15_code 2 = .ok (.invokevirtual 62, 3) := jx_dec c_T_fair_ok 2 rfl
theorem d_T_fair_5 : decode prog_1_method_15_code 5 = .ok (.astore_n 2, 1) := jx_dec c_T_fair_ok 3 rfl
theorem d_T_fair_6 : decode prog_1_method_15_code 6 = .ok (.aload_n 0, 1) := jx_dec c_T_fair_ok 4 rfl
theorem d_T_fair_7 : decode prog_1_method_15_code 7 = .ok (.iconst 2, 1) := jx_dec c_T_fair_ok 5 rfl
theorem d_T_fair_8 : decode prog_1_method_15_code 8 = .ok (.invokevirtual 147, 3) := jx_dec c_T_fair_ok 6 rfl
theorem d_T_fair_11 : decode prog_1_method_15_code 11 = .ok (.istore_n 3, 1) := jx_dec c_T_fair_ok 7 rfl
theorem d_T_fair_12 : decode prog_1_method_15_code 12 = .ok (.iload_n 3, 1) := jx_dec c_T_fair_ok 8 rfl
theorem d_T_fair_13 : decode prog_1_method_15_code 13 = .ok (.ifCond .ne 7, 3) := jx_dec c_T_fair_ok 9 rfl
theorem d_T_fair_16 : decode prog_1_method_15_code 16 = .ok (.iconst 0, 1) := jx_dec c_T_fair_ok 10 rfl
theorem d_T_fair_17 : decode prog_1_method_15_code 17 = .ok (.goto 17, 3) := jx_dec c_T_fair_ok 11 rfl
theorem d_T_fair_20 : decode prog_1_method_15_code 20 = .ok (.bipush 100, 2) := jx_dec c_T_fair_ok 12 rfl
theorem d_T_fair_22 : decode prog_1_method_15_code 22 = .ok (.aload_n 0, 1) := jx_dec c_T_fair_ok 13 rfl
theorem d_T_fair_23 : decode prog_1_method_15_code 23 = .ok (.aload_n 2, 1) := jx_dec c_T_fair_ok 14 rfl
theorem d_T_fair_24 : decode prog_1_method_15_code 24 = .ok (.getfield 58, 3) := jx_dec c_T_fair_ok 15 rfl
theorem d_T_fair_27 : decode prog_1_method_15_code 27 = .ok (.iconst 2, 1) := jx_dec c_T_fair_ok 16 rfl
theorem d_T_fair_28 : decode prog_1_method_15_code 28 = .ok (.invokevirtual 203, 3) := jx_dec c_T_fair_ok 17 rfl
theorem d_T_fair_31 : decode prog_1_method_15_code 31 = .ok (.imul, 1) := jx_dec c_T_fair_ok 18 rfl
theorem d_T_fair_32 : decode prog_1_method_15_code 32 = .ok (.iload_n 3, 1) := jx_dec c_T_fair_ok 19 rfl
theorem d_T_fair_33 : decode prog_1_method_15_code 33 = .ok (.idiv, 1) := jx_dec c_T_fair_ok 20 rfl
theorem d_T_fair_34 : decode prog_1_method_15_code 34 = .ok (.ireturn, 1) := jx_dec c_T_fair_ok 21 rfl
def c_T_pass : List (Nat × Instr × Nat) := [(0, .iload_n 1, 1), (1, .aload_n 0, 1), (2, .getfield 153, 3), (5, .ldc 40, 2), (7, .invokestatic 36, 3), (10, .aload_n 0, 1), (11, .iload_n 1, 1), (12, .putfield 153, 3), (15, .return_, 1)]
theorem c_T_pass_ok : (c_T_pass).all (fun q => decide (decode prog_1_method_16_code q.1 = .ok q.2)) = true := by decide +kernel
theorem d_T_pass_0 : decode prog_1_method_16_code 0 = .ok (.iload_n 1, 1) := jx_dec c_T_pass_ok 0 rfl
theorem d_T_pass_1 : decode prog_1_method_16_code 1 = .ok (.aload_n 0, 1) := jx_dec c_T_pass_ok 1 rfl
theorem d_T_pass_2 : decode prog_1_method_16_code 2 = .ok (.getfield 153, 3) := jx_dec c_T_pass_ok 2 rfl
theorem d_T_pass_5 : decode prog_1_method_16_code 5 = .ok (.ldc 40, 2) := jx_dec c_T_pass_ok 3 rfl
theorem d_T_pass_7 : decode prog_1_method_16_code 7 = .ok (.invokestatic 36, 3) := jx_dec c_T_pass_ok 4 rfl
theorem d_T_pass_10 : decode prog_1_method_16_code 10 = .ok (.aload_n 0, 1) := jx_dec c_T_pass_ok 5 rfl
theorem d_T_pass_11 : decode prog_1_method_16_code 11 = .ok (.iload_n 1, 1) := jx_dec c_T_pass_ok 6 rfl
theorem d_T_pass_12 : decode prog_1_method_16_code 12 = .ok (.putfield 153, 3) := jx_dec c_T_pass_ok 7 rfl
theorem d_T_pass_15 : decode prog_1_method_16_code 15 = .ok (.return_, 1) := jx_dec c_T_pass_ok 8 rfl
def c_T_order : List (Nat × Instr × Nat) := [(0, .aload_n 0, 1), (1, .iload_n 1, 1), (2, .invokevirtual 62, 3), (5, .astore_n 3, 1), (6, .iload_n 2, 1), (7, .ifCond .ge 13, 3), (10, .new 102, 3), (13, .dup, 1), (14, .ldc 208, 2), (16, .invokespecial 106, 3), (19, .athrow, 1), (20, .aload_n 0, 1), (21, .aload_n 3, 1), (22, .getfield 58, 3), (25, .iload_n 2, 1), (26, .invokevirtual 181, 3), (29, .ireturn, 1)]
theorem c_T_order_ok : (c_T_order).all (fun q => decide (decode prog_1_method_17_code q.1 = .ok q.2)) = true := by decide +kernel
theorem d_T_order_0 : decode prog_1_method_17_code 0 = .ok (.aload_n 0, 1) := jx_dec c_T_order_ok 0 rfl
theorem d_T_order_1 : decode prog_1_method_17_code 1 = .ok (.iload_n 1, 1) := jx_dec c_T_order_ok 1 rfl
theorem d_T_order_2 : decode prog_1_method_17_code 2 = .ok (.invokevirtual 62, 3) := jx_dec c_T_order_ok 2 rfl
theorem d_T_order_5 : decode prog_1_method_17_code 5 = .ok (.astore_n 3, 1) := jx_dec c_T_order_ok 3 rfl
theorem d_T_order_6 : decode prog_1_method_17_code 6 = .ok (.iload_n 2, 1) := jx_dec c_T_order_ok 4 rfl
theorem d_T_order_7 : decode prog_1_method_17_code 7 = .ok (.ifCond .ge 13, 3) := jx_dec c_T_order_ok 5 rfl
theorem d_T_order_10 : decode prog_1_method_17_code 10 = .ok (.new 102, 3) := jx_dec c_T_order_ok 6 rfl
theorem d_T_order_13 : decode prog_1_method_17_code 13 = .ok (.dup, 1) := jx_dec c_T_order_ok 7 rfl
theorem d_T_order_14 : decode prog_1_method_17_code 14 = .ok (.ldc 208, 2) := jx_dec c_T_order_ok 8 rfl
theorem d_T_order_16 : decode prog_1_method_17_code 16 = .ok (.invokespecial 106, 3) := jx_dec c_T_order_ok 9 rfl
theorem d_T_order_19 : decode prog_1_method_17_code 19 = .ok (.athrow, 1) := jx_dec c_T_order_ok 10 rfl
theorem d_T_order_20 : decode prog_1_method_17_code 20 = .ok (.aload_n 0, 1) := jx_dec c_T_order_ok 11 rfl
theorem d_T_order_21 : decode prog_1_method_17_code 21 = .ok (.aload_n 3, 1) := jx_dec c_T_order_ok 12 rfl
theorem d_T_order_22 : decode prog_1_method_17_code 22 = .ok (.getfield 58, 3) := jx_dec c_T_order_ok 13 rfl
theorem d_T_order_25 : decode prog_1_method_17_code 25 = .ok (.iload_n 2, 1) := jx_dec c_T_order_ok 14 rfl
theorem d_T_order_26 : decode prog_1_method_17_code 26 = .ok (.invokevirtual 181, 3) := jx_dec c_T_order_ok 15 rfl
theorem d_T_order_29 : decode prog_1_method_17_code 29 = .ok (.ireturn, 1) := jx_dec c_T_order_ok 16 rfl
def c_T_told : List (Nat × Instr × Nat) := [(0, .aload_n 0, 1), (1, .iload_n 1, 1), (2, .invokevirtual 110, 3), (5, .astore_n 3, 1), (6, .iload_n 2, 1), (7, .tableswitch 76 0 6 #[41, 46, 51, 56, 61, 66, 71], 41), (48, .aload_n 3, 1), (49, .getfield 170, 3), (52, .ireturn, 1), (53, .aload_n 3, 1), (54, .getfield 127, 3), (57, .ireturn, 1), (58, .aload_n 3, 1), (59, .getfield 185, 3), (62, .ireturn, 1), (63, .aload_n 3, 1), (64, .getfield 137, 3), (67, .ireturn, 1), (68, .aload_n 3, 1), (69, .getfield 191, 3), (72, .ireturn, 1), (73, .aload_n 3, 1), (74, .getfield 210, 3), (77, .ireturn, 1), (78, .aload_n 3, 1), (79, .getfield 197, 3), (82, .ireturn, 1), (83, .new 102, 3), (86, .dup, 1), (87, .ldc 213, 2), (89, .invokespecial 106, 3), (92, .athrow, 1)]
theorem c_T_told_ok : (c_T_told).all (fun q => decide (decode prog_1_method_18_code q.1 = .ok q.2)) = true := by decide +kernel
theorem d_T_told_0 : decode prog_1_method_18_code 0 = .ok (.aload_n 0, 1) := jx_dec c_T_told_ok 0 rfl
theorem d_T_told_1 : decode prog_1_method_18_code 1 = .ok (.iload_n 1, 1) := jx_dec c_T_told_ok 1 rfl
theorem d_T_told_2 : decode prog_1_method_18_code 2 = .ok (.invokevirtual 110, 3) := jx_dec c_T_told_ok 2 rfl
theorem d_T_told_5 : decode prog_1_method_18_code 5 = .ok (.astore_n 3, 1) := jx_dec c_T_told_ok 3 rfl
theorem d_T_told_6 : decode prog_1_method_18_code 6 = .ok (.iload_n 2, 1) := jx_dec c_T_told_ok 4 rfl
theorem d_T_told_7 : decode prog_1_method_18_code 7 = .ok (.tableswitch 76 0 6 #[41, 46, 51, 56, 61, 66, 71], 41) := jx_dec c_T_told_ok 5 rfl
theorem d_T_told_48 : decode prog_1_method_18_code 48 = .ok (.aload_n 3, 1) := jx_dec c_T_told_ok 6 rfl
theorem d_T_told_49 : decode prog_1_method_18_code 49 = .ok (.getfield 170, 3) := jx_dec c_T_told_ok 7 rfl
theorem d_T_told_52 : decode prog_1_method_18_code 52 = .ok (.ireturn, 1) := jx_dec c_T_told_ok 8 rfl
theorem d_T_told_53 : decode prog_1_method_18_code 53 = .ok (.aload_n 3, 1) := jx_dec c_T_told_ok 9 rfl
theorem d_T_told_54 : decode prog_1_method_18_code 54 = .ok (.getfield 127, 3) := jx_dec c_T_told_ok 10 rfl
theorem d_T_told_57 : decode prog_1_method_18_code 57 = .ok (.ireturn, 1) := jx_dec c_T_told_ok 11 rfl
theorem d_T_told_58 : decode prog_1_method_18_code 58 = .ok (.aload_n 3, 1) := jx_dec c_T_told_ok 12 rfl
theorem d_T_told_59 : decode prog_1_method_18_code 59 = .ok (.getfield 185, 3) := jx_dec c_T_told_ok 13 rfl
theorem d_T_told_62 : decode prog_1_method_18_code 62 = .ok (.ireturn, 1) := jx_dec c_T_told_ok 14 rfl
theorem d_T_told_63 : decode prog_1_method_18_code 63 = .ok (.aload_n 3, 1) := jx_dec c_T_told_ok 15 rfl
theorem d_T_told_64 : decode prog_1_method_18_code 64 = .ok (.getfield 137, 3) := jx_dec c_T_told_ok 16 rfl
theorem d_T_told_67 : decode prog_1_method_18_code 67 = .ok (.ireturn, 1) := jx_dec c_T_told_ok 17 rfl
theorem d_T_told_68 : decode prog_1_method_18_code 68 = .ok (.aload_n 3, 1) := jx_dec c_T_told_ok 18 rfl
theorem d_T_told_69 : decode prog_1_method_18_code 69 = .ok (.getfield 191, 3) := jx_dec c_T_told_ok 19 rfl
theorem d_T_told_72 : decode prog_1_method_18_code 72 = .ok (.ireturn, 1) := jx_dec c_T_told_ok 20 rfl
theorem d_T_told_73 : decode prog_1_method_18_code 73 = .ok (.aload_n 3, 1) := jx_dec c_T_told_ok 21 rfl
theorem d_T_told_74 : decode prog_1_method_18_code 74 = .ok (.getfield 210, 3) := jx_dec c_T_told_ok 22 rfl
theorem d_T_told_77 : decode prog_1_method_18_code 77 = .ok (.ireturn, 1) := jx_dec c_T_told_ok 23 rfl
theorem d_T_told_78 : decode prog_1_method_18_code 78 = .ok (.aload_n 3, 1) := jx_dec c_T_told_ok 24 rfl
theorem d_T_told_79 : decode prog_1_method_18_code 79 = .ok (.getfield 197, 3) := jx_dec c_T_told_ok 25 rfl
theorem d_T_told_82 : decode prog_1_method_18_code 82 = .ok (.ireturn, 1) := jx_dec c_T_told_ok 26 rfl
theorem d_T_told_83 : decode prog_1_method_18_code 83 = .ok (.new 102, 3) := jx_dec c_T_told_ok 27 rfl
theorem d_T_told_86 : decode prog_1_method_18_code 86 = .ok (.dup, 1) := jx_dec c_T_told_ok 28 rfl
theorem d_T_told_87 : decode prog_1_method_18_code 87 = .ok (.ldc 213, 2) := jx_dec c_T_told_ok 29 rfl
theorem d_T_told_89 : decode prog_1_method_18_code 89 = .ok (.invokespecial 106, 3) := jx_dec c_T_told_ok 30 rfl
theorem d_T_told_92 : decode prog_1_method_18_code 92 = .ok (.athrow, 1) := jx_dec c_T_told_ok 31 rfl
def c_T_known : List (Nat × Instr × Nat) := [(0, .aload_n 0, 1), (1, .iload_n 1, 1), (2, .invokevirtual 62, 3), (5, .astore_n 3, 1), (6, .iload_n 2, 1), (7, .tableswitch 85 0 5 #[37, 50, 55, 60, 65, 75], 37), (44, .aload_n 3, 1), (45, .getfield 133, 3), (48, .ifCond .eq 7, 3), (51, .iconst 1, 1), (52, .goto 4, 3), (55, .iconst 0, 1), (56, .ireturn, 1), (57, .aload_n 3, 1), (58, .getfield 89, 3), (61, .ireturn, 1), (62, .aload_n 3, 1), (63, .getfield 200, 3), (66, .ireturn, 1), (67, .aload_n 3, 1), (68, .getfield 188, 3), (71, .ireturn, 1), (72, .aload_n 0, 1), (73, .aload_n 3, 1), (74, .getfield 58, 3), (77, .iconst 2, 1), (78, .invokevirtual 203, 3), (81, .ireturn, 1), (82, .aload_n 0, 1), (83, .aload_n 3, 1), (84, .getfield 58, 3), (87, .iconst 0, 1), (88, .invokevirtual 203, 3), (91, .ireturn, 1), (92, .new 102, 3), (95, .dup, 1), (96, .ldc 215, 2), (98, .invokespecial 106, 3), (101, .athrow, 1)]
theorem c_T_known_ok : (c_T_known).all (fun q => decide (decode prog_1_method_19_code q.1 = .ok q.2)) = true := by decide +kernel
theorem d_T_known_0 : decode prog_1_method_19_code 0 = .ok (.aload_n 0, 1) := jx_dec c_T_known_ok 0 rfl
theorem d_T_known_1 : decode prog_1_method_19_code 1 = .ok (.iload_n 1, 1) := jx_dec c_T_known_ok 1 rfl
theorem d_T_known_2 : decode prog_1_method_19_code 2 = .ok (.invokevirtual 62, 3) := jx_dec c_T_known_ok 2 rfl
theorem d_T_known_5 : decode prog_1_method_19_code 5 = .ok (.astore_n 3, 1) := jx_dec c_T_known_ok 3 rfl
theorem d_T_known_6 : decode prog_1_method_19_code 6 = .ok (.iload_n 2, 1) := jx_dec c_T_known_ok 4 rfl
theorem d_T_known_7 : decode prog_1_method_19_code 7 = .ok (.tableswitch 85 0 5 #[37, 50, 55, 60, 65, 75], 37) := jx_dec c_T_known_ok 5 rfl
theorem d_T_known_44 : decode prog_1_method_19_code 44 = .ok (.aload_n 3, 1) := jx_dec c_T_known_ok 6 rfl
theorem d_T_known_45 : decode prog_1_method_19_code 45 = .ok (.getfield 133, 3) := jx_dec c_T_known_ok 7 rfl
theorem d_T_known_48 : decode prog_1_method_19_code 48 = .ok (.ifCond .eq 7, 3) := jx_dec c_T_known_ok 8 rfl
theorem d_T_known_51 : decode prog_1_method_19_code 51 = .ok (.iconst 1, 1) := jx_dec c_T_known_ok 9 rfl
theorem d_T_known_52 : decode prog_1_method_19_code 52 = .ok (.goto 4, 3) := jx_dec c_T_known_ok 10 rfl
theorem d_T_known_55 : decode prog_1_method_19_code 55 = .ok (.iconst 0, 1) := jx_dec c_T_known_ok 11 rfl
theorem d_T_known_56 : decode prog_1_method_19_code 56 = .ok (.ireturn, 1) := jx_dec c_T_known_ok 12 rfl
theorem d_T_known_57 : decode prog_1_method_19_code 57 = .ok (.aload_n 3, 1) := jx_dec c_T_known_ok 13 rfl
theorem d_T_known_58 : decode prog_1_method_19_code 58 = .ok (.getfield 89, 3) := jx_dec c_T_known_ok 14 rfl
theorem d_T_known_61 : decode prog_1_method_19_code 61 = .ok (.ireturn, 1) := jx_dec c_T_known_ok 15 rfl
theorem d_T_known_62 : decode prog_1_method_19_code 62 = .ok (.aload_n 3, 1) := jx_dec c_T_known_ok 16 rfl
theorem d_T_known_63 : decode prog_1_method_19_code 63 = .ok (.getfield 200, 3) := jx_dec c_T_known_ok 17 rfl
theorem d_T_known_66 : decode prog_1_method_19_code 66 = .ok (.ireturn, 1) := jx_dec c_T_known_ok 18 rfl
theorem d_T_known_67 : decode prog_1_method_19_code 67 = .ok (.aload_n 3, 1) := jx_dec c_T_known_ok 19 rfl
theorem d_T_known_68 : decode prog_1_method_19_code 68 = .ok (.getfield 188, 3) := jx_dec c_T_known_ok 20 rfl
theorem d_T_known_71 : decode prog_1_method_19_code 71 = .ok (.ireturn, 1) := jx_dec c_T_known_ok 21 rfl
theorem d_T_known_72 : decode prog_1_method_19_code 72 = .ok (.aload_n 0, 1) := jx_dec c_T_known_ok 22 rfl
theorem d_T_known_73 : decode prog_1_method_19_code 73 = .ok (.aload_n 3, 1) := jx_dec c_T_known_ok 23 rfl
theorem d_T_known_74 : decode prog_1_method_19_code 74 = .ok (.getfield 58, 3) := jx_dec c_T_known_ok 24 rfl
theorem d_T_known_77 : decode prog_1_method_19_code 77 = .ok (.iconst 2, 1) := jx_dec c_T_known_ok 25 rfl
theorem d_T_known_78 : decode prog_1_method_19_code 78 = .ok (.invokevirtual 203, 3) := jx_dec c_T_known_ok 26 rfl
theorem d_T_known_81 : decode prog_1_method_19_code 81 = .ok (.ireturn, 1) := jx_dec c_T_known_ok 27 rfl
theorem d_T_known_82 : decode prog_1_method_19_code 82 = .ok (.aload_n 0, 1) := jx_dec c_T_known_ok 28 rfl
theorem d_T_known_83 : decode prog_1_method_19_code 83 = .ok (.aload_n 3, 1) := jx_dec c_T_known_ok 29 rfl
theorem d_T_known_84 : decode prog_1_method_19_code 84 = .ok (.getfield 58, 3) := jx_dec c_T_known_ok 30 rfl
theorem d_T_known_87 : decode prog_1_method_19_code 87 = .ok (.iconst 0, 1) := jx_dec c_T_known_ok 31 rfl
theorem d_T_known_88 : decode prog_1_method_19_code 88 = .ok (.invokevirtual 203, 3) := jx_dec c_T_known_ok 32 rfl
theorem d_T_known_91 : decode prog_1_method_19_code 91 = .ok (.ireturn, 1) := jx_dec c_T_known_ok 33 rfl
theorem d_T_known_92 : decode prog_1_method_19_code 92 = .ok (.new 102, 3) := jx_dec c_T_known_ok 34 rfl
theorem d_T_known_95 : decode prog_1_method_19_code 95 = .ok (.dup, 1) := jx_dec c_T_known_ok 35 rfl
theorem d_T_known_96 : decode prog_1_method_19_code 96 = .ok (.ldc 215, 2) := jx_dec c_T_known_ok 36 rfl
theorem d_T_known_98 : decode prog_1_method_19_code 98 = .ok (.invokespecial 106, 3) := jx_dec c_T_known_ok 37 rfl
theorem d_T_known_101 : decode prog_1_method_19_code 101 = .ok (.athrow, 1) := jx_dec c_T_known_ok 38 rfl
