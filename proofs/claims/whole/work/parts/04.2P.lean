/-! 04.2P: the instructions -/
def c_P_may : List (Nat × Instr × Nat) := [(0, .aload_n 0, 1), (1, .getfield 9, 3), (4, .ifCond .eq 26, 3), (7, .aload_n 0, 1), (8, .aload_n 1, 1), (9, .getfield 40, 3), (12, .invokevirtual 43, 3), (15, .ifCond .eq 15, 3), (18, .aload_n 0, 1), (19, .aload_n 1, 1), (20, .invokevirtual 47, 3), (23, .ifCond .ne 7, 3), (26, .iconst 1, 1), (27, .goto 4, 3), (30, .iconst 0, 1), (31, .ireturn, 1)]
theorem c_P_may_ok : (c_P_may).all (fun q => decide (decode prog_3_method_4_code q.1 = .ok q.2)) = true := by decide +kernel
theorem d_P_may_0 : decode prog_3_method_4_code 0 = .ok (.aload_n 0, 1) := jx_dec c_P_may_ok 0 rfl
theorem d_P_may_1 : decode prog_3_method_4_code 1 = .ok (.getfield 9, 3) := jx_dec c_P_may_ok 1 rfl
theorem d_P_may_4 : decode prog_3_method_4_code 4 = .ok (.ifCond .eq 26, 3) := jx_dec c_P_may_ok 2 rfl
theorem d_P_may_7 : decode prog_3_method_4_code 7 = .ok (.aload_n 0, 1) := jx_dec c_P_may_ok 3 rfl
theorem d_P_may_8 : decode prog_3_method_4_code 8 = .ok (.aload_n 1, 1) := jx_dec c_P_may_ok 4 rfl
theorem d_P_may_9 : decode prog_3_method_4_code 9 = .ok (.getfield 40, 3) := jx_dec c_P_may_ok 5 rfl
theorem d_P_may_12 : decode prog_3_method_4_code 12 = .ok (.invokevirtual 43, 3) := jx_dec c_P_may_ok 6 rfl
theorem d_P_may_15 : decode prog_3_method_4_code 15 = .ok (.ifCond .eq 15, 3) := jx_dec c_P_may_ok 7 rfl
theorem d_P_may_18 : decode prog_3_method_4_code 18 = .ok (.aload_n 0, 1) := jx_dec c_P_may_ok 8 rfl
theorem d_P_may_19 : decode prog_3_method_4_code 19 = .ok (.aload_n 1, 1) := jx_dec c_P_may_ok 9 rfl
theorem d_P_may_20 : decode prog_3_method_4_code 20 = .ok (.invokevirtual 47, 3) := jx_dec c_P_may_ok 10 rfl
theorem d_P_may_23 : decode prog_3_method_4_code 23 = .ok (.ifCond .ne 7, 3) := jx_dec c_P_may_ok 11 rfl
theorem d_P_may_26 : decode prog_3_method_4_code 26 = .ok (.iconst 1, 1) := jx_dec c_P_may_ok 12 rfl
theorem d_P_may_27 : decode prog_3_method_4_code 27 = .ok (.goto 4, 3) := jx_dec c_P_may_ok 13 rfl
theorem d_P_may_30 : decode prog_3_method_4_code 30 = .ok (.iconst 0, 1) := jx_dec c_P_may_ok 14 rfl
theorem d_P_may_31 : decode prog_3_method_4_code 31 = .ok (.ireturn, 1) := jx_dec c_P_may_ok 15 rfl
def c_P_hasSkill : List (Nat × Instr × Nat) := [(0, .aload_n 0, 1), (1, .getfield 22, 3), (4, .iload_n 1, 1), (5, .ishr, 1), (6, .iconst 1, 1), (7, .iand, 1), (8, .iconst 1, 1), (9, .if_icmp .ne 7, 3), (12, .iconst 1, 1), (13, .goto 4, 3), (16, .iconst 0, 1), (17, .ireturn, 1)]
theorem c_P_hasSkill_ok : (c_P_hasSkill).all (fun q => decide (decode prog_3_method_2_code q.1 = .ok q.2)) = true := by decide +kernel
theorem d_P_hasSkill_0 : decode prog_3_method_2_code 0 = .ok (.aload_n 0, 1) := jx_dec c_P_hasSkill_ok 0 rfl
theorem d_P_hasSkill_1 : decode prog_3_method_2_code 1 = .ok (.getfield 22, 3) := jx_dec c_P_hasSkill_ok 1 rfl
theorem d_P_hasSkill_4 : decode prog_3_method_2_code 4 = .ok (.iload_n 1, 1) := jx_dec c_P_hasSkill_ok 2 rfl
theorem d_P_hasSkill_5 : decode prog_3_method_2_code 5 = .ok (.ishr, 1) := jx_dec c_P_hasSkill_ok 3 rfl
theorem d_P_hasSkill_6 : decode prog_3_method_2_code 6 = .ok (.iconst 1, 1) := jx_dec c_P_hasSkill_ok 4 rfl
theorem d_P_hasSkill_7 : decode prog_3_method_2_code 7 = .ok (.iand, 1) := jx_dec c_P_hasSkill_ok 5 rfl
theorem d_P_hasSkill_8 : decode prog_3_method_2_code 8 = .ok (.iconst 1, 1) := jx_dec c_P_hasSkill_ok 6 rfl
theorem d_P_hasSkill_9 : decode prog_3_method_2_code 9 = .ok (.if_icmp .ne 7, 3) := jx_dec c_P_hasSkill_ok 7 rfl
theorem d_P_hasSkill_12 : decode prog_3_method_2_code 12 = .ok (.iconst 1, 1) := jx_dec c_P_hasSkill_ok 8 rfl
theorem d_P_hasSkill_13 : decode prog_3_method_2_code 13 = .ok (.goto 4, 3) := jx_dec c_P_hasSkill_ok 9 rfl
theorem d_P_hasSkill_16 : decode prog_3_method_2_code 16 = .ok (.iconst 0, 1) := jx_dec c_P_hasSkill_ok 10 rfl
theorem d_P_hasSkill_17 : decode prog_3_method_2_code 17 = .ok (.ireturn, 1) := jx_dec c_P_hasSkill_ok 11 rfl
def c_P_hasRefused : List (Nat × Instr × Nat) := [(0, .aload_n 0, 1), (1, .getfield 34, 3), (4, .aload_n 1, 1), (5, .getfield 37, 3), (8, .ishr, 1), (9, .iconst 1, 1), (10, .iand, 1), (11, .iconst 1, 1), (12, .if_icmp .ne 7, 3), (15, .iconst 1, 1), (16, .goto 4, 3), (19, .iconst 0, 1), (20, .ireturn, 1)]
theorem c_P_hasRefused_ok : (c_P_hasRefused).all (fun q => decide (decode prog_3_method_3_code q.1 = .ok q.2)) = true := by decide +kernel
theorem d_P_hasRefused_0 : decode prog_3_method_3_code 0 = .ok (.aload_n 0, 1) := jx_dec c_P_hasRefused_ok 0 rfl
theorem d_P_hasRefused_1 : decode prog_3_method_3_code 1 = .ok (.getfield 34, 3) := jx_dec c_P_hasRefused_ok 1 rfl
theorem d_P_hasRefused_4 : decode prog_3_method_3_code 4 = .ok (.aload_n 1, 1) := jx_dec c_P_hasRefused_ok 2 rfl
theorem d_P_hasRefused_5 : decode prog_3_method_3_code 5 = .ok (.getfield 37, 3) := jx_dec c_P_hasRefused_ok 3 rfl
theorem d_P_hasRefused_8 : decode prog_3_method_3_code 8 = .ok (.ishr, 1) := jx_dec c_P_hasRefused_ok 4 rfl
theorem d_P_hasRefused_9 : decode prog_3_method_3_code 9 = .ok (.iconst 1, 1) := jx_dec c_P_hasRefused_ok 5 rfl
theorem d_P_hasRefused_10 : decode prog_3_method_3_code 10 = .ok (.iand, 1) := jx_dec c_P_hasRefused_ok 6 rfl
theorem d_P_hasRefused_11 : decode prog_3_method_3_code 11 = .ok (.iconst 1, 1) := jx_dec c_P_hasRefused_ok 7 rfl
theorem d_P_hasRefused_12 : decode prog_3_method_3_code 12 = .ok (.if_icmp .ne 7, 3) := jx_dec c_P_hasRefused_ok 8 rfl
theorem d_P_hasRefused_15 : decode prog_3_method_3_code 15 = .ok (.iconst 1, 1) := jx_dec c_P_hasRefused_ok 9 rfl
theorem d_P_hasRefused_16 : decode prog_3_method_3_code 16 = .ok (.goto 4, 3) := jx_dec c_P_hasRefused_ok 10 rfl
theorem d_P_hasRefused_19 : decode prog_3_method_3_code 19 = .ok (.iconst 0, 1) := jx_dec c_P_hasRefused_ok 11 rfl
theorem d_P_hasRefused_20 : decode prog_3_method_3_code 20 = .ok (.ireturn, 1) := jx_dec c_P_hasRefused_ok 12 rfl
def c_P_freeFrom : List (Nat × Instr × Nat) := [(0, .iload_n 1, 1), (1, .aload_n 0, 1), (2, .getfield 25, 3), (5, .aload_n 0, 1), (6, .getfield 51, 3), (9, .invokestatic 54, 3), (12, .invokestatic 54, 3), (15, .ireturn, 1)]
theorem c_P_freeFrom_ok : (c_P_freeFrom).all (fun q => decide (decode prog_3_method_5_code q.1 = .ok q.2)) = true := by decide +kernel
theorem d_P_freeFrom_0 : decode prog_3_method_5_code 0 = .ok (.iload_n 1, 1) := jx_dec c_P_freeFrom_ok 0 rfl
theorem d_P_freeFrom_1 : decode prog_3_method_5_code 1 = .ok (.aload_n 0, 1) := jx_dec c_P_freeFrom_ok 1 rfl
theorem d_P_freeFrom_2 : decode prog_3_method_5_code 2 = .ok (.getfield 25, 3) := jx_dec c_P_freeFrom_ok 2 rfl
theorem d_P_freeFrom_5 : decode prog_3_method_5_code 5 = .ok (.aload_n 0, 1) := jx_dec c_P_freeFrom_ok 3 rfl
theorem d_P_freeFrom_6 : decode prog_3_method_5_code 6 = .ok (.getfield 51, 3) := jx_dec c_P_freeFrom_ok 4 rfl
theorem d_P_freeFrom_9 : decode prog_3_method_5_code 9 = .ok (.invokestatic 54, 3) := jx_dec c_P_freeFrom_ok 5 rfl
theorem d_P_freeFrom_12 : decode prog_3_method_5_code 12 = .ok (.invokestatic 54, 3) := jx_dec c_P_freeFrom_ok 6 rfl
theorem d_P_freeFrom_15 : decode prog_3_method_5_code 15 = .ok (.ireturn, 1) := jx_dec c_P_freeFrom_ok 7 rfl
def c_P_startOf : List (Nat × Instr × Nat) := [(0, .iload_n 2, 1), (1, .aload 4, 2), (3, .iload_n 3, 1), (4, .aload_n 1, 1), (5, .getfield 60, 3), (8, .invokevirtual 61, 3), (11, .iadd, 1), (12, .istore 5, 2), (14, .iload 5, 2), (16, .aload_n 0, 1), (17, .getfield 66, 3), (20, .if_icmp .ge 23, 3), (23, .iload 5, 2), (25, .aload_n 1, 1), (26, .getfield 69, 3), (29, .iadd, 1), (30, .aload_n 0, 1), (31, .getfield 72, 3), (34, .if_icmp .le 9, 3), (37, .aload_n 0, 1), (38, .getfield 66, 3), (41, .istore 5, 2), (43, .iload 5, 2), (45, .aload_n 1, 1), (46, .getfield 69, 3), (49, .iadd, 1), (50, .aload_n 0, 1), (51, .getfield 28, 3), (54, .if_icmp .le 7, 3), (57, .iconst (-1), 1), (58, .goto 5, 3), (61, .iload 5, 2), (63, .ireturn, 1)]
theorem c_P_startOf_ok : (c_P_startOf).all (fun q => decide (decode prog_3_method_6_code q.1 = .ok q.2)) = true := by decide +kernel
theorem d_P_startOf_0 : decode prog_3_method_6_code 0 = .ok (.iload_n 2, 1) := jx_dec c_P_startOf_ok 0 rfl
theorem d_P_startOf_1 : decode prog_3_method_6_code 1 = .ok (.aload 4, 2) := jx_dec c_P_startOf_ok 1 rfl
theorem d_P_startOf_3 : decode prog_3_method_6_code 3 = .ok (.iload_n 3, 1) := jx_dec c_P_startOf_ok 2 rfl
theorem d_P_startOf_4 : decode prog_3_method_6_code 4 = .ok (.aload_n 1, 1) := jx_dec c_P_startOf_ok 3 rfl
theorem d_P_startOf_5 : decode prog_3_method_6_code 5 = .ok (.getfield 60, 3) := jx_dec c_P_startOf_ok 4 rfl
theorem d_P_startOf_8 : decode prog_3_method_6_code 8 = .ok (.invokevirtual 61, 3) := jx_dec c_P_startOf_ok 5 rfl
theorem d_P_startOf_11 : decode prog_3_method_6_code 11 = .ok (.iadd, 1) := jx_dec c_P_startOf_ok 6 rfl
theorem d_P_startOf_12 : decode prog_3_method_6_code 12 = .ok (.istore 5, 2) := jx_dec c_P_startOf_ok 7 rfl
theorem d_P_startOf_14 : decode prog_3_method_6_code 14 = .ok (.iload 5, 2) := jx_dec c_P_startOf_ok 8 rfl
theorem d_P_startOf_16 : decode prog_3_method_6_code 16 = .ok (.aload_n 0, 1) := jx_dec c_P_startOf_ok 9 rfl
theorem d_P_startOf_17 : decode prog_3_method_6_code 17 = .ok (.getfield 66, 3) := jx_dec c_P_startOf_ok 10 rfl
theorem d_P_startOf_20 : decode prog_3_method_6_code 20 = .ok (.if_icmp .ge 23, 3) := jx_dec c_P_startOf_ok 11 rfl
theorem d_P_startOf_23 : decode prog_3_method_6_code 23 = .ok (.iload 5, 2) := jx_dec c_P_startOf_ok 12 rfl
theorem d_P_startOf_25 : decode prog_3_method_6_code 25 = .ok (.aload_n 1, 1) := jx_dec c_P_startOf_ok 13 rfl
theorem d_P_startOf_26 : decode prog_3_method_6_code 26 = .ok (.getfield 69, 3) := jx_dec c_P_startOf_ok 14 rfl
theorem d_P_startOf_29 : decode prog_3_method_6_code 29 = .ok (.iadd, 1) := jx_dec c_P_startOf_ok 15 rfl
theorem d_P_startOf_30 : decode prog_3_method_6_code 30 = .ok (.aload_n 0, 1) := jx_dec c_P_startOf_ok 16 rfl
theorem d_P_startOf_31 : decode prog_3_method_6_code 31 = .ok (.getfield 72, 3) := jx_dec c_P_startOf_ok 17 rfl
theorem d_P_startOf_34 : decode prog_3_method_6_code 34 = .ok (.if_icmp .le 9, 3) := jx_dec c_P_startOf_ok 18 rfl
theorem d_P_startOf_37 : decode prog_3_method_6_code 37 = .ok (.aload_n 0, 1) := jx_dec c_P_startOf_ok 19 rfl
theorem d_P_startOf_38 : decode prog_3_method_6_code 38 = .ok (.getfield 66, 3) := jx_dec c_P_startOf_ok 20 rfl
theorem d_P_startOf_41 : decode prog_3_method_6_code 41 = .ok (.istore 5, 2) := jx_dec c_P_startOf_ok 21 rfl
theorem d_P_startOf_43 : decode prog_3_method_6_code 43 = .ok (.iload 5, 2) := jx_dec c_P_startOf_ok 22 rfl
theorem d_P_startOf_45 : decode prog_3_method_6_code 45 = .ok (.aload_n 1, 1) := jx_dec c_P_startOf_ok 23 rfl
theorem d_P_startOf_46 : decode prog_3_method_6_code 46 = .ok (.getfield 69, 3) := jx_dec c_P_startOf_ok 24 rfl
theorem d_P_startOf_49 : decode prog_3_method_6_code 49 = .ok (.iadd, 1) := jx_dec c_P_startOf_ok 25 rfl
theorem d_P_startOf_50 : decode prog_3_method_6_code 50 = .ok (.aload_n 0, 1) := jx_dec c_P_startOf_ok 26 rfl
theorem d_P_startOf_51 : decode prog_3_method_6_code 51 = .ok (.getfield 28, 3) := jx_dec c_P_startOf_ok 27 rfl
theorem d_P_startOf_54 : decode prog_3_method_6_code 54 = .ok (.if_icmp .le 7, 3) := jx_dec c_P_startOf_ok 28 rfl
theorem d_P_startOf_57 : decode prog_3_method_6_code 57 = .ok (.iconst (-1), 1) := jx_dec c_P_startOf_ok 29 rfl
theorem d_P_startOf_58 : decode prog_3_method_6_code 58 = .ok (.goto 5, 3) := jx_dec c_P_startOf_ok 30 rfl
theorem d_P_startOf_61 : decode prog_3_method_6_code 61 = .ok (.iload 5, 2) := jx_dec c_P_startOf_ok 31 rfl
theorem d_P_startOf_63 : decode prog_3_method_6_code 63 = .ok (.ireturn, 1) := jx_dec c_P_startOf_ok 32 rfl
def c_P_init : List (Nat × Instr × Nat) := [(0, .aload_n 0, 1), (1, .invokespecial 3, 3), (4, .aload_n 0, 1), (5, .iconst 1, 1), (6, .putfield 9, 3), (9, .aload_n 0, 1), (10, .iconst (-1), 1), (11, .putfield 15, 3), (14, .aload_n 0, 1), (15, .iload_n 1, 1), (16, .putfield 19, 3), (19, .aload_n 0, 1), (20, .iload_n 2, 1), (21, .putfield 22, 3), (24, .aload_n 0, 1), (25, .iload_n 3, 1), (26, .putfield 25, 3), (29, .aload_n 0, 1), (30, .iload 4, 2), (32, .putfield 28, 3), (35, .aload_n 0, 1), (36, .iload 5, 2), (38, .putfield 31, 3), (41, .return_, 1)]
theorem c_P_init_ok : (c_P_init).all (fun q => decide (decode prog_3_method_1_code q.1 = .ok q.2)) = true := by decide +kernel
theorem d_P_init_0 : decode prog_3_method_1_code 0 = .ok (.aload_n 0, 1) := jx_dec c_P_init_ok 0 rfl
theorem d_P_init_1 : decode prog_3_method_1_code 1 = .ok (.invokespecial 3, 3) := jx_dec c_P_init_ok 1 rfl
theorem d_P_init_4 : decode prog_3_method_1_code 4 = .ok (.aload_n 0, 1) := jx_dec c_P_init_ok 2 rfl
theorem d_P_init_5 : decode prog_3_method_1_code 5 = .ok (.iconst 1, 1) := jx_dec c_P_init_ok 3 rfl
theorem d_P_init_6 : decode prog_3_method_1_code 6 = .ok (.putfield 9, 3) := jx_dec c_P_init_ok 4 rfl
theorem d_P_init_9 : decode prog_3_method_1_code 9 = .ok (.aload_n 0, 1) := jx_dec c_P_init_ok 5 rfl
theorem d_P_init_10 : decode prog_3_method_1_code 10 = .ok (.iconst (-1), 1) := jx_dec c_P_init_ok 6 rfl
theorem d_P_init_11 : decode prog_3_method_1_code 11 = .ok (.putfield 15, 3) := jx_dec c_P_init_ok 7 rfl
theorem d_P_init_14 : decode prog_3_method_1_code 14 = .ok (.aload_n 0, 1) := jx_dec c_P_init_ok 8 rfl
theorem d_P_init_15 : decode prog_3_method_1_code 15 = .ok (.iload_n 1, 1) := jx_dec c_P_init_ok 9 rfl
theorem d_P_init_16 : decode prog_3_method_1_code 16 = .ok (.putfield 19, 3) := jx_dec c_P_init_ok 10 rfl
theorem d_P_init_19 : decode prog_3_method_1_code 19 = .ok (.aload_n 0, 1) := jx_dec c_P_init_ok 11 rfl
theorem d_P_init_20 : decode prog_3_method_1_code 20 = .ok (.iload_n 2, 1) := jx_dec c_P_init_ok 12 rfl
theorem d_P_init_21 : decode prog_3_method_1_code 21 = .ok (.putfield 22, 3) := jx_dec c_P_init_ok 13 rfl
theorem d_P_init_24 : decode prog_3_method_1_code 24 = .ok (.aload_n 0, 1) := jx_dec c_P_init_ok 14 rfl
theorem d_P_init_25 : decode prog_3_method_1_code 25 = .ok (.iload_n 3, 1) := jx_dec c_P_init_ok 15 rfl
theorem d_P_init_26 : decode prog_3_method_1_code 26 = .ok (.putfield 25, 3) := jx_dec c_P_init_ok 16 rfl
theorem d_P_init_29 : decode prog_3_method_1_code 29 = .ok (.aload_n 0, 1) := jx_dec c_P_init_ok 17 rfl
theorem d_P_init_30 : decode prog_3_method_1_code 30 = .ok (.iload 4, 2) := jx_dec c_P_init_ok 18 rfl
theorem d_P_init_32 : decode prog_3_method_1_code 32 = .ok (.putfield 28, 3) := jx_dec c_P_init_ok 19 rfl
theorem d_P_init_35 : decode prog_3_method_1_code 35 = .ok (.aload_n 0, 1) := jx_dec c_P_init_ok 20 rfl
theorem d_P_init_36 : decode prog_3_method_1_code 36 = .ok (.iload 5, 2) := jx_dec c_P_init_ok 21 rfl
theorem d_P_init_38 : decode prog_3_method_1_code 38 = .ok (.putfield 31, 3) := jx_dec c_P_init_ok 22 rfl
theorem d_P_init_41 : decode prog_3_method_1_code 41 = .ok (.return_, 1) := jx_dec c_P_init_ok 23 rfl
def c_P_addToRow : List (Nat × Instr × Nat) := [(0, .aload_n 0, 1), (1, .aload_n 1, 1), (2, .getfield 75, 3), (5, .aload_n 1, 1), (6, .getfield 69, 3), (9, .iadd, 1), (10, .putfield 78, 3), (13, .aload_n 0, 1), (14, .aload_n 1, 1), (15, .getfield 60, 3), (18, .putfield 81, 3), (21, .aload_n 0, 1), (22, .dup, 1), (23, .getfield 84, 3), (26, .iconst 1, 1), (27, .iadd, 1), (28, .putfield 84, 3), (31, .return_, 1)]
theorem c_P_addToRow_ok : (c_P_addToRow).all (fun q => decide (decode prog_3_method_7_code q.1 = .ok q.2)) = true := by decide +kernel
theorem d_P_addToRow_0 : decode prog_3_method_7_code 0 = .ok (.aload_n 0, 1) := jx_dec c_P_addToRow_ok 0 rfl
theorem d_P_addToRow_1 : decode prog_3_method_7_code 1 = .ok (.aload_n 1, 1) := jx_dec c_P_addToRow_ok 1 rfl
theorem d_P_addToRow_2 : decode prog_3_method_7_code 2 = .ok (.getfield 75, 3) := jx_dec c_P_addToRow_ok 2 rfl
theorem d_P_addToRow_5 : decode prog_3_method_7_code 5 = .ok (.aload_n 1, 1) := jx_dec c_P_addToRow_ok 3 rfl
theorem d_P_addToRow_6 : decode prog_3_method_7_code 6 = .ok (.getfield 69, 3) := jx_dec c_P_addToRow_ok 4 rfl
theorem d_P_addToRow_9 : decode prog_3_method_7_code 9 = .ok (.iadd, 1) := jx_dec c_P_addToRow_ok 5 rfl
theorem d_P_addToRow_10 : decode prog_3_method_7_code 10 = .ok (.putfield 78, 3) := jx_dec c_P_addToRow_ok 6 rfl
theorem d_P_addToRow_13 : decode prog_3_method_7_code 13 = .ok (.aload_n 0, 1) := jx_dec c_P_addToRow_ok 7 rfl
theorem d_P_addToRow_14 : decode prog_3_method_7_code 14 = .ok (.aload_n 1, 1) := jx_dec c_P_addToRow_ok 8 rfl
theorem d_P_addToRow_15 : decode prog_3_method_7_code 15 = .ok (.getfield 60, 3) := jx_dec c_P_addToRow_ok 9 rfl
theorem d_P_addToRow_18 : decode prog_3_method_7_code 18 = .ok (.putfield 81, 3) := jx_dec c_P_addToRow_ok 10 rfl
theorem d_P_addToRow_21 : decode prog_3_method_7_code 21 = .ok (.aload_n 0, 1) := jx_dec c_P_addToRow_ok 11 rfl
theorem d_P_addToRow_22 : decode prog_3_method_7_code 22 = .ok (.dup, 1) := jx_dec c_P_addToRow_ok 12 rfl
theorem d_P_addToRow_23 : decode prog_3_method_7_code 23 = .ok (.getfield 84, 3) := jx_dec c_P_addToRow_ok 13 rfl
theorem d_P_addToRow_26 : decode prog_3_method_7_code 26 = .ok (.iconst 1, 1) := jx_dec c_P_addToRow_ok 14 rfl
theorem d_P_addToRow_27 : decode prog_3_method_7_code 27 = .ok (.iadd, 1) := jx_dec c_P_addToRow_ok 15 rfl
theorem d_P_addToRow_28 : decode prog_3_method_7_code 28 = .ok (.putfield 84, 3) := jx_dec c_P_addToRow_ok 16 rfl
theorem d_P_addToRow_31 : decode prog_3_method_7_code 31 = .ok (.return_, 1) := jx_dec c_P_addToRow_ok 17 rfl
