/-! 04.8L: the instructions -/
def c_L_person : List (Nat × Instr × Nat) := [(0, .aload 5, 2), (2, .iconst 0, 1), (3, .aload_n 0, 1), (4, .iload_n 1, 1), (5, .iload_n 2, 1), (6, .iload_n 3, 1), (7, .iload 4, 2), (9, .invokevirtual 7, 3), (12, .i2l, 1), (13, .lastore, 1), (14, .goto 11, 3), (17, .astore 6, 2), (19, .iconst 1, 1), (20, .ireturn, 1), (21, .astore 6, 2), (23, .iconst 2, 1), (24, .ireturn, 1), (25, .iconst 0, 1), (26, .ireturn, 1)]
theorem c_L_person_ok : (c_L_person).all (fun q => decide (decode method_3_code q.1 = .ok q.2)) = true := by decide +kernel
theorem d_L_person_0 : decode method_3_code 0 = .ok (.aload 5, 2) := jx_dec c_L_person_ok 0 rfl
theorem d_L_person_2 : decode method_3_code 2 = .ok (.iconst 0, 1) := jx_dec c_L_person_ok 1 rfl
theorem d_L_person_3 : decode method_3_code 3 = .ok (.aload_n 0, 1) := jx_dec c_L_person_ok 2 rfl
theorem d_L_person_4 : decode method_3_code 4 = .ok (.iload_n 1, 1) := jx_dec c_L_person_ok 3 rfl
theorem d_L_person_5 : decode method_3_code 5 = .ok (.iload_n 2, 1) := jx_dec c_L_person_ok 4 rfl
theorem d_L_person_6 : decode method_3_code 6 = .ok (.iload_n 3, 1) := jx_dec c_L_person_ok 5 rfl
theorem d_L_person_7 : decode method_3_code 7 = .ok (.iload 4, 2) := jx_dec c_L_person_ok 6 rfl
theorem d_L_person_9 : decode method_3_code 9 = .ok (.invokevirtual 7, 3) := jx_dec c_L_person_ok 7 rfl
theorem d_L_person_12 : decode method_3_code 12 = .ok (.i2l, 1) := jx_dec c_L_person_ok 8 rfl
theorem d_L_person_13 : decode method_3_code 13 = .ok (.lastore, 1) := jx_dec c_L_person_ok 9 rfl
theorem d_L_person_14 : decode method_3_code 14 = .ok (.goto 11, 3) := jx_dec c_L_person_ok 10 rfl
theorem d_L_person_17 : decode method_3_code 17 = .ok (.astore 6, 2) := jx_dec c_L_person_ok 11 rfl
theorem d_L_person_19 : decode method_3_code 19 = .ok (.iconst 1, 1) := jx_dec c_L_person_ok 12 rfl
theorem d_L_person_20 : decode method_3_code 20 = .ok (.ireturn, 1) := jx_dec c_L_person_ok 13 rfl
theorem d_L_person_21 : decode method_3_code 21 = .ok (.astore 6, 2) := jx_dec c_L_person_ok 14 rfl
theorem d_L_person_23 : decode method_3_code 23 = .ok (.iconst 2, 1) := jx_dec c_L_person_ok 15 rfl
theorem d_L_person_24 : decode method_3_code 24 = .ok (.ireturn, 1) := jx_dec c_L_person_ok 16 rfl
theorem d_L_person_25 : decode method_3_code 25 = .ok (.iconst 0, 1) := jx_dec c_L_person_ok 17 rfl
theorem d_L_person_26 : decode method_3_code 26 = .ok (.ireturn, 1) := jx_dec c_L_person_ok 18 rfl
def c_L_rest : List (Nat × Instr × Nat) := [(0, .aload_n 0, 1), (1, .iload_n 1, 1), (2, .iload_n 2, 1), (3, .iload_n 3, 1), (4, .invokevirtual 17, 3), (7, .goto 11, 3), (10, .astore 4, 2), (12, .iconst 1, 1), (13, .ireturn, 1), (14, .astore 4, 2), (16, .iconst 2, 1), (17, .ireturn, 1), (18, .iconst 0, 1), (19, .ireturn, 1)]
theorem c_L_rest_ok : (c_L_rest).all (fun q => decide (decode method_4_code q.1 = .ok q.2)) = true := by decide +kernel
theorem d_L_rest_0 : decode method_4_code 0 = .ok (.aload_n 0, 1) := jx_dec c_L_rest_ok 0 rfl
theorem d_L_rest_1 : decode method_4_code 1 = .ok (.iload_n 1, 1) := jx_dec c_L_rest_ok 1 rfl
theorem d_L_rest_2 : decode method_4_code 2 = .ok (.iload_n 2, 1) := jx_dec c_L_rest_ok 2 rfl
theorem d_L_rest_3 : decode method_4_code 3 = .ok (.iload_n 3, 1) := jx_dec c_L_rest_ok 3 rfl
theorem d_L_rest_4 : decode method_4_code 4 = .ok (.invokevirtual 17, 3) := jx_dec c_L_rest_ok 4 rfl
theorem d_L_rest_7 : decode method_4_code 7 = .ok (.goto 11, 3) := jx_dec c_L_rest_ok 5 rfl
theorem d_L_rest_10 : decode method_4_code 10 = .ok (.astore 4, 2) := jx_dec c_L_rest_ok 6 rfl
theorem d_L_rest_12 : decode method_4_code 12 = .ok (.iconst 1, 1) := jx_dec c_L_rest_ok 7 rfl
theorem d_L_rest_13 : decode method_4_code 13 = .ok (.ireturn, 1) := jx_dec c_L_rest_ok 8 rfl
theorem d_L_rest_14 : decode method_4_code 14 = .ok (.astore 4, 2) := jx_dec c_L_rest_ok 9 rfl
theorem d_L_rest_16 : decode method_4_code 16 = .ok (.iconst 2, 1) := jx_dec c_L_rest_ok 10 rfl
theorem d_L_rest_17 : decode method_4_code 17 = .ok (.ireturn, 1) := jx_dec c_L_rest_ok 11 rfl
theorem d_L_rest_18 : decode method_4_code 18 = .ok (.iconst 0, 1) := jx_dec c_L_rest_ok 12 rfl
theorem d_L_rest_19 : decode method_4_code 19 = .ok (.ireturn, 1) := jx_dec c_L_rest_ok 13 rfl
def c_L_train : List (Nat × Instr × Nat) := [(0, .aload_n 3, 1), (1, .iconst 0, 1), (2, .aload_n 0, 1), (3, .iload_n 1, 1), (4, .iload_n 2, 1), (5, .invokevirtual 23, 3), (8, .i2l, 1), (9, .lastore, 1), (10, .goto 15, 3), (13, .astore 4, 2), (15, .iconst 1, 1), (16, .ireturn, 1), (17, .astore 4, 2), (19, .iconst 2, 1), (20, .ireturn, 1), (21, .astore 4, 2), (23, .iconst 3, 1), (24, .ireturn, 1), (25, .iconst 0, 1), (26, .ireturn, 1)]
theorem c_L_train_ok : (c_L_train).all (fun q => decide (decode method_5_code q.1 = .ok q.2)) = true := by decide +kernel
theorem d_L_train_0 : decode method_5_code 0 = .ok (.aload_n 3, 1) := jx_dec c_L_train_ok 0 rfl
theorem d_L_train_1 : decode method_5_code 1 = .ok (.iconst 0, 1) := jx_dec c_L_train_ok 1 rfl
theorem d_L_train_2 : decode method_5_code 2 = .ok (.aload_n 0, 1) := jx_dec c_L_train_ok 2 rfl
theorem d_L_train_3 : decode method_5_code 3 = .ok (.iload_n 1, 1) := jx_dec c_L_train_ok 3 rfl
theorem d_L_train_4 : decode method_5_code 4 = .ok (.iload_n 2, 1) := jx_dec c_L_train_ok 4 rfl
theorem d_L_train_5 : decode method_5_code 5 = .ok (.invokevirtual 23, 3) := jx_dec c_L_train_ok 5 rfl
theorem d_L_train_8 : decode method_5_code 8 = .ok (.i2l, 1) := jx_dec c_L_train_ok 6 rfl
theorem d_L_train_9 : decode method_5_code 9 = .ok (.lastore, 1) := jx_dec c_L_train_ok 7 rfl
theorem d_L_train_10 : decode method_5_code 10 = .ok (.goto 15, 3) := jx_dec c_L_train_ok 8 rfl
theorem d_L_train_13 : decode method_5_code 13 = .ok (.astore 4, 2) := jx_dec c_L_train_ok 9 rfl
theorem d_L_train_15 : decode method_5_code 15 = .ok (.iconst 1, 1) := jx_dec c_L_train_ok 10 rfl
theorem d_L_train_16 : decode method_5_code 16 = .ok (.ireturn, 1) := jx_dec c_L_train_ok 11 rfl
theorem d_L_train_17 : decode method_5_code 17 = .ok (.astore 4, 2) := jx_dec c_L_train_ok 12 rfl
theorem d_L_train_19 : decode method_5_code 19 = .ok (.iconst 2, 1) := jx_dec c_L_train_ok 13 rfl
theorem d_L_train_20 : decode method_5_code 20 = .ok (.ireturn, 1) := jx_dec c_L_train_ok 14 rfl
theorem d_L_train_21 : decode method_5_code 21 = .ok (.astore 4, 2) := jx_dec c_L_train_ok 15 rfl
theorem d_L_train_23 : decode method_5_code 23 = .ok (.iconst 3, 1) := jx_dec c_L_train_ok 16 rfl
theorem d_L_train_24 : decode method_5_code 24 = .ok (.ireturn, 1) := jx_dec c_L_train_ok 17 rfl
theorem d_L_train_25 : decode method_5_code 25 = .ok (.iconst 0, 1) := jx_dec c_L_train_ok 18 rfl
theorem d_L_train_26 : decode method_5_code 26 = .ok (.ireturn, 1) := jx_dec c_L_train_ok 19 rfl
def c_L_task : List (Nat × Instr × Nat) := [(0, .aload 5, 2), (2, .iconst 0, 1), (3, .aload_n 0, 1), (4, .iload_n 1, 1), (5, .iload_n 2, 1), (6, .iload_n 3, 1), (7, .iload 4, 2), (9, .invokevirtual 29, 3), (12, .i2l, 1), (13, .lastore, 1), (14, .goto 11, 3), (17, .astore 6, 2), (19, .iconst 1, 1), (20, .ireturn, 1), (21, .astore 6, 2), (23, .iconst 2, 1), (24, .ireturn, 1), (25, .iconst 0, 1), (26, .ireturn, 1)]
theorem c_L_task_ok : (c_L_task).all (fun q => decide (decode method_6_code q.1 = .ok q.2)) = true := by decide +kernel
theorem d_L_task_0 : decode method_6_code 0 = .ok (.aload 5, 2) := jx_dec c_L_task_ok 0 rfl
theorem d_L_task_2 : decode method_6_code 2 = .ok (.iconst 0, 1) := jx_dec c_L_task_ok 1 rfl
theorem d_L_task_3 : decode method_6_code 3 = .ok (.aload_n 0, 1) := jx_dec c_L_task_ok 2 rfl
theorem d_L_task_4 : decode method_6_code 4 = .ok (.iload_n 1, 1) := jx_dec c_L_task_ok 3 rfl
theorem d_L_task_5 : decode method_6_code 5 = .ok (.iload_n 2, 1) := jx_dec c_L_task_ok 4 rfl
theorem d_L_task_6 : decode method_6_code 6 = .ok (.iload_n 3, 1) := jx_dec c_L_task_ok 5 rfl
theorem d_L_task_7 : decode method_6_code 7 = .ok (.iload 4, 2) := jx_dec c_L_task_ok 6 rfl
theorem d_L_task_9 : decode method_6_code 9 = .ok (.invokevirtual 29, 3) := jx_dec c_L_task_ok 7 rfl
theorem d_L_task_12 : decode method_6_code 12 = .ok (.i2l, 1) := jx_dec c_L_task_ok 8 rfl
theorem d_L_task_13 : decode method_6_code 13 = .ok (.lastore, 1) := jx_dec c_L_task_ok 9 rfl
theorem d_L_task_14 : decode method_6_code 14 = .ok (.goto 11, 3) := jx_dec c_L_task_ok 10 rfl
theorem d_L_task_17 : decode method_6_code 17 = .ok (.astore 6, 2) := jx_dec c_L_task_ok 11 rfl
theorem d_L_task_19 : decode method_6_code 19 = .ok (.iconst 1, 1) := jx_dec c_L_task_ok 12 rfl
theorem d_L_task_20 : decode method_6_code 20 = .ok (.ireturn, 1) := jx_dec c_L_task_ok 13 rfl
theorem d_L_task_21 : decode method_6_code 21 = .ok (.astore 6, 2) := jx_dec c_L_task_ok 14 rfl
theorem d_L_task_23 : decode method_6_code 23 = .ok (.iconst 2, 1) := jx_dec c_L_task_ok 15 rfl
theorem d_L_task_24 : decode method_6_code 24 = .ok (.ireturn, 1) := jx_dec c_L_task_ok 16 rfl
theorem d_L_task_25 : decode method_6_code 25 = .ok (.iconst 0, 1) := jx_dec c_L_task_ok 17 rfl
theorem d_L_task_26 : decode method_6_code 26 = .ok (.ireturn, 1) := jx_dec c_L_task_ok 18 rfl
def c_L_way : List (Nat × Instr × Nat) := [(0, .aload_n 0, 1), (1, .iload_n 1, 1), (2, .iload_n 2, 1), (3, .iload_n 3, 1), (4, .invokevirtual 32, 3), (7, .goto 7, 3), (10, .astore 4, 2), (12, .iconst 1, 1), (13, .ireturn, 1), (14, .iconst 0, 1), (15, .ireturn, 1)]
theorem c_L_way_ok : (c_L_way).all (fun q => decide (decode method_7_code q.1 = .ok q.2)) = true := by decide +kernel
theorem d_L_way_0 : decode method_7_code 0 = .ok (.aload_n 0, 1) := jx_dec c_L_way_ok 0 rfl
theorem d_L_way_1 : decode method_7_code 1 = .ok (.iload_n 1, 1) := jx_dec c_L_way_ok 1 rfl
theorem d_L_way_2 : decode method_7_code 2 = .ok (.iload_n 2, 1) := jx_dec c_L_way_ok 2 rfl
theorem d_L_way_3 : decode method_7_code 3 = .ok (.iload_n 3, 1) := jx_dec c_L_way_ok 3 rfl
theorem d_L_way_4 : decode method_7_code 4 = .ok (.invokevirtual 32, 3) := jx_dec c_L_way_ok 4 rfl
theorem d_L_way_7 : decode method_7_code 7 = .ok (.goto 7, 3) := jx_dec c_L_way_ok 5 rfl
theorem d_L_way_10 : decode method_7_code 10 = .ok (.astore 4, 2) := jx_dec c_L_way_ok 6 rfl
theorem d_L_way_12 : decode method_7_code 12 = .ok (.iconst 1, 1) := jx_dec c_L_way_ok 7 rfl
theorem d_L_way_13 : decode method_7_code 13 = .ok (.ireturn, 1) := jx_dec c_L_way_ok 8 rfl
theorem d_L_way_14 : decode method_7_code 14 = .ok (.iconst 0, 1) := jx_dec c_L_way_ok 9 rfl
theorem d_L_way_15 : decode method_7_code 15 = .ok (.ireturn, 1) := jx_dec c_L_way_ok 10 rfl
def c_L_refuse : List (Nat × Instr × Nat) := [(0, .aload_n 3, 1), (1, .iconst 0, 1), (2, .aload_n 0, 1), (3, .iload_n 1, 1), (4, .iload_n 2, 1), (5, .invokevirtual 35, 3), (8, .ifCond .eq 7, 3), (11, .lconst 1, 1), (12, .goto 4, 3), (15, .lconst 0, 1), (16, .lastore, 1), (17, .goto 11, 3), (20, .astore 4, 2), (22, .iconst 1, 1), (23, .ireturn, 1), (24, .astore 4, 2), (26, .iconst 2, 1), (27, .ireturn, 1), (28, .iconst 0, 1), (29, .ireturn, 1)]
theorem c_L_refuse_ok : (c_L_refuse).all (fun q => decide (decode method_8_code q.1 = .ok q.2)) = true := by decide +kernel
theorem d_L_refuse_0 : decode method_8_code 0 = .ok (.aload_n 3, 1) := jx_dec c_L_refuse_ok 0 rfl
theorem d_L_refuse_1 : decode method_8_code 1 = .ok (.iconst 0, 1) := jx_dec c_L_refuse_ok 1 rfl
theorem d_L_refuse_2 : decode method_8_code 2 = .ok (.aload_n 0, 1) := jx_dec c_L_refuse_ok 2 rfl
theorem d_L_refuse_3 : decode method_8_code 3 = .ok (.iload_n 1, 1) := jx_dec c_L_refuse_ok 3 rfl
theorem d_L_refuse_4 : decode method_8_code 4 = .ok (.iload_n 2, 1) := jx_dec c_L_refuse_ok 4 rfl
theorem d_L_refuse_5 : decode method_8_code 5 = .ok (.invokevirtual 35, 3) := jx_dec c_L_refuse_ok 5 rfl
theorem d_L_refuse_8 : decode method_8_code 8 = .ok (.ifCond .eq 7, 3) := jx_dec c_L_refuse_ok 6 rfl
theorem d_L_refuse_11 : decode method_8_code 11 = .ok (.lconst 1, 1) := jx_dec c_L_refuse_ok 7 rfl
theorem d_L_refuse_12 : decode method_8_code 12 = .ok (.goto 4, 3) := jx_dec c_L_refuse_ok 8 rfl
theorem d_L_refuse_15 : decode method_8_code 15 = .ok (.lconst 0, 1) := jx_dec c_L_refuse_ok 9 rfl
theorem d_L_refuse_16 : decode method_8_code 16 = .ok (.lastore, 1) := jx_dec c_L_refuse_ok 10 rfl
theorem d_L_refuse_17 : decode method_8_code 17 = .ok (.goto 11, 3) := jx_dec c_L_refuse_ok 11 rfl
theorem d_L_refuse_20 : decode method_8_code 20 = .ok (.astore 4, 2) := jx_dec c_L_refuse_ok 12 rfl
theorem d_L_refuse_22 : decode method_8_code 22 = .ok (.iconst 1, 1) := jx_dec c_L_refuse_ok 13 rfl
theorem d_L_refuse_23 : decode method_8_code 23 = .ok (.ireturn, 1) := jx_dec c_L_refuse_ok 14 rfl
theorem d_L_refuse_24 : decode method_8_code 24 = .ok (.astore 4, 2) := jx_dec c_L_refuse_ok 15 rfl
theorem d_L_refuse_26 : decode method_8_code 26 = .ok (.iconst 2, 1) := jx_dec c_L_refuse_ok 16 rfl
theorem d_L_refuse_27 : decode method_8_code 27 = .ok (.ireturn, 1) := jx_dec c_L_refuse_ok 17 rfl
theorem d_L_refuse_28 : decode method_8_code 28 = .ok (.iconst 0, 1) := jx_dec c_L_refuse_ok 18 rfl
theorem d_L_refuse_29 : decode method_8_code 29 = .ok (.ireturn, 1) := jx_dec c_L_refuse_ok 19 rfl
def c_L_bar : List (Nat × Instr × Nat) := [(0, .aload_n 3, 1), (1, .iconst 0, 1), (2, .aload_n 0, 1), (3, .iload_n 1, 1), (4, .iload_n 2, 1), (5, .invokevirtual 39, 3), (8, .i2l, 1), (9, .lastore, 1), (10, .goto 11, 3), (13, .astore 4, 2), (15, .iconst 1, 1), (16, .ireturn, 1), (17, .astore 4, 2), (19, .iconst 2, 1), (20, .ireturn, 1), (21, .iconst 0, 1), (22, .ireturn, 1)]
theorem c_L_bar_ok : (c_L_bar).all (fun q => decide (decode method_9_code q.1 = .ok q.2)) = true := by decide +kernel
theorem d_L_bar_0 : decode method_9_code 0 = .ok (.aload_n 3, 1) := jx_dec c_L_bar_ok 0 rfl
theorem d_L_bar_1 : decode method_9_code 1 = .ok (.iconst 0, 1) := jx_dec c_L_bar_ok 1 rfl
theorem d_L_bar_2 : decode method_9_code 2 = .ok (.aload_n 0, 1) := jx_dec c_L_bar_ok 2 rfl
theorem d_L_bar_3 : decode method_9_code 3 = .ok (.iload_n 1, 1) := jx_dec c_L_bar_ok 3 rfl
theorem d_L_bar_4 : decode method_9_code 4 = .ok (.iload_n 2, 1) := jx_dec c_L_bar_ok 4 rfl
theorem d_L_bar_5 : decode method_9_code 5 = .ok (.invokevirtual 39, 3) := jx_dec c_L_bar_ok 5 rfl
theorem d_L_bar_8 : decode method_9_code 8 = .ok (.i2l, 1) := jx_dec c_L_bar_ok 6 rfl
theorem d_L_bar_9 : decode method_9_code 9 = .ok (.lastore, 1) := jx_dec c_L_bar_ok 7 rfl
theorem d_L_bar_10 : decode method_9_code 10 = .ok (.goto 11, 3) := jx_dec c_L_bar_ok 8 rfl
theorem d_L_bar_13 : decode method_9_code 13 = .ok (.astore 4, 2) := jx_dec c_L_bar_ok 9 rfl
theorem d_L_bar_15 : decode method_9_code 15 = .ok (.iconst 1, 1) := jx_dec c_L_bar_ok 10 rfl
theorem d_L_bar_16 : decode method_9_code 16 = .ok (.ireturn, 1) := jx_dec c_L_bar_ok 11 rfl
theorem d_L_bar_17 : decode method_9_code 17 = .ok (.astore 4, 2) := jx_dec c_L_bar_ok 12 rfl
theorem d_L_bar_19 : decode method_9_code 19 = .ok (.iconst 2, 1) := jx_dec c_L_bar_ok 13 rfl
theorem d_L_bar_20 : decode method_9_code 20 = .ok (.ireturn, 1) := jx_dec c_L_bar_ok 14 rfl
theorem d_L_bar_21 : decode method_9_code 21 = .ok (.iconst 0, 1) := jx_dec c_L_bar_ok 15 rfl
theorem d_L_bar_22 : decode method_9_code 22 = .ok (.ireturn, 1) := jx_dec c_L_bar_ok 16 rfl
def c_L_assign : List (Nat × Instr × Nat) := [(0, .aload_n 2, 1), (1, .iconst 0, 1), (2, .aload_n 0, 1), (3, .iload_n 1, 1), (4, .invokevirtual 42, 3), (7, .i2l, 1), (8, .lastore, 1), (9, .goto 6, 3), (12, .astore_n 3, 1), (13, .iconst 1, 1), (14, .ireturn, 1), (15, .iconst 0, 1), (16, .ireturn, 1)]
theorem c_L_assign_ok : (c_L_assign).all (fun q => decide (decode method_10_code q.1 = .ok q.2)) = true := by decide +kernel
theorem d_L_assign_0 : decode method_10_code 0 = .ok (.aload_n 2, 1) := jx_dec c_L_assign_ok 0 rfl
theorem d_L_assign_1 : decode method_10_code 1 = .ok (.iconst 0, 1) := jx_dec c_L_assign_ok 1 rfl
theorem d_L_assign_2 : decode method_10_code 2 = .ok (.aload_n 0, 1) := jx_dec c_L_assign_ok 2 rfl
theorem d_L_assign_3 : decode method_10_code 3 = .ok (.iload_n 1, 1) := jx_dec c_L_assign_ok 3 rfl
theorem d_L_assign_4 : decode method_10_code 4 = .ok (.invokevirtual 42, 3) := jx_dec c_L_assign_ok 4 rfl
theorem d_L_assign_7 : decode method_10_code 7 = .ok (.i2l, 1) := jx_dec c_L_assign_ok 5 rfl
theorem d_L_assign_8 : decode method_10_code 8 = .ok (.lastore, 1) := jx_dec c_L_assign_ok 6 rfl
theorem d_L_assign_9 : decode method_10_code 9 = .ok (.goto 6, 3) := jx_dec c_L_assign_ok 7 rfl
theorem d_L_assign_12 : decode method_10_code 12 = .ok (.astore_n 3, 1) := jx_dec c_L_assign_ok 8 rfl
theorem d_L_assign_13 : decode method_10_code 13 = .ok (.iconst 1, 1) := jx_dec c_L_assign_ok 9 rfl
theorem d_L_assign_14 : decode method_10_code 14 = .ok (.ireturn, 1) := jx_dec c_L_assign_ok 10 rfl
theorem d_L_assign_15 : decode method_10_code 15 = .ok (.iconst 0, 1) := jx_dec c_L_assign_ok 11 rfl
theorem d_L_assign_16 : decode method_10_code 16 = .ok (.ireturn, 1) := jx_dec c_L_assign_ok 12 rfl
def c_L_give : List (Nat × Instr × Nat) := [(0, .aload_n 2, 1), (1, .iconst 0, 1), (2, .aload_n 0, 1), (3, .iload_n 1, 1), (4, .invokevirtual 46, 3), (7, .i2l, 1), (8, .lastore, 1), (9, .goto 9, 3), (12, .astore_n 3, 1), (13, .iconst 1, 1), (14, .ireturn, 1), (15, .astore_n 3, 1), (16, .iconst 2, 1), (17, .ireturn, 1), (18, .iconst 0, 1), (19, .ireturn, 1)]
theorem c_L_give_ok : (c_L_give).all (fun q => decide (decode method_11_code q.1 = .ok q.2)) = true := by decide +kernel
theorem d_L_give_0 : decode method_11_code 0 = .ok (.aload_n 2, 1) := jx_dec c_L_give_ok 0 rfl
theorem d_L_give_1 : decode method_11_code 1 = .ok (.iconst 0, 1) := jx_dec c_L_give_ok 1 rfl
theorem d_L_give_2 : decode method_11_code 2 = .ok (.aload_n 0, 1) := jx_dec c_L_give_ok 2 rfl
theorem d_L_give_3 : decode method_11_code 3 = .ok (.iload_n 1, 1) := jx_dec c_L_give_ok 3 rfl
theorem d_L_give_4 : decode method_11_code 4 = .ok (.invokevirtual 46, 3) := jx_dec c_L_give_ok 4 rfl
theorem d_L_give_7 : decode method_11_code 7 = .ok (.i2l, 1) := jx_dec c_L_give_ok 5 rfl
theorem d_L_give_8 : decode method_11_code 8 = .ok (.lastore, 1) := jx_dec c_L_give_ok 6 rfl
theorem d_L_give_9 : decode method_11_code 9 = .ok (.goto 9, 3) := jx_dec c_L_give_ok 7 rfl
theorem d_L_give_12 : decode method_11_code 12 = .ok (.astore_n 3, 1) := jx_dec c_L_give_ok 8 rfl
theorem d_L_give_13 : decode method_11_code 13 = .ok (.iconst 1, 1) := jx_dec c_L_give_ok 9 rfl
theorem d_L_give_14 : decode method_11_code 14 = .ok (.ireturn, 1) := jx_dec c_L_give_ok 10 rfl
theorem d_L_give_15 : decode method_11_code 15 = .ok (.astore_n 3, 1) := jx_dec c_L_give_ok 11 rfl
theorem d_L_give_16 : decode method_11_code 16 = .ok (.iconst 2, 1) := jx_dec c_L_give_ok 12 rfl
theorem d_L_give_17 : decode method_11_code 17 = .ok (.ireturn, 1) := jx_dec c_L_give_ok 13 rfl
theorem d_L_give_18 : decode method_11_code 18 = .ok (.iconst 0, 1) := jx_dec c_L_give_ok 14 rfl
theorem d_L_give_19 : decode method_11_code 19 = .ok (.ireturn, 1) := jx_dec c_L_give_ok 15 rfl
def c_L_done : List (Nat × Instr × Nat) := [(0, .aload_n 2, 1), (1, .iconst 0, 1), (2, .aload_n 0, 1), (3, .iload_n 1, 1), (4, .invokevirtual 49, 3), (7, .i2l, 1), (8, .lastore, 1), (9, .goto 9, 3), (12, .astore_n 3, 1), (13, .iconst 1, 1), (14, .ireturn, 1), (15, .astore_n 3, 1), (16, .iconst 2, 1), (17, .ireturn, 1), (18, .iconst 0, 1), (19, .ireturn, 1)]
theorem c_L_done_ok : (c_L_done).all (fun q => decide (decode method_12_code q.1 = .ok q.2)) = true := by decide +kernel
theorem d_L_done_0 : decode method_12_code 0 = .ok (.aload_n 2, 1) := jx_dec c_L_done_ok 0 rfl
theorem d_L_done_1 : decode method_12_code 1 = .ok (.iconst 0, 1) := jx_dec c_L_done_ok 1 rfl
theorem d_L_done_2 : decode method_12_code 2 = .ok (.aload_n 0, 1) := jx_dec c_L_done_ok 2 rfl
theorem d_L_done_3 : decode method_12_code 3 = .ok (.iload_n 1, 1) := jx_dec c_L_done_ok 3 rfl
theorem d_L_done_4 : decode method_12_code 4 = .ok (.invokevirtual 49, 3) := jx_dec c_L_done_ok 4 rfl
theorem d_L_done_7 : decode method_12_code 7 = .ok (.i2l, 1) := jx_dec c_L_done_ok 5 rfl
theorem d_L_done_8 : decode method_12_code 8 = .ok (.lastore, 1) := jx_dec c_L_done_ok 6 rfl
theorem d_L_done_9 : decode method_12_code 9 = .ok (.goto 9, 3) := jx_dec c_L_done_ok 7 rfl
theorem d_L_done_12 : decode method_12_code 12 = .ok (.astore_n 3, 1) := jx_dec c_L_done_ok 8 rfl
theorem d_L_done_13 : decode method_12_code 13 = .ok (.iconst 1, 1) := jx_dec c_L_done_ok 9 rfl
theorem d_L_done_14 : decode method_12_code 14 = .ok (.ireturn, 1) := jx_dec c_L_done_ok 10 rfl
theorem d_L_done_15 : decode method_12_code 15 = .ok (.astore_n 3, 1) := jx_dec c_L_done_ok 11 rfl
theorem d_L_done_16 : decode method_12_code 16 = .ok (.iconst 2, 1) := jx_dec c_L_done_ok 12 rfl
theorem d_L_done_17 : decode method_12_code 17 = .ok (.ireturn, 1) := jx_dec c_L_done_ok 13 rfl
theorem d_L_done_18 : decode method_12_code 18 = .ok (.iconst 0, 1) := jx_dec c_L_done_ok 14 rfl
theorem d_L_done_19 : decode method_12_code 19 = .ok (.ireturn, 1) := jx_dec c_L_done_ok 15 rfl
def c_L_leaves : List (Nat × Instr × Nat) := [(0, .aload_n 2, 1), (1, .iconst 0, 1), (2, .aload_n 0, 1), (3, .iload_n 1, 1), (4, .invokevirtual 52, 3), (7, .i2l, 1), (8, .lastore, 1), (9, .goto 9, 3), (12, .astore_n 3, 1), (13, .iconst 1, 1), (14, .ireturn, 1), (15, .astore_n 3, 1), (16, .iconst 2, 1), (17, .ireturn, 1), (18, .iconst 0, 1), (19, .ireturn, 1)]
theorem c_L_leaves_ok : (c_L_leaves).all (fun q => decide (decode method_13_code q.1 = .ok q.2)) = true := by decide +kernel
theorem d_L_leaves_0 : decode method_13_code 0 = .ok (.aload_n 2, 1) := jx_dec c_L_leaves_ok 0 rfl
theorem d_L_leaves_1 : decode method_13_code 1 = .ok (.iconst 0, 1) := jx_dec c_L_leaves_ok 1 rfl
theorem d_L_leaves_2 : decode method_13_code 2 = .ok (.aload_n 0, 1) := jx_dec c_L_leaves_ok 2 rfl
theorem d_L_leaves_3 : decode method_13_code 3 = .ok (.iload_n 1, 1) := jx_dec c_L_leaves_ok 3 rfl
theorem d_L_leaves_4 : decode method_13_code 4 = .ok (.invokevirtual 52, 3) := jx_dec c_L_leaves_ok 4 rfl
theorem d_L_leaves_7 : decode method_13_code 7 = .ok (.i2l, 1) := jx_dec c_L_leaves_ok 5 rfl
theorem d_L_leaves_8 : decode method_13_code 8 = .ok (.lastore, 1) := jx_dec c_L_leaves_ok 6 rfl
theorem d_L_leaves_9 : decode method_13_code 9 = .ok (.goto 9, 3) := jx_dec c_L_leaves_ok 7 rfl
theorem d_L_leaves_12 : decode method_13_code 12 = .ok (.astore_n 3, 1) := jx_dec c_L_leaves_ok 8 rfl
theorem d_L_leaves_13 : decode method_13_code 13 = .ok (.iconst 1, 1) := jx_dec c_L_leaves_ok 9 rfl
theorem d_L_leaves_14 : decode method_13_code 14 = .ok (.ireturn, 1) := jx_dec c_L_leaves_ok 10 rfl
theorem d_L_leaves_15 : decode method_13_code 15 = .ok (.astore_n 3, 1) := jx_dec c_L_leaves_ok 11 rfl
theorem d_L_leaves_16 : decode method_13_code 16 = .ok (.iconst 2, 1) := jx_dec c_L_leaves_ok 12 rfl
theorem d_L_leaves_17 : decode method_13_code 17 = .ok (.ireturn, 1) := jx_dec c_L_leaves_ok 13 rfl
theorem d_L_leaves_18 : decode method_13_code 18 = .ok (.iconst 0, 1) := jx_dec c_L_leaves_ok 14 rfl
theorem d_L_leaves_19 : decode method_13_code 19 = .ok (.ireturn, 1) := jx_dec c_L_leaves_ok 15 rfl
def c_L_fair : List (Nat × Instr × Nat) := [(0, .aload_n 2, 1), (1, .iconst 0, 1), (2, .aload_n 0, 1), (3, .iload_n 1, 1), (4, .invokevirtual 55, 3), (7, .i2l, 1), (8, .lastore, 1), (9, .goto 6, 3), (12, .astore_n 3, 1), (13, .iconst 1, 1), (14, .ireturn, 1), (15, .iconst 0, 1), (16, .ireturn, 1)]
theorem c_L_fair_ok : (c_L_fair).all (fun q => decide (decode method_14_code q.1 = .ok q.2)) = true := by decide +kernel
theorem d_L_fair_0 : decode method_14_code 0 = .ok (.aload_n 2, 1) := jx_dec c_L_fair_ok 0 rfl
theorem d_L_fair_1 : decode method_14_code 1 = .ok (.iconst 0, 1) := jx_dec c_L_fair_ok 1 rfl
theorem d_L_fair_2 : decode method_14_code 2 = .ok (.aload_n 0, 1) := jx_dec c_L_fair_ok 2 rfl
theorem d_L_fair_3 : decode method_14_code 3 = .ok (.iload_n 1, 1) := jx_dec c_L_fair_ok 3 rfl
theorem d_L_fair_4 : decode method_14_code 4 = .ok (.invokevirtual 55, 3) := jx_dec c_L_fair_ok 4 rfl
theorem d_L_fair_7 : decode method_14_code 7 = .ok (.i2l, 1) := jx_dec c_L_fair_ok 5 rfl
theorem d_L_fair_8 : decode method_14_code 8 = .ok (.lastore, 1) := jx_dec c_L_fair_ok 6 rfl
theorem d_L_fair_9 : decode method_14_code 9 = .ok (.goto 6, 3) := jx_dec c_L_fair_ok 7 rfl
theorem d_L_fair_12 : decode method_14_code 12 = .ok (.astore_n 3, 1) := jx_dec c_L_fair_ok 8 rfl
theorem d_L_fair_13 : decode method_14_code 13 = .ok (.iconst 1, 1) := jx_dec c_L_fair_ok 9 rfl
theorem d_L_fair_14 : decode method_14_code 14 = .ok (.ireturn, 1) := jx_dec c_L_fair_ok 10 rfl
theorem d_L_fair_15 : decode method_14_code 15 = .ok (.iconst 0, 1) := jx_dec c_L_fair_ok 11 rfl
theorem d_L_fair_16 : decode method_14_code 16 = .ok (.ireturn, 1) := jx_dec c_L_fair_ok 12 rfl
def c_L_pass : List (Nat × Instr × Nat) := [(0, .aload_n 0, 1), (1, .iload_n 1, 1), (2, .invokevirtual 58, 3), (5, .goto 6, 3), (8, .astore_n 2, 1), (9, .iconst 1, 1), (10, .ireturn, 1), (11, .iconst 0, 1), (12, .ireturn, 1)]
theorem c_L_pass_ok : (c_L_pass).all (fun q => decide (decode method_15_code q.1 = .ok q.2)) = true := by decide +kernel
theorem d_L_pass_0 : decode method_15_code 0 = .ok (.aload_n 0, 1) := jx_dec c_L_pass_ok 0 rfl
theorem d_L_pass_1 : decode method_15_code 1 = .ok (.iload_n 1, 1) := jx_dec c_L_pass_ok 1 rfl
theorem d_L_pass_2 : decode method_15_code 2 = .ok (.invokevirtual 58, 3) := jx_dec c_L_pass_ok 2 rfl
theorem d_L_pass_5 : decode method_15_code 5 = .ok (.goto 6, 3) := jx_dec c_L_pass_ok 3 rfl
theorem d_L_pass_8 : decode method_15_code 8 = .ok (.astore_n 2, 1) := jx_dec c_L_pass_ok 4 rfl
theorem d_L_pass_9 : decode method_15_code 9 = .ok (.iconst 1, 1) := jx_dec c_L_pass_ok 5 rfl
theorem d_L_pass_10 : decode method_15_code 10 = .ok (.ireturn, 1) := jx_dec c_L_pass_ok 6 rfl
theorem d_L_pass_11 : decode method_15_code 11 = .ok (.iconst 0, 1) := jx_dec c_L_pass_ok 7 rfl
theorem d_L_pass_12 : decode method_15_code 12 = .ok (.ireturn, 1) := jx_dec c_L_pass_ok 8 rfl
def c_L_order : List (Nat × Instr × Nat) := [(0, .aload_n 3, 1), (1, .iconst 0, 1), (2, .aload_n 0, 1), (3, .iload_n 1, 1), (4, .iload_n 2, 1), (5, .invokevirtual 62, 3), (8, .i2l, 1), (9, .lastore, 1), (10, .goto 11, 3), (13, .astore 4, 2), (15, .iconst 1, 1), (16, .ireturn, 1), (17, .astore 4, 2), (19, .iconst 2, 1), (20, .ireturn, 1), (21, .iconst 0, 1), (22, .ireturn, 1)]
theorem c_L_order_ok : (c_L_order).all (fun q => decide (decode method_16_code q.1 = .ok q.2)) = true := by decide +kernel
theorem d_L_order_0 : decode method_16_code 0 = .ok (.aload_n 3, 1) := jx_dec c_L_order_ok 0 rfl
theorem d_L_order_1 : decode method_16_code 1 = .ok (.iconst 0, 1) := jx_dec c_L_order_ok 1 rfl
theorem d_L_order_2 : decode method_16_code 2 = .ok (.aload_n 0, 1) := jx_dec c_L_order_ok 2 rfl
theorem d_L_order_3 : decode method_16_code 3 = .ok (.iload_n 1, 1) := jx_dec c_L_order_ok 3 rfl
theorem d_L_order_4 : decode method_16_code 4 = .ok (.iload_n 2, 1) := jx_dec c_L_order_ok 4 rfl
theorem d_L_order_5 : decode method_16_code 5 = .ok (.invokevirtual 62, 3) := jx_dec c_L_order_ok 5 rfl
theorem d_L_order_8 : decode method_16_code 8 = .ok (.i2l, 1) := jx_dec c_L_order_ok 6 rfl
theorem d_L_order_9 : decode method_16_code 9 = .ok (.lastore, 1) := jx_dec c_L_order_ok 7 rfl
theorem d_L_order_10 : decode method_16_code 10 = .ok (.goto 11, 3) := jx_dec c_L_order_ok 8 rfl
theorem d_L_order_13 : decode method_16_code 13 = .ok (.astore 4, 2) := jx_dec c_L_order_ok 9 rfl
theorem d_L_order_15 : decode method_16_code 15 = .ok (.iconst 1, 1) := jx_dec c_L_order_ok 10 rfl
theorem d_L_order_16 : decode method_16_code 16 = .ok (.ireturn, 1) := jx_dec c_L_order_ok 11 rfl
theorem d_L_order_17 : decode method_16_code 17 = .ok (.astore 4, 2) := jx_dec c_L_order_ok 12 rfl
theorem d_L_order_19 : decode method_16_code 19 = .ok (.iconst 2, 1) := jx_dec c_L_order_ok 13 rfl
theorem d_L_order_20 : decode method_16_code 20 = .ok (.ireturn, 1) := jx_dec c_L_order_ok 14 rfl
theorem d_L_order_21 : decode method_16_code 21 = .ok (.iconst 0, 1) := jx_dec c_L_order_ok 15 rfl
theorem d_L_order_22 : decode method_16_code 22 = .ok (.ireturn, 1) := jx_dec c_L_order_ok 16 rfl
def c_L_told : List (Nat × Instr × Nat) := [(0, .aload_n 3, 1), (1, .iconst 0, 1), (2, .aload_n 0, 1), (3, .iload_n 1, 1), (4, .iload_n 2, 1), (5, .invokevirtual 65, 3), (8, .i2l, 1), (9, .lastore, 1), (10, .goto 11, 3), (13, .astore 4, 2), (15, .iconst 1, 1), (16, .ireturn, 1), (17, .astore 4, 2), (19, .iconst 2, 1), (20, .ireturn, 1), (21, .iconst 0, 1), (22, .ireturn, 1)]
theorem c_L_told_ok : (c_L_told).all (fun q => decide (decode method_17_code q.1 = .ok q.2)) = true := by decide +kernel
theorem d_L_told_0 : decode method_17_code 0 = .ok (.aload_n 3, 1) := jx_dec c_L_told_ok 0 rfl
theorem d_L_told_1 : decode method_17_code 1 = .ok (.iconst 0, 1) := jx_dec c_L_told_ok 1 rfl
theorem d_L_told_2 : decode method_17_code 2 = .ok (.aload_n 0, 1) := jx_dec c_L_told_ok 2 rfl
theorem d_L_told_3 : decode method_17_code 3 = .ok (.iload_n 1, 1) := jx_dec c_L_told_ok 3 rfl
theorem d_L_told_4 : decode method_17_code 4 = .ok (.iload_n 2, 1) := jx_dec c_L_told_ok 4 rfl
theorem d_L_told_5 : decode method_17_code 5 = .ok (.invokevirtual 65, 3) := jx_dec c_L_told_ok 5 rfl
theorem d_L_told_8 : decode method_17_code 8 = .ok (.i2l, 1) := jx_dec c_L_told_ok 6 rfl
theorem d_L_told_9 : decode method_17_code 9 = .ok (.lastore, 1) := jx_dec c_L_told_ok 7 rfl
theorem d_L_told_10 : decode method_17_code 10 = .ok (.goto 11, 3) := jx_dec c_L_told_ok 8 rfl
theorem d_L_told_13 : decode method_17_code 13 = .ok (.astore 4, 2) := jx_dec c_L_told_ok 9 rfl
theorem d_L_told_15 : decode method_17_code 15 = .ok (.iconst 1, 1) := jx_dec c_L_told_ok 10 rfl
theorem d_L_told_16 : decode method_17_code 16 = .ok (.ireturn, 1) := jx_dec c_L_told_ok 11 rfl
theorem d_L_told_17 : decode method_17_code 17 = .ok (.astore 4, 2) := jx_dec c_L_told_ok 12 rfl
theorem d_L_told_19 : decode method_17_code 19 = .ok (.iconst 2, 1) := jx_dec c_L_told_ok 13 rfl
theorem d_L_told_20 : decode method_17_code 20 = .ok (.ireturn, 1) := jx_dec c_L_told_ok 14 rfl
theorem d_L_told_21 : decode method_17_code 21 = .ok (.iconst 0, 1) := jx_dec c_L_told_ok 15 rfl
theorem d_L_told_22 : decode method_17_code 22 = .ok (.ireturn, 1) := jx_dec c_L_told_ok 16 rfl
def c_L_known : List (Nat × Instr × Nat) := [(0, .aload_n 3, 1), (1, .iconst 0, 1), (2, .aload_n 0, 1), (3, .iload_n 1, 1), (4, .iload_n 2, 1), (5, .invokevirtual 68, 3), (8, .i2l, 1), (9, .lastore, 1), (10, .goto 11, 3), (13, .astore 4, 2), (15, .iconst 1, 1), (16, .ireturn, 1), (17, .astore 4, 2), (19, .iconst 2, 1), (20, .ireturn, 1), (21, .iconst 0, 1), (22, .ireturn, 1)]
theorem c_L_known_ok : (c_L_known).all (fun q => decide (decode method_18_code q.1 = .ok q.2)) = true := by decide +kernel
theorem d_L_known_0 : decode method_18_code 0 = .ok (.aload_n 3, 1) := jx_dec c_L_known_ok 0 rfl
theorem d_L_known_1 : decode method_18_code 1 = .ok (.iconst 0, 1) := jx_dec c_L_known_ok 1 rfl
theorem d_L_known_2 : decode method_18_code 2 = .ok (.aload_n 0, 1) := jx_dec c_L_known_ok 2 rfl
theorem d_L_known_3 : decode method_18_code 3 = .ok (.iload_n 1, 1) := jx_dec c_L_known_ok 3 rfl
theorem d_L_known_4 : decode method_18_code 4 = .ok (.iload_n 2, 1) := jx_dec c_L_known_ok 4 rfl
theorem d_L_known_5 : decode method_18_code 5 = .ok (.invokevirtual 68, 3) := jx_dec c_L_known_ok 5 rfl
theorem d_L_known_8 : decode method_18_code 8 = .ok (.i2l, 1) := jx_dec c_L_known_ok 6 rfl
theorem d_L_known_9 : decode method_18_code 9 = .ok (.lastore, 1) := jx_dec c_L_known_ok 7 rfl
theorem d_L_known_10 : decode method_18_code 10 = .ok (.goto 11, 3) := jx_dec c_L_known_ok 8 rfl
theorem d_L_known_13 : decode method_18_code 13 = .ok (.astore 4, 2) := jx_dec c_L_known_ok 9 rfl
theorem d_L_known_15 : decode method_18_code 15 = .ok (.iconst 1, 1) := jx_dec c_L_known_ok 10 rfl
theorem d_L_known_16 : decode method_18_code 16 = .ok (.ireturn, 1) := jx_dec c_L_known_ok 11 rfl
theorem d_L_known_17 : decode method_18_code 17 = .ok (.astore 4, 2) := jx_dec c_L_known_ok 12 rfl
theorem d_L_known_19 : decode method_18_code 19 = .ok (.iconst 2, 1) := jx_dec c_L_known_ok 13 rfl
theorem d_L_known_20 : decode method_18_code 20 = .ok (.ireturn, 1) := jx_dec c_L_known_ok 14 rfl
theorem d_L_known_21 : decode method_18_code 21 = .ok (.iconst 0, 1) := jx_dec c_L_known_ok 15 rfl
theorem d_L_known_22 : decode method_18_code 22 = .ok (.ireturn, 1) := jx_dec c_L_known_ok 16 rfl
