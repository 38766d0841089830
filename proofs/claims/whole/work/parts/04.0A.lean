/-! 04.0A: the instructions -/
def c_A_init : List (Nat × Instr × Nat) := [(0, .aload_n 0, 1), (1, .invokespecial 1, 3), (4, .aload_n 0, 1), (5, .getstatic 39, 3), (8, .putfield 9, 3), (11, .return_, 1)]
theorem c_A_init_ok : (c_A_init).all (fun q => decide (decode prog_23_method_2_code q.1 = .ok q.2)) = true := by decide +kernel
theorem d_A_init_0 : decode prog_23_method_2_code 0 = .ok (.aload_n 0, 1) := jx_dec c_A_init_ok 0 rfl
theorem d_A_init_1 : decode prog_23_method_2_code 1 = .ok (.invokespecial 1, 3) := jx_dec c_A_init_ok 1 rfl
theorem d_A_init_4 : decode prog_23_method_2_code 4 = .ok (.aload_n 0, 1) := jx_dec c_A_init_ok 2 rfl
theorem d_A_init_5 : decode prog_23_method_2_code 5 = .ok (.getstatic 39, 3) := jx_dec c_A_init_ok 3 rfl
theorem d_A_init_8 : decode prog_23_method_2_code 8 = .ok (.putfield 9, 3) := jx_dec c_A_init_ok 4 rfl
theorem d_A_init_11 : decode prog_23_method_2_code 11 = .ok (.return_, 1) := jx_dec c_A_init_ok 5 rfl
def c_A_size : List (Nat × Instr × Nat) := [(0, .aload_n 0, 1), (1, .getfield 48, 3), (4, .ireturn, 1)]
theorem c_A_size_ok : (c_A_size).all (fun q => decide (decode prog_23_method_8_code q.1 = .ok q.2)) = true := by decide +kernel
theorem d_A_size_0 : decode prog_23_method_8_code 0 = .ok (.aload_n 0, 1) := jx_dec c_A_size_ok 0 rfl
theorem d_A_size_1 : decode prog_23_method_8_code 1 = .ok (.getfield 48, 3) := jx_dec c_A_size_ok 1 rfl
theorem d_A_size_4 : decode prog_23_method_8_code 4 = .ok (.ireturn, 1) := jx_dec c_A_size_ok 2 rfl
def c_A_get : List (Nat × Instr × Nat) := [(0, .iload_n 1, 1), (1, .aload_n 0, 1), (2, .getfield 48, 3), (5, .invokestatic 118, 3), (8, .pop, 1), (9, .aload_n 0, 1), (10, .iload_n 1, 1), (11, .invokevirtual 123, 3), (14, .areturn, 1)]
theorem c_A_get_ok : (c_A_get).all (fun q => decide (decode prog_23_method_20_code q.1 = .ok q.2)) = true := by decide +kernel
theorem d_A_get_0 : decode prog_23_method_20_code 0 = .ok (.iload_n 1, 1) := jx_dec c_A_get_ok 0 rfl
theorem d_A_get_1 : decode prog_23_method_20_code 1 = .ok (.aload_n 0, 1) := jx_dec c_A_get_ok 1 rfl
theorem d_A_get_2 : decode prog_23_method_20_code 2 = .ok (.getfield 48, 3) := jx_dec c_A_get_ok 2 rfl
theorem d_A_get_5 : decode prog_23_method_20_code 5 = .ok (.invokestatic 118, 3) := jx_dec c_A_get_ok 3 rfl
theorem d_A_get_8 : decode prog_23_method_20_code 8 = .ok (.pop, 1) := jx_dec c_A_get_ok 4 rfl
theorem d_A_get_9 : decode prog_23_method_20_code 9 = .ok (.aload_n 0, 1) := jx_dec c_A_get_ok 5 rfl
theorem d_A_get_10 : decode prog_23_method_20_code 10 = .ok (.iload_n 1, 1) := jx_dec c_A_get_ok 6 rfl
theorem d_A_get_11 : decode prog_23_method_20_code 11 = .ok (.invokevirtual 123, 3) := jx_dec c_A_get_ok 7 rfl
theorem d_A_get_14 : decode prog_23_method_20_code 14 = .ok (.areturn, 1) := jx_dec c_A_get_ok 8 rfl
def c_A_elementData : List (Nat × Instr × Nat) := [(0, .aload_n 0, 1), (1, .getfield 9, 3), (4, .iload_n 1, 1), (5, .aaload, 1), (6, .areturn, 1)]
theorem c_A_elementData_ok : (c_A_elementData).all (fun q => decide (decode prog_23_method_18_code q.1 = .ok q.2)) = true := by decide +kernel
theorem d_A_elementData_0 : decode prog_23_method_18_code 0 = .ok (.aload_n 0, 1) := jx_dec c_A_elementData_ok 0 rfl
theorem d_A_elementData_1 : decode prog_23_method_18_code 1 = .ok (.getfield 9, 3) := jx_dec c_A_elementData_ok 1 rfl
theorem d_A_elementData_4 : decode prog_23_method_18_code 4 = .ok (.iload_n 1, 1) := jx_dec c_A_elementData_ok 2 rfl
theorem d_A_elementData_5 : decode prog_23_method_18_code 5 = .ok (.aaload, 1) := jx_dec c_A_elementData_ok 3 rfl
theorem d_A_elementData_6 : decode prog_23_method_18_code 6 = .ok (.areturn, 1) := jx_dec c_A_elementData_ok 4 rfl
def c_A_add : List (Nat × Instr × Nat) := [(0, .aload_n 0, 1), (1, .dup, 1), (2, .getfield 63, 3), (5, .iconst 1, 1), (6, .iadd, 1), (7, .putfield 63, 3), (10, .aload_n 0, 1), (11, .aload_n 1, 1), (12, .aload_n 0, 1), (13, .getfield 9, 3), (16, .aload_n 0, 1), (17, .getfield 48, 3), (20, .invokevirtual 131, 3), (23, .iconst 1, 1), (24, .ireturn, 1)]
theorem c_A_add_ok : (c_A_add).all (fun q => decide (decode prog_23_method_25_code q.1 = .ok q.2)) = true := by decide +kernel
theorem d_A_add_0 : decode prog_23_method_25_code 0 = .ok (.aload_n 0, 1) := jx_dec c_A_add_ok 0 rfl
theorem d_A_add_1 : decode prog_23_method_25_code 1 = .ok (.dup, 1) := jx_dec c_A_add_ok 1 rfl
theorem d_A_add_2 : decode prog_23_method_25_code 2 = .ok (.getfield 63, 3) := jx_dec c_A_add_ok 2 rfl
theorem d_A_add_5 : decode prog_23_method_25_code 5 = .ok (.iconst 1, 1) := jx_dec c_A_add_ok 3 rfl
theorem d_A_add_6 : decode prog_23_method_25_code 6 = .ok (.iadd, 1) := jx_dec c_A_add_ok 4 rfl
theorem d_A_add_7 : decode prog_23_method_25_code 7 = .ok (.putfield 63, 3) := jx_dec c_A_add_ok 5 rfl
theorem d_A_add_10 : decode prog_23_method_25_code 10 = .ok (.aload_n 0, 1) := jx_dec c_A_add_ok 6 rfl
theorem d_A_add_11 : decode prog_23_method_25_code 11 = .ok (.aload_n 1, 1) := jx_dec c_A_add_ok 7 rfl
theorem d_A_add_12 : decode prog_23_method_25_code 12 = .ok (.aload_n 0, 1) := jx_dec c_A_add_ok 8 rfl
theorem d_A_add_13 : decode prog_23_method_25_code 13 = .ok (.getfield 9, 3) := jx_dec c_A_add_ok 9 rfl
theorem d_A_add_16 : decode prog_23_method_25_code 16 = .ok (.aload_n 0, 1) := jx_dec c_A_add_ok 10 rfl
theorem d_A_add_17 : decode prog_23_method_25_code 17 = .ok (.getfield 48, 3) := jx_dec c_A_add_ok 11 rfl
theorem d_A_add_20 : decode prog_23_method_25_code 20 = .ok (.invokevirtual 131, 3) := jx_dec c_A_add_ok 12 rfl
theorem d_A_add_23 : decode prog_23_method_25_code 23 = .ok (.iconst 1, 1) := jx_dec c_A_add_ok 13 rfl
theorem d_A_add_24 : decode prog_23_method_25_code 24 = .ok (.ireturn, 1) := jx_dec c_A_add_ok 14 rfl
def c_A_add3 : List (Nat × Instr × Nat) := [(0, .iload_n 3, 1), (1, .aload_n 2, 1), (2, .arraylength, 1), (3, .if_icmp .ne 8, 3), (6, .aload_n 0, 1), (7, .invokevirtual 129, 3), (10, .astore_n 2, 1), (11, .aload_n 2, 1), (12, .iload_n 3, 1), (13, .aload_n 1, 1), (14, .aastore, 1), (15, .aload_n 0, 1), (16, .iload_n 3, 1), (17, .iconst 1, 1), (18, .iadd, 1), (19, .putfield 48, 3), (22, .return_, 1)]
theorem c_A_add3_ok : (c_A_add3).all (fun q => decide (decode prog_23_method_24_code q.1 = .ok q.2)) = true := by decide +kernel
theorem d_A_add3_0 : decode prog_23_method_24_code 0 = .ok (.iload_n 3, 1) := jx_dec c_A_add3_ok 0 rfl
theorem d_A_add3_1 : decode prog_23_method_24_code 1 = .ok (.aload_n 2, 1) := jx_dec c_A_add3_ok 1 rfl
theorem d_A_add3_2 : decode prog_23_method_24_code 2 = .ok (.arraylength, 1) := jx_dec c_A_add3_ok 2 rfl
theorem d_A_add3_3 : decode prog_23_method_24_code 3 = .ok (.if_icmp .ne 8, 3) := jx_dec c_A_add3_ok 3 rfl
theorem d_A_add3_6 : decode prog_23_method_24_code 6 = .ok (.aload_n 0, 1) := jx_dec c_A_add3_ok 4 rfl
theorem d_A_add3_7 : decode prog_23_method_24_code 7 = .ok (.invokevirtual 129, 3) := jx_dec c_A_add3_ok 5 rfl
theorem d_A_add3_10 : decode prog_23_method_24_code 10 = .ok (.astore_n 2, 1) := jx_dec c_A_add3_ok 6 rfl
theorem d_A_add3_11 : decode prog_23_method_24_code 11 = .ok (.aload_n 2, 1) := jx_dec c_A_add3_ok 7 rfl
theorem d_A_add3_12 : decode prog_23_method_24_code 12 = .ok (.iload_n 3, 1) := jx_dec c_A_add3_ok 8 rfl
theorem d_A_add3_13 : decode prog_23_method_24_code 13 = .ok (.aload_n 1, 1) := jx_dec c_A_add3_ok 9 rfl
theorem d_A_add3_14 : decode prog_23_method_24_code 14 = .ok (.aastore, 1) := jx_dec c_A_add3_ok 10 rfl
theorem d_A_add3_15 : decode prog_23_method_24_code 15 = .ok (.aload_n 0, 1) := jx_dec c_A_add3_ok 11 rfl
theorem d_A_add3_16 : decode prog_23_method_24_code 16 = .ok (.iload_n 3, 1) := jx_dec c_A_add3_ok 12 rfl
theorem d_A_add3_17 : decode prog_23_method_24_code 17 = .ok (.iconst 1, 1) := jx_dec c_A_add3_ok 13 rfl
theorem d_A_add3_18 : decode prog_23_method_24_code 18 = .ok (.iadd, 1) := jx_dec c_A_add3_ok 14 rfl
theorem d_A_add3_19 : decode prog_23_method_24_code 19 = .ok (.putfield 48, 3) := jx_dec c_A_add3_ok 15 rfl
theorem d_A_add3_22 : decode prog_23_method_24_code 22 = .ok (.return_, 1) := jx_dec c_A_add3_ok 16 rfl
def c_A_grow : List (Nat × Instr × Nat) := [(0, .aload_n 0, 1), (1, .aload_n 0, 1), (2, .getfield 48, 3), (5, .iconst 1, 1), (6, .iadd, 1), (7, .invokevirtual 69, 3), (10, .areturn, 1)]
theorem c_A_grow_ok : (c_A_grow).all (fun q => decide (decode prog_23_method_7_code q.1 = .ok q.2)) = true := by decide +kernel
theorem d_A_grow_0 : decode prog_23_method_7_code 0 = .ok (.aload_n 0, 1) := jx_dec c_A_grow_ok 0 rfl
theorem d_A_grow_1 : decode prog_23_method_7_code 1 = .ok (.aload_n 0, 1) := jx_dec c_A_grow_ok 1 rfl
theorem d_A_grow_2 : decode prog_23_method_7_code 2 = .ok (.getfield 48, 3) := jx_dec c_A_grow_ok 2 rfl
theorem d_A_grow_5 : decode prog_23_method_7_code 5 = .ok (.iconst 1, 1) := jx_dec c_A_grow_ok 3 rfl
theorem d_A_grow_6 : decode prog_23_method_7_code 6 = .ok (.iadd, 1) := jx_dec c_A_grow_ok 4 rfl
theorem d_A_grow_7 : decode prog_23_method_7_code 7 = .ok (.invokevirtual 69, 3) := jx_dec c_A_grow_ok 5 rfl
theorem d_A_grow_10 : decode prog_23_method_7_code 10 = .ok (.areturn, 1) := jx_dec c_A_grow_ok 6 rfl
def c_A_growBy : List (Nat × Instr × Nat) := [(0, .aload_n 0, 1), (1, .getfield 9, 3), (4, .arraylength, 1), (5, .istore_n 2, 1), (6, .iload_n 2, 1), (7, .ifCond .gt 13, 3), (10, .aload_n 0, 1), (11, .getfield 9, 3), (14, .getstatic 39, 3), (17, .if_acmp .eq 28, 3), (20, .iload_n 2, 1), (21, .iload_n 1, 1), (22, .iload_n 2, 1), (23, .isub, 1), (24, .iload_n 2, 1), (25, .iconst 1, 1), (26, .ishr, 1), (27, .invokestatic 73, 3), (30, .istore_n 3, 1), (31, .aload_n 0, 1), (32, .aload_n 0, 1), (33, .getfield 9, 3), (36, .iload_n 3, 1), (37, .invokestatic 66, 3), (40, .dup_x1, 1), (41, .putfield 9, 3), (44, .areturn, 1), (45, .aload_n 0, 1), (46, .bipush 10, 2), (48, .iload_n 1, 1), (49, .invokestatic 79, 3), (52, .anewarray 7, 3), (55, .dup_x1, 1), (56, .putfield 9, 3), (59, .areturn, 1)]
theorem c_A_growBy_ok : (c_A_growBy).all (fun q => decide (decode prog_23_method_6_code q.1 = .ok q.2)) = true := by decide +kernel
theorem d_A_growBy_0 : decode prog_23_method_6_code 0 = .ok (.aload_n 0, 1) := jx_dec c_A_growBy_ok 0 rfl
theorem d_A_growBy_1 : decode prog_23_method_6_code 1 = .ok (.getfield 9, 3) := jx_dec c_A_growBy_ok 1 rfl
theorem d_A_growBy_4 : decode prog_23_method_6_code 4 = .ok (.arraylength, 1) := jx_dec c_A_growBy_ok 2 rfl
theorem d_A_growBy_5 : decode prog_23_method_6_code 5 = .ok (.istore_n 2, 1) := jx_dec c_A_growBy_ok 3 rfl
theorem d_A_growBy_6 : decode prog_23_method_6_code 6 = .ok (.iload_n 2, 1) := jx_dec c_A_growBy_ok 4 rfl
theorem d_A_growBy_7 : decode prog_23_method_6_code 7 = .ok (.ifCond .gt 13, 3) := jx_dec c_A_growBy_ok 5 rfl
theorem d_A_growBy_10 : decode prog_23_method_6_code 10 = .ok (.aload_n 0, 1) := jx_dec c_A_growBy_ok 6 rfl
theorem d_A_growBy_11 : decode prog_23_method_6_code 11 = .ok (.getfield 9, 3) := jx_dec c_A_growBy_ok 7 rfl
theorem d_A_growBy_14 : decode prog_23_method_6_code 14 = .ok (.getstatic 39, 3) := jx_dec c_A_growBy_ok 8 rfl
theorem d_A_growBy_17 : decode prog_23_method_6_code 17 = .ok (.if_acmp .eq 28, 3) := jx_dec c_A_growBy_ok 9 rfl
theorem d_A_growBy_20 : decode prog_23_method_6_code 20 = .ok (.iload_n 2, 1) := jx_dec c_A_growBy_ok 10 rfl
theorem d_A_growBy_21 : decode prog_23_method_6_code 21 = .ok (.iload_n 1, 1) := jx_dec c_A_growBy_ok 11 rfl
theorem d_A_growBy_22 : decode prog_23_method_6_code 22 = .ok (.iload_n 2, 1) := jx_dec c_A_growBy_ok 12 rfl
theorem d_A_growBy_23 : decode prog_23_method_6_code 23 = .ok (.isub, 1) := jx_dec c_A_growBy_ok 13 rfl
theorem d_A_growBy_24 : decode prog_23_method_6_code 24 = .ok (.iload_n 2, 1) := jx_dec c_A_growBy_ok 14 rfl
theorem d_A_growBy_25 : decode prog_23_method_6_code 25 = .ok (.iconst 1, 1) := jx_dec c_A_growBy_ok 15 rfl
theorem d_A_growBy_26 : decode prog_23_method_6_code 26 = .ok (.ishr, 1) := jx_dec c_A_growBy_ok 16 rfl
theorem d_A_growBy_27 : decode prog_23_method_6_code 27 = .ok (.invokestatic 73, 3) := jx_dec c_A_growBy_ok 17 rfl
theorem d_A_growBy_30 : decode prog_23_method_6_code 30 = .ok (.istore_n 3, 1) := jx_dec c_A_growBy_ok 18 rfl
theorem d_A_growBy_31 : decode prog_23_method_6_code 31 = .ok (.aload_n 0, 1) := jx_dec c_A_growBy_ok 19 rfl
theorem d_A_growBy_32 : decode prog_23_method_6_code 32 = .ok (.aload_n 0, 1) := jx_dec c_A_growBy_ok 20 rfl
theorem d_A_growBy_33 : decode prog_23_method_6_code 33 = .ok (.getfield 9, 3) := jx_dec c_A_growBy_ok 21 rfl
theorem d_A_growBy_36 : decode prog_23_method_6_code 36 = .ok (.iload_n 3, 1) := jx_dec c_A_growBy_ok 22 rfl
theorem d_A_growBy_37 : decode prog_23_method_6_code 37 = .ok (.invokestatic 66, 3) := jx_dec c_A_growBy_ok 23 rfl
theorem d_A_growBy_40 : decode prog_23_method_6_code 40 = .ok (.dup_x1, 1) := jx_dec c_A_growBy_ok 24 rfl
theorem d_A_growBy_41 : decode prog_23_method_6_code 41 = .ok (.putfield 9, 3) := jx_dec c_A_growBy_ok 25 rfl
theorem d_A_growBy_44 : decode prog_23_method_6_code 44 = .ok (.areturn, 1) := jx_dec c_A_growBy_ok 26 rfl
theorem d_A_growBy_45 : decode prog_23_method_6_code 45 = .ok (.aload_n 0, 1) := jx_dec c_A_growBy_ok 27 rfl
theorem d_A_growBy_46 : decode prog_23_method_6_code 46 = .ok (.bipush 10, 2) := jx_dec c_A_growBy_ok 28 rfl
theorem d_A_growBy_48 : decode prog_23_method_6_code 48 = .ok (.iload_n 1, 1) := jx_dec c_A_growBy_ok 29 rfl
theorem d_A_growBy_49 : decode prog_23_method_6_code 49 = .ok (.invokestatic 79, 3) := jx_dec c_A_growBy_ok 30 rfl
theorem d_A_growBy_52 : decode prog_23_method_6_code 52 = .ok (.anewarray 7, 3) := jx_dec c_A_growBy_ok 31 rfl
theorem d_A_growBy_55 : decode prog_23_method_6_code 55 = .ok (.dup_x1, 1) := jx_dec c_A_growBy_ok 32 rfl
theorem d_A_growBy_56 : decode prog_23_method_6_code 56 = .ok (.putfield 9, 3) := jx_dec c_A_growBy_ok 33 rfl
theorem d_A_growBy_59 : decode prog_23_method_6_code 59 = .ok (.areturn, 1) := jx_dec c_A_growBy_ok 34 rfl
def c_A_clear : List (Nat × Instr × Nat) := [(0, .aload_n 0, 1), (1, .dup, 1), (2, .getfield 63, 3), (5, .iconst 1, 1), (6, .iadd, 1), (7, .putfield 63, 3), (10, .aload_n 0, 1), (11, .getfield 9, 3), (14, .astore_n 1, 1), (15, .aload_n 0, 1), (16, .getfield 48, 3), (19, .istore_n 2, 1), (20, .aload_n 0, 1), (21, .iconst 0, 1), (22, .dup_x1, 1), (23, .putfield 48, 3), (26, .istore_n 3, 1), (27, .iload_n 3, 1), (28, .iload_n 2, 1), (29, .if_icmp .ge 13, 3), (32, .aload_n 1, 1), (33, .iload_n 3, 1), (34, .aconst_null, 1), (35, .aastore, 1), (36, .iinc 3 1, 3), (39, .goto (-12), 3), (42, .return_, 1)]
theorem c_A_clear_ok : (c_A_clear).all (fun q => decide (decode prog_23_method_40_code q.1 = .ok q.2)) = true := by decide +kernel
theorem d_A_clear_0 : decode prog_23_method_40_code 0 = .ok (.aload_n 0, 1) := jx_dec c_A_clear_ok 0 rfl
theorem d_A_clear_1 : decode prog_23_method_40_code 1 = .ok (.dup, 1) := jx_dec c_A_clear_ok 1 rfl
theorem d_A_clear_2 : decode prog_23_method_40_code 2 = .ok (.getfield 63, 3) := jx_dec c_A_clear_ok 2 rfl
theorem d_A_clear_5 : decode prog_23_method_40_code 5 = .ok (.iconst 1, 1) := jx_dec c_A_clear_ok 3 rfl
theorem d_A_clear_6 : decode prog_23_method_40_code 6 = .ok (.iadd, 1) := jx_dec c_A_clear_ok 4 rfl
theorem d_A_clear_7 : decode prog_23_method_40_code 7 = .ok (.putfield 63, 3) := jx_dec c_A_clear_ok 5 rfl
theorem d_A_clear_10 : decode prog_23_method_40_code 10 = .ok (.aload_n 0, 1) := jx_dec c_A_clear_ok 6 rfl
theorem d_A_clear_11 : decode prog_23_method_40_code 11 = .ok (.getfield 9, 3) := jx_dec c_A_clear_ok 7 rfl
theorem d_A_clear_14 : decode prog_23_method_40_code 14 = .ok (.astore_n 1, 1) := jx_dec c_A_clear_ok 8 rfl
theorem d_A_clear_15 : decode prog_23_method_40_code 15 = .ok (.aload_n 0, 1) := jx_dec c_A_clear_ok 9 rfl
theorem d_A_clear_16 : decode prog_23_method_40_code 16 = .ok (.getfield 48, 3) := jx_dec c_A_clear_ok 10 rfl
theorem d_A_clear_19 : decode prog_23_method_40_code 19 = .ok (.istore_n 2, 1) := jx_dec c_A_clear_ok 11 rfl
theorem d_A_clear_20 : decode prog_23_method_40_code 20 = .ok (.aload_n 0, 1) := jx_dec c_A_clear_ok 12 rfl
theorem d_A_clear_21 : decode prog_23_method_40_code 21 = .ok (.iconst 0, 1) := jx_dec c_A_clear_ok 13 rfl
theorem d_A_clear_22 : decode prog_23_method_40_code 22 = .ok (.dup_x1, 1) := jx_dec c_A_clear_ok 14 rfl
theorem d_A_clear_23 : decode prog_23_method_40_code 23 = .ok (.putfield 48, 3) := jx_dec c_A_clear_ok 15 rfl
theorem d_A_clear_26 : decode prog_23_method_40_code 26 = .ok (.istore_n 3, 1) := jx_dec c_A_clear_ok 16 rfl
theorem d_A_clear_27 : decode prog_23_method_40_code 27 = .ok (.iload_n 3, 1) := jx_dec c_A_clear_ok 17 rfl
theorem d_A_clear_28 : decode prog_23_method_40_code 28 = .ok (.iload_n 2, 1) := jx_dec c_A_clear_ok 18 rfl
theorem d_A_clear_29 : decode prog_23_method_40_code 29 = .ok (.if_icmp .ge 13, 3) := jx_dec c_A_clear_ok 19 rfl
theorem d_A_clear_32 : decode prog_23_method_40_code 32 = .ok (.aload_n 1, 1) := jx_dec c_A_clear_ok 20 rfl
theorem d_A_clear_33 : decode prog_23_method_40_code 33 = .ok (.iload_n 3, 1) := jx_dec c_A_clear_ok 21 rfl
theorem d_A_clear_34 : decode prog_23_method_40_code 34 = .ok (.aconst_null, 1) := jx_dec c_A_clear_ok 22 rfl
theorem d_A_clear_35 : decode prog_23_method_40_code 35 = .ok (.aastore, 1) := jx_dec c_A_clear_ok 23 rfl
theorem d_A_clear_36 : decode prog_23_method_40_code 36 = .ok (.iinc 3 1, 3) := jx_dec c_A_clear_ok 24 rfl
theorem d_A_clear_39 : decode prog_23_method_40_code 39 = .ok (.goto (-12), 3) := jx_dec c_A_clear_ok 25 rfl
theorem d_A_clear_42 : decode prog_23_method_40_code 42 = .ok (.return_, 1) := jx_dec c_A_clear_ok 26 rfl
def c_A_addAt : List (Nat × Instr × Nat) := [(0, .aload_n 0, 1), (1, .iload_n 1, 1), (2, .invokevirtual 135, 3), (5, .aload_n 0, 1), (6, .dup, 1), (7, .getfield 63, 3), (10, .iconst 1, 1), (11, .iadd, 1), (12, .putfield 63, 3), (15, .aload_n 0, 1), (16, .getfield 48, 3), (19, .dup, 1), (20, .istore_n 3, 1), (21, .aload_n 0, 1), (22, .getfield 9, 3), (25, .dup, 1), (26, .astore 4, 2), (28, .arraylength, 1), (29, .if_icmp .ne 9, 3), (32, .aload_n 0, 1), (33, .invokevirtual 129, 3), (36, .astore 4, 2), (38, .aload 4, 2), (40, .iload_n 1, 1), (41, .aload 4, 2), (43, .iload_n 1, 1), (44, .iconst 1, 1), (45, .iadd, 1), (46, .iload_n 3, 1), (47, .iload_n 1, 1), (48, .isub, 1), (49, .invokestatic 112, 3), (52, .aload 4, 2), (54, .iload_n 1, 1), (55, .aload_n 2, 1), (56, .aastore, 1), (57, .aload_n 0, 1), (58, .iload_n 3, 1), (59, .iconst 1, 1), (60, .iadd, 1), (61, .putfield 48, 3), (64, .return_, 1)]
theorem c_A_addAt_ok : (c_A_addAt).all (fun q => decide (decode prog_23_method_26_code q.1 = .ok q.2)) = true := by decide +kernel
theorem d_A_addAt_0 : decode prog_23_method_26_code 0 = .ok (.aload_n 0, 1) := jx_dec c_A_addAt_ok 0 rfl
theorem d_A_addAt_1 : decode prog_23_method_26_code 1 = .ok (.iload_n 1, 1) := jx_dec c_A_addAt_ok 1 rfl
theorem d_A_addAt_2 : decode prog_23_method_26_code 2 = .ok (.invokevirtual 135, 3) := jx_dec c_A_addAt_ok 2 rfl
theorem d_A_addAt_5 : decode prog_23_method_26_code 5 = .ok (.aload_n 0, 1) := jx_dec c_A_addAt_ok 3 rfl
theorem d_A_addAt_6 : decode prog_23_method_26_code 6 = .ok (.dup, 1) := jx_dec c_A_addAt_ok 4 rfl
theorem d_A_addAt_7 : decode prog_23_method_26_code 7 = .ok (.getfield 63, 3) := jx_dec c_A_addAt_ok 5 rfl
theorem d_A_addAt_10 : decode prog_23_method_26_code 10 = .ok (.iconst 1, 1) := jx_dec c_A_addAt_ok 6 rfl
theorem d_A_addAt_11 : decode prog_23_method_26_code 11 = .ok (.iadd, 1) := jx_dec c_A_addAt_ok 7 rfl
theorem d_A_addAt_12 : decode prog_23_method_26_code 12 = .ok (.putfield 63, 3) := jx_dec c_A_addAt_ok 8 rfl
theorem d_A_addAt_15 : decode prog_23_method_26_code 15 = .ok (.aload_n 0, 1) := jx_dec c_A_addAt_ok 9 rfl
theorem d_A_addAt_16 : decode prog_23_method_26_code 16 = .ok (.getfield 48, 3) := jx_dec c_A_addAt_ok 10 rfl
theorem d_A_addAt_19 : decode prog_23_method_26_code 19 = .ok (.dup, 1) := jx_dec c_A_addAt_ok 11 rfl
theorem d_A_addAt_20 : decode prog_23_method_26_code 20 = .ok (.istore_n 3, 1) := jx_dec c_A_addAt_ok 12 rfl
theorem d_A_addAt_21 : decode prog_23_method_26_code 21 = .ok (.aload_n 0, 1) := jx_dec c_A_addAt_ok 13 rfl
theorem d_A_addAt_22 : decode prog_23_method_26_code 22 = .ok (.getfield 9, 3) := jx_dec c_A_addAt_ok 14 rfl
theorem d_A_addAt_25 : decode prog_23_method_26_code 25 = .ok (.dup, 1) := jx_dec c_A_addAt_ok 15 rfl
theorem d_A_addAt_26 : decode prog_23_method_26_code 26 = .ok (.astore 4, 2) := jx_dec c_A_addAt_ok 16 rfl
theorem d_A_addAt_28 : decode prog_23_method_26_code 28 = .ok (.arraylength, 1) := jx_dec c_A_addAt_ok 17 rfl
theorem d_A_addAt_29 : decode prog_23_method_26_code 29 = .ok (.if_icmp .ne 9, 3) := jx_dec c_A_addAt_ok 18 rfl
theorem d_A_addAt_32 : decode prog_23_method_26_code 32 = .ok (.aload_n 0, 1) := jx_dec c_A_addAt_ok 19 rfl
theorem d_A_addAt_33 : decode prog_23_method_26_code 33 = .ok (.invokevirtual 129, 3) := jx_dec c_A_addAt_ok 20 rfl
theorem d_A_addAt_36 : decode prog_23_method_26_code 36 = .ok (.astore 4, 2) := jx_dec c_A_addAt_ok 21 rfl
theorem d_A_addAt_38 : decode prog_23_method_26_code 38 = .ok (.aload 4, 2) := jx_dec c_A_addAt_ok 22 rfl
theorem d_A_addAt_40 : decode prog_23_method_26_code 40 = .ok (.iload_n 1, 1) := jx_dec c_A_addAt_ok 23 rfl
theorem d_A_addAt_41 : decode prog_23_method_26_code 41 = .ok (.aload 4, 2) := jx_dec c_A_addAt_ok 24 rfl
theorem d_A_addAt_43 : decode prog_23_method_26_code 43 = .ok (.iload_n 1, 1) := jx_dec c_A_addAt_ok 25 rfl
theorem d_A_addAt_44 : decode prog_23_method_26_code 44 = .ok (.iconst 1, 1) := jx_dec c_A_addAt_ok 26 rfl
theorem d_A_addAt_45 : decode prog_23_method_26_code 45 = .ok (.iadd, 1) := jx_dec c_A_addAt_ok 27 rfl
theorem d_A_addAt_46 : decode prog_23_method_26_code 46 = .ok (.iload_n 3, 1) := jx_dec c_A_addAt_ok 28 rfl
theorem d_A_addAt_47 : decode prog_23_method_26_code 47 = .ok (.iload_n 1, 1) := jx_dec c_A_addAt_ok 29 rfl
theorem d_A_addAt_48 : decode prog_23_method_26_code 48 = .ok (.isub, 1) := jx_dec c_A_addAt_ok 30 rfl
theorem d_A_addAt_49 : decode prog_23_method_26_code 49 = .ok (.invokestatic 112, 3) := jx_dec c_A_addAt_ok 31 rfl
theorem d_A_addAt_52 : decode prog_23_method_26_code 52 = .ok (.aload 4, 2) := jx_dec c_A_addAt_ok 32 rfl
theorem d_A_addAt_54 : decode prog_23_method_26_code 54 = .ok (.iload_n 1, 1) := jx_dec c_A_addAt_ok 33 rfl
theorem d_A_addAt_55 : decode prog_23_method_26_code 55 = .ok (.aload_n 2, 1) := jx_dec c_A_addAt_ok 34 rfl
theorem d_A_addAt_56 : decode prog_23_method_26_code 56 = .ok (.aastore, 1) := jx_dec c_A_addAt_ok 35 rfl
theorem d_A_addAt_57 : decode prog_23_method_26_code 57 = .ok (.aload_n 0, 1) := jx_dec c_A_addAt_ok 36 rfl
theorem d_A_addAt_58 : decode prog_23_method_26_code 58 = .ok (.iload_n 3, 1) := jx_dec c_A_addAt_ok 37 rfl
theorem d_A_addAt_59 : decode prog_23_method_26_code 59 = .ok (.iconst 1, 1) := jx_dec c_A_addAt_ok 38 rfl
theorem d_A_addAt_60 : decode prog_23_method_26_code 60 = .ok (.iadd, 1) := jx_dec c_A_addAt_ok 39 rfl
theorem d_A_addAt_61 : decode prog_23_method_26_code 61 = .ok (.putfield 48, 3) := jx_dec c_A_addAt_ok 40 rfl
theorem d_A_addAt_64 : decode prog_23_method_26_code 64 = .ok (.return_, 1) := jx_dec c_A_addAt_ok 41 rfl
def c_A_rangeCheckForAdd : List (Nat × Instr × Nat) := [(0, .iload_n 1, 1), (1, .aload_n 0, 1), (2, .getfield 48, 3), (5, .if_icmp .gt 7, 3), (8, .iload_n 1, 1), (9, .ifCond .ge 16, 3), (12, .new 187, 3), (15, .dup, 1), (16, .aload_n 0, 1), (17, .iload_n 1, 1), (18, .invokevirtual 198, 3), (21, .invokespecial 193, 3), (24, .athrow, 1), (25, .return_, 1)]
theorem c_A_rangeCheckForAdd_ok : (c_A_rangeCheckForAdd).all (fun q => decide (decode prog_23_method_45_code q.1 = .ok q.2)) = true := by decide +kernel
theorem d_A_rangeCheckForAdd_0 : decode prog_23_method_45_code 0 = .ok (.iload_n 1, 1) := jx_dec c_A_rangeCheckForAdd_ok 0 rfl
theorem d_A_rangeCheckForAdd_1 : decode prog_23_method_45_code 1 = .ok (.aload_n 0, 1) := jx_dec c_A_rangeCheckForAdd_ok 1 rfl
theorem d_A_rangeCheckForAdd_2 : decode prog_23_method_45_code 2 = .ok (.getfield 48, 3) := jx_dec c_A_rangeCheckForAdd_ok 2 rfl
theorem d_A_rangeCheckForAdd_5 : decode prog_23_method_45_code 5 = .ok (.if_icmp .gt 7, 3) := jx_dec c_A_rangeCheckForAdd_ok 3 rfl
theorem d_A_rangeCheckForAdd_8 : decode prog_23_method_45_code 8 = .ok (.iload_n 1, 1) := jx_dec c_A_rangeCheckForAdd_ok 4 rfl
theorem d_A_rangeCheckForAdd_9 : decode prog_23_method_45_code 9 = .ok (.ifCond .ge 16, 3) := jx_dec c_A_rangeCheckForAdd_ok 5 rfl
theorem d_A_rangeCheckForAdd_12 : decode prog_23_method_45_code 12 = .ok (.new 187, 3) := jx_dec c_A_rangeCheckForAdd_ok 6 rfl
theorem d_A_rangeCheckForAdd_15 : decode prog_23_method_45_code 15 = .ok (.dup, 1) := jx_dec c_A_rangeCheckForAdd_ok 7 rfl
theorem d_A_rangeCheckForAdd_16 : decode prog_23_method_45_code 16 = .ok (.aload_n 0, 1) := jx_dec c_A_rangeCheckForAdd_ok 8 rfl
theorem d_A_rangeCheckForAdd_17 : decode prog_23_method_45_code 17 = .ok (.iload_n 1, 1) := jx_dec c_A_rangeCheckForAdd_ok 9 rfl
theorem d_A_rangeCheckForAdd_18 : decode prog_23_method_45_code 18 = .ok (.invokevirtual 198, 3) := jx_dec c_A_rangeCheckForAdd_ok 10 rfl
theorem d_A_rangeCheckForAdd_21 : decode prog_23_method_45_code 21 = .ok (.invokespecial 193, 3) := jx_dec c_A_rangeCheckForAdd_ok 11 rfl
theorem d_A_rangeCheckForAdd_24 : decode prog_23_method_45_code 24 = .ok (.athrow, 1) := jx_dec c_A_rangeCheckForAdd_ok 12 rfl
theorem d_A_rangeCheckForAdd_25 : decode prog_23_method_45_code 25 = .ok (.return_, 1) := jx_dec c_A_rangeCheckForAdd_ok 13 rfl
