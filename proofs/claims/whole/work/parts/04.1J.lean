/-! 04.1J: the instructions -/
def c_JAbstractList_init : List (Nat × Instr × Nat) := [(0, .aload_n 0, 1), (1, .invokespecial 1, 3), (4, .aload_n 0, 1), (5, .iconst 0, 1), (6, .putfield 7, 3), (9, .return_, 1)]
theorem c_JAbstractList_init_ok : (c_JAbstractList_init).all (fun q => decide (decode prog_22_method_1_code q.1 = .ok q.2)) = true := by decide +kernel
theorem d_JAbstractList_init_0 : decode prog_22_method_1_code 0 = .ok (.aload_n 0, 1) := jx_dec c_JAbstractList_init_ok 0 rfl
theorem d_JAbstractList_init_1 : decode prog_22_method_1_code 1 = .ok (.invokespecial 1, 3) := jx_dec c_JAbstractList_init_ok 1 rfl
theorem d_JAbstractList_init_4 : decode prog_22_method_1_code 4 = .ok (.aload_n 0, 1) := jx_dec c_JAbstractList_init_ok 2 rfl
theorem d_JAbstractList_init_5 : decode prog_22_method_1_code 5 = .ok (.iconst 0, 1) := jx_dec c_JAbstractList_init_ok 3 rfl
theorem d_JAbstractList_init_6 : decode prog_22_method_1_code 6 = .ok (.putfield 7, 3) := jx_dec c_JAbstractList_init_ok 4 rfl
theorem d_JAbstractList_init_9 : decode prog_22_method_1_code 9 = .ok (.return_, 1) := jx_dec c_JAbstractList_init_ok 5 rfl
def c_JAbstractCollection_init : List (Nat × Instr × Nat) := [(0, .aload_n 0, 1), (1, .invokespecial 1, 3), (4, .return_, 1)]
theorem c_JAbstractCollection_init_ok : (c_JAbstractCollection_init).all (fun q => decide (decode prog_21_method_1_code q.1 = .ok q.2)) = true := by decide +kernel
theorem d_JAbstractCollection_init_0 : decode prog_21_method_1_code 0 = .ok (.aload_n 0, 1) := jx_dec c_JAbstractCollection_init_ok 0 rfl
theorem d_JAbstractCollection_init_1 : decode prog_21_method_1_code 1 = .ok (.invokespecial 1, 3) := jx_dec c_JAbstractCollection_init_ok 1 rfl
theorem d_JAbstractCollection_init_4 : decode prog_21_method_1_code 4 = .ok (.return_, 1) := jx_dec c_JAbstractCollection_init_ok 2 rfl
def c_JObjects_checkIndex : List (Nat × Instr × Nat) := [(0, .iload_n 0, 1), (1, .iload_n 1, 1), (2, .aconst_null, 1), (3, .invokestatic 105, 3), (6, .ireturn, 1)]
theorem c_JObjects_checkIndex_ok : (c_JObjects_checkIndex).all (fun q => decide (decode prog_28_method_17_code q.1 = .ok q.2)) = true := by decide +kernel
theorem d_JObjects_checkIndex_0 : decode prog_28_method_17_code 0 = .ok (.iload_n 0, 1) := jx_dec c_JObjects_checkIndex_ok 0 rfl
theorem d_JObjects_checkIndex_1 : decode prog_28_method_17_code 1 = .ok (.iload_n 1, 1) := jx_dec c_JObjects_checkIndex_ok 1 rfl
theorem d_JObjects_checkIndex_2 : decode prog_28_method_17_code 2 = .ok (.aconst_null, 1) := jx_dec c_JObjects_checkIndex_ok 2 rfl
theorem d_JObjects_checkIndex_3 : decode prog_28_method_17_code 3 = .ok (.invokestatic 105, 3) := jx_dec c_JObjects_checkIndex_ok 3 rfl
theorem d_JObjects_checkIndex_6 : decode prog_28_method_17_code 6 = .ok (.ireturn, 1) := jx_dec c_JObjects_checkIndex_ok 4 rfl
def c_JPreconditions_checkIndex : List (Nat × Instr × Nat) := [(0, .iload_n 0, 1), (1, .ifCond .lt 8, 3), (4, .iload_n 0, 1), (5, .iload_n 1, 1), (6, .if_icmp .lt 10, 3), (9, .aload_n 2, 1), (10, .iload_n 0, 1), (11, .iload_n 1, 1), (12, .invokestatic 95, 3), (15, .athrow, 1), (16, .iload_n 0, 1), (17, .ireturn, 1)]
theorem c_JPreconditions_checkIndex_ok : (c_JPreconditions_checkIndex).all (fun q => decide (decode prog_32_method_11_code q.1 = .ok q.2)) = true := by decide +kernel
theorem d_JPreconditions_checkIndex_0 : decode prog_32_method_11_code 0 = .ok (.iload_n 0, 1) := jx_dec c_JPreconditions_checkIndex_ok 0 rfl
theorem d_JPreconditions_checkIndex_1 : decode prog_32_method_11_code 1 = .ok (.ifCond .lt 8, 3) := jx_dec c_JPreconditions_checkIndex_ok 1 rfl
theorem d_JPreconditions_checkIndex_4 : decode prog_32_method_11_code 4 = .ok (.iload_n 0, 1) := jx_dec c_JPreconditions_checkIndex_ok 2 rfl
theorem d_JPreconditions_checkIndex_5 : decode prog_32_method_11_code 5 = .ok (.iload_n 1, 1) := jx_dec c_JPreconditions_checkIndex_ok 3 rfl
theorem d_JPreconditions_checkIndex_6 : decode prog_32_method_11_code 6 = .ok (.if_icmp .lt 10, 3) := jx_dec c_JPreconditions_checkIndex_ok 4 rfl
theorem d_JPreconditions_checkIndex_9 : decode prog_32_method_11_code 9 = .ok (.aload_n 2, 1) := jx_dec c_JPreconditions_checkIndex_ok 5 rfl
theorem d_JPreconditions_checkIndex_10 : decode prog_32_method_11_code 10 = .ok (.iload_n 0, 1) := jx_dec c_JPreconditions_checkIndex_ok 6 rfl
theorem d_JPreconditions_checkIndex_11 : decode prog_32_method_11_code 11 = .ok (.iload_n 1, 1) := jx_dec c_JPreconditions_checkIndex_ok 7 rfl
theorem d_JPreconditions_checkIndex_12 : decode prog_32_method_11_code 12 = .ok (.invokestatic 95, 3) := jx_dec c_JPreconditions_checkIndex_ok 8 rfl
theorem d_JPreconditions_checkIndex_15 : decode prog_32_method_11_code 15 = .ok (.athrow, 1) := jx_dec c_JPreconditions_checkIndex_ok 9 rfl
theorem d_JPreconditions_checkIndex_16 : decode prog_32_method_11_code 16 = .ok (.iload_n 0, 1) := jx_dec c_JPreconditions_checkIndex_ok 10 rfl
theorem d_JPreconditions_checkIndex_17 : decode prog_32_method_11_code 17 = .ok (.ireturn, 1) := jx_dec c_JPreconditions_checkIndex_ok 11 rfl
def c_JMath_max : List (Nat × Instr × Nat) := [(0, .iload_n 0, 1), (1, .iload_n 1, 1), (2, .if_icmp .lt 7, 3), (5, .iload_n 0, 1), (6, .goto 4, 3), (9, .iload_n 1, 1), (10, .ireturn, 1)]
theorem c_JMath_max_ok : (c_JMath_max).all (fun q => decide (decode prog_15_method_65_code q.1 = .ok q.2)) = true := by decide +kernel
theorem d_JMath_max_0 : decode prog_15_method_65_code 0 = .ok (.iload_n 0, 1) := jx_dec c_JMath_max_ok 0 rfl
theorem d_JMath_max_1 : decode prog_15_method_65_code 1 = .ok (.iload_n 1, 1) := jx_dec c_JMath_max_ok 1 rfl
theorem d_JMath_max_2 : decode prog_15_method_65_code 2 = .ok (.if_icmp .lt 7, 3) := jx_dec c_JMath_max_ok 2 rfl
theorem d_JMath_max_5 : decode prog_15_method_65_code 5 = .ok (.iload_n 0, 1) := jx_dec c_JMath_max_ok 3 rfl
theorem d_JMath_max_6 : decode prog_15_method_65_code 6 = .ok (.goto 4, 3) := jx_dec c_JMath_max_ok 4 rfl
theorem d_JMath_max_9 : decode prog_15_method_65_code 9 = .ok (.iload_n 1, 1) := jx_dec c_JMath_max_ok 5 rfl
theorem d_JMath_max_10 : decode prog_15_method_65_code 10 = .ok (.ireturn, 1) := jx_dec c_JMath_max_ok 6 rfl
def c_JMath_min : List (Nat × Instr × Nat) := [(0, .iload_n 0, 1), (1, .iload_n 1, 1), (2, .if_icmp .gt 7, 3), (5, .iload_n 0, 1), (6, .goto 4, 3), (9, .iload_n 1, 1), (10, .ireturn, 1)]
theorem c_JMath_min_ok : (c_JMath_min).all (fun q => decide (decode prog_15_method_69_code q.1 = .ok q.2)) = true := by decide +kernel
theorem d_JMath_min_0 : decode prog_15_method_69_code 0 = .ok (.iload_n 0, 1) := jx_dec c_JMath_min_ok 0 rfl
theorem d_JMath_min_1 : decode prog_15_method_69_code 1 = .ok (.iload_n 1, 1) := jx_dec c_JMath_min_ok 1 rfl
theorem d_JMath_min_2 : decode prog_15_method_69_code 2 = .ok (.if_icmp .gt 7, 3) := jx_dec c_JMath_min_ok 2 rfl
theorem d_JMath_min_5 : decode prog_15_method_69_code 5 = .ok (.iload_n 0, 1) := jx_dec c_JMath_min_ok 3 rfl
theorem d_JMath_min_6 : decode prog_15_method_69_code 6 = .ok (.goto 4, 3) := jx_dec c_JMath_min_ok 4 rfl
theorem d_JMath_min_9 : decode prog_15_method_69_code 9 = .ok (.iload_n 1, 1) := jx_dec c_JMath_min_ok 5 rfl
theorem d_JMath_min_10 : decode prog_15_method_69_code 10 = .ok (.ireturn, 1) := jx_dec c_JMath_min_ok 6 rfl
def c_JArraysSupport_newLength : List (Nat × Instr × Nat) := [(0, .iload_n 0, 1), (1, .iload_n 1, 1), (2, .iload_n 2, 1), (3, .invokestatic 194, 3), (6, .iadd, 1), (7, .istore_n 3, 1), (8, .iconst 0, 1), (9, .iload_n 3, 1), (10, .if_icmp .ge 11, 3), (13, .iload_n 3, 1), (14, .ldc 200, 2), (16, .if_icmp .gt 5, 3), (19, .iload_n 3, 1), (20, .ireturn, 1), (21, .iload_n 0, 1), (22, .iload_n 1, 1), (23, .invokestatic 201, 3), (26, .ireturn, 1)]
theorem c_JArraysSupport_newLength_ok : (c_JArraysSupport_newLength).all (fun q => decide (decode prog_31_method_27_code q.1 = .ok q.2)) = true := by decide +kernel
theorem d_JArraysSupport_newLength_0 : decode prog_31_method_27_code 0 = .ok (.iload_n 0, 1) := jx_dec c_JArraysSupport_newLength_ok 0 rfl
theorem d_JArraysSupport_newLength_1 : decode prog_31_method_27_code 1 = .ok (.iload_n 1, 1) := jx_dec c_JArraysSupport_newLength_ok 1 rfl
theorem d_JArraysSupport_newLength_2 : decode prog_31_method_27_code 2 = .ok (.iload_n 2, 1) := jx_dec c_JArraysSupport_newLength_ok 2 rfl
theorem d_JArraysSupport_newLength_3 : decode prog_31_method_27_code 3 = .ok (.invokestatic 194, 3) := jx_dec c_JArraysSupport_newLength_ok 3 rfl
theorem d_JArraysSupport_newLength_6 : decode prog_31_method_27_code 6 = .ok (.iadd, 1) := jx_dec c_JArraysSupport_newLength_ok 4 rfl
theorem d_JArraysSupport_newLength_7 : decode prog_31_method_27_code 7 = .ok (.istore_n 3, 1) := jx_dec c_JArraysSupport_newLength_ok 5 rfl
theorem d_JArraysSupport_newLength_8 : decode prog_31_method_27_code 8 = .ok (.iconst 0, 1) := jx_dec c_JArraysSupport_newLength_ok 6 rfl
theorem d_JArraysSupport_newLength_9 : decode prog_31_method_27_code 9 = .ok (.iload_n 3, 1) := jx_dec c_JArraysSupport_newLength_ok 7 rfl
theorem d_JArraysSupport_newLength_10 : decode prog_31_method_27_code 10 = .ok (.if_icmp .ge 11, 3) := jx_dec c_JArraysSupport_newLength_ok 8 rfl
theorem d_JArraysSupport_newLength_13 : decode prog_31_method_27_code 13 = .ok (.iload_n 3, 1) := jx_dec c_JArraysSupport_newLength_ok 9 rfl
theorem d_JArraysSupport_newLength_14 : decode prog_31_method_27_code 14 = .ok (.ldc 200, 2) := jx_dec c_JArraysSupport_newLength_ok 10 rfl
theorem d_JArraysSupport_newLength_16 : decode prog_31_method_27_code 16 = .ok (.if_icmp .gt 5, 3) := jx_dec c_JArraysSupport_newLength_ok 11 rfl
theorem d_JArraysSupport_newLength_19 : decode prog_31_method_27_code 19 = .ok (.iload_n 3, 1) := jx_dec c_JArraysSupport_newLength_ok 12 rfl
theorem d_JArraysSupport_newLength_20 : decode prog_31_method_27_code 20 = .ok (.ireturn, 1) := jx_dec c_JArraysSupport_newLength_ok 13 rfl
theorem d_JArraysSupport_newLength_21 : decode prog_31_method_27_code 21 = .ok (.iload_n 0, 1) := jx_dec c_JArraysSupport_newLength_ok 14 rfl
theorem d_JArraysSupport_newLength_22 : decode prog_31_method_27_code 22 = .ok (.iload_n 1, 1) := jx_dec c_JArraysSupport_newLength_ok 15 rfl
theorem d_JArraysSupport_newLength_23 : decode prog_31_method_27_code 23 = .ok (.invokestatic 201, 3) := jx_dec c_JArraysSupport_newLength_ok 16 rfl
theorem d_JArraysSupport_newLength_26 : decode prog_31_method_27_code 26 = .ok (.ireturn, 1) := jx_dec c_JArraysSupport_newLength_ok 17 rfl
def c_JArraysSupport_hugeLength : List (Nat × Instr × Nat) := [(0, .iload_n 0, 1), (1, .iload_n 1, 1), (2, .iadd, 1), (3, .istore_n 2, 1), (4, .iload_n 2, 1), (5, .ifCond .ge 44, 3), (8, .new 204, 3), (11, .dup, 1), (12, .new 89, 3), (15, .dup, 1), (16, .invokespecial 91, 3), (19, .ldc 206, 2), (21, .invokevirtual 94, 3), (24, .iload_n 0, 1), (25, .invokevirtual 98, 3), (28, .ldc 208, 2), (30, .invokevirtual 94, 3), (33, .iload_n 1, 1), (34, .invokevirtual 98, 3), (37, .ldc 210, 2), (39, .invokevirtual 94, 3), (42, .invokevirtual 101, 3), (45, .invokespecial 212, 3), (48, .athrow, 1), (49, .iload_n 2, 1), (50, .ldc 200, 2), (52, .if_icmp .gt 6, 3), (55, .ldc 200, 2), (57, .ireturn, 1), (58, .iload_n 2, 1), (59, .ireturn, 1)]
theorem c_JArraysSupport_hugeLength_ok : (c_JArraysSupport_hugeLength).all (fun q => decide (decode prog_31_method_28_code q.1 = .ok q.2)) = true := by decide +kernel
theorem d_JArraysSupport_hugeLength_0 : decode prog_31_method_28_code 0 = .ok (.iload_n 0, 1) := jx_dec c_JArraysSupport_hugeLength_ok 0 rfl
theorem d_JArraysSupport_hugeLength_1 : decode prog_31_method_28_code 1 = .ok (.iload_n 1, 1) := jx_dec c_JArraysSupport_hugeLength_ok 1 rfl
theorem d_JArraysSupport_hugeLength_2 : decode prog_31_method_28_code 2 = .ok (.iadd, 1) := jx_dec c_JArraysSupport_hugeLength_ok 2 rfl
theorem d_JArraysSupport_hugeLength_3 : decode prog_31_method_28_code 3 = .ok (.istore_n 2, 1) := jx_dec c_JArraysSupport_hugeLength_ok 3 rfl
theorem d_JArraysSupport_hugeLength_4 : decode prog_31_method_28_code 4 = .ok (.iload_n 2, 1) := jx_dec c_JArraysSupport_hugeLength_ok 4 rfl
theorem d_JArraysSupport_hugeLength_5 : decode prog_31_method_28_code 5 = .ok (.ifCond .ge 44, 3) := jx_dec c_JArraysSupport_hugeLength_ok 5 rfl
theorem d_JArraysSupport_hugeLength_8 : decode prog_31_method_28_code 8 = .ok (.new 204, 3) := jx_dec c_JArraysSupport_hugeLength_ok 6 rfl
theorem d_JArraysSupport_hugeLength_11 : decode prog_31_method_28_code 11 = .ok (.dup, 1) := jx_dec c_JArraysSupport_hugeLength_ok 7 rfl
theorem d_JArraysSupport_hugeLength_12 : decode prog_31_method_28_code 12 = .ok (.new 89, 3) := jx_dec c_JArraysSupport_hugeLength_ok 8 rfl
theorem d_JArraysSupport_hugeLength_15 : decode prog_31_method_28_code 15 = .ok (.dup, 1) := jx_dec c_JArraysSupport_hugeLength_ok 9 rfl
theorem d_JArraysSupport_hugeLength_16 : decode prog_31_method_28_code 16 = .ok (.invokespecial 91, 3) := jx_dec c_JArraysSupport_hugeLength_ok 10 rfl
theorem d_JArraysSupport_hugeLength_19 : decode prog_31_method_28_code 19 = .ok (.ldc 206, 2) := jx_dec c_JArraysSupport_hugeLength_ok 11 rfl
theorem d_JArraysSupport_hugeLength_21 : decode prog_31_method_28_code 21 = .ok (.invokevirtual 94, 3) := jx_dec c_JArraysSupport_hugeLength_ok 12 rfl
theorem d_JArraysSupport_hugeLength_24 : decode prog_31_method_28_code 24 = .ok (.iload_n 0, 1) := jx_dec c_JArraysSupport_hugeLength_ok 13 rfl
theorem d_JArraysSupport_hugeLength_25 : decode prog_31_method_28_code 25 = .ok (.invokevirtual 98, 3) := jx_dec c_JArraysSupport_hugeLength_ok 14 rfl
theorem d_JArraysSupport_hugeLength_28 : decode prog_31_method_28_code 28 = .ok (.ldc 208, 2) := jx_dec c_JArraysSupport_hugeLength_ok 15 rfl
theorem d_JArraysSupport_hugeLength_30 : decode prog_31_method_28_code 30 = .ok (.invokevirtual 94, 3) := jx_dec c_JArraysSupport_hugeLength_ok 16 rfl
theorem d_JArraysSupport_hugeLength_33 : decode prog_31_method_28_code 33 = .ok (.iload_n 1, 1) := jx_dec c_JArraysSupport_hugeLength_ok 17 rfl
theorem d_JArraysSupport_hugeLength_34 : decode prog_31_method_28_code 34 = .ok (.invokevirtual 98, 3) := jx_dec c_JArraysSupport_hugeLength_ok 18 rfl
theorem d_JArraysSupport_hugeLength_37 : decode prog_31_method_28_code 37 = .ok (.ldc 210, 2) := jx_dec c_JArraysSupport_hugeLength_ok 19 rfl
theorem d_JArraysSupport_hugeLength_39 : decode prog_31_method_28_code 39 = .ok (.invokevirtual 94, 3) := jx_dec c_JArraysSupport_hugeLength_ok 20 rfl
theorem d_JArraysSupport_hugeLength_42 : decode prog_31_method_28_code 42 = .ok (.invokevirtual 101, 3) := jx_dec c_JArraysSupport_hugeLength_ok 21 rfl
theorem d_JArraysSupport_hugeLength_45 : decode prog_31_method_28_code 45 = .ok (.invokespecial 212, 3) := jx_dec c_JArraysSupport_hugeLength_ok 22 rfl
theorem d_JArraysSupport_hugeLength_48 : decode prog_31_method_28_code 48 = .ok (.athrow, 1) := jx_dec c_JArraysSupport_hugeLength_ok 23 rfl
theorem d_JArraysSupport_hugeLength_49 : decode prog_31_method_28_code 49 = .ok (.iload_n 2, 1) := jx_dec c_JArraysSupport_hugeLength_ok 24 rfl
theorem d_JArraysSupport_hugeLength_50 : decode prog_31_method_28_code 50 = .ok (.ldc 200, 2) := jx_dec c_JArraysSupport_hugeLength_ok 25 rfl
theorem d_JArraysSupport_hugeLength_52 : decode prog_31_method_28_code 52 = .ok (.if_icmp .gt 6, 3) := jx_dec c_JArraysSupport_hugeLength_ok 26 rfl
theorem d_JArraysSupport_hugeLength_55 : decode prog_31_method_28_code 55 = .ok (.ldc 200, 2) := jx_dec c_JArraysSupport_hugeLength_ok 27 rfl
theorem d_JArraysSupport_hugeLength_57 : decode prog_31_method_28_code 57 = .ok (.ireturn, 1) := jx_dec c_JArraysSupport_hugeLength_ok 28 rfl
theorem d_JArraysSupport_hugeLength_58 : decode prog_31_method_28_code 58 = .ok (.iload_n 2, 1) := jx_dec c_JArraysSupport_hugeLength_ok 29 rfl
theorem d_JArraysSupport_hugeLength_59 : decode prog_31_method_28_code 59 = .ok (.ireturn, 1) := jx_dec c_JArraysSupport_hugeLength_ok 30 rfl
def c_JArrays_copyOf : List (Nat × Instr × Nat) := [(0, .aload_n 0, 1), (1, .iload_n 1, 1), (2, .aload_n 0, 1), (3, .invokevirtual 86, 3), (6, .invokestatic 300, 3), (9, .areturn, 1)]
theorem c_JArrays_copyOf_ok : (c_JArrays_copyOf).all (fun q => decide (decode prog_24_method_119_code q.1 = .ok q.2)) = true := by decide +kernel
theorem d_JArrays_copyOf_0 : decode prog_24_method_119_code 0 = .ok (.aload_n 0, 1) := jx_dec c_JArrays_copyOf_ok 0 rfl
theorem d_JArrays_copyOf_1 : decode prog_24_method_119_code 1 = .ok (.iload_n 1, 1) := jx_dec c_JArrays_copyOf_ok 1 rfl
theorem d_JArrays_copyOf_2 : decode prog_24_method_119_code 2 = .ok (.aload_n 0, 1) := jx_dec c_JArrays_copyOf_ok 2 rfl
theorem d_JArrays_copyOf_3 : decode prog_24_method_119_code 3 = .ok (.invokevirtual 86, 3) := jx_dec c_JArrays_copyOf_ok 3 rfl
theorem d_JArrays_copyOf_6 : decode prog_24_method_119_code 6 = .ok (.invokestatic 300, 3) := jx_dec c_JArrays_copyOf_ok 4 rfl
theorem d_JArrays_copyOf_9 : decode prog_24_method_119_code 9 = .ok (.areturn, 1) := jx_dec c_JArrays_copyOf_ok 5 rfl
def c_JArrays_copyOf3 : List (Nat × Instr × Nat) := [(0, .aload_n 2, 1), (1, .ldc 110, 2), (3, .if_acmp .ne 10, 3), (6, .iload_n 1, 1), (7, .anewarray 2, 3), (10, .goto 14, 3), (13, .aload_n 2, 1), (14, .invokevirtual 90, 3), (17, .iload_n 1, 1), (18, .invokestatic 95, 3), (21, .checkcast 110, 3), (24, .astore_n 3, 1), (25, .aload_n 0, 1), (26, .iconst 0, 1), (27, .aload_n 3, 1), (28, .iconst 0, 1), (29, .aload_n 0, 1), (30, .arraylength, 1), (31, .iload_n 1, 1), (32, .invokestatic 304, 3), (35, .invokestatic 150, 3), (38, .aload_n 3, 1), (39, .areturn, 1)]
theorem c_JArrays_copyOf3_ok : (c_JArrays_copyOf3).all (fun q => decide (decode prog_24_method_120_code q.1 = .ok q.2)) = true := by decide +kernel
theorem d_JArrays_copyOf3_0 : decode prog_24_method_120_code 0 = .ok (.aload_n 2, 1) := jx_dec c_JArrays_copyOf3_ok 0 rfl
theorem d_JArrays_copyOf3_1 : decode prog_24_method_120_code 1 = .ok (.ldc 110, 2) := jx_dec c_JArrays_copyOf3_ok 1 rfl
theorem d_JArrays_copyOf3_3 : decode prog_24_method_120_code 3 = .ok (.if_acmp .ne 10, 3) := jx_dec c_JArrays_copyOf3_ok 2 rfl
theorem d_JArrays_copyOf3_6 : decode prog_24_method_120_code 6 = .ok (.iload_n 1, 1) := jx_dec c_JArrays_copyOf3_ok 3 rfl
theorem d_JArrays_copyOf3_7 : decode prog_24_method_120_code 7 = .ok (.anewarray 2, 3) := jx_dec c_JArrays_copyOf3_ok 4 rfl
theorem d_JArrays_copyOf3_10 : decode prog_24_method_120_code 10 = .ok (.goto 14, 3) := jx_dec c_JArrays_copyOf3_ok 5 rfl
theorem d_JArrays_copyOf3_13 : decode prog_24_method_120_code 13 = .ok (.aload_n 2, 1) := jx_dec c_JArrays_copyOf3_ok 6 rfl
theorem d_JArrays_copyOf3_14 : decode prog_24_method_120_code 14 = .ok (.invokevirtual 90, 3) := jx_dec c_JArrays_copyOf3_ok 7 rfl
theorem d_JArrays_copyOf3_17 : decode prog_24_method_120_code 17 = .ok (.iload_n 1, 1) := jx_dec c_JArrays_copyOf3_ok 8 rfl
theorem d_JArrays_copyOf3_18 : decode prog_24_method_120_code 18 = .ok (.invokestatic 95, 3) := jx_dec c_JArrays_copyOf3_ok 9 rfl
theorem d_JArrays_copyOf3_21 : decode prog_24_method_120_code 21 = .ok (.checkcast 110, 3) := jx_dec c_JArrays_copyOf3_ok 10 rfl
theorem d_JArrays_copyOf3_24 : decode prog_24_method_120_code 24 = .ok (.astore_n 3, 1) := jx_dec c_JArrays_copyOf3_ok 11 rfl
theorem d_JArrays_copyOf3_25 : decode prog_24_method_120_code 25 = .ok (.aload_n 0, 1) := jx_dec c_JArrays_copyOf3_ok 12 rfl
theorem d_JArrays_copyOf3_26 : decode prog_24_method_120_code 26 = .ok (.iconst 0, 1) := jx_dec c_JArrays_copyOf3_ok 13 rfl
theorem d_JArrays_copyOf3_27 : decode prog_24_method_120_code 27 = .ok (.aload_n 3, 1) := jx_dec c_JArrays_copyOf3_ok 14 rfl
theorem d_JArrays_copyOf3_28 : decode prog_24_method_120_code 28 = .ok (.iconst 0, 1) := jx_dec c_JArrays_copyOf3_ok 15 rfl
theorem d_JArrays_copyOf3_29 : decode prog_24_method_120_code 29 = .ok (.aload_n 0, 1) := jx_dec c_JArrays_copyOf3_ok 16 rfl
theorem d_JArrays_copyOf3_30 : decode prog_24_method_120_code 30 = .ok (.arraylength, 1) := jx_dec c_JArrays_copyOf3_ok 17 rfl
theorem d_JArrays_copyOf3_31 : decode prog_24_method_120_code 31 = .ok (.iload_n 1, 1) := jx_dec c_JArrays_copyOf3_ok 18 rfl
theorem d_JArrays_copyOf3_32 : decode prog_24_method_120_code 32 = .ok (.invokestatic 304, 3) := jx_dec c_JArrays_copyOf3_ok 19 rfl
theorem d_JArrays_copyOf3_35 : decode prog_24_method_120_code 35 = .ok (.invokestatic 150, 3) := jx_dec c_JArrays_copyOf3_ok 20 rfl
theorem d_JArrays_copyOf3_38 : decode prog_24_method_120_code 38 = .ok (.aload_n 3, 1) := jx_dec c_JArrays_copyOf3_ok 21 rfl
theorem d_JArrays_copyOf3_39 : decode prog_24_method_120_code 39 = .ok (.areturn, 1) := jx_dec c_JArrays_copyOf3_ok 22 rfl
def c_JInteger_bitCount : List (Nat × Instr × Nat) := [(0, .iload_n 0, 1), (1, .iload_n 0, 1), (2, .iconst 1, 1), (3, .iushr, 1), (4, .ldc_w 265, 3), (7, .iand, 1), (8, .isub, 1), (9, .istore_n 0, 1), (10, .iload_n 0, 1), (11, .ldc_w 266, 3), (14, .iand, 1), (15, .iload_n 0, 1), (16, .iconst 2, 1), (17, .iushr, 1), (18, .ldc_w 266, 3), (21, .iand, 1), (22, .iadd, 1), (23, .istore_n 0, 1), (24, .iload_n 0, 1), (25, .iload_n 0, 1), (26, .iconst 4, 1), (27, .iushr, 1), (28, .iadd, 1), (29, .ldc_w 267, 3), (32, .iand, 1), (33, .istore_n 0, 1), (34, .iload_n 0, 1), (35, .iload_n 0, 1), (36, .bipush 8, 2), (38, .iushr, 1), (39, .iadd, 1), (40, .istore_n 0, 1), (41, .iload_n 0, 1), (42, .iload_n 0, 1), (43, .bipush 16, 2), (45, .iushr, 1), (46, .iadd, 1), (47, .istore_n 0, 1), (48, .iload_n 0, 1), (49, .bipush 63, 2), (51, .iand, 1), (52, .ireturn, 1)]
theorem c_JInteger_bitCount_ok : (c_JInteger_bitCount).all (fun q => decide (decode prog_13_method_49_code q.1 = .ok q.2)) = true := by decide +kernel
theorem d_JInteger_bitCount_0 : decode prog_13_method_49_code 0 = .ok (.iload_n 0, 1) := jx_dec c_JInteger_bitCount_ok 0 rfl
theorem d_JInteger_bitCount_1 : decode prog_13_method_49_code 1 = .ok (.iload_n 0, 1) := jx_dec c_JInteger_bitCount_ok 1 rfl
theorem d_JInteger_bitCount_2 : decode prog_13_method_49_code 2 = .ok (.iconst 1, 1) := jx_dec c_JInteger_bitCount_ok 2 rfl
theorem d_JInteger_bitCount_3 : decode prog_13_method_49_code 3 = .ok (.iushr, 1) := jx_dec c_JInteger_bitCount_ok 3 rfl
theorem d_JInteger_bitCount_4 : decode prog_13_method_49_code 4 = .ok (.ldc_w 265, 3) := jx_dec c_JInteger_bitCount_ok 4 rfl
theorem d_JInteger_bitCount_7 : decode prog_13_method_49_code 7 = .ok (.iand, 1) := jx_dec c_JInteger_bitCount_ok 5 rfl
theorem d_JInteger_bitCount_8 : decode prog_13_method_49_code 8 = .ok (.isub, 1) := jx_dec c_JInteger_bitCount_ok 6 rfl
theorem d_JInteger_bitCount_9 : decode prog_13_method_49_code 9 = .ok (.istore_n 0, 1) := jx_dec c_JInteger_bitCount_ok 7 rfl
theorem d_JInteger_bitCount_10 : decode prog_13_method_49_code 10 = .ok (.iload_n 0, 1) := jx_dec c_JInteger_bitCount_ok 8 rfl
theorem d_JInteger_bitCount_11 : decode prog_13_method_49_code 11 = .ok (.ldc_w 266, 3) := jx_dec c_JInteger_bitCount_ok 9 rfl
theorem d_JInteger_bitCount_14 : decode prog_13_method_49_code 14 = .ok (.iand, 1) := jx_dec c_JInteger_bitCount_ok 10 rfl
theorem d_JInteger_bitCount_15 : decode prog_13_method_49_code 15 = .ok (.iload_n 0, 1) := jx_dec c_JInteger_bitCount_ok 11 rfl
theorem d_JInteger_bitCount_16 : decode prog_13_method_49_code 16 = .ok (.iconst 2, 1) := jx_dec c_JInteger_bitCount_ok 12 rfl
theorem d_JInteger_bitCount_17 : decode prog_13_method_49_code 17 = .ok (.iushr, 1) := jx_dec c_JInteger_bitCount_ok 13 rfl
theorem d_JInteger_bitCount_18 : decode prog_13_method_49_code 18 = .ok (.ldc_w 266, 3) := jx_dec c_JInteger_bitCount_ok 14 rfl
theorem d_JInteger_bitCount_21 : decode prog_13_method_49_code 21 = .ok (.iand, 1) := jx_dec c_JInteger_bitCount_ok 15 rfl
theorem d_JInteger_bitCount_22 : decode prog_13_method_49_code 22 = .ok (.iadd, 1) := jx_dec c_JInteger_bitCount_ok 16 rfl
theorem d_JInteger_bitCount_23 : decode prog_13_method_49_code 23 = .ok (.istore_n 0, 1) := jx_dec c_JInteger_bitCount_ok 17 rfl
theorem d_JInteger_bitCount_24 : decode prog_13_method_49_code 24 = .ok (.iload_n 0, 1) := jx_dec c_JInteger_bitCount_ok 18 rfl
theorem d_JInteger_bitCount_25 : decode prog_13_method_49_code 25 = .ok (.iload_n 0, 1) := jx_dec c_JInteger_bitCount_ok 19 rfl
theorem d_JInteger_bitCount_26 : decode prog_13_method_49_code 26 = .ok (.iconst 4, 1) := jx_dec c_JInteger_bitCount_ok 20 rfl
theorem d_JInteger_bitCount_27 : decode prog_13_method_49_code 27 = .ok (.iushr, 1) := jx_dec c_JInteger_bitCount_ok 21 rfl
theorem d_JInteger_bitCount_28 : decode prog_13_method_49_code 28 = .ok (.iadd, 1) := jx_dec c_JInteger_bitCount_ok 22 rfl
theorem d_JInteger_bitCount_29 : decode prog_13_method_49_code 29 = .ok (.ldc_w 267, 3) := jx_dec c_JInteger_bitCount_ok 23 rfl
theorem d_JInteger_bitCount_32 : decode prog_13_method_49_code 32 = .ok (.iand, 1) := jx_dec c_JInteger_bitCount_ok 24 rfl
theorem d_JInteger_bitCount_33 : decode prog_13_method_49_code 33 = .ok (.istore_n 0, 1) := jx_dec c_JInteger_bitCount_ok 25 rfl
theorem d_JInteger_bitCount_34 : decode prog_13_method_49_code 34 = .ok (.iload_n 0, 1) := jx_dec c_JInteger_bitCount_ok 26 rfl
theorem d_JInteger_bitCount_35 : decode prog_13_method_49_code 35 = .ok (.iload_n 0, 1) := jx_dec c_JInteger_bitCount_ok 27 rfl
theorem d_JInteger_bitCount_36 : decode prog_13_method_49_code 36 = .ok (.bipush 8, 2) := jx_dec c_JInteger_bitCount_ok 28 rfl
theorem d_JInteger_bitCount_38 : decode prog_13_method_49_code 38 = .ok (.iushr, 1) := jx_dec c_JInteger_bitCount_ok 29 rfl
theorem d_JInteger_bitCount_39 : decode prog_13_method_49_code 39 = .ok (.iadd, 1) := jx_dec c_JInteger_bitCount_ok 30 rfl
theorem d_JInteger_bitCount_40 : decode prog_13_method_49_code 40 = .ok (.istore_n 0, 1) := jx_dec c_JInteger_bitCount_ok 31 rfl
theorem d_JInteger_bitCount_41 : decode prog_13_method_49_code 41 = .ok (.iload_n 0, 1) := jx_dec c_JInteger_bitCount_ok 32 rfl
theorem d_JInteger_bitCount_42 : decode prog_13_method_49_code 42 = .ok (.iload_n 0, 1) := jx_dec c_JInteger_bitCount_ok 33 rfl
theorem d_JInteger_bitCount_43 : decode prog_13_method_49_code 43 = .ok (.bipush 16, 2) := jx_dec c_JInteger_bitCount_ok 34 rfl
theorem d_JInteger_bitCount_45 : decode prog_13_method_49_code 45 = .ok (.iushr, 1) := jx_dec c_JInteger_bitCount_ok 35 rfl
theorem d_JInteger_bitCount_46 : decode prog_13_method_49_code 46 = .ok (.iadd, 1) := jx_dec c_JInteger_bitCount_ok 36 rfl
theorem d_JInteger_bitCount_47 : decode prog_13_method_49_code 47 = .ok (.istore_n 0, 1) := jx_dec c_JInteger_bitCount_ok 37 rfl
theorem d_JInteger_bitCount_48 : decode prog_13_method_49_code 48 = .ok (.iload_n 0, 1) := jx_dec c_JInteger_bitCount_ok 38 rfl
theorem d_JInteger_bitCount_49 : decode prog_13_method_49_code 49 = .ok (.bipush 63, 2) := jx_dec c_JInteger_bitCount_ok 39 rfl
theorem d_JInteger_bitCount_51 : decode prog_13_method_49_code 51 = .ok (.iand, 1) := jx_dec c_JInteger_bitCount_ok 40 rfl
theorem d_JInteger_bitCount_52 : decode prog_13_method_49_code 52 = .ok (.ireturn, 1) := jx_dec c_JInteger_bitCount_ok 41 rfl
