/-! 04.3K: the instructions -/
def c_K_latenessFrom : List (Nat × Instr × Nat) := [(0, .iconst 0, 1), (1, .iload_n 1, 1), (2, .aload_n 0, 1), (3, .getfield 27, 3), (6, .iadd, 1), (7, .aload_n 0, 1), (8, .getfield 30, 3), (11, .isub, 1), (12, .invokestatic 36, 3), (15, .ireturn, 1)]
theorem c_K_latenessFrom_ok : (c_K_latenessFrom).all (fun q => decide (decode prog_4_method_3_code q.1 = .ok q.2)) = true := by decide +kernel
theorem d_K_latenessFrom_0 : decode prog_4_method_3_code 0 = .ok (.iconst 0, 1) := jx_dec c_K_latenessFrom_ok 0 rfl
theorem d_K_latenessFrom_1 : decode prog_4_method_3_code 1 = .ok (.iload_n 1, 1) := jx_dec c_K_latenessFrom_ok 1 rfl
theorem d_K_latenessFrom_2 : decode prog_4_method_3_code 2 = .ok (.aload_n 0, 1) := jx_dec c_K_latenessFrom_ok 2 rfl
theorem d_K_latenessFrom_3 : decode prog_4_method_3_code 3 = .ok (.getfield 27, 3) := jx_dec c_K_latenessFrom_ok 3 rfl
theorem d_K_latenessFrom_6 : decode prog_4_method_3_code 6 = .ok (.iadd, 1) := jx_dec c_K_latenessFrom_ok 4 rfl
theorem d_K_latenessFrom_7 : decode prog_4_method_3_code 7 = .ok (.aload_n 0, 1) := jx_dec c_K_latenessFrom_ok 5 rfl
theorem d_K_latenessFrom_8 : decode prog_4_method_3_code 8 = .ok (.getfield 30, 3) := jx_dec c_K_latenessFrom_ok 6 rfl
theorem d_K_latenessFrom_11 : decode prog_4_method_3_code 11 = .ok (.isub, 1) := jx_dec c_K_latenessFrom_ok 7 rfl
theorem d_K_latenessFrom_12 : decode prog_4_method_3_code 12 = .ok (.invokestatic 36, 3) := jx_dec c_K_latenessFrom_ok 8 rfl
theorem d_K_latenessFrom_15 : decode prog_4_method_3_code 15 = .ok (.ireturn, 1) := jx_dec c_K_latenessFrom_ok 9 rfl
def c_K_isOf : List (Nat × Instr × Nat) := [(0, .aload_n 0, 1), (1, .getfield 15, 3), (4, .iload_n 1, 1), (5, .if_icmp .ne 15, 3), (8, .aload_n 0, 1), (9, .getfield 9, 3), (12, .iload_n 2, 1), (13, .if_icmp .ne 7, 3), (16, .iconst 1, 1), (17, .goto 4, 3), (20, .iconst 0, 1), (21, .ireturn, 1)]
theorem c_K_isOf_ok : (c_K_isOf).all (fun q => decide (decode prog_4_method_2_code q.1 = .ok q.2)) = true := by decide +kernel
theorem d_K_isOf_0 : decode prog_4_method_2_code 0 = .ok (.aload_n 0, 1) := jx_dec c_K_isOf_ok 0 rfl
theorem d_K_isOf_1 : decode prog_4_method_2_code 1 = .ok (.getfield 15, 3) := jx_dec c_K_isOf_ok 1 rfl
theorem d_K_isOf_4 : decode prog_4_method_2_code 4 = .ok (.iload_n 1, 1) := jx_dec c_K_isOf_ok 2 rfl
theorem d_K_isOf_5 : decode prog_4_method_2_code 5 = .ok (.if_icmp .ne 15, 3) := jx_dec c_K_isOf_ok 3 rfl
theorem d_K_isOf_8 : decode prog_4_method_2_code 8 = .ok (.aload_n 0, 1) := jx_dec c_K_isOf_ok 4 rfl
theorem d_K_isOf_9 : decode prog_4_method_2_code 9 = .ok (.getfield 9, 3) := jx_dec c_K_isOf_ok 5 rfl
theorem d_K_isOf_12 : decode prog_4_method_2_code 12 = .ok (.iload_n 2, 1) := jx_dec c_K_isOf_ok 6 rfl
theorem d_K_isOf_13 : decode prog_4_method_2_code 13 = .ok (.if_icmp .ne 7, 3) := jx_dec c_K_isOf_ok 7 rfl
theorem d_K_isOf_16 : decode prog_4_method_2_code 16 = .ok (.iconst 1, 1) := jx_dec c_K_isOf_ok 8 rfl
theorem d_K_isOf_17 : decode prog_4_method_2_code 17 = .ok (.goto 4, 3) := jx_dec c_K_isOf_ok 9 rfl
theorem d_K_isOf_20 : decode prog_4_method_2_code 20 = .ok (.iconst 0, 1) := jx_dec c_K_isOf_ok 10 rfl
theorem d_K_isOf_21 : decode prog_4_method_2_code 21 = .ok (.ireturn, 1) := jx_dec c_K_isOf_ok 11 rfl
def c_K_init : List (Nat × Instr × Nat) := [(0, .aload_n 0, 1), (1, .invokespecial 3, 3), (4, .aload_n 0, 1), (5, .iconst 0, 1), (6, .putfield 9, 3), (9, .aload_n 0, 1), (10, .iconst (-1), 1), (11, .putfield 15, 3), (14, .aload_n 0, 1), (15, .iconst (-1), 1), (16, .putfield 18, 3), (19, .aload_n 0, 1), (20, .iload_n 1, 1), (21, .putfield 21, 3), (24, .aload_n 0, 1), (25, .iload_n 2, 1), (26, .putfield 24, 3), (29, .aload_n 0, 1), (30, .iload_n 3, 1), (31, .putfield 27, 3), (34, .aload_n 0, 1), (35, .iload 4, 2), (37, .putfield 30, 3), (40, .aload_n 0, 1), (41, .iload 5, 2), (43, .putfield 33, 3), (46, .return_, 1)]
theorem c_K_init_ok : (c_K_init).all (fun q => decide (decode prog_4_method_1_code q.1 = .ok q.2)) = true := by decide +kernel
theorem d_K_init_0 : decode prog_4_method_1_code 0 = .ok (.aload_n 0, 1) := jx_dec c_K_init_ok 0 rfl
theorem d_K_init_1 : decode prog_4_method_1_code 1 = .ok (.invokespecial 3, 3) := jx_dec c_K_init_ok 1 rfl
theorem d_K_init_4 : decode prog_4_method_1_code 4 = .ok (.aload_n 0, 1) := jx_dec c_K_init_ok 2 rfl
theorem d_K_init_5 : decode prog_4_method_1_code 5 = .ok (.iconst 0, 1) := jx_dec c_K_init_ok 3 rfl
theorem d_K_init_6 : decode prog_4_method_1_code 6 = .ok (.putfield 9, 3) := jx_dec c_K_init_ok 4 rfl
theorem d_K_init_9 : decode prog_4_method_1_code 9 = .ok (.aload_n 0, 1) := jx_dec c_K_init_ok 5 rfl
theorem d_K_init_10 : decode prog_4_method_1_code 10 = .ok (.iconst (-1), 1) := jx_dec c_K_init_ok 6 rfl
theorem d_K_init_11 : decode prog_4_method_1_code 11 = .ok (.putfield 15, 3) := jx_dec c_K_init_ok 7 rfl
theorem d_K_init_14 : decode prog_4_method_1_code 14 = .ok (.aload_n 0, 1) := jx_dec c_K_init_ok 8 rfl
theorem d_K_init_15 : decode prog_4_method_1_code 15 = .ok (.iconst (-1), 1) := jx_dec c_K_init_ok 9 rfl
theorem d_K_init_16 : decode prog_4_method_1_code 16 = .ok (.putfield 18, 3) := jx_dec c_K_init_ok 10 rfl
theorem d_K_init_19 : decode prog_4_method_1_code 19 = .ok (.aload_n 0, 1) := jx_dec c_K_init_ok 11 rfl
theorem d_K_init_20 : decode prog_4_method_1_code 20 = .ok (.iload_n 1, 1) := jx_dec c_K_init_ok 12 rfl
theorem d_K_init_21 : decode prog_4_method_1_code 21 = .ok (.putfield 21, 3) := jx_dec c_K_init_ok 13 rfl
theorem d_K_init_24 : decode prog_4_method_1_code 24 = .ok (.aload_n 0, 1) := jx_dec c_K_init_ok 14 rfl
theorem d_K_init_25 : decode prog_4_method_1_code 25 = .ok (.iload_n 2, 1) := jx_dec c_K_init_ok 15 rfl
theorem d_K_init_26 : decode prog_4_method_1_code 26 = .ok (.putfield 24, 3) := jx_dec c_K_init_ok 16 rfl
theorem d_K_init_29 : decode prog_4_method_1_code 29 = .ok (.aload_n 0, 1) := jx_dec c_K_init_ok 17 rfl
theorem d_K_init_30 : decode prog_4_method_1_code 30 = .ok (.iload_n 3, 1) := jx_dec c_K_init_ok 18 rfl
theorem d_K_init_31 : decode prog_4_method_1_code 31 = .ok (.putfield 27, 3) := jx_dec c_K_init_ok 19 rfl
theorem d_K_init_34 : decode prog_4_method_1_code 34 = .ok (.aload_n 0, 1) := jx_dec c_K_init_ok 20 rfl
theorem d_K_init_35 : decode prog_4_method_1_code 35 = .ok (.iload 4, 2) := jx_dec c_K_init_ok 21 rfl
theorem d_K_init_37 : decode prog_4_method_1_code 37 = .ok (.putfield 30, 3) := jx_dec c_K_init_ok 22 rfl
theorem d_K_init_40 : decode prog_4_method_1_code 40 = .ok (.aload_n 0, 1) := jx_dec c_K_init_ok 23 rfl
theorem d_K_init_41 : decode prog_4_method_1_code 41 = .ok (.iload 5, 2) := jx_dec c_K_init_ok 24 rfl
theorem d_K_init_43 : decode prog_4_method_1_code 43 = .ok (.putfield 33, 3) := jx_dec c_K_init_ok 25 rfl
theorem d_K_init_46 : decode prog_4_method_1_code 46 = .ok (.return_, 1) := jx_dec c_K_init_ok 26 rfl
def c_K_free : List (Nat × Instr × Nat) := [(0, .aload_n 0, 1), (1, .iconst 0, 1), (2, .putfield 9, 3), (5, .aload_n 0, 1), (6, .iconst (-1), 1), (7, .putfield 15, 3), (10, .aload_n 0, 1), (11, .iconst (-1), 1), (12, .putfield 18, 3), (15, .return_, 1)]
theorem c_K_free_ok : (c_K_free).all (fun q => decide (decode prog_4_method_5_code q.1 = .ok q.2)) = true := by decide +kernel
theorem d_K_free_0 : decode prog_4_method_5_code 0 = .ok (.aload_n 0, 1) := jx_dec c_K_free_ok 0 rfl
theorem d_K_free_1 : decode prog_4_method_5_code 1 = .ok (.iconst 0, 1) := jx_dec c_K_free_ok 1 rfl
theorem d_K_free_2 : decode prog_4_method_5_code 2 = .ok (.putfield 9, 3) := jx_dec c_K_free_ok 2 rfl
theorem d_K_free_5 : decode prog_4_method_5_code 5 = .ok (.aload_n 0, 1) := jx_dec c_K_free_ok 3 rfl
theorem d_K_free_6 : decode prog_4_method_5_code 6 = .ok (.iconst (-1), 1) := jx_dec c_K_free_ok 4 rfl
theorem d_K_free_7 : decode prog_4_method_5_code 7 = .ok (.putfield 15, 3) := jx_dec c_K_free_ok 5 rfl
theorem d_K_free_10 : decode prog_4_method_5_code 10 = .ok (.aload_n 0, 1) := jx_dec c_K_free_ok 6 rfl
theorem d_K_free_11 : decode prog_4_method_5_code 11 = .ok (.iconst (-1), 1) := jx_dec c_K_free_ok 7 rfl
theorem d_K_free_12 : decode prog_4_method_5_code 12 = .ok (.putfield 18, 3) := jx_dec c_K_free_ok 8 rfl
theorem d_K_free_15 : decode prog_4_method_5_code 15 = .ok (.return_, 1) := jx_dec c_K_free_ok 9 rfl
def c_K_planFor : List (Nat × Instr × Nat) := [(0, .aload_n 0, 1), (1, .iload_n 1, 1), (2, .putfield 15, 3), (5, .aload_n 0, 1), (6, .iload_n 2, 1), (7, .putfield 18, 3), (10, .return_, 1)]
theorem c_K_planFor_ok : (c_K_planFor).all (fun q => decide (decode prog_4_method_4_code q.1 = .ok q.2)) = true := by decide +kernel
theorem d_K_planFor_0 : decode prog_4_method_4_code 0 = .ok (.aload_n 0, 1) := jx_dec c_K_planFor_ok 0 rfl
theorem d_K_planFor_1 : decode prog_4_method_4_code 1 = .ok (.iload_n 1, 1) := jx_dec c_K_planFor_ok 1 rfl
theorem d_K_planFor_2 : decode prog_4_method_4_code 2 = .ok (.putfield 15, 3) := jx_dec c_K_planFor_ok 2 rfl
theorem d_K_planFor_5 : decode prog_4_method_4_code 5 = .ok (.aload_n 0, 1) := jx_dec c_K_planFor_ok 3 rfl
theorem d_K_planFor_6 : decode prog_4_method_4_code 6 = .ok (.iload_n 2, 1) := jx_dec c_K_planFor_ok 4 rfl
theorem d_K_planFor_7 : decode prog_4_method_4_code 7 = .ok (.putfield 18, 3) := jx_dec c_K_planFor_ok 5 rfl
theorem d_K_planFor_10 : decode prog_4_method_4_code 10 = .ok (.return_, 1) := jx_dec c_K_planFor_ok 6 rfl
