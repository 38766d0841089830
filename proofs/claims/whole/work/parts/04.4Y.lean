/-! 04.4Y: the instructions -/
def c_Y_init : List (Nat × Instr × Nat) := [(0, .aload_n 0, 1), (1, .invokespecial 3, 3), (4, .aload_n 0, 1), (5, .bipush 16, 2), (7, .newarray .int, 2), (9, .putfield 9, 3), (12, .return_, 1)]
theorem c_Y_init_ok : (c_Y_init).all (fun q => decide (decode prog_5_method_1_code q.1 = .ok q.2)) = true := by decide +kernel
theorem d_Y_init_0 : decode prog_5_method_1_code 0 = .ok (.aload_n 0, 1) := jx_dec c_Y_init_ok 0 rfl
theorem d_Y_init_1 : decode prog_5_method_1_code 1 = .ok (.invokespecial 3, 3) := jx_dec c_Y_init_ok 1 rfl
theorem d_Y_init_4 : decode prog_5_method_1_code 4 = .ok (.aload_n 0, 1) := jx_dec c_Y_init_ok 2 rfl
theorem d_Y_init_5 : decode prog_5_method_1_code 5 = .ok (.bipush 16, 2) := jx_dec c_Y_init_ok 3 rfl
theorem d_Y_init_7 : decode prog_5_method_1_code 7 = .ok (.newarray .int, 2) := jx_dec c_Y_init_ok 4 rfl
theorem d_Y_init_9 : decode prog_5_method_1_code 9 = .ok (.putfield 9, 3) := jx_dec c_Y_init_ok 5 rfl
theorem d_Y_init_12 : decode prog_5_method_1_code 12 = .ok (.return_, 1) := jx_dec c_Y_init_ok 6 rfl
def c_Y_between : List (Nat × Instr × Nat) := [(0, .aload_n 0, 1), (1, .getfield 9, 3), (4, .iload_n 1, 1), (5, .iconst 4, 1), (6, .imul, 1), (7, .iload_n 2, 1), (8, .iadd, 1), (9, .iaload, 1), (10, .ireturn, 1)]
theorem c_Y_between_ok : (c_Y_between).all (fun q => decide (decode prog_5_method_3_code q.1 = .ok q.2)) = true := by decide +kernel
theorem d_Y_between_0 : decode prog_5_method_3_code 0 = .ok (.aload_n 0, 1) := jx_dec c_Y_between_ok 0 rfl
theorem d_Y_between_1 : decode prog_5_method_3_code 1 = .ok (.getfield 9, 3) := jx_dec c_Y_between_ok 1 rfl
theorem d_Y_between_4 : decode prog_5_method_3_code 4 = .ok (.iload_n 1, 1) := jx_dec c_Y_between_ok 2 rfl
theorem d_Y_between_5 : decode prog_5_method_3_code 5 = .ok (.iconst 4, 1) := jx_dec c_Y_between_ok 3 rfl
theorem d_Y_between_6 : decode prog_5_method_3_code 6 = .ok (.imul, 1) := jx_dec c_Y_between_ok 4 rfl
theorem d_Y_between_7 : decode prog_5_method_3_code 7 = .ok (.iload_n 2, 1) := jx_dec c_Y_between_ok 5 rfl
theorem d_Y_between_8 : decode prog_5_method_3_code 8 = .ok (.iadd, 1) := jx_dec c_Y_between_ok 6 rfl
theorem d_Y_between_9 : decode prog_5_method_3_code 9 = .ok (.iaload, 1) := jx_dec c_Y_between_ok 7 rfl
theorem d_Y_between_10 : decode prog_5_method_3_code 10 = .ok (.ireturn, 1) := jx_dec c_Y_between_ok 8 rfl
def c_Y_put : List (Nat × Instr × Nat) := [(0, .aload_n 0, 1), (1, .getfield 9, 3), (4, .iload_n 1, 1), (5, .iconst 4, 1), (6, .imul, 1), (7, .iload_n 2, 1), (8, .iadd, 1), (9, .iload_n 3, 1), (10, .iastore, 1), (11, .aload_n 0, 1), (12, .getfield 9, 3), (15, .iload_n 2, 1), (16, .iconst 4, 1), (17, .imul, 1), (18, .iload_n 1, 1), (19, .iadd, 1), (20, .iload_n 3, 1), (21, .iastore, 1), (22, .return_, 1)]
theorem c_Y_put_ok : (c_Y_put).all (fun q => decide (decode prog_5_method_2_code q.1 = .ok q.2)) = true := by decide +kernel
theorem d_Y_put_0 : decode prog_5_method_2_code 0 = .ok (.aload_n 0, 1) := jx_dec c_Y_put_ok 0 rfl
theorem d_Y_put_1 : decode prog_5_method_2_code 1 = .ok (.getfield 9, 3) := jx_dec c_Y_put_ok 1 rfl
theorem d_Y_put_4 : decode prog_5_method_2_code 4 = .ok (.iload_n 1, 1) := jx_dec c_Y_put_ok 2 rfl
theorem d_Y_put_5 : decode prog_5_method_2_code 5 = .ok (.iconst 4, 1) := jx_dec c_Y_put_ok 3 rfl
theorem d_Y_put_6 : decode prog_5_method_2_code 6 = .ok (.imul, 1) := jx_dec c_Y_put_ok 4 rfl
theorem d_Y_put_7 : decode prog_5_method_2_code 7 = .ok (.iload_n 2, 1) := jx_dec c_Y_put_ok 5 rfl
theorem d_Y_put_8 : decode prog_5_method_2_code 8 = .ok (.iadd, 1) := jx_dec c_Y_put_ok 6 rfl
theorem d_Y_put_9 : decode prog_5_method_2_code 9 = .ok (.iload_n 3, 1) := jx_dec c_Y_put_ok 7 rfl
theorem d_Y_put_10 : decode prog_5_method_2_code 10 = .ok (.iastore, 1) := jx_dec c_Y_put_ok 8 rfl
theorem d_Y_put_11 : decode prog_5_method_2_code 11 = .ok (.aload_n 0, 1) := jx_dec c_Y_put_ok 9 rfl
theorem d_Y_put_12 : decode prog_5_method_2_code 12 = .ok (.getfield 9, 3) := jx_dec c_Y_put_ok 10 rfl
theorem d_Y_put_15 : decode prog_5_method_2_code 15 = .ok (.iload_n 2, 1) := jx_dec c_Y_put_ok 11 rfl
theorem d_Y_put_16 : decode prog_5_method_2_code 16 = .ok (.iconst 4, 1) := jx_dec c_Y_put_ok 12 rfl
theorem d_Y_put_17 : decode prog_5_method_2_code 17 = .ok (.imul, 1) := jx_dec c_Y_put_ok 13 rfl
theorem d_Y_put_18 : decode prog_5_method_2_code 18 = .ok (.iload_n 1, 1) := jx_dec c_Y_put_ok 14 rfl
theorem d_Y_put_19 : decode prog_5_method_2_code 19 = .ok (.iadd, 1) := jx_dec c_Y_put_ok 15 rfl
theorem d_Y_put_20 : decode prog_5_method_2_code 20 = .ok (.iload_n 3, 1) := jx_dec c_Y_put_ok 16 rfl
theorem d_Y_put_21 : decode prog_5_method_2_code 21 = .ok (.iastore, 1) := jx_dec c_Y_put_ok 17 rfl
theorem d_Y_put_22 : decode prog_5_method_2_code 22 = .ok (.return_, 1) := jx_dec c_Y_put_ok 18 rfl
