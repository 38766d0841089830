/-! 04.7M: the instructions -/
def c_M_init : List (Nat × Instr × Nat) := [(0, .aload_n 0, 1), (1, .invokespecial 1, 3), (4, .aload_n 0, 1), (5, .iconst 4, 1), (6, .newarray .int, 2), (8, .putfield 7, 3), (11, .aload_n 0, 1), (12, .iconst 4, 1), (13, .newarray .int, 2), (15, .putfield 13, 3), (18, .aload_n 0, 1), (19, .iconst 4, 1), (20, .newarray .int, 2), (22, .putfield 16, 3), (25, .aload_n 0, 1), (26, .iconst 4, 1), (27, .newarray .int, 2), (29, .putfield 19, 3), (32, .aload_n 0, 1), (33, .iconst 4, 1), (34, .newarray .int, 2), (36, .putfield 22, 3), (39, .aload_n 0, 1), (40, .iconst 4, 1), (41, .newarray .int, 2), (43, .putfield 25, 3), (46, .aload_n 0, 1), (47, .iconst 4, 1), (48, .newarray .boolean, 2), (50, .putfield 28, 3), (53, .aload_n 0, 1), (54, .iconst 4, 1), (55, .newarray .int, 2), (57, .putfield 32, 3), (60, .aload_n 0, 1), (61, .bipush 16, 2), (63, .newarray .int, 2), (65, .putfield 35, 3), (68, .aload_n 0, 1), (69, .bipush 16, 2), (71, .newarray .int, 2), (73, .putfield 38, 3), (76, .aload_n 0, 1), (77, .bipush 16, 2), (79, .newarray .int, 2), (81, .putfield 41, 3), (84, .aload_n 0, 1), (85, .bipush 16, 2), (87, .newarray .int, 2), (89, .putfield 44, 3), (92, .aload_n 0, 1), (93, .bipush 16, 2), (95, .newarray .int, 2), (97, .putfield 47, 3), (100, .aload_n 0, 1), (101, .bipush 16, 2), (103, .newarray .int, 2), (105, .putfield 50, 3), (108, .aload_n 0, 1), (109, .bipush 16, 2), (111, .newarray .int, 2), (113, .putfield 53, 3), (116, .aload_n 0, 1), (117, .bipush 16, 2), (119, .newarray .int, 2), (121, .putfield 56, 3), (124, .aload_n 0, 1), (125, .bipush 16, 2), (127, .newarray .int, 2), (129, .putfield 59, 3), (132, .aload_n 0, 1), (133, .iconst 5, 1), (134, .newarray .int, 2), (136, .putfield 62, 3), (139, .aload_n 0, 1), (140, .sipush 128, 3), (143, .newarray .int, 2), (145, .putfield 65, 3), (148, .aload_n 0, 1), (149, .sipush 640, 3), (152, .newarray .int, 2), (154, .putfield 68, 3), (157, .aload_n 0, 1), (158, .iconst 5, 1), (159, .newarray .int, 2), (161, .putfield 71, 3), (164, .aload_n 0, 1), (165, .iconst 5, 1), (166, .newarray .int, 2), (168, .putfield 74, 3), (171, .aload_n 0, 1), (172, .iconst 5, 1), (173, .newarray .int, 2), (175, .putfield 77, 3), (178, .aload_n 0, 1), (179, .iconst 5, 1), (180, .newarray .int, 2), (182, .putfield 80, 3), (185, .return_, 1)]
theorem c_M_init_ok : (c_M_init).all (fun q => decide (decode prog_7_method_1_code q.1 = .ok q.2)) = true := by decide +kernel
theorem d_M_init_0 : decode prog_7_method_1_code 0 = .ok (.aload_n 0, 1) := jx_dec c_M_init_ok 0 rfl
theorem d_M_init_1 : decode prog_7_method_1_code 1 = .ok (.invokespecial 1, 3) := jx_dec c_M_init_ok 1 rfl
theorem d_M_init_4 : decode prog_7_method_1_code 4 = .ok (.aload_n 0, 1) := jx_dec c_M_init_ok 2 rfl
theorem d_M_init_5 : decode prog_7_method_1_code 5 = .ok (.iconst 4, 1) := jx_dec c_M_init_ok 3 rfl
theorem d_M_init_6 : decode prog_7_method_1_code 6 = .ok (.newarray .int, 2) := jx_dec c_M_init_ok 4 rfl
theorem d_M_init_8 : decode prog_7_method_1_code 8 = .ok (.putfield 7, 3) := jx_dec c_M_init_ok 5 rfl
theorem d_M_init_11 : decode prog_7_method_1_code 11 = .ok (.aload_n 0, 1) := jx_dec c_M_init_ok 6 rfl
theorem d_M_init_12 : decode prog_7_method_1_code 12 = .ok (.iconst 4, 1) := jx_dec c_M_init_ok 7 rfl
theorem d_M_init_13 : decode prog_7_method_1_code 13 = .ok (.newarray .int, 2) := jx_dec c_M_init_ok 8 rfl
theorem d_M_init_15 : decode prog_7_method_1_code 15 = .ok (.putfield 13, 3) := jx_dec c_M_init_ok 9 rfl
theorem d_M_init_18 : decode prog_7_method_1_code 18 = .ok (.aload_n 0, 1) := jx_dec c_M_init_ok 10 rfl
theorem d_M_init_19 : decode prog_7_method_1_code 19 = .ok (.iconst 4, 1) := jx_dec c_M_init_ok 11 rfl
theorem d_M_init_20 : decode prog_7_method_1_code 20 = .ok (.newarray .int, 2) := jx_dec c_M_init_ok 12 rfl
theorem d_M_init_22 : decode prog_7_method_1_code 22 = .ok (.putfield 16, 3) := jx_dec c_M_init_ok 13 rfl
theorem d_M_init_25 : decode prog_7_method_1_code 25 = .ok (.aload_n 0, 1) := jx_dec c_M_init_ok 14 rfl
theorem d_M_init_26 : decode prog_7_method_1_code 26 = .ok (.iconst 4, 1) := jx_dec c_M_init_ok 15 rfl
theorem d_M_init_27 : decode prog_7_method_1_code 27 = .ok (.newarray .int, 2) := jx_dec c_M_init_ok 16 rfl
theorem d_M_init_29 : decode prog_7_method_1_code 29 = .ok (.putfield 19, 3) := jx_dec c_M_init_ok 17 rfl
theorem d_M_init_32 : decode prog_7_method_1_code 32 = .ok (.aload_n 0, 1) := jx_dec c_M_init_ok 18 rfl
theorem d_M_init_33 : decode prog_7_method_1_code 33 = .ok (.iconst 4, 1) := jx_dec c_M_init_ok 19 rfl
theorem d_M_init_34 : decode prog_7_method_1_code 34 = .ok (.newarray .int, 2) := jx_dec c_M_init_ok 20 rfl
theorem d_M_init_36 : decode prog_7_method_1_code 36 = .ok (.putfield 22, 3) := jx_dec c_M_init_ok 21 rfl
theorem d_M_init_39 : decode prog_7_method_1_code 39 = .ok (.aload_n 0, 1) := jx_dec c_M_init_ok 22 rfl
theorem d_M_init_40 : decode prog_7_method_1_code 40 = .ok (.iconst 4, 1) := jx_dec c_M_init_ok 23 rfl
theorem d_M_init_41 : decode prog_7_method_1_code 41 = .ok (.newarray .int, 2) := jx_dec c_M_init_ok 24 rfl
theorem d_M_init_43 : decode prog_7_method_1_code 43 = .ok (.putfield 25, 3) := jx_dec c_M_init_ok 25 rfl
theorem d_M_init_46 : decode prog_7_method_1_code 46 = .ok (.aload_n 0, 1) := jx_dec c_M_init_ok 26 rfl
theorem d_M_init_47 : decode prog_7_method_1_code 47 = .ok (.iconst 4, 1) := jx_dec c_M_init_ok 27 rfl
theorem d_M_init_48 : decode prog_7_method_1_code 48 = .ok (.newarray .boolean, 2) := jx_dec c_M_init_ok 28 rfl
theorem d_M_init_50 : decode prog_7_method_1_code 50 = .ok (.putfield 28, 3) := jx_dec c_M_init_ok 29 rfl
theorem d_M_init_53 : decode prog_7_method_1_code 53 = .ok (.aload_n 0, 1) := jx_dec c_M_init_ok 30 rfl
theorem d_M_init_54 : decode prog_7_method_1_code 54 = .ok (.iconst 4, 1) := jx_dec c_M_init_ok 31 rfl
theorem d_M_init_55 : decode prog_7_method_1_code 55 = .ok (.newarray .int, 2) := jx_dec c_M_init_ok 32 rfl
theorem d_M_init_57 : decode prog_7_method_1_code 57 = .ok (.putfield 32, 3) := jx_dec c_M_init_ok 33 rfl
theorem d_M_init_60 : decode prog_7_method_1_code 60 = .ok (.aload_n 0, 1) := jx_dec c_M_init_ok 34 rfl
theorem d_M_init_61 : decode prog_7_method_1_code 61 = .ok (.bipush 16, 2) := jx_dec c_M_init_ok 35 rfl
theorem d_M_init_63 : decode prog_7_method_1_code 63 = .ok (.newarray .int, 2) := jx_dec c_M_init_ok 36 rfl
theorem d_M_init_65 : decode prog_7_method_1_code 65 = .ok (.putfield 35, 3) := jx_dec c_M_init_ok 37 rfl
theorem d_M_init_68 : decode prog_7_method_1_code 68 = .ok (.aload_n 0, 1) := jx_dec c_M_init_ok 38 rfl
theorem d_M_init_69 : decode prog_7_method_1_code 69 = .ok (.bipush 16, 2) := jx_dec c_M_init_ok 39 rfl
theorem d_M_init_71 : decode prog_7_method_1_code 71 = .ok (.newarray .int, 2) := jx_dec c_M_init_ok 40 rfl
theorem d_M_init_73 : decode prog_7_method_1_code 73 = .ok (.putfield 38, 3) := jx_dec c_M_init_ok 41 rfl
theorem d_M_init_76 : decode prog_7_method_1_code 76 = .ok (.aload_n 0, 1) := jx_dec c_M_init_ok 42 rfl
theorem d_M_init_77 : decode prog_7_method_1_code 77 = .ok (.bipush 16, 2) := jx_dec c_M_init_ok 43 rfl
theorem d_M_init_79 : decode prog_7_method_1_code 79 = .ok (.newarray .int, 2) := jx_dec c_M_init_ok 44 rfl
theorem d_M_init_81 : decode prog_7_method_1_code 81 = .ok (.putfield 41, 3) := jx_dec c_M_init_ok 45 rfl
theorem d_M_init_84 : decode prog_7_method_1_code 84 = .ok (.aload_n 0, 1) := jx_dec c_M_init_ok 46 rfl
theorem d_M_init_85 : decode prog_7_method_1_code 85 = .ok (.bipush 16, 2) := jx_dec c_M_init_ok 47 rfl
theorem d_M_init_87 : decode prog_7_method_1_code 87 = .ok (.newarray .int, 2) := jx_dec c_M_init_ok 48 rfl
theorem d_M_init_89 : decode prog_7_method_1_code 89 = .ok (.putfield 44, 3) := jx_dec c_M_init_ok 49 rfl
theorem d_M_init_92 : decode prog_7_method_1_code 92 = .ok (.aload_n 0, 1) := jx_dec c_M_init_ok 50 rfl
theorem d_M_init_93 : decode prog_7_method_1_code 93 = .ok (.bipush 16, 2) := jx_dec c_M_init_ok 51 rfl
theorem d_M_init_95 : decode prog_7_method_1_code 95 = .ok (.newarray .int, 2) := jx_dec c_M_init_ok 52 rfl
theorem d_M_init_97 : decode prog_7_method_1_code 97 = .ok (.putfield 47, 3) := jx_dec c_M_init_ok 53 rfl
theorem d_M_init_100 : decode prog_7_method_1_code 100 = .ok (.aload_n 0, 1) := jx_dec c_M_init_ok 54 rfl
theorem d_M_init_101 : decode prog_7_method_1_code 101 = .ok (.bipush 16, 2) := jx_dec c_M_init_ok 55 rfl
theorem d_M_init_103 : decode prog_7_method_1_code 103 = .ok (.newarray .int, 2) := jx_dec c_M_init_ok 56 rfl
theorem d_M_init_105 : decode prog_7_method_1_code 105 = .ok (.putfield 50, 3) := jx_dec c_M_init_ok 57 rfl
theorem d_M_init_108 : decode prog_7_method_1_code 108 = .ok (.aload_n 0, 1) := jx_dec c_M_init_ok 58 rfl
theorem d_M_init_109 : decode prog_7_method_1_code 109 = .ok (.bipush 16, 2) := jx_dec c_M_init_ok 59 rfl
theorem d_M_init_111 : decode prog_7_method_1_code 111 = .ok (.newarray .int, 2) := jx_dec c_M_init_ok 60 rfl
theorem d_M_init_113 : decode prog_7_method_1_code 113 = .ok (.putfield 53, 3) := jx_dec c_M_init_ok 61 rfl
theorem d_M_init_116 : decode prog_7_method_1_code 116 = .ok (.aload_n 0, 1) := jx_dec c_M_init_ok 62 rfl
theorem d_M_init_117 : decode prog_7_method_1_code 117 = .ok (.bipush 16, 2) := jx_dec c_M_init_ok 63 rfl
theorem d_M_init_119 : decode prog_7_method_1_code 119 = .ok (.newarray .int, 2) := jx_dec c_M_init_ok 64 rfl
theorem d_M_init_121 : decode prog_7_method_1_code 121 = .ok (.putfield 56, 3) := jx_dec c_M_init_ok 65 rfl
theorem d_M_init_124 : decode prog_7_method_1_code 124 = .ok (.aload_n 0, 1) := jx_dec c_M_init_ok 66 rfl
theorem d_M_init_125 : decode prog_7_method_1_code 125 = .ok (.bipush 16, 2) := jx_dec c_M_init_ok 67 rfl
theorem d_M_init_127 : decode prog_7_method_1_code 127 = .ok (.newarray .int, 2) := jx_dec c_M_init_ok 68 rfl
theorem d_M_init_129 : decode prog_7_method_1_code 129 = .ok (.putfield 59, 3) := jx_dec c_M_init_ok 69 rfl
theorem d_M_init_132 : decode prog_7_method_1_code 132 = .ok (.aload_n 0, 1) := jx_dec c_M_init_ok 70 rfl
theorem d_M_init_133 : decode prog_7_method_1_code 133 = .ok (.iconst 5, 1) := jx_dec c_M_init_ok 71 rfl
theorem d_M_init_134 : decode prog_7_method_1_code 134 = .ok (.newarray .int, 2) := jx_dec c_M_init_ok 72 rfl
theorem d_M_init_136 : decode prog_7_method_1_code 136 = .ok (.putfield 62, 3) := jx_dec c_M_init_ok 73 rfl
theorem d_M_init_139 : decode prog_7_method_1_code 139 = .ok (.aload_n 0, 1) := jx_dec c_M_init_ok 74 rfl
theorem d_M_init_140 : decode prog_7_method_1_code 140 = .ok (.sipush 128, 3) := jx_dec c_M_init_ok 75 rfl
theorem d_M_init_143 : decode prog_7_method_1_code 143 = .ok (.newarray .int, 2) := jx_dec c_M_init_ok 76 rfl
theorem d_M_init_145 : decode prog_7_method_1_code 145 = .ok (.putfield 65, 3) := jx_dec c_M_init_ok 77 rfl
theorem d_M_init_148 : decode prog_7_method_1_code 148 = .ok (.aload_n 0, 1) := jx_dec c_M_init_ok 78 rfl
theorem d_M_init_149 : decode prog_7_method_1_code 149 = .ok (.sipush 640, 3) := jx_dec c_M_init_ok 79 rfl
theorem d_M_init_152 : decode prog_7_method_1_code 152 = .ok (.newarray .int, 2) := jx_dec c_M_init_ok 80 rfl
theorem d_M_init_154 : decode prog_7_method_1_code 154 = .ok (.putfield 68, 3) := jx_dec c_M_init_ok 81 rfl
theorem d_M_init_157 : decode prog_7_method_1_code 157 = .ok (.aload_n 0, 1) := jx_dec c_M_init_ok 82 rfl
theorem d_M_init_158 : decode prog_7_method_1_code 158 = .ok (.iconst 5, 1) := jx_dec c_M_init_ok 83 rfl
theorem d_M_init_159 : decode prog_7_method_1_code 159 = .ok (.newarray .int, 2) := jx_dec c_M_init_ok 84 rfl
theorem d_M_init_161 : decode prog_7_method_1_code 161 = .ok (.putfield 71, 3) := jx_dec c_M_init_ok 85 rfl
theorem d_M_init_164 : decode prog_7_method_1_code 164 = .ok (.aload_n 0, 1) := jx_dec c_M_init_ok 86 rfl
theorem d_M_init_165 : decode prog_7_method_1_code 165 = .ok (.iconst 5, 1) := jx_dec c_M_init_ok 87 rfl
theorem d_M_init_166 : decode prog_7_method_1_code 166 = .ok (.newarray .int, 2) := jx_dec c_M_init_ok 88 rfl
theorem d_M_init_168 : decode prog_7_method_1_code 168 = .ok (.putfield 74, 3) := jx_dec c_M_init_ok 89 rfl
theorem d_M_init_171 : decode prog_7_method_1_code 171 = .ok (.aload_n 0, 1) := jx_dec c_M_init_ok 90 rfl
theorem d_M_init_172 : decode prog_7_method_1_code 172 = .ok (.iconst 5, 1) := jx_dec c_M_init_ok 91 rfl
theorem d_M_init_173 : decode prog_7_method_1_code 173 = .ok (.newarray .int, 2) := jx_dec c_M_init_ok 92 rfl
theorem d_M_init_175 : decode prog_7_method_1_code 175 = .ok (.putfield 77, 3) := jx_dec c_M_init_ok 93 rfl
theorem d_M_init_178 : decode prog_7_method_1_code 178 = .ok (.aload_n 0, 1) := jx_dec c_M_init_ok 94 rfl
theorem d_M_init_179 : decode prog_7_method_1_code 179 = .ok (.iconst 5, 1) := jx_dec c_M_init_ok 95 rfl
theorem d_M_init_180 : decode prog_7_method_1_code 180 = .ok (.newarray .int, 2) := jx_dec c_M_init_ok 96 rfl
theorem d_M_init_182 : decode prog_7_method_1_code 182 = .ok (.putfield 80, 3) := jx_dec c_M_init_ok 97 rfl
theorem d_M_init_185 : decode prog_7_method_1_code 185 = .ok (.return_, 1) := jx_dec c_M_init_ok 98 rfl
def c_M_thrown : List (Nat × Instr × Nat) := [(0, .aload_n 0, 1), (1, .getfield 83, 3), (4, .ireturn, 1)]
theorem c_M_thrown_ok : (c_M_thrown).all (fun q => decide (decode prog_7_method_2_code q.1 = .ok q.2)) = true := by decide +kernel
theorem d_M_thrown_0 : decode prog_7_method_2_code 0 = .ok (.aload_n 0, 1) := jx_dec c_M_thrown_ok 0 rfl
theorem d_M_thrown_1 : decode prog_7_method_2_code 1 = .ok (.getfield 83, 3) := jx_dec c_M_thrown_ok 1 rfl
theorem d_M_thrown_4 : decode prog_7_method_2_code 4 = .ok (.ireturn, 1) := jx_dec c_M_thrown_ok 2 rfl
def c_M_person : List (Nat × Instr × Nat) := [(0, .iload_n 1, 1), (1, .iconst 0, 1), (2, .sipush 255, 3), (5, .invokestatic 90, 3), (8, .ifCond .eq 42, 3), (11, .iload_n 2, 1), (12, .iconst 0, 1), (13, .ldc 97, 2), (15, .invokestatic 90, 3), (18, .ifCond .eq 32, 3), (21, .iload_n 3, 1), (22, .iconst 0, 1), (23, .ldc 97, 2), (25, .invokestatic 90, 3), (28, .ifCond .eq 22, 3), (31, .iload_n 2, 1), (32, .iload_n 3, 1), (33, .if_icmp .ge 17, 3), (36, .iload 4, 2), (38, .iconst 0, 1), (39, .iconst 3, 1), (40, .invokestatic 90, 3), (43, .ifCond .eq 7, 3), (46, .iconst 1, 1), (47, .goto 4, 3), (50, .iconst 0, 1), (51, .istore 5, 2), (53, .aload_n 0, 1), (54, .iload 5, 2), (56, .ifCond .ne 7, 3), (59, .iconst 1, 1), (60, .goto 16, 3), (63, .aload_n 0, 1), (64, .getfield 87, 3), (67, .iconst 4, 1), (68, .if_icmp .ne 7, 3), (71, .iconst 2, 1), (72, .goto 4, 3), (75, .iconst 0, 1), (76, .putfield 83, 3), (79, .aload_n 0, 1), (80, .getfield 83, 3), (83, .ifCond .eq 5, 3), (86, .iconst 0, 1), (87, .ireturn, 1), (88, .aload_n 0, 1), (89, .getfield 7, 3), (92, .aload_n 0, 1), (93, .getfield 87, 3), (96, .iload_n 1, 1), (97, .iastore, 1), (98, .aload_n 0, 1), (99, .getfield 13, 3), (102, .aload_n 0, 1), (103, .getfield 87, 3), (106, .iload_n 2, 1), (107, .iastore, 1), (108, .aload_n 0, 1), (109, .getfield 16, 3), (112, .aload_n 0, 1), (113, .getfield 87, 3), (116, .iload_n 3, 1), (117, .iastore, 1), (118, .aload_n 0, 1), (119, .getfield 19, 3), (122, .aload_n 0, 1), (123, .getfield 87, 3), (126, .iconst 0, 1), (127, .iastore, 1), (128, .aload_n 0, 1), (129, .getfield 22, 3), (132, .aload_n 0, 1), (133, .getfield 87, 3), (136, .iconst 0, 1), (137, .iastore, 1), (138, .aload_n 0, 1), (139, .getfield 25, 3), (142, .aload_n 0, 1), (143, .getfield 87, 3), (146, .iload 4, 2), (148, .iastore, 1), (149, .aload_n 0, 1), (150, .getfield 28, 3), (153, .aload_n 0, 1), (154, .getfield 87, 3), (157, .iconst 1, 1), (158, .bastore, 1), (159, .aload_n 0, 1), (160, .getfield 32, 3), (163, .aload_n 0, 1), (164, .getfield 87, 3), (167, .iconst (-1), 1), (168, .iastore, 1), (169, .aload_n 0, 1), (170, .dup, 1), (171, .getfield 87, 3), (174, .iconst 1, 1), (175, .iadd, 1), (176, .putfield 87, 3), (179, .aload_n 0, 1), (180, .getfield 87, 3), (183, .iconst 1, 1), (184, .isub, 1), (185, .ireturn, 1)]
theorem c_M_person_ok : (c_M_person).all (fun q => decide (decode prog_7_method_6_code q.1 = .ok q.2)) = true := by decide +kernel
theorem d_M_person_0 : decode prog_7_method_6_code 0 = .ok (.iload_n 1, 1) := jx_dec c_M_person_ok 0 rfl
theorem d_M_person_1 : decode prog_7_method_6_code 1 = .ok (.iconst 0, 1) := jx_dec c_M_person_ok 1 rfl
theorem d_M_person_2 : decode prog_7_method_6_code 2 = .ok (.sipush 255, 3) := jx_dec c_M_person_ok 2 rfl
theorem d_M_person_5 : decode prog_7_method_6_code 5 = .ok (.invokestatic 90, 3) := jx_dec c_M_person_ok 3 rfl
theorem d_M_person_8 : decode prog_7_method_6_code 8 = .ok (.ifCond .eq 42, 3) := jx_dec c_M_person_ok 4 rfl
theorem d_M_person_11 : decode prog_7_method_6_code 11 = .ok (.iload_n 2, 1) := jx_dec c_M_person_ok 5 rfl
theorem d_M_person_12 : decode prog_7_method_6_code 12 = .ok (.iconst 0, 1) := jx_dec c_M_person_ok 6 rfl
theorem d_M_person_13 : decode prog_7_method_6_code 13 = .ok (.ldc 97, 2) := jx_dec c_M_person_ok 7 rfl
theorem d_M_person_15 : decode prog_7_method_6_code 15 = .ok (.invokestatic 90, 3) := jx_dec c_M_person_ok 8 rfl
theorem d_M_person_18 : decode prog_7_method_6_code 18 = .ok (.ifCond .eq 32, 3) := jx_dec c_M_person_ok 9 rfl
theorem d_M_person_21 : decode prog_7_method_6_code 21 = .ok (.iload_n 3, 1) := jx_dec c_M_person_ok 10 rfl
theorem d_M_person_22 : decode prog_7_method_6_code 22 = .ok (.iconst 0, 1) := jx_dec c_M_person_ok 11 rfl
theorem d_M_person_23 : decode prog_7_method_6_code 23 = .ok (.ldc 97, 2) := jx_dec c_M_person_ok 12 rfl
theorem d_M_person_25 : decode prog_7_method_6_code 25 = .ok (.invokestatic 90, 3) := jx_dec c_M_person_ok 13 rfl
theorem d_M_person_28 : decode prog_7_method_6_code 28 = .ok (.ifCond .eq 22, 3) := jx_dec c_M_person_ok 14 rfl
theorem d_M_person_31 : decode prog_7_method_6_code 31 = .ok (.iload_n 2, 1) := jx_dec c_M_person_ok 15 rfl
theorem d_M_person_32 : decode prog_7_method_6_code 32 = .ok (.iload_n 3, 1) := jx_dec c_M_person_ok 16 rfl
theorem d_M_person_33 : decode prog_7_method_6_code 33 = .ok (.if_icmp .ge 17, 3) := jx_dec c_M_person_ok 17 rfl
theorem d_M_person_36 : decode prog_7_method_6_code 36 = .ok (.iload 4, 2) := jx_dec c_M_person_ok 18 rfl
theorem d_M_person_38 : decode prog_7_method_6_code 38 = .ok (.iconst 0, 1) := jx_dec c_M_person_ok 19 rfl
theorem d_M_person_39 : decode prog_7_method_6_code 39 = .ok (.iconst 3, 1) := jx_dec c_M_person_ok 20 rfl
theorem d_M_person_40 : decode prog_7_method_6_code 40 = .ok (.invokestatic 90, 3) := jx_dec c_M_person_ok 21 rfl
theorem d_M_person_43 : decode prog_7_method_6_code 43 = .ok (.ifCond .eq 7, 3) := jx_dec c_M_person_ok 22 rfl
theorem d_M_person_46 : decode prog_7_method_6_code 46 = .ok (.iconst 1, 1) := jx_dec c_M_person_ok 23 rfl
theorem d_M_person_47 : decode prog_7_method_6_code 47 = .ok (.goto 4, 3) := jx_dec c_M_person_ok 24 rfl
theorem d_M_person_50 : decode prog_7_method_6_code 50 = .ok (.iconst 0, 1) := jx_dec c_M_person_ok 25 rfl
theorem d_M_person_51 : decode prog_7_method_6_code 51 = .ok (.istore 5, 2) := jx_dec c_M_person_ok 26 rfl
theorem d_M_person_53 : decode prog_7_method_6_code 53 = .ok (.aload_n 0, 1) := jx_dec c_M_person_ok 27 rfl
theorem d_M_person_54 : decode prog_7_method_6_code 54 = .ok (.iload 5, 2) := jx_dec c_M_person_ok 28 rfl
theorem d_M_person_56 : decode prog_7_method_6_code 56 = .ok (.ifCond .ne 7, 3) := jx_dec c_M_person_ok 29 rfl
theorem d_M_person_59 : decode prog_7_method_6_code 59 = .ok (.iconst 1, 1) := jx_dec c_M_person_ok 30 rfl
theorem d_M_person_60 : decode prog_7_method_6_code 60 = .ok (.goto 16, 3) := jx_dec c_M_person_ok 31 rfl
theorem d_M_person_63 : decode prog_7_method_6_code 63 = .ok (.aload_n 0, 1) := jx_dec c_M_person_ok 32 rfl
theorem d_M_person_64 : decode prog_7_method_6_code 64 = .ok (.getfield 87, 3) := jx_dec c_M_person_ok 33 rfl
theorem d_M_person_67 : decode prog_7_method_6_code 67 = .ok (.iconst 4, 1) := jx_dec c_M_person_ok 34 rfl
theorem d_M_person_68 : decode prog_7_method_6_code 68 = .ok (.if_icmp .ne 7, 3) := jx_dec c_M_person_ok 35 rfl
theorem d_M_person_71 : decode prog_7_method_6_code 71 = .ok (.iconst 2, 1) := jx_dec c_M_person_ok 36 rfl
theorem d_M_person_72 : decode prog_7_method_6_code 72 = .ok (.goto 4, 3) := jx_dec c_M_person_ok 37 rfl
theorem d_M_person_75 : decode prog_7_method_6_code 75 = .ok (.iconst 0, 1) := jx_dec c_M_person_ok 38 rfl
theorem d_M_person_76 : decode prog_7_method_6_code 76 = .ok (.putfield 83, 3) := jx_dec c_M_person_ok 39 rfl
theorem d_M_person_79 : decode prog_7_method_6_code 79 = .ok (.aload_n 0, 1) := jx_dec c_M_person_ok 40 rfl
theorem d_M_person_80 : decode prog_7_method_6_code 80 = .ok (.getfield 83, 3) := jx_dec c_M_person_ok 41 rfl
theorem d_M_person_83 : decode prog_7_method_6_code 83 = .ok (.ifCond .eq 5, 3) := jx_dec c_M_person_ok 42 rfl
theorem d_M_person_86 : decode prog_7_method_6_code 86 = .ok (.iconst 0, 1) := jx_dec c_M_person_ok 43 rfl
theorem d_M_person_87 : decode prog_7_method_6_code 87 = .ok (.ireturn, 1) := jx_dec c_M_person_ok 44 rfl
theorem d_M_person_88 : decode prog_7_method_6_code 88 = .ok (.aload_n 0, 1) := jx_dec c_M_person_ok 45 rfl
theorem d_M_person_89 : decode prog_7_method_6_code 89 = .ok (.getfield 7, 3) := jx_dec c_M_person_ok 46 rfl
theorem d_M_person_92 : decode prog_7_method_6_code 92 = .ok (.aload_n 0, 1) := jx_dec c_M_person_ok 47 rfl
theorem d_M_person_93 : decode prog_7_method_6_code 93 = .ok (.getfield 87, 3) := jx_dec c_M_person_ok 48 rfl
theorem d_M_person_96 : decode prog_7_method_6_code 96 = .ok (.iload_n 1, 1) := jx_dec c_M_person_ok 49 rfl
theorem d_M_person_97 : decode prog_7_method_6_code 97 = .ok (.iastore, 1) := jx_dec c_M_person_ok 50 rfl
theorem d_M_person_98 : decode prog_7_method_6_code 98 = .ok (.aload_n 0, 1) := jx_dec c_M_person_ok 51 rfl
theorem d_M_person_99 : decode prog_7_method_6_code 99 = .ok (.getfield 13, 3) := jx_dec c_M_person_ok 52 rfl
theorem d_M_person_102 : decode prog_7_method_6_code 102 = .ok (.aload_n 0, 1) := jx_dec c_M_person_ok 53 rfl
theorem d_M_person_103 : decode prog_7_method_6_code 103 = .ok (.getfield 87, 3) := jx_dec c_M_person_ok 54 rfl
theorem d_M_person_106 : decode prog_7_method_6_code 106 = .ok (.iload_n 2, 1) := jx_dec c_M_person_ok 55 rfl
theorem d_M_person_107 : decode prog_7_method_6_code 107 = .ok (.iastore, 1) := jx_dec c_M_person_ok 56 rfl
theorem d_M_person_108 : decode prog_7_method_6_code 108 = .ok (.aload_n 0, 1) := jx_dec c_M_person_ok 57 rfl
theorem d_M_person_109 : decode prog_7_method_6_code 109 = .ok (.getfield 16, 3) := jx_dec c_M_person_ok 58 rfl
theorem d_M_person_112 : decode prog_7_method_6_code 112 = .ok (.aload_n 0, 1) := jx_dec c_M_person_ok 59 rfl
theorem d_M_person_113 : decode prog_7_method_6_code 113 = .ok (.getfield 87, 3) := jx_dec c_M_person_ok 60 rfl
theorem d_M_person_116 : decode prog_7_method_6_code 116 = .ok (.iload_n 3, 1) := jx_dec c_M_person_ok 61 rfl
theorem d_M_person_117 : decode prog_7_method_6_code 117 = .ok (.iastore, 1) := jx_dec c_M_person_ok 62 rfl
theorem d_M_person_118 : decode prog_7_method_6_code 118 = .ok (.aload_n 0, 1) := jx_dec c_M_person_ok 63 rfl
theorem d_M_person_119 : decode prog_7_method_6_code 119 = .ok (.getfield 19, 3) := jx_dec c_M_person_ok 64 rfl
theorem d_M_person_122 : decode prog_7_method_6_code 122 = .ok (.aload_n 0, 1) := jx_dec c_M_person_ok 65 rfl
theorem d_M_person_123 : decode prog_7_method_6_code 123 = .ok (.getfield 87, 3) := jx_dec c_M_person_ok 66 rfl
theorem d_M_person_126 : decode prog_7_method_6_code 126 = .ok (.iconst 0, 1) := jx_dec c_M_person_ok 67 rfl
theorem d_M_person_127 : decode prog_7_method_6_code 127 = .ok (.iastore, 1) := jx_dec c_M_person_ok 68 rfl
theorem d_M_person_128 : decode prog_7_method_6_code 128 = .ok (.aload_n 0, 1) := jx_dec c_M_person_ok 69 rfl
theorem d_M_person_129 : decode prog_7_method_6_code 129 = .ok (.getfield 22, 3) := jx_dec c_M_person_ok 70 rfl
theorem d_M_person_132 : decode prog_7_method_6_code 132 = .ok (.aload_n 0, 1) := jx_dec c_M_person_ok 71 rfl
theorem d_M_person_133 : decode prog_7_method_6_code 133 = .ok (.getfield 87, 3) := jx_dec c_M_person_ok 72 rfl
theorem d_M_person_136 : decode prog_7_method_6_code 136 = .ok (.iconst 0, 1) := jx_dec c_M_person_ok 73 rfl
theorem d_M_person_137 : decode prog_7_method_6_code 137 = .ok (.iastore, 1) := jx_dec c_M_person_ok 74 rfl
theorem d_M_person_138 : decode prog_7_method_6_code 138 = .ok (.aload_n 0, 1) := jx_dec c_M_person_ok 75 rfl
theorem d_M_person_139 : decode prog_7_method_6_code 139 = .ok (.getfield 25, 3) := jx_dec c_M_person_ok 76 rfl
theorem d_M_person_142 : decode prog_7_method_6_code 142 = .ok (.aload_n 0, 1) := jx_dec c_M_person_ok 77 rfl
theorem d_M_person_143 : decode prog_7_method_6_code 143 = .ok (.getfield 87, 3) := jx_dec c_M_person_ok 78 rfl
theorem d_M_person_146 : decode prog_7_method_6_code 146 = .ok (.iload 4, 2) := jx_dec c_M_person_ok 79 rfl
theorem d_M_person_148 : decode prog_7_method_6_code 148 = .ok (.iastore, 1) := jx_dec c_M_person_ok 80 rfl
theorem d_M_person_149 : decode prog_7_method_6_code 149 = .ok (.aload_n 0, 1) := jx_dec c_M_person_ok 81 rfl
theorem d_M_person_150 : decode prog_7_method_6_code 150 = .ok (.getfield 28, 3) := jx_dec c_M_person_ok 82 rfl
theorem d_M_person_153 : decode prog_7_method_6_code 153 = .ok (.aload_n 0, 1) := jx_dec c_M_person_ok 83 rfl
theorem d_M_person_154 : decode prog_7_method_6_code 154 = .ok (.getfield 87, 3) := jx_dec c_M_person_ok 84 rfl
theorem d_M_person_157 : decode prog_7_method_6_code 157 = .ok (.iconst 1, 1) := jx_dec c_M_person_ok 85 rfl
theorem d_M_person_158 : decode prog_7_method_6_code 158 = .ok (.bastore, 1) := jx_dec c_M_person_ok 86 rfl
theorem d_M_person_159 : decode prog_7_method_6_code 159 = .ok (.aload_n 0, 1) := jx_dec c_M_person_ok 87 rfl
theorem d_M_person_160 : decode prog_7_method_6_code 160 = .ok (.getfield 32, 3) := jx_dec c_M_person_ok 88 rfl
theorem d_M_person_163 : decode prog_7_method_6_code 163 = .ok (.aload_n 0, 1) := jx_dec c_M_person_ok 89 rfl
theorem d_M_person_164 : decode prog_7_method_6_code 164 = .ok (.getfield 87, 3) := jx_dec c_M_person_ok 90 rfl
theorem d_M_person_167 : decode prog_7_method_6_code 167 = .ok (.iconst (-1), 1) := jx_dec c_M_person_ok 91 rfl
theorem d_M_person_168 : decode prog_7_method_6_code 168 = .ok (.iastore, 1) := jx_dec c_M_person_ok 92 rfl
theorem d_M_person_169 : decode prog_7_method_6_code 169 = .ok (.aload_n 0, 1) := jx_dec c_M_person_ok 93 rfl
theorem d_M_person_170 : decode prog_7_method_6_code 170 = .ok (.dup, 1) := jx_dec c_M_person_ok 94 rfl
theorem d_M_person_171 : decode prog_7_method_6_code 171 = .ok (.getfield 87, 3) := jx_dec c_M_person_ok 95 rfl
theorem d_M_person_174 : decode prog_7_method_6_code 174 = .ok (.iconst 1, 1) := jx_dec c_M_person_ok 96 rfl
theorem d_M_person_175 : decode prog_7_method_6_code 175 = .ok (.iadd, 1) := jx_dec c_M_person_ok 97 rfl
theorem d_M_person_176 : decode prog_7_method_6_code 176 = .ok (.putfield 87, 3) := jx_dec c_M_person_ok 98 rfl
theorem d_M_person_179 : decode prog_7_method_6_code 179 = .ok (.aload_n 0, 1) := jx_dec c_M_person_ok 99 rfl
theorem d_M_person_180 : decode prog_7_method_6_code 180 = .ok (.getfield 87, 3) := jx_dec c_M_person_ok 100 rfl
theorem d_M_person_183 : decode prog_7_method_6_code 183 = .ok (.iconst 1, 1) := jx_dec c_M_person_ok 101 rfl
theorem d_M_person_184 : decode prog_7_method_6_code 184 = .ok (.isub, 1) := jx_dec c_M_person_ok 102 rfl
theorem d_M_person_185 : decode prog_7_method_6_code 185 = .ok (.ireturn, 1) := jx_dec c_M_person_ok 103 rfl
def c_M_within : List (Nat × Instr × Nat) := [(0, .iload_n 0, 1), (1, .iload_n 1, 1), (2, .if_icmp .lt 12, 3), (5, .iload_n 0, 1), (6, .iload_n 2, 1), (7, .if_icmp .gt 7, 3), (10, .iconst 1, 1), (11, .goto 4, 3), (14, .iconst 0, 1), (15, .ireturn, 1)]
theorem c_M_within_ok : (c_M_within).all (fun q => decide (decode prog_7_method_3_code q.1 = .ok q.2)) = true := by decide +kernel
theorem d_M_within_0 : decode prog_7_method_3_code 0 = .ok (.iload_n 0, 1) := jx_dec c_M_within_ok 0 rfl
theorem d_M_within_1 : decode prog_7_method_3_code 1 = .ok (.iload_n 1, 1) := jx_dec c_M_within_ok 1 rfl
theorem d_M_within_2 : decode prog_7_method_3_code 2 = .ok (.if_icmp .lt 12, 3) := jx_dec c_M_within_ok 2 rfl
theorem d_M_within_5 : decode prog_7_method_3_code 5 = .ok (.iload_n 0, 1) := jx_dec c_M_within_ok 3 rfl
theorem d_M_within_6 : decode prog_7_method_3_code 6 = .ok (.iload_n 2, 1) := jx_dec c_M_within_ok 4 rfl
theorem d_M_within_7 : decode prog_7_method_3_code 7 = .ok (.if_icmp .gt 7, 3) := jx_dec c_M_within_ok 5 rfl
theorem d_M_within_10 : decode prog_7_method_3_code 10 = .ok (.iconst 1, 1) := jx_dec c_M_within_ok 6 rfl
theorem d_M_within_11 : decode prog_7_method_3_code 11 = .ok (.goto 4, 3) := jx_dec c_M_within_ok 7 rfl
theorem d_M_within_14 : decode prog_7_method_3_code 14 = .ok (.iconst 0, 1) := jx_dec c_M_within_ok 8 rfl
theorem d_M_within_15 : decode prog_7_method_3_code 15 = .ok (.ireturn, 1) := jx_dec c_M_within_ok 9 rfl
def c_M_rest : List (Nat × Instr × Nat) := [(0, .aload_n 0, 1), (1, .aload_n 0, 1), (2, .iload_n 1, 1), (3, .invokevirtual 98, 3), (6, .ifCond .ne 7, 3), (9, .iconst 1, 1), (10, .goto 33, 3), (13, .iload_n 2, 1), (14, .aload_n 0, 1), (15, .getfield 13, 3), (18, .iload_n 1, 1), (19, .iaload, 1), (20, .if_icmp .lt 18, 3), (23, .iload_n 3, 1), (24, .aload_n 0, 1), (25, .getfield 16, 3), (28, .iload_n 1, 1), (29, .iaload, 1), (30, .if_icmp .gt 8, 3), (33, .iload_n 2, 1), (34, .iload_n 3, 1), (35, .if_icmp .le 7, 3), (38, .iconst 2, 1), (39, .goto 4, 3), (42, .iconst 0, 1), (43, .putfield 83, 3), (46, .aload_n 0, 1), (47, .getfield 83, 3), (50, .ifCond .eq 4, 3), (53, .return_, 1), (54, .aload_n 0, 1), (55, .getfield 19, 3), (58, .iload_n 1, 1), (59, .iload_n 2, 1), (60, .iastore, 1), (61, .aload_n 0, 1), (62, .getfield 22, 3), (65, .iload_n 1, 1), (66, .iload_n 3, 1), (67, .iastore, 1), (68, .return_, 1)]
theorem c_M_rest_ok : (c_M_rest).all (fun q => decide (decode prog_7_method_7_code q.1 = .ok q.2)) = true := by decide +kernel
theorem d_M_rest_0 : decode prog_7_method_7_code 0 = .ok (.aload_n 0, 1) := jx_dec c_M_rest_ok 0 rfl
theorem d_M_rest_1 : decode prog_7_method_7_code 1 = .ok (.aload_n 0, 1) := jx_dec c_M_rest_ok 1 rfl
theorem d_M_rest_2 : decode prog_7_method_7_code 2 = .ok (.iload_n 1, 1) := jx_dec c_M_rest_ok 2 rfl
theorem d_M_rest_3 : decode prog_7_method_7_code 3 = .ok (.invokevirtual 98, 3) := jx_dec c_M_rest_ok 3 rfl
theorem d_M_rest_6 : decode prog_7_method_7_code 6 = .ok (.ifCond .ne 7, 3) := jx_dec c_M_rest_ok 4 rfl
theorem d_M_rest_9 : decode prog_7_method_7_code 9 = .ok (.iconst 1, 1) := jx_dec c_M_rest_ok 5 rfl
theorem d_M_rest_10 : decode prog_7_method_7_code 10 = .ok (.goto 33, 3) := jx_dec c_M_rest_ok 6 rfl
theorem d_M_rest_13 : decode prog_7_method_7_code 13 = .ok (.iload_n 2, 1) := jx_dec c_M_rest_ok 7 rfl
theorem d_M_rest_14 : decode prog_7_method_7_code 14 = .ok (.aload_n 0, 1) := jx_dec c_M_rest_ok 8 rfl
theorem d_M_rest_15 : decode prog_7_method_7_code 15 = .ok (.getfield 13, 3) := jx_dec c_M_rest_ok 9 rfl
theorem d_M_rest_18 : decode prog_7_method_7_code 18 = .ok (.iload_n 1, 1) := jx_dec c_M_rest_ok 10 rfl
theorem d_M_rest_19 : decode prog_7_method_7_code 19 = .ok (.iaload, 1) := jx_dec c_M_rest_ok 11 rfl
theorem d_M_rest_20 : decode prog_7_method_7_code 20 = .ok (.if_icmp .lt 18, 3) := jx_dec c_M_rest_ok 12 rfl
theorem d_M_rest_23 : decode prog_7_method_7_code 23 = .ok (.iload_n 3, 1) := jx_dec c_M_rest_ok 13 rfl
theorem d_M_rest_24 : decode prog_7_method_7_code 24 = .ok (.aload_n 0, 1) := jx_dec c_M_rest_ok 14 rfl
theorem d_M_rest_25 : decode prog_7_method_7_code 25 = .ok (.getfield 16, 3) := jx_dec c_M_rest_ok 15 rfl
theorem d_M_rest_28 : decode prog_7_method_7_code 28 = .ok (.iload_n 1, 1) := jx_dec c_M_rest_ok 16 rfl
theorem d_M_rest_29 : decode prog_7_method_7_code 29 = .ok (.iaload, 1) := jx_dec c_M_rest_ok 17 rfl
theorem d_M_rest_30 : decode prog_7_method_7_code 30 = .ok (.if_icmp .gt 8, 3) := jx_dec c_M_rest_ok 18 rfl
theorem d_M_rest_33 : decode prog_7_method_7_code 33 = .ok (.iload_n 2, 1) := jx_dec c_M_rest_ok 19 rfl
theorem d_M_rest_34 : decode prog_7_method_7_code 34 = .ok (.iload_n 3, 1) := jx_dec c_M_rest_ok 20 rfl
theorem d_M_rest_35 : decode prog_7_method_7_code 35 = .ok (.if_icmp .le 7, 3) := jx_dec c_M_rest_ok 21 rfl
theorem d_M_rest_38 : decode prog_7_method_7_code 38 = .ok (.iconst 2, 1) := jx_dec c_M_rest_ok 22 rfl
theorem d_M_rest_39 : decode prog_7_method_7_code 39 = .ok (.goto 4, 3) := jx_dec c_M_rest_ok 23 rfl
theorem d_M_rest_42 : decode prog_7_method_7_code 42 = .ok (.iconst 0, 1) := jx_dec c_M_rest_ok 24 rfl
theorem d_M_rest_43 : decode prog_7_method_7_code 43 = .ok (.putfield 83, 3) := jx_dec c_M_rest_ok 25 rfl
theorem d_M_rest_46 : decode prog_7_method_7_code 46 = .ok (.aload_n 0, 1) := jx_dec c_M_rest_ok 26 rfl
theorem d_M_rest_47 : decode prog_7_method_7_code 47 = .ok (.getfield 83, 3) := jx_dec c_M_rest_ok 27 rfl
theorem d_M_rest_50 : decode prog_7_method_7_code 50 = .ok (.ifCond .eq 4, 3) := jx_dec c_M_rest_ok 28 rfl
theorem d_M_rest_53 : decode prog_7_method_7_code 53 = .ok (.return_, 1) := jx_dec c_M_rest_ok 29 rfl
theorem d_M_rest_54 : decode prog_7_method_7_code 54 = .ok (.aload_n 0, 1) := jx_dec c_M_rest_ok 30 rfl
theorem d_M_rest_55 : decode prog_7_method_7_code 55 = .ok (.getfield 19, 3) := jx_dec c_M_rest_ok 31 rfl
theorem d_M_rest_58 : decode prog_7_method_7_code 58 = .ok (.iload_n 1, 1) := jx_dec c_M_rest_ok 32 rfl
theorem d_M_rest_59 : decode prog_7_method_7_code 59 = .ok (.iload_n 2, 1) := jx_dec c_M_rest_ok 33 rfl
theorem d_M_rest_60 : decode prog_7_method_7_code 60 = .ok (.iastore, 1) := jx_dec c_M_rest_ok 34 rfl
theorem d_M_rest_61 : decode prog_7_method_7_code 61 = .ok (.aload_n 0, 1) := jx_dec c_M_rest_ok 35 rfl
theorem d_M_rest_62 : decode prog_7_method_7_code 62 = .ok (.getfield 22, 3) := jx_dec c_M_rest_ok 36 rfl
theorem d_M_rest_65 : decode prog_7_method_7_code 65 = .ok (.iload_n 1, 1) := jx_dec c_M_rest_ok 37 rfl
theorem d_M_rest_66 : decode prog_7_method_7_code 66 = .ok (.iload_n 3, 1) := jx_dec c_M_rest_ok 38 rfl
theorem d_M_rest_67 : decode prog_7_method_7_code 67 = .ok (.iastore, 1) := jx_dec c_M_rest_ok 39 rfl
theorem d_M_rest_68 : decode prog_7_method_7_code 68 = .ok (.return_, 1) := jx_dec c_M_rest_ok 40 rfl
def c_M_isPerson : List (Nat × Instr × Nat) := [(0, .iload_n 1, 1), (1, .iconst 0, 1), (2, .aload_n 0, 1), (3, .getfield 87, 3), (6, .iconst 1, 1), (7, .isub, 1), (8, .invokestatic 90, 3), (11, .ireturn, 1)]
theorem c_M_isPerson_ok : (c_M_isPerson).all (fun q => decide (decode prog_7_method_4_code q.1 = .ok q.2)) = true := by decide +kernel
theorem d_M_isPerson_0 : decode prog_7_method_4_code 0 = .ok (.iload_n 1, 1) := jx_dec c_M_isPerson_ok 0 rfl
theorem d_M_isPerson_1 : decode prog_7_method_4_code 1 = .ok (.iconst 0, 1) := jx_dec c_M_isPerson_ok 1 rfl
theorem d_M_isPerson_2 : decode prog_7_method_4_code 2 = .ok (.aload_n 0, 1) := jx_dec c_M_isPerson_ok 2 rfl
theorem d_M_isPerson_3 : decode prog_7_method_4_code 3 = .ok (.getfield 87, 3) := jx_dec c_M_isPerson_ok 3 rfl
theorem d_M_isPerson_6 : decode prog_7_method_4_code 6 = .ok (.iconst 1, 1) := jx_dec c_M_isPerson_ok 4 rfl
theorem d_M_isPerson_7 : decode prog_7_method_4_code 7 = .ok (.isub, 1) := jx_dec c_M_isPerson_ok 5 rfl
theorem d_M_isPerson_8 : decode prog_7_method_4_code 8 = .ok (.invokestatic 90, 3) := jx_dec c_M_isPerson_ok 6 rfl
theorem d_M_isPerson_11 : decode prog_7_method_4_code 11 = .ok (.ireturn, 1) := jx_dec c_M_isPerson_ok 7 rfl
def c_M_train : List (Nat × Instr × Nat) := [(0, .aload_n 0, 1), (1, .aload_n 0, 1), (2, .iload_n 1, 1), (3, .invokevirtual 98, 3), (6, .ifCond .ne 7, 3), (9, .iconst 1, 1), (10, .goto 36, 3), (13, .iload_n 2, 1), (14, .iconst 0, 1), (15, .bipush 7, 2), (17, .invokestatic 90, 3), (20, .ifCond .ne 7, 3), (23, .iconst 2, 1), (24, .goto 22, 3), (27, .aload_n 0, 1), (28, .getfield 7, 3), (31, .iload_n 1, 1), (32, .iaload, 1), (33, .iload_n 2, 1), (34, .ishr, 1), (35, .iconst 1, 1), (36, .iand, 1), (37, .iconst 1, 1), (38, .if_icmp .ne 7, 3), (41, .iconst 3, 1), (42, .goto 4, 3), (45, .iconst 0, 1), (46, .putfield 83, 3), (49, .aload_n 0, 1), (50, .getfield 83, 3), (53, .ifCond .eq 5, 3), (56, .iconst 0, 1), (57, .ireturn, 1), (58, .aload_n 0, 1), (59, .getfield 7, 3), (62, .iload_n 1, 1), (63, .dup2, 1), (64, .iaload, 1), (65, .iconst 1, 1), (66, .iload_n 2, 1), (67, .ishl, 1), (68, .ior, 1), (69, .iastore, 1), (70, .aload_n 0, 1), (71, .getfield 7, 3), (74, .iload_n 1, 1), (75, .iaload, 1), (76, .invokestatic 102, 3), (79, .ireturn, 1)]
theorem c_M_train_ok : (c_M_train).all (fun q => decide (decode prog_7_method_9_code q.1 = .ok q.2)) = true := by decide +kernel
theorem d_M_train_0 : decode prog_7_method_9_code 0 = .ok (.aload_n 0, 1) := jx_dec c_M_train_ok 0 rfl
theorem d_M_train_1 : decode prog_7_method_9_code 1 = .ok (.aload_n 0, 1) := jx_dec c_M_train_ok 1 rfl
theorem d_M_train_2 : decode prog_7_method_9_code 2 = .ok (.iload_n 1, 1) := jx_dec c_M_train_ok 2 rfl
theorem d_M_train_3 : decode prog_7_method_9_code 3 = .ok (.invokevirtual 98, 3) := jx_dec c_M_train_ok 3 rfl
theorem d_M_train_6 : decode prog_7_method_9_code 6 = .ok (.ifCond .ne 7, 3) := jx_dec c_M_train_ok 4 rfl
theorem d_M_train_9 : decode prog_7_method_9_code 9 = .ok (.iconst 1, 1) := jx_dec c_M_train_ok 5 rfl
theorem d_M_train_10 : decode prog_7_method_9_code 10 = .ok (.goto 36, 3) := jx_dec c_M_train_ok 6 rfl
theorem d_M_train_13 : decode prog_7_method_9_code 13 = .ok (.iload_n 2, 1) := jx_dec c_M_train_ok 7 rfl
theorem d_M_train_14 : decode prog_7_method_9_code 14 = .ok (.iconst 0, 1) := jx_dec c_M_train_ok 8 rfl
theorem d_M_train_15 : decode prog_7_method_9_code 15 = .ok (.bipush 7, 2) := jx_dec c_M_train_ok 9 rfl
theorem d_M_train_17 : decode prog_7_method_9_code 17 = .ok (.invokestatic 90, 3) := jx_dec c_M_train_ok 10 rfl
theorem d_M_train_20 : decode prog_7_method_9_code 20 = .ok (.ifCond .ne 7, 3) := jx_dec c_M_train_ok 11 rfl
theorem d_M_train_23 : decode prog_7_method_9_code 23 = .ok (.iconst 2, 1) := jx_dec c_M_train_ok 12 rfl
theorem d_M_train_24 : decode prog_7_method_9_code 24 = .ok (.goto 22, 3) := jx_dec c_M_train_ok 13 rfl
theorem d_M_train_27 : decode prog_7_method_9_code 27 = .ok (.aload_n 0, 1) := jx_dec c_M_train_ok 14 rfl
theorem d_M_train_28 : decode prog_7_method_9_code 28 = .ok (.getfield 7, 3) := jx_dec c_M_train_ok 15 rfl
theorem d_M_train_31 : decode prog_7_method_9_code 31 = .ok (.iload_n 1, 1) := jx_dec c_M_train_ok 16 rfl
theorem d_M_train_32 : decode prog_7_method_9_code 32 = .ok (.iaload, 1) := jx_dec c_M_train_ok 17 rfl
theorem d_M_train_33 : decode prog_7_method_9_code 33 = .ok (.iload_n 2, 1) := jx_dec c_M_train_ok 18 rfl
theorem d_M_train_34 : decode prog_7_method_9_code 34 = .ok (.ishr, 1) := jx_dec c_M_train_ok 19 rfl
theorem d_M_train_35 : decode prog_7_method_9_code 35 = .ok (.iconst 1, 1) := jx_dec c_M_train_ok 20 rfl
theorem d_M_train_36 : decode prog_7_method_9_code 36 = .ok (.iand, 1) := jx_dec c_M_train_ok 21 rfl
theorem d_M_train_37 : decode prog_7_method_9_code 37 = .ok (.iconst 1, 1) := jx_dec c_M_train_ok 22 rfl
theorem d_M_train_38 : decode prog_7_method_9_code 38 = .ok (.if_icmp .ne 7, 3) := jx_dec c_M_train_ok 23 rfl
theorem d_M_train_41 : decode prog_7_method_9_code 41 = .ok (.iconst 3, 1) := jx_dec c_M_train_ok 24 rfl
theorem d_M_train_42 : decode prog_7_method_9_code 42 = .ok (.goto 4, 3) := jx_dec c_M_train_ok 25 rfl
theorem d_M_train_45 : decode prog_7_method_9_code 45 = .ok (.iconst 0, 1) := jx_dec c_M_train_ok 26 rfl
theorem d_M_train_46 : decode prog_7_method_9_code 46 = .ok (.putfield 83, 3) := jx_dec c_M_train_ok 27 rfl
theorem d_M_train_49 : decode prog_7_method_9_code 49 = .ok (.aload_n 0, 1) := jx_dec c_M_train_ok 28 rfl
theorem d_M_train_50 : decode prog_7_method_9_code 50 = .ok (.getfield 83, 3) := jx_dec c_M_train_ok 29 rfl
theorem d_M_train_53 : decode prog_7_method_9_code 53 = .ok (.ifCond .eq 5, 3) := jx_dec c_M_train_ok 30 rfl
theorem d_M_train_56 : decode prog_7_method_9_code 56 = .ok (.iconst 0, 1) := jx_dec c_M_train_ok 31 rfl
theorem d_M_train_57 : decode prog_7_method_9_code 57 = .ok (.ireturn, 1) := jx_dec c_M_train_ok 32 rfl
theorem d_M_train_58 : decode prog_7_method_9_code 58 = .ok (.aload_n 0, 1) := jx_dec c_M_train_ok 33 rfl
theorem d_M_train_59 : decode prog_7_method_9_code 59 = .ok (.getfield 7, 3) := jx_dec c_M_train_ok 34 rfl
theorem d_M_train_62 : decode prog_7_method_9_code 62 = .ok (.iload_n 1, 1) := jx_dec c_M_train_ok 35 rfl
theorem d_M_train_63 : decode prog_7_method_9_code 63 = .ok (.dup2, 1) := jx_dec c_M_train_ok 36 rfl
theorem d_M_train_64 : decode prog_7_method_9_code 64 = .ok (.iaload, 1) := jx_dec c_M_train_ok 37 rfl
theorem d_M_train_65 : decode prog_7_method_9_code 65 = .ok (.iconst 1, 1) := jx_dec c_M_train_ok 38 rfl
theorem d_M_train_66 : decode prog_7_method_9_code 66 = .ok (.iload_n 2, 1) := jx_dec c_M_train_ok 39 rfl
theorem d_M_train_67 : decode prog_7_method_9_code 67 = .ok (.ishl, 1) := jx_dec c_M_train_ok 40 rfl
theorem d_M_train_68 : decode prog_7_method_9_code 68 = .ok (.ior, 1) := jx_dec c_M_train_ok 41 rfl
theorem d_M_train_69 : decode prog_7_method_9_code 69 = .ok (.iastore, 1) := jx_dec c_M_train_ok 42 rfl
theorem d_M_train_70 : decode prog_7_method_9_code 70 = .ok (.aload_n 0, 1) := jx_dec c_M_train_ok 43 rfl
theorem d_M_train_71 : decode prog_7_method_9_code 71 = .ok (.getfield 7, 3) := jx_dec c_M_train_ok 44 rfl
theorem d_M_train_74 : decode prog_7_method_9_code 74 = .ok (.iload_n 1, 1) := jx_dec c_M_train_ok 45 rfl
theorem d_M_train_75 : decode prog_7_method_9_code 75 = .ok (.iaload, 1) := jx_dec c_M_train_ok 46 rfl
theorem d_M_train_76 : decode prog_7_method_9_code 76 = .ok (.invokestatic 102, 3) := jx_dec c_M_train_ok 47 rfl
theorem d_M_train_79 : decode prog_7_method_9_code 79 = .ok (.ireturn, 1) := jx_dec c_M_train_ok 48 rfl
def c_M_bits : List (Nat × Instr × Nat) := [(0, .iconst 0, 1), (1, .istore_n 1, 1), (2, .iconst 0, 1), (3, .istore_n 2, 1), (4, .iload_n 2, 1), (5, .bipush 8, 2), (7, .if_icmp .ge 17, 3), (10, .iload_n 1, 1), (11, .iload_n 0, 1), (12, .iload_n 2, 1), (13, .ishr, 1), (14, .iconst 1, 1), (15, .iand, 1), (16, .iadd, 1), (17, .istore_n 1, 1), (18, .iinc 2 1, 3), (21, .goto (-17), 3), (24, .iload_n 1, 1), (25, .ireturn, 1)]
theorem c_M_bits_ok : (c_M_bits).all (fun q => decide (decode prog_7_method_8_code q.1 = .ok q.2)) = true := by decide +kernel
theorem d_M_bits_0 : decode prog_7_method_8_code 0 = .ok (.iconst 0, 1) := jx_dec c_M_bits_ok 0 rfl
theorem d_M_bits_1 : decode prog_7_method_8_code 1 = .ok (.istore_n 1, 1) := jx_dec c_M_bits_ok 1 rfl
theorem d_M_bits_2 : decode prog_7_method_8_code 2 = .ok (.iconst 0, 1) := jx_dec c_M_bits_ok 2 rfl
theorem d_M_bits_3 : decode prog_7_method_8_code 3 = .ok (.istore_n 2, 1) := jx_dec c_M_bits_ok 3 rfl
theorem d_M_bits_4 : decode prog_7_method_8_code 4 = .ok (.iload_n 2, 1) := jx_dec c_M_bits_ok 4 rfl
theorem d_M_bits_5 : decode prog_7_method_8_code 5 = .ok (.bipush 8, 2) := jx_dec c_M_bits_ok 5 rfl
theorem d_M_bits_7 : decode prog_7_method_8_code 7 = .ok (.if_icmp .ge 17, 3) := jx_dec c_M_bits_ok 6 rfl
theorem d_M_bits_10 : decode prog_7_method_8_code 10 = .ok (.iload_n 1, 1) := jx_dec c_M_bits_ok 7 rfl
theorem d_M_bits_11 : decode prog_7_method_8_code 11 = .ok (.iload_n 0, 1) := jx_dec c_M_bits_ok 8 rfl
theorem d_M_bits_12 : decode prog_7_method_8_code 12 = .ok (.iload_n 2, 1) := jx_dec c_M_bits_ok 9 rfl
theorem d_M_bits_13 : decode prog_7_method_8_code 13 = .ok (.ishr, 1) := jx_dec c_M_bits_ok 10 rfl
theorem d_M_bits_14 : decode prog_7_method_8_code 14 = .ok (.iconst 1, 1) := jx_dec c_M_bits_ok 11 rfl
theorem d_M_bits_15 : decode prog_7_method_8_code 15 = .ok (.iand, 1) := jx_dec c_M_bits_ok 12 rfl
theorem d_M_bits_16 : decode prog_7_method_8_code 16 = .ok (.iadd, 1) := jx_dec c_M_bits_ok 13 rfl
theorem d_M_bits_17 : decode prog_7_method_8_code 17 = .ok (.istore_n 1, 1) := jx_dec c_M_bits_ok 14 rfl
theorem d_M_bits_18 : decode prog_7_method_8_code 18 = .ok (.iinc 2 1, 3) := jx_dec c_M_bits_ok 15 rfl
theorem d_M_bits_21 : decode prog_7_method_8_code 21 = .ok (.goto (-17), 3) := jx_dec c_M_bits_ok 16 rfl
theorem d_M_bits_24 : decode prog_7_method_8_code 24 = .ok (.iload_n 1, 1) := jx_dec c_M_bits_ok 17 rfl
theorem d_M_bits_25 : decode prog_7_method_8_code 25 = .ok (.ireturn, 1) := jx_dec c_M_bits_ok 18 rfl
def c_M_task : List (Nat × Instr × Nat) := [(0, .iload_n 1, 1), (1, .iconst 0, 1), (2, .bipush 7, 2), (4, .invokestatic 90, 3), (7, .ifCond .eq 38, 3), (10, .iload_n 2, 1), (11, .iconst 1, 1), (12, .sipush 5000, 3), (15, .invokestatic 90, 3), (18, .ifCond .eq 27, 3), (21, .iload_n 3, 1), (22, .iconst 0, 1), (23, .ldc 97, 2), (25, .invokestatic 90, 3), (28, .ifCond .eq 17, 3), (31, .iload 4, 2), (33, .iconst 0, 1), (34, .iconst 3, 1), (35, .invokestatic 90, 3), (38, .ifCond .eq 7, 3), (41, .iconst 1, 1), (42, .goto 4, 3), (45, .iconst 0, 1), (46, .istore 5, 2), (48, .aload_n 0, 1), (49, .iload 5, 2), (51, .ifCond .ne 7, 3), (54, .iconst 1, 1), (55, .goto 17, 3), (58, .aload_n 0, 1), (59, .getfield 94, 3), (62, .bipush 16, 2), (64, .if_icmp .ne 7, 3), (67, .iconst 2, 1), (68, .goto 4, 3), (71, .iconst 0, 1), (72, .putfield 83, 3), (75, .aload_n 0, 1), (76, .getfield 83, 3), (79, .ifCond .eq 5, 3), (82, .iconst 0, 1), (83, .ireturn, 1), (84, .aload_n 0, 1), (85, .getfield 38, 3), (88, .aload_n 0, 1), (89, .getfield 94, 3), (92, .iconst 0, 1), (93, .iastore, 1), (94, .aload_n 0, 1), (95, .getfield 41, 3), (98, .aload_n 0, 1), (99, .getfield 94, 3), (102, .iload_n 1, 1), (103, .iastore, 1), (104, .aload_n 0, 1), (105, .getfield 44, 3), (108, .aload_n 0, 1), (109, .getfield 94, 3), (112, .iload_n 2, 1), (113, .iastore, 1), (114, .aload_n 0, 1), (115, .getfield 47, 3), (118, .aload_n 0, 1), (119, .getfield 94, 3), (122, .iload_n 3, 1), (123, .iastore, 1), (124, .aload_n 0, 1), (125, .getfield 50, 3), (128, .aload_n 0, 1), (129, .getfield 94, 3), (132, .iload 4, 2), (134, .iastore, 1), (135, .aload_n 0, 1), (136, .getfield 53, 3), (139, .aload_n 0, 1), (140, .getfield 94, 3), (143, .iconst 0, 1), (144, .iastore, 1), (145, .aload_n 0, 1), (146, .getfield 56, 3), (149, .aload_n 0, 1), (150, .getfield 94, 3), (153, .iconst (-1), 1), (154, .iastore, 1), (155, .aload_n 0, 1), (156, .getfield 59, 3), (159, .aload_n 0, 1), (160, .getfield 94, 3), (163, .iconst (-1), 1), (164, .iastore, 1), (165, .aload_n 0, 1), (166, .dup, 1), (167, .getfield 94, 3), (170, .iconst 1, 1), (171, .iadd, 1), (172, .putfield 94, 3), (175, .aload_n 0, 1), (176, .getfield 94, 3), (179, .iconst 1, 1), (180, .isub, 1), (181, .ireturn, 1)]
theorem c_M_task_ok : (c_M_task).all (fun q => decide (decode prog_7_method_10_code q.1 = .ok q.2)) = true := by decide +kernel
theorem d_M_task_0 : decode prog_7_method_10_code 0 = .ok (.iload_n 1, 1) := jx_dec c_M_task_ok 0 rfl
theorem d_M_task_1 : decode prog_7_method_10_code 1 = .ok (.iconst 0, 1) := jx_dec c_M_task_ok 1 rfl
theorem d_M_task_2 : decode prog_7_method_10_code 2 = .ok (.bipush 7, 2) := jx_dec c_M_task_ok 2 rfl
theorem d_M_task_4 : decode prog_7_method_10_code 4 = .ok (.invokestatic 90, 3) := jx_dec c_M_task_ok 3 rfl
theorem d_M_task_7 : decode prog_7_method_10_code 7 = .ok (.ifCond .eq 38, 3) := jx_dec c_M_task_ok 4 rfl
theorem d_M_task_10 : decode prog_7_method_10_code 10 = .ok (.iload_n 2, 1) := jx_dec c_M_task_ok 5 rfl
theorem d_M_task_11 : decode prog_7_method_10_code 11 = .ok (.iconst 1, 1) := jx_dec c_M_task_ok 6 rfl
theorem d_M_task_12 : decode prog_7_method_10_code 12 = .ok (.sipush 5000, 3) := jx_dec c_M_task_ok 7 rfl
theorem d_M_task_15 : decode prog_7_method_10_code 15 = .ok (.invokestatic 90, 3) := jx_dec c_M_task_ok 8 rfl
theorem d_M_task_18 : decode prog_7_method_10_code 18 = .ok (.ifCond .eq 27, 3) := jx_dec c_M_task_ok 9 rfl
theorem d_M_task_21 : decode prog_7_method_10_code 21 = .ok (.iload_n 3, 1) := jx_dec c_M_task_ok 10 rfl
theorem d_M_task_22 : decode prog_7_method_10_code 22 = .ok (.iconst 0, 1) := jx_dec c_M_task_ok 11 rfl
theorem d_M_task_23 : decode prog_7_method_10_code 23 = .ok (.ldc 97, 2) := jx_dec c_M_task_ok 12 rfl
theorem d_M_task_25 : decode prog_7_method_10_code 25 = .ok (.invokestatic 90, 3) := jx_dec c_M_task_ok 13 rfl
theorem d_M_task_28 : decode prog_7_method_10_code 28 = .ok (.ifCond .eq 17, 3) := jx_dec c_M_task_ok 14 rfl
theorem d_M_task_31 : decode prog_7_method_10_code 31 = .ok (.iload 4, 2) := jx_dec c_M_task_ok 15 rfl
theorem d_M_task_33 : decode prog_7_method_10_code 33 = .ok (.iconst 0, 1) := jx_dec c_M_task_ok 16 rfl
theorem d_M_task_34 : decode prog_7_method_10_code 34 = .ok (.iconst 3, 1) := jx_dec c_M_task_ok 17 rfl
theorem d_M_task_35 : decode prog_7_method_10_code 35 = .ok (.invokestatic 90, 3) := jx_dec c_M_task_ok 18 rfl
theorem d_M_task_38 : decode prog_7_method_10_code 38 = .ok (.ifCond .eq 7, 3) := jx_dec c_M_task_ok 19 rfl
theorem d_M_task_41 : decode prog_7_method_10_code 41 = .ok (.iconst 1, 1) := jx_dec c_M_task_ok 20 rfl
theorem d_M_task_42 : decode prog_7_method_10_code 42 = .ok (.goto 4, 3) := jx_dec c_M_task_ok 21 rfl
theorem d_M_task_45 : decode prog_7_method_10_code 45 = .ok (.iconst 0, 1) := jx_dec c_M_task_ok 22 rfl
theorem d_M_task_46 : decode prog_7_method_10_code 46 = .ok (.istore 5, 2) := jx_dec c_M_task_ok 23 rfl
theorem d_M_task_48 : decode prog_7_method_10_code 48 = .ok (.aload_n 0, 1) := jx_dec c_M_task_ok 24 rfl
theorem d_M_task_49 : decode prog_7_method_10_code 49 = .ok (.iload 5, 2) := jx_dec c_M_task_ok 25 rfl
theorem d_M_task_51 : decode prog_7_method_10_code 51 = .ok (.ifCond .ne 7, 3) := jx_dec c_M_task_ok 26 rfl
theorem d_M_task_54 : decode prog_7_method_10_code 54 = .ok (.iconst 1, 1) := jx_dec c_M_task_ok 27 rfl
theorem d_M_task_55 : decode prog_7_method_10_code 55 = .ok (.goto 17, 3) := jx_dec c_M_task_ok 28 rfl
theorem d_M_task_58 : decode prog_7_method_10_code 58 = .ok (.aload_n 0, 1) := jx_dec c_M_task_ok 29 rfl
theorem d_M_task_59 : decode prog_7_method_10_code 59 = .ok (.getfield 94, 3) := jx_dec c_M_task_ok 30 rfl
theorem d_M_task_62 : decode prog_7_method_10_code 62 = .ok (.bipush 16, 2) := jx_dec c_M_task_ok 31 rfl
theorem d_M_task_64 : decode prog_7_method_10_code 64 = .ok (.if_icmp .ne 7, 3) := jx_dec c_M_task_ok 32 rfl
theorem d_M_task_67 : decode prog_7_method_10_code 67 = .ok (.iconst 2, 1) := jx_dec c_M_task_ok 33 rfl
theorem d_M_task_68 : decode prog_7_method_10_code 68 = .ok (.goto 4, 3) := jx_dec c_M_task_ok 34 rfl
theorem d_M_task_71 : decode prog_7_method_10_code 71 = .ok (.iconst 0, 1) := jx_dec c_M_task_ok 35 rfl
theorem d_M_task_72 : decode prog_7_method_10_code 72 = .ok (.putfield 83, 3) := jx_dec c_M_task_ok 36 rfl
theorem d_M_task_75 : decode prog_7_method_10_code 75 = .ok (.aload_n 0, 1) := jx_dec c_M_task_ok 37 rfl
theorem d_M_task_76 : decode prog_7_method_10_code 76 = .ok (.getfield 83, 3) := jx_dec c_M_task_ok 38 rfl
theorem d_M_task_79 : decode prog_7_method_10_code 79 = .ok (.ifCond .eq 5, 3) := jx_dec c_M_task_ok 39 rfl
theorem d_M_task_82 : decode prog_7_method_10_code 82 = .ok (.iconst 0, 1) := jx_dec c_M_task_ok 40 rfl
theorem d_M_task_83 : decode prog_7_method_10_code 83 = .ok (.ireturn, 1) := jx_dec c_M_task_ok 41 rfl
theorem d_M_task_84 : decode prog_7_method_10_code 84 = .ok (.aload_n 0, 1) := jx_dec c_M_task_ok 42 rfl
theorem d_M_task_85 : decode prog_7_method_10_code 85 = .ok (.getfield 38, 3) := jx_dec c_M_task_ok 43 rfl
theorem d_M_task_88 : decode prog_7_method_10_code 88 = .ok (.aload_n 0, 1) := jx_dec c_M_task_ok 44 rfl
theorem d_M_task_89 : decode prog_7_method_10_code 89 = .ok (.getfield 94, 3) := jx_dec c_M_task_ok 45 rfl
theorem d_M_task_92 : decode prog_7_method_10_code 92 = .ok (.iconst 0, 1) := jx_dec c_M_task_ok 46 rfl
theorem d_M_task_93 : decode prog_7_method_10_code 93 = .ok (.iastore, 1) := jx_dec c_M_task_ok 47 rfl
theorem d_M_task_94 : decode prog_7_method_10_code 94 = .ok (.aload_n 0, 1) := jx_dec c_M_task_ok 48 rfl
theorem d_M_task_95 : decode prog_7_method_10_code 95 = .ok (.getfield 41, 3) := jx_dec c_M_task_ok 49 rfl
theorem d_M_task_98 : decode prog_7_method_10_code 98 = .ok (.aload_n 0, 1) := jx_dec c_M_task_ok 50 rfl
theorem d_M_task_99 : decode prog_7_method_10_code 99 = .ok (.getfield 94, 3) := jx_dec c_M_task_ok 51 rfl
theorem d_M_task_102 : decode prog_7_method_10_code 102 = .ok (.iload_n 1, 1) := jx_dec c_M_task_ok 52 rfl
theorem d_M_task_103 : decode prog_7_method_10_code 103 = .ok (.iastore, 1) := jx_dec c_M_task_ok 53 rfl
theorem d_M_task_104 : decode prog_7_method_10_code 104 = .ok (.aload_n 0, 1) := jx_dec c_M_task_ok 54 rfl
theorem d_M_task_105 : decode prog_7_method_10_code 105 = .ok (.getfield 44, 3) := jx_dec c_M_task_ok 55 rfl
theorem d_M_task_108 : decode prog_7_method_10_code 108 = .ok (.aload_n 0, 1) := jx_dec c_M_task_ok 56 rfl
theorem d_M_task_109 : decode prog_7_method_10_code 109 = .ok (.getfield 94, 3) := jx_dec c_M_task_ok 57 rfl
theorem d_M_task_112 : decode prog_7_method_10_code 112 = .ok (.iload_n 2, 1) := jx_dec c_M_task_ok 58 rfl
theorem d_M_task_113 : decode prog_7_method_10_code 113 = .ok (.iastore, 1) := jx_dec c_M_task_ok 59 rfl
theorem d_M_task_114 : decode prog_7_method_10_code 114 = .ok (.aload_n 0, 1) := jx_dec c_M_task_ok 60 rfl
theorem d_M_task_115 : decode prog_7_method_10_code 115 = .ok (.getfield 47, 3) := jx_dec c_M_task_ok 61 rfl
theorem d_M_task_118 : decode prog_7_method_10_code 118 = .ok (.aload_n 0, 1) := jx_dec c_M_task_ok 62 rfl
theorem d_M_task_119 : decode prog_7_method_10_code 119 = .ok (.getfield 94, 3) := jx_dec c_M_task_ok 63 rfl
theorem d_M_task_122 : decode prog_7_method_10_code 122 = .ok (.iload_n 3, 1) := jx_dec c_M_task_ok 64 rfl
theorem d_M_task_123 : decode prog_7_method_10_code 123 = .ok (.iastore, 1) := jx_dec c_M_task_ok 65 rfl
theorem d_M_task_124 : decode prog_7_method_10_code 124 = .ok (.aload_n 0, 1) := jx_dec c_M_task_ok 66 rfl
theorem d_M_task_125 : decode prog_7_method_10_code 125 = .ok (.getfield 50, 3) := jx_dec c_M_task_ok 67 rfl
theorem d_M_task_128 : decode prog_7_method_10_code 128 = .ok (.aload_n 0, 1) := jx_dec c_M_task_ok 68 rfl
theorem d_M_task_129 : decode prog_7_method_10_code 129 = .ok (.getfield 94, 3) := jx_dec c_M_task_ok 69 rfl
theorem d_M_task_132 : decode prog_7_method_10_code 132 = .ok (.iload 4, 2) := jx_dec c_M_task_ok 70 rfl
theorem d_M_task_134 : decode prog_7_method_10_code 134 = .ok (.iastore, 1) := jx_dec c_M_task_ok 71 rfl
theorem d_M_task_135 : decode prog_7_method_10_code 135 = .ok (.aload_n 0, 1) := jx_dec c_M_task_ok 72 rfl
theorem d_M_task_136 : decode prog_7_method_10_code 136 = .ok (.getfield 53, 3) := jx_dec c_M_task_ok 73 rfl
theorem d_M_task_139 : decode prog_7_method_10_code 139 = .ok (.aload_n 0, 1) := jx_dec c_M_task_ok 74 rfl
theorem d_M_task_140 : decode prog_7_method_10_code 140 = .ok (.getfield 94, 3) := jx_dec c_M_task_ok 75 rfl
theorem d_M_task_143 : decode prog_7_method_10_code 143 = .ok (.iconst 0, 1) := jx_dec c_M_task_ok 76 rfl
theorem d_M_task_144 : decode prog_7_method_10_code 144 = .ok (.iastore, 1) := jx_dec c_M_task_ok 77 rfl
theorem d_M_task_145 : decode prog_7_method_10_code 145 = .ok (.aload_n 0, 1) := jx_dec c_M_task_ok 78 rfl
theorem d_M_task_146 : decode prog_7_method_10_code 146 = .ok (.getfield 56, 3) := jx_dec c_M_task_ok 79 rfl
theorem d_M_task_149 : decode prog_7_method_10_code 149 = .ok (.aload_n 0, 1) := jx_dec c_M_task_ok 80 rfl
theorem d_M_task_150 : decode prog_7_method_10_code 150 = .ok (.getfield 94, 3) := jx_dec c_M_task_ok 81 rfl
theorem d_M_task_153 : decode prog_7_method_10_code 153 = .ok (.iconst (-1), 1) := jx_dec c_M_task_ok 82 rfl
theorem d_M_task_154 : decode prog_7_method_10_code 154 = .ok (.iastore, 1) := jx_dec c_M_task_ok 83 rfl
theorem d_M_task_155 : decode prog_7_method_10_code 155 = .ok (.aload_n 0, 1) := jx_dec c_M_task_ok 84 rfl
theorem d_M_task_156 : decode prog_7_method_10_code 156 = .ok (.getfield 59, 3) := jx_dec c_M_task_ok 85 rfl
theorem d_M_task_159 : decode prog_7_method_10_code 159 = .ok (.aload_n 0, 1) := jx_dec c_M_task_ok 86 rfl
theorem d_M_task_160 : decode prog_7_method_10_code 160 = .ok (.getfield 94, 3) := jx_dec c_M_task_ok 87 rfl
theorem d_M_task_163 : decode prog_7_method_10_code 163 = .ok (.iconst (-1), 1) := jx_dec c_M_task_ok 88 rfl
theorem d_M_task_164 : decode prog_7_method_10_code 164 = .ok (.iastore, 1) := jx_dec c_M_task_ok 89 rfl
theorem d_M_task_165 : decode prog_7_method_10_code 165 = .ok (.aload_n 0, 1) := jx_dec c_M_task_ok 90 rfl
theorem d_M_task_166 : decode prog_7_method_10_code 166 = .ok (.dup, 1) := jx_dec c_M_task_ok 91 rfl
theorem d_M_task_167 : decode prog_7_method_10_code 167 = .ok (.getfield 94, 3) := jx_dec c_M_task_ok 92 rfl
theorem d_M_task_170 : decode prog_7_method_10_code 170 = .ok (.iconst 1, 1) := jx_dec c_M_task_ok 93 rfl
theorem d_M_task_171 : decode prog_7_method_10_code 171 = .ok (.iadd, 1) := jx_dec c_M_task_ok 94 rfl
theorem d_M_task_172 : decode prog_7_method_10_code 172 = .ok (.putfield 94, 3) := jx_dec c_M_task_ok 95 rfl
theorem d_M_task_175 : decode prog_7_method_10_code 175 = .ok (.aload_n 0, 1) := jx_dec c_M_task_ok 96 rfl
theorem d_M_task_176 : decode prog_7_method_10_code 176 = .ok (.getfield 94, 3) := jx_dec c_M_task_ok 97 rfl
theorem d_M_task_179 : decode prog_7_method_10_code 179 = .ok (.iconst 1, 1) := jx_dec c_M_task_ok 98 rfl
theorem d_M_task_180 : decode prog_7_method_10_code 180 = .ok (.isub, 1) := jx_dec c_M_task_ok 99 rfl
theorem d_M_task_181 : decode prog_7_method_10_code 181 = .ok (.ireturn, 1) := jx_dec c_M_task_ok 100 rfl
def c_M_way : List (Nat × Instr × Nat) := [(0, .aload_n 0, 1), (1, .iload_n 1, 1), (2, .iconst 0, 1), (3, .iconst 3, 1), (4, .invokestatic 90, 3), (7, .ifCond .eq 32, 3), (10, .iload_n 2, 1), (11, .iconst 0, 1), (12, .iconst 3, 1), (13, .invokestatic 90, 3), (16, .ifCond .eq 23, 3), (19, .iload_n 1, 1), (20, .iload_n 2, 1), (21, .if_icmp .eq 18, 3), (24, .iload_n 3, 1), (25, .iconst 0, 1), (26, .sipush 1000, 3), (29, .invokestatic 90, 3), (32, .ifCond .eq 7, 3), (35, .iconst 0, 1), (36, .goto 4, 3), (39, .iconst 1, 1), (40, .putfield 83, 3), (43, .aload_n 0, 1), (44, .getfield 83, 3), (47, .ifCond .eq 4, 3), (50, .return_, 1), (51, .aload_n 0, 1), (52, .getfield 35, 3), (55, .iconst 4, 1), (56, .iload_n 1, 1), (57, .imul, 1), (58, .iload_n 2, 1), (59, .iadd, 1), (60, .iload_n 3, 1), (61, .iastore, 1), (62, .aload_n 0, 1), (63, .getfield 35, 3), (66, .iconst 4, 1), (67, .iload_n 2, 1), (68, .imul, 1), (69, .iload_n 1, 1), (70, .iadd, 1), (71, .iload_n 3, 1), (72, .iastore, 1), (73, .return_, 1)]
theorem c_M_way_ok : (c_M_way).all (fun q => decide (decode prog_7_method_11_code q.1 = .ok q.2)) = true := by decide +kernel
theorem d_M_way_0 : decode prog_7_method_11_code 0 = .ok (.aload_n 0, 1) := jx_dec c_M_way_ok 0 rfl
theorem d_M_way_1 : decode prog_7_method_11_code 1 = .ok (.iload_n 1, 1) := jx_dec c_M_way_ok 1 rfl
theorem d_M_way_2 : decode prog_7_method_11_code 2 = .ok (.iconst 0, 1) := jx_dec c_M_way_ok 2 rfl
theorem d_M_way_3 : decode prog_7_method_11_code 3 = .ok (.iconst 3, 1) := jx_dec c_M_way_ok 3 rfl
theorem d_M_way_4 : decode prog_7_method_11_code 4 = .ok (.invokestatic 90, 3) := jx_dec c_M_way_ok 4 rfl
theorem d_M_way_7 : decode prog_7_method_11_code 7 = .ok (.ifCond .eq 32, 3) := jx_dec c_M_way_ok 5 rfl
theorem d_M_way_10 : decode prog_7_method_11_code 10 = .ok (.iload_n 2, 1) := jx_dec c_M_way_ok 6 rfl
theorem d_M_way_11 : decode prog_7_method_11_code 11 = .ok (.iconst 0, 1) := jx_dec c_M_way_ok 7 rfl
theorem d_M_way_12 : decode prog_7_method_11_code 12 = .ok (.iconst 3, 1) := jx_dec c_M_way_ok 8 rfl
theorem d_M_way_13 : decode prog_7_method_11_code 13 = .ok (.invokestatic 90, 3) := jx_dec c_M_way_ok 9 rfl
theorem d_M_way_16 : decode prog_7_method_11_code 16 = .ok (.ifCond .eq 23, 3) := jx_dec c_M_way_ok 10 rfl
theorem d_M_way_19 : decode prog_7_method_11_code 19 = .ok (.iload_n 1, 1) := jx_dec c_M_way_ok 11 rfl
theorem d_M_way_20 : decode prog_7_method_11_code 20 = .ok (.iload_n 2, 1) := jx_dec c_M_way_ok 12 rfl
theorem d_M_way_21 : decode prog_7_method_11_code 21 = .ok (.if_icmp .eq 18, 3) := jx_dec c_M_way_ok 13 rfl
theorem d_M_way_24 : decode prog_7_method_11_code 24 = .ok (.iload_n 3, 1) := jx_dec c_M_way_ok 14 rfl
theorem d_M_way_25 : decode prog_7_method_11_code 25 = .ok (.iconst 0, 1) := jx_dec c_M_way_ok 15 rfl
theorem d_M_way_26 : decode prog_7_method_11_code 26 = .ok (.sipush 1000, 3) := jx_dec c_M_way_ok 16 rfl
theorem d_M_way_29 : decode prog_7_method_11_code 29 = .ok (.invokestatic 90, 3) := jx_dec c_M_way_ok 17 rfl
theorem d_M_way_32 : decode prog_7_method_11_code 32 = .ok (.ifCond .eq 7, 3) := jx_dec c_M_way_ok 18 rfl
theorem d_M_way_35 : decode prog_7_method_11_code 35 = .ok (.iconst 0, 1) := jx_dec c_M_way_ok 19 rfl
theorem d_M_way_36 : decode prog_7_method_11_code 36 = .ok (.goto 4, 3) := jx_dec c_M_way_ok 20 rfl
theorem d_M_way_39 : decode prog_7_method_11_code 39 = .ok (.iconst 1, 1) := jx_dec c_M_way_ok 21 rfl
theorem d_M_way_40 : decode prog_7_method_11_code 40 = .ok (.putfield 83, 3) := jx_dec c_M_way_ok 22 rfl
theorem d_M_way_43 : decode prog_7_method_11_code 43 = .ok (.aload_n 0, 1) := jx_dec c_M_way_ok 23 rfl
theorem d_M_way_44 : decode prog_7_method_11_code 44 = .ok (.getfield 83, 3) := jx_dec c_M_way_ok 24 rfl
theorem d_M_way_47 : decode prog_7_method_11_code 47 = .ok (.ifCond .eq 4, 3) := jx_dec c_M_way_ok 25 rfl
theorem d_M_way_50 : decode prog_7_method_11_code 50 = .ok (.return_, 1) := jx_dec c_M_way_ok 26 rfl
theorem d_M_way_51 : decode prog_7_method_11_code 51 = .ok (.aload_n 0, 1) := jx_dec c_M_way_ok 27 rfl
theorem d_M_way_52 : decode prog_7_method_11_code 52 = .ok (.getfield 35, 3) := jx_dec c_M_way_ok 28 rfl
theorem d_M_way_55 : decode prog_7_method_11_code 55 = .ok (.iconst 4, 1) := jx_dec c_M_way_ok 29 rfl
theorem d_M_way_56 : decode prog_7_method_11_code 56 = .ok (.iload_n 1, 1) := jx_dec c_M_way_ok 30 rfl
theorem d_M_way_57 : decode prog_7_method_11_code 57 = .ok (.imul, 1) := jx_dec c_M_way_ok 31 rfl
theorem d_M_way_58 : decode prog_7_method_11_code 58 = .ok (.iload_n 2, 1) := jx_dec c_M_way_ok 32 rfl
theorem d_M_way_59 : decode prog_7_method_11_code 59 = .ok (.iadd, 1) := jx_dec c_M_way_ok 33 rfl
theorem d_M_way_60 : decode prog_7_method_11_code 60 = .ok (.iload_n 3, 1) := jx_dec c_M_way_ok 34 rfl
theorem d_M_way_61 : decode prog_7_method_11_code 61 = .ok (.iastore, 1) := jx_dec c_M_way_ok 35 rfl
theorem d_M_way_62 : decode prog_7_method_11_code 62 = .ok (.aload_n 0, 1) := jx_dec c_M_way_ok 36 rfl
theorem d_M_way_63 : decode prog_7_method_11_code 63 = .ok (.getfield 35, 3) := jx_dec c_M_way_ok 37 rfl
theorem d_M_way_66 : decode prog_7_method_11_code 66 = .ok (.iconst 4, 1) := jx_dec c_M_way_ok 38 rfl
theorem d_M_way_67 : decode prog_7_method_11_code 67 = .ok (.iload_n 2, 1) := jx_dec c_M_way_ok 39 rfl
theorem d_M_way_68 : decode prog_7_method_11_code 68 = .ok (.imul, 1) := jx_dec c_M_way_ok 40 rfl
theorem d_M_way_69 : decode prog_7_method_11_code 69 = .ok (.iload_n 1, 1) := jx_dec c_M_way_ok 41 rfl
theorem d_M_way_70 : decode prog_7_method_11_code 70 = .ok (.iadd, 1) := jx_dec c_M_way_ok 42 rfl
theorem d_M_way_71 : decode prog_7_method_11_code 71 = .ok (.iload_n 3, 1) := jx_dec c_M_way_ok 43 rfl
theorem d_M_way_72 : decode prog_7_method_11_code 72 = .ok (.iastore, 1) := jx_dec c_M_way_ok 44 rfl
theorem d_M_way_73 : decode prog_7_method_11_code 73 = .ok (.return_, 1) := jx_dec c_M_way_ok 45 rfl
def c_M_refuse : List (Nat × Instr × Nat) := [(0, .aload_n 0, 1), (1, .aload_n 0, 1), (2, .iload_n 1, 1), (3, .invokevirtual 98, 3), (6, .ifCond .eq 11, 3), (9, .aload_n 0, 1), (10, .iload_n 2, 1), (11, .invokevirtual 106, 3), (14, .ifCond .ne 7, 3), (17, .iconst 1, 1), (18, .goto 26, 3), (21, .aload_n 0, 1), (22, .getfield 38, 3), (25, .iload_n 2, 1), (26, .iaload, 1), (27, .ifCond .ne 12, 3), (30, .aload_n 0, 1), (31, .iload_n 1, 1), (32, .iload_n 2, 1), (33, .invokevirtual 109, 3), (36, .ifCond .eq 7, 3), (39, .iconst 2, 1), (40, .goto 4, 3), (43, .iconst 0, 1), (44, .putfield 83, 3), (47, .aload_n 0, 1), (48, .getfield 83, 3), (51, .ifCond .eq 5, 3), (54, .iconst 0, 1), (55, .ireturn, 1), (56, .aload_n 0, 1), (57, .getfield 53, 3), (60, .iload_n 2, 1), (61, .dup2, 1), (62, .iaload, 1), (63, .iconst 1, 1), (64, .iload_n 1, 1), (65, .ishl, 1), (66, .ior, 1), (67, .iastore, 1), (68, .aload_n 0, 1), (69, .getfield 56, 3), (72, .iload_n 2, 1), (73, .iaload, 1), (74, .iload_n 1, 1), (75, .if_icmp .eq 5, 3), (78, .iconst 0, 1), (79, .ireturn, 1), (80, .aload_n 0, 1), (81, .iload_n 2, 1), (82, .invokevirtual 113, 3), (85, .iconst 1, 1), (86, .ireturn, 1)]
theorem c_M_refuse_ok : (c_M_refuse).all (fun q => decide (decode prog_7_method_14_code q.1 = .ok q.2)) = true := by decide +kernel
theorem d_M_refuse_0 : decode prog_7_method_14_code 0 = .ok (.aload_n 0, 1) := jx_dec c_M_refuse_ok 0 rfl
theorem d_M_refuse_1 : decode prog_7_method_14_code 1 = .ok (.aload_n 0, 1) := jx_dec c_M_refuse_ok 1 rfl
theorem d_M_refuse_2 : decode prog_7_method_14_code 2 = .ok (.iload_n 1, 1) := jx_dec c_M_refuse_ok 2 rfl
theorem d_M_refuse_3 : decode prog_7_method_14_code 3 = .ok (.invokevirtual 98, 3) := jx_dec c_M_refuse_ok 3 rfl
theorem d_M_refuse_6 : decode prog_7_method_14_code 6 = .ok (.ifCond .eq 11, 3) := jx_dec c_M_refuse_ok 4 rfl
theorem d_M_refuse_9 : decode prog_7_method_14_code 9 = .ok (.aload_n 0, 1) := jx_dec c_M_refuse_ok 5 rfl
theorem d_M_refuse_10 : decode prog_7_method_14_code 10 = .ok (.iload_n 2, 1) := jx_dec c_M_refuse_ok 6 rfl
theorem d_M_refuse_11 : decode prog_7_method_14_code 11 = .ok (.invokevirtual 106, 3) := jx_dec c_M_refuse_ok 7 rfl
theorem d_M_refuse_14 : decode prog_7_method_14_code 14 = .ok (.ifCond .ne 7, 3) := jx_dec c_M_refuse_ok 8 rfl
theorem d_M_refuse_17 : decode prog_7_method_14_code 17 = .ok (.iconst 1, 1) := jx_dec c_M_refuse_ok 9 rfl
theorem d_M_refuse_18 : decode prog_7_method_14_code 18 = .ok (.goto 26, 3) := jx_dec c_M_refuse_ok 10 rfl
theorem d_M_refuse_21 : decode prog_7_method_14_code 21 = .ok (.aload_n 0, 1) := jx_dec c_M_refuse_ok 11 rfl
theorem d_M_refuse_22 : decode prog_7_method_14_code 22 = .ok (.getfield 38, 3) := jx_dec c_M_refuse_ok 12 rfl
theorem d_M_refuse_25 : decode prog_7_method_14_code 25 = .ok (.iload_n 2, 1) := jx_dec c_M_refuse_ok 13 rfl
theorem d_M_refuse_26 : decode prog_7_method_14_code 26 = .ok (.iaload, 1) := jx_dec c_M_refuse_ok 14 rfl
theorem d_M_refuse_27 : decode prog_7_method_14_code 27 = .ok (.ifCond .ne 12, 3) := jx_dec c_M_refuse_ok 15 rfl
theorem d_M_refuse_30 : decode prog_7_method_14_code 30 = .ok (.aload_n 0, 1) := jx_dec c_M_refuse_ok 16 rfl
theorem d_M_refuse_31 : decode prog_7_method_14_code 31 = .ok (.iload_n 1, 1) := jx_dec c_M_refuse_ok 17 rfl
theorem d_M_refuse_32 : decode prog_7_method_14_code 32 = .ok (.iload_n 2, 1) := jx_dec c_M_refuse_ok 18 rfl
theorem d_M_refuse_33 : decode prog_7_method_14_code 33 = .ok (.invokevirtual 109, 3) := jx_dec c_M_refuse_ok 19 rfl
theorem d_M_refuse_36 : decode prog_7_method_14_code 36 = .ok (.ifCond .eq 7, 3) := jx_dec c_M_refuse_ok 20 rfl
theorem d_M_refuse_39 : decode prog_7_method_14_code 39 = .ok (.iconst 2, 1) := jx_dec c_M_refuse_ok 21 rfl
theorem d_M_refuse_40 : decode prog_7_method_14_code 40 = .ok (.goto 4, 3) := jx_dec c_M_refuse_ok 22 rfl
theorem d_M_refuse_43 : decode prog_7_method_14_code 43 = .ok (.iconst 0, 1) := jx_dec c_M_refuse_ok 23 rfl
theorem d_M_refuse_44 : decode prog_7_method_14_code 44 = .ok (.putfield 83, 3) := jx_dec c_M_refuse_ok 24 rfl
theorem d_M_refuse_47 : decode prog_7_method_14_code 47 = .ok (.aload_n 0, 1) := jx_dec c_M_refuse_ok 25 rfl
theorem d_M_refuse_48 : decode prog_7_method_14_code 48 = .ok (.getfield 83, 3) := jx_dec c_M_refuse_ok 26 rfl
theorem d_M_refuse_51 : decode prog_7_method_14_code 51 = .ok (.ifCond .eq 5, 3) := jx_dec c_M_refuse_ok 27 rfl
theorem d_M_refuse_54 : decode prog_7_method_14_code 54 = .ok (.iconst 0, 1) := jx_dec c_M_refuse_ok 28 rfl
theorem d_M_refuse_55 : decode prog_7_method_14_code 55 = .ok (.ireturn, 1) := jx_dec c_M_refuse_ok 29 rfl
theorem d_M_refuse_56 : decode prog_7_method_14_code 56 = .ok (.aload_n 0, 1) := jx_dec c_M_refuse_ok 30 rfl
theorem d_M_refuse_57 : decode prog_7_method_14_code 57 = .ok (.getfield 53, 3) := jx_dec c_M_refuse_ok 31 rfl
theorem d_M_refuse_60 : decode prog_7_method_14_code 60 = .ok (.iload_n 2, 1) := jx_dec c_M_refuse_ok 32 rfl
theorem d_M_refuse_61 : decode prog_7_method_14_code 61 = .ok (.dup2, 1) := jx_dec c_M_refuse_ok 33 rfl
theorem d_M_refuse_62 : decode prog_7_method_14_code 62 = .ok (.iaload, 1) := jx_dec c_M_refuse_ok 34 rfl
theorem d_M_refuse_63 : decode prog_7_method_14_code 63 = .ok (.iconst 1, 1) := jx_dec c_M_refuse_ok 35 rfl
theorem d_M_refuse_64 : decode prog_7_method_14_code 64 = .ok (.iload_n 1, 1) := jx_dec c_M_refuse_ok 36 rfl
theorem d_M_refuse_65 : decode prog_7_method_14_code 65 = .ok (.ishl, 1) := jx_dec c_M_refuse_ok 37 rfl
theorem d_M_refuse_66 : decode prog_7_method_14_code 66 = .ok (.ior, 1) := jx_dec c_M_refuse_ok 38 rfl
theorem d_M_refuse_67 : decode prog_7_method_14_code 67 = .ok (.iastore, 1) := jx_dec c_M_refuse_ok 39 rfl
theorem d_M_refuse_68 : decode prog_7_method_14_code 68 = .ok (.aload_n 0, 1) := jx_dec c_M_refuse_ok 40 rfl
theorem d_M_refuse_69 : decode prog_7_method_14_code 69 = .ok (.getfield 56, 3) := jx_dec c_M_refuse_ok 41 rfl
theorem d_M_refuse_72 : decode prog_7_method_14_code 72 = .ok (.iload_n 2, 1) := jx_dec c_M_refuse_ok 42 rfl
theorem d_M_refuse_73 : decode prog_7_method_14_code 73 = .ok (.iaload, 1) := jx_dec c_M_refuse_ok 43 rfl
theorem d_M_refuse_74 : decode prog_7_method_14_code 74 = .ok (.iload_n 1, 1) := jx_dec c_M_refuse_ok 44 rfl
theorem d_M_refuse_75 : decode prog_7_method_14_code 75 = .ok (.if_icmp .eq 5, 3) := jx_dec c_M_refuse_ok 45 rfl
theorem d_M_refuse_78 : decode prog_7_method_14_code 78 = .ok (.iconst 0, 1) := jx_dec c_M_refuse_ok 46 rfl
theorem d_M_refuse_79 : decode prog_7_method_14_code 79 = .ok (.ireturn, 1) := jx_dec c_M_refuse_ok 47 rfl
theorem d_M_refuse_80 : decode prog_7_method_14_code 80 = .ok (.aload_n 0, 1) := jx_dec c_M_refuse_ok 48 rfl
theorem d_M_refuse_81 : decode prog_7_method_14_code 81 = .ok (.iload_n 2, 1) := jx_dec c_M_refuse_ok 49 rfl
theorem d_M_refuse_82 : decode prog_7_method_14_code 82 = .ok (.invokevirtual 113, 3) := jx_dec c_M_refuse_ok 50 rfl
theorem d_M_refuse_85 : decode prog_7_method_14_code 85 = .ok (.iconst 1, 1) := jx_dec c_M_refuse_ok 51 rfl
theorem d_M_refuse_86 : decode prog_7_method_14_code 86 = .ok (.ireturn, 1) := jx_dec c_M_refuse_ok 52 rfl
def c_M_isTask : List (Nat × Instr × Nat) := [(0, .iload_n 1, 1), (1, .iconst 0, 1), (2, .aload_n 0, 1), (3, .getfield 94, 3), (6, .iconst 1, 1), (7, .isub, 1), (8, .invokestatic 90, 3), (11, .ireturn, 1)]
theorem c_M_isTask_ok : (c_M_isTask).all (fun q => decide (decode prog_7_method_5_code q.1 = .ok q.2)) = true := by decide +kernel
theorem d_M_isTask_0 : decode prog_7_method_5_code 0 = .ok (.iload_n 1, 1) := jx_dec c_M_isTask_ok 0 rfl
theorem d_M_isTask_1 : decode prog_7_method_5_code 1 = .ok (.iconst 0, 1) := jx_dec c_M_isTask_ok 1 rfl
theorem d_M_isTask_2 : decode prog_7_method_5_code 2 = .ok (.aload_n 0, 1) := jx_dec c_M_isTask_ok 2 rfl
theorem d_M_isTask_3 : decode prog_7_method_5_code 3 = .ok (.getfield 94, 3) := jx_dec c_M_isTask_ok 3 rfl
theorem d_M_isTask_6 : decode prog_7_method_5_code 6 = .ok (.iconst 1, 1) := jx_dec c_M_isTask_ok 4 rfl
theorem d_M_isTask_7 : decode prog_7_method_5_code 7 = .ok (.isub, 1) := jx_dec c_M_isTask_ok 5 rfl
theorem d_M_isTask_8 : decode prog_7_method_5_code 8 = .ok (.invokestatic 90, 3) := jx_dec c_M_isTask_ok 6 rfl
theorem d_M_isTask_11 : decode prog_7_method_5_code 11 = .ok (.ireturn, 1) := jx_dec c_M_isTask_ok 7 rfl
def c_M_hasRefused : List (Nat × Instr × Nat) := [(0, .aload_n 0, 1), (1, .getfield 53, 3), (4, .iload_n 2, 1), (5, .iaload, 1), (6, .iload_n 1, 1), (7, .ishr, 1), (8, .iconst 1, 1), (9, .iand, 1), (10, .iconst 1, 1), (11, .if_icmp .ne 7, 3), (14, .iconst 1, 1), (15, .goto 4, 3), (18, .iconst 0, 1), (19, .ireturn, 1)]
theorem c_M_hasRefused_ok : (c_M_hasRefused).all (fun q => decide (decode prog_7_method_13_code q.1 = .ok q.2)) = true := by decide +kernel
theorem d_M_hasRefused_0 : decode prog_7_method_13_code 0 = .ok (.aload_n 0, 1) := jx_dec c_M_hasRefused_ok 0 rfl
theorem d_M_hasRefused_1 : decode prog_7_method_13_code 1 = .ok (.getfield 53, 3) := jx_dec c_M_hasRefused_ok 1 rfl
theorem d_M_hasRefused_4 : decode prog_7_method_13_code 4 = .ok (.iload_n 2, 1) := jx_dec c_M_hasRefused_ok 2 rfl
theorem d_M_hasRefused_5 : decode prog_7_method_13_code 5 = .ok (.iaload, 1) := jx_dec c_M_hasRefused_ok 3 rfl
theorem d_M_hasRefused_6 : decode prog_7_method_13_code 6 = .ok (.iload_n 1, 1) := jx_dec c_M_hasRefused_ok 4 rfl
theorem d_M_hasRefused_7 : decode prog_7_method_13_code 7 = .ok (.ishr, 1) := jx_dec c_M_hasRefused_ok 5 rfl
theorem d_M_hasRefused_8 : decode prog_7_method_13_code 8 = .ok (.iconst 1, 1) := jx_dec c_M_hasRefused_ok 6 rfl
theorem d_M_hasRefused_9 : decode prog_7_method_13_code 9 = .ok (.iand, 1) := jx_dec c_M_hasRefused_ok 7 rfl
theorem d_M_hasRefused_10 : decode prog_7_method_13_code 10 = .ok (.iconst 1, 1) := jx_dec c_M_hasRefused_ok 8 rfl
theorem d_M_hasRefused_11 : decode prog_7_method_13_code 11 = .ok (.if_icmp .ne 7, 3) := jx_dec c_M_hasRefused_ok 9 rfl
theorem d_M_hasRefused_14 : decode prog_7_method_13_code 14 = .ok (.iconst 1, 1) := jx_dec c_M_hasRefused_ok 10 rfl
theorem d_M_hasRefused_15 : decode prog_7_method_13_code 15 = .ok (.goto 4, 3) := jx_dec c_M_hasRefused_ok 11 rfl
theorem d_M_hasRefused_18 : decode prog_7_method_13_code 18 = .ok (.iconst 0, 1) := jx_dec c_M_hasRefused_ok 12 rfl
theorem d_M_hasRefused_19 : decode prog_7_method_13_code 19 = .ok (.ireturn, 1) := jx_dec c_M_hasRefused_ok 13 rfl
def c_M_free : List (Nat × Instr × Nat) := [(0, .aload_n 0, 1), (1, .getfield 38, 3), (4, .iload_n 1, 1), (5, .iconst 0, 1), (6, .iastore, 1), (7, .aload_n 0, 1), (8, .getfield 56, 3), (11, .iload_n 1, 1), (12, .iconst (-1), 1), (13, .iastore, 1), (14, .aload_n 0, 1), (15, .getfield 59, 3), (18, .iload_n 1, 1), (19, .iconst (-1), 1), (20, .iastore, 1), (21, .return_, 1)]
theorem c_M_free_ok : (c_M_free).all (fun q => decide (decode prog_7_method_12_code q.1 = .ok q.2)) = true := by decide +kernel
theorem d_M_free_0 : decode prog_7_method_12_code 0 = .ok (.aload_n 0, 1) := jx_dec c_M_free_ok 0 rfl
theorem d_M_free_1 : decode prog_7_method_12_code 1 = .ok (.getfield 38, 3) := jx_dec c_M_free_ok 1 rfl
theorem d_M_free_4 : decode prog_7_method_12_code 4 = .ok (.iload_n 1, 1) := jx_dec c_M_free_ok 2 rfl
theorem d_M_free_5 : decode prog_7_method_12_code 5 = .ok (.iconst 0, 1) := jx_dec c_M_free_ok 3 rfl
theorem d_M_free_6 : decode prog_7_method_12_code 6 = .ok (.iastore, 1) := jx_dec c_M_free_ok 4 rfl
theorem d_M_free_7 : decode prog_7_method_12_code 7 = .ok (.aload_n 0, 1) := jx_dec c_M_free_ok 5 rfl
theorem d_M_free_8 : decode prog_7_method_12_code 8 = .ok (.getfield 56, 3) := jx_dec c_M_free_ok 6 rfl
theorem d_M_free_11 : decode prog_7_method_12_code 11 = .ok (.iload_n 1, 1) := jx_dec c_M_free_ok 7 rfl
theorem d_M_free_12 : decode prog_7_method_12_code 12 = .ok (.iconst (-1), 1) := jx_dec c_M_free_ok 8 rfl
theorem d_M_free_13 : decode prog_7_method_12_code 13 = .ok (.iastore, 1) := jx_dec c_M_free_ok 9 rfl
theorem d_M_free_14 : decode prog_7_method_12_code 14 = .ok (.aload_n 0, 1) := jx_dec c_M_free_ok 10 rfl
theorem d_M_free_15 : decode prog_7_method_12_code 15 = .ok (.getfield 59, 3) := jx_dec c_M_free_ok 11 rfl
theorem d_M_free_18 : decode prog_7_method_12_code 18 = .ok (.iload_n 1, 1) := jx_dec c_M_free_ok 12 rfl
theorem d_M_free_19 : decode prog_7_method_12_code 19 = .ok (.iconst (-1), 1) := jx_dec c_M_free_ok 13 rfl
theorem d_M_free_20 : decode prog_7_method_12_code 20 = .ok (.iastore, 1) := jx_dec c_M_free_ok 14 rfl
theorem d_M_free_21 : decode prog_7_method_12_code 21 = .ok (.return_, 1) := jx_dec c_M_free_ok 15 rfl
def c_M_bar : List (Nat × Instr × Nat) := [(0, .aload_n 0, 1), (1, .aload_n 0, 1), (2, .iload_n 1, 1), (3, .invokevirtual 98, 3), (6, .ifCond .eq 11, 3), (9, .aload_n 0, 1), (10, .iload_n 2, 1), (11, .invokevirtual 106, 3), (14, .ifCond .ne 7, 3), (17, .iconst 1, 1), (18, .goto 17, 3), (21, .aload_n 0, 1), (22, .getfield 38, 3), (25, .iload_n 2, 1), (26, .iaload, 1), (27, .ifCond .eq 7, 3), (30, .iconst 2, 1), (31, .goto 4, 3), (34, .iconst 0, 1), (35, .putfield 83, 3), (38, .aload_n 0, 1), (39, .getfield 83, 3), (42, .ifCond .eq 5, 3), (45, .iconst 0, 1), (46, .ireturn, 1), (47, .aload_n 0, 1), (48, .getfield 28, 3), (51, .iload_n 1, 1), (52, .baload, 1), (53, .ifCond .ne 5, 3), (56, .iconst 1, 1), (57, .ireturn, 1), (58, .aload_n 0, 1), (59, .getfield 7, 3), (62, .iload_n 1, 1), (63, .iaload, 1), (64, .aload_n 0, 1), (65, .getfield 41, 3), (68, .iload_n 2, 1), (69, .iaload, 1), (70, .ishr, 1), (71, .iconst 1, 1), (72, .iand, 1), (73, .ifCond .ne 5, 3), (76, .iconst 2, 1), (77, .ireturn, 1), (78, .aload_n 0, 1), (79, .iload_n 1, 1), (80, .iload_n 2, 1), (81, .invokevirtual 109, 3), (84, .ifCond .eq 5, 3), (87, .iconst 3, 1), (88, .ireturn, 1), (89, .aload_n 0, 1), (90, .iload_n 1, 1), (91, .iload_n 2, 1), (92, .invokevirtual 131, 3), (95, .iconst (-1), 1), (96, .if_icmp .ne 7, 3), (99, .iconst 4, 1), (100, .goto 4, 3), (103, .iconst 0, 1), (104, .ireturn, 1)]
theorem c_M_bar_ok : (c_M_bar).all (fun q => decide (decode prog_7_method_21_code q.1 = .ok q.2)) = true := by decide +kernel
theorem d_M_bar_0 : decode prog_7_method_21_code 0 = .ok (.aload_n 0, 1) := jx_dec c_M_bar_ok 0 rfl
theorem d_M_bar_1 : decode prog_7_method_21_code 1 = .ok (.aload_n 0, 1) := jx_dec c_M_bar_ok 1 rfl
theorem d_M_bar_2 : decode prog_7_method_21_code 2 = .ok (.iload_n 1, 1) := jx_dec c_M_bar_ok 2 rfl
theorem d_M_bar_3 : decode prog_7_method_21_code 3 = .ok (.invokevirtual 98, 3) := jx_dec c_M_bar_ok 3 rfl
theorem d_M_bar_6 : decode prog_7_method_21_code 6 = .ok (.ifCond .eq 11, 3) := jx_dec c_M_bar_ok 4 rfl
theorem d_M_bar_9 : decode prog_7_method_21_code 9 = .ok (.aload_n 0, 1) := jx_dec c_M_bar_ok 5 rfl
theorem d_M_bar_10 : decode prog_7_method_21_code 10 = .ok (.iload_n 2, 1) := jx_dec c_M_bar_ok 6 rfl
theorem d_M_bar_11 : decode prog_7_method_21_code 11 = .ok (.invokevirtual 106, 3) := jx_dec c_M_bar_ok 7 rfl
theorem d_M_bar_14 : decode prog_7_method_21_code 14 = .ok (.ifCond .ne 7, 3) := jx_dec c_M_bar_ok 8 rfl
theorem d_M_bar_17 : decode prog_7_method_21_code 17 = .ok (.iconst 1, 1) := jx_dec c_M_bar_ok 9 rfl
theorem d_M_bar_18 : decode prog_7_method_21_code 18 = .ok (.goto 17, 3) := jx_dec c_M_bar_ok 10 rfl
theorem d_M_bar_21 : decode prog_7_method_21_code 21 = .ok (.aload_n 0, 1) := jx_dec c_M_bar_ok 11 rfl
theorem d_M_bar_22 : decode prog_7_method_21_code 22 = .ok (.getfield 38, 3) := jx_dec c_M_bar_ok 12 rfl
theorem d_M_bar_25 : decode prog_7_method_21_code 25 = .ok (.iload_n 2, 1) := jx_dec c_M_bar_ok 13 rfl
theorem d_M_bar_26 : decode prog_7_method_21_code 26 = .ok (.iaload, 1) := jx_dec c_M_bar_ok 14 rfl
theorem d_M_bar_27 : decode prog_7_method_21_code 27 = .ok (.ifCond .eq 7, 3) := jx_dec c_M_bar_ok 15 rfl
theorem d_M_bar_30 : decode prog_7_method_21_code 30 = .ok (.iconst 2, 1) := jx_dec c_M_bar_ok 16 rfl
theorem d_M_bar_31 : decode prog_7_method_21_code 31 = .ok (.goto 4, 3) := jx_dec c_M_bar_ok 17 rfl
theorem d_M_bar_34 : decode prog_7_method_21_code 34 = .ok (.iconst 0, 1) := jx_dec c_M_bar_ok 18 rfl
theorem d_M_bar_35 : decode prog_7_method_21_code 35 = .ok (.putfield 83, 3) := jx_dec c_M_bar_ok 19 rfl
theorem d_M_bar_38 : decode prog_7_method_21_code 38 = .ok (.aload_n 0, 1) := jx_dec c_M_bar_ok 20 rfl
theorem d_M_bar_39 : decode prog_7_method_21_code 39 = .ok (.getfield 83, 3) := jx_dec c_M_bar_ok 21 rfl
theorem d_M_bar_42 : decode prog_7_method_21_code 42 = .ok (.ifCond .eq 5, 3) := jx_dec c_M_bar_ok 22 rfl
theorem d_M_bar_45 : decode prog_7_method_21_code 45 = .ok (.iconst 0, 1) := jx_dec c_M_bar_ok 23 rfl
theorem d_M_bar_46 : decode prog_7_method_21_code 46 = .ok (.ireturn, 1) := jx_dec c_M_bar_ok 24 rfl
theorem d_M_bar_47 : decode prog_7_method_21_code 47 = .ok (.aload_n 0, 1) := jx_dec c_M_bar_ok 25 rfl
theorem d_M_bar_48 : decode prog_7_method_21_code 48 = .ok (.getfield 28, 3) := jx_dec c_M_bar_ok 26 rfl
theorem d_M_bar_51 : decode prog_7_method_21_code 51 = .ok (.iload_n 1, 1) := jx_dec c_M_bar_ok 27 rfl
theorem d_M_bar_52 : decode prog_7_method_21_code 52 = .ok (.baload, 1) := jx_dec c_M_bar_ok 28 rfl
theorem d_M_bar_53 : decode prog_7_method_21_code 53 = .ok (.ifCond .ne 5, 3) := jx_dec c_M_bar_ok 29 rfl
theorem d_M_bar_56 : decode prog_7_method_21_code 56 = .ok (.iconst 1, 1) := jx_dec c_M_bar_ok 30 rfl
theorem d_M_bar_57 : decode prog_7_method_21_code 57 = .ok (.ireturn, 1) := jx_dec c_M_bar_ok 31 rfl
theorem d_M_bar_58 : decode prog_7_method_21_code 58 = .ok (.aload_n 0, 1) := jx_dec c_M_bar_ok 32 rfl
theorem d_M_bar_59 : decode prog_7_method_21_code 59 = .ok (.getfield 7, 3) := jx_dec c_M_bar_ok 33 rfl
theorem d_M_bar_62 : decode prog_7_method_21_code 62 = .ok (.iload_n 1, 1) := jx_dec c_M_bar_ok 34 rfl
theorem d_M_bar_63 : decode prog_7_method_21_code 63 = .ok (.iaload, 1) := jx_dec c_M_bar_ok 35 rfl
theorem d_M_bar_64 : decode prog_7_method_21_code 64 = .ok (.aload_n 0, 1) := jx_dec c_M_bar_ok 36 rfl
theorem d_M_bar_65 : decode prog_7_method_21_code 65 = .ok (.getfield 41, 3) := jx_dec c_M_bar_ok 37 rfl
theorem d_M_bar_68 : decode prog_7_method_21_code 68 = .ok (.iload_n 2, 1) := jx_dec c_M_bar_ok 38 rfl
theorem d_M_bar_69 : decode prog_7_method_21_code 69 = .ok (.iaload, 1) := jx_dec c_M_bar_ok 39 rfl
theorem d_M_bar_70 : decode prog_7_method_21_code 70 = .ok (.ishr, 1) := jx_dec c_M_bar_ok 40 rfl
theorem d_M_bar_71 : decode prog_7_method_21_code 71 = .ok (.iconst 1, 1) := jx_dec c_M_bar_ok 41 rfl
theorem d_M_bar_72 : decode prog_7_method_21_code 72 = .ok (.iand, 1) := jx_dec c_M_bar_ok 42 rfl
theorem d_M_bar_73 : decode prog_7_method_21_code 73 = .ok (.ifCond .ne 5, 3) := jx_dec c_M_bar_ok 43 rfl
theorem d_M_bar_76 : decode prog_7_method_21_code 76 = .ok (.iconst 2, 1) := jx_dec c_M_bar_ok 44 rfl
theorem d_M_bar_77 : decode prog_7_method_21_code 77 = .ok (.ireturn, 1) := jx_dec c_M_bar_ok 45 rfl
theorem d_M_bar_78 : decode prog_7_method_21_code 78 = .ok (.aload_n 0, 1) := jx_dec c_M_bar_ok 46 rfl
theorem d_M_bar_79 : decode prog_7_method_21_code 79 = .ok (.iload_n 1, 1) := jx_dec c_M_bar_ok 47 rfl
theorem d_M_bar_80 : decode prog_7_method_21_code 80 = .ok (.iload_n 2, 1) := jx_dec c_M_bar_ok 48 rfl
theorem d_M_bar_81 : decode prog_7_method_21_code 81 = .ok (.invokevirtual 109, 3) := jx_dec c_M_bar_ok 49 rfl
theorem d_M_bar_84 : decode prog_7_method_21_code 84 = .ok (.ifCond .eq 5, 3) := jx_dec c_M_bar_ok 50 rfl
theorem d_M_bar_87 : decode prog_7_method_21_code 87 = .ok (.iconst 3, 1) := jx_dec c_M_bar_ok 51 rfl
theorem d_M_bar_88 : decode prog_7_method_21_code 88 = .ok (.ireturn, 1) := jx_dec c_M_bar_ok 52 rfl
theorem d_M_bar_89 : decode prog_7_method_21_code 89 = .ok (.aload_n 0, 1) := jx_dec c_M_bar_ok 53 rfl
theorem d_M_bar_90 : decode prog_7_method_21_code 90 = .ok (.iload_n 1, 1) := jx_dec c_M_bar_ok 54 rfl
theorem d_M_bar_91 : decode prog_7_method_21_code 91 = .ok (.iload_n 2, 1) := jx_dec c_M_bar_ok 55 rfl
theorem d_M_bar_92 : decode prog_7_method_21_code 92 = .ok (.invokevirtual 131, 3) := jx_dec c_M_bar_ok 56 rfl
theorem d_M_bar_95 : decode prog_7_method_21_code 95 = .ok (.iconst (-1), 1) := jx_dec c_M_bar_ok 57 rfl
theorem d_M_bar_96 : decode prog_7_method_21_code 96 = .ok (.if_icmp .ne 7, 3) := jx_dec c_M_bar_ok 58 rfl
theorem d_M_bar_99 : decode prog_7_method_21_code 99 = .ok (.iconst 4, 1) := jx_dec c_M_bar_ok 59 rfl
theorem d_M_bar_100 : decode prog_7_method_21_code 100 = .ok (.goto 4, 3) := jx_dec c_M_bar_ok 60 rfl
theorem d_M_bar_103 : decode prog_7_method_21_code 103 = .ok (.iconst 0, 1) := jx_dec c_M_bar_ok 61 rfl
theorem d_M_bar_104 : decode prog_7_method_21_code 104 = .ok (.ireturn, 1) := jx_dec c_M_bar_ok 62 rfl
def c_M_aloneAt : List (Nat × Instr × Nat) := [(0, .aload_n 0, 1), (1, .iload_n 1, 1), (2, .iload_n 2, 1), (3, .aload_n 0, 1), (4, .iload_n 1, 1), (5, .invokevirtual 124, 3), (8, .aload_n 0, 1), (9, .getfield 25, 3), (12, .iload_n 1, 1), (13, .iaload, 1), (14, .invokevirtual 127, 3), (17, .ireturn, 1)]
theorem c_M_aloneAt_ok : (c_M_aloneAt).all (fun q => decide (decode prog_7_method_20_code q.1 = .ok q.2)) = true := by decide +kernel
theorem d_M_aloneAt_0 : decode prog_7_method_20_code 0 = .ok (.aload_n 0, 1) := jx_dec c_M_aloneAt_ok 0 rfl
theorem d_M_aloneAt_1 : decode prog_7_method_20_code 1 = .ok (.iload_n 1, 1) := jx_dec c_M_aloneAt_ok 1 rfl
theorem d_M_aloneAt_2 : decode prog_7_method_20_code 2 = .ok (.iload_n 2, 1) := jx_dec c_M_aloneAt_ok 2 rfl
theorem d_M_aloneAt_3 : decode prog_7_method_20_code 3 = .ok (.aload_n 0, 1) := jx_dec c_M_aloneAt_ok 3 rfl
theorem d_M_aloneAt_4 : decode prog_7_method_20_code 4 = .ok (.iload_n 1, 1) := jx_dec c_M_aloneAt_ok 4 rfl
theorem d_M_aloneAt_5 : decode prog_7_method_20_code 5 = .ok (.invokevirtual 124, 3) := jx_dec c_M_aloneAt_ok 5 rfl
theorem d_M_aloneAt_8 : decode prog_7_method_20_code 8 = .ok (.aload_n 0, 1) := jx_dec c_M_aloneAt_ok 6 rfl
theorem d_M_aloneAt_9 : decode prog_7_method_20_code 9 = .ok (.getfield 25, 3) := jx_dec c_M_aloneAt_ok 7 rfl
theorem d_M_aloneAt_12 : decode prog_7_method_20_code 12 = .ok (.iload_n 1, 1) := jx_dec c_M_aloneAt_ok 8 rfl
theorem d_M_aloneAt_13 : decode prog_7_method_20_code 13 = .ok (.iaload, 1) := jx_dec c_M_aloneAt_ok 9 rfl
theorem d_M_aloneAt_14 : decode prog_7_method_20_code 14 = .ok (.invokevirtual 127, 3) := jx_dec c_M_aloneAt_ok 10 rfl
theorem d_M_aloneAt_17 : decode prog_7_method_20_code 17 = .ok (.ireturn, 1) := jx_dec c_M_aloneAt_ok 11 rfl
def c_M_readyAt : List (Nat × Instr × Nat) := [(0, .aload_n 0, 1), (1, .getfield 117, 3), (4, .aload_n 0, 1), (5, .getfield 13, 3), (8, .iload_n 1, 1), (9, .iaload, 1), (10, .invokestatic 120, 3), (13, .istore_n 2, 1), (14, .aload_n 0, 1), (15, .getfield 32, 3), (18, .iload_n 1, 1), (19, .iaload, 1), (20, .iconst (-1), 1), (21, .if_icmp .ne 7, 3), (24, .iload_n 2, 1), (25, .goto 30, 3), (28, .iload_n 2, 1), (29, .aload_n 0, 1), (30, .getfield 59, 3), (33, .aload_n 0, 1), (34, .getfield 32, 3), (37, .iload_n 1, 1), (38, .iaload, 1), (39, .iaload, 1), (40, .aload_n 0, 1), (41, .getfield 44, 3), (44, .aload_n 0, 1), (45, .getfield 32, 3), (48, .iload_n 1, 1), (49, .iaload, 1), (50, .iaload, 1), (51, .iadd, 1), (52, .invokestatic 120, 3), (55, .ireturn, 1)]
theorem c_M_readyAt_ok : (c_M_readyAt).all (fun q => decide (decode prog_7_method_16_code q.1 = .ok q.2)) = true := by decide +kernel
theorem d_M_readyAt_0 : decode prog_7_method_16_code 0 = .ok (.aload_n 0, 1) := jx_dec c_M_readyAt_ok 0 rfl
theorem d_M_readyAt_1 : decode prog_7_method_16_code 1 = .ok (.getfield 117, 3) := jx_dec c_M_readyAt_ok 1 rfl
theorem d_M_readyAt_4 : decode prog_7_method_16_code 4 = .ok (.aload_n 0, 1) := jx_dec c_M_readyAt_ok 2 rfl
theorem d_M_readyAt_5 : decode prog_7_method_16_code 5 = .ok (.getfield 13, 3) := jx_dec c_M_readyAt_ok 3 rfl
theorem d_M_readyAt_8 : decode prog_7_method_16_code 8 = .ok (.iload_n 1, 1) := jx_dec c_M_readyAt_ok 4 rfl
theorem d_M_readyAt_9 : decode prog_7_method_16_code 9 = .ok (.iaload, 1) := jx_dec c_M_readyAt_ok 5 rfl
theorem d_M_readyAt_10 : decode prog_7_method_16_code 10 = .ok (.invokestatic 120, 3) := jx_dec c_M_readyAt_ok 6 rfl
theorem d_M_readyAt_13 : decode prog_7_method_16_code 13 = .ok (.istore_n 2, 1) := jx_dec c_M_readyAt_ok 7 rfl
theorem d_M_readyAt_14 : decode prog_7_method_16_code 14 = .ok (.aload_n 0, 1) := jx_dec c_M_readyAt_ok 8 rfl
theorem d_M_readyAt_15 : decode prog_7_method_16_code 15 = .ok (.getfield 32, 3) := jx_dec c_M_readyAt_ok 9 rfl
theorem d_M_readyAt_18 : decode prog_7_method_16_code 18 = .ok (.iload_n 1, 1) := jx_dec c_M_readyAt_ok 10 rfl
theorem d_M_readyAt_19 : decode prog_7_method_16_code 19 = .ok (.iaload, 1) := jx_dec c_M_readyAt_ok 11 rfl
theorem d_M_readyAt_20 : decode prog_7_method_16_code 20 = .ok (.iconst (-1), 1) := jx_dec c_M_readyAt_ok 12 rfl
theorem d_M_readyAt_21 : decode prog_7_method_16_code 21 = .ok (.if_icmp .ne 7, 3) := jx_dec c_M_readyAt_ok 13 rfl
theorem d_M_readyAt_24 : decode prog_7_method_16_code 24 = .ok (.iload_n 2, 1) := jx_dec c_M_readyAt_ok 14 rfl
theorem d_M_readyAt_25 : decode prog_7_method_16_code 25 = .ok (.goto 30, 3) := jx_dec c_M_readyAt_ok 15 rfl
theorem d_M_readyAt_28 : decode prog_7_method_16_code 28 = .ok (.iload_n 2, 1) := jx_dec c_M_readyAt_ok 16 rfl
theorem d_M_readyAt_29 : decode prog_7_method_16_code 29 = .ok (.aload_n 0, 1) := jx_dec c_M_readyAt_ok 17 rfl
theorem d_M_readyAt_30 : decode prog_7_method_16_code 30 = .ok (.getfield 59, 3) := jx_dec c_M_readyAt_ok 18 rfl
theorem d_M_readyAt_33 : decode prog_7_method_16_code 33 = .ok (.aload_n 0, 1) := jx_dec c_M_readyAt_ok 19 rfl
theorem d_M_readyAt_34 : decode prog_7_method_16_code 34 = .ok (.getfield 32, 3) := jx_dec c_M_readyAt_ok 20 rfl
theorem d_M_readyAt_37 : decode prog_7_method_16_code 37 = .ok (.iload_n 1, 1) := jx_dec c_M_readyAt_ok 21 rfl
theorem d_M_readyAt_38 : decode prog_7_method_16_code 38 = .ok (.iaload, 1) := jx_dec c_M_readyAt_ok 22 rfl
theorem d_M_readyAt_39 : decode prog_7_method_16_code 39 = .ok (.iaload, 1) := jx_dec c_M_readyAt_ok 23 rfl
theorem d_M_readyAt_40 : decode prog_7_method_16_code 40 = .ok (.aload_n 0, 1) := jx_dec c_M_readyAt_ok 24 rfl
theorem d_M_readyAt_41 : decode prog_7_method_16_code 41 = .ok (.getfield 44, 3) := jx_dec c_M_readyAt_ok 25 rfl
theorem d_M_readyAt_44 : decode prog_7_method_16_code 44 = .ok (.aload_n 0, 1) := jx_dec c_M_readyAt_ok 26 rfl
theorem d_M_readyAt_45 : decode prog_7_method_16_code 45 = .ok (.getfield 32, 3) := jx_dec c_M_readyAt_ok 27 rfl
theorem d_M_readyAt_48 : decode prog_7_method_16_code 48 = .ok (.iload_n 1, 1) := jx_dec c_M_readyAt_ok 28 rfl
theorem d_M_readyAt_49 : decode prog_7_method_16_code 49 = .ok (.iaload, 1) := jx_dec c_M_readyAt_ok 29 rfl
theorem d_M_readyAt_50 : decode prog_7_method_16_code 50 = .ok (.iaload, 1) := jx_dec c_M_readyAt_ok 30 rfl
theorem d_M_readyAt_51 : decode prog_7_method_16_code 51 = .ok (.iadd, 1) := jx_dec c_M_readyAt_ok 31 rfl
theorem d_M_readyAt_52 : decode prog_7_method_16_code 52 = .ok (.invokestatic 120, 3) := jx_dec c_M_readyAt_ok 32 rfl
theorem d_M_readyAt_55 : decode prog_7_method_16_code 55 = .ok (.ireturn, 1) := jx_dec c_M_readyAt_ok 33 rfl
def c_M_greater : List (Nat × Instr × Nat) := [(0, .iload_n 0, 1), (1, .iload_n 1, 1), (2, .if_icmp .le 7, 3), (5, .iload_n 0, 1), (6, .goto 4, 3), (9, .iload_n 1, 1), (10, .ireturn, 1)]
theorem c_M_greater_ok : (c_M_greater).all (fun q => decide (decode prog_7_method_15_code q.1 = .ok q.2)) = true := by decide +kernel
theorem d_M_greater_0 : decode prog_7_method_15_code 0 = .ok (.iload_n 0, 1) := jx_dec c_M_greater_ok 0 rfl
theorem d_M_greater_1 : decode prog_7_method_15_code 1 = .ok (.iload_n 1, 1) := jx_dec c_M_greater_ok 1 rfl
theorem d_M_greater_2 : decode prog_7_method_15_code 2 = .ok (.if_icmp .le 7, 3) := jx_dec c_M_greater_ok 2 rfl
theorem d_M_greater_5 : decode prog_7_method_15_code 5 = .ok (.iload_n 0, 1) := jx_dec c_M_greater_ok 3 rfl
theorem d_M_greater_6 : decode prog_7_method_15_code 6 = .ok (.goto 4, 3) := jx_dec c_M_greater_ok 4 rfl
theorem d_M_greater_9 : decode prog_7_method_15_code 9 = .ok (.iload_n 1, 1) := jx_dec c_M_greater_ok 5 rfl
theorem d_M_greater_10 : decode prog_7_method_15_code 10 = .ok (.ireturn, 1) := jx_dec c_M_greater_ok 6 rfl
def c_M_startOf : List (Nat × Instr × Nat) := [(0, .iload_n 3, 1), (1, .aload_n 0, 1), (2, .getfield 35, 3), (5, .iconst 4, 1), (6, .iload 4, 2), (8, .imul, 1), (9, .aload_n 0, 1), (10, .getfield 50, 3), (13, .iload_n 2, 1), (14, .iaload, 1), (15, .iadd, 1), (16, .iaload, 1), (17, .iadd, 1), (18, .istore 5, 2), (20, .iload 5, 2), (22, .aload_n 0, 1), (23, .getfield 22, 3), (26, .iload_n 1, 1), (27, .iaload, 1), (28, .if_icmp .ge 44, 3), (31, .iload 5, 2), (33, .aload_n 0, 1), (34, .getfield 44, 3), (37, .iload_n 2, 1), (38, .iaload, 1), (39, .iadd, 1), (40, .aload_n 0, 1), (41, .getfield 19, 3), (44, .iload_n 1, 1), (45, .iaload, 1), (46, .if_icmp .le 26, 3), (49, .aload_n 0, 1), (50, .getfield 19, 3), (53, .iload_n 1, 1), (54, .iaload, 1), (55, .aload_n 0, 1), (56, .getfield 22, 3), (59, .iload_n 1, 1), (60, .iaload, 1), (61, .if_icmp .ge 11, 3), (64, .aload_n 0, 1), (65, .getfield 22, 3), (68, .iload_n 1, 1), (69, .iaload, 1), (70, .istore 5, 2), (72, .iload 5, 2), (74, .aload_n 0, 1), (75, .getfield 44, 3), (78, .iload_n 2, 1), (79, .iaload, 1), (80, .iadd, 1), (81, .aload_n 0, 1), (82, .getfield 16, 3), (85, .iload_n 1, 1), (86, .iaload, 1), (87, .if_icmp .le 7, 3), (90, .iconst (-1), 1), (91, .goto 5, 3), (94, .iload 5, 2), (96, .ireturn, 1)]
theorem c_M_startOf_ok : (c_M_startOf).all (fun q => decide (decode prog_7_method_17_code q.1 = .ok q.2)) = true := by decide +kernel
theorem d_M_startOf_0 : decode prog_7_method_17_code 0 = .ok (.iload_n 3, 1) := jx_dec c_M_startOf_ok 0 rfl
theorem d_M_startOf_1 : decode prog_7_method_17_code 1 = .ok (.aload_n 0, 1) := jx_dec c_M_startOf_ok 1 rfl
theorem d_M_startOf_2 : decode prog_7_method_17_code 2 = .ok (.getfield 35, 3) := jx_dec c_M_startOf_ok 2 rfl
theorem d_M_startOf_5 : decode prog_7_method_17_code 5 = .ok (.iconst 4, 1) := jx_dec c_M_startOf_ok 3 rfl
theorem d_M_startOf_6 : decode prog_7_method_17_code 6 = .ok (.iload 4, 2) := jx_dec c_M_startOf_ok 4 rfl
theorem d_M_startOf_8 : decode prog_7_method_17_code 8 = .ok (.imul, 1) := jx_dec c_M_startOf_ok 5 rfl
theorem d_M_startOf_9 : decode prog_7_method_17_code 9 = .ok (.aload_n 0, 1) := jx_dec c_M_startOf_ok 6 rfl
theorem d_M_startOf_10 : decode prog_7_method_17_code 10 = .ok (.getfield 50, 3) := jx_dec c_M_startOf_ok 7 rfl
theorem d_M_startOf_13 : decode prog_7_method_17_code 13 = .ok (.iload_n 2, 1) := jx_dec c_M_startOf_ok 8 rfl
theorem d_M_startOf_14 : decode prog_7_method_17_code 14 = .ok (.iaload, 1) := jx_dec c_M_startOf_ok 9 rfl
theorem d_M_startOf_15 : decode prog_7_method_17_code 15 = .ok (.iadd, 1) := jx_dec c_M_startOf_ok 10 rfl
theorem d_M_startOf_16 : decode prog_7_method_17_code 16 = .ok (.iaload, 1) := jx_dec c_M_startOf_ok 11 rfl
theorem d_M_startOf_17 : decode prog_7_method_17_code 17 = .ok (.iadd, 1) := jx_dec c_M_startOf_ok 12 rfl
theorem d_M_startOf_18 : decode prog_7_method_17_code 18 = .ok (.istore 5, 2) := jx_dec c_M_startOf_ok 13 rfl
theorem d_M_startOf_20 : decode prog_7_method_17_code 20 = .ok (.iload 5, 2) := jx_dec c_M_startOf_ok 14 rfl
theorem d_M_startOf_22 : decode prog_7_method_17_code 22 = .ok (.aload_n 0, 1) := jx_dec c_M_startOf_ok 15 rfl
theorem d_M_startOf_23 : decode prog_7_method_17_code 23 = .ok (.getfield 22, 3) := jx_dec c_M_startOf_ok 16 rfl
theorem d_M_startOf_26 : decode prog_7_method_17_code 26 = .ok (.iload_n 1, 1) := jx_dec c_M_startOf_ok 17 rfl
theorem d_M_startOf_27 : decode prog_7_method_17_code 27 = .ok (.iaload, 1) := jx_dec c_M_startOf_ok 18 rfl
theorem d_M_startOf_28 : decode prog_7_method_17_code 28 = .ok (.if_icmp .ge 44, 3) := jx_dec c_M_startOf_ok 19 rfl
theorem d_M_startOf_31 : decode prog_7_method_17_code 31 = .ok (.iload 5, 2) := jx_dec c_M_startOf_ok 20 rfl
theorem d_M_startOf_33 : decode prog_7_method_17_code 33 = .ok (.aload_n 0, 1) := jx_dec c_M_startOf_ok 21 rfl
theorem d_M_startOf_34 : decode prog_7_method_17_code 34 = .ok (.getfield 44, 3) := jx_dec c_M_startOf_ok 22 rfl
theorem d_M_startOf_37 : decode prog_7_method_17_code 37 = .ok (.iload_n 2, 1) := jx_dec c_M_startOf_ok 23 rfl
theorem d_M_startOf_38 : decode prog_7_method_17_code 38 = .ok (.iaload, 1) := jx_dec c_M_startOf_ok 24 rfl
theorem d_M_startOf_39 : decode prog_7_method_17_code 39 = .ok (.iadd, 1) := jx_dec c_M_startOf_ok 25 rfl
theorem d_M_startOf_40 : decode prog_7_method_17_code 40 = .ok (.aload_n 0, 1) := jx_dec c_M_startOf_ok 26 rfl
theorem d_M_startOf_41 : decode prog_7_method_17_code 41 = .ok (.getfield 19, 3) := jx_dec c_M_startOf_ok 27 rfl
theorem d_M_startOf_44 : decode prog_7_method_17_code 44 = .ok (.iload_n 1, 1) := jx_dec c_M_startOf_ok 28 rfl
theorem d_M_startOf_45 : decode prog_7_method_17_code 45 = .ok (.iaload, 1) := jx_dec c_M_startOf_ok 29 rfl
theorem d_M_startOf_46 : decode prog_7_method_17_code 46 = .ok (.if_icmp .le 26, 3) := jx_dec c_M_startOf_ok 30 rfl
theorem d_M_startOf_49 : decode prog_7_method_17_code 49 = .ok (.aload_n 0, 1) := jx_dec c_M_startOf_ok 31 rfl
theorem d_M_startOf_50 : decode prog_7_method_17_code 50 = .ok (.getfield 19, 3) := jx_dec c_M_startOf_ok 32 rfl
theorem d_M_startOf_53 : decode prog_7_method_17_code 53 = .ok (.iload_n 1, 1) := jx_dec c_M_startOf_ok 33 rfl
theorem d_M_startOf_54 : decode prog_7_method_17_code 54 = .ok (.iaload, 1) := jx_dec c_M_startOf_ok 34 rfl
theorem d_M_startOf_55 : decode prog_7_method_17_code 55 = .ok (.aload_n 0, 1) := jx_dec c_M_startOf_ok 35 rfl
theorem d_M_startOf_56 : decode prog_7_method_17_code 56 = .ok (.getfield 22, 3) := jx_dec c_M_startOf_ok 36 rfl
theorem d_M_startOf_59 : decode prog_7_method_17_code 59 = .ok (.iload_n 1, 1) := jx_dec c_M_startOf_ok 37 rfl
theorem d_M_startOf_60 : decode prog_7_method_17_code 60 = .ok (.iaload, 1) := jx_dec c_M_startOf_ok 38 rfl
theorem d_M_startOf_61 : decode prog_7_method_17_code 61 = .ok (.if_icmp .ge 11, 3) := jx_dec c_M_startOf_ok 39 rfl
theorem d_M_startOf_64 : decode prog_7_method_17_code 64 = .ok (.aload_n 0, 1) := jx_dec c_M_startOf_ok 40 rfl
theorem d_M_startOf_65 : decode prog_7_method_17_code 65 = .ok (.getfield 22, 3) := jx_dec c_M_startOf_ok 41 rfl
theorem d_M_startOf_68 : decode prog_7_method_17_code 68 = .ok (.iload_n 1, 1) := jx_dec c_M_startOf_ok 42 rfl
theorem d_M_startOf_69 : decode prog_7_method_17_code 69 = .ok (.iaload, 1) := jx_dec c_M_startOf_ok 43 rfl
theorem d_M_startOf_70 : decode prog_7_method_17_code 70 = .ok (.istore 5, 2) := jx_dec c_M_startOf_ok 44 rfl
theorem d_M_startOf_72 : decode prog_7_method_17_code 72 = .ok (.iload 5, 2) := jx_dec c_M_startOf_ok 45 rfl
theorem d_M_startOf_74 : decode prog_7_method_17_code 74 = .ok (.aload_n 0, 1) := jx_dec c_M_startOf_ok 46 rfl
theorem d_M_startOf_75 : decode prog_7_method_17_code 75 = .ok (.getfield 44, 3) := jx_dec c_M_startOf_ok 47 rfl
theorem d_M_startOf_78 : decode prog_7_method_17_code 78 = .ok (.iload_n 2, 1) := jx_dec c_M_startOf_ok 48 rfl
theorem d_M_startOf_79 : decode prog_7_method_17_code 79 = .ok (.iaload, 1) := jx_dec c_M_startOf_ok 49 rfl
theorem d_M_startOf_80 : decode prog_7_method_17_code 80 = .ok (.iadd, 1) := jx_dec c_M_startOf_ok 50 rfl
theorem d_M_startOf_81 : decode prog_7_method_17_code 81 = .ok (.aload_n 0, 1) := jx_dec c_M_startOf_ok 51 rfl
theorem d_M_startOf_82 : decode prog_7_method_17_code 82 = .ok (.getfield 16, 3) := jx_dec c_M_startOf_ok 52 rfl
theorem d_M_startOf_85 : decode prog_7_method_17_code 85 = .ok (.iload_n 1, 1) := jx_dec c_M_startOf_ok 53 rfl
theorem d_M_startOf_86 : decode prog_7_method_17_code 86 = .ok (.iaload, 1) := jx_dec c_M_startOf_ok 54 rfl
theorem d_M_startOf_87 : decode prog_7_method_17_code 87 = .ok (.if_icmp .le 7, 3) := jx_dec c_M_startOf_ok 55 rfl
theorem d_M_startOf_90 : decode prog_7_method_17_code 90 = .ok (.iconst (-1), 1) := jx_dec c_M_startOf_ok 56 rfl
theorem d_M_startOf_91 : decode prog_7_method_17_code 91 = .ok (.goto 5, 3) := jx_dec c_M_startOf_ok 57 rfl
theorem d_M_startOf_94 : decode prog_7_method_17_code 94 = .ok (.iload 5, 2) := jx_dec c_M_startOf_ok 58 rfl
theorem d_M_startOf_96 : decode prog_7_method_17_code 96 = .ok (.ireturn, 1) := jx_dec c_M_startOf_ok 59 rfl
def c_M_assign : List (Nat × Instr × Nat) := [(0, .aload_n 0, 1), (1, .iload_n 1, 1), (2, .iconst 0, 1), (3, .iconst 5, 1), (4, .invokestatic 90, 3), (7, .ifCond .eq 7, 3), (10, .iconst 0, 1), (11, .goto 4, 3), (14, .iconst 1, 1), (15, .putfield 83, 3), (18, .aload_n 0, 1), (19, .getfield 83, 3), (22, .ifCond .eq 5, 3), (25, .iconst 0, 1), (26, .ireturn, 1), (27, .iconst 0, 1), (28, .istore_n 2, 1), (29, .iload_n 2, 1), (30, .aload_n 0, 1), (31, .getfield 94, 3), (34, .if_icmp .ge 23, 3), (37, .aload_n 0, 1), (38, .getfield 38, 3), (41, .iload_n 2, 1), (42, .iaload, 1), (43, .ifCond .ne 8, 3), (46, .aload_n 0, 1), (47, .iload_n 2, 1), (48, .invokevirtual 113, 3), (51, .iinc 2 1, 3), (54, .goto (-25), 3), (57, .aload_n 0, 1), (58, .aload_n 0, 1), (59, .iconst 2, 1), (60, .invokevirtual 175, 3), (63, .iload_n 1, 1), (64, .if_icmp .gt 7, 3), (67, .iconst 1, 1), (68, .goto 4, 3), (71, .iconst 0, 1), (72, .putfield 178, 3), (75, .aload_n 0, 1), (76, .getfield 178, 3), (79, .ifCond .ne 10, 3), (82, .aload_n 0, 1), (83, .invokevirtual 182, 3), (86, .goto 57, 3), (89, .aload_n 0, 1), (90, .iconst 0, 1), (91, .putfield 141, 3), (94, .iconst 0, 1), (95, .istore_n 2, 1), (96, .iload_n 2, 1), (97, .aload_n 0, 1), (98, .getfield 94, 3), (101, .if_icmp .ge 38, 3), (104, .aload_n 0, 1), (105, .getfield 38, 3), (108, .iload_n 2, 1), (109, .iaload, 1), (110, .ifCond .ne 23, 3), (113, .aload_n 0, 1), (114, .getfield 62, 3), (117, .aload_n 0, 1), (118, .getfield 141, 3), (121, .iload_n 2, 1), (122, .iastore, 1), (123, .aload_n 0, 1), (124, .dup, 1), (125, .getfield 141, 3), (128, .iconst 1, 1), (129, .iadd, 1), (130, .putfield 141, 3), (133, .iinc 2 1, 3), (136, .goto (-40), 3), (139, .aload_n 0, 1), (140, .invokevirtual 185, 3), (143, .aload_n 0, 1), (144, .bipush 7, 2), (146, .invokevirtual 175, 3), (149, .ireturn, 1)]
theorem c_M_assign_ok : (c_M_assign).all (fun q => decide (decode prog_7_method_34_code q.1 = .ok q.2)) = true := by decide +kernel
theorem d_M_assign_0 : decode prog_7_method_34_code 0 = .ok (.aload_n 0, 1) := jx_dec c_M_assign_ok 0 rfl
theorem d_M_assign_1 : decode prog_7_method_34_code 1 = .ok (.iload_n 1, 1) := jx_dec c_M_assign_ok 1 rfl
theorem d_M_assign_2 : decode prog_7_method_34_code 2 = .ok (.iconst 0, 1) := jx_dec c_M_assign_ok 2 rfl
theorem d_M_assign_3 : decode prog_7_method_34_code 3 = .ok (.iconst 5, 1) := jx_dec c_M_assign_ok 3 rfl
theorem d_M_assign_4 : decode prog_7_method_34_code 4 = .ok (.invokestatic 90, 3) := jx_dec c_M_assign_ok 4 rfl
theorem d_M_assign_7 : decode prog_7_method_34_code 7 = .ok (.ifCond .eq 7, 3) := jx_dec c_M_assign_ok 5 rfl
theorem d_M_assign_10 : decode prog_7_method_34_code 10 = .ok (.iconst 0, 1) := jx_dec c_M_assign_ok 6 rfl
theorem d_M_assign_11 : decode prog_7_method_34_code 11 = .ok (.goto 4, 3) := jx_dec c_M_assign_ok 7 rfl
theorem d_M_assign_14 : decode prog_7_method_34_code 14 = .ok (.iconst 1, 1) := jx_dec c_M_assign_ok 8 rfl
theorem d_M_assign_15 : decode prog_7_method_34_code 15 = .ok (.putfield 83, 3) := jx_dec c_M_assign_ok 9 rfl
theorem d_M_assign_18 : decode prog_7_method_34_code 18 = .ok (.aload_n 0, 1) := jx_dec c_M_assign_ok 10 rfl
theorem d_M_assign_19 : decode prog_7_method_34_code 19 = .ok (.getfield 83, 3) := jx_dec c_M_assign_ok 11 rfl
theorem d_M_assign_22 : decode prog_7_method_34_code 22 = .ok (.ifCond .eq 5, 3) := jx_dec c_M_assign_ok 12 rfl
theorem d_M_assign_25 : decode prog_7_method_34_code 25 = .ok (.iconst 0, 1) := jx_dec c_M_assign_ok 13 rfl
theorem d_M_assign_26 : decode prog_7_method_34_code 26 = .ok (.ireturn, 1) := jx_dec c_M_assign_ok 14 rfl
theorem d_M_assign_27 : decode prog_7_method_34_code 27 = .ok (.iconst 0, 1) := jx_dec c_M_assign_ok 15 rfl
theorem d_M_assign_28 : decode prog_7_method_34_code 28 = .ok (.istore_n 2, 1) := jx_dec c_M_assign_ok 16 rfl
theorem d_M_assign_29 : decode prog_7_method_34_code 29 = .ok (.iload_n 2, 1) := jx_dec c_M_assign_ok 17 rfl
theorem d_M_assign_30 : decode prog_7_method_34_code 30 = .ok (.aload_n 0, 1) := jx_dec c_M_assign_ok 18 rfl
theorem d_M_assign_31 : decode prog_7_method_34_code 31 = .ok (.getfield 94, 3) := jx_dec c_M_assign_ok 19 rfl
theorem d_M_assign_34 : decode prog_7_method_34_code 34 = .ok (.if_icmp .ge 23, 3) := jx_dec c_M_assign_ok 20 rfl
theorem d_M_assign_37 : decode prog_7_method_34_code 37 = .ok (.aload_n 0, 1) := jx_dec c_M_assign_ok 21 rfl
theorem d_M_assign_38 : decode prog_7_method_34_code 38 = .ok (.getfield 38, 3) := jx_dec c_M_assign_ok 22 rfl
theorem d_M_assign_41 : decode prog_7_method_34_code 41 = .ok (.iload_n 2, 1) := jx_dec c_M_assign_ok 23 rfl
theorem d_M_assign_42 : decode prog_7_method_34_code 42 = .ok (.iaload, 1) := jx_dec c_M_assign_ok 24 rfl
theorem d_M_assign_43 : decode prog_7_method_34_code 43 = .ok (.ifCond .ne 8, 3) := jx_dec c_M_assign_ok 25 rfl
theorem d_M_assign_46 : decode prog_7_method_34_code 46 = .ok (.aload_n 0, 1) := jx_dec c_M_assign_ok 26 rfl
theorem d_M_assign_47 : decode prog_7_method_34_code 47 = .ok (.iload_n 2, 1) := jx_dec c_M_assign_ok 27 rfl
theorem d_M_assign_48 : decode prog_7_method_34_code 48 = .ok (.invokevirtual 113, 3) := jx_dec c_M_assign_ok 28 rfl
theorem d_M_assign_51 : decode prog_7_method_34_code 51 = .ok (.iinc 2 1, 3) := jx_dec c_M_assign_ok 29 rfl
theorem d_M_assign_54 : decode prog_7_method_34_code 54 = .ok (.goto (-25), 3) := jx_dec c_M_assign_ok 30 rfl
theorem d_M_assign_57 : decode prog_7_method_34_code 57 = .ok (.aload_n 0, 1) := jx_dec c_M_assign_ok 31 rfl
theorem d_M_assign_58 : decode prog_7_method_34_code 58 = .ok (.aload_n 0, 1) := jx_dec c_M_assign_ok 32 rfl
theorem d_M_assign_59 : decode prog_7_method_34_code 59 = .ok (.iconst 2, 1) := jx_dec c_M_assign_ok 33 rfl
theorem d_M_assign_60 : decode prog_7_method_34_code 60 = .ok (.invokevirtual 175, 3) := jx_dec c_M_assign_ok 34 rfl
theorem d_M_assign_63 : decode prog_7_method_34_code 63 = .ok (.iload_n 1, 1) := jx_dec c_M_assign_ok 35 rfl
theorem d_M_assign_64 : decode prog_7_method_34_code 64 = .ok (.if_icmp .gt 7, 3) := jx_dec c_M_assign_ok 36 rfl
theorem d_M_assign_67 : decode prog_7_method_34_code 67 = .ok (.iconst 1, 1) := jx_dec c_M_assign_ok 37 rfl
theorem d_M_assign_68 : decode prog_7_method_34_code 68 = .ok (.goto 4, 3) := jx_dec c_M_assign_ok 38 rfl
theorem d_M_assign_71 : decode prog_7_method_34_code 71 = .ok (.iconst 0, 1) := jx_dec c_M_assign_ok 39 rfl
theorem d_M_assign_72 : decode prog_7_method_34_code 72 = .ok (.putfield 178, 3) := jx_dec c_M_assign_ok 40 rfl
theorem d_M_assign_75 : decode prog_7_method_34_code 75 = .ok (.aload_n 0, 1) := jx_dec c_M_assign_ok 41 rfl
theorem d_M_assign_76 : decode prog_7_method_34_code 76 = .ok (.getfield 178, 3) := jx_dec c_M_assign_ok 42 rfl
theorem d_M_assign_79 : decode prog_7_method_34_code 79 = .ok (.ifCond .ne 10, 3) := jx_dec c_M_assign_ok 43 rfl
theorem d_M_assign_82 : decode prog_7_method_34_code 82 = .ok (.aload_n 0, 1) := jx_dec c_M_assign_ok 44 rfl
theorem d_M_assign_83 : decode prog_7_method_34_code 83 = .ok (.invokevirtual 182, 3) := jx_dec c_M_assign_ok 45 rfl
theorem d_M_assign_86 : decode prog_7_method_34_code 86 = .ok (.goto 57, 3) := jx_dec c_M_assign_ok 46 rfl
theorem d_M_assign_89 : decode prog_7_method_34_code 89 = .ok (.aload_n 0, 1) := jx_dec c_M_assign_ok 47 rfl
theorem d_M_assign_90 : decode prog_7_method_34_code 90 = .ok (.iconst 0, 1) := jx_dec c_M_assign_ok 48 rfl
theorem d_M_assign_91 : decode prog_7_method_34_code 91 = .ok (.putfield 141, 3) := jx_dec c_M_assign_ok 49 rfl
theorem d_M_assign_94 : decode prog_7_method_34_code 94 = .ok (.iconst 0, 1) := jx_dec c_M_assign_ok 50 rfl
theorem d_M_assign_95 : decode prog_7_method_34_code 95 = .ok (.istore_n 2, 1) := jx_dec c_M_assign_ok 51 rfl
theorem d_M_assign_96 : decode prog_7_method_34_code 96 = .ok (.iload_n 2, 1) := jx_dec c_M_assign_ok 52 rfl
theorem d_M_assign_97 : decode prog_7_method_34_code 97 = .ok (.aload_n 0, 1) := jx_dec c_M_assign_ok 53 rfl
theorem d_M_assign_98 : decode prog_7_method_34_code 98 = .ok (.getfield 94, 3) := jx_dec c_M_assign_ok 54 rfl
theorem d_M_assign_101 : decode prog_7_method_34_code 101 = .ok (.if_icmp .ge 38, 3) := jx_dec c_M_assign_ok 55 rfl
theorem d_M_assign_104 : decode prog_7_method_34_code 104 = .ok (.aload_n 0, 1) := jx_dec c_M_assign_ok 56 rfl
theorem d_M_assign_105 : decode prog_7_method_34_code 105 = .ok (.getfield 38, 3) := jx_dec c_M_assign_ok 57 rfl
theorem d_M_assign_108 : decode prog_7_method_34_code 108 = .ok (.iload_n 2, 1) := jx_dec c_M_assign_ok 58 rfl
theorem d_M_assign_109 : decode prog_7_method_34_code 109 = .ok (.iaload, 1) := jx_dec c_M_assign_ok 59 rfl
theorem d_M_assign_110 : decode prog_7_method_34_code 110 = .ok (.ifCond .ne 23, 3) := jx_dec c_M_assign_ok 60 rfl
theorem d_M_assign_113 : decode prog_7_method_34_code 113 = .ok (.aload_n 0, 1) := jx_dec c_M_assign_ok 61 rfl
theorem d_M_assign_114 : decode prog_7_method_34_code 114 = .ok (.getfield 62, 3) := jx_dec c_M_assign_ok 62 rfl
theorem d_M_assign_117 : decode prog_7_method_34_code 117 = .ok (.aload_n 0, 1) := jx_dec c_M_assign_ok 63 rfl
theorem d_M_assign_118 : decode prog_7_method_34_code 118 = .ok (.getfield 141, 3) := jx_dec c_M_assign_ok 64 rfl
theorem d_M_assign_121 : decode prog_7_method_34_code 121 = .ok (.iload_n 2, 1) := jx_dec c_M_assign_ok 65 rfl
theorem d_M_assign_122 : decode prog_7_method_34_code 122 = .ok (.iastore, 1) := jx_dec c_M_assign_ok 66 rfl
theorem d_M_assign_123 : decode prog_7_method_34_code 123 = .ok (.aload_n 0, 1) := jx_dec c_M_assign_ok 67 rfl
theorem d_M_assign_124 : decode prog_7_method_34_code 124 = .ok (.dup, 1) := jx_dec c_M_assign_ok 68 rfl
theorem d_M_assign_125 : decode prog_7_method_34_code 125 = .ok (.getfield 141, 3) := jx_dec c_M_assign_ok 69 rfl
theorem d_M_assign_128 : decode prog_7_method_34_code 128 = .ok (.iconst 1, 1) := jx_dec c_M_assign_ok 70 rfl
theorem d_M_assign_129 : decode prog_7_method_34_code 129 = .ok (.iadd, 1) := jx_dec c_M_assign_ok 71 rfl
theorem d_M_assign_130 : decode prog_7_method_34_code 130 = .ok (.putfield 141, 3) := jx_dec c_M_assign_ok 72 rfl
theorem d_M_assign_133 : decode prog_7_method_34_code 133 = .ok (.iinc 2 1, 3) := jx_dec c_M_assign_ok 73 rfl
theorem d_M_assign_136 : decode prog_7_method_34_code 136 = .ok (.goto (-40), 3) := jx_dec c_M_assign_ok 74 rfl
theorem d_M_assign_139 : decode prog_7_method_34_code 139 = .ok (.aload_n 0, 1) := jx_dec c_M_assign_ok 75 rfl
theorem d_M_assign_140 : decode prog_7_method_34_code 140 = .ok (.invokevirtual 185, 3) := jx_dec c_M_assign_ok 76 rfl
theorem d_M_assign_143 : decode prog_7_method_34_code 143 = .ok (.aload_n 0, 1) := jx_dec c_M_assign_ok 77 rfl
theorem d_M_assign_144 : decode prog_7_method_34_code 144 = .ok (.bipush 7, 2) := jx_dec c_M_assign_ok 78 rfl
theorem d_M_assign_146 : decode prog_7_method_34_code 146 = .ok (.invokevirtual 175, 3) := jx_dec c_M_assign_ok 79 rfl
theorem d_M_assign_149 : decode prog_7_method_34_code 149 = .ok (.ireturn, 1) := jx_dec c_M_assign_ok 80 rfl
def c_M_count : List (Nat × Instr × Nat) := [(0, .aload_n 0, 1), (1, .iconst 0, 1), (2, .putfield 83, 3), (5, .iconst 0, 1), (6, .istore_n 2, 1), (7, .iload_n 1, 1), (8, .tableswitch 167 0 7 #[48, 53, 58, 58, 58, 66, 106, 111], 48), (56, .aload_n 0, 1), (57, .getfield 87, 3), (60, .ireturn, 1), (61, .aload_n 0, 1), (62, .getfield 94, 3), (65, .ireturn, 1), (66, .aload_n 0, 1), (67, .iload_n 1, 1), (68, .iconst 2, 1), (69, .isub, 1), (70, .invokevirtual 194, 3), (73, .ireturn, 1), (74, .iconst 0, 1), (75, .istore_n 3, 1), (76, .iload_n 3, 1), (77, .aload_n 0, 1), (78, .getfield 94, 3), (81, .if_icmp .ge 31, 3), (84, .aload_n 0, 1), (85, .getfield 38, 3), (88, .iload_n 3, 1), (89, .iaload, 1), (90, .ifCond .ne 16, 3), (93, .aload_n 0, 1), (94, .getfield 56, 3), (97, .iload_n 3, 1), (98, .iaload, 1), (99, .iconst (-1), 1), (100, .if_icmp .ne 6, 3), (103, .iinc 2 1, 3), (106, .iinc 3 1, 3), (109, .goto (-33), 3), (112, .iload_n 2, 1), (113, .ireturn, 1), (114, .aload_n 0, 1), (115, .getfield 117, 3), (118, .ireturn, 1), (119, .iconst 0, 1), (120, .istore_n 3, 1), (121, .iload_n 3, 1), (122, .aload_n 0, 1), (123, .getfield 94, 3), (126, .if_icmp .ge 47, 3), (129, .aload_n 0, 1), (130, .getfield 38, 3), (133, .iload_n 3, 1), (134, .iaload, 1), (135, .ifCond .ne 32, 3), (138, .iload_n 2, 1), (139, .aload_n 0, 1), (140, .getfield 56, 3), (143, .iload_n 3, 1), (144, .iaload, 1), (145, .iconst (-1), 1), (146, .if_icmp .ne 8, 3), (149, .ldc 97, 2), (151, .goto 14, 3), (154, .aload_n 0, 1), (155, .iload_n 3, 1), (156, .aload_n 0, 1), (157, .getfield 59, 3), (160, .iload_n 3, 1), (161, .iaload, 1), (162, .invokevirtual 134, 3), (165, .iadd, 1), (166, .istore_n 2, 1), (167, .iinc 3 1, 3), (170, .goto (-49), 3), (173, .iload_n 2, 1), (174, .ireturn, 1), (175, .iconst (-1), 1), (176, .ireturn, 1)]
theorem c_M_count_ok : (c_M_count).all (fun q => decide (decode prog_7_method_48_code q.1 = .ok q.2)) = true := by decide +kernel
theorem d_M_count_0 : decode prog_7_method_48_code 0 = .ok (.aload_n 0, 1) := jx_dec c_M_count_ok 0 rfl
theorem d_M_count_1 : decode prog_7_method_48_code 1 = .ok (.iconst 0, 1) := jx_dec c_M_count_ok 1 rfl
theorem d_M_count_2 : decode prog_7_method_48_code 2 = .ok (.putfield 83, 3) := jx_dec c_M_count_ok 2 rfl
theorem d_M_count_5 : decode prog_7_method_48_code 5 = .ok (.iconst 0, 1) := jx_dec c_M_count_ok 3 rfl
theorem d_M_count_6 : decode prog_7_method_48_code 6 = .ok (.istore_n 2, 1) := jx_dec c_M_count_ok 4 rfl
theorem d_M_count_7 : decode prog_7_method_48_code 7 = .ok (.iload_n 1, 1) := jx_dec c_M_count_ok 5 rfl
theorem d_M_count_8 : decode prog_7_method_48_code 8 = .ok (.tableswitch 167 0 7 #[48, 53, 58, 58, 58, 66, 106, 111], 48) := jx_dec c_M_count_ok 6 rfl
theorem d_M_count_56 : decode prog_7_method_48_code 56 = .ok (.aload_n 0, 1) := jx_dec c_M_count_ok 7 rfl
theorem d_M_count_57 : decode prog_7_method_48_code 57 = .ok (.getfield 87, 3) := jx_dec c_M_count_ok 8 rfl
theorem d_M_count_60 : decode prog_7_method_48_code 60 = .ok (.ireturn, 1) := jx_dec c_M_count_ok 9 rfl
theorem d_M_count_61 : decode prog_7_method_48_code 61 = .ok (.aload_n 0, 1) := jx_dec c_M_count_ok 10 rfl
theorem d_M_count_62 : decode prog_7_method_48_code 62 = .ok (.getfield 94, 3) := jx_dec c_M_count_ok 11 rfl
theorem d_M_count_65 : decode prog_7_method_48_code 65 = .ok (.ireturn, 1) := jx_dec c_M_count_ok 12 rfl
theorem d_M_count_66 : decode prog_7_method_48_code 66 = .ok (.aload_n 0, 1) := jx_dec c_M_count_ok 13 rfl
theorem d_M_count_67 : decode prog_7_method_48_code 67 = .ok (.iload_n 1, 1) := jx_dec c_M_count_ok 14 rfl
theorem d_M_count_68 : decode prog_7_method_48_code 68 = .ok (.iconst 2, 1) := jx_dec c_M_count_ok 15 rfl
theorem d_M_count_69 : decode prog_7_method_48_code 69 = .ok (.isub, 1) := jx_dec c_M_count_ok 16 rfl
theorem d_M_count_70 : decode prog_7_method_48_code 70 = .ok (.invokevirtual 194, 3) := jx_dec c_M_count_ok 17 rfl
theorem d_M_count_73 : decode prog_7_method_48_code 73 = .ok (.ireturn, 1) := jx_dec c_M_count_ok 18 rfl
theorem d_M_count_74 : decode prog_7_method_48_code 74 = .ok (.iconst 0, 1) := jx_dec c_M_count_ok 19 rfl
theorem d_M_count_75 : decode prog_7_method_48_code 75 = .ok (.istore_n 3, 1) := jx_dec c_M_count_ok 20 rfl
theorem d_M_count_76 : decode prog_7_method_48_code 76 = .ok (.iload_n 3, 1) := jx_dec c_M_count_ok 21 rfl
theorem d_M_count_77 : decode prog_7_method_48_code 77 = .ok (.aload_n 0, 1) := jx_dec c_M_count_ok 22 rfl
theorem d_M_count_78 : decode prog_7_method_48_code 78 = .ok (.getfield 94, 3) := jx_dec c_M_count_ok 23 rfl
theorem d_M_count_81 : decode prog_7_method_48_code 81 = .ok (.if_icmp .ge 31, 3) := jx_dec c_M_count_ok 24 rfl
theorem d_M_count_84 : decode prog_7_method_48_code 84 = .ok (.aload_n 0, 1) := jx_dec c_M_count_ok 25 rfl
theorem d_M_count_85 : decode prog_7_method_48_code 85 = .ok (.getfield 38, 3) := jx_dec c_M_count_ok 26 rfl
theorem d_M_count_88 : decode prog_7_method_48_code 88 = .ok (.iload_n 3, 1) := jx_dec c_M_count_ok 27 rfl
theorem d_M_count_89 : decode prog_7_method_48_code 89 = .ok (.iaload, 1) := jx_dec c_M_count_ok 28 rfl
theorem d_M_count_90 : decode prog_7_method_48_code 90 = .ok (.ifCond .ne 16, 3) := jx_dec c_M_count_ok 29 rfl
theorem d_M_count_93 : decode prog_7_method_48_code 93 = .ok (.aload_n 0, 1) := jx_dec c_M_count_ok 30 rfl
theorem d_M_count_94 : decode prog_7_method_48_code 94 = .ok (.getfield 56, 3) := jx_dec c_M_count_ok 31 rfl
theorem d_M_count_97 : decode prog_7_method_48_code 97 = .ok (.iload_n 3, 1) := jx_dec c_M_count_ok 32 rfl
theorem d_M_count_98 : decode prog_7_method_48_code 98 = .ok (.iaload, 1) := jx_dec c_M_count_ok 33 rfl
theorem d_M_count_99 : decode prog_7_method_48_code 99 = .ok (.iconst (-1), 1) := jx_dec c_M_count_ok 34 rfl
theorem d_M_count_100 : decode prog_7_method_48_code 100 = .ok (.if_icmp .ne 6, 3) := jx_dec c_M_count_ok 35 rfl
theorem d_M_count_103 : decode prog_7_method_48_code 103 = .ok (.iinc 2 1, 3) := jx_dec c_M_count_ok 36 rfl
theorem d_M_count_106 : decode prog_7_method_48_code 106 = .ok (.iinc 3 1, 3) := jx_dec c_M_count_ok 37 rfl
theorem d_M_count_109 : decode prog_7_method_48_code 109 = .ok (.goto (-33), 3) := jx_dec c_M_count_ok 38 rfl
theorem d_M_count_112 : decode prog_7_method_48_code 112 = .ok (.iload_n 2, 1) := jx_dec c_M_count_ok 39 rfl
theorem d_M_count_113 : decode prog_7_method_48_code 113 = .ok (.ireturn, 1) := jx_dec c_M_count_ok 40 rfl
theorem d_M_count_114 : decode prog_7_method_48_code 114 = .ok (.aload_n 0, 1) := jx_dec c_M_count_ok 41 rfl
theorem d_M_count_115 : decode prog_7_method_48_code 115 = .ok (.getfield 117, 3) := jx_dec c_M_count_ok 42 rfl
theorem d_M_count_118 : decode prog_7_method_48_code 118 = .ok (.ireturn, 1) := jx_dec c_M_count_ok 43 rfl
theorem d_M_count_119 : decode prog_7_method_48_code 119 = .ok (.iconst 0, 1) := jx_dec c_M_count_ok 44 rfl
theorem d_M_count_120 : decode prog_7_method_48_code 120 = .ok (.istore_n 3, 1) := jx_dec c_M_count_ok 45 rfl
theorem d_M_count_121 : decode prog_7_method_48_code 121 = .ok (.iload_n 3, 1) := jx_dec c_M_count_ok 46 rfl
theorem d_M_count_122 : decode prog_7_method_48_code 122 = .ok (.aload_n 0, 1) := jx_dec c_M_count_ok 47 rfl
theorem d_M_count_123 : decode prog_7_method_48_code 123 = .ok (.getfield 94, 3) := jx_dec c_M_count_ok 48 rfl
theorem d_M_count_126 : decode prog_7_method_48_code 126 = .ok (.if_icmp .ge 47, 3) := jx_dec c_M_count_ok 49 rfl
theorem d_M_count_129 : decode prog_7_method_48_code 129 = .ok (.aload_n 0, 1) := jx_dec c_M_count_ok 50 rfl
theorem d_M_count_130 : decode prog_7_method_48_code 130 = .ok (.getfield 38, 3) := jx_dec c_M_count_ok 51 rfl
theorem d_M_count_133 : decode prog_7_method_48_code 133 = .ok (.iload_n 3, 1) := jx_dec c_M_count_ok 52 rfl
theorem d_M_count_134 : decode prog_7_method_48_code 134 = .ok (.iaload, 1) := jx_dec c_M_count_ok 53 rfl
theorem d_M_count_135 : decode prog_7_method_48_code 135 = .ok (.ifCond .ne 32, 3) := jx_dec c_M_count_ok 54 rfl
theorem d_M_count_138 : decode prog_7_method_48_code 138 = .ok (.iload_n 2, 1) := jx_dec c_M_count_ok 55 rfl
theorem d_M_count_139 : decode prog_7_method_48_code 139 = .ok (.aload_n 0, 1) := jx_dec c_M_count_ok 56 rfl
theorem d_M_count_140 : decode prog_7_method_48_code 140 = .ok (.getfield 56, 3) := jx_dec c_M_count_ok 57 rfl
theorem d_M_count_143 : decode prog_7_method_48_code 143 = .ok (.iload_n 3, 1) := jx_dec c_M_count_ok 58 rfl
theorem d_M_count_144 : decode prog_7_method_48_code 144 = .ok (.iaload, 1) := jx_dec c_M_count_ok 59 rfl
theorem d_M_count_145 : decode prog_7_method_48_code 145 = .ok (.iconst (-1), 1) := jx_dec c_M_count_ok 60 rfl
theorem d_M_count_146 : decode prog_7_method_48_code 146 = .ok (.if_icmp .ne 8, 3) := jx_dec c_M_count_ok 61 rfl
theorem d_M_count_149 : decode prog_7_method_48_code 149 = .ok (.ldc 97, 2) := jx_dec c_M_count_ok 62 rfl
theorem d_M_count_151 : decode prog_7_method_48_code 151 = .ok (.goto 14, 3) := jx_dec c_M_count_ok 63 rfl
theorem d_M_count_154 : decode prog_7_method_48_code 154 = .ok (.aload_n 0, 1) := jx_dec c_M_count_ok 64 rfl
theorem d_M_count_155 : decode prog_7_method_48_code 155 = .ok (.iload_n 3, 1) := jx_dec c_M_count_ok 65 rfl
theorem d_M_count_156 : decode prog_7_method_48_code 156 = .ok (.aload_n 0, 1) := jx_dec c_M_count_ok 66 rfl
theorem d_M_count_157 : decode prog_7_method_48_code 157 = .ok (.getfield 59, 3) := jx_dec c_M_count_ok 67 rfl
theorem d_M_count_160 : decode prog_7_method_48_code 160 = .ok (.iload_n 3, 1) := jx_dec c_M_count_ok 68 rfl
theorem d_M_count_161 : decode prog_7_method_48_code 161 = .ok (.iaload, 1) := jx_dec c_M_count_ok 69 rfl
theorem d_M_count_162 : decode prog_7_method_48_code 162 = .ok (.invokevirtual 134, 3) := jx_dec c_M_count_ok 70 rfl
theorem d_M_count_165 : decode prog_7_method_48_code 165 = .ok (.iadd, 1) := jx_dec c_M_count_ok 71 rfl
theorem d_M_count_166 : decode prog_7_method_48_code 166 = .ok (.istore_n 2, 1) := jx_dec c_M_count_ok 72 rfl
theorem d_M_count_167 : decode prog_7_method_48_code 167 = .ok (.iinc 3 1, 3) := jx_dec c_M_count_ok 73 rfl
theorem d_M_count_170 : decode prog_7_method_48_code 170 = .ok (.goto (-49), 3) := jx_dec c_M_count_ok 74 rfl
theorem d_M_count_173 : decode prog_7_method_48_code 173 = .ok (.iload_n 2, 1) := jx_dec c_M_count_ok 75 rfl
theorem d_M_count_174 : decode prog_7_method_48_code 174 = .ok (.ireturn, 1) := jx_dec c_M_count_ok 76 rfl
theorem d_M_count_175 : decode prog_7_method_48_code 175 = .ok (.iconst (-1), 1) := jx_dec c_M_count_ok 77 rfl
theorem d_M_count_176 : decode prog_7_method_48_code 176 = .ok (.ireturn, 1) := jx_dec c_M_count_ok 78 rfl
def c_M_inState : List (Nat × Instr × Nat) := [(0, .iconst 0, 1), (1, .istore_n 2, 1), (2, .iconst 0, 1), (3, .istore_n 3, 1), (4, .iload_n 3, 1), (5, .aload_n 0, 1), (6, .getfield 94, 3), (9, .if_icmp .ge 22, 3), (12, .aload_n 0, 1), (13, .getfield 38, 3), (16, .iload_n 3, 1), (17, .iaload, 1), (18, .iload_n 1, 1), (19, .if_icmp .ne 6, 3), (22, .iinc 2 1, 3), (25, .iinc 3 1, 3), (28, .goto (-24), 3), (31, .iload_n 2, 1), (32, .ireturn, 1)]
theorem c_M_inState_ok : (c_M_inState).all (fun q => decide (decode prog_7_method_47_code q.1 = .ok q.2)) = true := by decide +kernel
theorem d_M_inState_0 : decode prog_7_method_47_code 0 = .ok (.iconst 0, 1) := jx_dec c_M_inState_ok 0 rfl
theorem d_M_inState_1 : decode prog_7_method_47_code 1 = .ok (.istore_n 2, 1) := jx_dec c_M_inState_ok 1 rfl
theorem d_M_inState_2 : decode prog_7_method_47_code 2 = .ok (.iconst 0, 1) := jx_dec c_M_inState_ok 2 rfl
theorem d_M_inState_3 : decode prog_7_method_47_code 3 = .ok (.istore_n 3, 1) := jx_dec c_M_inState_ok 3 rfl
theorem d_M_inState_4 : decode prog_7_method_47_code 4 = .ok (.iload_n 3, 1) := jx_dec c_M_inState_ok 4 rfl
theorem d_M_inState_5 : decode prog_7_method_47_code 5 = .ok (.aload_n 0, 1) := jx_dec c_M_inState_ok 5 rfl
theorem d_M_inState_6 : decode prog_7_method_47_code 6 = .ok (.getfield 94, 3) := jx_dec c_M_inState_ok 6 rfl
theorem d_M_inState_9 : decode prog_7_method_47_code 9 = .ok (.if_icmp .ge 22, 3) := jx_dec c_M_inState_ok 7 rfl
theorem d_M_inState_12 : decode prog_7_method_47_code 12 = .ok (.aload_n 0, 1) := jx_dec c_M_inState_ok 8 rfl
theorem d_M_inState_13 : decode prog_7_method_47_code 13 = .ok (.getfield 38, 3) := jx_dec c_M_inState_ok 9 rfl
theorem d_M_inState_16 : decode prog_7_method_47_code 16 = .ok (.iload_n 3, 1) := jx_dec c_M_inState_ok 10 rfl
theorem d_M_inState_17 : decode prog_7_method_47_code 17 = .ok (.iaload, 1) := jx_dec c_M_inState_ok 11 rfl
theorem d_M_inState_18 : decode prog_7_method_47_code 18 = .ok (.iload_n 1, 1) := jx_dec c_M_inState_ok 12 rfl
theorem d_M_inState_19 : decode prog_7_method_47_code 19 = .ok (.if_icmp .ne 6, 3) := jx_dec c_M_inState_ok 13 rfl
theorem d_M_inState_22 : decode prog_7_method_47_code 22 = .ok (.iinc 2 1, 3) := jx_dec c_M_inState_ok 14 rfl
theorem d_M_inState_25 : decode prog_7_method_47_code 25 = .ok (.iinc 3 1, 3) := jx_dec c_M_inState_ok 15 rfl
theorem d_M_inState_28 : decode prog_7_method_47_code 28 = .ok (.goto (-24), 3) := jx_dec c_M_inState_ok 16 rfl
theorem d_M_inState_31 : decode prog_7_method_47_code 31 = .ok (.iload_n 2, 1) := jx_dec c_M_inState_ok 17 rfl
theorem d_M_inState_32 : decode prog_7_method_47_code 32 = .ok (.ireturn, 1) := jx_dec c_M_inState_ok 18 rfl
def c_M_lateBy : List (Nat × Instr × Nat) := [(0, .iload_n 2, 1), (1, .aload_n 0, 1), (2, .getfield 44, 3), (5, .iload_n 1, 1), (6, .iaload, 1), (7, .iadd, 1), (8, .aload_n 0, 1), (9, .getfield 47, 3), (12, .iload_n 1, 1), (13, .iaload, 1), (14, .isub, 1), (15, .iconst 0, 1), (16, .invokestatic 120, 3), (19, .ireturn, 1)]
theorem c_M_lateBy_ok : (c_M_lateBy).all (fun q => decide (decode prog_7_method_18_code q.1 = .ok q.2)) = true := by decide +kernel
theorem d_M_lateBy_0 : decode prog_7_method_18_code 0 = .ok (.iload_n 2, 1) := jx_dec c_M_lateBy_ok 0 rfl
theorem d_M_lateBy_1 : decode prog_7_method_18_code 1 = .ok (.aload_n 0, 1) := jx_dec c_M_lateBy_ok 1 rfl
theorem d_M_lateBy_2 : decode prog_7_method_18_code 2 = .ok (.getfield 44, 3) := jx_dec c_M_lateBy_ok 2 rfl
theorem d_M_lateBy_5 : decode prog_7_method_18_code 5 = .ok (.iload_n 1, 1) := jx_dec c_M_lateBy_ok 3 rfl
theorem d_M_lateBy_6 : decode prog_7_method_18_code 6 = .ok (.iaload, 1) := jx_dec c_M_lateBy_ok 4 rfl
theorem d_M_lateBy_7 : decode prog_7_method_18_code 7 = .ok (.iadd, 1) := jx_dec c_M_lateBy_ok 5 rfl
theorem d_M_lateBy_8 : decode prog_7_method_18_code 8 = .ok (.aload_n 0, 1) := jx_dec c_M_lateBy_ok 6 rfl
theorem d_M_lateBy_9 : decode prog_7_method_18_code 9 = .ok (.getfield 47, 3) := jx_dec c_M_lateBy_ok 7 rfl
theorem d_M_lateBy_12 : decode prog_7_method_18_code 12 = .ok (.iload_n 1, 1) := jx_dec c_M_lateBy_ok 8 rfl
theorem d_M_lateBy_13 : decode prog_7_method_18_code 13 = .ok (.iaload, 1) := jx_dec c_M_lateBy_ok 9 rfl
theorem d_M_lateBy_14 : decode prog_7_method_18_code 14 = .ok (.isub, 1) := jx_dec c_M_lateBy_ok 10 rfl
theorem d_M_lateBy_15 : decode prog_7_method_18_code 15 = .ok (.iconst 0, 1) := jx_dec c_M_lateBy_ok 11 rfl
theorem d_M_lateBy_16 : decode prog_7_method_18_code 16 = .ok (.invokestatic 120, 3) := jx_dec c_M_lateBy_ok 12 rfl
theorem d_M_lateBy_19 : decode prog_7_method_18_code 19 = .ok (.ireturn, 1) := jx_dec c_M_lateBy_ok 13 rfl
def c_M_planByRule : List (Nat × Instr × Nat) := [(0, .iconst 0, 1), (1, .istore_n 1, 1), (2, .iconst 0, 1), (3, .istore_n 2, 1), (4, .iload_n 2, 1), (5, .aload_n 0, 1), (6, .getfield 94, 3), (9, .if_icmp .ge 89, 3), (12, .iconst (-1), 1), (13, .istore_n 3, 1), (14, .iconst 0, 1), (15, .istore 4, 2), (17, .iload 4, 2), (19, .aload_n 0, 1), (20, .getfield 94, 3), (23, .if_icmp .ge 52, 3), (26, .aload_n 0, 1), (27, .getfield 38, 3), (30, .iload 4, 2), (32, .iaload, 1), (33, .ifCond .ne 36, 3), (36, .iload_n 1, 1), (37, .iload 4, 2), (39, .ishr, 1), (40, .iconst 1, 1), (41, .iand, 1), (42, .ifCond .ne 27, 3), (45, .iload_n 3, 1), (46, .iconst (-1), 1), (47, .if_icmp .eq 19, 3), (50, .aload_n 0, 1), (51, .getfield 47, 3), (54, .iload 4, 2), (56, .iaload, 1), (57, .aload_n 0, 1), (58, .getfield 47, 3), (61, .iload_n 3, 1), (62, .iaload, 1), (63, .if_icmp .ge 6, 3), (66, .iload 4, 2), (68, .istore_n 3, 1), (69, .iinc 4 1, 3), (72, .goto (-55), 3), (75, .iload_n 3, 1), (76, .iconst (-1), 1), (77, .if_icmp .ne 4, 3), (80, .return_, 1), (81, .iload_n 1, 1), (82, .iconst 1, 1), (83, .iload_n 3, 1), (84, .ishl, 1), (85, .ior, 1), (86, .istore_n 1, 1), (87, .aload_n 0, 1), (88, .iload_n 3, 1), (89, .invokevirtual 172, 3), (92, .iinc 2 1, 3), (95, .goto (-91), 3), (98, .return_, 1)]
theorem c_M_planByRule_ok : (c_M_planByRule).all (fun q => decide (decode prog_7_method_33_code q.1 = .ok q.2)) = true := by decide +kernel
theorem d_M_planByRule_0 : decode prog_7_method_33_code 0 = .ok (.iconst 0, 1) := jx_dec c_M_planByRule_ok 0 rfl
theorem d_M_planByRule_1 : decode prog_7_method_33_code 1 = .ok (.istore_n 1, 1) := jx_dec c_M_planByRule_ok 1 rfl
theorem d_M_planByRule_2 : decode prog_7_method_33_code 2 = .ok (.iconst 0, 1) := jx_dec c_M_planByRule_ok 2 rfl
theorem d_M_planByRule_3 : decode prog_7_method_33_code 3 = .ok (.istore_n 2, 1) := jx_dec c_M_planByRule_ok 3 rfl
theorem d_M_planByRule_4 : decode prog_7_method_33_code 4 = .ok (.iload_n 2, 1) := jx_dec c_M_planByRule_ok 4 rfl
theorem d_M_planByRule_5 : decode prog_7_method_33_code 5 = .ok (.aload_n 0, 1) := jx_dec c_M_planByRule_ok 5 rfl
theorem d_M_planByRule_6 : decode prog_7_method_33_code 6 = .ok (.getfield 94, 3) := jx_dec c_M_planByRule_ok 6 rfl
theorem d_M_planByRule_9 : decode prog_7_method_33_code 9 = .ok (.if_icmp .ge 89, 3) := jx_dec c_M_planByRule_ok 7 rfl
theorem d_M_planByRule_12 : decode prog_7_method_33_code 12 = .ok (.iconst (-1), 1) := jx_dec c_M_planByRule_ok 8 rfl
theorem d_M_planByRule_13 : decode prog_7_method_33_code 13 = .ok (.istore_n 3, 1) := jx_dec c_M_planByRule_ok 9 rfl
theorem d_M_planByRule_14 : decode prog_7_method_33_code 14 = .ok (.iconst 0, 1) := jx_dec c_M_planByRule_ok 10 rfl
theorem d_M_planByRule_15 : decode prog_7_method_33_code 15 = .ok (.istore 4, 2) := jx_dec c_M_planByRule_ok 11 rfl
theorem d_M_planByRule_17 : decode prog_7_method_33_code 17 = .ok (.iload 4, 2) := jx_dec c_M_planByRule_ok 12 rfl
theorem d_M_planByRule_19 : decode prog_7_method_33_code 19 = .ok (.aload_n 0, 1) := jx_dec c_M_planByRule_ok 13 rfl
theorem d_M_planByRule_20 : decode prog_7_method_33_code 20 = .ok (.getfield 94, 3) := jx_dec c_M_planByRule_ok 14 rfl
theorem d_M_planByRule_23 : decode prog_7_method_33_code 23 = .ok (.if_icmp .ge 52, 3) := jx_dec c_M_planByRule_ok 15 rfl
theorem d_M_planByRule_26 : decode prog_7_method_33_code 26 = .ok (.aload_n 0, 1) := jx_dec c_M_planByRule_ok 16 rfl
theorem d_M_planByRule_27 : decode prog_7_method_33_code 27 = .ok (.getfield 38, 3) := jx_dec c_M_planByRule_ok 17 rfl
theorem d_M_planByRule_30 : decode prog_7_method_33_code 30 = .ok (.iload 4, 2) := jx_dec c_M_planByRule_ok 18 rfl
theorem d_M_planByRule_32 : decode prog_7_method_33_code 32 = .ok (.iaload, 1) := jx_dec c_M_planByRule_ok 19 rfl
theorem d_M_planByRule_33 : decode prog_7_method_33_code 33 = .ok (.ifCond .ne 36, 3) := jx_dec c_M_planByRule_ok 20 rfl
theorem d_M_planByRule_36 : decode prog_7_method_33_code 36 = .ok (.iload_n 1, 1) := jx_dec c_M_planByRule_ok 21 rfl
theorem d_M_planByRule_37 : decode prog_7_method_33_code 37 = .ok (.iload 4, 2) := jx_dec c_M_planByRule_ok 22 rfl
theorem d_M_planByRule_39 : decode prog_7_method_33_code 39 = .ok (.ishr, 1) := jx_dec c_M_planByRule_ok 23 rfl
theorem d_M_planByRule_40 : decode prog_7_method_33_code 40 = .ok (.iconst 1, 1) := jx_dec c_M_planByRule_ok 24 rfl
theorem d_M_planByRule_41 : decode prog_7_method_33_code 41 = .ok (.iand, 1) := jx_dec c_M_planByRule_ok 25 rfl
theorem d_M_planByRule_42 : decode prog_7_method_33_code 42 = .ok (.ifCond .ne 27, 3) := jx_dec c_M_planByRule_ok 26 rfl
theorem d_M_planByRule_45 : decode prog_7_method_33_code 45 = .ok (.iload_n 3, 1) := jx_dec c_M_planByRule_ok 27 rfl
theorem d_M_planByRule_46 : decode prog_7_method_33_code 46 = .ok (.iconst (-1), 1) := jx_dec c_M_planByRule_ok 28 rfl
theorem d_M_planByRule_47 : decode prog_7_method_33_code 47 = .ok (.if_icmp .eq 19, 3) := jx_dec c_M_planByRule_ok 29 rfl
theorem d_M_planByRule_50 : decode prog_7_method_33_code 50 = .ok (.aload_n 0, 1) := jx_dec c_M_planByRule_ok 30 rfl
theorem d_M_planByRule_51 : decode prog_7_method_33_code 51 = .ok (.getfield 47, 3) := jx_dec c_M_planByRule_ok 31 rfl
theorem d_M_planByRule_54 : decode prog_7_method_33_code 54 = .ok (.iload 4, 2) := jx_dec c_M_planByRule_ok 32 rfl
theorem d_M_planByRule_56 : decode prog_7_method_33_code 56 = .ok (.iaload, 1) := jx_dec c_M_planByRule_ok 33 rfl
theorem d_M_planByRule_57 : decode prog_7_method_33_code 57 = .ok (.aload_n 0, 1) := jx_dec c_M_planByRule_ok 34 rfl
theorem d_M_planByRule_58 : decode prog_7_method_33_code 58 = .ok (.getfield 47, 3) := jx_dec c_M_planByRule_ok 35 rfl
theorem d_M_planByRule_61 : decode prog_7_method_33_code 61 = .ok (.iload_n 3, 1) := jx_dec c_M_planByRule_ok 36 rfl
theorem d_M_planByRule_62 : decode prog_7_method_33_code 62 = .ok (.iaload, 1) := jx_dec c_M_planByRule_ok 37 rfl
theorem d_M_planByRule_63 : decode prog_7_method_33_code 63 = .ok (.if_icmp .ge 6, 3) := jx_dec c_M_planByRule_ok 38 rfl
theorem d_M_planByRule_66 : decode prog_7_method_33_code 66 = .ok (.iload 4, 2) := jx_dec c_M_planByRule_ok 39 rfl
theorem d_M_planByRule_68 : decode prog_7_method_33_code 68 = .ok (.istore_n 3, 1) := jx_dec c_M_planByRule_ok 40 rfl
theorem d_M_planByRule_69 : decode prog_7_method_33_code 69 = .ok (.iinc 4 1, 3) := jx_dec c_M_planByRule_ok 41 rfl
theorem d_M_planByRule_72 : decode prog_7_method_33_code 72 = .ok (.goto (-55), 3) := jx_dec c_M_planByRule_ok 42 rfl
theorem d_M_planByRule_75 : decode prog_7_method_33_code 75 = .ok (.iload_n 3, 1) := jx_dec c_M_planByRule_ok 43 rfl
theorem d_M_planByRule_76 : decode prog_7_method_33_code 76 = .ok (.iconst (-1), 1) := jx_dec c_M_planByRule_ok 44 rfl
theorem d_M_planByRule_77 : decode prog_7_method_33_code 77 = .ok (.if_icmp .ne 4, 3) := jx_dec c_M_planByRule_ok 45 rfl
theorem d_M_planByRule_80 : decode prog_7_method_33_code 80 = .ok (.return_, 1) := jx_dec c_M_planByRule_ok 46 rfl
theorem d_M_planByRule_81 : decode prog_7_method_33_code 81 = .ok (.iload_n 1, 1) := jx_dec c_M_planByRule_ok 47 rfl
theorem d_M_planByRule_82 : decode prog_7_method_33_code 82 = .ok (.iconst 1, 1) := jx_dec c_M_planByRule_ok 48 rfl
theorem d_M_planByRule_83 : decode prog_7_method_33_code 83 = .ok (.iload_n 3, 1) := jx_dec c_M_planByRule_ok 49 rfl
theorem d_M_planByRule_84 : decode prog_7_method_33_code 84 = .ok (.ishl, 1) := jx_dec c_M_planByRule_ok 50 rfl
theorem d_M_planByRule_85 : decode prog_7_method_33_code 85 = .ok (.ior, 1) := jx_dec c_M_planByRule_ok 51 rfl
theorem d_M_planByRule_86 : decode prog_7_method_33_code 86 = .ok (.istore_n 1, 1) := jx_dec c_M_planByRule_ok 52 rfl
theorem d_M_planByRule_87 : decode prog_7_method_33_code 87 = .ok (.aload_n 0, 1) := jx_dec c_M_planByRule_ok 53 rfl
theorem d_M_planByRule_88 : decode prog_7_method_33_code 88 = .ok (.iload_n 3, 1) := jx_dec c_M_planByRule_ok 54 rfl
theorem d_M_planByRule_89 : decode prog_7_method_33_code 89 = .ok (.invokevirtual 172, 3) := jx_dec c_M_planByRule_ok 55 rfl
theorem d_M_planByRule_92 : decode prog_7_method_33_code 92 = .ok (.iinc 2 1, 3) := jx_dec c_M_planByRule_ok 56 rfl
theorem d_M_planByRule_95 : decode prog_7_method_33_code 95 = .ok (.goto (-91), 3) := jx_dec c_M_planByRule_ok 57 rfl
theorem d_M_planByRule_98 : decode prog_7_method_33_code 98 = .ok (.return_, 1) := jx_dec c_M_planByRule_ok 58 rfl
def c_M_planOne : List (Nat × Instr × Nat) := [(0, .iconst (-1), 1), (1, .istore_n 2, 1), (2, .iconst (-1), 1), (3, .istore_n 3, 1), (4, .iconst 0, 1), (5, .istore 4, 2), (7, .iload 4, 2), (9, .aload_n 0, 1), (10, .getfield 87, 3), (13, .if_icmp .ge 75, 3), (16, .aload_n 0, 1), (17, .iload 4, 2), (19, .iload_n 1, 1), (20, .invokevirtual 144, 3), (23, .ifCond .eq 13, 3), (26, .aload_n 0, 1), (27, .iload 4, 2), (29, .iload_n 1, 1), (30, .invokevirtual 166, 3), (33, .goto 4, 3), (36, .iconst (-1), 1), (37, .istore 5, 2), (39, .iload 5, 2), (41, .iconst (-1), 1), (42, .if_icmp .eq 40, 3), (45, .iload_n 2, 1), (46, .iconst (-1), 1), (47, .if_icmp .eq 29, 3), (50, .iload 5, 2), (52, .iload_n 3, 1), (53, .if_icmp .lt 23, 3), (56, .iload 5, 2), (58, .iload_n 3, 1), (59, .if_icmp .ne 23, 3), (62, .aload_n 0, 1), (63, .iload 4, 2), (65, .invokevirtual 169, 3), (68, .aload_n 0, 1), (69, .iload_n 2, 1), (70, .invokevirtual 169, 3), (73, .if_icmp .ge 9, 3), (76, .iload 4, 2), (78, .istore_n 2, 1), (79, .iload 5, 2), (81, .istore_n 3, 1), (82, .iinc 4 1, 3), (85, .goto (-78), 3), (88, .aload_n 0, 1), (89, .getfield 56, 3), (92, .iload_n 1, 1), (93, .iload_n 2, 1), (94, .iastore, 1), (95, .aload_n 0, 1), (96, .getfield 59, 3), (99, .iload_n 1, 1), (100, .iload_n 3, 1), (101, .iastore, 1), (102, .return_, 1)]
theorem c_M_planOne_ok : (c_M_planOne).all (fun q => decide (decode prog_7_method_32_code q.1 = .ok q.2)) = true := by decide +kernel
theorem d_M_planOne_0 : decode prog_7_method_32_code 0 = .ok (.iconst (-1), 1) := jx_dec c_M_planOne_ok 0 rfl
theorem d_M_planOne_1 : decode prog_7_method_32_code 1 = .ok (.istore_n 2, 1) := jx_dec c_M_planOne_ok 1 rfl
theorem d_M_planOne_2 : decode prog_7_method_32_code 2 = .ok (.iconst (-1), 1) := jx_dec c_M_planOne_ok 2 rfl
theorem d_M_planOne_3 : decode prog_7_method_32_code 3 = .ok (.istore_n 3, 1) := jx_dec c_M_planOne_ok 3 rfl
theorem d_M_planOne_4 : decode prog_7_method_32_code 4 = .ok (.iconst 0, 1) := jx_dec c_M_planOne_ok 4 rfl
theorem d_M_planOne_5 : decode prog_7_method_32_code 5 = .ok (.istore 4, 2) := jx_dec c_M_planOne_ok 5 rfl
theorem d_M_planOne_7 : decode prog_7_method_32_code 7 = .ok (.iload 4, 2) := jx_dec c_M_planOne_ok 6 rfl
theorem d_M_planOne_9 : decode prog_7_method_32_code 9 = .ok (.aload_n 0, 1) := jx_dec c_M_planOne_ok 7 rfl
theorem d_M_planOne_10 : decode prog_7_method_32_code 10 = .ok (.getfield 87, 3) := jx_dec c_M_planOne_ok 8 rfl
theorem d_M_planOne_13 : decode prog_7_method_32_code 13 = .ok (.if_icmp .ge 75, 3) := jx_dec c_M_planOne_ok 9 rfl
theorem d_M_planOne_16 : decode prog_7_method_32_code 16 = .ok (.aload_n 0, 1) := jx_dec c_M_planOne_ok 10 rfl
theorem d_M_planOne_17 : decode prog_7_method_32_code 17 = .ok (.iload 4, 2) := jx_dec c_M_planOne_ok 11 rfl
theorem d_M_planOne_19 : decode prog_7_method_32_code 19 = .ok (.iload_n 1, 1) := jx_dec c_M_planOne_ok 12 rfl
theorem d_M_planOne_20 : decode prog_7_method_32_code 20 = .ok (.invokevirtual 144, 3) := jx_dec c_M_planOne_ok 13 rfl
theorem d_M_planOne_23 : decode prog_7_method_32_code 23 = .ok (.ifCond .eq 13, 3) := jx_dec c_M_planOne_ok 14 rfl
theorem d_M_planOne_26 : decode prog_7_method_32_code 26 = .ok (.aload_n 0, 1) := jx_dec c_M_planOne_ok 15 rfl
theorem d_M_planOne_27 : decode prog_7_method_32_code 27 = .ok (.iload 4, 2) := jx_dec c_M_planOne_ok 16 rfl
theorem d_M_planOne_29 : decode prog_7_method_32_code 29 = .ok (.iload_n 1, 1) := jx_dec c_M_planOne_ok 17 rfl
theorem d_M_planOne_30 : decode prog_7_method_32_code 30 = .ok (.invokevirtual 166, 3) := jx_dec c_M_planOne_ok 18 rfl
theorem d_M_planOne_33 : decode prog_7_method_32_code 33 = .ok (.goto 4, 3) := jx_dec c_M_planOne_ok 19 rfl
theorem d_M_planOne_36 : decode prog_7_method_32_code 36 = .ok (.iconst (-1), 1) := jx_dec c_M_planOne_ok 20 rfl
theorem d_M_planOne_37 : decode prog_7_method_32_code 37 = .ok (.istore 5, 2) := jx_dec c_M_planOne_ok 21 rfl
theorem d_M_planOne_39 : decode prog_7_method_32_code 39 = .ok (.iload 5, 2) := jx_dec c_M_planOne_ok 22 rfl
theorem d_M_planOne_41 : decode prog_7_method_32_code 41 = .ok (.iconst (-1), 1) := jx_dec c_M_planOne_ok 23 rfl
theorem d_M_planOne_42 : decode prog_7_method_32_code 42 = .ok (.if_icmp .eq 40, 3) := jx_dec c_M_planOne_ok 24 rfl
theorem d_M_planOne_45 : decode prog_7_method_32_code 45 = .ok (.iload_n 2, 1) := jx_dec c_M_planOne_ok 25 rfl
theorem d_M_planOne_46 : decode prog_7_method_32_code 46 = .ok (.iconst (-1), 1) := jx_dec c_M_planOne_ok 26 rfl
theorem d_M_planOne_47 : decode prog_7_method_32_code 47 = .ok (.if_icmp .eq 29, 3) := jx_dec c_M_planOne_ok 27 rfl
theorem d_M_planOne_50 : decode prog_7_method_32_code 50 = .ok (.iload 5, 2) := jx_dec c_M_planOne_ok 28 rfl
theorem d_M_planOne_52 : decode prog_7_method_32_code 52 = .ok (.iload_n 3, 1) := jx_dec c_M_planOne_ok 29 rfl
theorem d_M_planOne_53 : decode prog_7_method_32_code 53 = .ok (.if_icmp .lt 23, 3) := jx_dec c_M_planOne_ok 30 rfl
theorem d_M_planOne_56 : decode prog_7_method_32_code 56 = .ok (.iload 5, 2) := jx_dec c_M_planOne_ok 31 rfl
theorem d_M_planOne_58 : decode prog_7_method_32_code 58 = .ok (.iload_n 3, 1) := jx_dec c_M_planOne_ok 32 rfl
theorem d_M_planOne_59 : decode prog_7_method_32_code 59 = .ok (.if_icmp .ne 23, 3) := jx_dec c_M_planOne_ok 33 rfl
theorem d_M_planOne_62 : decode prog_7_method_32_code 62 = .ok (.aload_n 0, 1) := jx_dec c_M_planOne_ok 34 rfl
theorem d_M_planOne_63 : decode prog_7_method_32_code 63 = .ok (.iload 4, 2) := jx_dec c_M_planOne_ok 35 rfl
theorem d_M_planOne_65 : decode prog_7_method_32_code 65 = .ok (.invokevirtual 169, 3) := jx_dec c_M_planOne_ok 36 rfl
theorem d_M_planOne_68 : decode prog_7_method_32_code 68 = .ok (.aload_n 0, 1) := jx_dec c_M_planOne_ok 37 rfl
theorem d_M_planOne_69 : decode prog_7_method_32_code 69 = .ok (.iload_n 2, 1) := jx_dec c_M_planOne_ok 38 rfl
theorem d_M_planOne_70 : decode prog_7_method_32_code 70 = .ok (.invokevirtual 169, 3) := jx_dec c_M_planOne_ok 39 rfl
theorem d_M_planOne_73 : decode prog_7_method_32_code 73 = .ok (.if_icmp .ge 9, 3) := jx_dec c_M_planOne_ok 40 rfl
theorem d_M_planOne_76 : decode prog_7_method_32_code 76 = .ok (.iload 4, 2) := jx_dec c_M_planOne_ok 41 rfl
theorem d_M_planOne_78 : decode prog_7_method_32_code 78 = .ok (.istore_n 2, 1) := jx_dec c_M_planOne_ok 42 rfl
theorem d_M_planOne_79 : decode prog_7_method_32_code 79 = .ok (.iload 5, 2) := jx_dec c_M_planOne_ok 43 rfl
theorem d_M_planOne_81 : decode prog_7_method_32_code 81 = .ok (.istore_n 3, 1) := jx_dec c_M_planOne_ok 44 rfl
theorem d_M_planOne_82 : decode prog_7_method_32_code 82 = .ok (.iinc 4 1, 3) := jx_dec c_M_planOne_ok 45 rfl
theorem d_M_planOne_85 : decode prog_7_method_32_code 85 = .ok (.goto (-78), 3) := jx_dec c_M_planOne_ok 46 rfl
theorem d_M_planOne_88 : decode prog_7_method_32_code 88 = .ok (.aload_n 0, 1) := jx_dec c_M_planOne_ok 47 rfl
theorem d_M_planOne_89 : decode prog_7_method_32_code 89 = .ok (.getfield 56, 3) := jx_dec c_M_planOne_ok 48 rfl
theorem d_M_planOne_92 : decode prog_7_method_32_code 92 = .ok (.iload_n 1, 1) := jx_dec c_M_planOne_ok 49 rfl
theorem d_M_planOne_93 : decode prog_7_method_32_code 93 = .ok (.iload_n 2, 1) := jx_dec c_M_planOne_ok 50 rfl
theorem d_M_planOne_94 : decode prog_7_method_32_code 94 = .ok (.iastore, 1) := jx_dec c_M_planOne_ok 51 rfl
theorem d_M_planOne_95 : decode prog_7_method_32_code 95 = .ok (.aload_n 0, 1) := jx_dec c_M_planOne_ok 52 rfl
theorem d_M_planOne_96 : decode prog_7_method_32_code 96 = .ok (.getfield 59, 3) := jx_dec c_M_planOne_ok 53 rfl
theorem d_M_planOne_99 : decode prog_7_method_32_code 99 = .ok (.iload_n 1, 1) := jx_dec c_M_planOne_ok 54 rfl
theorem d_M_planOne_100 : decode prog_7_method_32_code 100 = .ok (.iload_n 3, 1) := jx_dec c_M_planOne_ok 55 rfl
theorem d_M_planOne_101 : decode prog_7_method_32_code 101 = .ok (.iastore, 1) := jx_dec c_M_planOne_ok 56 rfl
theorem d_M_planOne_102 : decode prog_7_method_32_code 102 = .ok (.return_, 1) := jx_dec c_M_planOne_ok 57 rfl
def c_M_may : List (Nat × Instr × Nat) := [(0, .aload_n 0, 1), (1, .getfield 28, 3), (4, .iload_n 1, 1), (5, .baload, 1), (6, .ifCond .eq 35, 3), (9, .aload_n 0, 1), (10, .getfield 7, 3), (13, .iload_n 1, 1), (14, .iaload, 1), (15, .aload_n 0, 1), (16, .getfield 41, 3), (19, .iload_n 2, 1), (20, .iaload, 1), (21, .ishr, 1), (22, .iconst 1, 1), (23, .iand, 1), (24, .iconst 1, 1), (25, .if_icmp .ne 16, 3), (28, .aload_n 0, 1), (29, .iload_n 1, 1), (30, .iload_n 2, 1), (31, .invokevirtual 109, 3), (34, .ifCond .ne 7, 3), (37, .iconst 1, 1), (38, .goto 4, 3), (41, .iconst 0, 1), (42, .ireturn, 1)]
theorem c_M_may_ok : (c_M_may).all (fun q => decide (decode prog_7_method_19_code q.1 = .ok q.2)) = true := by decide +kernel
theorem d_M_may_0 : decode prog_7_method_19_code 0 = .ok (.aload_n 0, 1) := jx_dec c_M_may_ok 0 rfl
theorem d_M_may_1 : decode prog_7_method_19_code 1 = .ok (.getfield 28, 3) := jx_dec c_M_may_ok 1 rfl
theorem d_M_may_4 : decode prog_7_method_19_code 4 = .ok (.iload_n 1, 1) := jx_dec c_M_may_ok 2 rfl
theorem d_M_may_5 : decode prog_7_method_19_code 5 = .ok (.baload, 1) := jx_dec c_M_may_ok 3 rfl
theorem d_M_may_6 : decode prog_7_method_19_code 6 = .ok (.ifCond .eq 35, 3) := jx_dec c_M_may_ok 4 rfl
theorem d_M_may_9 : decode prog_7_method_19_code 9 = .ok (.aload_n 0, 1) := jx_dec c_M_may_ok 5 rfl
theorem d_M_may_10 : decode prog_7_method_19_code 10 = .ok (.getfield 7, 3) := jx_dec c_M_may_ok 6 rfl
theorem d_M_may_13 : decode prog_7_method_19_code 13 = .ok (.iload_n 1, 1) := jx_dec c_M_may_ok 7 rfl
theorem d_M_may_14 : decode prog_7_method_19_code 14 = .ok (.iaload, 1) := jx_dec c_M_may_ok 8 rfl
theorem d_M_may_15 : decode prog_7_method_19_code 15 = .ok (.aload_n 0, 1) := jx_dec c_M_may_ok 9 rfl
theorem d_M_may_16 : decode prog_7_method_19_code 16 = .ok (.getfield 41, 3) := jx_dec c_M_may_ok 10 rfl
theorem d_M_may_19 : decode prog_7_method_19_code 19 = .ok (.iload_n 2, 1) := jx_dec c_M_may_ok 11 rfl
theorem d_M_may_20 : decode prog_7_method_19_code 20 = .ok (.iaload, 1) := jx_dec c_M_may_ok 12 rfl
theorem d_M_may_21 : decode prog_7_method_19_code 21 = .ok (.ishr, 1) := jx_dec c_M_may_ok 13 rfl
theorem d_M_may_22 : decode prog_7_method_19_code 22 = .ok (.iconst 1, 1) := jx_dec c_M_may_ok 14 rfl
theorem d_M_may_23 : decode prog_7_method_19_code 23 = .ok (.iand, 1) := jx_dec c_M_may_ok 15 rfl
theorem d_M_may_24 : decode prog_7_method_19_code 24 = .ok (.iconst 1, 1) := jx_dec c_M_may_ok 16 rfl
theorem d_M_may_25 : decode prog_7_method_19_code 25 = .ok (.if_icmp .ne 16, 3) := jx_dec c_M_may_ok 17 rfl
theorem d_M_may_28 : decode prog_7_method_19_code 28 = .ok (.aload_n 0, 1) := jx_dec c_M_may_ok 18 rfl
theorem d_M_may_29 : decode prog_7_method_19_code 29 = .ok (.iload_n 1, 1) := jx_dec c_M_may_ok 19 rfl
theorem d_M_may_30 : decode prog_7_method_19_code 30 = .ok (.iload_n 2, 1) := jx_dec c_M_may_ok 20 rfl
theorem d_M_may_31 : decode prog_7_method_19_code 31 = .ok (.invokevirtual 109, 3) := jx_dec c_M_may_ok 21 rfl
theorem d_M_may_34 : decode prog_7_method_19_code 34 = .ok (.ifCond .ne 7, 3) := jx_dec c_M_may_ok 22 rfl
theorem d_M_may_37 : decode prog_7_method_19_code 37 = .ok (.iconst 1, 1) := jx_dec c_M_may_ok 23 rfl
theorem d_M_may_38 : decode prog_7_method_19_code 38 = .ok (.goto 4, 3) := jx_dec c_M_may_ok 24 rfl
theorem d_M_may_41 : decode prog_7_method_19_code 41 = .ok (.iconst 0, 1) := jx_dec c_M_may_ok 25 rfl
theorem d_M_may_42 : decode prog_7_method_19_code 42 = .ok (.ireturn, 1) := jx_dec c_M_may_ok 26 rfl
def c_M_behind : List (Nat × Instr × Nat) := [(0, .iconst (-1), 1), (1, .istore_n 3, 1), (2, .iconst 0, 1), (3, .istore 4, 2), (5, .iload 4, 2), (7, .aload_n 0, 1), (8, .getfield 94, 3), (11, .if_icmp .ge 54, 3), (14, .aload_n 0, 1), (15, .getfield 38, 3), (18, .iload 4, 2), (20, .iaload, 1), (21, .ifCond .ne 38, 3), (24, .aload_n 0, 1), (25, .getfield 56, 3), (28, .iload 4, 2), (30, .iaload, 1), (31, .iload_n 1, 1), (32, .if_icmp .ne 27, 3), (35, .iload_n 3, 1), (36, .iconst (-1), 1), (37, .if_icmp .eq 19, 3), (40, .aload_n 0, 1), (41, .getfield 59, 3), (44, .iload 4, 2), (46, .iaload, 1), (47, .aload_n 0, 1), (48, .getfield 59, 3), (51, .iload_n 3, 1), (52, .iaload, 1), (53, .if_icmp .le 6, 3), (56, .iload 4, 2), (58, .istore_n 3, 1), (59, .iinc 4 1, 3), (62, .goto (-57), 3), (65, .iload_n 3, 1), (66, .iconst (-1), 1), (67, .if_icmp .ne 12, 3), (70, .aload_n 0, 1), (71, .iload_n 1, 1), (72, .iload_n 2, 1), (73, .invokevirtual 131, 3), (76, .goto 28, 3), (79, .aload_n 0, 1), (80, .iload_n 1, 1), (81, .iload_n 2, 1), (82, .aload_n 0, 1), (83, .getfield 59, 3), (86, .iload_n 3, 1), (87, .iaload, 1), (88, .aload_n 0, 1), (89, .getfield 44, 3), (92, .iload_n 3, 1), (93, .iaload, 1), (94, .iadd, 1), (95, .aload_n 0, 1), (96, .getfield 50, 3), (99, .iload_n 3, 1), (100, .iaload, 1), (101, .invokevirtual 127, 3), (104, .ireturn, 1)]
theorem c_M_behind_ok : (c_M_behind).all (fun q => decide (decode prog_7_method_31_code q.1 = .ok q.2)) = true := by decide +kernel
theorem d_M_behind_0 : decode prog_7_method_31_code 0 = .ok (.iconst (-1), 1) := jx_dec c_M_behind_ok 0 rfl
theorem d_M_behind_1 : decode prog_7_method_31_code 1 = .ok (.istore_n 3, 1) := jx_dec c_M_behind_ok 1 rfl
theorem d_M_behind_2 : decode prog_7_method_31_code 2 = .ok (.iconst 0, 1) := jx_dec c_M_behind_ok 2 rfl
theorem d_M_behind_3 : decode prog_7_method_31_code 3 = .ok (.istore 4, 2) := jx_dec c_M_behind_ok 3 rfl
theorem d_M_behind_5 : decode prog_7_method_31_code 5 = .ok (.iload 4, 2) := jx_dec c_M_behind_ok 4 rfl
theorem d_M_behind_7 : decode prog_7_method_31_code 7 = .ok (.aload_n 0, 1) := jx_dec c_M_behind_ok 5 rfl
theorem d_M_behind_8 : decode prog_7_method_31_code 8 = .ok (.getfield 94, 3) := jx_dec c_M_behind_ok 6 rfl
theorem d_M_behind_11 : decode prog_7_method_31_code 11 = .ok (.if_icmp .ge 54, 3) := jx_dec c_M_behind_ok 7 rfl
theorem d_M_behind_14 : decode prog_7_method_31_code 14 = .ok (.aload_n 0, 1) := jx_dec c_M_behind_ok 8 rfl
theorem d_M_behind_15 : decode prog_7_method_31_code 15 = .ok (.getfield 38, 3) := jx_dec c_M_behind_ok 9 rfl
theorem d_M_behind_18 : decode prog_7_method_31_code 18 = .ok (.iload 4, 2) := jx_dec c_M_behind_ok 10 rfl
theorem d_M_behind_20 : decode prog_7_method_31_code 20 = .ok (.iaload, 1) := jx_dec c_M_behind_ok 11 rfl
theorem d_M_behind_21 : decode prog_7_method_31_code 21 = .ok (.ifCond .ne 38, 3) := jx_dec c_M_behind_ok 12 rfl
theorem d_M_behind_24 : decode prog_7_method_31_code 24 = .ok (.aload_n 0, 1) := jx_dec c_M_behind_ok 13 rfl
theorem d_M_behind_25 : decode prog_7_method_31_code 25 = .ok (.getfield 56, 3) := jx_dec c_M_behind_ok 14 rfl
theorem d_M_behind_28 : decode prog_7_method_31_code 28 = .ok (.iload 4, 2) := jx_dec c_M_behind_ok 15 rfl
theorem d_M_behind_30 : decode prog_7_method_31_code 30 = .ok (.iaload, 1) := jx_dec c_M_behind_ok 16 rfl
theorem d_M_behind_31 : decode prog_7_method_31_code 31 = .ok (.iload_n 1, 1) := jx_dec c_M_behind_ok 17 rfl
theorem d_M_behind_32 : decode prog_7_method_31_code 32 = .ok (.if_icmp .ne 27, 3) := jx_dec c_M_behind_ok 18 rfl
theorem d_M_behind_35 : decode prog_7_method_31_code 35 = .ok (.iload_n 3, 1) := jx_dec c_M_behind_ok 19 rfl
theorem d_M_behind_36 : decode prog_7_method_31_code 36 = .ok (.iconst (-1), 1) := jx_dec c_M_behind_ok 20 rfl
theorem d_M_behind_37 : decode prog_7_method_31_code 37 = .ok (.if_icmp .eq 19, 3) := jx_dec c_M_behind_ok 21 rfl
theorem d_M_behind_40 : decode prog_7_method_31_code 40 = .ok (.aload_n 0, 1) := jx_dec c_M_behind_ok 22 rfl
theorem d_M_behind_41 : decode prog_7_method_31_code 41 = .ok (.getfield 59, 3) := jx_dec c_M_behind_ok 23 rfl
theorem d_M_behind_44 : decode prog_7_method_31_code 44 = .ok (.iload 4, 2) := jx_dec c_M_behind_ok 24 rfl
theorem d_M_behind_46 : decode prog_7_method_31_code 46 = .ok (.iaload, 1) := jx_dec c_M_behind_ok 25 rfl
theorem d_M_behind_47 : decode prog_7_method_31_code 47 = .ok (.aload_n 0, 1) := jx_dec c_M_behind_ok 26 rfl
theorem d_M_behind_48 : decode prog_7_method_31_code 48 = .ok (.getfield 59, 3) := jx_dec c_M_behind_ok 27 rfl
theorem d_M_behind_51 : decode prog_7_method_31_code 51 = .ok (.iload_n 3, 1) := jx_dec c_M_behind_ok 28 rfl
theorem d_M_behind_52 : decode prog_7_method_31_code 52 = .ok (.iaload, 1) := jx_dec c_M_behind_ok 29 rfl
theorem d_M_behind_53 : decode prog_7_method_31_code 53 = .ok (.if_icmp .le 6, 3) := jx_dec c_M_behind_ok 30 rfl
theorem d_M_behind_56 : decode prog_7_method_31_code 56 = .ok (.iload 4, 2) := jx_dec c_M_behind_ok 31 rfl
theorem d_M_behind_58 : decode prog_7_method_31_code 58 = .ok (.istore_n 3, 1) := jx_dec c_M_behind_ok 32 rfl
theorem d_M_behind_59 : decode prog_7_method_31_code 59 = .ok (.iinc 4 1, 3) := jx_dec c_M_behind_ok 33 rfl
theorem d_M_behind_62 : decode prog_7_method_31_code 62 = .ok (.goto (-57), 3) := jx_dec c_M_behind_ok 34 rfl
theorem d_M_behind_65 : decode prog_7_method_31_code 65 = .ok (.iload_n 3, 1) := jx_dec c_M_behind_ok 35 rfl
theorem d_M_behind_66 : decode prog_7_method_31_code 66 = .ok (.iconst (-1), 1) := jx_dec c_M_behind_ok 36 rfl
theorem d_M_behind_67 : decode prog_7_method_31_code 67 = .ok (.if_icmp .ne 12, 3) := jx_dec c_M_behind_ok 37 rfl
theorem d_M_behind_70 : decode prog_7_method_31_code 70 = .ok (.aload_n 0, 1) := jx_dec c_M_behind_ok 38 rfl
theorem d_M_behind_71 : decode prog_7_method_31_code 71 = .ok (.iload_n 1, 1) := jx_dec c_M_behind_ok 39 rfl
theorem d_M_behind_72 : decode prog_7_method_31_code 72 = .ok (.iload_n 2, 1) := jx_dec c_M_behind_ok 40 rfl
theorem d_M_behind_73 : decode prog_7_method_31_code 73 = .ok (.invokevirtual 131, 3) := jx_dec c_M_behind_ok 41 rfl
theorem d_M_behind_76 : decode prog_7_method_31_code 76 = .ok (.goto 28, 3) := jx_dec c_M_behind_ok 42 rfl
theorem d_M_behind_79 : decode prog_7_method_31_code 79 = .ok (.aload_n 0, 1) := jx_dec c_M_behind_ok 43 rfl
theorem d_M_behind_80 : decode prog_7_method_31_code 80 = .ok (.iload_n 1, 1) := jx_dec c_M_behind_ok 44 rfl
theorem d_M_behind_81 : decode prog_7_method_31_code 81 = .ok (.iload_n 2, 1) := jx_dec c_M_behind_ok 45 rfl
theorem d_M_behind_82 : decode prog_7_method_31_code 82 = .ok (.aload_n 0, 1) := jx_dec c_M_behind_ok 46 rfl
theorem d_M_behind_83 : decode prog_7_method_31_code 83 = .ok (.getfield 59, 3) := jx_dec c_M_behind_ok 47 rfl
theorem d_M_behind_86 : decode prog_7_method_31_code 86 = .ok (.iload_n 3, 1) := jx_dec c_M_behind_ok 48 rfl
theorem d_M_behind_87 : decode prog_7_method_31_code 87 = .ok (.iaload, 1) := jx_dec c_M_behind_ok 49 rfl
theorem d_M_behind_88 : decode prog_7_method_31_code 88 = .ok (.aload_n 0, 1) := jx_dec c_M_behind_ok 50 rfl
theorem d_M_behind_89 : decode prog_7_method_31_code 89 = .ok (.getfield 44, 3) := jx_dec c_M_behind_ok 51 rfl
theorem d_M_behind_92 : decode prog_7_method_31_code 92 = .ok (.iload_n 3, 1) := jx_dec c_M_behind_ok 52 rfl
theorem d_M_behind_93 : decode prog_7_method_31_code 93 = .ok (.iaload, 1) := jx_dec c_M_behind_ok 53 rfl
theorem d_M_behind_94 : decode prog_7_method_31_code 94 = .ok (.iadd, 1) := jx_dec c_M_behind_ok 54 rfl
theorem d_M_behind_95 : decode prog_7_method_31_code 95 = .ok (.aload_n 0, 1) := jx_dec c_M_behind_ok 55 rfl
theorem d_M_behind_96 : decode prog_7_method_31_code 96 = .ok (.getfield 50, 3) := jx_dec c_M_behind_ok 56 rfl
theorem d_M_behind_99 : decode prog_7_method_31_code 99 = .ok (.iload_n 3, 1) := jx_dec c_M_behind_ok 57 rfl
theorem d_M_behind_100 : decode prog_7_method_31_code 100 = .ok (.iaload, 1) := jx_dec c_M_behind_ok 58 rfl
theorem d_M_behind_101 : decode prog_7_method_31_code 101 = .ok (.invokevirtual 127, 3) := jx_dec c_M_behind_ok 59 rfl
theorem d_M_behind_104 : decode prog_7_method_31_code 104 = .ok (.ireturn, 1) := jx_dec c_M_behind_ok 60 rfl
def c_M_load : List (Nat × Instr × Nat) := [(0, .iconst 0, 1), (1, .istore_n 2, 1), (2, .iconst 0, 1), (3, .istore_n 3, 1), (4, .iload_n 3, 1), (5, .aload_n 0, 1), (6, .getfield 94, 3), (9, .if_icmp .ge 22, 3), (12, .aload_n 0, 1), (13, .getfield 56, 3), (16, .iload_n 3, 1), (17, .iaload, 1), (18, .iload_n 1, 1), (19, .if_icmp .ne 6, 3), (22, .iinc 2 1, 3), (25, .iinc 3 1, 3), (28, .goto (-24), 3), (31, .iload_n 2, 1), (32, .ireturn, 1)]
theorem c_M_load_ok : (c_M_load).all (fun q => decide (decode prog_7_method_30_code q.1 = .ok q.2)) = true := by decide +kernel
theorem d_M_load_0 : decode prog_7_method_30_code 0 = .ok (.iconst 0, 1) := jx_dec c_M_load_ok 0 rfl
theorem d_M_load_1 : decode prog_7_method_30_code 1 = .ok (.istore_n 2, 1) := jx_dec c_M_load_ok 1 rfl
theorem d_M_load_2 : decode prog_7_method_30_code 2 = .ok (.iconst 0, 1) := jx_dec c_M_load_ok 2 rfl
theorem d_M_load_3 : decode prog_7_method_30_code 3 = .ok (.istore_n 3, 1) := jx_dec c_M_load_ok 3 rfl
theorem d_M_load_4 : decode prog_7_method_30_code 4 = .ok (.iload_n 3, 1) := jx_dec c_M_load_ok 4 rfl
theorem d_M_load_5 : decode prog_7_method_30_code 5 = .ok (.aload_n 0, 1) := jx_dec c_M_load_ok 5 rfl
theorem d_M_load_6 : decode prog_7_method_30_code 6 = .ok (.getfield 94, 3) := jx_dec c_M_load_ok 6 rfl
theorem d_M_load_9 : decode prog_7_method_30_code 9 = .ok (.if_icmp .ge 22, 3) := jx_dec c_M_load_ok 7 rfl
theorem d_M_load_12 : decode prog_7_method_30_code 12 = .ok (.aload_n 0, 1) := jx_dec c_M_load_ok 8 rfl
theorem d_M_load_13 : decode prog_7_method_30_code 13 = .ok (.getfield 56, 3) := jx_dec c_M_load_ok 9 rfl
theorem d_M_load_16 : decode prog_7_method_30_code 16 = .ok (.iload_n 3, 1) := jx_dec c_M_load_ok 10 rfl
theorem d_M_load_17 : decode prog_7_method_30_code 17 = .ok (.iaload, 1) := jx_dec c_M_load_ok 11 rfl
theorem d_M_load_18 : decode prog_7_method_30_code 18 = .ok (.iload_n 1, 1) := jx_dec c_M_load_ok 12 rfl
theorem d_M_load_19 : decode prog_7_method_30_code 19 = .ok (.if_icmp .ne 6, 3) := jx_dec c_M_load_ok 13 rfl
theorem d_M_load_22 : decode prog_7_method_30_code 22 = .ok (.iinc 2 1, 3) := jx_dec c_M_load_ok 14 rfl
theorem d_M_load_25 : decode prog_7_method_30_code 25 = .ok (.iinc 3 1, 3) := jx_dec c_M_load_ok 15 rfl
theorem d_M_load_28 : decode prog_7_method_30_code 28 = .ok (.goto (-24), 3) := jx_dec c_M_load_ok 16 rfl
theorem d_M_load_31 : decode prog_7_method_30_code 31 = .ok (.iload_n 2, 1) := jx_dec c_M_load_ok 17 rfl
theorem d_M_load_32 : decode prog_7_method_30_code 32 = .ok (.ireturn, 1) := jx_dec c_M_load_ok 18 rfl
def c_M_planExactly : List (Nat × Instr × Nat) := [(0, .iconst 0, 1), (1, .istore_n 1, 1), (2, .iload_n 1, 1), (3, .aload_n 0, 1), (4, .getfield 87, 3), (7, .if_icmp .ge 33, 3), (10, .iconst 0, 1), (11, .istore_n 2, 1), (12, .iload_n 2, 1), (13, .iconst 1, 1), (14, .aload_n 0, 1), (15, .getfield 141, 3), (18, .ishl, 1), (19, .if_icmp .ge 15, 3), (22, .aload_n 0, 1), (23, .iload_n 1, 1), (24, .iload_n 2, 1), (25, .invokevirtual 159, 3), (28, .iinc 2 1, 3), (31, .goto (-19), 3), (34, .iinc 1 1, 3), (37, .goto (-35), 3), (40, .iconst 1, 1), (41, .istore_n 1, 1), (42, .iconst 0, 1), (43, .istore_n 2, 1), (44, .iload_n 2, 1), (45, .aload_n 0, 1), (46, .getfield 141, 3), (49, .if_icmp .ge 18, 3), (52, .iload_n 1, 1), (53, .aload_n 0, 1), (54, .getfield 87, 3), (57, .iconst 1, 1), (58, .iadd, 1), (59, .imul, 1), (60, .istore_n 1, 1), (61, .iinc 2 1, 3), (64, .goto (-20), 3), (67, .iconst (-1), 1), (68, .istore_n 2, 1), (69, .iconst 0, 1), (70, .istore_n 3, 1), (71, .iload_n 3, 1), (72, .iload_n 1, 1), (73, .if_icmp .ge 116, 3), (76, .iload_n 3, 1), (77, .istore 4, 2), (79, .aload_n 0, 1), (80, .getfield 141, 3), (83, .iconst 1, 1), (84, .isub, 1), (85, .istore 5, 2), (87, .iload 5, 2), (89, .ifCond .lt 36, 3), (92, .aload_n 0, 1), (93, .getfield 77, 3), (96, .iload 5, 2), (98, .iload 4, 2), (100, .aload_n 0, 1), (101, .getfield 87, 3), (104, .iconst 1, 1), (105, .iadd, 1), (106, .irem, 1), (107, .iastore, 1), (108, .iload 4, 2), (110, .aload_n 0, 1), (111, .getfield 87, 3), (114, .iconst 1, 1), (115, .iadd, 1), (116, .idiv, 1), (117, .istore 4, 2), (119, .iinc 5 (-1), 3), (122, .goto (-35), 3), (125, .aload_n 0, 1), (126, .invokevirtual 162, 3), (129, .istore 5, 2), (131, .iload 5, 2), (133, .iconst (-1), 1), (134, .if_icmp .eq 49, 3), (137, .iload_n 2, 1), (138, .iconst (-1), 1), (139, .if_icmp .eq 9, 3), (142, .iload 5, 2), (144, .iload_n 2, 1), (145, .if_icmp .ge 38, 3), (148, .iload 5, 2), (150, .istore_n 2, 1), (151, .iconst 0, 1), (152, .istore 6, 2), (154, .iload 6, 2), (156, .aload_n 0, 1), (157, .getfield 141, 3), (160, .if_icmp .ge 23, 3), (163, .aload_n 0, 1), (164, .getfield 80, 3), (167, .iload 6, 2), (169, .aload_n 0, 1), (170, .getfield 77, 3), (173, .iload 6, 2), (175, .iaload, 1), (176, .iastore, 1), (177, .iinc 6 1, 3), (180, .goto (-26), 3), (183, .iinc 3 1, 3), (186, .goto (-115), 3), (189, .iconst 0, 1), (190, .istore_n 3, 1), (191, .iload_n 3, 1), (192, .aload_n 0, 1), (193, .getfield 141, 3), (196, .if_icmp .ge 21, 3), (199, .aload_n 0, 1), (200, .getfield 77, 3), (203, .iload_n 3, 1), (204, .aload_n 0, 1), (205, .getfield 80, 3), (208, .iload_n 3, 1), (209, .iaload, 1), (210, .iastore, 1), (211, .iinc 3 1, 3), (214, .goto (-23), 3), (217, .iconst 0, 1), (218, .istore_n 3, 1), (219, .iload_n 3, 1), (220, .aload_n 0, 1), (221, .getfield 141, 3), (224, .if_icmp .ge 79, 3), (227, .aload_n 0, 1), (228, .getfield 80, 3), (231, .iload_n 3, 1), (232, .iaload, 1), (233, .aload_n 0, 1), (234, .getfield 87, 3), (237, .if_icmp .ge 60, 3), (240, .aload_n 0, 1), (241, .getfield 56, 3), (244, .aload_n 0, 1), (245, .getfield 62, 3), (248, .iload_n 3, 1), (249, .iaload, 1), (250, .aload_n 0, 1), (251, .getfield 80, 3), (254, .iload_n 3, 1), (255, .iaload, 1), (256, .iastore, 1), (257, .aload_n 0, 1), (258, .getfield 59, 3), (261, .aload_n 0, 1), (262, .getfield 62, 3), (265, .iload_n 3, 1), (266, .iaload, 1), (267, .aload_n 0, 1), (268, .getfield 68, 3), (271, .iconst 5, 1), (272, .bipush 32, 2), (274, .aload_n 0, 1), (275, .getfield 80, 3), (278, .iload_n 3, 1), (279, .iaload, 1), (280, .imul, 1), (281, .aload_n 0, 1), (282, .aload_n 0, 1), (283, .getfield 80, 3), (286, .iload_n 3, 1), (287, .iaload, 1), (288, .invokevirtual 156, 3), (291, .iadd, 1), (292, .imul, 1), (293, .iload_n 3, 1), (294, .iadd, 1), (295, .iaload, 1), (296, .iastore, 1), (297, .iinc 3 1, 3), (300, .goto (-81), 3), (303, .return_, 1)]
theorem c_M_planExactly_ok : (c_M_planExactly).all (fun q => decide (decode prog_7_method_29_code q.1 = .ok q.2)) = true := by decide +kernel
theorem d_M_planExactly_0 : decode prog_7_method_29_code 0 = .ok (.iconst 0, 1) := jx_dec c_M_planExactly_ok 0 rfl
theorem d_M_planExactly_1 : decode prog_7_method_29_code 1 = .ok (.istore_n 1, 1) := jx_dec c_M_planExactly_ok 1 rfl
theorem d_M_planExactly_2 : decode prog_7_method_29_code 2 = .ok (.iload_n 1, 1) := jx_dec c_M_planExactly_ok 2 rfl
theorem d_M_planExactly_3 : decode prog_7_method_29_code 3 = .ok (.aload_n 0, 1) := jx_dec c_M_planExactly_ok 3 rfl
theorem d_M_planExactly_4 : decode prog_7_method_29_code 4 = .ok (.getfield 87, 3) := jx_dec c_M_planExactly_ok 4 rfl
theorem d_M_planExactly_7 : decode prog_7_method_29_code 7 = .ok (.if_icmp .ge 33, 3) := jx_dec c_M_planExactly_ok 5 rfl
theorem d_M_planExactly_10 : decode prog_7_method_29_code 10 = .ok (.iconst 0, 1) := jx_dec c_M_planExactly_ok 6 rfl
theorem d_M_planExactly_11 : decode prog_7_method_29_code 11 = .ok (.istore_n 2, 1) := jx_dec c_M_planExactly_ok 7 rfl
theorem d_M_planExactly_12 : decode prog_7_method_29_code 12 = .ok (.iload_n 2, 1) := jx_dec c_M_planExactly_ok 8 rfl
theorem d_M_planExactly_13 : decode prog_7_method_29_code 13 = .ok (.iconst 1, 1) := jx_dec c_M_planExactly_ok 9 rfl
theorem d_M_planExactly_14 : decode prog_7_method_29_code 14 = .ok (.aload_n 0, 1) := jx_dec c_M_planExactly_ok 10 rfl
theorem d_M_planExactly_15 : decode prog_7_method_29_code 15 = .ok (.getfield 141, 3) := jx_dec c_M_planExactly_ok 11 rfl
theorem d_M_planExactly_18 : decode prog_7_method_29_code 18 = .ok (.ishl, 1) := jx_dec c_M_planExactly_ok 12 rfl
theorem d_M_planExactly_19 : decode prog_7_method_29_code 19 = .ok (.if_icmp .ge 15, 3) := jx_dec c_M_planExactly_ok 13 rfl
theorem d_M_planExactly_22 : decode prog_7_method_29_code 22 = .ok (.aload_n 0, 1) := jx_dec c_M_planExactly_ok 14 rfl
theorem d_M_planExactly_23 : decode prog_7_method_29_code 23 = .ok (.iload_n 1, 1) := jx_dec c_M_planExactly_ok 15 rfl
theorem d_M_planExactly_24 : decode prog_7_method_29_code 24 = .ok (.iload_n 2, 1) := jx_dec c_M_planExactly_ok 16 rfl
theorem d_M_planExactly_25 : decode prog_7_method_29_code 25 = .ok (.invokevirtual 159, 3) := jx_dec c_M_planExactly_ok 17 rfl
theorem d_M_planExactly_28 : decode prog_7_method_29_code 28 = .ok (.iinc 2 1, 3) := jx_dec c_M_planExactly_ok 18 rfl
theorem d_M_planExactly_31 : decode prog_7_method_29_code 31 = .ok (.goto (-19), 3) := jx_dec c_M_planExactly_ok 19 rfl
theorem d_M_planExactly_34 : decode prog_7_method_29_code 34 = .ok (.iinc 1 1, 3) := jx_dec c_M_planExactly_ok 20 rfl
theorem d_M_planExactly_37 : decode prog_7_method_29_code 37 = .ok (.goto (-35), 3) := jx_dec c_M_planExactly_ok 21 rfl
theorem d_M_planExactly_40 : decode prog_7_method_29_code 40 = .ok (.iconst 1, 1) := jx_dec c_M_planExactly_ok 22 rfl
theorem d_M_planExactly_41 : decode prog_7_method_29_code 41 = .ok (.istore_n 1, 1) := jx_dec c_M_planExactly_ok 23 rfl
theorem d_M_planExactly_42 : decode prog_7_method_29_code 42 = .ok (.iconst 0, 1) := jx_dec c_M_planExactly_ok 24 rfl
theorem d_M_planExactly_43 : decode prog_7_method_29_code 43 = .ok (.istore_n 2, 1) := jx_dec c_M_planExactly_ok 25 rfl
theorem d_M_planExactly_44 : decode prog_7_method_29_code 44 = .ok (.iload_n 2, 1) := jx_dec c_M_planExactly_ok 26 rfl
theorem d_M_planExactly_45 : decode prog_7_method_29_code 45 = .ok (.aload_n 0, 1) := jx_dec c_M_planExactly_ok 27 rfl
theorem d_M_planExactly_46 : decode prog_7_method_29_code 46 = .ok (.getfield 141, 3) := jx_dec c_M_planExactly_ok 28 rfl
theorem d_M_planExactly_49 : decode prog_7_method_29_code 49 = .ok (.if_icmp .ge 18, 3) := jx_dec c_M_planExactly_ok 29 rfl
theorem d_M_planExactly_52 : decode prog_7_method_29_code 52 = .ok (.iload_n 1, 1) := jx_dec c_M_planExactly_ok 30 rfl
theorem d_M_planExactly_53 : decode prog_7_method_29_code 53 = .ok (.aload_n 0, 1) := jx_dec c_M_planExactly_ok 31 rfl
theorem d_M_planExactly_54 : decode prog_7_method_29_code 54 = .ok (.getfield 87, 3) := jx_dec c_M_planExactly_ok 32 rfl
theorem d_M_planExactly_57 : decode prog_7_method_29_code 57 = .ok (.iconst 1, 1) := jx_dec c_M_planExactly_ok 33 rfl
theorem d_M_planExactly_58 : decode prog_7_method_29_code 58 = .ok (.iadd, 1) := jx_dec c_M_planExactly_ok 34 rfl
theorem d_M_planExactly_59 : decode prog_7_method_29_code 59 = .ok (.imul, 1) := jx_dec c_M_planExactly_ok 35 rfl
theorem d_M_planExactly_60 : decode prog_7_method_29_code 60 = .ok (.istore_n 1, 1) := jx_dec c_M_planExactly_ok 36 rfl
theorem d_M_planExactly_61 : decode prog_7_method_29_code 61 = .ok (.iinc 2 1, 3) := jx_dec c_M_planExactly_ok 37 rfl
theorem d_M_planExactly_64 : decode prog_7_method_29_code 64 = .ok (.goto (-20), 3) := jx_dec c_M_planExactly_ok 38 rfl
theorem d_M_planExactly_67 : decode prog_7_method_29_code 67 = .ok (.iconst (-1), 1) := jx_dec c_M_planExactly_ok 39 rfl
theorem d_M_planExactly_68 : decode prog_7_method_29_code 68 = .ok (.istore_n 2, 1) := jx_dec c_M_planExactly_ok 40 rfl
theorem d_M_planExactly_69 : decode prog_7_method_29_code 69 = .ok (.iconst 0, 1) := jx_dec c_M_planExactly_ok 41 rfl
theorem d_M_planExactly_70 : decode prog_7_method_29_code 70 = .ok (.istore_n 3, 1) := jx_dec c_M_planExactly_ok 42 rfl
theorem d_M_planExactly_71 : decode prog_7_method_29_code 71 = .ok (.iload_n 3, 1) := jx_dec c_M_planExactly_ok 43 rfl
theorem d_M_planExactly_72 : decode prog_7_method_29_code 72 = .ok (.iload_n 1, 1) := jx_dec c_M_planExactly_ok 44 rfl
theorem d_M_planExactly_73 : decode prog_7_method_29_code 73 = .ok (.if_icmp .ge 116, 3) := jx_dec c_M_planExactly_ok 45 rfl
theorem d_M_planExactly_76 : decode prog_7_method_29_code 76 = .ok (.iload_n 3, 1) := jx_dec c_M_planExactly_ok 46 rfl
theorem d_M_planExactly_77 : decode prog_7_method_29_code 77 = .ok (.istore 4, 2) := jx_dec c_M_planExactly_ok 47 rfl
theorem d_M_planExactly_79 : decode prog_7_method_29_code 79 = .ok (.aload_n 0, 1) := jx_dec c_M_planExactly_ok 48 rfl
theorem d_M_planExactly_80 : decode prog_7_method_29_code 80 = .ok (.getfield 141, 3) := jx_dec c_M_planExactly_ok 49 rfl
theorem d_M_planExactly_83 : decode prog_7_method_29_code 83 = .ok (.iconst 1, 1) := jx_dec c_M_planExactly_ok 50 rfl
theorem d_M_planExactly_84 : decode prog_7_method_29_code 84 = .ok (.isub, 1) := jx_dec c_M_planExactly_ok 51 rfl
theorem d_M_planExactly_85 : decode prog_7_method_29_code 85 = .ok (.istore 5, 2) := jx_dec c_M_planExactly_ok 52 rfl
theorem d_M_planExactly_87 : decode prog_7_method_29_code 87 = .ok (.iload 5, 2) := jx_dec c_M_planExactly_ok 53 rfl
theorem d_M_planExactly_89 : decode prog_7_method_29_code 89 = .ok (.ifCond .lt 36, 3) := jx_dec c_M_planExactly_ok 54 rfl
theorem d_M_planExactly_92 : decode prog_7_method_29_code 92 = .ok (.aload_n 0, 1) := jx_dec c_M_planExactly_ok 55 rfl
theorem d_M_planExactly_93 : decode prog_7_method_29_code 93 = .ok (.getfield 77, 3) := jx_dec c_M_planExactly_ok 56 rfl
theorem d_M_planExactly_96 : decode prog_7_method_29_code 96 = .ok (.iload 5, 2) := jx_dec c_M_planExactly_ok 57 rfl
theorem d_M_planExactly_98 : decode prog_7_method_29_code 98 = .ok (.iload 4, 2) := jx_dec c_M_planExactly_ok 58 rfl
theorem d_M_planExactly_100 : decode prog_7_method_29_code 100 = .ok (.aload_n 0, 1) := jx_dec c_M_planExactly_ok 59 rfl
theorem d_M_planExactly_101 : decode prog_7_method_29_code 101 = .ok (.getfield 87, 3) := jx_dec c_M_planExactly_ok 60 rfl
theorem d_M_planExactly_104 : decode prog_7_method_29_code 104 = .ok (.iconst 1, 1) := jx_dec c_M_planExactly_ok 61 rfl
theorem d_M_planExactly_105 : decode prog_7_method_29_code 105 = .ok (.iadd, 1) := jx_dec c_M_planExactly_ok 62 rfl
theorem d_M_planExactly_106 : decode prog_7_method_29_code 106 = .ok (.irem, 1) := jx_dec c_M_planExactly_ok 63 rfl
theorem d_M_planExactly_107 : decode prog_7_method_29_code 107 = .ok (.iastore, 1) := jx_dec c_M_planExactly_ok 64 rfl
theorem d_M_planExactly_108 : decode prog_7_method_29_code 108 = .ok (.iload 4, 2) := jx_dec c_M_planExactly_ok 65 rfl
theorem d_M_planExactly_110 : decode prog_7_method_29_code 110 = .ok (.aload_n 0, 1) := jx_dec c_M_planExactly_ok 66 rfl
theorem d_M_planExactly_111 : decode prog_7_method_29_code 111 = .ok (.getfield 87, 3) := jx_dec c_M_planExactly_ok 67 rfl
theorem d_M_planExactly_114 : decode prog_7_method_29_code 114 = .ok (.iconst 1, 1) := jx_dec c_M_planExactly_ok 68 rfl
theorem d_M_planExactly_115 : decode prog_7_method_29_code 115 = .ok (.iadd, 1) := jx_dec c_M_planExactly_ok 69 rfl
theorem d_M_planExactly_116 : decode prog_7_method_29_code 116 = .ok (.idiv, 1) := jx_dec c_M_planExactly_ok 70 rfl
theorem d_M_planExactly_117 : decode prog_7_method_29_code 117 = .ok (.istore 4, 2) := jx_dec c_M_planExactly_ok 71 rfl
theorem d_M_planExactly_119 : decode prog_7_method_29_code 119 = .ok (.iinc 5 (-1), 3) := jx_dec c_M_planExactly_ok 72 rfl
theorem d_M_planExactly_122 : decode prog_7_method_29_code 122 = .ok (.goto (-35), 3) := jx_dec c_M_planExactly_ok 73 rfl
theorem d_M_planExactly_125 : decode prog_7_method_29_code 125 = .ok (.aload_n 0, 1) := jx_dec c_M_planExactly_ok 74 rfl
theorem d_M_planExactly_126 : decode prog_7_method_29_code 126 = .ok (.invokevirtual 162, 3) := jx_dec c_M_planExactly_ok 75 rfl
theorem d_M_planExactly_129 : decode prog_7_method_29_code 129 = .ok (.istore 5, 2) := jx_dec c_M_planExactly_ok 76 rfl
theorem d_M_planExactly_131 : decode prog_7_method_29_code 131 = .ok (.iload 5, 2) := jx_dec c_M_planExactly_ok 77 rfl
theorem d_M_planExactly_133 : decode prog_7_method_29_code 133 = .ok (.iconst (-1), 1) := jx_dec c_M_planExactly_ok 78 rfl
theorem d_M_planExactly_134 : decode prog_7_method_29_code 134 = .ok (.if_icmp .eq 49, 3) := jx_dec c_M_planExactly_ok 79 rfl
theorem d_M_planExactly_137 : decode prog_7_method_29_code 137 = .ok (.iload_n 2, 1) := jx_dec c_M_planExactly_ok 80 rfl
theorem d_M_planExactly_138 : decode prog_7_method_29_code 138 = .ok (.iconst (-1), 1) := jx_dec c_M_planExactly_ok 81 rfl
theorem d_M_planExactly_139 : decode prog_7_method_29_code 139 = .ok (.if_icmp .eq 9, 3) := jx_dec c_M_planExactly_ok 82 rfl
theorem d_M_planExactly_142 : decode prog_7_method_29_code 142 = .ok (.iload 5, 2) := jx_dec c_M_planExactly_ok 83 rfl
theorem d_M_planExactly_144 : decode prog_7_method_29_code 144 = .ok (.iload_n 2, 1) := jx_dec c_M_planExactly_ok 84 rfl
theorem d_M_planExactly_145 : decode prog_7_method_29_code 145 = .ok (.if_icmp .ge 38, 3) := jx_dec c_M_planExactly_ok 85 rfl
theorem d_M_planExactly_148 : decode prog_7_method_29_code 148 = .ok (.iload 5, 2) := jx_dec c_M_planExactly_ok 86 rfl
theorem d_M_planExactly_150 : decode prog_7_method_29_code 150 = .ok (.istore_n 2, 1) := jx_dec c_M_planExactly_ok 87 rfl
theorem d_M_planExactly_151 : decode prog_7_method_29_code 151 = .ok (.iconst 0, 1) := jx_dec c_M_planExactly_ok 88 rfl
theorem d_M_planExactly_152 : decode prog_7_method_29_code 152 = .ok (.istore 6, 2) := jx_dec c_M_planExactly_ok 89 rfl
theorem d_M_planExactly_154 : decode prog_7_method_29_code 154 = .ok (.iload 6, 2) := jx_dec c_M_planExactly_ok 90 rfl
theorem d_M_planExactly_156 : decode prog_7_method_29_code 156 = .ok (.aload_n 0, 1) := jx_dec c_M_planExactly_ok 91 rfl
theorem d_M_planExactly_157 : decode prog_7_method_29_code 157 = .ok (.getfield 141, 3) := jx_dec c_M_planExactly_ok 92 rfl
theorem d_M_planExactly_160 : decode prog_7_method_29_code 160 = .ok (.if_icmp .ge 23, 3) := jx_dec c_M_planExactly_ok 93 rfl
theorem d_M_planExactly_163 : decode prog_7_method_29_code 163 = .ok (.aload_n 0, 1) := jx_dec c_M_planExactly_ok 94 rfl
theorem d_M_planExactly_164 : decode prog_7_method_29_code 164 = .ok (.getfield 80, 3) := jx_dec c_M_planExactly_ok 95 rfl
theorem d_M_planExactly_167 : decode prog_7_method_29_code 167 = .ok (.iload 6, 2) := jx_dec c_M_planExactly_ok 96 rfl
theorem d_M_planExactly_169 : decode prog_7_method_29_code 169 = .ok (.aload_n 0, 1) := jx_dec c_M_planExactly_ok 97 rfl
theorem d_M_planExactly_170 : decode prog_7_method_29_code 170 = .ok (.getfield 77, 3) := jx_dec c_M_planExactly_ok 98 rfl
theorem d_M_planExactly_173 : decode prog_7_method_29_code 173 = .ok (.iload 6, 2) := jx_dec c_M_planExactly_ok 99 rfl
theorem d_M_planExactly_175 : decode prog_7_method_29_code 175 = .ok (.iaload, 1) := jx_dec c_M_planExactly_ok 100 rfl
theorem d_M_planExactly_176 : decode prog_7_method_29_code 176 = .ok (.iastore, 1) := jx_dec c_M_planExactly_ok 101 rfl
theorem d_M_planExactly_177 : decode prog_7_method_29_code 177 = .ok (.iinc 6 1, 3) := jx_dec c_M_planExactly_ok 102 rfl
theorem d_M_planExactly_180 : decode prog_7_method_29_code 180 = .ok (.goto (-26), 3) := jx_dec c_M_planExactly_ok 103 rfl
theorem d_M_planExactly_183 : decode prog_7_method_29_code 183 = .ok (.iinc 3 1, 3) := jx_dec c_M_planExactly_ok 104 rfl
theorem d_M_planExactly_186 : decode prog_7_method_29_code 186 = .ok (.goto (-115), 3) := jx_dec c_M_planExactly_ok 105 rfl
theorem d_M_planExactly_189 : decode prog_7_method_29_code 189 = .ok (.iconst 0, 1) := jx_dec c_M_planExactly_ok 106 rfl
theorem d_M_planExactly_190 : decode prog_7_method_29_code 190 = .ok (.istore_n 3, 1) := jx_dec c_M_planExactly_ok 107 rfl
theorem d_M_planExactly_191 : decode prog_7_method_29_code 191 = .ok (.iload_n 3, 1) := jx_dec c_M_planExactly_ok 108 rfl
theorem d_M_planExactly_192 : decode prog_7_method_29_code 192 = .ok (.aload_n 0, 1) := jx_dec c_M_planExactly_ok 109 rfl
theorem d_M_planExactly_193 : decode prog_7_method_29_code 193 = .ok (.getfield 141, 3) := jx_dec c_M_planExactly_ok 110 rfl
theorem d_M_planExactly_196 : decode prog_7_method_29_code 196 = .ok (.if_icmp .ge 21, 3) := jx_dec c_M_planExactly_ok 111 rfl
theorem d_M_planExactly_199 : decode prog_7_method_29_code 199 = .ok (.aload_n 0, 1) := jx_dec c_M_planExactly_ok 112 rfl
theorem d_M_planExactly_200 : decode prog_7_method_29_code 200 = .ok (.getfield 77, 3) := jx_dec c_M_planExactly_ok 113 rfl
theorem d_M_planExactly_203 : decode prog_7_method_29_code 203 = .ok (.iload_n 3, 1) := jx_dec c_M_planExactly_ok 114 rfl
theorem d_M_planExactly_204 : decode prog_7_method_29_code 204 = .ok (.aload_n 0, 1) := jx_dec c_M_planExactly_ok 115 rfl
theorem d_M_planExactly_205 : decode prog_7_method_29_code 205 = .ok (.getfield 80, 3) := jx_dec c_M_planExactly_ok 116 rfl
theorem d_M_planExactly_208 : decode prog_7_method_29_code 208 = .ok (.iload_n 3, 1) := jx_dec c_M_planExactly_ok 117 rfl
theorem d_M_planExactly_209 : decode prog_7_method_29_code 209 = .ok (.iaload, 1) := jx_dec c_M_planExactly_ok 118 rfl
theorem d_M_planExactly_210 : decode prog_7_method_29_code 210 = .ok (.iastore, 1) := jx_dec c_M_planExactly_ok 119 rfl
theorem d_M_planExactly_211 : decode prog_7_method_29_code 211 = .ok (.iinc 3 1, 3) := jx_dec c_M_planExactly_ok 120 rfl
theorem d_M_planExactly_214 : decode prog_7_method_29_code 214 = .ok (.goto (-23), 3) := jx_dec c_M_planExactly_ok 121 rfl
theorem d_M_planExactly_217 : decode prog_7_method_29_code 217 = .ok (.iconst 0, 1) := jx_dec c_M_planExactly_ok 122 rfl
theorem d_M_planExactly_218 : decode prog_7_method_29_code 218 = .ok (.istore_n 3, 1) := jx_dec c_M_planExactly_ok 123 rfl
theorem d_M_planExactly_219 : decode prog_7_method_29_code 219 = .ok (.iload_n 3, 1) := jx_dec c_M_planExactly_ok 124 rfl
theorem d_M_planExactly_220 : decode prog_7_method_29_code 220 = .ok (.aload_n 0, 1) := jx_dec c_M_planExactly_ok 125 rfl
theorem d_M_planExactly_221 : decode prog_7_method_29_code 221 = .ok (.getfield 141, 3) := jx_dec c_M_planExactly_ok 126 rfl
theorem d_M_planExactly_224 : decode prog_7_method_29_code 224 = .ok (.if_icmp .ge 79, 3) := jx_dec c_M_planExactly_ok 127 rfl
theorem d_M_planExactly_227 : decode prog_7_method_29_code 227 = .ok (.aload_n 0, 1) := jx_dec c_M_planExactly_ok 128 rfl
theorem d_M_planExactly_228 : decode prog_7_method_29_code 228 = .ok (.getfield 80, 3) := jx_dec c_M_planExactly_ok 129 rfl
theorem d_M_planExactly_231 : decode prog_7_method_29_code 231 = .ok (.iload_n 3, 1) := jx_dec c_M_planExactly_ok 130 rfl
theorem d_M_planExactly_232 : decode prog_7_method_29_code 232 = .ok (.iaload, 1) := jx_dec c_M_planExactly_ok 131 rfl
theorem d_M_planExactly_233 : decode prog_7_method_29_code 233 = .ok (.aload_n 0, 1) := jx_dec c_M_planExactly_ok 132 rfl
theorem d_M_planExactly_234 : decode prog_7_method_29_code 234 = .ok (.getfield 87, 3) := jx_dec c_M_planExactly_ok 133 rfl
theorem d_M_planExactly_237 : decode prog_7_method_29_code 237 = .ok (.if_icmp .ge 60, 3) := jx_dec c_M_planExactly_ok 134 rfl
theorem d_M_planExactly_240 : decode prog_7_method_29_code 240 = .ok (.aload_n 0, 1) := jx_dec c_M_planExactly_ok 135 rfl
theorem d_M_planExactly_241 : decode prog_7_method_29_code 241 = .ok (.getfield 56, 3) := jx_dec c_M_planExactly_ok 136 rfl
theorem d_M_planExactly_244 : decode prog_7_method_29_code 244 = .ok (.aload_n 0, 1) := jx_dec c_M_planExactly_ok 137 rfl
theorem d_M_planExactly_245 : decode prog_7_method_29_code 245 = .ok (.getfield 62, 3) := jx_dec c_M_planExactly_ok 138 rfl
theorem d_M_planExactly_248 : decode prog_7_method_29_code 248 = .ok (.iload_n 3, 1) := jx_dec c_M_planExactly_ok 139 rfl
theorem d_M_planExactly_249 : decode prog_7_method_29_code 249 = .ok (.iaload, 1) := jx_dec c_M_planExactly_ok 140 rfl
theorem d_M_planExactly_250 : decode prog_7_method_29_code 250 = .ok (.aload_n 0, 1) := jx_dec c_M_planExactly_ok 141 rfl
theorem d_M_planExactly_251 : decode prog_7_method_29_code 251 = .ok (.getfield 80, 3) := jx_dec c_M_planExactly_ok 142 rfl
theorem d_M_planExactly_254 : decode prog_7_method_29_code 254 = .ok (.iload_n 3, 1) := jx_dec c_M_planExactly_ok 143 rfl
theorem d_M_planExactly_255 : decode prog_7_method_29_code 255 = .ok (.iaload, 1) := jx_dec c_M_planExactly_ok 144 rfl
theorem d_M_planExactly_256 : decode prog_7_method_29_code 256 = .ok (.iastore, 1) := jx_dec c_M_planExactly_ok 145 rfl
theorem d_M_planExactly_257 : decode prog_7_method_29_code 257 = .ok (.aload_n 0, 1) := jx_dec c_M_planExactly_ok 146 rfl
theorem d_M_planExactly_258 : decode prog_7_method_29_code 258 = .ok (.getfield 59, 3) := jx_dec c_M_planExactly_ok 147 rfl
theorem d_M_planExactly_261 : decode prog_7_method_29_code 261 = .ok (.aload_n 0, 1) := jx_dec c_M_planExactly_ok 148 rfl
theorem d_M_planExactly_262 : decode prog_7_method_29_code 262 = .ok (.getfield 62, 3) := jx_dec c_M_planExactly_ok 149 rfl
theorem d_M_planExactly_265 : decode prog_7_method_29_code 265 = .ok (.iload_n 3, 1) := jx_dec c_M_planExactly_ok 150 rfl
theorem d_M_planExactly_266 : decode prog_7_method_29_code 266 = .ok (.iaload, 1) := jx_dec c_M_planExactly_ok 151 rfl
theorem d_M_planExactly_267 : decode prog_7_method_29_code 267 = .ok (.aload_n 0, 1) := jx_dec c_M_planExactly_ok 152 rfl
theorem d_M_planExactly_268 : decode prog_7_method_29_code 268 = .ok (.getfield 68, 3) := jx_dec c_M_planExactly_ok 153 rfl
theorem d_M_planExactly_271 : decode prog_7_method_29_code 271 = .ok (.iconst 5, 1) := jx_dec c_M_planExactly_ok 154 rfl
theorem d_M_planExactly_272 : decode prog_7_method_29_code 272 = .ok (.bipush 32, 2) := jx_dec c_M_planExactly_ok 155 rfl
theorem d_M_planExactly_274 : decode prog_7_method_29_code 274 = .ok (.aload_n 0, 1) := jx_dec c_M_planExactly_ok 156 rfl
theorem d_M_planExactly_275 : decode prog_7_method_29_code 275 = .ok (.getfield 80, 3) := jx_dec c_M_planExactly_ok 157 rfl
theorem d_M_planExactly_278 : decode prog_7_method_29_code 278 = .ok (.iload_n 3, 1) := jx_dec c_M_planExactly_ok 158 rfl
theorem d_M_planExactly_279 : decode prog_7_method_29_code 279 = .ok (.iaload, 1) := jx_dec c_M_planExactly_ok 159 rfl
theorem d_M_planExactly_280 : decode prog_7_method_29_code 280 = .ok (.imul, 1) := jx_dec c_M_planExactly_ok 160 rfl
theorem d_M_planExactly_281 : decode prog_7_method_29_code 281 = .ok (.aload_n 0, 1) := jx_dec c_M_planExactly_ok 161 rfl
theorem d_M_planExactly_282 : decode prog_7_method_29_code 282 = .ok (.aload_n 0, 1) := jx_dec c_M_planExactly_ok 162 rfl
theorem d_M_planExactly_283 : decode prog_7_method_29_code 283 = .ok (.getfield 80, 3) := jx_dec c_M_planExactly_ok 163 rfl
theorem d_M_planExactly_286 : decode prog_7_method_29_code 286 = .ok (.iload_n 3, 1) := jx_dec c_M_planExactly_ok 164 rfl
theorem d_M_planExactly_287 : decode prog_7_method_29_code 287 = .ok (.iaload, 1) := jx_dec c_M_planExactly_ok 165 rfl
theorem d_M_planExactly_288 : decode prog_7_method_29_code 288 = .ok (.invokevirtual 156, 3) := jx_dec c_M_planExactly_ok 166 rfl
theorem d_M_planExactly_291 : decode prog_7_method_29_code 291 = .ok (.iadd, 1) := jx_dec c_M_planExactly_ok 167 rfl
theorem d_M_planExactly_292 : decode prog_7_method_29_code 292 = .ok (.imul, 1) := jx_dec c_M_planExactly_ok 168 rfl
theorem d_M_planExactly_293 : decode prog_7_method_29_code 293 = .ok (.iload_n 3, 1) := jx_dec c_M_planExactly_ok 169 rfl
theorem d_M_planExactly_294 : decode prog_7_method_29_code 294 = .ok (.iadd, 1) := jx_dec c_M_planExactly_ok 170 rfl
theorem d_M_planExactly_295 : decode prog_7_method_29_code 295 = .ok (.iaload, 1) := jx_dec c_M_planExactly_ok 171 rfl
theorem d_M_planExactly_296 : decode prog_7_method_29_code 296 = .ok (.iastore, 1) := jx_dec c_M_planExactly_ok 172 rfl
theorem d_M_planExactly_297 : decode prog_7_method_29_code 297 = .ok (.iinc 3 1, 3) := jx_dec c_M_planExactly_ok 173 rfl
theorem d_M_planExactly_300 : decode prog_7_method_29_code 300 = .ok (.goto (-81), 3) := jx_dec c_M_planExactly_ok 174 rfl
theorem d_M_planExactly_303 : decode prog_7_method_29_code 303 = .ok (.return_, 1) := jx_dec c_M_planExactly_ok 175 rfl
def c_M_findOrder : List (Nat × Instr × Nat) := [(0, .bipush 32, 2), (2, .iload_n 1, 1), (3, .imul, 1), (4, .iload_n 2, 1), (5, .iadd, 1), (6, .istore_n 3, 1), (7, .iconst 0, 1), (8, .istore 4, 2), (10, .aload_n 0, 1), (11, .getfield 65, 3), (14, .iload_n 3, 1), (15, .iconst (-1), 1), (16, .iastore, 1), (17, .iconst 0, 1), (18, .istore 5, 2), (20, .iload 5, 2), (22, .aload_n 0, 1), (23, .getfield 141, 3), (26, .if_icmp .ge 47, 3), (29, .iload_n 2, 1), (30, .iload 5, 2), (32, .ishr, 1), (33, .iconst 1, 1), (34, .iand, 1), (35, .iconst 1, 1), (36, .if_icmp .ne 31, 3), (39, .aload_n 0, 1), (40, .iload_n 1, 1), (41, .aload_n 0, 1), (42, .getfield 62, 3), (45, .iload 5, 2), (47, .iaload, 1), (48, .invokevirtual 144, 3), (51, .ifCond .ne 4, 3), (54, .return_, 1), (55, .aload_n 0, 1), (56, .getfield 71, 3), (59, .iload 4, 2), (61, .iload 5, 2), (63, .iastore, 1), (64, .iinc 4 1, 3), (67, .iinc 5 1, 3), (70, .goto (-50), 3), (73, .iconst 1, 1), (74, .istore 5, 2), (76, .iload 5, 2), (78, .ifCond .eq 114, 3), (81, .aload_n 0, 1), (82, .iload_n 1, 1), (83, .iload 4, 2), (85, .invokevirtual 147, 3), (88, .istore 6, 2), (90, .iload 6, 2), (92, .iconst (-1), 1), (93, .if_icmp .eq 88, 3), (96, .aload_n 0, 1), (97, .getfield 65, 3), (100, .iload_n 3, 1), (101, .iaload, 1), (102, .iconst (-1), 1), (103, .if_icmp .eq 34, 3), (106, .iload 6, 2), (108, .aload_n 0, 1), (109, .getfield 65, 3), (112, .iload_n 3, 1), (113, .iaload, 1), (114, .if_icmp .lt 23, 3), (117, .iload 6, 2), (119, .aload_n 0, 1), (120, .getfield 65, 3), (123, .iload_n 3, 1), (124, .iaload, 1), (125, .if_icmp .ne 56, 3), (128, .aload_n 0, 1), (129, .iload_n 3, 1), (130, .iload_n 2, 1), (131, .invokevirtual 150, 3), (134, .ifCond .eq 47, 3), (137, .aload_n 0, 1), (138, .getfield 65, 3), (141, .iload_n 3, 1), (142, .iload 6, 2), (144, .iastore, 1), (145, .iconst 0, 1), (146, .istore 7, 2), (148, .iload 7, 2), (150, .aload_n 0, 1), (151, .getfield 141, 3), (154, .if_icmp .ge 27, 3), (157, .aload_n 0, 1), (158, .getfield 68, 3), (161, .iconst 5, 1), (162, .iload_n 3, 1), (163, .imul, 1), (164, .iload 7, 2), (166, .iadd, 1), (167, .aload_n 0, 1), (168, .getfield 74, 3), (171, .iload 7, 2), (173, .iaload, 1), (174, .iastore, 1), (175, .iinc 7 1, 3), (178, .goto (-30), 3), (181, .aload_n 0, 1), (182, .iload 4, 2), (184, .invokevirtual 153, 3), (187, .istore 5, 2), (189, .goto (-113), 3), (192, .return_, 1)]
theorem c_M_findOrder_ok : (c_M_findOrder).all (fun q => decide (decode prog_7_method_26_code q.1 = .ok q.2)) = true := by decide +kernel
theorem d_M_findOrder_0 : decode prog_7_method_26_code 0 = .ok (.bipush 32, 2) := jx_dec c_M_findOrder_ok 0 rfl
theorem d_M_findOrder_2 : decode prog_7_method_26_code 2 = .ok (.iload_n 1, 1) := jx_dec c_M_findOrder_ok 1 rfl
theorem d_M_findOrder_3 : decode prog_7_method_26_code 3 = .ok (.imul, 1) := jx_dec c_M_findOrder_ok 2 rfl
theorem d_M_findOrder_4 : decode prog_7_method_26_code 4 = .ok (.iload_n 2, 1) := jx_dec c_M_findOrder_ok 3 rfl
theorem d_M_findOrder_5 : decode prog_7_method_26_code 5 = .ok (.iadd, 1) := jx_dec c_M_findOrder_ok 4 rfl
theorem d_M_findOrder_6 : decode prog_7_method_26_code 6 = .ok (.istore_n 3, 1) := jx_dec c_M_findOrder_ok 5 rfl
theorem d_M_findOrder_7 : decode prog_7_method_26_code 7 = .ok (.iconst 0, 1) := jx_dec c_M_findOrder_ok 6 rfl
theorem d_M_findOrder_8 : decode prog_7_method_26_code 8 = .ok (.istore 4, 2) := jx_dec c_M_findOrder_ok 7 rfl
theorem d_M_findOrder_10 : decode prog_7_method_26_code 10 = .ok (.aload_n 0, 1) := jx_dec c_M_findOrder_ok 8 rfl
theorem d_M_findOrder_11 : decode prog_7_method_26_code 11 = .ok (.getfield 65, 3) := jx_dec c_M_findOrder_ok 9 rfl
theorem d_M_findOrder_14 : decode prog_7_method_26_code 14 = .ok (.iload_n 3, 1) := jx_dec c_M_findOrder_ok 10 rfl
theorem d_M_findOrder_15 : decode prog_7_method_26_code 15 = .ok (.iconst (-1), 1) := jx_dec c_M_findOrder_ok 11 rfl
theorem d_M_findOrder_16 : decode prog_7_method_26_code 16 = .ok (.iastore, 1) := jx_dec c_M_findOrder_ok 12 rfl
theorem d_M_findOrder_17 : decode prog_7_method_26_code 17 = .ok (.iconst 0, 1) := jx_dec c_M_findOrder_ok 13 rfl
theorem d_M_findOrder_18 : decode prog_7_method_26_code 18 = .ok (.istore 5, 2) := jx_dec c_M_findOrder_ok 14 rfl
theorem d_M_findOrder_20 : decode prog_7_method_26_code 20 = .ok (.iload 5, 2) := jx_dec c_M_findOrder_ok 15 rfl
theorem d_M_findOrder_22 : decode prog_7_method_26_code 22 = .ok (.aload_n 0, 1) := jx_dec c_M_findOrder_ok 16 rfl
theorem d_M_findOrder_23 : decode prog_7_method_26_code 23 = .ok (.getfield 141, 3) := jx_dec c_M_findOrder_ok 17 rfl
theorem d_M_findOrder_26 : decode prog_7_method_26_code 26 = .ok (.if_icmp .ge 47, 3) := jx_dec c_M_findOrder_ok 18 rfl
theorem d_M_findOrder_29 : decode prog_7_method_26_code 29 = .ok (.iload_n 2, 1) := jx_dec c_M_findOrder_ok 19 rfl
theorem d_M_findOrder_30 : decode prog_7_method_26_code 30 = .ok (.iload 5, 2) := jx_dec c_M_findOrder_ok 20 rfl
theorem d_M_findOrder_32 : decode prog_7_method_26_code 32 = .ok (.ishr, 1) := jx_dec c_M_findOrder_ok 21 rfl
theorem d_M_findOrder_33 : decode prog_7_method_26_code 33 = .ok (.iconst 1, 1) := jx_dec c_M_findOrder_ok 22 rfl
theorem d_M_findOrder_34 : decode prog_7_method_26_code 34 = .ok (.iand, 1) := jx_dec c_M_findOrder_ok 23 rfl
theorem d_M_findOrder_35 : decode prog_7_method_26_code 35 = .ok (.iconst 1, 1) := jx_dec c_M_findOrder_ok 24 rfl
theorem d_M_findOrder_36 : decode prog_7_method_26_code 36 = .ok (.if_icmp .ne 31, 3) := jx_dec c_M_findOrder_ok 25 rfl
theorem d_M_findOrder_39 : decode prog_7_method_26_code 39 = .ok (.aload_n 0, 1) := jx_dec c_M_findOrder_ok 26 rfl
theorem d_M_findOrder_40 : decode prog_7_method_26_code 40 = .ok (.iload_n 1, 1) := jx_dec c_M_findOrder_ok 27 rfl
theorem d_M_findOrder_41 : decode prog_7_method_26_code 41 = .ok (.aload_n 0, 1) := jx_dec c_M_findOrder_ok 28 rfl
theorem d_M_findOrder_42 : decode prog_7_method_26_code 42 = .ok (.getfield 62, 3) := jx_dec c_M_findOrder_ok 29 rfl
theorem d_M_findOrder_45 : decode prog_7_method_26_code 45 = .ok (.iload 5, 2) := jx_dec c_M_findOrder_ok 30 rfl
theorem d_M_findOrder_47 : decode prog_7_method_26_code 47 = .ok (.iaload, 1) := jx_dec c_M_findOrder_ok 31 rfl
theorem d_M_findOrder_48 : decode prog_7_method_26_code 48 = .ok (.invokevirtual 144, 3) := jx_dec c_M_findOrder_ok 32 rfl
theorem d_M_findOrder_51 : decode prog_7_method_26_code 51 = .ok (.ifCond .ne 4, 3) := jx_dec c_M_findOrder_ok 33 rfl
theorem d_M_findOrder_54 : decode prog_7_method_26_code 54 = .ok (.return_, 1) := jx_dec c_M_findOrder_ok 34 rfl
theorem d_M_findOrder_55 : decode prog_7_method_26_code 55 = .ok (.aload_n 0, 1) := jx_dec c_M_findOrder_ok 35 rfl
theorem d_M_findOrder_56 : decode prog_7_method_26_code 56 = .ok (.getfield 71, 3) := jx_dec c_M_findOrder_ok 36 rfl
theorem d_M_findOrder_59 : decode prog_7_method_26_code 59 = .ok (.iload 4, 2) := jx_dec c_M_findOrder_ok 37 rfl
theorem d_M_findOrder_61 : decode prog_7_method_26_code 61 = .ok (.iload 5, 2) := jx_dec c_M_findOrder_ok 38 rfl
theorem d_M_findOrder_63 : decode prog_7_method_26_code 63 = .ok (.iastore, 1) := jx_dec c_M_findOrder_ok 39 rfl
theorem d_M_findOrder_64 : decode prog_7_method_26_code 64 = .ok (.iinc 4 1, 3) := jx_dec c_M_findOrder_ok 40 rfl
theorem d_M_findOrder_67 : decode prog_7_method_26_code 67 = .ok (.iinc 5 1, 3) := jx_dec c_M_findOrder_ok 41 rfl
theorem d_M_findOrder_70 : decode prog_7_method_26_code 70 = .ok (.goto (-50), 3) := jx_dec c_M_findOrder_ok 42 rfl
theorem d_M_findOrder_73 : decode prog_7_method_26_code 73 = .ok (.iconst 1, 1) := jx_dec c_M_findOrder_ok 43 rfl
theorem d_M_findOrder_74 : decode prog_7_method_26_code 74 = .ok (.istore 5, 2) := jx_dec c_M_findOrder_ok 44 rfl
theorem d_M_findOrder_76 : decode prog_7_method_26_code 76 = .ok (.iload 5, 2) := jx_dec c_M_findOrder_ok 45 rfl
theorem d_M_findOrder_78 : decode prog_7_method_26_code 78 = .ok (.ifCond .eq 114, 3) := jx_dec c_M_findOrder_ok 46 rfl
theorem d_M_findOrder_81 : decode prog_7_method_26_code 81 = .ok (.aload_n 0, 1) := jx_dec c_M_findOrder_ok 47 rfl
theorem d_M_findOrder_82 : decode prog_7_method_26_code 82 = .ok (.iload_n 1, 1) := jx_dec c_M_findOrder_ok 48 rfl
theorem d_M_findOrder_83 : decode prog_7_method_26_code 83 = .ok (.iload 4, 2) := jx_dec c_M_findOrder_ok 49 rfl
theorem d_M_findOrder_85 : decode prog_7_method_26_code 85 = .ok (.invokevirtual 147, 3) := jx_dec c_M_findOrder_ok 50 rfl
theorem d_M_findOrder_88 : decode prog_7_method_26_code 88 = .ok (.istore 6, 2) := jx_dec c_M_findOrder_ok 51 rfl
theorem d_M_findOrder_90 : decode prog_7_method_26_code 90 = .ok (.iload 6, 2) := jx_dec c_M_findOrder_ok 52 rfl
theorem d_M_findOrder_92 : decode prog_7_method_26_code 92 = .ok (.iconst (-1), 1) := jx_dec c_M_findOrder_ok 53 rfl
theorem d_M_findOrder_93 : decode prog_7_method_26_code 93 = .ok (.if_icmp .eq 88, 3) := jx_dec c_M_findOrder_ok 54 rfl
theorem d_M_findOrder_96 : decode prog_7_method_26_code 96 = .ok (.aload_n 0, 1) := jx_dec c_M_findOrder_ok 55 rfl
theorem d_M_findOrder_97 : decode prog_7_method_26_code 97 = .ok (.getfield 65, 3) := jx_dec c_M_findOrder_ok 56 rfl
theorem d_M_findOrder_100 : decode prog_7_method_26_code 100 = .ok (.iload_n 3, 1) := jx_dec c_M_findOrder_ok 57 rfl
theorem d_M_findOrder_101 : decode prog_7_method_26_code 101 = .ok (.iaload, 1) := jx_dec c_M_findOrder_ok 58 rfl
theorem d_M_findOrder_102 : decode prog_7_method_26_code 102 = .ok (.iconst (-1), 1) := jx_dec c_M_findOrder_ok 59 rfl
theorem d_M_findOrder_103 : decode prog_7_method_26_code 103 = .ok (.if_icmp .eq 34, 3) := jx_dec c_M_findOrder_ok 60 rfl
theorem d_M_findOrder_106 : decode prog_7_method_26_code 106 = .ok (.iload 6, 2) := jx_dec c_M_findOrder_ok 61 rfl
theorem d_M_findOrder_108 : decode prog_7_method_26_code 108 = .ok (.aload_n 0, 1) := jx_dec c_M_findOrder_ok 62 rfl
theorem d_M_findOrder_109 : decode prog_7_method_26_code 109 = .ok (.getfield 65, 3) := jx_dec c_M_findOrder_ok 63 rfl
theorem d_M_findOrder_112 : decode prog_7_method_26_code 112 = .ok (.iload_n 3, 1) := jx_dec c_M_findOrder_ok 64 rfl
theorem d_M_findOrder_113 : decode prog_7_method_26_code 113 = .ok (.iaload, 1) := jx_dec c_M_findOrder_ok 65 rfl
theorem d_M_findOrder_114 : decode prog_7_method_26_code 114 = .ok (.if_icmp .lt 23, 3) := jx_dec c_M_findOrder_ok 66 rfl
theorem d_M_findOrder_117 : decode prog_7_method_26_code 117 = .ok (.iload 6, 2) := jx_dec c_M_findOrder_ok 67 rfl
theorem d_M_findOrder_119 : decode prog_7_method_26_code 119 = .ok (.aload_n 0, 1) := jx_dec c_M_findOrder_ok 68 rfl
theorem d_M_findOrder_120 : decode prog_7_method_26_code 120 = .ok (.getfield 65, 3) := jx_dec c_M_findOrder_ok 69 rfl
theorem d_M_findOrder_123 : decode prog_7_method_26_code 123 = .ok (.iload_n 3, 1) := jx_dec c_M_findOrder_ok 70 rfl
theorem d_M_findOrder_124 : decode prog_7_method_26_code 124 = .ok (.iaload, 1) := jx_dec c_M_findOrder_ok 71 rfl
theorem d_M_findOrder_125 : decode prog_7_method_26_code 125 = .ok (.if_icmp .ne 56, 3) := jx_dec c_M_findOrder_ok 72 rfl
theorem d_M_findOrder_128 : decode prog_7_method_26_code 128 = .ok (.aload_n 0, 1) := jx_dec c_M_findOrder_ok 73 rfl
theorem d_M_findOrder_129 : decode prog_7_method_26_code 129 = .ok (.iload_n 3, 1) := jx_dec c_M_findOrder_ok 74 rfl
theorem d_M_findOrder_130 : decode prog_7_method_26_code 130 = .ok (.iload_n 2, 1) := jx_dec c_M_findOrder_ok 75 rfl
theorem d_M_findOrder_131 : decode prog_7_method_26_code 131 = .ok (.invokevirtual 150, 3) := jx_dec c_M_findOrder_ok 76 rfl
theorem d_M_findOrder_134 : decode prog_7_method_26_code 134 = .ok (.ifCond .eq 47, 3) := jx_dec c_M_findOrder_ok 77 rfl
theorem d_M_findOrder_137 : decode prog_7_method_26_code 137 = .ok (.aload_n 0, 1) := jx_dec c_M_findOrder_ok 78 rfl
theorem d_M_findOrder_138 : decode prog_7_method_26_code 138 = .ok (.getfield 65, 3) := jx_dec c_M_findOrder_ok 79 rfl
theorem d_M_findOrder_141 : decode prog_7_method_26_code 141 = .ok (.iload_n 3, 1) := jx_dec c_M_findOrder_ok 80 rfl
theorem d_M_findOrder_142 : decode prog_7_method_26_code 142 = .ok (.iload 6, 2) := jx_dec c_M_findOrder_ok 81 rfl
theorem d_M_findOrder_144 : decode prog_7_method_26_code 144 = .ok (.iastore, 1) := jx_dec c_M_findOrder_ok 82 rfl
theorem d_M_findOrder_145 : decode prog_7_method_26_code 145 = .ok (.iconst 0, 1) := jx_dec c_M_findOrder_ok 83 rfl
theorem d_M_findOrder_146 : decode prog_7_method_26_code 146 = .ok (.istore 7, 2) := jx_dec c_M_findOrder_ok 84 rfl
theorem d_M_findOrder_148 : decode prog_7_method_26_code 148 = .ok (.iload 7, 2) := jx_dec c_M_findOrder_ok 85 rfl
theorem d_M_findOrder_150 : decode prog_7_method_26_code 150 = .ok (.aload_n 0, 1) := jx_dec c_M_findOrder_ok 86 rfl
theorem d_M_findOrder_151 : decode prog_7_method_26_code 151 = .ok (.getfield 141, 3) := jx_dec c_M_findOrder_ok 87 rfl
theorem d_M_findOrder_154 : decode prog_7_method_26_code 154 = .ok (.if_icmp .ge 27, 3) := jx_dec c_M_findOrder_ok 88 rfl
theorem d_M_findOrder_157 : decode prog_7_method_26_code 157 = .ok (.aload_n 0, 1) := jx_dec c_M_findOrder_ok 89 rfl
theorem d_M_findOrder_158 : decode prog_7_method_26_code 158 = .ok (.getfield 68, 3) := jx_dec c_M_findOrder_ok 90 rfl
theorem d_M_findOrder_161 : decode prog_7_method_26_code 161 = .ok (.iconst 5, 1) := jx_dec c_M_findOrder_ok 91 rfl
theorem d_M_findOrder_162 : decode prog_7_method_26_code 162 = .ok (.iload_n 3, 1) := jx_dec c_M_findOrder_ok 92 rfl
theorem d_M_findOrder_163 : decode prog_7_method_26_code 163 = .ok (.imul, 1) := jx_dec c_M_findOrder_ok 93 rfl
theorem d_M_findOrder_164 : decode prog_7_method_26_code 164 = .ok (.iload 7, 2) := jx_dec c_M_findOrder_ok 94 rfl
theorem d_M_findOrder_166 : decode prog_7_method_26_code 166 = .ok (.iadd, 1) := jx_dec c_M_findOrder_ok 95 rfl
theorem d_M_findOrder_167 : decode prog_7_method_26_code 167 = .ok (.aload_n 0, 1) := jx_dec c_M_findOrder_ok 96 rfl
theorem d_M_findOrder_168 : decode prog_7_method_26_code 168 = .ok (.getfield 74, 3) := jx_dec c_M_findOrder_ok 97 rfl
theorem d_M_findOrder_171 : decode prog_7_method_26_code 171 = .ok (.iload 7, 2) := jx_dec c_M_findOrder_ok 98 rfl
theorem d_M_findOrder_173 : decode prog_7_method_26_code 173 = .ok (.iaload, 1) := jx_dec c_M_findOrder_ok 99 rfl
theorem d_M_findOrder_174 : decode prog_7_method_26_code 174 = .ok (.iastore, 1) := jx_dec c_M_findOrder_ok 100 rfl
theorem d_M_findOrder_175 : decode prog_7_method_26_code 175 = .ok (.iinc 7 1, 3) := jx_dec c_M_findOrder_ok 101 rfl
theorem d_M_findOrder_178 : decode prog_7_method_26_code 178 = .ok (.goto (-30), 3) := jx_dec c_M_findOrder_ok 102 rfl
theorem d_M_findOrder_181 : decode prog_7_method_26_code 181 = .ok (.aload_n 0, 1) := jx_dec c_M_findOrder_ok 103 rfl
theorem d_M_findOrder_182 : decode prog_7_method_26_code 182 = .ok (.iload 4, 2) := jx_dec c_M_findOrder_ok 104 rfl
theorem d_M_findOrder_184 : decode prog_7_method_26_code 184 = .ok (.invokevirtual 153, 3) := jx_dec c_M_findOrder_ok 105 rfl
theorem d_M_findOrder_187 : decode prog_7_method_26_code 187 = .ok (.istore 5, 2) := jx_dec c_M_findOrder_ok 106 rfl
theorem d_M_findOrder_189 : decode prog_7_method_26_code 189 = .ok (.goto (-113), 3) := jx_dec c_M_findOrder_ok 107 rfl
theorem d_M_findOrder_192 : decode prog_7_method_26_code 192 = .ok (.return_, 1) := jx_dec c_M_findOrder_ok 108 rfl
def c_M_tryOrder : List (Nat × Instr × Nat) := [(0, .aload_n 0, 1), (1, .iload_n 1, 1), (2, .invokevirtual 124, 3), (5, .istore_n 3, 1), (6, .aload_n 0, 1), (7, .getfield 25, 3), (10, .iload_n 1, 1), (11, .iaload, 1), (12, .istore 4, 2), (14, .iconst 0, 1), (15, .istore 5, 2), (17, .iconst 0, 1), (18, .istore 6, 2), (20, .iload 6, 2), (22, .iload_n 2, 1), (23, .if_icmp .ge 90, 3), (26, .aload_n 0, 1), (27, .getfield 62, 3), (30, .aload_n 0, 1), (31, .getfield 71, 3), (34, .iload 6, 2), (36, .iaload, 1), (37, .iaload, 1), (38, .istore 7, 2), (40, .aload_n 0, 1), (41, .iload_n 1, 1), (42, .iload 7, 2), (44, .iload_n 3, 1), (45, .iload 4, 2), (47, .invokevirtual 127, 3), (50, .istore 8, 2), (52, .iload 8, 2), (54, .iconst (-1), 1), (55, .if_icmp .ne 5, 3), (58, .iconst (-1), 1), (59, .ireturn, 1), (60, .aload_n 0, 1), (61, .getfield 74, 3), (64, .aload_n 0, 1), (65, .getfield 71, 3), (68, .iload 6, 2), (70, .iaload, 1), (71, .iload 8, 2), (73, .iastore, 1), (74, .iload 5, 2), (76, .aload_n 0, 1), (77, .iload 7, 2), (79, .iload 8, 2), (81, .invokevirtual 134, 3), (84, .iadd, 1), (85, .istore 5, 2), (87, .iload 8, 2), (89, .aload_n 0, 1), (90, .getfield 44, 3), (93, .iload 7, 2), (95, .iaload, 1), (96, .iadd, 1), (97, .istore_n 3, 1), (98, .aload_n 0, 1), (99, .getfield 50, 3), (102, .iload 7, 2), (104, .iaload, 1), (105, .istore 4, 2), (107, .iinc 6 1, 3), (110, .goto (-90), 3), (113, .iload 5, 2), (115, .ireturn, 1)]
theorem c_M_tryOrder_ok : (c_M_tryOrder).all (fun q => decide (decode prog_7_method_22_code q.1 = .ok q.2)) = true := by decide +kernel
theorem d_M_tryOrder_0 : decode prog_7_method_22_code 0 = .ok (.aload_n 0, 1) := jx_dec c_M_tryOrder_ok 0 rfl
theorem d_M_tryOrder_1 : decode prog_7_method_22_code 1 = .ok (.iload_n 1, 1) := jx_dec c_M_tryOrder_ok 1 rfl
theorem d_M_tryOrder_2 : decode prog_7_method_22_code 2 = .ok (.invokevirtual 124, 3) := jx_dec c_M_tryOrder_ok 2 rfl
theorem d_M_tryOrder_5 : decode prog_7_method_22_code 5 = .ok (.istore_n 3, 1) := jx_dec c_M_tryOrder_ok 3 rfl
theorem d_M_tryOrder_6 : decode prog_7_method_22_code 6 = .ok (.aload_n 0, 1) := jx_dec c_M_tryOrder_ok 4 rfl
theorem d_M_tryOrder_7 : decode prog_7_method_22_code 7 = .ok (.getfield 25, 3) := jx_dec c_M_tryOrder_ok 5 rfl
theorem d_M_tryOrder_10 : decode prog_7_method_22_code 10 = .ok (.iload_n 1, 1) := jx_dec c_M_tryOrder_ok 6 rfl
theorem d_M_tryOrder_11 : decode prog_7_method_22_code 11 = .ok (.iaload, 1) := jx_dec c_M_tryOrder_ok 7 rfl
theorem d_M_tryOrder_12 : decode prog_7_method_22_code 12 = .ok (.istore 4, 2) := jx_dec c_M_tryOrder_ok 8 rfl
theorem d_M_tryOrder_14 : decode prog_7_method_22_code 14 = .ok (.iconst 0, 1) := jx_dec c_M_tryOrder_ok 9 rfl
theorem d_M_tryOrder_15 : decode prog_7_method_22_code 15 = .ok (.istore 5, 2) := jx_dec c_M_tryOrder_ok 10 rfl
theorem d_M_tryOrder_17 : decode prog_7_method_22_code 17 = .ok (.iconst 0, 1) := jx_dec c_M_tryOrder_ok 11 rfl
theorem d_M_tryOrder_18 : decode prog_7_method_22_code 18 = .ok (.istore 6, 2) := jx_dec c_M_tryOrder_ok 12 rfl
theorem d_M_tryOrder_20 : decode prog_7_method_22_code 20 = .ok (.iload 6, 2) := jx_dec c_M_tryOrder_ok 13 rfl
theorem d_M_tryOrder_22 : decode prog_7_method_22_code 22 = .ok (.iload_n 2, 1) := jx_dec c_M_tryOrder_ok 14 rfl
theorem d_M_tryOrder_23 : decode prog_7_method_22_code 23 = .ok (.if_icmp .ge 90, 3) := jx_dec c_M_tryOrder_ok 15 rfl
theorem d_M_tryOrder_26 : decode prog_7_method_22_code 26 = .ok (.aload_n 0, 1) := jx_dec c_M_tryOrder_ok 16 rfl
theorem d_M_tryOrder_27 : decode prog_7_method_22_code 27 = .ok (.getfield 62, 3) := jx_dec c_M_tryOrder_ok 17 rfl
theorem d_M_tryOrder_30 : decode prog_7_method_22_code 30 = .ok (.aload_n 0, 1) := jx_dec c_M_tryOrder_ok 18 rfl
theorem d_M_tryOrder_31 : decode prog_7_method_22_code 31 = .ok (.getfield 71, 3) := jx_dec c_M_tryOrder_ok 19 rfl
theorem d_M_tryOrder_34 : decode prog_7_method_22_code 34 = .ok (.iload 6, 2) := jx_dec c_M_tryOrder_ok 20 rfl
theorem d_M_tryOrder_36 : decode prog_7_method_22_code 36 = .ok (.iaload, 1) := jx_dec c_M_tryOrder_ok 21 rfl
theorem d_M_tryOrder_37 : decode prog_7_method_22_code 37 = .ok (.iaload, 1) := jx_dec c_M_tryOrder_ok 22 rfl
theorem d_M_tryOrder_38 : decode prog_7_method_22_code 38 = .ok (.istore 7, 2) := jx_dec c_M_tryOrder_ok 23 rfl
theorem d_M_tryOrder_40 : decode prog_7_method_22_code 40 = .ok (.aload_n 0, 1) := jx_dec c_M_tryOrder_ok 24 rfl
theorem d_M_tryOrder_41 : decode prog_7_method_22_code 41 = .ok (.iload_n 1, 1) := jx_dec c_M_tryOrder_ok 25 rfl
theorem d_M_tryOrder_42 : decode prog_7_method_22_code 42 = .ok (.iload 7, 2) := jx_dec c_M_tryOrder_ok 26 rfl
theorem d_M_tryOrder_44 : decode prog_7_method_22_code 44 = .ok (.iload_n 3, 1) := jx_dec c_M_tryOrder_ok 27 rfl
theorem d_M_tryOrder_45 : decode prog_7_method_22_code 45 = .ok (.iload 4, 2) := jx_dec c_M_tryOrder_ok 28 rfl
theorem d_M_tryOrder_47 : decode prog_7_method_22_code 47 = .ok (.invokevirtual 127, 3) := jx_dec c_M_tryOrder_ok 29 rfl
theorem d_M_tryOrder_50 : decode prog_7_method_22_code 50 = .ok (.istore 8, 2) := jx_dec c_M_tryOrder_ok 30 rfl
theorem d_M_tryOrder_52 : decode prog_7_method_22_code 52 = .ok (.iload 8, 2) := jx_dec c_M_tryOrder_ok 31 rfl
theorem d_M_tryOrder_54 : decode prog_7_method_22_code 54 = .ok (.iconst (-1), 1) := jx_dec c_M_tryOrder_ok 32 rfl
theorem d_M_tryOrder_55 : decode prog_7_method_22_code 55 = .ok (.if_icmp .ne 5, 3) := jx_dec c_M_tryOrder_ok 33 rfl
theorem d_M_tryOrder_58 : decode prog_7_method_22_code 58 = .ok (.iconst (-1), 1) := jx_dec c_M_tryOrder_ok 34 rfl
theorem d_M_tryOrder_59 : decode prog_7_method_22_code 59 = .ok (.ireturn, 1) := jx_dec c_M_tryOrder_ok 35 rfl
theorem d_M_tryOrder_60 : decode prog_7_method_22_code 60 = .ok (.aload_n 0, 1) := jx_dec c_M_tryOrder_ok 36 rfl
theorem d_M_tryOrder_61 : decode prog_7_method_22_code 61 = .ok (.getfield 74, 3) := jx_dec c_M_tryOrder_ok 37 rfl
theorem d_M_tryOrder_64 : decode prog_7_method_22_code 64 = .ok (.aload_n 0, 1) := jx_dec c_M_tryOrder_ok 38 rfl
theorem d_M_tryOrder_65 : decode prog_7_method_22_code 65 = .ok (.getfield 71, 3) := jx_dec c_M_tryOrder_ok 39 rfl
theorem d_M_tryOrder_68 : decode prog_7_method_22_code 68 = .ok (.iload 6, 2) := jx_dec c_M_tryOrder_ok 40 rfl
theorem d_M_tryOrder_70 : decode prog_7_method_22_code 70 = .ok (.iaload, 1) := jx_dec c_M_tryOrder_ok 41 rfl
theorem d_M_tryOrder_71 : decode prog_7_method_22_code 71 = .ok (.iload 8, 2) := jx_dec c_M_tryOrder_ok 42 rfl
theorem d_M_tryOrder_73 : decode prog_7_method_22_code 73 = .ok (.iastore, 1) := jx_dec c_M_tryOrder_ok 43 rfl
theorem d_M_tryOrder_74 : decode prog_7_method_22_code 74 = .ok (.iload 5, 2) := jx_dec c_M_tryOrder_ok 44 rfl
theorem d_M_tryOrder_76 : decode prog_7_method_22_code 76 = .ok (.aload_n 0, 1) := jx_dec c_M_tryOrder_ok 45 rfl
theorem d_M_tryOrder_77 : decode prog_7_method_22_code 77 = .ok (.iload 7, 2) := jx_dec c_M_tryOrder_ok 46 rfl
theorem d_M_tryOrder_79 : decode prog_7_method_22_code 79 = .ok (.iload 8, 2) := jx_dec c_M_tryOrder_ok 47 rfl
theorem d_M_tryOrder_81 : decode prog_7_method_22_code 81 = .ok (.invokevirtual 134, 3) := jx_dec c_M_tryOrder_ok 48 rfl
theorem d_M_tryOrder_84 : decode prog_7_method_22_code 84 = .ok (.iadd, 1) := jx_dec c_M_tryOrder_ok 49 rfl
theorem d_M_tryOrder_85 : decode prog_7_method_22_code 85 = .ok (.istore 5, 2) := jx_dec c_M_tryOrder_ok 50 rfl
theorem d_M_tryOrder_87 : decode prog_7_method_22_code 87 = .ok (.iload 8, 2) := jx_dec c_M_tryOrder_ok 51 rfl
theorem d_M_tryOrder_89 : decode prog_7_method_22_code 89 = .ok (.aload_n 0, 1) := jx_dec c_M_tryOrder_ok 52 rfl
theorem d_M_tryOrder_90 : decode prog_7_method_22_code 90 = .ok (.getfield 44, 3) := jx_dec c_M_tryOrder_ok 53 rfl
theorem d_M_tryOrder_93 : decode prog_7_method_22_code 93 = .ok (.iload 7, 2) := jx_dec c_M_tryOrder_ok 54 rfl
theorem d_M_tryOrder_95 : decode prog_7_method_22_code 95 = .ok (.iaload, 1) := jx_dec c_M_tryOrder_ok 55 rfl
theorem d_M_tryOrder_96 : decode prog_7_method_22_code 96 = .ok (.iadd, 1) := jx_dec c_M_tryOrder_ok 56 rfl
theorem d_M_tryOrder_97 : decode prog_7_method_22_code 97 = .ok (.istore_n 3, 1) := jx_dec c_M_tryOrder_ok 57 rfl
theorem d_M_tryOrder_98 : decode prog_7_method_22_code 98 = .ok (.aload_n 0, 1) := jx_dec c_M_tryOrder_ok 58 rfl
theorem d_M_tryOrder_99 : decode prog_7_method_22_code 99 = .ok (.getfield 50, 3) := jx_dec c_M_tryOrder_ok 59 rfl
theorem d_M_tryOrder_102 : decode prog_7_method_22_code 102 = .ok (.iload 7, 2) := jx_dec c_M_tryOrder_ok 60 rfl
theorem d_M_tryOrder_104 : decode prog_7_method_22_code 104 = .ok (.iaload, 1) := jx_dec c_M_tryOrder_ok 61 rfl
theorem d_M_tryOrder_105 : decode prog_7_method_22_code 105 = .ok (.istore 4, 2) := jx_dec c_M_tryOrder_ok 62 rfl
theorem d_M_tryOrder_107 : decode prog_7_method_22_code 107 = .ok (.iinc 6 1, 3) := jx_dec c_M_tryOrder_ok 63 rfl
theorem d_M_tryOrder_110 : decode prog_7_method_22_code 110 = .ok (.goto (-90), 3) := jx_dec c_M_tryOrder_ok 64 rfl
theorem d_M_tryOrder_113 : decode prog_7_method_22_code 113 = .ok (.iload 5, 2) := jx_dec c_M_tryOrder_ok 65 rfl
theorem d_M_tryOrder_115 : decode prog_7_method_22_code 115 = .ok (.ireturn, 1) := jx_dec c_M_tryOrder_ok 66 rfl
def c_M_startsAreLess : List (Nat × Instr × Nat) := [(0, .iconst 0, 1), (1, .istore_n 3, 1), (2, .iload_n 3, 1), (3, .aload_n 0, 1), (4, .getfield 141, 3), (7, .if_icmp .ge 62, 3), (10, .iload_n 2, 1), (11, .iload_n 3, 1), (12, .ishr, 1), (13, .iconst 1, 1), (14, .iand, 1), (15, .iconst 1, 1), (16, .if_icmp .ne 47, 3), (19, .aload_n 0, 1), (20, .getfield 74, 3), (23, .iload_n 3, 1), (24, .iaload, 1), (25, .aload_n 0, 1), (26, .getfield 68, 3), (29, .iconst 5, 1), (30, .iload_n 1, 1), (31, .imul, 1), (32, .iload_n 3, 1), (33, .iadd, 1), (34, .iaload, 1), (35, .if_icmp .eq 28, 3), (38, .aload_n 0, 1), (39, .getfield 74, 3), (42, .iload_n 3, 1), (43, .iaload, 1), (44, .aload_n 0, 1), (45, .getfield 68, 3), (48, .iconst 5, 1), (49, .iload_n 1, 1), (50, .imul, 1), (51, .iload_n 3, 1), (52, .iadd, 1), (53, .iaload, 1), (54, .if_icmp .ge 7, 3), (57, .iconst 1, 1), (58, .goto 4, 3), (61, .iconst 0, 1), (62, .ireturn, 1), (63, .iinc 3 1, 3), (66, .goto (-64), 3), (69, .iconst 0, 1), (70, .ireturn, 1)]
theorem c_M_startsAreLess_ok : (c_M_startsAreLess).all (fun q => decide (decode prog_7_method_25_code q.1 = .ok q.2)) = true := by decide +kernel
theorem d_M_startsAreLess_0 : decode prog_7_method_25_code 0 = .ok (.iconst 0, 1) := jx_dec c_M_startsAreLess_ok 0 rfl
theorem d_M_startsAreLess_1 : decode prog_7_method_25_code 1 = .ok (.istore_n 3, 1) := jx_dec c_M_startsAreLess_ok 1 rfl
theorem d_M_startsAreLess_2 : decode prog_7_method_25_code 2 = .ok (.iload_n 3, 1) := jx_dec c_M_startsAreLess_ok 2 rfl
theorem d_M_startsAreLess_3 : decode prog_7_method_25_code 3 = .ok (.aload_n 0, 1) := jx_dec c_M_startsAreLess_ok 3 rfl
theorem d_M_startsAreLess_4 : decode prog_7_method_25_code 4 = .ok (.getfield 141, 3) := jx_dec c_M_startsAreLess_ok 4 rfl
theorem d_M_startsAreLess_7 : decode prog_7_method_25_code 7 = .ok (.if_icmp .ge 62, 3) := jx_dec c_M_startsAreLess_ok 5 rfl
theorem d_M_startsAreLess_10 : decode prog_7_method_25_code 10 = .ok (.iload_n 2, 1) := jx_dec c_M_startsAreLess_ok 6 rfl
theorem d_M_startsAreLess_11 : decode prog_7_method_25_code 11 = .ok (.iload_n 3, 1) := jx_dec c_M_startsAreLess_ok 7 rfl
theorem d_M_startsAreLess_12 : decode prog_7_method_25_code 12 = .ok (.ishr, 1) := jx_dec c_M_startsAreLess_ok 8 rfl
theorem d_M_startsAreLess_13 : decode prog_7_method_25_code 13 = .ok (.iconst 1, 1) := jx_dec c_M_startsAreLess_ok 9 rfl
theorem d_M_startsAreLess_14 : decode prog_7_method_25_code 14 = .ok (.iand, 1) := jx_dec c_M_startsAreLess_ok 10 rfl
theorem d_M_startsAreLess_15 : decode prog_7_method_25_code 15 = .ok (.iconst 1, 1) := jx_dec c_M_startsAreLess_ok 11 rfl
theorem d_M_startsAreLess_16 : decode prog_7_method_25_code 16 = .ok (.if_icmp .ne 47, 3) := jx_dec c_M_startsAreLess_ok 12 rfl
theorem d_M_startsAreLess_19 : decode prog_7_method_25_code 19 = .ok (.aload_n 0, 1) := jx_dec c_M_startsAreLess_ok 13 rfl
theorem d_M_startsAreLess_20 : decode prog_7_method_25_code 20 = .ok (.getfield 74, 3) := jx_dec c_M_startsAreLess_ok 14 rfl
theorem d_M_startsAreLess_23 : decode prog_7_method_25_code 23 = .ok (.iload_n 3, 1) := jx_dec c_M_startsAreLess_ok 15 rfl
theorem d_M_startsAreLess_24 : decode prog_7_method_25_code 24 = .ok (.iaload, 1) := jx_dec c_M_startsAreLess_ok 16 rfl
theorem d_M_startsAreLess_25 : decode prog_7_method_25_code 25 = .ok (.aload_n 0, 1) := jx_dec c_M_startsAreLess_ok 17 rfl
theorem d_M_startsAreLess_26 : decode prog_7_method_25_code 26 = .ok (.getfield 68, 3) := jx_dec c_M_startsAreLess_ok 18 rfl
theorem d_M_startsAreLess_29 : decode prog_7_method_25_code 29 = .ok (.iconst 5, 1) := jx_dec c_M_startsAreLess_ok 19 rfl
theorem d_M_startsAreLess_30 : decode prog_7_method_25_code 30 = .ok (.iload_n 1, 1) := jx_dec c_M_startsAreLess_ok 20 rfl
theorem d_M_startsAreLess_31 : decode prog_7_method_25_code 31 = .ok (.imul, 1) := jx_dec c_M_startsAreLess_ok 21 rfl
theorem d_M_startsAreLess_32 : decode prog_7_method_25_code 32 = .ok (.iload_n 3, 1) := jx_dec c_M_startsAreLess_ok 22 rfl
theorem d_M_startsAreLess_33 : decode prog_7_method_25_code 33 = .ok (.iadd, 1) := jx_dec c_M_startsAreLess_ok 23 rfl
theorem d_M_startsAreLess_34 : decode prog_7_method_25_code 34 = .ok (.iaload, 1) := jx_dec c_M_startsAreLess_ok 24 rfl
theorem d_M_startsAreLess_35 : decode prog_7_method_25_code 35 = .ok (.if_icmp .eq 28, 3) := jx_dec c_M_startsAreLess_ok 25 rfl
theorem d_M_startsAreLess_38 : decode prog_7_method_25_code 38 = .ok (.aload_n 0, 1) := jx_dec c_M_startsAreLess_ok 26 rfl
theorem d_M_startsAreLess_39 : decode prog_7_method_25_code 39 = .ok (.getfield 74, 3) := jx_dec c_M_startsAreLess_ok 27 rfl
theorem d_M_startsAreLess_42 : decode prog_7_method_25_code 42 = .ok (.iload_n 3, 1) := jx_dec c_M_startsAreLess_ok 28 rfl
theorem d_M_startsAreLess_43 : decode prog_7_method_25_code 43 = .ok (.iaload, 1) := jx_dec c_M_startsAreLess_ok 29 rfl
theorem d_M_startsAreLess_44 : decode prog_7_method_25_code 44 = .ok (.aload_n 0, 1) := jx_dec c_M_startsAreLess_ok 30 rfl
theorem d_M_startsAreLess_45 : decode prog_7_method_25_code 45 = .ok (.getfield 68, 3) := jx_dec c_M_startsAreLess_ok 31 rfl
theorem d_M_startsAreLess_48 : decode prog_7_method_25_code 48 = .ok (.iconst 5, 1) := jx_dec c_M_startsAreLess_ok 32 rfl
theorem d_M_startsAreLess_49 : decode prog_7_method_25_code 49 = .ok (.iload_n 1, 1) := jx_dec c_M_startsAreLess_ok 33 rfl
theorem d_M_startsAreLess_50 : decode prog_7_method_25_code 50 = .ok (.imul, 1) := jx_dec c_M_startsAreLess_ok 34 rfl
theorem d_M_startsAreLess_51 : decode prog_7_method_25_code 51 = .ok (.iload_n 3, 1) := jx_dec c_M_startsAreLess_ok 35 rfl
theorem d_M_startsAreLess_52 : decode prog_7_method_25_code 52 = .ok (.iadd, 1) := jx_dec c_M_startsAreLess_ok 36 rfl
theorem d_M_startsAreLess_53 : decode prog_7_method_25_code 53 = .ok (.iaload, 1) := jx_dec c_M_startsAreLess_ok 37 rfl
theorem d_M_startsAreLess_54 : decode prog_7_method_25_code 54 = .ok (.if_icmp .ge 7, 3) := jx_dec c_M_startsAreLess_ok 38 rfl
theorem d_M_startsAreLess_57 : decode prog_7_method_25_code 57 = .ok (.iconst 1, 1) := jx_dec c_M_startsAreLess_ok 39 rfl
theorem d_M_startsAreLess_58 : decode prog_7_method_25_code 58 = .ok (.goto 4, 3) := jx_dec c_M_startsAreLess_ok 40 rfl
theorem d_M_startsAreLess_61 : decode prog_7_method_25_code 61 = .ok (.iconst 0, 1) := jx_dec c_M_startsAreLess_ok 41 rfl
theorem d_M_startsAreLess_62 : decode prog_7_method_25_code 62 = .ok (.ireturn, 1) := jx_dec c_M_startsAreLess_ok 42 rfl
theorem d_M_startsAreLess_63 : decode prog_7_method_25_code 63 = .ok (.iinc 3 1, 3) := jx_dec c_M_startsAreLess_ok 43 rfl
theorem d_M_startsAreLess_66 : decode prog_7_method_25_code 66 = .ok (.goto (-64), 3) := jx_dec c_M_startsAreLess_ok 44 rfl
theorem d_M_startsAreLess_69 : decode prog_7_method_25_code 69 = .ok (.iconst 0, 1) := jx_dec c_M_startsAreLess_ok 45 rfl
theorem d_M_startsAreLess_70 : decode prog_7_method_25_code 70 = .ok (.ireturn, 1) := jx_dec c_M_startsAreLess_ok 46 rfl
def c_M_nextOrder : List (Nat × Instr × Nat) := [(0, .iload_n 1, 1), (1, .iconst 2, 1), (2, .isub, 1), (3, .istore_n 2, 1), (4, .iload_n 2, 1), (5, .ifCond .lt 26, 3), (8, .aload_n 0, 1), (9, .getfield 71, 3), (12, .iload_n 2, 1), (13, .iaload, 1), (14, .aload_n 0, 1), (15, .getfield 71, 3), (18, .iload_n 2, 1), (19, .iconst 1, 1), (20, .iadd, 1), (21, .iaload, 1), (22, .if_icmp .le 9, 3), (25, .iinc 2 (-1), 3), (28, .goto (-24), 3), (31, .iload_n 2, 1), (32, .ifCond .ge 5, 3), (35, .iconst 0, 1), (36, .ireturn, 1), (37, .iload_n 1, 1), (38, .iconst 1, 1), (39, .isub, 1), (40, .istore_n 3, 1), (41, .aload_n 0, 1), (42, .getfield 71, 3), (45, .iload_n 3, 1), (46, .iaload, 1), (47, .aload_n 0, 1), (48, .getfield 71, 3), (51, .iload_n 2, 1), (52, .iaload, 1), (53, .if_icmp .ge 9, 3), (56, .iinc 3 (-1), 3), (59, .goto (-18), 3), (62, .aload_n 0, 1), (63, .iload_n 2, 1), (64, .iload_n 3, 1), (65, .invokevirtual 137, 3), (68, .iload_n 2, 1), (69, .iconst 1, 1), (70, .iadd, 1), (71, .istore 4, 2), (73, .iload_n 1, 1), (74, .iconst 1, 1), (75, .isub, 1), (76, .istore 5, 2), (78, .iload 4, 2), (80, .iload 5, 2), (82, .if_icmp .ge 20, 3), (85, .aload_n 0, 1), (86, .iload 4, 2), (88, .iload 5, 2), (90, .invokevirtual 137, 3), (93, .iinc 4 1, 3), (96, .iinc 5 (-1), 3), (99, .goto (-21), 3), (102, .iconst 1, 1), (103, .ireturn, 1)]
theorem c_M_nextOrder_ok : (c_M_nextOrder).all (fun q => decide (decode prog_7_method_23_code q.1 = .ok q.2)) = true := by decide +kernel
theorem d_M_nextOrder_0 : decode prog_7_method_23_code 0 = .ok (.iload_n 1, 1) := jx_dec c_M_nextOrder_ok 0 rfl
theorem d_M_nextOrder_1 : decode prog_7_method_23_code 1 = .ok (.iconst 2, 1) := jx_dec c_M_nextOrder_ok 1 rfl
theorem d_M_nextOrder_2 : decode prog_7_method_23_code 2 = .ok (.isub, 1) := jx_dec c_M_nextOrder_ok 2 rfl
theorem d_M_nextOrder_3 : decode prog_7_method_23_code 3 = .ok (.istore_n 2, 1) := jx_dec c_M_nextOrder_ok 3 rfl
theorem d_M_nextOrder_4 : decode prog_7_method_23_code 4 = .ok (.iload_n 2, 1) := jx_dec c_M_nextOrder_ok 4 rfl
theorem d_M_nextOrder_5 : decode prog_7_method_23_code 5 = .ok (.ifCond .lt 26, 3) := jx_dec c_M_nextOrder_ok 5 rfl
theorem d_M_nextOrder_8 : decode prog_7_method_23_code 8 = .ok (.aload_n 0, 1) := jx_dec c_M_nextOrder_ok 6 rfl
theorem d_M_nextOrder_9 : decode prog_7_method_23_code 9 = .ok (.getfield 71, 3) := jx_dec c_M_nextOrder_ok 7 rfl
theorem d_M_nextOrder_12 : decode prog_7_method_23_code 12 = .ok (.iload_n 2, 1) := jx_dec c_M_nextOrder_ok 8 rfl
theorem d_M_nextOrder_13 : decode prog_7_method_23_code 13 = .ok (.iaload, 1) := jx_dec c_M_nextOrder_ok 9 rfl
theorem d_M_nextOrder_14 : decode prog_7_method_23_code 14 = .ok (.aload_n 0, 1) := jx_dec c_M_nextOrder_ok 10 rfl
theorem d_M_nextOrder_15 : decode prog_7_method_23_code 15 = .ok (.getfield 71, 3) := jx_dec c_M_nextOrder_ok 11 rfl
theorem d_M_nextOrder_18 : decode prog_7_method_23_code 18 = .ok (.iload_n 2, 1) := jx_dec c_M_nextOrder_ok 12 rfl
theorem d_M_nextOrder_19 : decode prog_7_method_23_code 19 = .ok (.iconst 1, 1) := jx_dec c_M_nextOrder_ok 13 rfl
theorem d_M_nextOrder_20 : decode prog_7_method_23_code 20 = .ok (.iadd, 1) := jx_dec c_M_nextOrder_ok 14 rfl
theorem d_M_nextOrder_21 : decode prog_7_method_23_code 21 = .ok (.iaload, 1) := jx_dec c_M_nextOrder_ok 15 rfl
theorem d_M_nextOrder_22 : decode prog_7_method_23_code 22 = .ok (.if_icmp .le 9, 3) := jx_dec c_M_nextOrder_ok 16 rfl
theorem d_M_nextOrder_25 : decode prog_7_method_23_code 25 = .ok (.iinc 2 (-1), 3) := jx_dec c_M_nextOrder_ok 17 rfl
theorem d_M_nextOrder_28 : decode prog_7_method_23_code 28 = .ok (.goto (-24), 3) := jx_dec c_M_nextOrder_ok 18 rfl
theorem d_M_nextOrder_31 : decode prog_7_method_23_code 31 = .ok (.iload_n 2, 1) := jx_dec c_M_nextOrder_ok 19 rfl
theorem d_M_nextOrder_32 : decode prog_7_method_23_code 32 = .ok (.ifCond .ge 5, 3) := jx_dec c_M_nextOrder_ok 20 rfl
theorem d_M_nextOrder_35 : decode prog_7_method_23_code 35 = .ok (.iconst 0, 1) := jx_dec c_M_nextOrder_ok 21 rfl
theorem d_M_nextOrder_36 : decode prog_7_method_23_code 36 = .ok (.ireturn, 1) := jx_dec c_M_nextOrder_ok 22 rfl
theorem d_M_nextOrder_37 : decode prog_7_method_23_code 37 = .ok (.iload_n 1, 1) := jx_dec c_M_nextOrder_ok 23 rfl
theorem d_M_nextOrder_38 : decode prog_7_method_23_code 38 = .ok (.iconst 1, 1) := jx_dec c_M_nextOrder_ok 24 rfl
theorem d_M_nextOrder_39 : decode prog_7_method_23_code 39 = .ok (.isub, 1) := jx_dec c_M_nextOrder_ok 25 rfl
theorem d_M_nextOrder_40 : decode prog_7_method_23_code 40 = .ok (.istore_n 3, 1) := jx_dec c_M_nextOrder_ok 26 rfl
theorem d_M_nextOrder_41 : decode prog_7_method_23_code 41 = .ok (.aload_n 0, 1) := jx_dec c_M_nextOrder_ok 27 rfl
theorem d_M_nextOrder_42 : decode prog_7_method_23_code 42 = .ok (.getfield 71, 3) := jx_dec c_M_nextOrder_ok 28 rfl
theorem d_M_nextOrder_45 : decode prog_7_method_23_code 45 = .ok (.iload_n 3, 1) := jx_dec c_M_nextOrder_ok 29 rfl
theorem d_M_nextOrder_46 : decode prog_7_method_23_code 46 = .ok (.iaload, 1) := jx_dec c_M_nextOrder_ok 30 rfl
theorem d_M_nextOrder_47 : decode prog_7_method_23_code 47 = .ok (.aload_n 0, 1) := jx_dec c_M_nextOrder_ok 31 rfl
theorem d_M_nextOrder_48 : decode prog_7_method_23_code 48 = .ok (.getfield 71, 3) := jx_dec c_M_nextOrder_ok 32 rfl
theorem d_M_nextOrder_51 : decode prog_7_method_23_code 51 = .ok (.iload_n 2, 1) := jx_dec c_M_nextOrder_ok 33 rfl
theorem d_M_nextOrder_52 : decode prog_7_method_23_code 52 = .ok (.iaload, 1) := jx_dec c_M_nextOrder_ok 34 rfl
theorem d_M_nextOrder_53 : decode prog_7_method_23_code 53 = .ok (.if_icmp .ge 9, 3) := jx_dec c_M_nextOrder_ok 35 rfl
theorem d_M_nextOrder_56 : decode prog_7_method_23_code 56 = .ok (.iinc 3 (-1), 3) := jx_dec c_M_nextOrder_ok 36 rfl
theorem d_M_nextOrder_59 : decode prog_7_method_23_code 59 = .ok (.goto (-18), 3) := jx_dec c_M_nextOrder_ok 37 rfl
theorem d_M_nextOrder_62 : decode prog_7_method_23_code 62 = .ok (.aload_n 0, 1) := jx_dec c_M_nextOrder_ok 38 rfl
theorem d_M_nextOrder_63 : decode prog_7_method_23_code 63 = .ok (.iload_n 2, 1) := jx_dec c_M_nextOrder_ok 39 rfl
theorem d_M_nextOrder_64 : decode prog_7_method_23_code 64 = .ok (.iload_n 3, 1) := jx_dec c_M_nextOrder_ok 40 rfl
theorem d_M_nextOrder_65 : decode prog_7_method_23_code 65 = .ok (.invokevirtual 137, 3) := jx_dec c_M_nextOrder_ok 41 rfl
theorem d_M_nextOrder_68 : decode prog_7_method_23_code 68 = .ok (.iload_n 2, 1) := jx_dec c_M_nextOrder_ok 42 rfl
theorem d_M_nextOrder_69 : decode prog_7_method_23_code 69 = .ok (.iconst 1, 1) := jx_dec c_M_nextOrder_ok 43 rfl
theorem d_M_nextOrder_70 : decode prog_7_method_23_code 70 = .ok (.iadd, 1) := jx_dec c_M_nextOrder_ok 44 rfl
theorem d_M_nextOrder_71 : decode prog_7_method_23_code 71 = .ok (.istore 4, 2) := jx_dec c_M_nextOrder_ok 45 rfl
theorem d_M_nextOrder_73 : decode prog_7_method_23_code 73 = .ok (.iload_n 1, 1) := jx_dec c_M_nextOrder_ok 46 rfl
theorem d_M_nextOrder_74 : decode prog_7_method_23_code 74 = .ok (.iconst 1, 1) := jx_dec c_M_nextOrder_ok 47 rfl
theorem d_M_nextOrder_75 : decode prog_7_method_23_code 75 = .ok (.isub, 1) := jx_dec c_M_nextOrder_ok 48 rfl
theorem d_M_nextOrder_76 : decode prog_7_method_23_code 76 = .ok (.istore 5, 2) := jx_dec c_M_nextOrder_ok 49 rfl
theorem d_M_nextOrder_78 : decode prog_7_method_23_code 78 = .ok (.iload 4, 2) := jx_dec c_M_nextOrder_ok 50 rfl
theorem d_M_nextOrder_80 : decode prog_7_method_23_code 80 = .ok (.iload 5, 2) := jx_dec c_M_nextOrder_ok 51 rfl
theorem d_M_nextOrder_82 : decode prog_7_method_23_code 82 = .ok (.if_icmp .ge 20, 3) := jx_dec c_M_nextOrder_ok 52 rfl
theorem d_M_nextOrder_85 : decode prog_7_method_23_code 85 = .ok (.aload_n 0, 1) := jx_dec c_M_nextOrder_ok 53 rfl
theorem d_M_nextOrder_86 : decode prog_7_method_23_code 86 = .ok (.iload 4, 2) := jx_dec c_M_nextOrder_ok 54 rfl
theorem d_M_nextOrder_88 : decode prog_7_method_23_code 88 = .ok (.iload 5, 2) := jx_dec c_M_nextOrder_ok 55 rfl
theorem d_M_nextOrder_90 : decode prog_7_method_23_code 90 = .ok (.invokevirtual 137, 3) := jx_dec c_M_nextOrder_ok 56 rfl
theorem d_M_nextOrder_93 : decode prog_7_method_23_code 93 = .ok (.iinc 4 1, 3) := jx_dec c_M_nextOrder_ok 57 rfl
theorem d_M_nextOrder_96 : decode prog_7_method_23_code 96 = .ok (.iinc 5 (-1), 3) := jx_dec c_M_nextOrder_ok 58 rfl
theorem d_M_nextOrder_99 : decode prog_7_method_23_code 99 = .ok (.goto (-21), 3) := jx_dec c_M_nextOrder_ok 59 rfl
theorem d_M_nextOrder_102 : decode prog_7_method_23_code 102 = .ok (.iconst 1, 1) := jx_dec c_M_nextOrder_ok 60 rfl
theorem d_M_nextOrder_103 : decode prog_7_method_23_code 103 = .ok (.ireturn, 1) := jx_dec c_M_nextOrder_ok 61 rfl
def c_M_swap : List (Nat × Instr × Nat) := [(0, .aload_n 0, 1), (1, .getfield 71, 3), (4, .iload_n 1, 1), (5, .iaload, 1), (6, .istore_n 3, 1), (7, .aload_n 0, 1), (8, .getfield 71, 3), (11, .iload_n 1, 1), (12, .aload_n 0, 1), (13, .getfield 71, 3), (16, .iload_n 2, 1), (17, .iaload, 1), (18, .iastore, 1), (19, .aload_n 0, 1), (20, .getfield 71, 3), (23, .iload_n 2, 1), (24, .iload_n 3, 1), (25, .iastore, 1), (26, .return_, 1)]
theorem c_M_swap_ok : (c_M_swap).all (fun q => decide (decode prog_7_method_24_code q.1 = .ok q.2)) = true := by decide +kernel
theorem d_M_swap_0 : decode prog_7_method_24_code 0 = .ok (.aload_n 0, 1) := jx_dec c_M_swap_ok 0 rfl
theorem d_M_swap_1 : decode prog_7_method_24_code 1 = .ok (.getfield 71, 3) := jx_dec c_M_swap_ok 1 rfl
theorem d_M_swap_4 : decode prog_7_method_24_code 4 = .ok (.iload_n 1, 1) := jx_dec c_M_swap_ok 2 rfl
theorem d_M_swap_5 : decode prog_7_method_24_code 5 = .ok (.iaload, 1) := jx_dec c_M_swap_ok 3 rfl
theorem d_M_swap_6 : decode prog_7_method_24_code 6 = .ok (.istore_n 3, 1) := jx_dec c_M_swap_ok 4 rfl
theorem d_M_swap_7 : decode prog_7_method_24_code 7 = .ok (.aload_n 0, 1) := jx_dec c_M_swap_ok 5 rfl
theorem d_M_swap_8 : decode prog_7_method_24_code 8 = .ok (.getfield 71, 3) := jx_dec c_M_swap_ok 6 rfl
theorem d_M_swap_11 : decode prog_7_method_24_code 11 = .ok (.iload_n 1, 1) := jx_dec c_M_swap_ok 7 rfl
theorem d_M_swap_12 : decode prog_7_method_24_code 12 = .ok (.aload_n 0, 1) := jx_dec c_M_swap_ok 8 rfl
theorem d_M_swap_13 : decode prog_7_method_24_code 13 = .ok (.getfield 71, 3) := jx_dec c_M_swap_ok 9 rfl
theorem d_M_swap_16 : decode prog_7_method_24_code 16 = .ok (.iload_n 2, 1) := jx_dec c_M_swap_ok 10 rfl
theorem d_M_swap_17 : decode prog_7_method_24_code 17 = .ok (.iaload, 1) := jx_dec c_M_swap_ok 11 rfl
theorem d_M_swap_18 : decode prog_7_method_24_code 18 = .ok (.iastore, 1) := jx_dec c_M_swap_ok 12 rfl
theorem d_M_swap_19 : decode prog_7_method_24_code 19 = .ok (.aload_n 0, 1) := jx_dec c_M_swap_ok 13 rfl
theorem d_M_swap_20 : decode prog_7_method_24_code 20 = .ok (.getfield 71, 3) := jx_dec c_M_swap_ok 14 rfl
theorem d_M_swap_23 : decode prog_7_method_24_code 23 = .ok (.iload_n 2, 1) := jx_dec c_M_swap_ok 15 rfl
theorem d_M_swap_24 : decode prog_7_method_24_code 24 = .ok (.iload_n 3, 1) := jx_dec c_M_swap_ok 16 rfl
theorem d_M_swap_25 : decode prog_7_method_24_code 25 = .ok (.iastore, 1) := jx_dec c_M_swap_ok 17 rfl
theorem d_M_swap_26 : decode prog_7_method_24_code 26 = .ok (.return_, 1) := jx_dec c_M_swap_ok 18 rfl
def c_M_costOf : List (Nat × Instr × Nat) := [(0, .iconst 0, 1), (1, .istore_n 1, 1), (2, .iconst 0, 1), (3, .istore_n 2, 1), (4, .iload_n 2, 1), (5, .aload_n 0, 1), (6, .getfield 141, 3), (9, .if_icmp .ge 27, 3), (12, .aload_n 0, 1), (13, .getfield 77, 3), (16, .iload_n 2, 1), (17, .iaload, 1), (18, .aload_n 0, 1), (19, .getfield 87, 3), (22, .if_icmp .ne 8, 3), (25, .iload_n 1, 1), (26, .ldc 97, 2), (28, .iadd, 1), (29, .istore_n 1, 1), (30, .iinc 2 1, 3), (33, .goto (-29), 3), (36, .iconst 0, 1), (37, .istore_n 2, 1), (38, .iload_n 2, 1), (39, .aload_n 0, 1), (40, .getfield 87, 3), (43, .if_icmp .ge 36, 3), (46, .aload_n 0, 1), (47, .getfield 65, 3), (50, .bipush 32, 2), (52, .iload_n 2, 1), (53, .imul, 1), (54, .aload_n 0, 1), (55, .iload_n 2, 1), (56, .invokevirtual 156, 3), (59, .iadd, 1), (60, .iaload, 1), (61, .istore_n 3, 1), (62, .iload_n 3, 1), (63, .iconst (-1), 1), (64, .if_icmp .ne 5, 3), (67, .iconst (-1), 1), (68, .ireturn, 1), (69, .iload_n 1, 1), (70, .iload_n 3, 1), (71, .iadd, 1), (72, .istore_n 1, 1), (73, .iinc 2 1, 3), (76, .goto (-38), 3), (79, .iload_n 1, 1), (80, .ireturn, 1)]
theorem c_M_costOf_ok : (c_M_costOf).all (fun q => decide (decode prog_7_method_28_code q.1 = .ok q.2)) = true := by decide +kernel
theorem d_M_costOf_0 : decode prog_7_method_28_code 0 = .ok (.iconst 0, 1) := jx_dec c_M_costOf_ok 0 rfl
theorem d_M_costOf_1 : decode prog_7_method_28_code 1 = .ok (.istore_n 1, 1) := jx_dec c_M_costOf_ok 1 rfl
theorem d_M_costOf_2 : decode prog_7_method_28_code 2 = .ok (.iconst 0, 1) := jx_dec c_M_costOf_ok 2 rfl
theorem d_M_costOf_3 : decode prog_7_method_28_code 3 = .ok (.istore_n 2, 1) := jx_dec c_M_costOf_ok 3 rfl
theorem d_M_costOf_4 : decode prog_7_method_28_code 4 = .ok (.iload_n 2, 1) := jx_dec c_M_costOf_ok 4 rfl
theorem d_M_costOf_5 : decode prog_7_method_28_code 5 = .ok (.aload_n 0, 1) := jx_dec c_M_costOf_ok 5 rfl
theorem d_M_costOf_6 : decode prog_7_method_28_code 6 = .ok (.getfield 141, 3) := jx_dec c_M_costOf_ok 6 rfl
theorem d_M_costOf_9 : decode prog_7_method_28_code 9 = .ok (.if_icmp .ge 27, 3) := jx_dec c_M_costOf_ok 7 rfl
theorem d_M_costOf_12 : decode prog_7_method_28_code 12 = .ok (.aload_n 0, 1) := jx_dec c_M_costOf_ok 8 rfl
theorem d_M_costOf_13 : decode prog_7_method_28_code 13 = .ok (.getfield 77, 3) := jx_dec c_M_costOf_ok 9 rfl
theorem d_M_costOf_16 : decode prog_7_method_28_code 16 = .ok (.iload_n 2, 1) := jx_dec c_M_costOf_ok 10 rfl
theorem d_M_costOf_17 : decode prog_7_method_28_code 17 = .ok (.iaload, 1) := jx_dec c_M_costOf_ok 11 rfl
theorem d_M_costOf_18 : decode prog_7_method_28_code 18 = .ok (.aload_n 0, 1) := jx_dec c_M_costOf_ok 12 rfl
theorem d_M_costOf_19 : decode prog_7_method_28_code 19 = .ok (.getfield 87, 3) := jx_dec c_M_costOf_ok 13 rfl
theorem d_M_costOf_22 : decode prog_7_method_28_code 22 = .ok (.if_icmp .ne 8, 3) := jx_dec c_M_costOf_ok 14 rfl
theorem d_M_costOf_25 : decode prog_7_method_28_code 25 = .ok (.iload_n 1, 1) := jx_dec c_M_costOf_ok 15 rfl
theorem d_M_costOf_26 : decode prog_7_method_28_code 26 = .ok (.ldc 97, 2) := jx_dec c_M_costOf_ok 16 rfl
theorem d_M_costOf_28 : decode prog_7_method_28_code 28 = .ok (.iadd, 1) := jx_dec c_M_costOf_ok 17 rfl
theorem d_M_costOf_29 : decode prog_7_method_28_code 29 = .ok (.istore_n 1, 1) := jx_dec c_M_costOf_ok 18 rfl
theorem d_M_costOf_30 : decode prog_7_method_28_code 30 = .ok (.iinc 2 1, 3) := jx_dec c_M_costOf_ok 19 rfl
theorem d_M_costOf_33 : decode prog_7_method_28_code 33 = .ok (.goto (-29), 3) := jx_dec c_M_costOf_ok 20 rfl
theorem d_M_costOf_36 : decode prog_7_method_28_code 36 = .ok (.iconst 0, 1) := jx_dec c_M_costOf_ok 21 rfl
theorem d_M_costOf_37 : decode prog_7_method_28_code 37 = .ok (.istore_n 2, 1) := jx_dec c_M_costOf_ok 22 rfl
theorem d_M_costOf_38 : decode prog_7_method_28_code 38 = .ok (.iload_n 2, 1) := jx_dec c_M_costOf_ok 23 rfl
theorem d_M_costOf_39 : decode prog_7_method_28_code 39 = .ok (.aload_n 0, 1) := jx_dec c_M_costOf_ok 24 rfl
theorem d_M_costOf_40 : decode prog_7_method_28_code 40 = .ok (.getfield 87, 3) := jx_dec c_M_costOf_ok 25 rfl
theorem d_M_costOf_43 : decode prog_7_method_28_code 43 = .ok (.if_icmp .ge 36, 3) := jx_dec c_M_costOf_ok 26 rfl
theorem d_M_costOf_46 : decode prog_7_method_28_code 46 = .ok (.aload_n 0, 1) := jx_dec c_M_costOf_ok 27 rfl
theorem d_M_costOf_47 : decode prog_7_method_28_code 47 = .ok (.getfield 65, 3) := jx_dec c_M_costOf_ok 28 rfl
theorem d_M_costOf_50 : decode prog_7_method_28_code 50 = .ok (.bipush 32, 2) := jx_dec c_M_costOf_ok 29 rfl
theorem d_M_costOf_52 : decode prog_7_method_28_code 52 = .ok (.iload_n 2, 1) := jx_dec c_M_costOf_ok 30 rfl
theorem d_M_costOf_53 : decode prog_7_method_28_code 53 = .ok (.imul, 1) := jx_dec c_M_costOf_ok 31 rfl
theorem d_M_costOf_54 : decode prog_7_method_28_code 54 = .ok (.aload_n 0, 1) := jx_dec c_M_costOf_ok 32 rfl
theorem d_M_costOf_55 : decode prog_7_method_28_code 55 = .ok (.iload_n 2, 1) := jx_dec c_M_costOf_ok 33 rfl
theorem d_M_costOf_56 : decode prog_7_method_28_code 56 = .ok (.invokevirtual 156, 3) := jx_dec c_M_costOf_ok 34 rfl
theorem d_M_costOf_59 : decode prog_7_method_28_code 59 = .ok (.iadd, 1) := jx_dec c_M_costOf_ok 35 rfl
theorem d_M_costOf_60 : decode prog_7_method_28_code 60 = .ok (.iaload, 1) := jx_dec c_M_costOf_ok 36 rfl
theorem d_M_costOf_61 : decode prog_7_method_28_code 61 = .ok (.istore_n 3, 1) := jx_dec c_M_costOf_ok 37 rfl
theorem d_M_costOf_62 : decode prog_7_method_28_code 62 = .ok (.iload_n 3, 1) := jx_dec c_M_costOf_ok 38 rfl
theorem d_M_costOf_63 : decode prog_7_method_28_code 63 = .ok (.iconst (-1), 1) := jx_dec c_M_costOf_ok 39 rfl
theorem d_M_costOf_64 : decode prog_7_method_28_code 64 = .ok (.if_icmp .ne 5, 3) := jx_dec c_M_costOf_ok 40 rfl
theorem d_M_costOf_67 : decode prog_7_method_28_code 67 = .ok (.iconst (-1), 1) := jx_dec c_M_costOf_ok 41 rfl
theorem d_M_costOf_68 : decode prog_7_method_28_code 68 = .ok (.ireturn, 1) := jx_dec c_M_costOf_ok 42 rfl
theorem d_M_costOf_69 : decode prog_7_method_28_code 69 = .ok (.iload_n 1, 1) := jx_dec c_M_costOf_ok 43 rfl
theorem d_M_costOf_70 : decode prog_7_method_28_code 70 = .ok (.iload_n 3, 1) := jx_dec c_M_costOf_ok 44 rfl
theorem d_M_costOf_71 : decode prog_7_method_28_code 71 = .ok (.iadd, 1) := jx_dec c_M_costOf_ok 45 rfl
theorem d_M_costOf_72 : decode prog_7_method_28_code 72 = .ok (.istore_n 1, 1) := jx_dec c_M_costOf_ok 46 rfl
theorem d_M_costOf_73 : decode prog_7_method_28_code 73 = .ok (.iinc 2 1, 3) := jx_dec c_M_costOf_ok 47 rfl
theorem d_M_costOf_76 : decode prog_7_method_28_code 76 = .ok (.goto (-38), 3) := jx_dec c_M_costOf_ok 48 rfl
theorem d_M_costOf_79 : decode prog_7_method_28_code 79 = .ok (.iload_n 1, 1) := jx_dec c_M_costOf_ok 49 rfl
theorem d_M_costOf_80 : decode prog_7_method_28_code 80 = .ok (.ireturn, 1) := jx_dec c_M_costOf_ok 50 rfl
def c_M_setOf : List (Nat × Instr × Nat) := [(0, .iconst 0, 1), (1, .istore_n 2, 1), (2, .iconst 0, 1), (3, .istore_n 3, 1), (4, .iload_n 3, 1), (5, .aload_n 0, 1), (6, .getfield 141, 3), (9, .if_icmp .ge 25, 3), (12, .aload_n 0, 1), (13, .getfield 77, 3), (16, .iload_n 3, 1), (17, .iaload, 1), (18, .iload_n 1, 1), (19, .if_icmp .ne 9, 3), (22, .iload_n 2, 1), (23, .iconst 1, 1), (24, .iload_n 3, 1), (25, .ishl, 1), (26, .ior, 1), (27, .istore_n 2, 1), (28, .iinc 3 1, 3), (31, .goto (-27), 3), (34, .iload_n 2, 1), (35, .ireturn, 1)]
theorem c_M_setOf_ok : (c_M_setOf).all (fun q => decide (decode prog_7_method_27_code q.1 = .ok q.2)) = true := by decide +kernel
theorem d_M_setOf_0 : decode prog_7_method_27_code 0 = .ok (.iconst 0, 1) := jx_dec c_M_setOf_ok 0 rfl
theorem d_M_setOf_1 : decode prog_7_method_27_code 1 = .ok (.istore_n 2, 1) := jx_dec c_M_setOf_ok 1 rfl
theorem d_M_setOf_2 : decode prog_7_method_27_code 2 = .ok (.iconst 0, 1) := jx_dec c_M_setOf_ok 2 rfl
theorem d_M_setOf_3 : decode prog_7_method_27_code 3 = .ok (.istore_n 3, 1) := jx_dec c_M_setOf_ok 3 rfl
theorem d_M_setOf_4 : decode prog_7_method_27_code 4 = .ok (.iload_n 3, 1) := jx_dec c_M_setOf_ok 4 rfl
theorem d_M_setOf_5 : decode prog_7_method_27_code 5 = .ok (.aload_n 0, 1) := jx_dec c_M_setOf_ok 5 rfl
theorem d_M_setOf_6 : decode prog_7_method_27_code 6 = .ok (.getfield 141, 3) := jx_dec c_M_setOf_ok 6 rfl
theorem d_M_setOf_9 : decode prog_7_method_27_code 9 = .ok (.if_icmp .ge 25, 3) := jx_dec c_M_setOf_ok 7 rfl
theorem d_M_setOf_12 : decode prog_7_method_27_code 12 = .ok (.aload_n 0, 1) := jx_dec c_M_setOf_ok 8 rfl
theorem d_M_setOf_13 : decode prog_7_method_27_code 13 = .ok (.getfield 77, 3) := jx_dec c_M_setOf_ok 9 rfl
theorem d_M_setOf_16 : decode prog_7_method_27_code 16 = .ok (.iload_n 3, 1) := jx_dec c_M_setOf_ok 10 rfl
theorem d_M_setOf_17 : decode prog_7_method_27_code 17 = .ok (.iaload, 1) := jx_dec c_M_setOf_ok 11 rfl
theorem d_M_setOf_18 : decode prog_7_method_27_code 18 = .ok (.iload_n 1, 1) := jx_dec c_M_setOf_ok 12 rfl
theorem d_M_setOf_19 : decode prog_7_method_27_code 19 = .ok (.if_icmp .ne 9, 3) := jx_dec c_M_setOf_ok 13 rfl
theorem d_M_setOf_22 : decode prog_7_method_27_code 22 = .ok (.iload_n 2, 1) := jx_dec c_M_setOf_ok 14 rfl
theorem d_M_setOf_23 : decode prog_7_method_27_code 23 = .ok (.iconst 1, 1) := jx_dec c_M_setOf_ok 15 rfl
theorem d_M_setOf_24 : decode prog_7_method_27_code 24 = .ok (.iload_n 3, 1) := jx_dec c_M_setOf_ok 16 rfl
theorem d_M_setOf_25 : decode prog_7_method_27_code 25 = .ok (.ishl, 1) := jx_dec c_M_setOf_ok 17 rfl
theorem d_M_setOf_26 : decode prog_7_method_27_code 26 = .ok (.ior, 1) := jx_dec c_M_setOf_ok 18 rfl
theorem d_M_setOf_27 : decode prog_7_method_27_code 27 = .ok (.istore_n 2, 1) := jx_dec c_M_setOf_ok 19 rfl
theorem d_M_setOf_28 : decode prog_7_method_27_code 28 = .ok (.iinc 3 1, 3) := jx_dec c_M_setOf_ok 20 rfl
theorem d_M_setOf_31 : decode prog_7_method_27_code 31 = .ok (.goto (-27), 3) := jx_dec c_M_setOf_ok 21 rfl
theorem d_M_setOf_34 : decode prog_7_method_27_code 34 = .ok (.iload_n 2, 1) := jx_dec c_M_setOf_ok 22 rfl
theorem d_M_setOf_35 : decode prog_7_method_27_code 35 = .ok (.ireturn, 1) := jx_dec c_M_setOf_ok 23 rfl
def c_M_exact : List (Nat × Instr × Nat) := [(0, .aload_n 0, 1), (1, .iconst 0, 1), (2, .putfield 83, 3), (5, .aload_n 0, 1), (6, .getfield 178, 3), (9, .ireturn, 1)]
theorem c_M_exact_ok : (c_M_exact).all (fun q => decide (decode prog_7_method_35_code q.1 = .ok q.2)) = true := by decide +kernel
theorem d_M_exact_0 : decode prog_7_method_35_code 0 = .ok (.aload_n 0, 1) := jx_dec c_M_exact_ok 0 rfl
theorem d_M_exact_1 : decode prog_7_method_35_code 1 = .ok (.iconst 0, 1) := jx_dec c_M_exact_ok 1 rfl
theorem d_M_exact_2 : decode prog_7_method_35_code 2 = .ok (.putfield 83, 3) := jx_dec c_M_exact_ok 2 rfl
theorem d_M_exact_5 : decode prog_7_method_35_code 5 = .ok (.aload_n 0, 1) := jx_dec c_M_exact_ok 3 rfl
theorem d_M_exact_6 : decode prog_7_method_35_code 6 = .ok (.getfield 178, 3) := jx_dec c_M_exact_ok 4 rfl
theorem d_M_exact_9 : decode prog_7_method_35_code 9 = .ok (.ireturn, 1) := jx_dec c_M_exact_ok 5 rfl
def c_M_bound : List (Nat × Instr × Nat) := [(0, .aload_n 0, 1), (1, .iconst 0, 1), (2, .putfield 83, 3), (5, .iconst 0, 1), (6, .istore_n 1, 1), (7, .iconst 0, 1), (8, .istore_n 2, 1), (9, .iload_n 2, 1), (10, .aload_n 0, 1), (11, .getfield 94, 3), (14, .if_icmp .ge 91, 3), (17, .aload_n 0, 1), (18, .getfield 38, 3), (21, .iload_n 2, 1), (22, .iaload, 1), (23, .ifCond .ne 76, 3), (26, .ldc 97, 2), (28, .istore_n 3, 1), (29, .iconst 0, 1), (30, .istore 4, 2), (32, .iload 4, 2), (34, .aload_n 0, 1), (35, .getfield 87, 3), (38, .if_icmp .ge 57, 3), (41, .aload_n 0, 1), (42, .iload 4, 2), (44, .iload_n 2, 1), (45, .invokevirtual 144, 3), (48, .ifCond .eq 13, 3), (51, .aload_n 0, 1), (52, .iload 4, 2), (54, .iload_n 2, 1), (55, .invokevirtual 131, 3), (58, .goto 4, 3), (61, .iconst (-1), 1), (62, .istore 5, 2), (64, .iload 5, 2), (66, .iconst (-1), 1), (67, .if_icmp .eq 22, 3), (70, .aload_n 0, 1), (71, .iload_n 2, 1), (72, .iload 5, 2), (74, .invokevirtual 134, 3), (77, .iload_n 3, 1), (78, .if_icmp .ge 11, 3), (81, .aload_n 0, 1), (82, .iload_n 2, 1), (83, .iload 5, 2), (85, .invokevirtual 134, 3), (88, .istore_n 3, 1), (89, .iinc 4 1, 3), (92, .goto (-60), 3), (95, .iload_n 1, 1), (96, .iload_n 3, 1), (97, .iadd, 1), (98, .istore_n 1, 1), (99, .iinc 2 1, 3), (102, .goto (-93), 3), (105, .iload_n 1, 1), (106, .ireturn, 1)]
theorem c_M_bound_ok : (c_M_bound).all (fun q => decide (decode prog_7_method_36_code q.1 = .ok q.2)) = true := by decide +kernel
theorem d_M_bound_0 : decode prog_7_method_36_code 0 = .ok (.aload_n 0, 1) := jx_dec c_M_bound_ok 0 rfl
theorem d_M_bound_1 : decode prog_7_method_36_code 1 = .ok (.iconst 0, 1) := jx_dec c_M_bound_ok 1 rfl
theorem d_M_bound_2 : decode prog_7_method_36_code 2 = .ok (.putfield 83, 3) := jx_dec c_M_bound_ok 2 rfl
theorem d_M_bound_5 : decode prog_7_method_36_code 5 = .ok (.iconst 0, 1) := jx_dec c_M_bound_ok 3 rfl
theorem d_M_bound_6 : decode prog_7_method_36_code 6 = .ok (.istore_n 1, 1) := jx_dec c_M_bound_ok 4 rfl
theorem d_M_bound_7 : decode prog_7_method_36_code 7 = .ok (.iconst 0, 1) := jx_dec c_M_bound_ok 5 rfl
theorem d_M_bound_8 : decode prog_7_method_36_code 8 = .ok (.istore_n 2, 1) := jx_dec c_M_bound_ok 6 rfl
theorem d_M_bound_9 : decode prog_7_method_36_code 9 = .ok (.iload_n 2, 1) := jx_dec c_M_bound_ok 7 rfl
theorem d_M_bound_10 : decode prog_7_method_36_code 10 = .ok (.aload_n 0, 1) := jx_dec c_M_bound_ok 8 rfl
theorem d_M_bound_11 : decode prog_7_method_36_code 11 = .ok (.getfield 94, 3) := jx_dec c_M_bound_ok 9 rfl
theorem d_M_bound_14 : decode prog_7_method_36_code 14 = .ok (.if_icmp .ge 91, 3) := jx_dec c_M_bound_ok 10 rfl
theorem d_M_bound_17 : decode prog_7_method_36_code 17 = .ok (.aload_n 0, 1) := jx_dec c_M_bound_ok 11 rfl
theorem d_M_bound_18 : decode prog_7_method_36_code 18 = .ok (.getfield 38, 3) := jx_dec c_M_bound_ok 12 rfl
theorem d_M_bound_21 : decode prog_7_method_36_code 21 = .ok (.iload_n 2, 1) := jx_dec c_M_bound_ok 13 rfl
theorem d_M_bound_22 : decode prog_7_method_36_code 22 = .ok (.iaload, 1) := jx_dec c_M_bound_ok 14 rfl
theorem d_M_bound_23 : decode prog_7_method_36_code 23 = .ok (.ifCond .ne 76, 3) := jx_dec c_M_bound_ok 15 rfl
theorem d_M_bound_26 : decode prog_7_method_36_code 26 = .ok (.ldc 97, 2) := jx_dec c_M_bound_ok 16 rfl
theorem d_M_bound_28 : decode prog_7_method_36_code 28 = .ok (.istore_n 3, 1) := jx_dec c_M_bound_ok 17 rfl
theorem d_M_bound_29 : decode prog_7_method_36_code 29 = .ok (.iconst 0, 1) := jx_dec c_M_bound_ok 18 rfl
theorem d_M_bound_30 : decode prog_7_method_36_code 30 = .ok (.istore 4, 2) := jx_dec c_M_bound_ok 19 rfl
theorem d_M_bound_32 : decode prog_7_method_36_code 32 = .ok (.iload 4, 2) := jx_dec c_M_bound_ok 20 rfl
theorem d_M_bound_34 : decode prog_7_method_36_code 34 = .ok (.aload_n 0, 1) := jx_dec c_M_bound_ok 21 rfl
theorem d_M_bound_35 : decode prog_7_method_36_code 35 = .ok (.getfield 87, 3) := jx_dec c_M_bound_ok 22 rfl
theorem d_M_bound_38 : decode prog_7_method_36_code 38 = .ok (.if_icmp .ge 57, 3) := jx_dec c_M_bound_ok 23 rfl
theorem d_M_bound_41 : decode prog_7_method_36_code 41 = .ok (.aload_n 0, 1) := jx_dec c_M_bound_ok 24 rfl
theorem d_M_bound_42 : decode prog_7_method_36_code 42 = .ok (.iload 4, 2) := jx_dec c_M_bound_ok 25 rfl
theorem d_M_bound_44 : decode prog_7_method_36_code 44 = .ok (.iload_n 2, 1) := jx_dec c_M_bound_ok 26 rfl
theorem d_M_bound_45 : decode prog_7_method_36_code 45 = .ok (.invokevirtual 144, 3) := jx_dec c_M_bound_ok 27 rfl
theorem d_M_bound_48 : decode prog_7_method_36_code 48 = .ok (.ifCond .eq 13, 3) := jx_dec c_M_bound_ok 28 rfl
theorem d_M_bound_51 : decode prog_7_method_36_code 51 = .ok (.aload_n 0, 1) := jx_dec c_M_bound_ok 29 rfl
theorem d_M_bound_52 : decode prog_7_method_36_code 52 = .ok (.iload 4, 2) := jx_dec c_M_bound_ok 30 rfl
theorem d_M_bound_54 : decode prog_7_method_36_code 54 = .ok (.iload_n 2, 1) := jx_dec c_M_bound_ok 31 rfl
theorem d_M_bound_55 : decode prog_7_method_36_code 55 = .ok (.invokevirtual 131, 3) := jx_dec c_M_bound_ok 32 rfl
theorem d_M_bound_58 : decode prog_7_method_36_code 58 = .ok (.goto 4, 3) := jx_dec c_M_bound_ok 33 rfl
theorem d_M_bound_61 : decode prog_7_method_36_code 61 = .ok (.iconst (-1), 1) := jx_dec c_M_bound_ok 34 rfl
theorem d_M_bound_62 : decode prog_7_method_36_code 62 = .ok (.istore 5, 2) := jx_dec c_M_bound_ok 35 rfl
theorem d_M_bound_64 : decode prog_7_method_36_code 64 = .ok (.iload 5, 2) := jx_dec c_M_bound_ok 36 rfl
theorem d_M_bound_66 : decode prog_7_method_36_code 66 = .ok (.iconst (-1), 1) := jx_dec c_M_bound_ok 37 rfl
theorem d_M_bound_67 : decode prog_7_method_36_code 67 = .ok (.if_icmp .eq 22, 3) := jx_dec c_M_bound_ok 38 rfl
theorem d_M_bound_70 : decode prog_7_method_36_code 70 = .ok (.aload_n 0, 1) := jx_dec c_M_bound_ok 39 rfl
theorem d_M_bound_71 : decode prog_7_method_36_code 71 = .ok (.iload_n 2, 1) := jx_dec c_M_bound_ok 40 rfl
theorem d_M_bound_72 : decode prog_7_method_36_code 72 = .ok (.iload 5, 2) := jx_dec c_M_bound_ok 41 rfl
theorem d_M_bound_74 : decode prog_7_method_36_code 74 = .ok (.invokevirtual 134, 3) := jx_dec c_M_bound_ok 42 rfl
theorem d_M_bound_77 : decode prog_7_method_36_code 77 = .ok (.iload_n 3, 1) := jx_dec c_M_bound_ok 43 rfl
theorem d_M_bound_78 : decode prog_7_method_36_code 78 = .ok (.if_icmp .ge 11, 3) := jx_dec c_M_bound_ok 44 rfl
theorem d_M_bound_81 : decode prog_7_method_36_code 81 = .ok (.aload_n 0, 1) := jx_dec c_M_bound_ok 45 rfl
theorem d_M_bound_82 : decode prog_7_method_36_code 82 = .ok (.iload_n 2, 1) := jx_dec c_M_bound_ok 46 rfl
theorem d_M_bound_83 : decode prog_7_method_36_code 83 = .ok (.iload 5, 2) := jx_dec c_M_bound_ok 47 rfl
theorem d_M_bound_85 : decode prog_7_method_36_code 85 = .ok (.invokevirtual 134, 3) := jx_dec c_M_bound_ok 48 rfl
theorem d_M_bound_88 : decode prog_7_method_36_code 88 = .ok (.istore_n 3, 1) := jx_dec c_M_bound_ok 49 rfl
theorem d_M_bound_89 : decode prog_7_method_36_code 89 = .ok (.iinc 4 1, 3) := jx_dec c_M_bound_ok 50 rfl
theorem d_M_bound_92 : decode prog_7_method_36_code 92 = .ok (.goto (-60), 3) := jx_dec c_M_bound_ok 51 rfl
theorem d_M_bound_95 : decode prog_7_method_36_code 95 = .ok (.iload_n 1, 1) := jx_dec c_M_bound_ok 52 rfl
theorem d_M_bound_96 : decode prog_7_method_36_code 96 = .ok (.iload_n 3, 1) := jx_dec c_M_bound_ok 53 rfl
theorem d_M_bound_97 : decode prog_7_method_36_code 97 = .ok (.iadd, 1) := jx_dec c_M_bound_ok 54 rfl
theorem d_M_bound_98 : decode prog_7_method_36_code 98 = .ok (.istore_n 1, 1) := jx_dec c_M_bound_ok 55 rfl
theorem d_M_bound_99 : decode prog_7_method_36_code 99 = .ok (.iinc 2 1, 3) := jx_dec c_M_bound_ok 56 rfl
theorem d_M_bound_102 : decode prog_7_method_36_code 102 = .ok (.goto (-93), 3) := jx_dec c_M_bound_ok 57 rfl
theorem d_M_bound_105 : decode prog_7_method_36_code 105 = .ok (.iload_n 1, 1) := jx_dec c_M_bound_ok 58 rfl
theorem d_M_bound_106 : decode prog_7_method_36_code 106 = .ok (.ireturn, 1) := jx_dec c_M_bound_ok 59 rfl
def c_M_give : List (Nat × Instr × Nat) := [(0, .aload_n 0, 1), (1, .aload_n 0, 1), (2, .iload_n 1, 1), (3, .invokevirtual 98, 3), (6, .ifCond .eq 7, 3), (9, .iconst 0, 1), (10, .goto 4, 3), (13, .iconst 1, 1), (14, .putfield 83, 3), (17, .aload_n 0, 1), (18, .getfield 83, 3), (21, .ifCond .eq 5, 3), (24, .iconst 0, 1), (25, .ireturn, 1), (26, .aload_n 0, 1), (27, .getfield 117, 3), (30, .aload_n 0, 1), (31, .getfield 19, 3), (34, .iload_n 1, 1), (35, .iaload, 1), (36, .if_icmp .lt 16, 3), (39, .aload_n 0, 1), (40, .getfield 117, 3), (43, .aload_n 0, 1), (44, .getfield 22, 3), (47, .iload_n 1, 1), (48, .iaload, 1), (49, .if_icmp .lt 29, 3), (52, .aload_n 0, 1), (53, .getfield 117, 3), (56, .aload_n 0, 1), (57, .getfield 13, 3), (60, .iload_n 1, 1), (61, .iaload, 1), (62, .if_icmp .lt 16, 3), (65, .aload_n 0, 1), (66, .getfield 117, 3), (69, .aload_n 0, 1), (70, .getfield 16, 3), (73, .iload_n 1, 1), (74, .iaload, 1), (75, .if_icmp .lt 7, 3), (78, .iconst 1, 1), (79, .goto 4, 3), (82, .iconst 0, 1), (83, .istore_n 2, 1), (84, .aload_n 0, 1), (85, .aload_n 0, 1), (86, .getfield 28, 3), (89, .iload_n 1, 1), (90, .baload, 1), (91, .ifCond .eq 17, 3), (94, .aload_n 0, 1), (95, .getfield 32, 3), (98, .iload_n 1, 1), (99, .iaload, 1), (100, .iconst (-1), 1), (101, .if_icmp .ne 7, 3), (104, .iload_n 2, 1), (105, .ifCond .eq 7, 3), (108, .iconst 2, 1), (109, .goto 4, 3), (112, .iconst 0, 1), (113, .putfield 83, 3), (116, .aload_n 0, 1), (117, .getfield 83, 3), (120, .ifCond .eq 5, 3), (123, .iconst 0, 1), (124, .ireturn, 1), (125, .aload_n 0, 1), (126, .iload_n 1, 1), (127, .iconst 0, 1), (128, .invokevirtual 188, 3), (131, .istore_n 3, 1), (132, .iload_n 3, 1), (133, .iconst (-1), 1), (134, .if_icmp .eq 16, 3), (137, .aload_n 0, 1), (138, .getfield 59, 3), (141, .iload_n 3, 1), (142, .iaload, 1), (143, .aload_n 0, 1), (144, .getfield 117, 3), (147, .if_icmp .le 5, 3), (150, .iconst (-1), 1), (151, .ireturn, 1), (152, .aload_n 0, 1), (153, .getfield 38, 3), (156, .iload_n 3, 1), (157, .iconst 1, 1), (158, .iastore, 1), (159, .aload_n 0, 1), (160, .getfield 59, 3), (163, .iload_n 3, 1), (164, .aload_n 0, 1), (165, .getfield 117, 3), (168, .iastore, 1), (169, .aload_n 0, 1), (170, .getfield 32, 3), (173, .iload_n 1, 1), (174, .iload_n 3, 1), (175, .iastore, 1), (176, .aload_n 0, 1), (177, .getfield 25, 3), (180, .iload_n 1, 1), (181, .aload_n 0, 1), (182, .getfield 50, 3), (185, .iload_n 3, 1), (186, .iaload, 1), (187, .iastore, 1), (188, .iload_n 3, 1), (189, .ireturn, 1)]
theorem c_M_give_ok : (c_M_give).all (fun q => decide (decode prog_7_method_38_code q.1 = .ok q.2)) = true := by decide +kernel
theorem d_M_give_0 : decode prog_7_method_38_code 0 = .ok (.aload_n 0, 1) := jx_dec c_M_give_ok 0 rfl
theorem d_M_give_1 : decode prog_7_method_38_code 1 = .ok (.aload_n 0, 1) := jx_dec c_M_give_ok 1 rfl
theorem d_M_give_2 : decode prog_7_method_38_code 2 = .ok (.iload_n 1, 1) := jx_dec c_M_give_ok 2 rfl
theorem d_M_give_3 : decode prog_7_method_38_code 3 = .ok (.invokevirtual 98, 3) := jx_dec c_M_give_ok 3 rfl
theorem d_M_give_6 : decode prog_7_method_38_code 6 = .ok (.ifCond .eq 7, 3) := jx_dec c_M_give_ok 4 rfl
theorem d_M_give_9 : decode prog_7_method_38_code 9 = .ok (.iconst 0, 1) := jx_dec c_M_give_ok 5 rfl
theorem d_M_give_10 : decode prog_7_method_38_code 10 = .ok (.goto 4, 3) := jx_dec c_M_give_ok 6 rfl
theorem d_M_give_13 : decode prog_7_method_38_code 13 = .ok (.iconst 1, 1) := jx_dec c_M_give_ok 7 rfl
theorem d_M_give_14 : decode prog_7_method_38_code 14 = .ok (.putfield 83, 3) := jx_dec c_M_give_ok 8 rfl
theorem d_M_give_17 : decode prog_7_method_38_code 17 = .ok (.aload_n 0, 1) := jx_dec c_M_give_ok 9 rfl
theorem d_M_give_18 : decode prog_7_method_38_code 18 = .ok (.getfield 83, 3) := jx_dec c_M_give_ok 10 rfl
theorem d_M_give_21 : decode prog_7_method_38_code 21 = .ok (.ifCond .eq 5, 3) := jx_dec c_M_give_ok 11 rfl
theorem d_M_give_24 : decode prog_7_method_38_code 24 = .ok (.iconst 0, 1) := jx_dec c_M_give_ok 12 rfl
theorem d_M_give_25 : decode prog_7_method_38_code 25 = .ok (.ireturn, 1) := jx_dec c_M_give_ok 13 rfl
theorem d_M_give_26 : decode prog_7_method_38_code 26 = .ok (.aload_n 0, 1) := jx_dec c_M_give_ok 14 rfl
theorem d_M_give_27 : decode prog_7_method_38_code 27 = .ok (.getfield 117, 3) := jx_dec c_M_give_ok 15 rfl
theorem d_M_give_30 : decode prog_7_method_38_code 30 = .ok (.aload_n 0, 1) := jx_dec c_M_give_ok 16 rfl
theorem d_M_give_31 : decode prog_7_method_38_code 31 = .ok (.getfield 19, 3) := jx_dec c_M_give_ok 17 rfl
theorem d_M_give_34 : decode prog_7_method_38_code 34 = .ok (.iload_n 1, 1) := jx_dec c_M_give_ok 18 rfl
theorem d_M_give_35 : decode prog_7_method_38_code 35 = .ok (.iaload, 1) := jx_dec c_M_give_ok 19 rfl
theorem d_M_give_36 : decode prog_7_method_38_code 36 = .ok (.if_icmp .lt 16, 3) := jx_dec c_M_give_ok 20 rfl
theorem d_M_give_39 : decode prog_7_method_38_code 39 = .ok (.aload_n 0, 1) := jx_dec c_M_give_ok 21 rfl
theorem d_M_give_40 : decode prog_7_method_38_code 40 = .ok (.getfield 117, 3) := jx_dec c_M_give_ok 22 rfl
theorem d_M_give_43 : decode prog_7_method_38_code 43 = .ok (.aload_n 0, 1) := jx_dec c_M_give_ok 23 rfl
theorem d_M_give_44 : decode prog_7_method_38_code 44 = .ok (.getfield 22, 3) := jx_dec c_M_give_ok 24 rfl
theorem d_M_give_47 : decode prog_7_method_38_code 47 = .ok (.iload_n 1, 1) := jx_dec c_M_give_ok 25 rfl
theorem d_M_give_48 : decode prog_7_method_38_code 48 = .ok (.iaload, 1) := jx_dec c_M_give_ok 26 rfl
theorem d_M_give_49 : decode prog_7_method_38_code 49 = .ok (.if_icmp .lt 29, 3) := jx_dec c_M_give_ok 27 rfl
theorem d_M_give_52 : decode prog_7_method_38_code 52 = .ok (.aload_n 0, 1) := jx_dec c_M_give_ok 28 rfl
theorem d_M_give_53 : decode prog_7_method_38_code 53 = .ok (.getfield 117, 3) := jx_dec c_M_give_ok 29 rfl
theorem d_M_give_56 : decode prog_7_method_38_code 56 = .ok (.aload_n 0, 1) := jx_dec c_M_give_ok 30 rfl
theorem d_M_give_57 : decode prog_7_method_38_code 57 = .ok (.getfield 13, 3) := jx_dec c_M_give_ok 31 rfl
theorem d_M_give_60 : decode prog_7_method_38_code 60 = .ok (.iload_n 1, 1) := jx_dec c_M_give_ok 32 rfl
theorem d_M_give_61 : decode prog_7_method_38_code 61 = .ok (.iaload, 1) := jx_dec c_M_give_ok 33 rfl
theorem d_M_give_62 : decode prog_7_method_38_code 62 = .ok (.if_icmp .lt 16, 3) := jx_dec c_M_give_ok 34 rfl
theorem d_M_give_65 : decode prog_7_method_38_code 65 = .ok (.aload_n 0, 1) := jx_dec c_M_give_ok 35 rfl
theorem d_M_give_66 : decode prog_7_method_38_code 66 = .ok (.getfield 117, 3) := jx_dec c_M_give_ok 36 rfl
theorem d_M_give_69 : decode prog_7_method_38_code 69 = .ok (.aload_n 0, 1) := jx_dec c_M_give_ok 37 rfl
theorem d_M_give_70 : decode prog_7_method_38_code 70 = .ok (.getfield 16, 3) := jx_dec c_M_give_ok 38 rfl
theorem d_M_give_73 : decode prog_7_method_38_code 73 = .ok (.iload_n 1, 1) := jx_dec c_M_give_ok 39 rfl
theorem d_M_give_74 : decode prog_7_method_38_code 74 = .ok (.iaload, 1) := jx_dec c_M_give_ok 40 rfl
theorem d_M_give_75 : decode prog_7_method_38_code 75 = .ok (.if_icmp .lt 7, 3) := jx_dec c_M_give_ok 41 rfl
theorem d_M_give_78 : decode prog_7_method_38_code 78 = .ok (.iconst 1, 1) := jx_dec c_M_give_ok 42 rfl
theorem d_M_give_79 : decode prog_7_method_38_code 79 = .ok (.goto 4, 3) := jx_dec c_M_give_ok 43 rfl
theorem d_M_give_82 : decode prog_7_method_38_code 82 = .ok (.iconst 0, 1) := jx_dec c_M_give_ok 44 rfl
theorem d_M_give_83 : decode prog_7_method_38_code 83 = .ok (.istore_n 2, 1) := jx_dec c_M_give_ok 45 rfl
theorem d_M_give_84 : decode prog_7_method_38_code 84 = .ok (.aload_n 0, 1) := jx_dec c_M_give_ok 46 rfl
theorem d_M_give_85 : decode prog_7_method_38_code 85 = .ok (.aload_n 0, 1) := jx_dec c_M_give_ok 47 rfl
theorem d_M_give_86 : decode prog_7_method_38_code 86 = .ok (.getfield 28, 3) := jx_dec c_M_give_ok 48 rfl
theorem d_M_give_89 : decode prog_7_method_38_code 89 = .ok (.iload_n 1, 1) := jx_dec c_M_give_ok 49 rfl
theorem d_M_give_90 : decode prog_7_method_38_code 90 = .ok (.baload, 1) := jx_dec c_M_give_ok 50 rfl
theorem d_M_give_91 : decode prog_7_method_38_code 91 = .ok (.ifCond .eq 17, 3) := jx_dec c_M_give_ok 51 rfl
theorem d_M_give_94 : decode prog_7_method_38_code 94 = .ok (.aload_n 0, 1) := jx_dec c_M_give_ok 52 rfl
theorem d_M_give_95 : decode prog_7_method_38_code 95 = .ok (.getfield 32, 3) := jx_dec c_M_give_ok 53 rfl
theorem d_M_give_98 : decode prog_7_method_38_code 98 = .ok (.iload_n 1, 1) := jx_dec c_M_give_ok 54 rfl
theorem d_M_give_99 : decode prog_7_method_38_code 99 = .ok (.iaload, 1) := jx_dec c_M_give_ok 55 rfl
theorem d_M_give_100 : decode prog_7_method_38_code 100 = .ok (.iconst (-1), 1) := jx_dec c_M_give_ok 56 rfl
theorem d_M_give_101 : decode prog_7_method_38_code 101 = .ok (.if_icmp .ne 7, 3) := jx_dec c_M_give_ok 57 rfl
theorem d_M_give_104 : decode prog_7_method_38_code 104 = .ok (.iload_n 2, 1) := jx_dec c_M_give_ok 58 rfl
theorem d_M_give_105 : decode prog_7_method_38_code 105 = .ok (.ifCond .eq 7, 3) := jx_dec c_M_give_ok 59 rfl
theorem d_M_give_108 : decode prog_7_method_38_code 108 = .ok (.iconst 2, 1) := jx_dec c_M_give_ok 60 rfl
theorem d_M_give_109 : decode prog_7_method_38_code 109 = .ok (.goto 4, 3) := jx_dec c_M_give_ok 61 rfl
theorem d_M_give_112 : decode prog_7_method_38_code 112 = .ok (.iconst 0, 1) := jx_dec c_M_give_ok 62 rfl
theorem d_M_give_113 : decode prog_7_method_38_code 113 = .ok (.putfield 83, 3) := jx_dec c_M_give_ok 63 rfl
theorem d_M_give_116 : decode prog_7_method_38_code 116 = .ok (.aload_n 0, 1) := jx_dec c_M_give_ok 64 rfl
theorem d_M_give_117 : decode prog_7_method_38_code 117 = .ok (.getfield 83, 3) := jx_dec c_M_give_ok 65 rfl
theorem d_M_give_120 : decode prog_7_method_38_code 120 = .ok (.ifCond .eq 5, 3) := jx_dec c_M_give_ok 66 rfl
theorem d_M_give_123 : decode prog_7_method_38_code 123 = .ok (.iconst 0, 1) := jx_dec c_M_give_ok 67 rfl
theorem d_M_give_124 : decode prog_7_method_38_code 124 = .ok (.ireturn, 1) := jx_dec c_M_give_ok 68 rfl
theorem d_M_give_125 : decode prog_7_method_38_code 125 = .ok (.aload_n 0, 1) := jx_dec c_M_give_ok 69 rfl
theorem d_M_give_126 : decode prog_7_method_38_code 126 = .ok (.iload_n 1, 1) := jx_dec c_M_give_ok 70 rfl
theorem d_M_give_127 : decode prog_7_method_38_code 127 = .ok (.iconst 0, 1) := jx_dec c_M_give_ok 71 rfl
theorem d_M_give_128 : decode prog_7_method_38_code 128 = .ok (.invokevirtual 188, 3) := jx_dec c_M_give_ok 72 rfl
theorem d_M_give_131 : decode prog_7_method_38_code 131 = .ok (.istore_n 3, 1) := jx_dec c_M_give_ok 73 rfl
theorem d_M_give_132 : decode prog_7_method_38_code 132 = .ok (.iload_n 3, 1) := jx_dec c_M_give_ok 74 rfl
theorem d_M_give_133 : decode prog_7_method_38_code 133 = .ok (.iconst (-1), 1) := jx_dec c_M_give_ok 75 rfl
theorem d_M_give_134 : decode prog_7_method_38_code 134 = .ok (.if_icmp .eq 16, 3) := jx_dec c_M_give_ok 76 rfl
theorem d_M_give_137 : decode prog_7_method_38_code 137 = .ok (.aload_n 0, 1) := jx_dec c_M_give_ok 77 rfl
theorem d_M_give_138 : decode prog_7_method_38_code 138 = .ok (.getfield 59, 3) := jx_dec c_M_give_ok 78 rfl
theorem d_M_give_141 : decode prog_7_method_38_code 141 = .ok (.iload_n 3, 1) := jx_dec c_M_give_ok 79 rfl
theorem d_M_give_142 : decode prog_7_method_38_code 142 = .ok (.iaload, 1) := jx_dec c_M_give_ok 80 rfl
theorem d_M_give_143 : decode prog_7_method_38_code 143 = .ok (.aload_n 0, 1) := jx_dec c_M_give_ok 81 rfl
theorem d_M_give_144 : decode prog_7_method_38_code 144 = .ok (.getfield 117, 3) := jx_dec c_M_give_ok 82 rfl
theorem d_M_give_147 : decode prog_7_method_38_code 147 = .ok (.if_icmp .le 5, 3) := jx_dec c_M_give_ok 83 rfl
theorem d_M_give_150 : decode prog_7_method_38_code 150 = .ok (.iconst (-1), 1) := jx_dec c_M_give_ok 84 rfl
theorem d_M_give_151 : decode prog_7_method_38_code 151 = .ok (.ireturn, 1) := jx_dec c_M_give_ok 85 rfl
theorem d_M_give_152 : decode prog_7_method_38_code 152 = .ok (.aload_n 0, 1) := jx_dec c_M_give_ok 86 rfl
theorem d_M_give_153 : decode prog_7_method_38_code 153 = .ok (.getfield 38, 3) := jx_dec c_M_give_ok 87 rfl
theorem d_M_give_156 : decode prog_7_method_38_code 156 = .ok (.iload_n 3, 1) := jx_dec c_M_give_ok 88 rfl
theorem d_M_give_157 : decode prog_7_method_38_code 157 = .ok (.iconst 1, 1) := jx_dec c_M_give_ok 89 rfl
theorem d_M_give_158 : decode prog_7_method_38_code 158 = .ok (.iastore, 1) := jx_dec c_M_give_ok 90 rfl
theorem d_M_give_159 : decode prog_7_method_38_code 159 = .ok (.aload_n 0, 1) := jx_dec c_M_give_ok 91 rfl
theorem d_M_give_160 : decode prog_7_method_38_code 160 = .ok (.getfield 59, 3) := jx_dec c_M_give_ok 92 rfl
theorem d_M_give_163 : decode prog_7_method_38_code 163 = .ok (.iload_n 3, 1) := jx_dec c_M_give_ok 93 rfl
theorem d_M_give_164 : decode prog_7_method_38_code 164 = .ok (.aload_n 0, 1) := jx_dec c_M_give_ok 94 rfl
theorem d_M_give_165 : decode prog_7_method_38_code 165 = .ok (.getfield 117, 3) := jx_dec c_M_give_ok 95 rfl
theorem d_M_give_168 : decode prog_7_method_38_code 168 = .ok (.iastore, 1) := jx_dec c_M_give_ok 96 rfl
theorem d_M_give_169 : decode prog_7_method_38_code 169 = .ok (.aload_n 0, 1) := jx_dec c_M_give_ok 97 rfl
theorem d_M_give_170 : decode prog_7_method_38_code 170 = .ok (.getfield 32, 3) := jx_dec c_M_give_ok 98 rfl
theorem d_M_give_173 : decode prog_7_method_38_code 173 = .ok (.iload_n 1, 1) := jx_dec c_M_give_ok 99 rfl
theorem d_M_give_174 : decode prog_7_method_38_code 174 = .ok (.iload_n 3, 1) := jx_dec c_M_give_ok 100 rfl
theorem d_M_give_175 : decode prog_7_method_38_code 175 = .ok (.iastore, 1) := jx_dec c_M_give_ok 101 rfl
theorem d_M_give_176 : decode prog_7_method_38_code 176 = .ok (.aload_n 0, 1) := jx_dec c_M_give_ok 102 rfl
theorem d_M_give_177 : decode prog_7_method_38_code 177 = .ok (.getfield 25, 3) := jx_dec c_M_give_ok 103 rfl
theorem d_M_give_180 : decode prog_7_method_38_code 180 = .ok (.iload_n 1, 1) := jx_dec c_M_give_ok 104 rfl
theorem d_M_give_181 : decode prog_7_method_38_code 181 = .ok (.aload_n 0, 1) := jx_dec c_M_give_ok 105 rfl
theorem d_M_give_182 : decode prog_7_method_38_code 182 = .ok (.getfield 50, 3) := jx_dec c_M_give_ok 106 rfl
theorem d_M_give_185 : decode prog_7_method_38_code 185 = .ok (.iload_n 3, 1) := jx_dec c_M_give_ok 107 rfl
theorem d_M_give_186 : decode prog_7_method_38_code 186 = .ok (.iaload, 1) := jx_dec c_M_give_ok 108 rfl
theorem d_M_give_187 : decode prog_7_method_38_code 187 = .ok (.iastore, 1) := jx_dec c_M_give_ok 109 rfl
theorem d_M_give_188 : decode prog_7_method_38_code 188 = .ok (.iload_n 3, 1) := jx_dec c_M_give_ok 110 rfl
theorem d_M_give_189 : decode prog_7_method_38_code 189 = .ok (.ireturn, 1) := jx_dec c_M_give_ok 111 rfl
def c_M_planned : List (Nat × Instr × Nat) := [(0, .iconst 0, 1), (1, .istore_n 3, 1), (2, .iconst 0, 1), (3, .istore 4, 2), (5, .iload 4, 2), (7, .iload_n 2, 1), (8, .if_icmp .gt 111, 3), (11, .iconst (-1), 1), (12, .istore 5, 2), (14, .iconst 0, 1), (15, .istore 6, 2), (17, .iload 6, 2), (19, .aload_n 0, 1), (20, .getfield 94, 3), (23, .if_icmp .ge 66, 3), (26, .aload_n 0, 1), (27, .getfield 38, 3), (30, .iload 6, 2), (32, .iaload, 1), (33, .ifCond .ne 50, 3), (36, .aload_n 0, 1), (37, .getfield 56, 3), (40, .iload 6, 2), (42, .iaload, 1), (43, .iload_n 1, 1), (44, .if_icmp .ne 39, 3), (47, .iload_n 3, 1), (48, .iload 6, 2), (50, .ishr, 1), (51, .iconst 1, 1), (52, .iand, 1), (53, .ifCond .ne 30, 3), (56, .iload 5, 2), (58, .iconst (-1), 1), (59, .if_icmp .eq 20, 3), (62, .aload_n 0, 1), (63, .getfield 59, 3), (66, .iload 6, 2), (68, .iaload, 1), (69, .aload_n 0, 1), (70, .getfield 59, 3), (73, .iload 5, 2), (75, .iaload, 1), (76, .if_icmp .ge 7, 3), (79, .iload 6, 2), (81, .istore 5, 2), (83, .iinc 6 1, 3), (86, .goto (-69), 3), (89, .iload 5, 2), (91, .iconst (-1), 1), (92, .if_icmp .ne 5, 3), (95, .iconst (-1), 1), (96, .ireturn, 1), (97, .iload 4, 2), (99, .iload_n 2, 1), (100, .if_icmp .ne 6, 3), (103, .iload 5, 2), (105, .ireturn, 1), (106, .iload_n 3, 1), (107, .iconst 1, 1), (108, .iload 5, 2), (110, .ishl, 1), (111, .ior, 1), (112, .istore_n 3, 1), (113, .iinc 4 1, 3), (116, .goto (-111), 3), (119, .iconst (-1), 1), (120, .ireturn, 1)]
theorem c_M_planned_ok : (c_M_planned).all (fun q => decide (decode prog_7_method_37_code q.1 = .ok q.2)) = true := by decide +kernel
theorem d_M_planned_0 : decode prog_7_method_37_code 0 = .ok (.iconst 0, 1) := jx_dec c_M_planned_ok 0 rfl
theorem d_M_planned_1 : decode prog_7_method_37_code 1 = .ok (.istore_n 3, 1) := jx_dec c_M_planned_ok 1 rfl
theorem d_M_planned_2 : decode prog_7_method_37_code 2 = .ok (.iconst 0, 1) := jx_dec c_M_planned_ok 2 rfl
theorem d_M_planned_3 : decode prog_7_method_37_code 3 = .ok (.istore 4, 2) := jx_dec c_M_planned_ok 3 rfl
theorem d_M_planned_5 : decode prog_7_method_37_code 5 = .ok (.iload 4, 2) := jx_dec c_M_planned_ok 4 rfl
theorem d_M_planned_7 : decode prog_7_method_37_code 7 = .ok (.iload_n 2, 1) := jx_dec c_M_planned_ok 5 rfl
theorem d_M_planned_8 : decode prog_7_method_37_code 8 = .ok (.if_icmp .gt 111, 3) := jx_dec c_M_planned_ok 6 rfl
theorem d_M_planned_11 : decode prog_7_method_37_code 11 = .ok (.iconst (-1), 1) := jx_dec c_M_planned_ok 7 rfl
theorem d_M_planned_12 : decode prog_7_method_37_code 12 = .ok (.istore 5, 2) := jx_dec c_M_planned_ok 8 rfl
theorem d_M_planned_14 : decode prog_7_method_37_code 14 = .ok (.iconst 0, 1) := jx_dec c_M_planned_ok 9 rfl
theorem d_M_planned_15 : decode prog_7_method_37_code 15 = .ok (.istore 6, 2) := jx_dec c_M_planned_ok 10 rfl
theorem d_M_planned_17 : decode prog_7_method_37_code 17 = .ok (.iload 6, 2) := jx_dec c_M_planned_ok 11 rfl
theorem d_M_planned_19 : decode prog_7_method_37_code 19 = .ok (.aload_n 0, 1) := jx_dec c_M_planned_ok 12 rfl
theorem d_M_planned_20 : decode prog_7_method_37_code 20 = .ok (.getfield 94, 3) := jx_dec c_M_planned_ok 13 rfl
theorem d_M_planned_23 : decode prog_7_method_37_code 23 = .ok (.if_icmp .ge 66, 3) := jx_dec c_M_planned_ok 14 rfl
theorem d_M_planned_26 : decode prog_7_method_37_code 26 = .ok (.aload_n 0, 1) := jx_dec c_M_planned_ok 15 rfl
theorem d_M_planned_27 : decode prog_7_method_37_code 27 = .ok (.getfield 38, 3) := jx_dec c_M_planned_ok 16 rfl
theorem d_M_planned_30 : decode prog_7_method_37_code 30 = .ok (.iload 6, 2) := jx_dec c_M_planned_ok 17 rfl
theorem d_M_planned_32 : decode prog_7_method_37_code 32 = .ok (.iaload, 1) := jx_dec c_M_planned_ok 18 rfl
theorem d_M_planned_33 : decode prog_7_method_37_code 33 = .ok (.ifCond .ne 50, 3) := jx_dec c_M_planned_ok 19 rfl
theorem d_M_planned_36 : decode prog_7_method_37_code 36 = .ok (.aload_n 0, 1) := jx_dec c_M_planned_ok 20 rfl
theorem d_M_planned_37 : decode prog_7_method_37_code 37 = .ok (.getfield 56, 3) := jx_dec c_M_planned_ok 21 rfl
theorem d_M_planned_40 : decode prog_7_method_37_code 40 = .ok (.iload 6, 2) := jx_dec c_M_planned_ok 22 rfl
theorem d_M_planned_42 : decode prog_7_method_37_code 42 = .ok (.iaload, 1) := jx_dec c_M_planned_ok 23 rfl
theorem d_M_planned_43 : decode prog_7_method_37_code 43 = .ok (.iload_n 1, 1) := jx_dec c_M_planned_ok 24 rfl
theorem d_M_planned_44 : decode prog_7_method_37_code 44 = .ok (.if_icmp .ne 39, 3) := jx_dec c_M_planned_ok 25 rfl
theorem d_M_planned_47 : decode prog_7_method_37_code 47 = .ok (.iload_n 3, 1) := jx_dec c_M_planned_ok 26 rfl
theorem d_M_planned_48 : decode prog_7_method_37_code 48 = .ok (.iload 6, 2) := jx_dec c_M_planned_ok 27 rfl
theorem d_M_planned_50 : decode prog_7_method_37_code 50 = .ok (.ishr, 1) := jx_dec c_M_planned_ok 28 rfl
theorem d_M_planned_51 : decode prog_7_method_37_code 51 = .ok (.iconst 1, 1) := jx_dec c_M_planned_ok 29 rfl
theorem d_M_planned_52 : decode prog_7_method_37_code 52 = .ok (.iand, 1) := jx_dec c_M_planned_ok 30 rfl
theorem d_M_planned_53 : decode prog_7_method_37_code 53 = .ok (.ifCond .ne 30, 3) := jx_dec c_M_planned_ok 31 rfl
theorem d_M_planned_56 : decode prog_7_method_37_code 56 = .ok (.iload 5, 2) := jx_dec c_M_planned_ok 32 rfl
theorem d_M_planned_58 : decode prog_7_method_37_code 58 = .ok (.iconst (-1), 1) := jx_dec c_M_planned_ok 33 rfl
theorem d_M_planned_59 : decode prog_7_method_37_code 59 = .ok (.if_icmp .eq 20, 3) := jx_dec c_M_planned_ok 34 rfl
theorem d_M_planned_62 : decode prog_7_method_37_code 62 = .ok (.aload_n 0, 1) := jx_dec c_M_planned_ok 35 rfl
theorem d_M_planned_63 : decode prog_7_method_37_code 63 = .ok (.getfield 59, 3) := jx_dec c_M_planned_ok 36 rfl
theorem d_M_planned_66 : decode prog_7_method_37_code 66 = .ok (.iload 6, 2) := jx_dec c_M_planned_ok 37 rfl
theorem d_M_planned_68 : decode prog_7_method_37_code 68 = .ok (.iaload, 1) := jx_dec c_M_planned_ok 38 rfl
theorem d_M_planned_69 : decode prog_7_method_37_code 69 = .ok (.aload_n 0, 1) := jx_dec c_M_planned_ok 39 rfl
theorem d_M_planned_70 : decode prog_7_method_37_code 70 = .ok (.getfield 59, 3) := jx_dec c_M_planned_ok 40 rfl
theorem d_M_planned_73 : decode prog_7_method_37_code 73 = .ok (.iload 5, 2) := jx_dec c_M_planned_ok 41 rfl
theorem d_M_planned_75 : decode prog_7_method_37_code 75 = .ok (.iaload, 1) := jx_dec c_M_planned_ok 42 rfl
theorem d_M_planned_76 : decode prog_7_method_37_code 76 = .ok (.if_icmp .ge 7, 3) := jx_dec c_M_planned_ok 43 rfl
theorem d_M_planned_79 : decode prog_7_method_37_code 79 = .ok (.iload 6, 2) := jx_dec c_M_planned_ok 44 rfl
theorem d_M_planned_81 : decode prog_7_method_37_code 81 = .ok (.istore 5, 2) := jx_dec c_M_planned_ok 45 rfl
theorem d_M_planned_83 : decode prog_7_method_37_code 83 = .ok (.iinc 6 1, 3) := jx_dec c_M_planned_ok 46 rfl
theorem d_M_planned_86 : decode prog_7_method_37_code 86 = .ok (.goto (-69), 3) := jx_dec c_M_planned_ok 47 rfl
theorem d_M_planned_89 : decode prog_7_method_37_code 89 = .ok (.iload 5, 2) := jx_dec c_M_planned_ok 48 rfl
theorem d_M_planned_91 : decode prog_7_method_37_code 91 = .ok (.iconst (-1), 1) := jx_dec c_M_planned_ok 49 rfl
theorem d_M_planned_92 : decode prog_7_method_37_code 92 = .ok (.if_icmp .ne 5, 3) := jx_dec c_M_planned_ok 50 rfl
theorem d_M_planned_95 : decode prog_7_method_37_code 95 = .ok (.iconst (-1), 1) := jx_dec c_M_planned_ok 51 rfl
theorem d_M_planned_96 : decode prog_7_method_37_code 96 = .ok (.ireturn, 1) := jx_dec c_M_planned_ok 52 rfl
theorem d_M_planned_97 : decode prog_7_method_37_code 97 = .ok (.iload 4, 2) := jx_dec c_M_planned_ok 53 rfl
theorem d_M_planned_99 : decode prog_7_method_37_code 99 = .ok (.iload_n 2, 1) := jx_dec c_M_planned_ok 54 rfl
theorem d_M_planned_100 : decode prog_7_method_37_code 100 = .ok (.if_icmp .ne 6, 3) := jx_dec c_M_planned_ok 55 rfl
theorem d_M_planned_103 : decode prog_7_method_37_code 103 = .ok (.iload 5, 2) := jx_dec c_M_planned_ok 56 rfl
theorem d_M_planned_105 : decode prog_7_method_37_code 105 = .ok (.ireturn, 1) := jx_dec c_M_planned_ok 57 rfl
theorem d_M_planned_106 : decode prog_7_method_37_code 106 = .ok (.iload_n 3, 1) := jx_dec c_M_planned_ok 58 rfl
theorem d_M_planned_107 : decode prog_7_method_37_code 107 = .ok (.iconst 1, 1) := jx_dec c_M_planned_ok 59 rfl
theorem d_M_planned_108 : decode prog_7_method_37_code 108 = .ok (.iload 5, 2) := jx_dec c_M_planned_ok 60 rfl
theorem d_M_planned_110 : decode prog_7_method_37_code 110 = .ok (.ishl, 1) := jx_dec c_M_planned_ok 61 rfl
theorem d_M_planned_111 : decode prog_7_method_37_code 111 = .ok (.ior, 1) := jx_dec c_M_planned_ok 62 rfl
theorem d_M_planned_112 : decode prog_7_method_37_code 112 = .ok (.istore_n 3, 1) := jx_dec c_M_planned_ok 63 rfl
theorem d_M_planned_113 : decode prog_7_method_37_code 113 = .ok (.iinc 4 1, 3) := jx_dec c_M_planned_ok 64 rfl
theorem d_M_planned_116 : decode prog_7_method_37_code 116 = .ok (.goto (-111), 3) := jx_dec c_M_planned_ok 65 rfl
theorem d_M_planned_119 : decode prog_7_method_37_code 119 = .ok (.iconst (-1), 1) := jx_dec c_M_planned_ok 66 rfl
theorem d_M_planned_120 : decode prog_7_method_37_code 120 = .ok (.ireturn, 1) := jx_dec c_M_planned_ok 67 rfl
def c_M_done : List (Nat × Instr × Nat) := [(0, .aload_n 0, 1), (1, .aload_n 0, 1), (2, .iload_n 1, 1), (3, .invokevirtual 98, 3), (6, .ifCond .ne 7, 3), (9, .iconst 1, 1), (10, .goto 48, 3), (13, .aload_n 0, 1), (14, .getfield 32, 3), (17, .iload_n 1, 1), (18, .iaload, 1), (19, .iconst (-1), 1), (20, .if_icmp .eq 33, 3), (23, .aload_n 0, 1), (24, .getfield 117, 3), (27, .aload_n 0, 1), (28, .getfield 59, 3), (31, .aload_n 0, 1), (32, .getfield 32, 3), (35, .iload_n 1, 1), (36, .iaload, 1), (37, .iaload, 1), (38, .aload_n 0, 1), (39, .getfield 44, 3), (42, .aload_n 0, 1), (43, .getfield 32, 3), (46, .iload_n 1, 1), (47, .iaload, 1), (48, .iaload, 1), (49, .iadd, 1), (50, .if_icmp .ge 7, 3), (53, .iconst 2, 1), (54, .goto 4, 3), (57, .iconst 0, 1), (58, .putfield 83, 3), (61, .aload_n 0, 1), (62, .getfield 83, 3), (65, .ifCond .eq 5, 3), (68, .iconst 0, 1), (69, .ireturn, 1), (70, .aload_n 0, 1), (71, .getfield 38, 3), (74, .aload_n 0, 1), (75, .getfield 32, 3), (78, .iload_n 1, 1), (79, .iaload, 1), (80, .iconst 2, 1), (81, .iastore, 1), (82, .aload_n 0, 1), (83, .getfield 32, 3), (86, .iload_n 1, 1), (87, .iconst (-1), 1), (88, .iastore, 1), (89, .aload_n 0, 1), (90, .iload_n 1, 1), (91, .invokevirtual 191, 3), (94, .ireturn, 1)]
theorem c_M_done_ok : (c_M_done).all (fun q => decide (decode prog_7_method_40_code q.1 = .ok q.2)) = true := by decide +kernel
theorem d_M_done_0 : decode prog_7_method_40_code 0 = .ok (.aload_n 0, 1) := jx_dec c_M_done_ok 0 rfl
theorem d_M_done_1 : decode prog_7_method_40_code 1 = .ok (.aload_n 0, 1) := jx_dec c_M_done_ok 1 rfl
theorem d_M_done_2 : decode prog_7_method_40_code 2 = .ok (.iload_n 1, 1) := jx_dec c_M_done_ok 2 rfl
theorem d_M_done_3 : decode prog_7_method_40_code 3 = .ok (.invokevirtual 98, 3) := jx_dec c_M_done_ok 3 rfl
theorem d_M_done_6 : decode prog_7_method_40_code 6 = .ok (.ifCond .ne 7, 3) := jx_dec c_M_done_ok 4 rfl
theorem d_M_done_9 : decode prog_7_method_40_code 9 = .ok (.iconst 1, 1) := jx_dec c_M_done_ok 5 rfl
theorem d_M_done_10 : decode prog_7_method_40_code 10 = .ok (.goto 48, 3) := jx_dec c_M_done_ok 6 rfl
theorem d_M_done_13 : decode prog_7_method_40_code 13 = .ok (.aload_n 0, 1) := jx_dec c_M_done_ok 7 rfl
theorem d_M_done_14 : decode prog_7_method_40_code 14 = .ok (.getfield 32, 3) := jx_dec c_M_done_ok 8 rfl
theorem d_M_done_17 : decode prog_7_method_40_code 17 = .ok (.iload_n 1, 1) := jx_dec c_M_done_ok 9 rfl
theorem d_M_done_18 : decode prog_7_method_40_code 18 = .ok (.iaload, 1) := jx_dec c_M_done_ok 10 rfl
theorem d_M_done_19 : decode prog_7_method_40_code 19 = .ok (.iconst (-1), 1) := jx_dec c_M_done_ok 11 rfl
theorem d_M_done_20 : decode prog_7_method_40_code 20 = .ok (.if_icmp .eq 33, 3) := jx_dec c_M_done_ok 12 rfl
theorem d_M_done_23 : decode prog_7_method_40_code 23 = .ok (.aload_n 0, 1) := jx_dec c_M_done_ok 13 rfl
theorem d_M_done_24 : decode prog_7_method_40_code 24 = .ok (.getfield 117, 3) := jx_dec c_M_done_ok 14 rfl
theorem d_M_done_27 : decode prog_7_method_40_code 27 = .ok (.aload_n 0, 1) := jx_dec c_M_done_ok 15 rfl
theorem d_M_done_28 : decode prog_7_method_40_code 28 = .ok (.getfield 59, 3) := jx_dec c_M_done_ok 16 rfl
theorem d_M_done_31 : decode prog_7_method_40_code 31 = .ok (.aload_n 0, 1) := jx_dec c_M_done_ok 17 rfl
theorem d_M_done_32 : decode prog_7_method_40_code 32 = .ok (.getfield 32, 3) := jx_dec c_M_done_ok 18 rfl
theorem d_M_done_35 : decode prog_7_method_40_code 35 = .ok (.iload_n 1, 1) := jx_dec c_M_done_ok 19 rfl
theorem d_M_done_36 : decode prog_7_method_40_code 36 = .ok (.iaload, 1) := jx_dec c_M_done_ok 20 rfl
theorem d_M_done_37 : decode prog_7_method_40_code 37 = .ok (.iaload, 1) := jx_dec c_M_done_ok 21 rfl
theorem d_M_done_38 : decode prog_7_method_40_code 38 = .ok (.aload_n 0, 1) := jx_dec c_M_done_ok 22 rfl
theorem d_M_done_39 : decode prog_7_method_40_code 39 = .ok (.getfield 44, 3) := jx_dec c_M_done_ok 23 rfl
theorem d_M_done_42 : decode prog_7_method_40_code 42 = .ok (.aload_n 0, 1) := jx_dec c_M_done_ok 24 rfl
theorem d_M_done_43 : decode prog_7_method_40_code 43 = .ok (.getfield 32, 3) := jx_dec c_M_done_ok 25 rfl
theorem d_M_done_46 : decode prog_7_method_40_code 46 = .ok (.iload_n 1, 1) := jx_dec c_M_done_ok 26 rfl
theorem d_M_done_47 : decode prog_7_method_40_code 47 = .ok (.iaload, 1) := jx_dec c_M_done_ok 27 rfl
theorem d_M_done_48 : decode prog_7_method_40_code 48 = .ok (.iaload, 1) := jx_dec c_M_done_ok 28 rfl
theorem d_M_done_49 : decode prog_7_method_40_code 49 = .ok (.iadd, 1) := jx_dec c_M_done_ok 29 rfl
theorem d_M_done_50 : decode prog_7_method_40_code 50 = .ok (.if_icmp .ge 7, 3) := jx_dec c_M_done_ok 30 rfl
theorem d_M_done_53 : decode prog_7_method_40_code 53 = .ok (.iconst 2, 1) := jx_dec c_M_done_ok 31 rfl
theorem d_M_done_54 : decode prog_7_method_40_code 54 = .ok (.goto 4, 3) := jx_dec c_M_done_ok 32 rfl
theorem d_M_done_57 : decode prog_7_method_40_code 57 = .ok (.iconst 0, 1) := jx_dec c_M_done_ok 33 rfl
theorem d_M_done_58 : decode prog_7_method_40_code 58 = .ok (.putfield 83, 3) := jx_dec c_M_done_ok 34 rfl
theorem d_M_done_61 : decode prog_7_method_40_code 61 = .ok (.aload_n 0, 1) := jx_dec c_M_done_ok 35 rfl
theorem d_M_done_62 : decode prog_7_method_40_code 62 = .ok (.getfield 83, 3) := jx_dec c_M_done_ok 36 rfl
theorem d_M_done_65 : decode prog_7_method_40_code 65 = .ok (.ifCond .eq 5, 3) := jx_dec c_M_done_ok 37 rfl
theorem d_M_done_68 : decode prog_7_method_40_code 68 = .ok (.iconst 0, 1) := jx_dec c_M_done_ok 38 rfl
theorem d_M_done_69 : decode prog_7_method_40_code 69 = .ok (.ireturn, 1) := jx_dec c_M_done_ok 39 rfl
theorem d_M_done_70 : decode prog_7_method_40_code 70 = .ok (.aload_n 0, 1) := jx_dec c_M_done_ok 40 rfl
theorem d_M_done_71 : decode prog_7_method_40_code 71 = .ok (.getfield 38, 3) := jx_dec c_M_done_ok 41 rfl
theorem d_M_done_74 : decode prog_7_method_40_code 74 = .ok (.aload_n 0, 1) := jx_dec c_M_done_ok 42 rfl
theorem d_M_done_75 : decode prog_7_method_40_code 75 = .ok (.getfield 32, 3) := jx_dec c_M_done_ok 43 rfl
theorem d_M_done_78 : decode prog_7_method_40_code 78 = .ok (.iload_n 1, 1) := jx_dec c_M_done_ok 44 rfl
theorem d_M_done_79 : decode prog_7_method_40_code 79 = .ok (.iaload, 1) := jx_dec c_M_done_ok 45 rfl
theorem d_M_done_80 : decode prog_7_method_40_code 80 = .ok (.iconst 2, 1) := jx_dec c_M_done_ok 46 rfl
theorem d_M_done_81 : decode prog_7_method_40_code 81 = .ok (.iastore, 1) := jx_dec c_M_done_ok 47 rfl
theorem d_M_done_82 : decode prog_7_method_40_code 82 = .ok (.aload_n 0, 1) := jx_dec c_M_done_ok 48 rfl
theorem d_M_done_83 : decode prog_7_method_40_code 83 = .ok (.getfield 32, 3) := jx_dec c_M_done_ok 49 rfl
theorem d_M_done_86 : decode prog_7_method_40_code 86 = .ok (.iload_n 1, 1) := jx_dec c_M_done_ok 50 rfl
theorem d_M_done_87 : decode prog_7_method_40_code 87 = .ok (.iconst (-1), 1) := jx_dec c_M_done_ok 51 rfl
theorem d_M_done_88 : decode prog_7_method_40_code 88 = .ok (.iastore, 1) := jx_dec c_M_done_ok 52 rfl
theorem d_M_done_89 : decode prog_7_method_40_code 89 = .ok (.aload_n 0, 1) := jx_dec c_M_done_ok 53 rfl
theorem d_M_done_90 : decode prog_7_method_40_code 90 = .ok (.iload_n 1, 1) := jx_dec c_M_done_ok 54 rfl
theorem d_M_done_91 : decode prog_7_method_40_code 91 = .ok (.invokevirtual 191, 3) := jx_dec c_M_done_ok 55 rfl
theorem d_M_done_94 : decode prog_7_method_40_code 94 = .ok (.ireturn, 1) := jx_dec c_M_done_ok 56 rfl
def c_M_doneBy : List (Nat × Instr × Nat) := [(0, .iconst 0, 1), (1, .istore_n 2, 1), (2, .iconst 0, 1), (3, .istore_n 3, 1), (4, .iload_n 3, 1), (5, .aload_n 0, 1), (6, .getfield 94, 3), (9, .if_icmp .ge 37, 3), (12, .aload_n 0, 1), (13, .getfield 38, 3), (16, .iload_n 3, 1), (17, .iaload, 1), (18, .iconst 2, 1), (19, .if_icmp .ne 21, 3), (22, .iload_n 1, 1), (23, .iconst (-1), 1), (24, .if_icmp .eq 13, 3), (27, .aload_n 0, 1), (28, .getfield 56, 3), (31, .iload_n 3, 1), (32, .iaload, 1), (33, .iload_n 1, 1), (34, .if_icmp .ne 6, 3), (37, .iinc 2 1, 3), (40, .iinc 3 1, 3), (43, .goto (-39), 3), (46, .iload_n 2, 1), (47, .ireturn, 1)]
theorem c_M_doneBy_ok : (c_M_doneBy).all (fun q => decide (decode prog_7_method_39_code q.1 = .ok q.2)) = true := by decide +kernel
theorem d_M_doneBy_0 : decode prog_7_method_39_code 0 = .ok (.iconst 0, 1) := jx_dec c_M_doneBy_ok 0 rfl
theorem d_M_doneBy_1 : decode prog_7_method_39_code 1 = .ok (.istore_n 2, 1) := jx_dec c_M_doneBy_ok 1 rfl
theorem d_M_doneBy_2 : decode prog_7_method_39_code 2 = .ok (.iconst 0, 1) := jx_dec c_M_doneBy_ok 2 rfl
theorem d_M_doneBy_3 : decode prog_7_method_39_code 3 = .ok (.istore_n 3, 1) := jx_dec c_M_doneBy_ok 3 rfl
theorem d_M_doneBy_4 : decode prog_7_method_39_code 4 = .ok (.iload_n 3, 1) := jx_dec c_M_doneBy_ok 4 rfl
theorem d_M_doneBy_5 : decode prog_7_method_39_code 5 = .ok (.aload_n 0, 1) := jx_dec c_M_doneBy_ok 5 rfl
theorem d_M_doneBy_6 : decode prog_7_method_39_code 6 = .ok (.getfield 94, 3) := jx_dec c_M_doneBy_ok 6 rfl
theorem d_M_doneBy_9 : decode prog_7_method_39_code 9 = .ok (.if_icmp .ge 37, 3) := jx_dec c_M_doneBy_ok 7 rfl
theorem d_M_doneBy_12 : decode prog_7_method_39_code 12 = .ok (.aload_n 0, 1) := jx_dec c_M_doneBy_ok 8 rfl
theorem d_M_doneBy_13 : decode prog_7_method_39_code 13 = .ok (.getfield 38, 3) := jx_dec c_M_doneBy_ok 9 rfl
theorem d_M_doneBy_16 : decode prog_7_method_39_code 16 = .ok (.iload_n 3, 1) := jx_dec c_M_doneBy_ok 10 rfl
theorem d_M_doneBy_17 : decode prog_7_method_39_code 17 = .ok (.iaload, 1) := jx_dec c_M_doneBy_ok 11 rfl
theorem d_M_doneBy_18 : decode prog_7_method_39_code 18 = .ok (.iconst 2, 1) := jx_dec c_M_doneBy_ok 12 rfl
theorem d_M_doneBy_19 : decode prog_7_method_39_code 19 = .ok (.if_icmp .ne 21, 3) := jx_dec c_M_doneBy_ok 13 rfl
theorem d_M_doneBy_22 : decode prog_7_method_39_code 22 = .ok (.iload_n 1, 1) := jx_dec c_M_doneBy_ok 14 rfl
theorem d_M_doneBy_23 : decode prog_7_method_39_code 23 = .ok (.iconst (-1), 1) := jx_dec c_M_doneBy_ok 15 rfl
theorem d_M_doneBy_24 : decode prog_7_method_39_code 24 = .ok (.if_icmp .eq 13, 3) := jx_dec c_M_doneBy_ok 16 rfl
theorem d_M_doneBy_27 : decode prog_7_method_39_code 27 = .ok (.aload_n 0, 1) := jx_dec c_M_doneBy_ok 17 rfl
theorem d_M_doneBy_28 : decode prog_7_method_39_code 28 = .ok (.getfield 56, 3) := jx_dec c_M_doneBy_ok 18 rfl
theorem d_M_doneBy_31 : decode prog_7_method_39_code 31 = .ok (.iload_n 3, 1) := jx_dec c_M_doneBy_ok 19 rfl
theorem d_M_doneBy_32 : decode prog_7_method_39_code 32 = .ok (.iaload, 1) := jx_dec c_M_doneBy_ok 20 rfl
theorem d_M_doneBy_33 : decode prog_7_method_39_code 33 = .ok (.iload_n 1, 1) := jx_dec c_M_doneBy_ok 21 rfl
theorem d_M_doneBy_34 : decode prog_7_method_39_code 34 = .ok (.if_icmp .ne 6, 3) := jx_dec c_M_doneBy_ok 22 rfl
theorem d_M_doneBy_37 : decode prog_7_method_39_code 37 = .ok (.iinc 2 1, 3) := jx_dec c_M_doneBy_ok 23 rfl
theorem d_M_doneBy_40 : decode prog_7_method_39_code 40 = .ok (.iinc 3 1, 3) := jx_dec c_M_doneBy_ok 24 rfl
theorem d_M_doneBy_43 : decode prog_7_method_39_code 43 = .ok (.goto (-39), 3) := jx_dec c_M_doneBy_ok 25 rfl
theorem d_M_doneBy_46 : decode prog_7_method_39_code 46 = .ok (.iload_n 2, 1) := jx_dec c_M_doneBy_ok 26 rfl
theorem d_M_doneBy_47 : decode prog_7_method_39_code 47 = .ok (.ireturn, 1) := jx_dec c_M_doneBy_ok 27 rfl
def c_M_leaves : List (Nat × Instr × Nat) := [(0, .aload_n 0, 1), (1, .aload_n 0, 1), (2, .iload_n 1, 1), (3, .invokevirtual 98, 3), (6, .ifCond .ne 7, 3), (9, .iconst 1, 1), (10, .goto 17, 3), (13, .aload_n 0, 1), (14, .getfield 28, 3), (17, .iload_n 1, 1), (18, .baload, 1), (19, .ifCond .ne 7, 3), (22, .iconst 2, 1), (23, .goto 4, 3), (26, .iconst 0, 1), (27, .putfield 83, 3), (30, .aload_n 0, 1), (31, .getfield 83, 3), (34, .ifCond .eq 5, 3), (37, .iconst 0, 1), (38, .ireturn, 1), (39, .aload_n 0, 1), (40, .getfield 28, 3), (43, .iload_n 1, 1), (44, .iconst 0, 1), (45, .bastore, 1), (46, .aload_n 0, 1), (47, .getfield 32, 3), (50, .iload_n 1, 1), (51, .iconst (-1), 1), (52, .iastore, 1), (53, .iconst 0, 1), (54, .istore_n 2, 1), (55, .iconst 0, 1), (56, .istore_n 3, 1), (57, .iload_n 3, 1), (58, .aload_n 0, 1), (59, .getfield 94, 3), (62, .if_icmp .ge 37, 3), (65, .aload_n 0, 1), (66, .getfield 56, 3), (69, .iload_n 3, 1), (70, .iaload, 1), (71, .iload_n 1, 1), (72, .if_icmp .ne 21, 3), (75, .aload_n 0, 1), (76, .getfield 38, 3), (79, .iload_n 3, 1), (80, .iaload, 1), (81, .iconst 2, 1), (82, .if_icmp .eq 11, 3), (85, .aload_n 0, 1), (86, .iload_n 3, 1), (87, .invokevirtual 113, 3), (90, .iinc 2 1, 3), (93, .iinc 3 1, 3), (96, .goto (-39), 3), (99, .iload_n 2, 1), (100, .ireturn, 1)]
theorem c_M_leaves_ok : (c_M_leaves).all (fun q => decide (decode prog_7_method_41_code q.1 = .ok q.2)) = true := by decide +kernel
theorem d_M_leaves_0 : decode prog_7_method_41_code 0 = .ok (.aload_n 0, 1) := jx_dec c_M_leaves_ok 0 rfl
theorem d_M_leaves_1 : decode prog_7_method_41_code 1 = .ok (.aload_n 0, 1) := jx_dec c_M_leaves_ok 1 rfl
theorem d_M_leaves_2 : decode prog_7_method_41_code 2 = .ok (.iload_n 1, 1) := jx_dec c_M_leaves_ok 2 rfl
theorem d_M_leaves_3 : decode prog_7_method_41_code 3 = .ok (.invokevirtual 98, 3) := jx_dec c_M_leaves_ok 3 rfl
theorem d_M_leaves_6 : decode prog_7_method_41_code 6 = .ok (.ifCond .ne 7, 3) := jx_dec c_M_leaves_ok 4 rfl
theorem d_M_leaves_9 : decode prog_7_method_41_code 9 = .ok (.iconst 1, 1) := jx_dec c_M_leaves_ok 5 rfl
theorem d_M_leaves_10 : decode prog_7_method_41_code 10 = .ok (.goto 17, 3) := jx_dec c_M_leaves_ok 6 rfl
theorem d_M_leaves_13 : decode prog_7_method_41_code 13 = .ok (.aload_n 0, 1) := jx_dec c_M_leaves_ok 7 rfl
theorem d_M_leaves_14 : decode prog_7_method_41_code 14 = .ok (.getfield 28, 3) := jx_dec c_M_leaves_ok 8 rfl
theorem d_M_leaves_17 : decode prog_7_method_41_code 17 = .ok (.iload_n 1, 1) := jx_dec c_M_leaves_ok 9 rfl
theorem d_M_leaves_18 : decode prog_7_method_41_code 18 = .ok (.baload, 1) := jx_dec c_M_leaves_ok 10 rfl
theorem d_M_leaves_19 : decode prog_7_method_41_code 19 = .ok (.ifCond .ne 7, 3) := jx_dec c_M_leaves_ok 11 rfl
theorem d_M_leaves_22 : decode prog_7_method_41_code 22 = .ok (.iconst 2, 1) := jx_dec c_M_leaves_ok 12 rfl
theorem d_M_leaves_23 : decode prog_7_method_41_code 23 = .ok (.goto 4, 3) := jx_dec c_M_leaves_ok 13 rfl
theorem d_M_leaves_26 : decode prog_7_method_41_code 26 = .ok (.iconst 0, 1) := jx_dec c_M_leaves_ok 14 rfl
theorem d_M_leaves_27 : decode prog_7_method_41_code 27 = .ok (.putfield 83, 3) := jx_dec c_M_leaves_ok 15 rfl
theorem d_M_leaves_30 : decode prog_7_method_41_code 30 = .ok (.aload_n 0, 1) := jx_dec c_M_leaves_ok 16 rfl
theorem d_M_leaves_31 : decode prog_7_method_41_code 31 = .ok (.getfield 83, 3) := jx_dec c_M_leaves_ok 17 rfl
theorem d_M_leaves_34 : decode prog_7_method_41_code 34 = .ok (.ifCond .eq 5, 3) := jx_dec c_M_leaves_ok 18 rfl
theorem d_M_leaves_37 : decode prog_7_method_41_code 37 = .ok (.iconst 0, 1) := jx_dec c_M_leaves_ok 19 rfl
theorem d_M_leaves_38 : decode prog_7_method_41_code 38 = .ok (.ireturn, 1) := jx_dec c_M_leaves_ok 20 rfl
theorem d_M_leaves_39 : decode prog_7_method_41_code 39 = .ok (.aload_n 0, 1) := jx_dec c_M_leaves_ok 21 rfl
theorem d_M_leaves_40 : decode prog_7_method_41_code 40 = .ok (.getfield 28, 3) := jx_dec c_M_leaves_ok 22 rfl
theorem d_M_leaves_43 : decode prog_7_method_41_code 43 = .ok (.iload_n 1, 1) := jx_dec c_M_leaves_ok 23 rfl
theorem d_M_leaves_44 : decode prog_7_method_41_code 44 = .ok (.iconst 0, 1) := jx_dec c_M_leaves_ok 24 rfl
theorem d_M_leaves_45 : decode prog_7_method_41_code 45 = .ok (.bastore, 1) := jx_dec c_M_leaves_ok 25 rfl
theorem d_M_leaves_46 : decode prog_7_method_41_code 46 = .ok (.aload_n 0, 1) := jx_dec c_M_leaves_ok 26 rfl
theorem d_M_leaves_47 : decode prog_7_method_41_code 47 = .ok (.getfield 32, 3) := jx_dec c_M_leaves_ok 27 rfl
theorem d_M_leaves_50 : decode prog_7_method_41_code 50 = .ok (.iload_n 1, 1) := jx_dec c_M_leaves_ok 28 rfl
theorem d_M_leaves_51 : decode prog_7_method_41_code 51 = .ok (.iconst (-1), 1) := jx_dec c_M_leaves_ok 29 rfl
theorem d_M_leaves_52 : decode prog_7_method_41_code 52 = .ok (.iastore, 1) := jx_dec c_M_leaves_ok 30 rfl
theorem d_M_leaves_53 : decode prog_7_method_41_code 53 = .ok (.iconst 0, 1) := jx_dec c_M_leaves_ok 31 rfl
theorem d_M_leaves_54 : decode prog_7_method_41_code 54 = .ok (.istore_n 2, 1) := jx_dec c_M_leaves_ok 32 rfl
theorem d_M_leaves_55 : decode prog_7_method_41_code 55 = .ok (.iconst 0, 1) := jx_dec c_M_leaves_ok 33 rfl
theorem d_M_leaves_56 : decode prog_7_method_41_code 56 = .ok (.istore_n 3, 1) := jx_dec c_M_leaves_ok 34 rfl
theorem d_M_leaves_57 : decode prog_7_method_41_code 57 = .ok (.iload_n 3, 1) := jx_dec c_M_leaves_ok 35 rfl
theorem d_M_leaves_58 : decode prog_7_method_41_code 58 = .ok (.aload_n 0, 1) := jx_dec c_M_leaves_ok 36 rfl
theorem d_M_leaves_59 : decode prog_7_method_41_code 59 = .ok (.getfield 94, 3) := jx_dec c_M_leaves_ok 37 rfl
theorem d_M_leaves_62 : decode prog_7_method_41_code 62 = .ok (.if_icmp .ge 37, 3) := jx_dec c_M_leaves_ok 38 rfl
theorem d_M_leaves_65 : decode prog_7_method_41_code 65 = .ok (.aload_n 0, 1) := jx_dec c_M_leaves_ok 39 rfl
theorem d_M_leaves_66 : decode prog_7_method_41_code 66 = .ok (.getfield 56, 3) := jx_dec c_M_leaves_ok 40 rfl
theorem d_M_leaves_69 : decode prog_7_method_41_code 69 = .ok (.iload_n 3, 1) := jx_dec c_M_leaves_ok 41 rfl
theorem d_M_leaves_70 : decode prog_7_method_41_code 70 = .ok (.iaload, 1) := jx_dec c_M_leaves_ok 42 rfl
theorem d_M_leaves_71 : decode prog_7_method_41_code 71 = .ok (.iload_n 1, 1) := jx_dec c_M_leaves_ok 43 rfl
theorem d_M_leaves_72 : decode prog_7_method_41_code 72 = .ok (.if_icmp .ne 21, 3) := jx_dec c_M_leaves_ok 44 rfl
theorem d_M_leaves_75 : decode prog_7_method_41_code 75 = .ok (.aload_n 0, 1) := jx_dec c_M_leaves_ok 45 rfl
theorem d_M_leaves_76 : decode prog_7_method_41_code 76 = .ok (.getfield 38, 3) := jx_dec c_M_leaves_ok 46 rfl
theorem d_M_leaves_79 : decode prog_7_method_41_code 79 = .ok (.iload_n 3, 1) := jx_dec c_M_leaves_ok 47 rfl
theorem d_M_leaves_80 : decode prog_7_method_41_code 80 = .ok (.iaload, 1) := jx_dec c_M_leaves_ok 48 rfl
theorem d_M_leaves_81 : decode prog_7_method_41_code 81 = .ok (.iconst 2, 1) := jx_dec c_M_leaves_ok 49 rfl
theorem d_M_leaves_82 : decode prog_7_method_41_code 82 = .ok (.if_icmp .eq 11, 3) := jx_dec c_M_leaves_ok 50 rfl
theorem d_M_leaves_85 : decode prog_7_method_41_code 85 = .ok (.aload_n 0, 1) := jx_dec c_M_leaves_ok 51 rfl
theorem d_M_leaves_86 : decode prog_7_method_41_code 86 = .ok (.iload_n 3, 1) := jx_dec c_M_leaves_ok 52 rfl
theorem d_M_leaves_87 : decode prog_7_method_41_code 87 = .ok (.invokevirtual 113, 3) := jx_dec c_M_leaves_ok 53 rfl
theorem d_M_leaves_90 : decode prog_7_method_41_code 90 = .ok (.iinc 2 1, 3) := jx_dec c_M_leaves_ok 54 rfl
theorem d_M_leaves_93 : decode prog_7_method_41_code 93 = .ok (.iinc 3 1, 3) := jx_dec c_M_leaves_ok 55 rfl
theorem d_M_leaves_96 : decode prog_7_method_41_code 96 = .ok (.goto (-39), 3) := jx_dec c_M_leaves_ok 56 rfl
theorem d_M_leaves_99 : decode prog_7_method_41_code 99 = .ok (.iload_n 2, 1) := jx_dec c_M_leaves_ok 57 rfl
theorem d_M_leaves_100 : decode prog_7_method_41_code 100 = .ok (.ireturn, 1) := jx_dec c_M_leaves_ok 58 rfl
def c_M_fair : List (Nat × Instr × Nat) := [(0, .aload_n 0, 1), (1, .aload_n 0, 1), (2, .iload_n 1, 1), (3, .invokevirtual 98, 3), (6, .ifCond .eq 7, 3), (9, .iconst 0, 1), (10, .goto 4, 3), (13, .iconst 1, 1), (14, .putfield 83, 3), (17, .aload_n 0, 1), (18, .getfield 83, 3), (21, .ifCond .eq 5, 3), (24, .iconst 0, 1), (25, .ireturn, 1), (26, .aload_n 0, 1), (27, .iconst (-1), 1), (28, .invokevirtual 191, 3), (31, .istore_n 2, 1), (32, .iload_n 2, 1), (33, .ifCond .ne 7, 3), (36, .iconst 0, 1), (37, .goto 13, 3), (40, .bipush 100, 2), (42, .aload_n 0, 1), (43, .iload_n 1, 1), (44, .invokevirtual 191, 3), (47, .imul, 1), (48, .iload_n 2, 1), (49, .idiv, 1), (50, .ireturn, 1)]
theorem c_M_fair_ok : (c_M_fair).all (fun q => decide (decode prog_7_method_42_code q.1 = .ok q.2)) = true := by decide +kernel
theorem d_M_fair_0 : decode prog_7_method_42_code 0 = .ok (.aload_n 0, 1) := jx_dec c_M_fair_ok 0 rfl
theorem d_M_fair_1 : decode prog_7_method_42_code 1 = .ok (.aload_n 0, 1) := jx_dec c_M_fair_ok 1 rfl
theorem d_M_fair_2 : decode prog_7_method_42_code 2 = .ok (.iload_n 1, 1) := jx_dec c_M_fair_ok 2 rfl
theorem d_M_fair_3 : decode prog_7_method_42_code 3 = .ok (.invokevirtual 98, 3) := jx_dec c_M_fair_ok 3 rfl
theorem d_M_fair_6 : decode prog_7_method_42_code 6 = .ok (.ifCond .eq 7, 3) := jx_dec c_M_fair_ok 4 rfl
theorem d_M_fair_9 : decode prog_7_method_42_code 9 = .ok (.iconst 0, 1) := jx_dec c_M_fair_ok 5 rfl
theorem d_M_fair_10 : decode prog_7_method_42_code 10 = .ok (.goto 4, 3) := jx_dec c_M_fair_ok 6 rfl
theorem d_M_fair_13 : decode prog_7_method_42_code 13 = .ok (.iconst 1, 1) := jx_dec c_M_fair_ok 7 rfl
theorem d_M_fair_14 : decode prog_7_method_42_code 14 = .ok (.putfield 83, 3) := jx_dec c_M_fair_ok 8 rfl
theorem d_M_fair_17 : decode prog_7_method_42_code 17 = .ok (.aload_n 0, 1) := jx_dec c_M_fair_ok 9 rfl
theorem d_M_fair_18 : decode prog_7_method_42_code 18 = .ok (.getfield 83, 3) := jx_dec c_M_fair_ok 10 rfl
theorem d_M_fair_21 : decode prog_7_method_42_code 21 = .ok (.ifCond .eq 5, 3) := jx_dec c_M_fair_ok 11 rfl
theorem d_M_fair_24 : decode prog_7_method_42_code 24 = .ok (.iconst 0, 1) := jx_dec c_M_fair_ok 12 rfl
theorem d_M_fair_25 : decode prog_7_method_42_code 25 = .ok (.ireturn, 1) := jx_dec c_M_fair_ok 13 rfl
theorem d_M_fair_26 : decode prog_7_method_42_code 26 = .ok (.aload_n 0, 1) := jx_dec c_M_fair_ok 14 rfl
theorem d_M_fair_27 : decode prog_7_method_42_code 27 = .ok (.iconst (-1), 1) := jx_dec c_M_fair_ok 15 rfl
theorem d_M_fair_28 : decode prog_7_method_42_code 28 = .ok (.invokevirtual 191, 3) := jx_dec c_M_fair_ok 16 rfl
theorem d_M_fair_31 : decode prog_7_method_42_code 31 = .ok (.istore_n 2, 1) := jx_dec c_M_fair_ok 17 rfl
theorem d_M_fair_32 : decode prog_7_method_42_code 32 = .ok (.iload_n 2, 1) := jx_dec c_M_fair_ok 18 rfl
theorem d_M_fair_33 : decode prog_7_method_42_code 33 = .ok (.ifCond .ne 7, 3) := jx_dec c_M_fair_ok 19 rfl
theorem d_M_fair_36 : decode prog_7_method_42_code 36 = .ok (.iconst 0, 1) := jx_dec c_M_fair_ok 20 rfl
theorem d_M_fair_37 : decode prog_7_method_42_code 37 = .ok (.goto 13, 3) := jx_dec c_M_fair_ok 21 rfl
theorem d_M_fair_40 : decode prog_7_method_42_code 40 = .ok (.bipush 100, 2) := jx_dec c_M_fair_ok 22 rfl
theorem d_M_fair_42 : decode prog_7_method_42_code 42 = .ok (.aload_n 0, 1) := jx_dec c_M_fair_ok 23 rfl
theorem d_M_fair_43 : decode prog_7_method_42_code 43 = .ok (.iload_n 1, 1) := jx_dec c_M_fair_ok 24 rfl
theorem d_M_fair_44 : decode prog_7_method_42_code 44 = .ok (.invokevirtual 191, 3) := jx_dec c_M_fair_ok 25 rfl
theorem d_M_fair_47 : decode prog_7_method_42_code 47 = .ok (.imul, 1) := jx_dec c_M_fair_ok 26 rfl
theorem d_M_fair_48 : decode prog_7_method_42_code 48 = .ok (.iload_n 2, 1) := jx_dec c_M_fair_ok 27 rfl
theorem d_M_fair_49 : decode prog_7_method_42_code 49 = .ok (.idiv, 1) := jx_dec c_M_fair_ok 28 rfl
theorem d_M_fair_50 : decode prog_7_method_42_code 50 = .ok (.ireturn, 1) := jx_dec c_M_fair_ok 29 rfl
def c_M_pass : List (Nat × Instr × Nat) := [(0, .aload_n 0, 1), (1, .iload_n 1, 1), (2, .aload_n 0, 1), (3, .getfield 117, 3), (6, .if_icmp .lt 9, 3), (9, .iload_n 1, 1), (10, .ldc 97, 2), (12, .if_icmp .le 7, 3), (15, .iconst 1, 1), (16, .goto 4, 3), (19, .iconst 0, 1), (20, .putfield 83, 3), (23, .aload_n 0, 1), (24, .getfield 83, 3), (27, .ifCond .ne 8, 3), (30, .aload_n 0, 1), (31, .iload_n 1, 1), (32, .putfield 117, 3), (35, .return_, 1)]
theorem c_M_pass_ok : (c_M_pass).all (fun q => decide (decode prog_7_method_43_code q.1 = .ok q.2)) = true := by decide +kernel
theorem d_M_pass_0 : decode prog_7_method_43_code 0 = .ok (.aload_n 0, 1) := jx_dec c_M_pass_ok 0 rfl
theorem d_M_pass_1 : decode prog_7_method_43_code 1 = .ok (.iload_n 1, 1) := jx_dec c_M_pass_ok 1 rfl
theorem d_M_pass_2 : decode prog_7_method_43_code 2 = .ok (.aload_n 0, 1) := jx_dec c_M_pass_ok 2 rfl
theorem d_M_pass_3 : decode prog_7_method_43_code 3 = .ok (.getfield 117, 3) := jx_dec c_M_pass_ok 3 rfl
theorem d_M_pass_6 : decode prog_7_method_43_code 6 = .ok (.if_icmp .lt 9, 3) := jx_dec c_M_pass_ok 4 rfl
theorem d_M_pass_9 : decode prog_7_method_43_code 9 = .ok (.iload_n 1, 1) := jx_dec c_M_pass_ok 5 rfl
theorem d_M_pass_10 : decode prog_7_method_43_code 10 = .ok (.ldc 97, 2) := jx_dec c_M_pass_ok 6 rfl
theorem d_M_pass_12 : decode prog_7_method_43_code 12 = .ok (.if_icmp .le 7, 3) := jx_dec c_M_pass_ok 7 rfl
theorem d_M_pass_15 : decode prog_7_method_43_code 15 = .ok (.iconst 1, 1) := jx_dec c_M_pass_ok 8 rfl
theorem d_M_pass_16 : decode prog_7_method_43_code 16 = .ok (.goto 4, 3) := jx_dec c_M_pass_ok 9 rfl
theorem d_M_pass_19 : decode prog_7_method_43_code 19 = .ok (.iconst 0, 1) := jx_dec c_M_pass_ok 10 rfl
theorem d_M_pass_20 : decode prog_7_method_43_code 20 = .ok (.putfield 83, 3) := jx_dec c_M_pass_ok 11 rfl
theorem d_M_pass_23 : decode prog_7_method_43_code 23 = .ok (.aload_n 0, 1) := jx_dec c_M_pass_ok 12 rfl
theorem d_M_pass_24 : decode prog_7_method_43_code 24 = .ok (.getfield 83, 3) := jx_dec c_M_pass_ok 13 rfl
theorem d_M_pass_27 : decode prog_7_method_43_code 27 = .ok (.ifCond .ne 8, 3) := jx_dec c_M_pass_ok 14 rfl
theorem d_M_pass_30 : decode prog_7_method_43_code 30 = .ok (.aload_n 0, 1) := jx_dec c_M_pass_ok 15 rfl
theorem d_M_pass_31 : decode prog_7_method_43_code 31 = .ok (.iload_n 1, 1) := jx_dec c_M_pass_ok 16 rfl
theorem d_M_pass_32 : decode prog_7_method_43_code 32 = .ok (.putfield 117, 3) := jx_dec c_M_pass_ok 17 rfl
theorem d_M_pass_35 : decode prog_7_method_43_code 35 = .ok (.return_, 1) := jx_dec c_M_pass_ok 18 rfl
def c_M_order : List (Nat × Instr × Nat) := [(0, .aload_n 0, 1), (1, .aload_n 0, 1), (2, .iload_n 1, 1), (3, .invokevirtual 98, 3), (6, .ifCond .ne 7, 3), (9, .iconst 1, 1), (10, .goto 12, 3), (13, .iload_n 2, 1), (14, .ifCond .ge 7, 3), (17, .iconst 2, 1), (18, .goto 4, 3), (21, .iconst 0, 1), (22, .putfield 83, 3), (25, .aload_n 0, 1), (26, .getfield 83, 3), (29, .ifCond .eq 5, 3), (32, .iconst 0, 1), (33, .ireturn, 1), (34, .iload_n 2, 1), (35, .bipush 16, 2), (37, .if_icmp .lt 7, 3), (40, .iconst (-1), 1), (41, .goto 9, 3), (44, .aload_n 0, 1), (45, .iload_n 1, 1), (46, .iload_n 2, 1), (47, .invokevirtual 188, 3), (50, .ireturn, 1)]
theorem c_M_order_ok : (c_M_order).all (fun q => decide (decode prog_7_method_44_code q.1 = .ok q.2)) = true := by decide +kernel
theorem d_M_order_0 : decode prog_7_method_44_code 0 = .ok (.aload_n 0, 1) := jx_dec c_M_order_ok 0 rfl
theorem d_M_order_1 : decode prog_7_method_44_code 1 = .ok (.aload_n 0, 1) := jx_dec c_M_order_ok 1 rfl
theorem d_M_order_2 : decode prog_7_method_44_code 2 = .ok (.iload_n 1, 1) := jx_dec c_M_order_ok 2 rfl
theorem d_M_order_3 : decode prog_7_method_44_code 3 = .ok (.invokevirtual 98, 3) := jx_dec c_M_order_ok 3 rfl
theorem d_M_order_6 : decode prog_7_method_44_code 6 = .ok (.ifCond .ne 7, 3) := jx_dec c_M_order_ok 4 rfl
theorem d_M_order_9 : decode prog_7_method_44_code 9 = .ok (.iconst 1, 1) := jx_dec c_M_order_ok 5 rfl
theorem d_M_order_10 : decode prog_7_method_44_code 10 = .ok (.goto 12, 3) := jx_dec c_M_order_ok 6 rfl
theorem d_M_order_13 : decode prog_7_method_44_code 13 = .ok (.iload_n 2, 1) := jx_dec c_M_order_ok 7 rfl
theorem d_M_order_14 : decode prog_7_method_44_code 14 = .ok (.ifCond .ge 7, 3) := jx_dec c_M_order_ok 8 rfl
theorem d_M_order_17 : decode prog_7_method_44_code 17 = .ok (.iconst 2, 1) := jx_dec c_M_order_ok 9 rfl
theorem d_M_order_18 : decode prog_7_method_44_code 18 = .ok (.goto 4, 3) := jx_dec c_M_order_ok 10 rfl
theorem d_M_order_21 : decode prog_7_method_44_code 21 = .ok (.iconst 0, 1) := jx_dec c_M_order_ok 11 rfl
theorem d_M_order_22 : decode prog_7_method_44_code 22 = .ok (.putfield 83, 3) := jx_dec c_M_order_ok 12 rfl
theorem d_M_order_25 : decode prog_7_method_44_code 25 = .ok (.aload_n 0, 1) := jx_dec c_M_order_ok 13 rfl
theorem d_M_order_26 : decode prog_7_method_44_code 26 = .ok (.getfield 83, 3) := jx_dec c_M_order_ok 14 rfl
theorem d_M_order_29 : decode prog_7_method_44_code 29 = .ok (.ifCond .eq 5, 3) := jx_dec c_M_order_ok 15 rfl
theorem d_M_order_32 : decode prog_7_method_44_code 32 = .ok (.iconst 0, 1) := jx_dec c_M_order_ok 16 rfl
theorem d_M_order_33 : decode prog_7_method_44_code 33 = .ok (.ireturn, 1) := jx_dec c_M_order_ok 17 rfl
theorem d_M_order_34 : decode prog_7_method_44_code 34 = .ok (.iload_n 2, 1) := jx_dec c_M_order_ok 18 rfl
theorem d_M_order_35 : decode prog_7_method_44_code 35 = .ok (.bipush 16, 2) := jx_dec c_M_order_ok 19 rfl
theorem d_M_order_37 : decode prog_7_method_44_code 37 = .ok (.if_icmp .lt 7, 3) := jx_dec c_M_order_ok 20 rfl
theorem d_M_order_40 : decode prog_7_method_44_code 40 = .ok (.iconst (-1), 1) := jx_dec c_M_order_ok 21 rfl
theorem d_M_order_41 : decode prog_7_method_44_code 41 = .ok (.goto 9, 3) := jx_dec c_M_order_ok 22 rfl
theorem d_M_order_44 : decode prog_7_method_44_code 44 = .ok (.aload_n 0, 1) := jx_dec c_M_order_ok 23 rfl
theorem d_M_order_45 : decode prog_7_method_44_code 45 = .ok (.iload_n 1, 1) := jx_dec c_M_order_ok 24 rfl
theorem d_M_order_46 : decode prog_7_method_44_code 46 = .ok (.iload_n 2, 1) := jx_dec c_M_order_ok 25 rfl
theorem d_M_order_47 : decode prog_7_method_44_code 47 = .ok (.invokevirtual 188, 3) := jx_dec c_M_order_ok 26 rfl
theorem d_M_order_50 : decode prog_7_method_44_code 50 = .ok (.ireturn, 1) := jx_dec c_M_order_ok 27 rfl
def c_M_told : List (Nat × Instr × Nat) := [(0, .aload_n 0, 1), (1, .aload_n 0, 1), (2, .iload_n 1, 1), (3, .invokevirtual 106, 3), (6, .ifCond .ne 7, 3), (9, .iconst 1, 1), (10, .goto 18, 3), (13, .iload_n 2, 1), (14, .iconst 0, 1), (15, .bipush 6, 2), (17, .invokestatic 90, 3), (20, .ifCond .ne 7, 3), (23, .iconst 2, 1), (24, .goto 4, 3), (27, .iconst 0, 1), (28, .putfield 83, 3), (31, .aload_n 0, 1), (32, .getfield 83, 3), (35, .ifCond .eq 5, 3), (38, .iconst 0, 1), (39, .ireturn, 1), (40, .iload_n 2, 1), (41, .tableswitch 81 0 5 #[39, 46, 53, 60, 67, 74], 39), (80, .aload_n 0, 1), (81, .getfield 38, 3), (84, .iload_n 1, 1), (85, .iaload, 1), (86, .ireturn, 1), (87, .aload_n 0, 1), (88, .getfield 56, 3), (91, .iload_n 1, 1), (92, .iaload, 1), (93, .ireturn, 1), (94, .aload_n 0, 1), (95, .getfield 59, 3), (98, .iload_n 1, 1), (99, .iaload, 1), (100, .ireturn, 1), (101, .aload_n 0, 1), (102, .getfield 41, 3), (105, .iload_n 1, 1), (106, .iaload, 1), (107, .ireturn, 1), (108, .aload_n 0, 1), (109, .getfield 44, 3), (112, .iload_n 1, 1), (113, .iaload, 1), (114, .ireturn, 1), (115, .aload_n 0, 1), (116, .getfield 47, 3), (119, .iload_n 1, 1), (120, .iaload, 1), (121, .ireturn, 1), (122, .aload_n 0, 1), (123, .getfield 50, 3), (126, .iload_n 1, 1), (127, .iaload, 1), (128, .ireturn, 1)]
theorem c_M_told_ok : (c_M_told).all (fun q => decide (decode prog_7_method_45_code q.1 = .ok q.2)) = true := by decide +kernel
theorem d_M_told_0 : decode prog_7_method_45_code 0 = .ok (.aload_n 0, 1) := jx_dec c_M_told_ok 0 rfl
theorem d_M_told_1 : decode prog_7_method_45_code 1 = .ok (.aload_n 0, 1) := jx_dec c_M_told_ok 1 rfl
theorem d_M_told_2 : decode prog_7_method_45_code 2 = .ok (.iload_n 1, 1) := jx_dec c_M_told_ok 2 rfl
theorem d_M_told_3 : decode prog_7_method_45_code 3 = .ok (.invokevirtual 106, 3) := jx_dec c_M_told_ok 3 rfl
theorem d_M_told_6 : decode prog_7_method_45_code 6 = .ok (.ifCond .ne 7, 3) := jx_dec c_M_told_ok 4 rfl
theorem d_M_told_9 : decode prog_7_method_45_code 9 = .ok (.iconst 1, 1) := jx_dec c_M_told_ok 5 rfl
theorem d_M_told_10 : decode prog_7_method_45_code 10 = .ok (.goto 18, 3) := jx_dec c_M_told_ok 6 rfl
theorem d_M_told_13 : decode prog_7_method_45_code 13 = .ok (.iload_n 2, 1) := jx_dec c_M_told_ok 7 rfl
theorem d_M_told_14 : decode prog_7_method_45_code 14 = .ok (.iconst 0, 1) := jx_dec c_M_told_ok 8 rfl
theorem d_M_told_15 : decode prog_7_method_45_code 15 = .ok (.bipush 6, 2) := jx_dec c_M_told_ok 9 rfl
theorem d_M_told_17 : decode prog_7_method_45_code 17 = .ok (.invokestatic 90, 3) := jx_dec c_M_told_ok 10 rfl
theorem d_M_told_20 : decode prog_7_method_45_code 20 = .ok (.ifCond .ne 7, 3) := jx_dec c_M_told_ok 11 rfl
theorem d_M_told_23 : decode prog_7_method_45_code 23 = .ok (.iconst 2, 1) := jx_dec c_M_told_ok 12 rfl
theorem d_M_told_24 : decode prog_7_method_45_code 24 = .ok (.goto 4, 3) := jx_dec c_M_told_ok 13 rfl
theorem d_M_told_27 : decode prog_7_method_45_code 27 = .ok (.iconst 0, 1) := jx_dec c_M_told_ok 14 rfl
theorem d_M_told_28 : decode prog_7_method_45_code 28 = .ok (.putfield 83, 3) := jx_dec c_M_told_ok 15 rfl
theorem d_M_told_31 : decode prog_7_method_45_code 31 = .ok (.aload_n 0, 1) := jx_dec c_M_told_ok 16 rfl
theorem d_M_told_32 : decode prog_7_method_45_code 32 = .ok (.getfield 83, 3) := jx_dec c_M_told_ok 17 rfl
theorem d_M_told_35 : decode prog_7_method_45_code 35 = .ok (.ifCond .eq 5, 3) := jx_dec c_M_told_ok 18 rfl
theorem d_M_told_38 : decode prog_7_method_45_code 38 = .ok (.iconst 0, 1) := jx_dec c_M_told_ok 19 rfl
theorem d_M_told_39 : decode prog_7_method_45_code 39 = .ok (.ireturn, 1) := jx_dec c_M_told_ok 20 rfl
theorem d_M_told_40 : decode prog_7_method_45_code 40 = .ok (.iload_n 2, 1) := jx_dec c_M_told_ok 21 rfl
theorem d_M_told_41 : decode prog_7_method_45_code 41 = .ok (.tableswitch 81 0 5 #[39, 46, 53, 60, 67, 74], 39) := jx_dec c_M_told_ok 22 rfl
theorem d_M_told_80 : decode prog_7_method_45_code 80 = .ok (.aload_n 0, 1) := jx_dec c_M_told_ok 23 rfl
theorem d_M_told_81 : decode prog_7_method_45_code 81 = .ok (.getfield 38, 3) := jx_dec c_M_told_ok 24 rfl
theorem d_M_told_84 : decode prog_7_method_45_code 84 = .ok (.iload_n 1, 1) := jx_dec c_M_told_ok 25 rfl
theorem d_M_told_85 : decode prog_7_method_45_code 85 = .ok (.iaload, 1) := jx_dec c_M_told_ok 26 rfl
theorem d_M_told_86 : decode prog_7_method_45_code 86 = .ok (.ireturn, 1) := jx_dec c_M_told_ok 27 rfl
theorem d_M_told_87 : decode prog_7_method_45_code 87 = .ok (.aload_n 0, 1) := jx_dec c_M_told_ok 28 rfl
theorem d_M_told_88 : decode prog_7_method_45_code 88 = .ok (.getfield 56, 3) := jx_dec c_M_told_ok 29 rfl
theorem d_M_told_91 : decode prog_7_method_45_code 91 = .ok (.iload_n 1, 1) := jx_dec c_M_told_ok 30 rfl
theorem d_M_told_92 : decode prog_7_method_45_code 92 = .ok (.iaload, 1) := jx_dec c_M_told_ok 31 rfl
theorem d_M_told_93 : decode prog_7_method_45_code 93 = .ok (.ireturn, 1) := jx_dec c_M_told_ok 32 rfl
theorem d_M_told_94 : decode prog_7_method_45_code 94 = .ok (.aload_n 0, 1) := jx_dec c_M_told_ok 33 rfl
theorem d_M_told_95 : decode prog_7_method_45_code 95 = .ok (.getfield 59, 3) := jx_dec c_M_told_ok 34 rfl
theorem d_M_told_98 : decode prog_7_method_45_code 98 = .ok (.iload_n 1, 1) := jx_dec c_M_told_ok 35 rfl
theorem d_M_told_99 : decode prog_7_method_45_code 99 = .ok (.iaload, 1) := jx_dec c_M_told_ok 36 rfl
theorem d_M_told_100 : decode prog_7_method_45_code 100 = .ok (.ireturn, 1) := jx_dec c_M_told_ok 37 rfl
theorem d_M_told_101 : decode prog_7_method_45_code 101 = .ok (.aload_n 0, 1) := jx_dec c_M_told_ok 38 rfl
theorem d_M_told_102 : decode prog_7_method_45_code 102 = .ok (.getfield 41, 3) := jx_dec c_M_told_ok 39 rfl
theorem d_M_told_105 : decode prog_7_method_45_code 105 = .ok (.iload_n 1, 1) := jx_dec c_M_told_ok 40 rfl
theorem d_M_told_106 : decode prog_7_method_45_code 106 = .ok (.iaload, 1) := jx_dec c_M_told_ok 41 rfl
theorem d_M_told_107 : decode prog_7_method_45_code 107 = .ok (.ireturn, 1) := jx_dec c_M_told_ok 42 rfl
theorem d_M_told_108 : decode prog_7_method_45_code 108 = .ok (.aload_n 0, 1) := jx_dec c_M_told_ok 43 rfl
theorem d_M_told_109 : decode prog_7_method_45_code 109 = .ok (.getfield 44, 3) := jx_dec c_M_told_ok 44 rfl
theorem d_M_told_112 : decode prog_7_method_45_code 112 = .ok (.iload_n 1, 1) := jx_dec c_M_told_ok 45 rfl
theorem d_M_told_113 : decode prog_7_method_45_code 113 = .ok (.iaload, 1) := jx_dec c_M_told_ok 46 rfl
theorem d_M_told_114 : decode prog_7_method_45_code 114 = .ok (.ireturn, 1) := jx_dec c_M_told_ok 47 rfl
theorem d_M_told_115 : decode prog_7_method_45_code 115 = .ok (.aload_n 0, 1) := jx_dec c_M_told_ok 48 rfl
theorem d_M_told_116 : decode prog_7_method_45_code 116 = .ok (.getfield 47, 3) := jx_dec c_M_told_ok 49 rfl
theorem d_M_told_119 : decode prog_7_method_45_code 119 = .ok (.iload_n 1, 1) := jx_dec c_M_told_ok 50 rfl
theorem d_M_told_120 : decode prog_7_method_45_code 120 = .ok (.iaload, 1) := jx_dec c_M_told_ok 51 rfl
theorem d_M_told_121 : decode prog_7_method_45_code 121 = .ok (.ireturn, 1) := jx_dec c_M_told_ok 52 rfl
theorem d_M_told_122 : decode prog_7_method_45_code 122 = .ok (.aload_n 0, 1) := jx_dec c_M_told_ok 53 rfl
theorem d_M_told_123 : decode prog_7_method_45_code 123 = .ok (.getfield 50, 3) := jx_dec c_M_told_ok 54 rfl
theorem d_M_told_126 : decode prog_7_method_45_code 126 = .ok (.iload_n 1, 1) := jx_dec c_M_told_ok 55 rfl
theorem d_M_told_127 : decode prog_7_method_45_code 127 = .ok (.iaload, 1) := jx_dec c_M_told_ok 56 rfl
theorem d_M_told_128 : decode prog_7_method_45_code 128 = .ok (.ireturn, 1) := jx_dec c_M_told_ok 57 rfl
def c_M_known : List (Nat × Instr × Nat) := [(0, .aload_n 0, 1), (1, .aload_n 0, 1), (2, .iload_n 1, 1), (3, .invokevirtual 98, 3), (6, .ifCond .ne 7, 3), (9, .iconst 1, 1), (10, .goto 17, 3), (13, .iload_n 2, 1), (14, .iconst 0, 1), (15, .iconst 5, 1), (16, .invokestatic 90, 3), (19, .ifCond .ne 7, 3), (22, .iconst 2, 1), (23, .goto 4, 3), (26, .iconst 0, 1), (27, .putfield 83, 3), (30, .aload_n 0, 1), (31, .getfield 83, 3), (34, .ifCond .eq 5, 3), (37, .iconst 0, 1), (38, .ireturn, 1), (39, .iload_n 2, 1), (40, .tableswitch 78 0 4 #[36, 51, 58, 65, 72], 36), (76, .aload_n 0, 1), (77, .getfield 28, 3), (80, .iload_n 1, 1), (81, .baload, 1), (82, .ifCond .eq 7, 3), (85, .iconst 1, 1), (86, .goto 4, 3), (89, .iconst 0, 1), (90, .ireturn, 1), (91, .aload_n 0, 1), (92, .getfield 7, 3), (95, .iload_n 1, 1), (96, .iaload, 1), (97, .ireturn, 1), (98, .aload_n 0, 1), (99, .getfield 25, 3), (102, .iload_n 1, 1), (103, .iaload, 1), (104, .ireturn, 1), (105, .aload_n 0, 1), (106, .getfield 32, 3), (109, .iload_n 1, 1), (110, .iaload, 1), (111, .ireturn, 1), (112, .aload_n 0, 1), (113, .iload_n 1, 1), (114, .invokevirtual 191, 3), (117, .ireturn, 1), (118, .iconst 0, 1), (119, .istore_n 3, 1), (120, .iload_n 3, 1), (121, .bipush 16, 2), (123, .if_icmp .ge 19, 3), (126, .aload_n 0, 1), (127, .iload_n 1, 1), (128, .iload_n 3, 1), (129, .invokevirtual 188, 3), (132, .iconst (-1), 1), (133, .if_icmp .eq 9, 3), (136, .iinc 3 1, 3), (139, .goto (-19), 3), (142, .iload_n 3, 1), (143, .ireturn, 1)]
theorem c_M_known_ok : (c_M_known).all (fun q => decide (decode prog_7_method_46_code q.1 = .ok q.2)) = true := by decide +kernel
theorem d_M_known_0 : decode prog_7_method_46_code 0 = .ok (.aload_n 0, 1) := jx_dec c_M_known_ok 0 rfl
theorem d_M_known_1 : decode prog_7_method_46_code 1 = .ok (.aload_n 0, 1) := jx_dec c_M_known_ok 1 rfl
theorem d_M_known_2 : decode prog_7_method_46_code 2 = .ok (.iload_n 1, 1) := jx_dec c_M_known_ok 2 rfl
theorem d_M_known_3 : decode prog_7_method_46_code 3 = .ok (.invokevirtual 98, 3) := jx_dec c_M_known_ok 3 rfl
theorem d_M_known_6 : decode prog_7_method_46_code 6 = .ok (.ifCond .ne 7, 3) := jx_dec c_M_known_ok 4 rfl
theorem d_M_known_9 : decode prog_7_method_46_code 9 = .ok (.iconst 1, 1) := jx_dec c_M_known_ok 5 rfl
theorem d_M_known_10 : decode prog_7_method_46_code 10 = .ok (.goto 17, 3) := jx_dec c_M_known_ok 6 rfl
theorem d_M_known_13 : decode prog_7_method_46_code 13 = .ok (.iload_n 2, 1) := jx_dec c_M_known_ok 7 rfl
theorem d_M_known_14 : decode prog_7_method_46_code 14 = .ok (.iconst 0, 1) := jx_dec c_M_known_ok 8 rfl
theorem d_M_known_15 : decode prog_7_method_46_code 15 = .ok (.iconst 5, 1) := jx_dec c_M_known_ok 9 rfl
theorem d_M_known_16 : decode prog_7_method_46_code 16 = .ok (.invokestatic 90, 3) := jx_dec c_M_known_ok 10 rfl
theorem d_M_known_19 : decode prog_7_method_46_code 19 = .ok (.ifCond .ne 7, 3) := jx_dec c_M_known_ok 11 rfl
theorem d_M_known_22 : decode prog_7_method_46_code 22 = .ok (.iconst 2, 1) := jx_dec c_M_known_ok 12 rfl
theorem d_M_known_23 : decode prog_7_method_46_code 23 = .ok (.goto 4, 3) := jx_dec c_M_known_ok 13 rfl
theorem d_M_known_26 : decode prog_7_method_46_code 26 = .ok (.iconst 0, 1) := jx_dec c_M_known_ok 14 rfl
theorem d_M_known_27 : decode prog_7_method_46_code 27 = .ok (.putfield 83, 3) := jx_dec c_M_known_ok 15 rfl
theorem d_M_known_30 : decode prog_7_method_46_code 30 = .ok (.aload_n 0, 1) := jx_dec c_M_known_ok 16 rfl
theorem d_M_known_31 : decode prog_7_method_46_code 31 = .ok (.getfield 83, 3) := jx_dec c_M_known_ok 17 rfl
theorem d_M_known_34 : decode prog_7_method_46_code 34 = .ok (.ifCond .eq 5, 3) := jx_dec c_M_known_ok 18 rfl
theorem d_M_known_37 : decode prog_7_method_46_code 37 = .ok (.iconst 0, 1) := jx_dec c_M_known_ok 19 rfl
theorem d_M_known_38 : decode prog_7_method_46_code 38 = .ok (.ireturn, 1) := jx_dec c_M_known_ok 20 rfl
theorem d_M_known_39 : decode prog_7_method_46_code 39 = .ok (.iload_n 2, 1) := jx_dec c_M_known_ok 21 rfl
theorem d_M_known_40 : decode prog_7_method_46_code 40 = .ok (.tableswitch 78 0 4 #[36, 51, 58, 65, 72], 36) := jx_dec c_M_known_ok 22 rfl
theorem d_M_known_76 : decode prog_7_method_46_code 76 = .ok (.aload_n 0, 1) := jx_dec c_M_known_ok 23 rfl
theorem d_M_known_77 : decode prog_7_method_46_code 77 = .ok (.getfield 28, 3) := jx_dec c_M_known_ok 24 rfl
theorem d_M_known_80 : decode prog_7_method_46_code 80 = .ok (.iload_n 1, 1) := jx_dec c_M_known_ok 25 rfl
theorem d_M_known_81 : decode prog_7_method_46_code 81 = .ok (.baload, 1) := jx_dec c_M_known_ok 26 rfl
theorem d_M_known_82 : decode prog_7_method_46_code 82 = .ok (.ifCond .eq 7, 3) := jx_dec c_M_known_ok 27 rfl
theorem d_M_known_85 : decode prog_7_method_46_code 85 = .ok (.iconst 1, 1) := jx_dec c_M_known_ok 28 rfl
theorem d_M_known_86 : decode prog_7_method_46_code 86 = .ok (.goto 4, 3) := jx_dec c_M_known_ok 29 rfl
theorem d_M_known_89 : decode prog_7_method_46_code 89 = .ok (.iconst 0, 1) := jx_dec c_M_known_ok 30 rfl
theorem d_M_known_90 : decode prog_7_method_46_code 90 = .ok (.ireturn, 1) := jx_dec c_M_known_ok 31 rfl
theorem d_M_known_91 : decode prog_7_method_46_code 91 = .ok (.aload_n 0, 1) := jx_dec c_M_known_ok 32 rfl
theorem d_M_known_92 : decode prog_7_method_46_code 92 = .ok (.getfield 7, 3) := jx_dec c_M_known_ok 33 rfl
theorem d_M_known_95 : decode prog_7_method_46_code 95 = .ok (.iload_n 1, 1) := jx_dec c_M_known_ok 34 rfl
theorem d_M_known_96 : decode prog_7_method_46_code 96 = .ok (.iaload, 1) := jx_dec c_M_known_ok 35 rfl
theorem d_M_known_97 : decode prog_7_method_46_code 97 = .ok (.ireturn, 1) := jx_dec c_M_known_ok 36 rfl
theorem d_M_known_98 : decode prog_7_method_46_code 98 = .ok (.aload_n 0, 1) := jx_dec c_M_known_ok 37 rfl
theorem d_M_known_99 : decode prog_7_method_46_code 99 = .ok (.getfield 25, 3) := jx_dec c_M_known_ok 38 rfl
theorem d_M_known_102 : decode prog_7_method_46_code 102 = .ok (.iload_n 1, 1) := jx_dec c_M_known_ok 39 rfl
theorem d_M_known_103 : decode prog_7_method_46_code 103 = .ok (.iaload, 1) := jx_dec c_M_known_ok 40 rfl
theorem d_M_known_104 : decode prog_7_method_46_code 104 = .ok (.ireturn, 1) := jx_dec c_M_known_ok 41 rfl
theorem d_M_known_105 : decode prog_7_method_46_code 105 = .ok (.aload_n 0, 1) := jx_dec c_M_known_ok 42 rfl
theorem d_M_known_106 : decode prog_7_method_46_code 106 = .ok (.getfield 32, 3) := jx_dec c_M_known_ok 43 rfl
theorem d_M_known_109 : decode prog_7_method_46_code 109 = .ok (.iload_n 1, 1) := jx_dec c_M_known_ok 44 rfl
theorem d_M_known_110 : decode prog_7_method_46_code 110 = .ok (.iaload, 1) := jx_dec c_M_known_ok 45 rfl
theorem d_M_known_111 : decode prog_7_method_46_code 111 = .ok (.ireturn, 1) := jx_dec c_M_known_ok 46 rfl
theorem d_M_known_112 : decode prog_7_method_46_code 112 = .ok (.aload_n 0, 1) := jx_dec c_M_known_ok 47 rfl
theorem d_M_known_113 : decode prog_7_method_46_code 113 = .ok (.iload_n 1, 1) := jx_dec c_M_known_ok 48 rfl
theorem d_M_known_114 : decode prog_7_method_46_code 114 = .ok (.invokevirtual 191, 3) := jx_dec c_M_known_ok 49 rfl
theorem d_M_known_117 : decode prog_7_method_46_code 117 = .ok (.ireturn, 1) := jx_dec c_M_known_ok 50 rfl
theorem d_M_known_118 : decode prog_7_method_46_code 118 = .ok (.iconst 0, 1) := jx_dec c_M_known_ok 51 rfl
theorem d_M_known_119 : decode prog_7_method_46_code 119 = .ok (.istore_n 3, 1) := jx_dec c_M_known_ok 52 rfl
theorem d_M_known_120 : decode prog_7_method_46_code 120 = .ok (.iload_n 3, 1) := jx_dec c_M_known_ok 53 rfl
theorem d_M_known_121 : decode prog_7_method_46_code 121 = .ok (.bipush 16, 2) := jx_dec c_M_known_ok 54 rfl
theorem d_M_known_123 : decode prog_7_method_46_code 123 = .ok (.if_icmp .ge 19, 3) := jx_dec c_M_known_ok 55 rfl
theorem d_M_known_126 : decode prog_7_method_46_code 126 = .ok (.aload_n 0, 1) := jx_dec c_M_known_ok 56 rfl
theorem d_M_known_127 : decode prog_7_method_46_code 127 = .ok (.iload_n 1, 1) := jx_dec c_M_known_ok 57 rfl
theorem d_M_known_128 : decode prog_7_method_46_code 128 = .ok (.iload_n 3, 1) := jx_dec c_M_known_ok 58 rfl
theorem d_M_known_129 : decode prog_7_method_46_code 129 = .ok (.invokevirtual 188, 3) := jx_dec c_M_known_ok 59 rfl
theorem d_M_known_132 : decode prog_7_method_46_code 132 = .ok (.iconst (-1), 1) := jx_dec c_M_known_ok 60 rfl
theorem d_M_known_133 : decode prog_7_method_46_code 133 = .ok (.if_icmp .eq 9, 3) := jx_dec c_M_known_ok 61 rfl
theorem d_M_known_136 : decode prog_7_method_46_code 136 = .ok (.iinc 3 1, 3) := jx_dec c_M_known_ok 62 rfl
theorem d_M_known_139 : decode prog_7_method_46_code 139 = .ok (.goto (-19), 3) := jx_dec c_M_known_ok 63 rfl
theorem d_M_known_142 : decode prog_7_method_46_code 142 = .ok (.iload_n 3, 1) := jx_dec c_M_known_ok 64 rfl
theorem d_M_known_143 : decode prog_7_method_46_code 143 = .ok (.ireturn, 1) := jx_dec c_M_known_ok 65 rfl
