/-! 04.5X: the instructions -/
def c_X_init : List (Nat × Instr × Nat) := [(0, .aload_n 0, 1), (1, .invokespecial 3, 3), (4, .aload_n 0, 1), (5, .new 9, 3), (8, .dup, 1), (9, .invokespecial 11, 3), (12, .putfield 12, 3), (15, .aload_n 0, 1), (16, .iconst 4, 1), (17, .bipush 32, 2), (19, .multianewarray 18 2, 4), (23, .putfield 20, 3), (26, .aload_n 0, 1), (27, .iconst 4, 1), (28, .sipush 160, 3), (31, .multianewarray 18 2, 4), (35, .putfield 23, 3), (38, .aload_n 0, 1), (39, .iconst 5, 1), (40, .newarray .int, 2), (42, .putfield 26, 3), (45, .aload_n 0, 1), (46, .bipush 32, 2), (48, .newarray .int, 2), (50, .putfield 30, 3), (53, .aload_n 0, 1), (54, .iconst 5, 1), (55, .bipush 32, 2), (57, .multianewarray 33 2, 4), (61, .putfield 35, 3), (64, .aload_n 0, 1), (65, .iconst 4, 1), (66, .bipush 32, 2), (68, .multianewarray 18 2, 4), (72, .putfield 38, 3), (75, .iconst 0, 1), (76, .istore_n 1, 1), (77, .iload_n 1, 1), (78, .bipush 32, 2), (80, .if_icmp .ge 42, 3), (83, .iconst 0, 1), (84, .istore_n 2, 1), (85, .iload_n 2, 1), (86, .iconst 5, 1), (87, .if_icmp .ge 29, 3), (90, .aload_n 0, 1), (91, .getfield 30, 3), (94, .iload_n 1, 1), (95, .dup2, 1), (96, .iaload, 1), (97, .iload_n 1, 1), (98, .iload_n 2, 1), (99, .ishr, 1), (100, .iconst 1, 1), (101, .iand, 1), (102, .getstatic 41, 3), (105, .iload_n 2, 1), (106, .iaload, 1), (107, .imul, 1), (108, .iadd, 1), (109, .iastore, 1), (110, .iinc 2 1, 3), (113, .goto (-28), 3), (116, .iinc 1 1, 3), (119, .goto (-42), 3), (122, .return_, 1)]
theorem c_X_init_ok : (c_X_init).all (fun q => decide (decode prog_2_method_1_code q.1 = .ok q.2)) = true := by decide +kernel
theorem d_X_init_0 : decode prog_2_method_1_code 0 = .ok (.aload_n 0, 1) := jx_dec c_X_init_ok 0 rfl
theorem d_X_init_1 : decode prog_2_method_1_code 1 = .ok (.invokespecial 3, 3) := jx_dec c_X_init_ok 1 rfl
theorem d_X_init_4 : decode prog_2_method_1_code 4 = .ok (.aload_n 0, 1) := jx_dec c_X_init_ok 2 rfl
theorem d_X_init_5 : decode prog_2_method_1_code 5 = .ok (.new 9, 3) := jx_dec c_X_init_ok 3 rfl
theorem d_X_init_8 : decode prog_2_method_1_code 8 = .ok (.dup, 1) := jx_dec c_X_init_ok 4 rfl
theorem d_X_init_9 : decode prog_2_method_1_code 9 = .ok (.invokespecial 11, 3) := jx_dec c_X_init_ok 5 rfl
theorem d_X_init_12 : decode prog_2_method_1_code 12 = .ok (.putfield 12, 3) := jx_dec c_X_init_ok 6 rfl
theorem d_X_init_15 : decode prog_2_method_1_code 15 = .ok (.aload_n 0, 1) := jx_dec c_X_init_ok 7 rfl
theorem d_X_init_16 : decode prog_2_method_1_code 16 = .ok (.iconst 4, 1) := jx_dec c_X_init_ok 8 rfl
theorem d_X_init_17 : decode prog_2_method_1_code 17 = .ok (.bipush 32, 2) := jx_dec c_X_init_ok 9 rfl
theorem d_X_init_19 : decode prog_2_method_1_code 19 = .ok (.multianewarray 18 2, 4) := jx_dec c_X_init_ok 10 rfl
theorem d_X_init_23 : decode prog_2_method_1_code 23 = .ok (.putfield 20, 3) := jx_dec c_X_init_ok 11 rfl
theorem d_X_init_26 : decode prog_2_method_1_code 26 = .ok (.aload_n 0, 1) := jx_dec c_X_init_ok 12 rfl
theorem d_X_init_27 : decode prog_2_method_1_code 27 = .ok (.iconst 4, 1) := jx_dec c_X_init_ok 13 rfl
theorem d_X_init_28 : decode prog_2_method_1_code 28 = .ok (.sipush 160, 3) := jx_dec c_X_init_ok 14 rfl
theorem d_X_init_31 : decode prog_2_method_1_code 31 = .ok (.multianewarray 18 2, 4) := jx_dec c_X_init_ok 15 rfl
theorem d_X_init_35 : decode prog_2_method_1_code 35 = .ok (.putfield 23, 3) := jx_dec c_X_init_ok 16 rfl
theorem d_X_init_38 : decode prog_2_method_1_code 38 = .ok (.aload_n 0, 1) := jx_dec c_X_init_ok 17 rfl
theorem d_X_init_39 : decode prog_2_method_1_code 39 = .ok (.iconst 5, 1) := jx_dec c_X_init_ok 18 rfl
theorem d_X_init_40 : decode prog_2_method_1_code 40 = .ok (.newarray .int, 2) := jx_dec c_X_init_ok 19 rfl
theorem d_X_init_42 : decode prog_2_method_1_code 42 = .ok (.putfield 26, 3) := jx_dec c_X_init_ok 20 rfl
theorem d_X_init_45 : decode prog_2_method_1_code 45 = .ok (.aload_n 0, 1) := jx_dec c_X_init_ok 21 rfl
theorem d_X_init_46 : decode prog_2_method_1_code 46 = .ok (.bipush 32, 2) := jx_dec c_X_init_ok 22 rfl
theorem d_X_init_48 : decode prog_2_method_1_code 48 = .ok (.newarray .int, 2) := jx_dec c_X_init_ok 23 rfl
theorem d_X_init_50 : decode prog_2_method_1_code 50 = .ok (.putfield 30, 3) := jx_dec c_X_init_ok 24 rfl
theorem d_X_init_53 : decode prog_2_method_1_code 53 = .ok (.aload_n 0, 1) := jx_dec c_X_init_ok 25 rfl
theorem d_X_init_54 : decode prog_2_method_1_code 54 = .ok (.iconst 5, 1) := jx_dec c_X_init_ok 26 rfl
theorem d_X_init_55 : decode prog_2_method_1_code 55 = .ok (.bipush 32, 2) := jx_dec c_X_init_ok 27 rfl
theorem d_X_init_57 : decode prog_2_method_1_code 57 = .ok (.multianewarray 33 2, 4) := jx_dec c_X_init_ok 28 rfl
theorem d_X_init_61 : decode prog_2_method_1_code 61 = .ok (.putfield 35, 3) := jx_dec c_X_init_ok 29 rfl
theorem d_X_init_64 : decode prog_2_method_1_code 64 = .ok (.aload_n 0, 1) := jx_dec c_X_init_ok 30 rfl
theorem d_X_init_65 : decode prog_2_method_1_code 65 = .ok (.iconst 4, 1) := jx_dec c_X_init_ok 31 rfl
theorem d_X_init_66 : decode prog_2_method_1_code 66 = .ok (.bipush 32, 2) := jx_dec c_X_init_ok 32 rfl
theorem d_X_init_68 : decode prog_2_method_1_code 68 = .ok (.multianewarray 18 2, 4) := jx_dec c_X_init_ok 33 rfl
theorem d_X_init_72 : decode prog_2_method_1_code 72 = .ok (.putfield 38, 3) := jx_dec c_X_init_ok 34 rfl
theorem d_X_init_75 : decode prog_2_method_1_code 75 = .ok (.iconst 0, 1) := jx_dec c_X_init_ok 35 rfl
theorem d_X_init_76 : decode prog_2_method_1_code 76 = .ok (.istore_n 1, 1) := jx_dec c_X_init_ok 36 rfl
theorem d_X_init_77 : decode prog_2_method_1_code 77 = .ok (.iload_n 1, 1) := jx_dec c_X_init_ok 37 rfl
theorem d_X_init_78 : decode prog_2_method_1_code 78 = .ok (.bipush 32, 2) := jx_dec c_X_init_ok 38 rfl
theorem d_X_init_80 : decode prog_2_method_1_code 80 = .ok (.if_icmp .ge 42, 3) := jx_dec c_X_init_ok 39 rfl
theorem d_X_init_83 : decode prog_2_method_1_code 83 = .ok (.iconst 0, 1) := jx_dec c_X_init_ok 40 rfl
theorem d_X_init_84 : decode prog_2_method_1_code 84 = .ok (.istore_n 2, 1) := jx_dec c_X_init_ok 41 rfl
theorem d_X_init_85 : decode prog_2_method_1_code 85 = .ok (.iload_n 2, 1) := jx_dec c_X_init_ok 42 rfl
theorem d_X_init_86 : decode prog_2_method_1_code 86 = .ok (.iconst 5, 1) := jx_dec c_X_init_ok 43 rfl
theorem d_X_init_87 : decode prog_2_method_1_code 87 = .ok (.if_icmp .ge 29, 3) := jx_dec c_X_init_ok 44 rfl
theorem d_X_init_90 : decode prog_2_method_1_code 90 = .ok (.aload_n 0, 1) := jx_dec c_X_init_ok 45 rfl
theorem d_X_init_91 : decode prog_2_method_1_code 91 = .ok (.getfield 30, 3) := jx_dec c_X_init_ok 46 rfl
theorem d_X_init_94 : decode prog_2_method_1_code 94 = .ok (.iload_n 1, 1) := jx_dec c_X_init_ok 47 rfl
theorem d_X_init_95 : decode prog_2_method_1_code 95 = .ok (.dup2, 1) := jx_dec c_X_init_ok 48 rfl
theorem d_X_init_96 : decode prog_2_method_1_code 96 = .ok (.iaload, 1) := jx_dec c_X_init_ok 49 rfl
theorem d_X_init_97 : decode prog_2_method_1_code 97 = .ok (.iload_n 1, 1) := jx_dec c_X_init_ok 50 rfl
theorem d_X_init_98 : decode prog_2_method_1_code 98 = .ok (.iload_n 2, 1) := jx_dec c_X_init_ok 51 rfl
theorem d_X_init_99 : decode prog_2_method_1_code 99 = .ok (.ishr, 1) := jx_dec c_X_init_ok 52 rfl
theorem d_X_init_100 : decode prog_2_method_1_code 100 = .ok (.iconst 1, 1) := jx_dec c_X_init_ok 53 rfl
theorem d_X_init_101 : decode prog_2_method_1_code 101 = .ok (.iand, 1) := jx_dec c_X_init_ok 54 rfl
theorem d_X_init_102 : decode prog_2_method_1_code 102 = .ok (.getstatic 41, 3) := jx_dec c_X_init_ok 55 rfl
theorem d_X_init_105 : decode prog_2_method_1_code 105 = .ok (.iload_n 2, 1) := jx_dec c_X_init_ok 56 rfl
theorem d_X_init_106 : decode prog_2_method_1_code 106 = .ok (.iaload, 1) := jx_dec c_X_init_ok 57 rfl
theorem d_X_init_107 : decode prog_2_method_1_code 107 = .ok (.imul, 1) := jx_dec c_X_init_ok 58 rfl
theorem d_X_init_108 : decode prog_2_method_1_code 108 = .ok (.iadd, 1) := jx_dec c_X_init_ok 59 rfl
theorem d_X_init_109 : decode prog_2_method_1_code 109 = .ok (.iastore, 1) := jx_dec c_X_init_ok 60 rfl
theorem d_X_init_110 : decode prog_2_method_1_code 110 = .ok (.iinc 2 1, 3) := jx_dec c_X_init_ok 61 rfl
theorem d_X_init_113 : decode prog_2_method_1_code 113 = .ok (.goto (-28), 3) := jx_dec c_X_init_ok 62 rfl
theorem d_X_init_116 : decode prog_2_method_1_code 116 = .ok (.iinc 1 1, 3) := jx_dec c_X_init_ok 63 rfl
theorem d_X_init_119 : decode prog_2_method_1_code 119 = .ok (.goto (-42), 3) := jx_dec c_X_init_ok 64 rfl
theorem d_X_init_122 : decode prog_2_method_1_code 122 = .ok (.return_, 1) := jx_dec c_X_init_ok 65 rfl
def c_X_plan : List (Nat × Instr × Nat) := [(0, .aload_n 0, 1), (1, .aload_n 2, 1), (2, .invokevirtual 44, 3), (5, .iconst 0, 1), (6, .istore 5, 2), (8, .iload 5, 2), (10, .aload_n 1, 1), (11, .invokevirtual 48, 3), (14, .if_icmp .ge 82, 3), (17, .aload_n 1, 1), (18, .iload 5, 2), (20, .invokevirtual 52, 3), (23, .checkcast 56, 3), (26, .astore 6, 2), (28, .iconst 0, 1), (29, .istore 7, 2), (31, .iload 7, 2), (33, .aload_n 0, 1), (34, .getfield 58, 3), (37, .if_icmp .ge 21, 3), (40, .aload_n 0, 1), (41, .getfield 20, 3), (44, .iload 5, 2), (46, .aaload, 1), (47, .iload 7, 2), (49, .ldc 62, 2), (51, .iastore, 1), (52, .iinc 7 1, 3), (55, .goto (-24), 3), (58, .aload 6, 2), (60, .aload 6, 2), (62, .iload 4, 2), (64, .invokevirtual 63, 3), (67, .putfield 67, 3), (70, .aload 6, 2), (72, .aload 6, 2), (74, .getfield 70, 3), (77, .putfield 73, 3), (80, .aload_n 0, 1), (81, .aload 6, 2), (83, .aload_n 3, 1), (84, .iconst 0, 1), (85, .iconst 0, 1), (86, .iconst 0, 1), (87, .invokevirtual 76, 3), (90, .iinc 5 1, 3), (93, .goto (-85), 3), (96, .aload_n 0, 1), (97, .aload_n 1, 1), (98, .invokevirtual 48, 3), (101, .invokevirtual 80, 3), (104, .aload_n 0, 1), (105, .aload_n 1, 1), (106, .invokevirtual 48, 3), (109, .invokevirtual 84, 3), (112, .return_, 1)]
theorem c_X_plan_ok : (c_X_plan).all (fun q => decide (decode prog_2_method_2_code q.1 = .ok q.2)) = true := by decide +kernel
theorem d_X_plan_0 : decode prog_2_method_2_code 0 = .ok (.aload_n 0, 1) := jx_dec c_X_plan_ok 0 rfl
theorem d_X_plan_1 : decode prog_2_method_2_code 1 = .ok (.aload_n 2, 1) := jx_dec c_X_plan_ok 1 rfl
theorem d_X_plan_2 : decode prog_2_method_2_code 2 = .ok (.invokevirtual 44, 3) := jx_dec c_X_plan_ok 2 rfl
theorem d_X_plan_5 : decode prog_2_method_2_code 5 = .ok (.iconst 0, 1) := jx_dec c_X_plan_ok 3 rfl
theorem d_X_plan_6 : decode prog_2_method_2_code 6 = .ok (.istore 5, 2) := jx_dec c_X_plan_ok 4 rfl
theorem d_X_plan_8 : decode prog_2_method_2_code 8 = .ok (.iload 5, 2) := jx_dec c_X_plan_ok 5 rfl
theorem d_X_plan_10 : decode prog_2_method_2_code 10 = .ok (.aload_n 1, 1) := jx_dec c_X_plan_ok 6 rfl
theorem d_X_plan_11 : decode prog_2_method_2_code 11 = .ok (.invokevirtual 48, 3) := jx_dec c_X_plan_ok 7 rfl
theorem d_X_plan_14 : decode prog_2_method_2_code 14 = .ok (.if_icmp .ge 82, 3) := jx_dec c_X_plan_ok 8 rfl
theorem d_X_plan_17 : decode prog_2_method_2_code 17 = .ok (.aload_n 1, 1) := jx_dec c_X_plan_ok 9 rfl
theorem d_X_plan_18 : decode prog_2_method_2_code 18 = .ok (.iload 5, 2) := jx_dec c_X_plan_ok 10 rfl
theorem d_X_plan_20 : decode prog_2_method_2_code 20 = .ok (.invokevirtual 52, 3) := jx_dec c_X_plan_ok 11 rfl
theorem d_X_plan_23 : decode prog_2_method_2_code 23 = .ok (.checkcast 56, 3) := jx_dec c_X_plan_ok 12 rfl
theorem d_X_plan_26 : decode prog_2_method_2_code 26 = .ok (.astore 6, 2) := jx_dec c_X_plan_ok 13 rfl
theorem d_X_plan_28 : decode prog_2_method_2_code 28 = .ok (.iconst 0, 1) := jx_dec c_X_plan_ok 14 rfl
theorem d_X_plan_29 : decode prog_2_method_2_code 29 = .ok (.istore 7, 2) := jx_dec c_X_plan_ok 15 rfl
theorem d_X_plan_31 : decode prog_2_method_2_code 31 = .ok (.iload 7, 2) := jx_dec c_X_plan_ok 16 rfl
theorem d_X_plan_33 : decode prog_2_method_2_code 33 = .ok (.aload_n 0, 1) := jx_dec c_X_plan_ok 17 rfl
theorem d_X_plan_34 : decode prog_2_method_2_code 34 = .ok (.getfield 58, 3) := jx_dec c_X_plan_ok 18 rfl
theorem d_X_plan_37 : decode prog_2_method_2_code 37 = .ok (.if_icmp .ge 21, 3) := jx_dec c_X_plan_ok 19 rfl
theorem d_X_plan_40 : decode prog_2_method_2_code 40 = .ok (.aload_n 0, 1) := jx_dec c_X_plan_ok 20 rfl
theorem d_X_plan_41 : decode prog_2_method_2_code 41 = .ok (.getfield 20, 3) := jx_dec c_X_plan_ok 21 rfl
theorem d_X_plan_44 : decode prog_2_method_2_code 44 = .ok (.iload 5, 2) := jx_dec c_X_plan_ok 22 rfl
theorem d_X_plan_46 : decode prog_2_method_2_code 46 = .ok (.aaload, 1) := jx_dec c_X_plan_ok 23 rfl
theorem d_X_plan_47 : decode prog_2_method_2_code 47 = .ok (.iload 7, 2) := jx_dec c_X_plan_ok 24 rfl
theorem d_X_plan_49 : decode prog_2_method_2_code 49 = .ok (.ldc 62, 2) := jx_dec c_X_plan_ok 25 rfl
theorem d_X_plan_51 : decode prog_2_method_2_code 51 = .ok (.iastore, 1) := jx_dec c_X_plan_ok 26 rfl
theorem d_X_plan_52 : decode prog_2_method_2_code 52 = .ok (.iinc 7 1, 3) := jx_dec c_X_plan_ok 27 rfl
theorem d_X_plan_55 : decode prog_2_method_2_code 55 = .ok (.goto (-24), 3) := jx_dec c_X_plan_ok 28 rfl
theorem d_X_plan_58 : decode prog_2_method_2_code 58 = .ok (.aload 6, 2) := jx_dec c_X_plan_ok 29 rfl
theorem d_X_plan_60 : decode prog_2_method_2_code 60 = .ok (.aload 6, 2) := jx_dec c_X_plan_ok 30 rfl
theorem d_X_plan_62 : decode prog_2_method_2_code 62 = .ok (.iload 4, 2) := jx_dec c_X_plan_ok 31 rfl
theorem d_X_plan_64 : decode prog_2_method_2_code 64 = .ok (.invokevirtual 63, 3) := jx_dec c_X_plan_ok 32 rfl
theorem d_X_plan_67 : decode prog_2_method_2_code 67 = .ok (.putfield 67, 3) := jx_dec c_X_plan_ok 33 rfl
theorem d_X_plan_70 : decode prog_2_method_2_code 70 = .ok (.aload 6, 2) := jx_dec c_X_plan_ok 34 rfl
theorem d_X_plan_72 : decode prog_2_method_2_code 72 = .ok (.aload 6, 2) := jx_dec c_X_plan_ok 35 rfl
theorem d_X_plan_74 : decode prog_2_method_2_code 74 = .ok (.getfield 70, 3) := jx_dec c_X_plan_ok 36 rfl
theorem d_X_plan_77 : decode prog_2_method_2_code 77 = .ok (.putfield 73, 3) := jx_dec c_X_plan_ok 37 rfl
theorem d_X_plan_80 : decode prog_2_method_2_code 80 = .ok (.aload_n 0, 1) := jx_dec c_X_plan_ok 38 rfl
theorem d_X_plan_81 : decode prog_2_method_2_code 81 = .ok (.aload 6, 2) := jx_dec c_X_plan_ok 39 rfl
theorem d_X_plan_83 : decode prog_2_method_2_code 83 = .ok (.aload_n 3, 1) := jx_dec c_X_plan_ok 40 rfl
theorem d_X_plan_84 : decode prog_2_method_2_code 84 = .ok (.iconst 0, 1) := jx_dec c_X_plan_ok 41 rfl
theorem d_X_plan_85 : decode prog_2_method_2_code 85 = .ok (.iconst 0, 1) := jx_dec c_X_plan_ok 42 rfl
theorem d_X_plan_86 : decode prog_2_method_2_code 86 = .ok (.iconst 0, 1) := jx_dec c_X_plan_ok 43 rfl
theorem d_X_plan_87 : decode prog_2_method_2_code 87 = .ok (.invokevirtual 76, 3) := jx_dec c_X_plan_ok 44 rfl
theorem d_X_plan_90 : decode prog_2_method_2_code 90 = .ok (.iinc 5 1, 3) := jx_dec c_X_plan_ok 45 rfl
theorem d_X_plan_93 : decode prog_2_method_2_code 93 = .ok (.goto (-85), 3) := jx_dec c_X_plan_ok 46 rfl
theorem d_X_plan_96 : decode prog_2_method_2_code 96 = .ok (.aload_n 0, 1) := jx_dec c_X_plan_ok 47 rfl
theorem d_X_plan_97 : decode prog_2_method_2_code 97 = .ok (.aload_n 1, 1) := jx_dec c_X_plan_ok 48 rfl
theorem d_X_plan_98 : decode prog_2_method_2_code 98 = .ok (.invokevirtual 48, 3) := jx_dec c_X_plan_ok 49 rfl
theorem d_X_plan_101 : decode prog_2_method_2_code 101 = .ok (.invokevirtual 80, 3) := jx_dec c_X_plan_ok 50 rfl
theorem d_X_plan_104 : decode prog_2_method_2_code 104 = .ok (.aload_n 0, 1) := jx_dec c_X_plan_ok 51 rfl
theorem d_X_plan_105 : decode prog_2_method_2_code 105 = .ok (.aload_n 1, 1) := jx_dec c_X_plan_ok 52 rfl
theorem d_X_plan_106 : decode prog_2_method_2_code 106 = .ok (.invokevirtual 48, 3) := jx_dec c_X_plan_ok 53 rfl
theorem d_X_plan_109 : decode prog_2_method_2_code 109 = .ok (.invokevirtual 84, 3) := jx_dec c_X_plan_ok 54 rfl
theorem d_X_plan_112 : decode prog_2_method_2_code 112 = .ok (.return_, 1) := jx_dec c_X_plan_ok 55 rfl
def c_X_collectOpen : List (Nat × Instr × Nat) := [(0, .aload_n 0, 1), (1, .getfield 12, 3), (4, .invokevirtual 87, 3), (7, .iconst 0, 1), (8, .istore_n 2, 1), (9, .iload_n 2, 1), (10, .aload_n 1, 1), (11, .invokevirtual 48, 3), (14, .if_icmp .ge 50, 3), (17, .aload_n 1, 1), (18, .iload_n 2, 1), (19, .invokevirtual 52, 3), (22, .checkcast 90, 3), (25, .getfield 92, 3), (28, .ifCond .ne 30, 3), (31, .aload_n 0, 1), (32, .getfield 12, 3), (35, .invokevirtual 48, 3), (38, .iconst 5, 1), (39, .if_icmp .ge 19, 3), (42, .aload_n 0, 1), (43, .getfield 12, 3), (46, .aload_n 1, 1), (47, .iload_n 2, 1), (48, .invokevirtual 52, 3), (51, .checkcast 90, 3), (54, .invokevirtual 95, 3), (57, .pop, 1), (58, .iinc 2 1, 3), (61, .goto (-52), 3), (64, .aload_n 0, 1), (65, .iconst 1, 1), (66, .aload_n 0, 1), (67, .getfield 12, 3), (70, .invokevirtual 48, 3), (73, .ishl, 1), (74, .putfield 58, 3), (77, .return_, 1)]
theorem c_X_collectOpen_ok : (c_X_collectOpen).all (fun q => decide (decode prog_2_method_3_code q.1 = .ok q.2)) = true := by decide +kernel
theorem d_X_collectOpen_0 : decode prog_2_method_3_code 0 = .ok (.aload_n 0, 1) := jx_dec c_X_collectOpen_ok 0 rfl
theorem d_X_collectOpen_1 : decode prog_2_method_3_code 1 = .ok (.getfield 12, 3) := jx_dec c_X_collectOpen_ok 1 rfl
theorem d_X_collectOpen_4 : decode prog_2_method_3_code 4 = .ok (.invokevirtual 87, 3) := jx_dec c_X_collectOpen_ok 2 rfl
theorem d_X_collectOpen_7 : decode prog_2_method_3_code 7 = .ok (.iconst 0, 1) := jx_dec c_X_collectOpen_ok 3 rfl
theorem d_X_collectOpen_8 : decode prog_2_method_3_code 8 = .ok (.istore_n 2, 1) := jx_dec c_X_collectOpen_ok 4 rfl
theorem d_X_collectOpen_9 : decode prog_2_method_3_code 9 = .ok (.iload_n 2, 1) := jx_dec c_X_collectOpen_ok 5 rfl
theorem d_X_collectOpen_10 : decode prog_2_method_3_code 10 = .ok (.aload_n 1, 1) := jx_dec c_X_collectOpen_ok 6 rfl
theorem d_X_collectOpen_11 : decode prog_2_method_3_code 11 = .ok (.invokevirtual 48, 3) := jx_dec c_X_collectOpen_ok 7 rfl
theorem d_X_collectOpen_14 : decode prog_2_method_3_code 14 = .ok (.if_icmp .ge 50, 3) := jx_dec c_X_collectOpen_ok 8 rfl
theorem d_X_collectOpen_17 : decode prog_2_method_3_code 17 = .ok (.aload_n 1, 1) := jx_dec c_X_collectOpen_ok 9 rfl
theorem d_X_collectOpen_18 : decode prog_2_method_3_code 18 = .ok (.iload_n 2, 1) := jx_dec c_X_collectOpen_ok 10 rfl
theorem d_X_collectOpen_19 : decode prog_2_method_3_code 19 = .ok (.invokevirtual 52, 3) := jx_dec c_X_collectOpen_ok 11 rfl
theorem d_X_collectOpen_22 : decode prog_2_method_3_code 22 = .ok (.checkcast 90, 3) := jx_dec c_X_collectOpen_ok 12 rfl
theorem d_X_collectOpen_25 : decode prog_2_method_3_code 25 = .ok (.getfield 92, 3) := jx_dec c_X_collectOpen_ok 13 rfl
theorem d_X_collectOpen_28 : decode prog_2_method_3_code 28 = .ok (.ifCond .ne 30, 3) := jx_dec c_X_collectOpen_ok 14 rfl
theorem d_X_collectOpen_31 : decode prog_2_method_3_code 31 = .ok (.aload_n 0, 1) := jx_dec c_X_collectOpen_ok 15 rfl
theorem d_X_collectOpen_32 : decode prog_2_method_3_code 32 = .ok (.getfield 12, 3) := jx_dec c_X_collectOpen_ok 16 rfl
theorem d_X_collectOpen_35 : decode prog_2_method_3_code 35 = .ok (.invokevirtual 48, 3) := jx_dec c_X_collectOpen_ok 17 rfl
theorem d_X_collectOpen_38 : decode prog_2_method_3_code 38 = .ok (.iconst 5, 1) := jx_dec c_X_collectOpen_ok 18 rfl
theorem d_X_collectOpen_39 : decode prog_2_method_3_code 39 = .ok (.if_icmp .ge 19, 3) := jx_dec c_X_collectOpen_ok 19 rfl
theorem d_X_collectOpen_42 : decode prog_2_method_3_code 42 = .ok (.aload_n 0, 1) := jx_dec c_X_collectOpen_ok 20 rfl
theorem d_X_collectOpen_43 : decode prog_2_method_3_code 43 = .ok (.getfield 12, 3) := jx_dec c_X_collectOpen_ok 21 rfl
theorem d_X_collectOpen_46 : decode prog_2_method_3_code 46 = .ok (.aload_n 1, 1) := jx_dec c_X_collectOpen_ok 22 rfl
theorem d_X_collectOpen_47 : decode prog_2_method_3_code 47 = .ok (.iload_n 2, 1) := jx_dec c_X_collectOpen_ok 23 rfl
theorem d_X_collectOpen_48 : decode prog_2_method_3_code 48 = .ok (.invokevirtual 52, 3) := jx_dec c_X_collectOpen_ok 24 rfl
theorem d_X_collectOpen_51 : decode prog_2_method_3_code 51 = .ok (.checkcast 90, 3) := jx_dec c_X_collectOpen_ok 25 rfl
theorem d_X_collectOpen_54 : decode prog_2_method_3_code 54 = .ok (.invokevirtual 95, 3) := jx_dec c_X_collectOpen_ok 26 rfl
theorem d_X_collectOpen_57 : decode prog_2_method_3_code 57 = .ok (.pop, 1) := jx_dec c_X_collectOpen_ok 27 rfl
theorem d_X_collectOpen_58 : decode prog_2_method_3_code 58 = .ok (.iinc 2 1, 3) := jx_dec c_X_collectOpen_ok 28 rfl
theorem d_X_collectOpen_61 : decode prog_2_method_3_code 61 = .ok (.goto (-52), 3) := jx_dec c_X_collectOpen_ok 29 rfl
theorem d_X_collectOpen_64 : decode prog_2_method_3_code 64 = .ok (.aload_n 0, 1) := jx_dec c_X_collectOpen_ok 30 rfl
theorem d_X_collectOpen_65 : decode prog_2_method_3_code 65 = .ok (.iconst 1, 1) := jx_dec c_X_collectOpen_ok 31 rfl
theorem d_X_collectOpen_66 : decode prog_2_method_3_code 66 = .ok (.aload_n 0, 1) := jx_dec c_X_collectOpen_ok 32 rfl
theorem d_X_collectOpen_67 : decode prog_2_method_3_code 67 = .ok (.getfield 12, 3) := jx_dec c_X_collectOpen_ok 33 rfl
theorem d_X_collectOpen_70 : decode prog_2_method_3_code 70 = .ok (.invokevirtual 48, 3) := jx_dec c_X_collectOpen_ok 34 rfl
theorem d_X_collectOpen_73 : decode prog_2_method_3_code 73 = .ok (.ishl, 1) := jx_dec c_X_collectOpen_ok 35 rfl
theorem d_X_collectOpen_74 : decode prog_2_method_3_code 74 = .ok (.putfield 58, 3) := jx_dec c_X_collectOpen_ok 36 rfl
theorem d_X_collectOpen_77 : decode prog_2_method_3_code 77 = .ok (.return_, 1) := jx_dec c_X_collectOpen_ok 37 rfl
def c_X_tryOrders : List (Nat × Instr × Nat) := [(0, .aload_n 0, 1), (1, .aload_n 1, 1), (2, .getfield 99, 3), (5, .iload_n 3, 1), (6, .iload 4, 2), (8, .invokevirtual 102, 3), (11, .iload 5, 2), (13, .aload_n 0, 1), (14, .getfield 12, 3), (17, .invokevirtual 48, 3), (20, .if_icmp .lt 4, 3), (23, .return_, 1), (24, .aload_n 1, 1), (25, .getfield 67, 3), (28, .istore 6, 2), (30, .aload_n 1, 1), (31, .getfield 73, 3), (34, .istore 7, 2), (36, .iconst 0, 1), (37, .istore 8, 2), (39, .iload 8, 2), (41, .aload_n 0, 1), (42, .getfield 12, 3), (45, .invokevirtual 48, 3), (48, .if_icmp .ge 123, 3), (51, .aload_n 0, 1), (52, .getfield 12, 3), (55, .iload 8, 2), (57, .invokevirtual 52, 3), (60, .checkcast 90, 3), (63, .astore 9, 2), (65, .iload_n 3, 1), (66, .iload 8, 2), (68, .ishr, 1), (69, .iconst 1, 1), (70, .iand, 1), (71, .iconst 1, 1), (72, .if_icmp .eq 93, 3), (75, .aload_n 1, 1), (76, .aload 9, 2), (78, .invokevirtual 106, 3), (81, .ifCond .ne 6, 3), (84, .goto 81, 3), (87, .aload_n 1, 1), (88, .aload 9, 2), (90, .iload 6, 2), (92, .iload 7, 2), (94, .aload_n 2, 1), (95, .invokevirtual 110, 3), (98, .istore 10, 2), (100, .iload 10, 2), (102, .iconst (-1), 1), (103, .if_icmp .ne 6, 3), (106, .goto 59, 3), (109, .aload_n 0, 1), (110, .getfield 26, 3), (113, .iload 8, 2), (115, .iload 10, 2), (117, .iastore, 1), (118, .aload_n 1, 1), (119, .iload 10, 2), (121, .aload 9, 2), (123, .getfield 114, 3), (126, .iadd, 1), (127, .putfield 67, 3), (130, .aload_n 1, 1), (131, .aload 9, 2), (133, .getfield 117, 3), (136, .putfield 73, 3), (139, .aload_n 0, 1), (140, .aload_n 1, 1), (141, .aload_n 2, 1), (142, .iload_n 3, 1), (143, .iconst 1, 1), (144, .iload 8, 2), (146, .ishl, 1), (147, .ior, 1), (148, .iload 4, 2), (150, .aload 9, 2), (152, .iload 10, 2), (154, .invokevirtual 118, 3), (157, .iadd, 1), (158, .iload 5, 2), (160, .iconst 1, 1), (161, .iadd, 1), (162, .invokevirtual 76, 3), (165, .iinc 8 1, 3), (168, .goto (-129), 3), (171, .return_, 1)]
theorem c_X_tryOrders_ok : (c_X_tryOrders).all (fun q => decide (decode prog_2_method_4_code q.1 = .ok q.2)) = true := by decide +kernel
theorem d_X_tryOrders_0 : decode prog_2_method_4_code 0 = .ok (.aload_n 0, 1) := jx_dec c_X_tryOrders_ok 0 rfl
theorem d_X_tryOrders_1 : decode prog_2_method_4_code 1 = .ok (.aload_n 1, 1) := jx_dec c_X_tryOrders_ok 1 rfl
theorem d_X_tryOrders_2 : decode prog_2_method_4_code 2 = .ok (.getfield 99, 3) := jx_dec c_X_tryOrders_ok 2 rfl
theorem d_X_tryOrders_5 : decode prog_2_method_4_code 5 = .ok (.iload_n 3, 1) := jx_dec c_X_tryOrders_ok 3 rfl
theorem d_X_tryOrders_6 : decode prog_2_method_4_code 6 = .ok (.iload 4, 2) := jx_dec c_X_tryOrders_ok 4 rfl
theorem d_X_tryOrders_8 : decode prog_2_method_4_code 8 = .ok (.invokevirtual 102, 3) := jx_dec c_X_tryOrders_ok 5 rfl
theorem d_X_tryOrders_11 : decode prog_2_method_4_code 11 = .ok (.iload 5, 2) := jx_dec c_X_tryOrders_ok 6 rfl
theorem d_X_tryOrders_13 : decode prog_2_method_4_code 13 = .ok (.aload_n 0, 1) := jx_dec c_X_tryOrders_ok 7 rfl
theorem d_X_tryOrders_14 : decode prog_2_method_4_code 14 = .ok (.getfield 12, 3) := jx_dec c_X_tryOrders_ok 8 rfl
theorem d_X_tryOrders_17 : decode prog_2_method_4_code 17 = .ok (.invokevirtual 48, 3) := jx_dec c_X_tryOrders_ok 9 rfl
theorem d_X_tryOrders_20 : decode prog_2_method_4_code 20 = .ok (.if_icmp .lt 4, 3) := jx_dec c_X_tryOrders_ok 10 rfl
theorem d_X_tryOrders_23 : decode prog_2_method_4_code 23 = .ok (.return_, 1) := jx_dec c_X_tryOrders_ok 11 rfl
theorem d_X_tryOrders_24 : decode prog_2_method_4_code 24 = .ok (.aload_n 1, 1) := jx_dec c_X_tryOrders_ok 12 rfl
theorem d_X_tryOrders_25 : decode prog_2_method_4_code 25 = .ok (.getfield 67, 3) := jx_dec c_X_tryOrders_ok 13 rfl
theorem d_X_tryOrders_28 : decode prog_2_method_4_code 28 = .ok (.istore 6, 2) := jx_dec c_X_tryOrders_ok 14 rfl
theorem d_X_tryOrders_30 : decode prog_2_method_4_code 30 = .ok (.aload_n 1, 1) := jx_dec c_X_tryOrders_ok 15 rfl
theorem d_X_tryOrders_31 : decode prog_2_method_4_code 31 = .ok (.getfield 73, 3) := jx_dec c_X_tryOrders_ok 16 rfl
theorem d_X_tryOrders_34 : decode prog_2_method_4_code 34 = .ok (.istore 7, 2) := jx_dec c_X_tryOrders_ok 17 rfl
theorem d_X_tryOrders_36 : decode prog_2_method_4_code 36 = .ok (.iconst 0, 1) := jx_dec c_X_tryOrders_ok 18 rfl
theorem d_X_tryOrders_37 : decode prog_2_method_4_code 37 = .ok (.istore 8, 2) := jx_dec c_X_tryOrders_ok 19 rfl
theorem d_X_tryOrders_39 : decode prog_2_method_4_code 39 = .ok (.iload 8, 2) := jx_dec c_X_tryOrders_ok 20 rfl
theorem d_X_tryOrders_41 : decode prog_2_method_4_code 41 = .ok (.aload_n 0, 1) := jx_dec c_X_tryOrders_ok 21 rfl
theorem d_X_tryOrders_42 : decode prog_2_method_4_code 42 = .ok (.getfield 12, 3) := jx_dec c_X_tryOrders_ok 22 rfl
theorem d_X_tryOrders_45 : decode prog_2_method_4_code 45 = .ok (.invokevirtual 48, 3) := jx_dec c_X_tryOrders_ok 23 rfl
theorem d_X_tryOrders_48 : decode prog_2_method_4_code 48 = .ok (.if_icmp .ge 123, 3) := jx_dec c_X_tryOrders_ok 24 rfl
theorem d_X_tryOrders_51 : decode prog_2_method_4_code 51 = .ok (.aload_n 0, 1) := jx_dec c_X_tryOrders_ok 25 rfl
theorem d_X_tryOrders_52 : decode prog_2_method_4_code 52 = .ok (.getfield 12, 3) := jx_dec c_X_tryOrders_ok 26 rfl
theorem d_X_tryOrders_55 : decode prog_2_method_4_code 55 = .ok (.iload 8, 2) := jx_dec c_X_tryOrders_ok 27 rfl
theorem d_X_tryOrders_57 : decode prog_2_method_4_code 57 = .ok (.invokevirtual 52, 3) := jx_dec c_X_tryOrders_ok 28 rfl
theorem d_X_tryOrders_60 : decode prog_2_method_4_code 60 = .ok (.checkcast 90, 3) := jx_dec c_X_tryOrders_ok 29 rfl
theorem d_X_tryOrders_63 : decode prog_2_method_4_code 63 = .ok (.astore 9, 2) := jx_dec c_X_tryOrders_ok 30 rfl
theorem d_X_tryOrders_65 : decode prog_2_method_4_code 65 = .ok (.iload_n 3, 1) := jx_dec c_X_tryOrders_ok 31 rfl
theorem d_X_tryOrders_66 : decode prog_2_method_4_code 66 = .ok (.iload 8, 2) := jx_dec c_X_tryOrders_ok 32 rfl
theorem d_X_tryOrders_68 : decode prog_2_method_4_code 68 = .ok (.ishr, 1) := jx_dec c_X_tryOrders_ok 33 rfl
theorem d_X_tryOrders_69 : decode prog_2_method_4_code 69 = .ok (.iconst 1, 1) := jx_dec c_X_tryOrders_ok 34 rfl
theorem d_X_tryOrders_70 : decode prog_2_method_4_code 70 = .ok (.iand, 1) := jx_dec c_X_tryOrders_ok 35 rfl
theorem d_X_tryOrders_71 : decode prog_2_method_4_code 71 = .ok (.iconst 1, 1) := jx_dec c_X_tryOrders_ok 36 rfl
theorem d_X_tryOrders_72 : decode prog_2_method_4_code 72 = .ok (.if_icmp .eq 93, 3) := jx_dec c_X_tryOrders_ok 37 rfl
theorem d_X_tryOrders_75 : decode prog_2_method_4_code 75 = .ok (.aload_n 1, 1) := jx_dec c_X_tryOrders_ok 38 rfl
theorem d_X_tryOrders_76 : decode prog_2_method_4_code 76 = .ok (.aload 9, 2) := jx_dec c_X_tryOrders_ok 39 rfl
theorem d_X_tryOrders_78 : decode prog_2_method_4_code 78 = .ok (.invokevirtual 106, 3) := jx_dec c_X_tryOrders_ok 40 rfl
theorem d_X_tryOrders_81 : decode prog_2_method_4_code 81 = .ok (.ifCond .ne 6, 3) := jx_dec c_X_tryOrders_ok 41 rfl
theorem d_X_tryOrders_84 : decode prog_2_method_4_code 84 = .ok (.goto 81, 3) := jx_dec c_X_tryOrders_ok 42 rfl
theorem d_X_tryOrders_87 : decode prog_2_method_4_code 87 = .ok (.aload_n 1, 1) := jx_dec c_X_tryOrders_ok 43 rfl
theorem d_X_tryOrders_88 : decode prog_2_method_4_code 88 = .ok (.aload 9, 2) := jx_dec c_X_tryOrders_ok 44 rfl
theorem d_X_tryOrders_90 : decode prog_2_method_4_code 90 = .ok (.iload 6, 2) := jx_dec c_X_tryOrders_ok 45 rfl
theorem d_X_tryOrders_92 : decode prog_2_method_4_code 92 = .ok (.iload 7, 2) := jx_dec c_X_tryOrders_ok 46 rfl
theorem d_X_tryOrders_94 : decode prog_2_method_4_code 94 = .ok (.aload_n 2, 1) := jx_dec c_X_tryOrders_ok 47 rfl
theorem d_X_tryOrders_95 : decode prog_2_method_4_code 95 = .ok (.invokevirtual 110, 3) := jx_dec c_X_tryOrders_ok 48 rfl
theorem d_X_tryOrders_98 : decode prog_2_method_4_code 98 = .ok (.istore 10, 2) := jx_dec c_X_tryOrders_ok 49 rfl
theorem d_X_tryOrders_100 : decode prog_2_method_4_code 100 = .ok (.iload 10, 2) := jx_dec c_X_tryOrders_ok 50 rfl
theorem d_X_tryOrders_102 : decode prog_2_method_4_code 102 = .ok (.iconst (-1), 1) := jx_dec c_X_tryOrders_ok 51 rfl
theorem d_X_tryOrders_103 : decode prog_2_method_4_code 103 = .ok (.if_icmp .ne 6, 3) := jx_dec c_X_tryOrders_ok 52 rfl
theorem d_X_tryOrders_106 : decode prog_2_method_4_code 106 = .ok (.goto 59, 3) := jx_dec c_X_tryOrders_ok 53 rfl
theorem d_X_tryOrders_109 : decode prog_2_method_4_code 109 = .ok (.aload_n 0, 1) := jx_dec c_X_tryOrders_ok 54 rfl
theorem d_X_tryOrders_110 : decode prog_2_method_4_code 110 = .ok (.getfield 26, 3) := jx_dec c_X_tryOrders_ok 55 rfl
theorem d_X_tryOrders_113 : decode prog_2_method_4_code 113 = .ok (.iload 8, 2) := jx_dec c_X_tryOrders_ok 56 rfl
theorem d_X_tryOrders_115 : decode prog_2_method_4_code 115 = .ok (.iload 10, 2) := jx_dec c_X_tryOrders_ok 57 rfl
theorem d_X_tryOrders_117 : decode prog_2_method_4_code 117 = .ok (.iastore, 1) := jx_dec c_X_tryOrders_ok 58 rfl
theorem d_X_tryOrders_118 : decode prog_2_method_4_code 118 = .ok (.aload_n 1, 1) := jx_dec c_X_tryOrders_ok 59 rfl
theorem d_X_tryOrders_119 : decode prog_2_method_4_code 119 = .ok (.iload 10, 2) := jx_dec c_X_tryOrders_ok 60 rfl
theorem d_X_tryOrders_121 : decode prog_2_method_4_code 121 = .ok (.aload 9, 2) := jx_dec c_X_tryOrders_ok 61 rfl
theorem d_X_tryOrders_123 : decode prog_2_method_4_code 123 = .ok (.getfield 114, 3) := jx_dec c_X_tryOrders_ok 62 rfl
theorem d_X_tryOrders_126 : decode prog_2_method_4_code 126 = .ok (.iadd, 1) := jx_dec c_X_tryOrders_ok 63 rfl
theorem d_X_tryOrders_127 : decode prog_2_method_4_code 127 = .ok (.putfield 67, 3) := jx_dec c_X_tryOrders_ok 64 rfl
theorem d_X_tryOrders_130 : decode prog_2_method_4_code 130 = .ok (.aload_n 1, 1) := jx_dec c_X_tryOrders_ok 65 rfl
theorem d_X_tryOrders_131 : decode prog_2_method_4_code 131 = .ok (.aload 9, 2) := jx_dec c_X_tryOrders_ok 66 rfl
theorem d_X_tryOrders_133 : decode prog_2_method_4_code 133 = .ok (.getfield 117, 3) := jx_dec c_X_tryOrders_ok 67 rfl
theorem d_X_tryOrders_136 : decode prog_2_method_4_code 136 = .ok (.putfield 73, 3) := jx_dec c_X_tryOrders_ok 68 rfl
theorem d_X_tryOrders_139 : decode prog_2_method_4_code 139 = .ok (.aload_n 0, 1) := jx_dec c_X_tryOrders_ok 69 rfl
theorem d_X_tryOrders_140 : decode prog_2_method_4_code 140 = .ok (.aload_n 1, 1) := jx_dec c_X_tryOrders_ok 70 rfl
theorem d_X_tryOrders_141 : decode prog_2_method_4_code 141 = .ok (.aload_n 2, 1) := jx_dec c_X_tryOrders_ok 71 rfl
theorem d_X_tryOrders_142 : decode prog_2_method_4_code 142 = .ok (.iload_n 3, 1) := jx_dec c_X_tryOrders_ok 72 rfl
theorem d_X_tryOrders_143 : decode prog_2_method_4_code 143 = .ok (.iconst 1, 1) := jx_dec c_X_tryOrders_ok 73 rfl
theorem d_X_tryOrders_144 : decode prog_2_method_4_code 144 = .ok (.iload 8, 2) := jx_dec c_X_tryOrders_ok 74 rfl
theorem d_X_tryOrders_146 : decode prog_2_method_4_code 146 = .ok (.ishl, 1) := jx_dec c_X_tryOrders_ok 75 rfl
theorem d_X_tryOrders_147 : decode prog_2_method_4_code 147 = .ok (.ior, 1) := jx_dec c_X_tryOrders_ok 76 rfl
theorem d_X_tryOrders_148 : decode prog_2_method_4_code 148 = .ok (.iload 4, 2) := jx_dec c_X_tryOrders_ok 77 rfl
theorem d_X_tryOrders_150 : decode prog_2_method_4_code 150 = .ok (.aload 9, 2) := jx_dec c_X_tryOrders_ok 78 rfl
theorem d_X_tryOrders_152 : decode prog_2_method_4_code 152 = .ok (.iload 10, 2) := jx_dec c_X_tryOrders_ok 79 rfl
theorem d_X_tryOrders_154 : decode prog_2_method_4_code 154 = .ok (.invokevirtual 118, 3) := jx_dec c_X_tryOrders_ok 80 rfl
theorem d_X_tryOrders_157 : decode prog_2_method_4_code 157 = .ok (.iadd, 1) := jx_dec c_X_tryOrders_ok 81 rfl
theorem d_X_tryOrders_158 : decode prog_2_method_4_code 158 = .ok (.iload 5, 2) := jx_dec c_X_tryOrders_ok 82 rfl
theorem d_X_tryOrders_160 : decode prog_2_method_4_code 160 = .ok (.iconst 1, 1) := jx_dec c_X_tryOrders_ok 83 rfl
theorem d_X_tryOrders_161 : decode prog_2_method_4_code 161 = .ok (.iadd, 1) := jx_dec c_X_tryOrders_ok 84 rfl
theorem d_X_tryOrders_162 : decode prog_2_method_4_code 162 = .ok (.invokevirtual 76, 3) := jx_dec c_X_tryOrders_ok 85 rfl
theorem d_X_tryOrders_165 : decode prog_2_method_4_code 165 = .ok (.iinc 8 1, 3) := jx_dec c_X_tryOrders_ok 86 rfl
theorem d_X_tryOrders_168 : decode prog_2_method_4_code 168 = .ok (.goto (-129), 3) := jx_dec c_X_tryOrders_ok 87 rfl
theorem d_X_tryOrders_171 : decode prog_2_method_4_code 171 = .ok (.return_, 1) := jx_dec c_X_tryOrders_ok 88 rfl
def c_X_keepIfBetter : List (Nat × Instr × Nat) := [(0, .aload_n 0, 1), (1, .getfield 20, 3), (4, .iload_n 1, 1), (5, .aaload, 1), (6, .iload_n 2, 1), (7, .iaload, 1), (8, .istore 4, 2), (10, .iload_n 3, 1), (11, .iload 4, 2), (13, .if_icmp .gt 18, 3), (16, .iload_n 3, 1), (17, .iload 4, 2), (19, .if_icmp .ne 13, 3), (22, .aload_n 0, 1), (23, .iload_n 1, 1), (24, .iload_n 2, 1), (25, .invokevirtual 121, 3), (28, .ifCond .ne 4, 3), (31, .return_, 1), (32, .aload_n 0, 1), (33, .getfield 20, 3), (36, .iload_n 1, 1), (37, .aaload, 1), (38, .iload_n 2, 1), (39, .iload_n 3, 1), (40, .iastore, 1), (41, .iconst 0, 1), (42, .istore 5, 2), (44, .iload 5, 2), (46, .aload_n 0, 1), (47, .getfield 12, 3), (50, .invokevirtual 48, 3), (53, .if_icmp .ge 29, 3), (56, .aload_n 0, 1), (57, .getfield 23, 3), (60, .iload_n 1, 1), (61, .aaload, 1), (62, .iload_n 2, 1), (63, .iconst 5, 1), (64, .imul, 1), (65, .iload 5, 2), (67, .iadd, 1), (68, .aload_n 0, 1), (69, .getfield 26, 3), (72, .iload 5, 2), (74, .iaload, 1), (75, .iastore, 1), (76, .iinc 5 1, 3), (79, .goto (-35), 3), (82, .return_, 1)]
theorem c_X_keepIfBetter_ok : (c_X_keepIfBetter).all (fun q => decide (decode prog_2_method_5_code q.1 = .ok q.2)) = true := by decide +kernel
theorem d_X_keepIfBetter_0 : decode prog_2_method_5_code 0 = .ok (.aload_n 0, 1) := jx_dec c_X_keepIfBetter_ok 0 rfl
theorem d_X_keepIfBetter_1 : decode prog_2_method_5_code 1 = .ok (.getfield 20, 3) := jx_dec c_X_keepIfBetter_ok 1 rfl
theorem d_X_keepIfBetter_4 : decode prog_2_method_5_code 4 = .ok (.iload_n 1, 1) := jx_dec c_X_keepIfBetter_ok 2 rfl
theorem d_X_keepIfBetter_5 : decode prog_2_method_5_code 5 = .ok (.aaload, 1) := jx_dec c_X_keepIfBetter_ok 3 rfl
theorem d_X_keepIfBetter_6 : decode prog_2_method_5_code 6 = .ok (.iload_n 2, 1) := jx_dec c_X_keepIfBetter_ok 4 rfl
theorem d_X_keepIfBetter_7 : decode prog_2_method_5_code 7 = .ok (.iaload, 1) := jx_dec c_X_keepIfBetter_ok 5 rfl
theorem d_X_keepIfBetter_8 : decode prog_2_method_5_code 8 = .ok (.istore 4, 2) := jx_dec c_X_keepIfBetter_ok 6 rfl
theorem d_X_keepIfBetter_10 : decode prog_2_method_5_code 10 = .ok (.iload_n 3, 1) := jx_dec c_X_keepIfBetter_ok 7 rfl
theorem d_X_keepIfBetter_11 : decode prog_2_method_5_code 11 = .ok (.iload 4, 2) := jx_dec c_X_keepIfBetter_ok 8 rfl
theorem d_X_keepIfBetter_13 : decode prog_2_method_5_code 13 = .ok (.if_icmp .gt 18, 3) := jx_dec c_X_keepIfBetter_ok 9 rfl
theorem d_X_keepIfBetter_16 : decode prog_2_method_5_code 16 = .ok (.iload_n 3, 1) := jx_dec c_X_keepIfBetter_ok 10 rfl
theorem d_X_keepIfBetter_17 : decode prog_2_method_5_code 17 = .ok (.iload 4, 2) := jx_dec c_X_keepIfBetter_ok 11 rfl
theorem d_X_keepIfBetter_19 : decode prog_2_method_5_code 19 = .ok (.if_icmp .ne 13, 3) := jx_dec c_X_keepIfBetter_ok 12 rfl
theorem d_X_keepIfBetter_22 : decode prog_2_method_5_code 22 = .ok (.aload_n 0, 1) := jx_dec c_X_keepIfBetter_ok 13 rfl
theorem d_X_keepIfBetter_23 : decode prog_2_method_5_code 23 = .ok (.iload_n 1, 1) := jx_dec c_X_keepIfBetter_ok 14 rfl
theorem d_X_keepIfBetter_24 : decode prog_2_method_5_code 24 = .ok (.iload_n 2, 1) := jx_dec c_X_keepIfBetter_ok 15 rfl
theorem d_X_keepIfBetter_25 : decode prog_2_method_5_code 25 = .ok (.invokevirtual 121, 3) := jx_dec c_X_keepIfBetter_ok 16 rfl
theorem d_X_keepIfBetter_28 : decode prog_2_method_5_code 28 = .ok (.ifCond .ne 4, 3) := jx_dec c_X_keepIfBetter_ok 17 rfl
theorem d_X_keepIfBetter_31 : decode prog_2_method_5_code 31 = .ok (.return_, 1) := jx_dec c_X_keepIfBetter_ok 18 rfl
theorem d_X_keepIfBetter_32 : decode prog_2_method_5_code 32 = .ok (.aload_n 0, 1) := jx_dec c_X_keepIfBetter_ok 19 rfl
theorem d_X_keepIfBetter_33 : decode prog_2_method_5_code 33 = .ok (.getfield 20, 3) := jx_dec c_X_keepIfBetter_ok 20 rfl
theorem d_X_keepIfBetter_36 : decode prog_2_method_5_code 36 = .ok (.iload_n 1, 1) := jx_dec c_X_keepIfBetter_ok 21 rfl
theorem d_X_keepIfBetter_37 : decode prog_2_method_5_code 37 = .ok (.aaload, 1) := jx_dec c_X_keepIfBetter_ok 22 rfl
theorem d_X_keepIfBetter_38 : decode prog_2_method_5_code 38 = .ok (.iload_n 2, 1) := jx_dec c_X_keepIfBetter_ok 23 rfl
theorem d_X_keepIfBetter_39 : decode prog_2_method_5_code 39 = .ok (.iload_n 3, 1) := jx_dec c_X_keepIfBetter_ok 24 rfl
theorem d_X_keepIfBetter_40 : decode prog_2_method_5_code 40 = .ok (.iastore, 1) := jx_dec c_X_keepIfBetter_ok 25 rfl
theorem d_X_keepIfBetter_41 : decode prog_2_method_5_code 41 = .ok (.iconst 0, 1) := jx_dec c_X_keepIfBetter_ok 26 rfl
theorem d_X_keepIfBetter_42 : decode prog_2_method_5_code 42 = .ok (.istore 5, 2) := jx_dec c_X_keepIfBetter_ok 27 rfl
theorem d_X_keepIfBetter_44 : decode prog_2_method_5_code 44 = .ok (.iload 5, 2) := jx_dec c_X_keepIfBetter_ok 28 rfl
theorem d_X_keepIfBetter_46 : decode prog_2_method_5_code 46 = .ok (.aload_n 0, 1) := jx_dec c_X_keepIfBetter_ok 29 rfl
theorem d_X_keepIfBetter_47 : decode prog_2_method_5_code 47 = .ok (.getfield 12, 3) := jx_dec c_X_keepIfBetter_ok 30 rfl
theorem d_X_keepIfBetter_50 : decode prog_2_method_5_code 50 = .ok (.invokevirtual 48, 3) := jx_dec c_X_keepIfBetter_ok 31 rfl
theorem d_X_keepIfBetter_53 : decode prog_2_method_5_code 53 = .ok (.if_icmp .ge 29, 3) := jx_dec c_X_keepIfBetter_ok 32 rfl
theorem d_X_keepIfBetter_56 : decode prog_2_method_5_code 56 = .ok (.aload_n 0, 1) := jx_dec c_X_keepIfBetter_ok 33 rfl
theorem d_X_keepIfBetter_57 : decode prog_2_method_5_code 57 = .ok (.getfield 23, 3) := jx_dec c_X_keepIfBetter_ok 34 rfl
theorem d_X_keepIfBetter_60 : decode prog_2_method_5_code 60 = .ok (.iload_n 1, 1) := jx_dec c_X_keepIfBetter_ok 35 rfl
theorem d_X_keepIfBetter_61 : decode prog_2_method_5_code 61 = .ok (.aaload, 1) := jx_dec c_X_keepIfBetter_ok 36 rfl
theorem d_X_keepIfBetter_62 : decode prog_2_method_5_code 62 = .ok (.iload_n 2, 1) := jx_dec c_X_keepIfBetter_ok 37 rfl
theorem d_X_keepIfBetter_63 : decode prog_2_method_5_code 63 = .ok (.iconst 5, 1) := jx_dec c_X_keepIfBetter_ok 38 rfl
theorem d_X_keepIfBetter_64 : decode prog_2_method_5_code 64 = .ok (.imul, 1) := jx_dec c_X_keepIfBetter_ok 39 rfl
theorem d_X_keepIfBetter_65 : decode prog_2_method_5_code 65 = .ok (.iload 5, 2) := jx_dec c_X_keepIfBetter_ok 40 rfl
theorem d_X_keepIfBetter_67 : decode prog_2_method_5_code 67 = .ok (.iadd, 1) := jx_dec c_X_keepIfBetter_ok 41 rfl
theorem d_X_keepIfBetter_68 : decode prog_2_method_5_code 68 = .ok (.aload_n 0, 1) := jx_dec c_X_keepIfBetter_ok 42 rfl
theorem d_X_keepIfBetter_69 : decode prog_2_method_5_code 69 = .ok (.getfield 26, 3) := jx_dec c_X_keepIfBetter_ok 43 rfl
theorem d_X_keepIfBetter_72 : decode prog_2_method_5_code 72 = .ok (.iload 5, 2) := jx_dec c_X_keepIfBetter_ok 44 rfl
theorem d_X_keepIfBetter_74 : decode prog_2_method_5_code 74 = .ok (.iaload, 1) := jx_dec c_X_keepIfBetter_ok 45 rfl
theorem d_X_keepIfBetter_75 : decode prog_2_method_5_code 75 = .ok (.iastore, 1) := jx_dec c_X_keepIfBetter_ok 46 rfl
theorem d_X_keepIfBetter_76 : decode prog_2_method_5_code 76 = .ok (.iinc 5 1, 3) := jx_dec c_X_keepIfBetter_ok 47 rfl
theorem d_X_keepIfBetter_79 : decode prog_2_method_5_code 79 = .ok (.goto (-35), 3) := jx_dec c_X_keepIfBetter_ok 48 rfl
theorem d_X_keepIfBetter_82 : decode prog_2_method_5_code 82 = .ok (.return_, 1) := jx_dec c_X_keepIfBetter_ok 49 rfl
def c_X_startsEarlier : List (Nat × Instr × Nat) := [(0, .iconst 0, 1), (1, .istore_n 3, 1), (2, .iload_n 3, 1), (3, .aload_n 0, 1), (4, .getfield 12, 3), (7, .invokevirtual 48, 3), (10, .if_icmp .ge 60, 3), (13, .aload_n 0, 1), (14, .getfield 23, 3), (17, .iload_n 1, 1), (18, .aaload, 1), (19, .iload_n 2, 1), (20, .iconst 5, 1), (21, .imul, 1), (22, .iload_n 3, 1), (23, .iadd, 1), (24, .iaload, 1), (25, .istore 4, 2), (27, .iload_n 2, 1), (28, .iload_n 3, 1), (29, .ishr, 1), (30, .iconst 1, 1), (31, .iand, 1), (32, .iconst 1, 1), (33, .if_icmp .ne 31, 3), (36, .aload_n 0, 1), (37, .getfield 26, 3), (40, .iload_n 3, 1), (41, .iaload, 1), (42, .iload 4, 2), (44, .if_icmp .eq 20, 3), (47, .aload_n 0, 1), (48, .getfield 26, 3), (51, .iload_n 3, 1), (52, .iaload, 1), (53, .iload 4, 2), (55, .if_icmp .ge 7, 3), (58, .iconst 1, 1), (59, .goto 4, 3), (62, .iconst 0, 1), (63, .ireturn, 1), (64, .iinc 3 1, 3), (67, .goto (-65), 3), (70, .iconst 0, 1), (71, .ireturn, 1)]
theorem c_X_startsEarlier_ok : (c_X_startsEarlier).all (fun q => decide (decode prog_2_method_6_code q.1 = .ok q.2)) = true := by decide +kernel
theorem d_X_startsEarlier_0 : decode prog_2_method_6_code 0 = .ok (.iconst 0, 1) := jx_dec c_X_startsEarlier_ok 0 rfl
theorem d_X_startsEarlier_1 : decode prog_2_method_6_code 1 = .ok (.istore_n 3, 1) := jx_dec c_X_startsEarlier_ok 1 rfl
theorem d_X_startsEarlier_2 : decode prog_2_method_6_code 2 = .ok (.iload_n 3, 1) := jx_dec c_X_startsEarlier_ok 2 rfl
theorem d_X_startsEarlier_3 : decode prog_2_method_6_code 3 = .ok (.aload_n 0, 1) := jx_dec c_X_startsEarlier_ok 3 rfl
theorem d_X_startsEarlier_4 : decode prog_2_method_6_code 4 = .ok (.getfield 12, 3) := jx_dec c_X_startsEarlier_ok 4 rfl
theorem d_X_startsEarlier_7 : decode prog_2_method_6_code 7 = .ok (.invokevirtual 48, 3) := jx_dec c_X_startsEarlier_ok 5 rfl
theorem d_X_startsEarlier_10 : decode prog_2_method_6_code 10 = .ok (.if_icmp .ge 60, 3) := jx_dec c_X_startsEarlier_ok 6 rfl
theorem d_X_startsEarlier_13 : decode prog_2_method_6_code 13 = .ok (.aload_n 0, 1) := jx_dec c_X_startsEarlier_ok 7 rfl
theorem d_X_startsEarlier_14 : decode prog_2_method_6_code 14 = .ok (.getfield 23, 3) := jx_dec c_X_startsEarlier_ok 8 rfl
theorem d_X_startsEarlier_17 : decode prog_2_method_6_code 17 = .ok (.iload_n 1, 1) := jx_dec c_X_startsEarlier_ok 9 rfl
theorem d_X_startsEarlier_18 : decode prog_2_method_6_code 18 = .ok (.aaload, 1) := jx_dec c_X_startsEarlier_ok 10 rfl
theorem d_X_startsEarlier_19 : decode prog_2_method_6_code 19 = .ok (.iload_n 2, 1) := jx_dec c_X_startsEarlier_ok 11 rfl
theorem d_X_startsEarlier_20 : decode prog_2_method_6_code 20 = .ok (.iconst 5, 1) := jx_dec c_X_startsEarlier_ok 12 rfl
theorem d_X_startsEarlier_21 : decode prog_2_method_6_code 21 = .ok (.imul, 1) := jx_dec c_X_startsEarlier_ok 13 rfl
theorem d_X_startsEarlier_22 : decode prog_2_method_6_code 22 = .ok (.iload_n 3, 1) := jx_dec c_X_startsEarlier_ok 14 rfl
theorem d_X_startsEarlier_23 : decode prog_2_method_6_code 23 = .ok (.iadd, 1) := jx_dec c_X_startsEarlier_ok 15 rfl
theorem d_X_startsEarlier_24 : decode prog_2_method_6_code 24 = .ok (.iaload, 1) := jx_dec c_X_startsEarlier_ok 16 rfl
theorem d_X_startsEarlier_25 : decode prog_2_method_6_code 25 = .ok (.istore 4, 2) := jx_dec c_X_startsEarlier_ok 17 rfl
theorem d_X_startsEarlier_27 : decode prog_2_method_6_code 27 = .ok (.iload_n 2, 1) := jx_dec c_X_startsEarlier_ok 18 rfl
theorem d_X_startsEarlier_28 : decode prog_2_method_6_code 28 = .ok (.iload_n 3, 1) := jx_dec c_X_startsEarlier_ok 19 rfl
theorem d_X_startsEarlier_29 : decode prog_2_method_6_code 29 = .ok (.ishr, 1) := jx_dec c_X_startsEarlier_ok 20 rfl
theorem d_X_startsEarlier_30 : decode prog_2_method_6_code 30 = .ok (.iconst 1, 1) := jx_dec c_X_startsEarlier_ok 21 rfl
theorem d_X_startsEarlier_31 : decode prog_2_method_6_code 31 = .ok (.iand, 1) := jx_dec c_X_startsEarlier_ok 22 rfl
theorem d_X_startsEarlier_32 : decode prog_2_method_6_code 32 = .ok (.iconst 1, 1) := jx_dec c_X_startsEarlier_ok 23 rfl
theorem d_X_startsEarlier_33 : decode prog_2_method_6_code 33 = .ok (.if_icmp .ne 31, 3) := jx_dec c_X_startsEarlier_ok 24 rfl
theorem d_X_startsEarlier_36 : decode prog_2_method_6_code 36 = .ok (.aload_n 0, 1) := jx_dec c_X_startsEarlier_ok 25 rfl
theorem d_X_startsEarlier_37 : decode prog_2_method_6_code 37 = .ok (.getfield 26, 3) := jx_dec c_X_startsEarlier_ok 26 rfl
theorem d_X_startsEarlier_40 : decode prog_2_method_6_code 40 = .ok (.iload_n 3, 1) := jx_dec c_X_startsEarlier_ok 27 rfl
theorem d_X_startsEarlier_41 : decode prog_2_method_6_code 41 = .ok (.iaload, 1) := jx_dec c_X_startsEarlier_ok 28 rfl
theorem d_X_startsEarlier_42 : decode prog_2_method_6_code 42 = .ok (.iload 4, 2) := jx_dec c_X_startsEarlier_ok 29 rfl
theorem d_X_startsEarlier_44 : decode prog_2_method_6_code 44 = .ok (.if_icmp .eq 20, 3) := jx_dec c_X_startsEarlier_ok 30 rfl
theorem d_X_startsEarlier_47 : decode prog_2_method_6_code 47 = .ok (.aload_n 0, 1) := jx_dec c_X_startsEarlier_ok 31 rfl
theorem d_X_startsEarlier_48 : decode prog_2_method_6_code 48 = .ok (.getfield 26, 3) := jx_dec c_X_startsEarlier_ok 32 rfl
theorem d_X_startsEarlier_51 : decode prog_2_method_6_code 51 = .ok (.iload_n 3, 1) := jx_dec c_X_startsEarlier_ok 33 rfl
theorem d_X_startsEarlier_52 : decode prog_2_method_6_code 52 = .ok (.iaload, 1) := jx_dec c_X_startsEarlier_ok 34 rfl
theorem d_X_startsEarlier_53 : decode prog_2_method_6_code 53 = .ok (.iload 4, 2) := jx_dec c_X_startsEarlier_ok 35 rfl
theorem d_X_startsEarlier_55 : decode prog_2_method_6_code 55 = .ok (.if_icmp .ge 7, 3) := jx_dec c_X_startsEarlier_ok 36 rfl
theorem d_X_startsEarlier_58 : decode prog_2_method_6_code 58 = .ok (.iconst 1, 1) := jx_dec c_X_startsEarlier_ok 37 rfl
theorem d_X_startsEarlier_59 : decode prog_2_method_6_code 59 = .ok (.goto 4, 3) := jx_dec c_X_startsEarlier_ok 38 rfl
theorem d_X_startsEarlier_62 : decode prog_2_method_6_code 62 = .ok (.iconst 0, 1) := jx_dec c_X_startsEarlier_ok 39 rfl
theorem d_X_startsEarlier_63 : decode prog_2_method_6_code 63 = .ok (.ireturn, 1) := jx_dec c_X_startsEarlier_ok 40 rfl
theorem d_X_startsEarlier_64 : decode prog_2_method_6_code 64 = .ok (.iinc 3 1, 3) := jx_dec c_X_startsEarlier_ok 41 rfl
theorem d_X_startsEarlier_67 : decode prog_2_method_6_code 67 = .ok (.goto (-65), 3) := jx_dec c_X_startsEarlier_ok 42 rfl
theorem d_X_startsEarlier_70 : decode prog_2_method_6_code 70 = .ok (.iconst 0, 1) := jx_dec c_X_startsEarlier_ok 43 rfl
theorem d_X_startsEarlier_71 : decode prog_2_method_6_code 71 = .ok (.ireturn, 1) := jx_dec c_X_startsEarlier_ok 44 rfl
def c_X_shareOut : List (Nat × Instr × Nat) := [(0, .iconst 0, 1), (1, .istore_n 2, 1), (2, .iload_n 2, 1), (3, .aload_n 0, 1), (4, .getfield 58, 3), (7, .if_icmp .ge 30, 3), (10, .aload_n 0, 1), (11, .getfield 35, 3), (14, .iload_n 1, 1), (15, .aaload, 1), (16, .iload_n 2, 1), (17, .aload_n 0, 1), (18, .iload_n 2, 1), (19, .invokestatic 127, 3), (22, .ldc 132, 2), (24, .imul, 1), (25, .iconst 4, 1), (26, .iload_n 2, 1), (27, .invokevirtual 133, 3), (30, .lastore, 1), (31, .iinc 2 1, 3), (34, .goto (-32), 3), (37, .iload_n 1, 1), (38, .iconst 1, 1), (39, .isub, 1), (40, .istore_n 2, 1), (41, .iload_n 2, 1), (42, .ifCond .lt 31, 3), (45, .iconst 0, 1), (46, .istore_n 3, 1), (47, .iload_n 3, 1), (48, .aload_n 0, 1), (49, .getfield 58, 3), (52, .if_icmp .ge 15, 3), (55, .aload_n 0, 1), (56, .iload_n 2, 1), (57, .iload_n 3, 1), (58, .invokevirtual 137, 3), (61, .iinc 3 1, 3), (64, .goto (-17), 3), (67, .iinc 2 (-1), 3), (70, .goto (-29), 3), (73, .return_, 1)]
theorem c_X_shareOut_ok : (c_X_shareOut).all (fun q => decide (decode prog_2_method_8_code q.1 = .ok q.2)) = true := by decide +kernel
theorem d_X_shareOut_0 : decode prog_2_method_8_code 0 = .ok (.iconst 0, 1) := jx_dec c_X_shareOut_ok 0 rfl
theorem d_X_shareOut_1 : decode prog_2_method_8_code 1 = .ok (.istore_n 2, 1) := jx_dec c_X_shareOut_ok 1 rfl
theorem d_X_shareOut_2 : decode prog_2_method_8_code 2 = .ok (.iload_n 2, 1) := jx_dec c_X_shareOut_ok 2 rfl
theorem d_X_shareOut_3 : decode prog_2_method_8_code 3 = .ok (.aload_n 0, 1) := jx_dec c_X_shareOut_ok 3 rfl
theorem d_X_shareOut_4 : decode prog_2_method_8_code 4 = .ok (.getfield 58, 3) := jx_dec c_X_shareOut_ok 4 rfl
theorem d_X_shareOut_7 : decode prog_2_method_8_code 7 = .ok (.if_icmp .ge 30, 3) := jx_dec c_X_shareOut_ok 5 rfl
theorem d_X_shareOut_10 : decode prog_2_method_8_code 10 = .ok (.aload_n 0, 1) := jx_dec c_X_shareOut_ok 6 rfl
theorem d_X_shareOut_11 : decode prog_2_method_8_code 11 = .ok (.getfield 35, 3) := jx_dec c_X_shareOut_ok 7 rfl
theorem d_X_shareOut_14 : decode prog_2_method_8_code 14 = .ok (.iload_n 1, 1) := jx_dec c_X_shareOut_ok 8 rfl
theorem d_X_shareOut_15 : decode prog_2_method_8_code 15 = .ok (.aaload, 1) := jx_dec c_X_shareOut_ok 9 rfl
theorem d_X_shareOut_16 : decode prog_2_method_8_code 16 = .ok (.iload_n 2, 1) := jx_dec c_X_shareOut_ok 10 rfl
theorem d_X_shareOut_17 : decode prog_2_method_8_code 17 = .ok (.aload_n 0, 1) := jx_dec c_X_shareOut_ok 11 rfl
theorem d_X_shareOut_18 : decode prog_2_method_8_code 18 = .ok (.iload_n 2, 1) := jx_dec c_X_shareOut_ok 12 rfl
theorem d_X_shareOut_19 : decode prog_2_method_8_code 19 = .ok (.invokestatic 127, 3) := jx_dec c_X_shareOut_ok 13 rfl
theorem d_X_shareOut_22 : decode prog_2_method_8_code 22 = .ok (.ldc 132, 2) := jx_dec c_X_shareOut_ok 14 rfl
theorem d_X_shareOut_24 : decode prog_2_method_8_code 24 = .ok (.imul, 1) := jx_dec c_X_shareOut_ok 15 rfl
theorem d_X_shareOut_25 : decode prog_2_method_8_code 25 = .ok (.iconst 4, 1) := jx_dec c_X_shareOut_ok 16 rfl
theorem d_X_shareOut_26 : decode prog_2_method_8_code 26 = .ok (.iload_n 2, 1) := jx_dec c_X_shareOut_ok 17 rfl
theorem d_X_shareOut_27 : decode prog_2_method_8_code 27 = .ok (.invokevirtual 133, 3) := jx_dec c_X_shareOut_ok 18 rfl
theorem d_X_shareOut_30 : decode prog_2_method_8_code 30 = .ok (.lastore, 1) := jx_dec c_X_shareOut_ok 19 rfl
theorem d_X_shareOut_31 : decode prog_2_method_8_code 31 = .ok (.iinc 2 1, 3) := jx_dec c_X_shareOut_ok 20 rfl
theorem d_X_shareOut_34 : decode prog_2_method_8_code 34 = .ok (.goto (-32), 3) := jx_dec c_X_shareOut_ok 21 rfl
theorem d_X_shareOut_37 : decode prog_2_method_8_code 37 = .ok (.iload_n 1, 1) := jx_dec c_X_shareOut_ok 22 rfl
theorem d_X_shareOut_38 : decode prog_2_method_8_code 38 = .ok (.iconst 1, 1) := jx_dec c_X_shareOut_ok 23 rfl
theorem d_X_shareOut_39 : decode prog_2_method_8_code 39 = .ok (.isub, 1) := jx_dec c_X_shareOut_ok 24 rfl
theorem d_X_shareOut_40 : decode prog_2_method_8_code 40 = .ok (.istore_n 2, 1) := jx_dec c_X_shareOut_ok 25 rfl
theorem d_X_shareOut_41 : decode prog_2_method_8_code 41 = .ok (.iload_n 2, 1) := jx_dec c_X_shareOut_ok 26 rfl
theorem d_X_shareOut_42 : decode prog_2_method_8_code 42 = .ok (.ifCond .lt 31, 3) := jx_dec c_X_shareOut_ok 27 rfl
theorem d_X_shareOut_45 : decode prog_2_method_8_code 45 = .ok (.iconst 0, 1) := jx_dec c_X_shareOut_ok 28 rfl
theorem d_X_shareOut_46 : decode prog_2_method_8_code 46 = .ok (.istore_n 3, 1) := jx_dec c_X_shareOut_ok 29 rfl
theorem d_X_shareOut_47 : decode prog_2_method_8_code 47 = .ok (.iload_n 3, 1) := jx_dec c_X_shareOut_ok 30 rfl
theorem d_X_shareOut_48 : decode prog_2_method_8_code 48 = .ok (.aload_n 0, 1) := jx_dec c_X_shareOut_ok 31 rfl
theorem d_X_shareOut_49 : decode prog_2_method_8_code 49 = .ok (.getfield 58, 3) := jx_dec c_X_shareOut_ok 32 rfl
theorem d_X_shareOut_52 : decode prog_2_method_8_code 52 = .ok (.if_icmp .ge 15, 3) := jx_dec c_X_shareOut_ok 33 rfl
theorem d_X_shareOut_55 : decode prog_2_method_8_code 55 = .ok (.aload_n 0, 1) := jx_dec c_X_shareOut_ok 34 rfl
theorem d_X_shareOut_56 : decode prog_2_method_8_code 56 = .ok (.iload_n 2, 1) := jx_dec c_X_shareOut_ok 35 rfl
theorem d_X_shareOut_57 : decode prog_2_method_8_code 57 = .ok (.iload_n 3, 1) := jx_dec c_X_shareOut_ok 36 rfl
theorem d_X_shareOut_58 : decode prog_2_method_8_code 58 = .ok (.invokevirtual 137, 3) := jx_dec c_X_shareOut_ok 37 rfl
theorem d_X_shareOut_61 : decode prog_2_method_8_code 61 = .ok (.iinc 3 1, 3) := jx_dec c_X_shareOut_ok 38 rfl
theorem d_X_shareOut_64 : decode prog_2_method_8_code 64 = .ok (.goto (-17), 3) := jx_dec c_X_shareOut_ok 39 rfl
theorem d_X_shareOut_67 : decode prog_2_method_8_code 67 = .ok (.iinc 2 (-1), 3) := jx_dec c_X_shareOut_ok 40 rfl
theorem d_X_shareOut_70 : decode prog_2_method_8_code 70 = .ok (.goto (-29), 3) := jx_dec c_X_shareOut_ok 41 rfl
theorem d_X_shareOut_73 : decode prog_2_method_8_code 73 = .ok (.return_, 1) := jx_dec c_X_shareOut_ok 42 rfl
def c_X_rank : List (Nat × Instr × Nat) := [(0, .iload_n 1, 1), (1, .i2l, 1), (2, .ldc2_w 125, 3), (5, .lmul, 1), (6, .iload_n 2, 1), (7, .aload_n 0, 1), (8, .getfield 30, 3), (11, .iload_n 3, 1), (12, .iaload, 1), (13, .imul, 1), (14, .i2l, 1), (15, .ladd, 1), (16, .lreturn, 1)]
theorem c_X_rank_ok : (c_X_rank).all (fun q => decide (decode prog_2_method_7_code q.1 = .ok q.2)) = true := by decide +kernel
theorem d_X_rank_0 : decode prog_2_method_7_code 0 = .ok (.iload_n 1, 1) := jx_dec c_X_rank_ok 0 rfl
theorem d_X_rank_1 : decode prog_2_method_7_code 1 = .ok (.i2l, 1) := jx_dec c_X_rank_ok 1 rfl
theorem d_X_rank_2 : decode prog_2_method_7_code 2 = .ok (.ldc2_w 125, 3) := jx_dec c_X_rank_ok 2 rfl
theorem d_X_rank_5 : decode prog_2_method_7_code 5 = .ok (.lmul, 1) := jx_dec c_X_rank_ok 3 rfl
theorem d_X_rank_6 : decode prog_2_method_7_code 6 = .ok (.iload_n 2, 1) := jx_dec c_X_rank_ok 4 rfl
theorem d_X_rank_7 : decode prog_2_method_7_code 7 = .ok (.aload_n 0, 1) := jx_dec c_X_rank_ok 5 rfl
theorem d_X_rank_8 : decode prog_2_method_7_code 8 = .ok (.getfield 30, 3) := jx_dec c_X_rank_ok 6 rfl
theorem d_X_rank_11 : decode prog_2_method_7_code 11 = .ok (.iload_n 3, 1) := jx_dec c_X_rank_ok 7 rfl
theorem d_X_rank_12 : decode prog_2_method_7_code 12 = .ok (.iaload, 1) := jx_dec c_X_rank_ok 8 rfl
theorem d_X_rank_13 : decode prog_2_method_7_code 13 = .ok (.imul, 1) := jx_dec c_X_rank_ok 9 rfl
theorem d_X_rank_14 : decode prog_2_method_7_code 14 = .ok (.i2l, 1) := jx_dec c_X_rank_ok 10 rfl
theorem d_X_rank_15 : decode prog_2_method_7_code 15 = .ok (.ladd, 1) := jx_dec c_X_rank_ok 11 rfl
theorem d_X_rank_16 : decode prog_2_method_7_code 16 = .ok (.lreturn, 1) := jx_dec c_X_rank_ok 12 rfl
def c_X_chooseFrom : List (Nat × Instr × Nat) := [(0, .aload_n 0, 1), (1, .getfield 35, 3), (4, .iload_n 1, 1), (5, .iconst 1, 1), (6, .iadd, 1), (7, .aaload, 1), (8, .iload_n 2, 1), (9, .laload, 1), (10, .lstore_n 3, 1), (11, .iconst 0, 1), (12, .istore 5, 2), (14, .iconst 1, 1), (15, .istore 6, 2), (17, .iload 6, 2), (19, .iload_n 2, 1), (20, .if_icmp .gt 75, 3), (23, .aload_n 0, 1), (24, .getfield 20, 3), (27, .iload_n 1, 1), (28, .aaload, 1), (29, .iload 6, 2), (31, .iaload, 1), (32, .istore 7, 2), (34, .iload 6, 2), (36, .iload_n 2, 1), (37, .iand, 1), (38, .iload 6, 2), (40, .if_icmp .ne 49, 3), (43, .iload 7, 2), (45, .ldc 62, 2), (47, .if_icmp .eq 42, 3), (50, .aload_n 0, 1), (51, .iload 7, 2), (53, .iload_n 1, 1), (54, .iload 6, 2), (56, .invokevirtual 133, 3), (59, .aload_n 0, 1), (60, .getfield 35, 3), (63, .iload_n 1, 1), (64, .iconst 1, 1), (65, .iadd, 1), (66, .aaload, 1), (67, .iload_n 2, 1), (68, .iload 6, 2), (70, .ixor, 1), (71, .laload, 1), (72, .ladd, 1), (73, .lstore 8, 2), (75, .lload 8, 2), (77, .lload_n 3, 1), (78, .lcmp, 1), (79, .ifCond .ge 10, 3), (82, .lload 8, 2), (84, .lstore_n 3, 1), (85, .iload 6, 2), (87, .istore 5, 2), (89, .iinc 6 1, 3), (92, .goto (-75), 3), (95, .aload_n 0, 1), (96, .getfield 35, 3), (99, .iload_n 1, 1), (100, .aaload, 1), (101, .iload_n 2, 1), (102, .lload_n 3, 1), (103, .lastore, 1), (104, .aload_n 0, 1), (105, .getfield 38, 3), (108, .iload_n 1, 1), (109, .aaload, 1), (110, .iload_n 2, 1), (111, .iload 5, 2), (113, .iastore, 1), (114, .return_, 1)]
theorem c_X_chooseFrom_ok : (c_X_chooseFrom).all (fun q => decide (decode prog_2_method_9_code q.1 = .ok q.2)) = true := by decide +kernel
theorem d_X_chooseFrom_0 : decode prog_2_method_9_code 0 = .ok (.aload_n 0, 1) := jx_dec c_X_chooseFrom_ok 0 rfl
theorem d_X_chooseFrom_1 : decode prog_2_method_9_code 1 = .ok (.getfield 35, 3) := jx_dec c_X_chooseFrom_ok 1 rfl
theorem d_X_chooseFrom_4 : decode prog_2_method_9_code 4 = .ok (.iload_n 1, 1) := jx_dec c_X_chooseFrom_ok 2 rfl
theorem d_X_chooseFrom_5 : decode prog_2_method_9_code 5 = .ok (.iconst 1, 1) := jx_dec c_X_chooseFrom_ok 3 rfl
theorem d_X_chooseFrom_6 : decode prog_2_method_9_code 6 = .ok (.iadd, 1) := jx_dec c_X_chooseFrom_ok 4 rfl
theorem d_X_chooseFrom_7 : decode prog_2_method_9_code 7 = .ok (.aaload, 1) := jx_dec c_X_chooseFrom_ok 5 rfl
theorem d_X_chooseFrom_8 : decode prog_2_method_9_code 8 = .ok (.iload_n 2, 1) := jx_dec c_X_chooseFrom_ok 6 rfl
theorem d_X_chooseFrom_9 : decode prog_2_method_9_code 9 = .ok (.laload, 1) := jx_dec c_X_chooseFrom_ok 7 rfl
theorem d_X_chooseFrom_10 : decode prog_2_method_9_code 10 = .ok (.lstore_n 3, 1) := jx_dec c_X_chooseFrom_ok 8 rfl
theorem d_X_chooseFrom_11 : decode prog_2_method_9_code 11 = .ok (.iconst 0, 1) := jx_dec c_X_chooseFrom_ok 9 rfl
theorem d_X_chooseFrom_12 : decode prog_2_method_9_code 12 = .ok (.istore 5, 2) := jx_dec c_X_chooseFrom_ok 10 rfl
theorem d_X_chooseFrom_14 : decode prog_2_method_9_code 14 = .ok (.iconst 1, 1) := jx_dec c_X_chooseFrom_ok 11 rfl
theorem d_X_chooseFrom_15 : decode prog_2_method_9_code 15 = .ok (.istore 6, 2) := jx_dec c_X_chooseFrom_ok 12 rfl
theorem d_X_chooseFrom_17 : decode prog_2_method_9_code 17 = .ok (.iload 6, 2) := jx_dec c_X_chooseFrom_ok 13 rfl
theorem d_X_chooseFrom_19 : decode prog_2_method_9_code 19 = .ok (.iload_n 2, 1) := jx_dec c_X_chooseFrom_ok 14 rfl
theorem d_X_chooseFrom_20 : decode prog_2_method_9_code 20 = .ok (.if_icmp .gt 75, 3) := jx_dec c_X_chooseFrom_ok 15 rfl
theorem d_X_chooseFrom_23 : decode prog_2_method_9_code 23 = .ok (.aload_n 0, 1) := jx_dec c_X_chooseFrom_ok 16 rfl
theorem d_X_chooseFrom_24 : decode prog_2_method_9_code 24 = .ok (.getfield 20, 3) := jx_dec c_X_chooseFrom_ok 17 rfl
theorem d_X_chooseFrom_27 : decode prog_2_method_9_code 27 = .ok (.iload_n 1, 1) := jx_dec c_X_chooseFrom_ok 18 rfl
theorem d_X_chooseFrom_28 : decode prog_2_method_9_code 28 = .ok (.aaload, 1) := jx_dec c_X_chooseFrom_ok 19 rfl
theorem d_X_chooseFrom_29 : decode prog_2_method_9_code 29 = .ok (.iload 6, 2) := jx_dec c_X_chooseFrom_ok 20 rfl
theorem d_X_chooseFrom_31 : decode prog_2_method_9_code 31 = .ok (.iaload, 1) := jx_dec c_X_chooseFrom_ok 21 rfl
theorem d_X_chooseFrom_32 : decode prog_2_method_9_code 32 = .ok (.istore 7, 2) := jx_dec c_X_chooseFrom_ok 22 rfl
theorem d_X_chooseFrom_34 : decode prog_2_method_9_code 34 = .ok (.iload 6, 2) := jx_dec c_X_chooseFrom_ok 23 rfl
theorem d_X_chooseFrom_36 : decode prog_2_method_9_code 36 = .ok (.iload_n 2, 1) := jx_dec c_X_chooseFrom_ok 24 rfl
theorem d_X_chooseFrom_37 : decode prog_2_method_9_code 37 = .ok (.iand, 1) := jx_dec c_X_chooseFrom_ok 25 rfl
theorem d_X_chooseFrom_38 : decode prog_2_method_9_code 38 = .ok (.iload 6, 2) := jx_dec c_X_chooseFrom_ok 26 rfl
theorem d_X_chooseFrom_40 : decode prog_2_method_9_code 40 = .ok (.if_icmp .ne 49, 3) := jx_dec c_X_chooseFrom_ok 27 rfl
theorem d_X_chooseFrom_43 : decode prog_2_method_9_code 43 = .ok (.iload 7, 2) := jx_dec c_X_chooseFrom_ok 28 rfl
theorem d_X_chooseFrom_45 : decode prog_2_method_9_code 45 = .ok (.ldc 62, 2) := jx_dec c_X_chooseFrom_ok 29 rfl
theorem d_X_chooseFrom_47 : decode prog_2_method_9_code 47 = .ok (.if_icmp .eq 42, 3) := jx_dec c_X_chooseFrom_ok 30 rfl
theorem d_X_chooseFrom_50 : decode prog_2_method_9_code 50 = .ok (.aload_n 0, 1) := jx_dec c_X_chooseFrom_ok 31 rfl
theorem d_X_chooseFrom_51 : decode prog_2_method_9_code 51 = .ok (.iload 7, 2) := jx_dec c_X_chooseFrom_ok 32 rfl
theorem d_X_chooseFrom_53 : decode prog_2_method_9_code 53 = .ok (.iload_n 1, 1) := jx_dec c_X_chooseFrom_ok 33 rfl
theorem d_X_chooseFrom_54 : decode prog_2_method_9_code 54 = .ok (.iload 6, 2) := jx_dec c_X_chooseFrom_ok 34 rfl
theorem d_X_chooseFrom_56 : decode prog_2_method_9_code 56 = .ok (.invokevirtual 133, 3) := jx_dec c_X_chooseFrom_ok 35 rfl
theorem d_X_chooseFrom_59 : decode prog_2_method_9_code 59 = .ok (.aload_n 0, 1) := jx_dec c_X_chooseFrom_ok 36 rfl
theorem d_X_chooseFrom_60 : decode prog_2_method_9_code 60 = .ok (.getfield 35, 3) := jx_dec c_X_chooseFrom_ok 37 rfl
theorem d_X_chooseFrom_63 : decode prog_2_method_9_code 63 = .ok (.iload_n 1, 1) := jx_dec c_X_chooseFrom_ok 38 rfl
theorem d_X_chooseFrom_64 : decode prog_2_method_9_code 64 = .ok (.iconst 1, 1) := jx_dec c_X_chooseFrom_ok 39 rfl
theorem d_X_chooseFrom_65 : decode prog_2_method_9_code 65 = .ok (.iadd, 1) := jx_dec c_X_chooseFrom_ok 40 rfl
theorem d_X_chooseFrom_66 : decode prog_2_method_9_code 66 = .ok (.aaload, 1) := jx_dec c_X_chooseFrom_ok 41 rfl
theorem d_X_chooseFrom_67 : decode prog_2_method_9_code 67 = .ok (.iload_n 2, 1) := jx_dec c_X_chooseFrom_ok 42 rfl
theorem d_X_chooseFrom_68 : decode prog_2_method_9_code 68 = .ok (.iload 6, 2) := jx_dec c_X_chooseFrom_ok 43 rfl
theorem d_X_chooseFrom_70 : decode prog_2_method_9_code 70 = .ok (.ixor, 1) := jx_dec c_X_chooseFrom_ok 44 rfl
theorem d_X_chooseFrom_71 : decode prog_2_method_9_code 71 = .ok (.laload, 1) := jx_dec c_X_chooseFrom_ok 45 rfl
theorem d_X_chooseFrom_72 : decode prog_2_method_9_code 72 = .ok (.ladd, 1) := jx_dec c_X_chooseFrom_ok 46 rfl
theorem d_X_chooseFrom_73 : decode prog_2_method_9_code 73 = .ok (.lstore 8, 2) := jx_dec c_X_chooseFrom_ok 47 rfl
theorem d_X_chooseFrom_75 : decode prog_2_method_9_code 75 = .ok (.lload 8, 2) := jx_dec c_X_chooseFrom_ok 48 rfl
theorem d_X_chooseFrom_77 : decode prog_2_method_9_code 77 = .ok (.lload_n 3, 1) := jx_dec c_X_chooseFrom_ok 49 rfl
theorem d_X_chooseFrom_78 : decode prog_2_method_9_code 78 = .ok (.lcmp, 1) := jx_dec c_X_chooseFrom_ok 50 rfl
theorem d_X_chooseFrom_79 : decode prog_2_method_9_code 79 = .ok (.ifCond .ge 10, 3) := jx_dec c_X_chooseFrom_ok 51 rfl
theorem d_X_chooseFrom_82 : decode prog_2_method_9_code 82 = .ok (.lload 8, 2) := jx_dec c_X_chooseFrom_ok 52 rfl
theorem d_X_chooseFrom_84 : decode prog_2_method_9_code 84 = .ok (.lstore_n 3, 1) := jx_dec c_X_chooseFrom_ok 53 rfl
theorem d_X_chooseFrom_85 : decode prog_2_method_9_code 85 = .ok (.iload 6, 2) := jx_dec c_X_chooseFrom_ok 54 rfl
theorem d_X_chooseFrom_87 : decode prog_2_method_9_code 87 = .ok (.istore 5, 2) := jx_dec c_X_chooseFrom_ok 55 rfl
theorem d_X_chooseFrom_89 : decode prog_2_method_9_code 89 = .ok (.iinc 6 1, 3) := jx_dec c_X_chooseFrom_ok 56 rfl
theorem d_X_chooseFrom_92 : decode prog_2_method_9_code 92 = .ok (.goto (-75), 3) := jx_dec c_X_chooseFrom_ok 57 rfl
theorem d_X_chooseFrom_95 : decode prog_2_method_9_code 95 = .ok (.aload_n 0, 1) := jx_dec c_X_chooseFrom_ok 58 rfl
theorem d_X_chooseFrom_96 : decode prog_2_method_9_code 96 = .ok (.getfield 35, 3) := jx_dec c_X_chooseFrom_ok 59 rfl
theorem d_X_chooseFrom_99 : decode prog_2_method_9_code 99 = .ok (.iload_n 1, 1) := jx_dec c_X_chooseFrom_ok 60 rfl
theorem d_X_chooseFrom_100 : decode prog_2_method_9_code 100 = .ok (.aaload, 1) := jx_dec c_X_chooseFrom_ok 61 rfl
theorem d_X_chooseFrom_101 : decode prog_2_method_9_code 101 = .ok (.iload_n 2, 1) := jx_dec c_X_chooseFrom_ok 62 rfl
theorem d_X_chooseFrom_102 : decode prog_2_method_9_code 102 = .ok (.lload_n 3, 1) := jx_dec c_X_chooseFrom_ok 63 rfl
theorem d_X_chooseFrom_103 : decode prog_2_method_9_code 103 = .ok (.lastore, 1) := jx_dec c_X_chooseFrom_ok 64 rfl
theorem d_X_chooseFrom_104 : decode prog_2_method_9_code 104 = .ok (.aload_n 0, 1) := jx_dec c_X_chooseFrom_ok 65 rfl
theorem d_X_chooseFrom_105 : decode prog_2_method_9_code 105 = .ok (.getfield 38, 3) := jx_dec c_X_chooseFrom_ok 66 rfl
theorem d_X_chooseFrom_108 : decode prog_2_method_9_code 108 = .ok (.iload_n 1, 1) := jx_dec c_X_chooseFrom_ok 67 rfl
theorem d_X_chooseFrom_109 : decode prog_2_method_9_code 109 = .ok (.aaload, 1) := jx_dec c_X_chooseFrom_ok 68 rfl
theorem d_X_chooseFrom_110 : decode prog_2_method_9_code 110 = .ok (.iload_n 2, 1) := jx_dec c_X_chooseFrom_ok 69 rfl
theorem d_X_chooseFrom_111 : decode prog_2_method_9_code 111 = .ok (.iload 5, 2) := jx_dec c_X_chooseFrom_ok 70 rfl
theorem d_X_chooseFrom_113 : decode prog_2_method_9_code 113 = .ok (.iastore, 1) := jx_dec c_X_chooseFrom_ok 71 rfl
theorem d_X_chooseFrom_114 : decode prog_2_method_9_code 114 = .ok (.return_, 1) := jx_dec c_X_chooseFrom_ok 72 rfl
def c_X_tell : List (Nat × Instr × Nat) := [(0, .aload_n 0, 1), (1, .getfield 58, 3), (4, .iconst 1, 1), (5, .isub, 1), (6, .istore_n 2, 1), (7, .iconst 0, 1), (8, .istore_n 3, 1), (9, .iload_n 3, 1), (10, .iload_n 1, 1), (11, .if_icmp .ge 86, 3), (14, .aload_n 0, 1), (15, .getfield 38, 3), (18, .iload_n 3, 1), (19, .aaload, 1), (20, .iload_n 2, 1), (21, .iaload, 1), (22, .istore 4, 2), (24, .iconst 0, 1), (25, .istore 5, 2), (27, .iload 5, 2), (29, .aload_n 0, 1), (30, .getfield 12, 3), (33, .invokevirtual 48, 3), (36, .if_icmp .ge 50, 3), (39, .iload 4, 2), (41, .iload 5, 2), (43, .ishr, 1), (44, .iconst 1, 1), (45, .iand, 1), (46, .iconst 1, 1), (47, .if_icmp .ne 33, 3), (50, .aload_n 0, 1), (51, .getfield 12, 3), (54, .iload 5, 2), (56, .invokevirtual 52, 3), (59, .checkcast 90, 3), (62, .iload_n 3, 1), (63, .aload_n 0, 1), (64, .getfield 23, 3), (67, .iload_n 3, 1), (68, .aaload, 1), (69, .iload 4, 2), (71, .iconst 5, 1), (72, .imul, 1), (73, .iload 5, 2), (75, .iadd, 1), (76, .iaload, 1), (77, .invokevirtual 141, 3), (80, .iinc 5 1, 3), (83, .goto (-56), 3), (86, .iload_n 2, 1), (87, .iload 4, 2), (89, .ixor, 1), (90, .istore_n 2, 1), (91, .iinc 3 1, 3), (94, .goto (-85), 3), (97, .return_, 1)]
theorem c_X_tell_ok : (c_X_tell).all (fun q => decide (decode prog_2_method_10_code q.1 = .ok q.2)) = true := by decide +kernel
theorem d_X_tell_0 : decode prog_2_method_10_code 0 = .ok (.aload_n 0, 1) := jx_dec c_X_tell_ok 0 rfl
theorem d_X_tell_1 : decode prog_2_method_10_code 1 = .ok (.getfield 58, 3) := jx_dec c_X_tell_ok 1 rfl
theorem d_X_tell_4 : decode prog_2_method_10_code 4 = .ok (.iconst 1, 1) := jx_dec c_X_tell_ok 2 rfl
theorem d_X_tell_5 : decode prog_2_method_10_code 5 = .ok (.isub, 1) := jx_dec c_X_tell_ok 3 rfl
theorem d_X_tell_6 : decode prog_2_method_10_code 6 = .ok (.istore_n 2, 1) := jx_dec c_X_tell_ok 4 rfl
theorem d_X_tell_7 : decode prog_2_method_10_code 7 = .ok (.iconst 0, 1) := jx_dec c_X_tell_ok 5 rfl
theorem d_X_tell_8 : decode prog_2_method_10_code 8 = .ok (.istore_n 3, 1) := jx_dec c_X_tell_ok 6 rfl
theorem d_X_tell_9 : decode prog_2_method_10_code 9 = .ok (.iload_n 3, 1) := jx_dec c_X_tell_ok 7 rfl
theorem d_X_tell_10 : decode prog_2_method_10_code 10 = .ok (.iload_n 1, 1) := jx_dec c_X_tell_ok 8 rfl
theorem d_X_tell_11 : decode prog_2_method_10_code 11 = .ok (.if_icmp .ge 86, 3) := jx_dec c_X_tell_ok 9 rfl
theorem d_X_tell_14 : decode prog_2_method_10_code 14 = .ok (.aload_n 0, 1) := jx_dec c_X_tell_ok 10 rfl
theorem d_X_tell_15 : decode prog_2_method_10_code 15 = .ok (.getfield 38, 3) := jx_dec c_X_tell_ok 11 rfl
theorem d_X_tell_18 : decode prog_2_method_10_code 18 = .ok (.iload_n 3, 1) := jx_dec c_X_tell_ok 12 rfl
theorem d_X_tell_19 : decode prog_2_method_10_code 19 = .ok (.aaload, 1) := jx_dec c_X_tell_ok 13 rfl
theorem d_X_tell_20 : decode prog_2_method_10_code 20 = .ok (.iload_n 2, 1) := jx_dec c_X_tell_ok 14 rfl
theorem d_X_tell_21 : decode prog_2_method_10_code 21 = .ok (.iaload, 1) := jx_dec c_X_tell_ok 15 rfl
theorem d_X_tell_22 : decode prog_2_method_10_code 22 = .ok (.istore 4, 2) := jx_dec c_X_tell_ok 16 rfl
theorem d_X_tell_24 : decode prog_2_method_10_code 24 = .ok (.iconst 0, 1) := jx_dec c_X_tell_ok 17 rfl
theorem d_X_tell_25 : decode prog_2_method_10_code 25 = .ok (.istore 5, 2) := jx_dec c_X_tell_ok 18 rfl
theorem d_X_tell_27 : decode prog_2_method_10_code 27 = .ok (.iload 5, 2) := jx_dec c_X_tell_ok 19 rfl
theorem d_X_tell_29 : decode prog_2_method_10_code 29 = .ok (.aload_n 0, 1) := jx_dec c_X_tell_ok 20 rfl
theorem d_X_tell_30 : decode prog_2_method_10_code 30 = .ok (.getfield 12, 3) := jx_dec c_X_tell_ok 21 rfl
theorem d_X_tell_33 : decode prog_2_method_10_code 33 = .ok (.invokevirtual 48, 3) := jx_dec c_X_tell_ok 22 rfl
theorem d_X_tell_36 : decode prog_2_method_10_code 36 = .ok (.if_icmp .ge 50, 3) := jx_dec c_X_tell_ok 23 rfl
theorem d_X_tell_39 : decode prog_2_method_10_code 39 = .ok (.iload 4, 2) := jx_dec c_X_tell_ok 24 rfl
theorem d_X_tell_41 : decode prog_2_method_10_code 41 = .ok (.iload 5, 2) := jx_dec c_X_tell_ok 25 rfl
theorem d_X_tell_43 : decode prog_2_method_10_code 43 = .ok (.ishr, 1) := jx_dec c_X_tell_ok 26 rfl
theorem d_X_tell_44 : decode prog_2_method_10_code 44 = .ok (.iconst 1, 1) := jx_dec c_X_tell_ok 27 rfl
theorem d_X_tell_45 : decode prog_2_method_10_code 45 = .ok (.iand, 1) := jx_dec c_X_tell_ok 28 rfl
theorem d_X_tell_46 : decode prog_2_method_10_code 46 = .ok (.iconst 1, 1) := jx_dec c_X_tell_ok 29 rfl
theorem d_X_tell_47 : decode prog_2_method_10_code 47 = .ok (.if_icmp .ne 33, 3) := jx_dec c_X_tell_ok 30 rfl
theorem d_X_tell_50 : decode prog_2_method_10_code 50 = .ok (.aload_n 0, 1) := jx_dec c_X_tell_ok 31 rfl
theorem d_X_tell_51 : decode prog_2_method_10_code 51 = .ok (.getfield 12, 3) := jx_dec c_X_tell_ok 32 rfl
theorem d_X_tell_54 : decode prog_2_method_10_code 54 = .ok (.iload 5, 2) := jx_dec c_X_tell_ok 33 rfl
theorem d_X_tell_56 : decode prog_2_method_10_code 56 = .ok (.invokevirtual 52, 3) := jx_dec c_X_tell_ok 34 rfl
theorem d_X_tell_59 : decode prog_2_method_10_code 59 = .ok (.checkcast 90, 3) := jx_dec c_X_tell_ok 35 rfl
theorem d_X_tell_62 : decode prog_2_method_10_code 62 = .ok (.iload_n 3, 1) := jx_dec c_X_tell_ok 36 rfl
theorem d_X_tell_63 : decode prog_2_method_10_code 63 = .ok (.aload_n 0, 1) := jx_dec c_X_tell_ok 37 rfl
theorem d_X_tell_64 : decode prog_2_method_10_code 64 = .ok (.getfield 23, 3) := jx_dec c_X_tell_ok 38 rfl
theorem d_X_tell_67 : decode prog_2_method_10_code 67 = .ok (.iload_n 3, 1) := jx_dec c_X_tell_ok 39 rfl
theorem d_X_tell_68 : decode prog_2_method_10_code 68 = .ok (.aaload, 1) := jx_dec c_X_tell_ok 40 rfl
theorem d_X_tell_69 : decode prog_2_method_10_code 69 = .ok (.iload 4, 2) := jx_dec c_X_tell_ok 41 rfl
theorem d_X_tell_71 : decode prog_2_method_10_code 71 = .ok (.iconst 5, 1) := jx_dec c_X_tell_ok 42 rfl
theorem d_X_tell_72 : decode prog_2_method_10_code 72 = .ok (.imul, 1) := jx_dec c_X_tell_ok 43 rfl
theorem d_X_tell_73 : decode prog_2_method_10_code 73 = .ok (.iload 5, 2) := jx_dec c_X_tell_ok 44 rfl
theorem d_X_tell_75 : decode prog_2_method_10_code 75 = .ok (.iadd, 1) := jx_dec c_X_tell_ok 45 rfl
theorem d_X_tell_76 : decode prog_2_method_10_code 76 = .ok (.iaload, 1) := jx_dec c_X_tell_ok 46 rfl
theorem d_X_tell_77 : decode prog_2_method_10_code 77 = .ok (.invokevirtual 141, 3) := jx_dec c_X_tell_ok 47 rfl
theorem d_X_tell_80 : decode prog_2_method_10_code 80 = .ok (.iinc 5 1, 3) := jx_dec c_X_tell_ok 48 rfl
theorem d_X_tell_83 : decode prog_2_method_10_code 83 = .ok (.goto (-56), 3) := jx_dec c_X_tell_ok 49 rfl
theorem d_X_tell_86 : decode prog_2_method_10_code 86 = .ok (.iload_n 2, 1) := jx_dec c_X_tell_ok 50 rfl
theorem d_X_tell_87 : decode prog_2_method_10_code 87 = .ok (.iload 4, 2) := jx_dec c_X_tell_ok 51 rfl
theorem d_X_tell_89 : decode prog_2_method_10_code 89 = .ok (.ixor, 1) := jx_dec c_X_tell_ok 52 rfl
theorem d_X_tell_90 : decode prog_2_method_10_code 90 = .ok (.istore_n 2, 1) := jx_dec c_X_tell_ok 53 rfl
theorem d_X_tell_91 : decode prog_2_method_10_code 91 = .ok (.iinc 3 1, 3) := jx_dec c_X_tell_ok 54 rfl
theorem d_X_tell_94 : decode prog_2_method_10_code 94 = .ok (.goto (-85), 3) := jx_dec c_X_tell_ok 55 rfl
theorem d_X_tell_97 : decode prog_2_method_10_code 97 = .ok (.return_, 1) := jx_dec c_X_tell_ok 56 rfl
