/-! 04.9law: the law's instructions -/
def c_L_law_0 : List (Nat × Instr × Nat) := [(0, .new 8, 3), (3, .dup, 1), (4, .invokespecial 71, 3), (7, .astore_n 1, 1), (8, .new 72, 3), (11, .dup, 1), (12, .invokespecial 74, 3), (15, .astore_n 2, 1), (16, .iconst 1, 1), (17, .newarray .long, 2), (19, .astore_n 3, 1), (20, .iconst 0, 1), (21, .istore 4, 2), (23, .iload 4, 2), (25, .aload_n 0, 1), (26, .arraylength, 1), (27, .iconst 5, 1), (28, .isub, 1), (29, .if_icmp .gt 1191, 3), (32, .aload_n 0, 1), (33, .iload 4, 2), (35, .iaload, 1), (36, .bipush 31, 2), (38, .iand, 1), (39, .tableswitch 1175 0 18 #[89, 181, 241, 309, 401, 461, 536, 604, 660, 673, 686, 742, 798, 854, 910, 946, 1014, 1082, 1150], 89), (128, .aload_n 1, 1), (129, .aload_n 0, 1), (130, .iload 4, 2), (132, .iconst 1, 1), (133, .iadd, 1), (134, .iaload, 1), (135, .aload_n 0, 1), (136, .iload 4, 2), (138, .iconst 2, 1), (139, .iadd, 1), (140, .iaload, 1), (141, .aload_n 0, 1), (142, .iload 4, 2), (144, .iconst 3, 1), (145, .iadd, 1), (146, .iaload, 1), (147, .aload_n 0, 1), (148, .iload 4, 2), (150, .iconst 4, 1), (151, .iadd, 1), (152, .iaload, 1), (153, .aload_n 3, 1), (154, .invokestatic 75, 3), (157, .istore 5, 2), (159, .aload_n 2, 1), (160, .aload_n 0, 1), (161, .iload 4, 2), (163, .iconst 1, 1), (164, .iadd, 1), (165, .iaload, 1), (166, .aload_n 0, 1), (167, .iload 4, 2), (169, .iconst 2, 1), (170, .iadd, 1), (171, .iaload, 1), (172, .aload_n 0, 1), (173, .iload 4, 2), (175, .iconst 3, 1), (176, .iadd, 1), (177, .iaload, 1), (178, .aload_n 0, 1), (179, .iload 4, 2), (181, .iconst 4, 1), (182, .iadd, 1), (183, .iaload, 1), (184, .invokevirtual 80, 3), (187, .istore 6, 2), (189, .aload_n 2, 1), (190, .invokevirtual 81, 3), (193, .iload 5, 2), (195, .if_icmp .eq 5, 3), (198, .iconst 0, 1), (199, .ireturn, 1), (200, .iload 5, 2), (202, .ifCond .ne 15, 3), (205, .aload_n 3, 1), (206, .iconst 0, 1), (207, .laload, 1), (208, .iload 6, 2), (210, .i2l, 1), (211, .lcmp, 1), (212, .ifCond .eq 5, 3), (215, .iconst 0, 1), (216, .ireturn, 1), (217, .goto 997, 3), (220, .aload_n 1, 1), (221, .aload_n 0, 1), (222, .iload 4, 2), (224, .iconst 1, 1), (225, .iadd, 1), (226, .iaload, 1), (227, .aload_n 0, 1), (228, .iload 4, 2), (230, .iconst 2, 1), (231, .iadd, 1)]
theorem c_L_law_0_ok : (c_L_law_0).all (fun q => decide (decode code q.1 = .ok q.2)) = true := by decide +kernel
theorem d_L_law_0 : decode code 0 = .ok (.new 8, 3) := jx_dec c_L_law_0_ok 0 rfl
theorem d_L_law_3 : decode code 3 = .ok (.dup, 1) := jx_dec c_L_law_0_ok 1 rfl
theorem d_L_law_4 : decode code 4 = .ok (.invokespecial 71, 3) := jx_dec c_L_law_0_ok 2 rfl
theorem d_L_law_7 : decode code 7 = .ok (.astore_n 1, 1) := jx_dec c_L_law_0_ok 3 rfl
theorem d_L_law_8 : decode code 8 = .ok (.new 72, 3) := jx_dec c_L_law_0_ok 4 rfl
theorem d_L_law_11 : decode code 11 = .ok (.dup, 1) := jx_dec c_L_law_0_ok 5 rfl
theorem d_L_law_12 : decode code 12 = .ok (.invokespecial 74, 3) := jx_dec c_L_law_0_ok 6 rfl
theorem d_L_law_15 : decode code 15 = .ok (.astore_n 2, 1) := jx_dec c_L_law_0_ok 7 rfl
theorem d_L_law_16 : decode code 16 = .ok (.iconst 1, 1) := jx_dec c_L_law_0_ok 8 rfl
theorem d_L_law_17 : decode code 17 = .ok (.newarray .long, 2) := jx_dec c_L_law_0_ok 9 rfl
theorem d_L_law_19 : decode code 19 = .ok (.astore_n 3, 1) := jx_dec c_L_law_0_ok 10 rfl
theorem d_L_law_20 : decode code 20 = .ok (.iconst 0, 1) := jx_dec c_L_law_0_ok 11 rfl
theorem d_L_law_21 : decode code 21 = .ok (.istore 4, 2) := jx_dec c_L_law_0_ok 12 rfl
theorem d_L_law_23 : decode code 23 = .ok (.iload 4, 2) := jx_dec c_L_law_0_ok 13 rfl
theorem d_L_law_25 : decode code 25 = .ok (.aload_n 0, 1) := jx_dec c_L_law_0_ok 14 rfl
theorem d_L_law_26 : decode code 26 = .ok (.arraylength, 1) := jx_dec c_L_law_0_ok 15 rfl
theorem d_L_law_27 : decode code 27 = .ok (.iconst 5, 1) := jx_dec c_L_law_0_ok 16 rfl
theorem d_L_law_28 : decode code 28 = .ok (.isub, 1) := jx_dec c_L_law_0_ok 17 rfl
theorem d_L_law_29 : decode code 29 = .ok (.if_icmp .gt 1191, 3) := jx_dec c_L_law_0_ok 18 rfl
theorem d_L_law_32 : decode code 32 = .ok (.aload_n 0, 1) := jx_dec c_L_law_0_ok 19 rfl
theorem d_L_law_33 : decode code 33 = .ok (.iload 4, 2) := jx_dec c_L_law_0_ok 20 rfl
theorem d_L_law_35 : decode code 35 = .ok (.iaload, 1) := jx_dec c_L_law_0_ok 21 rfl
theorem d_L_law_36 : decode code 36 = .ok (.bipush 31, 2) := jx_dec c_L_law_0_ok 22 rfl
theorem d_L_law_38 : decode code 38 = .ok (.iand, 1) := jx_dec c_L_law_0_ok 23 rfl
theorem d_L_law_39 : decode code 39 = .ok (.tableswitch 1175 0 18 #[89, 181, 241, 309, 401, 461, 536, 604, 660, 673, 686, 742, 798, 854, 910, 946, 1014, 1082, 1150], 89) := jx_dec c_L_law_0_ok 24 rfl
theorem d_L_law_128 : decode code 128 = .ok (.aload_n 1, 1) := jx_dec c_L_law_0_ok 25 rfl
theorem d_L_law_129 : decode code 129 = .ok (.aload_n 0, 1) := jx_dec c_L_law_0_ok 26 rfl
theorem d_L_law_130 : decode code 130 = .ok (.iload 4, 2) := jx_dec c_L_law_0_ok 27 rfl
theorem d_L_law_132 : decode code 132 = .ok (.iconst 1, 1) := jx_dec c_L_law_0_ok 28 rfl
theorem d_L_law_133 : decode code 133 = .ok (.iadd, 1) := jx_dec c_L_law_0_ok 29 rfl
theorem d_L_law_134 : decode code 134 = .ok (.iaload, 1) := jx_dec c_L_law_0_ok 30 rfl
theorem d_L_law_135 : decode code 135 = .ok (.aload_n 0, 1) := jx_dec c_L_law_0_ok 31 rfl
theorem d_L_law_136 : decode code 136 = .ok (.iload 4, 2) := jx_dec c_L_law_0_ok 32 rfl
theorem d_L_law_138 : decode code 138 = .ok (.iconst 2, 1) := jx_dec c_L_law_0_ok 33 rfl
theorem d_L_law_139 : decode code 139 = .ok (.iadd, 1) := jx_dec c_L_law_0_ok 34 rfl
theorem d_L_law_140 : decode code 140 = .ok (.iaload, 1) := jx_dec c_L_law_0_ok 35 rfl
theorem d_L_law_141 : decode code 141 = .ok (.aload_n 0, 1) := jx_dec c_L_law_0_ok 36 rfl
theorem d_L_law_142 : decode code 142 = .ok (.iload 4, 2) := jx_dec c_L_law_0_ok 37 rfl
theorem d_L_law_144 : decode code 144 = .ok (.iconst 3, 1) := jx_dec c_L_law_0_ok 38 rfl
theorem d_L_law_145 : decode code 145 = .ok (.iadd, 1) := jx_dec c_L_law_0_ok 39 rfl
theorem d_L_law_146 : decode code 146 = .ok (.iaload, 1) := jx_dec c_L_law_0_ok 40 rfl
theorem d_L_law_147 : decode code 147 = .ok (.aload_n 0, 1) := jx_dec c_L_law_0_ok 41 rfl
theorem d_L_law_148 : decode code 148 = .ok (.iload 4, 2) := jx_dec c_L_law_0_ok 42 rfl
theorem d_L_law_150 : decode code 150 = .ok (.iconst 4, 1) := jx_dec c_L_law_0_ok 43 rfl
theorem d_L_law_151 : decode code 151 = .ok (.iadd, 1) := jx_dec c_L_law_0_ok 44 rfl
theorem d_L_law_152 : decode code 152 = .ok (.iaload, 1) := jx_dec c_L_law_0_ok 45 rfl
theorem d_L_law_153 : decode code 153 = .ok (.aload_n 3, 1) := jx_dec c_L_law_0_ok 46 rfl
theorem d_L_law_154 : decode code 154 = .ok (.invokestatic 75, 3) := jx_dec c_L_law_0_ok 47 rfl
theorem d_L_law_157 : decode code 157 = .ok (.istore 5, 2) := jx_dec c_L_law_0_ok 48 rfl
theorem d_L_law_159 : decode code 159 = .ok (.aload_n 2, 1) := jx_dec c_L_law_0_ok 49 rfl
theorem d_L_law_160 : decode code 160 = .ok (.aload_n 0, 1) := jx_dec c_L_law_0_ok 50 rfl
theorem d_L_law_161 : decode code 161 = .ok (.iload 4, 2) := jx_dec c_L_law_0_ok 51 rfl
theorem d_L_law_163 : decode code 163 = .ok (.iconst 1, 1) := jx_dec c_L_law_0_ok 52 rfl
theorem d_L_law_164 : decode code 164 = .ok (.iadd, 1) := jx_dec c_L_law_0_ok 53 rfl
theorem d_L_law_165 : decode code 165 = .ok (.iaload, 1) := jx_dec c_L_law_0_ok 54 rfl
theorem d_L_law_166 : decode code 166 = .ok (.aload_n 0, 1) := jx_dec c_L_law_0_ok 55 rfl
theorem d_L_law_167 : decode code 167 = .ok (.iload 4, 2) := jx_dec c_L_law_0_ok 56 rfl
theorem d_L_law_169 : decode code 169 = .ok (.iconst 2, 1) := jx_dec c_L_law_0_ok 57 rfl
theorem d_L_law_170 : decode code 170 = .ok (.iadd, 1) := jx_dec c_L_law_0_ok 58 rfl
theorem d_L_law_171 : decode code 171 = .ok (.iaload, 1) := jx_dec c_L_law_0_ok 59 rfl
theorem d_L_law_172 : decode code 172 = .ok (.aload_n 0, 1) := jx_dec c_L_law_0_ok 60 rfl
theorem d_L_law_173 : decode code 173 = .ok (.iload 4, 2) := jx_dec c_L_law_0_ok 61 rfl
theorem d_L_law_175 : decode code 175 = .ok (.iconst 3, 1) := jx_dec c_L_law_0_ok 62 rfl
theorem d_L_law_176 : decode code 176 = .ok (.iadd, 1) := jx_dec c_L_law_0_ok 63 rfl
theorem d_L_law_177 : decode code 177 = .ok (.iaload, 1) := jx_dec c_L_law_0_ok 64 rfl
theorem d_L_law_178 : decode code 178 = .ok (.aload_n 0, 1) := jx_dec c_L_law_0_ok 65 rfl
theorem d_L_law_179 : decode code 179 = .ok (.iload 4, 2) := jx_dec c_L_law_0_ok 66 rfl
theorem d_L_law_181 : decode code 181 = .ok (.iconst 4, 1) := jx_dec c_L_law_0_ok 67 rfl
theorem d_L_law_182 : decode code 182 = .ok (.iadd, 1) := jx_dec c_L_law_0_ok 68 rfl
theorem d_L_law_183 : decode code 183 = .ok (.iaload, 1) := jx_dec c_L_law_0_ok 69 rfl
theorem d_L_law_184 : decode code 184 = .ok (.invokevirtual 80, 3) := jx_dec c_L_law_0_ok 70 rfl
theorem d_L_law_187 : decode code 187 = .ok (.istore 6, 2) := jx_dec c_L_law_0_ok 71 rfl
theorem d_L_law_189 : decode code 189 = .ok (.aload_n 2, 1) := jx_dec c_L_law_0_ok 72 rfl
theorem d_L_law_190 : decode code 190 = .ok (.invokevirtual 81, 3) := jx_dec c_L_law_0_ok 73 rfl
theorem d_L_law_193 : decode code 193 = .ok (.iload 5, 2) := jx_dec c_L_law_0_ok 74 rfl
theorem d_L_law_195 : decode code 195 = .ok (.if_icmp .eq 5, 3) := jx_dec c_L_law_0_ok 75 rfl
theorem d_L_law_198 : decode code 198 = .ok (.iconst 0, 1) := jx_dec c_L_law_0_ok 76 rfl
theorem d_L_law_199 : decode code 199 = .ok (.ireturn, 1) := jx_dec c_L_law_0_ok 77 rfl
theorem d_L_law_200 : decode code 200 = .ok (.iload 5, 2) := jx_dec c_L_law_0_ok 78 rfl
theorem d_L_law_202 : decode code 202 = .ok (.ifCond .ne 15, 3) := jx_dec c_L_law_0_ok 79 rfl
theorem d_L_law_205 : decode code 205 = .ok (.aload_n 3, 1) := jx_dec c_L_law_0_ok 80 rfl
theorem d_L_law_206 : decode code 206 = .ok (.iconst 0, 1) := jx_dec c_L_law_0_ok 81 rfl
theorem d_L_law_207 : decode code 207 = .ok (.laload, 1) := jx_dec c_L_law_0_ok 82 rfl
theorem d_L_law_208 : decode code 208 = .ok (.iload 6, 2) := jx_dec c_L_law_0_ok 83 rfl
theorem d_L_law_210 : decode code 210 = .ok (.i2l, 1) := jx_dec c_L_law_0_ok 84 rfl
theorem d_L_law_211 : decode code 211 = .ok (.lcmp, 1) := jx_dec c_L_law_0_ok 85 rfl
theorem d_L_law_212 : decode code 212 = .ok (.ifCond .eq 5, 3) := jx_dec c_L_law_0_ok 86 rfl
theorem d_L_law_215 : decode code 215 = .ok (.iconst 0, 1) := jx_dec c_L_law_0_ok 87 rfl
theorem d_L_law_216 : decode code 216 = .ok (.ireturn, 1) := jx_dec c_L_law_0_ok 88 rfl
theorem d_L_law_217 : decode code 217 = .ok (.goto 997, 3) := jx_dec c_L_law_0_ok 89 rfl
theorem d_L_law_220 : decode code 220 = .ok (.aload_n 1, 1) := jx_dec c_L_law_0_ok 90 rfl
theorem d_L_law_221 : decode code 221 = .ok (.aload_n 0, 1) := jx_dec c_L_law_0_ok 91 rfl
theorem d_L_law_222 : decode code 222 = .ok (.iload 4, 2) := jx_dec c_L_law_0_ok 92 rfl
theorem d_L_law_224 : decode code 224 = .ok (.iconst 1, 1) := jx_dec c_L_law_0_ok 93 rfl
theorem d_L_law_225 : decode code 225 = .ok (.iadd, 1) := jx_dec c_L_law_0_ok 94 rfl
theorem d_L_law_226 : decode code 226 = .ok (.iaload, 1) := jx_dec c_L_law_0_ok 95 rfl
theorem d_L_law_227 : decode code 227 = .ok (.aload_n 0, 1) := jx_dec c_L_law_0_ok 96 rfl
theorem d_L_law_228 : decode code 228 = .ok (.iload 4, 2) := jx_dec c_L_law_0_ok 97 rfl
theorem d_L_law_230 : decode code 230 = .ok (.iconst 2, 1) := jx_dec c_L_law_0_ok 98 rfl
theorem d_L_law_231 : decode code 231 = .ok (.iadd, 1) := jx_dec c_L_law_0_ok 99 rfl
def c_L_law_1 : List (Nat × Instr × Nat) := [(232, .iaload, 1), (233, .aload_n 0, 1), (234, .iload 4, 2), (236, .iconst 3, 1), (237, .iadd, 1), (238, .iaload, 1), (239, .invokestatic 85, 3), (242, .istore 5, 2), (244, .aload_n 2, 1), (245, .aload_n 0, 1), (246, .iload 4, 2), (248, .iconst 1, 1), (249, .iadd, 1), (250, .iaload, 1), (251, .aload_n 0, 1), (252, .iload 4, 2), (254, .iconst 2, 1), (255, .iadd, 1), (256, .iaload, 1), (257, .aload_n 0, 1), (258, .iload 4, 2), (260, .iconst 3, 1), (261, .iadd, 1), (262, .iaload, 1), (263, .invokevirtual 88, 3), (266, .aload_n 2, 1), (267, .invokevirtual 81, 3), (270, .iload 5, 2), (272, .if_icmp .eq 5, 3), (275, .iconst 0, 1), (276, .ireturn, 1), (277, .goto 937, 3), (280, .aload_n 1, 1), (281, .aload_n 0, 1), (282, .iload 4, 2), (284, .iconst 1, 1), (285, .iadd, 1), (286, .iaload, 1), (287, .aload_n 0, 1), (288, .iload 4, 2), (290, .iconst 2, 1), (291, .iadd, 1), (292, .iaload, 1), (293, .aload_n 3, 1), (294, .invokestatic 89, 3), (297, .istore 5, 2), (299, .aload_n 2, 1), (300, .aload_n 0, 1), (301, .iload 4, 2), (303, .iconst 1, 1), (304, .iadd, 1), (305, .iaload, 1), (306, .aload_n 0, 1), (307, .iload 4, 2), (309, .iconst 2, 1), (310, .iadd, 1), (311, .iaload, 1), (312, .invokevirtual 92, 3), (315, .istore 6, 2), (317, .aload_n 2, 1), (318, .invokevirtual 81, 3), (321, .iload 5, 2), (323, .if_icmp .eq 5, 3), (326, .iconst 0, 1), (327, .ireturn, 1), (328, .iload 5, 2), (330, .ifCond .ne 15, 3), (333, .aload_n 3, 1), (334, .iconst 0, 1), (335, .laload, 1), (336, .iload 6, 2), (338, .i2l, 1), (339, .lcmp, 1), (340, .ifCond .eq 5, 3), (343, .iconst 0, 1), (344, .ireturn, 1), (345, .goto 869, 3), (348, .aload_n 1, 1), (349, .aload_n 0, 1), (350, .iload 4, 2), (352, .iconst 1, 1), (353, .iadd, 1), (354, .iaload, 1), (355, .aload_n 0, 1), (356, .iload 4, 2), (358, .iconst 2, 1), (359, .iadd, 1), (360, .iaload, 1), (361, .aload_n 0, 1), (362, .iload 4, 2), (364, .iconst 3, 1), (365, .iadd, 1), (366, .iaload, 1), (367, .aload_n 0, 1), (368, .iload 4, 2), (370, .iconst 4, 1), (371, .iadd, 1), (372, .iaload, 1), (373, .aload_n 3, 1), (374, .invokestatic 93, 3)]
theorem c_L_law_1_ok : (c_L_law_1).all (fun q => decide (decode code q.1 = .ok q.2)) = true := by decide +kernel
theorem d_L_law_232 : decode code 232 = .ok (.iaload, 1) := jx_dec c_L_law_1_ok 0 rfl
theorem d_L_law_233 : decode code 233 = .ok (.aload_n 0, 1) := jx_dec c_L_law_1_ok 1 rfl
theorem d_L_law_234 : decode code 234 = .ok (.iload 4, 2) := jx_dec c_L_law_1_ok 2 rfl
theorem d_L_law_236 : decode code 236 = .ok (.iconst 3, 1) := jx_dec c_L_law_1_ok 3 rfl
theorem d_L_law_237 : decode code 237 = .ok (.iadd, 1) := jx_dec c_L_law_1_ok 4 rfl
theorem d_L_law_238 : decode code 238 = .ok (.iaload, 1) := jx_dec c_L_law_1_ok 5 rfl
theorem d_L_law_239 : decode code 239 = .ok (.invokestatic 85, 3) := jx_dec c_L_law_1_ok 6 rfl
theorem d_L_law_242 : decode code 242 = .ok (.istore 5, 2) := jx_dec c_L_law_1_ok 7 rfl
theorem d_L_law_244 : decode code 244 = .ok (.aload_n 2, 1) := jx_dec c_L_law_1_ok 8 rfl
theorem d_L_law_245 : decode code 245 = .ok (.aload_n 0, 1) := jx_dec c_L_law_1_ok 9 rfl
theorem d_L_law_246 : decode code 246 = .ok (.iload 4, 2) := jx_dec c_L_law_1_ok 10 rfl
theorem d_L_law_248 : decode code 248 = .ok (.iconst 1, 1) := jx_dec c_L_law_1_ok 11 rfl
theorem d_L_law_249 : decode code 249 = .ok (.iadd, 1) := jx_dec c_L_law_1_ok 12 rfl
theorem d_L_law_250 : decode code 250 = .ok (.iaload, 1) := jx_dec c_L_law_1_ok 13 rfl
theorem d_L_law_251 : decode code 251 = .ok (.aload_n 0, 1) := jx_dec c_L_law_1_ok 14 rfl
theorem d_L_law_252 : decode code 252 = .ok (.iload 4, 2) := jx_dec c_L_law_1_ok 15 rfl
theorem d_L_law_254 : decode code 254 = .ok (.iconst 2, 1) := jx_dec c_L_law_1_ok 16 rfl
theorem d_L_law_255 : decode code 255 = .ok (.iadd, 1) := jx_dec c_L_law_1_ok 17 rfl
theorem d_L_law_256 : decode code 256 = .ok (.iaload, 1) := jx_dec c_L_law_1_ok 18 rfl
theorem d_L_law_257 : decode code 257 = .ok (.aload_n 0, 1) := jx_dec c_L_law_1_ok 19 rfl
theorem d_L_law_258 : decode code 258 = .ok (.iload 4, 2) := jx_dec c_L_law_1_ok 20 rfl
theorem d_L_law_260 : decode code 260 = .ok (.iconst 3, 1) := jx_dec c_L_law_1_ok 21 rfl
theorem d_L_law_261 : decode code 261 = .ok (.iadd, 1) := jx_dec c_L_law_1_ok 22 rfl
theorem d_L_law_262 : decode code 262 = .ok (.iaload, 1) := jx_dec c_L_law_1_ok 23 rfl
theorem d_L_law_263 : decode code 263 = .ok (.invokevirtual 88, 3) := jx_dec c_L_law_1_ok 24 rfl
theorem d_L_law_266 : decode code 266 = .ok (.aload_n 2, 1) := jx_dec c_L_law_1_ok 25 rfl
theorem d_L_law_267 : decode code 267 = .ok (.invokevirtual 81, 3) := jx_dec c_L_law_1_ok 26 rfl
theorem d_L_law_270 : decode code 270 = .ok (.iload 5, 2) := jx_dec c_L_law_1_ok 27 rfl
theorem d_L_law_272 : decode code 272 = .ok (.if_icmp .eq 5, 3) := jx_dec c_L_law_1_ok 28 rfl
theorem d_L_law_275 : decode code 275 = .ok (.iconst 0, 1) := jx_dec c_L_law_1_ok 29 rfl
theorem d_L_law_276 : decode code 276 = .ok (.ireturn, 1) := jx_dec c_L_law_1_ok 30 rfl
theorem d_L_law_277 : decode code 277 = .ok (.goto 937, 3) := jx_dec c_L_law_1_ok 31 rfl
theorem d_L_law_280 : decode code 280 = .ok (.aload_n 1, 1) := jx_dec c_L_law_1_ok 32 rfl
theorem d_L_law_281 : decode code 281 = .ok (.aload_n 0, 1) := jx_dec c_L_law_1_ok 33 rfl
theorem d_L_law_282 : decode code 282 = .ok (.iload 4, 2) := jx_dec c_L_law_1_ok 34 rfl
theorem d_L_law_284 : decode code 284 = .ok (.iconst 1, 1) := jx_dec c_L_law_1_ok 35 rfl
theorem d_L_law_285 : decode code 285 = .ok (.iadd, 1) := jx_dec c_L_law_1_ok 36 rfl
theorem d_L_law_286 : decode code 286 = .ok (.iaload, 1) := jx_dec c_L_law_1_ok 37 rfl
theorem d_L_law_287 : decode code 287 = .ok (.aload_n 0, 1) := jx_dec c_L_law_1_ok 38 rfl
theorem d_L_law_288 : decode code 288 = .ok (.iload 4, 2) := jx_dec c_L_law_1_ok 39 rfl
theorem d_L_law_290 : decode code 290 = .ok (.iconst 2, 1) := jx_dec c_L_law_1_ok 40 rfl
theorem d_L_law_291 : decode code 291 = .ok (.iadd, 1) := jx_dec c_L_law_1_ok 41 rfl
theorem d_L_law_292 : decode code 292 = .ok (.iaload, 1) := jx_dec c_L_law_1_ok 42 rfl
theorem d_L_law_293 : decode code 293 = .ok (.aload_n 3, 1) := jx_dec c_L_law_1_ok 43 rfl
theorem d_L_law_294 : decode code 294 = .ok (.invokestatic 89, 3) := jx_dec c_L_law_1_ok 44 rfl
theorem d_L_law_297 : decode code 297 = .ok (.istore 5, 2) := jx_dec c_L_law_1_ok 45 rfl
theorem d_L_law_299 : decode code 299 = .ok (.aload_n 2, 1) := jx_dec c_L_law_1_ok 46 rfl
theorem d_L_law_300 : decode code 300 = .ok (.aload_n 0, 1) := jx_dec c_L_law_1_ok 47 rfl
theorem d_L_law_301 : decode code 301 = .ok (.iload 4, 2) := jx_dec c_L_law_1_ok 48 rfl
theorem d_L_law_303 : decode code 303 = .ok (.iconst 1, 1) := jx_dec c_L_law_1_ok 49 rfl
theorem d_L_law_304 : decode code 304 = .ok (.iadd, 1) := jx_dec c_L_law_1_ok 50 rfl
theorem d_L_law_305 : decode code 305 = .ok (.iaload, 1) := jx_dec c_L_law_1_ok 51 rfl
theorem d_L_law_306 : decode code 306 = .ok (.aload_n 0, 1) := jx_dec c_L_law_1_ok 52 rfl
theorem d_L_law_307 : decode code 307 = .ok (.iload 4, 2) := jx_dec c_L_law_1_ok 53 rfl
theorem d_L_law_309 : decode code 309 = .ok (.iconst 2, 1) := jx_dec c_L_law_1_ok 54 rfl
theorem d_L_law_310 : decode code 310 = .ok (.iadd, 1) := jx_dec c_L_law_1_ok 55 rfl
theorem d_L_law_311 : decode code 311 = .ok (.iaload, 1) := jx_dec c_L_law_1_ok 56 rfl
theorem d_L_law_312 : decode code 312 = .ok (.invokevirtual 92, 3) := jx_dec c_L_law_1_ok 57 rfl
theorem d_L_law_315 : decode code 315 = .ok (.istore 6, 2) := jx_dec c_L_law_1_ok 58 rfl
theorem d_L_law_317 : decode code 317 = .ok (.aload_n 2, 1) := jx_dec c_L_law_1_ok 59 rfl
theorem d_L_law_318 : decode code 318 = .ok (.invokevirtual 81, 3) := jx_dec c_L_law_1_ok 60 rfl
theorem d_L_law_321 : decode code 321 = .ok (.iload 5, 2) := jx_dec c_L_law_1_ok 61 rfl
theorem d_L_law_323 : decode code 323 = .ok (.if_icmp .eq 5, 3) := jx_dec c_L_law_1_ok 62 rfl
theorem d_L_law_326 : decode code 326 = .ok (.iconst 0, 1) := jx_dec c_L_law_1_ok 63 rfl
theorem d_L_law_327 : decode code 327 = .ok (.ireturn, 1) := jx_dec c_L_law_1_ok 64 rfl
theorem d_L_law_328 : decode code 328 = .ok (.iload 5, 2) := jx_dec c_L_law_1_ok 65 rfl
theorem d_L_law_330 : decode code 330 = .ok (.ifCond .ne 15, 3) := jx_dec c_L_law_1_ok 66 rfl
theorem d_L_law_333 : decode code 333 = .ok (.aload_n 3, 1) := jx_dec c_L_law_1_ok 67 rfl
theorem d_L_law_334 : decode code 334 = .ok (.iconst 0, 1) := jx_dec c_L_law_1_ok 68 rfl
theorem d_L_law_335 : decode code 335 = .ok (.laload, 1) := jx_dec c_L_law_1_ok 69 rfl
theorem d_L_law_336 : decode code 336 = .ok (.iload 6, 2) := jx_dec c_L_law_1_ok 70 rfl
theorem d_L_law_338 : decode code 338 = .ok (.i2l, 1) := jx_dec c_L_law_1_ok 71 rfl
theorem d_L_law_339 : decode code 339 = .ok (.lcmp, 1) := jx_dec c_L_law_1_ok 72 rfl
theorem d_L_law_340 : decode code 340 = .ok (.ifCond .eq 5, 3) := jx_dec c_L_law_1_ok 73 rfl
theorem d_L_law_343 : decode code 343 = .ok (.iconst 0, 1) := jx_dec c_L_law_1_ok 74 rfl
theorem d_L_law_344 : decode code 344 = .ok (.ireturn, 1) := jx_dec c_L_law_1_ok 75 rfl
theorem d_L_law_345 : decode code 345 = .ok (.goto 869, 3) := jx_dec c_L_law_1_ok 76 rfl
theorem d_L_law_348 : decode code 348 = .ok (.aload_n 1, 1) := jx_dec c_L_law_1_ok 77 rfl
theorem d_L_law_349 : decode code 349 = .ok (.aload_n 0, 1) := jx_dec c_L_law_1_ok 78 rfl
theorem d_L_law_350 : decode code 350 = .ok (.iload 4, 2) := jx_dec c_L_law_1_ok 79 rfl
theorem d_L_law_352 : decode code 352 = .ok (.iconst 1, 1) := jx_dec c_L_law_1_ok 80 rfl
theorem d_L_law_353 : decode code 353 = .ok (.iadd, 1) := jx_dec c_L_law_1_ok 81 rfl
theorem d_L_law_354 : decode code 354 = .ok (.iaload, 1) := jx_dec c_L_law_1_ok 82 rfl
theorem d_L_law_355 : decode code 355 = .ok (.aload_n 0, 1) := jx_dec c_L_law_1_ok 83 rfl
theorem d_L_law_356 : decode code 356 = .ok (.iload 4, 2) := jx_dec c_L_law_1_ok 84 rfl
theorem d_L_law_358 : decode code 358 = .ok (.iconst 2, 1) := jx_dec c_L_law_1_ok 85 rfl
theorem d_L_law_359 : decode code 359 = .ok (.iadd, 1) := jx_dec c_L_law_1_ok 86 rfl
theorem d_L_law_360 : decode code 360 = .ok (.iaload, 1) := jx_dec c_L_law_1_ok 87 rfl
theorem d_L_law_361 : decode code 361 = .ok (.aload_n 0, 1) := jx_dec c_L_law_1_ok 88 rfl
theorem d_L_law_362 : decode code 362 = .ok (.iload 4, 2) := jx_dec c_L_law_1_ok 89 rfl
theorem d_L_law_364 : decode code 364 = .ok (.iconst 3, 1) := jx_dec c_L_law_1_ok 90 rfl
theorem d_L_law_365 : decode code 365 = .ok (.iadd, 1) := jx_dec c_L_law_1_ok 91 rfl
theorem d_L_law_366 : decode code 366 = .ok (.iaload, 1) := jx_dec c_L_law_1_ok 92 rfl
theorem d_L_law_367 : decode code 367 = .ok (.aload_n 0, 1) := jx_dec c_L_law_1_ok 93 rfl
theorem d_L_law_368 : decode code 368 = .ok (.iload 4, 2) := jx_dec c_L_law_1_ok 94 rfl
theorem d_L_law_370 : decode code 370 = .ok (.iconst 4, 1) := jx_dec c_L_law_1_ok 95 rfl
theorem d_L_law_371 : decode code 371 = .ok (.iadd, 1) := jx_dec c_L_law_1_ok 96 rfl
theorem d_L_law_372 : decode code 372 = .ok (.iaload, 1) := jx_dec c_L_law_1_ok 97 rfl
theorem d_L_law_373 : decode code 373 = .ok (.aload_n 3, 1) := jx_dec c_L_law_1_ok 98 rfl
theorem d_L_law_374 : decode code 374 = .ok (.invokestatic 93, 3) := jx_dec c_L_law_1_ok 99 rfl
def c_L_law_2 : List (Nat × Instr × Nat) := [(377, .istore 5, 2), (379, .aload_n 2, 1), (380, .aload_n 0, 1), (381, .iload 4, 2), (383, .iconst 1, 1), (384, .iadd, 1), (385, .iaload, 1), (386, .aload_n 0, 1), (387, .iload 4, 2), (389, .iconst 2, 1), (390, .iadd, 1), (391, .iaload, 1), (392, .aload_n 0, 1), (393, .iload 4, 2), (395, .iconst 3, 1), (396, .iadd, 1), (397, .iaload, 1), (398, .aload_n 0, 1), (399, .iload 4, 2), (401, .iconst 4, 1), (402, .iadd, 1), (403, .iaload, 1), (404, .invokevirtual 95, 3), (407, .istore 6, 2), (409, .aload_n 2, 1), (410, .invokevirtual 81, 3), (413, .iload 5, 2), (415, .if_icmp .eq 5, 3), (418, .iconst 0, 1), (419, .ireturn, 1), (420, .iload 5, 2), (422, .ifCond .ne 15, 3), (425, .aload_n 3, 1), (426, .iconst 0, 1), (427, .laload, 1), (428, .iload 6, 2), (430, .i2l, 1), (431, .lcmp, 1), (432, .ifCond .eq 5, 3), (435, .iconst 0, 1), (436, .ireturn, 1), (437, .goto 777, 3), (440, .aload_n 1, 1), (441, .aload_n 0, 1), (442, .iload 4, 2), (444, .iconst 1, 1), (445, .iadd, 1), (446, .iaload, 1), (447, .aload_n 0, 1), (448, .iload 4, 2), (450, .iconst 2, 1), (451, .iadd, 1), (452, .iaload, 1), (453, .aload_n 0, 1), (454, .iload 4, 2), (456, .iconst 3, 1), (457, .iadd, 1), (458, .iaload, 1), (459, .invokestatic 96, 3), (462, .istore 5, 2), (464, .aload_n 2, 1), (465, .aload_n 0, 1), (466, .iload 4, 2), (468, .iconst 1, 1), (469, .iadd, 1), (470, .iaload, 1), (471, .aload_n 0, 1), (472, .iload 4, 2), (474, .iconst 2, 1), (475, .iadd, 1), (476, .iaload, 1), (477, .aload_n 0, 1), (478, .iload 4, 2), (480, .iconst 3, 1), (481, .iadd, 1), (482, .iaload, 1), (483, .invokevirtual 98, 3), (486, .aload_n 2, 1), (487, .invokevirtual 81, 3), (490, .iload 5, 2), (492, .if_icmp .eq 5, 3), (495, .iconst 0, 1), (496, .ireturn, 1), (497, .goto 717, 3), (500, .aload_n 1, 1), (501, .aload_n 0, 1), (502, .iload 4, 2), (504, .iconst 1, 1), (505, .iadd, 1), (506, .iaload, 1), (507, .aload_n 0, 1), (508, .iload 4, 2), (510, .iconst 2, 1), (511, .iadd, 1), (512, .iaload, 1), (513, .aload_n 3, 1), (514, .invokestatic 99, 3), (517, .istore 5, 2), (519, .aload_n 2, 1), (520, .aload_n 0, 1)]
theorem c_L_law_2_ok : (c_L_law_2).all (fun q => decide (decode code q.1 = .ok q.2)) = true := by decide +kernel
theorem d_L_law_377 : decode code 377 = .ok (.istore 5, 2) := jx_dec c_L_law_2_ok 0 rfl
theorem d_L_law_379 : decode code 379 = .ok (.aload_n 2, 1) := jx_dec c_L_law_2_ok 1 rfl
theorem d_L_law_380 : decode code 380 = .ok (.aload_n 0, 1) := jx_dec c_L_law_2_ok 2 rfl
theorem d_L_law_381 : decode code 381 = .ok (.iload 4, 2) := jx_dec c_L_law_2_ok 3 rfl
theorem d_L_law_383 : decode code 383 = .ok (.iconst 1, 1) := jx_dec c_L_law_2_ok 4 rfl
theorem d_L_law_384 : decode code 384 = .ok (.iadd, 1) := jx_dec c_L_law_2_ok 5 rfl
theorem d_L_law_385 : decode code 385 = .ok (.iaload, 1) := jx_dec c_L_law_2_ok 6 rfl
theorem d_L_law_386 : decode code 386 = .ok (.aload_n 0, 1) := jx_dec c_L_law_2_ok 7 rfl
theorem d_L_law_387 : decode code 387 = .ok (.iload 4, 2) := jx_dec c_L_law_2_ok 8 rfl
theorem d_L_law_389 : decode code 389 = .ok (.iconst 2, 1) := jx_dec c_L_law_2_ok 9 rfl
theorem d_L_law_390 : decode code 390 = .ok (.iadd, 1) := jx_dec c_L_law_2_ok 10 rfl
theorem d_L_law_391 : decode code 391 = .ok (.iaload, 1) := jx_dec c_L_law_2_ok 11 rfl
theorem d_L_law_392 : decode code 392 = .ok (.aload_n 0, 1) := jx_dec c_L_law_2_ok 12 rfl
theorem d_L_law_393 : decode code 393 = .ok (.iload 4, 2) := jx_dec c_L_law_2_ok 13 rfl
theorem d_L_law_395 : decode code 395 = .ok (.iconst 3, 1) := jx_dec c_L_law_2_ok 14 rfl
theorem d_L_law_396 : decode code 396 = .ok (.iadd, 1) := jx_dec c_L_law_2_ok 15 rfl
theorem d_L_law_397 : decode code 397 = .ok (.iaload, 1) := jx_dec c_L_law_2_ok 16 rfl
theorem d_L_law_398 : decode code 398 = .ok (.aload_n 0, 1) := jx_dec c_L_law_2_ok 17 rfl
theorem d_L_law_399 : decode code 399 = .ok (.iload 4, 2) := jx_dec c_L_law_2_ok 18 rfl
theorem d_L_law_401 : decode code 401 = .ok (.iconst 4, 1) := jx_dec c_L_law_2_ok 19 rfl
theorem d_L_law_402 : decode code 402 = .ok (.iadd, 1) := jx_dec c_L_law_2_ok 20 rfl
theorem d_L_law_403 : decode code 403 = .ok (.iaload, 1) := jx_dec c_L_law_2_ok 21 rfl
theorem d_L_law_404 : decode code 404 = .ok (.invokevirtual 95, 3) := jx_dec c_L_law_2_ok 22 rfl
theorem d_L_law_407 : decode code 407 = .ok (.istore 6, 2) := jx_dec c_L_law_2_ok 23 rfl
theorem d_L_law_409 : decode code 409 = .ok (.aload_n 2, 1) := jx_dec c_L_law_2_ok 24 rfl
theorem d_L_law_410 : decode code 410 = .ok (.invokevirtual 81, 3) := jx_dec c_L_law_2_ok 25 rfl
theorem d_L_law_413 : decode code 413 = .ok (.iload 5, 2) := jx_dec c_L_law_2_ok 26 rfl
theorem d_L_law_415 : decode code 415 = .ok (.if_icmp .eq 5, 3) := jx_dec c_L_law_2_ok 27 rfl
theorem d_L_law_418 : decode code 418 = .ok (.iconst 0, 1) := jx_dec c_L_law_2_ok 28 rfl
theorem d_L_law_419 : decode code 419 = .ok (.ireturn, 1) := jx_dec c_L_law_2_ok 29 rfl
theorem d_L_law_420 : decode code 420 = .ok (.iload 5, 2) := jx_dec c_L_law_2_ok 30 rfl
theorem d_L_law_422 : decode code 422 = .ok (.ifCond .ne 15, 3) := jx_dec c_L_law_2_ok 31 rfl
theorem d_L_law_425 : decode code 425 = .ok (.aload_n 3, 1) := jx_dec c_L_law_2_ok 32 rfl
theorem d_L_law_426 : decode code 426 = .ok (.iconst 0, 1) := jx_dec c_L_law_2_ok 33 rfl
theorem d_L_law_427 : decode code 427 = .ok (.laload, 1) := jx_dec c_L_law_2_ok 34 rfl
theorem d_L_law_428 : decode code 428 = .ok (.iload 6, 2) := jx_dec c_L_law_2_ok 35 rfl
theorem d_L_law_430 : decode code 430 = .ok (.i2l, 1) := jx_dec c_L_law_2_ok 36 rfl
theorem d_L_law_431 : decode code 431 = .ok (.lcmp, 1) := jx_dec c_L_law_2_ok 37 rfl
theorem d_L_law_432 : decode code 432 = .ok (.ifCond .eq 5, 3) := jx_dec c_L_law_2_ok 38 rfl
theorem d_L_law_435 : decode code 435 = .ok (.iconst 0, 1) := jx_dec c_L_law_2_ok 39 rfl
theorem d_L_law_436 : decode code 436 = .ok (.ireturn, 1) := jx_dec c_L_law_2_ok 40 rfl
theorem d_L_law_437 : decode code 437 = .ok (.goto 777, 3) := jx_dec c_L_law_2_ok 41 rfl
theorem d_L_law_440 : decode code 440 = .ok (.aload_n 1, 1) := jx_dec c_L_law_2_ok 42 rfl
theorem d_L_law_441 : decode code 441 = .ok (.aload_n 0, 1) := jx_dec c_L_law_2_ok 43 rfl
theorem d_L_law_442 : decode code 442 = .ok (.iload 4, 2) := jx_dec c_L_law_2_ok 44 rfl
theorem d_L_law_444 : decode code 444 = .ok (.iconst 1, 1) := jx_dec c_L_law_2_ok 45 rfl
theorem d_L_law_445 : decode code 445 = .ok (.iadd, 1) := jx_dec c_L_law_2_ok 46 rfl
theorem d_L_law_446 : decode code 446 = .ok (.iaload, 1) := jx_dec c_L_law_2_ok 47 rfl
theorem d_L_law_447 : decode code 447 = .ok (.aload_n 0, 1) := jx_dec c_L_law_2_ok 48 rfl
theorem d_L_law_448 : decode code 448 = .ok (.iload 4, 2) := jx_dec c_L_law_2_ok 49 rfl
theorem d_L_law_450 : decode code 450 = .ok (.iconst 2, 1) := jx_dec c_L_law_2_ok 50 rfl
theorem d_L_law_451 : decode code 451 = .ok (.iadd, 1) := jx_dec c_L_law_2_ok 51 rfl
theorem d_L_law_452 : decode code 452 = .ok (.iaload, 1) := jx_dec c_L_law_2_ok 52 rfl
theorem d_L_law_453 : decode code 453 = .ok (.aload_n 0, 1) := jx_dec c_L_law_2_ok 53 rfl
theorem d_L_law_454 : decode code 454 = .ok (.iload 4, 2) := jx_dec c_L_law_2_ok 54 rfl
theorem d_L_law_456 : decode code 456 = .ok (.iconst 3, 1) := jx_dec c_L_law_2_ok 55 rfl
theorem d_L_law_457 : decode code 457 = .ok (.iadd, 1) := jx_dec c_L_law_2_ok 56 rfl
theorem d_L_law_458 : decode code 458 = .ok (.iaload, 1) := jx_dec c_L_law_2_ok 57 rfl
theorem d_L_law_459 : decode code 459 = .ok (.invokestatic 96, 3) := jx_dec c_L_law_2_ok 58 rfl
theorem d_L_law_462 : decode code 462 = .ok (.istore 5, 2) := jx_dec c_L_law_2_ok 59 rfl
theorem d_L_law_464 : decode code 464 = .ok (.aload_n 2, 1) := jx_dec c_L_law_2_ok 60 rfl
theorem d_L_law_465 : decode code 465 = .ok (.aload_n 0, 1) := jx_dec c_L_law_2_ok 61 rfl
theorem d_L_law_466 : decode code 466 = .ok (.iload 4, 2) := jx_dec c_L_law_2_ok 62 rfl
theorem d_L_law_468 : decode code 468 = .ok (.iconst 1, 1) := jx_dec c_L_law_2_ok 63 rfl
theorem d_L_law_469 : decode code 469 = .ok (.iadd, 1) := jx_dec c_L_law_2_ok 64 rfl
theorem d_L_law_470 : decode code 470 = .ok (.iaload, 1) := jx_dec c_L_law_2_ok 65 rfl
theorem d_L_law_471 : decode code 471 = .ok (.aload_n 0, 1) := jx_dec c_L_law_2_ok 66 rfl
theorem d_L_law_472 : decode code 472 = .ok (.iload 4, 2) := jx_dec c_L_law_2_ok 67 rfl
theorem d_L_law_474 : decode code 474 = .ok (.iconst 2, 1) := jx_dec c_L_law_2_ok 68 rfl
theorem d_L_law_475 : decode code 475 = .ok (.iadd, 1) := jx_dec c_L_law_2_ok 69 rfl
theorem d_L_law_476 : decode code 476 = .ok (.iaload, 1) := jx_dec c_L_law_2_ok 70 rfl
theorem d_L_law_477 : decode code 477 = .ok (.aload_n 0, 1) := jx_dec c_L_law_2_ok 71 rfl
theorem d_L_law_478 : decode code 478 = .ok (.iload 4, 2) := jx_dec c_L_law_2_ok 72 rfl
theorem d_L_law_480 : decode code 480 = .ok (.iconst 3, 1) := jx_dec c_L_law_2_ok 73 rfl
theorem d_L_law_481 : decode code 481 = .ok (.iadd, 1) := jx_dec c_L_law_2_ok 74 rfl
theorem d_L_law_482 : decode code 482 = .ok (.iaload, 1) := jx_dec c_L_law_2_ok 75 rfl
theorem d_L_law_483 : decode code 483 = .ok (.invokevirtual 98, 3) := jx_dec c_L_law_2_ok 76 rfl
theorem d_L_law_486 : decode code 486 = .ok (.aload_n 2, 1) := jx_dec c_L_law_2_ok 77 rfl
theorem d_L_law_487 : decode code 487 = .ok (.invokevirtual 81, 3) := jx_dec c_L_law_2_ok 78 rfl
theorem d_L_law_490 : decode code 490 = .ok (.iload 5, 2) := jx_dec c_L_law_2_ok 79 rfl
theorem d_L_law_492 : decode code 492 = .ok (.if_icmp .eq 5, 3) := jx_dec c_L_law_2_ok 80 rfl
theorem d_L_law_495 : decode code 495 = .ok (.iconst 0, 1) := jx_dec c_L_law_2_ok 81 rfl
theorem d_L_law_496 : decode code 496 = .ok (.ireturn, 1) := jx_dec c_L_law_2_ok 82 rfl
theorem d_L_law_497 : decode code 497 = .ok (.goto 717, 3) := jx_dec c_L_law_2_ok 83 rfl
theorem d_L_law_500 : decode code 500 = .ok (.aload_n 1, 1) := jx_dec c_L_law_2_ok 84 rfl
theorem d_L_law_501 : decode code 501 = .ok (.aload_n 0, 1) := jx_dec c_L_law_2_ok 85 rfl
theorem d_L_law_502 : decode code 502 = .ok (.iload 4, 2) := jx_dec c_L_law_2_ok 86 rfl
theorem d_L_law_504 : decode code 504 = .ok (.iconst 1, 1) := jx_dec c_L_law_2_ok 87 rfl
theorem d_L_law_505 : decode code 505 = .ok (.iadd, 1) := jx_dec c_L_law_2_ok 88 rfl
theorem d_L_law_506 : decode code 506 = .ok (.iaload, 1) := jx_dec c_L_law_2_ok 89 rfl
theorem d_L_law_507 : decode code 507 = .ok (.aload_n 0, 1) := jx_dec c_L_law_2_ok 90 rfl
theorem d_L_law_508 : decode code 508 = .ok (.iload 4, 2) := jx_dec c_L_law_2_ok 91 rfl
theorem d_L_law_510 : decode code 510 = .ok (.iconst 2, 1) := jx_dec c_L_law_2_ok 92 rfl
theorem d_L_law_511 : decode code 511 = .ok (.iadd, 1) := jx_dec c_L_law_2_ok 93 rfl
theorem d_L_law_512 : decode code 512 = .ok (.iaload, 1) := jx_dec c_L_law_2_ok 94 rfl
theorem d_L_law_513 : decode code 513 = .ok (.aload_n 3, 1) := jx_dec c_L_law_2_ok 95 rfl
theorem d_L_law_514 : decode code 514 = .ok (.invokestatic 99, 3) := jx_dec c_L_law_2_ok 96 rfl
theorem d_L_law_517 : decode code 517 = .ok (.istore 5, 2) := jx_dec c_L_law_2_ok 97 rfl
theorem d_L_law_519 : decode code 519 = .ok (.aload_n 2, 1) := jx_dec c_L_law_2_ok 98 rfl
theorem d_L_law_520 : decode code 520 = .ok (.aload_n 0, 1) := jx_dec c_L_law_2_ok 99 rfl
def c_L_law_3 : List (Nat × Instr × Nat) := [(521, .iload 4, 2), (523, .iconst 1, 1), (524, .iadd, 1), (525, .iaload, 1), (526, .aload_n 0, 1), (527, .iload 4, 2), (529, .iconst 2, 1), (530, .iadd, 1), (531, .iaload, 1), (532, .invokevirtual 101, 3), (535, .istore 6, 2), (537, .aload_n 2, 1), (538, .invokevirtual 81, 3), (541, .iload 5, 2), (543, .if_icmp .eq 5, 3), (546, .iconst 0, 1), (547, .ireturn, 1), (548, .iload 5, 2), (550, .ifCond .ne 22, 3), (553, .aload_n 3, 1), (554, .iconst 0, 1), (555, .laload, 1), (556, .iload 6, 2), (558, .ifCond .eq 7, 3), (561, .lconst 1, 1), (562, .goto 4, 3), (565, .lconst 0, 1), (566, .lcmp, 1), (567, .ifCond .eq 5, 3), (570, .iconst 0, 1), (571, .ireturn, 1), (572, .goto 642, 3), (575, .aload_n 1, 1), (576, .aload_n 0, 1), (577, .iload 4, 2), (579, .iconst 1, 1), (580, .iadd, 1), (581, .iaload, 1), (582, .aload_n 0, 1), (583, .iload 4, 2), (585, .iconst 2, 1), (586, .iadd, 1), (587, .iaload, 1), (588, .aload_n 3, 1), (589, .invokestatic 102, 3), (592, .istore 5, 2), (594, .aload_n 2, 1), (595, .aload_n 0, 1), (596, .iload 4, 2), (598, .iconst 1, 1), (599, .iadd, 1), (600, .iaload, 1), (601, .aload_n 0, 1), (602, .iload 4, 2), (604, .iconst 2, 1), (605, .iadd, 1), (606, .iaload, 1), (607, .invokevirtual 104, 3), (610, .istore 6, 2), (612, .aload_n 2, 1), (613, .invokevirtual 81, 3), (616, .iload 5, 2), (618, .if_icmp .eq 5, 3), (621, .iconst 0, 1), (622, .ireturn, 1), (623, .iload 5, 2), (625, .ifCond .ne 15, 3), (628, .aload_n 3, 1), (629, .iconst 0, 1), (630, .laload, 1), (631, .iload 6, 2), (633, .i2l, 1), (634, .lcmp, 1), (635, .ifCond .eq 5, 3), (638, .iconst 0, 1), (639, .ireturn, 1), (640, .goto 574, 3), (643, .aload_n 1, 1), (644, .aload_n 0, 1), (645, .iload 4, 2), (647, .iconst 1, 1), (648, .iadd, 1), (649, .iaload, 1), (650, .aload_n 3, 1), (651, .invokestatic 105, 3), (654, .istore 5, 2), (656, .aload_n 2, 1), (657, .aload_n 0, 1), (658, .iload 4, 2), (660, .iconst 1, 1), (661, .iadd, 1), (662, .iaload, 1), (663, .invokevirtual 108, 3), (666, .istore 6, 2), (668, .aload_n 2, 1), (669, .invokevirtual 81, 3), (672, .iload 5, 2), (674, .if_icmp .eq 5, 3), (677, .iconst 0, 1), (678, .ireturn, 1)]
theorem c_L_law_3_ok : (c_L_law_3).all (fun q => decide (decode code q.1 = .ok q.2)) = true := by decide +kernel
theorem d_L_law_521 : decode code 521 = .ok (.iload 4, 2) := jx_dec c_L_law_3_ok 0 rfl
theorem d_L_law_523 : decode code 523 = .ok (.iconst 1, 1) := jx_dec c_L_law_3_ok 1 rfl
theorem d_L_law_524 : decode code 524 = .ok (.iadd, 1) := jx_dec c_L_law_3_ok 2 rfl
theorem d_L_law_525 : decode code 525 = .ok (.iaload, 1) := jx_dec c_L_law_3_ok 3 rfl
theorem d_L_law_526 : decode code 526 = .ok (.aload_n 0, 1) := jx_dec c_L_law_3_ok 4 rfl
theorem d_L_law_527 : decode code 527 = .ok (.iload 4, 2) := jx_dec c_L_law_3_ok 5 rfl
theorem d_L_law_529 : decode code 529 = .ok (.iconst 2, 1) := jx_dec c_L_law_3_ok 6 rfl
theorem d_L_law_530 : decode code 530 = .ok (.iadd, 1) := jx_dec c_L_law_3_ok 7 rfl
theorem d_L_law_531 : decode code 531 = .ok (.iaload, 1) := jx_dec c_L_law_3_ok 8 rfl
theorem d_L_law_532 : decode code 532 = .ok (.invokevirtual 101, 3) := jx_dec c_L_law_3_ok 9 rfl
theorem d_L_law_535 : decode code 535 = .ok (.istore 6, 2) := jx_dec c_L_law_3_ok 10 rfl
theorem d_L_law_537 : decode code 537 = .ok (.aload_n 2, 1) := jx_dec c_L_law_3_ok 11 rfl
theorem d_L_law_538 : decode code 538 = .ok (.invokevirtual 81, 3) := jx_dec c_L_law_3_ok 12 rfl
theorem d_L_law_541 : decode code 541 = .ok (.iload 5, 2) := jx_dec c_L_law_3_ok 13 rfl
theorem d_L_law_543 : decode code 543 = .ok (.if_icmp .eq 5, 3) := jx_dec c_L_law_3_ok 14 rfl
theorem d_L_law_546 : decode code 546 = .ok (.iconst 0, 1) := jx_dec c_L_law_3_ok 15 rfl
theorem d_L_law_547 : decode code 547 = .ok (.ireturn, 1) := jx_dec c_L_law_3_ok 16 rfl
theorem d_L_law_548 : decode code 548 = .ok (.iload 5, 2) := jx_dec c_L_law_3_ok 17 rfl
theorem d_L_law_550 : decode code 550 = .ok (.ifCond .ne 22, 3) := jx_dec c_L_law_3_ok 18 rfl
theorem d_L_law_553 : decode code 553 = .ok (.aload_n 3, 1) := jx_dec c_L_law_3_ok 19 rfl
theorem d_L_law_554 : decode code 554 = .ok (.iconst 0, 1) := jx_dec c_L_law_3_ok 20 rfl
theorem d_L_law_555 : decode code 555 = .ok (.laload, 1) := jx_dec c_L_law_3_ok 21 rfl
theorem d_L_law_556 : decode code 556 = .ok (.iload 6, 2) := jx_dec c_L_law_3_ok 22 rfl
theorem d_L_law_558 : decode code 558 = .ok (.ifCond .eq 7, 3) := jx_dec c_L_law_3_ok 23 rfl
theorem d_L_law_561 : decode code 561 = .ok (.lconst 1, 1) := jx_dec c_L_law_3_ok 24 rfl
theorem d_L_law_562 : decode code 562 = .ok (.goto 4, 3) := jx_dec c_L_law_3_ok 25 rfl
theorem d_L_law_565 : decode code 565 = .ok (.lconst 0, 1) := jx_dec c_L_law_3_ok 26 rfl
theorem d_L_law_566 : decode code 566 = .ok (.lcmp, 1) := jx_dec c_L_law_3_ok 27 rfl
theorem d_L_law_567 : decode code 567 = .ok (.ifCond .eq 5, 3) := jx_dec c_L_law_3_ok 28 rfl
theorem d_L_law_570 : decode code 570 = .ok (.iconst 0, 1) := jx_dec c_L_law_3_ok 29 rfl
theorem d_L_law_571 : decode code 571 = .ok (.ireturn, 1) := jx_dec c_L_law_3_ok 30 rfl
theorem d_L_law_572 : decode code 572 = .ok (.goto 642, 3) := jx_dec c_L_law_3_ok 31 rfl
theorem d_L_law_575 : decode code 575 = .ok (.aload_n 1, 1) := jx_dec c_L_law_3_ok 32 rfl
theorem d_L_law_576 : decode code 576 = .ok (.aload_n 0, 1) := jx_dec c_L_law_3_ok 33 rfl
theorem d_L_law_577 : decode code 577 = .ok (.iload 4, 2) := jx_dec c_L_law_3_ok 34 rfl
theorem d_L_law_579 : decode code 579 = .ok (.iconst 1, 1) := jx_dec c_L_law_3_ok 35 rfl
theorem d_L_law_580 : decode code 580 = .ok (.iadd, 1) := jx_dec c_L_law_3_ok 36 rfl
theorem d_L_law_581 : decode code 581 = .ok (.iaload, 1) := jx_dec c_L_law_3_ok 37 rfl
theorem d_L_law_582 : decode code 582 = .ok (.aload_n 0, 1) := jx_dec c_L_law_3_ok 38 rfl
theorem d_L_law_583 : decode code 583 = .ok (.iload 4, 2) := jx_dec c_L_law_3_ok 39 rfl
theorem d_L_law_585 : decode code 585 = .ok (.iconst 2, 1) := jx_dec c_L_law_3_ok 40 rfl
theorem d_L_law_586 : decode code 586 = .ok (.iadd, 1) := jx_dec c_L_law_3_ok 41 rfl
theorem d_L_law_587 : decode code 587 = .ok (.iaload, 1) := jx_dec c_L_law_3_ok 42 rfl
theorem d_L_law_588 : decode code 588 = .ok (.aload_n 3, 1) := jx_dec c_L_law_3_ok 43 rfl
theorem d_L_law_589 : decode code 589 = .ok (.invokestatic 102, 3) := jx_dec c_L_law_3_ok 44 rfl
theorem d_L_law_592 : decode code 592 = .ok (.istore 5, 2) := jx_dec c_L_law_3_ok 45 rfl
theorem d_L_law_594 : decode code 594 = .ok (.aload_n 2, 1) := jx_dec c_L_law_3_ok 46 rfl
theorem d_L_law_595 : decode code 595 = .ok (.aload_n 0, 1) := jx_dec c_L_law_3_ok 47 rfl
theorem d_L_law_596 : decode code 596 = .ok (.iload 4, 2) := jx_dec c_L_law_3_ok 48 rfl
theorem d_L_law_598 : decode code 598 = .ok (.iconst 1, 1) := jx_dec c_L_law_3_ok 49 rfl
theorem d_L_law_599 : decode code 599 = .ok (.iadd, 1) := jx_dec c_L_law_3_ok 50 rfl
theorem d_L_law_600 : decode code 600 = .ok (.iaload, 1) := jx_dec c_L_law_3_ok 51 rfl
theorem d_L_law_601 : decode code 601 = .ok (.aload_n 0, 1) := jx_dec c_L_law_3_ok 52 rfl
theorem d_L_law_602 : decode code 602 = .ok (.iload 4, 2) := jx_dec c_L_law_3_ok 53 rfl
theorem d_L_law_604 : decode code 604 = .ok (.iconst 2, 1) := jx_dec c_L_law_3_ok 54 rfl
theorem d_L_law_605 : decode code 605 = .ok (.iadd, 1) := jx_dec c_L_law_3_ok 55 rfl
theorem d_L_law_606 : decode code 606 = .ok (.iaload, 1) := jx_dec c_L_law_3_ok 56 rfl
theorem d_L_law_607 : decode code 607 = .ok (.invokevirtual 104, 3) := jx_dec c_L_law_3_ok 57 rfl
theorem d_L_law_610 : decode code 610 = .ok (.istore 6, 2) := jx_dec c_L_law_3_ok 58 rfl
theorem d_L_law_612 : decode code 612 = .ok (.aload_n 2, 1) := jx_dec c_L_law_3_ok 59 rfl
theorem d_L_law_613 : decode code 613 = .ok (.invokevirtual 81, 3) := jx_dec c_L_law_3_ok 60 rfl
theorem d_L_law_616 : decode code 616 = .ok (.iload 5, 2) := jx_dec c_L_law_3_ok 61 rfl
theorem d_L_law_618 : decode code 618 = .ok (.if_icmp .eq 5, 3) := jx_dec c_L_law_3_ok 62 rfl
theorem d_L_law_621 : decode code 621 = .ok (.iconst 0, 1) := jx_dec c_L_law_3_ok 63 rfl
theorem d_L_law_622 : decode code 622 = .ok (.ireturn, 1) := jx_dec c_L_law_3_ok 64 rfl
theorem d_L_law_623 : decode code 623 = .ok (.iload 5, 2) := jx_dec c_L_law_3_ok 65 rfl
theorem d_L_law_625 : decode code 625 = .ok (.ifCond .ne 15, 3) := jx_dec c_L_law_3_ok 66 rfl
theorem d_L_law_628 : decode code 628 = .ok (.aload_n 3, 1) := jx_dec c_L_law_3_ok 67 rfl
theorem d_L_law_629 : decode code 629 = .ok (.iconst 0, 1) := jx_dec c_L_law_3_ok 68 rfl
theorem d_L_law_630 : decode code 630 = .ok (.laload, 1) := jx_dec c_L_law_3_ok 69 rfl
theorem d_L_law_631 : decode code 631 = .ok (.iload 6, 2) := jx_dec c_L_law_3_ok 70 rfl
theorem d_L_law_633 : decode code 633 = .ok (.i2l, 1) := jx_dec c_L_law_3_ok 71 rfl
theorem d_L_law_634 : decode code 634 = .ok (.lcmp, 1) := jx_dec c_L_law_3_ok 72 rfl
theorem d_L_law_635 : decode code 635 = .ok (.ifCond .eq 5, 3) := jx_dec c_L_law_3_ok 73 rfl
theorem d_L_law_638 : decode code 638 = .ok (.iconst 0, 1) := jx_dec c_L_law_3_ok 74 rfl
theorem d_L_law_639 : decode code 639 = .ok (.ireturn, 1) := jx_dec c_L_law_3_ok 75 rfl
theorem d_L_law_640 : decode code 640 = .ok (.goto 574, 3) := jx_dec c_L_law_3_ok 76 rfl
theorem d_L_law_643 : decode code 643 = .ok (.aload_n 1, 1) := jx_dec c_L_law_3_ok 77 rfl
theorem d_L_law_644 : decode code 644 = .ok (.aload_n 0, 1) := jx_dec c_L_law_3_ok 78 rfl
theorem d_L_law_645 : decode code 645 = .ok (.iload 4, 2) := jx_dec c_L_law_3_ok 79 rfl
theorem d_L_law_647 : decode code 647 = .ok (.iconst 1, 1) := jx_dec c_L_law_3_ok 80 rfl
theorem d_L_law_648 : decode code 648 = .ok (.iadd, 1) := jx_dec c_L_law_3_ok 81 rfl
theorem d_L_law_649 : decode code 649 = .ok (.iaload, 1) := jx_dec c_L_law_3_ok 82 rfl
theorem d_L_law_650 : decode code 650 = .ok (.aload_n 3, 1) := jx_dec c_L_law_3_ok 83 rfl
theorem d_L_law_651 : decode code 651 = .ok (.invokestatic 105, 3) := jx_dec c_L_law_3_ok 84 rfl
theorem d_L_law_654 : decode code 654 = .ok (.istore 5, 2) := jx_dec c_L_law_3_ok 85 rfl
theorem d_L_law_656 : decode code 656 = .ok (.aload_n 2, 1) := jx_dec c_L_law_3_ok 86 rfl
theorem d_L_law_657 : decode code 657 = .ok (.aload_n 0, 1) := jx_dec c_L_law_3_ok 87 rfl
theorem d_L_law_658 : decode code 658 = .ok (.iload 4, 2) := jx_dec c_L_law_3_ok 88 rfl
theorem d_L_law_660 : decode code 660 = .ok (.iconst 1, 1) := jx_dec c_L_law_3_ok 89 rfl
theorem d_L_law_661 : decode code 661 = .ok (.iadd, 1) := jx_dec c_L_law_3_ok 90 rfl
theorem d_L_law_662 : decode code 662 = .ok (.iaload, 1) := jx_dec c_L_law_3_ok 91 rfl
theorem d_L_law_663 : decode code 663 = .ok (.invokevirtual 108, 3) := jx_dec c_L_law_3_ok 92 rfl
theorem d_L_law_666 : decode code 666 = .ok (.istore 6, 2) := jx_dec c_L_law_3_ok 93 rfl
theorem d_L_law_668 : decode code 668 = .ok (.aload_n 2, 1) := jx_dec c_L_law_3_ok 94 rfl
theorem d_L_law_669 : decode code 669 = .ok (.invokevirtual 81, 3) := jx_dec c_L_law_3_ok 95 rfl
theorem d_L_law_672 : decode code 672 = .ok (.iload 5, 2) := jx_dec c_L_law_3_ok 96 rfl
theorem d_L_law_674 : decode code 674 = .ok (.if_icmp .eq 5, 3) := jx_dec c_L_law_3_ok 97 rfl
theorem d_L_law_677 : decode code 677 = .ok (.iconst 0, 1) := jx_dec c_L_law_3_ok 98 rfl
theorem d_L_law_678 : decode code 678 = .ok (.ireturn, 1) := jx_dec c_L_law_3_ok 99 rfl
def c_L_law_4 : List (Nat × Instr × Nat) := [(679, .iload 5, 2), (681, .ifCond .ne 15, 3), (684, .aload_n 3, 1), (685, .iconst 0, 1), (686, .laload, 1), (687, .iload 6, 2), (689, .i2l, 1), (690, .lcmp, 1), (691, .ifCond .eq 5, 3), (694, .iconst 0, 1), (695, .ireturn, 1), (696, .goto 518, 3), (699, .aload_n 1, 1), (700, .invokevirtual 109, 3), (703, .aload_n 2, 1), (704, .invokevirtual 113, 3), (707, .if_icmp .eq 507, 3), (710, .iconst 0, 1), (711, .ireturn, 1), (712, .aload_n 1, 1), (713, .invokevirtual 114, 3), (716, .aload_n 2, 1), (717, .invokevirtual 117, 3), (720, .if_icmp .eq 494, 3), (723, .iconst 0, 1), (724, .ireturn, 1), (725, .aload_n 1, 1), (726, .aload_n 0, 1), (727, .iload 4, 2), (729, .iconst 1, 1), (730, .iadd, 1), (731, .iaload, 1), (732, .aload_n 3, 1), (733, .invokestatic 118, 3), (736, .istore 5, 2), (738, .aload_n 2, 1), (739, .aload_n 0, 1), (740, .iload 4, 2), (742, .iconst 1, 1), (743, .iadd, 1), (744, .iaload, 1), (745, .invokevirtual 120, 3), (748, .istore 6, 2), (750, .aload_n 2, 1), (751, .invokevirtual 81, 3), (754, .iload 5, 2), (756, .if_icmp .eq 5, 3), (759, .iconst 0, 1), (760, .ireturn, 1), (761, .iload 5, 2), (763, .ifCond .ne 15, 3), (766, .aload_n 3, 1), (767, .iconst 0, 1), (768, .laload, 1), (769, .iload 6, 2), (771, .i2l, 1), (772, .lcmp, 1), (773, .ifCond .eq 5, 3), (776, .iconst 0, 1), (777, .ireturn, 1), (778, .goto 436, 3), (781, .aload_n 1, 1), (782, .aload_n 0, 1), (783, .iload 4, 2), (785, .iconst 1, 1), (786, .iadd, 1), (787, .iaload, 1), (788, .aload_n 3, 1), (789, .invokestatic 121, 3), (792, .istore 5, 2), (794, .aload_n 2, 1), (795, .aload_n 0, 1), (796, .iload 4, 2), (798, .iconst 1, 1), (799, .iadd, 1), (800, .iaload, 1), (801, .invokevirtual 123, 3), (804, .istore 6, 2), (806, .aload_n 2, 1), (807, .invokevirtual 81, 3), (810, .iload 5, 2), (812, .if_icmp .eq 5, 3), (815, .iconst 0, 1), (816, .ireturn, 1), (817, .iload 5, 2), (819, .ifCond .ne 15, 3), (822, .aload_n 3, 1), (823, .iconst 0, 1), (824, .laload, 1), (825, .iload 6, 2), (827, .i2l, 1), (828, .lcmp, 1), (829, .ifCond .eq 5, 3), (832, .iconst 0, 1), (833, .ireturn, 1), (834, .goto 380, 3), (837, .aload_n 1, 1), (838, .aload_n 0, 1), (839, .iload 4, 2), (841, .iconst 1, 1)]
theorem c_L_law_4_ok : (c_L_law_4).all (fun q => decide (decode code q.1 = .ok q.2)) = true := by decide +kernel
theorem d_L_law_679 : decode code 679 = .ok (.iload 5, 2) := jx_dec c_L_law_4_ok 0 rfl
theorem d_L_law_681 : decode code 681 = .ok (.ifCond .ne 15, 3) := jx_dec c_L_law_4_ok 1 rfl
theorem d_L_law_684 : decode code 684 = .ok (.aload_n 3, 1) := jx_dec c_L_law_4_ok 2 rfl
theorem d_L_law_685 : decode code 685 = .ok (.iconst 0, 1) := jx_dec c_L_law_4_ok 3 rfl
theorem d_L_law_686 : decode code 686 = .ok (.laload, 1) := jx_dec c_L_law_4_ok 4 rfl
theorem d_L_law_687 : decode code 687 = .ok (.iload 6, 2) := jx_dec c_L_law_4_ok 5 rfl
theorem d_L_law_689 : decode code 689 = .ok (.i2l, 1) := jx_dec c_L_law_4_ok 6 rfl
theorem d_L_law_690 : decode code 690 = .ok (.lcmp, 1) := jx_dec c_L_law_4_ok 7 rfl
theorem d_L_law_691 : decode code 691 = .ok (.ifCond .eq 5, 3) := jx_dec c_L_law_4_ok 8 rfl
theorem d_L_law_694 : decode code 694 = .ok (.iconst 0, 1) := jx_dec c_L_law_4_ok 9 rfl
theorem d_L_law_695 : decode code 695 = .ok (.ireturn, 1) := jx_dec c_L_law_4_ok 10 rfl
theorem d_L_law_696 : decode code 696 = .ok (.goto 518, 3) := jx_dec c_L_law_4_ok 11 rfl
theorem d_L_law_699 : decode code 699 = .ok (.aload_n 1, 1) := jx_dec c_L_law_4_ok 12 rfl
theorem d_L_law_700 : decode code 700 = .ok (.invokevirtual 109, 3) := jx_dec c_L_law_4_ok 13 rfl
theorem d_L_law_703 : decode code 703 = .ok (.aload_n 2, 1) := jx_dec c_L_law_4_ok 14 rfl
theorem d_L_law_704 : decode code 704 = .ok (.invokevirtual 113, 3) := jx_dec c_L_law_4_ok 15 rfl
theorem d_L_law_707 : decode code 707 = .ok (.if_icmp .eq 507, 3) := jx_dec c_L_law_4_ok 16 rfl
theorem d_L_law_710 : decode code 710 = .ok (.iconst 0, 1) := jx_dec c_L_law_4_ok 17 rfl
theorem d_L_law_711 : decode code 711 = .ok (.ireturn, 1) := jx_dec c_L_law_4_ok 18 rfl
theorem d_L_law_712 : decode code 712 = .ok (.aload_n 1, 1) := jx_dec c_L_law_4_ok 19 rfl
theorem d_L_law_713 : decode code 713 = .ok (.invokevirtual 114, 3) := jx_dec c_L_law_4_ok 20 rfl
theorem d_L_law_716 : decode code 716 = .ok (.aload_n 2, 1) := jx_dec c_L_law_4_ok 21 rfl
theorem d_L_law_717 : decode code 717 = .ok (.invokevirtual 117, 3) := jx_dec c_L_law_4_ok 22 rfl
theorem d_L_law_720 : decode code 720 = .ok (.if_icmp .eq 494, 3) := jx_dec c_L_law_4_ok 23 rfl
theorem d_L_law_723 : decode code 723 = .ok (.iconst 0, 1) := jx_dec c_L_law_4_ok 24 rfl
theorem d_L_law_724 : decode code 724 = .ok (.ireturn, 1) := jx_dec c_L_law_4_ok 25 rfl
theorem d_L_law_725 : decode code 725 = .ok (.aload_n 1, 1) := jx_dec c_L_law_4_ok 26 rfl
theorem d_L_law_726 : decode code 726 = .ok (.aload_n 0, 1) := jx_dec c_L_law_4_ok 27 rfl
theorem d_L_law_727 : decode code 727 = .ok (.iload 4, 2) := jx_dec c_L_law_4_ok 28 rfl
theorem d_L_law_729 : decode code 729 = .ok (.iconst 1, 1) := jx_dec c_L_law_4_ok 29 rfl
theorem d_L_law_730 : decode code 730 = .ok (.iadd, 1) := jx_dec c_L_law_4_ok 30 rfl
theorem d_L_law_731 : decode code 731 = .ok (.iaload, 1) := jx_dec c_L_law_4_ok 31 rfl
theorem d_L_law_732 : decode code 732 = .ok (.aload_n 3, 1) := jx_dec c_L_law_4_ok 32 rfl
theorem d_L_law_733 : decode code 733 = .ok (.invokestatic 118, 3) := jx_dec c_L_law_4_ok 33 rfl
theorem d_L_law_736 : decode code 736 = .ok (.istore 5, 2) := jx_dec c_L_law_4_ok 34 rfl
theorem d_L_law_738 : decode code 738 = .ok (.aload_n 2, 1) := jx_dec c_L_law_4_ok 35 rfl
theorem d_L_law_739 : decode code 739 = .ok (.aload_n 0, 1) := jx_dec c_L_law_4_ok 36 rfl
theorem d_L_law_740 : decode code 740 = .ok (.iload 4, 2) := jx_dec c_L_law_4_ok 37 rfl
theorem d_L_law_742 : decode code 742 = .ok (.iconst 1, 1) := jx_dec c_L_law_4_ok 38 rfl
theorem d_L_law_743 : decode code 743 = .ok (.iadd, 1) := jx_dec c_L_law_4_ok 39 rfl
theorem d_L_law_744 : decode code 744 = .ok (.iaload, 1) := jx_dec c_L_law_4_ok 40 rfl
theorem d_L_law_745 : decode code 745 = .ok (.invokevirtual 120, 3) := jx_dec c_L_law_4_ok 41 rfl
theorem d_L_law_748 : decode code 748 = .ok (.istore 6, 2) := jx_dec c_L_law_4_ok 42 rfl
theorem d_L_law_750 : decode code 750 = .ok (.aload_n 2, 1) := jx_dec c_L_law_4_ok 43 rfl
theorem d_L_law_751 : decode code 751 = .ok (.invokevirtual 81, 3) := jx_dec c_L_law_4_ok 44 rfl
theorem d_L_law_754 : decode code 754 = .ok (.iload 5, 2) := jx_dec c_L_law_4_ok 45 rfl
theorem d_L_law_756 : decode code 756 = .ok (.if_icmp .eq 5, 3) := jx_dec c_L_law_4_ok 46 rfl
theorem d_L_law_759 : decode code 759 = .ok (.iconst 0, 1) := jx_dec c_L_law_4_ok 47 rfl
theorem d_L_law_760 : decode code 760 = .ok (.ireturn, 1) := jx_dec c_L_law_4_ok 48 rfl
theorem d_L_law_761 : decode code 761 = .ok (.iload 5, 2) := jx_dec c_L_law_4_ok 49 rfl
theorem d_L_law_763 : decode code 763 = .ok (.ifCond .ne 15, 3) := jx_dec c_L_law_4_ok 50 rfl
theorem d_L_law_766 : decode code 766 = .ok (.aload_n 3, 1) := jx_dec c_L_law_4_ok 51 rfl
theorem d_L_law_767 : decode code 767 = .ok (.iconst 0, 1) := jx_dec c_L_law_4_ok 52 rfl
theorem d_L_law_768 : decode code 768 = .ok (.laload, 1) := jx_dec c_L_law_4_ok 53 rfl
theorem d_L_law_769 : decode code 769 = .ok (.iload 6, 2) := jx_dec c_L_law_4_ok 54 rfl
theorem d_L_law_771 : decode code 771 = .ok (.i2l, 1) := jx_dec c_L_law_4_ok 55 rfl
theorem d_L_law_772 : decode code 772 = .ok (.lcmp, 1) := jx_dec c_L_law_4_ok 56 rfl
theorem d_L_law_773 : decode code 773 = .ok (.ifCond .eq 5, 3) := jx_dec c_L_law_4_ok 57 rfl
theorem d_L_law_776 : decode code 776 = .ok (.iconst 0, 1) := jx_dec c_L_law_4_ok 58 rfl
theorem d_L_law_777 : decode code 777 = .ok (.ireturn, 1) := jx_dec c_L_law_4_ok 59 rfl
theorem d_L_law_778 : decode code 778 = .ok (.goto 436, 3) := jx_dec c_L_law_4_ok 60 rfl
theorem d_L_law_781 : decode code 781 = .ok (.aload_n 1, 1) := jx_dec c_L_law_4_ok 61 rfl
theorem d_L_law_782 : decode code 782 = .ok (.aload_n 0, 1) := jx_dec c_L_law_4_ok 62 rfl
theorem d_L_law_783 : decode code 783 = .ok (.iload 4, 2) := jx_dec c_L_law_4_ok 63 rfl
theorem d_L_law_785 : decode code 785 = .ok (.iconst 1, 1) := jx_dec c_L_law_4_ok 64 rfl
theorem d_L_law_786 : decode code 786 = .ok (.iadd, 1) := jx_dec c_L_law_4_ok 65 rfl
theorem d_L_law_787 : decode code 787 = .ok (.iaload, 1) := jx_dec c_L_law_4_ok 66 rfl
theorem d_L_law_788 : decode code 788 = .ok (.aload_n 3, 1) := jx_dec c_L_law_4_ok 67 rfl
theorem d_L_law_789 : decode code 789 = .ok (.invokestatic 121, 3) := jx_dec c_L_law_4_ok 68 rfl
theorem d_L_law_792 : decode code 792 = .ok (.istore 5, 2) := jx_dec c_L_law_4_ok 69 rfl
theorem d_L_law_794 : decode code 794 = .ok (.aload_n 2, 1) := jx_dec c_L_law_4_ok 70 rfl
theorem d_L_law_795 : decode code 795 = .ok (.aload_n 0, 1) := jx_dec c_L_law_4_ok 71 rfl
theorem d_L_law_796 : decode code 796 = .ok (.iload 4, 2) := jx_dec c_L_law_4_ok 72 rfl
theorem d_L_law_798 : decode code 798 = .ok (.iconst 1, 1) := jx_dec c_L_law_4_ok 73 rfl
theorem d_L_law_799 : decode code 799 = .ok (.iadd, 1) := jx_dec c_L_law_4_ok 74 rfl
theorem d_L_law_800 : decode code 800 = .ok (.iaload, 1) := jx_dec c_L_law_4_ok 75 rfl
theorem d_L_law_801 : decode code 801 = .ok (.invokevirtual 123, 3) := jx_dec c_L_law_4_ok 76 rfl
theorem d_L_law_804 : decode code 804 = .ok (.istore 6, 2) := jx_dec c_L_law_4_ok 77 rfl
theorem d_L_law_806 : decode code 806 = .ok (.aload_n 2, 1) := jx_dec c_L_law_4_ok 78 rfl
theorem d_L_law_807 : decode code 807 = .ok (.invokevirtual 81, 3) := jx_dec c_L_law_4_ok 79 rfl
theorem d_L_law_810 : decode code 810 = .ok (.iload 5, 2) := jx_dec c_L_law_4_ok 80 rfl
theorem d_L_law_812 : decode code 812 = .ok (.if_icmp .eq 5, 3) := jx_dec c_L_law_4_ok 81 rfl
theorem d_L_law_815 : decode code 815 = .ok (.iconst 0, 1) := jx_dec c_L_law_4_ok 82 rfl
theorem d_L_law_816 : decode code 816 = .ok (.ireturn, 1) := jx_dec c_L_law_4_ok 83 rfl
theorem d_L_law_817 : decode code 817 = .ok (.iload 5, 2) := jx_dec c_L_law_4_ok 84 rfl
theorem d_L_law_819 : decode code 819 = .ok (.ifCond .ne 15, 3) := jx_dec c_L_law_4_ok 85 rfl
theorem d_L_law_822 : decode code 822 = .ok (.aload_n 3, 1) := jx_dec c_L_law_4_ok 86 rfl
theorem d_L_law_823 : decode code 823 = .ok (.iconst 0, 1) := jx_dec c_L_law_4_ok 87 rfl
theorem d_L_law_824 : decode code 824 = .ok (.laload, 1) := jx_dec c_L_law_4_ok 88 rfl
theorem d_L_law_825 : decode code 825 = .ok (.iload 6, 2) := jx_dec c_L_law_4_ok 89 rfl
theorem d_L_law_827 : decode code 827 = .ok (.i2l, 1) := jx_dec c_L_law_4_ok 90 rfl
theorem d_L_law_828 : decode code 828 = .ok (.lcmp, 1) := jx_dec c_L_law_4_ok 91 rfl
theorem d_L_law_829 : decode code 829 = .ok (.ifCond .eq 5, 3) := jx_dec c_L_law_4_ok 92 rfl
theorem d_L_law_832 : decode code 832 = .ok (.iconst 0, 1) := jx_dec c_L_law_4_ok 93 rfl
theorem d_L_law_833 : decode code 833 = .ok (.ireturn, 1) := jx_dec c_L_law_4_ok 94 rfl
theorem d_L_law_834 : decode code 834 = .ok (.goto 380, 3) := jx_dec c_L_law_4_ok 95 rfl
theorem d_L_law_837 : decode code 837 = .ok (.aload_n 1, 1) := jx_dec c_L_law_4_ok 96 rfl
theorem d_L_law_838 : decode code 838 = .ok (.aload_n 0, 1) := jx_dec c_L_law_4_ok 97 rfl
theorem d_L_law_839 : decode code 839 = .ok (.iload 4, 2) := jx_dec c_L_law_4_ok 98 rfl
theorem d_L_law_841 : decode code 841 = .ok (.iconst 1, 1) := jx_dec c_L_law_4_ok 99 rfl
def c_L_law_5 : List (Nat × Instr × Nat) := [(842, .iadd, 1), (843, .iaload, 1), (844, .aload_n 3, 1), (845, .invokestatic 124, 3), (848, .istore 5, 2), (850, .aload_n 2, 1), (851, .aload_n 0, 1), (852, .iload 4, 2), (854, .iconst 1, 1), (855, .iadd, 1), (856, .iaload, 1), (857, .invokevirtual 126, 3), (860, .istore 6, 2), (862, .aload_n 2, 1), (863, .invokevirtual 81, 3), (866, .iload 5, 2), (868, .if_icmp .eq 5, 3), (871, .iconst 0, 1), (872, .ireturn, 1), (873, .iload 5, 2), (875, .ifCond .ne 15, 3), (878, .aload_n 3, 1), (879, .iconst 0, 1), (880, .laload, 1), (881, .iload 6, 2), (883, .i2l, 1), (884, .lcmp, 1), (885, .ifCond .eq 5, 3), (888, .iconst 0, 1), (889, .ireturn, 1), (890, .goto 324, 3), (893, .aload_n 1, 1), (894, .aload_n 0, 1), (895, .iload 4, 2), (897, .iconst 1, 1), (898, .iadd, 1), (899, .iaload, 1), (900, .aload_n 3, 1), (901, .invokestatic 127, 3), (904, .istore 5, 2), (906, .aload_n 2, 1), (907, .aload_n 0, 1), (908, .iload 4, 2), (910, .iconst 1, 1), (911, .iadd, 1), (912, .iaload, 1), (913, .invokevirtual 129, 3), (916, .istore 6, 2), (918, .aload_n 2, 1), (919, .invokevirtual 81, 3), (922, .iload 5, 2), (924, .if_icmp .eq 5, 3), (927, .iconst 0, 1), (928, .ireturn, 1), (929, .iload 5, 2), (931, .ifCond .ne 15, 3), (934, .aload_n 3, 1), (935, .iconst 0, 1), (936, .laload, 1), (937, .iload 6, 2), (939, .i2l, 1), (940, .lcmp, 1), (941, .ifCond .eq 5, 3), (944, .iconst 0, 1), (945, .ireturn, 1), (946, .goto 268, 3), (949, .aload_n 1, 1), (950, .aload_n 0, 1), (951, .iload 4, 2), (953, .iconst 1, 1), (954, .iadd, 1), (955, .iaload, 1), (956, .invokestatic 130, 3), (959, .istore 5, 2), (961, .aload_n 2, 1), (962, .aload_n 0, 1), (963, .iload 4, 2), (965, .iconst 1, 1), (966, .iadd, 1), (967, .iaload, 1), (968, .invokevirtual 133, 3), (971, .aload_n 2, 1), (972, .invokevirtual 81, 3), (975, .iload 5, 2), (977, .if_icmp .eq 5, 3), (980, .iconst 0, 1), (981, .ireturn, 1), (982, .goto 232, 3), (985, .aload_n 1, 1), (986, .aload_n 0, 1), (987, .iload 4, 2), (989, .iconst 1, 1), (990, .iadd, 1), (991, .iaload, 1), (992, .aload_n 0, 1), (993, .iload 4, 2), (995, .iconst 2, 1), (996, .iadd, 1), (997, .iaload, 1), (998, .aload_n 3, 1)]
theorem c_L_law_5_ok : (c_L_law_5).all (fun q => decide (decode code q.1 = .ok q.2)) = true := by decide +kernel
theorem d_L_law_842 : decode code 842 = .ok (.iadd, 1) := jx_dec c_L_law_5_ok 0 rfl
theorem d_L_law_843 : decode code 843 = .ok (.iaload, 1) := jx_dec c_L_law_5_ok 1 rfl
theorem d_L_law_844 : decode code 844 = .ok (.aload_n 3, 1) := jx_dec c_L_law_5_ok 2 rfl
theorem d_L_law_845 : decode code 845 = .ok (.invokestatic 124, 3) := jx_dec c_L_law_5_ok 3 rfl
theorem d_L_law_848 : decode code 848 = .ok (.istore 5, 2) := jx_dec c_L_law_5_ok 4 rfl
theorem d_L_law_850 : decode code 850 = .ok (.aload_n 2, 1) := jx_dec c_L_law_5_ok 5 rfl
theorem d_L_law_851 : decode code 851 = .ok (.aload_n 0, 1) := jx_dec c_L_law_5_ok 6 rfl
theorem d_L_law_852 : decode code 852 = .ok (.iload 4, 2) := jx_dec c_L_law_5_ok 7 rfl
theorem d_L_law_854 : decode code 854 = .ok (.iconst 1, 1) := jx_dec c_L_law_5_ok 8 rfl
theorem d_L_law_855 : decode code 855 = .ok (.iadd, 1) := jx_dec c_L_law_5_ok 9 rfl
theorem d_L_law_856 : decode code 856 = .ok (.iaload, 1) := jx_dec c_L_law_5_ok 10 rfl
theorem d_L_law_857 : decode code 857 = .ok (.invokevirtual 126, 3) := jx_dec c_L_law_5_ok 11 rfl
theorem d_L_law_860 : decode code 860 = .ok (.istore 6, 2) := jx_dec c_L_law_5_ok 12 rfl
theorem d_L_law_862 : decode code 862 = .ok (.aload_n 2, 1) := jx_dec c_L_law_5_ok 13 rfl
theorem d_L_law_863 : decode code 863 = .ok (.invokevirtual 81, 3) := jx_dec c_L_law_5_ok 14 rfl
theorem d_L_law_866 : decode code 866 = .ok (.iload 5, 2) := jx_dec c_L_law_5_ok 15 rfl
theorem d_L_law_868 : decode code 868 = .ok (.if_icmp .eq 5, 3) := jx_dec c_L_law_5_ok 16 rfl
theorem d_L_law_871 : decode code 871 = .ok (.iconst 0, 1) := jx_dec c_L_law_5_ok 17 rfl
theorem d_L_law_872 : decode code 872 = .ok (.ireturn, 1) := jx_dec c_L_law_5_ok 18 rfl
theorem d_L_law_873 : decode code 873 = .ok (.iload 5, 2) := jx_dec c_L_law_5_ok 19 rfl
theorem d_L_law_875 : decode code 875 = .ok (.ifCond .ne 15, 3) := jx_dec c_L_law_5_ok 20 rfl
theorem d_L_law_878 : decode code 878 = .ok (.aload_n 3, 1) := jx_dec c_L_law_5_ok 21 rfl
theorem d_L_law_879 : decode code 879 = .ok (.iconst 0, 1) := jx_dec c_L_law_5_ok 22 rfl
theorem d_L_law_880 : decode code 880 = .ok (.laload, 1) := jx_dec c_L_law_5_ok 23 rfl
theorem d_L_law_881 : decode code 881 = .ok (.iload 6, 2) := jx_dec c_L_law_5_ok 24 rfl
theorem d_L_law_883 : decode code 883 = .ok (.i2l, 1) := jx_dec c_L_law_5_ok 25 rfl
theorem d_L_law_884 : decode code 884 = .ok (.lcmp, 1) := jx_dec c_L_law_5_ok 26 rfl
theorem d_L_law_885 : decode code 885 = .ok (.ifCond .eq 5, 3) := jx_dec c_L_law_5_ok 27 rfl
theorem d_L_law_888 : decode code 888 = .ok (.iconst 0, 1) := jx_dec c_L_law_5_ok 28 rfl
theorem d_L_law_889 : decode code 889 = .ok (.ireturn, 1) := jx_dec c_L_law_5_ok 29 rfl
theorem d_L_law_890 : decode code 890 = .ok (.goto 324, 3) := jx_dec c_L_law_5_ok 30 rfl
theorem d_L_law_893 : decode code 893 = .ok (.aload_n 1, 1) := jx_dec c_L_law_5_ok 31 rfl
theorem d_L_law_894 : decode code 894 = .ok (.aload_n 0, 1) := jx_dec c_L_law_5_ok 32 rfl
theorem d_L_law_895 : decode code 895 = .ok (.iload 4, 2) := jx_dec c_L_law_5_ok 33 rfl
theorem d_L_law_897 : decode code 897 = .ok (.iconst 1, 1) := jx_dec c_L_law_5_ok 34 rfl
theorem d_L_law_898 : decode code 898 = .ok (.iadd, 1) := jx_dec c_L_law_5_ok 35 rfl
theorem d_L_law_899 : decode code 899 = .ok (.iaload, 1) := jx_dec c_L_law_5_ok 36 rfl
theorem d_L_law_900 : decode code 900 = .ok (.aload_n 3, 1) := jx_dec c_L_law_5_ok 37 rfl
theorem d_L_law_901 : decode code 901 = .ok (.invokestatic 127, 3) := jx_dec c_L_law_5_ok 38 rfl
theorem d_L_law_904 : decode code 904 = .ok (.istore 5, 2) := jx_dec c_L_law_5_ok 39 rfl
theorem d_L_law_906 : decode code 906 = .ok (.aload_n 2, 1) := jx_dec c_L_law_5_ok 40 rfl
theorem d_L_law_907 : decode code 907 = .ok (.aload_n 0, 1) := jx_dec c_L_law_5_ok 41 rfl
theorem d_L_law_908 : decode code 908 = .ok (.iload 4, 2) := jx_dec c_L_law_5_ok 42 rfl
theorem d_L_law_910 : decode code 910 = .ok (.iconst 1, 1) := jx_dec c_L_law_5_ok 43 rfl
theorem d_L_law_911 : decode code 911 = .ok (.iadd, 1) := jx_dec c_L_law_5_ok 44 rfl
theorem d_L_law_912 : decode code 912 = .ok (.iaload, 1) := jx_dec c_L_law_5_ok 45 rfl
theorem d_L_law_913 : decode code 913 = .ok (.invokevirtual 129, 3) := jx_dec c_L_law_5_ok 46 rfl
theorem d_L_law_916 : decode code 916 = .ok (.istore 6, 2) := jx_dec c_L_law_5_ok 47 rfl
theorem d_L_law_918 : decode code 918 = .ok (.aload_n 2, 1) := jx_dec c_L_law_5_ok 48 rfl
theorem d_L_law_919 : decode code 919 = .ok (.invokevirtual 81, 3) := jx_dec c_L_law_5_ok 49 rfl
theorem d_L_law_922 : decode code 922 = .ok (.iload 5, 2) := jx_dec c_L_law_5_ok 50 rfl
theorem d_L_law_924 : decode code 924 = .ok (.if_icmp .eq 5, 3) := jx_dec c_L_law_5_ok 51 rfl
theorem d_L_law_927 : decode code 927 = .ok (.iconst 0, 1) := jx_dec c_L_law_5_ok 52 rfl
theorem d_L_law_928 : decode code 928 = .ok (.ireturn, 1) := jx_dec c_L_law_5_ok 53 rfl
theorem d_L_law_929 : decode code 929 = .ok (.iload 5, 2) := jx_dec c_L_law_5_ok 54 rfl
theorem d_L_law_931 : decode code 931 = .ok (.ifCond .ne 15, 3) := jx_dec c_L_law_5_ok 55 rfl
theorem d_L_law_934 : decode code 934 = .ok (.aload_n 3, 1) := jx_dec c_L_law_5_ok 56 rfl
theorem d_L_law_935 : decode code 935 = .ok (.iconst 0, 1) := jx_dec c_L_law_5_ok 57 rfl
theorem d_L_law_936 : decode code 936 = .ok (.laload, 1) := jx_dec c_L_law_5_ok 58 rfl
theorem d_L_law_937 : decode code 937 = .ok (.iload 6, 2) := jx_dec c_L_law_5_ok 59 rfl
theorem d_L_law_939 : decode code 939 = .ok (.i2l, 1) := jx_dec c_L_law_5_ok 60 rfl
theorem d_L_law_940 : decode code 940 = .ok (.lcmp, 1) := jx_dec c_L_law_5_ok 61 rfl
theorem d_L_law_941 : decode code 941 = .ok (.ifCond .eq 5, 3) := jx_dec c_L_law_5_ok 62 rfl
theorem d_L_law_944 : decode code 944 = .ok (.iconst 0, 1) := jx_dec c_L_law_5_ok 63 rfl
theorem d_L_law_945 : decode code 945 = .ok (.ireturn, 1) := jx_dec c_L_law_5_ok 64 rfl
theorem d_L_law_946 : decode code 946 = .ok (.goto 268, 3) := jx_dec c_L_law_5_ok 65 rfl
theorem d_L_law_949 : decode code 949 = .ok (.aload_n 1, 1) := jx_dec c_L_law_5_ok 66 rfl
theorem d_L_law_950 : decode code 950 = .ok (.aload_n 0, 1) := jx_dec c_L_law_5_ok 67 rfl
theorem d_L_law_951 : decode code 951 = .ok (.iload 4, 2) := jx_dec c_L_law_5_ok 68 rfl
theorem d_L_law_953 : decode code 953 = .ok (.iconst 1, 1) := jx_dec c_L_law_5_ok 69 rfl
theorem d_L_law_954 : decode code 954 = .ok (.iadd, 1) := jx_dec c_L_law_5_ok 70 rfl
theorem d_L_law_955 : decode code 955 = .ok (.iaload, 1) := jx_dec c_L_law_5_ok 71 rfl
theorem d_L_law_956 : decode code 956 = .ok (.invokestatic 130, 3) := jx_dec c_L_law_5_ok 72 rfl
theorem d_L_law_959 : decode code 959 = .ok (.istore 5, 2) := jx_dec c_L_law_5_ok 73 rfl
theorem d_L_law_961 : decode code 961 = .ok (.aload_n 2, 1) := jx_dec c_L_law_5_ok 74 rfl
theorem d_L_law_962 : decode code 962 = .ok (.aload_n 0, 1) := jx_dec c_L_law_5_ok 75 rfl
theorem d_L_law_963 : decode code 963 = .ok (.iload 4, 2) := jx_dec c_L_law_5_ok 76 rfl
theorem d_L_law_965 : decode code 965 = .ok (.iconst 1, 1) := jx_dec c_L_law_5_ok 77 rfl
theorem d_L_law_966 : decode code 966 = .ok (.iadd, 1) := jx_dec c_L_law_5_ok 78 rfl
theorem d_L_law_967 : decode code 967 = .ok (.iaload, 1) := jx_dec c_L_law_5_ok 79 rfl
theorem d_L_law_968 : decode code 968 = .ok (.invokevirtual 133, 3) := jx_dec c_L_law_5_ok 80 rfl
theorem d_L_law_971 : decode code 971 = .ok (.aload_n 2, 1) := jx_dec c_L_law_5_ok 81 rfl
theorem d_L_law_972 : decode code 972 = .ok (.invokevirtual 81, 3) := jx_dec c_L_law_5_ok 82 rfl
theorem d_L_law_975 : decode code 975 = .ok (.iload 5, 2) := jx_dec c_L_law_5_ok 83 rfl
theorem d_L_law_977 : decode code 977 = .ok (.if_icmp .eq 5, 3) := jx_dec c_L_law_5_ok 84 rfl
theorem d_L_law_980 : decode code 980 = .ok (.iconst 0, 1) := jx_dec c_L_law_5_ok 85 rfl
theorem d_L_law_981 : decode code 981 = .ok (.ireturn, 1) := jx_dec c_L_law_5_ok 86 rfl
theorem d_L_law_982 : decode code 982 = .ok (.goto 232, 3) := jx_dec c_L_law_5_ok 87 rfl
theorem d_L_law_985 : decode code 985 = .ok (.aload_n 1, 1) := jx_dec c_L_law_5_ok 88 rfl
theorem d_L_law_986 : decode code 986 = .ok (.aload_n 0, 1) := jx_dec c_L_law_5_ok 89 rfl
theorem d_L_law_987 : decode code 987 = .ok (.iload 4, 2) := jx_dec c_L_law_5_ok 90 rfl
theorem d_L_law_989 : decode code 989 = .ok (.iconst 1, 1) := jx_dec c_L_law_5_ok 91 rfl
theorem d_L_law_990 : decode code 990 = .ok (.iadd, 1) := jx_dec c_L_law_5_ok 92 rfl
theorem d_L_law_991 : decode code 991 = .ok (.iaload, 1) := jx_dec c_L_law_5_ok 93 rfl
theorem d_L_law_992 : decode code 992 = .ok (.aload_n 0, 1) := jx_dec c_L_law_5_ok 94 rfl
theorem d_L_law_993 : decode code 993 = .ok (.iload 4, 2) := jx_dec c_L_law_5_ok 95 rfl
theorem d_L_law_995 : decode code 995 = .ok (.iconst 2, 1) := jx_dec c_L_law_5_ok 96 rfl
theorem d_L_law_996 : decode code 996 = .ok (.iadd, 1) := jx_dec c_L_law_5_ok 97 rfl
theorem d_L_law_997 : decode code 997 = .ok (.iaload, 1) := jx_dec c_L_law_5_ok 98 rfl
theorem d_L_law_998 : decode code 998 = .ok (.aload_n 3, 1) := jx_dec c_L_law_5_ok 99 rfl
def c_L_law_6 : List (Nat × Instr × Nat) := [(999, .invokestatic 134, 3), (1002, .istore 5, 2), (1004, .aload_n 2, 1), (1005, .aload_n 0, 1), (1006, .iload 4, 2), (1008, .iconst 1, 1), (1009, .iadd, 1), (1010, .iaload, 1), (1011, .aload_n 0, 1), (1012, .iload 4, 2), (1014, .iconst 2, 1), (1015, .iadd, 1), (1016, .iaload, 1), (1017, .invokevirtual 136, 3), (1020, .istore 6, 2), (1022, .aload_n 2, 1), (1023, .invokevirtual 81, 3), (1026, .iload 5, 2), (1028, .if_icmp .eq 5, 3), (1031, .iconst 0, 1), (1032, .ireturn, 1), (1033, .iload 5, 2), (1035, .ifCond .ne 15, 3), (1038, .aload_n 3, 1), (1039, .iconst 0, 1), (1040, .laload, 1), (1041, .iload 6, 2), (1043, .i2l, 1), (1044, .lcmp, 1), (1045, .ifCond .eq 5, 3), (1048, .iconst 0, 1), (1049, .ireturn, 1), (1050, .goto 164, 3), (1053, .aload_n 1, 1), (1054, .aload_n 0, 1), (1055, .iload 4, 2), (1057, .iconst 1, 1), (1058, .iadd, 1), (1059, .iaload, 1), (1060, .aload_n 0, 1), (1061, .iload 4, 2), (1063, .iconst 2, 1), (1064, .iadd, 1), (1065, .iaload, 1), (1066, .aload_n 3, 1), (1067, .invokestatic 137, 3), (1070, .istore 5, 2), (1072, .aload_n 2, 1), (1073, .aload_n 0, 1), (1074, .iload 4, 2), (1076, .iconst 1, 1), (1077, .iadd, 1), (1078, .iaload, 1), (1079, .aload_n 0, 1), (1080, .iload 4, 2), (1082, .iconst 2, 1), (1083, .iadd, 1), (1084, .iaload, 1), (1085, .invokevirtual 139, 3), (1088, .istore 6, 2), (1090, .aload_n 2, 1), (1091, .invokevirtual 81, 3), (1094, .iload 5, 2), (1096, .if_icmp .eq 5, 3), (1099, .iconst 0, 1), (1100, .ireturn, 1), (1101, .iload 5, 2), (1103, .ifCond .ne 15, 3), (1106, .aload_n 3, 1), (1107, .iconst 0, 1), (1108, .laload, 1), (1109, .iload 6, 2), (1111, .i2l, 1), (1112, .lcmp, 1), (1113, .ifCond .eq 5, 3), (1116, .iconst 0, 1), (1117, .ireturn, 1), (1118, .goto 96, 3), (1121, .aload_n 1, 1), (1122, .aload_n 0, 1), (1123, .iload 4, 2), (1125, .iconst 1, 1), (1126, .iadd, 1), (1127, .iaload, 1), (1128, .aload_n 0, 1), (1129, .iload 4, 2), (1131, .iconst 2, 1), (1132, .iadd, 1), (1133, .iaload, 1), (1134, .aload_n 3, 1), (1135, .invokestatic 140, 3), (1138, .istore 5, 2), (1140, .aload_n 2, 1), (1141, .aload_n 0, 1), (1142, .iload 4, 2), (1144, .iconst 1, 1), (1145, .iadd, 1), (1146, .iaload, 1), (1147, .aload_n 0, 1), (1148, .iload 4, 2)]
theorem c_L_law_6_ok : (c_L_law_6).all (fun q => decide (decode code q.1 = .ok q.2)) = true := by decide +kernel
theorem d_L_law_999 : decode code 999 = .ok (.invokestatic 134, 3) := jx_dec c_L_law_6_ok 0 rfl
theorem d_L_law_1002 : decode code 1002 = .ok (.istore 5, 2) := jx_dec c_L_law_6_ok 1 rfl
theorem d_L_law_1004 : decode code 1004 = .ok (.aload_n 2, 1) := jx_dec c_L_law_6_ok 2 rfl
theorem d_L_law_1005 : decode code 1005 = .ok (.aload_n 0, 1) := jx_dec c_L_law_6_ok 3 rfl
theorem d_L_law_1006 : decode code 1006 = .ok (.iload 4, 2) := jx_dec c_L_law_6_ok 4 rfl
theorem d_L_law_1008 : decode code 1008 = .ok (.iconst 1, 1) := jx_dec c_L_law_6_ok 5 rfl
theorem d_L_law_1009 : decode code 1009 = .ok (.iadd, 1) := jx_dec c_L_law_6_ok 6 rfl
theorem d_L_law_1010 : decode code 1010 = .ok (.iaload, 1) := jx_dec c_L_law_6_ok 7 rfl
theorem d_L_law_1011 : decode code 1011 = .ok (.aload_n 0, 1) := jx_dec c_L_law_6_ok 8 rfl
theorem d_L_law_1012 : decode code 1012 = .ok (.iload 4, 2) := jx_dec c_L_law_6_ok 9 rfl
theorem d_L_law_1014 : decode code 1014 = .ok (.iconst 2, 1) := jx_dec c_L_law_6_ok 10 rfl
theorem d_L_law_1015 : decode code 1015 = .ok (.iadd, 1) := jx_dec c_L_law_6_ok 11 rfl
theorem d_L_law_1016 : decode code 1016 = .ok (.iaload, 1) := jx_dec c_L_law_6_ok 12 rfl
theorem d_L_law_1017 : decode code 1017 = .ok (.invokevirtual 136, 3) := jx_dec c_L_law_6_ok 13 rfl
theorem d_L_law_1020 : decode code 1020 = .ok (.istore 6, 2) := jx_dec c_L_law_6_ok 14 rfl
theorem d_L_law_1022 : decode code 1022 = .ok (.aload_n 2, 1) := jx_dec c_L_law_6_ok 15 rfl
theorem d_L_law_1023 : decode code 1023 = .ok (.invokevirtual 81, 3) := jx_dec c_L_law_6_ok 16 rfl
theorem d_L_law_1026 : decode code 1026 = .ok (.iload 5, 2) := jx_dec c_L_law_6_ok 17 rfl
theorem d_L_law_1028 : decode code 1028 = .ok (.if_icmp .eq 5, 3) := jx_dec c_L_law_6_ok 18 rfl
theorem d_L_law_1031 : decode code 1031 = .ok (.iconst 0, 1) := jx_dec c_L_law_6_ok 19 rfl
theorem d_L_law_1032 : decode code 1032 = .ok (.ireturn, 1) := jx_dec c_L_law_6_ok 20 rfl
theorem d_L_law_1033 : decode code 1033 = .ok (.iload 5, 2) := jx_dec c_L_law_6_ok 21 rfl
theorem d_L_law_1035 : decode code 1035 = .ok (.ifCond .ne 15, 3) := jx_dec c_L_law_6_ok 22 rfl
theorem d_L_law_1038 : decode code 1038 = .ok (.aload_n 3, 1) := jx_dec c_L_law_6_ok 23 rfl
theorem d_L_law_1039 : decode code 1039 = .ok (.iconst 0, 1) := jx_dec c_L_law_6_ok 24 rfl
theorem d_L_law_1040 : decode code 1040 = .ok (.laload, 1) := jx_dec c_L_law_6_ok 25 rfl
theorem d_L_law_1041 : decode code 1041 = .ok (.iload 6, 2) := jx_dec c_L_law_6_ok 26 rfl
theorem d_L_law_1043 : decode code 1043 = .ok (.i2l, 1) := jx_dec c_L_law_6_ok 27 rfl
theorem d_L_law_1044 : decode code 1044 = .ok (.lcmp, 1) := jx_dec c_L_law_6_ok 28 rfl
theorem d_L_law_1045 : decode code 1045 = .ok (.ifCond .eq 5, 3) := jx_dec c_L_law_6_ok 29 rfl
theorem d_L_law_1048 : decode code 1048 = .ok (.iconst 0, 1) := jx_dec c_L_law_6_ok 30 rfl
theorem d_L_law_1049 : decode code 1049 = .ok (.ireturn, 1) := jx_dec c_L_law_6_ok 31 rfl
theorem d_L_law_1050 : decode code 1050 = .ok (.goto 164, 3) := jx_dec c_L_law_6_ok 32 rfl
theorem d_L_law_1053 : decode code 1053 = .ok (.aload_n 1, 1) := jx_dec c_L_law_6_ok 33 rfl
theorem d_L_law_1054 : decode code 1054 = .ok (.aload_n 0, 1) := jx_dec c_L_law_6_ok 34 rfl
theorem d_L_law_1055 : decode code 1055 = .ok (.iload 4, 2) := jx_dec c_L_law_6_ok 35 rfl
theorem d_L_law_1057 : decode code 1057 = .ok (.iconst 1, 1) := jx_dec c_L_law_6_ok 36 rfl
theorem d_L_law_1058 : decode code 1058 = .ok (.iadd, 1) := jx_dec c_L_law_6_ok 37 rfl
theorem d_L_law_1059 : decode code 1059 = .ok (.iaload, 1) := jx_dec c_L_law_6_ok 38 rfl
theorem d_L_law_1060 : decode code 1060 = .ok (.aload_n 0, 1) := jx_dec c_L_law_6_ok 39 rfl
theorem d_L_law_1061 : decode code 1061 = .ok (.iload 4, 2) := jx_dec c_L_law_6_ok 40 rfl
theorem d_L_law_1063 : decode code 1063 = .ok (.iconst 2, 1) := jx_dec c_L_law_6_ok 41 rfl
theorem d_L_law_1064 : decode code 1064 = .ok (.iadd, 1) := jx_dec c_L_law_6_ok 42 rfl
theorem d_L_law_1065 : decode code 1065 = .ok (.iaload, 1) := jx_dec c_L_law_6_ok 43 rfl
theorem d_L_law_1066 : decode code 1066 = .ok (.aload_n 3, 1) := jx_dec c_L_law_6_ok 44 rfl
theorem d_L_law_1067 : decode code 1067 = .ok (.invokestatic 137, 3) := jx_dec c_L_law_6_ok 45 rfl
theorem d_L_law_1070 : decode code 1070 = .ok (.istore 5, 2) := jx_dec c_L_law_6_ok 46 rfl
theorem d_L_law_1072 : decode code 1072 = .ok (.aload_n 2, 1) := jx_dec c_L_law_6_ok 47 rfl
theorem d_L_law_1073 : decode code 1073 = .ok (.aload_n 0, 1) := jx_dec c_L_law_6_ok 48 rfl
theorem d_L_law_1074 : decode code 1074 = .ok (.iload 4, 2) := jx_dec c_L_law_6_ok 49 rfl
theorem d_L_law_1076 : decode code 1076 = .ok (.iconst 1, 1) := jx_dec c_L_law_6_ok 50 rfl
theorem d_L_law_1077 : decode code 1077 = .ok (.iadd, 1) := jx_dec c_L_law_6_ok 51 rfl
theorem d_L_law_1078 : decode code 1078 = .ok (.iaload, 1) := jx_dec c_L_law_6_ok 52 rfl
theorem d_L_law_1079 : decode code 1079 = .ok (.aload_n 0, 1) := jx_dec c_L_law_6_ok 53 rfl
theorem d_L_law_1080 : decode code 1080 = .ok (.iload 4, 2) := jx_dec c_L_law_6_ok 54 rfl
theorem d_L_law_1082 : decode code 1082 = .ok (.iconst 2, 1) := jx_dec c_L_law_6_ok 55 rfl
theorem d_L_law_1083 : decode code 1083 = .ok (.iadd, 1) := jx_dec c_L_law_6_ok 56 rfl
theorem d_L_law_1084 : decode code 1084 = .ok (.iaload, 1) := jx_dec c_L_law_6_ok 57 rfl
theorem d_L_law_1085 : decode code 1085 = .ok (.invokevirtual 139, 3) := jx_dec c_L_law_6_ok 58 rfl
theorem d_L_law_1088 : decode code 1088 = .ok (.istore 6, 2) := jx_dec c_L_law_6_ok 59 rfl
theorem d_L_law_1090 : decode code 1090 = .ok (.aload_n 2, 1) := jx_dec c_L_law_6_ok 60 rfl
theorem d_L_law_1091 : decode code 1091 = .ok (.invokevirtual 81, 3) := jx_dec c_L_law_6_ok 61 rfl
theorem d_L_law_1094 : decode code 1094 = .ok (.iload 5, 2) := jx_dec c_L_law_6_ok 62 rfl
theorem d_L_law_1096 : decode code 1096 = .ok (.if_icmp .eq 5, 3) := jx_dec c_L_law_6_ok 63 rfl
theorem d_L_law_1099 : decode code 1099 = .ok (.iconst 0, 1) := jx_dec c_L_law_6_ok 64 rfl
theorem d_L_law_1100 : decode code 1100 = .ok (.ireturn, 1) := jx_dec c_L_law_6_ok 65 rfl
theorem d_L_law_1101 : decode code 1101 = .ok (.iload 5, 2) := jx_dec c_L_law_6_ok 66 rfl
theorem d_L_law_1103 : decode code 1103 = .ok (.ifCond .ne 15, 3) := jx_dec c_L_law_6_ok 67 rfl
theorem d_L_law_1106 : decode code 1106 = .ok (.aload_n 3, 1) := jx_dec c_L_law_6_ok 68 rfl
theorem d_L_law_1107 : decode code 1107 = .ok (.iconst 0, 1) := jx_dec c_L_law_6_ok 69 rfl
theorem d_L_law_1108 : decode code 1108 = .ok (.laload, 1) := jx_dec c_L_law_6_ok 70 rfl
theorem d_L_law_1109 : decode code 1109 = .ok (.iload 6, 2) := jx_dec c_L_law_6_ok 71 rfl
theorem d_L_law_1111 : decode code 1111 = .ok (.i2l, 1) := jx_dec c_L_law_6_ok 72 rfl
theorem d_L_law_1112 : decode code 1112 = .ok (.lcmp, 1) := jx_dec c_L_law_6_ok 73 rfl
theorem d_L_law_1113 : decode code 1113 = .ok (.ifCond .eq 5, 3) := jx_dec c_L_law_6_ok 74 rfl
theorem d_L_law_1116 : decode code 1116 = .ok (.iconst 0, 1) := jx_dec c_L_law_6_ok 75 rfl
theorem d_L_law_1117 : decode code 1117 = .ok (.ireturn, 1) := jx_dec c_L_law_6_ok 76 rfl
theorem d_L_law_1118 : decode code 1118 = .ok (.goto 96, 3) := jx_dec c_L_law_6_ok 77 rfl
theorem d_L_law_1121 : decode code 1121 = .ok (.aload_n 1, 1) := jx_dec c_L_law_6_ok 78 rfl
theorem d_L_law_1122 : decode code 1122 = .ok (.aload_n 0, 1) := jx_dec c_L_law_6_ok 79 rfl
theorem d_L_law_1123 : decode code 1123 = .ok (.iload 4, 2) := jx_dec c_L_law_6_ok 80 rfl
theorem d_L_law_1125 : decode code 1125 = .ok (.iconst 1, 1) := jx_dec c_L_law_6_ok 81 rfl
theorem d_L_law_1126 : decode code 1126 = .ok (.iadd, 1) := jx_dec c_L_law_6_ok 82 rfl
theorem d_L_law_1127 : decode code 1127 = .ok (.iaload, 1) := jx_dec c_L_law_6_ok 83 rfl
theorem d_L_law_1128 : decode code 1128 = .ok (.aload_n 0, 1) := jx_dec c_L_law_6_ok 84 rfl
theorem d_L_law_1129 : decode code 1129 = .ok (.iload 4, 2) := jx_dec c_L_law_6_ok 85 rfl
theorem d_L_law_1131 : decode code 1131 = .ok (.iconst 2, 1) := jx_dec c_L_law_6_ok 86 rfl
theorem d_L_law_1132 : decode code 1132 = .ok (.iadd, 1) := jx_dec c_L_law_6_ok 87 rfl
theorem d_L_law_1133 : decode code 1133 = .ok (.iaload, 1) := jx_dec c_L_law_6_ok 88 rfl
theorem d_L_law_1134 : decode code 1134 = .ok (.aload_n 3, 1) := jx_dec c_L_law_6_ok 89 rfl
theorem d_L_law_1135 : decode code 1135 = .ok (.invokestatic 140, 3) := jx_dec c_L_law_6_ok 90 rfl
theorem d_L_law_1138 : decode code 1138 = .ok (.istore 5, 2) := jx_dec c_L_law_6_ok 91 rfl
theorem d_L_law_1140 : decode code 1140 = .ok (.aload_n 2, 1) := jx_dec c_L_law_6_ok 92 rfl
theorem d_L_law_1141 : decode code 1141 = .ok (.aload_n 0, 1) := jx_dec c_L_law_6_ok 93 rfl
theorem d_L_law_1142 : decode code 1142 = .ok (.iload 4, 2) := jx_dec c_L_law_6_ok 94 rfl
theorem d_L_law_1144 : decode code 1144 = .ok (.iconst 1, 1) := jx_dec c_L_law_6_ok 95 rfl
theorem d_L_law_1145 : decode code 1145 = .ok (.iadd, 1) := jx_dec c_L_law_6_ok 96 rfl
theorem d_L_law_1146 : decode code 1146 = .ok (.iaload, 1) := jx_dec c_L_law_6_ok 97 rfl
theorem d_L_law_1147 : decode code 1147 = .ok (.aload_n 0, 1) := jx_dec c_L_law_6_ok 98 rfl
theorem d_L_law_1148 : decode code 1148 = .ok (.iload 4, 2) := jx_dec c_L_law_6_ok 99 rfl
def c_L_law_7 : List (Nat × Instr × Nat) := [(1150, .iconst 2, 1), (1151, .iadd, 1), (1152, .iaload, 1), (1153, .invokevirtual 142, 3), (1156, .istore 6, 2), (1158, .aload_n 2, 1), (1159, .invokevirtual 81, 3), (1162, .iload 5, 2), (1164, .if_icmp .eq 5, 3), (1167, .iconst 0, 1), (1168, .ireturn, 1), (1169, .iload 5, 2), (1171, .ifCond .ne 15, 3), (1174, .aload_n 3, 1), (1175, .iconst 0, 1), (1176, .laload, 1), (1177, .iload 6, 2), (1179, .i2l, 1), (1180, .lcmp, 1), (1181, .ifCond .eq 5, 3), (1184, .iconst 0, 1), (1185, .ireturn, 1), (1186, .goto 28, 3), (1189, .aload_n 1, 1), (1190, .aload_n 0, 1), (1191, .iload 4, 2), (1193, .iconst 1, 1), (1194, .iadd, 1), (1195, .iaload, 1), (1196, .invokevirtual 143, 3), (1199, .aload_n 2, 1), (1200, .aload_n 0, 1), (1201, .iload 4, 2), (1203, .iconst 1, 1), (1204, .iadd, 1), (1205, .iaload, 1), (1206, .invokevirtual 146, 3), (1209, .if_icmp .eq 5, 3), (1212, .iconst 0, 1), (1213, .ireturn, 1), (1214, .iinc 4 5, 3), (1217, .goto (-1194), 3), (1220, .iconst 1, 1), (1221, .ireturn, 1)]
theorem c_L_law_7_ok : (c_L_law_7).all (fun q => decide (decode code q.1 = .ok q.2)) = true := by decide +kernel
theorem d_L_law_1150 : decode code 1150 = .ok (.iconst 2, 1) := jx_dec c_L_law_7_ok 0 rfl
theorem d_L_law_1151 : decode code 1151 = .ok (.iadd, 1) := jx_dec c_L_law_7_ok 1 rfl
theorem d_L_law_1152 : decode code 1152 = .ok (.iaload, 1) := jx_dec c_L_law_7_ok 2 rfl
theorem d_L_law_1153 : decode code 1153 = .ok (.invokevirtual 142, 3) := jx_dec c_L_law_7_ok 3 rfl
theorem d_L_law_1156 : decode code 1156 = .ok (.istore 6, 2) := jx_dec c_L_law_7_ok 4 rfl
theorem d_L_law_1158 : decode code 1158 = .ok (.aload_n 2, 1) := jx_dec c_L_law_7_ok 5 rfl
theorem d_L_law_1159 : decode code 1159 = .ok (.invokevirtual 81, 3) := jx_dec c_L_law_7_ok 6 rfl
theorem d_L_law_1162 : decode code 1162 = .ok (.iload 5, 2) := jx_dec c_L_law_7_ok 7 rfl
theorem d_L_law_1164 : decode code 1164 = .ok (.if_icmp .eq 5, 3) := jx_dec c_L_law_7_ok 8 rfl
theorem d_L_law_1167 : decode code 1167 = .ok (.iconst 0, 1) := jx_dec c_L_law_7_ok 9 rfl
theorem d_L_law_1168 : decode code 1168 = .ok (.ireturn, 1) := jx_dec c_L_law_7_ok 10 rfl
theorem d_L_law_1169 : decode code 1169 = .ok (.iload 5, 2) := jx_dec c_L_law_7_ok 11 rfl
theorem d_L_law_1171 : decode code 1171 = .ok (.ifCond .ne 15, 3) := jx_dec c_L_law_7_ok 12 rfl
theorem d_L_law_1174 : decode code 1174 = .ok (.aload_n 3, 1) := jx_dec c_L_law_7_ok 13 rfl
theorem d_L_law_1175 : decode code 1175 = .ok (.iconst 0, 1) := jx_dec c_L_law_7_ok 14 rfl
theorem d_L_law_1176 : decode code 1176 = .ok (.laload, 1) := jx_dec c_L_law_7_ok 15 rfl
theorem d_L_law_1177 : decode code 1177 = .ok (.iload 6, 2) := jx_dec c_L_law_7_ok 16 rfl
theorem d_L_law_1179 : decode code 1179 = .ok (.i2l, 1) := jx_dec c_L_law_7_ok 17 rfl
theorem d_L_law_1180 : decode code 1180 = .ok (.lcmp, 1) := jx_dec c_L_law_7_ok 18 rfl
theorem d_L_law_1181 : decode code 1181 = .ok (.ifCond .eq 5, 3) := jx_dec c_L_law_7_ok 19 rfl
theorem d_L_law_1184 : decode code 1184 = .ok (.iconst 0, 1) := jx_dec c_L_law_7_ok 20 rfl
theorem d_L_law_1185 : decode code 1185 = .ok (.ireturn, 1) := jx_dec c_L_law_7_ok 21 rfl
theorem d_L_law_1186 : decode code 1186 = .ok (.goto 28, 3) := jx_dec c_L_law_7_ok 22 rfl
theorem d_L_law_1189 : decode code 1189 = .ok (.aload_n 1, 1) := jx_dec c_L_law_7_ok 23 rfl
theorem d_L_law_1190 : decode code 1190 = .ok (.aload_n 0, 1) := jx_dec c_L_law_7_ok 24 rfl
theorem d_L_law_1191 : decode code 1191 = .ok (.iload 4, 2) := jx_dec c_L_law_7_ok 25 rfl
theorem d_L_law_1193 : decode code 1193 = .ok (.iconst 1, 1) := jx_dec c_L_law_7_ok 26 rfl
theorem d_L_law_1194 : decode code 1194 = .ok (.iadd, 1) := jx_dec c_L_law_7_ok 27 rfl
theorem d_L_law_1195 : decode code 1195 = .ok (.iaload, 1) := jx_dec c_L_law_7_ok 28 rfl
theorem d_L_law_1196 : decode code 1196 = .ok (.invokevirtual 143, 3) := jx_dec c_L_law_7_ok 29 rfl
theorem d_L_law_1199 : decode code 1199 = .ok (.aload_n 2, 1) := jx_dec c_L_law_7_ok 30 rfl
theorem d_L_law_1200 : decode code 1200 = .ok (.aload_n 0, 1) := jx_dec c_L_law_7_ok 31 rfl
theorem d_L_law_1201 : decode code 1201 = .ok (.iload 4, 2) := jx_dec c_L_law_7_ok 32 rfl
theorem d_L_law_1203 : decode code 1203 = .ok (.iconst 1, 1) := jx_dec c_L_law_7_ok 33 rfl
theorem d_L_law_1204 : decode code 1204 = .ok (.iadd, 1) := jx_dec c_L_law_7_ok 34 rfl
theorem d_L_law_1205 : decode code 1205 = .ok (.iaload, 1) := jx_dec c_L_law_7_ok 35 rfl
theorem d_L_law_1206 : decode code 1206 = .ok (.invokevirtual 146, 3) := jx_dec c_L_law_7_ok 36 rfl
theorem d_L_law_1209 : decode code 1209 = .ok (.if_icmp .eq 5, 3) := jx_dec c_L_law_7_ok 37 rfl
theorem d_L_law_1212 : decode code 1212 = .ok (.iconst 0, 1) := jx_dec c_L_law_7_ok 38 rfl
theorem d_L_law_1213 : decode code 1213 = .ok (.ireturn, 1) := jx_dec c_L_law_7_ok 39 rfl
theorem d_L_law_1214 : decode code 1214 = .ok (.iinc 4 5, 3) := jx_dec c_L_law_7_ok 40 rfl
theorem d_L_law_1217 : decode code 1217 = .ok (.goto (-1194), 3) := jx_dec c_L_law_7_ok 41 rfl
theorem d_L_law_1220 : decode code 1220 = .ok (.iconst 1, 1) := jx_dec c_L_law_7_ok 42 rfl
theorem d_L_law_1221 : decode code 1221 = .ok (.ireturn, 1) := jx_dec c_L_law_7_ok 43 rfl
