/-! 23.1: the calls -/
set_option maxRecDepth 100000 in
theorem i_L_71 {E : jx_E} (hB : jx_B E) : jx_I E "TaskShareLaw" 71 z_T_init := ⟨Or.inl (jx_w1 hB 26 rfl rfl), jx_w1 hB 27 rfl rfl⟩
set_option maxRecDepth 100000 in
theorem i_T_9 {E : jx_E} (hB : jx_B E) : jx_I E "TaskShare" 9 z_A_init := ⟨Or.inl (jx_w1 hB 34 rfl rfl), jx_w1 hB 35 rfl rfl⟩
set_option maxRecDepth 100000 in
theorem i_A_1 {E : jx_E} (hB : jx_B E) : jx_I E "java/util/ArrayList" 1 z_JAbstractList_init := ⟨Or.inl (jx_w1 hB 37 rfl rfl), jx_w1 hB 38 rfl rfl⟩
set_option maxRecDepth 100000 in
theorem i_JAbstractList_1 {E : jx_E} (hB : jx_B E) : jx_I E "java/util/AbstractList" 1 z_JAbstractCollection_init := ⟨Or.inl (jx_w1 hB 40 rfl rfl), jx_w1 hB 41 rfl rfl⟩
set_option maxRecDepth 100000 in
theorem i_T_24 {E : jx_E} (hB : jx_B E) : jx_I E "TaskShare" 24 z_Y_init := ⟨Or.inr ⟨"TaskShare", jx_w1 hB 60 rfl rfl⟩, jx_w1 hB 61 rfl rfl⟩
set_option maxRecDepth 100000 in
theorem i_T_31 {E : jx_E} (hB : jx_B E) : jx_I E "TaskShare" 31 z_X_init := ⟨Or.inr ⟨"TaskShare", jx_w1 hB 71 rfl rfl⟩, jx_w1 hB 72 rfl rfl⟩
set_option maxRecDepth 100000 in
theorem i_X_11 {E : jx_E} (hB : jx_B E) : jx_I E "TaskShare$ExactPlanner" 11 z_A_init := ⟨Or.inl (jx_w1 hB 76 rfl rfl), jx_w1 hB 35 rfl rfl⟩
set_option maxRecDepth 100000 in
theorem v_L_109 {E : jx_E} (hB : jx_B E) : jx_V E "TaskShareLaw" 109 z_T_exact "TaskShare" := ⟨Or.inl (jx_w1 hB 131 rfl rfl), jx_w1 hB 132 rfl rfl, jx_w1 hB 133 rfl rfl⟩
set_option maxRecDepth 100000 in
theorem v_L_114 {E : jx_E} (hB : jx_B E) : jx_V E "TaskShareLaw" 114 z_T_bound "TaskShare" := ⟨Or.inl (jx_w1 hB 135 rfl rfl), jx_w1 hB 136 rfl rfl, jx_w1 hB 137 rfl rfl⟩
set_option maxRecDepth 100000 in
theorem v_T_41 {E : jx_E} (hB : jx_B E) : jx_V E "TaskShare" 41 z_A_size "java/util/ArrayList" := ⟨Or.inl (jx_w1 hB 139 rfl rfl), jx_w1 hB 140 rfl rfl, jx_w1 hB 141 rfl rfl⟩
set_option maxRecDepth 100000 in
theorem v_T_166 {E : jx_E} (hB : jx_B E) : jx_V E "TaskShare" 166 z_A_get "java/util/ArrayList" := ⟨Or.inl (jx_w1 hB 143 rfl rfl), jx_w1 hB 144 rfl rfl, jx_w1 hB 145 rfl rfl⟩
set_option maxRecDepth 100000 in
theorem s_A_118 {E : jx_E} (hB : jx_B E) : jx_S E "java/util/ArrayList" 118 z_JObjects_checkIndex := ⟨Or.inl (jx_w1 hB 147 rfl rfl), jx_w1 hB 148 rfl rfl⟩
set_option maxRecDepth 100000 in
theorem s_JObjects_105 {E : jx_E} (hB : jx_B E) : jx_S E "java/util/Objects" 105 z_JPreconditions_checkIndex := ⟨Or.inl (jx_w1 hB 150 rfl rfl), jx_w1 hB 151 rfl rfl⟩
set_option maxRecDepth 100000 in
theorem v_A_123 {E : jx_E} (hB : jx_B E) : jx_V E "java/util/ArrayList" 123 z_A_elementData "java/util/ArrayList" := ⟨Or.inl (jx_w1 hB 153 rfl rfl), jx_w1 hB 154 rfl rfl, jx_w1 hB 155 rfl rfl⟩
set_option maxRecDepth 100000 in
theorem v_T_173 {E : jx_E} (hB : jx_B E) : jx_V E "TaskShare" 173 z_T_leastLatenessAlone "TaskShare" := ⟨Or.inl (jx_w1 hB 158 rfl rfl), jx_w1 hB 160 rfl rfl, jx_wp hB (z := z_T_leastLatenessAlone) (n := 7) 0 rfl⟩
set_option maxRecDepth 100000 in
theorem v_T_254 {E : jx_E} (hB : jx_B E) : jx_V E "TaskShare" 254 z_P_may "TaskShare$Person" := ⟨Or.inr ⟨"TaskShare", jx_w1 hB 164 rfl rfl⟩, jx_w1 hB 166 rfl rfl, jx_wp hB (z := z_P_may) (n := 14) 1 rfl⟩
set_option maxRecDepth 100000 in
theorem v_P_43 {E : jx_E} (hB : jx_B E) : jx_V E "TaskShare$Person" 43 z_P_hasSkill "TaskShare$Person" := ⟨Or.inl (jx_w1 hB 169 rfl rfl), jx_w1 hB 171 rfl rfl, jx_wp hB (z := z_P_hasSkill) (n := 14) 2 rfl⟩
set_option maxRecDepth 100000 in
theorem v_P_47 {E : jx_E} (hB : jx_B E) : jx_V E "TaskShare$Person" 47 z_P_hasRefused "TaskShare$Person" := ⟨Or.inl (jx_w1 hB 173 rfl rfl), jx_w1 hB 175 rfl rfl, jx_wp hB (z := z_P_hasRefused) (n := 14) 3 rfl⟩
set_option maxRecDepth 100000 in
theorem v_T_140 {E : jx_E} (hB : jx_B E) : jx_V E "TaskShare" 140 z_T_startAsOnlyOne "TaskShare" := ⟨Or.inl (jx_w1 hB 177 rfl rfl), jx_w1 hB 179 rfl rfl, jx_wp hB (z := z_T_startAsOnlyOne) (n := 7) 4 rfl⟩
set_option maxRecDepth 100000 in
theorem v_T_247 {E : jx_E} (hB : jx_B E) : jx_V E "TaskShare" 247 z_P_freeFrom "TaskShare$Person" := ⟨Or.inr ⟨"TaskShare", jx_w1 hB 181 rfl rfl⟩, jx_w1 hB 183 rfl rfl, jx_wp hB (z := z_P_freeFrom) (n := 14) 5 rfl⟩
set_option maxRecDepth 100000 in
theorem s_P_54 {E : jx_E} (hB : jx_B E) : jx_S E "TaskShare$Person" 54 z_JMath_max := ⟨Or.inl (jx_w1 hB 185 rfl rfl), jx_w1 hB 186 rfl rfl⟩
set_option maxRecDepth 100000 in
theorem v_T_250 {E : jx_E} (hB : jx_B E) : jx_V E "TaskShare" 250 z_P_startOf "TaskShare$Person" := ⟨Or.inr ⟨"TaskShare", jx_w1 hB 188 rfl rfl⟩, jx_w1 hB 190 rfl rfl, jx_wp hB (z := z_P_startOf) (n := 14) 6 rfl⟩
set_option maxRecDepth 100000 in
theorem v_P_61 {E : jx_E} (hB : jx_B E) : jx_V E "TaskShare$Person" 61 z_Y_between "TaskShare$Ways" := ⟨Or.inr ⟨"TaskShare", jx_w1 hB 192 rfl rfl⟩, jx_w1 hB 194 rfl rfl, jx_wp hB (z := z_Y_between) (n := 1) 7 rfl⟩
set_option maxRecDepth 100000 in
theorem v_T_241 {E : jx_E} (hB : jx_B E) : jx_V E "TaskShare" 241 z_K_latenessFrom "TaskShare$Task" := ⟨Or.inr ⟨"TaskShare", jx_w1 hB 196 rfl rfl⟩, jx_w1 hB 198 rfl rfl, jx_wp hB (z := z_K_latenessFrom) (n := 8) 8 rfl⟩
set_option maxRecDepth 100000 in
theorem s_K_36 {E : jx_E} (hB : jx_B E) : jx_S E "TaskShare$Task" 36 z_JMath_max := ⟨Or.inl (jx_w1 hB 201 rfl rfl), jx_w1 hB 186 rfl rfl⟩
set_option maxRecDepth 100000 in
theorem s_T_257 {E : jx_E} (hB : jx_B E) : jx_S E "TaskShare" 257 z_JMath_min := ⟨Or.inl (jx_w1 hB 202 rfl rfl), jx_w1 hB 203 rfl rfl⟩
set_option maxRecDepth 100000 in
theorem v_L_143 {E : jx_E} (hB : jx_B E) : jx_V E "TaskShareLaw" 143 z_T_count "TaskShare" := ⟨Or.inl (jx_w1 hB 205 rfl rfl), jx_w1 hB 206 rfl rfl, jx_w1 hB 207 rfl rfl⟩
set_option maxRecDepth 100000 in
theorem v_T_147 {E : jx_E} (hB : jx_B E) : jx_V E "TaskShare" 147 z_T_tasksIn "TaskShare" := ⟨Or.inl (jx_w1 hB 209 rfl rfl), jx_w1 hB 211 rfl rfl, jx_wp hB (z := z_T_tasksIn) (n := 7) 9 rfl⟩
set_option maxRecDepth 100000 in
theorem v_T_203 {E : jx_E} (hB : jx_B E) : jx_V E "TaskShare" 203 z_T_tasksOf "TaskShare" := ⟨Or.inl (jx_w1 hB 213 rfl rfl), jx_w1 hB 215 rfl rfl, jx_wp hB (z := z_T_tasksOf) (n := 7) 10 rfl⟩
set_option maxRecDepth 100000 in
theorem v_T_237 {E : jx_E} (hB : jx_B E) : jx_V E "TaskShare" 237 z_K_isOf "TaskShare$Task" := ⟨Or.inr ⟨"TaskShare", jx_w1 hB 217 rfl rfl⟩, jx_w1 hB 219 rfl rfl, jx_wp hB (z := z_K_isOf) (n := 8) 11 rfl⟩
set_option maxRecDepth 100000 in
theorem v_T_163 {E : jx_E} (hB : jx_B E) : jx_V E "TaskShare" 163 z_T_latenessOfPlan "TaskShare" := ⟨Or.inl (jx_w1 hB 221 rfl rfl), jx_w1 hB 223 rfl rfl, jx_wp hB (z := z_T_latenessOfPlan) (n := 7) 12 rfl⟩
set_option maxRecDepth 100000 in
theorem s_L_75 {E : jx_E} (hB : jx_B E) : jx_S E "TaskShareLaw" 75 z_L_person := ⟨Or.inl (jx_w1 hB 225 rfl rfl), jx_w1 hB 226 rfl rfl⟩
set_option maxRecDepth 100000 in
theorem v_L_7 {E : jx_E} (hB : jx_B E) : jx_V E "TaskShareLaw" 7 z_T_person "TaskShare" := ⟨Or.inl (jx_w1 hB 230 rfl rfl), jx_w1 hB 231 rfl rfl, jx_w1 hB 232 rfl rfl⟩
set_option maxRecDepth 100000 in
theorem s_T_36 {E : jx_E} (hB : jx_B E) : jx_S E "TaskShare" 36 z_T_needWithin := ⟨Or.inl (jx_w1 hB 234 rfl rfl), jx_w1 hB 235 rfl rfl⟩
set_option maxRecDepth 100000 in
theorem s_T_45 {E : jx_E} (hB : jx_B E) : jx_S E "TaskShare" 45 z_T_needRoom := ⟨Or.inl (jx_w2 hB 66 rfl rfl), jx_w2 hB 67 rfl rfl⟩
set_option maxRecDepth 100000 in
theorem i_T_51 {E : jx_E} (hB : jx_B E) : jx_I E "TaskShare" 51 z_P_init := ⟨Or.inr ⟨"TaskShare", jx_w2 hB 85 rfl rfl⟩, jx_w2 hB 86 rfl rfl⟩
set_option maxRecDepth 100000 in
theorem v_T_54 {E : jx_E} (hB : jx_B E) : jx_V E "TaskShare" 54 z_A_add "java/util/ArrayList" := ⟨Or.inl (jx_w2 hB 150 rfl rfl), jx_w2 hB 151 rfl rfl, jx_w2 hB 152 rfl rfl⟩
set_option maxRecDepth 100000 in
theorem v_A_131 {E : jx_E} (hB : jx_B E) : jx_V E "java/util/ArrayList" 131 z_A_add3 "java/util/ArrayList" := ⟨Or.inl (jx_w2 hB 154 rfl rfl), jx_w2 hB 156 rfl rfl, jx_wp hB (z := z_A_add3) (n := 3) 14 rfl⟩
set_option maxRecDepth 100000 in
theorem v_A_129 {E : jx_E} (hB : jx_B E) : jx_V E "java/util/ArrayList" 129 z_A_grow "java/util/ArrayList" := ⟨Or.inl (jx_w2 hB 158 rfl rfl), jx_w2 hB 160 rfl rfl, jx_wp hB (z := z_A_grow) (n := 3) 15 rfl⟩
set_option maxRecDepth 100000 in
theorem v_A_69 {E : jx_E} (hB : jx_B E) : jx_V E "java/util/ArrayList" 69 z_A_growBy "java/util/ArrayList" := ⟨Or.inl (jx_w2 hB 162 rfl rfl), jx_w2 hB 164 rfl rfl, jx_wp hB (z := z_A_growBy) (n := 3) 16 rfl⟩
set_option maxRecDepth 100000 in
theorem s_A_73 {E : jx_E} (hB : jx_B E) : jx_S E "java/util/ArrayList" 73 z_JArraysSupport_newLength := ⟨Or.inl (jx_w2 hB 166 rfl rfl), jx_w2 hB 167 rfl rfl⟩
set_option maxRecDepth 100000 in
theorem s_JArraysSupport_194 {E : jx_E} (hB : jx_B E) : jx_S E "jdk/internal/util/ArraysSupport" 194 z_JMath_max := ⟨Or.inl (jx_w2 hB 169 rfl rfl), jx_w1 hB 186 rfl rfl⟩
set_option maxRecDepth 100000 in
theorem s_JArraysSupport_201 {E : jx_E} (hB : jx_B E) : jx_S E "jdk/internal/util/ArraysSupport" 201 z_JArraysSupport_hugeLength := ⟨Or.inl (jx_w2 hB 171 rfl rfl), jx_w2 hB 172 rfl rfl⟩
set_option maxRecDepth 100000 in
theorem s_A_66 {E : jx_E} (hB : jx_B E) : jx_S E "java/util/ArrayList" 66 z_JArrays_copyOf := ⟨Or.inl (jx_w2 hB 174 rfl rfl), jx_w2 hB 175 rfl rfl⟩
set_option maxRecDepth 100000 in
theorem s_JArrays_300 {E : jx_E} (hB : jx_B E) : jx_S E "java/util/Arrays" 300 z_JArrays_copyOf3 := ⟨Or.inl (jx_w2 hB 192 rfl rfl), jx_w2 hB 193 rfl rfl⟩
set_option maxRecDepth 100000 in
theorem s_JArrays_304 {E : jx_E} (hB : jx_B E) : jx_S E "java/util/Arrays" 304 z_JMath_min := ⟨Or.inl (jx_w2 hB 198 rfl rfl), jx_w1 hB 203 rfl rfl⟩
set_option maxRecDepth 100000 in
theorem s_A_79 {E : jx_E} (hB : jx_B E) : jx_S E "java/util/ArrayList" 79 z_JMath_max := ⟨Or.inl (jx_w2 hB 202 rfl rfl), jx_w1 hB 186 rfl rfl⟩
set_option maxRecDepth 100000 in
theorem s_L_85 {E : jx_E} (hB : jx_B E) : jx_S E "TaskShareLaw" 85 z_L_rest := ⟨Or.inl (jx_w2 hB 204 rfl rfl), jx_w2 hB 205 rfl rfl⟩
set_option maxRecDepth 100000 in
theorem v_L_17 {E : jx_E} (hB : jx_B E) : jx_V E "TaskShareLaw" 17 z_T_rest "TaskShare" := ⟨Or.inl (jx_w2 hB 208 rfl rfl), jx_w2 hB 209 rfl rfl, jx_w2 hB 210 rfl rfl⟩
set_option maxRecDepth 100000 in
theorem v_T_62 {E : jx_E} (hB : jx_B E) : jx_V E "TaskShare" 62 z_T_personOf "TaskShare" := ⟨Or.inl (jx_w2 hB 212 rfl rfl), jx_w2 hB 214 rfl rfl, jx_wp hB (z := z_T_personOf) (n := 7) 17 rfl⟩
set_option maxRecDepth 100000 in
theorem s_L_89 {E : jx_E} (hB : jx_B E) : jx_S E "TaskShareLaw" 89 z_L_train := ⟨Or.inl (jx_w2 hB 232 rfl rfl), jx_w2 hB 233 rfl rfl⟩
set_option maxRecDepth 100000 in
theorem v_L_23 {E : jx_E} (hB : jx_B E) : jx_V E "TaskShareLaw" 23 z_T_train "TaskShare" := ⟨Or.inl (jx_w2 hB 236 rfl rfl), jx_w2 hB 237 rfl rfl, jx_w2 hB 238 rfl rfl⟩
set_option maxRecDepth 100000 in
theorem v_T_78 {E : jx_E} (hB : jx_B E) : jx_V E "TaskShare" 78 z_P_hasSkill "TaskShare$Person" := ⟨Or.inr ⟨"TaskShare", jx_w3 hB 0 rfl rfl⟩, jx_w1 hB 171 rfl rfl, jx_wp hB (z := z_P_hasSkill) (n := 14) 2 rfl⟩
set_option maxRecDepth 100000 in
theorem s_T_92 {E : jx_E} (hB : jx_B E) : jx_S E "TaskShare" 92 z_JInteger_bitCount := ⟨Or.inl (jx_w3 hB 17 rfl rfl), jx_w3 hB 18 rfl rfl⟩
set_option maxRecDepth 100000 in
theorem s_L_93 {E : jx_E} (hB : jx_B E) : jx_S E "TaskShareLaw" 93 z_L_task := ⟨Or.inl (jx_w3 hB 23 rfl rfl), jx_w3 hB 24 rfl rfl⟩
set_option maxRecDepth 100000 in
theorem v_L_29 {E : jx_E} (hB : jx_B E) : jx_V E "TaskShareLaw" 29 z_T_task "TaskShare" := ⟨Or.inl (jx_w3 hB 26 rfl rfl), jx_w3 hB 27 rfl rfl, jx_w3 hB 28 rfl rfl⟩
set_option maxRecDepth 100000 in
theorem i_T_100 {E : jx_E} (hB : jx_B E) : jx_I E "TaskShare" 100 z_K_init := ⟨Or.inr ⟨"TaskShare", jx_w3 hB 30 rfl rfl⟩, jx_w3 hB 31 rfl rfl⟩
set_option maxRecDepth 100000 in
theorem s_L_96 {E : jx_E} (hB : jx_B E) : jx_S E "TaskShareLaw" 96 z_L_way := ⟨Or.inl (jx_w3 hB 75 rfl rfl), jx_w3 hB 76 rfl rfl⟩
set_option maxRecDepth 100000 in
theorem v_L_32 {E : jx_E} (hB : jx_B E) : jx_V E "TaskShareLaw" 32 z_T_way "TaskShare" := ⟨Or.inl (jx_w3 hB 78 rfl rfl), jx_w3 hB 79 rfl rfl, jx_w3 hB 80 rfl rfl⟩
set_option maxRecDepth 100000 in
theorem v_T_107 {E : jx_E} (hB : jx_B E) : jx_V E "TaskShare" 107 z_Y_put "TaskShare$Ways" := ⟨Or.inr ⟨"TaskShare", jx_w3 hB 83 rfl rfl⟩, jx_w3 hB 85 rfl rfl, jx_wp hB (z := z_Y_put) (n := 1) 18 rfl⟩
set_option maxRecDepth 100000 in
theorem s_L_99 {E : jx_E} (hB : jx_B E) : jx_S E "TaskShareLaw" 99 z_L_refuse := ⟨Or.inl (jx_w3 hB 87 rfl rfl), jx_w3 hB 88 rfl rfl⟩
set_option maxRecDepth 100000 in
theorem v_L_35 {E : jx_E} (hB : jx_B E) : jx_V E "TaskShareLaw" 35 z_T_refuse "TaskShare" := ⟨Or.inl (jx_w3 hB 90 rfl rfl), jx_w3 hB 91 rfl rfl, jx_w3 hB 92 rfl rfl⟩
set_option maxRecDepth 100000 in
theorem v_T_110 {E : jx_E} (hB : jx_B E) : jx_V E "TaskShare" 110 z_T_taskOf "TaskShare" := ⟨Or.inl (jx_w3 hB 94 rfl rfl), jx_w3 hB 96 rfl rfl, jx_wp hB (z := z_T_taskOf) (n := 7) 19 rfl⟩
set_option maxRecDepth 100000 in
theorem s_T_114 {E : jx_E} (hB : jx_B E) : jx_S E "TaskShare" 114 z_T_needOpen := ⟨Or.inl (jx_w3 hB 99 rfl rfl), jx_w3 hB 100 rfl rfl⟩
set_option maxRecDepth 100000 in
theorem v_T_118 {E : jx_E} (hB : jx_B E) : jx_V E "TaskShare" 118 z_P_hasRefused "TaskShare$Person" := ⟨Or.inr ⟨"TaskShare", jx_w3 hB 103 rfl rfl⟩, jx_w1 hB 175 rfl rfl, jx_wp hB (z := z_P_hasRefused) (n := 14) 3 rfl⟩
set_option maxRecDepth 100000 in
theorem v_T_130 {E : jx_E} (hB : jx_B E) : jx_V E "TaskShare" 130 z_K_free "TaskShare$Task" := ⟨Or.inr ⟨"TaskShare", jx_w3 hB 105 rfl rfl⟩, jx_w3 hB 107 rfl rfl, jx_wp hB (z := z_K_free) (n := 8) 20 rfl⟩
set_option maxRecDepth 100000 in
theorem s_L_102 {E : jx_E} (hB : jx_B E) : jx_S E "TaskShareLaw" 102 z_L_bar := ⟨Or.inl (jx_w3 hB 109 rfl rfl), jx_w3 hB 110 rfl rfl⟩
set_option maxRecDepth 100000 in
theorem v_L_39 {E : jx_E} (hB : jx_B E) : jx_V E "TaskShareLaw" 39 z_T_bar "TaskShare" := ⟨Or.inl (jx_w3 hB 112 rfl rfl), jx_w3 hB 113 rfl rfl, jx_w3 hB 114 rfl rfl⟩
set_option maxRecDepth 100000 in
theorem s_L_105 {E : jx_E} (hB : jx_B E) : jx_S E "TaskShareLaw" 105 z_L_assign := ⟨Or.inl (jx_w3 hB 116 rfl rfl), jx_w3 hB 117 rfl rfl⟩
set_option maxRecDepth 100000 in
theorem v_L_42 {E : jx_E} (hB : jx_B E) : jx_V E "TaskShareLaw" 42 z_T_assign "TaskShare" := ⟨Or.inl (jx_w3 hB 119 rfl rfl), jx_w3 hB 120 rfl rfl, jx_w3 hB 121 rfl rfl⟩
set_option maxRecDepth 100000 in
theorem v_T_144 {E : jx_E} (hB : jx_B E) : jx_V E "TaskShare" 144 z_T_freeOpenTasks "TaskShare" := ⟨Or.inl (jx_w3 hB 123 rfl rfl), jx_w3 hB 125 rfl rfl, jx_wp hB (z := z_T_freeOpenTasks) (n := 7) 21 rfl⟩
set_option maxRecDepth 100000 in
theorem v_T_156 {E : jx_E} (hB : jx_B E) : jx_V E "TaskShare" 156 z_X_plan "TaskShare$ExactPlanner" := ⟨Or.inr ⟨"TaskShare", jx_w3 hB 127 rfl rfl⟩, jx_w3 hB 129 rfl rfl, jx_wp hB (z := z_X_plan) (n := 8) 22 rfl⟩
set_option maxRecDepth 100000 in
theorem v_X_44 {E : jx_E} (hB : jx_B E) : jx_V E "TaskShare$ExactPlanner" 44 z_X_collectOpen "TaskShare$ExactPlanner" := ⟨Or.inl (jx_w3 hB 131 rfl rfl), jx_w3 hB 133 rfl rfl, jx_wp hB (z := z_X_collectOpen) (n := 8) 23 rfl⟩
set_option maxRecDepth 100000 in
theorem v_X_87 {E : jx_E} (hB : jx_B E) : jx_V E "TaskShare$ExactPlanner" 87 z_A_clear "java/util/ArrayList" := ⟨Or.inl (jx_w3 hB 135 rfl rfl), jx_w3 hB 136 rfl rfl, jx_w3 hB 137 rfl rfl⟩
set_option maxRecDepth 100000 in
theorem v_X_48 {E : jx_E} (hB : jx_B E) : jx_V E "TaskShare$ExactPlanner" 48 z_A_size "java/util/ArrayList" := ⟨Or.inl (jx_w3 hB 139 rfl rfl), jx_w1 hB 140 rfl rfl, jx_w1 hB 141 rfl rfl⟩
set_option maxRecDepth 100000 in
theorem v_X_52 {E : jx_E} (hB : jx_B E) : jx_V E "TaskShare$ExactPlanner" 52 z_A_get "java/util/ArrayList" := ⟨Or.inl (jx_w3 hB 140 rfl rfl), jx_w1 hB 144 rfl rfl, jx_w1 hB 145 rfl rfl⟩
set_option maxRecDepth 100000 in
theorem v_X_95 {E : jx_E} (hB : jx_B E) : jx_V E "TaskShare$ExactPlanner" 95 z_A_add "java/util/ArrayList" := ⟨Or.inl (jx_w3 hB 142 rfl rfl), jx_w2 hB 151 rfl rfl, jx_w2 hB 152 rfl rfl⟩
set_option maxRecDepth 100000 in
theorem v_X_63 {E : jx_E} (hB : jx_B E) : jx_V E "TaskShare$ExactPlanner" 63 z_P_freeFrom "TaskShare$Person" := ⟨Or.inr ⟨"TaskShare", jx_w3 hB 145 rfl rfl⟩, jx_w1 hB 183 rfl rfl, jx_wp hB (z := z_P_freeFrom) (n := 14) 5 rfl⟩
set_option maxRecDepth 100000 in
theorem v_X_76 {E : jx_E} (hB : jx_B E) : jx_V E "TaskShare$ExactPlanner" 76 z_X_tryOrders "TaskShare$ExactPlanner" := ⟨Or.inl (jx_w3 hB 146 rfl rfl), jx_w3 hB 148 rfl rfl, jx_wp hB (z := z_X_tryOrders) (n := 8) 24 rfl⟩
set_option maxRecDepth 100000 in
theorem v_X_102 {E : jx_E} (hB : jx_B E) : jx_V E "TaskShare$ExactPlanner" 102 z_X_keepIfBetter "TaskShare$ExactPlanner" := ⟨Or.inl (jx_w3 hB 150 rfl rfl), jx_w3 hB 152 rfl rfl, jx_wp hB (z := z_X_keepIfBetter) (n := 8) 25 rfl⟩
set_option maxRecDepth 100000 in
theorem v_X_121 {E : jx_E} (hB : jx_B E) : jx_V E "TaskShare$ExactPlanner" 121 z_X_startsEarlier "TaskShare$ExactPlanner" := ⟨Or.inl (jx_w3 hB 154 rfl rfl), jx_w3 hB 156 rfl rfl, jx_wp hB (z := z_X_startsEarlier) (n := 8) 26 rfl⟩
set_option maxRecDepth 100000 in
theorem v_X_106 {E : jx_E} (hB : jx_B E) : jx_V E "TaskShare$ExactPlanner" 106 z_P_may "TaskShare$Person" := ⟨Or.inr ⟨"TaskShare", jx_w3 hB 158 rfl rfl⟩, jx_w1 hB 166 rfl rfl, jx_wp hB (z := z_P_may) (n := 14) 1 rfl⟩
set_option maxRecDepth 100000 in
theorem v_X_110 {E : jx_E} (hB : jx_B E) : jx_V E "TaskShare$ExactPlanner" 110 z_P_startOf "TaskShare$Person" := ⟨Or.inr ⟨"TaskShare", jx_w3 hB 159 rfl rfl⟩, jx_w1 hB 190 rfl rfl, jx_wp hB (z := z_P_startOf) (n := 14) 6 rfl⟩
set_option maxRecDepth 100000 in
theorem v_X_118 {E : jx_E} (hB : jx_B E) : jx_V E "TaskShare$ExactPlanner" 118 z_K_latenessFrom "TaskShare$Task" := ⟨Or.inr ⟨"TaskShare", jx_w3 hB 160 rfl rfl⟩, jx_w1 hB 198 rfl rfl, jx_wp hB (z := z_K_latenessFrom) (n := 8) 8 rfl⟩
set_option maxRecDepth 100000 in
theorem v_X_80 {E : jx_E} (hB : jx_B E) : jx_V E "TaskShare$ExactPlanner" 80 z_X_shareOut "TaskShare$ExactPlanner" := ⟨Or.inl (jx_w3 hB 161 rfl rfl), jx_w3 hB 163 rfl rfl, jx_wp hB (z := z_X_shareOut) (n := 8) 27 rfl⟩
set_option maxRecDepth 100000 in
theorem s_X_127 {E : jx_E} (hB : jx_B E) : jx_S E "TaskShare$ExactPlanner" 127 z_JInteger_bitCount := ⟨Or.inl (jx_w3 hB 165 rfl rfl), jx_w3 hB 18 rfl rfl⟩
set_option maxRecDepth 100000 in
theorem v_X_133 {E : jx_E} (hB : jx_B E) : jx_V E "TaskShare$ExactPlanner" 133 z_X_rank "TaskShare$ExactPlanner" := ⟨Or.inl (jx_w3 hB 167 rfl rfl), jx_w3 hB 169 rfl rfl, jx_wp hB (z := z_X_rank) (n := 8) 28 rfl⟩
set_option maxRecDepth 100000 in
theorem v_X_137 {E : jx_E} (hB : jx_B E) : jx_V E "TaskShare$ExactPlanner" 137 z_X_chooseFrom "TaskShare$ExactPlanner" := ⟨Or.inl (jx_w3 hB 172 rfl rfl), jx_w3 hB 174 rfl rfl, jx_wp hB (z := z_X_chooseFrom) (n := 8) 29 rfl⟩
set_option maxRecDepth 100000 in
theorem v_X_84 {E : jx_E} (hB : jx_B E) : jx_V E "TaskShare$ExactPlanner" 84 z_X_tell "TaskShare$ExactPlanner" := ⟨Or.inl (jx_w3 hB 176 rfl rfl), jx_w3 hB 178 rfl rfl, jx_wp hB (z := z_X_tell) (n := 8) 30 rfl⟩
set_option maxRecDepth 100000 in
theorem v_X_141 {E : jx_E} (hB : jx_B E) : jx_V E "TaskShare$ExactPlanner" 141 z_K_planFor "TaskShare$Task" := ⟨Or.inr ⟨"TaskShare", jx_w3 hB 180 rfl rfl⟩, jx_w3 hB 182 rfl rfl, jx_wp hB (z := z_K_planFor) (n := 8) 31 rfl⟩
set_option maxRecDepth 100000 in
theorem v_T_160 {E : jx_E} (hB : jx_B E) : jx_V E "TaskShare" 160 z_T_planByRule "TaskShare" := ⟨Or.inl (jx_w3 hB 184 rfl rfl), jx_w3 hB 186 rfl rfl, jx_wp hB (z := z_T_planByRule) (n := 7) 32 rfl⟩
set_option maxRecDepth 100000 in
theorem v_T_262 {E : jx_E} (hB : jx_B E) : jx_V E "TaskShare" 262 z_T_sortOpenByDue "TaskShare" := ⟨Or.inl (jx_w3 hB 188 rfl rfl), jx_w3 hB 190 rfl rfl, jx_wp hB (z := z_T_sortOpenByDue) (n := 7) 33 rfl⟩
set_option maxRecDepth 100000 in
theorem v_T_277 {E : jx_E} (hB : jx_B E) : jx_V E "TaskShare" 277 z_A_clear "java/util/ArrayList" := ⟨Or.inl (jx_w3 hB 192 rfl rfl), jx_w3 hB 136 rfl rfl, jx_w3 hB 137 rfl rfl⟩
set_option maxRecDepth 100000 in
theorem v_T_280 {E : jx_E} (hB : jx_B E) : jx_V E "TaskShare" 280 z_A_addAt "java/util/ArrayList" := ⟨Or.inl (jx_w3 hB 193 rfl rfl), jx_w3 hB 194 rfl rfl, jx_w3 hB 195 rfl rfl⟩
set_option maxRecDepth 100000 in
theorem v_A_135 {E : jx_E} (hB : jx_B E) : jx_V E "java/util/ArrayList" 135 z_A_rangeCheckForAdd "java/util/ArrayList" := ⟨Or.inl (jx_w3 hB 197 rfl rfl), jx_w3 hB 199 rfl rfl, jx_wp hB (z := z_A_rangeCheckForAdd) (n := 3) 34 rfl⟩
set_option maxRecDepth 100000 in
theorem v_T_274 {E : jx_E} (hB : jx_B E) : jx_V E "TaskShare" 274 z_T_addToBestRow "TaskShare" := ⟨Or.inl (jx_w3 hB 202 rfl rfl), jx_w3 hB 204 rfl rfl, jx_wp hB (z := z_T_addToBestRow) (n := 7) 35 rfl⟩
set_option maxRecDepth 100000 in
theorem v_T_283 {E : jx_E} (hB : jx_B E) : jx_V E "TaskShare" 283 z_K_planFor "TaskShare$Task" := ⟨Or.inr ⟨"TaskShare", jx_w3 hB 206 rfl rfl⟩, jx_w3 hB 182 rfl rfl, jx_wp hB (z := z_K_planFor) (n := 8) 31 rfl⟩
set_option maxRecDepth 100000 in
theorem v_T_286 {E : jx_E} (hB : jx_B E) : jx_V E "TaskShare" 286 z_P_addToRow "TaskShare$Person" := ⟨Or.inr ⟨"TaskShare", jx_w3 hB 207 rfl rfl⟩, jx_w3 hB 209 rfl rfl, jx_wp hB (z := z_P_addToRow) (n := 14) 36 rfl⟩
set_option maxRecDepth 100000 in
theorem s_L_118 {E : jx_E} (hB : jx_B E) : jx_S E "TaskShareLaw" 118 z_L_give := ⟨Or.inl (jx_w3 hB 211 rfl rfl), jx_w3 hB 212 rfl rfl⟩
set_option maxRecDepth 100000 in
theorem v_L_46 {E : jx_E} (hB : jx_B E) : jx_V E "TaskShareLaw" 46 z_T_give "TaskShare" := ⟨Or.inl (jx_w3 hB 214 rfl rfl), jx_w3 hB 215 rfl rfl, jx_w3 hB 216 rfl rfl⟩
set_option maxRecDepth 100000 in
theorem v_T_177 {E : jx_E} (hB : jx_B E) : jx_V E "TaskShare" 177 z_T_needAtWork "TaskShare" := ⟨Or.inl (jx_w3 hB 218 rfl rfl), jx_w3 hB 220 rfl rfl, jx_wp hB (z := z_T_needAtWork) (n := 7) 37 rfl⟩
set_option maxRecDepth 100000 in
theorem v_T_181 {E : jx_E} (hB : jx_B E) : jx_V E "TaskShare" 181 z_T_plannedTask "TaskShare" := ⟨Or.inl (jx_w3 hB 224 rfl rfl), jx_w3 hB 226 rfl rfl, jx_wp hB (z := z_T_plannedTask) (n := 7) 38 rfl⟩
set_option maxRecDepth 100000 in
theorem v_T_244 {E : jx_E} (hB : jx_B E) : jx_V E "TaskShare" 244 z_T_plannedBefore "TaskShare" := ⟨Or.inl (jx_w3 hB 228 rfl rfl), jx_w3 hB 230 rfl rfl, jx_wp hB (z := z_T_plannedBefore) (n := 7) 39 rfl⟩
set_option maxRecDepth 100000 in
theorem s_L_121 {E : jx_E} (hB : jx_B E) : jx_S E "TaskShareLaw" 121 z_L_done := ⟨Or.inl (jx_w3 hB 232 rfl rfl), jx_w3 hB 233 rfl rfl⟩
set_option maxRecDepth 100000 in
theorem v_L_49 {E : jx_E} (hB : jx_B E) : jx_V E "TaskShareLaw" 49 z_T_done "TaskShare" := ⟨Or.inl (jx_w3 hB 235 rfl rfl), jx_w3 hB 236 rfl rfl, jx_w3 hB 237 rfl rfl⟩
set_option maxRecDepth 100000 in
theorem s_L_124 {E : jx_E} (hB : jx_B E) : jx_S E "TaskShareLaw" 124 z_L_leaves := ⟨Or.inl (jx_w4 hB 0 rfl rfl), jx_w4 hB 1 rfl rfl⟩
set_option maxRecDepth 100000 in
theorem v_L_52 {E : jx_E} (hB : jx_B E) : jx_V E "TaskShareLaw" 52 z_T_leaves "TaskShare" := ⟨Or.inl (jx_w4 hB 3 rfl rfl), jx_w4 hB 4 rfl rfl, jx_w4 hB 5 rfl rfl⟩
set_option maxRecDepth 100000 in
theorem s_L_127 {E : jx_E} (hB : jx_B E) : jx_S E "TaskShareLaw" 127 z_L_fair := ⟨Or.inl (jx_w4 hB 8 rfl rfl), jx_w4 hB 9 rfl rfl⟩
set_option maxRecDepth 100000 in
theorem v_L_55 {E : jx_E} (hB : jx_B E) : jx_V E "TaskShareLaw" 55 z_T_fair "TaskShare" := ⟨Or.inl (jx_w4 hB 11 rfl rfl), jx_w4 hB 12 rfl rfl, jx_w4 hB 13 rfl rfl⟩
set_option maxRecDepth 100000 in
theorem s_L_130 {E : jx_E} (hB : jx_B E) : jx_S E "TaskShareLaw" 130 z_L_pass := ⟨Or.inl (jx_w4 hB 15 rfl rfl), jx_w4 hB 16 rfl rfl⟩
set_option maxRecDepth 100000 in
theorem v_L_58 {E : jx_E} (hB : jx_B E) : jx_V E "TaskShareLaw" 58 z_T_pass "TaskShare" := ⟨Or.inl (jx_w4 hB 18 rfl rfl), jx_w4 hB 19 rfl rfl, jx_w4 hB 20 rfl rfl⟩
set_option maxRecDepth 100000 in
theorem s_L_134 {E : jx_E} (hB : jx_B E) : jx_S E "TaskShareLaw" 134 z_L_order := ⟨Or.inl (jx_w4 hB 22 rfl rfl), jx_w4 hB 23 rfl rfl⟩
set_option maxRecDepth 100000 in
theorem v_L_62 {E : jx_E} (hB : jx_B E) : jx_V E "TaskShareLaw" 62 z_T_order "TaskShare" := ⟨Or.inl (jx_w4 hB 25 rfl rfl), jx_w4 hB 26 rfl rfl, jx_w4 hB 27 rfl rfl⟩
set_option maxRecDepth 100000 in
theorem s_L_137 {E : jx_E} (hB : jx_B E) : jx_S E "TaskShareLaw" 137 z_L_told := ⟨Or.inl (jx_w4 hB 30 rfl rfl), jx_w4 hB 31 rfl rfl⟩
set_option maxRecDepth 100000 in
theorem v_L_65 {E : jx_E} (hB : jx_B E) : jx_V E "TaskShareLaw" 65 z_T_told "TaskShare" := ⟨Or.inl (jx_w4 hB 33 rfl rfl), jx_w4 hB 34 rfl rfl, jx_w4 hB 35 rfl rfl⟩
set_option maxRecDepth 100000 in
theorem s_L_140 {E : jx_E} (hB : jx_B E) : jx_S E "TaskShareLaw" 140 z_L_known := ⟨Or.inl (jx_w4 hB 38 rfl rfl), jx_w4 hB 39 rfl rfl⟩
set_option maxRecDepth 100000 in
theorem v_L_68 {E : jx_E} (hB : jx_B E) : jx_V E "TaskShareLaw" 68 z_T_known "TaskShare" := ⟨Or.inl (jx_w4 hB 41 rfl rfl), jx_w4 hB 42 rfl rfl, jx_w4 hB 43 rfl rfl⟩
set_option maxRecDepth 100000 in
theorem i_L_74 {E : jx_E} (hB : jx_B E) : jx_I E "TaskShareLaw" 74 z_M_init := ⟨Or.inl (jx_w4 hB 48 rfl rfl), jx_w4 hB 49 rfl rfl⟩
set_option maxRecDepth 100000 in
theorem v_L_81 {E : jx_E} (hB : jx_B E) : jx_V E "TaskShareLaw" 81 z_M_thrown "TaskShareModel" := ⟨Or.inl (jx_w4 hB 144 rfl rfl), jx_w4 hB 145 rfl rfl, jx_w4 hB 146 rfl rfl⟩
set_option maxRecDepth 100000 in
theorem v_L_80 {E : jx_E} (hB : jx_B E) : jx_V E "TaskShareLaw" 80 z_M_person "TaskShareModel" := ⟨Or.inl (jx_w4 hB 148 rfl rfl), jx_w4 hB 149 rfl rfl, jx_w4 hB 150 rfl rfl⟩
set_option maxRecDepth 100000 in
theorem s_M_90 {E : jx_E} (hB : jx_B E) : jx_S E "TaskShareModel" 90 z_M_within := ⟨Or.inl (jx_w4 hB 152 rfl rfl), jx_w4 hB 153 rfl rfl⟩
set_option maxRecDepth 100000 in
theorem v_L_88 {E : jx_E} (hB : jx_B E) : jx_V E "TaskShareLaw" 88 z_M_rest "TaskShareModel" := ⟨Or.inl (jx_w4 hB 156 rfl rfl), jx_w4 hB 157 rfl rfl, jx_w4 hB 158 rfl rfl⟩
set_option maxRecDepth 100000 in
theorem v_M_98 {E : jx_E} (hB : jx_B E) : jx_V E "TaskShareModel" 98 z_M_isPerson "TaskShareModel" := ⟨Or.inl (jx_w4 hB 160 rfl rfl), jx_w4 hB 162 rfl rfl, jx_wp hB (z := z_M_isPerson) (n := 30) 40 rfl⟩
set_option maxRecDepth 100000 in
theorem v_L_92 {E : jx_E} (hB : jx_B E) : jx_V E "TaskShareLaw" 92 z_M_train "TaskShareModel" := ⟨Or.inl (jx_w4 hB 164 rfl rfl), jx_w4 hB 165 rfl rfl, jx_w4 hB 166 rfl rfl⟩
set_option maxRecDepth 100000 in
theorem s_M_102 {E : jx_E} (hB : jx_B E) : jx_S E "TaskShareModel" 102 z_M_bits := ⟨Or.inl (jx_w4 hB 168 rfl rfl), jx_w4 hB 169 rfl rfl⟩
set_option maxRecDepth 100000 in
theorem v_L_95 {E : jx_E} (hB : jx_B E) : jx_V E "TaskShareLaw" 95 z_M_task "TaskShareModel" := ⟨Or.inl (jx_w4 hB 171 rfl rfl), jx_w4 hB 172 rfl rfl, jx_w4 hB 173 rfl rfl⟩
set_option maxRecDepth 100000 in
theorem v_L_98 {E : jx_E} (hB : jx_B E) : jx_V E "TaskShareLaw" 98 z_M_way "TaskShareModel" := ⟨Or.inl (jx_w4 hB 175 rfl rfl), jx_w4 hB 176 rfl rfl, jx_w4 hB 177 rfl rfl⟩
set_option maxRecDepth 100000 in
theorem v_L_101 {E : jx_E} (hB : jx_B E) : jx_V E "TaskShareLaw" 101 z_M_refuse "TaskShareModel" := ⟨Or.inl (jx_w4 hB 179 rfl rfl), jx_w4 hB 180 rfl rfl, jx_w4 hB 181 rfl rfl⟩
set_option maxRecDepth 100000 in
theorem v_M_106 {E : jx_E} (hB : jx_B E) : jx_V E "TaskShareModel" 106 z_M_isTask "TaskShareModel" := ⟨Or.inl (jx_w4 hB 183 rfl rfl), jx_w4 hB 185 rfl rfl, jx_wp hB (z := z_M_isTask) (n := 30) 41 rfl⟩
set_option maxRecDepth 100000 in
theorem v_M_109 {E : jx_E} (hB : jx_B E) : jx_V E "TaskShareModel" 109 z_M_hasRefused "TaskShareModel" := ⟨Or.inl (jx_w4 hB 187 rfl rfl), jx_w4 hB 189 rfl rfl, jx_wp hB (z := z_M_hasRefused) (n := 30) 42 rfl⟩
set_option maxRecDepth 100000 in
theorem v_M_113 {E : jx_E} (hB : jx_B E) : jx_V E "TaskShareModel" 113 z_M_free "TaskShareModel" := ⟨Or.inl (jx_w4 hB 191 rfl rfl), jx_w4 hB 193 rfl rfl, jx_wp hB (z := z_M_free) (n := 30) 43 rfl⟩
set_option maxRecDepth 100000 in
theorem v_L_104 {E : jx_E} (hB : jx_B E) : jx_V E "TaskShareLaw" 104 z_M_bar "TaskShareModel" := ⟨Or.inl (jx_w4 hB 195 rfl rfl), jx_w4 hB 196 rfl rfl, jx_w4 hB 197 rfl rfl⟩
set_option maxRecDepth 100000 in
theorem v_M_131 {E : jx_E} (hB : jx_B E) : jx_V E "TaskShareModel" 131 z_M_aloneAt "TaskShareModel" := ⟨Or.inl (jx_w4 hB 199 rfl rfl), jx_w4 hB 201 rfl rfl, jx_wp hB (z := z_M_aloneAt) (n := 30) 44 rfl⟩
set_option maxRecDepth 100000 in
theorem v_M_124 {E : jx_E} (hB : jx_B E) : jx_V E "TaskShareModel" 124 z_M_readyAt "TaskShareModel" := ⟨Or.inl (jx_w4 hB 203 rfl rfl), jx_w4 hB 205 rfl rfl, jx_wp hB (z := z_M_readyAt) (n := 30) 45 rfl⟩
set_option maxRecDepth 100000 in
theorem s_M_120 {E : jx_E} (hB : jx_B E) : jx_S E "TaskShareModel" 120 z_M_greater := ⟨Or.inl (jx_w4 hB 207 rfl rfl), jx_w4 hB 208 rfl rfl⟩
set_option maxRecDepth 100000 in
theorem v_M_127 {E : jx_E} (hB : jx_B E) : jx_V E "TaskShareModel" 127 z_M_startOf "TaskShareModel" := ⟨Or.inl (jx_w4 hB 210 rfl rfl), jx_w4 hB 212 rfl rfl, jx_wp hB (z := z_M_startOf) (n := 30) 46 rfl⟩
set_option maxRecDepth 100000 in
theorem v_L_108 {E : jx_E} (hB : jx_B E) : jx_V E "TaskShareLaw" 108 z_M_assign "TaskShareModel" := ⟨Or.inl (jx_w4 hB 214 rfl rfl), jx_w4 hB 215 rfl rfl, jx_w4 hB 216 rfl rfl⟩
set_option maxRecDepth 100000 in
theorem v_M_175 {E : jx_E} (hB : jx_B E) : jx_V E "TaskShareModel" 175 z_M_count "TaskShareModel" := ⟨Or.inl (jx_w4 hB 218 rfl rfl), jx_w4 hB 219 rfl rfl, jx_w4 hB 220 rfl rfl⟩
set_option maxRecDepth 100000 in
theorem v_M_194 {E : jx_E} (hB : jx_B E) : jx_V E "TaskShareModel" 194 z_M_inState "TaskShareModel" := ⟨Or.inl (jx_w4 hB 222 rfl rfl), jx_w4 hB 224 rfl rfl, jx_wp hB (z := z_M_inState) (n := 30) 47 rfl⟩
set_option maxRecDepth 100000 in
theorem v_M_134 {E : jx_E} (hB : jx_B E) : jx_V E "TaskShareModel" 134 z_M_lateBy "TaskShareModel" := ⟨Or.inl (jx_w4 hB 226 rfl rfl), jx_w4 hB 228 rfl rfl, jx_wp hB (z := z_M_lateBy) (n := 30) 48 rfl⟩
set_option maxRecDepth 100000 in
theorem v_M_182 {E : jx_E} (hB : jx_B E) : jx_V E "TaskShareModel" 182 z_M_planByRule "TaskShareModel" := ⟨Or.inl (jx_w4 hB 230 rfl rfl), jx_w4 hB 232 rfl rfl, jx_wp hB (z := z_M_planByRule) (n := 30) 49 rfl⟩
set_option maxRecDepth 100000 in
theorem v_M_172 {E : jx_E} (hB : jx_B E) : jx_V E "TaskShareModel" 172 z_M_planOne "TaskShareModel" := ⟨Or.inl (jx_w4 hB 234 rfl rfl), jx_w4 hB 236 rfl rfl, jx_wp hB (z := z_M_planOne) (n := 30) 50 rfl⟩
set_option maxRecDepth 100000 in
theorem v_M_144 {E : jx_E} (hB : jx_B E) : jx_V E "TaskShareModel" 144 z_M_may "TaskShareModel" := ⟨Or.inl (jx_w4 hB 238 rfl rfl), jx_w5 hB 0 rfl rfl, jx_wp hB (z := z_M_may) (n := 30) 51 rfl⟩
set_option maxRecDepth 100000 in
theorem v_M_166 {E : jx_E} (hB : jx_B E) : jx_V E "TaskShareModel" 166 z_M_behind "TaskShareModel" := ⟨Or.inl (jx_w5 hB 2 rfl rfl), jx_w5 hB 4 rfl rfl, jx_wp hB (z := z_M_behind) (n := 30) 52 rfl⟩
set_option maxRecDepth 100000 in
theorem v_M_169 {E : jx_E} (hB : jx_B E) : jx_V E "TaskShareModel" 169 z_M_load "TaskShareModel" := ⟨Or.inl (jx_w5 hB 6 rfl rfl), jx_w5 hB 8 rfl rfl, jx_wp hB (z := z_M_load) (n := 30) 53 rfl⟩
set_option maxRecDepth 100000 in
theorem v_M_185 {E : jx_E} (hB : jx_B E) : jx_V E "TaskShareModel" 185 z_M_planExactly "TaskShareModel" := ⟨Or.inl (jx_w5 hB 10 rfl rfl), jx_w5 hB 12 rfl rfl, jx_wp hB (z := z_M_planExactly) (n := 30) 54 rfl⟩
set_option maxRecDepth 100000 in
theorem v_M_159 {E : jx_E} (hB : jx_B E) : jx_V E "TaskShareModel" 159 z_M_findOrder "TaskShareModel" := ⟨Or.inl (jx_w5 hB 14 rfl rfl), jx_w5 hB 16 rfl rfl, jx_wp hB (z := z_M_findOrder) (n := 30) 55 rfl⟩
set_option maxRecDepth 100000 in
theorem v_M_147 {E : jx_E} (hB : jx_B E) : jx_V E "TaskShareModel" 147 z_M_tryOrder "TaskShareModel" := ⟨Or.inl (jx_w5 hB 18 rfl rfl), jx_w5 hB 20 rfl rfl, jx_wp hB (z := z_M_tryOrder) (n := 30) 56 rfl⟩
set_option maxRecDepth 100000 in
theorem v_M_150 {E : jx_E} (hB : jx_B E) : jx_V E "TaskShareModel" 150 z_M_startsAreLess "TaskShareModel" := ⟨Or.inl (jx_w5 hB 22 rfl rfl), jx_w5 hB 24 rfl rfl, jx_wp hB (z := z_M_startsAreLess) (n := 30) 57 rfl⟩
set_option maxRecDepth 100000 in
theorem v_M_153 {E : jx_E} (hB : jx_B E) : jx_V E "TaskShareModel" 153 z_M_nextOrder "TaskShareModel" := ⟨Or.inl (jx_w5 hB 26 rfl rfl), jx_w5 hB 28 rfl rfl, jx_wp hB (z := z_M_nextOrder) (n := 30) 58 rfl⟩
set_option maxRecDepth 100000 in
theorem v_M_137 {E : jx_E} (hB : jx_B E) : jx_V E "TaskShareModel" 137 z_M_swap "TaskShareModel" := ⟨Or.inl (jx_w5 hB 30 rfl rfl), jx_w5 hB 32 rfl rfl, jx_wp hB (z := z_M_swap) (n := 30) 59 rfl⟩
set_option maxRecDepth 100000 in
theorem v_M_162 {E : jx_E} (hB : jx_B E) : jx_V E "TaskShareModel" 162 z_M_costOf "TaskShareModel" := ⟨Or.inl (jx_w5 hB 34 rfl rfl), jx_w5 hB 36 rfl rfl, jx_wp hB (z := z_M_costOf) (n := 30) 60 rfl⟩
set_option maxRecDepth 100000 in
theorem v_M_156 {E : jx_E} (hB : jx_B E) : jx_V E "TaskShareModel" 156 z_M_setOf "TaskShareModel" := ⟨Or.inl (jx_w5 hB 38 rfl rfl), jx_w5 hB 40 rfl rfl, jx_wp hB (z := z_M_setOf) (n := 30) 61 rfl⟩
set_option maxRecDepth 100000 in
theorem v_L_113 {E : jx_E} (hB : jx_B E) : jx_V E "TaskShareLaw" 113 z_M_exact "TaskShareModel" := ⟨Or.inl (jx_w5 hB 42 rfl rfl), jx_w5 hB 43 rfl rfl, jx_w5 hB 44 rfl rfl⟩
set_option maxRecDepth 100000 in
theorem v_L_117 {E : jx_E} (hB : jx_B E) : jx_V E "TaskShareLaw" 117 z_M_bound "TaskShareModel" := ⟨Or.inl (jx_w5 hB 46 rfl rfl), jx_w5 hB 47 rfl rfl, jx_w5 hB 48 rfl rfl⟩
set_option maxRecDepth 100000 in
theorem v_L_120 {E : jx_E} (hB : jx_B E) : jx_V E "TaskShareLaw" 120 z_M_give "TaskShareModel" := ⟨Or.inl (jx_w5 hB 50 rfl rfl), jx_w5 hB 51 rfl rfl, jx_w5 hB 52 rfl rfl⟩
set_option maxRecDepth 100000 in
theorem v_M_188 {E : jx_E} (hB : jx_B E) : jx_V E "TaskShareModel" 188 z_M_planned "TaskShareModel" := ⟨Or.inl (jx_w5 hB 54 rfl rfl), jx_w5 hB 56 rfl rfl, jx_wp hB (z := z_M_planned) (n := 30) 62 rfl⟩
set_option maxRecDepth 100000 in
theorem v_L_123 {E : jx_E} (hB : jx_B E) : jx_V E "TaskShareLaw" 123 z_M_done "TaskShareModel" := ⟨Or.inl (jx_w5 hB 58 rfl rfl), jx_w5 hB 59 rfl rfl, jx_w5 hB 60 rfl rfl⟩
set_option maxRecDepth 100000 in
theorem v_M_191 {E : jx_E} (hB : jx_B E) : jx_V E "TaskShareModel" 191 z_M_doneBy "TaskShareModel" := ⟨Or.inl (jx_w5 hB 62 rfl rfl), jx_w5 hB 64 rfl rfl, jx_wp hB (z := z_M_doneBy) (n := 30) 63 rfl⟩
set_option maxRecDepth 100000 in
theorem v_L_126 {E : jx_E} (hB : jx_B E) : jx_V E "TaskShareLaw" 126 z_M_leaves "TaskShareModel" := ⟨Or.inl (jx_w5 hB 66 rfl rfl), jx_w5 hB 67 rfl rfl, jx_w5 hB 68 rfl rfl⟩
set_option maxRecDepth 100000 in
theorem v_L_129 {E : jx_E} (hB : jx_B E) : jx_V E "TaskShareLaw" 129 z_M_fair "TaskShareModel" := ⟨Or.inl (jx_w5 hB 70 rfl rfl), jx_w5 hB 71 rfl rfl, jx_w5 hB 72 rfl rfl⟩
set_option maxRecDepth 100000 in
theorem v_L_133 {E : jx_E} (hB : jx_B E) : jx_V E "TaskShareLaw" 133 z_M_pass "TaskShareModel" := ⟨Or.inl (jx_w5 hB 74 rfl rfl), jx_w5 hB 75 rfl rfl, jx_w5 hB 76 rfl rfl⟩
set_option maxRecDepth 100000 in
theorem v_L_136 {E : jx_E} (hB : jx_B E) : jx_V E "TaskShareLaw" 136 z_M_order "TaskShareModel" := ⟨Or.inl (jx_w5 hB 78 rfl rfl), jx_w5 hB 79 rfl rfl, jx_w5 hB 80 rfl rfl⟩
set_option maxRecDepth 100000 in
theorem v_L_139 {E : jx_E} (hB : jx_B E) : jx_V E "TaskShareLaw" 139 z_M_told "TaskShareModel" := ⟨Or.inl (jx_w5 hB 82 rfl rfl), jx_w5 hB 83 rfl rfl, jx_w5 hB 84 rfl rfl⟩
set_option maxRecDepth 100000 in
theorem v_L_142 {E : jx_E} (hB : jx_B E) : jx_V E "TaskShareLaw" 142 z_M_known "TaskShareModel" := ⟨Or.inl (jx_w5 hB 86 rfl rfl), jx_w5 hB 87 rfl rfl, jx_w5 hB 88 rfl rfl⟩
set_option maxRecDepth 100000 in
theorem v_L_146 {E : jx_E} (hB : jx_B E) : jx_V E "TaskShareLaw" 146 z_M_count "TaskShareModel" := ⟨Or.inl (jx_w5 hB 90 rfl rfl), jx_w4 hB 219 rfl rfl, jx_w4 hB 220 rfl rfl⟩
