/-! 73.cfacts: what the tables say of casts, of Math, of throws -/
set_option maxRecDepth 100000 in
theorem h_T_49 {E : jx_E} (hB : jx_B E) : (Jvm.Cond.classLink "TaskShare" 49 "TaskShare$Person").before #[] E.1 = true := jx_w1 hB 163 rfl rfl
set_option maxRecDepth 100000 in
theorem h_T_98 {E : jx_E} (hB : jx_B E) : (Jvm.Cond.classLink "TaskShare" 98 "TaskShare$Task").before #[] E.1 = true := jx_w1 hB 157 rfl rfl
set_option maxRecDepth 100000 in
theorem h_X_56 {E : jx_E} (hB : jx_B E) : (Jvm.Cond.classLink "TaskShare$ExactPlanner" 56 "TaskShare$Person").before #[] E.1 = true := jx_w3 hB 143 rfl rfl
set_option maxRecDepth 100000 in
theorem h_X_90 {E : jx_E} (hB : jx_B E) : (Jvm.Cond.classLink "TaskShare$ExactPlanner" 90 "TaskShare$Task").before #[] E.1 = true := jx_w3 hB 141 rfl rfl
set_option maxRecDepth 100000 in
theorem h_JArrays_110 {E : jx_E} (hB : jx_B E) : (Jvm.Cond.classLink "java/util/Arrays" 110 "[Ljava/lang/Object;").before #[] E.1 = true := jx_w2 hB 195 rfl rfl
set_option maxRecDepth 100000 in
theorem h_cast2 {E : jx_E} (hB : jx_B E) : (Jvm.Cond.castable jx_q2.1 "TaskShare$Person").before #[] E.1 = true := jx_w5 hB 93 rfl rfl
-- castable to Object: 1061
set_option maxRecDepth 100000 in
theorem h_cast3 {E : jx_E} (hB : jx_B E) : (Jvm.Cond.castable jx_q3.1 "TaskShare$Task").before #[] E.1 = true := jx_w5 hB 92 rfl rfl
-- castable to Object: 1062
theorem h_math {E : jx_E} (hB : jx_B E) : (Jvm.Cond.initialized "java/lang/Math").before #[] E.1 = true := jx_w1 hB 15 rfl rfl
set_option maxRecDepth 100000 in
theorem h_max1 {E : jx_E} (hB : jx_B E) : (Jvm.Cond.static Lib.Math.max.name).before #[] E.1 = true := jx_w1 hB 186 rfl rfl
set_option maxRecDepth 100000 in
theorem h_max2 {E : jx_E} (hB : jx_B E) : (Jvm.Cond.code Lib.Math.max.name Lib.Math.max.code 2 (some .int)).before #[] E.1 = true := jx_w1 hB 187 rfl rfl
set_option maxRecDepth 100000 in
theorem h_min1 {E : jx_E} (hB : jx_B E) : (Jvm.Cond.static Lib.Math.min.name).before #[] E.1 = true := jx_w1 hB 203 rfl rfl
set_option maxRecDepth 100000 in
theorem h_min2 {E : jx_E} (hB : jx_B E) : (Jvm.Cond.code Lib.Math.min.name Lib.Math.min.code 2 (some .int)).before #[] E.1 = true := jx_w1 hB 204 rfl rfl
set_option maxRecDepth 100000 in
theorem h_P_54 {E : jx_E} (hB : jx_B E) : (Jvm.Cond.methodLink "TaskShare$Person" 54 Lib.Math.max.name).before #[] E.1 = true := jx_w1 hB 185 rfl rfl
set_option maxRecDepth 100000 in
theorem h_K_36 {E : jx_E} (hB : jx_B E) : (Jvm.Cond.methodLink "TaskShare$Task" 36 Lib.Math.max.name).before #[] E.1 = true := jx_w1 hB 201 rfl rfl
set_option maxRecDepth 100000 in
theorem h_T_257 {E : jx_E} (hB : jx_B E) : (Jvm.Cond.methodLink "TaskShare" 257 Lib.Math.min.name).before #[] E.1 = true := jx_w1 hB 202 rfl rfl
set_option maxRecDepth 100000 in
theorem h_JArraysSupport_194 {E : jx_E} (hB : jx_B E) : (Jvm.Cond.methodLink "jdk/internal/util/ArraysSupport" 194 Lib.Math.max.name).before #[] E.1 = true := jx_w2 hB 169 rfl rfl
set_option maxRecDepth 100000 in
theorem h_JArrays_304 {E : jx_E} (hB : jx_B E) : (Jvm.Cond.methodLink "java/util/Arrays" 304 Lib.Math.min.name).before #[] E.1 = true := jx_w2 hB 198 rfl rfl
set_option maxRecDepth 100000 in
theorem h_A_79 {E : jx_E} (hB : jx_B E) : (Jvm.Cond.methodLink "java/util/ArrayList" 79 Lib.Math.max.name).before #[] E.1 = true := jx_w2 hB 202 rfl rfl
