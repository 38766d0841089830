/-! 23.calls: what the tables say of the methods and of the calls -/
set_option maxRecDepth 100000 in
theorem m_T_init {E : jx_E} (hB : jx_B E) : jx_M E z_T_init Y_T_init 0 := ⟨plainFor_of_name (by decide +kernel), rfl, rfl, jx_w1 hB 28 rfl rfl, jx_w1 hB 1 rfl rfl, by decide, ⟨by decide +kernel, by decide +kernel⟩, by decide +kernel⟩
set_option maxRecDepth 100000 in
theorem m_A_init {E : jx_E} (hB : jx_B E) : jx_M E z_A_init Y_A_init 0 := ⟨plainFor_of_name (by decide +kernel), rfl, rfl, jx_w1 hB 36 rfl rfl, jx_w1 hB 4 rfl rfl, by decide, ⟨by decide +kernel, by decide +kernel⟩, by decide +kernel⟩
set_option maxRecDepth 100000 in
theorem m_JAbstractList_init {E : jx_E} (hB : jx_B E) : jx_M E z_JAbstractList_init Y_JAbstractList_init 0 := ⟨plainFor_of_name (by decide +kernel), rfl, rfl, jx_w1 hB 39 rfl rfl, jx_w1 hB 3 rfl rfl, by decide, ⟨by decide +kernel, by decide +kernel⟩, by decide +kernel⟩
set_option maxRecDepth 100000 in
theorem m_JAbstractCollection_init {E : jx_E} (hB : jx_B E) : jx_M E z_JAbstractCollection_init Y_JAbstractCollection_init 0 := ⟨plainFor_of_name (by decide +kernel), rfl, rfl, jx_w1 hB 42 rfl rfl, jx_w1 hB 2 rfl rfl, by decide, ⟨by decide +kernel, by decide +kernel⟩, by decide +kernel⟩
set_option maxRecDepth 100000 in
theorem m_Y_init {E : jx_E} (hB : jx_B E) : jx_M E z_Y_init Y_Y_init 0 := ⟨plainFor_of_name (by decide +kernel), rfl, rfl, jx_w1 hB 62 rfl rfl, jx_w1 hB 5 rfl rfl, by decide, ⟨by decide +kernel, by decide +kernel⟩, by decide +kernel⟩
set_option maxRecDepth 100000 in
theorem m_X_init {E : jx_E} (hB : jx_B E) : jx_M E z_X_init Y_X_init 0 := ⟨plainFor_of_name (by decide +kernel), rfl, rfl, jx_w1 hB 73 rfl rfl, jx_w1 hB 6 rfl rfl, by decide, ⟨by decide +kernel, by decide +kernel⟩, by decide +kernel⟩
set_option maxRecDepth 100000 in
theorem m_T_exact {E : jx_E} (hB : jx_B E) : jx_M E z_T_exact Y_T_exact 0 := ⟨plainFor_of_name (by decide +kernel), rfl, rfl, jx_w1 hB 134 rfl rfl, jx_w1 hB 1 rfl rfl, by decide, ⟨by decide +kernel, by decide +kernel⟩, by decide +kernel⟩
set_option maxRecDepth 100000 in
theorem m_T_bound {E : jx_E} (hB : jx_B E) : jx_M E z_T_bound Y_T_bound 0 := ⟨plainFor_of_name (by decide +kernel), rfl, rfl, jx_w1 hB 138 rfl rfl, jx_w1 hB 1 rfl rfl, by decide, ⟨by decide +kernel, by decide +kernel⟩, by decide +kernel⟩
set_option maxRecDepth 100000 in
theorem m_A_size {E : jx_E} (hB : jx_B E) : jx_M E z_A_size Y_A_size 0 := ⟨plainFor_of_name (by decide +kernel), rfl, rfl, jx_w1 hB 142 rfl rfl, jx_w1 hB 4 rfl rfl, by decide, ⟨by decide +kernel, by decide +kernel⟩, by decide +kernel⟩
set_option maxRecDepth 100000 in
theorem m_A_get {E : jx_E} (hB : jx_B E) : jx_M E z_A_get Y_A_get 1 := ⟨plainFor_of_name (by decide +kernel), rfl, rfl, jx_w1 hB 146 rfl rfl, jx_w1 hB 4 rfl rfl, by decide, ⟨by decide +kernel, by decide +kernel⟩, by decide +kernel⟩
set_option maxRecDepth 100000 in
theorem m_JObjects_checkIndex {E : jx_E} (hB : jx_B E) : jx_M E z_JObjects_checkIndex Y_JObjects_checkIndex 2 := ⟨plainFor_of_name (by decide +kernel), rfl, rfl, jx_w1 hB 149 rfl rfl, jx_w1 hB 19 rfl rfl, by decide, ⟨by decide +kernel, by decide +kernel⟩, by decide +kernel⟩
set_option maxRecDepth 100000 in
theorem m_JPreconditions_checkIndex {E : jx_E} (hB : jx_B E) : jx_M E z_JPreconditions_checkIndex Y_JPreconditions_checkIndex 3 := ⟨plainFor_of_name (by decide +kernel), rfl, rfl, jx_w1 hB 152 rfl rfl, jx_w1 hB 20 rfl rfl, by decide, ⟨by decide +kernel, by decide +kernel⟩, by decide +kernel⟩
set_option maxRecDepth 100000 in
theorem m_A_elementData {E : jx_E} (hB : jx_B E) : jx_M E z_A_elementData Y_A_elementData 1 := ⟨plainFor_of_name (by decide +kernel), rfl, rfl, jx_w1 hB 156 rfl rfl, jx_w1 hB 4 rfl rfl, by decide, ⟨by decide +kernel, by decide +kernel⟩, by decide +kernel⟩
set_option maxRecDepth 100000 in
theorem m_T_leastLatenessAlone {E : jx_E} (hB : jx_B E) : jx_M E z_T_leastLatenessAlone Y_T_leastLatenessAlone 1 := ⟨plainFor_of_name (by decide +kernel), rfl, rfl, jx_w1 hB 161 rfl rfl, jx_w1 hB 1 rfl rfl, by decide, ⟨by decide +kernel, by decide +kernel⟩, by decide +kernel⟩
set_option maxRecDepth 100000 in
theorem m_P_may {E : jx_E} (hB : jx_B E) : jx_M E z_P_may Y_P_may 1 := ⟨plainFor_of_name (by decide +kernel), rfl, rfl, jx_w1 hB 168 rfl rfl, jx_w1 hB 13 rfl rfl, by decide, ⟨by decide +kernel, by decide +kernel⟩, by decide +kernel⟩
set_option maxRecDepth 100000 in
theorem m_P_hasSkill {E : jx_E} (hB : jx_B E) : jx_M E z_P_hasSkill Y_P_hasSkill 1 := ⟨plainFor_of_name (by decide +kernel), rfl, rfl, jx_w1 hB 172 rfl rfl, jx_w1 hB 13 rfl rfl, by decide, ⟨by decide +kernel, by decide +kernel⟩, by decide +kernel⟩
set_option maxRecDepth 100000 in
theorem m_P_hasRefused {E : jx_E} (hB : jx_B E) : jx_M E z_P_hasRefused Y_P_hasRefused 1 := ⟨plainFor_of_name (by decide +kernel), rfl, rfl, jx_w1 hB 176 rfl rfl, jx_w1 hB 13 rfl rfl, by decide, ⟨by decide +kernel, by decide +kernel⟩, by decide +kernel⟩
set_option maxRecDepth 100000 in
theorem m_T_startAsOnlyOne {E : jx_E} (hB : jx_B E) : jx_M E z_T_startAsOnlyOne Y_T_startAsOnlyOne 2 := ⟨plainFor_of_name (by decide +kernel), rfl, rfl, jx_w1 hB 180 rfl rfl, jx_w1 hB 1 rfl rfl, by decide, ⟨by decide +kernel, by decide +kernel⟩, by decide +kernel⟩
set_option maxRecDepth 100000 in
theorem m_P_freeFrom {E : jx_E} (hB : jx_B E) : jx_M E z_P_freeFrom Y_P_freeFrom 1 := ⟨plainFor_of_name (by decide +kernel), rfl, rfl, jx_w1 hB 184 rfl rfl, jx_w1 hB 13 rfl rfl, by decide, ⟨by decide +kernel, by decide +kernel⟩, by decide +kernel⟩
set_option maxRecDepth 100000 in
theorem m_P_startOf {E : jx_E} (hB : jx_B E) : jx_M E z_P_startOf Y_P_startOf 4 := ⟨plainFor_of_name (by decide +kernel), rfl, rfl, jx_w1 hB 191 rfl rfl, jx_w1 hB 13 rfl rfl, by decide, ⟨by decide +kernel, by decide +kernel⟩, by decide +kernel⟩
set_option maxRecDepth 100000 in
theorem m_Y_between {E : jx_E} (hB : jx_B E) : jx_M E z_Y_between Y_Y_between 2 := ⟨plainFor_of_name (by decide +kernel), rfl, rfl, jx_w1 hB 195 rfl rfl, jx_w1 hB 5 rfl rfl, by decide, ⟨by decide +kernel, by decide +kernel⟩, by decide +kernel⟩
set_option maxRecDepth 100000 in
theorem m_K_latenessFrom {E : jx_E} (hB : jx_B E) : jx_M E z_K_latenessFrom Y_K_latenessFrom 1 := ⟨plainFor_of_name (by decide +kernel), rfl, rfl, jx_w1 hB 200 rfl rfl, jx_w1 hB 23 rfl rfl, by decide, ⟨by decide +kernel, by decide +kernel⟩, by decide +kernel⟩
set_option maxRecDepth 100000 in
theorem m_T_count {E : jx_E} (hB : jx_B E) : jx_M E z_T_count Y_T_count 1 := ⟨plainFor_of_name (by decide +kernel), rfl, rfl, jx_w1 hB 208 rfl rfl, jx_w1 hB 1 rfl rfl, by decide, ⟨by decide +kernel, by decide +kernel⟩, by decide +kernel⟩
set_option maxRecDepth 100000 in
theorem m_T_tasksIn {E : jx_E} (hB : jx_B E) : jx_M E z_T_tasksIn Y_T_tasksIn 1 := ⟨plainFor_of_name (by decide +kernel), rfl, rfl, jx_w1 hB 212 rfl rfl, jx_w1 hB 1 rfl rfl, by decide, ⟨by decide +kernel, by decide +kernel⟩, by decide +kernel⟩
set_option maxRecDepth 100000 in
theorem m_T_tasksOf {E : jx_E} (hB : jx_B E) : jx_M E z_T_tasksOf Y_T_tasksOf 2 := ⟨plainFor_of_name (by decide +kernel), rfl, rfl, jx_w1 hB 216 rfl rfl, jx_w1 hB 1 rfl rfl, by decide, ⟨by decide +kernel, by decide +kernel⟩, by decide +kernel⟩
set_option maxRecDepth 100000 in
theorem m_K_isOf {E : jx_E} (hB : jx_B E) : jx_M E z_K_isOf Y_K_isOf 2 := ⟨plainFor_of_name (by decide +kernel), rfl, rfl, jx_w1 hB 220 rfl rfl, jx_w1 hB 23 rfl rfl, by decide, ⟨by decide +kernel, by decide +kernel⟩, by decide +kernel⟩
set_option maxRecDepth 100000 in
theorem m_T_latenessOfPlan {E : jx_E} (hB : jx_B E) : jx_M E z_T_latenessOfPlan Y_T_latenessOfPlan 0 := ⟨plainFor_of_name (by decide +kernel), rfl, rfl, jx_w1 hB 224 rfl rfl, jx_w1 hB 1 rfl rfl, by decide, ⟨by decide +kernel, by decide +kernel⟩, by decide +kernel⟩
set_option maxRecDepth 100000 in
theorem m_L_person {E : jx_E} (hB : jx_B E) : jx_M E z_L_person Y_L_person 6 := ⟨plainFor_of_name (by decide +kernel), rfl, rfl, jx_w1 hB 227 rfl rfl, jx_w1 hB 0 rfl rfl, by decide, ⟨by decide +kernel, by decide +kernel⟩, by decide +kernel⟩
set_option maxRecDepth 100000 in
theorem m_T_person {E : jx_E} (hB : jx_B E) : jx_M E z_T_person Y_T_person 4 := ⟨plainFor_of_name (by decide +kernel), rfl, rfl, jx_w1 hB 233 rfl rfl, jx_w1 hB 1 rfl rfl, by decide, ⟨by decide +kernel, by decide +kernel⟩, by decide +kernel⟩
set_option maxRecDepth 100000 in
theorem m_T_needWithin {E : jx_E} (hB : jx_B E) : jx_M E z_T_needWithin Y_T_needWithin 3 := ⟨plainFor_of_name (by decide +kernel), rfl, rfl, jx_w1 hB 236 rfl rfl, jx_w1 hB 1 rfl rfl, by decide, ⟨by decide +kernel, by decide +kernel⟩, by decide +kernel⟩
set_option maxRecDepth 100000 in
theorem m_T_needRoom {E : jx_E} (hB : jx_B E) : jx_M E z_T_needRoom Y_T_needRoom 2 := ⟨plainFor_of_name (by decide +kernel), rfl, rfl, jx_w2 hB 68 rfl rfl, jx_w1 hB 1 rfl rfl, by decide, ⟨by decide +kernel, by decide +kernel⟩, by decide +kernel⟩
set_option maxRecDepth 100000 in
theorem m_P_init {E : jx_E} (hB : jx_B E) : jx_M E z_P_init Y_P_init 5 := ⟨plainFor_of_name (by decide +kernel), rfl, rfl, jx_w2 hB 87 rfl rfl, jx_w1 hB 13 rfl rfl, by decide, ⟨by decide +kernel, by decide +kernel⟩, by decide +kernel⟩
set_option maxRecDepth 100000 in
theorem m_A_add {E : jx_E} (hB : jx_B E) : jx_M E z_A_add Y_A_add 1 := ⟨plainFor_of_name (by decide +kernel), rfl, rfl, jx_w2 hB 153 rfl rfl, jx_w1 hB 4 rfl rfl, by decide, ⟨by decide +kernel, by decide +kernel⟩, by decide +kernel⟩
set_option maxRecDepth 100000 in
theorem m_A_add3 {E : jx_E} (hB : jx_B E) : jx_M E z_A_add3 Y_A_add3 3 := ⟨plainFor_of_name (by decide +kernel), rfl, rfl, jx_w2 hB 157 rfl rfl, jx_w1 hB 4 rfl rfl, by decide, ⟨by decide +kernel, by decide +kernel⟩, by decide +kernel⟩
set_option maxRecDepth 100000 in
theorem m_A_grow {E : jx_E} (hB : jx_B E) : jx_M E z_A_grow Y_A_grow 0 := ⟨plainFor_of_name (by decide +kernel), rfl, rfl, jx_w2 hB 161 rfl rfl, jx_w1 hB 4 rfl rfl, by decide, ⟨by decide +kernel, by decide +kernel⟩, by decide +kernel⟩
set_option maxRecDepth 100000 in
theorem m_A_growBy {E : jx_E} (hB : jx_B E) : jx_M E z_A_growBy Y_A_growBy 1 := ⟨plainFor_of_name (by decide +kernel), rfl, rfl, jx_w2 hB 165 rfl rfl, jx_w1 hB 4 rfl rfl, by decide, ⟨by decide +kernel, by decide +kernel⟩, by decide +kernel⟩
set_option maxRecDepth 100000 in
theorem m_JArraysSupport_newLength {E : jx_E} (hB : jx_B E) : jx_M E z_JArraysSupport_newLength Y_JArraysSupport_newLength 3 := ⟨plainFor_of_name (by decide +kernel), rfl, rfl, jx_w2 hB 168 rfl rfl, jx_w1 hB 14 rfl rfl, by decide, ⟨by decide +kernel, by decide +kernel⟩, by decide +kernel⟩
set_option maxRecDepth 100000 in
theorem m_JArraysSupport_hugeLength {E : jx_E} (hB : jx_B E) : jx_M E z_JArraysSupport_hugeLength Y_JArraysSupport_hugeLength 2 := ⟨plainFor_of_name (by decide +kernel), rfl, rfl, jx_w2 hB 173 rfl rfl, jx_w1 hB 14 rfl rfl, by decide, ⟨by decide +kernel, by decide +kernel⟩, by decide +kernel⟩
set_option maxRecDepth 100000 in
theorem m_JArrays_copyOf {E : jx_E} (hB : jx_B E) : jx_M E z_JArrays_copyOf Y_JArrays_copyOf 2 := ⟨plainFor_of_name (by decide +kernel), rfl, rfl, jx_w2 hB 176 rfl rfl, jx_w1 hB 16 rfl rfl, by decide, ⟨by decide +kernel, by decide +kernel⟩, by decide +kernel⟩
set_option maxRecDepth 100000 in
theorem m_JArrays_copyOf3 {E : jx_E} (hB : jx_B E) : jx_M E z_JArrays_copyOf3 Y_JArrays_copyOf3 3 := ⟨plainFor_of_name (by decide +kernel), rfl, rfl, jx_w2 hB 194 rfl rfl, jx_w1 hB 16 rfl rfl, by decide, ⟨by decide +kernel, by decide +kernel⟩, by decide +kernel⟩
set_option maxRecDepth 100000 in
theorem m_L_rest {E : jx_E} (hB : jx_B E) : jx_M E z_L_rest Y_L_rest 4 := ⟨plainFor_of_name (by decide +kernel), rfl, rfl, jx_w2 hB 206 rfl rfl, jx_w1 hB 0 rfl rfl, by decide, ⟨by decide +kernel, by decide +kernel⟩, by decide +kernel⟩
set_option maxRecDepth 100000 in
theorem m_T_rest {E : jx_E} (hB : jx_B E) : jx_M E z_T_rest Y_T_rest 3 := ⟨plainFor_of_name (by decide +kernel), rfl, rfl, jx_w2 hB 211 rfl rfl, jx_w1 hB 1 rfl rfl, by decide, ⟨by decide +kernel, by decide +kernel⟩, by decide +kernel⟩
set_option maxRecDepth 100000 in
theorem m_T_personOf {E : jx_E} (hB : jx_B E) : jx_M E z_T_personOf Y_T_personOf 1 := ⟨plainFor_of_name (by decide +kernel), rfl, rfl, jx_w2 hB 215 rfl rfl, jx_w1 hB 1 rfl rfl, by decide, ⟨by decide +kernel, by decide +kernel⟩, by decide +kernel⟩
set_option maxRecDepth 100000 in
theorem m_L_train {E : jx_E} (hB : jx_B E) : jx_M E z_L_train Y_L_train 4 := ⟨plainFor_of_name (by decide +kernel), rfl, rfl, jx_w2 hB 234 rfl rfl, jx_w1 hB 0 rfl rfl, by decide, ⟨by decide +kernel, by decide +kernel⟩, by decide +kernel⟩
set_option maxRecDepth 100000 in
theorem m_T_train {E : jx_E} (hB : jx_B E) : jx_M E z_T_train Y_T_train 2 := ⟨plainFor_of_name (by decide +kernel), rfl, rfl, jx_w2 hB 239 rfl rfl, jx_w1 hB 1 rfl rfl, by decide, ⟨by decide +kernel, by decide +kernel⟩, by decide +kernel⟩
set_option maxRecDepth 100000 in
theorem m_JInteger_bitCount {E : jx_E} (hB : jx_B E) : jx_M E z_JInteger_bitCount Y_JInteger_bitCount 1 := ⟨plainFor_of_name (by decide +kernel), rfl, rfl, jx_w3 hB 19 rfl rfl, jx_w1 hB 22 rfl rfl, by decide, ⟨by decide +kernel, by decide +kernel⟩, by decide +kernel⟩
set_option maxRecDepth 100000 in
theorem m_L_task {E : jx_E} (hB : jx_B E) : jx_M E z_L_task Y_L_task 6 := ⟨plainFor_of_name (by decide +kernel), rfl, rfl, jx_w3 hB 25 rfl rfl, jx_w1 hB 0 rfl rfl, by decide, ⟨by decide +kernel, by decide +kernel⟩, by decide +kernel⟩
set_option maxRecDepth 100000 in
theorem m_T_task {E : jx_E} (hB : jx_B E) : jx_M E z_T_task Y_T_task 4 := ⟨plainFor_of_name (by decide +kernel), rfl, rfl, jx_w3 hB 29 rfl rfl, jx_w1 hB 1 rfl rfl, by decide, ⟨by decide +kernel, by decide +kernel⟩, by decide +kernel⟩
set_option maxRecDepth 100000 in
theorem m_K_init {E : jx_E} (hB : jx_B E) : jx_M E z_K_init Y_K_init 5 := ⟨plainFor_of_name (by decide +kernel), rfl, rfl, jx_w3 hB 32 rfl rfl, jx_w1 hB 23 rfl rfl, by decide, ⟨by decide +kernel, by decide +kernel⟩, by decide +kernel⟩
set_option maxRecDepth 100000 in
theorem m_L_way {E : jx_E} (hB : jx_B E) : jx_M E z_L_way Y_L_way 4 := ⟨plainFor_of_name (by decide +kernel), rfl, rfl, jx_w3 hB 77 rfl rfl, jx_w1 hB 0 rfl rfl, by decide, ⟨by decide +kernel, by decide +kernel⟩, by decide +kernel⟩
set_option maxRecDepth 100000 in
theorem m_T_way {E : jx_E} (hB : jx_B E) : jx_M E z_T_way Y_T_way 3 := ⟨plainFor_of_name (by decide +kernel), rfl, rfl, jx_w3 hB 81 rfl rfl, jx_w1 hB 1 rfl rfl, by decide, ⟨by decide +kernel, by decide +kernel⟩, by decide +kernel⟩
set_option maxRecDepth 100000 in
theorem m_Y_put {E : jx_E} (hB : jx_B E) : jx_M E z_Y_put Y_Y_put 3 := ⟨plainFor_of_name (by decide +kernel), rfl, rfl, jx_w3 hB 86 rfl rfl, jx_w1 hB 5 rfl rfl, by decide, ⟨by decide +kernel, by decide +kernel⟩, by decide +kernel⟩
set_option maxRecDepth 100000 in
theorem m_L_refuse {E : jx_E} (hB : jx_B E) : jx_M E z_L_refuse Y_L_refuse 4 := ⟨plainFor_of_name (by decide +kernel), rfl, rfl, jx_w3 hB 89 rfl rfl, jx_w1 hB 0 rfl rfl, by decide, ⟨by decide +kernel, by decide +kernel⟩, by decide +kernel⟩
set_option maxRecDepth 100000 in
theorem m_T_refuse {E : jx_E} (hB : jx_B E) : jx_M E z_T_refuse Y_T_refuse 2 := ⟨plainFor_of_name (by decide +kernel), rfl, rfl, jx_w3 hB 93 rfl rfl, jx_w1 hB 1 rfl rfl, by decide, ⟨by decide +kernel, by decide +kernel⟩, by decide +kernel⟩
set_option maxRecDepth 100000 in
theorem m_T_taskOf {E : jx_E} (hB : jx_B E) : jx_M E z_T_taskOf Y_T_taskOf 1 := ⟨plainFor_of_name (by decide +kernel), rfl, rfl, jx_w3 hB 97 rfl rfl, jx_w1 hB 1 rfl rfl, by decide, ⟨by decide +kernel, by decide +kernel⟩, by decide +kernel⟩
set_option maxRecDepth 100000 in
theorem m_T_needOpen {E : jx_E} (hB : jx_B E) : jx_M E z_T_needOpen Y_T_needOpen 1 := ⟨plainFor_of_name (by decide +kernel), rfl, rfl, jx_w3 hB 101 rfl rfl, jx_w1 hB 1 rfl rfl, by decide, ⟨by decide +kernel, by decide +kernel⟩, by decide +kernel⟩
set_option maxRecDepth 100000 in
theorem m_K_free {E : jx_E} (hB : jx_B E) : jx_M E z_K_free Y_K_free 0 := ⟨plainFor_of_name (by decide +kernel), rfl, rfl, jx_w3 hB 108 rfl rfl, jx_w1 hB 23 rfl rfl, by decide, ⟨by decide +kernel, by decide +kernel⟩, by decide +kernel⟩
set_option maxRecDepth 100000 in
theorem m_L_bar {E : jx_E} (hB : jx_B E) : jx_M E z_L_bar Y_L_bar 4 := ⟨plainFor_of_name (by decide +kernel), rfl, rfl, jx_w3 hB 111 rfl rfl, jx_w1 hB 0 rfl rfl, by decide, ⟨by decide +kernel, by decide +kernel⟩, by decide +kernel⟩
set_option maxRecDepth 100000 in
theorem m_T_bar {E : jx_E} (hB : jx_B E) : jx_M E z_T_bar Y_T_bar 2 := ⟨plainFor_of_name (by decide +kernel), rfl, rfl, jx_w3 hB 115 rfl rfl, jx_w1 hB 1 rfl rfl, by decide, ⟨by decide +kernel, by decide +kernel⟩, by decide +kernel⟩
set_option maxRecDepth 100000 in
theorem m_L_assign {E : jx_E} (hB : jx_B E) : jx_M E z_L_assign Y_L_assign 3 := ⟨plainFor_of_name (by decide +kernel), rfl, rfl, jx_w3 hB 118 rfl rfl, jx_w1 hB 0 rfl rfl, by decide, ⟨by decide +kernel, by decide +kernel⟩, by decide +kernel⟩
set_option maxRecDepth 100000 in
theorem m_T_assign {E : jx_E} (hB : jx_B E) : jx_M E z_T_assign Y_T_assign 1 := ⟨plainFor_of_name (by decide +kernel), rfl, rfl, jx_w3 hB 122 rfl rfl, jx_w1 hB 1 rfl rfl, by decide, ⟨by decide +kernel, by decide +kernel⟩, by decide +kernel⟩
set_option maxRecDepth 100000 in
theorem m_T_freeOpenTasks {E : jx_E} (hB : jx_B E) : jx_M E z_T_freeOpenTasks Y_T_freeOpenTasks 0 := ⟨plainFor_of_name (by decide +kernel), rfl, rfl, jx_w3 hB 126 rfl rfl, jx_w1 hB 1 rfl rfl, by decide, ⟨by decide +kernel, by decide +kernel⟩, by decide +kernel⟩
set_option maxRecDepth 100000 in
theorem m_X_plan {E : jx_E} (hB : jx_B E) : jx_M E z_X_plan Y_X_plan 4 := ⟨plainFor_of_name (by decide +kernel), rfl, rfl, jx_w3 hB 130 rfl rfl, jx_w1 hB 6 rfl rfl, by decide, ⟨by decide +kernel, by decide +kernel⟩, by decide +kernel⟩
set_option maxRecDepth 100000 in
theorem m_X_collectOpen {E : jx_E} (hB : jx_B E) : jx_M E z_X_collectOpen Y_X_collectOpen 1 := ⟨plainFor_of_name (by decide +kernel), rfl, rfl, jx_w3 hB 134 rfl rfl, jx_w1 hB 6 rfl rfl, by decide, ⟨by decide +kernel, by decide +kernel⟩, by decide +kernel⟩
set_option maxRecDepth 100000 in
theorem m_A_clear {E : jx_E} (hB : jx_B E) : jx_M E z_A_clear Y_A_clear 0 := ⟨plainFor_of_name (by decide +kernel), rfl, rfl, jx_w3 hB 138 rfl rfl, jx_w1 hB 4 rfl rfl, by decide, ⟨by decide +kernel, by decide +kernel⟩, by decide +kernel⟩
set_option maxRecDepth 100000 in
theorem m_X_tryOrders {E : jx_E} (hB : jx_B E) : jx_M E z_X_tryOrders Y_X_tryOrders 5 := ⟨plainFor_of_name (by decide +kernel), rfl, rfl, jx_w3 hB 149 rfl rfl, jx_w1 hB 6 rfl rfl, by decide, ⟨by decide +kernel, by decide +kernel⟩, by decide +kernel⟩
set_option maxRecDepth 100000 in
theorem m_X_keepIfBetter {E : jx_E} (hB : jx_B E) : jx_M E z_X_keepIfBetter Y_X_keepIfBetter 3 := ⟨plainFor_of_name (by decide +kernel), rfl, rfl, jx_w3 hB 153 rfl rfl, jx_w1 hB 6 rfl rfl, by decide, ⟨by decide +kernel, by decide +kernel⟩, by decide +kernel⟩
set_option maxRecDepth 100000 in
theorem m_X_startsEarlier {E : jx_E} (hB : jx_B E) : jx_M E z_X_startsEarlier Y_X_startsEarlier 2 := ⟨plainFor_of_name (by decide +kernel), rfl, rfl, jx_w3 hB 157 rfl rfl, jx_w1 hB 6 rfl rfl, by decide, ⟨by decide +kernel, by decide +kernel⟩, by decide +kernel⟩
set_option maxRecDepth 100000 in
theorem m_X_shareOut {E : jx_E} (hB : jx_B E) : jx_M E z_X_shareOut Y_X_shareOut 1 := ⟨plainFor_of_name (by decide +kernel), rfl, rfl, jx_w3 hB 164 rfl rfl, jx_w1 hB 6 rfl rfl, by decide, ⟨by decide +kernel, by decide +kernel⟩, by decide +kernel⟩
set_option maxRecDepth 100000 in
theorem m_X_rank {E : jx_E} (hB : jx_B E) : jx_M E z_X_rank Y_X_rank 3 := ⟨plainFor_of_name (by decide +kernel), rfl, rfl, jx_w3 hB 170 rfl rfl, jx_w1 hB 6 rfl rfl, by decide, ⟨by decide +kernel, by decide +kernel⟩, by decide +kernel⟩
set_option maxRecDepth 100000 in
theorem m_X_chooseFrom {E : jx_E} (hB : jx_B E) : jx_M E z_X_chooseFrom Y_X_chooseFrom 2 := ⟨plainFor_of_name (by decide +kernel), rfl, rfl, jx_w3 hB 175 rfl rfl, jx_w1 hB 6 rfl rfl, by decide, ⟨by decide +kernel, by decide +kernel⟩, by decide +kernel⟩
set_option maxRecDepth 100000 in
theorem m_X_tell {E : jx_E} (hB : jx_B E) : jx_M E z_X_tell Y_X_tell 1 := ⟨plainFor_of_name (by decide +kernel), rfl, rfl, jx_w3 hB 179 rfl rfl, jx_w1 hB 6 rfl rfl, by decide, ⟨by decide +kernel, by decide +kernel⟩, by decide +kernel⟩
set_option maxRecDepth 100000 in
theorem m_K_planFor {E : jx_E} (hB : jx_B E) : jx_M E z_K_planFor Y_K_planFor 2 := ⟨plainFor_of_name (by decide +kernel), rfl, rfl, jx_w3 hB 183 rfl rfl, jx_w1 hB 23 rfl rfl, by decide, ⟨by decide +kernel, by decide +kernel⟩, by decide +kernel⟩
set_option maxRecDepth 100000 in
theorem m_T_planByRule {E : jx_E} (hB : jx_B E) : jx_M E z_T_planByRule Y_T_planByRule 0 := ⟨plainFor_of_name (by decide +kernel), rfl, rfl, jx_w3 hB 187 rfl rfl, jx_w1 hB 1 rfl rfl, by decide, ⟨by decide +kernel, by decide +kernel⟩, by decide +kernel⟩
set_option maxRecDepth 100000 in
theorem m_T_sortOpenByDue {E : jx_E} (hB : jx_B E) : jx_M E z_T_sortOpenByDue Y_T_sortOpenByDue 0 := ⟨plainFor_of_name (by decide +kernel), rfl, rfl, jx_w3 hB 191 rfl rfl, jx_w1 hB 1 rfl rfl, by decide, ⟨by decide +kernel, by decide +kernel⟩, by decide +kernel⟩
set_option maxRecDepth 100000 in
theorem m_A_addAt {E : jx_E} (hB : jx_B E) : jx_M E z_A_addAt Y_A_addAt 2 := ⟨plainFor_of_name (by decide +kernel), rfl, rfl, jx_w3 hB 196 rfl rfl, jx_w1 hB 4 rfl rfl, by decide, ⟨by decide +kernel, by decide +kernel⟩, by decide +kernel⟩
set_option maxRecDepth 100000 in
theorem m_A_rangeCheckForAdd {E : jx_E} (hB : jx_B E) : jx_M E z_A_rangeCheckForAdd Y_A_rangeCheckForAdd 1 := ⟨plainFor_of_name (by decide +kernel), rfl, rfl, jx_w3 hB 200 rfl rfl, jx_w1 hB 4 rfl rfl, by decide, ⟨by decide +kernel, by decide +kernel⟩, by decide +kernel⟩
set_option maxRecDepth 100000 in
theorem m_T_addToBestRow {E : jx_E} (hB : jx_B E) : jx_M E z_T_addToBestRow Y_T_addToBestRow 1 := ⟨plainFor_of_name (by decide +kernel), rfl, rfl, jx_w3 hB 205 rfl rfl, jx_w1 hB 1 rfl rfl, by decide, ⟨by decide +kernel, by decide +kernel⟩, by decide +kernel⟩
set_option maxRecDepth 100000 in
theorem m_P_addToRow {E : jx_E} (hB : jx_B E) : jx_M E z_P_addToRow Y_P_addToRow 1 := ⟨plainFor_of_name (by decide +kernel), rfl, rfl, jx_w3 hB 210 rfl rfl, jx_w1 hB 13 rfl rfl, by decide, ⟨by decide +kernel, by decide +kernel⟩, by decide +kernel⟩
set_option maxRecDepth 100000 in
theorem m_L_give {E : jx_E} (hB : jx_B E) : jx_M E z_L_give Y_L_give 3 := ⟨plainFor_of_name (by decide +kernel), rfl, rfl, jx_w3 hB 213 rfl rfl, jx_w1 hB 0 rfl rfl, by decide, ⟨by decide +kernel, by decide +kernel⟩, by decide +kernel⟩
set_option maxRecDepth 100000 in
theorem m_T_give {E : jx_E} (hB : jx_B E) : jx_M E z_T_give Y_T_give 1 := ⟨plainFor_of_name (by decide +kernel), rfl, rfl, jx_w3 hB 217 rfl rfl, jx_w1 hB 1 rfl rfl, by decide, ⟨by decide +kernel, by decide +kernel⟩, by decide +kernel⟩
set_option maxRecDepth 100000 in
theorem m_T_needAtWork {E : jx_E} (hB : jx_B E) : jx_M E z_T_needAtWork Y_T_needAtWork 1 := ⟨plainFor_of_name (by decide +kernel), rfl, rfl, jx_w3 hB 221 rfl rfl, jx_w1 hB 1 rfl rfl, by decide, ⟨by decide +kernel, by decide +kernel⟩, by decide +kernel⟩
set_option maxRecDepth 100000 in
theorem m_T_plannedTask {E : jx_E} (hB : jx_B E) : jx_M E z_T_plannedTask Y_T_plannedTask 2 := ⟨plainFor_of_name (by decide +kernel), rfl, rfl, jx_w3 hB 227 rfl rfl, jx_w1 hB 1 rfl rfl, by decide, ⟨by decide +kernel, by decide +kernel⟩, by decide +kernel⟩
set_option maxRecDepth 100000 in
theorem m_T_plannedBefore {E : jx_E} (hB : jx_B E) : jx_M E z_T_plannedBefore Y_T_plannedBefore 1 := ⟨plainFor_of_name (by decide +kernel), rfl, rfl, jx_w3 hB 231 rfl rfl, jx_w1 hB 1 rfl rfl, by decide, ⟨by decide +kernel, by decide +kernel⟩, by decide +kernel⟩
set_option maxRecDepth 100000 in
theorem m_L_done {E : jx_E} (hB : jx_B E) : jx_M E z_L_done Y_L_done 3 := ⟨plainFor_of_name (by decide +kernel), rfl, rfl, jx_w3 hB 234 rfl rfl, jx_w1 hB 0 rfl rfl, by decide, ⟨by decide +kernel, by decide +kernel⟩, by decide +kernel⟩
set_option maxRecDepth 100000 in
theorem m_T_done {E : jx_E} (hB : jx_B E) : jx_M E z_T_done Y_T_done 1 := ⟨plainFor_of_name (by decide +kernel), rfl, rfl, jx_w3 hB 238 rfl rfl, jx_w1 hB 1 rfl rfl, by decide, ⟨by decide +kernel, by decide +kernel⟩, by decide +kernel⟩
set_option maxRecDepth 100000 in
theorem m_L_leaves {E : jx_E} (hB : jx_B E) : jx_M E z_L_leaves Y_L_leaves 3 := ⟨plainFor_of_name (by decide +kernel), rfl, rfl, jx_w4 hB 2 rfl rfl, jx_w1 hB 0 rfl rfl, by decide, ⟨by decide +kernel, by decide +kernel⟩, by decide +kernel⟩
set_option maxRecDepth 100000 in
theorem m_T_leaves {E : jx_E} (hB : jx_B E) : jx_M E z_T_leaves Y_T_leaves 1 := ⟨plainFor_of_name (by decide +kernel), rfl, rfl, jx_w4 hB 6 rfl rfl, jx_w1 hB 1 rfl rfl, by decide, ⟨by decide +kernel, by decide +kernel⟩, by decide +kernel⟩
set_option maxRecDepth 100000 in
theorem m_L_fair {E : jx_E} (hB : jx_B E) : jx_M E z_L_fair Y_L_fair 3 := ⟨plainFor_of_name (by decide +kernel), rfl, rfl, jx_w4 hB 10 rfl rfl, jx_w1 hB 0 rfl rfl, by decide, ⟨by decide +kernel, by decide +kernel⟩, by decide +kernel⟩
set_option maxRecDepth 100000 in
theorem m_T_fair {E : jx_E} (hB : jx_B E) : jx_M E z_T_fair Y_T_fair 1 := ⟨plainFor_of_name (by decide +kernel), rfl, rfl, jx_w4 hB 14 rfl rfl, jx_w1 hB 1 rfl rfl, by decide, ⟨by decide +kernel, by decide +kernel⟩, by decide +kernel⟩
set_option maxRecDepth 100000 in
theorem m_L_pass {E : jx_E} (hB : jx_B E) : jx_M E z_L_pass Y_L_pass 2 := ⟨plainFor_of_name (by decide +kernel), rfl, rfl, jx_w4 hB 17 rfl rfl, jx_w1 hB 0 rfl rfl, by decide, ⟨by decide +kernel, by decide +kernel⟩, by decide +kernel⟩
set_option maxRecDepth 100000 in
theorem m_T_pass {E : jx_E} (hB : jx_B E) : jx_M E z_T_pass Y_T_pass 1 := ⟨plainFor_of_name (by decide +kernel), rfl, rfl, jx_w4 hB 21 rfl rfl, jx_w1 hB 1 rfl rfl, by decide, ⟨by decide +kernel, by decide +kernel⟩, by decide +kernel⟩
set_option maxRecDepth 100000 in
theorem m_L_order {E : jx_E} (hB : jx_B E) : jx_M E z_L_order Y_L_order 4 := ⟨plainFor_of_name (by decide +kernel), rfl, rfl, jx_w4 hB 24 rfl rfl, jx_w1 hB 0 rfl rfl, by decide, ⟨by decide +kernel, by decide +kernel⟩, by decide +kernel⟩
set_option maxRecDepth 100000 in
theorem m_T_order {E : jx_E} (hB : jx_B E) : jx_M E z_T_order Y_T_order 2 := ⟨plainFor_of_name (by decide +kernel), rfl, rfl, jx_w4 hB 28 rfl rfl, jx_w1 hB 1 rfl rfl, by decide, ⟨by decide +kernel, by decide +kernel⟩, by decide +kernel⟩
set_option maxRecDepth 100000 in
theorem m_L_told {E : jx_E} (hB : jx_B E) : jx_M E z_L_told Y_L_told 4 := ⟨plainFor_of_name (by decide +kernel), rfl, rfl, jx_w4 hB 32 rfl rfl, jx_w1 hB 0 rfl rfl, by decide, ⟨by decide +kernel, by decide +kernel⟩, by decide +kernel⟩
set_option maxRecDepth 100000 in
theorem m_T_told {E : jx_E} (hB : jx_B E) : jx_M E z_T_told Y_T_told 2 := ⟨plainFor_of_name (by decide +kernel), rfl, rfl, jx_w4 hB 36 rfl rfl, jx_w1 hB 1 rfl rfl, by decide, ⟨by decide +kernel, by decide +kernel⟩, by decide +kernel⟩
set_option maxRecDepth 100000 in
theorem m_L_known {E : jx_E} (hB : jx_B E) : jx_M E z_L_known Y_L_known 4 := ⟨plainFor_of_name (by decide +kernel), rfl, rfl, jx_w4 hB 40 rfl rfl, jx_w1 hB 0 rfl rfl, by decide, ⟨by decide +kernel, by decide +kernel⟩, by decide +kernel⟩
set_option maxRecDepth 100000 in
theorem m_T_known {E : jx_E} (hB : jx_B E) : jx_M E z_T_known Y_T_known 2 := ⟨plainFor_of_name (by decide +kernel), rfl, rfl, jx_w4 hB 44 rfl rfl, jx_w1 hB 1 rfl rfl, by decide, ⟨by decide +kernel, by decide +kernel⟩, by decide +kernel⟩
set_option maxRecDepth 100000 in
theorem m_M_init {E : jx_E} (hB : jx_B E) : jx_M E z_M_init Y_M_init 0 := ⟨plainFor_of_name (by decide +kernel), rfl, rfl, jx_w4 hB 50 rfl rfl, jx_w1 hB 7 rfl rfl, by decide, ⟨by decide +kernel, by decide +kernel⟩, by decide +kernel⟩
set_option maxRecDepth 100000 in
theorem m_M_thrown {E : jx_E} (hB : jx_B E) : jx_M E z_M_thrown Y_M_thrown 0 := ⟨plainFor_of_name (by decide +kernel), rfl, rfl, jx_w4 hB 147 rfl rfl, jx_w1 hB 7 rfl rfl, by decide, ⟨by decide +kernel, by decide +kernel⟩, by decide +kernel⟩
set_option maxRecDepth 100000 in
theorem m_M_person {E : jx_E} (hB : jx_B E) : jx_M E z_M_person Y_M_person 4 := ⟨plainFor_of_name (by decide +kernel), rfl, rfl, jx_w4 hB 151 rfl rfl, jx_w1 hB 7 rfl rfl, by decide, ⟨by decide +kernel, by decide +kernel⟩, by decide +kernel⟩
set_option maxRecDepth 100000 in
theorem m_M_within {E : jx_E} (hB : jx_B E) : jx_M E z_M_within Y_M_within 3 := ⟨plainFor_of_name (by decide +kernel), rfl, rfl, jx_w4 hB 154 rfl rfl, jx_w1 hB 7 rfl rfl, by decide, ⟨by decide +kernel, by decide +kernel⟩, by decide +kernel⟩
set_option maxRecDepth 100000 in
theorem m_M_rest {E : jx_E} (hB : jx_B E) : jx_M E z_M_rest Y_M_rest 3 := ⟨plainFor_of_name (by decide +kernel), rfl, rfl, jx_w4 hB 159 rfl rfl, jx_w1 hB 7 rfl rfl, by decide, ⟨by decide +kernel, by decide +kernel⟩, by decide +kernel⟩
set_option maxRecDepth 100000 in
theorem m_M_isPerson {E : jx_E} (hB : jx_B E) : jx_M E z_M_isPerson Y_M_isPerson 1 := ⟨plainFor_of_name (by decide +kernel), rfl, rfl, jx_w4 hB 163 rfl rfl, jx_w1 hB 7 rfl rfl, by decide, ⟨by decide +kernel, by decide +kernel⟩, by decide +kernel⟩
set_option maxRecDepth 100000 in
theorem m_M_train {E : jx_E} (hB : jx_B E) : jx_M E z_M_train Y_M_train 2 := ⟨plainFor_of_name (by decide +kernel), rfl, rfl, jx_w4 hB 167 rfl rfl, jx_w1 hB 7 rfl rfl, by decide, ⟨by decide +kernel, by decide +kernel⟩, by decide +kernel⟩
set_option maxRecDepth 100000 in
theorem m_M_bits {E : jx_E} (hB : jx_B E) : jx_M E z_M_bits Y_M_bits 1 := ⟨plainFor_of_name (by decide +kernel), rfl, rfl, jx_w4 hB 170 rfl rfl, jx_w1 hB 7 rfl rfl, by decide, ⟨by decide +kernel, by decide +kernel⟩, by decide +kernel⟩
set_option maxRecDepth 100000 in
theorem m_M_task {E : jx_E} (hB : jx_B E) : jx_M E z_M_task Y_M_task 4 := ⟨plainFor_of_name (by decide +kernel), rfl, rfl, jx_w4 hB 174 rfl rfl, jx_w1 hB 7 rfl rfl, by decide, ⟨by decide +kernel, by decide +kernel⟩, by decide +kernel⟩
set_option maxRecDepth 100000 in
theorem m_M_way {E : jx_E} (hB : jx_B E) : jx_M E z_M_way Y_M_way 3 := ⟨plainFor_of_name (by decide +kernel), rfl, rfl, jx_w4 hB 178 rfl rfl, jx_w1 hB 7 rfl rfl, by decide, ⟨by decide +kernel, by decide +kernel⟩, by decide +kernel⟩
set_option maxRecDepth 100000 in
theorem m_M_refuse {E : jx_E} (hB : jx_B E) : jx_M E z_M_refuse Y_M_refuse 2 := ⟨plainFor_of_name (by decide +kernel), rfl, rfl, jx_w4 hB 182 rfl rfl, jx_w1 hB 7 rfl rfl, by decide, ⟨by decide +kernel, by decide +kernel⟩, by decide +kernel⟩
set_option maxRecDepth 100000 in
theorem m_M_isTask {E : jx_E} (hB : jx_B E) : jx_M E z_M_isTask Y_M_isTask 1 := ⟨plainFor_of_name (by decide +kernel), rfl, rfl, jx_w4 hB 186 rfl rfl, jx_w1 hB 7 rfl rfl, by decide, ⟨by decide +kernel, by decide +kernel⟩, by decide +kernel⟩
set_option maxRecDepth 100000 in
theorem m_M_hasRefused {E : jx_E} (hB : jx_B E) : jx_M E z_M_hasRefused Y_M_hasRefused 2 := ⟨plainFor_of_name (by decide +kernel), rfl, rfl, jx_w4 hB 190 rfl rfl, jx_w1 hB 7 rfl rfl, by decide, ⟨by decide +kernel, by decide +kernel⟩, by decide +kernel⟩
set_option maxRecDepth 100000 in
theorem m_M_free {E : jx_E} (hB : jx_B E) : jx_M E z_M_free Y_M_free 1 := ⟨plainFor_of_name (by decide +kernel), rfl, rfl, jx_w4 hB 194 rfl rfl, jx_w1 hB 7 rfl rfl, by decide, ⟨by decide +kernel, by decide +kernel⟩, by decide +kernel⟩
set_option maxRecDepth 100000 in
theorem m_M_bar {E : jx_E} (hB : jx_B E) : jx_M E z_M_bar Y_M_bar 2 := ⟨plainFor_of_name (by decide +kernel), rfl, rfl, jx_w4 hB 198 rfl rfl, jx_w1 hB 7 rfl rfl, by decide, ⟨by decide +kernel, by decide +kernel⟩, by decide +kernel⟩
set_option maxRecDepth 100000 in
theorem m_M_aloneAt {E : jx_E} (hB : jx_B E) : jx_M E z_M_aloneAt Y_M_aloneAt 2 := ⟨plainFor_of_name (by decide +kernel), rfl, rfl, jx_w4 hB 202 rfl rfl, jx_w1 hB 7 rfl rfl, by decide, ⟨by decide +kernel, by decide +kernel⟩, by decide +kernel⟩
set_option maxRecDepth 100000 in
theorem m_M_readyAt {E : jx_E} (hB : jx_B E) : jx_M E z_M_readyAt Y_M_readyAt 1 := ⟨plainFor_of_name (by decide +kernel), rfl, rfl, jx_w4 hB 206 rfl rfl, jx_w1 hB 7 rfl rfl, by decide, ⟨by decide +kernel, by decide +kernel⟩, by decide +kernel⟩
set_option maxRecDepth 100000 in
theorem m_M_greater {E : jx_E} (hB : jx_B E) : jx_M E z_M_greater Y_M_greater 2 := ⟨plainFor_of_name (by decide +kernel), rfl, rfl, jx_w4 hB 209 rfl rfl, jx_w1 hB 7 rfl rfl, by decide, ⟨by decide +kernel, by decide +kernel⟩, by decide +kernel⟩
set_option maxRecDepth 100000 in
theorem m_M_startOf {E : jx_E} (hB : jx_B E) : jx_M E z_M_startOf Y_M_startOf 4 := ⟨plainFor_of_name (by decide +kernel), rfl, rfl, jx_w4 hB 213 rfl rfl, jx_w1 hB 7 rfl rfl, by decide, ⟨by decide +kernel, by decide +kernel⟩, by decide +kernel⟩
set_option maxRecDepth 100000 in
theorem m_M_assign {E : jx_E} (hB : jx_B E) : jx_M E z_M_assign Y_M_assign 1 := ⟨plainFor_of_name (by decide +kernel), rfl, rfl, jx_w4 hB 217 rfl rfl, jx_w1 hB 7 rfl rfl, by decide, ⟨by decide +kernel, by decide +kernel⟩, by decide +kernel⟩
set_option maxRecDepth 100000 in
theorem m_M_count {E : jx_E} (hB : jx_B E) : jx_M E z_M_count Y_M_count 1 := ⟨plainFor_of_name (by decide +kernel), rfl, rfl, jx_w4 hB 221 rfl rfl, jx_w1 hB 7 rfl rfl, by decide, ⟨by decide +kernel, by decide +kernel⟩, by decide +kernel⟩
set_option maxRecDepth 100000 in
theorem m_M_inState {E : jx_E} (hB : jx_B E) : jx_M E z_M_inState Y_M_inState 1 := ⟨plainFor_of_name (by decide +kernel), rfl, rfl, jx_w4 hB 225 rfl rfl, jx_w1 hB 7 rfl rfl, by decide, ⟨by decide +kernel, by decide +kernel⟩, by decide +kernel⟩
set_option maxRecDepth 100000 in
theorem m_M_lateBy {E : jx_E} (hB : jx_B E) : jx_M E z_M_lateBy Y_M_lateBy 2 := ⟨plainFor_of_name (by decide +kernel), rfl, rfl, jx_w4 hB 229 rfl rfl, jx_w1 hB 7 rfl rfl, by decide, ⟨by decide +kernel, by decide +kernel⟩, by decide +kernel⟩
set_option maxRecDepth 100000 in
theorem m_M_planByRule {E : jx_E} (hB : jx_B E) : jx_M E z_M_planByRule Y_M_planByRule 0 := ⟨plainFor_of_name (by decide +kernel), rfl, rfl, jx_w4 hB 233 rfl rfl, jx_w1 hB 7 rfl rfl, by decide, ⟨by decide +kernel, by decide +kernel⟩, by decide +kernel⟩
set_option maxRecDepth 100000 in
theorem m_M_planOne {E : jx_E} (hB : jx_B E) : jx_M E z_M_planOne Y_M_planOne 1 := ⟨plainFor_of_name (by decide +kernel), rfl, rfl, jx_w4 hB 237 rfl rfl, jx_w1 hB 7 rfl rfl, by decide, ⟨by decide +kernel, by decide +kernel⟩, by decide +kernel⟩
set_option maxRecDepth 100000 in
theorem m_M_may {E : jx_E} (hB : jx_B E) : jx_M E z_M_may Y_M_may 2 := ⟨plainFor_of_name (by decide +kernel), rfl, rfl, jx_w5 hB 1 rfl rfl, jx_w1 hB 7 rfl rfl, by decide, ⟨by decide +kernel, by decide +kernel⟩, by decide +kernel⟩
set_option maxRecDepth 100000 in
theorem m_M_behind {E : jx_E} (hB : jx_B E) : jx_M E z_M_behind Y_M_behind 2 := ⟨plainFor_of_name (by decide +kernel), rfl, rfl, jx_w5 hB 5 rfl rfl, jx_w1 hB 7 rfl rfl, by decide, ⟨by decide +kernel, by decide +kernel⟩, by decide +kernel⟩
set_option maxRecDepth 100000 in
theorem m_M_load {E : jx_E} (hB : jx_B E) : jx_M E z_M_load Y_M_load 1 := ⟨plainFor_of_name (by decide +kernel), rfl, rfl, jx_w5 hB 9 rfl rfl, jx_w1 hB 7 rfl rfl, by decide, ⟨by decide +kernel, by decide +kernel⟩, by decide +kernel⟩
set_option maxRecDepth 100000 in
theorem m_M_planExactly {E : jx_E} (hB : jx_B E) : jx_M E z_M_planExactly Y_M_planExactly 0 := ⟨plainFor_of_name (by decide +kernel), rfl, rfl, jx_w5 hB 13 rfl rfl, jx_w1 hB 7 rfl rfl, by decide, ⟨by decide +kernel, by decide +kernel⟩, by decide +kernel⟩
set_option maxRecDepth 100000 in
theorem m_M_findOrder {E : jx_E} (hB : jx_B E) : jx_M E z_M_findOrder Y_M_findOrder 2 := ⟨plainFor_of_name (by decide +kernel), rfl, rfl, jx_w5 hB 17 rfl rfl, jx_w1 hB 7 rfl rfl, by decide, ⟨by decide +kernel, by decide +kernel⟩, by decide +kernel⟩
set_option maxRecDepth 100000 in
theorem m_M_tryOrder {E : jx_E} (hB : jx_B E) : jx_M E z_M_tryOrder Y_M_tryOrder 2 := ⟨plainFor_of_name (by decide +kernel), rfl, rfl, jx_w5 hB 21 rfl rfl, jx_w1 hB 7 rfl rfl, by decide, ⟨by decide +kernel, by decide +kernel⟩, by decide +kernel⟩
set_option maxRecDepth 100000 in
theorem m_M_startsAreLess {E : jx_E} (hB : jx_B E) : jx_M E z_M_startsAreLess Y_M_startsAreLess 2 := ⟨plainFor_of_name (by decide +kernel), rfl, rfl, jx_w5 hB 25 rfl rfl, jx_w1 hB 7 rfl rfl, by decide, ⟨by decide +kernel, by decide +kernel⟩, by decide +kernel⟩
set_option maxRecDepth 100000 in
theorem m_M_nextOrder {E : jx_E} (hB : jx_B E) : jx_M E z_M_nextOrder Y_M_nextOrder 1 := ⟨plainFor_of_name (by decide +kernel), rfl, rfl, jx_w5 hB 29 rfl rfl, jx_w1 hB 7 rfl rfl, by decide, ⟨by decide +kernel, by decide +kernel⟩, by decide +kernel⟩
set_option maxRecDepth 100000 in
theorem m_M_swap {E : jx_E} (hB : jx_B E) : jx_M E z_M_swap Y_M_swap 2 := ⟨plainFor_of_name (by decide +kernel), rfl, rfl, jx_w5 hB 33 rfl rfl, jx_w1 hB 7 rfl rfl, by decide, ⟨by decide +kernel, by decide +kernel⟩, by decide +kernel⟩
set_option maxRecDepth 100000 in
theorem m_M_costOf {E : jx_E} (hB : jx_B E) : jx_M E z_M_costOf Y_M_costOf 0 := ⟨plainFor_of_name (by decide +kernel), rfl, rfl, jx_w5 hB 37 rfl rfl, jx_w1 hB 7 rfl rfl, by decide, ⟨by decide +kernel, by decide +kernel⟩, by decide +kernel⟩
set_option maxRecDepth 100000 in
theorem m_M_setOf {E : jx_E} (hB : jx_B E) : jx_M E z_M_setOf Y_M_setOf 1 := ⟨plainFor_of_name (by decide +kernel), rfl, rfl, jx_w5 hB 41 rfl rfl, jx_w1 hB 7 rfl rfl, by decide, ⟨by decide +kernel, by decide +kernel⟩, by decide +kernel⟩
set_option maxRecDepth 100000 in
theorem m_M_exact {E : jx_E} (hB : jx_B E) : jx_M E z_M_exact Y_M_exact 0 := ⟨plainFor_of_name (by decide +kernel), rfl, rfl, jx_w5 hB 45 rfl rfl, jx_w1 hB 7 rfl rfl, by decide, ⟨by decide +kernel, by decide +kernel⟩, by decide +kernel⟩
set_option maxRecDepth 100000 in
theorem m_M_bound {E : jx_E} (hB : jx_B E) : jx_M E z_M_bound Y_M_bound 0 := ⟨plainFor_of_name (by decide +kernel), rfl, rfl, jx_w5 hB 49 rfl rfl, jx_w1 hB 7 rfl rfl, by decide, ⟨by decide +kernel, by decide +kernel⟩, by decide +kernel⟩
set_option maxRecDepth 100000 in
theorem m_M_give {E : jx_E} (hB : jx_B E) : jx_M E z_M_give Y_M_give 1 := ⟨plainFor_of_name (by decide +kernel), rfl, rfl, jx_w5 hB 53 rfl rfl, jx_w1 hB 7 rfl rfl, by decide, ⟨by decide +kernel, by decide +kernel⟩, by decide +kernel⟩
set_option maxRecDepth 100000 in
theorem m_M_planned {E : jx_E} (hB : jx_B E) : jx_M E z_M_planned Y_M_planned 2 := ⟨plainFor_of_name (by decide +kernel), rfl, rfl, jx_w5 hB 57 rfl rfl, jx_w1 hB 7 rfl rfl, by decide, ⟨by decide +kernel, by decide +kernel⟩, by decide +kernel⟩
set_option maxRecDepth 100000 in
theorem m_M_done {E : jx_E} (hB : jx_B E) : jx_M E z_M_done Y_M_done 1 := ⟨plainFor_of_name (by decide +kernel), rfl, rfl, jx_w5 hB 61 rfl rfl, jx_w1 hB 7 rfl rfl, by decide, ⟨by decide +kernel, by decide +kernel⟩, by decide +kernel⟩
set_option maxRecDepth 100000 in
theorem m_M_doneBy {E : jx_E} (hB : jx_B E) : jx_M E z_M_doneBy Y_M_doneBy 1 := ⟨plainFor_of_name (by decide +kernel), rfl, rfl, jx_w5 hB 65 rfl rfl, jx_w1 hB 7 rfl rfl, by decide, ⟨by decide +kernel, by decide +kernel⟩, by decide +kernel⟩
set_option maxRecDepth 100000 in
theorem m_M_leaves {E : jx_E} (hB : jx_B E) : jx_M E z_M_leaves Y_M_leaves 1 := ⟨plainFor_of_name (by decide +kernel), rfl, rfl, jx_w5 hB 69 rfl rfl, jx_w1 hB 7 rfl rfl, by decide, ⟨by decide +kernel, by decide +kernel⟩, by decide +kernel⟩
set_option maxRecDepth 100000 in
theorem m_M_fair {E : jx_E} (hB : jx_B E) : jx_M E z_M_fair Y_M_fair 1 := ⟨plainFor_of_name (by decide +kernel), rfl, rfl, jx_w5 hB 73 rfl rfl, jx_w1 hB 7 rfl rfl, by decide, ⟨by decide +kernel, by decide +kernel⟩, by decide +kernel⟩
set_option maxRecDepth 100000 in
theorem m_M_pass {E : jx_E} (hB : jx_B E) : jx_M E z_M_pass Y_M_pass 1 := ⟨plainFor_of_name (by decide +kernel), rfl, rfl, jx_w5 hB 77 rfl rfl, jx_w1 hB 7 rfl rfl, by decide, ⟨by decide +kernel, by decide +kernel⟩, by decide +kernel⟩
set_option maxRecDepth 100000 in
theorem m_M_order {E : jx_E} (hB : jx_B E) : jx_M E z_M_order Y_M_order 2 := ⟨plainFor_of_name (by decide +kernel), rfl, rfl, jx_w5 hB 81 rfl rfl, jx_w1 hB 7 rfl rfl, by decide, ⟨by decide +kernel, by decide +kernel⟩, by decide +kernel⟩
set_option maxRecDepth 100000 in
theorem m_M_told {E : jx_E} (hB : jx_B E) : jx_M E z_M_told Y_M_told 2 := ⟨plainFor_of_name (by decide +kernel), rfl, rfl, jx_w5 hB 85 rfl rfl, jx_w1 hB 7 rfl rfl, by decide, ⟨by decide +kernel, by decide +kernel⟩, by decide +kernel⟩
set_option maxRecDepth 100000 in
theorem m_M_known {E : jx_E} (hB : jx_B E) : jx_M E z_M_known Y_M_known 2 := ⟨plainFor_of_name (by decide +kernel), rfl, rfl, jx_w5 hB 89 rfl rfl, jx_w1 hB 7 rfl rfl, by decide, ⟨by decide +kernel, by decide +kernel⟩, by decide +kernel⟩
