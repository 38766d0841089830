/-! 23.calls: what the tables say of the methods and of the calls -/
set_option maxRecDepth 100000 in
theorem m_T_init {E : jx_E} (hB : jx_B E) : jx_M E z_T_init Y_T_init 0 := ⟨plainFor_of_name (by decide +kernel), rfl, rfl, jx_w hB 28 rfl rfl, jx_w hB 1 (by decide +kernel) rfl, by decide, ⟨by decide +kernel, by decide +kernel⟩, by decide +kernel⟩
set_option maxRecDepth 100000 in
theorem m_A_init {E : jx_E} (hB : jx_B E) : jx_M E z_A_init Y_A_init 0 := ⟨plainFor_of_name (by decide +kernel), rfl, rfl, jx_w hB 36 rfl rfl, jx_w hB 4 (by decide +kernel) rfl, by decide, ⟨by decide +kernel, by decide +kernel⟩, by decide +kernel⟩
set_option maxRecDepth 100000 in
theorem m_JAbstractList_init {E : jx_E} (hB : jx_B E) : jx_M E z_JAbstractList_init Y_JAbstractList_init 0 := ⟨plainFor_of_name (by decide +kernel), rfl, rfl, jx_w hB 39 rfl rfl, jx_w hB 3 (by decide +kernel) rfl, by decide, ⟨by decide +kernel, by decide +kernel⟩, by decide +kernel⟩
set_option maxRecDepth 100000 in
theorem m_JAbstractCollection_init {E : jx_E} (hB : jx_B E) : jx_M E z_JAbstractCollection_init Y_JAbstractCollection_init 0 := ⟨plainFor_of_name (by decide +kernel), rfl, rfl, jx_w hB 42 rfl rfl, jx_w hB 2 (by decide +kernel) rfl, by decide, ⟨by decide +kernel, by decide +kernel⟩, by decide +kernel⟩
set_option maxRecDepth 100000 in
theorem m_Y_init {E : jx_E} (hB : jx_B E) : jx_M E z_Y_init Y_Y_init 0 := ⟨plainFor_of_name (by decide +kernel), rfl, rfl, jx_w hB 62 rfl rfl, jx_w hB 5 (by decide +kernel) rfl, by decide, ⟨by decide +kernel, by decide +kernel⟩, by decide +kernel⟩
set_option maxRecDepth 100000 in
theorem m_X_init {E : jx_E} (hB : jx_B E) : jx_M E z_X_init Y_X_init 0 := ⟨plainFor_of_name (by decide +kernel), rfl, rfl, jx_w hB 73 rfl rfl, jx_w hB 6 (by decide +kernel) rfl, by decide, ⟨by decide +kernel, by decide +kernel⟩, by decide +kernel⟩
set_option maxRecDepth 100000 in
theorem m_T_exact {E : jx_E} (hB : jx_B E) : jx_M E z_T_exact Y_T_exact 0 := ⟨plainFor_of_name (by decide +kernel), rfl, rfl, jx_w hB 134 rfl rfl, jx_w hB 1 (by decide +kernel) rfl, by decide, ⟨by decide +kernel, by decide +kernel⟩, by decide +kernel⟩
set_option maxRecDepth 100000 in
theorem m_T_bound {E : jx_E} (hB : jx_B E) : jx_M E z_T_bound Y_T_bound 0 := ⟨plainFor_of_name (by decide +kernel), rfl, rfl, jx_w hB 138 rfl rfl, jx_w hB 1 (by decide +kernel) rfl, by decide, ⟨by decide +kernel, by decide +kernel⟩, by decide +kernel⟩
set_option maxRecDepth 100000 in
theorem m_A_size {E : jx_E} (hB : jx_B E) : jx_M E z_A_size Y_A_size 0 := ⟨plainFor_of_name (by decide +kernel), rfl, rfl, jx_w hB 142 rfl rfl, jx_w hB 4 (by decide +kernel) rfl, by decide, ⟨by decide +kernel, by decide +kernel⟩, by decide +kernel⟩
set_option maxRecDepth 100000 in
theorem m_A_get {E : jx_E} (hB : jx_B E) : jx_M E z_A_get Y_A_get 1 := ⟨plainFor_of_name (by decide +kernel), rfl, rfl, jx_w hB 146 rfl rfl, jx_w hB 4 (by decide +kernel) rfl, by decide, ⟨by decide +kernel, by decide +kernel⟩, by decide +kernel⟩
set_option maxRecDepth 100000 in
theorem m_JObjects_checkIndex {E : jx_E} (hB : jx_B E) : jx_M E z_JObjects_checkIndex Y_JObjects_checkIndex 2 := ⟨plainFor_of_name (by decide +kernel), rfl, rfl, jx_w hB 149 rfl rfl, jx_w hB 19 (by decide +kernel) rfl, by decide, ⟨by decide +kernel, by decide +kernel⟩, by decide +kernel⟩
set_option maxRecDepth 100000 in
theorem m_JPreconditions_checkIndex {E : jx_E} (hB : jx_B E) : jx_M E z_JPreconditions_checkIndex Y_JPreconditions_checkIndex 3 := ⟨plainFor_of_name (by decide +kernel), rfl, rfl, jx_w hB 152 rfl rfl, jx_w hB 20 (by decide +kernel) rfl, by decide, ⟨by decide +kernel, by decide +kernel⟩, by decide +kernel⟩
set_option maxRecDepth 100000 in
theorem m_A_elementData {E : jx_E} (hB : jx_B E) : jx_M E z_A_elementData Y_A_elementData 1 := ⟨plainFor_of_name (by decide +kernel), rfl, rfl, jx_w hB 156 rfl rfl, jx_w hB 4 (by decide +kernel) rfl, by decide, ⟨by decide +kernel, by decide +kernel⟩, by decide +kernel⟩
set_option maxRecDepth 100000 in
theorem m_T_leastLatenessAlone {E : jx_E} (hB : jx_B E) : jx_M E z_T_leastLatenessAlone Y_T_leastLatenessAlone 1 := ⟨plainFor_of_name (by decide +kernel), rfl, rfl, jx_w hB 161 rfl rfl, jx_w hB 1 (by decide +kernel) rfl, by decide, ⟨by decide +kernel, by decide +kernel⟩, by decide +kernel⟩
set_option maxRecDepth 100000 in
theorem m_P_may {E : jx_E} (hB : jx_B E) : jx_M E z_P_may Y_P_may 1 := ⟨plainFor_of_name (by decide +kernel), rfl, rfl, jx_w hB 168 rfl rfl, jx_w hB 13 (by decide +kernel) rfl, by decide, ⟨by decide +kernel, by decide +kernel⟩, by decide +kernel⟩
set_option maxRecDepth 100000 in
theorem m_P_hasSkill {E : jx_E} (hB : jx_B E) : jx_M E z_P_hasSkill Y_P_hasSkill 1 := ⟨plainFor_of_name (by decide +kernel), rfl, rfl, jx_w hB 172 rfl rfl, jx_w hB 13 (by decide +kernel) rfl, by decide, ⟨by decide +kernel, by decide +kernel⟩, by decide +kernel⟩
set_option maxRecDepth 100000 in
theorem m_P_hasRefused {E : jx_E} (hB : jx_B E) : jx_M E z_P_hasRefused Y_P_hasRefused 1 := ⟨plainFor_of_name (by decide +kernel), rfl, rfl, jx_w hB 176 rfl rfl, jx_w hB 13 (by decide +kernel) rfl, by decide, ⟨by decide +kernel, by decide +kernel⟩, by decide +kernel⟩
set_option maxRecDepth 100000 in
theorem m_T_startAsOnlyOne {E : jx_E} (hB : jx_B E) : jx_M E z_T_startAsOnlyOne Y_T_startAsOnlyOne 2 := ⟨plainFor_of_name (by decide +kernel), rfl, rfl, jx_w hB 180 rfl rfl, jx_w hB 1 (by decide +kernel) rfl, by decide, ⟨by decide +kernel, by decide +kernel⟩, by decide +kernel⟩
set_option maxRecDepth 100000 in
theorem m_P_freeFrom {E : jx_E} (hB : jx_B E) : jx_M E z_P_freeFrom Y_P_freeFrom 1 := ⟨plainFor_of_name (by decide +kernel), rfl, rfl, jx_w hB 184 rfl rfl, jx_w hB 13 (by decide +kernel) rfl, by decide, ⟨by decide +kernel, by decide +kernel⟩, by decide +kernel⟩
set_option maxRecDepth 100000 in
theorem m_P_startOf {E : jx_E} (hB : jx_B E) : jx_M E z_P_startOf Y_P_startOf 4 := ⟨plainFor_of_name (by decide +kernel), rfl, rfl, jx_w hB 191 rfl rfl, jx_w hB 13 (by decide +kernel) rfl, by decide, ⟨by decide +kernel, by decide +kernel⟩, by decide +kernel⟩
set_option maxRecDepth 100000 in
theorem m_Y_between {E : jx_E} (hB : jx_B E) : jx_M E z_Y_between Y_Y_between 2 := ⟨plainFor_of_name (by decide +kernel), rfl, rfl, jx_w hB 195 rfl rfl, jx_w hB 5 (by decide +kernel) rfl, by decide, ⟨by decide +kernel, by decide +kernel⟩, by decide +kernel⟩
set_option maxRecDepth 100000 in
theorem m_K_latenessFrom {E : jx_E} (hB : jx_B E) : jx_M E z_K_latenessFrom Y_K_latenessFrom 1 := ⟨plainFor_of_name (by decide +kernel), rfl, rfl, jx_w hB 200 rfl rfl, jx_w hB 23 (by decide +kernel) rfl, by decide, ⟨by decide +kernel, by decide +kernel⟩, by decide +kernel⟩
set_option maxRecDepth 100000 in
theorem m_T_count {E : jx_E} (hB : jx_B E) : jx_M E z_T_count Y_T_count 1 := ⟨plainFor_of_name (by decide +kernel), rfl, rfl, jx_w hB 208 rfl rfl, jx_w hB 1 (by decide +kernel) rfl, by decide, ⟨by decide +kernel, by decide +kernel⟩, by decide +kernel⟩
set_option maxRecDepth 100000 in
theorem m_T_tasksIn {E : jx_E} (hB : jx_B E) : jx_M E z_T_tasksIn Y_T_tasksIn 1 := ⟨plainFor_of_name (by decide +kernel), rfl, rfl, jx_w hB 212 rfl rfl, jx_w hB 1 (by decide +kernel) rfl, by decide, ⟨by decide +kernel, by decide +kernel⟩, by decide +kernel⟩
set_option maxRecDepth 100000 in
theorem m_T_tasksOf {E : jx_E} (hB : jx_B E) : jx_M E z_T_tasksOf Y_T_tasksOf 2 := ⟨plainFor_of_name (by decide +kernel), rfl, rfl, jx_w hB 216 rfl rfl, jx_w hB 1 (by decide +kernel) rfl, by decide, ⟨by decide +kernel, by decide +kernel⟩, by decide +kernel⟩
set_option maxRecDepth 100000 in
theorem m_K_isOf {E : jx_E} (hB : jx_B E) : jx_M E z_K_isOf Y_K_isOf 2 := ⟨plainFor_of_name (by decide +kernel), rfl, rfl, jx_w hB 220 rfl rfl, jx_w hB 23 (by decide +kernel) rfl, by decide, ⟨by decide +kernel, by decide +kernel⟩, by decide +kernel⟩
set_option maxRecDepth 100000 in
theorem m_T_latenessOfPlan {E : jx_E} (hB : jx_B E) : jx_M E z_T_latenessOfPlan Y_T_latenessOfPlan 0 := ⟨plainFor_of_name (by decide +kernel), rfl, rfl, jx_w hB 224 rfl rfl, jx_w hB 1 (by decide +kernel) rfl, by decide, ⟨by decide +kernel, by decide +kernel⟩, by decide +kernel⟩
set_option maxRecDepth 100000 in
theorem m_L_person {E : jx_E} (hB : jx_B E) : jx_M E z_L_person Y_L_person 6 := ⟨plainFor_of_name (by decide +kernel), rfl, rfl, jx_w hB 227 rfl rfl, jx_w hB 0 (by decide +kernel) rfl, by decide, ⟨by decide +kernel, by decide +kernel⟩, by decide +kernel⟩
set_option maxRecDepth 100000 in
theorem m_T_person {E : jx_E} (hB : jx_B E) : jx_M E z_T_person Y_T_person 4 := ⟨plainFor_of_name (by decide +kernel), rfl, rfl, jx_w hB 233 rfl rfl, jx_w hB 1 (by decide +kernel) rfl, by decide, ⟨by decide +kernel, by decide +kernel⟩, by decide +kernel⟩
set_option maxRecDepth 100000 in
theorem m_T_needWithin {E : jx_E} (hB : jx_B E) : jx_M E z_T_needWithin Y_T_needWithin 3 := ⟨plainFor_of_name (by decide +kernel), rfl, rfl, jx_w hB 236 rfl rfl, jx_w hB 1 (by decide +kernel) rfl, by decide, ⟨by decide +kernel, by decide +kernel⟩, by decide +kernel⟩
set_option maxRecDepth 100000 in
theorem m_T_needRoom {E : jx_E} (hB : jx_B E) : jx_M E z_T_needRoom Y_T_needRoom 2 := ⟨plainFor_of_name (by decide +kernel), rfl, rfl, jx_w hB 308 rfl rfl, jx_w hB 1 (by decide +kernel) rfl, by decide, ⟨by decide +kernel, by decide +kernel⟩, by decide +kernel⟩
set_option maxRecDepth 100000 in
theorem m_P_init {E : jx_E} (hB : jx_B E) : jx_M E z_P_init Y_P_init 5 := ⟨plainFor_of_name (by decide +kernel), rfl, rfl, jx_w hB 327 rfl rfl, jx_w hB 13 (by decide +kernel) rfl, by decide, ⟨by decide +kernel, by decide +kernel⟩, by decide +kernel⟩
set_option maxRecDepth 100000 in
theorem m_A_add {E : jx_E} (hB : jx_B E) : jx_M E z_A_add Y_A_add 1 := ⟨plainFor_of_name (by decide +kernel), rfl, rfl, jx_w hB 393 rfl rfl, jx_w hB 4 (by decide +kernel) rfl, by decide, ⟨by decide +kernel, by decide +kernel⟩, by decide +kernel⟩
set_option maxRecDepth 100000 in
theorem m_A_add3 {E : jx_E} (hB : jx_B E) : jx_M E z_A_add3 Y_A_add3 3 := ⟨plainFor_of_name (by decide +kernel), rfl, rfl, jx_w hB 397 rfl rfl, jx_w hB 4 (by decide +kernel) rfl, by decide, ⟨by decide +kernel, by decide +kernel⟩, by decide +kernel⟩
set_option maxRecDepth 100000 in
theorem m_A_grow {E : jx_E} (hB : jx_B E) : jx_M E z_A_grow Y_A_grow 0 := ⟨plainFor_of_name (by decide +kernel), rfl, rfl, jx_w hB 401 rfl rfl, jx_w hB 4 (by decide +kernel) rfl, by decide, ⟨by decide +kernel, by decide +kernel⟩, by decide +kernel⟩
set_option maxRecDepth 100000 in
theorem m_A_growBy {E : jx_E} (hB : jx_B E) : jx_M E z_A_growBy Y_A_growBy 1 := ⟨plainFor_of_name (by decide +kernel), rfl, rfl, jx_w hB 405 rfl rfl, jx_w hB 4 (by decide +kernel) rfl, by decide, ⟨by decide +kernel, by decide +kernel⟩, by decide +kernel⟩
set_option maxRecDepth 100000 in
theorem m_JArraysSupport_newLength {E : jx_E} (hB : jx_B E) : jx_M E z_JArraysSupport_newLength Y_JArraysSupport_newLength 3 := ⟨plainFor_of_name (by decide +kernel), rfl, rfl, jx_w hB 408 rfl rfl, jx_w hB 14 (by decide +kernel) rfl, by decide, ⟨by decide +kernel, by decide +kernel⟩, by decide +kernel⟩
set_option maxRecDepth 100000 in
theorem m_JArraysSupport_hugeLength {E : jx_E} (hB : jx_B E) : jx_M E z_JArraysSupport_hugeLength Y_JArraysSupport_hugeLength 2 := ⟨plainFor_of_name (by decide +kernel), rfl, rfl, jx_w hB 413 rfl rfl, jx_w hB 14 (by decide +kernel) rfl, by decide, ⟨by decide +kernel, by decide +kernel⟩, by decide +kernel⟩
set_option maxRecDepth 100000 in
theorem m_JArrays_copyOf {E : jx_E} (hB : jx_B E) : jx_M E z_JArrays_copyOf Y_JArrays_copyOf 2 := ⟨plainFor_of_name (by decide +kernel), rfl, rfl, jx_w hB 416 rfl rfl, jx_w hB 16 (by decide +kernel) rfl, by decide, ⟨by decide +kernel, by decide +kernel⟩, by decide +kernel⟩
set_option maxRecDepth 100000 in
theorem m_JArrays_copyOf3 {E : jx_E} (hB : jx_B E) : jx_M E z_JArrays_copyOf3 Y_JArrays_copyOf3 3 := ⟨plainFor_of_name (by decide +kernel), rfl, rfl, jx_w hB 434 rfl rfl, jx_w hB 16 (by decide +kernel) rfl, by decide, ⟨by decide +kernel, by decide +kernel⟩, by decide +kernel⟩
set_option maxRecDepth 100000 in
theorem m_L_rest {E : jx_E} (hB : jx_B E) : jx_M E z_L_rest Y_L_rest 4 := ⟨plainFor_of_name (by decide +kernel), rfl, rfl, jx_w hB 446 rfl rfl, jx_w hB 0 (by decide +kernel) rfl, by decide, ⟨by decide +kernel, by decide +kernel⟩, by decide +kernel⟩
set_option maxRecDepth 100000 in
theorem m_T_rest {E : jx_E} (hB : jx_B E) : jx_M E z_T_rest Y_T_rest 3 := ⟨plainFor_of_name (by decide +kernel), rfl, rfl, jx_w hB 451 rfl rfl, jx_w hB 1 (by decide +kernel) rfl, by decide, ⟨by decide +kernel, by decide +kernel⟩, by decide +kernel⟩
set_option maxRecDepth 100000 in
theorem m_T_personOf {E : jx_E} (hB : jx_B E) : jx_M E z_T_personOf Y_T_personOf 1 := ⟨plainFor_of_name (by decide +kernel), rfl, rfl, jx_w hB 455 rfl rfl, jx_w hB 1 (by decide +kernel) rfl, by decide, ⟨by decide +kernel, by decide +kernel⟩, by decide +kernel⟩
set_option maxRecDepth 100000 in
theorem m_L_train {E : jx_E} (hB : jx_B E) : jx_M E z_L_train Y_L_train 4 := ⟨plainFor_of_name (by decide +kernel), rfl, rfl, jx_w hB 474 rfl rfl, jx_w hB 0 (by decide +kernel) rfl, by decide, ⟨by decide +kernel, by decide +kernel⟩, by decide +kernel⟩
set_option maxRecDepth 100000 in
theorem m_T_train {E : jx_E} (hB : jx_B E) : jx_M E z_T_train Y_T_train 2 := ⟨plainFor_of_name (by decide +kernel), rfl, rfl, jx_w hB 479 rfl rfl, jx_w hB 1 (by decide +kernel) rfl, by decide, ⟨by decide +kernel, by decide +kernel⟩, by decide +kernel⟩
set_option maxRecDepth 100000 in
theorem m_JInteger_bitCount {E : jx_E} (hB : jx_B E) : jx_M E z_JInteger_bitCount Y_JInteger_bitCount 1 := ⟨plainFor_of_name (by decide +kernel), rfl, rfl, jx_w hB 499 rfl rfl, jx_w hB 22 (by decide +kernel) rfl, by decide, ⟨by decide +kernel, by decide +kernel⟩, by decide +kernel⟩
set_option maxRecDepth 100000 in
theorem m_L_task {E : jx_E} (hB : jx_B E) : jx_M E z_L_task Y_L_task 6 := ⟨plainFor_of_name (by decide +kernel), rfl, rfl, jx_w hB 505 rfl rfl, jx_w hB 0 (by decide +kernel) rfl, by decide, ⟨by decide +kernel, by decide +kernel⟩, by decide +kernel⟩
set_option maxRecDepth 100000 in
theorem m_T_task {E : jx_E} (hB : jx_B E) : jx_M E z_T_task Y_T_task 4 := ⟨plainFor_of_name (by decide +kernel), rfl, rfl, jx_w hB 509 rfl rfl, jx_w hB 1 (by decide +kernel) rfl, by decide, ⟨by decide +kernel, by decide +kernel⟩, by decide +kernel⟩
set_option maxRecDepth 100000 in
theorem m_K_init {E : jx_E} (hB : jx_B E) : jx_M E z_K_init Y_K_init 5 := ⟨plainFor_of_name (by decide +kernel), rfl, rfl, jx_w hB 512 rfl rfl, jx_w hB 23 (by decide +kernel) rfl, by decide, ⟨by decide +kernel, by decide +kernel⟩, by decide +kernel⟩
set_option maxRecDepth 100000 in
theorem m_L_way {E : jx_E} (hB : jx_B E) : jx_M E z_L_way Y_L_way 4 := ⟨plainFor_of_name (by decide +kernel), rfl, rfl, jx_w hB 557 rfl rfl, jx_w hB 0 (by decide +kernel) rfl, by decide, ⟨by decide +kernel, by decide +kernel⟩, by decide +kernel⟩
set_option maxRecDepth 100000 in
theorem m_T_way {E : jx_E} (hB : jx_B E) : jx_M E z_T_way Y_T_way 3 := ⟨plainFor_of_name (by decide +kernel), rfl, rfl, jx_w hB 561 rfl rfl, jx_w hB 1 (by decide +kernel) rfl, by decide, ⟨by decide +kernel, by decide +kernel⟩, by decide +kernel⟩
set_option maxRecDepth 100000 in
theorem m_Y_put {E : jx_E} (hB : jx_B E) : jx_M E z_Y_put Y_Y_put 3 := ⟨plainFor_of_name (by decide +kernel), rfl, rfl, jx_w hB 566 rfl rfl, jx_w hB 5 (by decide +kernel) rfl, by decide, ⟨by decide +kernel, by decide +kernel⟩, by decide +kernel⟩
set_option maxRecDepth 100000 in
theorem m_L_refuse {E : jx_E} (hB : jx_B E) : jx_M E z_L_refuse Y_L_refuse 4 := ⟨plainFor_of_name (by decide +kernel), rfl, rfl, jx_w hB 569 rfl rfl, jx_w hB 0 (by decide +kernel) rfl, by decide, ⟨by decide +kernel, by decide +kernel⟩, by decide +kernel⟩
set_option maxRecDepth 100000 in
theorem m_T_refuse {E : jx_E} (hB : jx_B E) : jx_M E z_T_refuse Y_T_refuse 2 := ⟨plainFor_of_name (by decide +kernel), rfl, rfl, jx_w hB 573 rfl rfl, jx_w hB 1 (by decide +kernel) rfl, by decide, ⟨by decide +kernel, by decide +kernel⟩, by decide +kernel⟩
set_option maxRecDepth 100000 in
theorem m_T_taskOf {E : jx_E} (hB : jx_B E) : jx_M E z_T_taskOf Y_T_taskOf 1 := ⟨plainFor_of_name (by decide +kernel), rfl, rfl, jx_w hB 577 rfl rfl, jx_w hB 1 (by decide +kernel) rfl, by decide, ⟨by decide +kernel, by decide +kernel⟩, by decide +kernel⟩
set_option maxRecDepth 100000 in
theorem m_T_needOpen {E : jx_E} (hB : jx_B E) : jx_M E z_T_needOpen Y_T_needOpen 1 := ⟨plainFor_of_name (by decide +kernel), rfl, rfl, jx_w hB 581 rfl rfl, jx_w hB 1 (by decide +kernel) rfl, by decide, ⟨by decide +kernel, by decide +kernel⟩, by decide +kernel⟩
set_option maxRecDepth 100000 in
theorem m_K_free {E : jx_E} (hB : jx_B E) : jx_M E z_K_free Y_K_free 0 := ⟨plainFor_of_name (by decide +kernel), rfl, rfl, jx_w hB 588 rfl rfl, jx_w hB 23 (by decide +kernel) rfl, by decide, ⟨by decide +kernel, by decide +kernel⟩, by decide +kernel⟩
set_option maxRecDepth 100000 in
theorem m_L_bar {E : jx_E} (hB : jx_B E) : jx_M E z_L_bar Y_L_bar 4 := ⟨plainFor_of_name (by decide +kernel), rfl, rfl, jx_w hB 591 rfl rfl, jx_w hB 0 (by decide +kernel) rfl, by decide, ⟨by decide +kernel, by decide +kernel⟩, by decide +kernel⟩
set_option maxRecDepth 100000 in
theorem m_T_bar {E : jx_E} (hB : jx_B E) : jx_M E z_T_bar Y_T_bar 2 := ⟨plainFor_of_name (by decide +kernel), rfl, rfl, jx_w hB 595 rfl rfl, jx_w hB 1 (by decide +kernel) rfl, by decide, ⟨by decide +kernel, by decide +kernel⟩, by decide +kernel⟩
set_option maxRecDepth 100000 in
theorem m_L_assign {E : jx_E} (hB : jx_B E) : jx_M E z_L_assign Y_L_assign 3 := ⟨plainFor_of_name (by decide +kernel), rfl, rfl, jx_w hB 598 rfl rfl, jx_w hB 0 (by decide +kernel) rfl, by decide, ⟨by decide +kernel, by decide +kernel⟩, by decide +kernel⟩
set_option maxRecDepth 100000 in
theorem m_T_assign {E : jx_E} (hB : jx_B E) : jx_M E z_T_assign Y_T_assign 1 := ⟨plainFor_of_name (by decide +kernel), rfl, rfl, jx_w hB 602 rfl rfl, jx_w hB 1 (by decide +kernel) rfl, by decide, ⟨by decide +kernel, by decide +kernel⟩, by decide +kernel⟩
set_option maxRecDepth 100000 in
theorem m_T_freeOpenTasks {E : jx_E} (hB : jx_B E) : jx_M E z_T_freeOpenTasks Y_T_freeOpenTasks 0 := ⟨plainFor_of_name (by decide +kernel), rfl, rfl, jx_w hB 606 rfl rfl, jx_w hB 1 (by decide +kernel) rfl, by decide, ⟨by decide +kernel, by decide +kernel⟩, by decide +kernel⟩
set_option maxRecDepth 100000 in
theorem m_X_plan {E : jx_E} (hB : jx_B E) : jx_M E z_X_plan Y_X_plan 4 := ⟨plainFor_of_name (by decide +kernel), rfl, rfl, jx_w hB 610 rfl rfl, jx_w hB 6 (by decide +kernel) rfl, by decide, ⟨by decide +kernel, by decide +kernel⟩, by decide +kernel⟩
set_option maxRecDepth 100000 in
theorem m_X_collectOpen {E : jx_E} (hB : jx_B E) : jx_M E z_X_collectOpen Y_X_collectOpen 1 := ⟨plainFor_of_name (by decide +kernel), rfl, rfl, jx_w hB 614 rfl rfl, jx_w hB 6 (by decide +kernel) rfl, by decide, ⟨by decide +kernel, by decide +kernel⟩, by decide +kernel⟩
set_option maxRecDepth 100000 in
theorem m_A_clear {E : jx_E} (hB : jx_B E) : jx_M E z_A_clear Y_A_clear 0 := ⟨plainFor_of_name (by decide +kernel), rfl, rfl, jx_w hB 618 rfl rfl, jx_w hB 4 (by decide +kernel) rfl, by decide, ⟨by decide +kernel, by decide +kernel⟩, by decide +kernel⟩
set_option maxRecDepth 100000 in
theorem m_X_tryOrders {E : jx_E} (hB : jx_B E) : jx_M E z_X_tryOrders Y_X_tryOrders 5 := ⟨plainFor_of_name (by decide +kernel), rfl, rfl, jx_w hB 629 rfl rfl, jx_w hB 6 (by decide +kernel) rfl, by decide, ⟨by decide +kernel, by decide +kernel⟩, by decide +kernel⟩
set_option maxRecDepth 100000 in
theorem m_X_keepIfBetter {E : jx_E} (hB : jx_B E) : jx_M E z_X_keepIfBetter Y_X_keepIfBetter 3 := ⟨plainFor_of_name (by decide +kernel), rfl, rfl, jx_w hB 633 rfl rfl, jx_w hB 6 (by decide +kernel) rfl, by decide, ⟨by decide +kernel, by decide +kernel⟩, by decide +kernel⟩
set_option maxRecDepth 100000 in
theorem m_X_startsEarlier {E : jx_E} (hB : jx_B E) : jx_M E z_X_startsEarlier Y_X_startsEarlier 2 := ⟨plainFor_of_name (by decide +kernel), rfl, rfl, jx_w hB 637 rfl rfl, jx_w hB 6 (by decide +kernel) rfl, by decide, ⟨by decide +kernel, by decide +kernel⟩, by decide +kernel⟩
set_option maxRecDepth 100000 in
theorem m_X_shareOut {E : jx_E} (hB : jx_B E) : jx_M E z_X_shareOut Y_X_shareOut 1 := ⟨plainFor_of_name (by decide +kernel), rfl, rfl, jx_w hB 644 rfl rfl, jx_w hB 6 (by decide +kernel) rfl, by decide, ⟨by decide +kernel, by decide +kernel⟩, by decide +kernel⟩
set_option maxRecDepth 100000 in
theorem m_X_rank {E : jx_E} (hB : jx_B E) : jx_M E z_X_rank Y_X_rank 3 := ⟨plainFor_of_name (by decide +kernel), rfl, rfl, jx_w hB 650 rfl rfl, jx_w hB 6 (by decide +kernel) rfl, by decide, ⟨by decide +kernel, by decide +kernel⟩, by decide +kernel⟩
set_option maxRecDepth 100000 in
theorem m_X_chooseFrom {E : jx_E} (hB : jx_B E) : jx_M E z_X_chooseFrom Y_X_chooseFrom 2 := ⟨plainFor_of_name (by decide +kernel), rfl, rfl, jx_w hB 655 rfl rfl, jx_w hB 6 (by decide +kernel) rfl, by decide, ⟨by decide +kernel, by decide +kernel⟩, by decide +kernel⟩
set_option maxRecDepth 100000 in
theorem m_X_tell {E : jx_E} (hB : jx_B E) : jx_M E z_X_tell Y_X_tell 1 := ⟨plainFor_of_name (by decide +kernel), rfl, rfl, jx_w hB 659 rfl rfl, jx_w hB 6 (by decide +kernel) rfl, by decide, ⟨by decide +kernel, by decide +kernel⟩, by decide +kernel⟩
set_option maxRecDepth 100000 in
theorem m_K_planFor {E : jx_E} (hB : jx_B E) : jx_M E z_K_planFor Y_K_planFor 2 := ⟨plainFor_of_name (by decide +kernel), rfl, rfl, jx_w hB 663 rfl rfl, jx_w hB 23 (by decide +kernel) rfl, by decide, ⟨by decide +kernel, by decide +kernel⟩, by decide +kernel⟩
set_option maxRecDepth 100000 in
theorem m_T_planByRule {E : jx_E} (hB : jx_B E) : jx_M E z_T_planByRule Y_T_planByRule 0 := ⟨plainFor_of_name (by decide +kernel), rfl, rfl, jx_w hB 667 rfl rfl, jx_w hB 1 (by decide +kernel) rfl, by decide, ⟨by decide +kernel, by decide +kernel⟩, by decide +kernel⟩
set_option maxRecDepth 100000 in
theorem m_T_sortOpenByDue {E : jx_E} (hB : jx_B E) : jx_M E z_T_sortOpenByDue Y_T_sortOpenByDue 0 := ⟨plainFor_of_name (by decide +kernel), rfl, rfl, jx_w hB 671 rfl rfl, jx_w hB 1 (by decide +kernel) rfl, by decide, ⟨by decide +kernel, by decide +kernel⟩, by decide +kernel⟩
set_option maxRecDepth 100000 in
theorem m_A_addAt {E : jx_E} (hB : jx_B E) : jx_M E z_A_addAt Y_A_addAt 2 := ⟨plainFor_of_name (by decide +kernel), rfl, rfl, jx_w hB 676 rfl rfl, jx_w hB 4 (by decide +kernel) rfl, by decide, ⟨by decide +kernel, by decide +kernel⟩, by decide +kernel⟩
set_option maxRecDepth 100000 in
theorem m_A_rangeCheckForAdd {E : jx_E} (hB : jx_B E) : jx_M E z_A_rangeCheckForAdd Y_A_rangeCheckForAdd 1 := ⟨plainFor_of_name (by decide +kernel), rfl, rfl, jx_w hB 680 rfl rfl, jx_w hB 4 (by decide +kernel) rfl, by decide, ⟨by decide +kernel, by decide +kernel⟩, by decide +kernel⟩
set_option maxRecDepth 100000 in
theorem m_T_addToBestRow {E : jx_E} (hB : jx_B E) : jx_M E z_T_addToBestRow Y_T_addToBestRow 1 := ⟨plainFor_of_name (by decide +kernel), rfl, rfl, jx_w hB 685 rfl rfl, jx_w hB 1 (by decide +kernel) rfl, by decide, ⟨by decide +kernel, by decide +kernel⟩, by decide +kernel⟩
set_option maxRecDepth 100000 in
theorem m_P_addToRow {E : jx_E} (hB : jx_B E) : jx_M E z_P_addToRow Y_P_addToRow 1 := ⟨plainFor_of_name (by decide +kernel), rfl, rfl, jx_w hB 690 rfl rfl, jx_w hB 13 (by decide +kernel) rfl, by decide, ⟨by decide +kernel, by decide +kernel⟩, by decide +kernel⟩
set_option maxRecDepth 100000 in
theorem m_L_give {E : jx_E} (hB : jx_B E) : jx_M E z_L_give Y_L_give 3 := ⟨plainFor_of_name (by decide +kernel), rfl, rfl, jx_w hB 693 rfl rfl, jx_w hB 0 (by decide +kernel) rfl, by decide, ⟨by decide +kernel, by decide +kernel⟩, by decide +kernel⟩
set_option maxRecDepth 100000 in
theorem m_T_give {E : jx_E} (hB : jx_B E) : jx_M E z_T_give Y_T_give 1 := ⟨plainFor_of_name (by decide +kernel), rfl, rfl, jx_w hB 697 rfl rfl, jx_w hB 1 (by decide +kernel) rfl, by decide, ⟨by decide +kernel, by decide +kernel⟩, by decide +kernel⟩
set_option maxRecDepth 100000 in
theorem m_T_needAtWork {E : jx_E} (hB : jx_B E) : jx_M E z_T_needAtWork Y_T_needAtWork 1 := ⟨plainFor_of_name (by decide +kernel), rfl, rfl, jx_w hB 701 rfl rfl, jx_w hB 1 (by decide +kernel) rfl, by decide, ⟨by decide +kernel, by decide +kernel⟩, by decide +kernel⟩
set_option maxRecDepth 100000 in
theorem m_T_plannedTask {E : jx_E} (hB : jx_B E) : jx_M E z_T_plannedTask Y_T_plannedTask 2 := ⟨plainFor_of_name (by decide +kernel), rfl, rfl, jx_w hB 707 rfl rfl, jx_w hB 1 (by decide +kernel) rfl, by decide, ⟨by decide +kernel, by decide +kernel⟩, by decide +kernel⟩
set_option maxRecDepth 100000 in
theorem m_T_plannedBefore {E : jx_E} (hB : jx_B E) : jx_M E z_T_plannedBefore Y_T_plannedBefore 1 := ⟨plainFor_of_name (by decide +kernel), rfl, rfl, jx_w hB 711 rfl rfl, jx_w hB 1 (by decide +kernel) rfl, by decide, ⟨by decide +kernel, by decide +kernel⟩, by decide +kernel⟩
set_option maxRecDepth 100000 in
theorem m_L_done {E : jx_E} (hB : jx_B E) : jx_M E z_L_done Y_L_done 3 := ⟨plainFor_of_name (by decide +kernel), rfl, rfl, jx_w hB 714 rfl rfl, jx_w hB 0 (by decide +kernel) rfl, by decide, ⟨by decide +kernel, by decide +kernel⟩, by decide +kernel⟩
set_option maxRecDepth 100000 in
theorem m_T_done {E : jx_E} (hB : jx_B E) : jx_M E z_T_done Y_T_done 1 := ⟨plainFor_of_name (by decide +kernel), rfl, rfl, jx_w hB 718 rfl rfl, jx_w hB 1 (by decide +kernel) rfl, by decide, ⟨by decide +kernel, by decide +kernel⟩, by decide +kernel⟩
set_option maxRecDepth 100000 in
theorem m_L_leaves {E : jx_E} (hB : jx_B E) : jx_M E z_L_leaves Y_L_leaves 3 := ⟨plainFor_of_name (by decide +kernel), rfl, rfl, jx_w hB 722 rfl rfl, jx_w hB 0 (by decide +kernel) rfl, by decide, ⟨by decide +kernel, by decide +kernel⟩, by decide +kernel⟩
set_option maxRecDepth 100000 in
theorem m_T_leaves {E : jx_E} (hB : jx_B E) : jx_M E z_T_leaves Y_T_leaves 1 := ⟨plainFor_of_name (by decide +kernel), rfl, rfl, jx_w hB 726 rfl rfl, jx_w hB 1 (by decide +kernel) rfl, by decide, ⟨by decide +kernel, by decide +kernel⟩, by decide +kernel⟩
set_option maxRecDepth 100000 in
theorem m_L_fair {E : jx_E} (hB : jx_B E) : jx_M E z_L_fair Y_L_fair 3 := ⟨plainFor_of_name (by decide +kernel), rfl, rfl, jx_w hB 730 rfl rfl, jx_w hB 0 (by decide +kernel) rfl, by decide, ⟨by decide +kernel, by decide +kernel⟩, by decide +kernel⟩
set_option maxRecDepth 100000 in
theorem m_T_fair {E : jx_E} (hB : jx_B E) : jx_M E z_T_fair Y_T_fair 1 := ⟨plainFor_of_name (by decide +kernel), rfl, rfl, jx_w hB 734 rfl rfl, jx_w hB 1 (by decide +kernel) rfl, by decide, ⟨by decide +kernel, by decide +kernel⟩, by decide +kernel⟩
set_option maxRecDepth 100000 in
theorem m_L_pass {E : jx_E} (hB : jx_B E) : jx_M E z_L_pass Y_L_pass 2 := ⟨plainFor_of_name (by decide +kernel), rfl, rfl, jx_w hB 737 rfl rfl, jx_w hB 0 (by decide +kernel) rfl, by decide, ⟨by decide +kernel, by decide +kernel⟩, by decide +kernel⟩
set_option maxRecDepth 100000 in
theorem m_T_pass {E : jx_E} (hB : jx_B E) : jx_M E z_T_pass Y_T_pass 1 := ⟨plainFor_of_name (by decide +kernel), rfl, rfl, jx_w hB 741 rfl rfl, jx_w hB 1 (by decide +kernel) rfl, by decide, ⟨by decide +kernel, by decide +kernel⟩, by decide +kernel⟩
set_option maxRecDepth 100000 in
theorem m_L_order {E : jx_E} (hB : jx_B E) : jx_M E z_L_order Y_L_order 4 := ⟨plainFor_of_name (by decide +kernel), rfl, rfl, jx_w hB 744 rfl rfl, jx_w hB 0 (by decide +kernel) rfl, by decide, ⟨by decide +kernel, by decide +kernel⟩, by decide +kernel⟩
set_option maxRecDepth 100000 in
theorem m_T_order {E : jx_E} (hB : jx_B E) : jx_M E z_T_order Y_T_order 2 := ⟨plainFor_of_name (by decide +kernel), rfl, rfl, jx_w hB 748 rfl rfl, jx_w hB 1 (by decide +kernel) rfl, by decide, ⟨by decide +kernel, by decide +kernel⟩, by decide +kernel⟩
set_option maxRecDepth 100000 in
theorem m_L_told {E : jx_E} (hB : jx_B E) : jx_M E z_L_told Y_L_told 4 := ⟨plainFor_of_name (by decide +kernel), rfl, rfl, jx_w hB 752 rfl rfl, jx_w hB 0 (by decide +kernel) rfl, by decide, ⟨by decide +kernel, by decide +kernel⟩, by decide +kernel⟩
set_option maxRecDepth 100000 in
theorem m_T_told {E : jx_E} (hB : jx_B E) : jx_M E z_T_told Y_T_told 2 := ⟨plainFor_of_name (by decide +kernel), rfl, rfl, jx_w hB 756 rfl rfl, jx_w hB 1 (by decide +kernel) rfl, by decide, ⟨by decide +kernel, by decide +kernel⟩, by decide +kernel⟩
set_option maxRecDepth 100000 in
theorem m_L_known {E : jx_E} (hB : jx_B E) : jx_M E z_L_known Y_L_known 4 := ⟨plainFor_of_name (by decide +kernel), rfl, rfl, jx_w hB 760 rfl rfl, jx_w hB 0 (by decide +kernel) rfl, by decide, ⟨by decide +kernel, by decide +kernel⟩, by decide +kernel⟩
set_option maxRecDepth 100000 in
theorem m_T_known {E : jx_E} (hB : jx_B E) : jx_M E z_T_known Y_T_known 2 := ⟨plainFor_of_name (by decide +kernel), rfl, rfl, jx_w hB 764 rfl rfl, jx_w hB 1 (by decide +kernel) rfl, by decide, ⟨by decide +kernel, by decide +kernel⟩, by decide +kernel⟩
set_option maxRecDepth 100000 in
theorem m_M_init {E : jx_E} (hB : jx_B E) : jx_M E z_M_init Y_M_init 0 := ⟨plainFor_of_name (by decide +kernel), rfl, rfl, jx_w hB 770 rfl rfl, jx_w hB 7 (by decide +kernel) rfl, by decide, ⟨by decide +kernel, by decide +kernel⟩, by decide +kernel⟩
set_option maxRecDepth 100000 in
theorem m_M_thrown {E : jx_E} (hB : jx_B E) : jx_M E z_M_thrown Y_M_thrown 0 := ⟨plainFor_of_name (by decide +kernel), rfl, rfl, jx_w hB 867 rfl rfl, jx_w hB 7 (by decide +kernel) rfl, by decide, ⟨by decide +kernel, by decide +kernel⟩, by decide +kernel⟩
set_option maxRecDepth 100000 in
theorem m_M_person {E : jx_E} (hB : jx_B E) : jx_M E z_M_person Y_M_person 4 := ⟨plainFor_of_name (by decide +kernel), rfl, rfl, jx_w hB 871 rfl rfl, jx_w hB 7 (by decide +kernel) rfl, by decide, ⟨by decide +kernel, by decide +kernel⟩, by decide +kernel⟩
set_option maxRecDepth 100000 in
theorem m_M_within {E : jx_E} (hB : jx_B E) : jx_M E z_M_within Y_M_within 3 := ⟨plainFor_of_name (by decide +kernel), rfl, rfl, jx_w hB 874 rfl rfl, jx_w hB 7 (by decide +kernel) rfl, by decide, ⟨by decide +kernel, by decide +kernel⟩, by decide +kernel⟩
set_option maxRecDepth 100000 in
theorem m_M_rest {E : jx_E} (hB : jx_B E) : jx_M E z_M_rest Y_M_rest 3 := ⟨plainFor_of_name (by decide +kernel), rfl, rfl, jx_w hB 879 rfl rfl, jx_w hB 7 (by decide +kernel) rfl, by decide, ⟨by decide +kernel, by decide +kernel⟩, by decide +kernel⟩
set_option maxRecDepth 100000 in
theorem m_M_isPerson {E : jx_E} (hB : jx_B E) : jx_M E z_M_isPerson Y_M_isPerson 1 := ⟨plainFor_of_name (by decide +kernel), rfl, rfl, jx_w hB 883 rfl rfl, jx_w hB 7 (by decide +kernel) rfl, by decide, ⟨by decide +kernel, by decide +kernel⟩, by decide +kernel⟩
set_option maxRecDepth 100000 in
theorem m_M_train {E : jx_E} (hB : jx_B E) : jx_M E z_M_train Y_M_train 2 := ⟨plainFor_of_name (by decide +kernel), rfl, rfl, jx_w hB 887 rfl rfl, jx_w hB 7 (by decide +kernel) rfl, by decide, ⟨by decide +kernel, by decide +kernel⟩, by decide +kernel⟩
set_option maxRecDepth 100000 in
theorem m_M_bits {E : jx_E} (hB : jx_B E) : jx_M E z_M_bits Y_M_bits 1 := ⟨plainFor_of_name (by decide +kernel), rfl, rfl, jx_w hB 890 rfl rfl, jx_w hB 7 (by decide +kernel) rfl, by decide, ⟨by decide +kernel, by decide +kernel⟩, by decide +kernel⟩
set_option maxRecDepth 100000 in
theorem m_M_task {E : jx_E} (hB : jx_B E) : jx_M E z_M_task Y_M_task 4 := ⟨plainFor_of_name (by decide +kernel), rfl, rfl, jx_w hB 894 rfl rfl, jx_w hB 7 (by decide +kernel) rfl, by decide, ⟨by decide +kernel, by decide +kernel⟩, by decide +kernel⟩
set_option maxRecDepth 100000 in
theorem m_M_way {E : jx_E} (hB : jx_B E) : jx_M E z_M_way Y_M_way 3 := ⟨plainFor_of_name (by decide +kernel), rfl, rfl, jx_w hB 898 rfl rfl, jx_w hB 7 (by decide +kernel) rfl, by decide, ⟨by decide +kernel, by decide +kernel⟩, by decide +kernel⟩
set_option maxRecDepth 100000 in
theorem m_M_refuse {E : jx_E} (hB : jx_B E) : jx_M E z_M_refuse Y_M_refuse 2 := ⟨plainFor_of_name (by decide +kernel), rfl, rfl, jx_w hB 902 rfl rfl, jx_w hB 7 (by decide +kernel) rfl, by decide, ⟨by decide +kernel, by decide +kernel⟩, by decide +kernel⟩
set_option maxRecDepth 100000 in
theorem m_M_isTask {E : jx_E} (hB : jx_B E) : jx_M E z_M_isTask Y_M_isTask 1 := ⟨plainFor_of_name (by decide +kernel), rfl, rfl, jx_w hB 906 rfl rfl, jx_w hB 7 (by decide +kernel) rfl, by decide, ⟨by decide +kernel, by decide +kernel⟩, by decide +kernel⟩
set_option maxRecDepth 100000 in
theorem m_M_hasRefused {E : jx_E} (hB : jx_B E) : jx_M E z_M_hasRefused Y_M_hasRefused 2 := ⟨plainFor_of_name (by decide +kernel), rfl, rfl, jx_w hB 910 rfl rfl, jx_w hB 7 (by decide +kernel) rfl, by decide, ⟨by decide +kernel, by decide +kernel⟩, by decide +kernel⟩
set_option maxRecDepth 100000 in
theorem m_M_free {E : jx_E} (hB : jx_B E) : jx_M E z_M_free Y_M_free 1 := ⟨plainFor_of_name (by decide +kernel), rfl, rfl, jx_w hB 914 rfl rfl, jx_w hB 7 (by decide +kernel) rfl, by decide, ⟨by decide +kernel, by decide +kernel⟩, by decide +kernel⟩
set_option maxRecDepth 100000 in
theorem m_M_bar {E : jx_E} (hB : jx_B E) : jx_M E z_M_bar Y_M_bar 2 := ⟨plainFor_of_name (by decide +kernel), rfl, rfl, jx_w hB 918 rfl rfl, jx_w hB 7 (by decide +kernel) rfl, by decide, ⟨by decide +kernel, by decide +kernel⟩, by decide +kernel⟩
set_option maxRecDepth 100000 in
theorem m_M_aloneAt {E : jx_E} (hB : jx_B E) : jx_M E z_M_aloneAt Y_M_aloneAt 2 := ⟨plainFor_of_name (by decide +kernel), rfl, rfl, jx_w hB 922 rfl rfl, jx_w hB 7 (by decide +kernel) rfl, by decide, ⟨by decide +kernel, by decide +kernel⟩, by decide +kernel⟩
set_option maxRecDepth 100000 in
theorem m_M_readyAt {E : jx_E} (hB : jx_B E) : jx_M E z_M_readyAt Y_M_readyAt 1 := ⟨plainFor_of_name (by decide +kernel), rfl, rfl, jx_w hB 926 rfl rfl, jx_w hB 7 (by decide +kernel) rfl, by decide, ⟨by decide +kernel, by decide +kernel⟩, by decide +kernel⟩
set_option maxRecDepth 100000 in
theorem m_M_greater {E : jx_E} (hB : jx_B E) : jx_M E z_M_greater Y_M_greater 2 := ⟨plainFor_of_name (by decide +kernel), rfl, rfl, jx_w hB 929 rfl rfl, jx_w hB 7 (by decide +kernel) rfl, by decide, ⟨by decide +kernel, by decide +kernel⟩, by decide +kernel⟩
set_option maxRecDepth 100000 in
theorem m_M_startOf {E : jx_E} (hB : jx_B E) : jx_M E z_M_startOf Y_M_startOf 4 := ⟨plainFor_of_name (by decide +kernel), rfl, rfl, jx_w hB 933 rfl rfl, jx_w hB 7 (by decide +kernel) rfl, by decide, ⟨by decide +kernel, by decide +kernel⟩, by decide +kernel⟩
set_option maxRecDepth 100000 in
theorem m_M_assign {E : jx_E} (hB : jx_B E) : jx_M E z_M_assign Y_M_assign 1 := ⟨plainFor_of_name (by decide +kernel), rfl, rfl, jx_w hB 937 rfl rfl, jx_w hB 7 (by decide +kernel) rfl, by decide, ⟨by decide +kernel, by decide +kernel⟩, by decide +kernel⟩
set_option maxRecDepth 100000 in
theorem m_M_count {E : jx_E} (hB : jx_B E) : jx_M E z_M_count Y_M_count 1 := ⟨plainFor_of_name (by decide +kernel), rfl, rfl, jx_w hB 941 rfl rfl, jx_w hB 7 (by decide +kernel) rfl, by decide, ⟨by decide +kernel, by decide +kernel⟩, by decide +kernel⟩
set_option maxRecDepth 100000 in
theorem m_M_inState {E : jx_E} (hB : jx_B E) : jx_M E z_M_inState Y_M_inState 1 := ⟨plainFor_of_name (by decide +kernel), rfl, rfl, jx_w hB 945 rfl rfl, jx_w hB 7 (by decide +kernel) rfl, by decide, ⟨by decide +kernel, by decide +kernel⟩, by decide +kernel⟩
set_option maxRecDepth 100000 in
theorem m_M_lateBy {E : jx_E} (hB : jx_B E) : jx_M E z_M_lateBy Y_M_lateBy 2 := ⟨plainFor_of_name (by decide +kernel), rfl, rfl, jx_w hB 949 rfl rfl, jx_w hB 7 (by decide +kernel) rfl, by decide, ⟨by decide +kernel, by decide +kernel⟩, by decide +kernel⟩
set_option maxRecDepth 100000 in
theorem m_M_planByRule {E : jx_E} (hB : jx_B E) : jx_M E z_M_planByRule Y_M_planByRule 0 := ⟨plainFor_of_name (by decide +kernel), rfl, rfl, jx_w hB 953 rfl rfl, jx_w hB 7 (by decide +kernel) rfl, by decide, ⟨by decide +kernel, by decide +kernel⟩, by decide +kernel⟩
set_option maxRecDepth 100000 in
theorem m_M_planOne {E : jx_E} (hB : jx_B E) : jx_M E z_M_planOne Y_M_planOne 1 := ⟨plainFor_of_name (by decide +kernel), rfl, rfl, jx_w hB 957 rfl rfl, jx_w hB 7 (by decide +kernel) rfl, by decide, ⟨by decide +kernel, by decide +kernel⟩, by decide +kernel⟩
set_option maxRecDepth 100000 in
theorem m_M_may {E : jx_E} (hB : jx_B E) : jx_M E z_M_may Y_M_may 2 := ⟨plainFor_of_name (by decide +kernel), rfl, rfl, jx_w hB 961 rfl rfl, jx_w hB 7 (by decide +kernel) rfl, by decide, ⟨by decide +kernel, by decide +kernel⟩, by decide +kernel⟩
set_option maxRecDepth 100000 in
theorem m_M_behind {E : jx_E} (hB : jx_B E) : jx_M E z_M_behind Y_M_behind 2 := ⟨plainFor_of_name (by decide +kernel), rfl, rfl, jx_w hB 965 rfl rfl, jx_w hB 7 (by decide +kernel) rfl, by decide, ⟨by decide +kernel, by decide +kernel⟩, by decide +kernel⟩
set_option maxRecDepth 100000 in
theorem m_M_load {E : jx_E} (hB : jx_B E) : jx_M E z_M_load Y_M_load 1 := ⟨plainFor_of_name (by decide +kernel), rfl, rfl, jx_w hB 969 rfl rfl, jx_w hB 7 (by decide +kernel) rfl, by decide, ⟨by decide +kernel, by decide +kernel⟩, by decide +kernel⟩
set_option maxRecDepth 100000 in
theorem m_M_planExactly {E : jx_E} (hB : jx_B E) : jx_M E z_M_planExactly Y_M_planExactly 0 := ⟨plainFor_of_name (by decide +kernel), rfl, rfl, jx_w hB 973 rfl rfl, jx_w hB 7 (by decide +kernel) rfl, by decide, ⟨by decide +kernel, by decide +kernel⟩, by decide +kernel⟩
set_option maxRecDepth 100000 in
theorem m_M_findOrder {E : jx_E} (hB : jx_B E) : jx_M E z_M_findOrder Y_M_findOrder 2 := ⟨plainFor_of_name (by decide +kernel), rfl, rfl, jx_w hB 977 rfl rfl, jx_w hB 7 (by decide +kernel) rfl, by decide, ⟨by decide +kernel, by decide +kernel⟩, by decide +kernel⟩
set_option maxRecDepth 100000 in
theorem m_M_tryOrder {E : jx_E} (hB : jx_B E) : jx_M E z_M_tryOrder Y_M_tryOrder 2 := ⟨plainFor_of_name (by decide +kernel), rfl, rfl, jx_w hB 981 rfl rfl, jx_w hB 7 (by decide +kernel) rfl, by decide, ⟨by decide +kernel, by decide +kernel⟩, by decide +kernel⟩
set_option maxRecDepth 100000 in
theorem m_M_startsAreLess {E : jx_E} (hB : jx_B E) : jx_M E z_M_startsAreLess Y_M_startsAreLess 2 := ⟨plainFor_of_name (by decide +kernel), rfl, rfl, jx_w hB 985 rfl rfl, jx_w hB 7 (by decide +kernel) rfl, by decide, ⟨by decide +kernel, by decide +kernel⟩, by decide +kernel⟩
set_option maxRecDepth 100000 in
theorem m_M_nextOrder {E : jx_E} (hB : jx_B E) : jx_M E z_M_nextOrder Y_M_nextOrder 1 := ⟨plainFor_of_name (by decide +kernel), rfl, rfl, jx_w hB 989 rfl rfl, jx_w hB 7 (by decide +kernel) rfl, by decide, ⟨by decide +kernel, by decide +kernel⟩, by decide +kernel⟩
set_option maxRecDepth 100000 in
theorem m_M_swap {E : jx_E} (hB : jx_B E) : jx_M E z_M_swap Y_M_swap 2 := ⟨plainFor_of_name (by decide +kernel), rfl, rfl, jx_w hB 993 rfl rfl, jx_w hB 7 (by decide +kernel) rfl, by decide, ⟨by decide +kernel, by decide +kernel⟩, by decide +kernel⟩
set_option maxRecDepth 100000 in
theorem m_M_costOf {E : jx_E} (hB : jx_B E) : jx_M E z_M_costOf Y_M_costOf 0 := ⟨plainFor_of_name (by decide +kernel), rfl, rfl, jx_w hB 997 rfl rfl, jx_w hB 7 (by decide +kernel) rfl, by decide, ⟨by decide +kernel, by decide +kernel⟩, by decide +kernel⟩
set_option maxRecDepth 100000 in
theorem m_M_setOf {E : jx_E} (hB : jx_B E) : jx_M E z_M_setOf Y_M_setOf 1 := ⟨plainFor_of_name (by decide +kernel), rfl, rfl, jx_w hB 1001 rfl rfl, jx_w hB 7 (by decide +kernel) rfl, by decide, ⟨by decide +kernel, by decide +kernel⟩, by decide +kernel⟩
set_option maxRecDepth 100000 in
theorem m_M_exact {E : jx_E} (hB : jx_B E) : jx_M E z_M_exact Y_M_exact 0 := ⟨plainFor_of_name (by decide +kernel), rfl, rfl, jx_w hB 1005 rfl rfl, jx_w hB 7 (by decide +kernel) rfl, by decide, ⟨by decide +kernel, by decide +kernel⟩, by decide +kernel⟩
set_option maxRecDepth 100000 in
theorem m_M_bound {E : jx_E} (hB : jx_B E) : jx_M E z_M_bound Y_M_bound 0 := ⟨plainFor_of_name (by decide +kernel), rfl, rfl, jx_w hB 1009 rfl rfl, jx_w hB 7 (by decide +kernel) rfl, by decide, ⟨by decide +kernel, by decide +kernel⟩, by decide +kernel⟩
set_option maxRecDepth 100000 in
theorem m_M_give {E : jx_E} (hB : jx_B E) : jx_M E z_M_give Y_M_give 1 := ⟨plainFor_of_name (by decide +kernel), rfl, rfl, jx_w hB 1013 rfl rfl, jx_w hB 7 (by decide +kernel) rfl, by decide, ⟨by decide +kernel, by decide +kernel⟩, by decide +kernel⟩
set_option maxRecDepth 100000 in
theorem m_M_planned {E : jx_E} (hB : jx_B E) : jx_M E z_M_planned Y_M_planned 2 := ⟨plainFor_of_name (by decide +kernel), rfl, rfl, jx_w hB 1017 rfl rfl, jx_w hB 7 (by decide +kernel) rfl, by decide, ⟨by decide +kernel, by decide +kernel⟩, by decide +kernel⟩
set_option maxRecDepth 100000 in
theorem m_M_done {E : jx_E} (hB : jx_B E) : jx_M E z_M_done Y_M_done 1 := ⟨plainFor_of_name (by decide +kernel), rfl, rfl, jx_w hB 1021 rfl rfl, jx_w hB 7 (by decide +kernel) rfl, by decide, ⟨by decide +kernel, by decide +kernel⟩, by decide +kernel⟩
set_option maxRecDepth 100000 in
theorem m_M_doneBy {E : jx_E} (hB : jx_B E) : jx_M E z_M_doneBy Y_M_doneBy 1 := ⟨plainFor_of_name (by decide +kernel), rfl, rfl, jx_w hB 1025 rfl rfl, jx_w hB 7 (by decide +kernel) rfl, by decide, ⟨by decide +kernel, by decide +kernel⟩, by decide +kernel⟩
set_option maxRecDepth 100000 in
theorem m_M_leaves {E : jx_E} (hB : jx_B E) : jx_M E z_M_leaves Y_M_leaves 1 := ⟨plainFor_of_name (by decide +kernel), rfl, rfl, jx_w hB 1029 rfl rfl, jx_w hB 7 (by decide +kernel) rfl, by decide, ⟨by decide +kernel, by decide +kernel⟩, by decide +kernel⟩
set_option maxRecDepth 100000 in
theorem m_M_fair {E : jx_E} (hB : jx_B E) : jx_M E z_M_fair Y_M_fair 1 := ⟨plainFor_of_name (by decide +kernel), rfl, rfl, jx_w hB 1033 rfl rfl, jx_w hB 7 (by decide +kernel) rfl, by decide, ⟨by decide +kernel, by decide +kernel⟩, by decide +kernel⟩
set_option maxRecDepth 100000 in
theorem m_M_pass {E : jx_E} (hB : jx_B E) : jx_M E z_M_pass Y_M_pass 1 := ⟨plainFor_of_name (by decide +kernel), rfl, rfl, jx_w hB 1037 rfl rfl, jx_w hB 7 (by decide +kernel) rfl, by decide, ⟨by decide +kernel, by decide +kernel⟩, by decide +kernel⟩
set_option maxRecDepth 100000 in
theorem m_M_order {E : jx_E} (hB : jx_B E) : jx_M E z_M_order Y_M_order 2 := ⟨plainFor_of_name (by decide +kernel), rfl, rfl, jx_w hB 1041 rfl rfl, jx_w hB 7 (by decide +kernel) rfl, by decide, ⟨by decide +kernel, by decide +kernel⟩, by decide +kernel⟩
set_option maxRecDepth 100000 in
theorem m_M_told {E : jx_E} (hB : jx_B E) : jx_M E z_M_told Y_M_told 2 := ⟨plainFor_of_name (by decide +kernel), rfl, rfl, jx_w hB 1045 rfl rfl, jx_w hB 7 (by decide +kernel) rfl, by decide, ⟨by decide +kernel, by decide +kernel⟩, by decide +kernel⟩
set_option maxRecDepth 100000 in
theorem m_M_known {E : jx_E} (hB : jx_B E) : jx_M E z_M_known Y_M_known 2 := ⟨plainFor_of_name (by decide +kernel), rfl, rfl, jx_w hB 1049 rfl rfl, jx_w hB 7 (by decide +kernel) rfl, by decide, ⟨by decide +kernel, by decide +kernel⟩, by decide +kernel⟩
