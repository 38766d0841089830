/-! 07.facts: what the tables say of the fields, methods, new objects and constants that the code names -/
set_option maxRecDepth 100000 in
theorem f_A_9 {E : jx_E} (hB : jx_B E) : jx_F E "java/util/ArrayList" 9 6 0 := ⟨by decide, jx_q6, by rw [hB.1]; rfl, by decide, "java/util/ArrayList", Or.inl rfl, Or.inl (jx_w1 hB 46 rfl rfl)⟩
set_option maxRecDepth 100000 in
theorem f_A_48 {E : jx_E} (hB : jx_B E) : jx_F E "java/util/ArrayList" 48 6 1 := ⟨by decide, jx_q6, by rw [hB.1]; rfl, by decide, "java/util/ArrayList", Or.inl rfl, Or.inl (jx_w1 hB 47 rfl rfl)⟩
set_option maxRecDepth 100000 in
theorem f_A_63 {E : jx_E} (hB : jx_B E) : jx_F E "java/util/ArrayList" 63 6 2 := ⟨by decide, jx_q6, by rw [hB.1]; rfl, by decide, "java/util/ArrayList", Or.inr (jx_w1 hB 50 rfl rfl), Or.inl (jx_w1 hB 49 rfl rfl)⟩
set_option maxRecDepth 100000 in
theorem f_Y_9 {E : jx_E} (hB : jx_B E) : jx_F E "TaskShare$Ways" 9 4 0 := ⟨by decide, jx_q4, by rw [hB.1]; rfl, by decide, "TaskShare$Ways", Or.inl rfl, Or.inl (jx_w1 hB 64 rfl rfl)⟩
set_option maxRecDepth 100000 in
theorem g_Y_9 {E : jx_E} (hB : jx_B E) : ∃ q : vw_C, E.2.2[4]? = some q ∧ (q.2.1 0).1 = "TaskShare$Ways" ∧ (Jvm.Cond.fieldLink "TaskShare$Ways" 9 (q.2.1 0).1 (q.2.1 0).2.1 (q.2.1 0).2.2.1).before #[] E.1 = true := ⟨jx_q4, by rw [hB.1]; rfl, rfl, jx_w1 hB 64 rfl rfl⟩
set_option maxRecDepth 100000 in
theorem f_X_12 {E : jx_E} (hB : jx_B E) : jx_F E "TaskShare$ExactPlanner" 12 1 0 := ⟨by decide, jx_q1, by rw [hB.1]; rfl, by decide, "TaskShare$ExactPlanner", Or.inl rfl, Or.inl (jx_w1 hB 83 rfl rfl)⟩
set_option maxRecDepth 100000 in
theorem g_X_12 {E : jx_E} (hB : jx_B E) : ∃ q : vw_C, E.2.2[1]? = some q ∧ (q.2.1 0).1 = "TaskShare$ExactPlanner" ∧ (Jvm.Cond.fieldLink "TaskShare$ExactPlanner" 12 (q.2.1 0).1 (q.2.1 0).2.1 (q.2.1 0).2.2.1).before #[] E.1 = true := ⟨jx_q1, by rw [hB.1]; rfl, rfl, jx_w1 hB 83 rfl rfl⟩
set_option maxRecDepth 100000 in
theorem f_X_20 {E : jx_E} (hB : jx_B E) : jx_F E "TaskShare$ExactPlanner" 20 1 1 := ⟨by decide, jx_q1, by rw [hB.1]; rfl, by decide, "TaskShare$ExactPlanner", Or.inl rfl, Or.inl (jx_w1 hB 84 rfl rfl)⟩
set_option maxRecDepth 100000 in
theorem g_X_20 {E : jx_E} (hB : jx_B E) : ∃ q : vw_C, E.2.2[1]? = some q ∧ (q.2.1 1).1 = "TaskShare$ExactPlanner" ∧ (Jvm.Cond.fieldLink "TaskShare$ExactPlanner" 20 (q.2.1 1).1 (q.2.1 1).2.1 (q.2.1 1).2.2.1).before #[] E.1 = true := ⟨jx_q1, by rw [hB.1]; rfl, rfl, jx_w1 hB 84 rfl rfl⟩
set_option maxRecDepth 100000 in
theorem f_X_23 {E : jx_E} (hB : jx_B E) : jx_F E "TaskShare$ExactPlanner" 23 1 2 := ⟨by decide, jx_q1, by rw [hB.1]; rfl, by decide, "TaskShare$ExactPlanner", Or.inl rfl, Or.inl (jx_w1 hB 85 rfl rfl)⟩
set_option maxRecDepth 100000 in
theorem g_X_23 {E : jx_E} (hB : jx_B E) : ∃ q : vw_C, E.2.2[1]? = some q ∧ (q.2.1 2).1 = "TaskShare$ExactPlanner" ∧ (Jvm.Cond.fieldLink "TaskShare$ExactPlanner" 23 (q.2.1 2).1 (q.2.1 2).2.1 (q.2.1 2).2.2.1).before #[] E.1 = true := ⟨jx_q1, by rw [hB.1]; rfl, rfl, jx_w1 hB 85 rfl rfl⟩
set_option maxRecDepth 100000 in
theorem f_X_26 {E : jx_E} (hB : jx_B E) : jx_F E "TaskShare$ExactPlanner" 26 1 3 := ⟨by decide, jx_q1, by rw [hB.1]; rfl, by decide, "TaskShare$ExactPlanner", Or.inl rfl, Or.inl (jx_w1 hB 86 rfl rfl)⟩
set_option maxRecDepth 100000 in
theorem g_X_26 {E : jx_E} (hB : jx_B E) : ∃ q : vw_C, E.2.2[1]? = some q ∧ (q.2.1 3).1 = "TaskShare$ExactPlanner" ∧ (Jvm.Cond.fieldLink "TaskShare$ExactPlanner" 26 (q.2.1 3).1 (q.2.1 3).2.1 (q.2.1 3).2.2.1).before #[] E.1 = true := ⟨jx_q1, by rw [hB.1]; rfl, rfl, jx_w1 hB 86 rfl rfl⟩
set_option maxRecDepth 100000 in
theorem f_X_30 {E : jx_E} (hB : jx_B E) : jx_F E "TaskShare$ExactPlanner" 30 1 4 := ⟨by decide, jx_q1, by rw [hB.1]; rfl, by decide, "TaskShare$ExactPlanner", Or.inl rfl, Or.inl (jx_w1 hB 87 rfl rfl)⟩
set_option maxRecDepth 100000 in
theorem g_X_30 {E : jx_E} (hB : jx_B E) : ∃ q : vw_C, E.2.2[1]? = some q ∧ (q.2.1 4).1 = "TaskShare$ExactPlanner" ∧ (Jvm.Cond.fieldLink "TaskShare$ExactPlanner" 30 (q.2.1 4).1 (q.2.1 4).2.1 (q.2.1 4).2.2.1).before #[] E.1 = true := ⟨jx_q1, by rw [hB.1]; rfl, rfl, jx_w1 hB 87 rfl rfl⟩
set_option maxRecDepth 100000 in
theorem f_X_35 {E : jx_E} (hB : jx_B E) : jx_F E "TaskShare$ExactPlanner" 35 1 5 := ⟨by decide, jx_q1, by rw [hB.1]; rfl, by decide, "TaskShare$ExactPlanner", Or.inl rfl, Or.inl (jx_w1 hB 88 rfl rfl)⟩
set_option maxRecDepth 100000 in
theorem g_X_35 {E : jx_E} (hB : jx_B E) : ∃ q : vw_C, E.2.2[1]? = some q ∧ (q.2.1 5).1 = "TaskShare$ExactPlanner" ∧ (Jvm.Cond.fieldLink "TaskShare$ExactPlanner" 35 (q.2.1 5).1 (q.2.1 5).2.1 (q.2.1 5).2.2.1).before #[] E.1 = true := ⟨jx_q1, by rw [hB.1]; rfl, rfl, jx_w1 hB 88 rfl rfl⟩
set_option maxRecDepth 100000 in
theorem f_X_38 {E : jx_E} (hB : jx_B E) : jx_F E "TaskShare$ExactPlanner" 38 1 6 := ⟨by decide, jx_q1, by rw [hB.1]; rfl, by decide, "TaskShare$ExactPlanner", Or.inl rfl, Or.inl (jx_w1 hB 89 rfl rfl)⟩
set_option maxRecDepth 100000 in
theorem g_X_38 {E : jx_E} (hB : jx_B E) : ∃ q : vw_C, E.2.2[1]? = some q ∧ (q.2.1 6).1 = "TaskShare$ExactPlanner" ∧ (Jvm.Cond.fieldLink "TaskShare$ExactPlanner" 38 (q.2.1 6).1 (q.2.1 6).2.1 (q.2.1 6).2.2.1).before #[] E.1 = true := ⟨jx_q1, by rw [hB.1]; rfl, rfl, jx_w1 hB 89 rfl rfl⟩
set_option maxRecDepth 100000 in
theorem f_X_58 {E : jx_E} (hB : jx_B E) : jx_F E "TaskShare$ExactPlanner" 58 1 7 := ⟨by decide, jx_q1, by rw [hB.1]; rfl, by decide, "TaskShare$ExactPlanner", Or.inl rfl, Or.inl (jx_w1 hB 90 rfl rfl)⟩
set_option maxRecDepth 100000 in
theorem f_T_10 {E : jx_E} (hB : jx_B E) : jx_F E "TaskShare" 10 0 0 := ⟨by decide, jx_q0, by rw [hB.1]; rfl, by decide, "TaskShare", Or.inl rfl, Or.inl (jx_w1 hB 109 rfl rfl)⟩
set_option maxRecDepth 100000 in
theorem g_T_10 {E : jx_E} (hB : jx_B E) : ∃ q : vw_C, E.2.2[0]? = some q ∧ (q.2.1 0).1 = "TaskShare" ∧ (Jvm.Cond.fieldLink "TaskShare" 10 (q.2.1 0).1 (q.2.1 0).2.1 (q.2.1 0).2.2.1).before #[] E.1 = true := ⟨jx_q0, by rw [hB.1]; rfl, rfl, jx_w1 hB 109 rfl rfl⟩
set_option maxRecDepth 100000 in
theorem f_T_16 {E : jx_E} (hB : jx_B E) : jx_F E "TaskShare" 16 0 1 := ⟨by decide, jx_q0, by rw [hB.1]; rfl, by decide, "TaskShare", Or.inl rfl, Or.inl (jx_w1 hB 110 rfl rfl)⟩
set_option maxRecDepth 100000 in
theorem g_T_16 {E : jx_E} (hB : jx_B E) : ∃ q : vw_C, E.2.2[0]? = some q ∧ (q.2.1 1).1 = "TaskShare" ∧ (Jvm.Cond.fieldLink "TaskShare" 16 (q.2.1 1).1 (q.2.1 1).2.1 (q.2.1 1).2.2.1).before #[] E.1 = true := ⟨jx_q0, by rw [hB.1]; rfl, rfl, jx_w1 hB 110 rfl rfl⟩
set_option maxRecDepth 100000 in
theorem f_T_19 {E : jx_E} (hB : jx_B E) : jx_F E "TaskShare" 19 0 2 := ⟨by decide, jx_q0, by rw [hB.1]; rfl, by decide, "TaskShare", Or.inl rfl, Or.inl (jx_w1 hB 111 rfl rfl)⟩
set_option maxRecDepth 100000 in
theorem g_T_19 {E : jx_E} (hB : jx_B E) : ∃ q : vw_C, E.2.2[0]? = some q ∧ (q.2.1 2).1 = "TaskShare" ∧ (Jvm.Cond.fieldLink "TaskShare" 19 (q.2.1 2).1 (q.2.1 2).2.1 (q.2.1 2).2.2.1).before #[] E.1 = true := ⟨jx_q0, by rw [hB.1]; rfl, rfl, jx_w1 hB 111 rfl rfl⟩
set_option maxRecDepth 100000 in
theorem f_T_25 {E : jx_E} (hB : jx_B E) : jx_F E "TaskShare" 25 0 3 := ⟨by decide, jx_q0, by rw [hB.1]; rfl, by decide, "TaskShare", Or.inl rfl, Or.inl (jx_w1 hB 112 rfl rfl)⟩
set_option maxRecDepth 100000 in
theorem g_T_25 {E : jx_E} (hB : jx_B E) : ∃ q : vw_C, E.2.2[0]? = some q ∧ (q.2.1 3).1 = "TaskShare" ∧ (Jvm.Cond.fieldLink "TaskShare" 25 (q.2.1 3).1 (q.2.1 3).2.1 (q.2.1 3).2.2.1).before #[] E.1 = true := ⟨jx_q0, by rw [hB.1]; rfl, rfl, jx_w1 hB 112 rfl rfl⟩
set_option maxRecDepth 100000 in
theorem f_T_32 {E : jx_E} (hB : jx_B E) : jx_F E "TaskShare" 32 0 4 := ⟨by decide, jx_q0, by rw [hB.1]; rfl, by decide, "TaskShare", Or.inl rfl, Or.inl (jx_w1 hB 113 rfl rfl)⟩
set_option maxRecDepth 100000 in
theorem g_T_32 {E : jx_E} (hB : jx_B E) : ∃ q : vw_C, E.2.2[0]? = some q ∧ (q.2.1 4).1 = "TaskShare" ∧ (Jvm.Cond.fieldLink "TaskShare" 32 (q.2.1 4).1 (q.2.1 4).2.1 (q.2.1 4).2.2.1).before #[] E.1 = true := ⟨jx_q0, by rw [hB.1]; rfl, rfl, jx_w1 hB 113 rfl rfl⟩
set_option maxRecDepth 100000 in
theorem f_T_153 {E : jx_E} (hB : jx_B E) : jx_F E "TaskShare" 153 0 5 := ⟨by decide, jx_q0, by rw [hB.1]; rfl, by decide, "TaskShare", Or.inl rfl, Or.inl (jx_w1 hB 114 rfl rfl)⟩
set_option maxRecDepth 100000 in
theorem f_T_150 {E : jx_E} (hB : jx_B E) : jx_F E "TaskShare" 150 0 6 := ⟨by decide, jx_q0, by rw [hB.1]; rfl, by decide, "TaskShare", Or.inl rfl, Or.inl (jx_w1 hB 115 rfl rfl)⟩
set_option maxRecDepth 100000 in
theorem f_P_19 {E : jx_E} (hB : jx_B E) : jx_F E "TaskShare$Person" 19 2 0 := ⟨by decide, jx_q2, by rw [hB.1]; rfl, by decide, "TaskShare$Person", Or.inl rfl, Or.inl (jx_w2 hB 89 rfl rfl)⟩
set_option maxRecDepth 100000 in
theorem g_P_19 {E : jx_E} (hB : jx_B E) : ∃ q : vw_C, E.2.2[2]? = some q ∧ (q.2.1 0).1 = "TaskShare$Person" ∧ (Jvm.Cond.fieldLink "TaskShare$Person" 19 (q.2.1 0).1 (q.2.1 0).2.1 (q.2.1 0).2.2.1).before #[] E.1 = true := ⟨jx_q2, by rw [hB.1]; rfl, rfl, jx_w2 hB 89 rfl rfl⟩
set_option maxRecDepth 100000 in
theorem f_T_58 {E : jx_E} (hB : jx_B E) : jx_F E "TaskShare" 58 2 0 := ⟨by decide, jx_q2, by rw [hB.1]; rfl, by decide, "TaskShare$Person", Or.inl rfl, Or.inr ⟨"TaskShare", jx_w2 hB 90 rfl rfl⟩⟩
set_option maxRecDepth 100000 in
theorem f_X_99 {E : jx_E} (hB : jx_B E) : jx_F E "TaskShare$ExactPlanner" 99 2 0 := ⟨by decide, jx_q2, by rw [hB.1]; rfl, by decide, "TaskShare$Person", Or.inl rfl, Or.inr ⟨"TaskShare", jx_w2 hB 91 rfl rfl⟩⟩
set_option maxRecDepth 100000 in
theorem f_P_25 {E : jx_E} (hB : jx_B E) : jx_F E "TaskShare$Person" 25 2 1 := ⟨by decide, jx_q2, by rw [hB.1]; rfl, by decide, "TaskShare$Person", Or.inl rfl, Or.inl (jx_w2 hB 92 rfl rfl)⟩
set_option maxRecDepth 100000 in
theorem g_P_25 {E : jx_E} (hB : jx_B E) : ∃ q : vw_C, E.2.2[2]? = some q ∧ (q.2.1 1).1 = "TaskShare$Person" ∧ (Jvm.Cond.fieldLink "TaskShare$Person" 25 (q.2.1 1).1 (q.2.1 1).2.1 (q.2.1 1).2.2.1).before #[] E.1 = true := ⟨jx_q2, by rw [hB.1]; rfl, rfl, jx_w2 hB 92 rfl rfl⟩
set_option maxRecDepth 100000 in
theorem f_T_66 {E : jx_E} (hB : jx_B E) : jx_F E "TaskShare" 66 2 1 := ⟨by decide, jx_q2, by rw [hB.1]; rfl, by decide, "TaskShare$Person", Or.inl rfl, Or.inr ⟨"TaskShare", jx_w2 hB 93 rfl rfl⟩⟩
set_option maxRecDepth 100000 in
theorem f_P_28 {E : jx_E} (hB : jx_B E) : jx_F E "TaskShare$Person" 28 2 2 := ⟨by decide, jx_q2, by rw [hB.1]; rfl, by decide, "TaskShare$Person", Or.inl rfl, Or.inl (jx_w2 hB 94 rfl rfl)⟩
set_option maxRecDepth 100000 in
theorem g_P_28 {E : jx_E} (hB : jx_B E) : ∃ q : vw_C, E.2.2[2]? = some q ∧ (q.2.1 2).1 = "TaskShare$Person" ∧ (Jvm.Cond.fieldLink "TaskShare$Person" 28 (q.2.1 2).1 (q.2.1 2).2.1 (q.2.1 2).2.2.1).before #[] E.1 = true := ⟨jx_q2, by rw [hB.1]; rfl, rfl, jx_w2 hB 94 rfl rfl⟩
set_option maxRecDepth 100000 in
theorem f_T_69 {E : jx_E} (hB : jx_B E) : jx_F E "TaskShare" 69 2 2 := ⟨by decide, jx_q2, by rw [hB.1]; rfl, by decide, "TaskShare$Person", Or.inl rfl, Or.inr ⟨"TaskShare", jx_w2 hB 95 rfl rfl⟩⟩
set_option maxRecDepth 100000 in
theorem f_P_22 {E : jx_E} (hB : jx_B E) : jx_F E "TaskShare$Person" 22 2 3 := ⟨by decide, jx_q2, by rw [hB.1]; rfl, by decide, "TaskShare$Person", Or.inl rfl, Or.inl (jx_w2 hB 96 rfl rfl)⟩
set_option maxRecDepth 100000 in
theorem f_T_89 {E : jx_E} (hB : jx_B E) : jx_F E "TaskShare" 89 2 3 := ⟨by decide, jx_q2, by rw [hB.1]; rfl, by decide, "TaskShare$Person", Or.inl rfl, Or.inr ⟨"TaskShare", jx_w2 hB 97 rfl rfl⟩⟩
set_option maxRecDepth 100000 in
theorem f_P_31 {E : jx_E} (hB : jx_B E) : jx_F E "TaskShare$Person" 31 2 4 := ⟨by decide, jx_q2, by rw [hB.1]; rfl, by decide, "TaskShare$Person", Or.inl rfl, Or.inl (jx_w2 hB 98 rfl rfl)⟩
set_option maxRecDepth 100000 in
theorem f_X_70 {E : jx_E} (hB : jx_B E) : jx_F E "TaskShare$ExactPlanner" 70 2 4 := ⟨by decide, jx_q2, by rw [hB.1]; rfl, by decide, "TaskShare$Person", Or.inl rfl, Or.inr ⟨"TaskShare", jx_w2 hB 99 rfl rfl⟩⟩
set_option maxRecDepth 100000 in
theorem f_T_200 {E : jx_E} (hB : jx_B E) : jx_F E "TaskShare" 200 2 4 := ⟨by decide, jx_q2, by rw [hB.1]; rfl, by decide, "TaskShare$Person", Or.inl rfl, Or.inr ⟨"TaskShare", jx_w2 hB 100 rfl rfl⟩⟩
set_option maxRecDepth 100000 in
theorem f_T_72 {E : jx_E} (hB : jx_B E) : jx_F E "TaskShare" 72 2 5 := ⟨by decide, jx_q2, by rw [hB.1]; rfl, by decide, "TaskShare$Person", Or.inl rfl, Or.inr ⟨"TaskShare", jx_w2 hB 101 rfl rfl⟩⟩
set_option maxRecDepth 100000 in
theorem f_P_72 {E : jx_E} (hB : jx_B E) : jx_F E "TaskShare$Person" 72 2 5 := ⟨by decide, jx_q2, by rw [hB.1]; rfl, by decide, "TaskShare$Person", Or.inl rfl, Or.inl (jx_w2 hB 102 rfl rfl)⟩
set_option maxRecDepth 100000 in
theorem f_T_75 {E : jx_E} (hB : jx_B E) : jx_F E "TaskShare" 75 2 6 := ⟨by decide, jx_q2, by rw [hB.1]; rfl, by decide, "TaskShare$Person", Or.inl rfl, Or.inr ⟨"TaskShare", jx_w2 hB 103 rfl rfl⟩⟩
set_option maxRecDepth 100000 in
theorem f_P_66 {E : jx_E} (hB : jx_B E) : jx_F E "TaskShare$Person" 66 2 6 := ⟨by decide, jx_q2, by rw [hB.1]; rfl, by decide, "TaskShare$Person", Or.inl rfl, Or.inl (jx_w2 hB 104 rfl rfl)⟩
set_option maxRecDepth 100000 in
theorem f_P_9 {E : jx_E} (hB : jx_B E) : jx_F E "TaskShare$Person" 9 2 7 := ⟨by decide, jx_q2, by rw [hB.1]; rfl, by decide, "TaskShare$Person", Or.inl rfl, Or.inl (jx_w2 hB 105 rfl rfl)⟩
set_option maxRecDepth 100000 in
theorem f_T_133 {E : jx_E} (hB : jx_B E) : jx_F E "TaskShare" 133 2 7 := ⟨by decide, jx_q2, by rw [hB.1]; rfl, by decide, "TaskShare$Person", Or.inl rfl, Or.inr ⟨"TaskShare", jx_w2 hB 106 rfl rfl⟩⟩
set_option maxRecDepth 100000 in
theorem f_P_15 {E : jx_E} (hB : jx_B E) : jx_F E "TaskShare$Person" 15 2 8 := ⟨by decide, jx_q2, by rw [hB.1]; rfl, by decide, "TaskShare$Person", Or.inl rfl, Or.inl (jx_w2 hB 107 rfl rfl)⟩
set_option maxRecDepth 100000 in
theorem f_T_188 {E : jx_E} (hB : jx_B E) : jx_F E "TaskShare" 188 2 8 := ⟨by decide, jx_q2, by rw [hB.1]; rfl, by decide, "TaskShare$Person", Or.inl rfl, Or.inr ⟨"TaskShare", jx_w2 hB 108 rfl rfl⟩⟩
set_option maxRecDepth 100000 in
theorem f_P_51 {E : jx_E} (hB : jx_B E) : jx_F E "TaskShare$Person" 51 2 9 := ⟨by decide, jx_q2, by rw [hB.1]; rfl, by decide, "TaskShare$Person", Or.inl rfl, Or.inl (jx_w2 hB 109 rfl rfl)⟩
set_option maxRecDepth 100000 in
theorem f_T_194 {E : jx_E} (hB : jx_B E) : jx_F E "TaskShare" 194 2 9 := ⟨by decide, jx_q2, by rw [hB.1]; rfl, by decide, "TaskShare$Person", Or.inl rfl, Or.inr ⟨"TaskShare", jx_w2 hB 110 rfl rfl⟩⟩
set_option maxRecDepth 100000 in
theorem f_P_34 {E : jx_E} (hB : jx_B E) : jx_F E "TaskShare$Person" 34 2 10 := ⟨by decide, jx_q2, by rw [hB.1]; rfl, by decide, "TaskShare$Person", Or.inl rfl, Or.inl (jx_w2 hB 111 rfl rfl)⟩
set_option maxRecDepth 100000 in
theorem f_T_124 {E : jx_E} (hB : jx_B E) : jx_F E "TaskShare" 124 2 10 := ⟨by decide, jx_q2, by rw [hB.1]; rfl, by decide, "TaskShare$Person", Or.inl rfl, Or.inr ⟨"TaskShare", jx_w2 hB 112 rfl rfl⟩⟩
set_option maxRecDepth 100000 in
theorem f_X_67 {E : jx_E} (hB : jx_B E) : jx_F E "TaskShare$ExactPlanner" 67 2 11 := ⟨by decide, jx_q2, by rw [hB.1]; rfl, by decide, "TaskShare$Person", Or.inl rfl, Or.inr ⟨"TaskShare", jx_w2 hB 113 rfl rfl⟩⟩
set_option maxRecDepth 100000 in
theorem f_P_78 {E : jx_E} (hB : jx_B E) : jx_F E "TaskShare$Person" 78 2 11 := ⟨by decide, jx_q2, by rw [hB.1]; rfl, by decide, "TaskShare$Person", Or.inl rfl, Or.inl (jx_w2 hB 114 rfl rfl)⟩
set_option maxRecDepth 100000 in
theorem f_T_265 {E : jx_E} (hB : jx_B E) : jx_F E "TaskShare" 265 2 11 := ⟨by decide, jx_q2, by rw [hB.1]; rfl, by decide, "TaskShare$Person", Or.inl rfl, Or.inr ⟨"TaskShare", jx_w2 hB 115 rfl rfl⟩⟩
set_option maxRecDepth 100000 in
theorem f_X_73 {E : jx_E} (hB : jx_B E) : jx_F E "TaskShare$ExactPlanner" 73 2 12 := ⟨by decide, jx_q2, by rw [hB.1]; rfl, by decide, "TaskShare$Person", Or.inl rfl, Or.inr ⟨"TaskShare", jx_w2 hB 116 rfl rfl⟩⟩
set_option maxRecDepth 100000 in
theorem f_P_81 {E : jx_E} (hB : jx_B E) : jx_F E "TaskShare$Person" 81 2 12 := ⟨by decide, jx_q2, by rw [hB.1]; rfl, by decide, "TaskShare$Person", Or.inl rfl, Or.inl (jx_w2 hB 117 rfl rfl)⟩
set_option maxRecDepth 100000 in
theorem f_T_268 {E : jx_E} (hB : jx_B E) : jx_F E "TaskShare" 268 2 12 := ⟨by decide, jx_q2, by rw [hB.1]; rfl, by decide, "TaskShare$Person", Or.inl rfl, Or.inr ⟨"TaskShare", jx_w2 hB 118 rfl rfl⟩⟩
set_option maxRecDepth 100000 in
theorem f_P_84 {E : jx_E} (hB : jx_B E) : jx_F E "TaskShare$Person" 84 2 13 := ⟨by decide, jx_q2, by rw [hB.1]; rfl, by decide, "TaskShare$Person", Or.inl rfl, Or.inl (jx_w2 hB 119 rfl rfl)⟩
set_option maxRecDepth 100000 in
theorem f_T_271 {E : jx_E} (hB : jx_B E) : jx_F E "TaskShare" 271 2 13 := ⟨by decide, jx_q2, by rw [hB.1]; rfl, by decide, "TaskShare$Person", Or.inl rfl, Or.inr ⟨"TaskShare", jx_w2 hB 120 rfl rfl⟩⟩
set_option maxRecDepth 100000 in
theorem f_K_21 {E : jx_E} (hB : jx_B E) : jx_F E "TaskShare$Task" 21 3 0 := ⟨by decide, jx_q3, by rw [hB.1]; rfl, by decide, "TaskShare$Task", Or.inl rfl, Or.inl (jx_w3 hB 34 rfl rfl)⟩
set_option maxRecDepth 100000 in
theorem g_K_21 {E : jx_E} (hB : jx_B E) : ∃ q : vw_C, E.2.2[3]? = some q ∧ (q.2.1 0).1 = "TaskShare$Task" ∧ (Jvm.Cond.fieldLink "TaskShare$Task" 21 (q.2.1 0).1 (q.2.1 0).2.1 (q.2.1 0).2.2.1).before #[] E.1 = true := ⟨jx_q3, by rw [hB.1]; rfl, rfl, jx_w3 hB 34 rfl rfl⟩
set_option maxRecDepth 100000 in
theorem f_P_37 {E : jx_E} (hB : jx_B E) : jx_F E "TaskShare$Person" 37 3 0 := ⟨by decide, jx_q3, by rw [hB.1]; rfl, by decide, "TaskShare$Task", Or.inl rfl, Or.inr ⟨"TaskShare", jx_w3 hB 35 rfl rfl⟩⟩
set_option maxRecDepth 100000 in
theorem f_T_101 {E : jx_E} (hB : jx_B E) : jx_F E "TaskShare" 101 3 0 := ⟨by decide, jx_q3, by rw [hB.1]; rfl, by decide, "TaskShare$Task", Or.inl rfl, Or.inr ⟨"TaskShare", jx_w3 hB 36 rfl rfl⟩⟩
set_option maxRecDepth 100000 in
theorem f_K_24 {E : jx_E} (hB : jx_B E) : jx_F E "TaskShare$Task" 24 3 1 := ⟨by decide, jx_q3, by rw [hB.1]; rfl, by decide, "TaskShare$Task", Or.inl rfl, Or.inl (jx_w3 hB 37 rfl rfl)⟩
set_option maxRecDepth 100000 in
theorem g_K_24 {E : jx_E} (hB : jx_B E) : ∃ q : vw_C, E.2.2[3]? = some q ∧ (q.2.1 1).1 = "TaskShare$Task" ∧ (Jvm.Cond.fieldLink "TaskShare$Task" 24 (q.2.1 1).1 (q.2.1 1).2.1 (q.2.1 1).2.2.1).before #[] E.1 = true := ⟨jx_q3, by rw [hB.1]; rfl, rfl, jx_w3 hB 37 rfl rfl⟩
set_option maxRecDepth 100000 in
theorem f_P_40 {E : jx_E} (hB : jx_B E) : jx_F E "TaskShare$Person" 40 3 1 := ⟨by decide, jx_q3, by rw [hB.1]; rfl, by decide, "TaskShare$Task", Or.inl rfl, Or.inr ⟨"TaskShare", jx_w3 hB 38 rfl rfl⟩⟩
set_option maxRecDepth 100000 in
theorem f_T_137 {E : jx_E} (hB : jx_B E) : jx_F E "TaskShare" 137 3 1 := ⟨by decide, jx_q3, by rw [hB.1]; rfl, by decide, "TaskShare$Task", Or.inl rfl, Or.inr ⟨"TaskShare", jx_w3 hB 39 rfl rfl⟩⟩
set_option maxRecDepth 100000 in
theorem f_K_27 {E : jx_E} (hB : jx_B E) : jx_F E "TaskShare$Task" 27 3 2 := ⟨by decide, jx_q3, by rw [hB.1]; rfl, by decide, "TaskShare$Task", Or.inl rfl, Or.inl (jx_w3 hB 40 rfl rfl)⟩
set_option maxRecDepth 100000 in
theorem g_K_27 {E : jx_E} (hB : jx_B E) : ∃ q : vw_C, E.2.2[3]? = some q ∧ (q.2.1 2).1 = "TaskShare$Task" ∧ (Jvm.Cond.fieldLink "TaskShare$Task" 27 (q.2.1 2).1 (q.2.1 2).2.1 (q.2.1 2).2.2.1).before #[] E.1 = true := ⟨jx_q3, by rw [hB.1]; rfl, rfl, jx_w3 hB 40 rfl rfl⟩
set_option maxRecDepth 100000 in
theorem f_X_114 {E : jx_E} (hB : jx_B E) : jx_F E "TaskShare$ExactPlanner" 114 3 2 := ⟨by decide, jx_q3, by rw [hB.1]; rfl, by decide, "TaskShare$Task", Or.inl rfl, Or.inr ⟨"TaskShare", jx_w3 hB 41 rfl rfl⟩⟩
set_option maxRecDepth 100000 in
theorem f_P_69 {E : jx_E} (hB : jx_B E) : jx_F E "TaskShare$Person" 69 3 2 := ⟨by decide, jx_q3, by rw [hB.1]; rfl, by decide, "TaskShare$Task", Or.inl rfl, Or.inr ⟨"TaskShare", jx_w3 hB 42 rfl rfl⟩⟩
set_option maxRecDepth 100000 in
theorem f_T_191 {E : jx_E} (hB : jx_B E) : jx_F E "TaskShare" 191 3 2 := ⟨by decide, jx_q3, by rw [hB.1]; rfl, by decide, "TaskShare$Task", Or.inl rfl, Or.inr ⟨"TaskShare", jx_w3 hB 43 rfl rfl⟩⟩
set_option maxRecDepth 100000 in
theorem f_K_30 {E : jx_E} (hB : jx_B E) : jx_F E "TaskShare$Task" 30 3 3 := ⟨by decide, jx_q3, by rw [hB.1]; rfl, by decide, "TaskShare$Task", Or.inl rfl, Or.inl (jx_w3 hB 44 rfl rfl)⟩
set_option maxRecDepth 100000 in
theorem g_K_30 {E : jx_E} (hB : jx_B E) : ∃ q : vw_C, E.2.2[3]? = some q ∧ (q.2.1 3).1 = "TaskShare$Task" ∧ (Jvm.Cond.fieldLink "TaskShare$Task" 30 (q.2.1 3).1 (q.2.1 3).2.1 (q.2.1 3).2.2.1).before #[] E.1 = true := ⟨jx_q3, by rw [hB.1]; rfl, rfl, jx_w3 hB 44 rfl rfl⟩
set_option maxRecDepth 100000 in
theorem f_T_210 {E : jx_E} (hB : jx_B E) : jx_F E "TaskShare" 210 3 3 := ⟨by decide, jx_q3, by rw [hB.1]; rfl, by decide, "TaskShare$Task", Or.inl rfl, Or.inr ⟨"TaskShare", jx_w3 hB 45 rfl rfl⟩⟩
set_option maxRecDepth 100000 in
theorem f_K_33 {E : jx_E} (hB : jx_B E) : jx_F E "TaskShare$Task" 33 3 4 := ⟨by decide, jx_q3, by rw [hB.1]; rfl, by decide, "TaskShare$Task", Or.inl rfl, Or.inl (jx_w3 hB 46 rfl rfl)⟩
set_option maxRecDepth 100000 in
theorem g_K_33 {E : jx_E} (hB : jx_B E) : ∃ q : vw_C, E.2.2[3]? = some q ∧ (q.2.1 4).1 = "TaskShare$Task" ∧ (Jvm.Cond.fieldLink "TaskShare$Task" 33 (q.2.1 4).1 (q.2.1 4).2.1 (q.2.1 4).2.2.1).before #[] E.1 = true := ⟨jx_q3, by rw [hB.1]; rfl, rfl, jx_w3 hB 46 rfl rfl⟩
set_option maxRecDepth 100000 in
theorem f_X_117 {E : jx_E} (hB : jx_B E) : jx_F E "TaskShare$ExactPlanner" 117 3 4 := ⟨by decide, jx_q3, by rw [hB.1]; rfl, by decide, "TaskShare$Task", Or.inl rfl, Or.inr ⟨"TaskShare", jx_w3 hB 47 rfl rfl⟩⟩
set_option maxRecDepth 100000 in
theorem f_P_60 {E : jx_E} (hB : jx_B E) : jx_F E "TaskShare$Person" 60 3 4 := ⟨by decide, jx_q3, by rw [hB.1]; rfl, by decide, "TaskShare$Task", Or.inl rfl, Or.inr ⟨"TaskShare", jx_w3 hB 48 rfl rfl⟩⟩
set_option maxRecDepth 100000 in
theorem f_T_197 {E : jx_E} (hB : jx_B E) : jx_F E "TaskShare" 197 3 4 := ⟨by decide, jx_q3, by rw [hB.1]; rfl, by decide, "TaskShare$Task", Or.inl rfl, Or.inr ⟨"TaskShare", jx_w3 hB 49 rfl rfl⟩⟩
set_option maxRecDepth 100000 in
theorem f_K_9 {E : jx_E} (hB : jx_B E) : jx_F E "TaskShare$Task" 9 3 5 := ⟨by decide, jx_q3, by rw [hB.1]; rfl, by decide, "TaskShare$Task", Or.inl rfl, Or.inl (jx_w3 hB 50 rfl rfl)⟩
set_option maxRecDepth 100000 in
theorem f_X_92 {E : jx_E} (hB : jx_B E) : jx_F E "TaskShare$ExactPlanner" 92 3 5 := ⟨by decide, jx_q3, by rw [hB.1]; rfl, by decide, "TaskShare$Task", Or.inl rfl, Or.inr ⟨"TaskShare", jx_w3 hB 51 rfl rfl⟩⟩
set_option maxRecDepth 100000 in
theorem f_T_170 {E : jx_E} (hB : jx_B E) : jx_F E "TaskShare" 170 3 5 := ⟨by decide, jx_q3, by rw [hB.1]; rfl, by decide, "TaskShare$Task", Or.inl rfl, Or.inr ⟨"TaskShare", jx_w3 hB 52 rfl rfl⟩⟩
set_option maxRecDepth 100000 in
theorem f_K_15 {E : jx_E} (hB : jx_B E) : jx_F E "TaskShare$Task" 15 3 6 := ⟨by decide, jx_q3, by rw [hB.1]; rfl, by decide, "TaskShare$Task", Or.inl rfl, Or.inl (jx_w3 hB 53 rfl rfl)⟩
set_option maxRecDepth 100000 in
theorem f_T_127 {E : jx_E} (hB : jx_B E) : jx_F E "TaskShare" 127 3 6 := ⟨by decide, jx_q3, by rw [hB.1]; rfl, by decide, "TaskShare$Task", Or.inl rfl, Or.inr ⟨"TaskShare", jx_w3 hB 54 rfl rfl⟩⟩
set_option maxRecDepth 100000 in
theorem f_K_18 {E : jx_E} (hB : jx_B E) : jx_F E "TaskShare$Task" 18 3 7 := ⟨by decide, jx_q3, by rw [hB.1]; rfl, by decide, "TaskShare$Task", Or.inl rfl, Or.inl (jx_w3 hB 55 rfl rfl)⟩
set_option maxRecDepth 100000 in
theorem f_P_75 {E : jx_E} (hB : jx_B E) : jx_F E "TaskShare$Person" 75 3 7 := ⟨by decide, jx_q3, by rw [hB.1]; rfl, by decide, "TaskShare$Task", Or.inl rfl, Or.inr ⟨"TaskShare", jx_w3 hB 56 rfl rfl⟩⟩
set_option maxRecDepth 100000 in
theorem f_T_185 {E : jx_E} (hB : jx_B E) : jx_F E "TaskShare" 185 3 7 := ⟨by decide, jx_q3, by rw [hB.1]; rfl, by decide, "TaskShare$Task", Or.inl rfl, Or.inr ⟨"TaskShare", jx_w3 hB 57 rfl rfl⟩⟩
set_option maxRecDepth 100000 in
theorem f_M_87 {E : jx_E} (hB : jx_B E) : jx_F E "TaskShareModel" 87 5 0 := ⟨by decide, jx_q5, by rw [hB.1]; rfl, by decide, "TaskShareModel", Or.inl rfl, Or.inl (jx_w4 hB 52 rfl rfl)⟩
set_option maxRecDepth 100000 in
theorem f_M_94 {E : jx_E} (hB : jx_B E) : jx_F E "TaskShareModel" 94 5 1 := ⟨by decide, jx_q5, by rw [hB.1]; rfl, by decide, "TaskShareModel", Or.inl rfl, Or.inl (jx_w4 hB 53 rfl rfl)⟩
set_option maxRecDepth 100000 in
theorem f_M_117 {E : jx_E} (hB : jx_B E) : jx_F E "TaskShareModel" 117 5 2 := ⟨by decide, jx_q5, by rw [hB.1]; rfl, by decide, "TaskShareModel", Or.inl rfl, Or.inl (jx_w4 hB 54 rfl rfl)⟩
set_option maxRecDepth 100000 in
theorem f_M_83 {E : jx_E} (hB : jx_B E) : jx_F E "TaskShareModel" 83 5 3 := ⟨by decide, jx_q5, by rw [hB.1]; rfl, by decide, "TaskShareModel", Or.inl rfl, Or.inl (jx_w4 hB 55 rfl rfl)⟩
set_option maxRecDepth 100000 in
theorem f_M_7 {E : jx_E} (hB : jx_B E) : jx_F E "TaskShareModel" 7 5 4 := ⟨by decide, jx_q5, by rw [hB.1]; rfl, by decide, "TaskShareModel", Or.inl rfl, Or.inl (jx_w4 hB 56 rfl rfl)⟩
set_option maxRecDepth 100000 in
theorem g_M_7 {E : jx_E} (hB : jx_B E) : ∃ q : vw_C, E.2.2[5]? = some q ∧ (q.2.1 4).1 = "TaskShareModel" ∧ (Jvm.Cond.fieldLink "TaskShareModel" 7 (q.2.1 4).1 (q.2.1 4).2.1 (q.2.1 4).2.2.1).before #[] E.1 = true := ⟨jx_q5, by rw [hB.1]; rfl, rfl, jx_w4 hB 56 rfl rfl⟩
set_option maxRecDepth 100000 in
theorem f_M_13 {E : jx_E} (hB : jx_B E) : jx_F E "TaskShareModel" 13 5 5 := ⟨by decide, jx_q5, by rw [hB.1]; rfl, by decide, "TaskShareModel", Or.inl rfl, Or.inl (jx_w4 hB 57 rfl rfl)⟩
set_option maxRecDepth 100000 in
theorem g_M_13 {E : jx_E} (hB : jx_B E) : ∃ q : vw_C, E.2.2[5]? = some q ∧ (q.2.1 5).1 = "TaskShareModel" ∧ (Jvm.Cond.fieldLink "TaskShareModel" 13 (q.2.1 5).1 (q.2.1 5).2.1 (q.2.1 5).2.2.1).before #[] E.1 = true := ⟨jx_q5, by rw [hB.1]; rfl, rfl, jx_w4 hB 57 rfl rfl⟩
set_option maxRecDepth 100000 in
theorem f_M_16 {E : jx_E} (hB : jx_B E) : jx_F E "TaskShareModel" 16 5 6 := ⟨by decide, jx_q5, by rw [hB.1]; rfl, by decide, "TaskShareModel", Or.inl rfl, Or.inl (jx_w4 hB 58 rfl rfl)⟩
set_option maxRecDepth 100000 in
theorem g_M_16 {E : jx_E} (hB : jx_B E) : ∃ q : vw_C, E.2.2[5]? = some q ∧ (q.2.1 6).1 = "TaskShareModel" ∧ (Jvm.Cond.fieldLink "TaskShareModel" 16 (q.2.1 6).1 (q.2.1 6).2.1 (q.2.1 6).2.2.1).before #[] E.1 = true := ⟨jx_q5, by rw [hB.1]; rfl, rfl, jx_w4 hB 58 rfl rfl⟩
set_option maxRecDepth 100000 in
theorem f_M_19 {E : jx_E} (hB : jx_B E) : jx_F E "TaskShareModel" 19 5 7 := ⟨by decide, jx_q5, by rw [hB.1]; rfl, by decide, "TaskShareModel", Or.inl rfl, Or.inl (jx_w4 hB 59 rfl rfl)⟩
set_option maxRecDepth 100000 in
theorem g_M_19 {E : jx_E} (hB : jx_B E) : ∃ q : vw_C, E.2.2[5]? = some q ∧ (q.2.1 7).1 = "TaskShareModel" ∧ (Jvm.Cond.fieldLink "TaskShareModel" 19 (q.2.1 7).1 (q.2.1 7).2.1 (q.2.1 7).2.2.1).before #[] E.1 = true := ⟨jx_q5, by rw [hB.1]; rfl, rfl, jx_w4 hB 59 rfl rfl⟩
set_option maxRecDepth 100000 in
theorem f_M_22 {E : jx_E} (hB : jx_B E) : jx_F E "TaskShareModel" 22 5 8 := ⟨by decide, jx_q5, by rw [hB.1]; rfl, by decide, "TaskShareModel", Or.inl rfl, Or.inl (jx_w4 hB 60 rfl rfl)⟩
set_option maxRecDepth 100000 in
theorem g_M_22 {E : jx_E} (hB : jx_B E) : ∃ q : vw_C, E.2.2[5]? = some q ∧ (q.2.1 8).1 = "TaskShareModel" ∧ (Jvm.Cond.fieldLink "TaskShareModel" 22 (q.2.1 8).1 (q.2.1 8).2.1 (q.2.1 8).2.2.1).before #[] E.1 = true := ⟨jx_q5, by rw [hB.1]; rfl, rfl, jx_w4 hB 60 rfl rfl⟩
set_option maxRecDepth 100000 in
theorem f_M_25 {E : jx_E} (hB : jx_B E) : jx_F E "TaskShareModel" 25 5 9 := ⟨by decide, jx_q5, by rw [hB.1]; rfl, by decide, "TaskShareModel", Or.inl rfl, Or.inl (jx_w4 hB 61 rfl rfl)⟩
set_option maxRecDepth 100000 in
theorem g_M_25 {E : jx_E} (hB : jx_B E) : ∃ q : vw_C, E.2.2[5]? = some q ∧ (q.2.1 9).1 = "TaskShareModel" ∧ (Jvm.Cond.fieldLink "TaskShareModel" 25 (q.2.1 9).1 (q.2.1 9).2.1 (q.2.1 9).2.2.1).before #[] E.1 = true := ⟨jx_q5, by rw [hB.1]; rfl, rfl, jx_w4 hB 61 rfl rfl⟩
set_option maxRecDepth 100000 in
theorem f_M_28 {E : jx_E} (hB : jx_B E) : jx_F E "TaskShareModel" 28 5 10 := ⟨by decide, jx_q5, by rw [hB.1]; rfl, by decide, "TaskShareModel", Or.inl rfl, Or.inl (jx_w4 hB 62 rfl rfl)⟩
set_option maxRecDepth 100000 in
theorem g_M_28 {E : jx_E} (hB : jx_B E) : ∃ q : vw_C, E.2.2[5]? = some q ∧ (q.2.1 10).1 = "TaskShareModel" ∧ (Jvm.Cond.fieldLink "TaskShareModel" 28 (q.2.1 10).1 (q.2.1 10).2.1 (q.2.1 10).2.2.1).before #[] E.1 = true := ⟨jx_q5, by rw [hB.1]; rfl, rfl, jx_w4 hB 62 rfl rfl⟩
set_option maxRecDepth 100000 in
theorem f_M_32 {E : jx_E} (hB : jx_B E) : jx_F E "TaskShareModel" 32 5 11 := ⟨by decide, jx_q5, by rw [hB.1]; rfl, by decide, "TaskShareModel", Or.inl rfl, Or.inl (jx_w4 hB 63 rfl rfl)⟩
set_option maxRecDepth 100000 in
theorem g_M_32 {E : jx_E} (hB : jx_B E) : ∃ q : vw_C, E.2.2[5]? = some q ∧ (q.2.1 11).1 = "TaskShareModel" ∧ (Jvm.Cond.fieldLink "TaskShareModel" 32 (q.2.1 11).1 (q.2.1 11).2.1 (q.2.1 11).2.2.1).before #[] E.1 = true := ⟨jx_q5, by rw [hB.1]; rfl, rfl, jx_w4 hB 63 rfl rfl⟩
set_option maxRecDepth 100000 in
theorem f_M_35 {E : jx_E} (hB : jx_B E) : jx_F E "TaskShareModel" 35 5 12 := ⟨by decide, jx_q5, by rw [hB.1]; rfl, by decide, "TaskShareModel", Or.inl rfl, Or.inl (jx_w4 hB 64 rfl rfl)⟩
set_option maxRecDepth 100000 in
theorem g_M_35 {E : jx_E} (hB : jx_B E) : ∃ q : vw_C, E.2.2[5]? = some q ∧ (q.2.1 12).1 = "TaskShareModel" ∧ (Jvm.Cond.fieldLink "TaskShareModel" 35 (q.2.1 12).1 (q.2.1 12).2.1 (q.2.1 12).2.2.1).before #[] E.1 = true := ⟨jx_q5, by rw [hB.1]; rfl, rfl, jx_w4 hB 64 rfl rfl⟩
set_option maxRecDepth 100000 in
theorem f_M_38 {E : jx_E} (hB : jx_B E) : jx_F E "TaskShareModel" 38 5 13 := ⟨by decide, jx_q5, by rw [hB.1]; rfl, by decide, "TaskShareModel", Or.inl rfl, Or.inl (jx_w4 hB 65 rfl rfl)⟩
set_option maxRecDepth 100000 in
theorem g_M_38 {E : jx_E} (hB : jx_B E) : ∃ q : vw_C, E.2.2[5]? = some q ∧ (q.2.1 13).1 = "TaskShareModel" ∧ (Jvm.Cond.fieldLink "TaskShareModel" 38 (q.2.1 13).1 (q.2.1 13).2.1 (q.2.1 13).2.2.1).before #[] E.1 = true := ⟨jx_q5, by rw [hB.1]; rfl, rfl, jx_w4 hB 65 rfl rfl⟩
set_option maxRecDepth 100000 in
theorem f_M_41 {E : jx_E} (hB : jx_B E) : jx_F E "TaskShareModel" 41 5 14 := ⟨by decide, jx_q5, by rw [hB.1]; rfl, by decide, "TaskShareModel", Or.inl rfl, Or.inl (jx_w4 hB 66 rfl rfl)⟩
set_option maxRecDepth 100000 in
theorem g_M_41 {E : jx_E} (hB : jx_B E) : ∃ q : vw_C, E.2.2[5]? = some q ∧ (q.2.1 14).1 = "TaskShareModel" ∧ (Jvm.Cond.fieldLink "TaskShareModel" 41 (q.2.1 14).1 (q.2.1 14).2.1 (q.2.1 14).2.2.1).before #[] E.1 = true := ⟨jx_q5, by rw [hB.1]; rfl, rfl, jx_w4 hB 66 rfl rfl⟩
set_option maxRecDepth 100000 in
theorem f_M_44 {E : jx_E} (hB : jx_B E) : jx_F E "TaskShareModel" 44 5 15 := ⟨by decide, jx_q5, by rw [hB.1]; rfl, by decide, "TaskShareModel", Or.inl rfl, Or.inl (jx_w4 hB 67 rfl rfl)⟩
set_option maxRecDepth 100000 in
theorem g_M_44 {E : jx_E} (hB : jx_B E) : ∃ q : vw_C, E.2.2[5]? = some q ∧ (q.2.1 15).1 = "TaskShareModel" ∧ (Jvm.Cond.fieldLink "TaskShareModel" 44 (q.2.1 15).1 (q.2.1 15).2.1 (q.2.1 15).2.2.1).before #[] E.1 = true := ⟨jx_q5, by rw [hB.1]; rfl, rfl, jx_w4 hB 67 rfl rfl⟩
set_option maxRecDepth 100000 in
theorem f_M_47 {E : jx_E} (hB : jx_B E) : jx_F E "TaskShareModel" 47 5 16 := ⟨by decide, jx_q5, by rw [hB.1]; rfl, by decide, "TaskShareModel", Or.inl rfl, Or.inl (jx_w4 hB 68 rfl rfl)⟩
set_option maxRecDepth 100000 in
theorem g_M_47 {E : jx_E} (hB : jx_B E) : ∃ q : vw_C, E.2.2[5]? = some q ∧ (q.2.1 16).1 = "TaskShareModel" ∧ (Jvm.Cond.fieldLink "TaskShareModel" 47 (q.2.1 16).1 (q.2.1 16).2.1 (q.2.1 16).2.2.1).before #[] E.1 = true := ⟨jx_q5, by rw [hB.1]; rfl, rfl, jx_w4 hB 68 rfl rfl⟩
set_option maxRecDepth 100000 in
theorem f_M_50 {E : jx_E} (hB : jx_B E) : jx_F E "TaskShareModel" 50 5 17 := ⟨by decide, jx_q5, by rw [hB.1]; rfl, by decide, "TaskShareModel", Or.inl rfl, Or.inl (jx_w4 hB 69 rfl rfl)⟩
set_option maxRecDepth 100000 in
theorem g_M_50 {E : jx_E} (hB : jx_B E) : ∃ q : vw_C, E.2.2[5]? = some q ∧ (q.2.1 17).1 = "TaskShareModel" ∧ (Jvm.Cond.fieldLink "TaskShareModel" 50 (q.2.1 17).1 (q.2.1 17).2.1 (q.2.1 17).2.2.1).before #[] E.1 = true := ⟨jx_q5, by rw [hB.1]; rfl, rfl, jx_w4 hB 69 rfl rfl⟩
set_option maxRecDepth 100000 in
theorem f_M_53 {E : jx_E} (hB : jx_B E) : jx_F E "TaskShareModel" 53 5 18 := ⟨by decide, jx_q5, by rw [hB.1]; rfl, by decide, "TaskShareModel", Or.inl rfl, Or.inl (jx_w4 hB 70 rfl rfl)⟩
set_option maxRecDepth 100000 in
theorem g_M_53 {E : jx_E} (hB : jx_B E) : ∃ q : vw_C, E.2.2[5]? = some q ∧ (q.2.1 18).1 = "TaskShareModel" ∧ (Jvm.Cond.fieldLink "TaskShareModel" 53 (q.2.1 18).1 (q.2.1 18).2.1 (q.2.1 18).2.2.1).before #[] E.1 = true := ⟨jx_q5, by rw [hB.1]; rfl, rfl, jx_w4 hB 70 rfl rfl⟩
set_option maxRecDepth 100000 in
theorem f_M_56 {E : jx_E} (hB : jx_B E) : jx_F E "TaskShareModel" 56 5 19 := ⟨by decide, jx_q5, by rw [hB.1]; rfl, by decide, "TaskShareModel", Or.inl rfl, Or.inl (jx_w4 hB 71 rfl rfl)⟩
set_option maxRecDepth 100000 in
theorem g_M_56 {E : jx_E} (hB : jx_B E) : ∃ q : vw_C, E.2.2[5]? = some q ∧ (q.2.1 19).1 = "TaskShareModel" ∧ (Jvm.Cond.fieldLink "TaskShareModel" 56 (q.2.1 19).1 (q.2.1 19).2.1 (q.2.1 19).2.2.1).before #[] E.1 = true := ⟨jx_q5, by rw [hB.1]; rfl, rfl, jx_w4 hB 71 rfl rfl⟩
set_option maxRecDepth 100000 in
theorem f_M_59 {E : jx_E} (hB : jx_B E) : jx_F E "TaskShareModel" 59 5 20 := ⟨by decide, jx_q5, by rw [hB.1]; rfl, by decide, "TaskShareModel", Or.inl rfl, Or.inl (jx_w4 hB 72 rfl rfl)⟩
set_option maxRecDepth 100000 in
theorem g_M_59 {E : jx_E} (hB : jx_B E) : ∃ q : vw_C, E.2.2[5]? = some q ∧ (q.2.1 20).1 = "TaskShareModel" ∧ (Jvm.Cond.fieldLink "TaskShareModel" 59 (q.2.1 20).1 (q.2.1 20).2.1 (q.2.1 20).2.2.1).before #[] E.1 = true := ⟨jx_q5, by rw [hB.1]; rfl, rfl, jx_w4 hB 72 rfl rfl⟩
set_option maxRecDepth 100000 in
theorem f_M_178 {E : jx_E} (hB : jx_B E) : jx_F E "TaskShareModel" 178 5 21 := ⟨by decide, jx_q5, by rw [hB.1]; rfl, by decide, "TaskShareModel", Or.inl rfl, Or.inl (jx_w4 hB 73 rfl rfl)⟩
set_option maxRecDepth 100000 in
theorem f_M_62 {E : jx_E} (hB : jx_B E) : jx_F E "TaskShareModel" 62 5 22 := ⟨by decide, jx_q5, by rw [hB.1]; rfl, by decide, "TaskShareModel", Or.inl rfl, Or.inl (jx_w4 hB 74 rfl rfl)⟩
set_option maxRecDepth 100000 in
theorem g_M_62 {E : jx_E} (hB : jx_B E) : ∃ q : vw_C, E.2.2[5]? = some q ∧ (q.2.1 22).1 = "TaskShareModel" ∧ (Jvm.Cond.fieldLink "TaskShareModel" 62 (q.2.1 22).1 (q.2.1 22).2.1 (q.2.1 22).2.2.1).before #[] E.1 = true := ⟨jx_q5, by rw [hB.1]; rfl, rfl, jx_w4 hB 74 rfl rfl⟩
set_option maxRecDepth 100000 in
theorem f_M_141 {E : jx_E} (hB : jx_B E) : jx_F E "TaskShareModel" 141 5 23 := ⟨by decide, jx_q5, by rw [hB.1]; rfl, by decide, "TaskShareModel", Or.inl rfl, Or.inl (jx_w4 hB 75 rfl rfl)⟩
set_option maxRecDepth 100000 in
theorem f_M_65 {E : jx_E} (hB : jx_B E) : jx_F E "TaskShareModel" 65 5 24 := ⟨by decide, jx_q5, by rw [hB.1]; rfl, by decide, "TaskShareModel", Or.inl rfl, Or.inl (jx_w4 hB 76 rfl rfl)⟩
set_option maxRecDepth 100000 in
theorem g_M_65 {E : jx_E} (hB : jx_B E) : ∃ q : vw_C, E.2.2[5]? = some q ∧ (q.2.1 24).1 = "TaskShareModel" ∧ (Jvm.Cond.fieldLink "TaskShareModel" 65 (q.2.1 24).1 (q.2.1 24).2.1 (q.2.1 24).2.2.1).before #[] E.1 = true := ⟨jx_q5, by rw [hB.1]; rfl, rfl, jx_w4 hB 76 rfl rfl⟩
set_option maxRecDepth 100000 in
theorem f_M_68 {E : jx_E} (hB : jx_B E) : jx_F E "TaskShareModel" 68 5 25 := ⟨by decide, jx_q5, by rw [hB.1]; rfl, by decide, "TaskShareModel", Or.inl rfl, Or.inl (jx_w4 hB 77 rfl rfl)⟩
set_option maxRecDepth 100000 in
theorem g_M_68 {E : jx_E} (hB : jx_B E) : ∃ q : vw_C, E.2.2[5]? = some q ∧ (q.2.1 25).1 = "TaskShareModel" ∧ (Jvm.Cond.fieldLink "TaskShareModel" 68 (q.2.1 25).1 (q.2.1 25).2.1 (q.2.1 25).2.2.1).before #[] E.1 = true := ⟨jx_q5, by rw [hB.1]; rfl, rfl, jx_w4 hB 77 rfl rfl⟩
set_option maxRecDepth 100000 in
theorem f_M_71 {E : jx_E} (hB : jx_B E) : jx_F E "TaskShareModel" 71 5 26 := ⟨by decide, jx_q5, by rw [hB.1]; rfl, by decide, "TaskShareModel", Or.inl rfl, Or.inl (jx_w4 hB 78 rfl rfl)⟩
set_option maxRecDepth 100000 in
theorem g_M_71 {E : jx_E} (hB : jx_B E) : ∃ q : vw_C, E.2.2[5]? = some q ∧ (q.2.1 26).1 = "TaskShareModel" ∧ (Jvm.Cond.fieldLink "TaskShareModel" 71 (q.2.1 26).1 (q.2.1 26).2.1 (q.2.1 26).2.2.1).before #[] E.1 = true := ⟨jx_q5, by rw [hB.1]; rfl, rfl, jx_w4 hB 78 rfl rfl⟩
set_option maxRecDepth 100000 in
theorem f_M_74 {E : jx_E} (hB : jx_B E) : jx_F E "TaskShareModel" 74 5 27 := ⟨by decide, jx_q5, by rw [hB.1]; rfl, by decide, "TaskShareModel", Or.inl rfl, Or.inl (jx_w4 hB 79 rfl rfl)⟩
set_option maxRecDepth 100000 in
theorem g_M_74 {E : jx_E} (hB : jx_B E) : ∃ q : vw_C, E.2.2[5]? = some q ∧ (q.2.1 27).1 = "TaskShareModel" ∧ (Jvm.Cond.fieldLink "TaskShareModel" 74 (q.2.1 27).1 (q.2.1 27).2.1 (q.2.1 27).2.2.1).before #[] E.1 = true := ⟨jx_q5, by rw [hB.1]; rfl, rfl, jx_w4 hB 79 rfl rfl⟩
set_option maxRecDepth 100000 in
theorem f_M_77 {E : jx_E} (hB : jx_B E) : jx_F E "TaskShareModel" 77 5 28 := ⟨by decide, jx_q5, by rw [hB.1]; rfl, by decide, "TaskShareModel", Or.inl rfl, Or.inl (jx_w4 hB 80 rfl rfl)⟩
set_option maxRecDepth 100000 in
theorem g_M_77 {E : jx_E} (hB : jx_B E) : ∃ q : vw_C, E.2.2[5]? = some q ∧ (q.2.1 28).1 = "TaskShareModel" ∧ (Jvm.Cond.fieldLink "TaskShareModel" 77 (q.2.1 28).1 (q.2.1 28).2.1 (q.2.1 28).2.2.1).before #[] E.1 = true := ⟨jx_q5, by rw [hB.1]; rfl, rfl, jx_w4 hB 80 rfl rfl⟩
set_option maxRecDepth 100000 in
theorem f_M_80 {E : jx_E} (hB : jx_B E) : jx_F E "TaskShareModel" 80 5 29 := ⟨by decide, jx_q5, by rw [hB.1]; rfl, by decide, "TaskShareModel", Or.inl rfl, Or.inl (jx_w4 hB 81 rfl rfl)⟩
set_option maxRecDepth 100000 in
theorem g_M_80 {E : jx_E} (hB : jx_B E) : ∃ q : vw_C, E.2.2[5]? = some q ∧ (q.2.1 29).1 = "TaskShareModel" ∧ (Jvm.Cond.fieldLink "TaskShareModel" 80 (q.2.1 29).1 (q.2.1 29).2.1 (q.2.1 29).2.2.1).before #[] E.1 = true := ⟨jx_q5, by rw [hB.1]; rfl, rfl, jx_w4 hB 81 rfl rfl⟩
theorem t_0_0 {E : jx_E} (hB : jx_B E) : jx_Ft E 0 0 (.object "java/util/ArrayList") true := ⟨jx_q0, by rw [hB.1]; rfl, by decide +kernel, rfl⟩
theorem t_0_1 {E : jx_E} (hB : jx_B E) : jx_Ft E 0 1 (.object "java/util/ArrayList") true := ⟨jx_q0, by rw [hB.1]; rfl, by decide +kernel, rfl⟩
theorem t_0_2 {E : jx_E} (hB : jx_B E) : jx_Ft E 0 2 (.object "java/util/ArrayList") true := ⟨jx_q0, by rw [hB.1]; rfl, by decide +kernel, rfl⟩
theorem t_0_3 {E : jx_E} (hB : jx_B E) : jx_Ft E 0 3 (.object "TaskShare$Ways") true := ⟨jx_q0, by rw [hB.1]; rfl, by decide +kernel, rfl⟩
theorem t_0_4 {E : jx_E} (hB : jx_B E) : jx_Ft E 0 4 (.object "TaskShare$ExactPlanner") true := ⟨jx_q0, by rw [hB.1]; rfl, by decide +kernel, rfl⟩
theorem t_0_5 {E : jx_E} (hB : jx_B E) : jx_Ft E 0 5 (.int) false := ⟨jx_q0, by rw [hB.1]; rfl, by decide +kernel, rfl⟩
theorem t_0_6 {E : jx_E} (hB : jx_B E) : jx_Ft E 0 6 (.boolean) false := ⟨jx_q0, by rw [hB.1]; rfl, by decide +kernel, rfl⟩
theorem t_1_0 {E : jx_E} (hB : jx_B E) : jx_Ft E 1 0 (.object "java/util/ArrayList") true := ⟨jx_q1, by rw [hB.1]; rfl, by decide +kernel, rfl⟩
theorem t_1_1 {E : jx_E} (hB : jx_B E) : jx_Ft E 1 1 (.array (.array .int)) true := ⟨jx_q1, by rw [hB.1]; rfl, by decide +kernel, rfl⟩
theorem t_1_2 {E : jx_E} (hB : jx_B E) : jx_Ft E 1 2 (.array (.array .int)) true := ⟨jx_q1, by rw [hB.1]; rfl, by decide +kernel, rfl⟩
theorem t_1_3 {E : jx_E} (hB : jx_B E) : jx_Ft E 1 3 (.array .int) true := ⟨jx_q1, by rw [hB.1]; rfl, by decide +kernel, rfl⟩
theorem t_1_4 {E : jx_E} (hB : jx_B E) : jx_Ft E 1 4 (.array .int) true := ⟨jx_q1, by rw [hB.1]; rfl, by decide +kernel, rfl⟩
theorem t_1_5 {E : jx_E} (hB : jx_B E) : jx_Ft E 1 5 (.array (.array .long)) true := ⟨jx_q1, by rw [hB.1]; rfl, by decide +kernel, rfl⟩
theorem t_1_6 {E : jx_E} (hB : jx_B E) : jx_Ft E 1 6 (.array (.array .int)) true := ⟨jx_q1, by rw [hB.1]; rfl, by decide +kernel, rfl⟩
theorem t_1_7 {E : jx_E} (hB : jx_B E) : jx_Ft E 1 7 (.int) false := ⟨jx_q1, by rw [hB.1]; rfl, by decide +kernel, rfl⟩
theorem t_2_0 {E : jx_E} (hB : jx_B E) : jx_Ft E 2 0 (.int) true := ⟨jx_q2, by rw [hB.1]; rfl, by decide +kernel, rfl⟩
theorem t_2_1 {E : jx_E} (hB : jx_B E) : jx_Ft E 2 1 (.int) true := ⟨jx_q2, by rw [hB.1]; rfl, by decide +kernel, rfl⟩
theorem t_2_2 {E : jx_E} (hB : jx_B E) : jx_Ft E 2 2 (.int) true := ⟨jx_q2, by rw [hB.1]; rfl, by decide +kernel, rfl⟩
theorem t_2_3 {E : jx_E} (hB : jx_B E) : jx_Ft E 2 3 (.int) false := ⟨jx_q2, by rw [hB.1]; rfl, by decide +kernel, rfl⟩
theorem t_2_4 {E : jx_E} (hB : jx_B E) : jx_Ft E 2 4 (.int) false := ⟨jx_q2, by rw [hB.1]; rfl, by decide +kernel, rfl⟩
theorem t_2_5 {E : jx_E} (hB : jx_B E) : jx_Ft E 2 5 (.int) false := ⟨jx_q2, by rw [hB.1]; rfl, by decide +kernel, rfl⟩
theorem t_2_6 {E : jx_E} (hB : jx_B E) : jx_Ft E 2 6 (.int) false := ⟨jx_q2, by rw [hB.1]; rfl, by decide +kernel, rfl⟩
theorem t_2_7 {E : jx_E} (hB : jx_B E) : jx_Ft E 2 7 (.boolean) false := ⟨jx_q2, by rw [hB.1]; rfl, by decide +kernel, rfl⟩
theorem t_2_8 {E : jx_E} (hB : jx_B E) : jx_Ft E 2 8 (.int) false := ⟨jx_q2, by rw [hB.1]; rfl, by decide +kernel, rfl⟩
theorem t_2_9 {E : jx_E} (hB : jx_B E) : jx_Ft E 2 9 (.int) false := ⟨jx_q2, by rw [hB.1]; rfl, by decide +kernel, rfl⟩
theorem t_2_10 {E : jx_E} (hB : jx_B E) : jx_Ft E 2 10 (.int) false := ⟨jx_q2, by rw [hB.1]; rfl, by decide +kernel, rfl⟩
theorem t_2_11 {E : jx_E} (hB : jx_B E) : jx_Ft E 2 11 (.int) false := ⟨jx_q2, by rw [hB.1]; rfl, by decide +kernel, rfl⟩
theorem t_2_12 {E : jx_E} (hB : jx_B E) : jx_Ft E 2 12 (.int) false := ⟨jx_q2, by rw [hB.1]; rfl, by decide +kernel, rfl⟩
theorem t_2_13 {E : jx_E} (hB : jx_B E) : jx_Ft E 2 13 (.int) false := ⟨jx_q2, by rw [hB.1]; rfl, by decide +kernel, rfl⟩
theorem t_3_0 {E : jx_E} (hB : jx_B E) : jx_Ft E 3 0 (.int) true := ⟨jx_q3, by rw [hB.1]; rfl, by decide +kernel, rfl⟩
theorem t_3_1 {E : jx_E} (hB : jx_B E) : jx_Ft E 3 1 (.int) true := ⟨jx_q3, by rw [hB.1]; rfl, by decide +kernel, rfl⟩
theorem t_3_2 {E : jx_E} (hB : jx_B E) : jx_Ft E 3 2 (.int) true := ⟨jx_q3, by rw [hB.1]; rfl, by decide +kernel, rfl⟩
theorem t_3_3 {E : jx_E} (hB : jx_B E) : jx_Ft E 3 3 (.int) true := ⟨jx_q3, by rw [hB.1]; rfl, by decide +kernel, rfl⟩
theorem t_3_4 {E : jx_E} (hB : jx_B E) : jx_Ft E 3 4 (.int) true := ⟨jx_q3, by rw [hB.1]; rfl, by decide +kernel, rfl⟩
theorem t_3_5 {E : jx_E} (hB : jx_B E) : jx_Ft E 3 5 (.int) false := ⟨jx_q3, by rw [hB.1]; rfl, by decide +kernel, rfl⟩
theorem t_3_6 {E : jx_E} (hB : jx_B E) : jx_Ft E 3 6 (.int) false := ⟨jx_q3, by rw [hB.1]; rfl, by decide +kernel, rfl⟩
theorem t_3_7 {E : jx_E} (hB : jx_B E) : jx_Ft E 3 7 (.int) false := ⟨jx_q3, by rw [hB.1]; rfl, by decide +kernel, rfl⟩
theorem t_4_0 {E : jx_E} (hB : jx_B E) : jx_Ft E 4 0 (.array .int) true := ⟨jx_q4, by rw [hB.1]; rfl, by decide +kernel, rfl⟩
theorem t_5_0 {E : jx_E} (hB : jx_B E) : jx_Ft E 5 0 (.int) false := ⟨jx_q5, by rw [hB.1]; rfl, by decide +kernel, rfl⟩
theorem t_5_1 {E : jx_E} (hB : jx_B E) : jx_Ft E 5 1 (.int) false := ⟨jx_q5, by rw [hB.1]; rfl, by decide +kernel, rfl⟩
theorem t_5_2 {E : jx_E} (hB : jx_B E) : jx_Ft E 5 2 (.int) false := ⟨jx_q5, by rw [hB.1]; rfl, by decide +kernel, rfl⟩
theorem t_5_3 {E : jx_E} (hB : jx_B E) : jx_Ft E 5 3 (.int) false := ⟨jx_q5, by rw [hB.1]; rfl, by decide +kernel, rfl⟩
theorem t_5_4 {E : jx_E} (hB : jx_B E) : jx_Ft E 5 4 (.array .int) true := ⟨jx_q5, by rw [hB.1]; rfl, by decide +kernel, rfl⟩
theorem t_5_5 {E : jx_E} (hB : jx_B E) : jx_Ft E 5 5 (.array .int) true := ⟨jx_q5, by rw [hB.1]; rfl, by decide +kernel, rfl⟩
theorem t_5_6 {E : jx_E} (hB : jx_B E) : jx_Ft E 5 6 (.array .int) true := ⟨jx_q5, by rw [hB.1]; rfl, by decide +kernel, rfl⟩
theorem t_5_7 {E : jx_E} (hB : jx_B E) : jx_Ft E 5 7 (.array .int) true := ⟨jx_q5, by rw [hB.1]; rfl, by decide +kernel, rfl⟩
theorem t_5_8 {E : jx_E} (hB : jx_B E) : jx_Ft E 5 8 (.array .int) true := ⟨jx_q5, by rw [hB.1]; rfl, by decide +kernel, rfl⟩
theorem t_5_9 {E : jx_E} (hB : jx_B E) : jx_Ft E 5 9 (.array .int) true := ⟨jx_q5, by rw [hB.1]; rfl, by decide +kernel, rfl⟩
theorem t_5_10 {E : jx_E} (hB : jx_B E) : jx_Ft E 5 10 (.array .boolean) true := ⟨jx_q5, by rw [hB.1]; rfl, by decide +kernel, rfl⟩
theorem t_5_11 {E : jx_E} (hB : jx_B E) : jx_Ft E 5 11 (.array .int) true := ⟨jx_q5, by rw [hB.1]; rfl, by decide +kernel, rfl⟩
theorem t_5_12 {E : jx_E} (hB : jx_B E) : jx_Ft E 5 12 (.array .int) true := ⟨jx_q5, by rw [hB.1]; rfl, by decide +kernel, rfl⟩
theorem t_5_13 {E : jx_E} (hB : jx_B E) : jx_Ft E 5 13 (.array .int) true := ⟨jx_q5, by rw [hB.1]; rfl, by decide +kernel, rfl⟩
theorem t_5_14 {E : jx_E} (hB : jx_B E) : jx_Ft E 5 14 (.array .int) true := ⟨jx_q5, by rw [hB.1]; rfl, by decide +kernel, rfl⟩
theorem t_5_15 {E : jx_E} (hB : jx_B E) : jx_Ft E 5 15 (.array .int) true := ⟨jx_q5, by rw [hB.1]; rfl, by decide +kernel, rfl⟩
theorem t_5_16 {E : jx_E} (hB : jx_B E) : jx_Ft E 5 16 (.array .int) true := ⟨jx_q5, by rw [hB.1]; rfl, by decide +kernel, rfl⟩
theorem t_5_17 {E : jx_E} (hB : jx_B E) : jx_Ft E 5 17 (.array .int) true := ⟨jx_q5, by rw [hB.1]; rfl, by decide +kernel, rfl⟩
theorem t_5_18 {E : jx_E} (hB : jx_B E) : jx_Ft E 5 18 (.array .int) true := ⟨jx_q5, by rw [hB.1]; rfl, by decide +kernel, rfl⟩
theorem t_5_19 {E : jx_E} (hB : jx_B E) : jx_Ft E 5 19 (.array .int) true := ⟨jx_q5, by rw [hB.1]; rfl, by decide +kernel, rfl⟩
theorem t_5_20 {E : jx_E} (hB : jx_B E) : jx_Ft E 5 20 (.array .int) true := ⟨jx_q5, by rw [hB.1]; rfl, by decide +kernel, rfl⟩
theorem t_5_21 {E : jx_E} (hB : jx_B E) : jx_Ft E 5 21 (.boolean) false := ⟨jx_q5, by rw [hB.1]; rfl, by decide +kernel, rfl⟩
theorem t_5_22 {E : jx_E} (hB : jx_B E) : jx_Ft E 5 22 (.array .int) true := ⟨jx_q5, by rw [hB.1]; rfl, by decide +kernel, rfl⟩
theorem t_5_23 {E : jx_E} (hB : jx_B E) : jx_Ft E 5 23 (.int) false := ⟨jx_q5, by rw [hB.1]; rfl, by decide +kernel, rfl⟩
theorem t_5_24 {E : jx_E} (hB : jx_B E) : jx_Ft E 5 24 (.array .int) true := ⟨jx_q5, by rw [hB.1]; rfl, by decide +kernel, rfl⟩
theorem t_5_25 {E : jx_E} (hB : jx_B E) : jx_Ft E 5 25 (.array .int) true := ⟨jx_q5, by rw [hB.1]; rfl, by decide +kernel, rfl⟩
theorem t_5_26 {E : jx_E} (hB : jx_B E) : jx_Ft E 5 26 (.array .int) true := ⟨jx_q5, by rw [hB.1]; rfl, by decide +kernel, rfl⟩
theorem t_5_27 {E : jx_E} (hB : jx_B E) : jx_Ft E 5 27 (.array .int) true := ⟨jx_q5, by rw [hB.1]; rfl, by decide +kernel, rfl⟩
theorem t_5_28 {E : jx_E} (hB : jx_B E) : jx_Ft E 5 28 (.array .int) true := ⟨jx_q5, by rw [hB.1]; rfl, by decide +kernel, rfl⟩
theorem t_5_29 {E : jx_E} (hB : jx_B E) : jx_Ft E 5 29 (.array .int) true := ⟨jx_q5, by rw [hB.1]; rfl, by decide +kernel, rfl⟩
theorem t_6_0 {E : jx_E} (hB : jx_B E) : jx_Ft E 6 0 (.array (.object "java/lang/Object")) false := ⟨jx_q6, by rw [hB.1]; rfl, by decide +kernel, rfl⟩
theorem t_6_1 {E : jx_E} (hB : jx_B E) : jx_Ft E 6 1 (.int) false := ⟨jx_q6, by rw [hB.1]; rfl, by decide +kernel, rfl⟩
theorem t_6_2 {E : jx_E} (hB : jx_B E) : jx_Ft E 6 2 (.int) false := ⟨jx_q6, by rw [hB.1]; rfl, by decide +kernel, rfl⟩
set_option maxRecDepth 100000 in
theorem n_L_8 {E : jx_E} (hB : jx_B E) : jx_N E "TaskShareLaw" 8 0 7 jx_d0 := ⟨by decide, jx_q0, by rw [hB.1]; rfl, rfl, jx_w1 hB 24 rfl rfl, jx_w1 hB 25 rfl rfl, jx_w1 hB 1 rfl rfl, jx_t0, jx_t0_ok, jx_d0_ok⟩
set_option maxRecDepth 100000 in
theorem n_T_7 {E : jx_E} (hB : jx_B E) : jx_N E "TaskShare" 7 6 3 jx_d6 := ⟨by decide, jx_q6, by rw [hB.1]; rfl, rfl, jx_w1 hB 32 rfl rfl, jx_w1 hB 33 rfl rfl, jx_w1 hB 4 rfl rfl, jx_t6, jx_t6_ok, jx_d6_ok⟩
set_option maxRecDepth 100000 in
theorem n_T_22 {E : jx_E} (hB : jx_B E) : jx_N E "TaskShare" 22 4 1 jx_d4 := ⟨by decide, jx_q4, by rw [hB.1]; rfl, rfl, jx_w1 hB 58 rfl rfl, jx_w1 hB 59 rfl rfl, jx_w1 hB 5 rfl rfl, jx_t4, jx_t4_ok, jx_d4_ok⟩
set_option maxRecDepth 100000 in
theorem a_int {E : jx_E} (hB : jx_B E) : (Jvm.Cond.arrayClass FieldType.int).before #[] E.1 = true := jx_wa1 hB 68 rfl
set_option maxRecDepth 100000 in
theorem n_T_29 {E : jx_E} (hB : jx_B E) : jx_N E "TaskShare" 29 1 8 jx_d1 := ⟨by decide, jx_q1, by rw [hB.1]; rfl, rfl, jx_w1 hB 69 rfl rfl, jx_w1 hB 70 rfl rfl, jx_w1 hB 6 rfl rfl, jx_t1, jx_t1_ok, jx_d1_ok⟩
set_option maxRecDepth 100000 in
theorem n_X_9 {E : jx_E} (hB : jx_B E) : jx_N E "TaskShare$ExactPlanner" 9 6 3 jx_d6 := ⟨by decide, jx_q6, by rw [hB.1]; rfl, rfl, jx_w1 hB 75 rfl rfl, jx_w1 hB 33 rfl rfl, jx_w1 hB 4 rfl rfl, jx_t6, jx_t6_ok, jx_d6_ok⟩
set_option maxRecDepth 100000 in
theorem a_long {E : jx_E} (hB : jx_B E) : (Jvm.Cond.arrayClass FieldType.long).before #[] E.1 = true := jx_wa1 hB 108 rfl
set_option maxRecDepth 100000 in
theorem n_T_98 {E : jx_E} (hB : jx_B E) : jx_N E "TaskShare" 98 3 8 jx_d3 := ⟨by decide, jx_q3, by rw [hB.1]; rfl, rfl, jx_w1 hB 157 rfl rfl, jx_w1 hB 199 rfl rfl, jx_w1 hB 23 rfl rfl, jx_t3, jx_t3_ok, jx_d3_ok⟩
set_option maxRecDepth 100000 in
theorem k_T_40 {E : jx_E} (hB : jx_B E) : (Jvm.Cond.constant "TaskShare" 40 100000).before #[] E.1 = true := jx_w1 hB 162 rfl rfl
set_option maxRecDepth 100000 in
theorem n_T_49 {E : jx_E} (hB : jx_B E) : jx_N E "TaskShare" 49 2 14 jx_d2 := ⟨by decide, jx_q2, by rw [hB.1]; rfl, rfl, jx_w1 hB 163 rfl rfl, jx_w1 hB 167 rfl rfl, jx_w1 hB 13 rfl rfl, jx_t2, jx_t2_ok, jx_d2_ok⟩
set_option maxRecDepth 100000 in
theorem a_byte {E : jx_E} (hB : jx_B E) : (Jvm.Cond.arrayClass FieldType.byte).before #[] E.1 = true := jx_wa2 hB 65 rfl
set_option maxRecDepth 100000 in
theorem k_JArraysSupport_200 {E : jx_E} (hB : jx_B E) : (Jvm.Cond.constant "jdk/internal/util/ArraysSupport" 200 2147483639).before #[] E.1 = true := jx_w2 hB 170 rfl rfl
set_option maxRecDepth 100000 in
theorem k_JInteger_265 {E : jx_E} (hB : jx_B E) : (Jvm.Cond.constant "java/lang/Integer" 265 1431655765).before #[] E.1 = true := jx_w3 hB 20 rfl rfl
set_option maxRecDepth 100000 in
theorem k_JInteger_266 {E : jx_E} (hB : jx_B E) : (Jvm.Cond.constant "java/lang/Integer" 266 858993459).before #[] E.1 = true := jx_w3 hB 21 rfl rfl
set_option maxRecDepth 100000 in
theorem k_JInteger_267 {E : jx_E} (hB : jx_B E) : (Jvm.Cond.constant "java/lang/Integer" 267 252645135).before #[] E.1 = true := jx_w3 hB 22 rfl rfl
set_option maxRecDepth 100000 in
theorem n_X_90 {E : jx_E} (hB : jx_B E) : jx_N E "TaskShare$ExactPlanner" 90 3 8 jx_d3 := ⟨by decide, jx_q3, by rw [hB.1]; rfl, rfl, jx_w3 hB 141 rfl rfl, jx_w1 hB 199 rfl rfl, jx_w1 hB 23 rfl rfl, jx_t3, jx_t3_ok, jx_d3_ok⟩
set_option maxRecDepth 100000 in
theorem n_X_56 {E : jx_E} (hB : jx_B E) : jx_N E "TaskShare$ExactPlanner" 56 2 14 jx_d2 := ⟨by decide, jx_q2, by rw [hB.1]; rfl, rfl, jx_w3 hB 143 rfl rfl, jx_w1 hB 167 rfl rfl, jx_w1 hB 13 rfl rfl, jx_t2, jx_t2_ok, jx_d2_ok⟩
set_option maxRecDepth 100000 in
theorem k_X_62 {E : jx_E} (hB : jx_B E) : (Jvm.Cond.constant "TaskShare$ExactPlanner" 62 1000000000).before #[] E.1 = true := jx_w3 hB 144 rfl rfl
set_option maxRecDepth 100000 in
theorem k_X_132 {E : jx_E} (hB : jx_B E) : (Jvm.Cond.constant "TaskShare$ExactPlanner" 132 100000).before #[] E.1 = true := jx_w3 hB 166 rfl rfl
set_option maxRecDepth 100000 in
theorem k_X_125 {E : jx_E} (hB : jx_B E) : (Jvm.Cond.constantLong "TaskShare$ExactPlanner" 125 3125).before #[] E.1 = true := jx_w3 hB 171 rfl rfl
set_option maxRecDepth 100000 in
theorem n_L_72 {E : jx_E} (hB : jx_B E) : jx_N E "TaskShareLaw" 72 5 30 jx_d5 := ⟨by decide, jx_q5, by rw [hB.1]; rfl, rfl, jx_w4 hB 46 rfl rfl, jx_w4 hB 47 rfl rfl, jx_w1 hB 7 rfl rfl, jx_t5, jx_t5_ok, jx_d5_ok⟩
set_option maxRecDepth 100000 in
theorem a_boolean {E : jx_E} (hB : jx_B E) : (Jvm.Cond.arrayClass FieldType.boolean).before #[] E.1 = true := jx_wa4 hB 143 rfl
set_option maxRecDepth 100000 in
theorem k_M_97 {E : jx_E} (hB : jx_B E) : (Jvm.Cond.constant "TaskShareModel" 97 100000).before #[] E.1 = true := jx_w4 hB 155 rfl rfl
