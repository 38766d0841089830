/-! 91.c.inits: constructors of the lists, the ways, the reference, the exact planner -/
set_option maxRecDepth 100000 in
theorem y_acI {E : jx_E} (hB : jx_B E) : (Jvm.Cond.arrayClass .int).before #[] E.1 = true := jx_wa1 hB 68 rfl
set_option maxRecDepth 100000 in
theorem y_acJ {E : jx_E} (hB : jx_B E) : (Jvm.Cond.arrayClass .long).before #[] E.1 = true := jx_wa1 hB 108 rfl
set_option maxRecDepth 100000 in
theorem y_acZ {E : jx_E} (hB : jx_B E) : (Jvm.Cond.arrayClass .boolean).before #[] E.1 = true := jx_wa4 hB 143 rfl
set_option maxRecDepth 100000 in
theorem y_cl18 {E : jx_E} (hB : jx_B E) : (Jvm.Cond.classLink "TaskShare$ExactPlanner" 18 "[[I").before #[] E.1 = true := jx_w1 hB 77 rfl rfl
set_option maxRecDepth 100000 in
theorem y_cl33 {E : jx_E} (hB : jx_B E) : (Jvm.Cond.classLink "TaskShare$ExactPlanner" 33 "[[J").before #[] E.1 = true := jx_w1 hB 79 rfl rfl
set_option maxRecDepth 100000 in
theorem y_pv {E : jx_E} (hB : jx_B E) : (Jvm.Cond.fieldLink "TaskShare$ExactPlanner" 41 "TaskShare$ExactPlanner" "PLACE_VALUES" "[I").before #[] E.1 = true := jx_w1 hB 81 rfl rfl
set_option maxRecDepth 100000 in
theorem f_JAbstractList_7 {E : jx_E} (hB : jx_B E) : jx_F E "java/util/AbstractList" 7 6 2 := ⟨by decide, jx_q6, by rw [hB.1]; rfl, by decide, "java/util/AbstractList", Or.inl rfl, Or.inl (jx_w1 hB 48 rfl rfl)⟩
theorem w_AC_init {E : jx_E} {l : Launch} {d : Nat} {w : jx_W} {b : Nat} (hB : jx_B E) : jx_G E l Y_JAbstractCollection_init (d + 1) (jx_eq (.inr none) w) 0 (jx_ent [.ref b] 1) [] w := by
  show jx_G E l Y_JAbstractCollection_init (d + 1) _ 0 [some (.ref b)] [] w
  refine jx_aload_n d_JAbstractCollection_init_0 rfl rfl ?_
  refine jx_objInit d_JAbstractCollection_init_1 (y_oi_C hB) (y_oi2 hB) (y_oi3 hB) (Nat.le_of_ble_eq_true rfl) ?_
  exact jx_vret d_JAbstractCollection_init_4 rfl ⟨rfl, rfl⟩
theorem w_AL_init {E : jx_E} {l : Launch} {d : Nat} {w : jx_W} {b : Nat} (hB : jx_B E) (hk : jx_k w b = 7) (ho : E.1.heap.size ≤ b) : jx_G E l Y_JAbstractList_init (d + 2) (jx_eq (.inr none) (jx_put w b 2 (.int (iI 0)))) 0 (jx_ent [.ref b] 1) [] w := by
  show jx_G E l Y_JAbstractList_init (d + 2) _ 0 [some (.ref b)] [] w
  refine jx_aload_n d_JAbstractList_init_0 rfl rfl ?_
  refine jx_callI_r (As := []) (v := none) (rest := []) d_JAbstractList_init_1 (m_JAbstractCollection_init hB) (i_JAbstractList_1 hB) rfl rfl rfl (Nat.le_of_ble_eq_true rfl) (Nat.le_of_ble_eq_true rfl) (w_AC_init hB) ?_
  refine jx_aload_n d_JAbstractList_init_4 rfl rfl ?_
  refine jI_const d_JAbstractList_init_5 ?_
  refine jx_putf d_JAbstractList_init_6 (f_JAbstractList_7 hB) (t_6_2 hB) hk ho rfl rfl ?_
  exact jx_vret d_JAbstractList_init_9 rfl ⟨rfl, rfl⟩
theorem w_A_init {E : jx_E} {l : Launch} {d : Nat} {w : jx_W} {b z : Nat} (hB : jx_B E) (hz : jZ E z) (hk : jx_k w b = 7) (ho : E.1.heap.size ≤ b) : jx_G E l Y_A_init (d + 3) (jx_eq (.inr none) (jx_put (jx_put w b 2 (.int (iI 0))) b 0 (.ref z))) 0 (jx_ent [.ref b] 1) [] w := by
  show jx_G E l Y_A_init (d + 3) _ 0 [some (.ref b)] [] w
  refine jx_aload_n d_A_init_0 rfl rfl ?_
  refine jx_callI_r (As := []) (v := none) (rest := []) d_A_init_1 (m_JAbstractList_init hB) (i_A_1 hB) rfl rfl rfl (Nat.le_of_ble_eq_true rfl) (Nat.le_of_ble_eq_true rfl) (w_AL_init hB hk ho) ?_
  refine jx_aload_n d_A_init_4 rfl rfl ?_
  refine jx_gets d_A_init_5 (y_s1 hB) hz ?_
  refine jx_putf d_A_init_8 (f_A_9 hB) (t_6_0 hB) hk ho rfl rfl ?_
  exact jx_vret d_A_init_11 rfl ⟨rfl, rfl⟩
theorem w_Y_init {E : jx_E} {l : Launch} {d : Nat} {w : jx_W} {b : Nat} (hB : jx_B E) (hk : jx_k w b = 5) (ho : E.1.heap.size ≤ b) (hb : b < jx_n w) (hc : 1 ≤ jx_c w) (hs : 16 ≤ jx_s w) : jx_G E l Y_Y_init (d + 1) (jx_eq (.inr none) (jx_put (jx_new w 100 16 16 (fun _ => .int 0)) b 0 (.ref (jx_n w)))) 0 (jx_ent [.ref b] 1) [] w := by
  show jx_G E l Y_Y_init (d + 1) _ 0 [some (.ref b)] [] w
  refine jx_aload_n d_Y_init_0 rfl rfl ?_
  refine jx_objInit d_Y_init_1 (y_oi_Y hB) (y_oi2 hB) (y_oi3 hB) (Nat.le_of_ble_eq_true rfl) ?_
  refine jx_aload_n d_Y_init_4 rfl rfl ?_
  refine jI_bipush d_Y_init_5 rfl ?_
  refine jx_newa (kd := 100) (N := 16) d_Y_init_7 (y_acI hB) rfl (by decide) rfl (by decide) (by decide) (by decide) hc hs ?_
  refine jx_putF d_Y_init_9 (f_Y_9 hB) (g_Y_9 hB) (t_4_0 hB) rfl ?_ ho rfl rfl ?_
  · rw [new_k, if_neg (by omega)]
    exact hk
  exact jx_vret d_Y_init_12 rfl ⟨rfl, rfl⟩
/-- the fields of the reference that hold arrays, in the order in which they are laid -/
def mFx (n : Nat) : Nat := if n < 17 then n + 4 else if n = 17 then 22 else n + 6
def mJx (f : Nat) : Nat := if f < 21 then f - 4 else if f = 22 then 17 else f - 6
abbrev mI (w0 : jx_W) (b n : Nat) (w : jx_W) : Prop := bI w0 b (fun n => n) mFx (fun o => mKd (mFx o)) (fun o => mLen (mFx o)) (fun _ V => ∀ i, V i = .int 0) n w
theorem mLen_le (f : Nat) : mLen f ≤ 640 := by
  unfold mLen
  (repeat' split) <;> omega
theorem mi_go {E : jx_E} {l : Launch} {d : Nat} {Q : jx_R → jx_W → Prop} {pc : Nat} {L : List (Option Value)} {st : List Value} {w w0 : jx_W} {b idx : Nat} {at0 : ArrayType} {x : Int32} (n : Nat) (hk0 : jx_k w0 b = 6) (ho : E.1.heap.size ≤ b) (hb : b < jx_n w0) (h : mI w0 b n w) (hd1 : decode Y_M_init.2.2.1 pc = .ok (.newarray at0, 2)) (hd2 : decode Y_M_init.2.2.1 (pc + 2) = .ok (.putfield idx, 3)) (hF : jx_F E Y_M_init.1 idx 5 (mFx n)) (hl : ∃ q : vw_C, E.2.2[5]? = some q ∧ (q.2.1 (mFx n)).1 = Y_M_init.1 ∧ (Jvm.Cond.fieldLink Y_M_init.1 idx (q.2.1 (mFx n)).1 (q.2.1 (mFx n)).2.1 (q.2.1 (mFx n)).2.2.1).before #[] E.1 = true) (hT : jx_Ft E 5 (mFx n) (.array (newarray.typeOf at0)) true) (ha : (Jvm.Cond.arrayClass (newarray.typeOf at0)).before #[] E.1 = true) (hty : newarray.typeOf at0 = jx_ty (mKd (mFx n))) (hdv : defaultValue (newarray.typeOf at0) = .int 0) (hx1 : ¬ x < 0) (hx2 : x.toNatClampNeg = mLen (mFx n)) (hn : n < 24) (hc : 24 ≤ jx_c w0) (hs : 24000 ≤ jx_s w0)
    (K : ∀ w', mI w0 b (n + 1) w' → jx_G E l Y_M_init d Q (pc + 2 + 3) L st w') : jx_G E l Y_M_init d Q pc L (.int x :: .ref b :: st) w := by
  have hq := h.cs (k := n) rfl
  have hml := mLen_le (mFx n)
  refine jx_newa (kd := mKd (mFx n)) (N := mLen (mFx n)) hd1 ha hty (by unfold mKd; split <;> omega) hdv hx1 hx2 (by omega) (by omega) (by omega) ?_
  refine jx_putF hd2 hF hl hT rfl ?_ ho rfl rfl ?_
  · rw [new_k, if_neg (by omega), h.kb hb]
    exact hk0
  exact K _ (h.new hb (fun i hi => by unfold mFx; (repeat' split) <;> omega) rfl rfl rfl (fun _ => rfl) (by omega))
theorem w_M_init {E : jx_E} {l : Launch} {d : Nat} {w : jx_W} {b : Nat} (hB : jx_B E) (hk : jx_k w b = 6) (ho : E.1.heap.size ≤ b) (hb : b < jx_n w) (hc : 24 ≤ jx_c w) (hs : 24000 ≤ jx_s w) : jx_G E l Y_M_init (d + 1) (fun r w2 => r = .inr none ∧ mI w b 24 w2) 0 (jx_ent [.ref b] 1) [] w := by
  show jx_G E l Y_M_init (d + 1) _ 0 [some (.ref b)] [] w
  refine jx_aload_n d_M_init_0 rfl rfl ?_
  refine jx_objInit d_M_init_1 (y_oi_M hB) (y_oi2 hB) (y_oi3 hB) (Nat.le_of_ble_eq_true rfl) ?_
  have h0 : mI w b 0 w := bI.zero rfl
  refine jx_aload_n d_M_init_4 rfl rfl ?_
  refine jI_const d_M_init_5 ?_
  refine mi_go 0 hk ho hb h0 d_M_init_6 d_M_init_8 (f_M_7 hB) (g_M_7 hB) (t_5_4 hB) (y_acI hB) rfl rfl (by decide) (by decide) (by decide) hc hs (fun w1 h1 => ?_)
  refine jx_aload_n d_M_init_11 rfl rfl ?_
  refine jI_const d_M_init_12 ?_
  refine mi_go 1 hk ho hb h1 d_M_init_13 d_M_init_15 (f_M_13 hB) (g_M_13 hB) (t_5_5 hB) (y_acI hB) rfl rfl (by decide) (by decide) (by decide) hc hs (fun w2 h2 => ?_)
  refine jx_aload_n d_M_init_18 rfl rfl ?_
  refine jI_const d_M_init_19 ?_
  refine mi_go 2 hk ho hb h2 d_M_init_20 d_M_init_22 (f_M_16 hB) (g_M_16 hB) (t_5_6 hB) (y_acI hB) rfl rfl (by decide) (by decide) (by decide) hc hs (fun w3 h3 => ?_)
  refine jx_aload_n d_M_init_25 rfl rfl ?_
  refine jI_const d_M_init_26 ?_
  refine mi_go 3 hk ho hb h3 d_M_init_27 d_M_init_29 (f_M_19 hB) (g_M_19 hB) (t_5_7 hB) (y_acI hB) rfl rfl (by decide) (by decide) (by decide) hc hs (fun w4 h4 => ?_)
  refine jx_aload_n d_M_init_32 rfl rfl ?_
  refine jI_const d_M_init_33 ?_
  refine mi_go 4 hk ho hb h4 d_M_init_34 d_M_init_36 (f_M_22 hB) (g_M_22 hB) (t_5_8 hB) (y_acI hB) rfl rfl (by decide) (by decide) (by decide) hc hs (fun w5 h5 => ?_)
  refine jx_aload_n d_M_init_39 rfl rfl ?_
  refine jI_const d_M_init_40 ?_
  refine mi_go 5 hk ho hb h5 d_M_init_41 d_M_init_43 (f_M_25 hB) (g_M_25 hB) (t_5_9 hB) (y_acI hB) rfl rfl (by decide) (by decide) (by decide) hc hs (fun w6 h6 => ?_)
  refine jx_aload_n d_M_init_46 rfl rfl ?_
  refine jI_const d_M_init_47 ?_
  refine mi_go 6 hk ho hb h6 d_M_init_48 d_M_init_50 (f_M_28 hB) (g_M_28 hB) (t_5_10 hB) (y_acZ hB) rfl rfl (by decide) (by decide) (by decide) hc hs (fun w7 h7 => ?_)
  refine jx_aload_n d_M_init_53 rfl rfl ?_
  refine jI_const d_M_init_54 ?_
  refine mi_go 7 hk ho hb h7 d_M_init_55 d_M_init_57 (f_M_32 hB) (g_M_32 hB) (t_5_11 hB) (y_acI hB) rfl rfl (by decide) (by decide) (by decide) hc hs (fun w8 h8 => ?_)
  refine jx_aload_n d_M_init_60 rfl rfl ?_
  refine jI_bipush d_M_init_61 rfl ?_
  refine mi_go 8 hk ho hb h8 d_M_init_63 d_M_init_65 (f_M_35 hB) (g_M_35 hB) (t_5_12 hB) (y_acI hB) rfl rfl (by decide) (by decide) (by decide) hc hs (fun w9 h9 => ?_)
  refine jx_aload_n d_M_init_68 rfl rfl ?_
  refine jI_bipush d_M_init_69 rfl ?_
  refine mi_go 9 hk ho hb h9 d_M_init_71 d_M_init_73 (f_M_38 hB) (g_M_38 hB) (t_5_13 hB) (y_acI hB) rfl rfl (by decide) (by decide) (by decide) hc hs (fun w10 h10 => ?_)
  refine jx_aload_n d_M_init_76 rfl rfl ?_
  refine jI_bipush d_M_init_77 rfl ?_
  refine mi_go 10 hk ho hb h10 d_M_init_79 d_M_init_81 (f_M_41 hB) (g_M_41 hB) (t_5_14 hB) (y_acI hB) rfl rfl (by decide) (by decide) (by decide) hc hs (fun w11 h11 => ?_)
  refine jx_aload_n d_M_init_84 rfl rfl ?_
  refine jI_bipush d_M_init_85 rfl ?_
  refine mi_go 11 hk ho hb h11 d_M_init_87 d_M_init_89 (f_M_44 hB) (g_M_44 hB) (t_5_15 hB) (y_acI hB) rfl rfl (by decide) (by decide) (by decide) hc hs (fun w12 h12 => ?_)
  refine jx_aload_n d_M_init_92 rfl rfl ?_
  refine jI_bipush d_M_init_93 rfl ?_
  refine mi_go 12 hk ho hb h12 d_M_init_95 d_M_init_97 (f_M_47 hB) (g_M_47 hB) (t_5_16 hB) (y_acI hB) rfl rfl (by decide) (by decide) (by decide) hc hs (fun w13 h13 => ?_)
  refine jx_aload_n d_M_init_100 rfl rfl ?_
  refine jI_bipush d_M_init_101 rfl ?_
  refine mi_go 13 hk ho hb h13 d_M_init_103 d_M_init_105 (f_M_50 hB) (g_M_50 hB) (t_5_17 hB) (y_acI hB) rfl rfl (by decide) (by decide) (by decide) hc hs (fun w14 h14 => ?_)
  refine jx_aload_n d_M_init_108 rfl rfl ?_
  refine jI_bipush d_M_init_109 rfl ?_
  refine mi_go 14 hk ho hb h14 d_M_init_111 d_M_init_113 (f_M_53 hB) (g_M_53 hB) (t_5_18 hB) (y_acI hB) rfl rfl (by decide) (by decide) (by decide) hc hs (fun w15 h15 => ?_)
  refine jx_aload_n d_M_init_116 rfl rfl ?_
  refine jI_bipush d_M_init_117 rfl ?_
  refine mi_go 15 hk ho hb h15 d_M_init_119 d_M_init_121 (f_M_56 hB) (g_M_56 hB) (t_5_19 hB) (y_acI hB) rfl rfl (by decide) (by decide) (by decide) hc hs (fun w16 h16 => ?_)
  refine jx_aload_n d_M_init_124 rfl rfl ?_
  refine jI_bipush d_M_init_125 rfl ?_
  refine mi_go 16 hk ho hb h16 d_M_init_127 d_M_init_129 (f_M_59 hB) (g_M_59 hB) (t_5_20 hB) (y_acI hB) rfl rfl (by decide) (by decide) (by decide) hc hs (fun w17 h17 => ?_)
  refine jx_aload_n d_M_init_132 rfl rfl ?_
  refine jI_const d_M_init_133 ?_
  refine mi_go 17 hk ho hb h17 d_M_init_134 d_M_init_136 (f_M_62 hB) (g_M_62 hB) (t_5_22 hB) (y_acI hB) rfl rfl (by decide) (by decide) (by decide) hc hs (fun w18 h18 => ?_)
  refine jx_aload_n d_M_init_139 rfl rfl ?_
  refine jI_sipush d_M_init_140 rfl ?_
  refine mi_go 18 hk ho hb h18 d_M_init_143 d_M_init_145 (f_M_65 hB) (g_M_65 hB) (t_5_24 hB) (y_acI hB) rfl rfl (by decide) (by decide) (by decide) hc hs (fun w19 h19 => ?_)
  refine jx_aload_n d_M_init_148 rfl rfl ?_
  refine jI_sipush d_M_init_149 rfl ?_
  refine mi_go 19 hk ho hb h19 d_M_init_152 d_M_init_154 (f_M_68 hB) (g_M_68 hB) (t_5_25 hB) (y_acI hB) rfl rfl (by decide) (by decide) (by decide) hc hs (fun w20 h20 => ?_)
  refine jx_aload_n d_M_init_157 rfl rfl ?_
  refine jI_const d_M_init_158 ?_
  refine mi_go 20 hk ho hb h20 d_M_init_159 d_M_init_161 (f_M_71 hB) (g_M_71 hB) (t_5_26 hB) (y_acI hB) rfl rfl (by decide) (by decide) (by decide) hc hs (fun w21 h21 => ?_)
  refine jx_aload_n d_M_init_164 rfl rfl ?_
  refine jI_const d_M_init_165 ?_
  refine mi_go 21 hk ho hb h21 d_M_init_166 d_M_init_168 (f_M_74 hB) (g_M_74 hB) (t_5_27 hB) (y_acI hB) rfl rfl (by decide) (by decide) (by decide) hc hs (fun w22 h22 => ?_)
  refine jx_aload_n d_M_init_171 rfl rfl ?_
  refine jI_const d_M_init_172 ?_
  refine mi_go 22 hk ho hb h22 d_M_init_173 d_M_init_175 (f_M_77 hB) (g_M_77 hB) (t_5_28 hB) (y_acI hB) rfl rfl (by decide) (by decide) (by decide) hc hs (fun w23 h23 => ?_)
  refine jx_aload_n d_M_init_178 rfl rfl ?_
  refine jI_const d_M_init_179 ?_
  refine mi_go 23 hk ho hb h23 d_M_init_180 d_M_init_182 (f_M_80 hB) (g_M_80 hB) (t_5_29 hB) (y_acI hB) rfl rfl (by decide) (by decide) (by decide) hc hs (fun w24 h24 => ?_)
  exact jx_vret d_M_init_185 rfl ⟨rfl, h24⟩
theorem mR_init {E : jx_E} {w0 w : jx_W} {b : Nat} (h : mI w0 b 24 w) (hk : jx_k w0 b = 6) (ho : E.1.heap.size ≤ b) (hb : b < jx_n w0) (hn : E.1.heap.size ≤ jx_n w0) (hv : ∀ f, mSc f → jx_v w0 b f = .int 0) : mR E (fun _ _ => 0) w b (fun f => jx_n w0 + mJx f) := by
  have hj : ∀ f, mArr f → mFx (mJx f) = f ∧ mJx f < 24 := by
    intro f hf
    unfold mFx mJx
    constructor <;> (repeat' split) <;> omega
  refine ⟨(h.kb hb).trans hk, ho, fun f hf => ?_, fun f hf => ?_, fun f g hf hg e => ?_⟩
  · rw [h.2.2.2.1 f (fun i hi e => by unfold mFx at e; revert e; (repeat' split) <;> omega)]
    exact hv f hf
  · obtain ⟨e1, e2⟩ := hj f hf
    have q1 := h.2.2.1 (mJx f) e2
    obtain ⟨q2, q3, q4⟩ := h.2.2.2.2.1 (mJx f) e2
    rw [e1] at q1
    simp only [e1] at q2 q3
    exact ⟨q1, q2, q3, Nat.le_trans hn (Nat.le_add_right _ _), fun i _ => q4 i⟩
  · have e : jx_n w0 + mJx f = jx_n w0 + mJx g := e
    have e1 := (hj f hf).1
    have e2 := (hj g hg).1
    rw [← e1, ← e2, show mJx f = mJx g by omega]
