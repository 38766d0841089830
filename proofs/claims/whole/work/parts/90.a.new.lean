/-! 90.a.new: a new person, a new task; what add does, in words -/
set_option maxRecDepth 100000 in
theorem y_oi_P {E : jx_E} (hB : jx_B E) : (Jvm.Cond.methodLink "TaskShare$Person" 3 Lib.objectInit).before #[] E.1 = true := jx_w2 hB 88 rfl rfl
set_option maxRecDepth 100000 in
theorem y_oi_K {E : jx_E} (hB : jx_B E) : (Jvm.Cond.methodLink "TaskShare$Task" 3 Lib.objectInit).before #[] E.1 = true := jx_w3 hB 33 rfl rfl
set_option maxRecDepth 100000 in
theorem y_oi_T {E : jx_E} (hB : jx_B E) : (Jvm.Cond.methodLink "TaskShare" 1 Lib.objectInit).before #[] E.1 = true := jx_w1 hB 29 rfl rfl
set_option maxRecDepth 100000 in
theorem y_oi_X {E : jx_E} (hB : jx_B E) : (Jvm.Cond.methodLink "TaskShare$ExactPlanner" 3 Lib.objectInit).before #[] E.1 = true := jx_w1 hB 74 rfl rfl
set_option maxRecDepth 100000 in
theorem y_oi_Y {E : jx_E} (hB : jx_B E) : (Jvm.Cond.methodLink "TaskShare$Ways" 3 Lib.objectInit).before #[] E.1 = true := jx_w1 hB 63 rfl rfl
set_option maxRecDepth 100000 in
theorem y_oi_M {E : jx_E} (hB : jx_B E) : (Jvm.Cond.methodLink "TaskShareModel" 1 Lib.objectInit).before #[] E.1 = true := jx_w4 hB 51 rfl rfl
set_option maxRecDepth 100000 in
theorem y_oi_C {E : jx_E} (hB : jx_B E) : (Jvm.Cond.methodLink "java/util/AbstractCollection" 1 Lib.objectInit).before #[] E.1 = true := jx_w1 hB 43 rfl rfl
set_option maxRecDepth 100000 in
theorem y_oi2 {E : jx_E} (hB : jx_B E) : (Jvm.Cond.instanceMethod Lib.objectInit).before #[] E.1 = true := jx_w1 hB 30 rfl rfl
set_option maxRecDepth 100000 in
theorem y_oi3 {E : jx_E} (hB : jx_B E) : (Jvm.Cond.code Lib.objectInit ⟨#[0xb1]⟩ 1 none).before #[] E.1 = true := jx_w1 hB 31 rfl rfl
theorem w_P_init {E : jx_E} {l : Launch} {d : Nat} {w : jx_W} {b : Nat} {n x1 x2 x3 x4 : Int} (hB : jx_B E) (hk : jx_k w b = 3) (ho : E.1.heap.size ≤ b) : jx_G E l Y_P_init (d + 1) (jx_eq (.inr none) (jx_put (jx_put (jx_put (jx_put (jx_put (jx_put (jx_put w b 7 (.int (iI (1)))) b 8 (.int (iI ((-1))))) b 0 (.int (iI (n)))) b 3 (.int (iI (x1)))) b 1 (.int (iI (x2)))) b 2 (.int (iI (x3)))) b 4 (.int (iI (x4))))) 0 (jx_ent [.ref b, .int (iI n), .int (iI x1), .int (iI x2), .int (iI x3), .int (iI x4)] 6) [] w := by
  show jx_G E l Y_P_init (d + 1) _ 0 [some (.ref b), some (.int (iI n)), some (.int (iI x1)), some (.int (iI x2)), some (.int (iI x3)), some (.int (iI x4))] [] w
  refine jx_aload_n d_P_init_0 rfl rfl ?_
  refine jx_objInit d_P_init_1 (y_oi_P hB) (y_oi2 hB) (y_oi3 hB) (Nat.le_of_ble_eq_true rfl) ?_
  refine jx_aload_n d_P_init_4 rfl rfl ?_
  refine jI_const d_P_init_5 ?_
  refine jx_putf d_P_init_6 (f_P_9 hB) (t_2_7 hB) hk ho (by decide) rfl ?_
  refine jx_aload_n d_P_init_9 rfl rfl ?_
  refine jI_const d_P_init_10 ?_
  refine jx_putf d_P_init_11 (f_P_15 hB) (t_2_8 hB) hk ho rfl rfl ?_
  refine jx_aload_n d_P_init_14 rfl rfl ?_
  refine jx_iload_n d_P_init_15 rfl rfl ?_
  refine jx_putF d_P_init_16 (f_P_19 hB) (g_P_19 hB) (t_2_0 hB) rfl hk ho rfl rfl ?_
  refine jx_aload_n d_P_init_19 rfl rfl ?_
  refine jx_iload_n d_P_init_20 rfl rfl ?_
  refine jx_putf d_P_init_21 (f_P_22 hB) (t_2_3 hB) hk ho rfl rfl ?_
  refine jx_aload_n d_P_init_24 rfl rfl ?_
  refine jx_iload_n d_P_init_25 rfl rfl ?_
  refine jx_putF d_P_init_26 (f_P_25 hB) (g_P_25 hB) (t_2_1 hB) rfl hk ho rfl rfl ?_
  refine jx_aload_n d_P_init_29 rfl rfl ?_
  refine jx_iload d_P_init_30 rfl ?_
  refine jx_putF d_P_init_32 (f_P_28 hB) (g_P_28 hB) (t_2_2 hB) rfl hk ho rfl rfl ?_
  refine jx_aload_n d_P_init_35 rfl rfl ?_
  refine jx_iload d_P_init_36 rfl ?_
  refine jx_putf d_P_init_38 (f_P_31 hB) (t_2_4 hB) hk ho rfl rfl ?_
  exact jx_vret d_P_init_41 rfl ⟨rfl, rfl⟩
theorem w_K_init {E : jx_E} {l : Launch} {d : Nat} {w : jx_W} {b : Nat} {n x1 x2 x3 x4 : Int} (hB : jx_B E) (hk : jx_k w b = 4) (ho : E.1.heap.size ≤ b) : jx_G E l Y_K_init (d + 1) (jx_eq (.inr none) (jx_put (jx_put (jx_put (jx_put (jx_put (jx_put (jx_put (jx_put w b 5 (.int (iI (0)))) b 6 (.int (iI ((-1))))) b 7 (.int (iI ((-1))))) b 0 (.int (iI (n)))) b 1 (.int (iI (x1)))) b 2 (.int (iI (x2)))) b 3 (.int (iI (x3)))) b 4 (.int (iI (x4))))) 0 (jx_ent [.ref b, .int (iI n), .int (iI x1), .int (iI x2), .int (iI x3), .int (iI x4)] 6) [] w := by
  show jx_G E l Y_K_init (d + 1) _ 0 [some (.ref b), some (.int (iI n)), some (.int (iI x1)), some (.int (iI x2)), some (.int (iI x3)), some (.int (iI x4))] [] w
  refine jx_aload_n d_K_init_0 rfl rfl ?_
  refine jx_objInit d_K_init_1 (y_oi_K hB) (y_oi2 hB) (y_oi3 hB) (Nat.le_of_ble_eq_true rfl) ?_
  refine jx_aload_n d_K_init_4 rfl rfl ?_
  refine jI_const d_K_init_5 ?_
  refine jx_putf d_K_init_6 (f_K_9 hB) (t_3_5 hB) hk ho rfl rfl ?_
  refine jx_aload_n d_K_init_9 rfl rfl ?_
  refine jI_const d_K_init_10 ?_
  refine jx_putf d_K_init_11 (f_K_15 hB) (t_3_6 hB) hk ho rfl rfl ?_
  refine jx_aload_n d_K_init_14 rfl rfl ?_
  refine jI_const d_K_init_15 ?_
  refine jx_putf d_K_init_16 (f_K_18 hB) (t_3_7 hB) hk ho rfl rfl ?_
  refine jx_aload_n d_K_init_19 rfl rfl ?_
  refine jx_iload_n d_K_init_20 rfl rfl ?_
  refine jx_putF d_K_init_21 (f_K_21 hB) (g_K_21 hB) (t_3_0 hB) rfl hk ho rfl rfl ?_
  refine jx_aload_n d_K_init_24 rfl rfl ?_
  refine jx_iload_n d_K_init_25 rfl rfl ?_
  refine jx_putF d_K_init_26 (f_K_24 hB) (g_K_24 hB) (t_3_1 hB) rfl hk ho rfl rfl ?_
  refine jx_aload_n d_K_init_29 rfl rfl ?_
  refine jx_iload_n d_K_init_30 rfl rfl ?_
  refine jx_putF d_K_init_31 (f_K_27 hB) (g_K_27 hB) (t_3_2 hB) rfl hk ho rfl rfl ?_
  refine jx_aload_n d_K_init_34 rfl rfl ?_
  refine jx_iload d_K_init_35 rfl ?_
  refine jx_putF d_K_init_37 (f_K_30 hB) (g_K_30 hB) (t_3_3 hB) rfl hk ho rfl rfl ?_
  refine jx_aload_n d_K_init_40 rfl rfl ?_
  refine jx_iload d_K_init_41 rfl ?_
  refine jx_putF d_K_init_43 (f_K_33 hB) (g_K_33 hB) (t_3_4 hB) rfl hk ho rfl rfl ?_
  exact jx_vret d_K_init_46 rfl ⟨rfl, rfl⟩
/-- what add does: the array A holds the elements and e -/
theorem ad_spec {w : jx_W} {b a e : Nat} {n : Int} (hab : a ≠ b) (hbn : b < jx_n w) (han : a < jx_n w) (hn : 0 ≤ n ∧ n ≤ 60) (hl : n ≤ (jx_l w a : Int) ∧ jx_l w a ≤ 1000) (hka : jx_k w a = 105) (h0 : jx_v w b 0 = .ref a) (h1 : 1 ≤ jx_c w) (h2 : 100 ≤ jx_s w) :
    ∃ A, (jx_n w ≤ jx_n (jx_ad w b a n e)) ∧ (∀ x, x < jx_n w → jx_k (jx_ad w b a n e) x = jx_k w x ∧ jx_l (jx_ad w b a n e) x = jx_l w x) ∧ (∀ x, x ≠ b → x ≠ A → jx_v (jx_ad w b a n e) x = jx_v w x) ∧ jx_v (jx_ad w b a n e) b 0 = .ref A ∧ jx_v (jx_ad w b a n e) b 1 = .int (iI (n + 1)) ∧ jx_v (jx_ad w b a n e) b 2 = jx_v w b 2 ∧ jx_k (jx_ad w b a n e) A = 105 ∧ (n + 1 ≤ (jx_l (jx_ad w b a n e) A : Int)) ∧ jx_l (jx_ad w b a n e) A ≤ 1000 ∧ (∀ i : Nat, (i : Int) < n → jx_v (jx_ad w b a n e) A i = jx_v w a i) ∧ jx_v (jx_ad w b a n e) A n.toNat = .ref e ∧ A ≠ b ∧ (jx_c w ≤ jx_c (jx_ad w b a n e) + 1 ∧ jx_s w ≤ jx_s (jx_ad w b a n e) + 100) ∧ (A < jx_n (jx_ad w b a n e)) ∧ (A = jx_n w ∨ A = a ∧ (jx_l w a : Int) ≠ n) := by
  have hg := gC_rg hn
  by_cases hf : (jx_l w a : Int) = n
  · have ew : jx_ad w b a n e = jx_put (jx_put (jx_put (jx_gr w a n.toNat (gC n).toNat) b 0 (.ref (jx_n w))) (jx_n w) n.toNat (.ref e)) b 1 (.int (iI (n + 1))) := if_pos hf
    rw [ew]
    have hb1 : b ≠ jx_n w := by omega
    have ev : ∀ x y, jx_v (jx_put (jx_put (jx_put (jx_gr w a n.toNat (gC n).toNat) b 0 (.ref (jx_n w))) (jx_n w) n.toNat (.ref e)) b 1 (.int (iI (n + 1)))) x y = if x = b ∧ y = 1 then .int (iI (n + 1)) else if x = jx_n w ∧ y = n.toNat then .ref e else if x = b ∧ y = 0 then .ref (jx_n w) else if x = jx_n w then (if y < n.toNat then jx_v w a y else .null) else jx_v w x y := fun x y => rfl
    have el : jx_l (jx_put (jx_put (jx_put (jx_gr w a n.toNat (gC n).toNat) b 0 (.ref (jx_n w))) (jx_n w) n.toNat (.ref e)) b 1 (.int (iI (n + 1)))) (jx_n w) = (gC n).toNat := if_pos rfl
    refine ⟨jx_n w, Nat.le_succ _, fun x hx => ⟨if_neg (show ¬ x = jx_n w by omega), if_neg (show ¬ x = jx_n w by omega)⟩, fun x hx1 hx2 => ?_, ?_, ?_, ?_, if_pos rfl, by rw [el]; omega, by rw [el]; omega, fun i hi => ?_, ?_, by omega, ⟨?_, ?_⟩, Nat.lt_succ_self _, .inl rfl⟩
    · funext y
      rw [ev, if_neg (fun z => hx1 z.1), if_neg (fun z => hx2 z.1), if_neg (fun z => hx1 z.1), if_neg hx2]
    · rw [ev, if_neg (by omega), if_neg (fun z => hb1 z.1), if_pos ⟨rfl, rfl⟩]
    · rw [ev, if_pos ⟨rfl, rfl⟩]
    · rw [ev, if_neg (by omega), if_neg (fun z => hb1 z.1), if_neg (by omega), if_neg hb1]
    · rw [ev, if_neg (fun z => hb1 z.1.symm), if_neg (by omega), if_neg (fun z => hb1 z.1.symm), if_pos rfl, if_pos (by omega)]
    · rw [ev, if_neg (fun z => hb1 z.1.symm), if_pos ⟨rfl, rfl⟩]
    · show jx_c w ≤ jx_c w - 1 + 1
      omega
    · show jx_s w ≤ jx_s w - (gC n).toNat + 100
      omega
  · have ew : jx_ad w b a n e = jx_put (jx_put w a n.toNat (.ref e)) b 1 (.int (iI (n + 1))) := if_neg hf
    rw [ew]
    have ev : ∀ x y, jx_v (jx_put (jx_put w a n.toNat (.ref e)) b 1 (.int (iI (n + 1)))) x y = if x = b ∧ y = 1 then .int (iI (n + 1)) else if x = a ∧ y = n.toNat then .ref e else jx_v w x y := fun x y => rfl
    refine ⟨a, Nat.le_refl _, fun x hx => ⟨rfl, rfl⟩, fun x hx1 hx2 => ?_, ?_, ?_, ?_, hka, ?_, hl.2, fun i hi => ?_, ?_, hab, ⟨Nat.le_succ _, Nat.le_add_right _ _⟩, han, .inr ⟨rfl, hf⟩⟩
    · funext y
      rw [ev, if_neg (fun z => hx1 z.1), if_neg (fun z => hx2 z.1)]
    · rw [ev, if_neg (by omega), if_neg (fun z => hab z.1.symm)]
      exact h0
    · rw [ev, if_pos ⟨rfl, rfl⟩]
    · rw [ev, if_neg (by omega), if_neg (fun z => hab z.1.symm)]
    · show n + 1 ≤ (jx_l w a : Int)
      omega
    · rw [ev, if_neg (fun z => hab z.1), if_neg (by omega)]
    · rw [ev, if_neg (fun z => hab z.1), if_pos ⟨rfl, rfl⟩]
