/-! 77.c.bitcount: Integer.bitCount -/
theorem jx_ldcw {E : jx_E} {l : Launch} {Y : jx_Y} {d : Nat} {Q : jx_R → jx_W → Prop} {pc : Nat} {L : List (Option Value)} {st : List Value} {w : jx_W} {idx : Nat} {v : Int32} (hd : decode Y.2.2.1 pc = .ok (.ldc_w idx, 3)) (hk : (Jvm.Cond.constant Y.1 idx v).before #[] E.1 = true) (k : jx_G E l Y d Q (pc + 3) L (.int v :: st) w) : jx_G E l Y d Q pc L st w := by
  intro p e R s m args below meth c H locs cells slots ls C hH hL hq hc hs
  exact lv_ldcw C.ex C.code C.own (jx_mv C.warm rfl hk) hd (k p e R s m args below meth c H locs cells slots ls C hH hL hq hc hs)
def ush (x y : Int32) : Int32 := (x.toUInt32 >>> (y.toUInt32 &&& Int32.toUInt32 31)).toInt32
def bt1 (x : Int32) : Int32 := x - (ush x 1 &&& 1431655765)
def bt2 (x : Int32) : Int32 := (x &&& 858993459) + (ush x 2 &&& 858993459)
def bt3 (x : Int32) : Int32 := (x + ush x 4) &&& 252645135
def bt4 (x : Int32) : Int32 := x + ush x 8
def bt5 (x : Int32) : Int32 := x + ush x 16
def bitC (x : Int32) : Int32 := bt5 (bt4 (bt3 (bt2 (bt1 x)))) &&& 63
theorem w_JInteger_bitCount {E : jx_E} {l : Launch} {d : Nat} {w : jx_W} {x : Int32} (hB : jx_B E) : jx_G E l Y_JInteger_bitCount d (jx_eq (.inr (some (.int (bitC x)))) w) 0 (jx_ent [.int x] 1) [] w := by
  show jx_G E l Y_JInteger_bitCount d _ 0 [some (.int x)] [] w
  refine jx_iload_n d_JInteger_bitCount_0 rfl rfl ?_
  refine jx_iload_n d_JInteger_bitCount_1 rfl rfl ?_
  refine jx_iconst d_JInteger_bitCount_2 (v := 1) (by decide) ?_
  refine jx_iushr d_JInteger_bitCount_3 (v := ush x 1) rfl ?_
  refine jx_ldcw d_JInteger_bitCount_4 (k_JInteger_265 hB) ?_
  refine jx_iand d_JInteger_bitCount_7 ?_
  refine jx_isub d_JInteger_bitCount_8 ?_
  refine jx_istore_n d_JInteger_bitCount_9 rfl (Nat.le_of_ble_eq_true rfl) rfl ?_
  show jx_G E l Y_JInteger_bitCount d _ 10 [some (.int (bt1 x))] [] w
  generalize hy : bt1 x = y
  refine jx_iload_n d_JInteger_bitCount_10 rfl rfl ?_
  refine jx_ldcw d_JInteger_bitCount_11 (k_JInteger_266 hB) ?_
  refine jx_iand d_JInteger_bitCount_14 ?_
  refine jx_iload_n d_JInteger_bitCount_15 rfl rfl ?_
  refine jx_iconst d_JInteger_bitCount_16 (v := 2) (by decide) ?_
  refine jx_iushr d_JInteger_bitCount_17 (v := ush y 2) rfl ?_
  refine jx_ldcw d_JInteger_bitCount_18 (k_JInteger_266 hB) ?_
  refine jx_iand d_JInteger_bitCount_21 ?_
  refine jx_iadd d_JInteger_bitCount_22 ?_
  refine jx_istore_n d_JInteger_bitCount_23 rfl (Nat.le_of_ble_eq_true rfl) rfl ?_
  show jx_G E l Y_JInteger_bitCount d _ 24 [some (.int (bt2 y))] [] w
  generalize hz : bt2 y = z
  refine jx_iload_n d_JInteger_bitCount_24 rfl rfl ?_
  refine jx_iload_n d_JInteger_bitCount_25 rfl rfl ?_
  refine jx_iconst d_JInteger_bitCount_26 (v := 4) (by decide) ?_
  refine jx_iushr d_JInteger_bitCount_27 (v := ush z 4) rfl ?_
  refine jx_iadd d_JInteger_bitCount_28 ?_
  refine jx_ldcw d_JInteger_bitCount_29 (k_JInteger_267 hB) ?_
  refine jx_iand d_JInteger_bitCount_32 ?_
  refine jx_istore_n d_JInteger_bitCount_33 rfl (Nat.le_of_ble_eq_true rfl) rfl ?_
  show jx_G E l Y_JInteger_bitCount d _ 34 [some (.int (bt3 z))] [] w
  generalize hu : bt3 z = u
  refine jx_iload_n d_JInteger_bitCount_34 rfl rfl ?_
  refine jx_iload_n d_JInteger_bitCount_35 rfl rfl ?_
  refine jx_bipush d_JInteger_bitCount_36 (v := 8) (by decide) ?_
  refine jx_iushr d_JInteger_bitCount_38 (v := ush u 8) rfl ?_
  refine jx_iadd d_JInteger_bitCount_39 ?_
  refine jx_istore_n d_JInteger_bitCount_40 rfl (Nat.le_of_ble_eq_true rfl) rfl ?_
  show jx_G E l Y_JInteger_bitCount d _ 41 [some (.int (bt4 u))] [] w
  generalize hv : bt4 u = v
  refine jx_iload_n d_JInteger_bitCount_41 rfl rfl ?_
  refine jx_iload_n d_JInteger_bitCount_42 rfl rfl ?_
  refine jx_bipush d_JInteger_bitCount_43 (v := 16) (by decide) ?_
  refine jx_iushr d_JInteger_bitCount_45 (v := ush v 16) rfl ?_
  refine jx_iadd d_JInteger_bitCount_46 ?_
  refine jx_istore_n d_JInteger_bitCount_47 rfl (Nat.le_of_ble_eq_true rfl) rfl ?_
  show jx_G E l Y_JInteger_bitCount d _ 48 [some (.int (bt5 v))] [] w
  refine jx_iload_n d_JInteger_bitCount_48 rfl rfl ?_
  refine jx_bipush d_JInteger_bitCount_49 (v := 63) (by decide) ?_
  refine jx_iand d_JInteger_bitCount_51 ?_
  refine jx_iret d_JInteger_bitCount_52 rfl ⟨?_, rfl⟩
  rw [← hv, ← hu, ← hz, ← hy]
  rfl
theorem bitC_8 : ∀ n : Nat, n < 256 → bitC (nI n) = iI (sBits (n : Int)) := by decide +kernel
theorem bitC_5 : ∀ n : Nat, n < 32 → bitC (nI n) = iI (bc (n : Int)) := by decide +kernel
theorem bitC_s {x : Int} (h : 0 ≤ x ∧ x < 256) : bitC (iI x) = iI (sBits x) := by
  have := bitC_8 x.toNat (by omega)
  rw [iI_nat, Int.toNat_of_nonneg h.1] at this
  exact this
theorem bitC_b {x : Int} (h : 0 ≤ x ∧ x < 32) : bitC (iI x) = iI (bc x) := by
  have := bitC_5 x.toNat (by omega)
  rw [iI_nat, Int.toNat_of_nonneg h.1] at this
  exact this
theorem w_bitCount8 {E : jx_E} {l : Launch} {d : Nat} {w : jx_W} {x : Int} (hB : jx_B E) (h : 0 ≤ x ∧ x < 256) : jx_G E l Y_JInteger_bitCount d (jx_eq (.inr (some (.int (iI (sBits x))))) w) 0 (jx_ent [.int (iI x)] 1) [] w := by
  rw [← bitC_s h]
  exact w_JInteger_bitCount hB
theorem w_bitCount5 {E : jx_E} {l : Launch} {d : Nat} {w : jx_W} {x : Int} (hB : jx_B E) (h : 0 ≤ x ∧ x < 32) : jx_G E l Y_JInteger_bitCount d (jx_eq (.inr (some (.int (iI (bc x))))) w) 0 (jx_ent [.int (iI x)] 1) [] w := by
  rw [← bitC_b h]
  exact w_JInteger_bitCount hB
