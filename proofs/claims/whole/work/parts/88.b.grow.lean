/-! 88.b.grow: an ArrayList grows -/
set_option maxRecDepth 100000 in
theorem y_ac1 {E : jx_E} (hB : jx_B E) : (Jvm.Cond.methodLink "java/util/Arrays" 150 arraycopyName).before #[] E.1 = true := jx_w2 hB 199 rfl rfl
set_option maxRecDepth 100000 in
theorem y_ac2 {E : jx_E} (hB : jx_B E) : (Jvm.Cond.methodLink "java/util/ArrayList" 112 arraycopyName).before #[] E.1 = true := jx_w3 hB 201 rfl rfl
set_option maxRecDepth 100000 in
theorem y_ac3 {E : jx_E} (hB : jx_B E) : (Jvm.Cond.native arraycopyName).before #[] E.1 = true := jx_w2 hB 201 rfl rfl
set_option maxRecDepth 100000 in
theorem y_ac4 {E : jx_E} (hB : jx_B E) : (Jvm.Cond.static arraycopyName).before #[] E.1 = true := jx_w2 hB 200 rfl rfl
set_option maxRecDepth 100000 in
theorem y_ac5 {E : jx_E} (hB : jx_B E) : (Jvm.Cond.initialized "java/lang/System").before #[] E.1 = true := jx_w1 hB 17 rfl rfl
set_option maxRecDepth 100000 in
theorem y_gc1 {E : jx_E} (hB : jx_B E) : (Jvm.Cond.methodLink "java/util/Arrays" 86 ⟨"java/lang/Object", "getClass", "()Ljava/lang/Class;"⟩).before #[] E.1 = true := jx_w2 hB 177 rfl rfl
set_option maxRecDepth 100000 in
theorem y_gc2 {E : jx_E} (hB : jx_B E) : (Jvm.Cond.declares ⟨"java/lang/Object", "getClass", "()Ljava/lang/Class;"⟩).before #[] E.1 = true := jx_w5 hB 96 rfl rfl
set_option maxRecDepth 100000 in
theorem y_gc3 {E : jx_E} (hB : jx_B E) : (Jvm.Cond.selects "[Ljava/lang/Object;" ⟨"java/lang/Object", "getClass", "()Ljava/lang/Class;"⟩ ⟨"java/lang/Object", "getClass", "()Ljava/lang/Class;"⟩).before #[] E.1 = true := jx_w5 hB 95 rfl rfl
set_option maxRecDepth 100000 in
theorem y_gc4 {E : jx_E} (hB : jx_B E) : (Jvm.Cond.instanceMethod ⟨"java/lang/Object", "getClass", "()Ljava/lang/Class;"⟩).before #[] E.1 = true := jx_w2 hB 178 rfl rfl
set_option maxRecDepth 100000 in
theorem y_gc5 {E : jx_E} (hB : jx_B E) : (Jvm.Cond.native ⟨"java/lang/Object", "getClass", "()Ljava/lang/Class;"⟩).before #[] E.1 = true := jx_w2 hB 191 rfl rfl
set_option maxRecDepth 100000 in
theorem y_o1 {E : jx_E} (hB : jx_B E) : (Jvm.Cond.classLink "java/util/Arrays" 2 "java/lang/Object").before #[] E.1 = true := jx_w2 hB 197 rfl rfl
set_option maxRecDepth 100000 in
theorem y_o2 {E : jx_E} (hB : jx_B E) : (Jvm.Cond.classLink "java/util/ArrayList" 7 "java/lang/Object").before #[] E.1 = true := jx_w2 hB 203 rfl rfl
set_option maxRecDepth 100000 in
theorem y_s1 {E : jx_E} (hB : jx_B E) : (Jvm.Cond.fieldLink "java/util/ArrayList" 39 "java/util/ArrayList" "DEFAULTCAPACITY_EMPTY_ELEMENTDATA" "[Ljava/lang/Object;").before #[] E.1 = true := jx_w1 hB 44 rfl rfl
set_option maxRecDepth 100000 in
theorem y_c2 {E : jx_E} (hB : jx_B E) : (Jvm.Cond.castable jx_q2.1 "java/lang/Object").before #[] E.1 = true := jx_w5 hB 101 rfl rfl
set_option maxRecDepth 100000 in
theorem y_c3 {E : jx_E} (hB : jx_B E) : (Jvm.Cond.castable jx_q3.1 "java/lang/Object").before #[] E.1 = true := jx_w5 hB 102 rfl rfl
theorem w_newLength {E : jx_E} {l : Launch} {d : Nat} {w : jx_W} {a b c : Int} (hB : jx_B E) (ha : 0 ≤ a ∧ a ≤ 1000) (hb : 1 ≤ b ∧ b ≤ 1000) (hc : 0 ≤ c ∧ c ≤ 1000) : jx_G E l Y_JArraysSupport_newLength (d + 1) (jx_eq (.inr (some (.int (iI (a + sGr b c))))) w) 0 (jx_ent [.int (iI a), .int (iI b), .int (iI c)] 4) [] w := by
  show jx_G E l Y_JArraysSupport_newLength (d + 1) _ 0 [some (.int (iI a)), some (.int (iI b)), some (.int (iI c)), none] [] w
  refine jx_iload_n d_JArraysSupport_newLength_0 rfl rfl ?_
  refine jx_iload_n d_JArraysSupport_newLength_1 rfl rfl ?_
  refine jx_iload_n d_JArraysSupport_newLength_2 rfl rfl ?_
  refine jI_max d_JArraysSupport_newLength_3 (h_JArraysSupport_194 hB) (h_max1 hB) (h_math hB) (h_max2 hB) (Nat.le_of_ble_eq_true rfl) (by omega) (by omega) ?_
  have g1 : (b ≤ sGr b c ∧ c ≤ sGr b c) ∧ (sGr b c = b ∨ sGr b c = c) := by unfold sGr; split <;> omega
  refine jI_add d_JArraysSupport_newLength_6 ?_
  refine jx_istore_n d_JArraysSupport_newLength_7 rfl (Nat.le_of_ble_eq_true rfl) rfl ?_
  try dsimp only [List.set]
  refine jI_const d_JArraysSupport_newLength_8 ?_
  refine jx_iload_n d_JArraysSupport_newLength_9 rfl rfl ?_
  refine jI_icmp_ge (tgt := 21) d_JArraysSupport_newLength_10 (by decide) (by omega) (by omega) (fun hc2 => ?_) (fun hc2 => ?_)
  · exfalso; omega
  · refine jx_iload_n d_JArraysSupport_newLength_13 rfl rfl ?_
    refine jI_ldc d_JArraysSupport_newLength_14 (k_JArraysSupport_200 hB) (n := 2147483639) (by decide) ?_
    refine jI_icmp_gt (tgt := 21) d_JArraysSupport_newLength_16 (by decide) (by omega) (by omega) (fun hc3 => ?_) (fun hc3 => ?_)
    · exfalso; omega
    · refine jx_iload_n d_JArraysSupport_newLength_19 rfl rfl ?_
      exact jx_iret d_JArraysSupport_newLength_20 rfl ⟨rfl, rfl⟩
/-- a new array in the room of a full one: at jx_n w, c long -/
def jx_gr (w : jx_W) (a n c : Nat) : jx_W := (jx_n w + 1, jx_c w - 1, jx_s w - c, fun x => if x = jx_n w then 105 else jx_k w x, fun x => if x = jx_n w then c else jx_l w x, fun x i => if x = jx_n w then (if i < n then jx_v w a i else .null) else jx_v w x i)
theorem jx_W_ext {w w2 : jx_W} (h1 : jx_n w = jx_n w2) (h2 : jx_c w = jx_c w2) (h3 : jx_s w = jx_s w2) (h4 : jx_k w = jx_k w2) (h5 : jx_l w = jx_l w2) (h6 : jx_v w = jx_v w2) : w = w2 := by
  obtain ⟨a1, a2, a3, a4, a5, a6⟩ := w
  obtain ⟨b1, b2, b3, b4, b5, b6⟩ := w2
  cases h1
  cases h2
  cases h3
  cases h4
  cases h5
  cases h6
  rfl
theorem gr_cp {w : jx_W} {a n c : Nat} (ha : a ≠ jx_n w) : jx_cp (jx_new w 105 c c (fun _ => .null)) a (jx_n w) 0 0 n = jx_gr w a n c := by
  refine jx_W_ext rfl rfl rfl rfl rfl ?_
  funext x i
  show (if x = jx_n w ∧ 0 ≤ i ∧ i < 0 + n then (if a = jx_n w then (fun _ => Value.null) else jx_v w a) (0 + (i - 0)) else (if x = jx_n w then (fun _ => Value.null) else jx_v w x) i) = (if x = jx_n w then (if i < n then jx_v w a i else .null) else jx_v w x i)
  rw [if_neg ha]
  by_cases e : x = jx_n w
  · rw [if_pos e, if_pos e]
    by_cases h : i < n
    · rw [if_pos ⟨e, by omega, by omega⟩, if_pos h, show 0 + (i - 0) = i by omega]
    · rw [if_neg (fun z => h (by omega)), if_neg h]
  · rw [if_neg e, if_neg (fun z => e z.1), if_neg e]
theorem jI_len {n : Nat} (h : n ≤ 100000) : n.toInt32 = iI n := by
  rw [← iI_nat]
  rfl
theorem w_copyOf3 {E : jx_E} {l : Launch} {d : Nat} {w : jx_W} {a n mi : Nat} {c : Int} (hB : jx_B E) (hB2 : jx_B2 E mi) (hk : jx_k w a = 105) (hn : jx_l w a = n) (ha : a ≠ jx_n w) (hc : (n : Int) ≤ c ∧ c ≤ 1000) (hany : ∀ i, i < n → jx_any E w (jx_v w a i)) (hold : E.1.heap.size ≤ jx_n w) (h1 : 1 ≤ jx_c w) (h2 : c.toNat ≤ jx_s w) :
    jx_G E l Y_JArrays_copyOf3 (d + 1) (jx_eq (.inr (some (.ref (jx_n w)))) (jx_gr w a n c.toNat)) 0 (jx_ent [.ref a, .int (iI c), .ref mi] 4) [] w := by
  have hka : jx_k (jx_new w 105 c.toNat c.toNat (fun _ => .null)) a = 105 := by
    show (if a = jx_n w then 105 else jx_k w a) = 105
    rw [if_neg ha]; exact hk
  have hla : jx_l (jx_new w 105 c.toNat c.toNat (fun _ => .null)) a = n := by
    show (if a = jx_n w then _ else jx_l w a) = n
    rw [if_neg ha]; exact hn
  have hkn : jx_k (jx_new w 105 c.toNat c.toNat (fun _ => .null)) (jx_n w) = 105 := if_pos rfl
  have hln : jx_l (jx_new w 105 c.toNat c.toNat (fun _ => .null)) (jx_n w) = c.toNat := if_pos rfl
  show jx_G E l Y_JArrays_copyOf3 (d + 1) _ 0 [some (.ref a), some (.int (iI c)), some (.ref mi), none] [] w
  refine jx_aload_n d_JArrays_copyOf3_0 rfl rfl ?_
  refine jx_ldcM d_JArrays_copyOf3_1 (h_JArrays_110 hB) hB2.1 ?_
  refine jx_acmpne (tgt := 13) d_JArrays_copyOf3_3 (by decide) (fun z => absurd rfl z) (fun _ => ?_)
  refine jx_iload_n d_JArrays_copyOf3_6 rfl rfl ?_
  refine jx_anew (N := c.toNat) d_JArrays_copyOf3_7 (y_o1 hB) hB2.2 (fun z => by rw [iI_0, iI_lt (by omega) (by omega)] at z; omega) (iI_clamp (by omega)) (by omega) h1 h2 ?_
  refine jx_goto (tgt := 24) d_JArrays_copyOf3_10 (by decide) ?_
  refine jx_astore_n d_JArrays_copyOf3_24 rfl (Nat.le_of_ble_eq_true rfl) rfl ?_
  try dsimp only [List.set]
  refine jx_aload_n d_JArrays_copyOf3_25 rfl rfl ?_
  refine jI_const d_JArrays_copyOf3_26 ?_
  refine jx_aload_n d_JArrays_copyOf3_27 rfl rfl ?_
  refine jI_const d_JArrays_copyOf3_28 ?_
  refine jx_aload_n d_JArrays_copyOf3_29 rfl rfl ?_
  refine jx_ala (n := iI n) d_JArrays_copyOf3_30 hka (by decide) (by rw [hla]; exact jI_len (by omega)) ?_
  refine jx_iload_n d_JArrays_copyOf3_31 rfl rfl ?_
  refine jI_min d_JArrays_copyOf3_32 (h_JArrays_304 hB) (h_min1 hB) (h_math hB) (h_min2 hB) (Nat.le_of_ble_eq_true rfl) (by omega) (by omega) ?_
  rw [show (if c < (n : Int) then c else (n : Int)) = ((n : Nat) : Int) by rw [if_neg (by omega)]]
  rw [← iI_nat n, show iI 0 = nI 0 by rw [iI_nat]; rfl]
  refine jx_copy (sp := 0) (dp := 0) (n := n) d_JArrays_copyOf3_35 (y_ac1 hB) (y_ac3 hB) (y_ac4 hB) (y_ac5 hB) hB2.2 hka hkn hold (by rw [hla]; omega) (by rw [hln]; omega) (by rw [hla]; omega) (by rw [hln]; omega) (fun i hi => ?_) (Nat.le_of_ble_eq_true rfl) ?_
  · have hv : jx_v (jx_new w 105 c.toNat c.toNat (fun _ => .null)) a (0 + i) = jx_v w a i := by
      show (if a = jx_n w then (fun _ => Value.null) else jx_v w a) (0 + i) = _
      rw [if_neg ha, Nat.zero_add]
    rw [hv]
    rcases hany i hi with z | ⟨b, ci, q, z1, z0, z2, z3, z4, z5⟩
    · exact .inl z
    · refine .inr ⟨b, ci, q, z1, Nat.lt_succ_of_lt z0, z2, z3, ?_, z5⟩
      show (if b = jx_n w then 105 else jx_k w b) = ci + 1
      rw [if_neg (by omega)]
      exact z4
  · refine jx_aload_n d_JArrays_copyOf3_38 rfl rfl ?_
    rw [gr_cp ha]
    exact jx_aret d_JArrays_copyOf3_39 rfl (Or.inr ⟨_, rfl⟩) ⟨rfl, rfl⟩
