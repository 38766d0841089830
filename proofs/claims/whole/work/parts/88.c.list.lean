/-! 88.c.list: ArrayList: growing, adding at the end -/
theorem w_copyOf {E : jx_E} {l : Launch} {d : Nat} {w : jx_W} {a n mi : Nat} {c : Int} (hB : jx_B E) (hB2 : jx_B2 E mi) (hk : jx_k w a = 105) (hn : jx_l w a = n) (ha : a ≠ jx_n w) (hc : (n : Int) ≤ c ∧ c ≤ 1000) (hany : ∀ i, i < n → jx_any E w (jx_v w a i)) (hold : E.1.heap.size ≤ jx_n w) (h1 : 1 ≤ jx_c w) (h2 : c.toNat ≤ jx_s w) :
    jx_G E l Y_JArrays_copyOf (d + 2) (jx_eq (.inr (some (.ref (jx_n w)))) (jx_gr w a n c.toNat)) 0 (jx_ent [.ref a, .int (iI c)] 2) [] w := by
  show jx_G E l Y_JArrays_copyOf (d + 2) _ 0 [some (.ref a), some (.int (iI c))] [] w
  refine jx_aload_n d_JArrays_copyOf_0 rfl rfl ?_
  refine jx_iload_n d_JArrays_copyOf_1 rfl rfl ?_
  refine jx_aload_n d_JArrays_copyOf_2 rfl rfl ?_
  refine jx_getC d_JArrays_copyOf_3 (y_gc1 hB) (y_gc2 hB) (y_gc3 hB) (y_gc4 hB) (y_gc5 hB) hB2.1 hk (Nat.le_of_ble_eq_true rfl) ?_
  refine jx_callS_r (As := [.ref a, .int (iI c), .ref mi]) (rest := []) d_JArrays_copyOf_6 (m_JArrays_copyOf3 hB) (s_JArrays_300 hB) rfl (Nat.le_of_ble_eq_true rfl) (Nat.le_of_ble_eq_true rfl) (w_copyOf3 hB hB2 hk hn ha hc hany hold h1 h2) ?_
  exact jx_aret d_JArrays_copyOf_9 rfl (Or.inr ⟨_, rfl⟩) ⟨rfl, rfl⟩
/-- how long the new array is -/
def gC (n : Int) : Int := if n = 0 then 10 else n + sGr 1 (n / 2)
theorem gC_rg {n : Int} (h : 0 ≤ n ∧ n ≤ 60) : n < gC n ∧ gC n ≤ 100 := by
  unfold gC sGr
  split
  · omega
  · split <;> omega
theorem jgr_0 {w : jx_W} {a : Nat} : jx_new w 105 10 10 (fun _ => .null) = jx_gr w a 0 10 := by
  refine jx_W_ext rfl rfl rfl rfl rfl ?_
  funext x i
  show (if x = jx_n w then (fun _ => Value.null) else jx_v w x) i = (if x = jx_n w then (if i < 0 then jx_v w a i else .null) else jx_v w x i)
  by_cases e : x = jx_n w
  · rw [if_pos e, if_pos e, if_neg (by omega)]
  · rw [if_neg e, if_neg e]
/-- at b lies a list of n elements, its data at a -/
abbrev lsA (E : jx_E) (w : jx_W) (b a : Nat) (n : Int) : Prop := jx_k w b = 7 ∧ E.1.heap.size ≤ b ∧ b < jx_n w ∧ jx_v w b 0 = .ref a ∧ jx_v w b 1 = .int (iI n) ∧ (∃ mc, jx_v w b 2 = .int mc) ∧ jx_k w a = 105 ∧ a < jx_n w ∧ (0 ≤ n ∧ n ≤ 60) ∧ n ≤ (jx_l w a : Int) ∧ jx_l w a ≤ 1000 ∧ E.1.heap.size ≤ jx_n w ∧ ∀ i : Nat, (i : Int) < n → jx_any E w (jx_v w a i)
theorem w_A_growBy {E : jx_E} {l : Launch} {d : Nat} {w : jx_W} {a b mi : Nat} {n : Int} (hB : jx_B E) (hB2 : jx_B2 E mi) (h : lsA E w b a n) (hf : (jx_l w a : Int) = n) (hz : n = 0 → jZ E a) (h1 : 1 ≤ jx_c w) (h2 : 100 ≤ jx_s w) :
    jx_G E l Y_A_growBy (d + 3) (jx_eq (.inr (some (.ref (jx_n w)))) (jx_put (jx_gr w a n.toNat (gC n).toNat) b 0 (.ref (jx_n w)))) 0 (jx_ent [.ref b, .int (iI (n + 1))] 4) [] w := by
  obtain ⟨k1, k2, k3, k4, k5, k6, k7, k8, k9, k10, k11, k12, k13⟩ := h
  have hg := gC_rg k9
  have hkb : jx_k (jx_gr w a n.toNat (gC n).toNat) b = 7 := by
    show (if b = jx_n w then 105 else jx_k w b) = 7
    rw [if_neg (by omega)]; exact k1
  show jx_G E l Y_A_growBy (d + 3) _ 0 [some (.ref b), some (.int (iI (n + 1))), none, none] [] w
  refine jx_aload_n d_A_growBy_0 rfl rfl ?_
  refine jx_getv d_A_growBy_1 (f_A_9 hB) k1 k4 ?_
  refine jx_ala (n := iI n) d_A_growBy_4 k7 (by decide) (by rw [jI_len (by omega), hf]) ?_
  refine jx_istore_n d_A_growBy_5 rfl (Nat.le_of_ble_eq_true rfl) rfl ?_
  try dsimp only [List.set]
  refine jx_iload_n d_A_growBy_6 rfl rfl ?_
  refine jI_if_gt (tgt := 20) d_A_growBy_7 (by decide) (by omega) (fun hc => ?_) (fun hc => ?_)
  · have eg : gC n = n + sGr 1 (n / 2) := by unfold gC; rw [if_neg (by omega)]
    have hs2 : 1 ≤ sGr 1 (n / 2) ∧ sGr 1 (n / 2) ≤ 30 := by unfold sGr; split <;> omega
    refine jx_iload_n d_A_growBy_20 rfl rfl ?_
    refine jx_iload_n d_A_growBy_21 rfl rfl ?_
    refine jx_iload_n d_A_growBy_22 rfl rfl ?_
    refine jI_sub d_A_growBy_23 ?_
    refine jx_iload_n d_A_growBy_24 rfl rfl ?_
    refine jI_const d_A_growBy_25 ?_
    refine jx_ishr d_A_growBy_26 ?_
    rw [iI_shr (by omega) (by omega), show n / 2 ^ (1 : Int).toNat = n / 2 from rfl, show n + 1 - n = 1 by omega]
    refine jx_callS_r (As := [.int (iI n), .int (iI 1), .int (iI (n / 2))]) (rest := []) d_A_growBy_27 (m_JArraysSupport_newLength hB) (s_A_73 hB) rfl (Nat.le_of_ble_eq_true rfl) (Nat.le_of_ble_eq_true rfl) (w_newLength hB (by omega) (by omega) (by omega)) ?_
    refine jx_istore_n d_A_growBy_30 rfl (Nat.le_of_ble_eq_true rfl) rfl ?_
    try dsimp only [List.set]
    refine jx_aload_n d_A_growBy_31 rfl rfl ?_
    refine jx_aload_n d_A_growBy_32 rfl rfl ?_
    refine jx_getv d_A_growBy_33 (f_A_9 hB) k1 k4 ?_
    refine jx_iload_n d_A_growBy_36 rfl rfl ?_
    rw [← eg]
    refine jx_callS_r (As := [.ref a, .int (iI (gC n))]) (rest := [.ref b]) d_A_growBy_37 (m_JArrays_copyOf hB) (s_A_66 hB) rfl (Nat.le_of_ble_eq_true rfl) (Nat.le_of_ble_eq_true rfl) (w_copyOf hB hB2 k7 (n := n.toNat) (by omega) (by omega) (by omega) (fun i hi => k13 i (by omega)) k12 h1 (by omega)) ?_
    refine jx_dup_x1 d_A_growBy_40 rfl rfl ?_
    refine jx_putf d_A_growBy_41 (f_A_9 hB) (t_6_0 hB) hkb k2 rfl rfl ?_
    exact jx_aret d_A_growBy_44 rfl (Or.inr ⟨_, rfl⟩) ⟨rfl, rfl⟩
  · have en : n = 0 := by omega
    have eg : gC n = 10 := by unfold gC; rw [if_pos en]
    refine jx_aload_n d_A_growBy_10 rfl rfl ?_
    refine jx_getv d_A_growBy_11 (f_A_9 hB) k1 k4 ?_
    refine jx_gets d_A_growBy_14 (y_s1 hB) (hz en) ?_
    refine jx_acmpeq (tgt := 45) d_A_growBy_17 (by decide) (fun _ => ?_) (fun z => absurd rfl z)
    refine jx_aload_n d_A_growBy_45 rfl rfl ?_
    refine jI_bipush d_A_growBy_46 (by decide) ?_
    refine jx_iload_n d_A_growBy_48 rfl rfl ?_
    refine jI_max d_A_growBy_49 (h_A_79 hB) (h_max1 hB) (h_math hB) (h_max2 hB) (Nat.le_of_ble_eq_true rfl) (by omega) (by omega) ?_
    rw [show sGr 10 (n + 1) = 10 by unfold sGr; rw [if_pos (by omega)]]
    refine jx_anew (N := 10) d_A_growBy_52 (y_o2 hB) hB2.2 (by decide) (by decide) (by decide) h1 (by omega) ?_
    rw [jgr_0 (a := a)]
    have e1 : n.toNat = 0 := by omega
    have e2 : (gC n).toNat = 10 := by rw [eg]; rfl
    rw [e1, e2] at hkb ⊢
    refine jx_dup_x1 d_A_growBy_55 rfl rfl ?_
    refine jx_putf d_A_growBy_56 (f_A_9 hB) (t_6_0 hB) hkb k2 rfl rfl ?_
    exact jx_aret d_A_growBy_59 rfl (Or.inr ⟨_, rfl⟩) ⟨rfl, rfl⟩
theorem w_A_grow {E : jx_E} {l : Launch} {d : Nat} {w : jx_W} {a b mi : Nat} {n : Int} (hB : jx_B E) (hB2 : jx_B2 E mi) (h : lsA E w b a n) (hf : (jx_l w a : Int) = n) (hz : n = 0 → jZ E a) (h1 : 1 ≤ jx_c w) (h2 : 100 ≤ jx_s w) :
    jx_G E l Y_A_grow (d + 4) (jx_eq (.inr (some (.ref (jx_n w)))) (jx_put (jx_gr w a n.toNat (gC n).toNat) b 0 (.ref (jx_n w)))) 0 (jx_ent [.ref b] 1) [] w := by
  show jx_G E l Y_A_grow (d + 4) _ 0 [some (.ref b)] [] w
  refine jx_aload_n d_A_grow_0 rfl rfl ?_
  refine jx_aload_n d_A_grow_1 rfl rfl ?_
  refine jx_getv d_A_grow_2 (f_A_48 hB) h.1 h.2.2.2.2.1 ?_
  refine jI_const d_A_grow_5 ?_
  refine jI_add d_A_grow_6 ?_
  refine jx_callV_r (As := [.int (iI (n + 1))]) (rest := []) d_A_grow_7 (m_A_growBy hB) (v_A_69 hB) (by decide) (jx_c6 hB) h.1 rfl (Nat.le_of_ble_eq_true rfl) (Nat.le_of_ble_eq_true rfl) (w_A_growBy hB hB2 h hf hz h1 h2) ?_
  exact jx_aret d_A_grow_10 rfl (Or.inr ⟨_, rfl⟩) ⟨rfl, rfl⟩
/-- the world behind add: the element e at the end -/
def jx_ad (w : jx_W) (b a : Nat) (n : Int) (e : Nat) : jx_W := if (jx_l w a : Int) = n then jx_put (jx_put (jx_put (jx_gr w a n.toNat (gC n).toNat) b 0 (.ref (jx_n w))) (jx_n w) n.toNat (.ref e)) b 1 (.int (iI (n + 1))) else jx_put (jx_put w a n.toNat (.ref e)) b 1 (.int (iI (n + 1)))
theorem w_A_add3 {E : jx_E} {l : Launch} {d : Nat} {w : jx_W} {a b e ci mi : Nat} {n : Int} {q : vw_C} (hB : jx_B E) (hB2 : jx_B2 E mi) (h : lsA E w b a n) (hz : (jx_l w a : Int) = n → n = 0 → jZ E a) (ho : (jx_l w a : Int) ≠ n → E.1.heap.size ≤ a) (hci : ci < 99) (hq0 : E.2.2[ci]? = some q) (hke : jx_k w e = ci + 1) (hen : e < jx_n w) (hcast : (Jvm.Cond.castable q.1 "java/lang/Object").before #[] E.1 = true) (h1 : 1 ≤ jx_c w) (h2 : 100 ≤ jx_s w) :
    jx_G E l Y_A_add3 (d + 5) (jx_eq (.inr none) (jx_ad w b a n e)) 0 (jx_ent [.ref b, .ref e, .ref a, .int (iI n)] 4) [] w := by
  obtain ⟨k1, k2, k3, k4, k5, k6, k7, k8, k9, k10, k11, k12, k13⟩ := id h
  have hg := gC_rg k9
  show jx_G E l Y_A_add3 (d + 5) _ 0 [some (.ref b), some (.ref e), some (.ref a), some (.int (iI n))] [] w
  refine jx_iload_n d_A_add3_0 rfl rfl ?_
  refine jx_aload_n d_A_add3_1 rfl rfl ?_
  refine jx_ala (n := iI (jx_l w a)) d_A_add3_2 k7 (by decide) (jI_len (by omega)) ?_
  refine jI_icmp_ne (tgt := 11) d_A_add3_3 (by decide) (by omega) (by omega) (fun hc => ?_) (fun hc => ?_)
  · have hne : ¬ (jx_l w a : Int) = n := by omega
    unfold jx_ad
    rw [if_neg hne]
    refine jx_aload_n d_A_add3_11 rfl rfl ?_
    refine jx_iload_n d_A_add3_12 rfl rfl ?_
    refine jx_aload_n d_A_add3_13 rfl rfl ?_
    refine jx_aast d_A_add3_14 k7 (iI_in (by omega) (by omega)) (ho hne) hci hq0 hke hB2.2 hcast ?_
    rw [iI_clamp (by omega)]
    refine jx_aload_n d_A_add3_15 rfl rfl ?_
    refine jx_iload_n d_A_add3_16 rfl rfl ?_
    refine jI_const d_A_add3_17 ?_
    refine jI_add d_A_add3_18 ?_
    refine jx_putf d_A_add3_19 (f_A_48 hB) (t_6_1 hB) k1 k2 rfl rfl ?_
    exact jx_vret d_A_add3_22 rfl ⟨rfl, rfl⟩
  · have hfull : (jx_l w a : Int) = n := by omega
    unfold jx_ad
    rw [if_pos hfull]
    refine jx_aload_n d_A_add3_6 rfl rfl ?_
    refine jx_callV_r (As := []) (rest := []) d_A_add3_7 (m_A_grow hB) (v_A_129 hB) (by decide) (jx_c6 hB) k1 rfl (Nat.le_of_ble_eq_true rfl) (Nat.le_of_ble_eq_true rfl) (w_A_grow hB hB2 h hfull (hz hfull) h1 h2) ?_
    refine jx_astore_n d_A_add3_10 rfl (Nat.le_of_ble_eq_true rfl) rfl ?_
    try dsimp only [List.set]
    have hkn : jx_k (jx_put (jx_gr w a n.toNat (gC n).toNat) b 0 (.ref (jx_n w))) (jx_n w) = 105 := if_pos rfl
    have hln : jx_l (jx_put (jx_gr w a n.toNat (gC n).toNat) b 0 (.ref (jx_n w))) (jx_n w) = (gC n).toNat := if_pos rfl
    have hke2 : jx_k (jx_put (jx_gr w a n.toNat (gC n).toNat) b 0 (.ref (jx_n w))) e = ci + 1 := by
      show (if e = jx_n w then 105 else jx_k w e) = ci + 1
      rw [if_neg (by omega)]; exact hke
    have hkb2 : jx_k (jx_put (jx_gr w a n.toNat (gC n).toNat) b 0 (.ref (jx_n w))) b = 7 := by
      show (if b = jx_n w then 105 else jx_k w b) = 7
      rw [if_neg (by omega)]; exact k1
    refine jx_aload_n d_A_add3_11 rfl rfl ?_
    refine jx_iload_n d_A_add3_12 rfl rfl ?_
    refine jx_aload_n d_A_add3_13 rfl rfl ?_
    refine jx_aast d_A_add3_14 hkn (by rw [hln]; exact iI_in (by omega) (by omega)) k12 hci hq0 hke2 hB2.2 hcast ?_
    rw [iI_clamp (by omega)]
    refine jx_aload_n d_A_add3_15 rfl rfl ?_
    refine jx_iload_n d_A_add3_16 rfl rfl ?_
    refine jI_const d_A_add3_17 ?_
    refine jI_add d_A_add3_18 ?_
    refine jx_putf d_A_add3_19 (f_A_48 hB) (t_6_1 hB) hkb2 k2 rfl rfl ?_
    exact jx_vret d_A_add3_22 rfl ⟨rfl, rfl⟩
theorem w_A_add {E : jx_E} {l : Launch} {d : Nat} {w : jx_W} {a b e ci mi : Nat} {n : Int} {q : vw_C} {mc : Int32} (hB : jx_B E) (hB2 : jx_B2 E mi) (h : lsA E w b a n) (hmc : jx_v w b 2 = .int mc) (hab : a ≠ b) (hz : (jx_l w a : Int) = n → n = 0 → jZ E a) (ho : (jx_l w a : Int) ≠ n → E.1.heap.size ≤ a) (hci : ci < 99) (hq0 : E.2.2[ci]? = some q) (hke : jx_k w e = ci + 1) (hen : e < jx_n w) (hcast : (Jvm.Cond.castable q.1 "java/lang/Object").before #[] E.1 = true) (h1 : 1 ≤ jx_c w) (h2 : 100 ≤ jx_s w) :
    jx_G E l Y_A_add (d + 6) (jx_eq (.inr (some (.int (iI 1)))) (jx_ad (jx_put w b 2 (.int (mc + iI 1))) b a n e)) 0 (jx_ent [.ref b, .ref e] 2) [] w := by
  obtain ⟨k1, k2, k3, k4, k5, k6, k7, k8, k9, k10, k11, k12, k13⟩ := id h
  have ev : ∀ x i, ¬ (x = b ∧ i = 2) → jx_v (jx_put w b 2 (.int (mc + iI 1))) x i = jx_v w x i := fun x i hx => if_neg hx
  have h' : lsA E (jx_put w b 2 (.int (mc + iI 1))) b a n := ⟨k1, k2, k3, by rw [ev b 0 (by omega)]; exact k4, by rw [ev b 1 (by omega)]; exact k5, ⟨_, if_pos ⟨rfl, rfl⟩⟩, k7, k8, k9, k10, k11, k12, fun i hi => by rw [ev a i (fun z => hab z.1)]; exact k13 i hi⟩
  show jx_G E l Y_A_add (d + 6) _ 0 [some (.ref b), some (.ref e)] [] w
  refine jx_aload_n d_A_add_0 rfl rfl ?_
  refine jx_dup d_A_add_1 rfl ?_
  refine jx_getv d_A_add_2 (f_A_63 hB) k1 hmc ?_
  refine jI_const d_A_add_5 ?_
  refine jx_iadd d_A_add_6 ?_
  refine jx_putf d_A_add_7 (f_A_63 hB) (t_6_2 hB) k1 k2 rfl rfl ?_
  refine jx_aload_n d_A_add_10 rfl rfl ?_
  refine jx_aload_n d_A_add_11 rfl rfl ?_
  refine jx_aload_n d_A_add_12 rfl rfl ?_
  refine jx_getv d_A_add_13 (f_A_9 hB) h'.1 h'.2.2.2.1 ?_
  refine jx_aload_n d_A_add_16 rfl rfl ?_
  refine jx_getv d_A_add_17 (f_A_48 hB) h'.1 h'.2.2.2.2.1 ?_
  refine jx_callV_r (As := [.ref e, .ref a, .int (iI n)]) (rest := []) (v := none) d_A_add_20 (m_A_add3 hB) (v_A_131 hB) (by decide) (jx_c6 hB) h'.1 rfl (Nat.le_of_ble_eq_true rfl) (Nat.le_of_ble_eq_true rfl) (w_A_add3 hB hB2 h' hz ho hci hq0 hke hen hcast h1 h2) ?_
  refine jI_const d_A_add_23 ?_
  exact jx_zret d_A_add_24 rfl (jI_bool (by omega)) ⟨rfl, rfl⟩
