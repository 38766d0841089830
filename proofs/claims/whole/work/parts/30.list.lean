/-! 30.list: an ArrayList: its size, an element -/
/-- at b lies a list of n elements, the objects ad 0 .. -/
def jx_Li (w : jx_W) (b n : Nat) (ad : Nat → Nat) : Prop := jx_k w b = 7 ∧ jx_v w b 1 = .int (nI n) ∧ (∃ mc, jx_v w b 2 = .int mc) ∧ ∃ D cap, jx_v w b 0 = .ref D ∧ jx_k w D = 105 ∧ jx_l w D = cap ∧ n ≤ cap ∧ cap ≤ 1000 ∧ ∀ i, i < n → jx_v w D i = .ref (ad i)
theorem w_A_size {E : jx_E} {l : Launch} {d : Nat} {w : jx_W} {b n : Nat} {ad : Nat → Nat} (hB : jx_B E) (h : jx_Li w b n ad) : jx_G E l Y_A_size d (jx_eq (.inr (some (.int (nI n)))) w) 0 (jx_ent [.ref b] 1) [] w := by
  show jx_G E l Y_A_size d _ 0 [some (.ref b)] [] w
  refine jx_aload_n d_A_size_0 rfl rfl ?_
  refine jx_getv d_A_size_1 (f_A_48 hB) h.1 h.2.1 ?_
  exact jx_iret d_A_size_4 rfl ⟨rfl, rfl⟩
theorem w_A_elementData {E : jx_E} {l : Launch} {d : Nat} {w : jx_W} {b n i : Nat} {ad : Nat → Nat} (hB : jx_B E) (h : jx_Li w b n ad) (hi : i < n) : jx_G E l Y_A_elementData d (jx_eq (.inr (some (.ref (ad i)))) w) 0 (jx_ent [.ref b, .int (nI i)] 2) [] w := by
  obtain ⟨h1, h2, -, D, cap, h3, h4, h5, h6, h7, h8⟩ := h
  show jx_G E l Y_A_elementData d _ 0 [some (.ref b), some (.int (nI i))] [] w
  refine jx_aload_n d_A_elementData_0 rfl rfl ?_
  refine jx_getv d_A_elementData_1 (f_A_9 hB) h1 h3 ?_
  refine jx_iload_n d_A_elementData_4 rfl rfl ?_
  refine jx_aaln d_A_elementData_5 h4 (by decide) rfl h5 (by omega) (by omega) (h8 i hi) ?_
  exact jx_aret d_A_elementData_6 rfl (Or.inl ⟨_, rfl⟩) ⟨rfl, rfl⟩
theorem w_J_check {E : jx_E} {l : Launch} {d : Nat} {w : jx_W} {n i : Nat} (hi : i < n) (hn : n < 2 ^ 31) : jx_G E l Y_JPreconditions_checkIndex d (jx_eq (.inr (some (.int (nI i)))) w) 0 (jx_ent [.int (nI i), .int (nI n), .null] 3) [] w := by
  show jx_G E l Y_JPreconditions_checkIndex d _ 0 [some (.int (nI i)), some (.int (nI n)), some .null] [] w
  refine jx_iload_n d_JPreconditions_checkIndex_0 rfl rfl ?_
  refine jx_if_lt (tgt := 9) d_JPreconditions_checkIndex_1 (by decide) (fun hc => absurd hc (nI_pos (by omega))) (fun hc => ?_)
  refine jx_iload_n d_JPreconditions_checkIndex_4 rfl rfl ?_
  refine jx_iload_n d_JPreconditions_checkIndex_5 rfl rfl ?_
  refine jx_icmp_lt (tgt := 16) d_JPreconditions_checkIndex_6 (by decide) (fun hc => ?_) (fun hc => absurd (nI_lt hi hn) hc)
  refine jx_iload_n d_JPreconditions_checkIndex_16 rfl rfl ?_
  exact jx_iret d_JPreconditions_checkIndex_17 rfl ⟨rfl, rfl⟩
theorem w_J_checkIndex {E : jx_E} {l : Launch} {d : Nat} {w : jx_W} {n i : Nat} (hB : jx_B E) (hi : i < n) (hn : n < 2 ^ 31) : jx_G E l Y_JObjects_checkIndex (d + 1) (jx_eq (.inr (some (.int (nI i)))) w) 0 (jx_ent [.int (nI i), .int (nI n)] 2) [] w := by
  show jx_G E l Y_JObjects_checkIndex (d + 1) _ 0 [some (.int (nI i)), some (.int (nI n))] [] w
  refine jx_iload_n d_JObjects_checkIndex_0 rfl rfl ?_
  refine jx_iload_n d_JObjects_checkIndex_1 rfl rfl ?_
  refine jx_null d_JObjects_checkIndex_2 ?_
  refine jx_callS_r (As := [.int (nI i), .int (nI n), .null]) (rest := []) d_JObjects_checkIndex_3 (m_JPreconditions_checkIndex hB) (s_JObjects_105 hB) rfl (Nat.le_of_ble_eq_true rfl) (Nat.le_of_ble_eq_true rfl) (w_J_check hi hn) ?_
  exact jx_iret d_JObjects_checkIndex_6 rfl ⟨rfl, rfl⟩
theorem jx_c6 {E : jx_E} (hB : jx_B E) : E.2.2[6]? = some jx_q6 := by rw [hB.1]; rfl
theorem w_A_get {E : jx_E} {l : Launch} {d : Nat} {w : jx_W} {b n i : Nat} {ad : Nat → Nat} (hB : jx_B E) (h : jx_Li w b n ad) (hi : i < n) (hn : n < 2 ^ 31) : jx_G E l Y_A_get (d + 2) (jx_eq (.inr (some (.ref (ad i)))) w) 0 (jx_ent [.ref b, .int (nI i)] 2) [] w := by
  show jx_G E l Y_A_get (d + 2) _ 0 [some (.ref b), some (.int (nI i))] [] w
  refine jx_iload_n d_A_get_0 rfl rfl ?_
  refine jx_aload_n d_A_get_1 rfl rfl ?_
  refine jx_getv d_A_get_2 (f_A_48 hB) h.1 h.2.1 ?_
  refine jx_callS_r (As := [.int (nI i), .int (nI n)]) (rest := []) d_A_get_5 (m_JObjects_checkIndex hB) (s_A_118 hB) rfl (Nat.le_of_ble_eq_true rfl) (Nat.le_of_ble_eq_true rfl) (w_J_checkIndex hB hi hn) ?_
  refine jx_pop d_A_get_8 rfl ?_
  refine jx_aload_n d_A_get_9 rfl rfl ?_
  refine jx_iload_n d_A_get_10 rfl rfl ?_
  refine jx_callV_r (As := [.int (nI i)]) (rest := []) d_A_get_11 (m_A_elementData hB) (v_A_123 hB) (by decide) (jx_c6 hB) h.1 rfl (Nat.le_of_ble_eq_true rfl) (Nat.le_of_ble_eq_true rfl) (w_A_elementData hB h hi) ?_
  exact jx_aret d_A_get_14 rfl (Or.inl ⟨_, rfl⟩) ⟨rfl, rfl⟩
