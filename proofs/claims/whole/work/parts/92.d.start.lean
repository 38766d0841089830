/-! 92.d.start: the law from its entry -/
section START
variable {E : jx_E} {l : Launch} {d : Nat} {nm : String} {tb : List (Nat × Nat × Nat × Nat)} {b L mi z pa : Nat} {ys : Nat → Int}
theorem mR.up {S : mS} {m : Nat} {A : Nat → Nat} {w w2 : jx_W} (h : mR E S w m A) (hm : m < jx_n w) (hA : ∀ f, mArr f → A f < jx_n w) (hk : ∀ a, a < jx_n w → jx_k w2 a = jx_k w a ∧ jx_l w2 a = jx_l w a ∧ jx_v w2 a = jx_v w a) : mR E S w2 m A := by
  obtain ⟨h1, h2, h3, h4, h5⟩ := h
  obtain ⟨m1, m2, m3⟩ := hk m hm
  refine ⟨m1.trans h1, h2, fun f hf => by rw [m3]; exact h3 f hf, fun f hf => ?_, h5⟩
  obtain ⟨a1, a2, a3⟩ := hk (A f) (hA f hf)
  rw [m3, a1, a2, a3]
  exact h4 f hf
theorem w_law0 (hB : jx_B E) (hB2 : jx_B2 E mi) (hB3 : jx_B3 E z pa) (hscr : ∃ cell, E.1.heap[b]? = some cell ∧ jx_pic E 100 L (fun j => .int (iI (ys j))) cell) (hys : ∀ j, iR (ys j)) (hL : L ≤ 10000) {w0 : jx_W} (hn0 : jx_n w0 = E.1.heap.size) (hc0 : 300000 ≤ jx_c w0) (hs0 : 200000 + 1000 * L ≤ jx_s w0) : jx_G E l (Yl nm tb) (d + 13) lwEnd 0 (jx_ent [.ref b] 7) [] w0 := by
  show jx_G E l (Yl nm tb) (d + 13) lwEnd 0 [some (.ref b), none, none, none, none, none, none] [] w0
  have hbl : b < E.1.heap.size := by
    obtain ⟨cell, h1, -⟩ := hscr
    exact (Array.getElem?_eq_some_iff.mp h1).1
  have hzl : z < E.1.heap.size := by
    obtain ⟨cell, h1, -⟩ := hB3.2.2.2.2.1
    exact (Array.getElem?_eq_some_iff.mp h1).1
  have hpl : pa < E.1.heap.size := by
    obtain ⟨cell, h1, -⟩ := hB3.2.2.2.2.2.1
    exact (Array.getElem?_eq_some_iff.mp h1).1
  refine jx_recall hB3.2.2.2.2.1 (fun _ => ?_)
  refine jx_recall hB3.2.2.2.2.2.1 (fun h105 => ?_)
  have hzp : ¬ z = pa := fun e => h105 rfl (by rw [← e, set_k, if_pos rfl])
  refine jx_gen (P := fun w => jx_n w = E.1.heap.size ∧ 300000 ≤ jx_c w ∧ 200000 + 1000 * L ≤ jx_s w ∧ jx_k w z = 105 ∧ jx_l w z = 0 ∧ xA w pa) ⟨hn0, hc0, hs0, by rw [set_k, if_neg hzp, set_k, if_pos rfl], by rw [set_l, if_neg hzp, set_l, if_pos rfl], by rw [set_k, if_pos rfl], by rw [set_l, if_pos rfl], fun i hi => by rw [set_v, if_pos rfl]⟩ (fun w h => ?_)
  obtain ⟨hn, hc, hs, hkz, hlz, hA⟩ := h
  refine jx_nw d_L_law_0 (n_L_8 hB) (by omega) (by omega) ?_
  refine jx_dup d_L_law_3 rfl ?_
  have hA1 : xA (jx_new w 1 0 7 jx_d0) pa := by
    obtain ⟨a1, a2, a3⟩ := hA
    refine ⟨?_, ?_, fun i hi => ?_⟩
    · rw [new_k, if_neg (by omega)]
      exact a1
    · rw [new_l, if_neg (by omega)]
      exact a2
    · rw [new_v, if_neg (by omega)]
      exact a3 i hi
  refine jx_callI (As := []) (rest := [.ref (jx_n w)]) d_L_law_4 (m_T_init hB) (i_L_71 hB) rfl rfl rfl (Nat.le_of_ble_eq_true rfl) (Nat.le_of_ble_eq_true rfl) (w_T_init hB hB3 hA1 ⟨show pa < jx_n w + 1 by omega, hpl⟩ (if_pos rfl) (by omega) (Nat.lt_succ_self _) (show 100 ≤ jx_c w - 1 by omega) (show 100000 ≤ jx_s w - 7 by omega)) (fun v w1 hq => ?_) (fun x a w1 hq => by obtain ⟨hq, -⟩ := hq; cases hq)
  obtain ⟨e1, hT⟩ := hq
  cases e1
  have q1 := hT.cs (k := 30) rfl
  have q1n : jx_n w1 = jx_n w + 1 + 30 := q1.1
  have q1c : jx_c w - 1 ≤ jx_c w1 + 30 := q1.2.1
  have q1s : jx_s w - 7 ≤ jx_s w1 + 1000 * 30 := q1.2.2
  refine jx_lt (fun hlt => ?_)
  have hC1 := cR_init (E := E) hT hB3.1 (if_pos rfl) (by omega) (Nat.lt_succ_self _) ⟨by rw [new_v, if_pos rfl]; rfl, by rw [new_v, if_pos rfl]; rfl⟩ (by rw [new_k, if_neg (by omega)]; exact hkz) (by rw [new_l, if_neg (by omega)]; exact hlz) (show z < jx_n w + 1 by omega) (show E.1.heap.size ≤ jx_n w + 1 by omega)
  refine jx_astore_n d_L_law_7 rfl (Nat.le_of_ble_eq_true rfl) rfl ?_
  refine jx_nw d_L_law_8 (n_L_72 hB) (by omega) (by omega) ?_
  refine jx_dup d_L_law_11 rfl ?_
  refine jx_callI (As := []) (rest := [.ref (jx_n w1)]) d_L_law_12 (m_M_init hB) (i_L_74 hB) rfl rfl rfl (Nat.le_of_ble_eq_true rfl) (Nat.le_of_ble_eq_true rfl) (w_M_init hB (if_pos rfl) (by omega) (Nat.lt_succ_self _) (show 24 ≤ jx_c w1 - 1 by omega) (show 24000 ≤ jx_s w1 - 30 by omega)) (fun v w2 hq => ?_) (fun x a w2 hq => by obtain ⟨hq, -⟩ := hq; cases hq)
  obtain ⟨e2, hI⟩ := hq
  cases e2
  have q2 := hI.cs (k := 24) rfl
  have q2n : jx_n w2 = jx_n w1 + 1 + 24 := q2.1
  have q2c : jx_c w1 - 1 ≤ jx_c w2 + 24 := q2.2.1
  have q2s : jx_s w1 - 30 ≤ jx_s w2 + 1000 * 24 := q2.2.2
  have hM2 : mR E (fun _ _ => 0) w2 (jx_n w1) (fun f => jx_n w1 + 1 + mJx f) := mR_init (E := E) hI (if_pos rfl) (by omega) (Nat.lt_succ_self _) (show E.1.heap.size ≤ jx_n w1 + 1 by omega) (fun f hf => by
    rw [new_v, if_pos rfl]
    rcases hf with hf | rfl | rfl
    · have hf2 : f = 0 ∨ f = 1 ∨ f = 2 ∨ f = 3 := by omega
      rcases hf2 with rfl | rfl | rfl | rfl <;> rfl
    · rfl
    · rfl)
  have hj : ∀ f, mArr f → mJx f < 24 := by
    intro f hf
    unfold mJx
    (repeat' split) <;> omega
  refine jx_astore_n d_L_law_15 rfl (Nat.le_of_ble_eq_true rfl) rfl ?_
  refine jI_const d_L_law_16 ?_
  refine jx_newa (kd := 101) (N := 1) d_L_law_17 (y_acJ hB) rfl (by decide) rfl (by decide) (by decide) (by decide) (by omega) (by omega) ?_
  have same : ∀ a, a < jx_n w2 → jx_k (jx_new w2 101 1 1 (fun _ => .long 0)) a = jx_k w2 a ∧ jx_l (jx_new w2 101 1 1 (fun _ => .long 0)) a = jx_l w2 a ∧ jx_v (jx_new w2 101 1 1 (fun _ => .long 0)) a = jx_v w2 a := fun a ha => ⟨if_neg (show ¬ a = jx_n w2 by omega), if_neg (show ¬ a = jx_n w2 by omega), if_neg (show ¬ a = jx_n w2 by omega)⟩
  have hM3 : mR E (fun _ _ => 0) (jx_new w2 101 1 1 (fun _ => .long 0)) (jx_n w1) (fun f => jx_n w1 + 1 + mJx f) := hM2.up (by omega) (fun f hf => by have := hj f hf; show jx_n w1 + 1 + mJx f < _; omega) same
  have hC3 : cR E cD0 (jx_new w2 101 1 1 (fun _ => .long 0)) (gA (jx_n w) (jx_n w + 1)) (jx_n w1) (jx_n w2 + 1) := hC1.up2 hlt (show jx_n w1 ≤ jx_n w2 + 1 by omega) (Nat.le_refl _) (fun a ha => by
    obtain ⟨s1, s2, s3⟩ := same a (by omega)
    obtain ⟨r1, r2, r3⟩ := hI.2.1 a (show a < jx_n w1 + 1 by omega)
    rw [s1, s2, s3, r1, r2, r3 (by omega), new_k, new_l, new_v, if_neg (by omega), if_neg (by omega), if_neg (by omega)]
    exact ⟨rfl, rfl, rfl⟩)
  have hX : lwX E (jx_n w1) (jx_n w2) b (jx_n w1) (jx_n w2 + 1) (fun f => jx_n w1 + 1 + mJx f) := by
    refine ⟨⟨Nat.le_refl _, by omega⟩, fun f hf => ?_, ⟨by omega, by omega⟩, by omega, hbl, by omega, fun f hf => ?_⟩
    · have := hj f hf
      show jx_n w1 ≤ jx_n w1 + 1 + mJx f ∧ jx_n w1 + 1 + mJx f < jx_n w2 + 1
      omega
    · have := hj f hf
      show jx_n w2 ≠ jx_n w1 + 1 + mJx f
      omega
  refine jx_astore_n d_L_law_19 rfl (Nat.le_of_ble_eq_true rfl) rfl ?_
  refine jI_const d_L_law_20 ?_
  refine jx_istore d_L_law_21 (Nat.le_of_ble_eq_true rfl) rfl ?_
  refine jx_recall hscr (fun h105 => ?_)
  have h105 := h105 rfl
  refine l_law (ts := jx_n w) (L := L) hB hB2 hB3 hX hscr hys (by omega) (L + 6) 0 (fun _ _ => 0) _ none none ?_ (by omega) (by omega) (by omega)
  refine ⟨hM3.rc hbl, ⟨cD0, gA (jx_n w) (jx_n w + 1), hC3.rc hbl h105, rl_init, if_pos ⟨rfl, rfl⟩⟩, ?_, ?_, (fun y hy => by cases hy), ?_, ?_⟩
  · rw [set_k, set_l, if_neg (by omega), if_neg (by omega)]
    exact ⟨if_pos rfl, if_pos rfl⟩
  · rw [set_k, set_l, set_v, if_pos rfl, if_pos rfl, if_pos rfl]
    exact ⟨rfl, rfl, fun _ => rfl⟩
  · show _ ≤ ((jx_c w2 - 1 : Nat) : Int)
    omega
  · show _ ≤ ((jx_s w2 - 1 : Nat) : Int)
    omega
end START
