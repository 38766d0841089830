/-! 91.e.tinit: the class's constructor; the first states -/
def tOff (n : Nat) : Nat := if n < 4 then n else if n = 4 then 5 else 30
def tK (o : Nat) : Nat := if o < 3 then 7 else if o = 3 then 5 else if o = 4 then 100 else if o = 5 then 2 else xK (o - 6)
def tL (o : Nat) : Nat := if o = 4 then 16 else if o < 6 then 0 else xL (o - 6)
def tP (n0 z o : Nat) (V : Nat → Value) : Prop := if o < 3 then V 0 = .ref z ∧ V 1 = .int 0 ∧ V 2 = .int 0 else if o = 3 then V 0 = .ref (n0 + 4) else if o = 4 then (∀ i, V i = .int 0) else if o = 5 then (∀ i, i < 7 → V i = .ref (n0 + 6 + xOff i)) ∧ V 7 = .int 0 else if o = 18 then (∀ j : Nat, j < 32 → V j = .int (iI (vl j))) else xP (n0 + 6) z (o - 6) V
abbrev tI (w0 : jx_W) (b z n : Nat) (w : jx_W) : Prop := bI w0 b tOff (fun n => n) tK tL (tP (jx_n w0) z) n w
theorem tP_l {n0 z o : Nat} (h : o < 3) {V : Nat → Value} (h0 : V 0 = .ref z) (h1 : V 1 = .int 0) (h2 : V 2 = .int 0) : tP n0 z o V := by
  unfold tP
  rw [if_pos h]
  exact ⟨h0, h1, h2⟩
section TIN
variable {E : jx_E} {l : Launch} {d : Nat} {b z pa : Nat} {w : jx_W}
theorem w_T_init (hB : jx_B E) (hB3 : jx_B3 E z pa) (hA : xA w pa) (hpa : pa < jx_n w ∧ pa < E.1.heap.size) (hk : jx_k w b = 1) (ho : E.1.heap.size ≤ b) (hb : b < jx_n w) (hc : 100 ≤ jx_c w) (hs : 100000 ≤ jx_s w) : jx_G E l Y_T_init (d + 5) (fun r w2 => r = .inr none ∧ tI w b z 5 w2) 0 (jx_ent [.ref b] 1) [] w := by
  show jx_G E l Y_T_init (d + 5) _ 0 [some (.ref b)] [] w
  refine jx_aload_n d_T_init_0 rfl rfl ?_
  refine jx_objInit d_T_init_1 (y_oi_T hB) (y_oi2 hB) (y_oi3 hB) (Nat.le_of_ble_eq_true rfl) ?_
  have h0 : tI w b z 0 w := bI.zero rfl
  have q0 := h0.cs (k := 0) rfl
  refine jx_aload_n d_T_init_4 rfl rfl ?_
  refine jx_nw d_T_init_5 (n_T_7 hB) (by omega) (by omega) ?_
  refine jx_dup d_T_init_8 rfl ?_
  refine jx_callI_r (As := []) (v := none) (rest := [.ref (jx_n w), .ref b]) d_T_init_9 (m_A_init hB) (i_T_9 hB) rfl rfl rfl (Nat.le_of_ble_eq_true rfl) (Nat.le_of_ble_eq_true rfl) (w_A_init hB hB3.1 (if_pos rfl) (by omega)) ?_
  refine jx_putF d_T_init_12 (f_T_10 hB) (g_T_10 hB) (t_0_0 hB) rfl ?_ ho rfl rfl ?_
  · show (if b = jx_n w then _ else jx_k w b) = _
    rw [if_neg (by omega), h0.kb hb]
    exact hk
  refine jx_gen (h0.list hb (fun i hi => absurd hi (Nat.not_lt_zero i)) rfl rfl rfl (fun V v0 v1 v2 => tP_l (by decide) v0 v1 v2)) (fun w1 h1 => ?_)
  have q1 := h1.cs (k := 1) rfl
  refine jx_aload_n d_T_init_15 rfl rfl ?_
  refine jx_nw d_T_init_16 (n_T_7 hB) (by omega) (by omega) ?_
  refine jx_dup d_T_init_19 rfl ?_
  refine jx_callI_r (As := []) (v := none) (rest := [.ref (jx_n w1), .ref b]) d_T_init_20 (m_A_init hB) (i_T_9 hB) rfl rfl rfl (Nat.le_of_ble_eq_true rfl) (Nat.le_of_ble_eq_true rfl) (w_A_init hB hB3.1 (if_pos rfl) (by omega)) ?_
  refine jx_putF d_T_init_23 (f_T_16 hB) (g_T_16 hB) (t_0_1 hB) rfl ?_ ho rfl rfl ?_
  · show (if b = jx_n w1 then _ else jx_k w1 b) = _
    rw [if_neg (by omega), h1.kb hb]
    exact hk
  refine jx_gen (h1.list hb (fun i hi => by show i ≠ 1; omega) rfl rfl rfl (fun V v0 v1 v2 => tP_l (by decide) v0 v1 v2)) (fun w2 h2 => ?_)
  have q2 := h2.cs (k := 2) rfl
  refine jx_aload_n d_T_init_26 rfl rfl ?_
  refine jx_nw d_T_init_27 (n_T_7 hB) (by omega) (by omega) ?_
  refine jx_dup d_T_init_30 rfl ?_
  refine jx_callI_r (As := []) (v := none) (rest := [.ref (jx_n w2), .ref b]) d_T_init_31 (m_A_init hB) (i_T_9 hB) rfl rfl rfl (Nat.le_of_ble_eq_true rfl) (Nat.le_of_ble_eq_true rfl) (w_A_init hB hB3.1 (if_pos rfl) (by omega)) ?_
  refine jx_putF d_T_init_34 (f_T_19 hB) (g_T_19 hB) (t_0_2 hB) rfl ?_ ho rfl rfl ?_
  · show (if b = jx_n w2 then _ else jx_k w2 b) = _
    rw [if_neg (by omega), h2.kb hb]
    exact hk
  refine jx_gen (h2.list hb (fun i hi => by show i ≠ 2; omega) rfl rfl rfl (fun V v0 v1 v2 => tP_l (by decide) v0 v1 v2)) (fun w3 h3 => ?_)
  have q3 := h3.cs (k := 3) rfl
  refine jx_aload_n d_T_init_37 rfl rfl ?_
  refine jx_nw d_T_init_38 (n_T_22 hB) (by omega) (by omega) ?_
  refine jx_dup d_T_init_41 rfl ?_
  refine jx_callI_r (As := []) (v := none) (rest := [.ref (jx_n w3), .ref b]) d_T_init_42 (m_Y_init hB) (i_T_24 hB) rfl rfl rfl (Nat.le_of_ble_eq_true rfl) (Nat.le_of_ble_eq_true rfl) (w_Y_init hB (if_pos rfl) (by omega) (Nat.lt_succ_self _) (show 1 ≤ jx_c w3 - 1 by omega) (show 16 ≤ jx_s w3 - 1 by omega)) ?_
  refine jx_putF d_T_init_45 (f_T_25 hB) (g_T_25 hB) (t_0_3 hB) rfl ?_ ho rfl rfl ?_
  · show (if b = jx_n w3 + 1 then _ else if b = jx_n w3 then _ else jx_k w3 b) = _
    rw [if_neg (by omega), if_neg (by omega), h3.kb hb]
    exact hk
  have ev : ∀ x y, jx_v (jx_put (jx_new (jx_new w3 5 0 1 jx_d4) 100 16 16 (fun _ => .int 0)) (jx_n w3) 0 (.ref (jx_n w3 + 1))) x y = if x = jx_n w3 ∧ y = 0 then .ref (jx_n w3 + 1) else if x = jx_n w3 + 1 then .int 0 else if x = jx_n w3 then jx_d4 y else jx_v w3 x y := fun x y => by
    rw [put_v, new_v, new_v]
    show (if x = jx_n w3 ∧ y = 0 then _ else (if x = jx_n w3 + 1 then _ else if x = jx_n w3 then jx_d4 else jx_v w3 x) y) = _
    by_cases e : x = jx_n w3 + 1
    · rw [if_pos e, if_pos e]
    · rw [if_neg e, if_neg e]
      by_cases e2 : x = jx_n w3
      · rw [if_pos e2, if_pos e2]
      · rw [if_neg e2, if_neg e2]
  refine jx_gen (P := tI w b z 4) (h3.step (w1 := jx_put (jx_new (jx_new w3 5 0 1 jx_d4) 100 16 16 (fun _ => .int 0)) (jx_n w3) 0 (.ref (jx_n w3 + 1))) hb (fun i hi => by show i ≠ 3; omega) (by decide) ?_ (fun a ha => ⟨?_, ?_, ?_⟩) (fun o ho1 ho2 => ?_) ?_ ?_) (fun w4 h4 => ?_)
  · show jx_n w3 + 1 + 1 = jx_n w + 5
    omega
  · show (if a = jx_n w3 + 1 then _ else if a = jx_n w3 then _ else jx_k w3 a) = _
    rw [if_neg (by omega), if_neg (by omega)]
  · show (if a = jx_n w3 + 1 then _ else if a = jx_n w3 then _ else jx_l w3 a) = _
    rw [if_neg (by omega), if_neg (by omega)]
  · funext y
    rw [ev, if_neg (by omega), if_neg (by omega), if_neg (by omega)]
  · have ho1 : 3 ≤ o := ho1
    have ho2 : o < 5 := ho2
    have hoo : o = 3 ∨ o = 4 := by omega
    rcases hoo with rfl | rfl
    · refine ⟨?_, ?_, ?_⟩
      · show (if jx_n w + 3 = jx_n w3 + 1 then _ else if jx_n w + 3 = jx_n w3 then 5 else _) = _
        rw [if_neg (by omega), if_pos (by omega)]
        rfl
      · show (if jx_n w + 3 = jx_n w3 + 1 then _ else if jx_n w + 3 = jx_n w3 then 0 else _) = _
        rw [if_neg (by omega), if_pos (by omega)]
        rfl
      · show jx_v _ (jx_n w + 3) 0 = .ref (jx_n w + 4)
        rw [ev, if_pos ⟨by omega, rfl⟩, q3.1]
    · refine ⟨?_, ?_, ?_⟩
      · show (if jx_n w + 4 = jx_n w3 + 1 then 100 else _) = _
        rw [if_pos (by omega)]
        rfl
      · show (if jx_n w + 4 = jx_n w3 + 1 then 16 else _) = _
        rw [if_pos (by omega)]
        rfl
      · show ∀ i, jx_v _ (jx_n w + 4) i = .int 0
        intro i
        rw [ev, if_neg (by omega), if_pos (by omega)]
  · show jx_c w3 ≤ jx_c w3 - 1 - 1 + 2
    omega
  · show jx_s w3 ≤ jx_s w3 - 1 - 16 + 1000 * 2
    omega
  have q4 := h4.cs (k := 5) rfl
  refine jx_aload_n d_T_init_48 rfl rfl ?_
  refine jx_nw d_T_init_49 (n_T_29 hB) (by omega) (by omega) ?_
  refine jx_dup d_T_init_52 rfl ?_
  have hA4 : xA (jx_new w4 2 0 8 jx_d1) pa := by
    obtain ⟨a1, a2, a3⟩ := hA
    obtain ⟨p1, p2, p3⟩ := h4.2.1 pa hpa.1
    have p3 := p3 (by omega)
    refine ⟨?_, ?_, fun i hi => ?_⟩
    · rw [new_k, if_neg (by omega), p1]
      exact a1
    · rw [new_l, if_neg (by omega), p2]
      exact a2
    · rw [new_v, if_neg (by omega), p3]
      exact a3 i hi
  refine jx_callI (As := []) (rest := [.ref (jx_n w4), .ref b]) d_T_init_53 (m_X_init hB) (i_T_31 hB) rfl rfl rfl (Nat.le_of_ble_eq_true rfl) (Nat.le_of_ble_eq_true rfl) (w_X_init hB hB3 hA4 ⟨show pa < jx_n w4 + 1 by omega, by omega⟩ (if_pos rfl) (by omega) (Nat.lt_succ_self _) (show 24 ≤ jx_c w4 - 1 by omega) (show 24000 ≤ jx_s w4 - 8 by omega)) (fun v w5 h5 => ?_) (fun x a w5 h5 => by obtain ⟨h5, -⟩ := h5; cases h5)
  obtain ⟨e5, hX, hV⟩ := h5
  cases e5
  have hn4 : jx_n (jx_new w4 2 0 8 jx_d1) = jx_n w + 6 := by
    show jx_n w4 + 1 = _
    omega
  have x1 := hX.1
  rw [hn4] at x1
  have x1 : jx_n w5 = jx_n w + 6 + 24 := x1
  refine jx_putF d_T_init_56 (f_T_32 hB) (g_T_32 hB) (t_0_4 hB) rfl ?_ ho rfl rfl ?_
  · rw [(hX.2.1 b (by rw [hn4]; omega)).1, new_k, if_neg (by omega), h4.kb hb]
    exact hk
  refine jx_vret d_T_init_59 rfl ⟨rfl, ?_⟩
  refine h4.step (w1 := w5) hb (fun i hi => by show i ≠ 4; omega) (by decide) (by rw [x1]; rfl) (fun a ha => ?_) (fun o ho1 ho2 => ?_) ?_ ?_
  · obtain ⟨r1, r2, r3⟩ := hX.2.1 a (by rw [hn4]; omega)
    rw [r1, r2, r3 (by omega), new_k, new_l, new_v, if_neg (by omega), if_neg (by omega), if_neg (by omega)]
    exact ⟨rfl, rfl, rfl⟩
  · have ho1 : 5 ≤ o := ho1
    have ho2 : o < 30 := ho2
    by_cases e : o = 5
    · subst e
      obtain ⟨r1, r2, -⟩ := hX.2.1 (jx_n w + 5) (by rw [hn4]; omega)
      refine ⟨?_, ?_, ?_⟩
      · rw [r1, new_k, if_pos (by omega)]
        rfl
      · rw [r2, new_l, if_pos (by omega)]
        rfl
      · have e4 : jx_n w4 = jx_n w + 5 := q4.1
        show (∀ i, i < 7 → jx_v w5 (jx_n w + 5) i = .ref (jx_n w + 6 + xOff i)) ∧ jx_v w5 (jx_n w + 5) 7 = .int 0
        rw [← hn4, ← e4]
        refine ⟨fun i hi => hX.2.2.1 i hi, ?_⟩
        rw [hX.2.2.2.1 7 (fun i hi => by show 7 ≠ i; omega), new_v, if_pos rfl]
        rfl
    · obtain ⟨r1, r2, r3⟩ := hX.2.2.2.2.1 (o - 6) (show o - 6 < 24 by omega)
      rw [hn4, show jx_n w + 6 + (o - 6) = jx_n w + o by omega] at r1 r2 r3
      refine ⟨?_, ?_, ?_⟩
      · rw [r1]
        unfold tK
        rw [if_neg (by omega), if_neg (by omega), if_neg (by omega), if_neg e]
      · rw [r2]
        unfold tL
        rw [if_neg (by omega), if_neg (by omega)]
      · unfold tP
        rw [if_neg (by omega), if_neg (by omega), if_neg (by omega), if_neg e]
        by_cases e18 : o = 18
        · subst e18
          rw [if_pos rfl]
          intro j hj
          have := hV j hj
          rw [hn4] at this
          exact this
        · rw [if_neg e18]
          exact r3
  · have := hX.2.2.2.2.2.1
    have e : jx_c (jx_new w4 2 0 8 jx_d1) = jx_c w4 - 1 := rfl
    rw [e] at this
    have e2 : xOff 7 = 24 := rfl
    show jx_c w4 ≤ jx_c w5 + 25
    omega
  · have := hX.2.2.2.2.2.2
    have e : jx_s (jx_new w4 2 0 8 jx_d1) = jx_s w4 - 8 := rfl
    rw [e] at this
    have e2 : xOff 7 = 24 := rfl
    show jx_s w4 ≤ jx_s w5 + 1000 * 25
    omega
/-- where the cell (c, i) lies behind the class's own -/
def gO (c i : Nat) : Nat := if c = 2 then (if i < 5 then i - 1 else if i = 5 then 5 else if i = 6 then 4 else if i = 7 then 6 else if i = 8 then 7 else if i = 9 then 12 else if i = 10 then 17 else if i = 11 then 18 else if i = 12 then 19 else 25) else if c = 3 then 8 + i else if c = 4 then 13 + i else if c = 5 then 20 + i else 26 + i
def gV (o : Nat) : Nat × Nat := if o < 4 then (2, o + 1) else if o = 4 then (2, 6) else if o = 5 then (2, 5) else if o = 6 then (2, 7) else if o = 7 then (2, 8) else if o < 12 then (3, o - 8) else if o = 12 then (2, 9) else if o < 17 then (4, o - 13) else if o = 17 then (2, 10) else if o = 18 then (2, 11) else if o = 19 then (2, 12) else if o < 25 then (5, o - 20) else if o = 25 then (2, 13) else (6, o - 26)
def gA (b n c i : Nat) : Nat := if c = 2 ∧ i = 0 then b else n + gO c i
abbrev gOk (c i : Nat) : Prop := (c = 2 ∧ i < 14) ∨ ((c = 3 ∨ c = 4 ∨ c = 6) ∧ i < 4) ∨ (c = 5 ∧ i < 5)
def gB (c i : Nat) : Bool := (c == 2 && decide (0 < i) && decide (i < 14)) || ((c == 3 || c == 4 || c == 6) && decide (i < 4)) || (c == 5 && decide (i < 5))
theorem gO_ok2 : ∀ c : Nat, c < 7 → ∀ i : Nat, i < 14 → gB c i = true → (gO c i < 30 ∧ tK (gO c i) = cKd c i) ∧ (cKd c i < 100 ∨ tL (gO c i) = cLn c i) ∧ gV (gO c i) = (c, i) := by decide +kernel
theorem gO_ok (c : Nat) (hc : c < 7) (i : Nat) (hi : i < 14) (h : gOk c i) (hne : ¬ (c = 2 ∧ i = 0)) : gO c i < 30 ∧ tK (gO c i) = cKd c i ∧ (100 ≤ cKd c i → tL (gO c i) = cLn c i) ∧ gV (gO c i) = (c, i) := by
  have hg : gB c i = true := by
    unfold gB
    rcases h with ⟨rfl, h⟩ | ⟨rfl | rfl | rfl, h⟩ | ⟨rfl, h⟩
    · have h0 : 0 < i := by omega
      simp [h0, h]
    · simp [h]
    · simp [h]
    · simp [h]
    · simp [h]
  obtain ⟨⟨h1, h2⟩, h3, h4⟩ := gO_ok2 c hc i hi hg
  exact ⟨h1, h2, fun z => h3.resolve_left (by omega), h4⟩
theorem tOff_gO : ∀ s : Nat, s < 5 → tOff s = gO 2 (s + 1) := by decide
theorem xOff_gO : ∀ s : Nat, s < 7 → 6 + xOff s = gO 2 (s + 7) := by decide
/-- the class's first state -/
def cD0 : mS := fun f i => if f = 43 then vl i else 0
theorem gOk_of {c i : Nat} (h : cOk cD0 c i) : gOk c i ∧ c < 7 ∧ i < 14 := by
  have e33 : cD0 33 0 = 0 := rfl
  have e34 : cD0 34 0 = 0 := rfl
  unfold cOk at h
  rw [e33, e34] at h
  unfold gOk
  omega
theorem rl_init : rl (fun _ _ => 0) cD0 := by
  refine ⟨⟨rfl, rfl, rfl, rfl⟩, ⟨⟨by decide, by decide⟩, ⟨by decide, by decide⟩, ⟨by decide, by decide⟩, .inl rfl⟩, fun f i _ _ => ?_, fun p hp => ?_, fun t ht => ?_, fun p t hp ht => ⟨fun h => ?_, fun h => ?_, fun h => ?_⟩, fun i _ => rfl, fun s _ => rfl⟩
  · unfold mLo mHi
    constructor
    · show _ ≤ (0 : Int)
      split <;> omega
    · show (0 : Int) ≤ _
      (repeat' split) <;> omega
  · have hp : 0 ≤ p ∧ p < (0 : Int) := hp
    omega
  · have ht : 0 ≤ t ∧ t < (0 : Int) := ht
    omega
  · have h : p < (0 : Int) := h
    omega
  · have h : p < (0 : Int) := h
    omega
  · have h : t < (0 : Int) := h
    omega
theorem cR_init {w0 : jx_W} (h : tI w0 b z 5 w) (hz : jZ E z) (hk : jx_k w0 b = 1) (ho : E.1.heap.size ≤ b) (hb : b < jx_n w0) (hv : jx_v w0 b 5 = .int 0 ∧ jx_v w0 b 6 = .int 0) (hkz : jx_k w0 z = 105) (hlz : jx_l w0 z = 0) (hzn : z < jx_n w0) (hn : E.1.heap.size ≤ jx_n w0) : cR E cD0 w (gA b (jx_n w0)) (jx_n w) (jx_n w) := by
  have hnw : jx_n w = jx_n w0 + 30 := (h.cs (k := 30) rfl).1
  have hc : ∀ o, o < 30 → jx_k w (jx_n w0 + o) = tK o ∧ jx_l w (jx_n w0 + o) = tL o ∧ tP (jx_n w0) z o (jx_v w (jx_n w0 + o)) := h.2.2.2.2.1
  have hp : ∀ i, i < 5 → jx_v w b i = .ref (jx_n w0 + tOff i) := h.2.2.1
  have hx5 : jx_v w b 5 = .int 0 := (h.2.2.2.1 5 (fun i hi => by show 5 ≠ i; omega)).trans hv.1
  have hx6 : jx_v w b 6 = .int 0 := (h.2.2.2.1 6 (fun i hi => by show 6 ≠ i; omega)).trans hv.2
  have gn : ∀ c i, ¬ (c = 2 ∧ i = 0) → gA b (jx_n w0) c i = jx_n w0 + gO c i := fun c i hne => if_neg hne
  have g0 : gA b (jx_n w0) 2 0 = b := if_pos ⟨rfl, rfl⟩
  have hl : ∀ o, o < 3 → jx_v w (jx_n w0 + o) 0 = .ref z ∧ jx_v w (jx_n w0 + o) 1 = .int 0 ∧ jx_v w (jx_n w0 + o) 2 = .int 0 := fun o ho => by
    have := (hc o (by omega)).2.2
    unfold tP at this
    rw [if_pos ho] at this
    exact this
  have hx : ∀ o, 6 ≤ o → o < 30 → o ≠ 18 → xP (jx_n w0 + 6) z (o - 6) (jx_v w (jx_n w0 + o)) := fun o h1 h2 h3 => by
    have := (hc o h2).2.2
    unfold tP at this
    rw [if_neg (by omega), if_neg (by omega), if_neg (by omega), if_neg (by omega), if_neg h3] at this
    exact this
  have hl6 : jx_v w (jx_n w0 + 6) 0 = .ref z ∧ jx_v w (jx_n w0 + 6) 1 = .int 0 ∧ jx_v w (jx_n w0 + 6) 2 = .int 0 := hx 6 (by decide) (by decide) (by decide)
  have h3v : jx_v w (jx_n w0 + 3) 0 = .ref (jx_n w0 + 4) := (hc 3 (by decide)).2.2
  have h4v : ∀ i, jx_v w (jx_n w0 + 4) i = .int 0 := (hc 4 (by decide)).2.2
  have h5v : (∀ i, i < 7 → jx_v w (jx_n w0 + 5) i = .ref (jx_n w0 + 6 + xOff i)) ∧ jx_v w (jx_n w0 + 5) 7 = .int 0 := (hc 5 (by decide)).2.2
  have h18 : ∀ j : Nat, j < 32 → jx_v w (jx_n w0 + 18) j = .int (iI (vl j)) := (hc 18 (by decide)).2.2
  have hxo : ∀ o N, (o = 7 ∨ o = 12 ∨ o = 19 ∨ o = 25) → xL (o - 6) = N → ∀ i, i < N → jx_v w (jx_n w0 + o) i = .ref (jx_n w0 + 6 + (o - 6) + 1 + i) := fun o N h1 h2 i hi => by
    have := hx o (by omega) (by omega) (by omega)
    unfold xP at this
    rw [if_neg (by omega), if_pos (by omega)] at this
    exact this i (by rw [h2]; exact hi)
  have hxi : ∀ o, (8 ≤ o ∧ o ≤ 11) ∨ (13 ≤ o ∧ o ≤ 17) ∨ (26 ≤ o ∧ o ≤ 29) → ∀ i, jx_v w (jx_n w0 + o) i = .int 0 := fun o h1 => by
    have := hx o (by omega) (by omega) (by omega)
    unfold xP at this
    rw [if_neg (by omega), if_neg (by omega), if_neg (by omega), if_neg (by omega)] at this
    exact this
  have hxl : ∀ o, 20 ≤ o ∧ o ≤ 24 → ∀ i, jx_v w (jx_n w0 + o) i = .long 0 := fun o h1 => by
    have := hx o (by omega) (by omega) (by omega)
    unfold xP at this
    rw [if_neg (by omega), if_neg (by omega), if_neg (by omega), if_pos (by omega)] at this
    exact this
  refine ⟨fun c i hci => ?_, fun c i c2 i2 hci hci2 e => ?_, fun c i s c2 i2 hP => ?_, fun f i hf => ?_, fun j hj => ?_, Nat.le_refl _⟩
  · obtain ⟨k1, k2, k3⟩ := gOk_of hci
    by_cases e : c = 2 ∧ i = 0
    · obtain ⟨rfl, rfl⟩ := e
      rw [g0]
      exact ⟨(h.kb hb).trans hk, ho, by omega, .inl (by omega), fun hh => absurd hh (by decide)⟩
    · obtain ⟨q1, q2, q3, q4⟩ := gO_ok c k2 i k3 k1 e
      rw [gn c i e]
      obtain ⟨r1, r2, r3⟩ := hc _ q1
      exact ⟨r1.trans q2, by omega, by omega, .inl (by omega), fun hh => r2.trans (q3 hh)⟩
  · obtain ⟨k1, k2, k3⟩ := gOk_of hci
    obtain ⟨m1, m2, m3⟩ := gOk_of hci2
    by_cases e1 : c = 2 ∧ i = 0
    · by_cases e2 : c2 = 2 ∧ i2 = 0
      · omega
      · obtain ⟨rfl, rfl⟩ := e1
        rw [g0, gn c2 i2 e2] at e
        omega
    · obtain ⟨q1, q2, q3, q4⟩ := gO_ok c k2 i k3 k1 e1
      by_cases e2 : c2 = 2 ∧ i2 = 0
      · obtain ⟨rfl, rfl⟩ := e2
        rw [g0, gn c i e1] at e
        omega
      · obtain ⟨r1, r2, r3, r4⟩ := gO_ok c2 m2 i2 m3 m1 e2
        rw [gn c i e1, gn c2 i2 e2] at e
        rw [show gO c i = gO c2 i2 by omega, r4] at q4
        cases q4
        exact ⟨rfl, rfl⟩
  · obtain ⟨rfl, hP⟩ := hP
    rcases hP with ⟨rfl, hs, rfl, rfl⟩ | ⟨rfl, hs, rfl, rfl⟩ | ⟨rfl, rfl, rfl, rfl⟩ | ⟨rfl, hs, rfl, e2⟩ | ⟨rfl, hs, rfl, e2⟩ | ⟨rfl, hs, rfl, e2⟩ | ⟨rfl, hs, rfl, e2⟩
    · rw [g0, gn 2 (s + 1) (by omega), hp s hs]
      rw [tOff_gO s hs]
    · rw [gn 2 5 (by omega), gn 2 (s + 7) (by omega)]
      rw [← xOff_gO s hs, ← Nat.add_assoc]
      exact h5v.1 s hs
    · rw [gn 2 4 (by omega), gn 2 6 (by omega)]
      exact h3v
    · rw [e2, gn 2 8 (by omega), gn 3 s (by omega)]
      have := hxo 7 4 (by decide) rfl s hs
      rw [show jx_n w0 + 6 + (7 - 6) + 1 + s = jx_n w0 + gO 3 s by show _ = jx_n w0 + (8 + s); omega] at this
      exact this
    · rw [e2, gn 2 9 (by omega), gn 4 s (by omega)]
      have := hxo 12 4 (by decide) rfl s hs
      rw [show jx_n w0 + 6 + (12 - 6) + 1 + s = jx_n w0 + gO 4 s by show _ = jx_n w0 + (13 + s); omega] at this
      exact this
    · rw [e2, gn 2 12 (by omega), gn 5 s (by omega)]
      have := hxo 19 5 (by decide) rfl s hs
      rw [show jx_n w0 + 6 + (19 - 6) + 1 + s = jx_n w0 + gO 5 s by show _ = jx_n w0 + (20 + s); omega] at this
      exact this
    · rw [e2, gn 2 13 (by omega), gn 6 s (by omega)]
      have := hxo 25 4 (by decide) rfl s hs
      rw [show jx_n w0 + 6 + (25 - 6) + 1 + s = jx_n w0 + gO 6 s by show _ = jx_n w0 + (26 + s); omega] at this
      exact this
  · obtain ⟨a, q, s, e, hcase⟩ := cLoc_c hf
    rw [e]
    show jx_v w (gA b (jx_n w0) a q) s = cEn f (cD0 f i)
    have e33 : cD0 33 0 = 0 := rfl
    have e34 : cD0 34 0 = 0 := rfl
    have z0 : ∀ g, g ≠ 43 → g ≠ 44 → cEn g (cD0 g i) = .int 0 := fun g hg1 hg2 => by
      unfold cEn cD0
      rw [if_neg hg2, if_neg hg1]
      rfl
    have z44 : cEn 44 (cD0 44 i) = .long 0 := by
      unfold cEn cD0
      rw [if_pos rfl, if_neg (by decide)]
      rfl
    clear hf e
    rcases hcase with k | k | ⟨rfl, ⟨rfl, rfl, rfl, k1, k2⟩ | ⟨rfl, ⟨rfl, rfl, rfl⟩ | ⟨rfl, rfl, rfl⟩ | ⟨rfl, rfl, rfl⟩ | ⟨rfl, rfl, rfl⟩ | ⟨rfl, rfl, rfl⟩ | ⟨rfl, rfl, rfl⟩ | ⟨rfl, rfl, rfl⟩⟩ | ⟨rfl, rfl, rfl, k1, k2⟩ | ⟨rfl, rfl, rfl, k1, k2⟩⟩ | ⟨⟨rfl, rfl⟩ | ⟨rfl, rfl⟩ | ⟨rfl, rfl⟩, rfl, rfl, k1, k2, k3⟩ | ⟨rfl, rfl, rfl, rfl, k1, k2⟩
    · omega
    · omega
    · rw [z0 30 (by decide) (by decide), gn 2 6 (by omega)]
      exact h4v _
    · rw [z0 31 (by decide) (by decide), g0]
      exact hx5
    · rw [z0 32 (by decide) (by decide), g0]
      exact hx6
    · rw [z0 33 (by decide) (by decide), gn 2 1 (by omega)]
      exact (hl 0 (by decide)).2.1
    · rw [z0 34 (by decide) (by decide), gn 2 2 (by omega)]
      exact (hl 1 (by decide)).2.1
    · rw [z0 35 (by decide) (by decide), gn 2 3 (by omega)]
      exact (hl 2 (by decide)).2.1
    · rw [z0 36 (by decide) (by decide), gn 2 7 (by omega)]
      exact hl6.2.1
    · rw [z0 46 (by decide) (by decide), gn 2 5 (by omega)]
      exact h5v.2
    · rw [z0 42 (by decide) (by decide), gn 2 10 (by omega)]
      exact hxi 17 (by omega) _
    · rw [gn 2 11 (by omega)]
      have := h18 i.toNat (by omega)
      rw [Int.toNat_of_nonneg k1] at this
      exact this
    · rw [z0 40 (by decide) (by decide), gn 3 _ (by omega)]
      exact hxi (8 + (i / 32).toNat) (by omega) _
    · rw [z0 45 (by decide) (by decide), gn 6 _ (by omega)]
      exact hxi (26 + (i / 32).toNat) (by omega) _
    · rw [z44, gn 5 _ (by omega)]
      exact hxl (20 + (i / 32).toNat) (by omega) _
    · rw [z0 41 (by decide) (by decide), gn 4 _ (by omega)]
      exact hxi (13 + (i / 160).toNat) (by omega) _
  · obtain ⟨r1, r2, -⟩ := h.2.1 z hzn
    have hlist : jx_v w (gA b (jx_n w0) 2 (cLk j)) 0 = .ref z ∧ jx_v w (gA b (jx_n w0) 2 (cLk j)) 2 = .int 0 := by
      rcases cLk_c hj with ⟨rfl, e⟩ | ⟨rfl, e⟩ | ⟨rfl, e⟩ | ⟨rfl, e⟩
      · rw [e, gn 2 1 (by omega)]
        exact ⟨(hl 0 (by decide)).1, (hl 0 (by decide)).2.2⟩
      · rw [e, gn 2 2 (by omega)]
        exact ⟨(hl 1 (by decide)).1, (hl 1 (by decide)).2.2⟩
      · rw [e, gn 2 3 (by omega)]
        exact ⟨(hl 2 (by decide)).1, (hl 2 (by decide)).2.2⟩
      · rw [e, gn 2 7 (by omega)]
        exact ⟨hl6.1, hl6.2.2⟩
    have e0 : cD0 (33 + j) 0 = 0 := by
      unfold cD0
      rw [if_neg (by omega)]
    refine ⟨z, hlist.1, r1.trans hkz, by rw [e0]; decide, by rw [e0]; omega, by rw [r2, hlz]; decide, .inl ⟨r2.trans hlz, hz⟩, ⟨_, hlist.2⟩, fun i hi => ?_⟩
    rw [e0] at hi
    omega
end TIN
