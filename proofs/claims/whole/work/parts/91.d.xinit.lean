/-! 91.d.xinit: the exact planner's constructor -/
def xOff (n : Nat) : Nat := if n = 0 then 0 else if n = 1 then 1 else if n = 2 then 6 else if n = 3 then 11 else if n = 4 then 12 else if n = 5 then 13 else if n = 6 then 19 else 24
def xK (o : Nat) : Nat := if o = 0 then 7 else if o = 1 ∨ o = 6 ∨ o = 19 then 103 else if o = 13 then 104 else if 14 ≤ o ∧ o ≤ 18 then 101 else 100
def xL (o : Nat) : Nat := if o = 0 then 0 else if o = 1 ∨ o = 6 ∨ o = 19 then 4 else if 7 ≤ o ∧ o ≤ 10 then 160 else if o = 11 ∨ o = 13 then 5 else 32
def xP (n0 z o : Nat) (V : Nat → Value) : Prop := if o = 0 then V 0 = .ref z ∧ V 1 = .int 0 ∧ V 2 = .int 0 else if o = 1 ∨ o = 6 ∨ o = 13 ∨ o = 19 then (∀ i, i < xL o → V i = .ref (n0 + o + 1 + i)) else if o = 12 then True else if 14 ≤ o ∧ o ≤ 18 then (∀ i, V i = .long 0) else ∀ i, V i = .int 0
abbrev xI (w0 : jx_W) (b z n : Nat) (w : jx_W) : Prop := bI w0 b xOff (fun n => n) xK xL (xP (jx_n w0) z) n w
theorem xP_12 {n0 z : Nat} (V : Nat → Value) : xP n0 z 12 V := by
  unfold xP
  rw [if_neg (by decide), if_neg (by decide), if_pos rfl]
  trivial
theorem xP_i {n0 z o : Nat} (h : (2 ≤ o ∧ o ≤ 5) ∨ (7 ≤ o ∧ o ≤ 11) ∨ (20 ≤ o ∧ o ≤ 23)) : xP n0 z o (fun _ => .int 0) := by
  unfold xP
  rw [if_neg (by omega), if_neg (by omega), if_neg (by omega), if_neg (by omega)]
  exact fun _ => rfl
theorem xP_l {n0 z o : Nat} (h : 14 ≤ o ∧ o ≤ 18) : xP n0 z o (fun _ => .long 0) := by
  unfold xP
  rw [if_neg (by omega), if_neg (by omega), if_neg (by omega), if_pos h]
  exact fun _ => rfl
theorem xP_o {n0 z o N : Nat} (h : o = 1 ∨ o = 6 ∨ o = 13 ∨ o = 19) (hN : xL o = N) : xP n0 z o (fun i => if i < N then .ref (n0 + o + 1 + i) else .null) := by
  unfold xP
  rw [if_neg (by omega), if_pos h]
  intro i hi
  rw [hN] at hi
  show (if i < N then Value.ref (n0 + o + 1 + i) else .null) = _
  rw [if_pos hi]
theorem xP_0 {n0 z : Nat} {V : Nat → Value} (h0 : V 0 = .ref z) (h1 : V 1 = .int 0) (h2 : V 2 = .int 0) : xP n0 z 0 V := by
  unfold xP
  rw [if_pos rfl]
  exact ⟨h0, h1, h2⟩
/-- what a static field of the exact planner, and of the lists, holds -/
def jx_B3 (E : jx_E) (z pa : Nat) : Prop := jZ E z ∧ va_Z "TaskShare$ExactPlanner" "PLACE_VALUES" "[I" (.ref pa) (fun q => E.1.heap.size ≤ q) E.1 E.1.heap ∧ (Jvm.Cond.arrayOver (.array .int)).before #[] E.1 = true ∧ (Jvm.Cond.arrayOver (.array .long)).before #[] E.1 = true ∧ (∃ cell, E.1.heap[z]? = some cell ∧ jx_pic E 105 0 (fun _ => .null) cell) ∧ (∃ cell, E.1.heap[pa]? = some cell ∧ jx_pic E 100 5 (fun i => .int (iI (pv i))) cell) ∧ va_Nc (jx_xn 3) (jx_xn 1) E.1 ∧ va_Nc (jx_xn 1) (jx_xn 0) E.1 ∧ va_Nc (jx_xn 2) (jx_xn 0) E.1 ∧ va_Nc (jx_xn 2) (jx_xn 1) E.1
/-- values: below s they are told, at s as far as t -/
def xV (w0 : jx_W) (s t : Int) (w : jx_W) : Prop := ∀ j : Nat, j < 32 → jx_v w (jx_n w0 + 12) j = .int (iI (if (j : Int) < s then vl j else if (j : Int) = s then sSum (fun i => sBit s i * pv i) t else 0))
/-- the array of place values is known -/
def xA (w0 : jx_W) (pa : Nat) : Prop := jx_k w0 pa = 100 ∧ jx_l w0 pa = 5 ∧ ∀ i : Nat, i < 5 → jx_v w0 pa i = .int (iI (pv i))
section XIN
variable {E : jx_E} {l : Launch} {d : Nat} {Q : jx_R → jx_W → Prop} {w0 : jx_W} {b z pa : Nat}
theorem l_X_in (hB : jx_B E) (hB3 : jx_B3 E z pa) (hA : xA w0 pa) (hpa : pa < jx_n w0 ∧ pa ≠ b) (hk : jx_k w0 b = 2) (ho : E.1.heap.size ≤ jx_n w0) (hb : b < jx_n w0) {s : Int} (hs : 0 ≤ s ∧ s < 32) (K : ∀ w X, xI w0 b z 7 w → xV w0 s 5 w → jx_G E l Y_X_init d Q 116 [some (.ref b), some (.int (iI s)), X] [] w) :
    ∀ (j : Nat) (t : Int) (w : jx_W), xI w0 b z 7 w → xV w0 s t w → 0 ≤ t ∧ t ≤ 5 → 5 - t < j → jx_G E l Y_X_init d Q 85 [some (.ref b), some (.int (iI s)), some (.int (iI t))] [] w := by
  intro j
  induction j with
  | zero => intro t w _ _ h1 h2; omega
  | succ j ih =>
    intro t w hX hV ht hj
    have hkb : jx_k w b = 2 := (hX.kb hb).trans hk
    obtain ⟨a1, a2, a3⟩ := hA
    obtain ⟨p1, p2, p3⟩ := hX.2.1 pa hpa.1
    have p3 := p3 hpa.2
    have hv4 : jx_v w b 4 = .ref (jx_n w0 + 12) := hX.2.2.1 4 (by decide)
    obtain ⟨q1, q2, -⟩ := hX.2.2.2.2.1 12 (by decide)
    have q1 : jx_k w (jx_n w0 + 12) = 100 := q1
    have q2 : jx_l w (jx_n w0 + 12) = 32 := q2
    have hvs : jx_v w (jx_n w0 + 12) s.toNat = .int (iI (sSum (fun i => sBit s i * pv i) t)) := by
      rw [hV s.toNat (by omega), if_neg (by omega), if_pos (by omega)]
    have hvp : jx_v w pa t.toNat = .int (iI (pv t)) ∨ t = 5 := by
      by_cases e : t = 5
      · exact .inr e
      · left
        rw [p3, a3 t.toNat (by omega), Int.toNat_of_nonneg ht.1]
    refine jx_iload_n d_X_init_85 rfl rfl ?_
    refine jI_const d_X_init_86 ?_
    refine jI_icmp_ge (tgt := 116) d_X_init_87 (by decide) (by omega) (by omega) (fun hc => ?_) (fun hc => ?_)
    · have e : t = 5 := by omega
      subst e
      exact K w _ hX hV
    · have hvp : jx_v w pa t.toNat = .int (iI (pv t)) := hvp.resolve_right (by omega)
      refine jx_aload_n d_X_init_90 rfl rfl ?_
      refine jx_getv d_X_init_91 (f_X_30 hB) hkb hv4 ?_
      refine jx_iload_n d_X_init_94 rfl rfl ?_
      refine jx_dup2 d_X_init_95 rfl rfl ?_
      refine jI_iald (m := 32) d_X_init_96 q1 q2 (by decide) ⟨by omega, by omega⟩ hvs ?_
      refine jx_iload_n d_X_init_97 rfl rfl ?_
      refine jx_iload_n d_X_init_98 rfl rfl ?_
      refine jI_bit d_X_init_99 d_X_init_100 d_X_init_101 ⟨by omega, by omega⟩ ⟨by omega, by omega⟩ ?_
      refine jx_gets d_X_init_102 (y_pv hB) hB3.2.1 ?_
      refine jx_iload_n d_X_init_105 rfl rfl ?_
      refine jI_iald (m := 5) d_X_init_106 (p1.trans a1) (p2.trans a2) (by decide) ⟨by omega, by omega⟩ hvp ?_
      refine jI_mul d_X_init_107 ?_
      refine jI_add d_X_init_108 ?_
      refine jI_iast (m := 32) d_X_init_109 q1 q2 (by decide) ⟨by omega, by omega⟩ (by omega) ?_
      refine jI_inc d_X_init_110 rfl rfl ?_
      refine jx_goto (tgt := 85) d_X_init_113 (by decide) ?_
      refine ih (t + 1) _ (hX.putP hb (fun V => xP_12 V)) (fun i hi => ?_) ⟨by omega, by omega⟩ (by omega)
      rw [put_v]
      by_cases e : i = s.toNat
      · rw [if_pos ⟨rfl, e⟩, if_neg (by omega), if_pos (by omega), sSum_s _ ht.1]
      · rw [if_neg (fun z => e z.2), hV i hi]
        by_cases e2 : (i : Int) < s
        · rw [if_pos e2, if_pos e2]
        · rw [if_neg e2, if_neg e2, if_neg (by omega), if_neg (by omega)]
theorem l_X_out (hB : jx_B E) (hB3 : jx_B3 E z pa) (hA : xA w0 pa) (hpa : pa < jx_n w0 ∧ pa ≠ b) (hk : jx_k w0 b = 2) (ho : E.1.heap.size ≤ jx_n w0) (hb : b < jx_n w0) :
    ∀ (j : Nat) (s : Int) (w : jx_W) (X : Option Value), jx_free [some (.ref b), some (.int (iI s)), X] 2 = true → xI w0 b z 7 w → xV w0 s 0 w → 0 ≤ s ∧ s ≤ 32 → 32 - s < j → jx_G E l Y_X_init d (fun r w2 => r = .inr none ∧ xI w0 b z 7 w2 ∧ ∀ j : Nat, j < 32 → jx_v w2 (jx_n w0 + 12) j = .int (iI (vl j))) 77 [some (.ref b), some (.int (iI s)), X] [] w := by
  intro j
  induction j with
  | zero => intro s w X _ _ _ h1 h2; omega
  | succ j ih =>
    intro s w X hfr hX hV hs hj
    refine jx_iload_n d_X_init_77 rfl rfl ?_
    refine jI_bipush d_X_init_78 rfl ?_
    refine jI_icmp_ge (tgt := 122) d_X_init_80 (by decide) (by omega) (by omega) (fun hc => ?_) (fun hc => ?_)
    · refine jx_vret d_X_init_122 rfl ⟨rfl, hX, fun i hi => ?_⟩
      rw [hV i hi, if_pos (by omega)]
    · refine jI_const d_X_init_83 ?_
      refine jx_istore_n d_X_init_84 rfl (Nat.le_of_ble_eq_true rfl) hfr ?_
      refine l_X_in hB hB3 hA hpa hk ho hb ⟨hs.1, by omega⟩ (fun w2 X2 hX2 hV2 => ?_) 6 0 w hX ?_ ⟨by omega, by omega⟩ (by omega)
      · refine jI_inc d_X_init_116 rfl rfl ?_
        refine jx_goto (tgt := 77) d_X_init_119 (by decide) ?_
        refine ih (s + 1) w2 X2 rfl hX2 (fun i hi => ?_) ⟨by omega, by omega⟩ (by omega)
        rw [hV2 i hi]
        by_cases e2 : (i : Int) < s
        · rw [if_pos e2, if_pos (by omega)]
        · rw [if_neg e2]
          by_cases e3 : (i : Int) = s
          · rw [if_pos e3, if_pos (by omega), e3]
            rfl
          · rw [if_neg e3, if_neg (by omega)]
            by_cases e4 : (i : Int) = s + 1
            · rw [if_pos e4]
              rfl
            · rw [if_neg e4]
      · intro i hi
        rw [hV i hi]
theorem x_str : ("[" ++ (FieldType.array .int).toString) = "[[I" := by decide +kernel
theorem x_strJ : ("[" ++ (FieldType.array .long).toString) = "[[J" := by decide +kernel
theorem w_X_init {w : jx_W} (hB : jx_B E) (hB3 : jx_B3 E z pa) (hA : xA w pa) (hpa : pa < jx_n w ∧ pa ≠ b) (hk : jx_k w b = 2) (ho : E.1.heap.size ≤ b) (hb : b < jx_n w) (hc : 24 ≤ jx_c w) (hs : 24000 ≤ jx_s w) : jx_G E l Y_X_init (d + 4) (fun r w2 => r = .inr none ∧ xI w b z 7 w2 ∧ ∀ j : Nat, j < 32 → jx_v w2 (jx_n w + 12) j = .int (iI (vl j))) 0 (jx_ent [.ref b] 3) [] w := by
  show jx_G E l Y_X_init (d + 4) _ 0 [some (.ref b), none, none] [] w
  refine jx_aload_n d_X_init_0 rfl rfl ?_
  refine jx_objInit d_X_init_1 (y_oi_X hB) (y_oi2 hB) (y_oi3 hB) (Nat.le_of_ble_eq_true rfl) ?_
  have h0 : xI w b z 0 w := bI.zero rfl
  refine jx_aload_n d_X_init_4 rfl rfl ?_
  refine jx_nw d_X_init_5 (n_X_9 hB) (by omega) (by omega) ?_
  refine jx_dup d_X_init_8 rfl ?_
  refine jx_callI_r (As := []) (v := none) (rest := [.ref (jx_n w), .ref b]) d_X_init_9 (m_A_init hB) (i_X_11 hB) rfl rfl rfl (Nat.le_of_ble_eq_true rfl) (Nat.le_of_ble_eq_true rfl) (w_A_init hB hB3.1 (if_pos rfl) (by omega)) ?_
  refine jx_putF d_X_init_12 (f_X_12 hB) (g_X_12 hB) (t_1_0 hB) rfl ?_ ho rfl rfl ?_
  · show (if b = jx_n w then _ else jx_k w b) = _
    rw [if_neg (by omega)]
    exact hk
  refine jx_gen (h0.list hb (fun i hi => absurd hi (Nat.not_lt_zero i)) rfl rfl rfl (fun V v0 v1 v2 => xP_0 v0 v1 v2)) (fun w1 h1 => ?_)
  have q1 := h1.cs (k := 1) rfl
  refine jx_aload_n d_X_init_15 rfl rfl ?_
  refine jI_const d_X_init_16 ?_
  refine jI_bipush d_X_init_17 rfl ?_
  refine jx_multi (ty := .int) (ko := 103) (ki := 100) (N := 4) (M := 32) d_X_init_19 (by rw [x_str]; exact y_cl18 hB) hB3.2.2.1 (y_acI hB) rfl rfl (by decide) (by decide) rfl rfl rfl (by decide) (by decide) (by decide) rfl rfl (by decide) (by omega) (by omega) ?_
  refine jx_putF d_X_init_23 (f_X_20 hB) (g_X_20 hB) (t_1_1 hB) rfl ?_ ho rfl rfl ?_
  · rw [mu_k, if_neg (by omega), if_neg (by omega), h1.kb hb]
    exact hk
  refine jx_gen (h1.mu hb (fun i hi => by show i ≠ 1; omega) rfl rfl rfl (xP_o (.inl rfl) rfl) (fun i hi => ?_) (by decide)) (fun w2 h2 => ?_)
  · show xK (1 + 1 + i) = _ ∧ xL (1 + 1 + i) = _ ∧ xP _ z (1 + 1 + i) _
    exact ⟨by unfold xK; rw [if_neg (by omega), if_neg (by omega), if_neg (by omega), if_neg (by omega)], by unfold xL; rw [if_neg (by omega), if_neg (by omega), if_neg (by omega), if_neg (by omega)], xP_i (by omega)⟩
  have q2 := h2.cs (k := 6) rfl
  refine jx_aload_n d_X_init_26 rfl rfl ?_
  refine jI_const d_X_init_27 ?_
  refine jI_sipush d_X_init_28 rfl ?_
  refine jx_multi (ty := .int) (ko := 103) (ki := 100) (N := 4) (M := 160) d_X_init_31 (by rw [x_str]; exact y_cl18 hB) hB3.2.2.1 (y_acI hB) rfl rfl (by decide) (by decide) rfl rfl rfl (by decide) (by decide) (by decide) rfl rfl (by decide) (by omega) (by omega) ?_
  refine jx_putF d_X_init_35 (f_X_23 hB) (g_X_23 hB) (t_1_2 hB) rfl ?_ ho rfl rfl ?_
  · rw [mu_k, if_neg (by omega), if_neg (by omega), h2.kb hb]
    exact hk
  refine jx_gen (h2.mu hb (fun i hi => by show i ≠ 2; omega) rfl rfl rfl (xP_o (.inr (.inl rfl)) rfl) (fun i hi => ?_) (by decide)) (fun w3 h3 => ?_)
  · show xK (6 + 1 + i) = _ ∧ xL (6 + 1 + i) = _ ∧ xP _ z (6 + 1 + i) _
    exact ⟨by unfold xK; rw [if_neg (by omega), if_neg (by omega), if_neg (by omega), if_neg (by omega)], by unfold xL; rw [if_neg (by omega), if_neg (by omega), if_pos (by omega)], xP_i (by omega)⟩
  have q3 := h3.cs (k := 11) rfl
  refine jx_aload_n d_X_init_38 rfl rfl ?_
  refine jI_const d_X_init_39 ?_
  refine jx_newa (kd := 100) (N := 5) d_X_init_40 (y_acI hB) rfl (by decide) rfl (by decide) (by decide) (by decide) (by omega) (by omega) ?_
  refine jx_putF d_X_init_42 (f_X_26 hB) (g_X_26 hB) (t_1_3 hB) rfl ?_ ho rfl rfl ?_
  · rw [new_k, if_neg (by omega), h3.kb hb]
    exact hk
  refine jx_gen (h3.new hb (fun i hi => by show i ≠ 3; omega) rfl rfl rfl (xP_i (by decide)) (by decide)) (fun w4 h4 => ?_)
  have q4 := h4.cs (k := 12) rfl
  refine jx_aload_n d_X_init_45 rfl rfl ?_
  refine jI_bipush d_X_init_46 rfl ?_
  refine jx_newa (kd := 100) (N := 32) d_X_init_48 (y_acI hB) rfl (by decide) rfl (by decide) (by decide) (by decide) (by omega) (by omega) ?_
  refine jx_putF d_X_init_50 (f_X_30 hB) (g_X_30 hB) (t_1_4 hB) rfl ?_ ho rfl rfl ?_
  · rw [new_k, if_neg (by omega), h4.kb hb]
    exact hk
  have hv12 : ∀ j : Nat, jx_v (jx_put (jx_new w4 100 32 32 (fun _ => .int 0)) b 4 (.ref (jx_n w4))) (jx_n w + 12) j = .int 0 := fun j => by
    rw [put_v, if_neg (by omega), new_v, if_pos q4.1.symm]
  refine jx_gen (P := fun w' => xI w b z 5 w' ∧ ∀ j : Nat, jx_v w' (jx_n w + 12) j = .int 0) ⟨h4.new hb (fun i hi => by show i ≠ 4; omega) rfl rfl rfl (xP_12 _) (by decide), hv12⟩ (fun w5 h5 => ?_)
  obtain ⟨h5, v5⟩ := h5
  have q5 := h5.cs (k := 13) rfl
  refine jx_aload_n d_X_init_53 rfl rfl ?_
  refine jI_const d_X_init_54 ?_
  refine jI_bipush d_X_init_55 rfl ?_
  refine jx_multi (ty := .long) (ko := 104) (ki := 101) (N := 5) (M := 32) d_X_init_57 (by rw [x_strJ]; exact y_cl33 hB) hB3.2.2.2.1 (y_acJ hB) rfl rfl (by decide) (by decide) rfl rfl rfl (by decide) (by decide) (by decide) rfl rfl (by decide) (by omega) (by omega) ?_
  refine jx_putF d_X_init_61 (f_X_35 hB) (g_X_35 hB) (t_1_5 hB) rfl ?_ ho rfl rfl ?_
  · rw [mu_k, if_neg (by omega), if_neg (by omega), h5.kb hb]
    exact hk
  have hv6 : ∀ j : Nat, jx_v (jx_put (jx_mu w5 104 101 5 32 (.long 0)) b 5 (.ref (jx_n w5))) (jx_n w + 12) j = .int 0 := fun j => by
    rw [put_v, if_neg (by omega), mu_v, if_neg (by omega), if_neg (by omega)]
    exact v5 j
  refine jx_gen (P := fun w' => xI w b z 6 w' ∧ ∀ j : Nat, jx_v w' (jx_n w + 12) j = .int 0) ⟨h5.mu hb (fun i hi => by show i ≠ 5; omega) rfl rfl rfl (xP_o (.inr (.inr (.inl rfl))) rfl) (fun i hi => ?_) (by decide), hv6⟩ (fun w6 h6 => ?_)
  · show xK (13 + 1 + i) = _ ∧ xL (13 + 1 + i) = _ ∧ xP _ z (13 + 1 + i) _
    exact ⟨by unfold xK; rw [if_neg (by omega), if_neg (by omega), if_neg (by omega), if_pos (by omega)], by unfold xL; rw [if_neg (by omega), if_neg (by omega), if_neg (by omega), if_neg (by omega)], xP_l (by omega)⟩
  obtain ⟨h6, v6⟩ := h6
  have q6 := h6.cs (k := 19) rfl
  refine jx_aload_n d_X_init_64 rfl rfl ?_
  refine jI_const d_X_init_65 ?_
  refine jI_bipush d_X_init_66 rfl ?_
  refine jx_multi (ty := .int) (ko := 103) (ki := 100) (N := 4) (M := 32) d_X_init_68 (by rw [x_str]; exact y_cl18 hB) hB3.2.2.1 (y_acI hB) rfl rfl (by decide) (by decide) rfl rfl rfl (by decide) (by decide) (by decide) rfl rfl (by decide) (by omega) (by omega) ?_
  refine jx_putF d_X_init_72 (f_X_38 hB) (g_X_38 hB) (t_1_6 hB) rfl ?_ ho rfl rfl ?_
  · rw [mu_k, if_neg (by omega), if_neg (by omega), h6.kb hb]
    exact hk
  have hv7 : ∀ j : Nat, jx_v (jx_put (jx_mu w6 103 100 4 32 (.int 0)) b 6 (.ref (jx_n w6))) (jx_n w + 12) j = .int 0 := fun j => by
    rw [put_v, if_neg (by omega), mu_v, if_neg (by omega), if_neg (by omega)]
    exact v6 j
  refine jx_gen (P := fun w' => xI w b z 7 w' ∧ ∀ j : Nat, jx_v w' (jx_n w + 12) j = .int 0) ⟨h6.mu hb (fun i hi => by show i ≠ 6; omega) rfl rfl rfl (xP_o (.inr (.inr (.inr rfl))) rfl) (fun i hi => ?_) (by decide), hv7⟩ (fun w7 h7 => ?_)
  · show xK (19 + 1 + i) = _ ∧ xL (19 + 1 + i) = _ ∧ xP _ z (19 + 1 + i) _
    exact ⟨by unfold xK; rw [if_neg (by omega), if_neg (by omega), if_neg (by omega), if_neg (by omega)], by unfold xL; rw [if_neg (by omega), if_neg (by omega), if_neg (by omega), if_neg (by omega)], xP_i (by omega)⟩
  obtain ⟨h7, v7⟩ := h7
  refine jI_const d_X_init_75 ?_
  refine jx_istore_n d_X_init_76 rfl (Nat.le_of_ble_eq_true rfl) rfl ?_
  refine l_X_out hB hB3 hA hpa hk (by omega) hb 33 0 w7 none rfl h7 (fun j hj => ?_) ⟨by omega, by omega⟩ (by omega)
  rw [v7 j, if_neg (by omega)]
  by_cases e : (j : Int) = 0
  · rw [if_pos e]
    rfl
  · rw [if_neg e]
    rfl
end XIN
