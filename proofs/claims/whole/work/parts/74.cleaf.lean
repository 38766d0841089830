/-! 74.cleaf: small methods of the class -/
theorem w_Y_between {E : jx_E} {l : Launch} {d : Nat} {w : jx_W} {D : mS} {G : Nat → Nat → Nat} {lo hi : Nat} {z o : Int} (hB : jx_B E) (hC : cR E D w G lo hi) (hz : 0 ≤ z ∧ z ≤ 3) (ho : 0 ≤ o ∧ o ≤ 3) : jx_G E l Y_Y_between (d) (jx_eq (.inr (some (.int (iI (D 30 (z * 4 + o)))))) w) 0 (jx_ent [.ref (G 2 4), .int (iI (z)), .int (iI (o))] 3) [] w := by
  show jx_G E l Y_Y_between (d) _ 0 [some (.ref (G 2 4)), some (.int (iI (z))), some (.int (iI (o)))] [] w
  refine jx_aload_n d_Y_between_0 rfl rfl ?_
  refine cx_ptr (c2 := 2) (x2 := 6) d_Y_between_1 (f_Y_9 hB) hC (by decide) (by decide) rfl ?_
  refine jx_iload_n d_Y_between_4 rfl rfl ?_
  refine jI_const d_Y_between_5 ?_
  refine jI_mul d_Y_between_6 ?_
  refine jx_iload_n d_Y_between_7 rfl rfl ?_
  refine jI_add d_Y_between_8 ?_
  refine cx_ld30 d_Y_between_9 hC (by omega) ?_
  exact jx_iret d_Y_between_10 rfl ⟨jr_i (by rfl), rfl⟩
theorem w_P_hasSkill {E : jx_E} {l : Launch} {d : Nat} {w : jx_W} {D S : mS} {G : Nat → Nat → Nat} {lo hi : Nat} {p s : Int} (hB : jx_B E) (hC : cR E D w G lo hi) (hR : rl S D) (hp : 0 ≤ p ∧ p < S 0 0) (hs : 0 ≤ s ∧ s ≤ 30) : jx_G E l Y_P_hasSkill (d) (jx_eq (.inr (some (.int (iI (if sBit (D 3 p) s = 1 then 1 else 0))))) w) 0 (jx_ent [.ref (G 0 (p).toNat), .int (iI (s))] 2) [] w := by
  show jx_G E l Y_P_hasSkill (d) _ 0 [some (.ref (G 0 (p).toNat)), some (.int (iI (s)))] [] w
  have hN := hR.N
  refine jx_aload_n d_P_hasSkill_0 rfl rfl ?_
  refine cx_P 3 d_P_hasSkill_1 (f_P_22 hB) hC (by decide) (by omega) ?_
  have a1 : 0 ≤ D 3 p ∧ D 3 p ≤ 255 := (hR.Pr (p := p) (by omega)).2.2.1
  have a2 : D 3 p = S 4 p := (hR.P (p := p) (by omega)).1.2.2.2.1
  refine jx_iload_n d_P_hasSkill_4 rfl rfl ?_
  refine jI_bit d_P_hasSkill_5 d_P_hasSkill_6 d_P_hasSkill_7 ⟨by omega, by omega⟩ ⟨by omega, by omega⟩ ?_
  have b3 := sBit_01 (D 3 p) s
  refine jI_const d_P_hasSkill_8 ?_
  refine jI_icmp_ne (tgt := 16) d_P_hasSkill_9 (by decide) (by omega) (by omega) (fun hc4 => ?_) (fun hc4 => ?_)
  · refine jI_const d_P_hasSkill_16 ?_
    exact jx_zret d_P_hasSkill_17 rfl (jI_bool (by omega)) ⟨jr_i (by first | (rw [if_pos (by omega)]) | (rw [if_neg (by omega)]) | (exfalso; omega)), rfl⟩
  · refine jI_const d_P_hasSkill_12 ?_
    refine jx_goto (tgt := 17) d_P_hasSkill_13 (by decide) ?_
    exact jx_zret d_P_hasSkill_17 rfl (jI_bool (by omega)) ⟨jr_i (by first | (rw [if_pos (by omega)]) | (rw [if_neg (by omega)]) | (exfalso; omega)), rfl⟩
theorem w_P_hasRefused {E : jx_E} {l : Launch} {d : Nat} {w : jx_W} {D S : mS} {G : Nat → Nat → Nat} {lo hi : Nat} {p t : Int} (hB : jx_B E) (hC : cR E D w G lo hi) (hR : rl S D) (hp : 0 ≤ p ∧ p < S 0 0) (ht : 0 ≤ t ∧ t < S 1 0) : jx_G E l Y_P_hasRefused (d) (jx_eq (.inr (some (.int (iI (if sBit (D 10 p) (D 20 t) = 1 then 1 else 0))))) w) 0 (jx_ent [.ref (G 0 (p).toNat), .ref (G 1 (t).toNat)] 2) [] w := by
  show jx_G E l Y_P_hasRefused (d) _ 0 [some (.ref (G 0 (p).toNat)), some (.ref (G 1 (t).toNat))] [] w
  have hN := hR.N
  refine jx_aload_n d_P_hasRefused_0 rfl rfl ?_
  refine cx_P 10 d_P_hasRefused_1 (f_P_34 hB) hC (by decide) (by omega) ?_
  have a1 : 0 ≤ D 10 p ∧ D 10 p < 65536 := (hR.Pr (p := p) (by omega)).2.2.2.2.2.2.2.2.2
  refine jx_aload_n d_P_hasRefused_4 rfl rfl ?_
  refine cx_K 0 (f := 20) rfl d_P_hasRefused_5 (f_P_37 hB) hC (by decide) (by omega) ?_
  have a2 : D 20 t = t := (hR.Kr (t := t) (by omega)).1
  refine jI_bit d_P_hasRefused_8 d_P_hasRefused_9 d_P_hasRefused_10 ⟨by omega, by omega⟩ ⟨by omega, by omega⟩ ?_
  have b3 := sBit_01 (D 10 p) (D 20 t)
  refine jI_const d_P_hasRefused_11 ?_
  refine jI_icmp_ne (tgt := 19) d_P_hasRefused_12 (by decide) (by omega) (by omega) (fun hc4 => ?_) (fun hc4 => ?_)
  · refine jI_const d_P_hasRefused_19 ?_
    exact jx_zret d_P_hasRefused_20 rfl (jI_bool (by omega)) ⟨jr_i (by first | (rw [if_pos (by omega)]) | (rw [if_neg (by omega)]) | (exfalso; omega)), rfl⟩
  · refine jI_const d_P_hasRefused_15 ?_
    refine jx_goto (tgt := 20) d_P_hasRefused_16 (by decide) ?_
    exact jx_zret d_P_hasRefused_20 rfl (jI_bool (by omega)) ⟨jr_i (by first | (rw [if_pos (by omega)]) | (rw [if_neg (by omega)]) | (exfalso; omega)), rfl⟩
theorem w_P_may {E : jx_E} {l : Launch} {d : Nat} {w : jx_W} {D S : mS} {G : Nat → Nat → Nat} {lo hi : Nat} {p t : Int} (hB : jx_B E) (hC : cR E D w G lo hi) (hR : rl S D) (hp : 0 ≤ p ∧ p < S 0 0) (ht : 0 ≤ t ∧ t < S 1 0) : jx_G E l Y_P_may (d + 1) (jx_eq (.inr (some (.int (iI (sMay S p t))))) w) 0 (jx_ent [.ref (G 0 (p).toNat), .ref (G 1 (t).toNat)] 2) [] w := by
  show jx_G E l Y_P_may (d + 1) _ 0 [some (.ref (G 0 (p).toNat)), some (.ref (G 1 (t).toNat))] [] w
  have hN := hR.N
  refine jx_aload_n d_P_may_0 rfl rfl ?_
  refine cx_P 7 d_P_may_1 (f_P_9 hB) hC (by decide) (by omega) ?_
  have a1 : 0 ≤ D 7 p ∧ D 7 p ≤ 1 := (hR.Pr (p := p) (by omega)).2.2.2.2.2.2.1
  have a2 : D 7 p = S 10 p := (hR.P (p := p) (by omega)).1.2.2.2.2.2.1
  refine jI_if_eq (tgt := 30) d_P_may_4 (by decide) (by omega) (fun hc3 => ?_) (fun hc3 => ?_)
  · refine jI_const d_P_may_30 ?_
    exact jx_zret d_P_may_31 rfl (jI_bool (by omega)) ⟨jr_i (by rw [← hR.may hp ht]; first | (rw [if_pos (by omega)]) | (rw [if_neg (by omega)]) | (exfalso; omega)), rfl⟩
  · refine jx_aload_n d_P_may_7 rfl rfl ?_
    refine jx_aload_n d_P_may_8 rfl rfl ?_
    refine cx_K 1 (f := 21) rfl d_P_may_9 (f_P_40 hB) hC (by decide) (by omega) ?_
    have a4 : D 21 t = S 14 t := (hR.K (t := t) (by omega)).1.2.1
    have a5 : 0 ≤ D 21 t ∧ D 21 t ≤ 7 := (hR.Kr (t := t) (by omega)).2.1
    refine jx_callV_r (As := [.int (iI (D 21 t))]) (v := some (.int (iI (if sBit (D 3 p) (D 21 t) = 1 then 1 else 0)))) d_P_may_12 (m_P_hasSkill hB) (v_P_43 hB) (by decide) (jx_c2 hB) (by rw [hC.kd (.inl ⟨rfl, by omega⟩)]; rfl) rfl (Nat.le_of_ble_eq_true rfl) (Nat.le_of_ble_eq_true rfl) (w_P_hasSkill hB hC hR (p := p) (s := D 21 t) (by omega) (by omega)) ?_
    have q6 := ite01 (sBit (D 3 p) (D 21 t) = 1)
    have a7 : sBit (D 3 p) (D 21 t) = sBit (S 4 p) (D 21 t) := by rw [(hR.P (p := p) (by omega)).1.2.2.2.1]
    have b8 := sBit_01 (S 4 p) (D 21 t)
    refine jI_if_eq (tgt := 30) d_P_may_15 (by decide) (by omega) (fun hc9 => ?_) (fun hc9 => ?_)
    · refine jI_const d_P_may_30 ?_
      exact jx_zret d_P_may_31 rfl (jI_bool (by omega)) ⟨jr_i (by rw [← hR.may hp ht]; first | (rw [if_pos (by omega)]) | (rw [if_neg (by omega)]) | (exfalso; omega)), rfl⟩
    · refine jx_aload_n d_P_may_18 rfl rfl ?_
      refine jx_aload_n d_P_may_19 rfl rfl ?_
      refine jx_callV_r (As := [.ref (G 1 (t).toNat)]) (v := some (.int (iI (if sBit (D 10 p) (D 20 t) = 1 then 1 else 0)))) d_P_may_20 (m_P_hasRefused hB) (v_P_47 hB) (by decide) (jx_c2 hB) (by rw [hC.kd (.inl ⟨rfl, by omega⟩)]; rfl) rfl (Nat.le_of_ble_eq_true rfl) (Nat.le_of_ble_eq_true rfl) (w_P_hasRefused hB hC hR (p := p) (t := t) (by omega) (by omega)) ?_
      have q10 := ite01 (sBit (D 10 p) (D 20 t) = 1)
      have a11 : sBit (D 10 p) (D 20 t) = sBit (S 18 t) p := by rw [(hR.Kr (t := t) (by omega)).1]; exact hR.B (by omega) (by omega)
      have b12 := sBit_01 (S 18 t) p
      refine jI_if_ne (tgt := 30) d_P_may_23 (by decide) (by omega) (fun hc13 => ?_) (fun hc13 => ?_)
      · refine jI_const d_P_may_30 ?_
        exact jx_zret d_P_may_31 rfl (jI_bool (by omega)) ⟨jr_i (by rw [← hR.may hp ht]; first | (rw [if_pos (by omega)]) | (rw [if_neg (by omega)]) | (exfalso; omega)), rfl⟩
      · refine jI_const d_P_may_26 ?_
        refine jx_goto (tgt := 31) d_P_may_27 (by decide) ?_
        exact jx_zret d_P_may_31 rfl (jI_bool (by omega)) ⟨jr_i (by rw [← hR.may hp ht]; first | (rw [if_pos (by omega)]) | (rw [if_neg (by omega)]) | (exfalso; omega)), rfl⟩
theorem may_here {S D : mS} {p t : Int} (hR : rl S D) (hp : 0 ≤ p ∧ p < S 0 0) : sMay S p t = 1 → D 7 p = 1 := by
  intro h
  have h1 := (hR.Pr hp).2.2.2.2.2.2.1
  have h2 := (hR.P hp).1.2.2.2.2.2.1
  unfold sMay at h
  by_cases c : S 10 p ≠ 0 ∧ sBit (S 4 p) (S 14 t) = 1 ∧ sRef S p t = 0
  · have := c.1
    omega
  · rw [if_neg c] at h
    omega
theorem w_P_freeFrom {E : jx_E} {l : Launch} {d : Nat} {w : jx_W} {D S : mS} {G : Nat → Nat → Nat} {lo hi : Nat} {p n : Int} (hB : jx_B E) (hC : cR E D w G lo hi) (hR : rl S D) (hp : 0 ≤ p ∧ p < S 0 0) (hn : 0 ≤ n ∧ n ≤ 100000) : jx_G E l Y_P_freeFrom (d + 1) (jx_eq (.inr (some (.int (iI (sGr n (sGr (D 1 p) (D 9 p))))))) w) 0 (jx_ent [.ref (G 0 (p).toNat), .int (iI (n))] 2) [] w := by
  show jx_G E l Y_P_freeFrom (d + 1) _ 0 [some (.ref (G 0 (p).toNat)), some (.int (iI (n)))] [] w
  have hN := hR.N
  refine jx_iload_n d_P_freeFrom_0 rfl rfl ?_
  refine jx_aload_n d_P_freeFrom_1 rfl rfl ?_
  refine cx_P 1 d_P_freeFrom_2 (f_P_25 hB) hC (by decide) (by omega) ?_
  have a1 : 0 ≤ D 1 p ∧ D 1 p ≤ 100000 := (hR.Pr (p := p) (by omega)).1
  have a2 : D 1 p = S 5 p := (hR.P (p := p) (by omega)).1.2.1
  refine jx_aload_n d_P_freeFrom_5 rfl rfl ?_
  refine cx_P 9 d_P_freeFrom_6 (f_P_51 hB) hC (by decide) (by omega) ?_
  have a3 : 0 ≤ D 9 p ∧ D 9 p ≤ 105000 := (hR.Pr (p := p) (by omega)).2.2.2.2.2.2.2.2.1
  refine jI_max d_P_freeFrom_9 (h_P_54 hB) (h_max1 hB) (h_math hB) (h_max2 hB) (Nat.le_of_ble_eq_true rfl) (by omega) (by omega) ?_
  have g4 : (D 1 p ≤ sGr (D 1 p) (D 9 p) ∧ D 9 p ≤ sGr (D 1 p) (D 9 p)) ∧ (sGr (D 1 p) (D 9 p) = D 1 p ∨ sGr (D 1 p) (D 9 p) = D 9 p) := by unfold sGr; split <;> omega
  refine jI_max d_P_freeFrom_12 (h_P_54 hB) (h_max1 hB) (h_math hB) (h_max2 hB) (Nat.le_of_ble_eq_true rfl) (by omega) (by omega) ?_
  have g5 : (n ≤ sGr n (sGr (D 1 p) (D 9 p)) ∧ sGr (D 1 p) (D 9 p) ≤ sGr n (sGr (D 1 p) (D 9 p))) ∧ (sGr n (sGr (D 1 p) (D 9 p)) = n ∨ sGr n (sGr (D 1 p) (D 9 p)) = sGr (D 1 p) (D 9 p)) := by unfold sGr; split <;> omega
  exact jx_iret d_P_freeFrom_15 rfl ⟨jr_i (by rfl), rfl⟩
theorem w_P_startOf {E : jx_E} {l : Launch} {d : Nat} {w : jx_W} {D S : mS} {G : Nat → Nat → Nat} {lo hi : Nat} {p t r z : Int} (hB : jx_B E) (hC : cR E D w G lo hi) (hR : rl S D) (hp : 0 ≤ p ∧ p < S 0 0) (ht : 0 ≤ t ∧ t < S 1 0) (hr : 0 ≤ r ∧ r ≤ 200000) (hz : 0 ≤ z ∧ z ≤ 3) : jx_G E l Y_P_startOf (d + 1) (jx_eq (.inr (some (.int (iI (sStart S p t r z))))) w) 0 (jx_ent [.ref (G 0 (p).toNat), .ref (G 1 (t).toNat), .int (iI (r)), .int (iI (z)), .ref (G 2 4)] 6) [] w := by
  show jx_G E l Y_P_startOf (d + 1) _ 0 [some (.ref (G 0 (p).toNat)), some (.ref (G 1 (t).toNat)), some (.int (iI (r))), some (.int (iI (z))), some (.ref (G 2 4)), none] [] w
  have hN := hR.N
  refine jx_iload_n d_P_startOf_0 rfl rfl ?_
  refine jx_aload d_P_startOf_1 rfl ?_
  refine jx_iload_n d_P_startOf_3 rfl rfl ?_
  refine jx_aload_n d_P_startOf_4 rfl rfl ?_
  refine cx_K 4 (f := 24) rfl d_P_startOf_5 (f_P_60 hB) hC (by decide) (by omega) ?_
  have a1 : D 24 t = S 17 t := (hR.K (t := t) (by omega)).1.2.2.2.2.1
  have a2 : 0 ≤ D 24 t ∧ D 24 t ≤ 3 := (hR.Kr (t := t) (by omega)).2.2.2.2.1
  refine jx_callV_r (As := [.int (iI (z)), .int (iI (D 24 t))]) (v := some (.int (iI (D 30 (z * 4 + (D 24 t)))))) d_P_startOf_8 (m_Y_between hB) (v_P_61 hB) (by decide) (jx_c4 hB) (by rw [hC.kd (.inr (.inr (.inl ⟨rfl, by decide⟩)))]; rfl) rfl (Nat.le_of_ble_eq_true rfl) (Nat.le_of_ble_eq_true rfl) (w_Y_between hB hC (z := z) (o := D 24 t) (by omega) (by omega)) ?_
  have a3 : 0 ≤ D 30 (z * 4 + (D 24 t)) ∧ D 30 (z * 4 + (D 24 t)) ≤ 1000 := hR.Wr (by omega)
  refine jI_add d_P_startOf_11 ?_
  refine jx_istore d_P_startOf_12 (Nat.le_of_ble_eq_true rfl) rfl ?_
  try dsimp only [List.set]
  refine jx_iload d_P_startOf_14 rfl ?_
  refine jx_aload_n d_P_startOf_16 rfl rfl ?_
  refine cx_P 6 d_P_startOf_17 (f_P_66 hB) hC (by decide) (by omega) ?_
  have a4 : 0 ≤ D 6 p ∧ D 6 p ≤ 100000 := (hR.Pr (p := p) (by omega)).2.2.2.2.2.1
  refine jI_icmp_ge (tgt := 43) d_P_startOf_20 (by decide) (by omega) (by omega) (fun hc5 => ?_) (fun hc5 => ?_)
  · refine jx_iload d_P_startOf_43 rfl ?_
    refine jx_aload_n d_P_startOf_45 rfl rfl ?_
    refine cx_K 2 (f := 22) rfl d_P_startOf_46 (f_P_69 hB) hC (by decide) (by omega) ?_
    have a6 : D 22 t = S 15 t := (hR.K (t := t) (by omega)).1.2.2.1
    have a7 : 1 ≤ D 22 t ∧ D 22 t ≤ 5000 := (hR.Kr (t := t) (by omega)).2.2.1
    refine jI_add d_P_startOf_49 ?_
    refine jx_aload_n d_P_startOf_50 rfl rfl ?_
    refine cx_P 2 d_P_startOf_51 (f_P_28 hB) hC (by decide) (by omega) ?_
    have a8 : 0 ≤ D 2 p ∧ D 2 p ≤ 100000 := (hR.Pr (p := p) (by omega)).2.1
    have a9 : D 2 p = S 6 p := (hR.P (p := p) (by omega)).1.2.2.1
    refine jI_icmp_le (tgt := 61) d_P_startOf_54 (by decide) (by omega) (by omega) (fun hc10 => ?_) (fun hc10 => ?_)
    · refine jx_iload d_P_startOf_61 rfl ?_
      exact jx_iret d_P_startOf_63 rfl ⟨jr_i (by rw [← hR.start hp ht hr.1 (by omega)]; unfold cSt; (repeat' split) <;> omega), rfl⟩
    · refine jI_const d_P_startOf_57 ?_
      refine jx_goto (tgt := 63) d_P_startOf_58 (by decide) ?_
      exact jx_iret d_P_startOf_63 rfl ⟨jr_i (by rw [← hR.start hp ht hr.1 (by omega)]; unfold cSt; (repeat' split) <;> omega), rfl⟩
  · refine jx_iload d_P_startOf_23 rfl ?_
    refine jx_aload_n d_P_startOf_25 rfl rfl ?_
    refine cx_K 2 (f := 22) rfl d_P_startOf_26 (f_P_69 hB) hC (by decide) (by omega) ?_
    have a11 : D 22 t = S 15 t := (hR.K (t := t) (by omega)).1.2.2.1
    have a12 : 1 ≤ D 22 t ∧ D 22 t ≤ 5000 := (hR.Kr (t := t) (by omega)).2.2.1
    refine jI_add d_P_startOf_29 ?_
    refine jx_aload_n d_P_startOf_30 rfl rfl ?_
    refine cx_P 5 d_P_startOf_31 (f_P_72 hB) hC (by decide) (by omega) ?_
    have a13 : 0 ≤ D 5 p ∧ D 5 p ≤ 100000 := (hR.Pr (p := p) (by omega)).2.2.2.2.1
    refine jI_icmp_le (tgt := 43) d_P_startOf_34 (by decide) (by omega) (by omega) (fun hc14 => ?_) (fun hc14 => ?_)
    · refine jx_iload d_P_startOf_43 rfl ?_
      refine jx_aload_n d_P_startOf_45 rfl rfl ?_
      refine cx_K 2 (f := 22) rfl d_P_startOf_46 (f_P_69 hB) hC (by decide) (by omega) ?_
      have a15 : D 22 t = S 15 t := (hR.K (t := t) (by omega)).1.2.2.1
      have a16 : 1 ≤ D 22 t ∧ D 22 t ≤ 5000 := (hR.Kr (t := t) (by omega)).2.2.1
      refine jI_add d_P_startOf_49 ?_
      refine jx_aload_n d_P_startOf_50 rfl rfl ?_
      refine cx_P 2 d_P_startOf_51 (f_P_28 hB) hC (by decide) (by omega) ?_
      have a17 : 0 ≤ D 2 p ∧ D 2 p ≤ 100000 := (hR.Pr (p := p) (by omega)).2.1
      have a18 : D 2 p = S 6 p := (hR.P (p := p) (by omega)).1.2.2.1
      refine jI_icmp_le (tgt := 61) d_P_startOf_54 (by decide) (by omega) (by omega) (fun hc19 => ?_) (fun hc19 => ?_)
      · refine jx_iload d_P_startOf_61 rfl ?_
        exact jx_iret d_P_startOf_63 rfl ⟨jr_i (by rw [← hR.start hp ht hr.1 (by omega)]; unfold cSt; (repeat' split) <;> omega), rfl⟩
      · refine jI_const d_P_startOf_57 ?_
        refine jx_goto (tgt := 63) d_P_startOf_58 (by decide) ?_
        exact jx_iret d_P_startOf_63 rfl ⟨jr_i (by rw [← hR.start hp ht hr.1 (by omega)]; unfold cSt; (repeat' split) <;> omega), rfl⟩
    · refine jx_aload_n d_P_startOf_37 rfl rfl ?_
      refine cx_P 6 d_P_startOf_38 (f_P_66 hB) hC (by decide) (by omega) ?_
      have a20 : 0 ≤ D 6 p ∧ D 6 p ≤ 100000 := (hR.Pr (p := p) (by omega)).2.2.2.2.2.1
      refine jx_istore d_P_startOf_41 (Nat.le_of_ble_eq_true rfl) rfl ?_
      try dsimp only [List.set]
      refine jx_iload d_P_startOf_43 rfl ?_
      refine jx_aload_n d_P_startOf_45 rfl rfl ?_
      refine cx_K 2 (f := 22) rfl d_P_startOf_46 (f_P_69 hB) hC (by decide) (by omega) ?_
      have a21 : D 22 t = S 15 t := (hR.K (t := t) (by omega)).1.2.2.1
      have a22 : 1 ≤ D 22 t ∧ D 22 t ≤ 5000 := (hR.Kr (t := t) (by omega)).2.2.1
      refine jI_add d_P_startOf_49 ?_
      refine jx_aload_n d_P_startOf_50 rfl rfl ?_
      refine cx_P 2 d_P_startOf_51 (f_P_28 hB) hC (by decide) (by omega) ?_
      have a23 : 0 ≤ D 2 p ∧ D 2 p ≤ 100000 := (hR.Pr (p := p) (by omega)).2.1
      have a24 : D 2 p = S 6 p := (hR.P (p := p) (by omega)).1.2.2.1
      refine jI_icmp_le (tgt := 61) d_P_startOf_54 (by decide) (by omega) (by omega) (fun hc25 => ?_) (fun hc25 => ?_)
      · refine jx_iload d_P_startOf_61 rfl ?_
        exact jx_iret d_P_startOf_63 rfl ⟨jr_i (by rw [← hR.start hp ht hr.1 (by omega)]; unfold cSt; (repeat' split) <;> omega), rfl⟩
      · refine jI_const d_P_startOf_57 ?_
        refine jx_goto (tgt := 63) d_P_startOf_58 (by decide) ?_
        exact jx_iret d_P_startOf_63 rfl ⟨jr_i (by rw [← hR.start hp ht hr.1 (by omega)]; unfold cSt; (repeat' split) <;> omega), rfl⟩
theorem w_K_isOf {E : jx_E} {l : Launch} {d : Nat} {w : jx_W} {D S : mS} {G : Nat → Nat → Nat} {lo hi : Nat} {t a b : Int} (hB : jx_B E) (hC : cR E D w G lo hi) (hR : rl S D) (ht : 0 ≤ t ∧ t < S 1 0) (ha : iR a) (hb : iR b) : jx_G E l Y_K_isOf (d) (jx_eq (.inr (some (.int (iI (if S 19 t = a ∧ S 13 t = b then 1 else 0))))) w) 0 (jx_ent [.ref (G 1 (t).toNat), .int (iI (a)), .int (iI (b))] 3) [] w := by
  show jx_G E l Y_K_isOf (d) _ 0 [some (.ref (G 1 (t).toNat)), some (.int (iI (a))), some (.int (iI (b)))] [] w
  have hN := hR.N
  refine jx_aload_n d_K_isOf_0 rfl rfl ?_
  refine cx_K 6 (f := 26) rfl d_K_isOf_1 (f_K_15 hB) hC (by decide) (by omega) ?_
  have a1 : D 26 t = S 19 t := (hR.K (t := t) (by omega)).1.2.2.2.2.2.2.1
  have a2 : -1 ≤ D 26 t ∧ D 26 t ≤ 3 := (hR.Kr (t := t) (by omega)).2.2.2.2.2.2.1
  refine jx_iload_n d_K_isOf_4 rfl rfl ?_
  refine jI_icmp_ne (tgt := 20) d_K_isOf_5 (by decide) (by omega) (by omega) (fun hc3 => ?_) (fun hc3 => ?_)
  · refine jI_const d_K_isOf_20 ?_
    exact jx_zret d_K_isOf_21 rfl (jI_bool (by omega)) ⟨jr_i (by first | (rw [if_pos (by omega)]) | (rw [if_neg (by omega)]) | (exfalso; omega)), rfl⟩
  · refine jx_aload_n d_K_isOf_8 rfl rfl ?_
    refine cx_K 5 (f := 25) rfl d_K_isOf_9 (f_K_9 hB) hC (by decide) (by omega) ?_
    have a4 : D 25 t = S 13 t := (hR.K (t := t) (by omega)).1.2.2.2.2.2.1
    have a5 : 0 ≤ D 25 t ∧ D 25 t ≤ 2 := (hR.Kr (t := t) (by omega)).2.2.2.2.2.1
    refine jx_iload_n d_K_isOf_12 rfl rfl ?_
    refine jI_icmp_ne (tgt := 20) d_K_isOf_13 (by decide) (by omega) (by omega) (fun hc6 => ?_) (fun hc6 => ?_)
    · refine jI_const d_K_isOf_20 ?_
      exact jx_zret d_K_isOf_21 rfl (jI_bool (by omega)) ⟨jr_i (by first | (rw [if_pos (by omega)]) | (rw [if_neg (by omega)]) | (exfalso; omega)), rfl⟩
    · refine jI_const d_K_isOf_16 ?_
      refine jx_goto (tgt := 21) d_K_isOf_17 (by decide) ?_
      exact jx_zret d_K_isOf_21 rfl (jI_bool (by omega)) ⟨jr_i (by first | (rw [if_pos (by omega)]) | (rw [if_neg (by omega)]) | (exfalso; omega)), rfl⟩
theorem w_K_latenessFrom {E : jx_E} {l : Launch} {d : Nat} {w : jx_W} {D S : mS} {G : Nat → Nat → Nat} {lo hi : Nat} {t b : Int} (hB : jx_B E) (hC : cR E D w G lo hi) (hR : rl S D) (ht : 0 ≤ t ∧ t < S 1 0) (hb : -1 ≤ b ∧ b ≤ 100000) : jx_G E l Y_K_latenessFrom (d + 1) (jx_eq (.inr (some (.int (iI (sLate S t b))))) w) 0 (jx_ent [.ref (G 1 (t).toNat), .int (iI (b))] 2) [] w := by
  show jx_G E l Y_K_latenessFrom (d + 1) _ 0 [some (.ref (G 1 (t).toNat)), some (.int (iI (b)))] [] w
  have hN := hR.N
  refine jI_const d_K_latenessFrom_0 ?_
  refine jx_iload_n d_K_latenessFrom_1 rfl rfl ?_
  refine jx_aload_n d_K_latenessFrom_2 rfl rfl ?_
  refine cx_K 2 (f := 22) rfl d_K_latenessFrom_3 (f_K_27 hB) hC (by decide) (by omega) ?_
  have a1 : D 22 t = S 15 t := (hR.K (t := t) (by omega)).1.2.2.1
  have a2 : 1 ≤ D 22 t ∧ D 22 t ≤ 5000 := (hR.Kr (t := t) (by omega)).2.2.1
  refine jI_add d_K_latenessFrom_6 ?_
  refine jx_aload_n d_K_latenessFrom_7 rfl rfl ?_
  refine cx_K 3 (f := 23) rfl d_K_latenessFrom_8 (f_K_30 hB) hC (by decide) (by omega) ?_
  have a3 : D 23 t = S 16 t := (hR.K (t := t) (by omega)).1.2.2.2.1
  have a4 : 0 ≤ D 23 t ∧ D 23 t ≤ 100000 := (hR.Kr (t := t) (by omega)).2.2.2.1
  refine jI_sub d_K_latenessFrom_11 ?_
  refine jI_max d_K_latenessFrom_12 (h_K_36 hB) (h_max1 hB) (h_math hB) (h_max2 hB) (Nat.le_of_ble_eq_true rfl) (by omega) (by omega) ?_
  have g5 : (0 ≤ sGr 0 ((b + (D 22 t)) - (D 23 t)) ∧ (b + (D 22 t)) - (D 23 t) ≤ sGr 0 ((b + (D 22 t)) - (D 23 t))) ∧ (sGr 0 ((b + (D 22 t)) - (D 23 t)) = 0 ∨ sGr 0 ((b + (D 22 t)) - (D 23 t)) = (b + (D 22 t)) - (D 23 t)) := by unfold sGr; split <;> omega
  exact jx_iret d_K_latenessFrom_15 rfl ⟨jr_i (by unfold sLate sGr; (repeat' split) <;> omega), rfl⟩
theorem w_K_planFor {E : jx_E} {l : Launch} {d : Nat} {w : jx_W} {D : mS} {G : Nat → Nat → Nat} {lo hi : Nat} {t q s : Int} (hB : jx_B E) (hC : cR E D w G lo hi) (ht : 0 ≤ t ∧ t < D 34 0) : jx_G E l Y_K_planFor d (cpo E G lo hi w 0 none (sU (sU D 26 t q) 27 t s)) 0 (jx_ent [.ref (G 1 (t).toNat), .int (iI (q)), .int (iI (s))] 3) [] w := by
  show jx_G E l Y_K_planFor d _ 0 [some (.ref (G 1 (t).toNat)), some (.int (iI (q))), some (.int (iI (s)))] [] w
  have hF : cF lo hi 0 w w := cF.rf
  refine jx_aload_n d_K_planFor_0 rfl rfl ?_
  refine jx_iload_n d_K_planFor_1 rfl rfl ?_
  refine cx_pK 6 (f := 26) rfl d_K_planFor_2 (f_K_15 hB) (t_3_6 hB) hC (by decide) (by omega) (fun w hC hF1 => ?_)
  have hF := hF.tr hF1 (Nat.le_refl _)
  obtain ⟨D1, hD1⟩ : ∃ zz, zz = sU D 26 t q := ⟨_, rfl⟩
  rw [← hD1] at hC
  have e2 : D1 33 0 = D 33 0 := by rw [hD1]; rfl
  have e3 : D1 34 0 = D 34 0 := by rw [hD1]; rfl
  have e4 : D1 35 0 = D 35 0 := by rw [hD1]; rfl
  have e5 : D1 36 0 = D 36 0 := by rw [hD1]; rfl
  refine jx_aload_n d_K_planFor_5 rfl rfl ?_
  refine jx_iload_n d_K_planFor_6 rfl rfl ?_
  refine cx_pK 7 (f := 27) rfl d_K_planFor_7 (f_K_18 hB) (t_3_7 hB) hC (by decide) (by omega) (fun w hC hF1 => ?_)
  have hF := hF.tr hF1 (Nat.le_refl _)
  obtain ⟨D6, hD6⟩ : ∃ zz, zz = sU D1 27 t s := ⟨_, rfl⟩
  rw [← hD6] at hC
  have e7 : D6 33 0 = D1 33 0 := by rw [hD6]; rfl
  have e8 : D6 34 0 = D1 34 0 := by rw [hD6]; rfl
  have e9 : D6 35 0 = D1 35 0 := by rw [hD6]; rfl
  have e10 : D6 36 0 = D1 36 0 := by rw [hD6]; rfl
  exact jx_vret d_K_planFor_10 rfl ⟨rfl, by rw [hD6, hD1] at hC; exact hC, hF⟩
theorem w_K_free {E : jx_E} {l : Launch} {d : Nat} {w : jx_W} {D : mS} {G : Nat → Nat → Nat} {lo hi : Nat} {t : Int} (hB : jx_B E) (hC : cR E D w G lo hi) (ht : 0 ≤ t ∧ t < D 34 0) : jx_G E l Y_K_free d (cpo E G lo hi w 0 none (sU (sU (sU D 25 t 0) 26 t (-1)) 27 t (-1))) 0 (jx_ent [.ref (G 1 (t).toNat)] 1) [] w := by
  show jx_G E l Y_K_free d _ 0 [some (.ref (G 1 (t).toNat))] [] w
  have hF : cF lo hi 0 w w := cF.rf
  refine jx_aload_n d_K_free_0 rfl rfl ?_
  refine jI_const d_K_free_1 ?_
  refine cx_pK 5 (f := 25) rfl d_K_free_2 (f_K_9 hB) (t_3_5 hB) hC (by decide) (by omega) (fun w hC hF1 => ?_)
  have hF := hF.tr hF1 (Nat.le_refl _)
  obtain ⟨D1, hD1⟩ : ∃ zz, zz = sU D 25 t 0 := ⟨_, rfl⟩
  rw [← hD1] at hC
  have e2 : D1 33 0 = D 33 0 := by rw [hD1]; rfl
  have e3 : D1 34 0 = D 34 0 := by rw [hD1]; rfl
  have e4 : D1 35 0 = D 35 0 := by rw [hD1]; rfl
  have e5 : D1 36 0 = D 36 0 := by rw [hD1]; rfl
  refine jx_aload_n d_K_free_5 rfl rfl ?_
  refine jI_const d_K_free_6 ?_
  refine cx_pK 6 (f := 26) rfl d_K_free_7 (f_K_15 hB) (t_3_6 hB) hC (by decide) (by omega) (fun w hC hF1 => ?_)
  have hF := hF.tr hF1 (Nat.le_refl _)
  obtain ⟨D6, hD6⟩ : ∃ zz, zz = sU D1 26 t ((-1)) := ⟨_, rfl⟩
  rw [← hD6] at hC
  have e7 : D6 33 0 = D1 33 0 := by rw [hD6]; rfl
  have e8 : D6 34 0 = D1 34 0 := by rw [hD6]; rfl
  have e9 : D6 35 0 = D1 35 0 := by rw [hD6]; rfl
  have e10 : D6 36 0 = D1 36 0 := by rw [hD6]; rfl
  refine jx_aload_n d_K_free_10 rfl rfl ?_
  refine jI_const d_K_free_11 ?_
  refine cx_pK 7 (f := 27) rfl d_K_free_12 (f_K_18 hB) (t_3_7 hB) hC (by decide) (by omega) (fun w hC hF1 => ?_)
  have hF := hF.tr hF1 (Nat.le_refl _)
  obtain ⟨D11, hD11⟩ : ∃ zz, zz = sU D6 27 t ((-1)) := ⟨_, rfl⟩
  rw [← hD11] at hC
  have e12 : D11 33 0 = D6 33 0 := by rw [hD11]; rfl
  have e13 : D11 34 0 = D6 34 0 := by rw [hD11]; rfl
  have e14 : D11 35 0 = D6 35 0 := by rw [hD11]; rfl
  have e15 : D11 36 0 = D6 36 0 := by rw [hD11]; rfl
  exact jx_vret d_K_free_15 rfl ⟨rfl, by rw [hD11, hD6, hD1] at hC; exact hC, hF⟩
theorem w_P_addToRow {E : jx_E} {l : Launch} {d : Nat} {w : jx_W} {D : mS} {G : Nat → Nat → Nat} {lo hi : Nat} {p t : Int} (hB : jx_B E) (hC : cR E D w G lo hi) (hp : 0 ≤ p ∧ p < D 33 0) (ht : 0 ≤ t ∧ t < D 34 0) : jx_G E l Y_P_addToRow d (cpo E G lo hi w 0 none (sU (sU (sU D 11 p (D 27 t + D 22 t)) 12 p (D 24 t)) 13 p (D 13 p + 1))) 0 (jx_ent [.ref (G 0 (p).toNat), .ref (G 1 (t).toNat)] 2) [] w := by
  show jx_G E l Y_P_addToRow d _ 0 [some (.ref (G 0 (p).toNat)), some (.ref (G 1 (t).toNat))] [] w
  have hF : cF lo hi 0 w w := cF.rf
  refine jx_aload_n d_P_addToRow_0 rfl rfl ?_
  refine jx_aload_n d_P_addToRow_1 rfl rfl ?_
  refine cx_K 7 (f := 27) rfl d_P_addToRow_2 (f_P_75 hB) hC (by decide) (by omega) ?_
  refine jx_aload_n d_P_addToRow_5 rfl rfl ?_
  refine cx_K 2 (f := 22) rfl d_P_addToRow_6 (f_P_69 hB) hC (by decide) (by omega) ?_
  refine jI_add d_P_addToRow_9 ?_
  refine cx_pP 11 d_P_addToRow_10 (f_P_78 hB) (t_2_11 hB) hC (by decide) (by omega) (fun w hC hF1 => ?_)
  have hF := hF.tr hF1 (Nat.le_refl _)
  obtain ⟨D1, hD1⟩ : ∃ zz, zz = sU D 11 p ((D 27 t) + (D 22 t)) := ⟨_, rfl⟩
  rw [← hD1] at hC
  have e2 : D1 33 0 = D 33 0 := by rw [hD1]; rfl
  have e3 : D1 34 0 = D 34 0 := by rw [hD1]; rfl
  have e4 : D1 35 0 = D 35 0 := by rw [hD1]; rfl
  have e5 : D1 36 0 = D 36 0 := by rw [hD1]; rfl
  refine jx_aload_n d_P_addToRow_13 rfl rfl ?_
  refine jx_aload_n d_P_addToRow_14 rfl rfl ?_
  refine cx_K 4 (f := 24) rfl d_P_addToRow_15 (f_P_60 hB) hC (by decide) (by omega) ?_
  rw [show D1 24 t = D 24 t by simp [hD1, sU, sUs]]
  refine cx_pP 12 d_P_addToRow_18 (f_P_81 hB) (t_2_12 hB) hC (by decide) (by omega) (fun w hC hF1 => ?_)
  have hF := hF.tr hF1 (Nat.le_refl _)
  obtain ⟨D6, hD6⟩ : ∃ zz, zz = sU D1 12 p (D 24 t) := ⟨_, rfl⟩
  rw [← hD6] at hC
  have e7 : D6 33 0 = D1 33 0 := by rw [hD6]; rfl
  have e8 : D6 34 0 = D1 34 0 := by rw [hD6]; rfl
  have e9 : D6 35 0 = D1 35 0 := by rw [hD6]; rfl
  have e10 : D6 36 0 = D1 36 0 := by rw [hD6]; rfl
  refine jx_aload_n d_P_addToRow_21 rfl rfl ?_
  refine jx_dup d_P_addToRow_22 rfl ?_
  refine cx_P 13 d_P_addToRow_23 (f_P_84 hB) hC (by decide) (by omega) ?_
  rw [show D6 13 p = D 13 p by simp [hD6, hD1, sU, sUs]]
  refine jI_const d_P_addToRow_26 ?_
  refine jI_add d_P_addToRow_27 ?_
  refine cx_pP 13 d_P_addToRow_28 (f_P_84 hB) (t_2_13 hB) hC (by decide) (by omega) (fun w hC hF1 => ?_)
  have hF := hF.tr hF1 (Nat.le_refl _)
  obtain ⟨D11, hD11⟩ : ∃ zz, zz = sU D6 13 p ((D 13 p) + 1) := ⟨_, rfl⟩
  rw [← hD11] at hC
  have e12 : D11 33 0 = D6 33 0 := by rw [hD11]; rfl
  have e13 : D11 34 0 = D6 34 0 := by rw [hD11]; rfl
  have e14 : D11 35 0 = D6 35 0 := by rw [hD11]; rfl
  have e15 : D11 36 0 = D6 36 0 := by rw [hD11]; rfl
  exact jx_vret d_P_addToRow_31 rfl ⟨rfl, by rw [hD11, hD6, hD1] at hC; exact hC, hF⟩
theorem w_Y_put {E : jx_E} {l : Launch} {d : Nat} {w : jx_W} {D : mS} {G : Nat → Nat → Nat} {lo hi : Nat} {a b c : Int} (hB : jx_B E) (hC : cR E D w G lo hi) (ha : 0 ≤ a ∧ a ≤ 3) (hb : 0 ≤ b ∧ b ≤ 3) : jx_G E l Y_Y_put d (cpo E G lo hi w 0 none (sU (sU D 30 (a * 4 + b) c) 30 (b * 4 + a) c)) 0 (jx_ent [.ref (G 2 4), .int (iI (a)), .int (iI (b)), .int (iI (c))] 4) [] w := by
  show jx_G E l Y_Y_put d _ 0 [some (.ref (G 2 4)), some (.int (iI (a))), some (.int (iI (b))), some (.int (iI (c)))] [] w
  have hF : cF lo hi 0 w w := cF.rf
  refine jx_aload_n d_Y_put_0 rfl rfl ?_
  refine cx_ptr (c2 := 2) (x2 := 6) d_Y_put_1 (f_Y_9 hB) hC (by decide) (by decide) rfl ?_
  refine jx_iload_n d_Y_put_4 rfl rfl ?_
  refine jI_const d_Y_put_5 ?_
  refine jI_mul d_Y_put_6 ?_
  refine jx_iload_n d_Y_put_7 rfl rfl ?_
  refine jI_add d_Y_put_8 ?_
  refine jx_iload_n d_Y_put_9 rfl rfl ?_
  refine cx_st30 d_Y_put_10 hC (by omega) (fun w hC hF1 => ?_)
  have hF := hF.tr hF1 (Nat.le_refl _)
  obtain ⟨D1, hD1⟩ : ∃ zz, zz = sU D 30 ((a * 4) + b) c := ⟨_, rfl⟩
  rw [← hD1] at hC
  have e2 : D1 33 0 = D 33 0 := by rw [hD1]; rfl
  have e3 : D1 34 0 = D 34 0 := by rw [hD1]; rfl
  have e4 : D1 35 0 = D 35 0 := by rw [hD1]; rfl
  have e5 : D1 36 0 = D 36 0 := by rw [hD1]; rfl
  refine jx_aload_n d_Y_put_11 rfl rfl ?_
  refine cx_ptr (c2 := 2) (x2 := 6) d_Y_put_12 (f_Y_9 hB) hC (by decide) (by decide) rfl ?_
  refine jx_iload_n d_Y_put_15 rfl rfl ?_
  refine jI_const d_Y_put_16 ?_
  refine jI_mul d_Y_put_17 ?_
  refine jx_iload_n d_Y_put_18 rfl rfl ?_
  refine jI_add d_Y_put_19 ?_
  refine jx_iload_n d_Y_put_20 rfl rfl ?_
  refine cx_st30 d_Y_put_21 hC (by omega) (fun w hC hF1 => ?_)
  have hF := hF.tr hF1 (Nat.le_refl _)
  obtain ⟨D6, hD6⟩ : ∃ zz, zz = sU D1 30 ((b * 4) + a) c := ⟨_, rfl⟩
  rw [← hD6] at hC
  have e7 : D6 33 0 = D1 33 0 := by rw [hD6]; rfl
  have e8 : D6 34 0 = D1 34 0 := by rw [hD6]; rfl
  have e9 : D6 35 0 = D1 35 0 := by rw [hD6]; rfl
  have e10 : D6 36 0 = D1 36 0 := by rw [hD6]; rfl
  exact jx_vret d_Y_put_22 rfl ⟨rfl, by rw [hD6, hD1] at hC; exact hC, hF⟩
