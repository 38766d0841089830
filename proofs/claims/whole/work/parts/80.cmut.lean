/-! 80.cmut: public methods that change numbers -/
section JC
variable {E : jx_E} {l : Launch} {Y Z : jx_Y} {d n a : Nat} {Q : jx_R → jx_W → Prop} {pc : Nat} {L : List (Option Value)} {rest : List Value} {w : jx_W} {z : MethodName} {As : List Value} {D2 : mS} {G : Nat → Nat → Nat} {lo hi : Nat}
theorem jc_callV {idx b ci : Nat} {q : vw_C} {v : Option Value} (hd : decode Y.2.2.1 pc = .ok (.invokevirtual idx, 3)) (hM : jx_M E z Z n) (hV : jx_V E Y.1 idx z q.1) (hci : ci < 99) (hq0 : E.2.2[ci]? = some q) (hk : jx_k w b = ci + 1) (hn : As.length = n) (hlen : (jx_fl (.ref b :: As)).length ≤ Z.2.2.2.1) (hW : (rest.map fun v => v.category).sum ≤ 24)
    (hz : jx_G E l Z d (cpo E G lo hi w a v D2) 0 (jx_ent (.ref b :: As) Z.2.2.2.1) [] w) (kr : ∀ w', cR E D2 w' G lo hi → cF lo hi a w w' → jx_G E l Y (d + 1) Q (pc + 3) L (v.toList ++ rest) w') : jx_G E l Y (d + 1) Q pc L (As.reverse ++ .ref b :: rest) w :=
  jx_callV hd hM hV hci hq0 hk hn hlen hW hz (fun v' w' h => by obtain ⟨h1, h2, h3⟩ := h; cases h1; exact kr w' h2 h3) (fun x a w' h => by obtain ⟨h1, -⟩ := h; cases h1)
end JC
theorem w_T_rest {E : jx_E} {l : Launch} {d : Nat} {w : jx_W} {D S : mS} {G : Nat → Nat → Nat} {lo hi : Nat} {p a b : Int} (hB : jx_B E) (hC : cR E D w G lo hi) (hR : rl S D) (irp : iR p) (ira : iR a) (irb : iR b) (hW : 50 ≤ jx_c w ∧ 5000 ≤ jx_s w) : jx_G E l Y_T_rest (d + 7) (pubQ E G lo hi w exB (none) ((oRest S p a b))) 0 (jx_ent [.ref (G 2 0), .int (iI (p)), .int (iI (a)), .int (iI (b))] 5) [] w := by
  show jx_G E l Y_T_rest (d + 7) _ 0 [some (.ref (G 2 0)), some (.int (iI (p))), some (.int (iI (a))), some (.int (iI (b))), none] [] w
  have hN := hR.N
  have hF : cF lo hi 0 w w := cF.rf
  refine jx_aload_n d_T_rest_0 rfl rfl ?_
  refine jx_iload_n d_T_rest_1 rfl rfl ?_
  by_cases hq1 : 0 ≤ p ∧ p < S 0 0
  rotate_left
  · exact jx_callV_t (As := [.int (iI (p))]) d_T_rest_2 (m_T_personOf hB) (v_T_62 hB) (by decide) (jx_c0 hB) (by rw [hC.kd (.inr (.inr (.inl ⟨rfl, by decide⟩)))]; rfl) rfl (Nat.le_of_ble_eq_true rfl) (Nat.le_of_ble_eq_true rfl) (w_T_personOf_no hB hC hR (q := p) (by omega) hq1 (room_c hF hW.1 (by decide)) (room_s hF hW.2 (by decide))) (.inl ⟨fun y hy => absurd hy List.not_mem_nil, pub_thr hC hR hF (by decide) 1 (by decide) (by unfold oRest; (repeat' split) <;> first | rfl | (exfalso; omega)) rfl⟩)
  refine jx_callV_r (As := [.int (iI (p))]) (v := some (.ref (G 0 (p).toNat))) d_T_rest_2 (m_T_personOf hB) (v_T_62 hB) (by decide) (jx_c0 hB) (by rw [hC.kd (.inr (.inr (.inl ⟨rfl, by decide⟩)))]; rfl) rfl (Nat.le_of_ble_eq_true rfl) (Nat.le_of_ble_eq_true rfl) (w_T_personOf_ok hB hC hR (q := p) (by omega) hq1) ?_
  refine jx_astore d_T_rest_5 (Nat.le_of_ble_eq_true rfl) rfl ?_
  try dsimp only [List.set]
  refine jx_iload_n d_T_rest_7 rfl rfl ?_
  refine jx_aload d_T_rest_8 rfl ?_
  refine cx_P 1 d_T_rest_10 (f_T_66 hB) hC (by decide) (by omega) ?_
  have a2 : 0 ≤ D 1 p ∧ D 1 p ≤ 100000 := (hR.Pr (p := p) (by omega)).1
  have a3 : D 1 p = S 5 p := (hR.P (p := p) (by omega)).1.2.1
  refine jx_aload d_T_rest_13 rfl ?_
  refine cx_P 2 d_T_rest_15 (f_T_69 hB) hC (by decide) (by omega) ?_
  have a4 : 0 ≤ D 2 p ∧ D 2 p ≤ 100000 := (hR.Pr (p := p) (by omega)).2.1
  have a5 : D 2 p = S 6 p := (hR.P (p := p) (by omega)).1.2.2.1
  by_cases hq6 : D 1 p ≤ a ∧ a ≤ D 2 p
  rotate_left
  · exact jx_callS_t (As := [.int (iI (a)), .int (iI (D 1 p)), .int (iI (D 2 p))]) d_T_rest_18 (m_T_needWithin hB) (s_T_36 hB) rfl (Nat.le_of_ble_eq_true rfl) (Nat.le_of_ble_eq_true rfl) (w_T_needWithin_no (lo := lo) (hi := hi) (D := D) (S := S) (G := G) hB (x := a) (a := D 1 p) (b := D 2 p) (by omega) (by omega) (by omega) hq6 (room_c hF hW.1 (by decide)) (room_s hF hW.2 (by decide))) (.inl ⟨fun y hy => absurd hy List.not_mem_nil, pub_thr hC hR hF (by decide) 2 (by decide) (by unfold oRest; (repeat' split) <;> first | rfl | (exfalso; omega)) rfl⟩)
  refine jx_callS_r (As := [.int (iI (a)), .int (iI (D 1 p)), .int (iI (D 2 p))]) (v := none) d_T_rest_18 (m_T_needWithin hB) (s_T_36 hB) rfl (Nat.le_of_ble_eq_true rfl) (Nat.le_of_ble_eq_true rfl) (w_T_needWithin_ok (lo := lo) (hi := hi) (D := D) (S := S) (G := G) hB (x := a) (a := D 1 p) (b := D 2 p) (by omega) (by omega) (by omega) hq6) ?_
  refine jx_iload_n d_T_rest_21 rfl rfl ?_
  refine jx_iload_n d_T_rest_22 rfl rfl ?_
  refine jx_aload d_T_rest_23 rfl ?_
  refine cx_P 2 d_T_rest_25 (f_T_69 hB) hC (by decide) (by omega) ?_
  have a7 : 0 ≤ D 2 p ∧ D 2 p ≤ 100000 := (hR.Pr (p := p) (by omega)).2.1
  have a8 : D 2 p = S 6 p := (hR.P (p := p) (by omega)).1.2.2.1
  by_cases hq9 : a ≤ b ∧ b ≤ D 2 p
  rotate_left
  · exact jx_callS_t (As := [.int (iI (b)), .int (iI (a)), .int (iI (D 2 p))]) d_T_rest_28 (m_T_needWithin hB) (s_T_36 hB) rfl (Nat.le_of_ble_eq_true rfl) (Nat.le_of_ble_eq_true rfl) (w_T_needWithin_no (lo := lo) (hi := hi) (D := D) (S := S) (G := G) hB (x := b) (a := a) (b := D 2 p) (by omega) (by omega) (by omega) hq9 (room_c hF hW.1 (by decide)) (room_s hF hW.2 (by decide))) (.inl ⟨fun y hy => absurd hy List.not_mem_nil, pub_thr hC hR hF (by decide) 2 (by decide) (by unfold oRest; (repeat' split) <;> first | rfl | (exfalso; omega)) rfl⟩)
  refine jx_callS_r (As := [.int (iI (b)), .int (iI (a)), .int (iI (D 2 p))]) (v := none) d_T_rest_28 (m_T_needWithin hB) (s_T_36 hB) rfl (Nat.le_of_ble_eq_true rfl) (Nat.le_of_ble_eq_true rfl) (w_T_needWithin_ok (lo := lo) (hi := hi) (D := D) (S := S) (G := G) hB (x := b) (a := a) (b := D 2 p) (by omega) (by omega) (by omega) hq9) ?_
  refine jx_aload d_T_rest_31 rfl ?_
  refine jx_iload_n d_T_rest_33 rfl rfl ?_
  refine jx_iload_n d_T_rest_34 rfl rfl ?_
  refine jI_icmp_ne (tgt := 42) d_T_rest_35 (by decide) (by omega) (by omega) (fun hc10 => ?_) (fun hc10 => ?_)
  · refine jx_iload_n d_T_rest_42 rfl rfl ?_
    refine cx_pP 5 d_T_rest_43 (f_T_72 hB) (t_2_5 hB) hC (by decide) (by omega) (fun w hC hF1 => ?_)
    have hF := hF.tr hF1 (Nat.le_refl _)
    obtain ⟨D11, hD11⟩ : ∃ zz, zz = sU D 5 p a := ⟨_, rfl⟩
    rw [← hD11] at hC
    have e12 : D11 33 0 = D 33 0 := by rw [hD11]; rfl
    have e13 : D11 34 0 = D 34 0 := by rw [hD11]; rfl
    have e14 : D11 35 0 = D 35 0 := by rw [hD11]; rfl
    have e15 : D11 36 0 = D 36 0 := by rw [hD11]; rfl
    refine jx_aload d_T_rest_46 rfl ?_
    refine jx_iload_n d_T_rest_48 rfl rfl ?_
    refine jx_iload_n d_T_rest_49 rfl rfl ?_
    refine jI_icmp_ne (tgt := 57) d_T_rest_50 (by decide) (by omega) (by omega) (fun hc16 => ?_) (fun hc16 => ?_)
    · refine jx_iload_n d_T_rest_57 rfl rfl ?_
      refine cx_pP 6 d_T_rest_58 (f_T_75 hB) (t_2_6 hB) hC (by decide) (by omega) (fun w hC hF1 => ?_)
      have hF := hF.tr hF1 (Nat.le_refl _)
      obtain ⟨D17, hD17⟩ : ∃ zz, zz = sU D11 6 p b := ⟨_, rfl⟩
      rw [← hD17] at hC
      have e18 : D17 33 0 = D11 33 0 := by rw [hD17]; rfl
      have e19 : D17 34 0 = D11 34 0 := by rw [hD17]; rfl
      have e20 : D17 35 0 = D11 35 0 := by rw [hD17]; rfl
      have e21 : D17 36 0 = D11 36 0 := by rw [hD17]; rfl
      exact jx_vret d_T_rest_61 rfl (pub_ret hC (by rw [hD17, hD11]; rw [show oRest S p a b = sU (sU (sU S 3 0 0) 7 p a) 8 p b by unfold oRest; rw [if_pos (by omega), if_neg (by omega)]]; have hk := keep_rest (a := a) (b := b) (hR.s3 0) (p := p) (by show 0 ≤ p ∧ p < S 0 0; omega) (by show S 5 p ≤ a; omega) (by show b ≤ S 6 p; omega) (by omega); first | (exfalso; omega) | (rw [if_pos (by omega), if_pos (by omega)] at hk; exact hk) | (rw [if_neg (by omega), if_neg (by omega)] at hk; exact hk)) hF (by decide) (by rw [show oRest S p a b = sU (sU (sU S 3 0 0) 7 p a) 8 p b by unfold oRest; rw [if_pos (by omega), if_neg (by omega)]]; rfl))
    · refine jI_const d_T_rest_53 ?_
      refine jx_goto (tgt := 58) d_T_rest_54 (by decide) ?_
      refine cx_pP 6 d_T_rest_58 (f_T_75 hB) (t_2_6 hB) hC (by decide) (by omega) (fun w hC hF1 => ?_)
      have hF := hF.tr hF1 (Nat.le_refl _)
      obtain ⟨D22, hD22⟩ : ∃ zz, zz = sU D11 6 p 0 := ⟨_, rfl⟩
      rw [← hD22] at hC
      have e23 : D22 33 0 = D11 33 0 := by rw [hD22]; rfl
      have e24 : D22 34 0 = D11 34 0 := by rw [hD22]; rfl
      have e25 : D22 35 0 = D11 35 0 := by rw [hD22]; rfl
      have e26 : D22 36 0 = D11 36 0 := by rw [hD22]; rfl
      exact jx_vret d_T_rest_61 rfl (pub_ret hC (by rw [hD22, hD11]; rw [show oRest S p a b = sU (sU (sU S 3 0 0) 7 p a) 8 p b by unfold oRest; rw [if_pos (by omega), if_neg (by omega)]]; have hk := keep_rest (a := a) (b := b) (hR.s3 0) (p := p) (by show 0 ≤ p ∧ p < S 0 0; omega) (by show S 5 p ≤ a; omega) (by show b ≤ S 6 p; omega) (by omega); first | (exfalso; omega) | (rw [if_pos (by omega), if_pos (by omega)] at hk; exact hk) | (rw [if_neg (by omega), if_neg (by omega)] at hk; exact hk)) hF (by decide) (by rw [show oRest S p a b = sU (sU (sU S 3 0 0) 7 p a) 8 p b by unfold oRest; rw [if_pos (by omega), if_neg (by omega)]]; rfl))
  · refine jI_const d_T_rest_38 ?_
    refine jx_goto (tgt := 43) d_T_rest_39 (by decide) ?_
    refine cx_pP 5 d_T_rest_43 (f_T_72 hB) (t_2_5 hB) hC (by decide) (by omega) (fun w hC hF1 => ?_)
    have hF := hF.tr hF1 (Nat.le_refl _)
    obtain ⟨D27, hD27⟩ : ∃ zz, zz = sU D 5 p 0 := ⟨_, rfl⟩
    rw [← hD27] at hC
    have e28 : D27 33 0 = D 33 0 := by rw [hD27]; rfl
    have e29 : D27 34 0 = D 34 0 := by rw [hD27]; rfl
    have e30 : D27 35 0 = D 35 0 := by rw [hD27]; rfl
    have e31 : D27 36 0 = D 36 0 := by rw [hD27]; rfl
    refine jx_aload d_T_rest_46 rfl ?_
    refine jx_iload_n d_T_rest_48 rfl rfl ?_
    refine jx_iload_n d_T_rest_49 rfl rfl ?_
    refine jI_icmp_ne (tgt := 57) d_T_rest_50 (by decide) (by omega) (by omega) (fun hc32 => ?_) (fun hc32 => ?_)
    · refine jx_iload_n d_T_rest_57 rfl rfl ?_
      refine cx_pP 6 d_T_rest_58 (f_T_75 hB) (t_2_6 hB) hC (by decide) (by omega) (fun w hC hF1 => ?_)
      have hF := hF.tr hF1 (Nat.le_refl _)
      obtain ⟨D33, hD33⟩ : ∃ zz, zz = sU D27 6 p b := ⟨_, rfl⟩
      rw [← hD33] at hC
      have e34 : D33 33 0 = D27 33 0 := by rw [hD33]; rfl
      have e35 : D33 34 0 = D27 34 0 := by rw [hD33]; rfl
      have e36 : D33 35 0 = D27 35 0 := by rw [hD33]; rfl
      have e37 : D33 36 0 = D27 36 0 := by rw [hD33]; rfl
      exact jx_vret d_T_rest_61 rfl (pub_ret hC (by rw [hD33, hD27]; rw [show oRest S p a b = sU (sU (sU S 3 0 0) 7 p a) 8 p b by unfold oRest; rw [if_pos (by omega), if_neg (by omega)]]; have hk := keep_rest (a := a) (b := b) (hR.s3 0) (p := p) (by show 0 ≤ p ∧ p < S 0 0; omega) (by show S 5 p ≤ a; omega) (by show b ≤ S 6 p; omega) (by omega); first | (exfalso; omega) | (rw [if_pos (by omega), if_pos (by omega)] at hk; exact hk) | (rw [if_neg (by omega), if_neg (by omega)] at hk; exact hk)) hF (by decide) (by rw [show oRest S p a b = sU (sU (sU S 3 0 0) 7 p a) 8 p b by unfold oRest; rw [if_pos (by omega), if_neg (by omega)]]; rfl))
    · refine jI_const d_T_rest_53 ?_
      refine jx_goto (tgt := 58) d_T_rest_54 (by decide) ?_
      refine cx_pP 6 d_T_rest_58 (f_T_75 hB) (t_2_6 hB) hC (by decide) (by omega) (fun w hC hF1 => ?_)
      have hF := hF.tr hF1 (Nat.le_refl _)
      obtain ⟨D38, hD38⟩ : ∃ zz, zz = sU D27 6 p 0 := ⟨_, rfl⟩
      rw [← hD38] at hC
      have e39 : D38 33 0 = D27 33 0 := by rw [hD38]; rfl
      have e40 : D38 34 0 = D27 34 0 := by rw [hD38]; rfl
      have e41 : D38 35 0 = D27 35 0 := by rw [hD38]; rfl
      have e42 : D38 36 0 = D27 36 0 := by rw [hD38]; rfl
      exact jx_vret d_T_rest_61 rfl (pub_ret hC (by rw [hD38, hD27]; rw [show oRest S p a b = sU (sU (sU S 3 0 0) 7 p a) 8 p b by unfold oRest; rw [if_pos (by omega), if_neg (by omega)]]; have hk := keep_rest (a := a) (b := b) (hR.s3 0) (p := p) (by show 0 ≤ p ∧ p < S 0 0; omega) (by show S 5 p ≤ a; omega) (by show b ≤ S 6 p; omega) (by omega); first | (exfalso; omega) | (rw [if_pos (by omega), if_pos (by omega)] at hk; exact hk) | (rw [if_neg (by omega), if_neg (by omega)] at hk; exact hk)) hF (by decide) (by rw [show oRest S p a b = sU (sU (sU S 3 0 0) 7 p a) 8 p b by unfold oRest; rw [if_pos (by omega), if_neg (by omega)]]; rfl))
theorem w_T_pass {E : jx_E} {l : Launch} {d : Nat} {w : jx_W} {D S : mS} {G : Nat → Nat → Nat} {lo hi : Nat} {t : Int} (hB : jx_B E) (hC : cR E D w G lo hi) (hR : rl S D) (irt : iR t) (hW : 50 ≤ jx_c w ∧ 5000 ≤ jx_s w) : jx_G E l Y_T_pass (d + 7) (pubQ E G lo hi w exE (none) ((oPass S t))) 0 (jx_ent [.ref (G 2 0), .int (iI (t))] 2) [] w := by
  show jx_G E l Y_T_pass (d + 7) _ 0 [some (.ref (G 2 0)), some (.int (iI (t)))] [] w
  have hN := hR.N
  have hF : cF lo hi 0 w w := cF.rf
  refine jx_iload_n d_T_pass_0 rfl rfl ?_
  refine jx_aload_n d_T_pass_1 rfl rfl ?_
  refine cx_now d_T_pass_2 (f_T_153 hB) hC ?_
  refine jI_ldc d_T_pass_5 (k_T_40 hB) (n := 100000) (by decide) ?_
  by_cases hq1 : D 31 0 ≤ t ∧ t ≤ 100000
  rotate_left
  · exact jx_callS_t (As := [.int (iI (t)), .int (iI (D 31 0)), .int (iI (100000))]) d_T_pass_7 (m_T_needWithin hB) (s_T_36 hB) rfl (Nat.le_of_ble_eq_true rfl) (Nat.le_of_ble_eq_true rfl) (w_T_needWithin_no (lo := lo) (hi := hi) (D := D) (S := S) (G := G) hB (x := t) (a := D 31 0) (b := 100000) (by omega) (by omega) (by omega) hq1 (room_c hF hW.1 (by decide)) (room_s hF hW.2 (by decide))) (.inl ⟨fun y hy => absurd hy List.not_mem_nil, pub_thr hC hR hF (by decide) 1 (by decide) (by unfold oPass; (repeat' split) <;> first | rfl | (exfalso; omega)) rfl⟩)
  refine jx_callS_r (As := [.int (iI (t)), .int (iI (D 31 0)), .int (iI (100000))]) (v := none) d_T_pass_7 (m_T_needWithin hB) (s_T_36 hB) rfl (Nat.le_of_ble_eq_true rfl) (Nat.le_of_ble_eq_true rfl) (w_T_needWithin_ok (lo := lo) (hi := hi) (D := D) (S := S) (G := G) hB (x := t) (a := D 31 0) (b := 100000) (by omega) (by omega) (by omega) hq1) ?_
  refine jx_aload_n d_T_pass_10 rfl rfl ?_
  refine jx_iload_n d_T_pass_11 rfl rfl ?_
  refine cx_pnow d_T_pass_12 (f_T_153 hB) (t_0_5 hB) hC (fun w hC hF1 => ?_)
  have hF := hF.tr hF1 (Nat.le_refl _)
  obtain ⟨D2, hD2⟩ : ∃ zz, zz = sU D 31 0 t := ⟨_, rfl⟩
  rw [← hD2] at hC
  have e3 : D2 33 0 = D 33 0 := by rw [hD2]; rfl
  have e4 : D2 34 0 = D 34 0 := by rw [hD2]; rfl
  have e5 : D2 35 0 = D 35 0 := by rw [hD2]; rfl
  have e6 : D2 36 0 = D 36 0 := by rw [hD2]; rfl
  exact jx_vret d_T_pass_15 rfl (pub_ret hC (by rw [hD2]; rw [show oPass S t = sU (sU S 3 0 0) 2 0 t by unfold oPass; rw [if_neg (by omega)]]; exact keep_pass (hR.s3 0) ⟨by show S 2 0 ≤ t; omega, by omega⟩) hF (by decide) (by rw [show oPass S t = sU (sU S 3 0 0) 2 0 t by unfold oPass; rw [if_neg (by omega)]]; rfl))
theorem w_T_way {E : jx_E} {l : Launch} {d : Nat} {w : jx_W} {D S : mS} {G : Nat → Nat → Nat} {lo hi : Nat} {a b c : Int} (hB : jx_B E) (hC : cR E D w G lo hi) (hR : rl S D) (ira : iR a) (irb : iR b) (irc : iR c) (hW : 50 ≤ jx_c w ∧ 5000 ≤ jx_s w) : jx_G E l Y_T_way (d + 7) (pubQ E G lo hi w exE (none) ((oWay S a b c))) 0 (jx_ent [.ref (G 2 0), .int (iI (a)), .int (iI (b)), .int (iI (c))] 4) [] w := by
  show jx_G E l Y_T_way (d + 7) _ 0 [some (.ref (G 2 0)), some (.int (iI (a))), some (.int (iI (b))), some (.int (iI (c)))] [] w
  have hN := hR.N
  have hF : cF lo hi 0 w w := cF.rf
  refine jx_iload_n d_T_way_0 rfl rfl ?_
  refine jI_const d_T_way_1 ?_
  refine jI_const d_T_way_2 ?_
  by_cases hq1 : 0 ≤ a ∧ a ≤ 3
  rotate_left
  · exact jx_callS_t (As := [.int (iI (a)), .int (iI (0)), .int (iI (3))]) d_T_way_3 (m_T_needWithin hB) (s_T_36 hB) rfl (Nat.le_of_ble_eq_true rfl) (Nat.le_of_ble_eq_true rfl) (w_T_needWithin_no (lo := lo) (hi := hi) (D := D) (S := S) (G := G) hB (x := a) (a := 0) (b := 3) (by omega) (by omega) (by omega) hq1 (room_c hF hW.1 (by decide)) (room_s hF hW.2 (by decide))) (.inl ⟨fun y hy => absurd hy List.not_mem_nil, pub_thr hC hR hF (by decide) 1 (by decide) (by unfold oWay; (repeat' split) <;> first | rfl | (exfalso; omega)) rfl⟩)
  refine jx_callS_r (As := [.int (iI (a)), .int (iI (0)), .int (iI (3))]) (v := none) d_T_way_3 (m_T_needWithin hB) (s_T_36 hB) rfl (Nat.le_of_ble_eq_true rfl) (Nat.le_of_ble_eq_true rfl) (w_T_needWithin_ok (lo := lo) (hi := hi) (D := D) (S := S) (G := G) hB (x := a) (a := 0) (b := 3) (by omega) (by omega) (by omega) hq1) ?_
  refine jx_iload_n d_T_way_6 rfl rfl ?_
  refine jI_const d_T_way_7 ?_
  refine jI_const d_T_way_8 ?_
  by_cases hq2 : 0 ≤ b ∧ b ≤ 3
  rotate_left
  · exact jx_callS_t (As := [.int (iI (b)), .int (iI (0)), .int (iI (3))]) d_T_way_9 (m_T_needWithin hB) (s_T_36 hB) rfl (Nat.le_of_ble_eq_true rfl) (Nat.le_of_ble_eq_true rfl) (w_T_needWithin_no (lo := lo) (hi := hi) (D := D) (S := S) (G := G) hB (x := b) (a := 0) (b := 3) (by omega) (by omega) (by omega) hq2 (room_c hF hW.1 (by decide)) (room_s hF hW.2 (by decide))) (.inl ⟨fun y hy => absurd hy List.not_mem_nil, pub_thr hC hR hF (by decide) 1 (by decide) (by unfold oWay; (repeat' split) <;> first | rfl | (exfalso; omega)) rfl⟩)
  refine jx_callS_r (As := [.int (iI (b)), .int (iI (0)), .int (iI (3))]) (v := none) d_T_way_9 (m_T_needWithin hB) (s_T_36 hB) rfl (Nat.le_of_ble_eq_true rfl) (Nat.le_of_ble_eq_true rfl) (w_T_needWithin_ok (lo := lo) (hi := hi) (D := D) (S := S) (G := G) hB (x := b) (a := 0) (b := 3) (by omega) (by omega) (by omega) hq2) ?_
  refine jx_iload_n d_T_way_12 rfl rfl ?_
  refine jI_const d_T_way_13 ?_
  refine jI_sipush d_T_way_14 (by decide) ?_
  by_cases hq3 : 0 ≤ c ∧ c ≤ 1000
  rotate_left
  · exact jx_callS_t (As := [.int (iI (c)), .int (iI (0)), .int (iI (1000))]) d_T_way_17 (m_T_needWithin hB) (s_T_36 hB) rfl (Nat.le_of_ble_eq_true rfl) (Nat.le_of_ble_eq_true rfl) (w_T_needWithin_no (lo := lo) (hi := hi) (D := D) (S := S) (G := G) hB (x := c) (a := 0) (b := 1000) (by omega) (by omega) (by omega) hq3 (room_c hF hW.1 (by decide)) (room_s hF hW.2 (by decide))) (.inl ⟨fun y hy => absurd hy List.not_mem_nil, pub_thr hC hR hF (by decide) 1 (by decide) (by unfold oWay; (repeat' split) <;> first | rfl | (exfalso; omega)) rfl⟩)
  refine jx_callS_r (As := [.int (iI (c)), .int (iI (0)), .int (iI (1000))]) (v := none) d_T_way_17 (m_T_needWithin hB) (s_T_36 hB) rfl (Nat.le_of_ble_eq_true rfl) (Nat.le_of_ble_eq_true rfl) (w_T_needWithin_ok (lo := lo) (hi := hi) (D := D) (S := S) (G := G) hB (x := c) (a := 0) (b := 1000) (by omega) (by omega) (by omega) hq3) ?_
  refine jx_iload_n d_T_way_20 rfl rfl ?_
  refine jx_iload_n d_T_way_21 rfl rfl ?_
  refine jI_icmp_ne (tgt := 35) d_T_way_22 (by decide) (by omega) (by omega) (fun hc4 => ?_) (fun hc4 => ?_)
  · refine jx_aload_n d_T_way_35 rfl rfl ?_
    refine cx_ptr (c2 := 2) (x2 := 4) d_T_way_36 (f_T_25 hB) hC (by decide) (by decide) rfl ?_
    refine jx_iload_n d_T_way_39 rfl rfl ?_
    refine jx_iload_n d_T_way_40 rfl rfl ?_
    refine jx_iload_n d_T_way_41 rfl rfl ?_
    refine jc_callV (As := [.int (iI (a)), .int (iI (b)), .int (iI (c))]) (v := none) d_T_way_42 (m_Y_put hB) (v_T_107 hB) (by decide) (jx_c4 hB) (by rw [hC.kd (.inr (.inr (.inl ⟨rfl, by decide⟩)))]; rfl) rfl (Nat.le_of_ble_eq_true rfl) (Nat.le_of_ble_eq_true rfl) (w_Y_put hB hC (a := a) (b := b) (c := c) (by omega) (by omega)) (fun w hC hF1 => ?_)
    have hF := hF.tr hF1 (Nat.le_refl _)
    obtain ⟨D5, hD5⟩ : ∃ zz, zz = sU (sU D 30 (a * 4 + b) c) 30 (b * 4 + a) c := ⟨_, rfl⟩
    rw [← hD5] at hC
    have e6 : D5 33 0 = D 33 0 := by rw [hD5]; rfl
    have e7 : D5 34 0 = D 34 0 := by rw [hD5]; rfl
    have e8 : D5 35 0 = D 35 0 := by rw [hD5]; rfl
    have e9 : D5 36 0 = D 36 0 := by rw [hD5]; rfl
    exact jx_vret d_T_way_45 rfl (pub_ret hC (by rw [hD5]; rw [show oWay S a b c = sU (sU (sU S 3 0 0) 12 (4 * a + b) c) 12 (4 * b + a) c by unfold oWay; rw [if_pos (by omega)]]; exact keep_way (hR.s3 0) (by omega) (by omega) (by omega)) hF (by decide) (by rw [show oWay S a b c = sU (sU (sU S 3 0 0) 12 (4 * a + b) c) 12 (4 * b + a) c by unfold oWay; rw [if_pos (by omega)]]; rfl))
  · refine jx_throw d_T_way_25 d_T_way_28 d_T_way_29 d_T_way_31 d_T_way_34 (x_T_way_25 hB) (by intro y hy; exact absurd hy (List.not_mem_nil)) (by omega) (by omega) (by show 6 ≤ _; omega) (Nat.le_of_ble_eq_true rfl) ?_
    exact pub_thr hC hR hF (by decide) 1 (by decide) (by unfold oWay; (repeat' split) <;> first | rfl | (exfalso; omega)) rfl
theorem w_T_done {E : jx_E} {l : Launch} {d : Nat} {w : jx_W} {D S : mS} {G : Nat → Nat → Nat} {lo hi : Nat} {p : Int} (hB : jx_B E) (hC : cR E D w G lo hi) (hR : rl S D) (irp : iR p) (hW : 50 ≤ jx_c w ∧ 5000 ≤ jx_s w) : jx_G E l Y_T_done (d + 7) (pubQ E G lo hi w exD (some (.int (iI (oDone S p).1))) ((oDone S p).2)) 0 (jx_ent [.ref (G 2 0), .int (iI (p))] 3) [] w := by
  show jx_G E l Y_T_done (d + 7) _ 0 [some (.ref (G 2 0)), some (.int (iI (p))), none] [] w
  have hN := hR.N
  have hF : cF lo hi 0 w w := cF.rf
  refine jx_aload_n d_T_done_0 rfl rfl ?_
  refine jx_iload_n d_T_done_1 rfl rfl ?_
  by_cases hq1 : 0 ≤ p ∧ p < S 0 0
  rotate_left
  · exact jx_callV_t (As := [.int (iI (p))]) d_T_done_2 (m_T_personOf hB) (v_T_62 hB) (by decide) (jx_c0 hB) (by rw [hC.kd (.inr (.inr (.inl ⟨rfl, by decide⟩)))]; rfl) rfl (Nat.le_of_ble_eq_true rfl) (Nat.le_of_ble_eq_true rfl) (w_T_personOf_no hB hC hR (q := p) (by omega) hq1 (room_c hF hW.1 (by decide)) (room_s hF hW.2 (by decide))) (.inl ⟨fun y hy => absurd hy List.not_mem_nil, pub_thr hC hR hF (by decide) 1 (by decide) (by unfold oDone; (repeat' split) <;> first | rfl | (exfalso; omega)) rfl⟩)
  refine jx_callV_r (As := [.int (iI (p))]) (v := some (.ref (G 0 (p).toNat))) d_T_done_2 (m_T_personOf hB) (v_T_62 hB) (by decide) (jx_c0 hB) (by rw [hC.kd (.inr (.inr (.inl ⟨rfl, by decide⟩)))]; rfl) rfl (Nat.le_of_ble_eq_true rfl) (Nat.le_of_ble_eq_true rfl) (w_T_personOf_ok hB hC hR (q := p) (by omega) hq1) ?_
  refine jx_astore_n d_T_done_5 rfl (Nat.le_of_ble_eq_true rfl) rfl ?_
  try dsimp only [List.set]
  refine jx_aload_n d_T_done_6 rfl rfl ?_
  refine cx_P 8 d_T_done_7 (f_T_188 hB) hC (by decide) (by omega) ?_
  have a2 : -1 ≤ D 8 p ∧ D 8 p ≤ 15 := (hR.Pr (p := p) (by omega)).2.2.2.2.2.2.2.1
  have a3 : D 8 p = S 11 p := (hR.P (p := p) (by omega)).1.2.2.2.2.2.2
  refine jI_const d_T_done_10 ?_
  refine jI_icmp_eq (tgt := 25) d_T_done_11 (by decide) (by omega) (by omega) (fun hc4 => ?_) (fun hc4 => ?_)
  · refine jx_throw d_T_done_25 d_T_done_28 d_T_done_29 d_T_done_31 d_T_done_34 (x_T_done_25 hB) (by intro y hy; exact absurd hy (List.not_mem_nil)) (by omega) (by omega) (by show 6 ≤ _; omega) (Nat.le_of_ble_eq_true rfl) ?_
    exact pub_thr hC hR hF (by decide) 2 (by decide) (by unfold oDone; (repeat' split) <;> first | rfl | (exfalso; omega)) rfl
  · have hbg := (hR.P (p := p) (by omega)).2.2.2.2.1 (by omega)
    refine jx_aload_n d_T_done_14 rfl rfl ?_
    refine cx_now d_T_done_15 (f_T_153 hB) hC ?_
    refine jx_aload_n d_T_done_18 rfl rfl ?_
    refine cx_P 9 d_T_done_19 (f_T_194 hB) hC (by decide) (by omega) ?_
    have a5 : 0 ≤ D 9 p ∧ D 9 p ≤ 105000 := (hR.Pr (p := p) (by omega)).2.2.2.2.2.2.2.2.1
    refine jI_icmp_ge (tgt := 35) d_T_done_22 (by decide) (by omega) (by omega) (fun hc6 => ?_) (fun hc6 => ?_)
    · refine jx_aload_n d_T_done_35 rfl rfl ?_
      refine cx_ptr (c2 := 2) (x2 := 2) d_T_done_36 (f_T_16 hB) hC (by decide) (by decide) rfl ?_
      refine jx_aload_n d_T_done_39 rfl rfl ?_
      refine cx_P 8 d_T_done_40 (f_T_188 hB) hC (by decide) (by omega) ?_
      have a7 : -1 ≤ D 8 p ∧ D 8 p ≤ 15 := (hR.Pr (p := p) (by omega)).2.2.2.2.2.2.2.1
      have a8 : D 8 p = S 11 p := (hR.P (p := p) (by omega)).1.2.2.2.2.2.2
      refine cx_at1 hB d_T_done_43 (v_T_166 hB) hC (by omega) (Nat.le_of_ble_eq_true rfl) ?_
      refine jx_cast d_T_done_46 (h_T_98 hB) (h_cast3 hB) (by decide) (jx_c3 hB) (by rw [hC.kd (.inr (.inl ⟨rfl, by omega⟩))]; rfl) ?_
      refine jI_const d_T_done_49 ?_
      refine cx_pK 5 (f := 25) rfl d_T_done_50 (f_T_170 hB) (t_3_5 hB) hC (by decide) (by omega) (fun w hC hF1 => ?_)
      have hF := hF.tr hF1 (Nat.le_refl _)
      obtain ⟨D9, hD9⟩ : ∃ zz, zz = sU D 25 (D 8 p) 2 := ⟨_, rfl⟩
      rw [← hD9] at hC
      have e10 : D9 33 0 = D 33 0 := by rw [hD9]; rfl
      have e11 : D9 34 0 = D 34 0 := by rw [hD9]; rfl
      have e12 : D9 35 0 = D 35 0 := by rw [hD9]; rfl
      have e13 : D9 36 0 = D 36 0 := by rw [hD9]; rfl
      refine jx_aload_n d_T_done_53 rfl rfl ?_
      refine jI_const d_T_done_54 ?_
      refine cx_pP 8 d_T_done_55 (f_T_188 hB) (t_2_8 hB) hC (by decide) (by omega) (fun w hC hF1 => ?_)
      have hF := hF.tr hF1 (Nat.le_refl _)
      obtain ⟨D14, hD14⟩ : ∃ zz, zz = sU D9 8 p ((-1)) := ⟨_, rfl⟩
      rw [← hD14] at hC
      have e15 : D14 33 0 = D9 33 0 := by rw [hD14]; rfl
      have e16 : D14 34 0 = D9 34 0 := by rw [hD14]; rfl
      have e17 : D14 35 0 = D9 35 0 := by rw [hD14]; rfl
      have e18 : D14 36 0 = D9 36 0 := by rw [hD14]; rfl
      obtain ⟨S14, hS14⟩ : ∃ zz, zz = sU (sU (sU S 3 0 0) 13 (S 11 p) 2) 11 p (-1) := ⟨_, rfl⟩
      have hRD14 : rl S14 D14 := by rw [hS14, hD14, hD9]; exact keep_done (hR.s3 0) (by show 0 ≤ p ∧ p < S 0 0; omega) (by show S 11 p ≠ -1; omega) (by show S 20 (S 11 p) + S 15 (S 11 p) ≤ S 2 0; have hh := (hR.P (p := p) (by omega)).2.2.2.2.1 (by omega); omega)
      have hN14 := hRD14.N
      refine jx_aload_n d_T_done_58 rfl rfl ?_
      refine jx_aload_n d_T_done_59 rfl rfl ?_
      refine cx_P 0 d_T_done_60 (f_T_58 hB) hC (by decide) (by omega) ?_
      have a19 : D14 0 p = p := (hRD14.P (p := p) (by omega)).1.1
      refine jI_const d_T_done_63 ?_
      refine jx_callV_r (As := [.int (iI (D14 0 p)), .int (iI (2))]) (v := some (.int (iI (sOf S14 (D14 0 p) 2)))) d_T_done_64 (m_T_tasksOf hB) (v_T_203 hB) (by decide) (jx_c0 hB) (by rw [hC.kd (.inr (.inr (.inl ⟨rfl, by decide⟩)))]; rfl) rfl (Nat.le_of_ble_eq_true rfl) (Nat.le_of_ble_eq_true rfl) (w_T_tasksOf hB hC hRD14 (p := D14 0 p) (s := 2) (by omega) (by omega)) ?_
      have q20 := sOf_rg (S := S14) (p := D14 0 p) (s := 2) (by omega)
      exact jx_iret d_T_done_67 rfl (pub_int hC (by rw [show oDone S p = (sDone (sU (sU S 13 (S 11 p) 2) 11 p (-1)) p, S14) by rw [hS14]; unfold oDone; rw [if_pos (by omega), if_neg (by have hh := (hR.P (p := p) (by omega)).2.2.2.2.1; omega)]]; exact hRD14) hF (by decide) (by rw [show oDone S p = (sDone (sU (sU S 13 (S 11 p) 2) 11 p (-1)) p, S14) by rw [hS14]; unfold oDone; rw [if_pos (by omega), if_neg (by have hh := (hR.P (p := p) (by omega)).2.2.2.2.1; omega)], hS14]; rfl) (by rw [show oDone S p = (sDone (sU (sU S 13 (S 11 p) 2) 11 p (-1)) p, S14) by rw [hS14]; unfold oDone; rw [if_pos (by omega), if_neg (by have hh := (hR.P (p := p) (by omega)).2.2.2.2.1; omega)]]; show sOf S14 _ 2 = sDone (sU (sU S 13 (S 11 p) 2) 11 p (-1)) p; rw [(hRD14.P (p := p) (by omega)).1.1, ← done_sOf _ p (by omega), hS14]; rfl))
    · refine jx_throw d_T_done_25 d_T_done_28 d_T_done_29 d_T_done_31 d_T_done_34 (x_T_done_25 hB) (by intro y hy; exact absurd hy (List.not_mem_nil)) (by omega) (by omega) (by show 6 ≤ _; omega) (Nat.le_of_ble_eq_true rfl) ?_
      exact pub_thr hC hR hF (by decide) 2 (by decide) (by unfold oDone; (repeat' split) <;> first | rfl | (exfalso; omega)) rfl
theorem w_T_train {E : jx_E} {l : Launch} {d : Nat} {w : jx_W} {D S : mS} {G : Nat → Nat → Nat} {lo hi : Nat} {p s : Int} (hB : jx_B E) (hC : cR E D w G lo hi) (hR : rl S D) (irp : iR p) (irs : iR s) (hW : 50 ≤ jx_c w ∧ 5000 ≤ jx_s w) : jx_G E l Y_T_train (d + 7) (pubQ E G lo hi w exC (some (.int (iI (oTrain S p s).1))) ((oTrain S p s).2)) 0 (jx_ent [.ref (G 2 0), .int (iI (p)), .int (iI (s))] 4) [] w := by
  show jx_G E l Y_T_train (d + 7) _ 0 [some (.ref (G 2 0)), some (.int (iI (p))), some (.int (iI (s))), none] [] w
  have hN := hR.N
  have hF : cF lo hi 0 w w := cF.rf
  refine jx_aload_n d_T_train_0 rfl rfl ?_
  refine jx_iload_n d_T_train_1 rfl rfl ?_
  by_cases hq1 : 0 ≤ p ∧ p < S 0 0
  rotate_left
  · exact jx_callV_t (As := [.int (iI (p))]) d_T_train_2 (m_T_personOf hB) (v_T_62 hB) (by decide) (jx_c0 hB) (by rw [hC.kd (.inr (.inr (.inl ⟨rfl, by decide⟩)))]; rfl) rfl (Nat.le_of_ble_eq_true rfl) (Nat.le_of_ble_eq_true rfl) (w_T_personOf_no hB hC hR (q := p) (by omega) hq1 (room_c hF hW.1 (by decide)) (room_s hF hW.2 (by decide))) (.inl ⟨fun y hy => absurd hy List.not_mem_nil, pub_thr hC hR hF (by decide) 1 (by decide) (by unfold oTrain; (repeat' split) <;> first | rfl | (exfalso; omega)) rfl⟩)
  refine jx_callV_r (As := [.int (iI (p))]) (v := some (.ref (G 0 (p).toNat))) d_T_train_2 (m_T_personOf hB) (v_T_62 hB) (by decide) (jx_c0 hB) (by rw [hC.kd (.inr (.inr (.inl ⟨rfl, by decide⟩)))]; rfl) rfl (Nat.le_of_ble_eq_true rfl) (Nat.le_of_ble_eq_true rfl) (w_T_personOf_ok hB hC hR (q := p) (by omega) hq1) ?_
  refine jx_astore_n d_T_train_5 rfl (Nat.le_of_ble_eq_true rfl) rfl ?_
  try dsimp only [List.set]
  refine jx_iload_n d_T_train_6 rfl rfl ?_
  refine jI_const d_T_train_7 ?_
  refine jI_bipush d_T_train_8 (by decide) ?_
  by_cases hq2 : 0 ≤ s ∧ s ≤ 7
  rotate_left
  · exact jx_callS_t (As := [.int (iI (s)), .int (iI (0)), .int (iI (7))]) d_T_train_10 (m_T_needWithin hB) (s_T_36 hB) rfl (Nat.le_of_ble_eq_true rfl) (Nat.le_of_ble_eq_true rfl) (w_T_needWithin_no (lo := lo) (hi := hi) (D := D) (S := S) (G := G) hB (x := s) (a := 0) (b := 7) (by omega) (by omega) (by omega) hq2 (room_c hF hW.1 (by decide)) (room_s hF hW.2 (by decide))) (.inl ⟨fun y hy => absurd hy List.not_mem_nil, pub_thr hC hR hF (by decide) 2 (by decide) (by unfold oTrain; (repeat' split) <;> first | rfl | (exfalso; omega)) rfl⟩)
  refine jx_callS_r (As := [.int (iI (s)), .int (iI (0)), .int (iI (7))]) (v := none) d_T_train_10 (m_T_needWithin hB) (s_T_36 hB) rfl (Nat.le_of_ble_eq_true rfl) (Nat.le_of_ble_eq_true rfl) (w_T_needWithin_ok (lo := lo) (hi := hi) (D := D) (S := S) (G := G) hB (x := s) (a := 0) (b := 7) (by omega) (by omega) (by omega) hq2) ?_
  refine jx_aload_n d_T_train_13 rfl rfl ?_
  refine jx_iload_n d_T_train_14 rfl rfl ?_
  refine jx_callV_r (As := [.int (iI (s))]) (v := some (.int (iI (if sBit (D 3 p) s = 1 then 1 else 0)))) d_T_train_15 (m_P_hasSkill hB) (v_T_78 hB) (by decide) (jx_c2 hB) (by rw [hC.kd (.inl ⟨rfl, by omega⟩)]; rfl) rfl (Nat.le_of_ble_eq_true rfl) (Nat.le_of_ble_eq_true rfl) (w_P_hasSkill hB hC hR (p := p) (s := s) (by omega) (by omega)) ?_
  have q3 := ite01 (sBit (D 3 p) s = 1)
  have a4 : sBit (D 3 p) s = sBit (S 4 p) s := by rw [(hR.P (p := p) (by omega)).1.2.2.2.1]
  have b5 := sBit_01 (S 4 p) s
  refine jI_if_eq (tgt := 31) d_T_train_18 (by decide) (by omega) (fun hc6 => ?_) (fun hc6 => ?_)
  · refine jx_aload_n d_T_train_31 rfl rfl ?_
    refine jx_dup d_T_train_32 rfl ?_
    refine cx_P 3 d_T_train_33 (f_T_89 hB) hC (by decide) (by omega) ?_
    have a7 : 0 ≤ D 3 p ∧ D 3 p ≤ 255 := (hR.Pr (p := p) (by omega)).2.2.1
    have a8 : D 3 p = S 4 p := (hR.P (p := p) (by omega)).1.2.2.2.1
    refine jI_const d_T_train_36 ?_
    refine jx_iload_n d_T_train_37 rfl rfl ?_
    refine jI_setbit d_T_train_38 d_T_train_39 ⟨by omega, by omega⟩ ⟨by omega, by omega⟩ ?_
    have u9 := sSet_rg (n := 8) (x := (D 3 p)) (k := s) ⟨by omega, by omega⟩ ⟨by omega, by omega⟩
    refine cx_pP 3 d_T_train_40 (f_T_89 hB) (t_2_3 hB) hC (by decide) (by omega) (fun w hC hF1 => ?_)
    have hF := hF.tr hF1 (Nat.le_refl _)
    obtain ⟨D10, hD10⟩ : ∃ zz, zz = sU D 3 p (sSet (D 3 p) s) := ⟨_, rfl⟩
    rw [← hD10] at hC
    have e11 : D10 33 0 = D 33 0 := by rw [hD10]; rfl
    have e12 : D10 34 0 = D 34 0 := by rw [hD10]; rfl
    have e13 : D10 35 0 = D 35 0 := by rw [hD10]; rfl
    have e14 : D10 36 0 = D 36 0 := by rw [hD10]; rfl
    refine jx_aload_n d_T_train_43 rfl rfl ?_
    refine cx_P 3 d_T_train_44 (f_T_89 hB) hC (by decide) (by omega) ?_
    rw [show D10 3 p = sSet (D 3 p) s by simp [hD10, sU, sUs]]
    refine jx_callS_r (As := [.int (iI (sSet (D 3 p) s))]) (v := some (.int (iI (sBits (sSet (D 3 p) s))))) d_T_train_47 (m_JInteger_bitCount hB) (s_T_92 hB) rfl (Nat.le_of_ble_eq_true rfl) (Nat.le_of_ble_eq_true rfl) (w_bitCount8 hB (x := sSet (D 3 p) s) (by omega)) ?_
    exact jx_iret d_T_train_50 rfl (pub_int hC (by rw [hD10]; rw [show oTrain S p s = (sBits (sSet (S 4 p) s), sU (sU S 3 0 0) 4 p (sSet (S 4 p) s)) by unfold oTrain; rw [if_pos (by omega), if_pos (by omega), if_neg (by omega)]]; exact keep_train (hR.s3 0) (by show 0 ≤ p ∧ p < S 0 0; omega) (by omega)) hF (by decide) (by rw [show oTrain S p s = (sBits (sSet (S 4 p) s), sU (sU S 3 0 0) 4 p (sSet (S 4 p) s)) by unfold oTrain; rw [if_pos (by omega), if_pos (by omega), if_neg (by omega)]]; rfl) (by rw [show oTrain S p s = (sBits (sSet (S 4 p) s), sU (sU S 3 0 0) 4 p (sSet (S 4 p) s)) by unfold oTrain; rw [if_pos (by omega), if_pos (by omega), if_neg (by omega)]]; show sBits (sSet (D 3 p) s) = sBits (sSet (S 4 p) s); rw [(hR.P (p := p) (by omega)).1.2.2.2.1]))
  · refine jx_throw d_T_train_21 d_T_train_24 d_T_train_25 d_T_train_27 d_T_train_30 (x_T_train_21 hB) (by intro y hy; exact absurd hy (List.not_mem_nil)) (by omega) (by omega) (by show 6 ≤ _; omega) (Nat.le_of_ble_eq_true rfl) ?_
    exact pub_thr hC hR hF (by decide) 3 (by decide) (by unfold oTrain; (repeat' split) <;> first | rfl | (exfalso; omega)) rfl
theorem w_T_refuse {E : jx_E} {l : Launch} {d : Nat} {w : jx_W} {D S : mS} {G : Nat → Nat → Nat} {lo hi : Nat} {p t : Int} (hB : jx_B E) (hC : cR E D w G lo hi) (hR : rl S D) (irp : iR p) (irt : iR t) (hW : 50 ≤ jx_c w ∧ 5000 ≤ jx_s w) : jx_G E l Y_T_refuse (d + 7) (pubQ E G lo hi w exD (some (.int (iI (oRefuse S p t).1))) ((oRefuse S p t).2)) 0 (jx_ent [.ref (G 2 0), .int (iI (p)), .int (iI (t))] 6) [] w := by
  show jx_G E l Y_T_refuse (d + 7) _ 0 [some (.ref (G 2 0)), some (.int (iI (p))), some (.int (iI (t))), none, none, none] [] w
  have hN := hR.N
  have hF : cF lo hi 0 w w := cF.rf
  refine jx_aload_n d_T_refuse_0 rfl rfl ?_
  refine jx_iload_n d_T_refuse_1 rfl rfl ?_
  by_cases hq1 : 0 ≤ p ∧ p < S 0 0
  rotate_left
  · exact jx_callV_t (As := [.int (iI (p))]) d_T_refuse_2 (m_T_personOf hB) (v_T_62 hB) (by decide) (jx_c0 hB) (by rw [hC.kd (.inr (.inr (.inl ⟨rfl, by decide⟩)))]; rfl) rfl (Nat.le_of_ble_eq_true rfl) (Nat.le_of_ble_eq_true rfl) (w_T_personOf_no hB hC hR (q := p) (by omega) hq1 (room_c hF hW.1 (by decide)) (room_s hF hW.2 (by decide))) (.inl ⟨fun y hy => absurd hy List.not_mem_nil, pub_thr hC hR hF (by decide) 1 (by decide) (by unfold oRefuse sRef; (repeat' split) <;> first | rfl | (exfalso; omega)) rfl⟩)
  refine jx_callV_r (As := [.int (iI (p))]) (v := some (.ref (G 0 (p).toNat))) d_T_refuse_2 (m_T_personOf hB) (v_T_62 hB) (by decide) (jx_c0 hB) (by rw [hC.kd (.inr (.inr (.inl ⟨rfl, by decide⟩)))]; rfl) rfl (Nat.le_of_ble_eq_true rfl) (Nat.le_of_ble_eq_true rfl) (w_T_personOf_ok hB hC hR (q := p) (by omega) hq1) ?_
  refine jx_astore_n d_T_refuse_5 rfl (Nat.le_of_ble_eq_true rfl) rfl ?_
  try dsimp only [List.set]
  refine jx_aload_n d_T_refuse_6 rfl rfl ?_
  refine jx_iload_n d_T_refuse_7 rfl rfl ?_
  by_cases hq2 : 0 ≤ t ∧ t < S 1 0
  rotate_left
  · exact jx_callV_t (As := [.int (iI (t))]) d_T_refuse_8 (m_T_taskOf hB) (v_T_110 hB) (by decide) (jx_c0 hB) (by rw [hC.kd (.inr (.inr (.inl ⟨rfl, by decide⟩)))]; rfl) rfl (Nat.le_of_ble_eq_true rfl) (Nat.le_of_ble_eq_true rfl) (w_T_taskOf_no hB hC hR (q := t) (by omega) hq2 (room_c hF hW.1 (by decide)) (room_s hF hW.2 (by decide))) (.inl ⟨fun y hy => absurd hy List.not_mem_nil, pub_thr hC hR hF (by decide) 1 (by decide) (by unfold oRefuse sRef; (repeat' split) <;> first | rfl | (exfalso; omega)) rfl⟩)
  refine jx_callV_r (As := [.int (iI (t))]) (v := some (.ref (G 1 (t).toNat))) d_T_refuse_8 (m_T_taskOf hB) (v_T_110 hB) (by decide) (jx_c0 hB) (by rw [hC.kd (.inr (.inr (.inl ⟨rfl, by decide⟩)))]; rfl) rfl (Nat.le_of_ble_eq_true rfl) (Nat.le_of_ble_eq_true rfl) (w_T_taskOf_ok hB hC hR (q := t) (by omega) hq2) ?_
  refine jx_astore d_T_refuse_11 (Nat.le_of_ble_eq_true rfl) rfl ?_
  try dsimp only [List.set]
  refine jx_aload d_T_refuse_13 rfl ?_
  by_cases hq3 : S 13 t = 0
  rotate_left
  · exact jx_callS_t (As := [.ref (G 1 (t).toNat)]) d_T_refuse_15 (m_T_needOpen hB) (s_T_114 hB) rfl (Nat.le_of_ble_eq_true rfl) (Nat.le_of_ble_eq_true rfl) (w_T_needOpen_no hB hC hR (t := t) (by omega) hq3 (room_c hF hW.1 (by decide)) (room_s hF hW.2 (by decide))) (.inl ⟨fun y hy => absurd hy List.not_mem_nil, pub_thr hC hR hF (by decide) 2 (by decide) (by unfold oRefuse sRef; (repeat' split) <;> first | rfl | (exfalso; omega)) rfl⟩)
  refine jx_callS_r (As := [.ref (G 1 (t).toNat)]) (v := none) d_T_refuse_15 (m_T_needOpen hB) (s_T_114 hB) rfl (Nat.le_of_ble_eq_true rfl) (Nat.le_of_ble_eq_true rfl) (w_T_needOpen_ok hB hC hR (t := t) (by omega) hq3) ?_
  refine jx_aload_n d_T_refuse_18 rfl rfl ?_
  refine jx_aload d_T_refuse_19 rfl ?_
  refine jx_callV_r (As := [.ref (G 1 (t).toNat)]) (v := some (.int (iI (if sBit (D 10 p) (D 20 t) = 1 then 1 else 0)))) d_T_refuse_21 (m_P_hasRefused hB) (v_T_118 hB) (by decide) (jx_c2 hB) (by rw [hC.kd (.inl ⟨rfl, by omega⟩)]; rfl) rfl (Nat.le_of_ble_eq_true rfl) (Nat.le_of_ble_eq_true rfl) (w_P_hasRefused hB hC hR (p := p) (t := t) (by omega) (by omega)) ?_
  have q4 := ite01 (sBit (D 10 p) (D 20 t) = 1)
  have a5 : sBit (D 10 p) (D 20 t) = sBit (S 18 t) p := by rw [(hR.Kr (t := t) (by omega)).1]; exact hR.B (by omega) (by omega)
  have b6 := sBit_01 (S 18 t) p
  refine jI_if_eq (tgt := 37) d_T_refuse_24 (by decide) (by omega) (fun hc7 => ?_) (fun hc7 => ?_)
  · refine jx_aload_n d_T_refuse_37 rfl rfl ?_
    refine jx_dup d_T_refuse_38 rfl ?_
    refine cx_P 10 d_T_refuse_39 (f_T_124 hB) hC (by decide) (by omega) ?_
    have a8 : 0 ≤ D 10 p ∧ D 10 p < 65536 := (hR.Pr (p := p) (by omega)).2.2.2.2.2.2.2.2.2
    refine jI_const d_T_refuse_42 ?_
    refine jx_aload d_T_refuse_43 rfl ?_
    refine cx_K 0 (f := 20) rfl d_T_refuse_45 (f_T_101 hB) hC (by decide) (by omega) ?_
    have a9 : D 20 t = t := (hR.Kr (t := t) (by omega)).1
    refine jI_setbit d_T_refuse_48 d_T_refuse_49 ⟨by omega, by omega⟩ ⟨by omega, by omega⟩ ?_
    have u10 := sSet_rg (n := 16) (x := (D 10 p)) (k := (D 20 t)) ⟨by omega, by omega⟩ ⟨by omega, by omega⟩
    refine cx_pP 10 d_T_refuse_50 (f_T_124 hB) (t_2_10 hB) hC (by decide) (by omega) (fun w hC hF1 => ?_)
    have hF := hF.tr hF1 (Nat.le_refl _)
    obtain ⟨D11, hD11⟩ : ∃ zz, zz = sU D 10 p (sSet (D 10 p) (D 20 t)) := ⟨_, rfl⟩
    rw [← hD11] at hC
    have e12 : D11 33 0 = D 33 0 := by rw [hD11]; rfl
    have e13 : D11 34 0 = D 34 0 := by rw [hD11]; rfl
    have e14 : D11 35 0 = D 35 0 := by rw [hD11]; rfl
    have e15 : D11 36 0 = D 36 0 := by rw [hD11]; rfl
    refine jx_aload d_T_refuse_53 rfl ?_
    refine cx_K 6 (f := 26) rfl d_T_refuse_55 (f_T_127 hB) hC (by decide) (by omega) ?_
    rw [show D11 26 t = D 26 t by simp [hD11, sU, sUs]]
    have a16 : D 26 t = S 19 t := (hR.K (t := t) (by omega)).1.2.2.2.2.2.2.1
    have a17 : -1 ≤ D 26 t ∧ D 26 t ≤ 3 := (hR.Kr (t := t) (by omega)).2.2.2.2.2.2.1
    refine jx_aload_n d_T_refuse_58 rfl rfl ?_
    refine cx_P 0 d_T_refuse_59 (f_T_58 hB) hC (by decide) (by omega) ?_
    rw [show D11 0 p = D 0 p by simp [hD11, sU, sUs]]
    have a18 : D 0 p = p := (hR.P (p := p) (by omega)).1.1
    refine jI_icmp_ne (tgt := 69) d_T_refuse_62 (by decide) (by omega) (by omega) (fun hc19 => ?_) (fun hc19 => ?_)
    · refine jI_const d_T_refuse_69 ?_
      refine jx_istore d_T_refuse_70 (Nat.le_of_ble_eq_true rfl) rfl ?_
      try dsimp only [List.set]
      refine jx_iload d_T_refuse_72 rfl ?_
      refine jI_if_eq (tgt := 82) d_T_refuse_74 (by decide) (by omega) (fun _ => ?_) (fun z => absurd z (by omega))
      refine jx_iload d_T_refuse_82 rfl ?_
      exact jx_zret d_T_refuse_84 rfl (jI_bool (by omega)) (pub_int hC (by rw [hD11]; rw [show oRefuse S p t = (0, sU (sU S 3 0 0) 18 t (sSet (S 18 t) p)) by unfold oRefuse sRef; rw [if_pos (by omega), if_neg (by rw [if_neg (by omega)]; omega), if_neg (by omega)], (hR.Kr (t := t) (by omega)).1]; exact keep_refuse (hR.s3 0) (p := p) (t := t) (by show 0 ≤ p ∧ p < S 0 0; omega) (by show 0 ≤ t ∧ t < S 1 0; omega)) hF (by decide) (by rw [show oRefuse S p t = (0, sU (sU S 3 0 0) 18 t (sSet (S 18 t) p)) by unfold oRefuse sRef; rw [if_pos (by omega), if_neg (by rw [if_neg (by omega)]; omega), if_neg (by omega)]]; rfl) (by rw [show oRefuse S p t = (0, sU (sU S 3 0 0) 18 t (sSet (S 18 t) p)) by unfold oRefuse sRef; rw [if_pos (by omega), if_neg (by rw [if_neg (by omega)]; omega), if_neg (by omega)]]))
    · refine jI_const d_T_refuse_65 ?_
      refine jx_goto (tgt := 70) d_T_refuse_66 (by decide) ?_
      refine jx_istore d_T_refuse_70 (Nat.le_of_ble_eq_true rfl) rfl ?_
      try dsimp only [List.set]
      refine jx_iload d_T_refuse_72 rfl ?_
      refine jI_if_eq (tgt := 82) d_T_refuse_74 (by decide) (by omega) (fun z => absurd z (by omega)) (fun _ => ?_)
      refine jx_aload d_T_refuse_77 rfl ?_
      refine jc_callV (As := []) (v := none) d_T_refuse_79 (m_K_free hB) (v_T_130 hB) (by decide) (jx_c3 hB) (by rw [hC.kd (.inr (.inl ⟨rfl, by omega⟩))]; rfl) rfl (Nat.le_of_ble_eq_true rfl) (Nat.le_of_ble_eq_true rfl) (w_K_free hB hC (t := t) (by omega)) (fun w hC hF1 => ?_)
      have hF := hF.tr hF1 (Nat.le_refl _)
      obtain ⟨D22, hD22⟩ : ∃ zz, zz = sU (sU (sU D11 25 t 0) 26 t (-1)) 27 t (-1) := ⟨_, rfl⟩
      rw [← hD22] at hC
      have e23 : D22 33 0 = D11 33 0 := by rw [hD22]; rfl
      have e24 : D22 34 0 = D11 34 0 := by rw [hD22]; rfl
      have e25 : D22 35 0 = D11 35 0 := by rw [hD22]; rfl
      have e26 : D22 36 0 = D11 36 0 := by rw [hD22]; rfl
      refine jx_iload d_T_refuse_82 rfl ?_
      exact jx_zret d_T_refuse_84 rfl (jI_bool (by omega)) (pub_int hC (by rw [hD22, hD11]; rw [show oRefuse S p t = (1, oFree (sU (sU S 3 0 0) 18 t (sSet (S 18 t) p)) t) by unfold oRefuse sRef; rw [if_pos (by omega), if_neg (by rw [if_neg (by omega)]; omega), if_pos (by omega)], (hR.Kr (t := t) (by omega)).1]; (have hk := keep_refuse (hR.s3 0) (p := p) (t := t) (by show 0 ≤ p ∧ p < S 0 0; omega) (by show 0 ≤ t ∧ t < S 1 0; omega)); exact keep_free hk (by show 0 ≤ t ∧ t < S 1 0; omega) (fun q hq hz => by have hz : S 11 q = t := hz; have hq : 0 ≤ q ∧ q < S 0 0 := hq; have hh := (hR.P hq).2.2.2.2.1 (by omega); rw [hz] at hh; omega)) hF (by decide) (by rw [show oRefuse S p t = (1, oFree (sU (sU S 3 0 0) 18 t (sSet (S 18 t) p)) t) by unfold oRefuse sRef; rw [if_pos (by omega), if_neg (by rw [if_neg (by omega)]; omega), if_pos (by omega)]]; rfl) (by rw [show oRefuse S p t = (1, oFree (sU (sU S 3 0 0) 18 t (sSet (S 18 t) p)) t) by unfold oRefuse sRef; rw [if_pos (by omega), if_neg (by rw [if_neg (by omega)]; omega), if_pos (by omega)]]))
  · refine jx_throw d_T_refuse_27 d_T_refuse_30 d_T_refuse_31 d_T_refuse_33 d_T_refuse_36 (x_T_refuse_27 hB) (by intro y hy; exact absurd hy (List.not_mem_nil)) (by omega) (by omega) (by show 6 ≤ _; omega) (Nat.le_of_ble_eq_true rfl) ?_
    exact pub_thr hC hR hF (by decide) 2 (by decide) (by unfold oRefuse sRef; (repeat' split) <;> first | rfl | (exfalso; omega)) rfl
theorem sU_sU (S : mS) (f : Nat) (i a b : Int) : sU (sU S f i a) f i b = sU S f i b := by
  funext g j
  unfold sU
  split <;> rfl
theorem w_T_give {E : jx_E} {l : Launch} {d : Nat} {w : jx_W} {D S : mS} {G : Nat → Nat → Nat} {lo hi : Nat} {p : Int} (hB : jx_B E) (hC : cR E D w G lo hi) (hR : rl S D) (irp : iR p) (hW : 50 ≤ jx_c w ∧ 5000 ≤ jx_s w) : jx_G E l Y_T_give (d + 7) (pubQ E G lo hi w exD (some (.int (iI (oGive S p).1))) ((oGive S p).2)) 0 (jx_ent [.ref (G 2 0), .int (iI (p))] 5) [] w := by
  show jx_G E l Y_T_give (d + 7) _ 0 [some (.ref (G 2 0)), some (.int (iI (p))), none, none, none] [] w
  have hN := hR.N
  have hF : cF lo hi 0 w w := cF.rf
  refine jx_aload_n d_T_give_0 rfl rfl ?_
  refine jx_iload_n d_T_give_1 rfl rfl ?_
  by_cases hq1 : 0 ≤ p ∧ p < S 0 0
  rotate_left
  · exact jx_callV_t (As := [.int (iI (p))]) d_T_give_2 (m_T_personOf hB) (v_T_62 hB) (by decide) (jx_c0 hB) (by rw [hC.kd (.inr (.inr (.inl ⟨rfl, by decide⟩)))]; rfl) rfl (Nat.le_of_ble_eq_true rfl) (Nat.le_of_ble_eq_true rfl) (w_T_personOf_no hB hC hR (q := p) (by omega) hq1 (room_c hF hW.1 (by decide)) (room_s hF hW.2 (by decide))) (.inl ⟨fun y hy => absurd hy List.not_mem_nil, pub_thr hC hR hF (by decide) 1 (by decide) (by unfold oGive; (repeat' split) <;> first | rfl | exact sU_sU _ _ _ _ _ | (exfalso; omega)) rfl⟩)
  refine jx_callV_r (As := [.int (iI (p))]) (v := some (.ref (G 0 (p).toNat))) d_T_give_2 (m_T_personOf hB) (v_T_62 hB) (by decide) (jx_c0 hB) (by rw [hC.kd (.inr (.inr (.inl ⟨rfl, by decide⟩)))]; rfl) rfl (Nat.le_of_ble_eq_true rfl) (Nat.le_of_ble_eq_true rfl) (w_T_personOf_ok hB hC hR (q := p) (by omega) hq1) ?_
  refine jx_astore_n d_T_give_5 rfl (Nat.le_of_ble_eq_true rfl) rfl ?_
  try dsimp only [List.set]
  have he := (hR.P (p := p) (by omega)).1
  have hrest := (hR.P (p := p) (by omega)).2.1
  have hpr := hR.Pr (p := p) (by omega)
  refine jx_aload_n d_T_give_6 rfl rfl ?_
  refine jx_aload_n d_T_give_7 rfl rfl ?_
  by_cases hq2 : D 7 p ≠ 0 ∧ D 8 p = -1 ∧ D 1 p ≤ D 31 0 ∧ D 31 0 < D 2 p ∧ ¬ (D 5 p ≤ D 31 0 ∧ D 31 0 < D 6 p)
  rotate_left
  · exact jx_callV_t (As := [.ref (G 0 (p).toNat)]) d_T_give_8 (m_T_needAtWork hB) (v_T_177 hB) (by decide) (jx_c0 hB) (by rw [hC.kd (.inr (.inr (.inl ⟨rfl, by decide⟩)))]; rfl) rfl (Nat.le_of_ble_eq_true rfl) (Nat.le_of_ble_eq_true rfl) (w_T_needAtWork_no hB hC hR (p := p) (by omega) hq2 (room_c hF hW.1 (by decide)) (room_s hF hW.2 (by decide))) (.inl ⟨fun y hy => absurd hy List.not_mem_nil, pub_thr hC hR hF (by decide) 2 (by decide) (by unfold oGive; (repeat' split) <;> first | rfl | exact sU_sU _ _ _ _ _ | (exfalso; omega)) rfl⟩)
  refine jx_callV_r (As := [.ref (G 0 (p).toNat)]) (v := none) d_T_give_8 (m_T_needAtWork hB) (v_T_177 hB) (by decide) (jx_c0 hB) (by rw [hC.kd (.inr (.inr (.inl ⟨rfl, by decide⟩)))]; rfl) rfl (Nat.le_of_ble_eq_true rfl) (Nat.le_of_ble_eq_true rfl) (w_T_needAtWork_ok hB hC hR (p := p) (by omega) hq2) ?_
  refine jx_aload_n d_T_give_11 rfl rfl ?_
  refine jx_aload_n d_T_give_12 rfl rfl ?_
  refine cx_P 0 d_T_give_13 (f_T_58 hB) hC (by decide) (by omega) ?_
  have a3 : D 0 p = p := (hR.P (p := p) (by omega)).1.1
  refine jI_const d_T_give_16 ?_
  refine jx_callV_r (As := [.int (iI (D 0 p)), .int (iI (0))]) (v := some (.int (iI (sPlan S (D 0 p) 0)))) d_T_give_17 (m_T_plannedTask hB) (v_T_181 hB) (by decide) (jx_c0 hB) (by rw [hC.kd (.inr (.inr (.inl ⟨rfl, by decide⟩)))]; rfl) rfl (Nat.le_of_ble_eq_true rfl) (Nat.le_of_ble_eq_true rfl) (w_T_plannedTask hB hC hR (p := D 0 p) (i := 0) (by omega) (by omega)) ?_
  have q4 := sPlan_rg (S := S) (p := D 0 p) (i := 0) (by omega)
  have q5 := plan_in (S := S) (p := D 0 p) (i := 0) (by omega) (by omega)
  obtain ⟨t, ht⟩ : ∃ zz, zz = sPlan S p 0 := ⟨_, rfl⟩
  have e1 : sPlan S (D 0 p) 0 = t := by rw [he.1, ht]
  have r1 := sPlan_rg (S := S) (p := p) (i := 0) (by omega)
  have r2 := plan_in (S := S) (p := p) (i := 0) (by omega) (by omega)
  rw [← ht] at r1 r2
  rw [e1]
  refine jx_istore_n d_T_give_20 rfl (Nat.le_of_ble_eq_true rfl) rfl ?_
  try dsimp only [List.set]
  refine jx_iload_n d_T_give_21 rfl rfl ?_
  refine jI_const d_T_give_22 ?_
  refine jI_icmp_eq (tgt := 47) d_T_give_23 (by decide) (by omega) (by omega) (fun hc6 => ?_) (fun hc6 => ?_)
  · refine jI_const d_T_give_47 ?_
    exact jx_iret d_T_give_48 rfl (pub_int hC (by rw [show oGive S p = (-1, sU (sU S 3 0 0) 3 0 0) by unfold oGive; rw [← ht, if_pos (by omega), if_neg (by omega), if_pos (by omega)]]; exact (hR.s3 0).s3 0) hF (by decide) (by rw [show oGive S p = (-1, sU (sU S 3 0 0) 3 0 0) by unfold oGive; rw [← ht, if_pos (by omega), if_neg (by omega), if_pos (by omega)]]; exact (show sU (sU S 3 0 0) 3 0 0 3 0 = 0 from sU_same)) (by rw [show oGive S p = (-1, sU (sU S 3 0 0) 3 0 0) by unfold oGive; rw [← ht, if_pos (by omega), if_neg (by omega), if_pos (by omega)]]))
  · refine jx_aload_n d_T_give_26 rfl rfl ?_
    refine cx_ptr (c2 := 2) (x2 := 2) d_T_give_27 (f_T_16 hB) hC (by decide) (by decide) rfl ?_
    refine jx_iload_n d_T_give_30 rfl rfl ?_
    refine cx_at1 hB d_T_give_31 (v_T_166 hB) hC (by omega) (Nat.le_of_ble_eq_true rfl) ?_
    refine jx_cast d_T_give_34 (h_T_98 hB) (h_cast3 hB) (by decide) (jx_c3 hB) (by rw [hC.kd (.inr (.inl ⟨rfl, by omega⟩))]; rfl) ?_
    refine cx_K 7 (f := 27) rfl d_T_give_37 (f_T_185 hB) hC (by decide) (by omega) ?_
    have a7 : D 27 t = S 20 t := (hR.K (t := t) (by omega)).1.2.2.2.2.2.2.2
    have a8 : -1 ≤ D 27 t ∧ D 27 t ≤ 100000 := (hR.Kr (t := t) (by omega)).2.2.2.2.2.2.2
    refine jx_aload_n d_T_give_40 rfl rfl ?_
    refine cx_now d_T_give_41 (f_T_153 hB) hC ?_
    refine jI_icmp_le (tgt := 49) d_T_give_44 (by decide) (by omega) (by omega) (fun hc9 => ?_) (fun hc9 => ?_)
    · refine jx_aload_n d_T_give_49 rfl rfl ?_
      refine cx_ptr (c2 := 2) (x2 := 2) d_T_give_50 (f_T_16 hB) hC (by decide) (by decide) rfl ?_
      refine jx_iload_n d_T_give_53 rfl rfl ?_
      refine cx_at1 hB d_T_give_54 (v_T_166 hB) hC (by omega) (Nat.le_of_ble_eq_true rfl) ?_
      refine jx_cast d_T_give_57 (h_T_98 hB) (h_cast3 hB) (by decide) (jx_c3 hB) (by rw [hC.kd (.inr (.inl ⟨rfl, by omega⟩))]; rfl) ?_
      refine jx_astore d_T_give_60 (Nat.le_of_ble_eq_true rfl) rfl ?_
      try dsimp only [List.set]
      refine jx_aload d_T_give_62 rfl ?_
      refine jI_const d_T_give_64 ?_
      refine cx_pK 5 (f := 25) rfl d_T_give_65 (f_T_170 hB) (t_3_5 hB) hC (by decide) (by omega) (fun w hC hF1 => ?_)
      have hF := hF.tr hF1 (Nat.le_refl _)
      obtain ⟨D10, hD10⟩ : ∃ zz, zz = sU D 25 t 1 := ⟨_, rfl⟩
      rw [← hD10] at hC
      have e11 : D10 33 0 = D 33 0 := by rw [hD10]; rfl
      have e12 : D10 34 0 = D 34 0 := by rw [hD10]; rfl
      have e13 : D10 35 0 = D 35 0 := by rw [hD10]; rfl
      have e14 : D10 36 0 = D 36 0 := by rw [hD10]; rfl
      refine jx_aload d_T_give_68 rfl ?_
      refine jx_aload_n d_T_give_70 rfl rfl ?_
      refine cx_now d_T_give_71 (f_T_153 hB) hC ?_
      rw [show D10 31 0 = D 31 0 by simp [hD10, sU, sUs]]
      refine cx_pK 7 (f := 27) rfl d_T_give_74 (f_T_185 hB) (t_3_7 hB) hC (by decide) (by omega) (fun w hC hF1 => ?_)
      have hF := hF.tr hF1 (Nat.le_refl _)
      obtain ⟨D15, hD15⟩ : ∃ zz, zz = sU D10 27 t (D 31 0) := ⟨_, rfl⟩
      rw [← hD15] at hC
      have e16 : D15 33 0 = D10 33 0 := by rw [hD15]; rfl
      have e17 : D15 34 0 = D10 34 0 := by rw [hD15]; rfl
      have e18 : D15 35 0 = D10 35 0 := by rw [hD15]; rfl
      have e19 : D15 36 0 = D10 36 0 := by rw [hD15]; rfl
      refine jx_aload_n d_T_give_77 rfl rfl ?_
      refine jx_iload_n d_T_give_78 rfl rfl ?_
      refine cx_pP 8 d_T_give_79 (f_T_188 hB) (t_2_8 hB) hC (by decide) (by omega) (fun w hC hF1 => ?_)
      have hF := hF.tr hF1 (Nat.le_refl _)
      obtain ⟨D20, hD20⟩ : ∃ zz, zz = sU D15 8 p t := ⟨_, rfl⟩
      rw [← hD20] at hC
      have e21 : D20 33 0 = D15 33 0 := by rw [hD20]; rfl
      have e22 : D20 34 0 = D15 34 0 := by rw [hD20]; rfl
      have e23 : D20 35 0 = D15 35 0 := by rw [hD20]; rfl
      have e24 : D20 36 0 = D15 36 0 := by rw [hD20]; rfl
      refine jx_aload_n d_T_give_82 rfl rfl ?_
      refine jx_aload_n d_T_give_83 rfl rfl ?_
      refine cx_now d_T_give_84 (f_T_153 hB) hC ?_
      rw [show D20 31 0 = D 31 0 by simp [hD20, hD15, hD10, sU, sUs]]
      refine jx_aload d_T_give_87 rfl ?_
      refine cx_K 2 (f := 22) rfl d_T_give_89 (f_T_191 hB) hC (by decide) (by omega) ?_
      rw [show D20 22 t = D 22 t by simp [hD20, hD15, hD10, sU, sUs]]
      have a25 : D 22 t = S 15 t := (hR.K (t := t) (by omega)).1.2.2.1
      have a26 : 1 ≤ D 22 t ∧ D 22 t ≤ 5000 := (hR.Kr (t := t) (by omega)).2.2.1
      refine jI_add d_T_give_92 ?_
      refine cx_pP 9 d_T_give_93 (f_T_194 hB) (t_2_9 hB) hC (by decide) (by omega) (fun w hC hF1 => ?_)
      have hF := hF.tr hF1 (Nat.le_refl _)
      obtain ⟨D27, hD27⟩ : ∃ zz, zz = sU D20 9 p ((D 31 0) + (D 22 t)) := ⟨_, rfl⟩
      rw [← hD27] at hC
      have e28 : D27 33 0 = D20 33 0 := by rw [hD27]; rfl
      have e29 : D27 34 0 = D20 34 0 := by rw [hD27]; rfl
      have e30 : D27 35 0 = D20 35 0 := by rw [hD27]; rfl
      have e31 : D27 36 0 = D20 36 0 := by rw [hD27]; rfl
      refine jx_aload_n d_T_give_96 rfl rfl ?_
      refine jx_aload d_T_give_97 rfl ?_
      refine cx_K 4 (f := 24) rfl d_T_give_99 (f_T_197 hB) hC (by decide) (by omega) ?_
      rw [show D27 24 t = D 24 t by simp [hD27, hD20, hD15, hD10, sU, sUs]]
      have a32 : D 24 t = S 17 t := (hR.K (t := t) (by omega)).1.2.2.2.2.1
      have a33 : 0 ≤ D 24 t ∧ D 24 t ≤ 3 := (hR.Kr (t := t) (by omega)).2.2.2.2.1
      refine cx_pP 4 d_T_give_102 (f_T_200 hB) (t_2_4 hB) hC (by decide) (by omega) (fun w hC hF1 => ?_)
      have hF := hF.tr hF1 (Nat.le_refl _)
      obtain ⟨D34, hD34⟩ : ∃ zz, zz = sU D27 4 p (D 24 t) := ⟨_, rfl⟩
      rw [← hD34] at hC
      have e35 : D34 33 0 = D27 33 0 := by rw [hD34]; rfl
      have e36 : D34 34 0 = D27 34 0 := by rw [hD34]; rfl
      have e37 : D34 35 0 = D27 35 0 := by rw [hD34]; rfl
      have e38 : D34 36 0 = D27 36 0 := by rw [hD34]; rfl
      refine jx_iload_n d_T_give_105 rfl rfl ?_
      exact jx_iret d_T_give_106 rfl (pub_int hC (by rw [hD34, hD27, hD20, hD15, hD10]; rw [show oGive S p = (t, sU (sU (sU (sU (sU (sU S 3 0 0) 3 0 0) 13 t 1) 20 t (S 2 0)) 11 p t) 9 p (S 17 t)) by unfold oGive; rw [← ht, if_pos (by omega), if_neg (by omega), if_neg (by omega)]]; exact keep_give ((hR.s3 0).s3 0) (by show 0 ≤ p ∧ p < S 0 0; omega) (by show 0 ≤ t ∧ t < S 1 0; omega) (by show S 10 p = 1; omega) (by show S 11 p = -1; omega) (by show S 13 t = 0; omega) (by show S 19 t = p; omega)) hF (by decide) (by rw [show oGive S p = (t, sU (sU (sU (sU (sU (sU S 3 0 0) 3 0 0) 13 t 1) 20 t (S 2 0)) 11 p t) 9 p (S 17 t)) by unfold oGive; rw [← ht, if_pos (by omega), if_neg (by omega), if_neg (by omega)]]; rfl) (by rw [show oGive S p = (t, sU (sU (sU (sU (sU (sU S 3 0 0) 3 0 0) 13 t 1) 20 t (S 2 0)) 11 p t) 9 p (S 17 t)) by unfold oGive; rw [← ht, if_pos (by omega), if_neg (by omega), if_neg (by omega)]]))
    · refine jI_const d_T_give_47 ?_
      exact jx_iret d_T_give_48 rfl (pub_int hC (by rw [show oGive S p = (-1, sU (sU S 3 0 0) 3 0 0) by unfold oGive; rw [← ht, if_pos (by omega), if_neg (by omega), if_pos (by omega)]]; exact (hR.s3 0).s3 0) hF (by decide) (by rw [show oGive S p = (-1, sU (sU S 3 0 0) 3 0 0) by unfold oGive; rw [← ht, if_pos (by omega), if_neg (by omega), if_pos (by omega)]]; exact (show sU (sU S 3 0 0) 3 0 0 3 0 = 0 from sU_same)) (by rw [show oGive S p = (-1, sU (sU S 3 0 0) 3 0 0) by unfold oGive; rw [← ht, if_pos (by omega), if_neg (by omega), if_pos (by omega)]]))
theorem leave_ne {p : Int} {S : mS} {n : Int} {g : Nat} (h1 : g ≠ 13) (h2 : g ≠ 19) (h3 : g ≠ 20) : sFor (gLeave p) S n g = S g := by
  refine sFor_ind (P := fun (T : mS) => T g = S g) rfl (fun T t _ h => ?_)
  rw [← h]
  unfold gLeave
  split
  · unfold oFree
    rw [sU_ne h3, sU_ne h2, sU_ne h1]
  · rfl
theorem leave_3 (S : mS) (p : Int) : sFor (gLeave p) (sU (sU (sU S 3 0 0) 10 p 0) 11 p (-1)) (S 1 0) 3 0 = 0 := by
  rw [leave_ne (by decide) (by decide) (by decide)]
  rfl
theorem l_T_leaves {E : jx_E} {l : Launch} {d : Nat} {w0 : jx_W} {S : mS} {G : Nat → Nat → Nat} {lo hi : Nat} {p : Int} (hB : jx_B E) (hp : 0 ≤ p ∧ p ≤ S 0 0 - 1) (h10 : S 10 p ≠ 0) : ∀ (j : Nat) (x t : Int) (X : Option Value) (D : mS) (w : jx_W), cR E D w G lo hi → rl (sFor (gLeave p) (sU (sU (sU S 3 0 0) 10 p 0) 11 p (-1)) t) D → cF lo hi 0 w0 w → x = sCnt (fun i => decide (S 19 i = p ∧ S 13 i ≠ 2)) t → 0 ≤ t ∧ t ≤ S 1 0 → S 1 0 - t < j → jx_G E l Y_T_leaves (d + 4) (pubQ E G lo hi w0 exD (some (.int (iI (oLeaves S p).1))) (oLeaves S p).2) 38 [some (.ref (G 2 0)), some (.int (iI (p))), some (.ref (G 0 (p).toNat)), some (.int (iI (x))), some (.int (iI (t))), X] [] w := by
  intro j
  induction j with
  | zero => intro x t X D w hC hR hF hx ht hz; exfalso; omega
  | succ j ih =>
    intro x t X D w hC hR hF hx ht hz
    obtain ⟨T, hT⟩ : ∃ zz, zz = sFor (gLeave p) (sU (sU (sU S 3 0 0) 10 p 0) 11 p (-1)) t := ⟨_, rfl⟩
    rw [← hT] at hR
    have hN := hR.N
    have hxr := sCnt_rg (fun i => decide (S 19 i = p ∧ S 13 i ≠ 2)) ht.1
    rw [← hx] at hxr
    have t0 : T 0 0 = S 0 0 := by rw [hT, leave_ne (by decide) (by decide) (by decide)]; rfl
    have t1 : T 1 0 = S 1 0 := by rw [hT, leave_ne (by decide) (by decide) (by decide)]; rfl
    have t11 : T 11 p = -1 := by rw [hT, leave_ne (by decide) (by decide) (by decide)]; exact sU_same
    have t19 : T 19 t = S 19 t := by rw [hT, sFor_look (fun S t i h => gLeave_i S t i h) ht.1 (Int.le_refl _)]; rfl
    have t13 : T 13 t = S 13 t := by rw [hT, sFor_look (fun S t i h => gLeave_i S t i h) ht.1 (Int.le_refl _)]; rfl
    refine jx_iload d_T_leaves_38 rfl ?_
    refine jx_aload_n d_T_leaves_40 rfl rfl ?_
    refine cx_ptr (c2 := 2) (x2 := 2) d_T_leaves_41 (f_T_16 hB) hC (by decide) (by decide) rfl ?_
    refine cx_size 1 2 34 rfl hB d_T_leaves_44 (v_T_41 hB) hC (by decide) rfl (Nat.le_of_ble_eq_true rfl) ?_
    refine jI_icmp_ge (tgt := 99) d_T_leaves_47 (by decide) (by omega) (by omega) (fun hc1 => ?_) (fun hc1 => ?_)
    · refine jx_iload_n d_T_leaves_99 rfl rfl ?_
      exact jx_iret d_T_leaves_100 rfl (pub_int hC (by rw [show oLeaves S p = (sCnt (fun i => decide (S 19 i = p ∧ S 13 i ≠ 2)) (S 1 0), sFor (gLeave p) (sU (sU (sU S 3 0 0) 10 p 0) 11 p (-1)) (S 1 0)) by unfold oLeaves; rw [if_pos hp, if_neg (by omega)]]; (have e : t = S 1 0 := by omega); rw [← e, ← hT]; exact hR) hF (by decide) (by rw [show oLeaves S p = (sCnt (fun i => decide (S 19 i = p ∧ S 13 i ≠ 2)) (S 1 0), sFor (gLeave p) (sU (sU (sU S 3 0 0) 10 p 0) 11 p (-1)) (S 1 0)) by unfold oLeaves; rw [if_pos hp, if_neg (by omega)]]; exact leave_3 S p) (by rw [show oLeaves S p = (sCnt (fun i => decide (S 19 i = p ∧ S 13 i ≠ 2)) (S 1 0), sFor (gLeave p) (sU (sU (sU S 3 0 0) 10 p 0) 11 p (-1)) (S 1 0)) by unfold oLeaves; rw [if_pos hp, if_neg (by omega)]]; (have e : t = S 1 0 := by omega); rw [hx, e]))
    · refine jx_aload_n d_T_leaves_50 rfl rfl ?_
      refine cx_ptr (c2 := 2) (x2 := 2) d_T_leaves_51 (f_T_16 hB) hC (by decide) (by decide) rfl ?_
      refine jx_iload d_T_leaves_54 rfl ?_
      refine cx_at1 hB d_T_leaves_56 (v_T_166 hB) hC (by omega) (Nat.le_of_ble_eq_true rfl) ?_
      refine jx_cast d_T_leaves_59 (h_T_98 hB) (h_cast3 hB) (by decide) (jx_c3 hB) (by rw [hC.kd (.inr (.inl ⟨rfl, by omega⟩))]; rfl) ?_
      refine jx_astore d_T_leaves_62 (Nat.le_of_ble_eq_true rfl) rfl ?_
      try dsimp only [List.set]
      refine jx_aload d_T_leaves_64 rfl ?_
      refine cx_K 6 (f := 26) rfl d_T_leaves_66 (f_T_127 hB) hC (by decide) (by omega) ?_
      have a2 : D 26 t = T 19 t := (hR.K (t := t) (by omega)).1.2.2.2.2.2.2.1
      have a3 : -1 ≤ D 26 t ∧ D 26 t ≤ 3 := (hR.Kr (t := t) (by omega)).2.2.2.2.2.2.1
      refine jx_aload_n d_T_leaves_69 rfl rfl ?_
      refine cx_P 0 d_T_leaves_70 (f_T_58 hB) hC (by decide) (by omega) ?_
      have a4 : D 0 p = p := (hR.P (p := p) (by omega)).1.1
      refine jI_icmp_ne (tgt := 93) d_T_leaves_73 (by decide) (by omega) (by omega) (fun hc5 => ?_) (fun hc5 => ?_)
      · refine jI_inc d_T_leaves_93 rfl rfl ?_
        try dsimp only [List.set]
        refine jx_goto (tgt := 38) d_T_leaves_96 (by decide) ?_
        exact ih (x) (t + 1) _ _ _ hC (by rw [sFor_s _ _ (by omega), ← hT]; unfold gLeave; rw [if_neg (by omega)]; exact hR) hF (by rw [sCnt_s _ (by omega), ← hx]; first | rw [if_pos (decide_eq_true (by omega))] | (rw [if_neg (fun z => absurd (of_decide_eq_true z) (by omega))]; omega)) (by omega) (by omega)
      · refine jx_aload d_T_leaves_76 rfl ?_
        refine cx_K 5 (f := 25) rfl d_T_leaves_78 (f_T_170 hB) hC (by decide) (by omega) ?_
        have a6 : D 25 t = T 13 t := (hR.K (t := t) (by omega)).1.2.2.2.2.2.1
        have a7 : 0 ≤ D 25 t ∧ D 25 t ≤ 2 := (hR.Kr (t := t) (by omega)).2.2.2.2.2.1
        refine jI_const d_T_leaves_81 ?_
        refine jI_icmp_eq (tgt := 93) d_T_leaves_82 (by decide) (by omega) (by omega) (fun hc8 => ?_) (fun hc8 => ?_)
        · refine jI_inc d_T_leaves_93 rfl rfl ?_
          try dsimp only [List.set]
          refine jx_goto (tgt := 38) d_T_leaves_96 (by decide) ?_
          exact ih (x) (t + 1) _ _ _ hC (by rw [sFor_s _ _ (by omega), ← hT]; unfold gLeave; rw [if_neg (by omega)]; exact hR) hF (by rw [sCnt_s _ (by omega), ← hx]; first | rw [if_pos (decide_eq_true (by omega))] | (rw [if_neg (fun z => absurd (of_decide_eq_true z) (by omega))]; omega)) (by omega) (by omega)
        · refine jx_aload d_T_leaves_85 rfl ?_
          refine jc_callV (As := []) (v := none) d_T_leaves_87 (m_K_free hB) (v_T_130 hB) (by decide) (jx_c3 hB) (by rw [hC.kd (.inr (.inl ⟨rfl, by omega⟩))]; rfl) rfl (Nat.le_of_ble_eq_true rfl) (Nat.le_of_ble_eq_true rfl) (w_K_free hB hC (t := t) (by omega)) (fun w hC hF1 => ?_)
          have hF := hF.tr hF1 (Nat.le_refl _)
          obtain ⟨D9, hD9⟩ : ∃ zz, zz = sU (sU (sU D 25 t 0) 26 t (-1)) 27 t (-1) := ⟨_, rfl⟩
          rw [← hD9] at hC
          have e10 : D9 33 0 = D 33 0 := by rw [hD9]; rfl
          have e11 : D9 34 0 = D 34 0 := by rw [hD9]; rfl
          have e12 : D9 35 0 = D 35 0 := by rw [hD9]; rfl
          have e13 : D9 36 0 = D 36 0 := by rw [hD9]; rfl
          refine jI_inc d_T_leaves_90 rfl rfl ?_
          try dsimp only [List.set]
          refine jI_inc d_T_leaves_93 rfl rfl ?_
          try dsimp only [List.set]
          refine jx_goto (tgt := 38) d_T_leaves_96 (by decide) ?_
          exact ih (x + 1) (t + 1) _ _ _ hC (by rw [hD9]; rw [sFor_s _ _ (by omega), ← hT]; unfold gLeave; rw [if_pos ⟨by omega, by omega⟩]; exact keep_free hR (by omega) (fun q hq hz => by (have hz2 : T 11 q ≠ -1 := by omega); (have hh := (hR.P (p := q) (by omega)).2.2.2.2.1 hz2); rw [hz] at hh; (have hq2 : q = p := by omega); rw [hq2] at hz2; omega)) hF (by rw [sCnt_s _ (by omega), ← hx]; first | rw [if_pos (decide_eq_true (by omega))] | (rw [if_neg (fun z => absurd (of_decide_eq_true z) (by omega))]; omega)) (by omega) (by omega)
theorem w_T_leaves {E : jx_E} {l : Launch} {d : Nat} {w : jx_W} {D S : mS} {G : Nat → Nat → Nat} {lo hi : Nat} {p : Int} (hB : jx_B E) (hC : cR E D w G lo hi) (hR : rl S D) (irp : iR p) (hW : 50 ≤ jx_c w ∧ 5000 ≤ jx_s w) : jx_G E l Y_T_leaves (d + 7) (pubQ E G lo hi w exD (some (.int (iI (oLeaves S p).1))) ((oLeaves S p).2)) 0 (jx_ent [.ref (G 2 0), .int (iI (p))] 6) [] w := by
  show jx_G E l Y_T_leaves (d + 7) _ 0 [some (.ref (G 2 0)), some (.int (iI (p))), none, none, none, none] [] w
  have hN := hR.N
  have hF : cF lo hi 0 w w := cF.rf
  refine jx_aload_n d_T_leaves_0 rfl rfl ?_
  refine jx_iload_n d_T_leaves_1 rfl rfl ?_
  by_cases hq1 : 0 ≤ p ∧ p < S 0 0
  rotate_left
  · exact jx_callV_t (As := [.int (iI (p))]) d_T_leaves_2 (m_T_personOf hB) (v_T_62 hB) (by decide) (jx_c0 hB) (by rw [hC.kd (.inr (.inr (.inl ⟨rfl, by decide⟩)))]; rfl) rfl (Nat.le_of_ble_eq_true rfl) (Nat.le_of_ble_eq_true rfl) (w_T_personOf_no hB hC hR (q := p) (by omega) hq1 (room_c hF hW.1 (by decide)) (room_s hF hW.2 (by decide))) (.inl ⟨fun y hy => absurd hy List.not_mem_nil, pub_thr hC hR hF (by decide) 1 (by decide) (by unfold oLeaves; (repeat' split) <;> first | rfl | (exfalso; omega)) rfl⟩)
  refine jx_callV_r (As := [.int (iI (p))]) (v := some (.ref (G 0 (p).toNat))) d_T_leaves_2 (m_T_personOf hB) (v_T_62 hB) (by decide) (jx_c0 hB) (by rw [hC.kd (.inr (.inr (.inl ⟨rfl, by decide⟩)))]; rfl) rfl (Nat.le_of_ble_eq_true rfl) (Nat.le_of_ble_eq_true rfl) (w_T_personOf_ok hB hC hR (q := p) (by omega) hq1) ?_
  refine jx_astore_n d_T_leaves_5 rfl (Nat.le_of_ble_eq_true rfl) rfl ?_
  try dsimp only [List.set]
  refine jx_aload_n d_T_leaves_6 rfl rfl ?_
  refine cx_P 7 d_T_leaves_7 (f_T_133 hB) hC (by decide) (by omega) ?_
  have a2 : 0 ≤ D 7 p ∧ D 7 p ≤ 1 := (hR.Pr (p := p) (by omega)).2.2.2.2.2.2.1
  have a3 : D 7 p = S 10 p := (hR.P (p := p) (by omega)).1.2.2.2.2.2.1
  refine jI_if_ne (tgt := 23) d_T_leaves_10 (by decide) (by omega) (fun hc4 => ?_) (fun hc4 => ?_)
  · refine jx_aload_n d_T_leaves_23 rfl rfl ?_
    refine jI_const d_T_leaves_24 ?_
    refine cx_pZ d_T_leaves_25 (f_T_133 hB) (t_2_7 hB) hC (by omega) (by omega) (fun w hC hF1 => ?_)
    have hF := hF.tr hF1 (Nat.le_refl _)
    obtain ⟨D5, hD5⟩ : ∃ zz, zz = sU D 7 p 0 := ⟨_, rfl⟩
    rw [← hD5] at hC
    have e6 : D5 33 0 = D 33 0 := by rw [hD5]; rfl
    have e7 : D5 34 0 = D 34 0 := by rw [hD5]; rfl
    have e8 : D5 35 0 = D 35 0 := by rw [hD5]; rfl
    have e9 : D5 36 0 = D 36 0 := by rw [hD5]; rfl
    refine jx_aload_n d_T_leaves_28 rfl rfl ?_
    refine jI_const d_T_leaves_29 ?_
    refine cx_pP 8 d_T_leaves_30 (f_T_188 hB) (t_2_8 hB) hC (by decide) (by omega) (fun w hC hF1 => ?_)
    have hF := hF.tr hF1 (Nat.le_refl _)
    obtain ⟨D10, hD10⟩ : ∃ zz, zz = sU D5 8 p ((-1)) := ⟨_, rfl⟩
    rw [← hD10] at hC
    have e11 : D10 33 0 = D5 33 0 := by rw [hD10]; rfl
    have e12 : D10 34 0 = D5 34 0 := by rw [hD10]; rfl
    have e13 : D10 35 0 = D5 35 0 := by rw [hD10]; rfl
    have e14 : D10 36 0 = D5 36 0 := by rw [hD10]; rfl
    refine jI_const d_T_leaves_33 ?_
    refine jx_istore_n d_T_leaves_34 rfl (Nat.le_of_ble_eq_true rfl) rfl ?_
    try dsimp only [List.set]
    refine jI_const d_T_leaves_35 ?_
    refine jx_istore d_T_leaves_36 (Nat.le_of_ble_eq_true rfl) rfl ?_
    try dsimp only [List.set]
    exact l_T_leaves hB (by omega) (by omega) 17 0 0 _ _ _ hC (by rw [hD10, hD5]; exact keep_leave (hR.s3 0) (by show 0 ≤ p ∧ p < S 0 0; omega)) hF rfl (by omega) (by omega)
  · refine jx_throw d_T_leaves_13 d_T_leaves_16 d_T_leaves_17 d_T_leaves_19 d_T_leaves_22 (x_T_leaves_13 hB) (by intro y hy; exact absurd hy (List.not_mem_nil)) (by omega) (by omega) (by show 6 ≤ _; omega) (Nat.le_of_ble_eq_true rfl) ?_
    exact pub_thr hC hR hF (by decide) 2 (by decide) (by unfold oLeaves; (repeat' split) <;> first | rfl | (exfalso; omega)) rfl
