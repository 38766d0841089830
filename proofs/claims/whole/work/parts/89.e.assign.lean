/-! 89.e.assign: assign -/
theorem fo_free {S F T : mS} {x : Int} (hFo : F = oFo S) (hT : T = sU (sU F 3 0 0) 21 0 x) (h1 : T 1 0 = S 1 0) (u : Int) (hu : 0 ≤ u ∧ u < T 1 0) (h : T 13 u = 0) : T 19 u = -1 ∧ T 20 u = -1 := by
  have hs := fo_spec (sU S 3 0 0) (S 1 0).toNat u
  have he : sForN gFo (sU S 3 0 0) (S 1 0).toNat = F := hFo.symm
  rw [he] at hs
  have t13 : T 13 u = F 13 u := by rw [hT]; rfl
  have t19 : T 19 u = F 19 u := by rw [hT]; rfl
  have t20 : T 20 u = F 20 u := by rw [hT]; rfl
  have hc : (0 ≤ u ∧ u < ((S 1 0).toNat : Int)) ∧ sU S 3 0 0 13 u = 0 := ⟨by omega, by rw [← hs.1]; omega⟩
  rw [t19, t20, hs.2.1, hs.2.2, if_pos hc, if_pos hc]
  exact ⟨rfl, rfl⟩
theorem w_T_assign {E : jx_E} {l : Launch} {d : Nat} {w : jx_W} {S D : mS} {G : Nat → Nat → Nat} {lo hi mi : Nat} {most : Int} (hB : jx_B E) (hB2 : jx_B2 E mi) (hC : cR E D w G lo hi) (hR : rl S D) (irm : iR most) (hW : 50 ≤ jx_c w ∧ 5000 ≤ jx_s w) : jx_G E l Y_T_assign (d + 11) (pubQ E G lo hi w exE (some (.int (iI (oAssign S most).1))) (oAssign S most).2) 0 (jx_ent [.ref (G 2 0), .int (iI most)] 2) [] w := by
  show jx_G E l Y_T_assign (d + 11) _ 0 [some (.ref (G 2 0)), some (.int (iI most))] [] w
  have hN := hR.N
  have hF : cF lo hi 0 w w := cF.rf
  refine jx_iload_n d_T_assign_0 rfl rfl ?_
  refine jI_const d_T_assign_1 ?_
  refine jI_const d_T_assign_2 ?_
  by_cases hq1 : 0 ≤ most ∧ most ≤ 5
  rotate_left
  · exact jx_callS_t (As := [.int (iI (most)), .int (iI (0)), .int (iI (5))]) d_T_assign_3 (m_T_needWithin hB) (s_T_36 hB) rfl (Nat.le_of_ble_eq_true rfl) (Nat.le_of_ble_eq_true rfl) (w_T_needWithin_no (lo := lo) (hi := hi) (D := D) (S := S) (G := G) hB (x := most) (a := 0) (b := 5) (by omega) (by omega) (by omega) hq1 (room_c hF hW.1 (by decide)) (room_s hF hW.2 (by decide))) (.inl ⟨fun y hy => absurd hy List.not_mem_nil, pub_thr hC hR hF (by decide) 1 (by decide) (by unfold oAssign; rw [if_neg (by omega)]) rfl⟩)
  refine jx_callS_r (As := [.int (iI (most)), .int (iI (0)), .int (iI (5))]) (v := none) d_T_assign_3 (m_T_needWithin hB) (s_T_36 hB) rfl (Nat.le_of_ble_eq_true rfl) (Nat.le_of_ble_eq_true rfl) (w_T_needWithin_ok (lo := lo) (hi := hi) (D := D) (S := S) (G := G) hB (x := most) (a := 0) (b := 5) (by omega) (by omega) (by omega) hq1) ?_
  refine jx_aload_n d_T_assign_6 rfl rfl ?_
  refine jc_callP (As := []) (v := none) d_T_assign_7 (m_T_freeOpenTasks hB) (v_T_144 hB) (by decide) (jx_c0 hB) (by rw [hC.kd (.inr (.inr (.inl ⟨rfl, by decide⟩)))]; rfl) rfl (Nat.le_of_ble_eq_true rfl) (Nat.le_of_ble_eq_true rfl) (w_T_freeOpenTasks hB hC (hR.s3 0)) (fun w D2 hC hF1 hPD2 => ?_)
  have hF := hF.tr hF1 (Nat.le_refl _)
  obtain ⟨F, hFo⟩ : ∃ zz, zz = oFo S := ⟨_, rfl⟩
  have hRD2 : rl F D2 := by rw [hFo]; exact hPD2
  have hN2 := hRD2.N
  have f1 : F 1 0 = S 1 0 := by rw [hFo, oFo_ne (by decide) (by decide) (by decide) (by decide)]
  refine jx_aload_n d_T_assign_10 rfl rfl ?_
  refine jx_aload_n d_T_assign_11 rfl rfl ?_
  refine jI_const d_T_assign_12 ?_
  refine jx_callV_r (As := [.int (iI (0))]) (v := some (.int (iI (sInS F 0)))) d_T_assign_13 (m_T_tasksIn hB) (v_T_147 hB) (by decide) (jx_c0 hB) (by rw [hC.kd (.inr (.inr (.inl ⟨rfl, by decide⟩)))]; rfl) rfl (Nat.le_of_ble_eq_true rfl) (Nat.le_of_ble_eq_true rfl) (w_T_tasksIn hB hC hRD2 (s := 0) (by omega)) ?_
  have q3 := sInS_rg (S := F) (s := 0) (by omega)
  refine jx_iload_n d_T_assign_16 rfl rfl ?_
  refine jI_icmp_gt (tgt := 24) d_T_assign_17 (by decide) (by omega) (by omega) (fun hc4 => ?_) (fun hc4 => ?_)
  · refine jI_const d_T_assign_24 ?_
    refine cx_plast d_T_assign_25 (f_T_150 hB) (t_0_6 hB) hC (by omega) (fun w hC hF1 => ?_)
    have hF := hF.tr hF1 (Nat.le_refl _)
    obtain ⟨D5, hD5⟩ : ∃ zz, zz = sU D2 32 0 0 := ⟨_, rfl⟩
    rw [← hD5] at hC
    have e6 : D5 33 0 = D2 33 0 := by rw [hD5]; rfl
    have e7 : D5 34 0 = D2 34 0 := by rw [hD5]; rfl
    have e8 : D5 35 0 = D2 35 0 := by rw [hD5]; rfl
    have e9 : D5 36 0 = D2 36 0 := by rw [hD5]; rfl
    refine jx_aload_n d_T_assign_28 rfl rfl ?_
    refine cx_last d_T_assign_29 (f_T_150 hB) hC ?_
    rw [show D5 32 0 = 0 by simp [hD5, sU, sUs]]
    refine jI_if_eq (tgt := 61) d_T_assign_32 (by decide) (by omega) (fun _ => ?_) (fun z => absurd z (by omega))
    obtain ⟨T, hT⟩ : ∃ zz, zz = sU (sU F 3 0 0) 21 0 0 := ⟨_, rfl⟩
    have hRD5 : rl T D5 := by rw [hT, hD5]; exact keep_exact (hRD2.s3 0) (.inl rfl)
    have hN3 := hRD5.N
    have t1 : T 1 0 = S 1 0 := by rw [← f1, hT]; rfl
    have hW9 : 50 ≤ jx_c w ∧ 5000 ≤ jx_s w := ⟨by have := hF.1; omega, by have := hF.2.1; omega⟩
    refine jx_aload_n d_T_assign_61 rfl rfl ?_
    refine jc_callP (As := []) (v := none) d_T_assign_62 (m_T_planByRule hB) (v_T_160 hB) (by decide) (jx_c0 hB) (by rw [hC.kd (.inr (.inr (.inl ⟨rfl, by decide⟩)))]; rfl) rfl (Nat.le_of_ble_eq_true rfl) (Nat.le_of_ble_eq_true rfl) (w_T_planByRule hB hB2 hRD5 (fo_free hFo hT t1) hW9 hC) (fun w D11 hC hF1 hPD11 => ?_)
    have hF := hF.tr hF1 (Nat.le_refl _)
    obtain ⟨U, hU⟩ : ∃ zz, zz = oRule T := ⟨_, rfl⟩
    have hRD11 : rl U D11 := by rw [hU]; exact hPD11
    have hN4 := hRD11.N
    have hA : oAssign S most = (sCost U, sU U 3 0 0) := by
      have hp : oPlan S most = U := by unfold oPlan oSet; rw [← hFo, if_neg (by omega), if_neg (by omega), hU, hT]
      unfold oAssign
      rw [if_pos (by omega), hp]
    refine jx_aload_n d_T_assign_65 rfl rfl ?_
    refine jx_callV_r (As := []) (v := some (.int (iI (sCost U)))) d_T_assign_66 (m_T_latenessOfPlan hB) (v_T_163 hB) (by decide) (jx_c0 hB) (by rw [hC.kd (.inr (.inr (.inl ⟨rfl, by decide⟩)))]; rfl) rfl (Nat.le_of_ble_eq_true rfl) (Nat.le_of_ble_eq_true rfl) (w_T_latenessOfPlan hB hC hRD11) ?_
    exact jx_iret d_T_assign_69 rfl (pub_int hC (by rw [hA]; exact hRD11.s3 0) hF (by decide) (by rw [hA]; show sU U 3 0 0 3 0 = 0; exact sU_same) (by rw [hA]))
  · refine jI_const d_T_assign_20 ?_
    refine jx_goto (tgt := 25) d_T_assign_21 (by decide) ?_
    refine cx_plast d_T_assign_25 (f_T_150 hB) (t_0_6 hB) hC (by omega) (fun w hC hF1 => ?_)
    have hF := hF.tr hF1 (Nat.le_refl _)
    obtain ⟨D12, hD12⟩ : ∃ zz, zz = sU D2 32 0 1 := ⟨_, rfl⟩
    rw [← hD12] at hC
    have e13 : D12 33 0 = D2 33 0 := by rw [hD12]; rfl
    have e14 : D12 34 0 = D2 34 0 := by rw [hD12]; rfl
    have e15 : D12 35 0 = D2 35 0 := by rw [hD12]; rfl
    have e16 : D12 36 0 = D2 36 0 := by rw [hD12]; rfl
    refine jx_aload_n d_T_assign_28 rfl rfl ?_
    refine cx_last d_T_assign_29 (f_T_150 hB) hC ?_
    rw [show D12 32 0 = 1 by simp [hD12, sU, sUs]]
    refine jI_if_eq (tgt := 61) d_T_assign_32 (by decide) (by omega) (fun z => absurd z (by omega)) (fun _ => ?_)
    obtain ⟨T, hT⟩ : ∃ zz, zz = sU (sU F 3 0 0) 21 0 1 := ⟨_, rfl⟩
    have hRD12 : rl T D12 := by rw [hT, hD12]; exact keep_exact (hRD2.s3 0) (.inr rfl)
    have hN3 := hRD12.N
    have t1 : T 1 0 = S 1 0 := by rw [← f1, hT]; rfl
    have hW9 : 50 ≤ jx_c w ∧ 5000 ≤ jx_s w := ⟨by have := hF.1; omega, by have := hF.2.1; omega⟩
    refine jx_aload_n d_T_assign_35 rfl rfl ?_
    refine cx_ptr (c2 := 2) (x2 := 5) d_T_assign_36 (f_T_32 hB) hC (by decide) (by decide) rfl ?_
    refine jx_aload_n d_T_assign_39 rfl rfl ?_
    refine cx_ptr (c2 := 2) (x2 := 1) d_T_assign_40 (f_T_10 hB) hC (by decide) (by decide) rfl ?_
    refine jx_aload_n d_T_assign_43 rfl rfl ?_
    refine cx_ptr (c2 := 2) (x2 := 2) d_T_assign_44 (f_T_16 hB) hC (by decide) (by decide) rfl ?_
    refine jx_aload_n d_T_assign_47 rfl rfl ?_
    refine cx_ptr (c2 := 2) (x2 := 4) d_T_assign_48 (f_T_25 hB) hC (by decide) (by decide) rfl ?_
    refine jx_aload_n d_T_assign_51 rfl rfl ?_
    refine cx_now d_T_assign_52 (f_T_153 hB) hC ?_
    refine jc_callP (As := [.ref (G 2 1), .ref (G 2 2), .ref (G 2 4), .int (iI (D12 31 0))]) (v := none) d_T_assign_55 (m_X_plan hB) (v_T_156 hB) (by decide) (jx_c1 hB) (by rw [hC.kd (.inr (.inr (.inl ⟨rfl, by decide⟩)))]; rfl) rfl (Nat.le_of_ble_eq_true rfl) (Nat.le_of_ble_eq_true rfl) (w_X_plan hB hB2 hRD12 (by omega) (show sCnt (opn T) (T 1 0) ≤ 5 by (have e : sCnt (opn T) (T 1 0) = sInS F 0 := by rw [hT]; rfl); omega) hW9 hC) (fun w D18 hC hF1 hPD18 => ?_)
    have hF := hF.tr hF1 (Nat.le_refl _)
    obtain ⟨U, hU⟩ : ∃ zz, zz = oExp (oFew T) := ⟨_, rfl⟩
    have hRD18 : rl U D18 := by rw [hU]; exact hPD18
    have hN4 := hRD18.N
    have hA : oAssign S most = (sCost U, sU U 3 0 0) := by
      have hp : oPlan S most = U := by unfold oPlan oSet; rw [← hFo, if_pos (by omega), if_pos (by omega), hU, hT]
      unfold oAssign
      rw [if_pos (by omega), hp]
    refine jx_goto (tgt := 65) d_T_assign_58 (by decide) ?_
    refine jx_aload_n d_T_assign_65 rfl rfl ?_
    refine jx_callV_r (As := []) (v := some (.int (iI (sCost U)))) d_T_assign_66 (m_T_latenessOfPlan hB) (v_T_163 hB) (by decide) (jx_c0 hB) (by rw [hC.kd (.inr (.inr (.inl ⟨rfl, by decide⟩)))]; rfl) rfl (Nat.le_of_ble_eq_true rfl) (Nat.le_of_ble_eq_true rfl) (w_T_latenessOfPlan hB hC hRD18) ?_
    exact jx_iret d_T_assign_69 rfl (pub_int hC (by rw [hA]; exact hRD18.s3 0) hF (by decide) (by rw [hA]; show sU U 3 0 0 3 0 = 0; exact sU_same) (by rw [hA]))
