/-! 78.b.cpub: public methods that ask -/
theorem w_T_told {E : jx_E} {l : Launch} {d : Nat} {w : jx_W} {D S : mS} {G : Nat → Nat → Nat} {lo hi : Nat} {t k : Int} (hB : jx_B E) (hC : cR E D w G lo hi) (hR : rl S D) (irt : iR t) (irk : iR k) (hW : 50 ≤ jx_c w ∧ 5000 ≤ jx_s w) : jx_G E l Y_T_told (d + 7) (pubQ E G lo hi w exB (some (.int (iI (oTold S t k).1))) ((oTold S t k).2)) 0 (jx_ent [.ref (G 2 0), .int (iI (t)), .int (iI (k))] 4) [] w := by
  show jx_G E l Y_T_told (d + 7) _ 0 [some (.ref (G 2 0)), some (.int (iI (t))), some (.int (iI (k))), none] [] w
  have hN := hR.N
  have hF : cF lo hi 0 w w := cF.rf
  refine jx_aload_n d_T_told_0 rfl rfl ?_
  refine jx_iload_n d_T_told_1 rfl rfl ?_
  by_cases hq1 : 0 ≤ t ∧ t < S 1 0
  rotate_left
  · exact jx_callV_t (As := [.int (iI (t))]) d_T_told_2 (m_T_taskOf hB) (v_T_110 hB) (by decide) (jx_c0 hB) (by rw [hC.kd (.inr (.inr (.inl ⟨rfl, by decide⟩)))]; rfl) rfl (Nat.le_of_ble_eq_true rfl) (Nat.le_of_ble_eq_true rfl) (w_T_taskOf_no hB hC hR (q := t) (by omega) hq1 (room_c hF hW.1 (by decide)) (room_s hF hW.2 (by decide))) (.inl ⟨fun y hy => absurd hy List.not_mem_nil, pub_thr hC hR hF (by decide) 1 (by decide) (by unfold oTold; (repeat' split) <;> first | rfl | (exfalso; omega)) rfl⟩)
  refine jx_callV_r (As := [.int (iI (t))]) (v := some (.ref (G 1 (t).toNat))) d_T_told_2 (m_T_taskOf hB) (v_T_110 hB) (by decide) (jx_c0 hB) (by rw [hC.kd (.inr (.inr (.inl ⟨rfl, by decide⟩)))]; rfl) rfl (Nat.le_of_ble_eq_true rfl) (Nat.le_of_ble_eq_true rfl) (w_T_taskOf_ok hB hC hR (q := t) (by omega) hq1) ?_
  refine jx_astore_n d_T_told_5 rfl (Nat.le_of_ble_eq_true rfl) rfl ?_
  try dsimp only [List.set]
  refine jx_iload_n d_T_told_6 rfl rfl ?_
  by_cases hs20 : k = 0
  · refine jx_tableIn (off := 41) (tgt := 48) d_T_told_7 (by rw [iI_toInt (by omega)]; omega) (by rw [iI_toInt (by omega)]; omega) (by rw [iI_toInt (by omega), hs20]; rfl) (by decide) ?_
    refine jx_aload_n d_T_told_48 rfl rfl ?_
    refine cx_K 5 (f := 25) rfl d_T_told_49 (f_T_170 hB) hC (by decide) (by omega) ?_
    have a3 : D 25 t = S 13 t := (hR.K (t := t) (by omega)).1.2.2.2.2.2.1
    have a4 : 0 ≤ D 25 t ∧ D 25 t ≤ 2 := (hR.Kr (t := t) (by omega)).2.2.2.2.2.1
    exact jx_iret d_T_told_52 rfl (pub_int hC (by rw [show (oTold S t k).2 = sU S 3 0 0 by unfold oTold; (repeat' split) <;> first | rfl | (exfalso; omega)]; exact hR.s3 0) hF (by decide) (by rw [show (oTold S t k).2 = sU S 3 0 0 by unfold oTold; (repeat' split) <;> first | rfl | (exfalso; omega)]; exact sU_same) (by unfold oTold; (repeat' split) <;> first | rfl | omega | (exfalso; omega)))
  by_cases hs21 : k = 1
  · refine jx_tableIn (off := 46) (tgt := 53) d_T_told_7 (by rw [iI_toInt (by omega)]; omega) (by rw [iI_toInt (by omega)]; omega) (by rw [iI_toInt (by omega), hs21]; rfl) (by decide) ?_
    refine jx_aload_n d_T_told_53 rfl rfl ?_
    refine cx_K 6 (f := 26) rfl d_T_told_54 (f_T_127 hB) hC (by decide) (by omega) ?_
    have a5 : D 26 t = S 19 t := (hR.K (t := t) (by omega)).1.2.2.2.2.2.2.1
    have a6 : -1 ≤ D 26 t ∧ D 26 t ≤ 3 := (hR.Kr (t := t) (by omega)).2.2.2.2.2.2.1
    exact jx_iret d_T_told_57 rfl (pub_int hC (by rw [show (oTold S t k).2 = sU S 3 0 0 by unfold oTold; (repeat' split) <;> first | rfl | (exfalso; omega)]; exact hR.s3 0) hF (by decide) (by rw [show (oTold S t k).2 = sU S 3 0 0 by unfold oTold; (repeat' split) <;> first | rfl | (exfalso; omega)]; exact sU_same) (by unfold oTold; (repeat' split) <;> first | rfl | omega | (exfalso; omega)))
  by_cases hs22 : k = 2
  · refine jx_tableIn (off := 51) (tgt := 58) d_T_told_7 (by rw [iI_toInt (by omega)]; omega) (by rw [iI_toInt (by omega)]; omega) (by rw [iI_toInt (by omega), hs22]; rfl) (by decide) ?_
    refine jx_aload_n d_T_told_58 rfl rfl ?_
    refine cx_K 7 (f := 27) rfl d_T_told_59 (f_T_185 hB) hC (by decide) (by omega) ?_
    have a7 : D 27 t = S 20 t := (hR.K (t := t) (by omega)).1.2.2.2.2.2.2.2
    have a8 : -1 ≤ D 27 t ∧ D 27 t ≤ 100000 := (hR.Kr (t := t) (by omega)).2.2.2.2.2.2.2
    exact jx_iret d_T_told_62 rfl (pub_int hC (by rw [show (oTold S t k).2 = sU S 3 0 0 by unfold oTold; (repeat' split) <;> first | rfl | (exfalso; omega)]; exact hR.s3 0) hF (by decide) (by rw [show (oTold S t k).2 = sU S 3 0 0 by unfold oTold; (repeat' split) <;> first | rfl | (exfalso; omega)]; exact sU_same) (by unfold oTold; (repeat' split) <;> first | rfl | omega | (exfalso; omega)))
  by_cases hs23 : k = 3
  · refine jx_tableIn (off := 56) (tgt := 63) d_T_told_7 (by rw [iI_toInt (by omega)]; omega) (by rw [iI_toInt (by omega)]; omega) (by rw [iI_toInt (by omega), hs23]; rfl) (by decide) ?_
    refine jx_aload_n d_T_told_63 rfl rfl ?_
    refine cx_K 1 (f := 21) rfl d_T_told_64 (f_T_137 hB) hC (by decide) (by omega) ?_
    have a9 : D 21 t = S 14 t := (hR.K (t := t) (by omega)).1.2.1
    have a10 : 0 ≤ D 21 t ∧ D 21 t ≤ 7 := (hR.Kr (t := t) (by omega)).2.1
    exact jx_iret d_T_told_67 rfl (pub_int hC (by rw [show (oTold S t k).2 = sU S 3 0 0 by unfold oTold; (repeat' split) <;> first | rfl | (exfalso; omega)]; exact hR.s3 0) hF (by decide) (by rw [show (oTold S t k).2 = sU S 3 0 0 by unfold oTold; (repeat' split) <;> first | rfl | (exfalso; omega)]; exact sU_same) (by unfold oTold; (repeat' split) <;> first | rfl | omega | (exfalso; omega)))
  by_cases hs24 : k = 4
  · refine jx_tableIn (off := 61) (tgt := 68) d_T_told_7 (by rw [iI_toInt (by omega)]; omega) (by rw [iI_toInt (by omega)]; omega) (by rw [iI_toInt (by omega), hs24]; rfl) (by decide) ?_
    refine jx_aload_n d_T_told_68 rfl rfl ?_
    refine cx_K 2 (f := 22) rfl d_T_told_69 (f_T_191 hB) hC (by decide) (by omega) ?_
    have a11 : D 22 t = S 15 t := (hR.K (t := t) (by omega)).1.2.2.1
    have a12 : 1 ≤ D 22 t ∧ D 22 t ≤ 5000 := (hR.Kr (t := t) (by omega)).2.2.1
    exact jx_iret d_T_told_72 rfl (pub_int hC (by rw [show (oTold S t k).2 = sU S 3 0 0 by unfold oTold; (repeat' split) <;> first | rfl | (exfalso; omega)]; exact hR.s3 0) hF (by decide) (by rw [show (oTold S t k).2 = sU S 3 0 0 by unfold oTold; (repeat' split) <;> first | rfl | (exfalso; omega)]; exact sU_same) (by unfold oTold; (repeat' split) <;> first | rfl | omega | (exfalso; omega)))
  by_cases hs25 : k = 5
  · refine jx_tableIn (off := 66) (tgt := 73) d_T_told_7 (by rw [iI_toInt (by omega)]; omega) (by rw [iI_toInt (by omega)]; omega) (by rw [iI_toInt (by omega), hs25]; rfl) (by decide) ?_
    refine jx_aload_n d_T_told_73 rfl rfl ?_
    refine cx_K 3 (f := 23) rfl d_T_told_74 (f_T_210 hB) hC (by decide) (by omega) ?_
    have a13 : D 23 t = S 16 t := (hR.K (t := t) (by omega)).1.2.2.2.1
    have a14 : 0 ≤ D 23 t ∧ D 23 t ≤ 100000 := (hR.Kr (t := t) (by omega)).2.2.2.1
    exact jx_iret d_T_told_77 rfl (pub_int hC (by rw [show (oTold S t k).2 = sU S 3 0 0 by unfold oTold; (repeat' split) <;> first | rfl | (exfalso; omega)]; exact hR.s3 0) hF (by decide) (by rw [show (oTold S t k).2 = sU S 3 0 0 by unfold oTold; (repeat' split) <;> first | rfl | (exfalso; omega)]; exact sU_same) (by unfold oTold; (repeat' split) <;> first | rfl | omega | (exfalso; omega)))
  by_cases hs26 : k = 6
  · refine jx_tableIn (off := 71) (tgt := 78) d_T_told_7 (by rw [iI_toInt (by omega)]; omega) (by rw [iI_toInt (by omega)]; omega) (by rw [iI_toInt (by omega), hs26]; rfl) (by decide) ?_
    refine jx_aload_n d_T_told_78 rfl rfl ?_
    refine cx_K 4 (f := 24) rfl d_T_told_79 (f_T_197 hB) hC (by decide) (by omega) ?_
    have a15 : D 24 t = S 17 t := (hR.K (t := t) (by omega)).1.2.2.2.2.1
    have a16 : 0 ≤ D 24 t ∧ D 24 t ≤ 3 := (hR.Kr (t := t) (by omega)).2.2.2.2.1
    exact jx_iret d_T_told_82 rfl (pub_int hC (by rw [show (oTold S t k).2 = sU S 3 0 0 by unfold oTold; (repeat' split) <;> first | rfl | (exfalso; omega)]; exact hR.s3 0) hF (by decide) (by rw [show (oTold S t k).2 = sU S 3 0 0 by unfold oTold; (repeat' split) <;> first | rfl | (exfalso; omega)]; exact sU_same) (by unfold oTold; (repeat' split) <;> first | rfl | omega | (exfalso; omega)))
  refine jx_tableOut (tgt := 83) d_T_told_7 (by rw [iI_toInt (by omega)]; omega) (by decide) ?_
  refine jx_throw d_T_told_83 d_T_told_86 d_T_told_87 d_T_told_89 d_T_told_92 (x_T_told_83 hB) (by intro y hy; exact absurd hy (List.not_mem_nil)) (by omega) (by omega) (by show 6 ≤ _; omega) (Nat.le_of_ble_eq_true rfl) ?_
  exact pub_thr hC hR hF (by decide) 2 (by decide) (by unfold oTold; (repeat' split) <;> first | rfl | (exfalso; omega)) rfl
theorem w_T_bar {E : jx_E} {l : Launch} {d : Nat} {w : jx_W} {D S : mS} {G : Nat → Nat → Nat} {lo hi : Nat} {p t : Int} (hB : jx_B E) (hC : cR E D w G lo hi) (hR : rl S D) (irp : iR p) (irt : iR t) (hW : 50 ≤ jx_c w ∧ 5000 ≤ jx_s w) : jx_G E l Y_T_bar (d + 7) (pubQ E G lo hi w exD (some (.int (iI (oBar S p t).1))) ((oBar S p t).2)) 0 (jx_ent [.ref (G 2 0), .int (iI (p)), .int (iI (t))] 5) [] w := by
  show jx_G E l Y_T_bar (d + 7) _ 0 [some (.ref (G 2 0)), some (.int (iI (p))), some (.int (iI (t))), none, none] [] w
  have hN := hR.N
  have hF : cF lo hi 0 w w := cF.rf
  refine jx_aload_n d_T_bar_0 rfl rfl ?_
  refine jx_iload_n d_T_bar_1 rfl rfl ?_
  by_cases hq1 : 0 ≤ p ∧ p < S 0 0
  rotate_left
  · exact jx_callV_t (As := [.int (iI (p))]) d_T_bar_2 (m_T_personOf hB) (v_T_62 hB) (by decide) (jx_c0 hB) (by rw [hC.kd (.inr (.inr (.inl ⟨rfl, by decide⟩)))]; rfl) rfl (Nat.le_of_ble_eq_true rfl) (Nat.le_of_ble_eq_true rfl) (w_T_personOf_no hB hC hR (q := p) (by omega) hq1 (room_c hF hW.1 (by decide)) (room_s hF hW.2 (by decide))) (.inl ⟨fun y hy => absurd hy List.not_mem_nil, pub_thr hC hR hF (by decide) 1 (by decide) (by unfold oBar; (repeat' split) <;> first | rfl | (exfalso; omega)) rfl⟩)
  refine jx_callV_r (As := [.int (iI (p))]) (v := some (.ref (G 0 (p).toNat))) d_T_bar_2 (m_T_personOf hB) (v_T_62 hB) (by decide) (jx_c0 hB) (by rw [hC.kd (.inr (.inr (.inl ⟨rfl, by decide⟩)))]; rfl) rfl (Nat.le_of_ble_eq_true rfl) (Nat.le_of_ble_eq_true rfl) (w_T_personOf_ok hB hC hR (q := p) (by omega) hq1) ?_
  refine jx_astore_n d_T_bar_5 rfl (Nat.le_of_ble_eq_true rfl) rfl ?_
  try dsimp only [List.set]
  refine jx_aload_n d_T_bar_6 rfl rfl ?_
  refine jx_iload_n d_T_bar_7 rfl rfl ?_
  by_cases hq2 : 0 ≤ t ∧ t < S 1 0
  rotate_left
  · exact jx_callV_t (As := [.int (iI (t))]) d_T_bar_8 (m_T_taskOf hB) (v_T_110 hB) (by decide) (jx_c0 hB) (by rw [hC.kd (.inr (.inr (.inl ⟨rfl, by decide⟩)))]; rfl) rfl (Nat.le_of_ble_eq_true rfl) (Nat.le_of_ble_eq_true rfl) (w_T_taskOf_no hB hC hR (q := t) (by omega) hq2 (room_c hF hW.1 (by decide)) (room_s hF hW.2 (by decide))) (.inl ⟨fun y hy => absurd hy List.not_mem_nil, pub_thr hC hR hF (by decide) 1 (by decide) (by unfold oBar; (repeat' split) <;> first | rfl | (exfalso; omega)) rfl⟩)
  refine jx_callV_r (As := [.int (iI (t))]) (v := some (.ref (G 1 (t).toNat))) d_T_bar_8 (m_T_taskOf hB) (v_T_110 hB) (by decide) (jx_c0 hB) (by rw [hC.kd (.inr (.inr (.inl ⟨rfl, by decide⟩)))]; rfl) rfl (Nat.le_of_ble_eq_true rfl) (Nat.le_of_ble_eq_true rfl) (w_T_taskOf_ok hB hC hR (q := t) (by omega) hq2) ?_
  refine jx_astore d_T_bar_11 (Nat.le_of_ble_eq_true rfl) rfl ?_
  try dsimp only [List.set]
  refine jx_aload d_T_bar_13 rfl ?_
  by_cases hq3 : S 13 t = 0
  rotate_left
  · exact jx_callS_t (As := [.ref (G 1 (t).toNat)]) d_T_bar_15 (m_T_needOpen hB) (s_T_114 hB) rfl (Nat.le_of_ble_eq_true rfl) (Nat.le_of_ble_eq_true rfl) (w_T_needOpen_no hB hC hR (t := t) (by omega) hq3 (room_c hF hW.1 (by decide)) (room_s hF hW.2 (by decide))) (.inl ⟨fun y hy => absurd hy List.not_mem_nil, pub_thr hC hR hF (by decide) 2 (by decide) (by unfold oBar; (repeat' split) <;> first | rfl | (exfalso; omega)) rfl⟩)
  refine jx_callS_r (As := [.ref (G 1 (t).toNat)]) (v := none) d_T_bar_15 (m_T_needOpen hB) (s_T_114 hB) rfl (Nat.le_of_ble_eq_true rfl) (Nat.le_of_ble_eq_true rfl) (w_T_needOpen_ok hB hC hR (t := t) (by omega) hq3) ?_
  refine jx_aload_n d_T_bar_18 rfl rfl ?_
  refine cx_P 7 d_T_bar_19 (f_T_133 hB) hC (by decide) (by omega) ?_
  have a4 : 0 ≤ D 7 p ∧ D 7 p ≤ 1 := (hR.Pr (p := p) (by omega)).2.2.2.2.2.2.1
  have a5 : D 7 p = S 10 p := (hR.P (p := p) (by omega)).1.2.2.2.2.2.1
  refine jI_if_ne (tgt := 27) d_T_bar_22 (by decide) (by omega) (fun hc6 => ?_) (fun hc6 => ?_)
  · refine jx_aload_n d_T_bar_27 rfl rfl ?_
    refine jx_aload d_T_bar_28 rfl ?_
    refine cx_K 1 (f := 21) rfl d_T_bar_30 (f_T_137 hB) hC (by decide) (by omega) ?_
    have a7 : D 21 t = S 14 t := (hR.K (t := t) (by omega)).1.2.1
    have a8 : 0 ≤ D 21 t ∧ D 21 t ≤ 7 := (hR.Kr (t := t) (by omega)).2.1
    refine jx_callV_r (As := [.int (iI (D 21 t))]) (v := some (.int (iI (if sBit (D 3 p) (D 21 t) = 1 then 1 else 0)))) d_T_bar_33 (m_P_hasSkill hB) (v_T_78 hB) (by decide) (jx_c2 hB) (by rw [hC.kd (.inl ⟨rfl, by omega⟩)]; rfl) rfl (Nat.le_of_ble_eq_true rfl) (Nat.le_of_ble_eq_true rfl) (w_P_hasSkill hB hC hR (p := p) (s := D 21 t) (by omega) (by omega)) ?_
    have q9 := ite01 (sBit (D 3 p) (D 21 t) = 1)
    have a10 : sBit (D 3 p) (D 21 t) = sBit (S 4 p) (D 21 t) := by rw [(hR.P (p := p) (by omega)).1.2.2.2.1]
    have b11 := sBit_01 (S 4 p) (D 21 t)
    refine jI_if_ne (tgt := 41) d_T_bar_36 (by decide) (by omega) (fun hc12 => ?_) (fun hc12 => ?_)
    · refine jx_aload_n d_T_bar_41 rfl rfl ?_
      refine jx_aload d_T_bar_42 rfl ?_
      refine jx_callV_r (As := [.ref (G 1 (t).toNat)]) (v := some (.int (iI (if sBit (D 10 p) (D 20 t) = 1 then 1 else 0)))) d_T_bar_44 (m_P_hasRefused hB) (v_T_118 hB) (by decide) (jx_c2 hB) (by rw [hC.kd (.inl ⟨rfl, by omega⟩)]; rfl) rfl (Nat.le_of_ble_eq_true rfl) (Nat.le_of_ble_eq_true rfl) (w_P_hasRefused hB hC hR (p := p) (t := t) (by omega) (by omega)) ?_
      have q13 := ite01 (sBit (D 10 p) (D 20 t) = 1)
      have a14 : sBit (D 10 p) (D 20 t) = sBit (S 18 t) p := by rw [(hR.Kr (t := t) (by omega)).1]; exact hR.B (by omega) (by omega)
      have b15 := sBit_01 (S 18 t) p
      refine jI_if_eq (tgt := 52) d_T_bar_47 (by decide) (by omega) (fun hc16 => ?_) (fun hc16 => ?_)
      · refine jx_aload_n d_T_bar_52 rfl rfl ?_
        refine jx_aload_n d_T_bar_53 rfl rfl ?_
        refine jx_aload d_T_bar_54 rfl ?_
        refine jx_callV_r (As := [.ref (G 0 (p).toNat), .ref (G 1 (t).toNat)]) (v := some (.int (iI (sAlone S p t)))) d_T_bar_56 (m_T_startAsOnlyOne hB) (v_T_140 hB) (by decide) (jx_c0 hB) (by rw [hC.kd (.inr (.inr (.inl ⟨rfl, by decide⟩)))]; rfl) rfl (Nat.le_of_ble_eq_true rfl) (Nat.le_of_ble_eq_true rfl) (w_T_startAsOnlyOne hB hC hR (p := p) (t := t) (by omega) (by omega) (by omega)) ?_
        have q17 := sAlone_rg (S := S) (p := p) (t := t) hR.I (by omega) (by omega) (by omega)
        refine jI_const d_T_bar_59 ?_
        refine jI_icmp_ne (tgt := 67) d_T_bar_60 (by decide) (by omega) (by omega) (fun hc18 => ?_) (fun hc18 => ?_)
        · refine jI_const d_T_bar_67 ?_
          exact jx_iret d_T_bar_68 rfl (pub_int hC (by rw [show (oBar S p t).2 = sU S 3 0 0 by unfold oBar; (repeat' split) <;> first | rfl | (exfalso; omega)]; exact hR.s3 0) hF (by decide) (by rw [show (oBar S p t).2 = sU S 3 0 0 by unfold oBar; (repeat' split) <;> first | rfl | (exfalso; omega)]; exact sU_same) (by (have e1 : sBit (D 10 p) (D 20 t) = sBit (S 18 t) p := by rw [(hR.Kr (t := t) (by omega)).1]; exact hR.B (by omega) (by omega)); (have e2 : sBit (D 3 p) (D 21 t) = sBit (S 4 p) (S 14 t) := by rw [(hR.P (p := p) (by omega)).1.2.2.2.1, (hR.K (t := t) (by omega)).1.2.1]); (have e3 := sBit_01 (S 18 t) p); (have e4 := sBit_01 (S 4 p) (S 14 t)); unfold oBar sRef; (repeat' split) <;> first | rfl | omega | (exfalso; omega)))
        · refine jI_const d_T_bar_63 ?_
          refine jx_goto (tgt := 68) d_T_bar_64 (by decide) ?_
          exact jx_iret d_T_bar_68 rfl (pub_int hC (by rw [show (oBar S p t).2 = sU S 3 0 0 by unfold oBar; (repeat' split) <;> first | rfl | (exfalso; omega)]; exact hR.s3 0) hF (by decide) (by rw [show (oBar S p t).2 = sU S 3 0 0 by unfold oBar; (repeat' split) <;> first | rfl | (exfalso; omega)]; exact sU_same) (by (have e1 : sBit (D 10 p) (D 20 t) = sBit (S 18 t) p := by rw [(hR.Kr (t := t) (by omega)).1]; exact hR.B (by omega) (by omega)); (have e2 : sBit (D 3 p) (D 21 t) = sBit (S 4 p) (S 14 t) := by rw [(hR.P (p := p) (by omega)).1.2.2.2.1, (hR.K (t := t) (by omega)).1.2.1]); (have e3 := sBit_01 (S 18 t) p); (have e4 := sBit_01 (S 4 p) (S 14 t)); unfold oBar sRef; (repeat' split) <;> first | rfl | omega | (exfalso; omega)))
      · refine jI_const d_T_bar_50 ?_
        exact jx_iret d_T_bar_51 rfl (pub_int hC (by rw [show (oBar S p t).2 = sU S 3 0 0 by unfold oBar; (repeat' split) <;> first | rfl | (exfalso; omega)]; exact hR.s3 0) hF (by decide) (by rw [show (oBar S p t).2 = sU S 3 0 0 by unfold oBar; (repeat' split) <;> first | rfl | (exfalso; omega)]; exact sU_same) (by (have e1 : sBit (D 10 p) (D 20 t) = sBit (S 18 t) p := by rw [(hR.Kr (t := t) (by omega)).1]; exact hR.B (by omega) (by omega)); (have e2 : sBit (D 3 p) (D 21 t) = sBit (S 4 p) (S 14 t) := by rw [(hR.P (p := p) (by omega)).1.2.2.2.1, (hR.K (t := t) (by omega)).1.2.1]); (have e3 := sBit_01 (S 18 t) p); (have e4 := sBit_01 (S 4 p) (S 14 t)); unfold oBar sRef; (repeat' split) <;> first | rfl | omega | (exfalso; omega)))
    · refine jI_const d_T_bar_39 ?_
      exact jx_iret d_T_bar_40 rfl (pub_int hC (by rw [show (oBar S p t).2 = sU S 3 0 0 by unfold oBar; (repeat' split) <;> first | rfl | (exfalso; omega)]; exact hR.s3 0) hF (by decide) (by rw [show (oBar S p t).2 = sU S 3 0 0 by unfold oBar; (repeat' split) <;> first | rfl | (exfalso; omega)]; exact sU_same) (by (have e1 : sBit (D 10 p) (D 20 t) = sBit (S 18 t) p := by rw [(hR.Kr (t := t) (by omega)).1]; exact hR.B (by omega) (by omega)); (have e2 : sBit (D 3 p) (D 21 t) = sBit (S 4 p) (S 14 t) := by rw [(hR.P (p := p) (by omega)).1.2.2.2.1, (hR.K (t := t) (by omega)).1.2.1]); (have e3 := sBit_01 (S 18 t) p); (have e4 := sBit_01 (S 4 p) (S 14 t)); unfold oBar sRef; (repeat' split) <;> first | rfl | omega | (exfalso; omega)))
  · refine jI_const d_T_bar_25 ?_
    exact jx_iret d_T_bar_26 rfl (pub_int hC (by rw [show (oBar S p t).2 = sU S 3 0 0 by unfold oBar; (repeat' split) <;> first | rfl | (exfalso; omega)]; exact hR.s3 0) hF (by decide) (by rw [show (oBar S p t).2 = sU S 3 0 0 by unfold oBar; (repeat' split) <;> first | rfl | (exfalso; omega)]; exact sU_same) (by (have e1 : sBit (D 10 p) (D 20 t) = sBit (S 18 t) p := by rw [(hR.Kr (t := t) (by omega)).1]; exact hR.B (by omega) (by omega)); (have e2 : sBit (D 3 p) (D 21 t) = sBit (S 4 p) (S 14 t) := by rw [(hR.P (p := p) (by omega)).1.2.2.2.1, (hR.K (t := t) (by omega)).1.2.1]); (have e3 := sBit_01 (S 18 t) p); (have e4 := sBit_01 (S 4 p) (S 14 t)); unfold oBar sRef; (repeat' split) <;> first | rfl | omega | (exfalso; omega)))
theorem order_ok {S : mS} {p i : Int} (hT : 0 ≤ S 1 0 ∧ S 1 0 ≤ 16) (hi : 0 ≤ i) : sPlan S p i = if 16 ≤ i then -1 else sPlan S p i := by
  by_cases h : 16 ≤ i
  · rw [if_pos h]
    by_cases hz : sPlan S p i = -1
    · exact hz
    · have := (plan_cnt (S := S) (p := p) (i := i) hT.1 hi).mp hz
      have := sCnt_rg (pO S p) hT.1
      omega
  · rw [if_neg h]
theorem w_T_order {E : jx_E} {l : Launch} {d : Nat} {w : jx_W} {D S : mS} {G : Nat → Nat → Nat} {lo hi : Nat} {p i : Int} (hB : jx_B E) (hC : cR E D w G lo hi) (hR : rl S D) (irp : iR p) (iri : iR i) (hW : 50 ≤ jx_c w ∧ 5000 ≤ jx_s w) : jx_G E l Y_T_order (d + 7) (pubQ E G lo hi w exB (some (.int (iI (oOrder S p i).1))) ((oOrder S p i).2)) 0 (jx_ent [.ref (G 2 0), .int (iI (p)), .int (iI (i))] 4) [] w := by
  show jx_G E l Y_T_order (d + 7) _ 0 [some (.ref (G 2 0)), some (.int (iI (p))), some (.int (iI (i))), none] [] w
  have hN := hR.N
  have hF : cF lo hi 0 w w := cF.rf
  refine jx_aload_n d_T_order_0 rfl rfl ?_
  refine jx_iload_n d_T_order_1 rfl rfl ?_
  by_cases hq1 : 0 ≤ p ∧ p < S 0 0
  rotate_left
  · exact jx_callV_t (As := [.int (iI (p))]) d_T_order_2 (m_T_personOf hB) (v_T_62 hB) (by decide) (jx_c0 hB) (by rw [hC.kd (.inr (.inr (.inl ⟨rfl, by decide⟩)))]; rfl) rfl (Nat.le_of_ble_eq_true rfl) (Nat.le_of_ble_eq_true rfl) (w_T_personOf_no hB hC hR (q := p) (by omega) hq1 (room_c hF hW.1 (by decide)) (room_s hF hW.2 (by decide))) (.inl ⟨fun y hy => absurd hy List.not_mem_nil, pub_thr hC hR hF (by decide) 1 (by decide) (by unfold oOrder; (repeat' split) <;> first | rfl | (exfalso; omega)) rfl⟩)
  refine jx_callV_r (As := [.int (iI (p))]) (v := some (.ref (G 0 (p).toNat))) d_T_order_2 (m_T_personOf hB) (v_T_62 hB) (by decide) (jx_c0 hB) (by rw [hC.kd (.inr (.inr (.inl ⟨rfl, by decide⟩)))]; rfl) rfl (Nat.le_of_ble_eq_true rfl) (Nat.le_of_ble_eq_true rfl) (w_T_personOf_ok hB hC hR (q := p) (by omega) hq1) ?_
  refine jx_astore_n d_T_order_5 rfl (Nat.le_of_ble_eq_true rfl) rfl ?_
  try dsimp only [List.set]
  refine jx_iload_n d_T_order_6 rfl rfl ?_
  refine jI_if_ge (tgt := 20) d_T_order_7 (by decide) (by omega) (fun hc2 => ?_) (fun hc2 => ?_)
  · refine jx_aload_n d_T_order_20 rfl rfl ?_
    refine jx_aload_n d_T_order_21 rfl rfl ?_
    refine cx_P 0 d_T_order_22 (f_T_58 hB) hC (by decide) (by omega) ?_
    have a3 : D 0 p = p := (hR.P (p := p) (by omega)).1.1
    refine jx_iload_n d_T_order_25 rfl rfl ?_
    refine jx_callV_r (As := [.int (iI (D 0 p)), .int (iI (i))]) (v := some (.int (iI (sPlan S (D 0 p) i)))) d_T_order_26 (m_T_plannedTask hB) (v_T_181 hB) (by decide) (jx_c0 hB) (by rw [hC.kd (.inr (.inr (.inl ⟨rfl, by decide⟩)))]; rfl) rfl (Nat.le_of_ble_eq_true rfl) (Nat.le_of_ble_eq_true rfl) (w_T_plannedTask hB hC hR (p := D 0 p) (i := i) (by omega) (by omega)) ?_
    have q4 := sPlan_rg (S := S) (p := D 0 p) (i := i) (by omega)
    have q5 := plan_in (S := S) (p := D 0 p) (i := i) (by omega) (by omega)
    exact jx_iret d_T_order_29 rfl (pub_int hC (by rw [show (oOrder S p i).2 = sU S 3 0 0 by unfold oOrder; (repeat' split) <;> first | rfl | (exfalso; omega)]; exact hR.s3 0) hF (by decide) (by rw [show (oOrder S p i).2 = sU S 3 0 0 by unfold oOrder; (repeat' split) <;> first | rfl | (exfalso; omega)]; exact sU_same) (by (have e : D 0 p = p := (hR.P (p := p) (by omega)).1.1); rw [e]; unfold oOrder; rw [if_pos (by omega), if_neg (by omega)]; exact order_ok (by omega) (by omega)))
  · refine jx_throw d_T_order_10 d_T_order_13 d_T_order_14 d_T_order_16 d_T_order_19 (x_T_order_10 hB) (by intro y hy; exact absurd hy (List.not_mem_nil)) (by omega) (by omega) (by show 6 ≤ _; omega) (Nat.le_of_ble_eq_true rfl) ?_
    exact pub_thr hC hR hF (by decide) 2 (by decide) (by unfold oOrder; (repeat' split) <;> first | rfl | (exfalso; omega)) rfl
theorem w_T_known {E : jx_E} {l : Launch} {d : Nat} {w : jx_W} {D S : mS} {G : Nat → Nat → Nat} {lo hi : Nat} {p k : Int} (hB : jx_B E) (hC : cR E D w G lo hi) (hR : rl S D) (irp : iR p) (irk : iR k) (hW : 50 ≤ jx_c w ∧ 5000 ≤ jx_s w) : jx_G E l Y_T_known (d + 7) (pubQ E G lo hi w exB (some (.int (iI (oKnown S p k).1))) ((oKnown S p k).2)) 0 (jx_ent [.ref (G 2 0), .int (iI (p)), .int (iI (k))] 4) [] w := by
  show jx_G E l Y_T_known (d + 7) _ 0 [some (.ref (G 2 0)), some (.int (iI (p))), some (.int (iI (k))), none] [] w
  have hN := hR.N
  have hF : cF lo hi 0 w w := cF.rf
  refine jx_aload_n d_T_known_0 rfl rfl ?_
  refine jx_iload_n d_T_known_1 rfl rfl ?_
  by_cases hq1 : 0 ≤ p ∧ p < S 0 0
  rotate_left
  · exact jx_callV_t (As := [.int (iI (p))]) d_T_known_2 (m_T_personOf hB) (v_T_62 hB) (by decide) (jx_c0 hB) (by rw [hC.kd (.inr (.inr (.inl ⟨rfl, by decide⟩)))]; rfl) rfl (Nat.le_of_ble_eq_true rfl) (Nat.le_of_ble_eq_true rfl) (w_T_personOf_no hB hC hR (q := p) (by omega) hq1 (room_c hF hW.1 (by decide)) (room_s hF hW.2 (by decide))) (.inl ⟨fun y hy => absurd hy List.not_mem_nil, pub_thr hC hR hF (by decide) 1 (by decide) (by unfold oKnown; (repeat' split) <;> first | rfl | (exfalso; omega)) rfl⟩)
  refine jx_callV_r (As := [.int (iI (p))]) (v := some (.ref (G 0 (p).toNat))) d_T_known_2 (m_T_personOf hB) (v_T_62 hB) (by decide) (jx_c0 hB) (by rw [hC.kd (.inr (.inr (.inl ⟨rfl, by decide⟩)))]; rfl) rfl (Nat.le_of_ble_eq_true rfl) (Nat.le_of_ble_eq_true rfl) (w_T_personOf_ok hB hC hR (q := p) (by omega) hq1) ?_
  refine jx_astore_n d_T_known_5 rfl (Nat.le_of_ble_eq_true rfl) rfl ?_
  try dsimp only [List.set]
  refine jx_iload_n d_T_known_6 rfl rfl ?_
  by_cases hs20 : k = 0
  · refine jx_tableIn (off := 37) (tgt := 44) d_T_known_7 (by rw [iI_toInt (by omega)]; omega) (by rw [iI_toInt (by omega)]; omega) (by rw [iI_toInt (by omega), hs20]; rfl) (by decide) ?_
    refine jx_aload_n d_T_known_44 rfl rfl ?_
    refine cx_P 7 d_T_known_45 (f_T_133 hB) hC (by decide) (by omega) ?_
    have a3 : 0 ≤ D 7 p ∧ D 7 p ≤ 1 := (hR.Pr (p := p) (by omega)).2.2.2.2.2.2.1
    have a4 : D 7 p = S 10 p := (hR.P (p := p) (by omega)).1.2.2.2.2.2.1
    refine jI_if_eq (tgt := 55) d_T_known_48 (by decide) (by omega) (fun hc5 => ?_) (fun hc5 => ?_)
    · refine jI_const d_T_known_55 ?_
      exact jx_iret d_T_known_56 rfl (pub_int hC (by rw [show (oKnown S p k).2 = sU S 3 0 0 by unfold oKnown; (repeat' split) <;> first | rfl | (exfalso; omega)]; exact hR.s3 0) hF (by decide) (by rw [show (oKnown S p k).2 = sU S 3 0 0 by unfold oKnown; (repeat' split) <;> first | rfl | (exfalso; omega)]; exact sU_same) (by (have e : D 0 p = p := (hR.P (p := p) (by omega)).1.1); (try rw [e]); unfold oKnown; rw [if_pos (by omega), if_pos (by omega)]; (try rw [kn_cnt (by omega), pO_sOf]); (try rw [done_sOf S p (by omega)]); (try dsimp only); (repeat' split) <;> first | rfl | omega | (exfalso; omega)))
    · refine jI_const d_T_known_51 ?_
      refine jx_goto (tgt := 56) d_T_known_52 (by decide) ?_
      exact jx_iret d_T_known_56 rfl (pub_int hC (by rw [show (oKnown S p k).2 = sU S 3 0 0 by unfold oKnown; (repeat' split) <;> first | rfl | (exfalso; omega)]; exact hR.s3 0) hF (by decide) (by rw [show (oKnown S p k).2 = sU S 3 0 0 by unfold oKnown; (repeat' split) <;> first | rfl | (exfalso; omega)]; exact sU_same) (by (have e : D 0 p = p := (hR.P (p := p) (by omega)).1.1); (try rw [e]); unfold oKnown; rw [if_pos (by omega), if_pos (by omega)]; (try rw [kn_cnt (by omega), pO_sOf]); (try rw [done_sOf S p (by omega)]); (try dsimp only); (repeat' split) <;> first | rfl | omega | (exfalso; omega)))
  by_cases hs21 : k = 1
  · refine jx_tableIn (off := 50) (tgt := 57) d_T_known_7 (by rw [iI_toInt (by omega)]; omega) (by rw [iI_toInt (by omega)]; omega) (by rw [iI_toInt (by omega), hs21]; rfl) (by decide) ?_
    refine jx_aload_n d_T_known_57 rfl rfl ?_
    refine cx_P 3 d_T_known_58 (f_T_89 hB) hC (by decide) (by omega) ?_
    have a6 : 0 ≤ D 3 p ∧ D 3 p ≤ 255 := (hR.Pr (p := p) (by omega)).2.2.1
    have a7 : D 3 p = S 4 p := (hR.P (p := p) (by omega)).1.2.2.2.1
    exact jx_iret d_T_known_61 rfl (pub_int hC (by rw [show (oKnown S p k).2 = sU S 3 0 0 by unfold oKnown; (repeat' split) <;> first | rfl | (exfalso; omega)]; exact hR.s3 0) hF (by decide) (by rw [show (oKnown S p k).2 = sU S 3 0 0 by unfold oKnown; (repeat' split) <;> first | rfl | (exfalso; omega)]; exact sU_same) (by (have e : D 0 p = p := (hR.P (p := p) (by omega)).1.1); (try rw [e]); unfold oKnown; rw [if_pos (by omega), if_pos (by omega)]; (try rw [kn_cnt (by omega), pO_sOf]); (try rw [done_sOf S p (by omega)]); (try dsimp only); (repeat' split) <;> first | rfl | omega | (exfalso; omega)))
  by_cases hs22 : k = 2
  · refine jx_tableIn (off := 55) (tgt := 62) d_T_known_7 (by rw [iI_toInt (by omega)]; omega) (by rw [iI_toInt (by omega)]; omega) (by rw [iI_toInt (by omega), hs22]; rfl) (by decide) ?_
    refine jx_aload_n d_T_known_62 rfl rfl ?_
    refine cx_P 4 d_T_known_63 (f_T_200 hB) hC (by decide) (by omega) ?_
    have a8 : 0 ≤ D 4 p ∧ D 4 p ≤ 3 := (hR.Pr (p := p) (by omega)).2.2.2.1
    have a9 : D 4 p = S 9 p := (hR.P (p := p) (by omega)).1.2.2.2.2.1
    exact jx_iret d_T_known_66 rfl (pub_int hC (by rw [show (oKnown S p k).2 = sU S 3 0 0 by unfold oKnown; (repeat' split) <;> first | rfl | (exfalso; omega)]; exact hR.s3 0) hF (by decide) (by rw [show (oKnown S p k).2 = sU S 3 0 0 by unfold oKnown; (repeat' split) <;> first | rfl | (exfalso; omega)]; exact sU_same) (by (have e : D 0 p = p := (hR.P (p := p) (by omega)).1.1); (try rw [e]); unfold oKnown; rw [if_pos (by omega), if_pos (by omega)]; (try rw [kn_cnt (by omega), pO_sOf]); (try rw [done_sOf S p (by omega)]); (try dsimp only); (repeat' split) <;> first | rfl | omega | (exfalso; omega)))
  by_cases hs23 : k = 3
  · refine jx_tableIn (off := 60) (tgt := 67) d_T_known_7 (by rw [iI_toInt (by omega)]; omega) (by rw [iI_toInt (by omega)]; omega) (by rw [iI_toInt (by omega), hs23]; rfl) (by decide) ?_
    refine jx_aload_n d_T_known_67 rfl rfl ?_
    refine cx_P 8 d_T_known_68 (f_T_188 hB) hC (by decide) (by omega) ?_
    have a10 : -1 ≤ D 8 p ∧ D 8 p ≤ 15 := (hR.Pr (p := p) (by omega)).2.2.2.2.2.2.2.1
    have a11 : D 8 p = S 11 p := (hR.P (p := p) (by omega)).1.2.2.2.2.2.2
    exact jx_iret d_T_known_71 rfl (pub_int hC (by rw [show (oKnown S p k).2 = sU S 3 0 0 by unfold oKnown; (repeat' split) <;> first | rfl | (exfalso; omega)]; exact hR.s3 0) hF (by decide) (by rw [show (oKnown S p k).2 = sU S 3 0 0 by unfold oKnown; (repeat' split) <;> first | rfl | (exfalso; omega)]; exact sU_same) (by (have e : D 0 p = p := (hR.P (p := p) (by omega)).1.1); (try rw [e]); unfold oKnown; rw [if_pos (by omega), if_pos (by omega)]; (try rw [kn_cnt (by omega), pO_sOf]); (try rw [done_sOf S p (by omega)]); (try dsimp only); (repeat' split) <;> first | rfl | omega | (exfalso; omega)))
  by_cases hs24 : k = 4
  · refine jx_tableIn (off := 65) (tgt := 72) d_T_known_7 (by rw [iI_toInt (by omega)]; omega) (by rw [iI_toInt (by omega)]; omega) (by rw [iI_toInt (by omega), hs24]; rfl) (by decide) ?_
    refine jx_aload_n d_T_known_72 rfl rfl ?_
    refine jx_aload_n d_T_known_73 rfl rfl ?_
    refine cx_P 0 d_T_known_74 (f_T_58 hB) hC (by decide) (by omega) ?_
    have a12 : D 0 p = p := (hR.P (p := p) (by omega)).1.1
    refine jI_const d_T_known_77 ?_
    refine jx_callV_r (As := [.int (iI (D 0 p)), .int (iI (2))]) (v := some (.int (iI (sOf S (D 0 p) 2)))) d_T_known_78 (m_T_tasksOf hB) (v_T_203 hB) (by decide) (jx_c0 hB) (by rw [hC.kd (.inr (.inr (.inl ⟨rfl, by decide⟩)))]; rfl) rfl (Nat.le_of_ble_eq_true rfl) (Nat.le_of_ble_eq_true rfl) (w_T_tasksOf hB hC hR (p := D 0 p) (s := 2) (by omega) (by omega)) ?_
    have q13 := sOf_rg (S := S) (p := D 0 p) (s := 2) (by omega)
    exact jx_iret d_T_known_81 rfl (pub_int hC (by rw [show (oKnown S p k).2 = sU S 3 0 0 by unfold oKnown; (repeat' split) <;> first | rfl | (exfalso; omega)]; exact hR.s3 0) hF (by decide) (by rw [show (oKnown S p k).2 = sU S 3 0 0 by unfold oKnown; (repeat' split) <;> first | rfl | (exfalso; omega)]; exact sU_same) (by (have e : D 0 p = p := (hR.P (p := p) (by omega)).1.1); (try rw [e]); unfold oKnown; rw [if_pos (by omega), if_pos (by omega)]; (try rw [kn_cnt (by omega), pO_sOf]); (try rw [done_sOf S p (by omega)]); (try dsimp only); (repeat' split) <;> first | rfl | omega | (exfalso; omega)))
  by_cases hs25 : k = 5
  · refine jx_tableIn (off := 75) (tgt := 82) d_T_known_7 (by rw [iI_toInt (by omega)]; omega) (by rw [iI_toInt (by omega)]; omega) (by rw [iI_toInt (by omega), hs25]; rfl) (by decide) ?_
    refine jx_aload_n d_T_known_82 rfl rfl ?_
    refine jx_aload_n d_T_known_83 rfl rfl ?_
    refine cx_P 0 d_T_known_84 (f_T_58 hB) hC (by decide) (by omega) ?_
    have a14 : D 0 p = p := (hR.P (p := p) (by omega)).1.1
    refine jI_const d_T_known_87 ?_
    refine jx_callV_r (As := [.int (iI (D 0 p)), .int (iI (0))]) (v := some (.int (iI (sOf S (D 0 p) 0)))) d_T_known_88 (m_T_tasksOf hB) (v_T_203 hB) (by decide) (jx_c0 hB) (by rw [hC.kd (.inr (.inr (.inl ⟨rfl, by decide⟩)))]; rfl) rfl (Nat.le_of_ble_eq_true rfl) (Nat.le_of_ble_eq_true rfl) (w_T_tasksOf hB hC hR (p := D 0 p) (s := 0) (by omega) (by omega)) ?_
    have q15 := sOf_rg (S := S) (p := D 0 p) (s := 0) (by omega)
    exact jx_iret d_T_known_91 rfl (pub_int hC (by rw [show (oKnown S p k).2 = sU S 3 0 0 by unfold oKnown; (repeat' split) <;> first | rfl | (exfalso; omega)]; exact hR.s3 0) hF (by decide) (by rw [show (oKnown S p k).2 = sU S 3 0 0 by unfold oKnown; (repeat' split) <;> first | rfl | (exfalso; omega)]; exact sU_same) (by (have e : D 0 p = p := (hR.P (p := p) (by omega)).1.1); (try rw [e]); unfold oKnown; rw [if_pos (by omega), if_pos (by omega)]; (try rw [kn_cnt (by omega), pO_sOf]); (try rw [done_sOf S p (by omega)]); (try dsimp only); (repeat' split) <;> first | rfl | omega | (exfalso; omega)))
  refine jx_tableOut (tgt := 92) d_T_known_7 (by rw [iI_toInt (by omega)]; omega) (by decide) ?_
  refine jx_throw d_T_known_92 d_T_known_95 d_T_known_96 d_T_known_98 d_T_known_101 (x_T_known_92 hB) (by intro y hy; exact absurd hy (List.not_mem_nil)) (by omega) (by omega) (by show 6 ≤ _; omega) (Nat.le_of_ble_eq_true rfl) ?_
  exact pub_thr hC hR hF (by decide) 2 (by decide) (by unfold oKnown; (repeat' split) <;> first | rfl | (exfalso; omega)) rfl
theorem w_T_fair {E : jx_E} {l : Launch} {d : Nat} {w : jx_W} {D S : mS} {G : Nat → Nat → Nat} {lo hi : Nat} {p : Int} (hB : jx_B E) (hC : cR E D w G lo hi) (hR : rl S D) (irp : iR p) (hW : 50 ≤ jx_c w ∧ 5000 ≤ jx_s w) : jx_G E l Y_T_fair (d + 7) (pubQ E G lo hi w exD (some (.int (iI (oFair S p).1))) ((oFair S p).2)) 0 (jx_ent [.ref (G 2 0), .int (iI (p))] 4) [] w := by
  show jx_G E l Y_T_fair (d + 7) _ 0 [some (.ref (G 2 0)), some (.int (iI (p))), none, none] [] w
  have hN := hR.N
  have hF : cF lo hi 0 w w := cF.rf
  refine jx_aload_n d_T_fair_0 rfl rfl ?_
  refine jx_iload_n d_T_fair_1 rfl rfl ?_
  by_cases hq1 : 0 ≤ p ∧ p < S 0 0
  rotate_left
  · exact jx_callV_t (As := [.int (iI (p))]) d_T_fair_2 (m_T_personOf hB) (v_T_62 hB) (by decide) (jx_c0 hB) (by rw [hC.kd (.inr (.inr (.inl ⟨rfl, by decide⟩)))]; rfl) rfl (Nat.le_of_ble_eq_true rfl) (Nat.le_of_ble_eq_true rfl) (w_T_personOf_no hB hC hR (q := p) (by omega) hq1 (room_c hF hW.1 (by decide)) (room_s hF hW.2 (by decide))) (.inl ⟨fun y hy => absurd hy List.not_mem_nil, pub_thr hC hR hF (by decide) 1 (by decide) (by unfold oFair; (repeat' split) <;> first | rfl | (exfalso; omega)) rfl⟩)
  refine jx_callV_r (As := [.int (iI (p))]) (v := some (.ref (G 0 (p).toNat))) d_T_fair_2 (m_T_personOf hB) (v_T_62 hB) (by decide) (jx_c0 hB) (by rw [hC.kd (.inr (.inr (.inl ⟨rfl, by decide⟩)))]; rfl) rfl (Nat.le_of_ble_eq_true rfl) (Nat.le_of_ble_eq_true rfl) (w_T_personOf_ok hB hC hR (q := p) (by omega) hq1) ?_
  refine jx_astore_n d_T_fair_5 rfl (Nat.le_of_ble_eq_true rfl) rfl ?_
  try dsimp only [List.set]
  refine jx_aload_n d_T_fair_6 rfl rfl ?_
  refine jI_const d_T_fair_7 ?_
  refine jx_callV_r (As := [.int (iI (2))]) (v := some (.int (iI (sInS S 2)))) d_T_fair_8 (m_T_tasksIn hB) (v_T_147 hB) (by decide) (jx_c0 hB) (by rw [hC.kd (.inr (.inr (.inl ⟨rfl, by decide⟩)))]; rfl) rfl (Nat.le_of_ble_eq_true rfl) (Nat.le_of_ble_eq_true rfl) (w_T_tasksIn hB hC hR (s := 2) (by omega)) ?_
  have q2 := sInS_rg (S := S) (s := 2) (by omega)
  refine jx_istore_n d_T_fair_11 rfl (Nat.le_of_ble_eq_true rfl) rfl ?_
  try dsimp only [List.set]
  refine jx_iload_n d_T_fair_12 rfl rfl ?_
  refine jI_if_ne (tgt := 20) d_T_fair_13 (by decide) (by omega) (fun hc3 => ?_) (fun hc3 => ?_)
  · refine jI_bipush d_T_fair_20 (by decide) ?_
    refine jx_aload_n d_T_fair_22 rfl rfl ?_
    refine jx_aload_n d_T_fair_23 rfl rfl ?_
    refine cx_P 0 d_T_fair_24 (f_T_58 hB) hC (by decide) (by omega) ?_
    have a4 : D 0 p = p := (hR.P (p := p) (by omega)).1.1
    refine jI_const d_T_fair_27 ?_
    refine jx_callV_r (As := [.int (iI (D 0 p)), .int (iI (2))]) (v := some (.int (iI (sOf S (D 0 p) 2)))) d_T_fair_28 (m_T_tasksOf hB) (v_T_203 hB) (by decide) (jx_c0 hB) (by rw [hC.kd (.inr (.inr (.inl ⟨rfl, by decide⟩)))]; rfl) rfl (Nat.le_of_ble_eq_true rfl) (Nat.le_of_ble_eq_true rfl) (w_T_tasksOf hB hC hR (p := D 0 p) (s := 2) (by omega) (by omega)) ?_
    have q5 := sOf_rg (S := S) (p := D 0 p) (s := 2) (by omega)
    refine jI_mul d_T_fair_31 ?_
    refine jx_iload_n d_T_fair_32 rfl rfl ?_
    refine jI_div d_T_fair_33 ⟨by omega, by omega⟩ ⟨by omega, by omega⟩ ?_
    exact jx_iret d_T_fair_34 rfl (pub_int hC (by rw [show (oFair S p).2 = sU S 3 0 0 by unfold oFair; (repeat' split) <;> first | rfl | (exfalso; omega)]; exact hR.s3 0) hF (by decide) (by rw [show (oFair S p).2 = sU S 3 0 0 by unfold oFair; (repeat' split) <;> first | rfl | (exfalso; omega)]; exact sU_same) (by (have e : D 0 p = p := (hR.P (p := p) (by omega)).1.1); (try rw [e]); unfold oFair; rw [if_pos (by omega), done_all, done_sOf S p (by omega)]; first | (rw [if_pos (by omega)]; done) | (rw [if_neg (by omega)]; done)))
  · refine jI_const d_T_fair_16 ?_
    refine jx_goto (tgt := 34) d_T_fair_17 (by decide) ?_
    exact jx_iret d_T_fair_34 rfl (pub_int hC (by rw [show (oFair S p).2 = sU S 3 0 0 by unfold oFair; (repeat' split) <;> first | rfl | (exfalso; omega)]; exact hR.s3 0) hF (by decide) (by rw [show (oFair S p).2 = sU S 3 0 0 by unfold oFair; (repeat' split) <;> first | rfl | (exfalso; omega)]; exact sU_same) (by (have e : D 0 p = p := (hR.P (p := p) (by omega)).1.1); (try rw [e]); unfold oFair; rw [if_pos (by omega), done_all, done_sOf S p (by omega)]; first | (rw [if_pos (by omega)]; done) | (rw [if_neg (by omega)]; done)))
theorem w_T_count {E : jx_E} {l : Launch} {d : Nat} {w : jx_W} {D S : mS} {G : Nat → Nat → Nat} {lo hi : Nat} {k : Int} (hB : jx_B E) (hC : cR E D w G lo hi) (hR : rl S D) (irk : iR k) (hW : 50 ≤ jx_c w ∧ 5000 ≤ jx_s w) : jx_G E l Y_T_count (d + 5) (pubQ E G lo hi w exE (some (.int (iI (oCount S k).1))) ((oCount S k).2)) 0 (jx_ent [.ref (G 2 0), .int (iI (k))] 2) [] w := by
  show jx_G E l Y_T_count (d + 5) _ 0 [some (.ref (G 2 0)), some (.int (iI (k)))] [] w
  have hN := hR.N
  have hF : cF lo hi 0 w w := cF.rf
  refine jx_iload_n d_T_count_0 rfl rfl ?_
  by_cases hs10 : k = 0
  · refine jx_tableIn (off := 47) (tgt := 48) d_T_count_1 (by rw [iI_toInt (by omega)]; omega) (by rw [iI_toInt (by omega)]; omega) (by rw [iI_toInt (by omega), hs10]; rfl) (by decide) ?_
    refine jx_aload_n d_T_count_48 rfl rfl ?_
    refine cx_ptr (c2 := 2) (x2 := 1) d_T_count_49 (f_T_10 hB) hC (by decide) (by decide) rfl ?_
    refine cx_size 0 1 33 rfl hB d_T_count_52 (v_T_41 hB) hC (by decide) rfl (Nat.le_of_ble_eq_true rfl) ?_
    exact jx_iret d_T_count_55 rfl (pub_int hC (by rw [show (oCount S k).2 = sU S 3 0 0 by unfold oCount; (repeat' split) <;> first | rfl | (exfalso; omega)]; exact hR.s3 0) hF (by decide) (by rw [show (oCount S k).2 = sU S 3 0 0 by unfold oCount; (repeat' split) <;> first | rfl | (exfalso; omega)]; exact sU_same) (by unfold oCount; (try rw [free_sOf]); (repeat' split) <;> first | rfl | omega | (exfalso; omega) | (congr 1; omega)))
  by_cases hs11 : k = 1
  · refine jx_tableIn (off := 55) (tgt := 56) d_T_count_1 (by rw [iI_toInt (by omega)]; omega) (by rw [iI_toInt (by omega)]; omega) (by rw [iI_toInt (by omega), hs11]; rfl) (by decide) ?_
    refine jx_aload_n d_T_count_56 rfl rfl ?_
    refine cx_ptr (c2 := 2) (x2 := 2) d_T_count_57 (f_T_16 hB) hC (by decide) (by decide) rfl ?_
    refine cx_size 1 2 34 rfl hB d_T_count_60 (v_T_41 hB) hC (by decide) rfl (Nat.le_of_ble_eq_true rfl) ?_
    exact jx_iret d_T_count_63 rfl (pub_int hC (by rw [show (oCount S k).2 = sU S 3 0 0 by unfold oCount; (repeat' split) <;> first | rfl | (exfalso; omega)]; exact hR.s3 0) hF (by decide) (by rw [show (oCount S k).2 = sU S 3 0 0 by unfold oCount; (repeat' split) <;> first | rfl | (exfalso; omega)]; exact sU_same) (by unfold oCount; (try rw [free_sOf]); (repeat' split) <;> first | rfl | omega | (exfalso; omega) | (congr 1; omega)))
  by_cases hs12 : k = 2
  · refine jx_tableIn (off := 63) (tgt := 64) d_T_count_1 (by rw [iI_toInt (by omega)]; omega) (by rw [iI_toInt (by omega)]; omega) (by rw [iI_toInt (by omega), hs12]; rfl) (by decide) ?_
    refine jx_aload_n d_T_count_64 rfl rfl ?_
    refine jI_const d_T_count_65 ?_
    refine jx_callV_r (As := [.int (iI (0))]) (v := some (.int (iI (sInS S 0)))) d_T_count_66 (m_T_tasksIn hB) (v_T_147 hB) (by decide) (jx_c0 hB) (by rw [hC.kd (.inr (.inr (.inl ⟨rfl, by decide⟩)))]; rfl) rfl (Nat.le_of_ble_eq_true rfl) (Nat.le_of_ble_eq_true rfl) (w_T_tasksIn hB hC hR (s := 0) (by omega)) ?_
    have q2 := sInS_rg (S := S) (s := 0) (by omega)
    exact jx_iret d_T_count_69 rfl (pub_int hC (by rw [show (oCount S k).2 = sU S 3 0 0 by unfold oCount; (repeat' split) <;> first | rfl | (exfalso; omega)]; exact hR.s3 0) hF (by decide) (by rw [show (oCount S k).2 = sU S 3 0 0 by unfold oCount; (repeat' split) <;> first | rfl | (exfalso; omega)]; exact sU_same) (by unfold oCount; (try rw [free_sOf]); (repeat' split) <;> first | rfl | omega | (exfalso; omega) | (congr 1; omega)))
  by_cases hs13 : k = 3
  · refine jx_tableIn (off := 69) (tgt := 70) d_T_count_1 (by rw [iI_toInt (by omega)]; omega) (by rw [iI_toInt (by omega)]; omega) (by rw [iI_toInt (by omega), hs13]; rfl) (by decide) ?_
    refine jx_aload_n d_T_count_70 rfl rfl ?_
    refine jI_const d_T_count_71 ?_
    refine jx_callV_r (As := [.int (iI (1))]) (v := some (.int (iI (sInS S 1)))) d_T_count_72 (m_T_tasksIn hB) (v_T_147 hB) (by decide) (jx_c0 hB) (by rw [hC.kd (.inr (.inr (.inl ⟨rfl, by decide⟩)))]; rfl) rfl (Nat.le_of_ble_eq_true rfl) (Nat.le_of_ble_eq_true rfl) (w_T_tasksIn hB hC hR (s := 1) (by omega)) ?_
    have q3 := sInS_rg (S := S) (s := 1) (by omega)
    exact jx_iret d_T_count_75 rfl (pub_int hC (by rw [show (oCount S k).2 = sU S 3 0 0 by unfold oCount; (repeat' split) <;> first | rfl | (exfalso; omega)]; exact hR.s3 0) hF (by decide) (by rw [show (oCount S k).2 = sU S 3 0 0 by unfold oCount; (repeat' split) <;> first | rfl | (exfalso; omega)]; exact sU_same) (by unfold oCount; (try rw [free_sOf]); (repeat' split) <;> first | rfl | omega | (exfalso; omega) | (congr 1; omega)))
  by_cases hs14 : k = 4
  · refine jx_tableIn (off := 75) (tgt := 76) d_T_count_1 (by rw [iI_toInt (by omega)]; omega) (by rw [iI_toInt (by omega)]; omega) (by rw [iI_toInt (by omega), hs14]; rfl) (by decide) ?_
    refine jx_aload_n d_T_count_76 rfl rfl ?_
    refine jI_const d_T_count_77 ?_
    refine jx_callV_r (As := [.int (iI (2))]) (v := some (.int (iI (sInS S 2)))) d_T_count_78 (m_T_tasksIn hB) (v_T_147 hB) (by decide) (jx_c0 hB) (by rw [hC.kd (.inr (.inr (.inl ⟨rfl, by decide⟩)))]; rfl) rfl (Nat.le_of_ble_eq_true rfl) (Nat.le_of_ble_eq_true rfl) (w_T_tasksIn hB hC hR (s := 2) (by omega)) ?_
    have q4 := sInS_rg (S := S) (s := 2) (by omega)
    exact jx_iret d_T_count_81 rfl (pub_int hC (by rw [show (oCount S k).2 = sU S 3 0 0 by unfold oCount; (repeat' split) <;> first | rfl | (exfalso; omega)]; exact hR.s3 0) hF (by decide) (by rw [show (oCount S k).2 = sU S 3 0 0 by unfold oCount; (repeat' split) <;> first | rfl | (exfalso; omega)]; exact sU_same) (by unfold oCount; (try rw [free_sOf]); (repeat' split) <;> first | rfl | omega | (exfalso; omega) | (congr 1; omega)))
  by_cases hs15 : k = 5
  · refine jx_tableIn (off := 81) (tgt := 82) d_T_count_1 (by rw [iI_toInt (by omega)]; omega) (by rw [iI_toInt (by omega)]; omega) (by rw [iI_toInt (by omega), hs15]; rfl) (by decide) ?_
    refine jx_aload_n d_T_count_82 rfl rfl ?_
    refine jI_const d_T_count_83 ?_
    refine jI_const d_T_count_84 ?_
    refine jx_callV_r (As := [.int (iI ((-1))), .int (iI (0))]) (v := some (.int (iI (sOf S ((-1)) 0)))) d_T_count_85 (m_T_tasksOf hB) (v_T_203 hB) (by decide) (jx_c0 hB) (by rw [hC.kd (.inr (.inr (.inl ⟨rfl, by decide⟩)))]; rfl) rfl (Nat.le_of_ble_eq_true rfl) (Nat.le_of_ble_eq_true rfl) (w_T_tasksOf hB hC hR (p := (-1)) (s := 0) (by omega) (by omega)) ?_
    have q5 := sOf_rg (S := S) (p := (-1)) (s := 0) (by omega)
    exact jx_iret d_T_count_88 rfl (pub_int hC (by rw [show (oCount S k).2 = sU S 3 0 0 by unfold oCount; (repeat' split) <;> first | rfl | (exfalso; omega)]; exact hR.s3 0) hF (by decide) (by rw [show (oCount S k).2 = sU S 3 0 0 by unfold oCount; (repeat' split) <;> first | rfl | (exfalso; omega)]; exact sU_same) (by unfold oCount; (try rw [free_sOf]); (repeat' split) <;> first | rfl | omega | (exfalso; omega) | (congr 1; omega)))
  by_cases hs16 : k = 6
  · refine jx_tableIn (off := 88) (tgt := 89) d_T_count_1 (by rw [iI_toInt (by omega)]; omega) (by rw [iI_toInt (by omega)]; omega) (by rw [iI_toInt (by omega), hs16]; rfl) (by decide) ?_
    refine jx_aload_n d_T_count_89 rfl rfl ?_
    refine cx_now d_T_count_90 (f_T_153 hB) hC ?_
    exact jx_iret d_T_count_93 rfl (pub_int hC (by rw [show (oCount S k).2 = sU S 3 0 0 by unfold oCount; (repeat' split) <;> first | rfl | (exfalso; omega)]; exact hR.s3 0) hF (by decide) (by rw [show (oCount S k).2 = sU S 3 0 0 by unfold oCount; (repeat' split) <;> first | rfl | (exfalso; omega)]; exact sU_same) (by unfold oCount; (try rw [free_sOf]); (repeat' split) <;> first | rfl | omega | (exfalso; omega) | (congr 1; omega)))
  by_cases hs17 : k = 7
  · refine jx_tableIn (off := 93) (tgt := 94) d_T_count_1 (by rw [iI_toInt (by omega)]; omega) (by rw [iI_toInt (by omega)]; omega) (by rw [iI_toInt (by omega), hs17]; rfl) (by decide) ?_
    refine jx_aload_n d_T_count_94 rfl rfl ?_
    refine jx_callV_r (As := []) (v := some (.int (iI (sCost S)))) d_T_count_95 (m_T_latenessOfPlan hB) (v_T_163 hB) (by decide) (jx_c0 hB) (by rw [hC.kd (.inr (.inr (.inl ⟨rfl, by decide⟩)))]; rfl) rfl (Nat.le_of_ble_eq_true rfl) (Nat.le_of_ble_eq_true rfl) (w_T_latenessOfPlan hB hC hR) ?_
    exact jx_iret d_T_count_98 rfl (pub_int hC (by rw [show (oCount S k).2 = sU S 3 0 0 by unfold oCount; (repeat' split) <;> first | rfl | (exfalso; omega)]; exact hR.s3 0) hF (by decide) (by rw [show (oCount S k).2 = sU S 3 0 0 by unfold oCount; (repeat' split) <;> first | rfl | (exfalso; omega)]; exact sU_same) (by unfold oCount; (try rw [free_sOf]); (repeat' split) <;> first | rfl | omega | (exfalso; omega) | (congr 1; omega)))
  refine jx_tableOut (tgt := 99) d_T_count_1 (by rw [iI_toInt (by omega)]; omega) (by decide) ?_
  refine jI_const d_T_count_99 ?_
  exact jx_iret d_T_count_100 rfl (pub_int hC (by rw [show (oCount S k).2 = sU S 3 0 0 by unfold oCount; (repeat' split) <;> first | rfl | (exfalso; omega)]; exact hR.s3 0) hF (by decide) (by rw [show (oCount S k).2 = sU S 3 0 0 by unfold oCount; (repeat' split) <;> first | rfl | (exfalso; omega)]; exact sU_same) (by unfold oCount; (try rw [free_sOf]); (repeat' split) <;> first | rfl | omega | (exfalso; omega) | (congr 1; omega)))
theorem w_T_exact {E : jx_E} {l : Launch} {d : Nat} {w : jx_W} {D S : mS} {G : Nat → Nat → Nat} {lo hi : Nat}  (hB : jx_B E) (hC : cR E D w G lo hi) (hR : rl S D)  (hW : 50 ≤ jx_c w ∧ 5000 ≤ jx_s w) : jx_G E l Y_T_exact (d + 0) (pubQ E G lo hi w exE (some (.int (iI (oExact S).1))) ((oExact S).2)) 0 (jx_ent [.ref (G 2 0)] 1) [] w := by
  show jx_G E l Y_T_exact (d + 0) _ 0 [some (.ref (G 2 0))] [] w
  have hN := hR.N
  have hF : cF lo hi 0 w w := cF.rf
  refine jx_aload_n d_T_exact_0 rfl rfl ?_
  refine cx_last d_T_exact_1 (f_T_150 hB) hC ?_
  exact jx_zret d_T_exact_4 rfl (jI_bool (by omega)) (pub_int hC (hR.s3 0) hF (by decide) (show sU S 3 0 0 3 0 = 0 from sU_same) (by show D 32 0 = S 21 0; omega))
theorem l_T_bound {E : jx_E} {l : Launch} {d : Nat} {w : jx_W} {D S : mS} {G : Nat → Nat → Nat} {lo hi : Nat}  (hB : jx_B E) (hC : cR E D w G lo hi) (hR : rl S D)  : ∀ (j : Nat) (x t : Int), x = sSum (fun t => if S 13 t = 0 then sLeast S t else 0) t → 0 ≤ t ∧ t ≤ S 1 0 → S 1 0 - t < j → jx_G E l Y_T_bound (d + 4) (jx_eq (.inr (some (.int (iI (sSum (fun t => if S 13 t = 0 then sLeast S t else 0) (S 1 0)))))) w) 4 [some (.ref (G 2 0)), some (.int (iI (x))), some (.int (iI (t)))] [] w := by
  have hN := hR.N
  intro j
  induction j with
  | zero => intro x t hx ht hz; exfalso; omega
  | succ j ih =>
    intro x t hx ht hz
    have hxr := sSum_rg (f := fun t => if S 13 t = 0 then sLeast S t else 0) (b := 100000) (t := t) (by decide) ht.1 (fun i hi => by have hh := sLeast_rg (S := S) (t := i) (q := S 0 0) hR.I (by omega) (by omega) (by omega) (Int.le_refl _); show 0 ≤ (if S 13 i = 0 then sLeast S i else 0) ∧ (if S 13 i = 0 then sLeast S i else 0) ≤ 100000; unfold sLeast; split <;> omega)
    rw [← hx] at hxr
    refine jx_iload_n d_T_bound_4 rfl rfl ?_
    refine jx_aload_n d_T_bound_5 rfl rfl ?_
    refine cx_ptr (c2 := 2) (x2 := 2) d_T_bound_6 (f_T_16 hB) hC (by decide) (by decide) rfl ?_
    refine cx_size 1 2 34 rfl hB d_T_bound_9 (v_T_41 hB) hC (by decide) rfl (Nat.le_of_ble_eq_true rfl) ?_
    refine jI_icmp_ge (tgt := 56) d_T_bound_12 (by decide) (by omega) (by omega) (fun hc1 => ?_) (fun hc1 => ?_)
    · refine jx_iload_n d_T_bound_56 rfl rfl ?_
      exact jx_iret d_T_bound_57 rfl ⟨jr_i (by (have e : t = S 1 0 := by omega); rw [hx, e]), rfl⟩
    · refine jx_aload_n d_T_bound_15 rfl rfl ?_
      refine cx_ptr (c2 := 2) (x2 := 2) d_T_bound_16 (f_T_16 hB) hC (by decide) (by decide) rfl ?_
      refine jx_iload_n d_T_bound_19 rfl rfl ?_
      refine cx_at1 hB d_T_bound_20 (v_T_166 hB) hC (by omega) (Nat.le_of_ble_eq_true rfl) ?_
      refine jx_cast d_T_bound_23 (h_T_98 hB) (h_cast3 hB) (by decide) (jx_c3 hB) (by rw [hC.kd (.inr (.inl ⟨rfl, by omega⟩))]; rfl) ?_
      refine cx_K 5 (f := 25) rfl d_T_bound_26 (f_T_170 hB) hC (by decide) (by omega) ?_
      have a2 : D 25 t = S 13 t := (hR.K (t := t) (by omega)).1.2.2.2.2.2.1
      have a3 : 0 ≤ D 25 t ∧ D 25 t ≤ 2 := (hR.Kr (t := t) (by omega)).2.2.2.2.2.1
      refine jI_if_ne (tgt := 50) d_T_bound_29 (by decide) (by omega) (fun hc4 => ?_) (fun hc4 => ?_)
      · refine jI_inc d_T_bound_50 rfl rfl ?_
        try dsimp only [List.set]
        refine jx_goto (tgt := 4) d_T_bound_53 (by decide) ?_
        exact ih (x) (t + 1) (by rw [sSum_s _ (by omega), ← hx]; first | (rw [if_pos (by omega)]; done) | (rw [if_neg (by omega)]; omega)) (by omega) (by omega)
      · refine jx_iload_n d_T_bound_32 rfl rfl ?_
        refine jx_aload_n d_T_bound_33 rfl rfl ?_
        refine jx_aload_n d_T_bound_34 rfl rfl ?_
        refine cx_ptr (c2 := 2) (x2 := 2) d_T_bound_35 (f_T_16 hB) hC (by decide) (by decide) rfl ?_
        refine jx_iload_n d_T_bound_38 rfl rfl ?_
        refine cx_at1 hB d_T_bound_39 (v_T_166 hB) hC (by omega) (Nat.le_of_ble_eq_true rfl) ?_
        refine jx_cast d_T_bound_42 (h_T_98 hB) (h_cast3 hB) (by decide) (jx_c3 hB) (by rw [hC.kd (.inr (.inl ⟨rfl, by omega⟩))]; rfl) ?_
        refine jx_callV_r (As := [.ref (G 1 (t).toNat)]) (v := some (.int (iI (sLeast S t)))) d_T_bound_45 (m_T_leastLatenessAlone hB) (v_T_173 hB) (by decide) (jx_c0 hB) (by rw [hC.kd (.inr (.inr (.inl ⟨rfl, by decide⟩)))]; rfl) rfl (Nat.le_of_ble_eq_true rfl) (Nat.le_of_ble_eq_true rfl) (w_T_leastLatenessAlone hB hC hR (t := t) (by omega)) ?_
        have q5 := sLeast_rg (S := S) (t := t) (q := S 0 0) hR.I (by omega) (by omega) (by omega) (Int.le_refl _)
        refine jI_add d_T_bound_48 ?_
        refine jx_istore_n d_T_bound_49 rfl (Nat.le_of_ble_eq_true rfl) rfl ?_
        try dsimp only [List.set]
        refine jI_inc d_T_bound_50 rfl rfl ?_
        try dsimp only [List.set]
        refine jx_goto (tgt := 4) d_T_bound_53 (by decide) ?_
        exact ih (x + (sLeast S t)) (t + 1) (by rw [sSum_s _ (by omega), ← hx]; first | (rw [if_pos (by omega)]; done) | (rw [if_neg (by omega)]; omega)) (by omega) (by omega)
theorem w_T_bound {E : jx_E} {l : Launch} {d : Nat} {w : jx_W} {D S : mS} {G : Nat → Nat → Nat} {lo hi : Nat} (hB : jx_B E) (hC : cR E D w G lo hi) (hR : rl S D) : jx_G E l Y_T_bound (d + 4) (jx_eq (.inr (some (.int (iI (oBound S).1)))) w) 0 (jx_ent [.ref (G 2 0)] 3) [] w := by
  show jx_G E l Y_T_bound (d + 4) _ 0 [some (.ref (G 2 0)), none, none] [] w
  have hN := hR.N
  refine jI_const d_T_bound_0 ?_
  refine jx_istore_n d_T_bound_1 rfl (Nat.le_of_ble_eq_true rfl) rfl ?_
  try dsimp only [List.set]
  refine jI_const d_T_bound_2 ?_
  refine jx_istore_n d_T_bound_3 rfl (Nat.le_of_ble_eq_true rfl) rfl ?_
  try dsimp only [List.set]
  exact l_T_bound hB hC hR 17 0 0 rfl (by omega) (by omega)
