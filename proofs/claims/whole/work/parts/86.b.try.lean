/-! 86.b.try: trying the orders, prefix by prefix -/
theorem try_ts {n set i v : Int} {tr ts : Int → Int} (hs : 0 ≤ set) (hi : 0 ≤ i) (hv : -1 ≤ v ∧ v ≤ 100000) (h : ∀ k, 0 ≤ k ∧ k < n → sBit set k = 1 → tr k = ts k ∧ (-1 ≤ ts k ∧ ts k ≤ 100000)) : ∀ k, 0 ≤ k ∧ k < n → sBit (sSet set i) k = 1 → fU tr i v k = fU ts i v k ∧ (-1 ≤ fU ts i v k ∧ fU ts i v k ≤ 100000) := by
  intro k hk hb
  unfold fU
  by_cases e : k = i
  · rw [if_pos e, if_pos e]
    exact ⟨rfl, hv⟩
  · rw [if_neg e, if_neg e]
    rw [sBit_set hs hi hk.1, if_neg e] at hb
    exact h k hk hb
theorem bit_in {set i k : Int} (hs : 0 ≤ set) (hi : 0 ≤ i) (hk : 0 ≤ k) (hb : sBit set k = 1) : sBit (sSet set i) k = 1 := by
  rw [sBit_set hs hi hk]
  split
  · rfl
  · exact hb
theorem w_X_tryOrders {E : jx_E} {l : Launch} {S : mS} {G : Nat → Nat → Nat} {lo hi : Nat} {p : Int} (hB : jx_B E) (hp : 0 ≤ p ∧ p < S 0 0) (h5 : 0 ≤ S 23 0 ∧ S 23 0 ≤ 5) : ∀ (f d : Nat) (set r z late dp : Int) (ts : Int → Int) (X : Int → cB) (D : mS) (w : jx_W), cR E D w G lo hi → rl S D → fewR S D → (f : Int) = S 23 0 - dp → 0 ≤ dp → D 11 p = r → D 12 p = z → (0 ≤ r ∧ r ≤ 110000) → (0 ≤ z ∧ z ≤ 3) → (0 ≤ set ∧ set < 2 ^ (S 23 0).toNat) → (0 ≤ late ∧ late ≤ 105000 * dp) → (∀ k, 0 ≤ k ∧ k < S 23 0 → sBit set k = 1 → D 42 k = ts k ∧ (-1 ≤ ts k ∧ ts k ≤ 100000)) → tabR D (S 23 0) p X → jx_G E l Y_X_tryOrders (d + f + 4) (cpp E G lo hi w 0 none (fun D2 => tabR D2 (S 23 0) p (dfs S p (S 23 0) f set r z late ts X) ∧ (∀ k, 0 ≤ k ∧ k < S 23 0 → sBit set k = 1 → D2 42 k = D 42 k) ∧ frT D p D2)) 0 (jx_ent [.ref (G 2 5), .ref (G 0 (p).toNat), .ref (G 2 4), .int (iI (set)), .int (iI (late)), .int (iI (dp))] 11) [] w := by
  have hp32 := pow_rg h5
  intro f
  induction f with
  | zero =>
    intro d set r z late dp ts X D w hC hR hn hf hdp h11 h12 hr hz hset hlate hts htab
    show jx_G E l Y_X_tryOrders (d + 4) _ 0 [some (.ref (G 2 5)), some (.ref (G 0 (p).toNat)), some (.ref (G 2 4)), some (.int (iI (set))), some (.int (iI (late))), some (.int (iI (dp))), none, none, none, none, none] [] w
    have hN := hR.N
    have hF : cF lo hi 0 w w := cF.rf
    refine jx_aload_n d_X_tryOrders_0 rfl rfl ?_
    refine jx_aload_n d_X_tryOrders_1 rfl rfl ?_
    refine cx_P 0 d_X_tryOrders_2 (f_X_99 hB) hC (by decide) (by omega) ?_
    have a1 : D 0 p = p := (hR.P (p := p) (by omega)).1.1
    rw [(hR.P (p := p) hp).1.1]
    refine jx_iload_n d_X_tryOrders_5 rfl rfl ?_
    refine jx_iload d_X_tryOrders_6 rfl ?_
    refine jc_callP (As := [.int (iI (p)), .int (iI (set)), .int (iI (late))]) (v := none) d_X_tryOrders_8 (m_X_keepIfBetter hB) (v_X_102 hB) (by decide) (jx_c1 hB) (by rw [hC.kd (.inr (.inr (.inl ⟨rfl, by decide⟩)))]; rfl) rfl (Nat.le_of_ble_eq_true rfl) (Nat.le_of_ble_eq_true rfl) (w_X_keepIfBetter hB hC hR hn (p := p) (set := set) (late := late) (ts := ts) (b := X set) (by omega) (by omega) (by omega) (htab set hset) hts) (fun w D2 hC hF1 hPD2 => ?_)
    have hF := hF.tr hF1 (Nat.le_refl _)
    have hkD2 : tabR D2 (S 23 0) p (kp (S 23 0) set late ts X) := tab_keep h5 htab hPD2.1 hPD2.2
    have hfrD2 : frT D p D2 := fr_keep (by omega) hPD2.2
    have hRD2 := hfrD2.rl hR
    have hnD2 := hfrD2.few hn
    have hND2 := hRD2.N
    refine jx_iload d_X_tryOrders_11 rfl ?_
    refine jx_aload_n d_X_tryOrders_13 rfl rfl ?_
    refine cx_ptr (c2 := 2) (x2 := 7) d_X_tryOrders_14 (f_X_12 hB) hC (by decide) (by decide) rfl ?_
    refine cx_size 3 7 36 rfl hB d_X_tryOrders_17 (v_X_48 hB) hC (by decide) rfl (Nat.le_of_ble_eq_true rfl) ?_
    refine jI_icmp_lt (tgt := 24) d_X_tryOrders_20 (by decide) (by omega) (by omega) (fun hc3 => ?_) (fun hc3 => ?_)
    · exfalso; omega
    · exact jx_vret d_X_tryOrders_23 rfl ⟨rfl, D2, hC, hF, hkD2, fun k _ _ => hPD2.2 42 k (by omega) (by omega), hfrD2⟩
  | succ f IH =>
    intro d set r z late dp ts X D w hC hR hn hf hdp h11 h12 hr hz hset hlate hts htab
    show jx_G E l Y_X_tryOrders (d + f + 4 + 1) _ 0 [some (.ref (G 2 5)), some (.ref (G 0 (p).toNat)), some (.ref (G 2 4)), some (.int (iI (set))), some (.int (iI (late))), some (.int (iI (dp))), none, none, none, none, none] [] w
    have hN := hR.N
    have hF : cF lo hi 0 w w := cF.rf
    have key : ∀ (j : Nat) (i : Int) (D2 : mS) (w2 : jx_W) (X2 : Int → cB) (V U : Option Value), cR E D2 w2 G lo hi → frT D p D2 → (∀ k, 0 ≤ k ∧ k < S 23 0 → sBit set k = 1 → D2 42 k = D 42 k) → cF lo hi 0 w w2 → tabR D2 (S 23 0) p X2 → X2 = aFor (gDf S p (S 23 0) f set r z late ts) (kp (S 23 0) set late ts X) i → 0 ≤ i ∧ i ≤ S 23 0 → S 23 0 - i < j → jx_G E l Y_X_tryOrders (d + f + 4 + 1) (cpp E G lo hi w 0 none (fun D2 => tabR D2 (S 23 0) p (dfs S p (S 23 0) (f + 1) set r z late ts X) ∧ (∀ k, 0 ≤ k ∧ k < S 23 0 → sBit set k = 1 → D2 42 k = D 42 k) ∧ frT D p D2)) 39 [some (.ref (G 2 5)), some (.ref (G 0 (p).toNat)), some (.ref (G 2 4)), some (.int (iI (set))), some (.int (iI (late))), some (.int (iI (dp))), some (.int (iI (r))), some (.int (iI (z))), some (.int (iI (i))), V, U] [] w2 := by
      intro j
      induction j with
      | zero => intro i D2 w2 X2 V U hC hfr h42 hF htab2 hX2 hi2 hj; exfalso; omega
      | succ j ihj =>
        intro i D2 w2 X2 V U hC hfr h42 hF htab2 hX2 hi2 hj
        have hRD2 := hfr.rl hR
        have hn2 := hfr.few hn
        have hN2 := hRD2.N
        refine jx_iload d_X_tryOrders_39 rfl ?_
        refine jx_aload_n d_X_tryOrders_41 rfl rfl ?_
        refine cx_ptr (c2 := 2) (x2 := 7) d_X_tryOrders_42 (f_X_12 hB) hC (by decide) (by decide) rfl ?_
        refine cx_size 3 7 36 rfl hB d_X_tryOrders_45 (v_X_48 hB) hC (by decide) rfl (Nat.le_of_ble_eq_true rfl) ?_
        refine jI_icmp_ge (tgt := 171) d_X_tryOrders_48 (by decide) (by omega) (by omega) (fun hc1 => ?_) (fun hc1 => ?_)
        · exact jx_vret d_X_tryOrders_171 rfl ⟨rfl, D2, hC, hF, by (have e : i = S 23 0 := by omega); rw [e] at hX2; rw [dfs_s, ← hX2]; exact htab2, h42, hfr⟩
        · refine jx_aload_n d_X_tryOrders_51 rfl rfl ?_
          refine cx_ptr (c2 := 2) (x2 := 7) d_X_tryOrders_52 (f_X_12 hB) hC (by decide) (by decide) rfl ?_
          refine jx_iload d_X_tryOrders_55 rfl ?_
          refine cx_at3 hB d_X_tryOrders_57 (v_X_52 hB) hC (by omega) (Nat.le_of_ble_eq_true rfl) ?_
          have h38 := hn2.2.2.2 i (by omega)
          rw [h38.1]
          refine jx_cast d_X_tryOrders_60 (h_X_90 hB) (h_cast3 hB) (by decide) (jx_c3 hB) (by rw [hC.kd (.inr (.inl ⟨rfl, by omega⟩))]; rfl) ?_
          refine jx_astore d_X_tryOrders_63 (Nat.le_of_ble_eq_true rfl) rfl ?_
          try dsimp only [List.set]
          refine jx_iload_n d_X_tryOrders_65 rfl rfl ?_
          refine jx_iload d_X_tryOrders_66 rfl ?_
          refine jI_bit d_X_tryOrders_68 d_X_tryOrders_69 d_X_tryOrders_70 ⟨by omega, by omega⟩ ⟨by omega, by omega⟩ ?_
          have b2 := sBit_01 set i
          refine jI_const d_X_tryOrders_71 ?_
          refine jI_icmp_eq (tgt := 165) d_X_tryOrders_72 (by decide) (by omega) (by omega) (fun hc3 => ?_) (fun hc3 => ?_)
          · refine jI_inc d_X_tryOrders_165 rfl rfl ?_
            try dsimp only [List.set]
            refine jx_goto (tgt := 39) d_X_tryOrders_168 (by decide) ?_
            exact ihj (i + 1) D2 _ X2 _ _ hC hfr h42 hF htab2 (by rw [aFor_s _ _ (by omega), ← hX2, gDf_no (by omega)]) (by omega) (by omega)
          · refine jx_aload_n d_X_tryOrders_75 rfl rfl ?_
            refine jx_aload d_X_tryOrders_76 rfl ?_
            refine jx_callV_r (As := [.ref (G 1 (S 22 i).toNat)]) (v := some (.int (iI (sMay S p (S 22 i))))) d_X_tryOrders_78 (m_P_may hB) (v_X_106 hB) (by decide) (jx_c2 hB) (by rw [hC.kd (.inl ⟨rfl, by omega⟩)]; rfl) rfl (Nat.le_of_ble_eq_true rfl) (Nat.le_of_ble_eq_true rfl) (w_P_may hB hC hRD2 (p := p) (t := S 22 i) (by omega) (by omega)) ?_
            have q4 := sMay_01 S p (S 22 i)
            have q5 := may_here hRD2 (p := p) (t := S 22 i) (by omega)
            refine jI_if_ne (tgt := 87) d_X_tryOrders_81 (by decide) (by omega) (fun hc6 => ?_) (fun hc6 => ?_)
            · refine jx_aload_n d_X_tryOrders_87 rfl rfl ?_
              refine jx_aload d_X_tryOrders_88 rfl ?_
              refine jx_iload d_X_tryOrders_90 rfl ?_
              refine jx_iload d_X_tryOrders_92 rfl ?_
              refine jx_aload_n d_X_tryOrders_94 rfl rfl ?_
              refine jx_callV_r (As := [.ref (G 1 (S 22 i).toNat), .int (iI (r)), .int (iI (z)), .ref (G 2 4)]) (v := some (.int (iI (sStart S p (S 22 i) r z)))) d_X_tryOrders_95 (m_P_startOf hB) (v_X_110 hB) (by decide) (jx_c2 hB) (by rw [hC.kd (.inl ⟨rfl, by omega⟩)]; rfl) rfl (Nat.le_of_ble_eq_true rfl) (Nat.le_of_ble_eq_true rfl) (w_P_startOf hB hC hRD2 (p := p) (t := S 22 i) (r := r) (z := z) (by omega) (by omega) (by omega) (by omega)) ?_
              have q7 := sStart_rg (S := S) (p := p) (t := S 22 i) (r := r) (z := z) hRD2.I (by omega) (by omega) (by omega) (by omega)
              refine jx_istore d_X_tryOrders_98 (Nat.le_of_ble_eq_true rfl) rfl ?_
              try dsimp only [List.set]
              refine jx_iload d_X_tryOrders_100 rfl ?_
              refine jI_const d_X_tryOrders_102 ?_
              refine jI_icmp_ne (tgt := 109) d_X_tryOrders_103 (by decide) (by omega) (by omega) (fun hc8 => ?_) (fun hc8 => ?_)
              · refine jx_aload_n d_X_tryOrders_109 rfl rfl ?_
                refine cx_ptr (c2 := 2) (x2 := 10) d_X_tryOrders_110 (f_X_26 hB) hC (by decide) (by decide) rfl ?_
                refine jx_iload d_X_tryOrders_113 rfl ?_
                refine jx_iload d_X_tryOrders_115 rfl ?_
                refine cx_st42 d_X_tryOrders_117 hC (by omega) (fun w hC hF1 => ?_)
                have hF := hF.tr hF1 (Nat.le_refl _)
                obtain ⟨D9, hD9⟩ : ∃ zz, zz = sU D2 42 i (sStart S p (S 22 i) r z) := ⟨_, rfl⟩
                rw [← hD9] at hC
                have e10 : D9 33 0 = D2 33 0 := by rw [hD9]; rfl
                have e11 : D9 34 0 = D2 34 0 := by rw [hD9]; rfl
                have e12 : D9 35 0 = D2 35 0 := by rw [hD9]; rfl
                have e13 : D9 36 0 = D2 36 0 := by rw [hD9]; rfl
                refine jx_aload_n d_X_tryOrders_118 rfl rfl ?_
                refine jx_iload d_X_tryOrders_119 rfl ?_
                refine jx_aload d_X_tryOrders_121 rfl ?_
                refine cx_K 2 (f := 22) rfl d_X_tryOrders_123 (f_X_114 hB) hC (by decide) (by omega) ?_
                rw [show D9 22 (S 22 i) = D2 22 (S 22 i) by simp [hD9, sU, sUs]]
                have a14 : D2 22 (S 22 i) = S 15 (S 22 i) := (hRD2.K (t := S 22 i) (by omega)).1.2.2.1
                have a15 : 1 ≤ D2 22 (S 22 i) ∧ D2 22 (S 22 i) ≤ 5000 := (hRD2.Kr (t := S 22 i) (by omega)).2.2.1
                refine jI_add d_X_tryOrders_126 ?_
                refine cx_pP 11 d_X_tryOrders_127 (f_X_67 hB) (t_2_11 hB) hC (by decide) (by omega) (fun w hC hF1 => ?_)
                have hF := hF.tr hF1 (Nat.le_refl _)
                obtain ⟨D16, hD16⟩ : ∃ zz, zz = sU D9 11 p ((sStart S p (S 22 i) r z) + (D2 22 (S 22 i))) := ⟨_, rfl⟩
                rw [← hD16] at hC
                have e17 : D16 33 0 = D9 33 0 := by rw [hD16]; rfl
                have e18 : D16 34 0 = D9 34 0 := by rw [hD16]; rfl
                have e19 : D16 35 0 = D9 35 0 := by rw [hD16]; rfl
                have e20 : D16 36 0 = D9 36 0 := by rw [hD16]; rfl
                refine jx_aload_n d_X_tryOrders_130 rfl rfl ?_
                refine jx_aload d_X_tryOrders_131 rfl ?_
                refine cx_K 4 (f := 24) rfl d_X_tryOrders_133 (f_X_117 hB) hC (by decide) (by omega) ?_
                rw [show D16 24 (S 22 i) = D2 24 (S 22 i) by simp [hD16, hD9, sU, sUs]]
                have a21 : D2 24 (S 22 i) = S 17 (S 22 i) := (hRD2.K (t := S 22 i) (by omega)).1.2.2.2.2.1
                have a22 : 0 ≤ D2 24 (S 22 i) ∧ D2 24 (S 22 i) ≤ 3 := (hRD2.Kr (t := S 22 i) (by omega)).2.2.2.2.1
                refine cx_pP 12 d_X_tryOrders_136 (f_X_73 hB) (t_2_12 hB) hC (by decide) (by omega) (fun w hC hF1 => ?_)
                have hF := hF.tr hF1 (Nat.le_refl _)
                obtain ⟨D23, hD23⟩ : ∃ zz, zz = sU D16 12 p (D2 24 (S 22 i)) := ⟨_, rfl⟩
                rw [← hD23] at hC
                have e24 : D23 33 0 = D16 33 0 := by rw [hD23]; rfl
                have e25 : D23 34 0 = D16 34 0 := by rw [hD23]; rfl
                have e26 : D23 35 0 = D16 35 0 := by rw [hD23]; rfl
                have e27 : D23 36 0 = D16 36 0 := by rw [hD23]; rfl
                have hfr5 : frT D2 p D23 := by rw [hD23, hD16, hD9]; exact ((frT.rf.u (.inl rfl)).u (.inr ⟨.inl rfl, rfl⟩)).u (.inr ⟨.inr rfl, rfl⟩)
                have hR5 := hfr5.rl hRD2
                have hn5 := hfr5.few hn2
                refine jx_aload_n d_X_tryOrders_139 rfl rfl ?_
                refine jx_aload_n d_X_tryOrders_140 rfl rfl ?_
                refine jx_aload_n d_X_tryOrders_141 rfl rfl ?_
                refine jx_iload_n d_X_tryOrders_142 rfl rfl ?_
                refine jI_const d_X_tryOrders_143 ?_
                refine jx_iload d_X_tryOrders_144 rfl ?_
                refine jI_setbit d_X_tryOrders_146 d_X_tryOrders_147 ⟨by omega, by omega⟩ ⟨by omega, by omega⟩ ?_
                have u28 := sSet_rg (n := 5) (x := set) (k := i) ⟨by omega, by omega⟩ ⟨by omega, by omega⟩
                refine jx_iload d_X_tryOrders_148 rfl ?_
                refine jx_aload d_X_tryOrders_150 rfl ?_
                refine jx_iload d_X_tryOrders_152 rfl ?_
                refine jx_callV_r (As := [.int (iI (sStart S p (S 22 i) r z))]) (v := some (.int (iI (sLate S (S 22 i) (sStart S p (S 22 i) r z))))) d_X_tryOrders_154 (m_K_latenessFrom hB) (v_X_118 hB) (by decide) (jx_c3 hB) (by rw [hC.kd (.inr (.inl ⟨rfl, by omega⟩))]; rfl) rfl (Nat.le_of_ble_eq_true rfl) (Nat.le_of_ble_eq_true rfl) (w_K_latenessFrom hB hC hR5 (t := S 22 i) (b := sStart S p (S 22 i) r z) (by omega) (by omega)) ?_
                have q29 := sLate_rg (S := S) (t := S 22 i) (s := sStart S p (S 22 i) r z) hR5.I (by omega) (by omega)
                refine jI_add d_X_tryOrders_157 ?_
                refine jx_iload d_X_tryOrders_158 rfl ?_
                refine jI_const d_X_tryOrders_160 ?_
                refine jI_add d_X_tryOrders_161 ?_
                have e42 : ∀ k, D23 42 k = fU (D2 42) i (sStart S p (S 22 i) r z) k := by intro k; rw [hD23, hD16, hD9]; unfold fU sU; simp only [true_and, show ¬ (42 : Nat) = 12 by decide, show ¬ (42 : Nat) = 11 by decide, false_and, if_false]
                have e11 : D23 11 p = sStart S p (S 22 i) r z + S 15 (S 22 i) := by rw [hD23, hD16, hD9, sU_f (by decide), sU_same]; omega
                have e12 : D23 12 p = S 17 (S 22 i) := by rw [hD23, hD16, hD9, sU_same]; omega
                have ht5 := try_ts (n := S 23 0) (set := set) (i := i) (v := sStart S p (S 22 i) r z) (tr := D2 42) (ts := ts) hset.1 (by omega) (by omega) (fun k hk hb => by rw [h42 k hk hb]; exact hts k hk hb)
                have hb5 : tabR D23 (S 23 0) p X2 := tab_c htab2 (by rw [hD23, hD16, hD9]; rfl) (by rw [hD23, hD16, hD9]; rfl)
                have hsi := set_in h5.1 hset (i := i) (by omega)
                refine jc_callP (As := [.ref (G 0 (p).toNat), .ref (G 2 4), .int (iI (sSet set i)), .int (iI (late + (sLate S (S 22 i) (sStart S p (S 22 i) r z)))), .int (iI (dp + 1))]) (v := none) d_X_tryOrders_162 (m_X_tryOrders hB) (v_X_76 hB) (by decide) (jx_c1 hB) (by rw [hC.kd (.inr (.inr (.inl ⟨rfl, by decide⟩)))]; rfl) rfl (Nat.le_of_ble_eq_true rfl) (Nat.le_of_ble_eq_true rfl) (IH d (sSet set i) (sStart S p (S 22 i) r z + S 15 (S 22 i)) (S 17 (S 22 i)) (late + sLate S (S 22 i) (sStart S p (S 22 i) r z)) (dp + 1) (fU ts i (sStart S p (S 22 i) r z)) X2 D23 _ hC hR5 hn5 (by omega) (by omega) e11 e12 (by omega) (by omega) hsi (by omega) (fun k hk hb => by rw [e42]; exact ht5 k hk hb) hb5) (fun w D30 hC hF1 hPD30 => ?_)
                have hF := hF.tr hF1 (Nat.le_refl _)
                refine jI_inc d_X_tryOrders_165 rfl rfl ?_
                try dsimp only [List.set]
                refine jx_goto (tgt := 39) d_X_tryOrders_168 (by decide) ?_
                exact ihj (i + 1) D30 _ (gDf S p (S 23 0) f set r z late ts X2 i) _ _ hC (hfr.tr (hfr5.tr hPD30.2.2)) (fun k hk hb => by rw [hPD30.2.1 k hk (bit_in hset.1 (by omega) hk.1 hb), e42]; unfold fU; (have hne : k ≠ i := fun z => by rw [z] at hb; omega); rw [if_neg hne]; exact h42 k hk hb) hF (by rw [gDf_yes ⟨by omega, by omega, by omega⟩]; exact hPD30.1) (by rw [aFor_s _ _ (by omega), ← hX2]) (by omega) (by omega)
              · refine jx_goto (tgt := 165) d_X_tryOrders_106 (by decide) ?_
                refine jI_inc d_X_tryOrders_165 rfl rfl ?_
                try dsimp only [List.set]
                refine jx_goto (tgt := 39) d_X_tryOrders_168 (by decide) ?_
                exact ihj (i + 1) D2 _ X2 _ _ hC hfr h42 hF htab2 (by rw [aFor_s _ _ (by omega), ← hX2, gDf_no (by omega)]) (by omega) (by omega)
            · refine jx_goto (tgt := 165) d_X_tryOrders_84 (by decide) ?_
              refine jI_inc d_X_tryOrders_165 rfl rfl ?_
              try dsimp only [List.set]
              refine jx_goto (tgt := 39) d_X_tryOrders_168 (by decide) ?_
              exact ihj (i + 1) D2 _ X2 _ _ hC hfr h42 hF htab2 (by rw [aFor_s _ _ (by omega), ← hX2, gDf_no (by omega)]) (by omega) (by omega)
    refine jx_aload_n d_X_tryOrders_0 rfl rfl ?_
    refine jx_aload_n d_X_tryOrders_1 rfl rfl ?_
    refine cx_P 0 d_X_tryOrders_2 (f_X_99 hB) hC (by decide) (by omega) ?_
    have a1 : D 0 p = p := (hR.P (p := p) (by omega)).1.1
    rw [(hR.P (p := p) hp).1.1]
    refine jx_iload_n d_X_tryOrders_5 rfl rfl ?_
    refine jx_iload d_X_tryOrders_6 rfl ?_
    refine jc_callP (As := [.int (iI (p)), .int (iI (set)), .int (iI (late))]) (v := none) d_X_tryOrders_8 (m_X_keepIfBetter hB) (v_X_102 hB) (by decide) (jx_c1 hB) (by rw [hC.kd (.inr (.inr (.inl ⟨rfl, by decide⟩)))]; rfl) rfl (Nat.le_of_ble_eq_true rfl) (Nat.le_of_ble_eq_true rfl) (w_X_keepIfBetter hB hC hR hn (p := p) (set := set) (late := late) (ts := ts) (b := X set) (by omega) (by omega) (by omega) (htab set hset) hts) (fun w D2 hC hF1 hPD2 => ?_)
    have hF := hF.tr hF1 (Nat.le_refl _)
    have hkD2 : tabR D2 (S 23 0) p (kp (S 23 0) set late ts X) := tab_keep h5 htab hPD2.1 hPD2.2
    have hfrD2 : frT D p D2 := fr_keep (by omega) hPD2.2
    have hRD2 := hfrD2.rl hR
    have hnD2 := hfrD2.few hn
    have hND2 := hRD2.N
    refine jx_iload d_X_tryOrders_11 rfl ?_
    refine jx_aload_n d_X_tryOrders_13 rfl rfl ?_
    refine cx_ptr (c2 := 2) (x2 := 7) d_X_tryOrders_14 (f_X_12 hB) hC (by decide) (by decide) rfl ?_
    refine cx_size 3 7 36 rfl hB d_X_tryOrders_17 (v_X_48 hB) hC (by decide) rfl (Nat.le_of_ble_eq_true rfl) ?_
    refine jI_icmp_lt (tgt := 24) d_X_tryOrders_20 (by decide) (by omega) (by omega) (fun hc3 => ?_) (fun hc3 => ?_)
    · refine jx_aload_n d_X_tryOrders_24 rfl rfl ?_
      refine cx_P 11 d_X_tryOrders_25 (f_X_67 hB) hC (by decide) (by omega) ?_
      rw [show D2 11 p = r by rw [hPD2.2 11 p (by omega) (by omega)]; exact h11]
      refine jx_istore d_X_tryOrders_28 (Nat.le_of_ble_eq_true rfl) rfl ?_
      try dsimp only [List.set]
      refine jx_aload_n d_X_tryOrders_30 rfl rfl ?_
      refine cx_P 12 d_X_tryOrders_31 (f_X_73 hB) hC (by decide) (by omega) ?_
      rw [show D2 12 p = z by rw [hPD2.2 12 p (by omega) (by omega)]; exact h12]
      refine jx_istore d_X_tryOrders_34 (Nat.le_of_ble_eq_true rfl) rfl ?_
      try dsimp only [List.set]
      refine jI_const d_X_tryOrders_36 ?_
      refine jx_istore d_X_tryOrders_37 (Nat.le_of_ble_eq_true rfl) rfl ?_
      try dsimp only [List.set]
      exact key 6 0 D2 _ _ _ _ hC hfrD2 (fun k _ _ => hPD2.2 42 k (by omega) (by omega)) hF hkD2 rfl (by omega) (by omega)
    · exfalso; omega
