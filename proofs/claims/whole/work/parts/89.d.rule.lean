/-! 89.d.rule: the plan by rule -/
/-- the rows of the persons below q are begun -/
abbrev rwA (S D1 : mS) (q : Int) (D : mS) : Prop := (∀ g, ¬ (11 ≤ g ∧ g ≤ 13) → D g = D1 g) ∧ ∀ p, 0 ≤ p ∧ p < q → D 11 p = sGr (D1 31 0) (sGr (D1 1 p) (D1 9 p)) ∧ D 12 p = D1 4 p ∧ D 13 p = sOf S p 1 + sOf S p 2
theorem rwA.rl {S D1 D : mS} {q : Int} (h : rwA S D1 q D) (hR : rl S D1) : rl S D := hR.cD (fun f hf => h.1 f (by omega))
theorem rwA_s {S D1 D : mS} {q v z s : Int} (h : rwA S D1 q D) (hv : v = sGr (D 31 0) (sGr (D 1 q) (D 9 q))) (hz : z = D 4 q) (hs : s = sOf S q 1 + sOf S q 2) : rwA S D1 (q + 1) (sU (sU (sU D 11 q v) 12 q z) 13 q s) := by
  refine ⟨fun g hg => ?_, fun x hx => ?_⟩
  · rw [sU_ne (by omega), sU_ne (by omega), sU_ne (by omega)]
    exact h.1 g hg
  · by_cases e : x = q
    · subst e
      rw [h.1 31 (by omega), h.1 1 (by omega), h.1 9 (by omega)] at hv
      rw [h.1 4 (by omega)] at hz
      refine ⟨?_, ?_, ?_⟩
      · rw [sU_f (by decide), sU_f (by decide), sU_same]; exact hv
      · rw [sU_f (by decide), sU_same]; exact hz
      · rw [sU_same]; exact hs
    · have hh := h.2 x (by omega)
      refine ⟨?_, ?_, ?_⟩
      · rw [sU_f (by decide), sU_f (by decide), sU_i e]; exact hh.1
      · rw [sU_f (by decide), sU_i e, sU_f (by decide)]; exact hh.2.1
      · rw [sU_i e, sU_f (by decide), sU_f (by decide)]; exact hh.2.2
theorem ruS_s {S : mS} {a : Int → Int} {i : Int} (h : 0 ≤ i) : ruS S a (i + 1) = oOne (ruS S a i) (a i) := aFor_s _ _ h
theorem l_T_ruleA {E : jx_E} {l : Launch} {d : Nat} {w0 : jx_W} {S D1 : mS} {G : Nat → Nat → Nat} {lo hi c : Nat} {Q : jx_R → jx_W → Prop} (hB : jx_B E) (hR1 : rl S D1) (K : ∀ (D : mS) (w : jx_W) (V : Option Value), cR E D w G lo hi → cF lo hi c w0 w → rwA S D1 (S 0 0) D → jx_G E l Y_T_planByRule (d + 8) Q 72 [some (.ref (G 2 0)), some (.int (iI (S 0 0))), V] [] w) : ∀ (j : Nat) (q : Int) (D : mS) (w : jx_W) (V : Option Value), cR E D w G lo hi → cF lo hi c w0 w → rwA S D1 q D → 0 ≤ q ∧ q ≤ S 0 0 → S 0 0 - q < j → jx_G E l Y_T_planByRule (d + 8) Q 6 [some (.ref (G 2 0)), some (.int (iI (q))), V] [] w := by
  intro j
  induction j with
  | zero => intro q D w V hC hF hA hq hj; exfalso; omega
  | succ j ih =>
    intro q D w V hC hF hA hq hj
    have hR := hA.rl hR1
    have hN := hR.N
    refine jx_iload_n d_T_planByRule_6 rfl rfl ?_
    refine jx_aload_n d_T_planByRule_7 rfl rfl ?_
    refine cx_ptr (c2 := 2) (x2 := 1) d_T_planByRule_8 (f_T_10 hB) hC (by decide) (by decide) rfl ?_
    refine cx_size 0 1 33 rfl hB d_T_planByRule_11 (v_T_41 hB) hC (by decide) rfl (Nat.le_of_ble_eq_true rfl) ?_
    refine jI_icmp_ge (tgt := 72) d_T_planByRule_14 (by decide) (by omega) (by omega) (fun hc1 => ?_) (fun hc1 => ?_)
    · (have e : q = S 0 0 := by omega); rw [e] at hA; rw [e]; exact K D _ _ hC hF hA
    · refine jx_aload_n d_T_planByRule_17 rfl rfl ?_
      refine cx_ptr (c2 := 2) (x2 := 1) d_T_planByRule_18 (f_T_10 hB) hC (by decide) (by decide) rfl ?_
      refine jx_iload_n d_T_planByRule_21 rfl rfl ?_
      refine cx_at0 hB d_T_planByRule_22 (v_T_166 hB) hC (by omega) (Nat.le_of_ble_eq_true rfl) ?_
      refine jx_cast d_T_planByRule_25 (h_T_49 hB) (h_cast2 hB) (by decide) (jx_c2 hB) (by rw [hC.kd (.inl ⟨rfl, by omega⟩)]; rfl) ?_
      refine jx_astore_n d_T_planByRule_28 rfl (Nat.le_of_ble_eq_true rfl) rfl ?_
      try dsimp only [List.set]
      refine jx_aload_n d_T_planByRule_29 rfl rfl ?_
      refine jx_aload_n d_T_planByRule_30 rfl rfl ?_
      refine jx_aload_n d_T_planByRule_31 rfl rfl ?_
      refine cx_now d_T_planByRule_32 (f_T_153 hB) hC ?_
      refine jx_callV_r (As := [.int (iI (D 31 0))]) (v := some (.int (iI (sGr (D 31 0) (sGr (D 1 q) (D 9 q)))))) d_T_planByRule_35 (m_P_freeFrom hB) (v_T_247 hB) (by decide) (jx_c2 hB) (by rw [hC.kd (.inl ⟨rfl, by omega⟩)]; rfl) rfl (Nat.le_of_ble_eq_true rfl) (Nat.le_of_ble_eq_true rfl) (w_P_freeFrom hB hC hR (p := q) (n := D 31 0) (by omega) (by omega)) ?_
      have a2 : 0 ≤ sGr (D 31 0) (sGr (D 1 q) (D 9 q)) ∧ sGr (D 31 0) (sGr (D 1 q) (D 9 q)) ≤ 110000 := by have hh := hR.Pr (p := q) (by omega); unfold sGr; (repeat' split) <;> omega
      refine cx_pP 11 d_T_planByRule_38 (f_T_265 hB) (t_2_11 hB) hC (by decide) (by omega) (fun w hC hF1 => ?_)
      have hF := hF.tr hF1 (Nat.le_refl _)
      obtain ⟨D3, hD3⟩ : ∃ zz, zz = sU D 11 q (sGr (D 31 0) (sGr (D 1 q) (D 9 q))) := ⟨_, rfl⟩
      rw [← hD3] at hC
      have e4 : D3 33 0 = D 33 0 := by rw [hD3]; rfl
      have e5 : D3 34 0 = D 34 0 := by rw [hD3]; rfl
      have e6 : D3 35 0 = D 35 0 := by rw [hD3]; rfl
      have e7 : D3 36 0 = D 36 0 := by rw [hD3]; rfl
      refine jx_aload_n d_T_planByRule_41 rfl rfl ?_
      refine jx_aload_n d_T_planByRule_42 rfl rfl ?_
      refine cx_P 4 d_T_planByRule_43 (f_T_200 hB) hC (by decide) (by omega) ?_
      rw [show D3 4 q = D 4 q by simp [hD3, sU, sUs]]
      have a8 : 0 ≤ D 4 q ∧ D 4 q ≤ 3 := (hR.Pr (p := q) (by omega)).2.2.2.1
      have a9 : D 4 q = S 9 q := (hR.P (p := q) (by omega)).1.2.2.2.2.1
      refine cx_pP 12 d_T_planByRule_46 (f_T_268 hB) (t_2_12 hB) hC (by decide) (by omega) (fun w hC hF1 => ?_)
      have hF := hF.tr hF1 (Nat.le_refl _)
      obtain ⟨D10, hD10⟩ : ∃ zz, zz = sU D3 12 q (D 4 q) := ⟨_, rfl⟩
      rw [← hD10] at hC
      have e11 : D10 33 0 = D3 33 0 := by rw [hD10]; rfl
      have e12 : D10 34 0 = D3 34 0 := by rw [hD10]; rfl
      have e13 : D10 35 0 = D3 35 0 := by rw [hD10]; rfl
      have e14 : D10 36 0 = D3 36 0 := by rw [hD10]; rfl
      have hR9 : rl S D10 := hR.cD (fun f hf => by rw [hD10, hD3, sU_ne (by omega), sU_ne (by omega)])
      refine jx_aload_n d_T_planByRule_49 rfl rfl ?_
      refine jx_aload_n d_T_planByRule_50 rfl rfl ?_
      refine jx_iload_n d_T_planByRule_51 rfl rfl ?_
      refine jI_const d_T_planByRule_52 ?_
      refine jx_callV_r (As := [.int (iI (q)), .int (iI (1))]) (v := some (.int (iI (sOf S q 1)))) d_T_planByRule_53 (m_T_tasksOf hB) (v_T_203 hB) (by decide) (jx_c0 hB) (by rw [hC.kd (.inr (.inr (.inl ⟨rfl, by decide⟩)))]; rfl) rfl (Nat.le_of_ble_eq_true rfl) (Nat.le_of_ble_eq_true rfl) (w_T_tasksOf hB hC hR9 (p := q) (s := 1) (by omega) (by omega)) ?_
      have q15 := sOf_rg (S := S) (p := q) (s := 1) (by omega)
      refine jx_aload_n d_T_planByRule_56 rfl rfl ?_
      refine jx_iload_n d_T_planByRule_57 rfl rfl ?_
      refine jI_const d_T_planByRule_58 ?_
      refine jx_callV_r (As := [.int (iI (q)), .int (iI (2))]) (v := some (.int (iI (sOf S q 2)))) d_T_planByRule_59 (m_T_tasksOf hB) (v_T_203 hB) (by decide) (jx_c0 hB) (by rw [hC.kd (.inr (.inr (.inl ⟨rfl, by decide⟩)))]; rfl) rfl (Nat.le_of_ble_eq_true rfl) (Nat.le_of_ble_eq_true rfl) (w_T_tasksOf hB hC hR9 (p := q) (s := 2) (by omega) (by omega)) ?_
      have q16 := sOf_rg (S := S) (p := q) (s := 2) (by omega)
      refine jI_add d_T_planByRule_62 ?_
      refine cx_pP 13 d_T_planByRule_63 (f_T_271 hB) (t_2_13 hB) hC (by decide) (by omega) (fun w hC hF1 => ?_)
      have hF := hF.tr hF1 (Nat.le_refl _)
      obtain ⟨D17, hD17⟩ : ∃ zz, zz = sU D10 13 q ((sOf S q 1) + (sOf S q 2)) := ⟨_, rfl⟩
      rw [← hD17] at hC
      have e18 : D17 33 0 = D10 33 0 := by rw [hD17]; rfl
      have e19 : D17 34 0 = D10 34 0 := by rw [hD17]; rfl
      have e20 : D17 35 0 = D10 35 0 := by rw [hD17]; rfl
      have e21 : D17 36 0 = D10 36 0 := by rw [hD17]; rfl
      refine jI_inc d_T_planByRule_66 rfl rfl ?_
      try dsimp only [List.set]
      refine jx_goto (tgt := 6) d_T_planByRule_69 (by decide) ?_
      exact ih (q + 1) _ _ _ hC hF (by rw [hD17, hD10, hD3]; exact rwA_s hA rfl rfl rfl) (by omega) (by omega)
theorem l_T_ruleB {E : jx_E} {l : Launch} {d : Nat} {w0 : jx_W} {S : mS} {G : Nat → Nat → Nat} {lo hi : Nat} {a : Int → Int} {m : Int} {V : Option Value} (hB : jx_B E) (hby : byDue S a m) (ho : ∀ u, 0 ≤ u ∧ u < S 1 0 → S 13 u = 0 → S 19 u = -1 ∧ S 20 u = -1) (hm : 0 ≤ m ∧ m ≤ 16) (hS1 : 0 ≤ S 1 0) : ∀ (j : Nat) (i : Int) (D : mS) (w : jx_W), cR E D w G lo hi → cF lo hi 16 w0 w → rl (ruS S a i) D → rwR (ruS S a i) D → D 35 0 = m → D 37 = a → 0 ≤ i ∧ i ≤ m → m - i < j → jx_G E l Y_T_planByRule (d + 8) (cpp E G lo hi w0 16 none (fun D2 => rl (oRule S) D2)) 74 [some (.ref (G 2 0)), some (.int (iI (i))), V] [] w := by
  intro j
  induction j with
  | zero => intro i D w hC hF hR hw h35 h37 hi hj; exfalso; omega
  | succ j ih =>
    intro i D w hC hF hR hw h35 h37 hi hj
    obtain ⟨T, hT⟩ : ∃ zz, zz = ruS S a i := ⟨_, rfl⟩
    rw [← hT] at hR hw
    have hN := hR.N
    have t1 : T 1 0 = S 1 0 := by rw [hT, ruS_ne (by decide) (by decide)]
    have t13 : T 13 = S 13 := by rw [hT, ruS_ne (by decide) (by decide)]
    have hai : D 37 i = a i := by rw [h37]
    refine jx_iload_n d_T_planByRule_74 rfl rfl ?_
    refine jx_aload_n d_T_planByRule_75 rfl rfl ?_
    refine cx_ptr (c2 := 2) (x2 := 3) d_T_planByRule_76 (f_T_19 hB) hC (by decide) (by decide) rfl ?_
    refine cx_size 2 3 35 rfl hB d_T_planByRule_79 (v_T_41 hB) hC (by decide) rfl (Nat.le_of_ble_eq_true rfl) ?_
    refine jI_icmp_ge (tgt := 106) d_T_planByRule_82 (by decide) (by omega) (by omega) (fun hc1 => ?_) (fun hc1 => ?_)
    · exact jx_vret d_T_planByRule_106 rfl ⟨rfl, _, hC, hF, by (have e : i = m := by omega); rw [rule_steps hS1 hby, ← e, ← hT]; exact hR⟩
    · have hx := hby.2 i (by omega)
      rw [← hai] at hx
      have hlook : ∀ g, T g (D 37 i) = S g (D 37 i) := fun g => by rw [hT, ruS_look (by omega) (fun y hy e => by (have hh := byDue_inj hby (i := y) (j := i) (by omega) (by omega) (by rw [e, hai])); omega)]
      have hx19 := ho _ hx.1 hx.2.1
      refine jx_aload_n d_T_planByRule_85 rfl rfl ?_
      refine jx_aload_n d_T_planByRule_86 rfl rfl ?_
      refine cx_ptr (c2 := 2) (x2 := 3) d_T_planByRule_87 (f_T_19 hB) hC (by decide) (by decide) rfl ?_
      refine jx_iload_n d_T_planByRule_90 rfl rfl ?_
      refine cx_at2 hB d_T_planByRule_91 (v_T_166 hB) hC (by omega) (Nat.le_of_ble_eq_true rfl) ?_
      refine jx_cast d_T_planByRule_94 (h_T_98 hB) (h_cast3 hB) (by decide) (jx_c3 hB) (by rw [hC.kd (.inr (.inl ⟨rfl, by omega⟩))]; rfl) ?_
      refine jc_callP (As := [.ref (G 1 (D 37 i).toNat)]) (v := none) d_T_planByRule_97 (m_T_addToBestRow hB) (v_T_274 hB) (by decide) (jx_c0 hB) (by rw [hC.kd (.inr (.inr (.inl ⟨rfl, by decide⟩)))]; rfl) rfl (Nat.le_of_ble_eq_true rfl) (Nat.le_of_ble_eq_true rfl) (jx_deep (w_T_addToBestRow (d := 0) hB hC hR hw (t := D 37 i) (by omega) (by rw [hlook]; exact hx.2.1) (by rw [hlook]; exact hx19.1) (by rw [hlook]; exact hx19.2)) (by omega)) (fun w D2 hC hF1 hPD2 => ?_)
      have hF := hF.tr hF1 (Nat.le_refl _)
      refine jI_inc d_T_planByRule_100 rfl rfl ?_
      try dsimp only [List.set]
      refine jx_goto (tgt := 74) d_T_planByRule_103 (by decide) ?_
      exact ih (i + 1) _ _ hC hF (by rw [ruS_s (by omega), ← hT, ← hai]; exact hPD2.1) (by rw [ruS_s (by omega), ← hT, ← hai]; exact hPD2.2.1) (by rw [hPD2.2.2.1]; exact h35) (by rw [hPD2.2.2.2]; exact h37) (by omega) (by omega)
theorem w_T_planByRule {E : jx_E} {l : Launch} {d : Nat} {w : jx_W} {S D : mS} {G : Nat → Nat → Nat} {lo hi mi : Nat} (hB : jx_B E) (hB2 : jx_B2 E mi) (hR : rl S D) (ho : ∀ u, 0 ≤ u ∧ u < S 1 0 → S 13 u = 0 → S 19 u = -1 ∧ S 20 u = -1) (hW : 50 ≤ jx_c w ∧ 5000 ≤ jx_s w) (hC : cR E D w G lo hi) : jx_G E l Y_T_planByRule (d + 8) (cpp E G lo hi w 16 none (fun D2 => rl (oRule S) D2)) 0 (jx_ent [.ref (G 2 0)] 3) [] w := by
  have hN := hR.N
  show jx_G E l Y_T_planByRule (d + 8) _ 0 [some (.ref (G 2 0)), none, none] [] w
  have hF : cF lo hi 0 w w := cF.rf
  refine jx_aload_n d_T_planByRule_0 rfl rfl ?_
  refine jc_callP (As := []) (v := none) d_T_planByRule_1 (m_T_sortOpenByDue hB) (v_T_262 hB) (by decide) (jx_c0 hB) (by rw [hC.kd (.inr (.inr (.inl ⟨rfl, by decide⟩)))]; rfl) rfl (Nat.le_of_ble_eq_true rfl) (Nat.le_of_ble_eq_true rfl) (w_T_sortOpenByDue hB hB2 hR hW hC) (fun w D1 hC hF1 hPD1 => ?_)
  have hF := hF.tr hF1 (Nat.le_refl _)
  have hRD1 := hPD1.1.rl hR
  have hl := hPD1.2
  have hcr := sCnt_rg (opn S) (t := S 1 0) (by omega)
  have hl1 := hl.1
  refine jI_const d_T_planByRule_4 ?_
  refine jx_istore_n d_T_planByRule_5 rfl (Nat.le_of_ble_eq_true rfl) rfl ?_
  try dsimp only [List.set]
  refine l_T_ruleA hB hRD1 (fun D9 w V hC hF hA => ?_) 5 0 _ _ _ hC hF ⟨fun g _ => rfl, fun x hx => by omega⟩ (by omega) (by omega)
  have hR9 := hA.rl hRD1
  have hw9 : rwR S D9 := rw_init hR9 (fun u hu h => (ho u hu h).1) (fun x hx => by rw [hA.1 31 (by omega), hA.1 1 (by omega), hA.1 9 (by omega), hA.1 4 (by omega)]; exact hA.2 x hx)
  refine jI_const d_T_planByRule_72 ?_
  refine jx_istore_n d_T_planByRule_73 rfl (Nat.le_of_ble_eq_true rfl) rfl ?_
  try dsimp only [List.set]
  exact l_T_ruleB hB (lst_due hl) ho (by omega) (by omega) 18 0 _ _ hC hF hR9 hw9 (by rw [hA.1 35 (by omega)]) (by rw [hA.1 37 (by omega)]) (by omega) (by omega)
