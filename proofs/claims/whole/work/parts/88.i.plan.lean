/-! 88.i.plan: the exact plan -/
abbrev cnR (D0 : mS) (q k : Int) (D : mS) : Prop := (∀ s, 0 ≤ s ∧ s < k → D 40 (32 * q + s) = 1000000000) ∧ frT D0 q D
theorem cnR_s {D0 D : mS} {q k : Int} (h : cnR D0 q k D) (hk : 0 ≤ k ∧ k < 32) : cnR D0 q (k + 1) (sU D 40 (32 * q + k) 1000000000) := by
  refine ⟨fun s hs => ?_, fun g x a b c e => ?_⟩
  · by_cases z : s = k
    · rw [z, sU_same]
    · rw [sU_i (by omega)]
      exact h.1 s (by omega)
  · have : sU D 40 (32 * q + k) 1000000000 g x = D g x := if_neg (fun z => c ⟨z.1, by omega, by omega⟩)
    rw [this]
    exact h.2 g x a b c e
theorem l_X_planI {E : jx_E} {l : Launch} {d : Nat} {w0 : jx_W} {T : mS} {G : Nat → Nat → Nat} {lo hi : Nat} {Q : jx_R → jx_W → Prop} {q nw : Int} {D0 : mS} {c : Nat} (hB : jx_B E) (hR0 : rl T D0) (hn0 : fewR T D0) (hq : 0 ≤ q ∧ q < T 0 0) (K : ∀ (D : mS) (w : jx_W), cR E D w G lo hi → cF lo hi c w0 w → cnR D0 q (2 ^ (T 23 0).toNat) D → jx_G E l Y_X_plan (d + 10) Q 58 [some (.ref (G 2 5)), some (.ref (G 2 1)), some (.ref (G 2 2)), some (.ref (G 2 4)), some (.int (iI (nw))), some (.int (iI (q))), some (.ref (G 0 (q).toNat)), some (.int (iI (2 ^ (T 23 0).toNat)))] [] w) : ∀ (j : Nat) (k : Int) (D : mS) (w : jx_W), cR E D w G lo hi → cF lo hi c w0 w → cnR D0 q k D → 0 ≤ k ∧ k ≤ 2 ^ (T 23 0).toNat → 2 ^ (T 23 0).toNat - k < j → jx_G E l Y_X_plan (d + 10) Q 31 [some (.ref (G 2 5)), some (.ref (G 2 1)), some (.ref (G 2 2)), some (.ref (G 2 4)), some (.int (iI (nw))), some (.int (iI (q))), some (.ref (G 0 (q).toNat)), some (.int (iI (k)))] [] w := by
  have hp32 := pow_rg hn0.2.1
  have h4 := hR0.2.1.1
  intro j
  induction j with
  | zero => intro k D w hC hF hk hk2 hj; exfalso; omega
  | succ j ih =>
    intro k D w hC hF hk hk2 hj
    have e46 : D 46 0 = 2 ^ (T 23 0).toNat := by rw [hk.2.at 0 (by decide)]; exact hn0.2.2.1
    refine jx_iload d_X_plan_31 rfl ?_
    refine jx_aload_n d_X_plan_33 rfl rfl ?_
    refine cx_sets d_X_plan_34 (f_X_58 hB) hC ?_
    refine jI_icmp_ge (tgt := 58) d_X_plan_37 (by decide) (by omega) (by omega) (fun hc1 => ?_) (fun hc1 => ?_)
    · (have e : k = 2 ^ (T 23 0).toNat := by omega); rw [e] at hk; rw [e]; exact K D _ hC hF hk
    · refine jx_aload_n d_X_plan_40 rfl rfl ?_
      refine cx_ptr (c2 := 2) (x2 := 8) d_X_plan_41 (f_X_20 hB) hC (by decide) (by decide) rfl ?_
      refine jx_iload d_X_plan_44 rfl ?_
      refine cx_row8 d_X_plan_46 hC (by omega) ?_
      refine jx_iload d_X_plan_47 rfl ?_
      refine jI_ldc d_X_plan_49 (k_X_62 hB) (n := 1000000000) (by decide) ?_
      refine cx_st40 d_X_plan_51 hC (by omega) (by omega) (fun w hC hF1 => ?_)
      have hF := hF.tr hF1 (Nat.le_refl _)
      obtain ⟨D2, hD2⟩ : ∃ zz, zz = sU D 40 (32 * q + k) 1000000000 := ⟨_, rfl⟩
      rw [← hD2] at hC
      have e3 : D2 33 0 = D 33 0 := by rw [hD2]; rfl
      have e4 : D2 34 0 = D 34 0 := by rw [hD2]; rfl
      have e5 : D2 35 0 = D 35 0 := by rw [hD2]; rfl
      have e6 : D2 36 0 = D 36 0 := by rw [hD2]; rfl
      refine jI_inc d_X_plan_52 rfl rfl ?_
      try dsimp only [List.set]
      refine jx_goto (tgt := 31) d_X_plan_55 (by decide) ?_
      exact ih (k + 1) _ _ hC hF (by rw [hD2]; exact cnR_s hk (by omega)) (by omega) (by omega)
theorem l_X_planO {E : jx_E} {l : Launch} {d : Nat} {w0 : jx_W} {T : mS} {G : Nat → Nat → Nat} {lo hi : Nat} {Q : jx_R → jx_W → Prop} {nw : Int} {c : Nat} (hB : jx_B E) (hnw : nw = T 2 0) (K : ∀ (D : mS) (w : jx_W) (V U : Option Value), cR E D w G lo hi → cF lo hi c w0 w → rl T D → fewR T D → allR T D (T 0 0) → jx_G E l Y_X_plan (d + 10) Q 96 [some (.ref (G 2 5)), some (.ref (G 2 1)), some (.ref (G 2 2)), some (.ref (G 2 4)), some (.int (iI (nw))), some (.int (iI (T 0 0))), V, U] [] w) : ∀ (j : Nat) (q : Int) (D : mS) (w : jx_W) (V U : Option Value), cR E D w G lo hi → cF lo hi c w0 w → rl T D → fewR T D → allR T D q → 0 ≤ q ∧ q ≤ T 0 0 → T 0 0 - q < j → jx_G E l Y_X_plan (d + 10) Q 8 [some (.ref (G 2 5)), some (.ref (G 2 1)), some (.ref (G 2 2)), some (.ref (G 2 4)), some (.int (iI (nw))), some (.int (iI (q))), V, U] [] w := by
  intro j
  induction j with
  | zero => intro q D w V U hC hF hR hn hal hq hj; exfalso; omega
  | succ j ih =>
    intro q D w V U hC hF hR hn hal hq hj
    have h5 := hn.2.1
    have hp32 := pow_rg h5
    have hN := hR.N
    refine jx_iload d_X_plan_8 rfl ?_
    refine jx_aload_n d_X_plan_10 rfl rfl ?_
    refine cx_size 0 1 33 rfl hB d_X_plan_11 (v_X_48 hB) hC (by decide) rfl (Nat.le_of_ble_eq_true rfl) ?_
    refine jI_icmp_ge (tgt := 96) d_X_plan_14 (by decide) (by omega) (by omega) (fun hc1 => ?_) (fun hc1 => ?_)
    · (have e : q = T 0 0 := by omega); rw [e] at hal; rw [e]; exact K D _ _ _ hC hF hR hn hal
    · refine jx_aload_n d_X_plan_17 rfl rfl ?_
      refine jx_iload d_X_plan_18 rfl ?_
      refine cx_at0 hB d_X_plan_20 (v_X_52 hB) hC (by omega) (Nat.le_of_ble_eq_true rfl) ?_
      refine jx_cast d_X_plan_23 (h_X_56 hB) (h_cast2 hB) (by decide) (jx_c2 hB) (by rw [hC.kd (.inl ⟨rfl, by omega⟩)]; rfl) ?_
      refine jx_astore d_X_plan_26 (Nat.le_of_ble_eq_true rfl) rfl ?_
      try dsimp only [List.set]
      refine jI_const d_X_plan_28 ?_
      refine jx_istore d_X_plan_29 (Nat.le_of_ble_eq_true rfl) rfl ?_
      try dsimp only [List.set]
      refine l_X_planI hB hR hn (by omega) (fun D1 w hC hF hcn => ?_) 33 0 D _ hC hF ⟨fun s hs => by omega, frT.rf⟩ (by omega) (by omega)
      have hRD1 := hcn.2.rl hR
      have hnD1 := hcn.2.few hn
      have hND1 := hRD1.N
      refine jx_aload d_X_plan_58 rfl ?_
      refine jx_aload d_X_plan_60 rfl ?_
      refine jx_iload d_X_plan_62 rfl ?_
      refine jx_callV_r (As := [.int (iI (nw))]) (v := some (.int (iI (sGr nw (sGr (D1 1 q) (D1 9 q)))))) d_X_plan_64 (m_P_freeFrom hB) (v_X_63 hB) (by decide) (jx_c2 hB) (by rw [hC.kd (.inl ⟨rfl, by omega⟩)]; rfl) rfl (Nat.le_of_ble_eq_true rfl) (Nat.le_of_ble_eq_true rfl) (w_P_freeFrom hB hC hRD1 (p := q) (n := nw) (by omega) (by omega)) ?_
      have a2 : 0 ≤ sGr nw (sGr (D1 1 q) (D1 9 q)) ∧ sGr nw (sGr (D1 1 q) (D1 9 q)) ≤ 110000 := by have hh := hRD1.Pr (p := q) (by omega); unfold sGr; (repeat' split) <;> omega
      refine cx_pP 11 d_X_plan_67 (f_X_67 hB) (t_2_11 hB) hC (by decide) (by omega) (fun w hC hF1 => ?_)
      have hF := hF.tr hF1 (Nat.le_refl _)
      obtain ⟨D3, hD3⟩ : ∃ zz, zz = sU D1 11 q (sGr nw (sGr (D1 1 q) (D1 9 q))) := ⟨_, rfl⟩
      rw [← hD3] at hC
      have e4 : D3 33 0 = D1 33 0 := by rw [hD3]; rfl
      have e5 : D3 34 0 = D1 34 0 := by rw [hD3]; rfl
      have e6 : D3 35 0 = D1 35 0 := by rw [hD3]; rfl
      have e7 : D3 36 0 = D1 36 0 := by rw [hD3]; rfl
      refine jx_aload d_X_plan_70 rfl ?_
      refine jx_aload d_X_plan_72 rfl ?_
      refine cx_P 4 d_X_plan_74 (f_X_70 hB) hC (by decide) (by omega) ?_
      rw [show D3 4 q = D1 4 q by simp [hD3, sU, sUs]]
      have a8 : 0 ≤ D1 4 q ∧ D1 4 q ≤ 3 := (hRD1.Pr (p := q) (by omega)).2.2.2.1
      have a9 : D1 4 q = T 9 q := (hRD1.P (p := q) (by omega)).1.2.2.2.2.1
      refine cx_pP 12 d_X_plan_77 (f_X_73 hB) (t_2_12 hB) hC (by decide) (by omega) (fun w hC hF1 => ?_)
      have hF := hF.tr hF1 (Nat.le_refl _)
      obtain ⟨D10, hD10⟩ : ∃ zz, zz = sU D3 12 q (D1 4 q) := ⟨_, rfl⟩
      rw [← hD10] at hC
      have e11 : D10 33 0 = D3 33 0 := by rw [hD10]; rfl
      have e12 : D10 34 0 = D3 34 0 := by rw [hD10]; rfl
      have e13 : D10 35 0 = D3 35 0 := by rw [hD10]; rfl
      have e14 : D10 36 0 = D3 36 0 := by rw [hD10]; rfl
      refine jx_aload_n d_X_plan_80 rfl rfl ?_
      refine jx_aload d_X_plan_81 rfl ?_
      refine jx_aload_n d_X_plan_83 rfl rfl ?_
      refine jI_const d_X_plan_84 ?_
      refine jI_const d_X_plan_85 ?_
      refine jI_const d_X_plan_86 ?_
      have hfr3 : frT D q D10 := by rw [hD10, hD3]; exact ((hcn.2.u (.inr ⟨.inl rfl, rfl⟩))).u (.inr ⟨.inr rfl, rfl⟩)
      have hR3 := hfr3.rl hR
      have hn3 := hfr3.few hn
      have e11 : D10 11 q = sGr nw (sGr (D1 1 q) (D1 9 q)) := by rw [hD10, hD3, sU_f (by decide), sU_same]
      have e12 : D10 12 q = D1 4 q := by rw [hD10, hD3, sU_same]
      have htb : tabR D10 (T 23 0) q (fun _ => none) := tab_none (fun Y hY => by rw [hD10, hD3]; exact hcn.1 Y hY)
      have hpq := hRD1.P (p := q) (by omega)
      have hpr := hRD1.Pr (p := q) (by omega)
      refine jc_callP (As := [.ref (G 0 (q).toNat), .ref (G 2 4), .int (iI (0)), .int (iI (0)), .int (iI (0))]) (v := none) d_X_plan_87 (m_X_tryOrders hB) (v_X_76 hB) (by decide) (jx_c1 hB) (by rw [hC.kd (.inr (.inr (.inl ⟨rfl, by decide⟩)))]; rfl) rfl (Nat.le_of_ble_eq_true rfl) (Nat.le_of_ble_eq_true rfl) (jx_deep (w_X_tryOrders hB (S := T) (by omega) h5 (T 23 0).toNat d 0 (sGr nw (sGr (D1 1 q) (D1 9 q))) (D1 4 q) 0 0 (fun _ => 0) (fun _ => none) D10 _ hC hR3 hn3 (by omega) (by omega) e11 e12 (by unfold sGr; (repeat' split) <;> omega) (by omega) (by omega) (by omega) (fun k _ hb => by rw [sBit_0] at hb; omega) htb) (by omega)) (fun w D15 hC hF1 hP => ?_)
      have hF := hF.tr hF1 (Nat.le_refl _)
      refine jI_inc d_X_plan_90 rfl rfl ?_
      try dsimp only [List.set]
      refine jx_goto (tgt := 8) d_X_plan_93 (by decide) ?_
      exact ih (q + 1) D15 _ _ _ hC hF ((hfr3.tr hP.2.2).rl hR) ((hfr3.tr hP.2.2).few hn) (allR_s h5 hq.1 hal (hfr3.tr hP.2.2) (fun hz => ⟨by (have hnd := hRD1.ready (p := q) (by omega) (by omega)); rw [← hnd, hnw, ← hND1.1.2.2.1], by omega⟩) hP.1) (by omega) (by omega)
theorem few_inj {T : mS} (f3 : ∀ i j, 0 ≤ i ∧ i < j → j < T 23 0 → T 22 i < T 22 j) {i j : Int} (hi : 0 ≤ i ∧ i < T 23 0) (hj : 0 ≤ j ∧ j < T 23 0) (e : T 22 i = T 22 j) : i = j := by
  by_cases h : i < j
  · have := f3 i j ⟨hi.1, h⟩ hj.2
    omega
  · by_cases h2 : j < i
    · have := f3 j i ⟨hj.1, h2⟩ hi.2
      omega
    · omega
theorem sI_few {S : mS} (hI : sI S) (hT : 0 ≤ S 1 0 ∧ S 1 0 ≤ 16) : sI (oFew S) := by
  unfold oFew
  refine sFor_ind (P := fun (T : mS) => sI T) (hI.u 23 0 0 (fun z => absurd z (by decide))) (fun T t ht h => ?_)
  unfold gFew
  split
  · exact (h.u 22 _ _ (fun _ => ⟨by show (0 : Int) ≤ t; omega, by show t ≤ (15 : Int); omega⟩)).u 23 _ _ (fun z => absurd z (by decide))
  · exact h
theorem w_X_plan {E : jx_E} {l : Launch} {d : Nat} {w : jx_W} {S D : mS} {G : Nat → Nat → Nat} {lo hi mi : Nat} {nw : Int} (hB : jx_B E) (hB2 : jx_B2 E mi) (hR : rl S D) (hnw : nw = S 2 0) (hc5 : sCnt (opn S) (S 1 0) ≤ 5) (hW : 50 ≤ jx_c w ∧ 5000 ≤ jx_s w) (hC : cR E D w G lo hi) : jx_G E l Y_X_plan (d + 10) (cpp E G lo hi w 5 none (fun D2 => rl (oExp (oFew S)) D2)) 0 (jx_ent [.ref (G 2 5), .ref (G 2 1), .ref (G 2 2), .ref (G 2 4), .int (iI nw)] 8) [] w := by
  have hN := hR.N
  have hF : cF lo hi 0 w w := cF.rf
  have hsp := few_spec S (S 1 0).toNat
  have hT0 : sForN gFew (sU S 23 0 0) (S 1 0).toNat = oFew S := rfl
  rw [hT0] at hsp
  obtain ⟨T, hT⟩ : ∃ zz, zz = oFew S := ⟨_, rfl⟩
  rw [← hT] at hsp ⊢
  obtain ⟨f1, f2, f3⟩ := hsp
  rw [Int.toNat_of_nonneg (by omega)] at f1
  have hcr := sCnt_rg (opn S) (t := S 1 0) (by omega)
  have tne : ∀ g, g ≠ 22 → g ≠ 23 → T g = S g := fun g a b => by rw [hT]; unfold oFew; rw [few_ne a b]; exact sU_ne b
  have t0 : T 0 0 = S 0 0 := by rw [tne 0 (by decide) (by decide)]
  have t1 : T 1 0 = S 1 0 := by rw [tne 1 (by decide) (by decide)]
  have t2 : T 2 0 = S 2 0 := by rw [tne 2 (by decide) (by decide)]
  have t13 : T 13 = S 13 := tne 13 (by decide) (by decide)
  have h5 : 0 ≤ T 23 0 ∧ T 23 0 ≤ 5 := by omega
  show jx_G E l Y_X_plan (d + 10) _ 0 [some (.ref (G 2 5)), some (.ref (G 2 1)), some (.ref (G 2 2)), some (.ref (G 2 4)), some (.int (iI nw)), none, none, none] [] w
  refine jx_aload_n d_X_plan_0 rfl rfl ?_
  refine jx_aload_n d_X_plan_1 rfl rfl ?_
  refine jc_callP (As := [.ref (G 2 2)]) (v := none) d_X_plan_2 (m_X_collectOpen hB) (v_X_44 hB) (by decide) (jx_c1 hB) (by rw [hC.kd (.inr (.inr (.inl ⟨rfl, by decide⟩)))]; rfl) rfl (Nat.le_of_ble_eq_true rfl) (Nat.le_of_ble_eq_true rfl) (jx_deep (w_X_collectOpen (d := 0) hB hB2 hR hc5 hW hC) (by omega)) (fun w D1 hC hF1 hPD1 => ?_)
  have hF := hF.tr hF1 (Nat.le_refl _)
  have hfo : frO D D1 := hPD1.1
  have hI2 : sI T := by rw [hT]; exact sI_few hR.I (by omega)
  have hR1 : rl T D1 := (hfo.rl hR).cS hI2 (fun f hf h3 => tne f (by omega) (by omega))
  have hn1 : fewR T D1 := ⟨by rw [hT]; exact hPD1.2.1, h5, by rw [hT]; exact hPD1.2.2.2, fun i hi => ⟨by rw [hT]; exact hPD1.2.2.1 i (by rw [hT] at hi; exact hi), by (have hh := f2 i hi); omega⟩⟩
  refine jI_const d_X_plan_5 ?_
  refine jx_istore d_X_plan_6 (Nat.le_of_ble_eq_true rfl) rfl ?_
  try dsimp only [List.set]
  refine l_X_planO hB (by omega) (fun D3 w V U hC hF hR3 hn3 hal => ?_) 5 0 D1 _ _ _ hC hF hR1 hn1 (fun r hr => by omega) (by omega) (by omega)
  have hN3 := hR3.N
  refine jx_aload_n d_X_plan_96 rfl rfl ?_
  refine jx_aload_n d_X_plan_97 rfl rfl ?_
  refine cx_size 0 1 33 rfl hB d_X_plan_98 (v_X_48 hB) hC (by decide) rfl (Nat.le_of_ble_eq_true rfl) ?_
  rw [show D3 33 0 = T 0 0 by omega]
  refine jc_callP (As := [.int (iI (T 0 0))]) (v := none) d_X_plan_101 (m_X_shareOut hB) (v_X_80 hB) (by decide) (jx_c1 hB) (by rw [hC.kd (.inr (.inr (.inl ⟨rfl, by decide⟩)))]; rfl) rfl (Nat.le_of_ble_eq_true rfl) (Nat.le_of_ble_eq_true rfl) (jx_deep (w_X_shareOut (d := 0) (S := T) (n := T 23 0) (m := T 0 0) hB h5 (by omega) hR3 hn3.2.2.1 (fun q s hq hs => bR2_rg (hal q hq s hs)) hC) (by omega)) (fun w D2 hC hF1 hPD2 => ?_)
  have hF := hF.tr hF1 (Nat.le_refl _)
  have hfs : frS D3 D2 := hPD2.2
  have hR4 := hfs.rl hR3
  have hN4 := hR4.N
  have hn4 : fewR T D2 := ⟨by rw [hfs 36 (by decide) (by decide)]; exact hn3.1, h5, by rw [hfs 46 (by decide) (by decide)]; exact hn3.2.2.1, fun i hi => by rw [hfs 38 (by decide) (by decide)]; exact hn3.2.2.2 i hi⟩
  have hal4 : allR T D2 (T 0 0) := fun r hr => tab_c (hal r hr) (hfs 40 (by decide) (by decide)) (hfs 41 (by decide) (by decide))
  have hdp : dpT (D2 40) (D2 44) (D2 45) (T 23 0) (T 0 0) := by rw [hfs 40 (by decide) (by decide)]; exact shR_dp hPD2.1
  refine jx_aload_n d_X_plan_104 rfl rfl ?_
  refine jx_aload_n d_X_plan_105 rfl rfl ?_
  refine cx_size 0 1 33 rfl hB d_X_plan_106 (v_X_48 hB) hC (by decide) rfl (Nat.le_of_ble_eq_true rfl) ?_
  rw [show D2 33 0 = T 0 0 by omega]
  refine jc_callP (As := [.int (iI (T 0 0))]) (v := none) d_X_plan_109 (m_X_tell hB) (v_X_84 hB) (by decide) (jx_c1 hB) (by rw [hC.kd (.inr (.inr (.inl ⟨rfl, by decide⟩)))]; rfl) rfl (Nat.le_of_ble_eq_true rfl) (Nat.le_of_ble_eq_true rfl) (jx_deep (w_X_tell (d := 0) (S := T) hB (by omega) hn4 (fun k hk => by rw [t13]; exact (f2 k hk).2) hdp (all_st h5 hal4 hdp) hR4 hC) (by omega)) (fun w D3 hC hF1 hPD3 => ?_)
  have hF := hF.tr hF1 (Nat.le_refl _)
  have hR5 : rl (oExp T) D3 := by rw [← all_exp h5 (by omega) (fun i j hi hj e => few_inj f3 hi hj e) hal4 hdp]; exact hPD3.1
  exact jx_vret d_X_plan_112 rfl ⟨rfl, _, hC, hF, hR5⟩
