/-! 88.g.coll: the planner collects the tasks -/
/-- but for the planner's list nothing has changed -/
abbrev frO (D0 D : mS) : Prop := ∀ g, g ≠ 36 → g ≠ 38 → g ≠ 46 → D g = D0 g
theorem frO.rl {S D0 D : mS} (h : frO D0 D) (hR : rl S D0) : rl S D := hR.cD (fun f hf => h f (by omega) (by omega) (by omega))
theorem cR.room {E : jx_E} {D : mS} {w : jx_W} {G : Nat → Nat → Nat} {lo hi : Nat} (h : cR E D w G lo hi) : E.1.heap.size ≤ jx_n w := by
  have := h.1 2 0 (.inr (.inr (.inl ⟨rfl, by decide⟩)))
  omega
theorem room_k {lo hi a : Nat} {w0 w : jx_W} (hF : cF lo hi a w0 w) (hW : 50 ≤ jx_c w0 ∧ 5000 ≤ jx_s w0) (ha : a ≤ 40) : 1 ≤ jx_c w ∧ 100 ≤ jx_s w := by
  have h1 := hF.1
  have h2 := hF.2.1
  omega
theorem coll_38 {D T : mS} {t : Int} (h36 : D 36 0 = T 23 0) (h38 : ∀ i, 0 ≤ i ∧ i < T 23 0 → D 38 i = T 22 i) : ∀ i, 0 ≤ i ∧ i < sU (sU T 22 (T 23 0) t) 23 0 (T 23 0 + 1) 23 0 → sU (sU D 38 (D 36 0) t) 36 0 (D 36 0 + 1) 38 i = sU (sU T 22 (T 23 0) t) 23 0 (T 23 0 + 1) 22 i := by
  intro i hi
  rw [sU_same] at hi
  have e1 : sU (sU D 38 (D 36 0) t) 36 0 (D 36 0 + 1) 38 i = sU D 38 (D 36 0) t 38 i := sU_f (by decide)
  have e2 : sU (sU T 22 (T 23 0) t) 23 0 (T 23 0 + 1) 22 i = sU T 22 (T 23 0) t 22 i := sU_f (by decide)
  rw [e1, e2, h36]
  by_cases e : i = T 23 0
  · rw [e, sU_same, sU_same]
  · rw [sU_i e, sU_i e]
    exact h38 i (by omega)
theorem l_X_collect {E : jx_E} {l : Launch} {d : Nat} {w0 : jx_W} {S D0 : mS} {G : Nat → Nat → Nat} {lo hi mi : Nat} (hB : jx_B E) (hB2 : jx_B2 E mi) (hR0 : rl S D0) (hc5 : sCnt (opn S) (S 1 0) ≤ 5) (hW : 50 ≤ jx_c w0 ∧ 5000 ≤ jx_s w0) : ∀ (j : Nat) (t : Int) (kk : Nat) (D : mS) (w : jx_W), cR E D w G lo hi → cF lo hi kk w0 w → frO D0 D → D 36 0 = (sFor gFew (sU S 23 0 0) t) 23 0 → (∀ i, 0 ≤ i ∧ i < (sFor gFew (sU S 23 0 0) t) 23 0 → D 38 i = (sFor gFew (sU S 23 0 0) t) 22 i) → ((kk : Int) ≤ (sFor gFew (sU S 23 0 0) t) 23 0) → 0 ≤ t ∧ t ≤ S 1 0 → S 1 0 - t < j → jx_G E l Y_X_collectOpen (d + 7) (cpp E G lo hi w0 5 none (fun D2 => frO D0 D2 ∧ D2 36 0 = (sFor gFew (sU S 23 0 0) (S 1 0)) 23 0 ∧ (∀ i, 0 ≤ i ∧ i < (sFor gFew (sU S 23 0 0) (S 1 0)) 23 0 → D2 38 i = (sFor gFew (sU S 23 0 0) (S 1 0)) 22 i) ∧ D2 46 0 = 2 ^ ((sFor gFew (sU S 23 0 0) (S 1 0)) 23 0).toNat)) 9 [some (.ref (G 2 5)), some (.ref (G 2 2)), some (.int (iI (t)))] [] w := by
  intro j
  induction j with
  | zero => intro t kk D w hC hF hfr h36 h38 hkk ht hj; exfalso; omega
  | succ j ih =>
    intro t kk D w hC hF hfr h36 h38 hkk ht hj
    have hsp := few_spec S t.toNat
    have hT0 : sForN gFew (sU S 23 0 0) t.toNat = sFor gFew (sU S 23 0 0) t := rfl
    rw [hT0] at hsp
    obtain ⟨T, hT⟩ : ∃ zz, zz = sFor gFew (sU S 23 0 0) t := ⟨_, rfl⟩
    rw [← hT] at h36 h38 hkk hsp
    obtain ⟨f1, f2, f3⟩ := hsp
    rw [Int.toNat_of_nonneg ht.1] at f1
    have hR := hfr.rl hR0
    have hN := hR.N
    have hcr := sCnt_rg (opn S) ht.1
    have hcm := sCnt_mono (P := opn S) ht.1 ht.2
    have hcs : t < S 1 0 → sCnt (opn S) t + (if opn S t = true then 1 else 0) ≤ sCnt (opn S) (S 1 0) := fun h => by rw [← sCnt_s _ ht.1]; exact sCnt_mono (by omega) (by omega)
    have t13 : T 13 = S 13 := by rw [hT, few_ne (by decide) (by decide)]; funext i; exact sU_f (by decide)
    refine jx_iload_n d_X_collectOpen_9 rfl rfl ?_
    refine jx_aload_n d_X_collectOpen_10 rfl rfl ?_
    refine cx_size 1 2 34 rfl hB d_X_collectOpen_11 (v_X_48 hB) hC (by decide) rfl (Nat.le_of_ble_eq_true rfl) ?_
    refine jI_icmp_ge (tgt := 64) d_X_collectOpen_14 (by decide) (by omega) (by omega) (fun hc1 => ?_) (fun hc1 => ?_)
    · refine jx_aload_n d_X_collectOpen_64 rfl rfl ?_
      refine jI_const d_X_collectOpen_65 ?_
      refine jx_aload_n d_X_collectOpen_66 rfl rfl ?_
      refine cx_ptr (c2 := 2) (x2 := 7) d_X_collectOpen_67 (f_X_12 hB) hC (by decide) (by decide) rfl ?_
      refine cx_size 3 7 36 rfl hB d_X_collectOpen_70 (v_X_48 hB) hC (by decide) rfl (Nat.le_of_ble_eq_true rfl) ?_
      refine jI_shl1 d_X_collectOpen_73 ⟨by omega, by omega⟩ ?_
      refine cx_psets d_X_collectOpen_74 (f_X_58 hB) (t_1_7 hB) hC (fun w hC hF1 => ?_)
      have hF := hF.tr hF1 (Nat.le_refl _)
      obtain ⟨D2, hD2⟩ : ∃ zz, zz = sU D 46 0 (2 ^ (D 36 0).toNat) := ⟨_, rfl⟩
      rw [← hD2] at hC
      have e3 : D2 33 0 = D 33 0 := by rw [hD2]; rfl
      have e4 : D2 34 0 = D 34 0 := by rw [hD2]; rfl
      have e5 : D2 35 0 = D 35 0 := by rw [hD2]; rfl
      have e6 : D2 36 0 = D 36 0 := by rw [hD2]; rfl
      exact jx_vret d_X_collectOpen_77 rfl ⟨rfl, _, hC, hF.tr cF.rf (by omega), by (have e : t = S 1 0 := by omega); rw [e] at hT; rw [← hT, hD2]; exact ⟨fun g a b c => by rw [sU_ne c]; exact hfr g a b c, h36, h38, by rw [sU_same, h36]⟩⟩
    · refine jx_aload_n d_X_collectOpen_17 rfl rfl ?_
      refine jx_iload_n d_X_collectOpen_18 rfl rfl ?_
      refine cx_at1 hB d_X_collectOpen_19 (v_X_52 hB) hC (by omega) (Nat.le_of_ble_eq_true rfl) ?_
      refine jx_cast d_X_collectOpen_22 (h_X_90 hB) (h_cast3 hB) (by decide) (jx_c3 hB) (by rw [hC.kd (.inr (.inl ⟨rfl, by omega⟩))]; rfl) ?_
      refine cx_K 5 (f := 25) rfl d_X_collectOpen_25 (f_X_92 hB) hC (by decide) (by omega) ?_
      have a7 : D 25 t = S 13 t := (hR.K (t := t) (by omega)).1.2.2.2.2.2.1
      have a8 : 0 ≤ D 25 t ∧ D 25 t ≤ 2 := (hR.Kr (t := t) (by omega)).2.2.2.2.2.1
      refine jI_if_ne (tgt := 58) d_X_collectOpen_28 (by decide) (by omega) (fun hc9 => ?_) (fun hc9 => ?_)
      · refine jI_inc d_X_collectOpen_58 rfl rfl ?_
        try dsimp only [List.set]
        refine jx_goto (tgt := 9) d_X_collectOpen_61 (by decide) ?_
        exact ih (t + 1) kk _ _ hC hF hfr (by rw [sFor_s _ _ ht.1, ← hT]; unfold gFew; rw [t13, if_neg (by omega)]; exact h36) (by rw [sFor_s _ _ ht.1, ← hT]; unfold gFew; rw [t13, if_neg (by omega)]; exact h38) (by rw [sFor_s _ _ ht.1, ← hT]; unfold gFew; rw [t13, if_neg (by omega)]; exact hkk) (by omega) (by omega)
      · have hcs2 := hcs (by omega)
        rw [if_pos (opn_t.mpr (show S 13 t = 0 by omega))] at hcs2
        refine jx_aload_n d_X_collectOpen_31 rfl rfl ?_
        refine cx_ptr (c2 := 2) (x2 := 7) d_X_collectOpen_32 (f_X_12 hB) hC (by decide) (by decide) rfl ?_
        refine cx_size 3 7 36 rfl hB d_X_collectOpen_35 (v_X_48 hB) hC (by decide) rfl (Nat.le_of_ble_eq_true rfl) ?_
        refine jI_const d_X_collectOpen_38 ?_
        refine jI_icmp_ge (tgt := 58) d_X_collectOpen_39 (by decide) (by omega) (by omega) (fun hc10 => ?_) (fun hc10 => ?_)
        · refine jI_inc d_X_collectOpen_58 rfl rfl ?_
          try dsimp only [List.set]
          refine jx_goto (tgt := 9) d_X_collectOpen_61 (by decide) ?_
          exact ih (t + 1) kk _ _ hC hF hfr (by rw [sFor_s _ _ ht.1, ← hT]; unfold gFew; rw [t13, if_neg (by omega)]; exact h36) (by rw [sFor_s _ _ ht.1, ← hT]; unfold gFew; rw [t13, if_neg (by omega)]; exact h38) (by rw [sFor_s _ _ ht.1, ← hT]; unfold gFew; rw [t13, if_neg (by omega)]; exact hkk) (by omega) (by omega)
        · refine jx_aload_n d_X_collectOpen_42 rfl rfl ?_
          refine cx_ptr (c2 := 2) (x2 := 7) d_X_collectOpen_43 (f_X_12 hB) hC (by decide) (by decide) rfl ?_
          refine jx_aload_n d_X_collectOpen_46 rfl rfl ?_
          refine jx_iload_n d_X_collectOpen_47 rfl rfl ?_
          refine cx_at1 hB d_X_collectOpen_48 (v_X_52 hB) hC (by omega) (Nat.le_of_ble_eq_true rfl) ?_
          refine jx_cast d_X_collectOpen_51 (h_X_90 hB) (h_cast3 hB) (by decide) (jx_c3 hB) (by rw [hC.kd (.inr (.inl ⟨rfl, by omega⟩))]; rfl) ?_
          have hrm := room_k hF hW (by omega)
          refine jc_callV (As := [.ref (G 1 (t).toNat)]) (v := some (.int (iI 1))) d_X_collectOpen_54 (m_A_add hB) (v_X_95 hB) (by decide) (jx_c6 hB) (by rw [hC.kd (.inr (.inr (.inl ⟨rfl, by decide⟩)))]; rfl) rfl (Nat.le_of_ble_eq_true rfl) (Nat.le_of_ble_eq_true rfl) (w_addT hB hB2 hC (j := 3) (t := t) (.inr rfl) (by omega) (show D 36 0 ≤ 50 by omega) (fun i hi => by (have hi : 0 ≤ i ∧ i < D 36 0 := hi); (have hh := f2 i (by omega)); (have h3 := h38 i (by omega)); show 0 ≤ D 38 i ∧ D 38 i < D 34 0; omega) hC.room hrm.1 hrm.2) (fun w hC hF1 => ?_)
          have hF := hF.tr hF1 (Nat.le_refl _)
          obtain ⟨D11, hD11⟩ : ∃ zz, zz = sU (sU D 38 (D 36 0) t) 36 0 (D 36 0 + 1) := ⟨_, rfl⟩
          have hC : cR E D11 w G lo hi := by rw [hD11]; exact hC
          refine jx_pop d_X_collectOpen_57 rfl ?_
          refine jI_inc d_X_collectOpen_58 rfl rfl ?_
          try dsimp only [List.set]
          refine jx_goto (tgt := 9) d_X_collectOpen_61 (by decide) ?_
          exact ih (t + 1) (kk + 1) _ _ hC hF (by rw [hD11]; exact fun g a b c => by rw [sU_ne a, sU_ne b]; exact hfr g a b c) (by rw [hD11, sU_same, sFor_s _ _ ht.1, ← hT]; unfold gFew; rw [t13, if_pos (by omega), sU_same]; omega) (by rw [hD11, sFor_s _ _ ht.1, ← hT]; unfold gFew; rw [t13, if_pos (by omega)]; exact coll_38 h36 h38) (by rw [sFor_s _ _ ht.1, ← hT]; unfold gFew; rw [t13, if_pos (by omega), sU_same]; omega) (by omega) (by omega)
theorem w_X_collectOpen {E : jx_E} {l : Launch} {d : Nat} {w : jx_W} {S D : mS} {G : Nat → Nat → Nat} {lo hi mi : Nat} (hB : jx_B E) (hB2 : jx_B2 E mi) (hR : rl S D) (hc5 : sCnt (opn S) (S 1 0) ≤ 5) (hW : 50 ≤ jx_c w ∧ 5000 ≤ jx_s w) (hC : cR E D w G lo hi) : jx_G E l Y_X_collectOpen (d + 7) (cpp E G lo hi w 5 none (fun D2 => frO D D2 ∧ D2 36 0 = (sFor gFew (sU S 23 0 0) (S 1 0)) 23 0 ∧ (∀ i, 0 ≤ i ∧ i < (sFor gFew (sU S 23 0 0) (S 1 0)) 23 0 → D2 38 i = (sFor gFew (sU S 23 0 0) (S 1 0)) 22 i) ∧ D2 46 0 = 2 ^ ((sFor gFew (sU S 23 0 0) (S 1 0)) 23 0).toNat)) 0 (jx_ent [.ref (G 2 5), .ref (G 2 2)] 3) [] w := by
  have hN := hR.N
  show jx_G E l Y_X_collectOpen (d + 7) _ 0 [some (.ref (G 2 5)), some (.ref (G 2 2)), none] [] w
  have hF : cF lo hi 0 w w := cF.rf
  refine jx_aload_n d_X_collectOpen_0 rfl rfl ?_
  refine cx_ptr (c2 := 2) (x2 := 7) d_X_collectOpen_1 (f_X_12 hB) hC (by decide) (by decide) rfl ?_
  refine jc_callV (As := []) (v := none) d_X_collectOpen_4 (m_A_clear hB) (v_X_87 hB) (by decide) (jx_c6 hB) (by rw [hC.kd (.inr (.inr (.inl ⟨rfl, by decide⟩)))]; rfl) rfl (Nat.le_of_ble_eq_true rfl) (Nat.le_of_ble_eq_true rfl) (w_clear hB hC (j := 3) (.inr rfl)) (fun w hC hF1 => ?_)
  have hF := hF.tr hF1 (Nat.le_refl _)
  obtain ⟨D1, hD1⟩ : ∃ zz, zz = sU D 36 0 0 := ⟨_, rfl⟩
  have hC : cR E D1 w G lo hi := by rw [hD1]; exact hC
  refine jI_const d_X_collectOpen_7 ?_
  refine jx_istore_n d_X_collectOpen_8 rfl (Nat.le_of_ble_eq_true rfl) rfl ?_
  try dsimp only [List.set]
  exact l_X_collect hB hB2 hR hc5 hW 17 0 0 _ _ hC hF (by rw [hD1]; exact fun g a b c => sU_ne a) (by rw [hD1, sFor_0]; rfl) (fun i hi => by (have hz : i < 0 := by rw [sFor_0] at hi; exact hi.2); omega) (by rw [sFor_0]; exact Int.le_refl _) (by omega) (by omega)
