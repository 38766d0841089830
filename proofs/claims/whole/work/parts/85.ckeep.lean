/-! 85.ckeep: keeping the better order of a set -/
theorem l_X_keep {E : jx_E} {l : Launch} {d : Nat} {w0 : jx_W} {D0 : mS} {G : Nat → Nat → Nat} {lo hi : Nat} {p set late n kn : Int} (hB : jx_B E) (h36 : D0 36 0 = n) (hn : 0 ≤ n ∧ n ≤ 5) (hp : 0 ≤ p ∧ p < 4) (hs : 0 ≤ set ∧ set < 32) : ∀ (j : Nat) (i : Int) (D : mS) (w : jx_W), cR E D w G lo hi → cF lo hi 0 w0 w → kpR D0 p set late i D → 0 ≤ i ∧ i ≤ n → n - i < j → jx_G E l Y_X_keepIfBetter (d + 2) (cpp E G lo hi w0 0 none (fun D2 => kpR D0 p set late n D2)) 44 [some (.ref (G 2 5)), some (.int (iI (p))), some (.int (iI (set))), some (.int (iI (late))), some (.int (iI (kn))), some (.int (iI (i)))] [] w := by
  intro j
  induction j with
  | zero => intro i D w hC hF hk hi2 hj; exfalso; omega
  | succ j ih =>
    intro i D w hC hF hk hi2 hj
    have e36 : D 36 0 = n := by rw [hk.2.2 36 0 (by omega) (by omega)]; exact h36
    refine jx_iload d_X_keepIfBetter_44 rfl ?_
    refine jx_aload_n d_X_keepIfBetter_46 rfl rfl ?_
    refine cx_ptr (c2 := 2) (x2 := 7) d_X_keepIfBetter_47 (f_X_12 hB) hC (by decide) (by decide) rfl ?_
    refine cx_size 3 7 36 rfl hB d_X_keepIfBetter_50 (v_X_48 hB) hC (by decide) rfl (Nat.le_of_ble_eq_true rfl) ?_
    refine jI_icmp_ge (tgt := 82) d_X_keepIfBetter_53 (by decide) (by omega) (by omega) (fun hc1 => ?_) (fun hc1 => ?_)
    · exact jx_vret d_X_keepIfBetter_82 rfl ⟨rfl, D, hC, hF, by (have e : i = n := by omega); rw [← e]; exact hk⟩
    · refine jx_aload_n d_X_keepIfBetter_56 rfl rfl ?_
      refine cx_ptr (c2 := 2) (x2 := 9) d_X_keepIfBetter_57 (f_X_23 hB) hC (by decide) (by decide) rfl ?_
      refine jx_iload_n d_X_keepIfBetter_60 rfl rfl ?_
      refine cx_row9 d_X_keepIfBetter_61 hC (by omega) ?_
      refine jx_iload_n d_X_keepIfBetter_62 rfl rfl ?_
      refine jI_const d_X_keepIfBetter_63 ?_
      refine jI_mul d_X_keepIfBetter_64 ?_
      refine jx_iload d_X_keepIfBetter_65 rfl ?_
      refine jI_add d_X_keepIfBetter_67 ?_
      refine jx_aload_n d_X_keepIfBetter_68 rfl rfl ?_
      refine cx_ptr (c2 := 2) (x2 := 10) d_X_keepIfBetter_69 (f_X_26 hB) hC (by decide) (by decide) rfl ?_
      refine jx_iload d_X_keepIfBetter_72 rfl ?_
      refine cx_ld42 d_X_keepIfBetter_74 hC (by omega) ?_
      refine cx_st41 d_X_keepIfBetter_75 hC (by omega) (by omega) (fun w hC hF1 => ?_)
      have hF := hF.tr hF1 (Nat.le_refl _)
      obtain ⟨D2, hD2⟩ : ∃ zz, zz = sU D 41 (160 * p + ((set * 5) + i)) (D 42 i) := ⟨_, rfl⟩
      rw [← hD2] at hC
      have e3 : D2 33 0 = D 33 0 := by rw [hD2]; rfl
      have e4 : D2 34 0 = D 34 0 := by rw [hD2]; rfl
      have e5 : D2 35 0 = D 35 0 := by rw [hD2]; rfl
      have e6 : D2 36 0 = D 36 0 := by rw [hD2]; rfl
      refine jI_inc d_X_keepIfBetter_76 rfl rfl ?_
      try dsimp only [List.set]
      refine jx_goto (tgt := 44) d_X_keepIfBetter_79 (by decide) ?_
      exact ih (i + 1) _ _ hC hF (by rw [hD2]; exact kpR_s hk (by omega)) (by omega) (by omega)
theorem w_X_keepIfBetter {E : jx_E} {l : Launch} {d : Nat} {w : jx_W} {D S : mS} {G : Nat → Nat → Nat} {lo hi : Nat} {p set late : Int} {ts : Int → Int} {b : cB} (hB : jx_B E) (hC : cR E D w G lo hi) (hR : rl S D) (hn : fewR S D) (hp : 0 ≤ p ∧ p < 4) (hs : 0 ≤ set ∧ set < 32) (hl : 0 ≤ late ∧ late ≤ 600000) (hb : bR2 (D 40 (32 * p + set)) (fun k => D 41 (160 * p + (set * 5 + k))) set (S 23 0) b) (ht : ∀ k, 0 ≤ k ∧ k < S 23 0 → sBit set k = 1 → D 42 k = ts k ∧ (-1 ≤ ts k ∧ ts k ≤ 100000)) : jx_G E l Y_X_keepIfBetter (d + 2) (cpp E G lo hi w 0 none (fun D2 => bR2 (D2 40 (32 * p + set)) (fun k => D2 41 (160 * p + (set * 5 + k))) set (S 23 0) (cKeep set (S 23 0) b (some (late, ts))) ∧ ∀ (g : Nat) (x : Int), ¬ (g = 40 ∧ x = 32 * p + set) → ¬ (g = 41 ∧ 160 * p + set * 5 ≤ x ∧ x < 160 * p + set * 5 + 5) → D2 g x = D g x)) 0 (jx_ent [.ref (G 2 5), .int (iI p), .int (iI set), .int (iI late)] 6) [] w := by
  show jx_G E l Y_X_keepIfBetter (d + 2) _ 0 [some (.ref (G 2 5)), some (.int (iI p)), some (.int (iI set)), some (.int (iI late)), none, none] [] w
  have hN := hR.N
  have hF : cF lo hi 0 w w := cF.rf
  have hkr := bR2_rg hb
  refine jx_aload_n d_X_keepIfBetter_0 rfl rfl ?_
  refine cx_ptr (c2 := 2) (x2 := 8) d_X_keepIfBetter_1 (f_X_20 hB) hC (by decide) (by decide) rfl ?_
  refine jx_iload_n d_X_keepIfBetter_4 rfl rfl ?_
  refine cx_row8 d_X_keepIfBetter_5 hC (by omega) ?_
  refine jx_iload_n d_X_keepIfBetter_6 rfl rfl ?_
  refine cx_ld40 d_X_keepIfBetter_7 hC (by omega) (by omega) ?_
  refine jx_istore d_X_keepIfBetter_8 (Nat.le_of_ble_eq_true rfl) rfl ?_
  try dsimp only [List.set]
  refine jx_iload_n d_X_keepIfBetter_10 rfl rfl ?_
  refine jx_iload d_X_keepIfBetter_11 rfl ?_
  refine jI_icmp_gt (tgt := 31) d_X_keepIfBetter_13 (by decide) (by omega) (by omega) (fun hc1 => ?_) (fun hc1 => ?_)
  · exact jx_vret d_X_keepIfBetter_31 rfl ⟨rfl, D, hC, hF, by rw [keep_not hb hl ht (by omega)]; exact hb, fun g x _ _ => rfl⟩
  · refine jx_iload_n d_X_keepIfBetter_16 rfl rfl ?_
    refine jx_iload d_X_keepIfBetter_17 rfl ?_
    refine jI_icmp_ne (tgt := 32) d_X_keepIfBetter_19 (by decide) (by omega) (by omega) (fun hc2 => ?_) (fun hc2 => ?_)
    · have hkeep : cKeep set (S 23 0) b (some (late, ts)) = some (late, ts) := keep_yes hb hl ht (by omega)
      refine jx_aload_n d_X_keepIfBetter_32 rfl rfl ?_
      refine cx_ptr (c2 := 2) (x2 := 8) d_X_keepIfBetter_33 (f_X_20 hB) hC (by decide) (by decide) rfl ?_
      refine jx_iload_n d_X_keepIfBetter_36 rfl rfl ?_
      refine cx_row8 d_X_keepIfBetter_37 hC (by omega) ?_
      refine jx_iload_n d_X_keepIfBetter_38 rfl rfl ?_
      refine jx_iload_n d_X_keepIfBetter_39 rfl rfl ?_
      refine cx_st40 d_X_keepIfBetter_40 hC (by omega) (by omega) (fun w hC hF1 => ?_)
      have hF := hF.tr hF1 (Nat.le_refl _)
      obtain ⟨D3, hD3⟩ : ∃ zz, zz = sU D 40 (32 * p + set) late := ⟨_, rfl⟩
      rw [← hD3] at hC
      have e4 : D3 33 0 = D 33 0 := by rw [hD3]; rfl
      have e5 : D3 34 0 = D 34 0 := by rw [hD3]; rfl
      have e6 : D3 35 0 = D 35 0 := by rw [hD3]; rfl
      have e7 : D3 36 0 = D 36 0 := by rw [hD3]; rfl
      refine jI_const d_X_keepIfBetter_41 ?_
      refine jx_istore d_X_keepIfBetter_42 (Nat.le_of_ble_eq_true rfl) rfl ?_
      try dsimp only [List.set]
      exact jx_weak (l_X_keep hB (D0 := D) (n := S 23 0) (by omega) (by omega) hp hs 6 0 _ _ hC hF (by rw [hD3]; exact kpR_0 D p set late) (by omega) (by omega)) (fun r w2 hh => by obtain ⟨h1, D2, h2, h3, h4⟩ := hh; exact ⟨h1, D2, h2, h3, by rw [hkeep]; exact ⟨h4.1, hl, fun k hk hbit => by show D2 41 (160 * p + (set * 5 + k)) = ts k ∧ (-1 ≤ ts k ∧ ts k ≤ 100000); rw [h4.2.1 k hk]; exact ht k hk hbit⟩, h4.2.2⟩)
    · have hr := bR2_in hb (by omega) ht
      refine jx_aload_n d_X_keepIfBetter_22 rfl rfl ?_
      refine jx_iload_n d_X_keepIfBetter_23 rfl rfl ?_
      refine jx_iload_n d_X_keepIfBetter_24 rfl rfl ?_
      refine jx_callV_r (As := [.int (iI (p)), .int (iI (set))]) (v := some (.int (iI (sLess (D 42) (fun k => D 41 (160 * p + (set * 5 + k))) set (S 23 0))))) d_X_keepIfBetter_25 (m_X_startsEarlier hB) (v_X_121 hB) (by decide) (jx_c1 hB) (by rw [hC.kd (.inr (.inr (.inl ⟨rfl, by decide⟩)))]; rfl) rfl (Nat.le_of_ble_eq_true rfl) (Nat.le_of_ble_eq_true rfl) (w_X_startsEarlier hB hC hR hn (p := p) (set := set) (by omega) (by omega) hr) ?_
      have q8 := sLess_01 (D 42) (fun k => D 41 (160 * p + (set * 5 + k))) set (S 23 0)
      refine jI_if_ne (tgt := 32) d_X_keepIfBetter_28 (by decide) (by omega) (fun hc9 => ?_) (fun hc9 => ?_)
      · have hkeep : cKeep set (S 23 0) b (some (late, ts)) = some (late, ts) := keep_yes hb hl ht (by omega)
        refine jx_aload_n d_X_keepIfBetter_32 rfl rfl ?_
        refine cx_ptr (c2 := 2) (x2 := 8) d_X_keepIfBetter_33 (f_X_20 hB) hC (by decide) (by decide) rfl ?_
        refine jx_iload_n d_X_keepIfBetter_36 rfl rfl ?_
        refine cx_row8 d_X_keepIfBetter_37 hC (by omega) ?_
        refine jx_iload_n d_X_keepIfBetter_38 rfl rfl ?_
        refine jx_iload_n d_X_keepIfBetter_39 rfl rfl ?_
        refine cx_st40 d_X_keepIfBetter_40 hC (by omega) (by omega) (fun w hC hF1 => ?_)
        have hF := hF.tr hF1 (Nat.le_refl _)
        obtain ⟨D10, hD10⟩ : ∃ zz, zz = sU D 40 (32 * p + set) late := ⟨_, rfl⟩
        rw [← hD10] at hC
        have e11 : D10 33 0 = D 33 0 := by rw [hD10]; rfl
        have e12 : D10 34 0 = D 34 0 := by rw [hD10]; rfl
        have e13 : D10 35 0 = D 35 0 := by rw [hD10]; rfl
        have e14 : D10 36 0 = D 36 0 := by rw [hD10]; rfl
        refine jI_const d_X_keepIfBetter_41 ?_
        refine jx_istore d_X_keepIfBetter_42 (Nat.le_of_ble_eq_true rfl) rfl ?_
        try dsimp only [List.set]
        exact jx_weak (l_X_keep hB (D0 := D) (n := S 23 0) (by omega) (by omega) hp hs 6 0 _ _ hC hF (by rw [hD10]; exact kpR_0 D p set late) (by omega) (by omega)) (fun r w2 hh => by obtain ⟨h1, D2, h2, h3, h4⟩ := hh; exact ⟨h1, D2, h2, h3, by rw [hkeep]; exact ⟨h4.1, hl, fun k hk hbit => by show D2 41 (160 * p + (set * 5 + k)) = ts k ∧ (-1 ≤ ts k ∧ ts k ≤ 100000); rw [h4.2.1 k hk]; exact ht k hk hbit⟩, h4.2.2⟩)
      · exact jx_vret d_X_keepIfBetter_31 rfl ⟨rfl, D, hC, hF, by rw [keep_not hb hl ht (by omega)]; exact hb, fun g x _ _ => rfl⟩
