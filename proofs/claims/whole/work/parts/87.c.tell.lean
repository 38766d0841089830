/-! 87.c.tell: telling the plan -/
/-- but for whom and when nothing has changed -/
abbrev frK (D0 D : mS) : Prop := ∀ g, g ≠ 26 → g ≠ 27 → D g = D0 g
/-- the starts of the sets taken -/
def stK (D0 : mS) (n q k : Int) : Int := D0 41 (160 * q + (tkn (D0 45) n q * 5 + k))
theorem l_X_tellI {E : jx_E} {l : Launch} {d : Nat} {w0 : jx_W} {S D0 : mS} {G : Nat → Nat → Nat} {lo hi : Nat} {LT RT : Int → Int} {Q : jx_R → jx_W → Prop} {q lf : Int} {T : mS} (hB : jx_B E) (h4 : S 0 0 ≤ 4) (hn0 : fewR S D0) (h13 : ∀ k, 0 ≤ k ∧ k < S 23 0 → S 13 (S 22 k) = 0) (hdp : dpT LT RT (D0 45) (S 23 0) (S 0 0)) (hst : ∀ q k, 0 ≤ q ∧ q < S 0 0 → 0 ≤ k ∧ k < S 23 0 → sBit (tkn (D0 45) (S 23 0) q) k = 1 → -1 ≤ stK D0 (S 23 0) q k ∧ stK D0 (S 23 0) q k ≤ 100000) (hq : 0 ≤ q ∧ q < S 0 0) (hT : ∀ g, g ≠ 19 → g ≠ 20 → T g = S g) (K : ∀ (D : mS) (w : jx_W), cR E D w G lo hi → cF lo hi 0 w0 w → rl (sFor (gT1 (S 22) (tkn (D0 45) (S 23 0) q) (stK D0 (S 23 0) q) q) T (S 23 0)) D → frK D0 D → jx_G E l Y_X_tell (d + 3) Q 86 [some (.ref (G 2 5)), some (.int (iI (S 0 0))), some (.int (iI (lf))), some (.int (iI (q))), some (.int (iI (tkn (D0 45) (S 23 0) q))), some (.int (iI (S 23 0)))] [] w) : ∀ (j : Nat) (i : Int) (D : mS) (w : jx_W), cR E D w G lo hi → cF lo hi 0 w0 w → rl (sFor (gT1 (S 22) (tkn (D0 45) (S 23 0) q) (stK D0 (S 23 0) q) q) T i) D → frK D0 D → 0 ≤ i ∧ i ≤ S 23 0 → S 23 0 - i < j → jx_G E l Y_X_tell (d + 3) Q 27 [some (.ref (G 2 5)), some (.int (iI (S 0 0))), some (.int (iI (lf))), some (.int (iI (q))), some (.int (iI (tkn (D0 45) (S 23 0) q))), some (.int (iI (i)))] [] w := by
  have h5 := hn0.2.1
  have hp32 := pow_rg h5
  have htk := (tkn_ok h5.1 hdp hq).1
  intro j
  induction j with
  | zero => intro i D w hC hF hR hfr hi2 hj; exfalso; omega
  | succ j ih =>
    intro i D w hC hF hR hfr hi2 hj
    obtain ⟨T2, hT2⟩ : ∃ zz, zz = sFor (gT1 (S 22) (tkn (D0 45) (S 23 0) q) (stK D0 (S 23 0) q) q) T i := ⟨_, rfl⟩
    rw [← hT2] at hR
    have hN := hR.N
    have t2 : ∀ g, g ≠ 19 → g ≠ 20 → T2 g = S g := fun g a b => by rw [hT2, tell1_ne a b]; exact hT g a b
    have t0 : T2 0 0 = S 0 0 := by rw [t2 0 (by decide) (by decide)]
    have t1 : T2 1 0 = S 1 0 := by rw [t2 1 (by decide) (by decide)]
    have e36 : D 36 0 = S 23 0 := by rw [hfr 36 (by decide) (by decide)]; exact hn0.1
    refine jx_iload d_X_tell_27 rfl ?_
    refine jx_aload_n d_X_tell_29 rfl rfl ?_
    refine cx_ptr (c2 := 2) (x2 := 7) d_X_tell_30 (f_X_12 hB) hC (by decide) (by decide) rfl ?_
    refine cx_size 3 7 36 rfl hB d_X_tell_33 (v_X_48 hB) hC (by decide) rfl (Nat.le_of_ble_eq_true rfl) ?_
    refine jI_icmp_ge (tgt := 86) d_X_tell_36 (by decide) (by omega) (by omega) (fun hc1 => ?_) (fun hc1 => ?_)
    · (have e : i = S 23 0 := by omega); rw [e] at hT2; rw [hT2] at hR; rw [e]; exact K D _ hC hF hR hfr
    · refine jx_iload d_X_tell_39 rfl ?_
      refine jx_iload d_X_tell_41 rfl ?_
      refine jI_bit d_X_tell_43 d_X_tell_44 d_X_tell_45 ⟨by omega, by omega⟩ ⟨by omega, by omega⟩ ?_
      have b2 := sBit_01 (tkn (D0 45) (S 23 0) q) i
      refine jI_const d_X_tell_46 ?_
      refine jI_icmp_ne (tgt := 80) d_X_tell_47 (by decide) (by omega) (by omega) (fun hc3 => ?_) (fun hc3 => ?_)
      · refine jI_inc d_X_tell_80 rfl rfl ?_
        try dsimp only [List.set]
        refine jx_goto (tgt := 27) d_X_tell_83 (by decide) ?_
        exact ih (i + 1) _ _ hC hF (by rw [sFor_s _ _ (by omega), ← hT2]; unfold gT1; rw [if_neg (by omega)]; exact hR) hfr (by omega) (by omega)
      · refine jx_aload_n d_X_tell_50 rfl rfl ?_
        refine cx_ptr (c2 := 2) (x2 := 7) d_X_tell_51 (f_X_12 hB) hC (by decide) (by decide) rfl ?_
        refine jx_iload d_X_tell_54 rfl ?_
        refine cx_at3 hB d_X_tell_56 (v_X_52 hB) hC (by omega) (Nat.le_of_ble_eq_true rfl) ?_
        have h38 := hn0.2.2.2 i (by omega)
        have e38 : D 38 i = S 22 i := by rw [hfr 38 (by decide) (by decide)]; exact h38.1
        rw [e38]
        refine jx_cast d_X_tell_59 (h_X_90 hB) (h_cast3 hB) (by decide) (jx_c3 hB) (by rw [hC.kd (.inr (.inl ⟨rfl, by omega⟩))]; rfl) ?_
        refine jx_iload_n d_X_tell_62 rfl rfl ?_
        refine jx_aload_n d_X_tell_63 rfl rfl ?_
        refine cx_ptr (c2 := 2) (x2 := 9) d_X_tell_64 (f_X_23 hB) hC (by decide) (by decide) rfl ?_
        refine jx_iload_n d_X_tell_67 rfl rfl ?_
        refine cx_row9 d_X_tell_68 hC (by omega) ?_
        refine jx_iload d_X_tell_69 rfl ?_
        refine jI_const d_X_tell_71 ?_
        refine jI_mul d_X_tell_72 ?_
        refine jx_iload d_X_tell_73 rfl ?_
        refine jI_add d_X_tell_75 ?_
        refine cx_ld41 d_X_tell_76 hC (by omega) (by omega) ?_
        have ev : D 41 (160 * q + (((tkn (D0 45) (S 23 0) q) * 5) + i)) = stK D0 (S 23 0) q i := by rw [hfr 41 (by decide) (by decide)]; rfl
        have hv := hst q i hq (by omega) (by omega)
        rw [ev]
        refine jc_callV (As := [.int (iI (q)), .int (iI (stK D0 (S 23 0) q i))]) (v := none) d_X_tell_77 (m_K_planFor hB) (v_X_141 hB) (by decide) (jx_c3 hB) (by rw [hC.kd (.inr (.inl ⟨rfl, by omega⟩))]; rfl) rfl (Nat.le_of_ble_eq_true rfl) (Nat.le_of_ble_eq_true rfl) (w_K_planFor hB hC (t := S 22 i) (q := q) (s := stK D0 (S 23 0) q i) (by omega)) (fun w hC hF1 => ?_)
        have hF := hF.tr hF1 (Nat.le_refl _)
        obtain ⟨D4, hD4⟩ : ∃ zz, zz = sU (sU D 26 (S 22 i) q) 27 (S 22 i) (stK D0 (S 23 0) q i) := ⟨_, rfl⟩
        rw [← hD4] at hC
        have e5 : D4 33 0 = D 33 0 := by rw [hD4]; rfl
        have e6 : D4 34 0 = D 34 0 := by rw [hD4]; rfl
        have e7 : D4 35 0 = D 35 0 := by rw [hD4]; rfl
        have e8 : D4 36 0 = D 36 0 := by rw [hD4]; rfl
        refine jI_inc d_X_tell_80 rfl rfl ?_
        try dsimp only [List.set]
        refine jx_goto (tgt := 27) d_X_tell_83 (by decide) ?_
        exact ih (i + 1) _ _ hC hF (by rw [hD4, sFor_s _ _ (by omega), ← hT2]; unfold gT1; rw [if_pos (by omega)]; exact keep_plan hR (by omega) (by rw [t2 13 (by decide) (by decide)]; exact h13 i (by omega)) (by omega) hv) (fun g a b => by rw [hD4, sU_ne b, sU_ne a]; exact hfr g a b) (by omega) (by omega)
theorem l_X_tell {E : jx_E} {l : Launch} {d : Nat} {w0 : jx_W} {S D0 : mS} {G : Nat → Nat → Nat} {lo hi : Nat} {LT RT : Int → Int} (hB : jx_B E) (h4 : S 0 0 ≤ 4) (hn0 : fewR S D0) (h13 : ∀ k, 0 ≤ k ∧ k < S 23 0 → S 13 (S 22 k) = 0) (hdp : dpT LT RT (D0 45) (S 23 0) (S 0 0)) (hst : ∀ q k, 0 ≤ q ∧ q < S 0 0 → 0 ≤ k ∧ k < S 23 0 → sBit (tkn (D0 45) (S 23 0) q) k = 1 → -1 ≤ stK D0 (S 23 0) q k ∧ stK D0 (S 23 0) q k ≤ 100000) : ∀ (j : Nat) (q : Int) (D : mS) (w : jx_W) (V U : Option Value), cR E D w G lo hi → cF lo hi 0 w0 w → rl (sFor (gT2 (S 22) (tkn (D0 45) (S 23 0)) (stK D0 (S 23 0)) (S 23 0)) S q) D → frK D0 D → 0 ≤ q ∧ q ≤ S 0 0 → S 0 0 - q < j → jx_G E l Y_X_tell (d + 3) (cpp E G lo hi w0 0 none (fun D2 => rl (sFor (gT2 (S 22) (tkn (D0 45) (S 23 0)) (stK D0 (S 23 0)) (S 23 0)) S (S 0 0)) D2 ∧ frK D0 D2)) 9 [some (.ref (G 2 5)), some (.int (iI (S 0 0))), some (.int (iI (lft (D0 45) (S 23 0) q))), some (.int (iI (q))), V, U] [] w := by
  have h5 := hn0.2.1
  have hp32 := pow_rg h5
  intro j
  induction j with
  | zero => intro q D w V U hC hF hR hfr hq hj; exfalso; omega
  | succ j ih =>
    intro q D w V U hC hF hR hfr hq hj
    have hlf : q < S 0 0 → 0 ≤ lft (D0 45) (S 23 0) q ∧ lft (D0 45) (S 23 0) q < 2 ^ (S 23 0).toNat := fun h => by
      have := lft_ok h5.1 hdp q.toNat (by omega)
      rw [Int.toNat_of_nonneg hq.1] at this
      exact this
    have htk : q < S 0 0 → 0 ≤ tkn (D0 45) (S 23 0) q ∧ tkn (D0 45) (S 23 0) q < 2 ^ (S 23 0).toNat := fun h => (tkn_ok h5.1 hdp ⟨hq.1, h⟩).1
    refine jx_iload_n d_X_tell_9 rfl rfl ?_
    refine jx_iload_n d_X_tell_10 rfl rfl ?_
    refine jI_icmp_ge (tgt := 97) d_X_tell_11 (by decide) (by omega) (by omega) (fun hc1 => ?_) (fun hc1 => ?_)
    · exact jx_vret d_X_tell_97 rfl ⟨rfl, D, hC, hF, by (have e : q = S 0 0 := by omega); rw [← e]; exact hR, hfr⟩
    · have hlf2 := hlf (by omega)
      have htk2 := htk (by omega)
      refine jx_aload_n d_X_tell_14 rfl rfl ?_
      refine cx_ptr (c2 := 2) (x2 := 13) d_X_tell_15 (f_X_38 hB) hC (by decide) (by decide) rfl ?_
      refine jx_iload_n d_X_tell_18 rfl rfl ?_
      refine cx_row13 d_X_tell_19 hC (by omega) ?_
      refine jx_iload_n d_X_tell_20 rfl rfl ?_
      refine cx_ld45 d_X_tell_21 hC (by omega) (by omega) ?_
      rw [show D 45 (32 * q + (lft (D0 45) (S 23 0) q)) = tkn (D0 45) (S 23 0) q by rw [hfr 45 (by decide) (by decide)]; rfl]
      refine jx_istore d_X_tell_22 (Nat.le_of_ble_eq_true rfl) rfl ?_
      try dsimp only [List.set]
      refine jI_const d_X_tell_24 ?_
      refine jx_istore d_X_tell_25 (Nat.le_of_ble_eq_true rfl) rfl ?_
      try dsimp only [List.set]
      refine l_X_tellI hB h4 hn0 h13 hdp hst (by omega) (T := sFor (gT2 (S 22) (tkn (D0 45) (S 23 0)) (stK D0 (S 23 0)) (S 23 0)) S q) (fun g a b => tell2_ne a b) (fun D w hC hF hR hfr => ?_) 6 0 D _ hC hF (by rw [sFor_0]; exact hR) hfr (by omega) (by omega)
      refine jx_iload_n d_X_tell_86 rfl rfl ?_
      refine jx_iload d_X_tell_87 rfl ?_
      refine jI_xor d_X_tell_89 ⟨by omega, by omega⟩ ⟨by omega, by omega⟩ ?_
      have u2 := xr_rg (x := lft (D0 45) (S 23 0) q) (y := tkn (D0 45) (S 23 0) q) ⟨by omega, by omega⟩ ⟨by omega, by omega⟩
      refine jx_istore_n d_X_tell_90 rfl (Nat.le_of_ble_eq_true rfl) rfl ?_
      try dsimp only [List.set]
      refine jI_inc d_X_tell_91 rfl rfl ?_
      try dsimp only [List.set]
      refine jx_goto (tgt := 9) d_X_tell_94 (by decide) ?_
      (have el : xr (lft (D0 45) (S 23 0) q) (tkn (D0 45) (S 23 0) q) = lft (D0 45) (S 23 0) (q + 1) := (lft_s (by omega)).symm); rw [el]; exact ih (q + 1) D _ _ _ hC hF (by rw [sFor_s _ _ (by omega)]; exact hR) hfr (by omega) (by omega)
theorem w_X_tell {E : jx_E} {l : Launch} {d : Nat} {S D0 : mS} {G : Nat → Nat → Nat} {lo hi : Nat} {LT RT : Int → Int} {w : jx_W} (hB : jx_B E) (h4 : S 0 0 ≤ 4) (hn0 : fewR S D0) (h13 : ∀ k, 0 ≤ k ∧ k < S 23 0 → S 13 (S 22 k) = 0) (hdp : dpT LT RT (D0 45) (S 23 0) (S 0 0)) (hst : ∀ q k, 0 ≤ q ∧ q < S 0 0 → 0 ≤ k ∧ k < S 23 0 → sBit (tkn (D0 45) (S 23 0) q) k = 1 → -1 ≤ stK D0 (S 23 0) q k ∧ stK D0 (S 23 0) q k ≤ 100000) (hR : rl S D0) (hC : cR E D0 w G lo hi) : jx_G E l Y_X_tell (d + 3) (cpp E G lo hi w 0 none (fun D2 => rl (sFor (gT2 (S 22) (tkn (D0 45) (S 23 0)) (stK D0 (S 23 0)) (S 23 0)) S (S 0 0)) D2 ∧ frK D0 D2)) 0 (jx_ent [.ref (G 2 5), .int (iI (S 0 0))] 6) [] w := by
  have h46 := hn0.2.2.1
  have hN := hR.N
  show jx_G E l Y_X_tell (d + 3) _ 0 [some (.ref (G 2 5)), some (.int (iI (S 0 0))), none, none, none, none] [] w
  refine jx_aload_n d_X_tell_0 rfl rfl ?_
  refine cx_sets d_X_tell_1 (f_X_58 hB) hC ?_
  refine jI_const d_X_tell_4 ?_
  refine jI_sub d_X_tell_5 ?_
  refine jx_istore_n d_X_tell_6 rfl (Nat.le_of_ble_eq_true rfl) rfl ?_
  try dsimp only [List.set]
  refine jI_const d_X_tell_7 ?_
  refine jx_istore_n d_X_tell_8 rfl (Nat.le_of_ble_eq_true rfl) rfl ?_
  try dsimp only [List.set]
  rw [show (D0 46 0) - 1 = lft (D0 45) (S 23 0) 0 by rw [h46]; rfl]; exact l_X_tell hB h4 hn0 h13 hdp hst 5 0 D0 _ _ _ hC cF.rf (by rw [sFor_0]; exact hR) (fun _ _ _ => rfl) (by omega) (by omega)
