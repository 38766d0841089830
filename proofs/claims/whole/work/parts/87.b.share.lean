/-! 87.b.share: sharing out, telling -/
/-- but for the tables of ranks nothing has changed -/
abbrev frS (D0 D : mS) : Prop := ∀ g, g ≠ 44 → g ≠ 45 → D g = D0 g
theorem frS.rl {S D0 D : mS} (h : frS D0 D) (hR : rl S D0) : rl S D := hR.cD (fun f hf => h f (by omega) (by omega))
theorem frS.u {D0 D : mS} (h : frS D0 D) {f : Nat} {i v : Int} (hf : f = 44 ∨ f = 45) : frS D0 (sU D f i v) := fun g h1 h2 => by
  rw [sU_ne (by omega)]
  exact h g h1 h2
theorem l_X_share1 {E : jx_E} {l : Launch} {d : Nat} {w0 : jx_W} {S D0 : mS} {G : Nat → Nat → Nat} {lo hi : Nat} {n m : Int} {Q : jx_R → jx_W → Prop} {V : Option Value} (hB : jx_B E) (hn : 0 ≤ n ∧ n ≤ 5) (hm : 0 ≤ m ∧ m ≤ 4) (hR0 : rl S D0) (h46 : D0 46 0 = 2 ^ n.toNat) (K : ∀ (D : mS) (w : jx_W), cR E D w G lo hi → cF lo hi 0 w0 w → shB D n m (2 ^ n.toNat) → frS D0 D → jx_G E l Y_X_shareOut (d + 3) Q 37 [some (.ref (G 2 5)), some (.int (iI (m))), some (.int (iI (2 ^ n.toNat))), V] [] w) : ∀ (j : Nat) (k : Int) (D : mS) (w : jx_W), cR E D w G lo hi → cF lo hi 0 w0 w → shB D n m k → frS D0 D → 0 ≤ k ∧ k ≤ 2 ^ n.toNat → 2 ^ n.toNat - k < j → jx_G E l Y_X_shareOut (d + 3) Q 2 [some (.ref (G 2 5)), some (.int (iI (m))), some (.int (iI (k))), V] [] w := by
  have hp32 := pow_rg hn
  intro j
  induction j with
  | zero => intro k D w hC hF hsh hfr hk hj; exfalso; omega
  | succ j ih =>
    intro k D w hC hF hsh hfr hk hj
    have hR := hfr.rl hR0
    have hN := hR.N
    have e46 : D 46 0 = 2 ^ n.toNat := by rw [hfr 46 (by decide) (by decide)]; exact h46
    refine jx_iload_n d_X_shareOut_2 rfl rfl ?_
    refine jx_aload_n d_X_shareOut_3 rfl rfl ?_
    refine cx_sets d_X_shareOut_4 (f_X_58 hB) hC ?_
    refine jI_icmp_ge (tgt := 37) d_X_shareOut_7 (by decide) (by omega) (by omega) (fun hc1 => ?_) (fun hc1 => ?_)
    · (have e : k = 2 ^ n.toNat := by omega); rw [e] at hsh; rw [e]; exact K D _ hC hF hsh hfr
    · refine jx_aload_n d_X_shareOut_10 rfl rfl ?_
      refine cx_ptr (c2 := 2) (x2 := 12) d_X_shareOut_11 (f_X_35 hB) hC (by decide) (by decide) rfl ?_
      refine jx_iload_n d_X_shareOut_14 rfl rfl ?_
      refine cx_row12 d_X_shareOut_15 hC (by omega) ?_
      refine jx_iload_n d_X_shareOut_16 rfl rfl ?_
      refine jx_aload_n d_X_shareOut_17 rfl rfl ?_
      refine jx_iload_n d_X_shareOut_18 rfl rfl ?_
      refine jx_callS_r (As := [.int (iI (k))]) (v := some (.int (iI (bc k)))) d_X_shareOut_19 (m_JInteger_bitCount hB) (s_X_127 hB) rfl (Nat.le_of_ble_eq_true rfl) (Nat.le_of_ble_eq_true rfl) (w_bitCount5 hB (x := k) (by omega)) ?_
      have q2 := bc_rg (s := k) (by omega)
      refine jI_ldc d_X_shareOut_22 (k_X_132 hB) (n := 100000) (by decide) ?_
      refine jI_mul d_X_shareOut_24 ?_
      refine jI_const d_X_shareOut_25 ?_
      refine jx_iload_n d_X_shareOut_26 rfl rfl ?_
      refine jx_callV_r (As := [.int (iI ((bc k) * 100000)), .int (iI (4)), .int (iI (k))]) (v := some (.long (lI (((bc k) * 100000) * 3125 + 4 * D 43 k)))) d_X_shareOut_27 (m_X_rank hB) (v_X_133 hB) (by decide) (jx_c1 hB) (by rw [hC.kd (.inr (.inr (.inl ⟨rfl, by decide⟩)))]; rfl) rfl (Nat.le_of_ble_eq_true rfl) (Nat.le_of_ble_eq_true rfl) (w_X_rank hB hC hR (a := (bc k) * 100000) (q := 4) (s := k) (by omega) (by omega) (by omega)) ?_
      have v3 := hR.V (s := k) (by omega)
      have v4 := vl_rg (s := k) (by omega)
      have v5 := mul_rg (p := 4) (v := D 43 k) (by omega) (by omega)
      refine cx_st44 d_X_shareOut_30 hC (by omega) (by omega) (fun w hC hF1 => ?_)
      have hF := hF.tr hF1 (Nat.le_refl _)
      obtain ⟨D6, hD6⟩ : ∃ zz, zz = sU D 44 (32 * m + k) (((bc k) * 100000) * 3125 + 4 * D 43 k) := ⟨_, rfl⟩
      rw [← hD6] at hC
      have e7 : D6 33 0 = D 33 0 := by rw [hD6]; rfl
      have e8 : D6 34 0 = D 34 0 := by rw [hD6]; rfl
      have e9 : D6 35 0 = D 35 0 := by rw [hD6]; rfl
      have e10 : D6 36 0 = D 36 0 := by rw [hD6]; rfl
      refine jI_inc d_X_shareOut_31 rfl rfl ?_
      try dsimp only [List.set]
      refine jx_goto (tgt := 2) d_X_shareOut_34 (by decide) ?_
      exact ih (k + 1) _ _ hC hF (by rw [hD6]; exact shB_s hsh hk.1 (by rw [hR.V (s := k) (by omega)])) (by rw [hD6]; exact hfr.u (.inl rfl)) (by omega) (by omega)
theorem l_X_share3 {E : jx_E} {l : Launch} {d : Nat} {w0 : jx_W} {S D0 : mS} {G : Nat → Nat → Nat} {lo hi : Nat} {n m : Int} {Q : jx_R → jx_W → Prop} {q : Int} (hB : jx_B E) (hn : 0 ≤ n ∧ n ≤ 5) (hm : 0 ≤ m ∧ m ≤ 4) (hR0 : rl S D0) (h46 : D0 46 0 = 2 ^ n.toNat) (hL : ∀ q s, 0 ≤ q ∧ q < m → 0 ≤ s ∧ s < 2 ^ n.toNat → 0 ≤ D0 40 (32 * q + s) ∧ (D0 40 (32 * q + s) ≤ 600000 ∨ D0 40 (32 * q + s) = 1000000000)) (hq : 0 ≤ q ∧ q < m) (K : ∀ (D : mS) (w : jx_W), cR E D w G lo hi → cF lo hi 0 w0 w → shI (D0 40) D n m q (2 ^ n.toNat) → frS D0 D → jx_G E l Y_X_shareOut (d + 3) Q 67 [some (.ref (G 2 5)), some (.int (iI (m))), some (.int (iI (q))), some (.int (iI (2 ^ n.toNat)))] [] w) : ∀ (j : Nat) (k : Int) (D : mS) (w : jx_W), cR E D w G lo hi → cF lo hi 0 w0 w → shI (D0 40) D n m q k → frS D0 D → 0 ≤ k ∧ k ≤ 2 ^ n.toNat → 2 ^ n.toNat - k < j → jx_G E l Y_X_shareOut (d + 3) Q 47 [some (.ref (G 2 5)), some (.int (iI (m))), some (.int (iI (q))), some (.int (iI (k)))] [] w := by
  have hp32 := pow_rg hn
  intro j
  induction j with
  | zero => intro k D w hC hF hsh hfr hk hj; exfalso; omega
  | succ j ih =>
    intro k D w hC hF hsh hfr hk hj
    have hR := hfr.rl hR0
    have hN := hR.N
    have e46 : D 46 0 = 2 ^ n.toNat := by rw [hfr 46 (by decide) (by decide)]; exact h46
    have e40 : D 40 = D0 40 := hfr 40 (by decide) (by decide)
    refine jx_iload_n d_X_shareOut_47 rfl rfl ?_
    refine jx_aload_n d_X_shareOut_48 rfl rfl ?_
    refine cx_sets d_X_shareOut_49 (f_X_58 hB) hC ?_
    refine jI_icmp_ge (tgt := 67) d_X_shareOut_52 (by decide) (by omega) (by omega) (fun hc1 => ?_) (fun hc1 => ?_)
    · (have e : k = 2 ^ n.toNat := by omega); rw [e] at hsh; rw [e]; exact K D _ hC hF hsh hfr
    · refine jx_aload_n d_X_shareOut_55 rfl rfl ?_
      refine jx_iload_n d_X_shareOut_56 rfl rfl ?_
      refine jx_iload_n d_X_shareOut_57 rfl rfl ?_
      refine jc_callV (As := [.int (iI (q)), .int (iI (k))]) (v := none) d_X_shareOut_58 (m_X_chooseFrom hB) (v_X_137 hB) (by decide) (jx_c1 hB) (by rw [hC.kd (.inr (.inr (.inl ⟨rfl, by decide⟩)))]; rfl) rfl (Nat.le_of_ble_eq_true rfl) (Nat.le_of_ble_eq_true rfl) (w_X_chooseFrom hB hC hR (n := n) (q := q) (set := k) hn (by omega) (by omega) (fun s hs => by rw [e40]; exact hL q s hq (by omega)) (fun s hs => by (have hh := hsh.1.2.2 (q + 1) (by omega) s hs); omega)) (fun w hC hF1 => ?_)
      have hF := hF.tr hF1 (Nat.le_refl _)
      obtain ⟨D2, hD2⟩ : ∃ zz, zz = sU (sU D 44 (32 * q + k) (chq (D 40) (D 44) q k).1) 45 (32 * q + k) (chq (D 40) (D 44) q k).2 := ⟨_, rfl⟩
      rw [← hD2] at hC
      have e3 : D2 33 0 = D 33 0 := by rw [hD2]; rfl
      have e4 : D2 34 0 = D 34 0 := by rw [hD2]; rfl
      have e5 : D2 35 0 = D 35 0 := by rw [hD2]; rfl
      have e6 : D2 36 0 = D 36 0 := by rw [hD2]; rfl
      refine jI_inc d_X_shareOut_61 rfl rfl ?_
      try dsimp only [List.set]
      refine jx_goto (tgt := 47) d_X_shareOut_64 (by decide) ?_
      exact ih (k + 1) _ _ hC hF (by rw [hD2, e40]; exact shI_s hn hq hm.2 (by omega) (fun s hs => (hL q s hq hs).1) hsh) (by rw [hD2]; exact (hfr.u (.inl rfl)).u (.inr rfl)) (by omega) (by omega)
theorem l_X_share2 {E : jx_E} {l : Launch} {d : Nat} {w0 : jx_W} {S D0 : mS} {G : Nat → Nat → Nat} {lo hi : Nat} {n m : Int} (hB : jx_B E) (hn : 0 ≤ n ∧ n ≤ 5) (hm : 0 ≤ m ∧ m ≤ 4) (hR0 : rl S D0) (h46 : D0 46 0 = 2 ^ n.toNat) (hL : ∀ q s, 0 ≤ q ∧ q < m → 0 ≤ s ∧ s < 2 ^ n.toNat → 0 ≤ D0 40 (32 * q + s) ∧ (D0 40 (32 * q + s) ≤ 600000 ∨ D0 40 (32 * q + s) = 1000000000)) : ∀ (j : Nat) (q : Int) (D : mS) (w : jx_W) (V : Option Value), cR E D w G lo hi → cF lo hi 0 w0 w → shR (D0 40) D n m q → frS D0 D → -1 ≤ q ∧ q < m → q + 1 < j → jx_G E l Y_X_shareOut (d + 3) (cpp E G lo hi w0 0 none (fun D2 => shR (D0 40) D2 n m (-1) ∧ frS D0 D2)) 41 [some (.ref (G 2 5)), some (.int (iI (m))), some (.int (iI (q))), V] [] w := by
  have hp32 := pow_rg hn
  intro j
  induction j with
  | zero => intro q D w V hC hF hsh hfr hq hj; exfalso; omega
  | succ j ih =>
    intro q D w V hC hF hsh hfr hq hj
    refine jx_iload_n d_X_shareOut_41 rfl rfl ?_
    refine jI_if_lt (tgt := 73) d_X_shareOut_42 (by decide) (by omega) (fun hc1 => ?_) (fun hc1 => ?_)
    · exact jx_vret d_X_shareOut_73 rfl ⟨rfl, D, hC, hF, by (have e : q = -1 := by omega); rw [← e]; exact hsh, hfr⟩
    · refine jI_const d_X_shareOut_45 ?_
      refine jx_istore_n d_X_shareOut_46 rfl (Nat.le_of_ble_eq_true rfl) rfl ?_
      try dsimp only [List.set]
      refine l_X_share3 hB hn hm hR0 h46 hL (by omega) (fun D w hC hF hsh hfr => ?_) 33 0 D _ hC hF ⟨hsh, fun s hs => by omega⟩ hfr (by omega) (by omega)
      refine jI_inc d_X_shareOut_67 rfl rfl ?_
      try dsimp only [List.set]
      refine jx_goto (tgt := 41) d_X_shareOut_70 (by decide) ?_
      exact ih (q + (-1)) D _ _ hC hF (by rw [show q + (-1) = q - 1 by omega]; exact shI_next hsh) hfr (by omega) (by omega)
theorem w_X_shareOut {E : jx_E} {l : Launch} {d : Nat} {S D0 : mS} {G : Nat → Nat → Nat} {lo hi : Nat} {n m : Int} {w : jx_W} (hB : jx_B E) (hn : 0 ≤ n ∧ n ≤ 5) (hm : 0 ≤ m ∧ m ≤ 4) (hR0 : rl S D0) (h46 : D0 46 0 = 2 ^ n.toNat) (hL : ∀ q s, 0 ≤ q ∧ q < m → 0 ≤ s ∧ s < 2 ^ n.toNat → 0 ≤ D0 40 (32 * q + s) ∧ (D0 40 (32 * q + s) ≤ 600000 ∨ D0 40 (32 * q + s) = 1000000000)) (hC : cR E D0 w G lo hi) : jx_G E l Y_X_shareOut (d + 3) (cpp E G lo hi w 0 none (fun D2 => shR (D0 40) D2 n m (-1) ∧ frS D0 D2)) 0 (jx_ent [.ref (G 2 5), .int (iI m)] 4) [] w := by
  have hp32 := pow_rg hn
  show jx_G E l Y_X_shareOut (d + 3) _ 0 [some (.ref (G 2 5)), some (.int (iI m)), none, none] [] w
  refine jI_const d_X_shareOut_0 ?_
  refine jx_istore_n d_X_shareOut_1 rfl (Nat.le_of_ble_eq_true rfl) rfl ?_
  try dsimp only [List.set]
  refine l_X_share1 hB hn hm hR0 h46 (fun D w hC hF hsh hfr => ?_) 33 0 D0 _ hC cF.rf (fun s hs => by omega) (fun _ _ _ => rfl) (by omega) (by omega)
  refine jx_iload_n d_X_shareOut_37 rfl rfl ?_
  refine jI_const d_X_shareOut_38 ?_
  refine jI_sub d_X_shareOut_39 ?_
  refine jx_istore_n d_X_shareOut_40 rfl (Nat.le_of_ble_eq_true rfl) rfl ?_
  try dsimp only [List.set]
  exact l_X_share2 hB hn hm hR0 h46 hL 6 (m - 1) D _ _ hC hF (shB_R hn hsh) hfr (by omega) (by omega)
