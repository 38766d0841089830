/-! 84.cexact: the exact planner, its small methods -/
theorem w_X_rank {E : jx_E} {l : Launch} {d : Nat} {w : jx_W} {D S : mS} {G : Nat → Nat → Nat} {lo hi : Nat} {a q s : Int} (hB : jx_B E) (hC : cR E D w G lo hi) (hR : rl S D) (ha : 0 ≤ a ∧ a ≤ 1000000) (hq : 0 ≤ q ∧ q ≤ 4) (hs : 0 ≤ s ∧ s < 32) : jx_G E l Y_X_rank (d) (jx_eq (.inr (some (.long (lI (a * 3125 + q * D 43 s))))) w) 0 (jx_ent [.ref (G 2 5), .int (iI (a)), .int (iI (q)), .int (iI (s))] 4) [] w := by
  show jx_G E l Y_X_rank (d) _ 0 [some (.ref (G 2 5)), some (.int (iI (a))), some (.int (iI (q))), some (.int (iI (s)))] [] w
  have hN := hR.N
  have hv := hR.V (s := s) (by omega)
  have hv2 := vl_rg (s := s) (by omega)
  have hm := mul_rg (p := q) (v := D 43 s) (by omega) (by omega)
  refine jx_iload_n d_X_rank_0 rfl rfl ?_
  refine jL_i2l d_X_rank_1 (by omega) ?_
  refine jL_ldc2 d_X_rank_2 (k_X_125 hB) (n := 3125) (by decide) ?_
  refine jL_mul d_X_rank_5 ?_
  refine jx_iload_n d_X_rank_6 rfl rfl ?_
  refine jx_aload_n d_X_rank_7 rfl rfl ?_
  refine cx_ptr (c2 := 2) (x2 := 11) d_X_rank_8 (f_X_30 hB) hC (by decide) (by decide) rfl ?_
  refine jx_iload_n d_X_rank_11 rfl rfl ?_
  refine cx_ld43 d_X_rank_12 hC (by omega) ?_
  refine jI_mul d_X_rank_13 ?_
  refine jL_i2l d_X_rank_14 (by omega) ?_
  refine jL_add d_X_rank_15 ?_
  exact jx_lret d_X_rank_16 rfl ⟨rfl, rfl⟩
theorem less_no {tr st : Int → Int} {set k : Int} (h : ¬ (sBit set k = 1 ∧ tr k ≠ st k)) : gLess tr st set 2 k = 2 := by
  unfold gLess
  rw [if_neg (by omega), if_neg h]
theorem l_X_startsEarlier {E : jx_E} {l : Launch} {d : Nat} {w : jx_W} {D S : mS} {G : Nat → Nat → Nat} {lo hi : Nat} {p set : Int} (hB : jx_B E) (hC : cR E D w G lo hi) (hR : rl S D) (hn : fewR S D) (hp : 0 ≤ p ∧ p < 4) (hs : 0 ≤ set ∧ set < 32) (hr : ∀ k, 0 ≤ k ∧ k < S 23 0 → sBit set k = 1 → iR (D 42 k) ∧ iR (D 41 (160 * p + (set * 5 + k)))) : ∀ (j : Nat) (t : Int) (X : Option Value), iFor (gLess (D 42) (fun k => D 41 (160 * p + (set * 5 + k))) set) 2 t = 2 → 0 ≤ t ∧ t ≤ S 23 0 → S 23 0 - t < j → jx_G E l Y_X_startsEarlier (d + 1) (jx_eq (.inr (some (.int (iI (sLess (D 42) (fun k => D 41 (160 * p + (set * 5 + k))) set (S 23 0)))))) w) 2 [some (.ref (G 2 5)), some (.int (iI (p))), some (.int (iI (set))), some (.int (iI (t))), X] [] w := by
  have hN := hR.N
  intro j
  induction j with
  | zero => intro t X hx ht hz; exfalso; omega
  | succ j ih =>
    intro t X hx ht hz
    refine jx_iload_n d_X_startsEarlier_2 rfl rfl ?_
    refine jx_aload_n d_X_startsEarlier_3 rfl rfl ?_
    refine cx_ptr (c2 := 2) (x2 := 7) d_X_startsEarlier_4 (f_X_12 hB) hC (by decide) (by decide) rfl ?_
    refine cx_size 3 7 36 rfl hB d_X_startsEarlier_7 (v_X_48 hB) hC (by decide) rfl (Nat.le_of_ble_eq_true rfl) ?_
    refine jI_icmp_ge (tgt := 70) d_X_startsEarlier_10 (by decide) (by omega) (by omega) (fun hc1 => ?_) (fun hc1 => ?_)
    · refine jI_const d_X_startsEarlier_70 ?_
      exact jx_zret d_X_startsEarlier_71 rfl (jI_bool (by omega)) ⟨jr_i (by first | ((have e : t = S 23 0 := by omega); unfold sLess; rw [← e, hx, if_neg (by decide)]; done) | (unfold sLess; rw [gLess_stay (k := t) (x := 0) (by omega) hx (by unfold gLess; rw [if_neg (by omega), if_pos ⟨by omega, by omega⟩, if_neg (show ¬ D 42 t < D 41 (160 * p + (set * 5 + t)) by omega)]) (by decide), if_neg (by decide)])), rfl⟩
    · refine jx_aload_n d_X_startsEarlier_13 rfl rfl ?_
      refine cx_ptr (c2 := 2) (x2 := 9) d_X_startsEarlier_14 (f_X_23 hB) hC (by decide) (by decide) rfl ?_
      refine jx_iload_n d_X_startsEarlier_17 rfl rfl ?_
      refine cx_row9 d_X_startsEarlier_18 hC (by omega) ?_
      refine jx_iload_n d_X_startsEarlier_19 rfl rfl ?_
      refine jI_const d_X_startsEarlier_20 ?_
      refine jI_mul d_X_startsEarlier_21 ?_
      refine jx_iload_n d_X_startsEarlier_22 rfl rfl ?_
      refine jI_add d_X_startsEarlier_23 ?_
      refine cx_ld41 d_X_startsEarlier_24 hC (by omega) (by omega) ?_
      refine jx_istore d_X_startsEarlier_25 (Nat.le_of_ble_eq_true rfl) rfl ?_
      try dsimp only [List.set]
      refine jx_iload_n d_X_startsEarlier_27 rfl rfl ?_
      refine jx_iload_n d_X_startsEarlier_28 rfl rfl ?_
      refine jI_bit d_X_startsEarlier_29 d_X_startsEarlier_30 d_X_startsEarlier_31 ⟨by omega, by omega⟩ ⟨by omega, by omega⟩ ?_
      have b2 := sBit_01 set t
      refine jI_const d_X_startsEarlier_32 ?_
      refine jI_icmp_ne (tgt := 64) d_X_startsEarlier_33 (by decide) (by omega) (by omega) (fun hc3 => ?_) (fun hc3 => ?_)
      · refine jI_inc d_X_startsEarlier_64 rfl rfl ?_
        try dsimp only [List.set]
        refine jx_goto (tgt := 2) d_X_startsEarlier_67 (by decide) ?_
        exact ih (t + 1) _ (by rw [iFor_s _ _ (by omega), hx]; exact less_no (by omega)) (by omega) (by omega)
      · have hrt := hr t (by omega) (by omega)
        refine jx_aload_n d_X_startsEarlier_36 rfl rfl ?_
        refine cx_ptr (c2 := 2) (x2 := 10) d_X_startsEarlier_37 (f_X_26 hB) hC (by decide) (by decide) rfl ?_
        refine jx_iload_n d_X_startsEarlier_40 rfl rfl ?_
        refine cx_ld42 d_X_startsEarlier_41 hC (by omega) ?_
        refine jx_iload d_X_startsEarlier_42 rfl ?_
        refine jI_icmp_eq (tgt := 64) d_X_startsEarlier_44 (by decide) (by omega) (by omega) (fun hc4 => ?_) (fun hc4 => ?_)
        · refine jI_inc d_X_startsEarlier_64 rfl rfl ?_
          try dsimp only [List.set]
          refine jx_goto (tgt := 2) d_X_startsEarlier_67 (by decide) ?_
          exact ih (t + 1) _ (by rw [iFor_s _ _ (by omega), hx]; exact less_no (by omega)) (by omega) (by omega)
        · refine jx_aload_n d_X_startsEarlier_47 rfl rfl ?_
          refine cx_ptr (c2 := 2) (x2 := 10) d_X_startsEarlier_48 (f_X_26 hB) hC (by decide) (by decide) rfl ?_
          refine jx_iload_n d_X_startsEarlier_51 rfl rfl ?_
          refine cx_ld42 d_X_startsEarlier_52 hC (by omega) ?_
          refine jx_iload d_X_startsEarlier_53 rfl ?_
          refine jI_icmp_ge (tgt := 62) d_X_startsEarlier_55 (by decide) (by omega) (by omega) (fun hc5 => ?_) (fun hc5 => ?_)
          · refine jI_const d_X_startsEarlier_62 ?_
            exact jx_zret d_X_startsEarlier_63 rfl (jI_bool (by omega)) ⟨jr_i (by first | ((have e : t = S 23 0 := by omega); unfold sLess; rw [← e, hx, if_neg (by decide)]; done) | (unfold sLess; rw [gLess_stay (k := t) (x := 0) (by omega) hx (by unfold gLess; rw [if_neg (by omega), if_pos ⟨by omega, by omega⟩, if_neg (show ¬ D 42 t < D 41 (160 * p + (set * 5 + t)) by omega)]) (by decide), if_neg (by decide)])), rfl⟩
          · refine jI_const d_X_startsEarlier_58 ?_
            refine jx_goto (tgt := 63) d_X_startsEarlier_59 (by decide) ?_
            exact jx_zret d_X_startsEarlier_63 rfl (jI_bool (by omega)) ⟨jr_i (by unfold sLess; rw [gLess_stay (k := t) (x := 1) (by omega) hx (by unfold gLess; rw [if_neg (by omega), if_pos ⟨by omega, by omega⟩, if_pos (show D 42 t < D 41 (160 * p + (set * 5 + t)) by omega)]) (by decide), if_pos rfl]), rfl⟩
theorem w_X_startsEarlier {E : jx_E} {l : Launch} {d : Nat} {w : jx_W} {D S : mS} {G : Nat → Nat → Nat} {lo hi : Nat} {p set : Int} (hB : jx_B E) (hC : cR E D w G lo hi) (hR : rl S D) (hn : fewR S D) (hp : 0 ≤ p ∧ p < 4) (hs : 0 ≤ set ∧ set < 32) (hr : ∀ k, 0 ≤ k ∧ k < S 23 0 → sBit set k = 1 → iR (D 42 k) ∧ iR (D 41 (160 * p + (set * 5 + k)))) : jx_G E l Y_X_startsEarlier (d + 1) (jx_eq (.inr (some (.int (iI (sLess (D 42) (fun k => D 41 (160 * p + (set * 5 + k))) set (S 23 0)))))) w) 0 (jx_ent [.ref (G 2 5), .int (iI (p)), .int (iI (set))] 5) [] w := by
  show jx_G E l Y_X_startsEarlier (d + 1) _ 0 [some (.ref (G 2 5)), some (.int (iI (p))), some (.int (iI (set))), none, none] [] w
  have hN := hR.N
  refine jI_const d_X_startsEarlier_0 ?_
  refine jx_istore_n d_X_startsEarlier_1 rfl (Nat.le_of_ble_eq_true rfl) rfl ?_
  try dsimp only [List.set]
  exact l_X_startsEarlier hB hC hR hn hp hs hr 6 0 _ rfl (by omega) (by omega)
theorem ch_step {LT RT : Int → Int} {q set k v t : Int} (hk : 1 ≤ k) (hv : v = (aFor (gCh LT RT q set) (RT (32 * (q + 1) + set), 0) (k - 1)).1) (ht : t = (aFor (gCh LT RT q set) (RT (32 * (q + 1) + set), 0) (k - 1)).2) :
    ((sbs k set ∧ LT (32 * q + k) ≠ 1000000000 ∧ LT (32 * q + k) * 3125 + q * vl k + RT (32 * (q + 1) + xr set k) < v) → LT (32 * q + k) * 3125 + q * vl k + RT (32 * (q + 1) + xr set k) = (aFor (gCh LT RT q set) (RT (32 * (q + 1) + set), 0) (k + 1 - 1)).1 ∧ k = (aFor (gCh LT RT q set) (RT (32 * (q + 1) + set), 0) (k + 1 - 1)).2) ∧
    (¬ (sbs k set ∧ LT (32 * q + k) ≠ 1000000000 ∧ LT (32 * q + k) * 3125 + q * vl k + RT (32 * (q + 1) + xr set k) < v) → v = (aFor (gCh LT RT q set) (RT (32 * (q + 1) + set), 0) (k + 1 - 1)).1 ∧ t = (aFor (gCh LT RT q set) (RT (32 * (q + 1) + set), 0) (k + 1 - 1)).2) := by
  rw [show k + 1 - 1 = (k - 1) + 1 by omega, aFor_s _ _ (by omega)]
  generalize aFor (gCh LT RT q set) (RT (32 * (q + 1) + set), 0) (k - 1) = f at hv ht
  subst hv ht
  unfold gCh
  rw [show k - 1 + 1 = k by omega]
  constructor
  · intro h
    rw [if_pos h]
    exact ⟨rfl, rfl⟩
  · intro h
    rw [if_neg h]
    exact ⟨rfl, rfl⟩
theorem l_X_chooseFrom {E : jx_E} {l : Launch} {d : Nat} {w : jx_W} {D S : mS} {G : Nat → Nat → Nat} {lo hi : Nat} {q set n : Int} (hB : jx_B E) (hC : cR E D w G lo hi) (hR : rl S D) (hn5 : 0 ≤ n ∧ n ≤ 5) (hq : 0 ≤ q ∧ q < 4) (hs : 0 ≤ set ∧ set < 2 ^ n.toNat) (hL : ∀ s, 0 ≤ s ∧ s ≤ set → 0 ≤ D 40 (32 * q + s) ∧ (D 40 (32 * q + s) ≤ 600000 ∨ D 40 (32 * q + s) = 1000000000)) (hT : ∀ s, 0 ≤ s ∧ s < 2 ^ n.toNat → 0 ≤ D 44 (32 * (q + 1) + s) ∧ D 44 (32 * (q + 1) + s) ≤ 100000000000000) : ∀ (j : Nat) (v t k : Int) (X Z : Option Value), v = (aFor (gCh (D 40) (D 44) q set) (D 44 (32 * (q + 1) + set), 0) (k - 1)).1 → t = (aFor (gCh (D 40) (D 44) q set) (D 44 (32 * (q + 1) + set), 0) (k - 1)).2 → 1 ≤ k ∧ k ≤ set + 1 → (0 ≤ t ∧ t ≤ set) → lR v → set + 1 - k < j → jx_G E l Y_X_chooseFrom (d + 1) (cpo E G lo hi w 0 none (sU (sU D 44 (32 * q + set) (chq (D 40) (D 44) q set).1) 45 (32 * q + set) (chq (D 40) (D 44) q set).2)) 17 [some (.ref (G 2 5)), some (.int (iI (q))), some (.int (iI (set))), some (.long (lI (v))), none, some (.int (iI (t))), some (.int (iI (k))), X, Z, none] [] w := by
  have hN := hR.N
  have hp32 := pow_rg hn5
  have hF : cF lo hi 0 w w := cF.rf
  intro j
  induction j with
  | zero => intro v t k X Z hv ht hk htr hvr hj; exfalso; omega
  | succ j ih =>
    intro v t k X Z hv ht hk htr hvr hj
    refine jx_iload d_X_chooseFrom_17 rfl ?_
    refine jx_iload_n d_X_chooseFrom_19 rfl rfl ?_
    refine jI_icmp_gt (tgt := 95) d_X_chooseFrom_20 (by decide) (by omega) (by omega) (fun hc1 => ?_) (fun hc1 => ?_)
    · refine jx_aload_n d_X_chooseFrom_95 rfl rfl ?_
      refine cx_ptr (c2 := 2) (x2 := 12) d_X_chooseFrom_96 (f_X_35 hB) hC (by decide) (by decide) rfl ?_
      refine jx_iload_n d_X_chooseFrom_99 rfl rfl ?_
      refine cx_row12 d_X_chooseFrom_100 hC (by omega) ?_
      refine jx_iload_n d_X_chooseFrom_101 rfl rfl ?_
      refine jx_lload_n d_X_chooseFrom_102 rfl rfl ?_
      refine cx_st44 d_X_chooseFrom_103 hC (by omega) (by omega) (fun w hC hF1 => ?_)
      have hF := hF.tr hF1 (Nat.le_refl _)
      obtain ⟨D2, hD2⟩ : ∃ zz, zz = sU D 44 (32 * q + set) v := ⟨_, rfl⟩
      rw [← hD2] at hC
      have e3 : D2 33 0 = D 33 0 := by rw [hD2]; rfl
      have e4 : D2 34 0 = D 34 0 := by rw [hD2]; rfl
      have e5 : D2 35 0 = D 35 0 := by rw [hD2]; rfl
      have e6 : D2 36 0 = D 36 0 := by rw [hD2]; rfl
      refine jx_aload_n d_X_chooseFrom_104 rfl rfl ?_
      refine cx_ptr (c2 := 2) (x2 := 13) d_X_chooseFrom_105 (f_X_38 hB) hC (by decide) (by decide) rfl ?_
      refine jx_iload_n d_X_chooseFrom_108 rfl rfl ?_
      refine cx_row13 d_X_chooseFrom_109 hC (by omega) ?_
      refine jx_iload_n d_X_chooseFrom_110 rfl rfl ?_
      refine jx_iload d_X_chooseFrom_111 rfl ?_
      refine cx_st45 d_X_chooseFrom_113 hC (by omega) (by omega) (fun w hC hF1 => ?_)
      have hF := hF.tr hF1 (Nat.le_refl _)
      obtain ⟨D7, hD7⟩ : ∃ zz, zz = sU D2 45 (32 * q + set) t := ⟨_, rfl⟩
      rw [← hD7] at hC
      have e8 : D7 33 0 = D2 33 0 := by rw [hD7]; rfl
      have e9 : D7 34 0 = D2 34 0 := by rw [hD7]; rfl
      have e10 : D7 35 0 = D2 35 0 := by rw [hD7]; rfl
      have e11 : D7 36 0 = D2 36 0 := by rw [hD7]; rfl
      exact jx_vret d_X_chooseFrom_114 rfl ⟨rfl, by rw [hD7, hD2] at hC; (have ek : k - 1 = set := by omega); rw [hv, ht, ek] at hC; exact hC, hF⟩
    · have hlk := hL k (by omega)
      have hvk : D 43 k = vl k := hR.V (by omega)
      have hxk := xr_in (n := n) (x := set) (y := k) ⟨by omega, by omega⟩ ⟨by omega, by omega⟩
      have htk := hT (xr set k) (by omega)
      refine jx_aload_n d_X_chooseFrom_23 rfl rfl ?_
      refine cx_ptr (c2 := 2) (x2 := 8) d_X_chooseFrom_24 (f_X_20 hB) hC (by decide) (by decide) rfl ?_
      refine jx_iload_n d_X_chooseFrom_27 rfl rfl ?_
      refine cx_row8 d_X_chooseFrom_28 hC (by omega) ?_
      refine jx_iload d_X_chooseFrom_29 rfl ?_
      refine cx_ld40 d_X_chooseFrom_31 hC (by omega) (by omega) ?_
      refine jx_istore d_X_chooseFrom_32 (Nat.le_of_ble_eq_true rfl) rfl ?_
      try dsimp only [List.set]
      refine jx_iload d_X_chooseFrom_34 rfl ?_
      refine jx_iload_n d_X_chooseFrom_36 rfl rfl ?_
      refine jI_and d_X_chooseFrom_37 ⟨by omega, by omega⟩ ⟨by omega, by omega⟩ ?_
      have u12 := nA_rg k set
      refine jx_iload d_X_chooseFrom_38 rfl ?_
      refine jI_icmp_ne (tgt := 89) d_X_chooseFrom_40 (by decide) (by omega) (by omega) (fun hc13 => ?_) (fun hc13 => ?_)
      · have hcc : ¬ (sbs k set ∧ D 40 (32 * q + k) ≠ 1000000000 ∧ D 40 (32 * q + k) * 3125 + q * vl k + D 44 (32 * (q + 1) + xr set k) < v) := by first | (intro z; (have z1 := (nA_sbs k set).mpr z.1); omega) | (intro z; rw [← hvk] at z; omega) | (intro z; omega)
        refine jI_inc d_X_chooseFrom_89 rfl rfl ?_
        try dsimp only [List.set]
        refine jx_goto (tgt := 17) d_X_chooseFrom_92 (by decide) ?_
        exact ih v t (k + 1) _ _ ((ch_step hk.1 hv ht).2 hcc).1 ((ch_step hk.1 hv ht).2 hcc).2 (by omega) (by omega) (by omega) (by omega)
      · refine jx_iload d_X_chooseFrom_43 rfl ?_
        refine jI_ldc d_X_chooseFrom_45 (k_X_62 hB) (n := 1000000000) (by decide) ?_
        refine jI_icmp_eq (tgt := 89) d_X_chooseFrom_47 (by decide) (by omega) (by omega) (fun hc14 => ?_) (fun hc14 => ?_)
        · have hcc : ¬ (sbs k set ∧ D 40 (32 * q + k) ≠ 1000000000 ∧ D 40 (32 * q + k) * 3125 + q * vl k + D 44 (32 * (q + 1) + xr set k) < v) := by first | (intro z; (have z1 := (nA_sbs k set).mpr z.1); omega) | (intro z; rw [← hvk] at z; omega) | (intro z; omega)
          refine jI_inc d_X_chooseFrom_89 rfl rfl ?_
          try dsimp only [List.set]
          refine jx_goto (tgt := 17) d_X_chooseFrom_92 (by decide) ?_
          exact ih v t (k + 1) _ _ ((ch_step hk.1 hv ht).2 hcc).1 ((ch_step hk.1 hv ht).2 hcc).2 (by omega) (by omega) (by omega) (by omega)
        · refine jx_aload_n d_X_chooseFrom_50 rfl rfl ?_
          refine jx_iload d_X_chooseFrom_51 rfl ?_
          refine jx_iload_n d_X_chooseFrom_53 rfl rfl ?_
          refine jx_iload d_X_chooseFrom_54 rfl ?_
          refine jx_callV_r (As := [.int (iI (D 40 (32 * q + k))), .int (iI (q)), .int (iI (k))]) (v := some (.long (lI ((D 40 (32 * q + k)) * 3125 + q * D 43 k)))) d_X_chooseFrom_56 (m_X_rank hB) (v_X_133 hB) (by decide) (jx_c1 hB) (by rw [hC.kd (.inr (.inr (.inl ⟨rfl, by decide⟩)))]; rfl) rfl (Nat.le_of_ble_eq_true rfl) (Nat.le_of_ble_eq_true rfl) (w_X_rank hB hC hR (a := D 40 (32 * q + k)) (q := q) (s := k) (by omega) (by omega) (by omega)) ?_
          have v15 := hR.V (s := k) (by omega)
          have v16 := vl_rg (s := k) (by omega)
          have v17 := mul_rg (p := q) (v := D 43 k) (by omega) (by omega)
          refine jx_aload_n d_X_chooseFrom_59 rfl rfl ?_
          refine cx_ptr (c2 := 2) (x2 := 12) d_X_chooseFrom_60 (f_X_35 hB) hC (by decide) (by decide) rfl ?_
          refine jx_iload_n d_X_chooseFrom_63 rfl rfl ?_
          refine jI_const d_X_chooseFrom_64 ?_
          refine jI_add d_X_chooseFrom_65 ?_
          refine cx_row12 d_X_chooseFrom_66 hC (by omega) ?_
          refine jx_iload_n d_X_chooseFrom_67 rfl rfl ?_
          refine jx_iload d_X_chooseFrom_68 rfl ?_
          refine jI_xor d_X_chooseFrom_70 ⟨by omega, by omega⟩ ⟨by omega, by omega⟩ ?_
          have u18 := xr_rg (x := set) (y := k) ⟨by omega, by omega⟩ ⟨by omega, by omega⟩
          refine cx_ld44 d_X_chooseFrom_71 hC (by omega) (by omega) ?_
          refine jL_add d_X_chooseFrom_72 ?_
          refine jx_lstore d_X_chooseFrom_73 (Nat.le_of_ble_eq_true rfl) rfl ?_
          try dsimp only [List.set]
          refine jx_lload d_X_chooseFrom_75 rfl ?_
          refine jx_lload_n d_X_chooseFrom_77 rfl rfl ?_
          refine jL_cmp_ge (tgt := 89) d_X_chooseFrom_78 d_X_chooseFrom_79 (by decide) (by omega) (by omega) (fun hc19 => ?_) (fun hc19 => ?_)
          · have hcc : ¬ (sbs k set ∧ D 40 (32 * q + k) ≠ 1000000000 ∧ D 40 (32 * q + k) * 3125 + q * vl k + D 44 (32 * (q + 1) + xr set k) < v) := by first | (intro z; (have z1 := (nA_sbs k set).mpr z.1); omega) | (intro z; rw [← hvk] at z; omega) | (intro z; omega)
            refine jI_inc d_X_chooseFrom_89 rfl rfl ?_
            try dsimp only [List.set]
            refine jx_goto (tgt := 17) d_X_chooseFrom_92 (by decide) ?_
            exact ih v t (k + 1) _ _ ((ch_step hk.1 hv ht).2 hcc).1 ((ch_step hk.1 hv ht).2 hcc).2 (by omega) (by omega) (by omega) (by omega)
          · refine jx_lload d_X_chooseFrom_82 rfl ?_
            refine jx_lstore_n d_X_chooseFrom_84 rfl (Nat.le_of_ble_eq_true rfl) rfl ?_
            try dsimp only [List.set]
            refine jx_iload d_X_chooseFrom_85 rfl ?_
            refine jx_istore d_X_chooseFrom_87 (Nat.le_of_ble_eq_true rfl) rfl ?_
            try dsimp only [List.set]
            have hcc : sbs k set ∧ D 40 (32 * q + k) ≠ 1000000000 ∧ D 40 (32 * q + k) * 3125 + q * vl k + D 44 (32 * (q + 1) + xr set k) < v := ⟨by rw [← nA_sbs]; omega, by omega, by rw [← hvk]; omega⟩
            refine jI_inc d_X_chooseFrom_89 rfl rfl ?_
            try dsimp only [List.set]
            refine jx_goto (tgt := 17) d_X_chooseFrom_92 (by decide) ?_
            exact ih (((D 40 (32 * q + k)) * 3125 + q * D 43 k) + (D 44 (32 * (q + 1) + (xr set k)))) (k) (k + 1) _ _ (by (have hh := ((ch_step hk.1 hv ht).1 hcc).1); rw [← hh, ← hvk]) ((ch_step hk.1 hv ht).1 hcc).2 (by omega) (by omega) (by omega) (by omega)
theorem w_X_chooseFrom {E : jx_E} {l : Launch} {d : Nat} {w : jx_W} {D S : mS} {G : Nat → Nat → Nat} {lo hi : Nat} {q set n : Int} (hB : jx_B E) (hC : cR E D w G lo hi) (hR : rl S D) (hn5 : 0 ≤ n ∧ n ≤ 5) (hq : 0 ≤ q ∧ q < 4) (hs : 0 ≤ set ∧ set < 2 ^ n.toNat) (hL : ∀ s, 0 ≤ s ∧ s ≤ set → 0 ≤ D 40 (32 * q + s) ∧ (D 40 (32 * q + s) ≤ 600000 ∨ D 40 (32 * q + s) = 1000000000)) (hT : ∀ s, 0 ≤ s ∧ s < 2 ^ n.toNat → 0 ≤ D 44 (32 * (q + 1) + s) ∧ D 44 (32 * (q + 1) + s) ≤ 100000000000000) : jx_G E l Y_X_chooseFrom (d + 1) (cpo E G lo hi w 0 none (sU (sU D 44 (32 * q + set) (chq (D 40) (D 44) q set).1) 45 (32 * q + set) (chq (D 40) (D 44) q set).2)) 0 (jx_ent [.ref (G 2 5), .int (iI q), .int (iI set)] 10) [] w := by
  show jx_G E l Y_X_chooseFrom (d + 1) _ 0 [some (.ref (G 2 5)), some (.int (iI q)), some (.int (iI set)), none, none, none, none, none, none, none] [] w
  have hN := hR.N
  have hp32 := pow_rg hn5
  have ht0 := hT set (by omega)
  refine jx_aload_n d_X_chooseFrom_0 rfl rfl ?_
  refine cx_ptr (c2 := 2) (x2 := 12) d_X_chooseFrom_1 (f_X_35 hB) hC (by decide) (by decide) rfl ?_
  refine jx_iload_n d_X_chooseFrom_4 rfl rfl ?_
  refine jI_const d_X_chooseFrom_5 ?_
  refine jI_add d_X_chooseFrom_6 ?_
  refine cx_row12 d_X_chooseFrom_7 hC (by omega) ?_
  refine jx_iload_n d_X_chooseFrom_8 rfl rfl ?_
  refine cx_ld44 d_X_chooseFrom_9 hC (by omega) (by omega) ?_
  refine jx_lstore_n d_X_chooseFrom_10 rfl (Nat.le_of_ble_eq_true rfl) rfl ?_
  try dsimp only [List.set]
  refine jI_const d_X_chooseFrom_11 ?_
  refine jx_istore d_X_chooseFrom_12 (Nat.le_of_ble_eq_true rfl) rfl ?_
  try dsimp only [List.set]
  refine jI_const d_X_chooseFrom_14 ?_
  refine jx_istore d_X_chooseFrom_15 (Nat.le_of_ble_eq_true rfl) rfl ?_
  try dsimp only [List.set]
  exact l_X_chooseFrom hB hC hR hn5 hq hs hL hT 33 _ 0 1 _ _ rfl rfl (by omega) (by omega) (by omega) (by omega)
