/-! 89.c.sort: the list by due -/
/-- but for the list by due nothing has changed -/
abbrev frR (D0 D : mS) : Prop := ∀ g, g ≠ 35 → g ≠ 37 → D g = D0 g
theorem frR.rl {S D0 D : mS} (h : frR D0 D) (hR : rl S D0) : rl S D := hR.cD (fun f hf => h f (by omega) (by omega))
theorem l_T_sortI {E : jx_E} {l : Launch} {d : Nat} {w : jx_W} {S D : mS} {G : Nat → Nat → Nat} {lo hi : Nat} {Q : jx_R → jx_W → Prop} {t : Int} (hB : jx_B E) (hC : cR E D w G lo hi) (hR : rl S D) (hl : lst (opn S) (S 16) t (D 37) (D 35 0)) (ht : 0 ≤ t ∧ t < S 1 0) (K : ∀ c, 0 ≤ c ∧ c ≤ D 35 0 → (c = 0 ∨ S 16 (D 37 (c - 1)) ≤ S 16 t) → (∀ j, c ≤ j ∧ j < D 35 0 → S 16 t < S 16 (D 37 j)) → jx_G E l Y_T_sortOpenByDue (d + 7) Q 80 [some (.ref (G 2 0)), some (.int (iI (t))), some (.ref (G 1 (t).toNat)), some (.int (iI (c)))] [] w) : ∀ (j : Nat) (c : Int), 0 ≤ c ∧ c ≤ D 35 0 → (∀ j, c ≤ j ∧ j < D 35 0 → S 16 t < S 16 (D 37 j)) → c < j → jx_G E l Y_T_sortOpenByDue (d + 7) Q 47 [some (.ref (G 2 0)), some (.int (iI (t))), some (.ref (G 1 (t).toNat)), some (.int (iI (c)))] [] w := by
  have hN := hR.N
  have hcr := sCnt_rg (opn S) ht.1
  have hl1 := hl.1
  intro j
  induction j with
  | zero => intro c hc hg hj; exfalso; omega
  | succ j ih =>
    intro c hc hg hj
    refine jx_iload_n d_T_sortOpenByDue_47 rfl rfl ?_
    refine jI_if_le (tgt := 80) d_T_sortOpenByDue_48 (by decide) (by omega) (fun hc1 => ?_) (fun hc1 => ?_)
    · exact K c hc (by omega) hg
    · have hx := (hl.2 (c - 1) (by omega)).1
      refine jx_aload_n d_T_sortOpenByDue_51 rfl rfl ?_
      refine cx_ptr (c2 := 2) (x2 := 3) d_T_sortOpenByDue_52 (f_T_19 hB) hC (by decide) (by decide) rfl ?_
      refine jx_iload_n d_T_sortOpenByDue_55 rfl rfl ?_
      refine jI_const d_T_sortOpenByDue_56 ?_
      refine jI_sub d_T_sortOpenByDue_57 ?_
      refine cx_at2 hB d_T_sortOpenByDue_58 (v_T_166 hB) hC (by omega) (Nat.le_of_ble_eq_true rfl) ?_
      refine jx_cast d_T_sortOpenByDue_61 (h_T_98 hB) (h_cast3 hB) (by decide) (jx_c3 hB) (by rw [hC.kd (.inr (.inl ⟨rfl, by omega⟩))]; rfl) ?_
      refine cx_K 3 (f := 23) rfl d_T_sortOpenByDue_64 (f_T_210 hB) hC (by decide) (by omega) ?_
      have a2 : D 23 (D 37 (c - 1)) = S 16 (D 37 (c - 1)) := (hR.K (t := D 37 (c - 1)) (by omega)).1.2.2.2.1
      have a3 : 0 ≤ D 23 (D 37 (c - 1)) ∧ D 23 (D 37 (c - 1)) ≤ 100000 := (hR.Kr (t := D 37 (c - 1)) (by omega)).2.2.2.1
      refine jx_aload_n d_T_sortOpenByDue_67 rfl rfl ?_
      refine cx_K 3 (f := 23) rfl d_T_sortOpenByDue_68 (f_T_210 hB) hC (by decide) (by omega) ?_
      have a4 : D 23 t = S 16 t := (hR.K (t := t) (by omega)).1.2.2.2.1
      have a5 : 0 ≤ D 23 t ∧ D 23 t ≤ 100000 := (hR.Kr (t := t) (by omega)).2.2.2.1
      refine jI_icmp_le (tgt := 80) d_T_sortOpenByDue_71 (by decide) (by omega) (by omega) (fun hc6 => ?_) (fun hc6 => ?_)
      · exact K c hc (by omega) hg
      · refine jI_inc d_T_sortOpenByDue_74 rfl rfl ?_
        try dsimp only [List.set]
        refine jx_goto (tgt := 47) d_T_sortOpenByDue_77 (by decide) ?_
        exact ih (c + (-1)) (by omega) (fun y hy => by (by_cases e : y = c - 1); (· rw [e]; omega); (· exact hg y (by omega))) (by omega)
theorem l_T_sortO {E : jx_E} {l : Launch} {d : Nat} {w0 : jx_W} {S D0 : mS} {G : Nat → Nat → Nat} {lo hi mi : Nat} (hB : jx_B E) (hB2 : jx_B2 E mi) (hR0 : rl S D0) (hW : 50 ≤ jx_c w0 ∧ 5000 ≤ jx_s w0) : ∀ (j : Nat) (t : Int) (kk : Nat) (D : mS) (w : jx_W) (V U : Option Value), cR E D w G lo hi → cF lo hi kk w0 w → frR D0 D → lst (opn S) (S 16) t (D 37) (D 35 0) → ((kk : Int) ≤ t) → 0 ≤ t ∧ t ≤ S 1 0 → S 1 0 - t < j → jx_G E l Y_T_sortOpenByDue (d + 7) (cpp E G lo hi w0 16 none (fun D2 => frR D0 D2 ∧ lst (opn S) (S 16) (S 1 0) (D2 37) (D2 35 0))) 9 [some (.ref (G 2 0)), some (.int (iI (t))), V, U] [] w := by
  intro j
  induction j with
  | zero => intro t kk D w V U hC hF hfr hl hkk ht hj; exfalso; omega
  | succ j ih =>
    intro t kk D w V U hC hF hfr hl hkk ht hj
    have hR := hfr.rl hR0
    have hN := hR.N
    have hcr := sCnt_rg (opn S) ht.1
    have hl1 := hl.1
    refine jx_iload_n d_T_sortOpenByDue_9 rfl rfl ?_
    refine jx_aload_n d_T_sortOpenByDue_10 rfl rfl ?_
    refine cx_ptr (c2 := 2) (x2 := 2) d_T_sortOpenByDue_11 (f_T_16 hB) hC (by decide) (by decide) rfl ?_
    refine cx_size 1 2 34 rfl hB d_T_sortOpenByDue_14 (v_T_41 hB) hC (by decide) rfl (Nat.le_of_ble_eq_true rfl) ?_
    refine jI_icmp_ge (tgt := 95) d_T_sortOpenByDue_17 (by decide) (by omega) (by omega) (fun hc1 => ?_) (fun hc1 => ?_)
    · exact jx_vret d_T_sortOpenByDue_95 rfl ⟨rfl, _, hC, hF.tr cF.rf (by omega), by (have e : t = S 1 0 := by omega); rw [e] at hl; exact ⟨hfr, hl⟩⟩
    · refine jx_aload_n d_T_sortOpenByDue_20 rfl rfl ?_
      refine cx_ptr (c2 := 2) (x2 := 2) d_T_sortOpenByDue_21 (f_T_16 hB) hC (by decide) (by decide) rfl ?_
      refine jx_iload_n d_T_sortOpenByDue_24 rfl rfl ?_
      refine cx_at1 hB d_T_sortOpenByDue_25 (v_T_166 hB) hC (by omega) (Nat.le_of_ble_eq_true rfl) ?_
      refine jx_cast d_T_sortOpenByDue_28 (h_T_98 hB) (h_cast3 hB) (by decide) (jx_c3 hB) (by rw [hC.kd (.inr (.inl ⟨rfl, by omega⟩))]; rfl) ?_
      refine jx_astore_n d_T_sortOpenByDue_31 rfl (Nat.le_of_ble_eq_true rfl) rfl ?_
      try dsimp only [List.set]
      refine jx_aload_n d_T_sortOpenByDue_32 rfl rfl ?_
      refine cx_K 5 (f := 25) rfl d_T_sortOpenByDue_33 (f_T_170 hB) hC (by decide) (by omega) ?_
      have a2 : D 25 t = S 13 t := (hR.K (t := t) (by omega)).1.2.2.2.2.2.1
      have a3 : 0 ≤ D 25 t ∧ D 25 t ≤ 2 := (hR.Kr (t := t) (by omega)).2.2.2.2.2.1
      refine jI_if_ne (tgt := 89) d_T_sortOpenByDue_36 (by decide) (by omega) (fun hc4 => ?_) (fun hc4 => ?_)
      · refine jI_inc d_T_sortOpenByDue_89 rfl rfl ?_
        try dsimp only [List.set]
        refine jx_goto (tgt := 9) d_T_sortOpenByDue_92 (by decide) ?_
        exact ih (t + 1) kk _ _ _ _ hC hF hfr (lst_no ht.1 hl (fun z => by (have z2 := opn_t.mp z); omega)) (by omega) (by omega) (by omega)
      · refine jx_aload_n d_T_sortOpenByDue_39 rfl rfl ?_
        refine cx_ptr (c2 := 2) (x2 := 3) d_T_sortOpenByDue_40 (f_T_19 hB) hC (by decide) (by decide) rfl ?_
        refine cx_size 2 3 35 rfl hB d_T_sortOpenByDue_43 (v_T_41 hB) hC (by decide) rfl (Nat.le_of_ble_eq_true rfl) ?_
        refine jx_istore_n d_T_sortOpenByDue_46 rfl (Nat.le_of_ble_eq_true rfl) rfl ?_
        try dsimp only [List.set]
        refine l_T_sortI hB hC hR hl (by omega) (fun c hc hlo hhi => ?_) 18 _ (by omega) (fun y hy => by omega) (by omega)
        refine jx_aload_n d_T_sortOpenByDue_80 rfl rfl ?_
        refine cx_ptr (c2 := 2) (x2 := 3) d_T_sortOpenByDue_81 (f_T_19 hB) hC (by decide) (by decide) rfl ?_
        refine jx_iload_n d_T_sortOpenByDue_84 rfl rfl ?_
        refine jx_aload_n d_T_sortOpenByDue_85 rfl rfl ?_
        have hrm := room_k hF hW (by omega)
        refine jc_callV (As := [.int (iI (c)), .ref (G 1 (t).toNat)]) (v := none) d_T_sortOpenByDue_86 (m_A_addAt hB) (v_T_280 hB) (by decide) (jx_c6 hB) (by rw [hC.kd (.inr (.inr (.inl ⟨rfl, by decide⟩)))]; rfl) rfl (Nat.le_of_ble_eq_true rfl) (Nat.le_of_ble_eq_true rfl) (w_addAtT hB hB2 hC (t := t) (p := c) (by omega) (by omega) (by omega) (fun i hi => by (have hh := (hl.2 i hi).1); omega) hC.room hrm.1 hrm.2) (fun w hC hF1 => ?_)
        have hF := hF.tr hF1 (Nat.le_refl _)
        obtain ⟨D5, hD5⟩ : ∃ zz, zz = insD D c t := ⟨_, rfl⟩
        have hC : cR E D5 w G lo hi := by rw [hD5]; exact hC
        refine jI_inc d_T_sortOpenByDue_89 rfl rfl ?_
        try dsimp only [List.set]
        refine jx_goto (tgt := 9) d_T_sortOpenByDue_92 (by decide) ?_
        exact ih (t + 1) (kk + 1) _ _ _ _ hC hF (by rw [hD5]; exact fun g a b => by rw [insD_ne b a]; exact hfr g a b) (by rw [hD5, insD_37, insD_35]; exact lst_ins ht.1 hl (opn_t.mpr (by omega)) hc hlo hhi) (by omega) (by omega) (by omega)
theorem w_T_sortOpenByDue {E : jx_E} {l : Launch} {d : Nat} {w : jx_W} {S D : mS} {G : Nat → Nat → Nat} {lo hi mi : Nat} (hB : jx_B E) (hB2 : jx_B2 E mi) (hR : rl S D) (hW : 50 ≤ jx_c w ∧ 5000 ≤ jx_s w) (hC : cR E D w G lo hi) : jx_G E l Y_T_sortOpenByDue (d + 7) (cpp E G lo hi w 16 none (fun D2 => frR D D2 ∧ lst (opn S) (S 16) (S 1 0) (D2 37) (D2 35 0))) 0 (jx_ent [.ref (G 2 0)] 4) [] w := by
  have hN := hR.N
  show jx_G E l Y_T_sortOpenByDue (d + 7) _ 0 [some (.ref (G 2 0)), none, none, none] [] w
  have hF : cF lo hi 0 w w := cF.rf
  refine jx_aload_n d_T_sortOpenByDue_0 rfl rfl ?_
  refine cx_ptr (c2 := 2) (x2 := 3) d_T_sortOpenByDue_1 (f_T_19 hB) hC (by decide) (by decide) rfl ?_
  refine jc_callV (As := []) (v := none) d_T_sortOpenByDue_4 (m_A_clear hB) (v_T_277 hB) (by decide) (jx_c6 hB) (by rw [hC.kd (.inr (.inr (.inl ⟨rfl, by decide⟩)))]; rfl) rfl (Nat.le_of_ble_eq_true rfl) (Nat.le_of_ble_eq_true rfl) (w_clear hB hC (j := 2) (.inl rfl)) (fun w hC hF1 => ?_)
  have hF := hF.tr hF1 (Nat.le_refl _)
  obtain ⟨D1, hD1⟩ : ∃ zz, zz = sU D 35 0 0 := ⟨_, rfl⟩
  have hC : cR E D1 w G lo hi := by rw [hD1]; exact hC
  refine jI_const d_T_sortOpenByDue_7 ?_
  refine jx_istore_n d_T_sortOpenByDue_8 rfl (Nat.le_of_ble_eq_true rfl) rfl ?_
  try dsimp only [List.set]
  exact l_T_sortO hB hB2 hR hW 17 0 0 _ _ _ _ hC hF (by rw [hD1]; exact fun g a b => sU_ne a) (by rw [hD1, sU_same]; exact lst_0 _ _ _) (by omega) (by omega) (by omega)
