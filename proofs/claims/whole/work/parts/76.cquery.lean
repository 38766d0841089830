/-! 76.cquery: the class asks of its tasks and persons -/
theorem l_T_tasksIn {E : jx_E} {l : Launch} {d : Nat} {w : jx_W} {D S : mS} {G : Nat → Nat → Nat} {lo hi : Nat} {s : Int} (hB : jx_B E) (hC : cR E D w G lo hi) (hR : rl S D) (hs : iR s) : ∀ (j : Nat) (x t : Int), x = sCnt (fun i => decide (S 13 i = s)) t → 0 ≤ t ∧ t ≤ S 1 0 → S 1 0 - t < j → jx_G E l Y_T_tasksIn (d + 3) (jx_eq (.inr (some (.int (iI (sInS S s))))) w) 4 [some (.ref (G 2 0)), some (.int (iI (s))), some (.int (iI (x))), some (.int (iI (t)))] [] w := by
  have hN := hR.N
  intro j
  induction j with
  | zero => intro x t hx ht hz; exfalso; omega
  | succ j ih =>
    intro x t hx ht hz
    have hxr := sCnt_rg (fun i => decide (S 13 i = s)) ht.1
    rw [← hx] at hxr
    refine jx_iload_n d_T_tasksIn_4 rfl rfl ?_
    refine jx_aload_n d_T_tasksIn_5 rfl rfl ?_
    refine cx_ptr (c2 := 2) (x2 := 2) d_T_tasksIn_6 (f_T_16 hB) hC (by decide) (by decide) rfl ?_
    refine cx_size 1 2 34 rfl hB d_T_tasksIn_9 (v_T_41 hB) hC (by decide) rfl (Nat.le_of_ble_eq_true rfl) ?_
    refine jI_icmp_ge (tgt := 42) d_T_tasksIn_12 (by decide) (by omega) (by omega) (fun hc1 => ?_) (fun hc1 => ?_)
    · refine jx_iload_n d_T_tasksIn_42 rfl rfl ?_
      exact jx_iret d_T_tasksIn_43 rfl ⟨jr_i (by (have e : t = S 1 0 := by omega); rw [hx, e]; rfl), rfl⟩
    · refine jx_aload_n d_T_tasksIn_15 rfl rfl ?_
      refine cx_ptr (c2 := 2) (x2 := 2) d_T_tasksIn_16 (f_T_16 hB) hC (by decide) (by decide) rfl ?_
      refine jx_iload_n d_T_tasksIn_19 rfl rfl ?_
      refine cx_at1 hB d_T_tasksIn_20 (v_T_166 hB) hC (by omega) (Nat.le_of_ble_eq_true rfl) ?_
      refine jx_cast d_T_tasksIn_23 (h_T_98 hB) (h_cast3 hB) (by decide) (jx_c3 hB) (by rw [hC.kd (.inr (.inl ⟨rfl, by omega⟩))]; rfl) ?_
      refine cx_K 5 (f := 25) rfl d_T_tasksIn_26 (f_T_170 hB) hC (by decide) (by omega) ?_
      have a2 : D 25 t = S 13 t := (hR.K (t := t) (by omega)).1.2.2.2.2.2.1
      have a3 : 0 ≤ D 25 t ∧ D 25 t ≤ 2 := (hR.Kr (t := t) (by omega)).2.2.2.2.2.1
      refine jx_iload_n d_T_tasksIn_29 rfl rfl ?_
      refine jI_icmp_ne (tgt := 36) d_T_tasksIn_30 (by decide) (by omega) (by omega) (fun hc4 => ?_) (fun hc4 => ?_)
      · refine jI_inc d_T_tasksIn_36 rfl rfl ?_
        try dsimp only [List.set]
        refine jx_goto (tgt := 4) d_T_tasksIn_39 (by decide) ?_
        exact ih (x) (t + 1) (by rw [sCnt_s _ (by omega), ← hx]; first | rw [if_pos (decide_eq_true (by omega))] | (rw [if_neg (fun z => absurd (of_decide_eq_true z) (by omega))]; omega)) (by omega) (by omega)
      · refine jI_inc d_T_tasksIn_33 rfl rfl ?_
        try dsimp only [List.set]
        refine jI_inc d_T_tasksIn_36 rfl rfl ?_
        try dsimp only [List.set]
        refine jx_goto (tgt := 4) d_T_tasksIn_39 (by decide) ?_
        exact ih (x + 1) (t + 1) (by rw [sCnt_s _ (by omega), ← hx]; first | rw [if_pos (decide_eq_true (by omega))] | (rw [if_neg (fun z => absurd (of_decide_eq_true z) (by omega))]; omega)) (by omega) (by omega)
theorem w_T_tasksIn {E : jx_E} {l : Launch} {d : Nat} {w : jx_W} {D S : mS} {G : Nat → Nat → Nat} {lo hi : Nat} {s : Int} (hB : jx_B E) (hC : cR E D w G lo hi) (hR : rl S D) (hs : iR s) : jx_G E l Y_T_tasksIn (d + 3) (jx_eq (.inr (some (.int (iI (sInS S s))))) w) 0 (jx_ent [.ref (G 2 0), .int (iI (s))] 4) [] w := by
  show jx_G E l Y_T_tasksIn (d + 3) _ 0 [some (.ref (G 2 0)), some (.int (iI (s))), none, none] [] w
  have hN := hR.N
  refine jI_const d_T_tasksIn_0 ?_
  refine jx_istore_n d_T_tasksIn_1 rfl (Nat.le_of_ble_eq_true rfl) rfl ?_
  try dsimp only [List.set]
  refine jI_const d_T_tasksIn_2 ?_
  refine jx_istore_n d_T_tasksIn_3 rfl (Nat.le_of_ble_eq_true rfl) rfl ?_
  try dsimp only [List.set]
  exact l_T_tasksIn hB hC hR hs 17 0 0 rfl (by omega) (by omega)
theorem l_T_tasksOf {E : jx_E} {l : Launch} {d : Nat} {w : jx_W} {D S : mS} {G : Nat → Nat → Nat} {lo hi : Nat} {p s : Int} (hB : jx_B E) (hC : cR E D w G lo hi) (hR : rl S D) (hp : iR p) (hs : iR s) : ∀ (j : Nat) (x t : Int), x = sCnt (fun i => decide (S 19 i = p ∧ S 13 i = s)) t → 0 ≤ t ∧ t ≤ S 1 0 → S 1 0 - t < j → jx_G E l Y_T_tasksOf (d + 3) (jx_eq (.inr (some (.int (iI (sOf S p s))))) w) 5 [some (.ref (G 2 0)), some (.int (iI (p))), some (.int (iI (s))), some (.int (iI (x))), some (.int (iI (t)))] [] w := by
  have hN := hR.N
  intro j
  induction j with
  | zero => intro x t hx ht hz; exfalso; omega
  | succ j ih =>
    intro x t hx ht hz
    have hxr := sCnt_rg (fun i => decide (S 19 i = p ∧ S 13 i = s)) ht.1
    rw [← hx] at hxr
    refine jx_iload d_T_tasksOf_5 rfl ?_
    refine jx_aload_n d_T_tasksOf_7 rfl rfl ?_
    refine cx_ptr (c2 := 2) (x2 := 2) d_T_tasksOf_8 (f_T_16 hB) hC (by decide) (by decide) rfl ?_
    refine cx_size 1 2 34 rfl hB d_T_tasksOf_11 (v_T_41 hB) hC (by decide) rfl (Nat.le_of_ble_eq_true rfl) ?_
    refine jI_icmp_ge (tgt := 46) d_T_tasksOf_14 (by decide) (by omega) (by omega) (fun hc1 => ?_) (fun hc1 => ?_)
    · refine jx_iload_n d_T_tasksOf_46 rfl rfl ?_
      exact jx_iret d_T_tasksOf_47 rfl ⟨jr_i (by (have e : t = S 1 0 := by omega); rw [hx, e]; rfl), rfl⟩
    · refine jx_aload_n d_T_tasksOf_17 rfl rfl ?_
      refine cx_ptr (c2 := 2) (x2 := 2) d_T_tasksOf_18 (f_T_16 hB) hC (by decide) (by decide) rfl ?_
      refine jx_iload d_T_tasksOf_21 rfl ?_
      refine cx_at1 hB d_T_tasksOf_23 (v_T_166 hB) hC (by omega) (Nat.le_of_ble_eq_true rfl) ?_
      refine jx_cast d_T_tasksOf_26 (h_T_98 hB) (h_cast3 hB) (by decide) (jx_c3 hB) (by rw [hC.kd (.inr (.inl ⟨rfl, by omega⟩))]; rfl) ?_
      refine jx_iload_n d_T_tasksOf_29 rfl rfl ?_
      refine jx_iload_n d_T_tasksOf_30 rfl rfl ?_
      refine jx_callV_r (As := [.int (iI (p)), .int (iI (s))]) (v := some (.int (iI (if S 19 t = p ∧ S 13 t = s then 1 else 0)))) d_T_tasksOf_31 (m_K_isOf hB) (v_T_237 hB) (by decide) (jx_c3 hB) (by rw [hC.kd (.inr (.inl ⟨rfl, by omega⟩))]; rfl) rfl (Nat.le_of_ble_eq_true rfl) (Nat.le_of_ble_eq_true rfl) (w_K_isOf hB hC hR (t := t) (a := p) (b := s) (by omega) (by omega) (by omega)) ?_
      have q2 := ite01 (S 19 t = p ∧ S 13 t = s)
      refine jI_if_eq (tgt := 40) d_T_tasksOf_34 (by decide) (by omega) (fun hc3 => ?_) (fun hc3 => ?_)
      · refine jI_inc d_T_tasksOf_40 rfl rfl ?_
        try dsimp only [List.set]
        refine jx_goto (tgt := 5) d_T_tasksOf_43 (by decide) ?_
        exact ih (x) (t + 1) (by rw [sCnt_s _ (by omega), ← hx]; first | rw [if_pos (decide_eq_true (by omega))] | (rw [if_neg (fun z => absurd (of_decide_eq_true z) (by omega))]; omega)) (by omega) (by omega)
      · refine jI_inc d_T_tasksOf_37 rfl rfl ?_
        try dsimp only [List.set]
        refine jI_inc d_T_tasksOf_40 rfl rfl ?_
        try dsimp only [List.set]
        refine jx_goto (tgt := 5) d_T_tasksOf_43 (by decide) ?_
        exact ih (x + 1) (t + 1) (by rw [sCnt_s _ (by omega), ← hx]; first | rw [if_pos (decide_eq_true (by omega))] | (rw [if_neg (fun z => absurd (of_decide_eq_true z) (by omega))]; omega)) (by omega) (by omega)
theorem w_T_tasksOf {E : jx_E} {l : Launch} {d : Nat} {w : jx_W} {D S : mS} {G : Nat → Nat → Nat} {lo hi : Nat} {p s : Int} (hB : jx_B E) (hC : cR E D w G lo hi) (hR : rl S D) (hp : iR p) (hs : iR s) : jx_G E l Y_T_tasksOf (d + 3) (jx_eq (.inr (some (.int (iI (sOf S p s))))) w) 0 (jx_ent [.ref (G 2 0), .int (iI (p)), .int (iI (s))] 5) [] w := by
  show jx_G E l Y_T_tasksOf (d + 3) _ 0 [some (.ref (G 2 0)), some (.int (iI (p))), some (.int (iI (s))), none, none] [] w
  have hN := hR.N
  refine jI_const d_T_tasksOf_0 ?_
  refine jx_istore_n d_T_tasksOf_1 rfl (Nat.le_of_ble_eq_true rfl) rfl ?_
  try dsimp only [List.set]
  refine jI_const d_T_tasksOf_2 ?_
  refine jx_istore d_T_tasksOf_3 (Nat.le_of_ble_eq_true rfl) rfl ?_
  try dsimp only [List.set]
  exact l_T_tasksOf hB hC hR hp hs 17 0 0 rfl (by omega) (by omega)
theorem sOf_rg {S : mS} {p s : Int} (hT : 0 ≤ S 1 0 ∧ S 1 0 ≤ 16) : 0 ≤ sOf S p s ∧ sOf S p s ≤ 16 := by
  have := sCnt_rg (fun i => decide (S 19 i = p ∧ S 13 i = s)) hT.1
  unfold sOf
  omega
theorem l_T_latenessOfPlan {E : jx_E} {l : Launch} {d : Nat} {w : jx_W} {D S : mS} {G : Nat → Nat → Nat} {lo hi : Nat}  (hB : jx_B E) (hC : cR E D w G lo hi) (hR : rl S D)  : ∀ (j : Nat) (x t : Int) (X : Option Value), x = sSum (fun t => if S 13 t = 0 then (if S 19 t = -1 then 100000 else sLate S t (S 20 t)) else 0) t → 0 ≤ t ∧ t ≤ S 1 0 → S 1 0 - t < j → jx_G E l Y_T_latenessOfPlan (d + 4) (jx_eq (.inr (some (.int (iI (sCost S))))) w) 4 [some (.ref (G 2 0)), some (.int (iI (x))), some (.int (iI (t))), X] [] w := by
  have hN := hR.N
  intro j
  induction j with
  | zero => intro x t X hx ht hz; exfalso; omega
  | succ j ih =>
    intro x t X hx ht hz
    have hxr := sCost_rg hR.I hN.2.2.1 ht
    rw [← hx] at hxr
    refine jx_iload_n d_T_latenessOfPlan_4 rfl rfl ?_
    refine jx_aload_n d_T_latenessOfPlan_5 rfl rfl ?_
    refine cx_ptr (c2 := 2) (x2 := 2) d_T_latenessOfPlan_6 (f_T_16 hB) hC (by decide) (by decide) rfl ?_
    refine cx_size 1 2 34 rfl hB d_T_latenessOfPlan_9 (v_T_41 hB) hC (by decide) rfl (Nat.le_of_ble_eq_true rfl) ?_
    refine jI_icmp_ge (tgt := 64) d_T_latenessOfPlan_12 (by decide) (by omega) (by omega) (fun hc1 => ?_) (fun hc1 => ?_)
    · refine jx_iload_n d_T_latenessOfPlan_64 rfl rfl ?_
      exact jx_iret d_T_latenessOfPlan_65 rfl ⟨jr_i (by (have e : t = S 1 0 := by omega); rw [hx, e]; rfl), rfl⟩
    · refine jx_aload_n d_T_latenessOfPlan_15 rfl rfl ?_
      refine cx_ptr (c2 := 2) (x2 := 2) d_T_latenessOfPlan_16 (f_T_16 hB) hC (by decide) (by decide) rfl ?_
      refine jx_iload_n d_T_latenessOfPlan_19 rfl rfl ?_
      refine cx_at1 hB d_T_latenessOfPlan_20 (v_T_166 hB) hC (by omega) (Nat.le_of_ble_eq_true rfl) ?_
      refine jx_cast d_T_latenessOfPlan_23 (h_T_98 hB) (h_cast3 hB) (by decide) (jx_c3 hB) (by rw [hC.kd (.inr (.inl ⟨rfl, by omega⟩))]; rfl) ?_
      refine jx_astore_n d_T_latenessOfPlan_26 rfl (Nat.le_of_ble_eq_true rfl) rfl ?_
      try dsimp only [List.set]
      refine jx_aload_n d_T_latenessOfPlan_27 rfl rfl ?_
      refine cx_K 5 (f := 25) rfl d_T_latenessOfPlan_28 (f_T_170 hB) hC (by decide) (by omega) ?_
      have a2 : D 25 t = S 13 t := (hR.K (t := t) (by omega)).1.2.2.2.2.2.1
      have a3 : 0 ≤ D 25 t ∧ D 25 t ≤ 2 := (hR.Kr (t := t) (by omega)).2.2.2.2.2.1
      refine jI_if_ne (tgt := 58) d_T_latenessOfPlan_31 (by decide) (by omega) (fun hc4 => ?_) (fun hc4 => ?_)
      · refine jI_inc d_T_latenessOfPlan_58 rfl rfl ?_
        try dsimp only [List.set]
        refine jx_goto (tgt := 4) d_T_latenessOfPlan_61 (by decide) ?_
        exact ih (x) (t + 1) _ (by rw [sSum_s _ (by omega), ← hx]; first | (rw [if_pos (by omega), if_pos (by omega)]; done) | (rw [if_pos (by omega), if_neg (by omega), show S 20 t = D 27 t by omega]; done) | (rw [if_neg (by omega)]; omega)) (by omega) (by omega)
      · refine jx_iload_n d_T_latenessOfPlan_34 rfl rfl ?_
        refine jx_aload_n d_T_latenessOfPlan_35 rfl rfl ?_
        refine cx_K 6 (f := 26) rfl d_T_latenessOfPlan_36 (f_T_127 hB) hC (by decide) (by omega) ?_
        have a5 : D 26 t = S 19 t := (hR.K (t := t) (by omega)).1.2.2.2.2.2.2.1
        have a6 : -1 ≤ D 26 t ∧ D 26 t ≤ 3 := (hR.Kr (t := t) (by omega)).2.2.2.2.2.2.1
        refine jI_const d_T_latenessOfPlan_39 ?_
        refine jI_icmp_ne (tgt := 48) d_T_latenessOfPlan_40 (by decide) (by omega) (by omega) (fun hc7 => ?_) (fun hc7 => ?_)
        · refine jx_aload_n d_T_latenessOfPlan_48 rfl rfl ?_
          refine jx_aload_n d_T_latenessOfPlan_49 rfl rfl ?_
          refine cx_K 7 (f := 27) rfl d_T_latenessOfPlan_50 (f_T_185 hB) hC (by decide) (by omega) ?_
          have a8 : D 27 t = S 20 t := (hR.K (t := t) (by omega)).1.2.2.2.2.2.2.2
          have a9 : -1 ≤ D 27 t ∧ D 27 t ≤ 100000 := (hR.Kr (t := t) (by omega)).2.2.2.2.2.2.2
          refine jx_callV_r (As := [.int (iI (D 27 t))]) (v := some (.int (iI (sLate S t (D 27 t))))) d_T_latenessOfPlan_53 (m_K_latenessFrom hB) (v_T_241 hB) (by decide) (jx_c3 hB) (by rw [hC.kd (.inr (.inl ⟨rfl, by omega⟩))]; rfl) rfl (Nat.le_of_ble_eq_true rfl) (Nat.le_of_ble_eq_true rfl) (w_K_latenessFrom hB hC hR (t := t) (b := D 27 t) (by omega) (by omega)) ?_
          have q10 := sLate_rg (S := S) (t := t) (s := D 27 t) hR.I (by omega) (by omega)
          refine jI_add d_T_latenessOfPlan_56 ?_
          refine jx_istore_n d_T_latenessOfPlan_57 rfl (Nat.le_of_ble_eq_true rfl) rfl ?_
          try dsimp only [List.set]
          refine jI_inc d_T_latenessOfPlan_58 rfl rfl ?_
          try dsimp only [List.set]
          refine jx_goto (tgt := 4) d_T_latenessOfPlan_61 (by decide) ?_
          exact ih (x + (sLate S t (D 27 t))) (t + 1) _ (by rw [sSum_s _ (by omega), ← hx]; first | (rw [if_pos (by omega), if_pos (by omega)]; done) | (rw [if_pos (by omega), if_neg (by omega), show S 20 t = D 27 t by omega]; done) | (rw [if_neg (by omega)]; omega)) (by omega) (by omega)
        · refine jI_ldc d_T_latenessOfPlan_43 (k_T_40 hB) (n := 100000) (by decide) ?_
          refine jx_goto (tgt := 56) d_T_latenessOfPlan_45 (by decide) ?_
          refine jI_add d_T_latenessOfPlan_56 ?_
          refine jx_istore_n d_T_latenessOfPlan_57 rfl (Nat.le_of_ble_eq_true rfl) rfl ?_
          try dsimp only [List.set]
          refine jI_inc d_T_latenessOfPlan_58 rfl rfl ?_
          try dsimp only [List.set]
          refine jx_goto (tgt := 4) d_T_latenessOfPlan_61 (by decide) ?_
          exact ih (x + 100000) (t + 1) _ (by rw [sSum_s _ (by omega), ← hx]; first | (rw [if_pos (by omega), if_pos (by omega)]; done) | (rw [if_pos (by omega), if_neg (by omega), show S 20 t = D 27 t by omega]; done) | (rw [if_neg (by omega)]; omega)) (by omega) (by omega)
theorem w_T_latenessOfPlan {E : jx_E} {l : Launch} {d : Nat} {w : jx_W} {D S : mS} {G : Nat → Nat → Nat} {lo hi : Nat}  (hB : jx_B E) (hC : cR E D w G lo hi) (hR : rl S D)  : jx_G E l Y_T_latenessOfPlan (d + 4) (jx_eq (.inr (some (.int (iI (sCost S))))) w) 0 (jx_ent [.ref (G 2 0)] 4) [] w := by
  show jx_G E l Y_T_latenessOfPlan (d + 4) _ 0 [some (.ref (G 2 0)), none, none, none] [] w
  have hN := hR.N
  refine jI_const d_T_latenessOfPlan_0 ?_
  refine jx_istore_n d_T_latenessOfPlan_1 rfl (Nat.le_of_ble_eq_true rfl) rfl ?_
  try dsimp only [List.set]
  refine jI_const d_T_latenessOfPlan_2 ?_
  refine jx_istore_n d_T_latenessOfPlan_3 rfl (Nat.le_of_ble_eq_true rfl) rfl ?_
  try dsimp only [List.set]
  exact l_T_latenessOfPlan hB hC hR 17 0 0 _ rfl (by omega) (by omega)
theorem l_T_plannedBefore {E : jx_E} {l : Launch} {d : Nat} {w : jx_W} {D S : mS} {G : Nat → Nat → Nat} {lo hi : Nat} {q : Int} (hB : jx_B E) (hC : cR E D w G lo hi) (hR : rl S D) (hq : 0 ≤ q ∧ q < S 1 0) : ∀ (j : Nat) (x t : Int) (X Z : Option Value), x = sCnt (fun u => pO S (S 19 q) u && kB (S 20) u q) t → 0 ≤ t ∧ t ≤ S 1 0 → S 1 0 - t < j → jx_G E l Y_T_plannedBefore (d + 3) (jx_eq (.inr (some (.int (iI (rk (pO S (S 19 q)) (S 20) (S 1 0) q))))) w) 4 [some (.ref (G 2 0)), some (.ref (G 1 (q).toNat)), some (.int (iI (x))), some (.int (iI (t))), X, Z] [] w := by
  have hN := hR.N
  intro j
  induction j with
  | zero => intro x t X Z hx ht hz; exfalso; omega
  | succ j ih =>
    intro x t X Z hx ht hz
    have hxr := sCnt_rg (fun u => pO S (S 19 q) u && kB (S 20) u q) ht.1
    rw [← hx] at hxr
    refine jx_iload_n d_T_plannedBefore_4 rfl rfl ?_
    refine jx_aload_n d_T_plannedBefore_5 rfl rfl ?_
    refine cx_ptr (c2 := 2) (x2 := 2) d_T_plannedBefore_6 (f_T_16 hB) hC (by decide) (by decide) rfl ?_
    refine cx_size 1 2 34 rfl hB d_T_plannedBefore_9 (v_T_41 hB) hC (by decide) rfl (Nat.le_of_ble_eq_true rfl) ?_
    refine jI_icmp_ge (tgt := 94) d_T_plannedBefore_12 (by decide) (by omega) (by omega) (fun hc1 => ?_) (fun hc1 => ?_)
    · refine jx_iload_n d_T_plannedBefore_94 rfl rfl ?_
      exact jx_iret d_T_plannedBefore_95 rfl ⟨jr_i (by (have e : t = S 1 0 := by omega); rw [hx, e]; rfl), rfl⟩
    · refine jx_aload_n d_T_plannedBefore_15 rfl rfl ?_
      refine cx_ptr (c2 := 2) (x2 := 2) d_T_plannedBefore_16 (f_T_16 hB) hC (by decide) (by decide) rfl ?_
      refine jx_iload_n d_T_plannedBefore_19 rfl rfl ?_
      refine cx_at1 hB d_T_plannedBefore_20 (v_T_166 hB) hC (by omega) (Nat.le_of_ble_eq_true rfl) ?_
      refine jx_cast d_T_plannedBefore_23 (h_T_98 hB) (h_cast3 hB) (by decide) (jx_c3 hB) (by rw [hC.kd (.inr (.inl ⟨rfl, by omega⟩))]; rfl) ?_
      refine jx_astore d_T_plannedBefore_26 (Nat.le_of_ble_eq_true rfl) rfl ?_
      try dsimp only [List.set]
      refine jx_aload d_T_plannedBefore_28 rfl ?_
      refine cx_K 7 (f := 27) rfl d_T_plannedBefore_30 (f_T_185 hB) hC (by decide) (by omega) ?_
      have a2 : D 27 t = S 20 t := (hR.K (t := t) (by omega)).1.2.2.2.2.2.2.2
      have a3 : -1 ≤ D 27 t ∧ D 27 t ≤ 100000 := (hR.Kr (t := t) (by omega)).2.2.2.2.2.2.2
      refine jx_aload_n d_T_plannedBefore_33 rfl rfl ?_
      refine cx_K 7 (f := 27) rfl d_T_plannedBefore_34 (f_T_185 hB) hC (by decide) (by omega) ?_
      have a4 : D 27 q = S 20 q := (hR.K (t := q) (by omega)).1.2.2.2.2.2.2.2
      have a5 : -1 ≤ D 27 q ∧ D 27 q ≤ 100000 := (hR.Kr (t := q) (by omega)).2.2.2.2.2.2.2
      refine jI_icmp_lt (tgt := 60) d_T_plannedBefore_37 (by decide) (by omega) (by omega) (fun hc6 => ?_) (fun hc6 => ?_)
      · refine jI_const d_T_plannedBefore_60 ?_
        refine jx_goto (tgt := 65) d_T_plannedBefore_61 (by decide) ?_
        refine jx_istore d_T_plannedBefore_65 (Nat.le_of_ble_eq_true rfl) rfl ?_
        try dsimp only [List.set]
        refine jx_iload d_T_plannedBefore_67 rfl ?_
        refine jI_if_eq (tgt := 88) d_T_plannedBefore_69 (by decide) (by omega) (fun z => absurd z (by omega)) (fun _ => ?_)
        refine jx_aload d_T_plannedBefore_72 rfl ?_
        refine jx_aload_n d_T_plannedBefore_74 rfl rfl ?_
        refine cx_K 6 (f := 26) rfl d_T_plannedBefore_75 (f_T_127 hB) hC (by decide) (by omega) ?_
        have a8 : D 26 q = S 19 q := (hR.K (t := q) (by omega)).1.2.2.2.2.2.2.1
        have a9 : -1 ≤ D 26 q ∧ D 26 q ≤ 3 := (hR.Kr (t := q) (by omega)).2.2.2.2.2.2.1
        refine jI_const d_T_plannedBefore_78 ?_
        refine jx_callV_r (As := [.int (iI (D 26 q)), .int (iI (0))]) (v := some (.int (iI (if S 19 t = D 26 q ∧ S 13 t = 0 then 1 else 0)))) d_T_plannedBefore_79 (m_K_isOf hB) (v_T_237 hB) (by decide) (jx_c3 hB) (by rw [hC.kd (.inr (.inl ⟨rfl, by omega⟩))]; rfl) rfl (Nat.le_of_ble_eq_true rfl) (Nat.le_of_ble_eq_true rfl) (w_K_isOf hB hC hR (t := t) (a := D 26 q) (b := 0) (by omega) (by omega) (by omega)) ?_
        have q10 := ite01 (S 19 t = D 26 q ∧ S 13 t = 0)
        refine jI_if_eq (tgt := 88) d_T_plannedBefore_82 (by decide) (by omega) (fun hc11 => ?_) (fun hc11 => ?_)
        · refine jI_inc d_T_plannedBefore_88 rfl rfl ?_
          try dsimp only [List.set]
          refine jx_goto (tgt := 4) d_T_plannedBefore_91 (by decide) ?_
          exact ih (x) (t + 1) _ _ (by rw [sCnt_s _ (by omega), ← hx]; simp only [pO, kB, Bool.and_eq_true, decide_eq_true_eq]; first | (rw [if_pos (by omega)]) | (rw [if_neg (by omega)]; omega)) (by omega) (by omega)
        · refine jI_inc d_T_plannedBefore_85 rfl rfl ?_
          try dsimp only [List.set]
          refine jI_inc d_T_plannedBefore_88 rfl rfl ?_
          try dsimp only [List.set]
          refine jx_goto (tgt := 4) d_T_plannedBefore_91 (by decide) ?_
          exact ih (x + 1) (t + 1) _ _ (by rw [sCnt_s _ (by omega), ← hx]; simp only [pO, kB, Bool.and_eq_true, decide_eq_true_eq]; first | (rw [if_pos (by omega)]) | (rw [if_neg (by omega)]; omega)) (by omega) (by omega)
      · refine jx_aload d_T_plannedBefore_40 rfl ?_
        refine cx_K 7 (f := 27) rfl d_T_plannedBefore_42 (f_T_185 hB) hC (by decide) (by omega) ?_
        have a12 : D 27 t = S 20 t := (hR.K (t := t) (by omega)).1.2.2.2.2.2.2.2
        have a13 : -1 ≤ D 27 t ∧ D 27 t ≤ 100000 := (hR.Kr (t := t) (by omega)).2.2.2.2.2.2.2
        refine jx_aload_n d_T_plannedBefore_45 rfl rfl ?_
        refine cx_K 7 (f := 27) rfl d_T_plannedBefore_46 (f_T_185 hB) hC (by decide) (by omega) ?_
        have a14 : D 27 q = S 20 q := (hR.K (t := q) (by omega)).1.2.2.2.2.2.2.2
        have a15 : -1 ≤ D 27 q ∧ D 27 q ≤ 100000 := (hR.Kr (t := q) (by omega)).2.2.2.2.2.2.2
        refine jI_icmp_ne (tgt := 64) d_T_plannedBefore_49 (by decide) (by omega) (by omega) (fun hc16 => ?_) (fun hc16 => ?_)
        · refine jI_const d_T_plannedBefore_64 ?_
          refine jx_istore d_T_plannedBefore_65 (Nat.le_of_ble_eq_true rfl) rfl ?_
          try dsimp only [List.set]
          refine jx_iload d_T_plannedBefore_67 rfl ?_
          refine jI_if_eq (tgt := 88) d_T_plannedBefore_69 (by decide) (by omega) (fun _ => ?_) (fun z => absurd z (by omega))
          refine jI_inc d_T_plannedBefore_88 rfl rfl ?_
          try dsimp only [List.set]
          refine jx_goto (tgt := 4) d_T_plannedBefore_91 (by decide) ?_
          exact ih (x) (t + 1) _ _ (by rw [sCnt_s _ (by omega), ← hx]; simp only [pO, kB, Bool.and_eq_true, decide_eq_true_eq]; first | (rw [if_pos (by omega)]) | (rw [if_neg (by omega)]; omega)) (by omega) (by omega)
        · refine jx_iload_n d_T_plannedBefore_52 rfl rfl ?_
          refine jx_aload_n d_T_plannedBefore_53 rfl rfl ?_
          refine cx_K 0 (f := 20) rfl d_T_plannedBefore_54 (f_T_101 hB) hC (by decide) (by omega) ?_
          have a18 : D 20 q = q := (hR.Kr (t := q) (by omega)).1
          refine jI_icmp_ge (tgt := 64) d_T_plannedBefore_57 (by decide) (by omega) (by omega) (fun hc19 => ?_) (fun hc19 => ?_)
          · refine jI_const d_T_plannedBefore_64 ?_
            refine jx_istore d_T_plannedBefore_65 (Nat.le_of_ble_eq_true rfl) rfl ?_
            try dsimp only [List.set]
            refine jx_iload d_T_plannedBefore_67 rfl ?_
            refine jI_if_eq (tgt := 88) d_T_plannedBefore_69 (by decide) (by omega) (fun _ => ?_) (fun z => absurd z (by omega))
            refine jI_inc d_T_plannedBefore_88 rfl rfl ?_
            try dsimp only [List.set]
            refine jx_goto (tgt := 4) d_T_plannedBefore_91 (by decide) ?_
            exact ih (x) (t + 1) _ _ (by rw [sCnt_s _ (by omega), ← hx]; simp only [pO, kB, Bool.and_eq_true, decide_eq_true_eq]; first | (rw [if_pos (by omega)]) | (rw [if_neg (by omega)]; omega)) (by omega) (by omega)
          · refine jI_const d_T_plannedBefore_60 ?_
            refine jx_goto (tgt := 65) d_T_plannedBefore_61 (by decide) ?_
            refine jx_istore d_T_plannedBefore_65 (Nat.le_of_ble_eq_true rfl) rfl ?_
            try dsimp only [List.set]
            refine jx_iload d_T_plannedBefore_67 rfl ?_
            refine jI_if_eq (tgt := 88) d_T_plannedBefore_69 (by decide) (by omega) (fun z => absurd z (by omega)) (fun _ => ?_)
            refine jx_aload d_T_plannedBefore_72 rfl ?_
            refine jx_aload_n d_T_plannedBefore_74 rfl rfl ?_
            refine cx_K 6 (f := 26) rfl d_T_plannedBefore_75 (f_T_127 hB) hC (by decide) (by omega) ?_
            have a22 : D 26 q = S 19 q := (hR.K (t := q) (by omega)).1.2.2.2.2.2.2.1
            have a23 : -1 ≤ D 26 q ∧ D 26 q ≤ 3 := (hR.Kr (t := q) (by omega)).2.2.2.2.2.2.1
            refine jI_const d_T_plannedBefore_78 ?_
            refine jx_callV_r (As := [.int (iI (D 26 q)), .int (iI (0))]) (v := some (.int (iI (if S 19 t = D 26 q ∧ S 13 t = 0 then 1 else 0)))) d_T_plannedBefore_79 (m_K_isOf hB) (v_T_237 hB) (by decide) (jx_c3 hB) (by rw [hC.kd (.inr (.inl ⟨rfl, by omega⟩))]; rfl) rfl (Nat.le_of_ble_eq_true rfl) (Nat.le_of_ble_eq_true rfl) (w_K_isOf hB hC hR (t := t) (a := D 26 q) (b := 0) (by omega) (by omega) (by omega)) ?_
            have q24 := ite01 (S 19 t = D 26 q ∧ S 13 t = 0)
            refine jI_if_eq (tgt := 88) d_T_plannedBefore_82 (by decide) (by omega) (fun hc25 => ?_) (fun hc25 => ?_)
            · refine jI_inc d_T_plannedBefore_88 rfl rfl ?_
              try dsimp only [List.set]
              refine jx_goto (tgt := 4) d_T_plannedBefore_91 (by decide) ?_
              exact ih (x) (t + 1) _ _ (by rw [sCnt_s _ (by omega), ← hx]; simp only [pO, kB, Bool.and_eq_true, decide_eq_true_eq]; first | (rw [if_pos (by omega)]) | (rw [if_neg (by omega)]; omega)) (by omega) (by omega)
            · refine jI_inc d_T_plannedBefore_85 rfl rfl ?_
              try dsimp only [List.set]
              refine jI_inc d_T_plannedBefore_88 rfl rfl ?_
              try dsimp only [List.set]
              refine jx_goto (tgt := 4) d_T_plannedBefore_91 (by decide) ?_
              exact ih (x + 1) (t + 1) _ _ (by rw [sCnt_s _ (by omega), ← hx]; simp only [pO, kB, Bool.and_eq_true, decide_eq_true_eq]; first | (rw [if_pos (by omega)]) | (rw [if_neg (by omega)]; omega)) (by omega) (by omega)
theorem w_T_plannedBefore {E : jx_E} {l : Launch} {d : Nat} {w : jx_W} {D S : mS} {G : Nat → Nat → Nat} {lo hi : Nat} {q : Int} (hB : jx_B E) (hC : cR E D w G lo hi) (hR : rl S D) (hq : 0 ≤ q ∧ q < S 1 0) : jx_G E l Y_T_plannedBefore (d + 3) (jx_eq (.inr (some (.int (iI (rk (pO S (S 19 q)) (S 20) (S 1 0) q))))) w) 0 (jx_ent [.ref (G 2 0), .ref (G 1 (q).toNat)] 6) [] w := by
  show jx_G E l Y_T_plannedBefore (d + 3) _ 0 [some (.ref (G 2 0)), some (.ref (G 1 (q).toNat)), none, none, none, none] [] w
  have hN := hR.N
  refine jI_const d_T_plannedBefore_0 ?_
  refine jx_istore_n d_T_plannedBefore_1 rfl (Nat.le_of_ble_eq_true rfl) rfl ?_
  try dsimp only [List.set]
  refine jI_const d_T_plannedBefore_2 ?_
  refine jx_istore_n d_T_plannedBefore_3 rfl (Nat.le_of_ble_eq_true rfl) rfl ?_
  try dsimp only [List.set]
  exact l_T_plannedBefore hB hC hR hq 17 0 0 _ _ rfl (by omega) (by omega)
theorem rk_rg (P : Int → Bool) (K : Int → Int) {n : Int} (hn : 0 ≤ n) (t : Int) : 0 ≤ rk P K n t ∧ rk P K n t ≤ n := sCnt_rg _ hn
theorem l_T_plannedTask {E : jx_E} {l : Launch} {d : Nat} {w : jx_W} {D S : mS} {G : Nat → Nat → Nat} {lo hi : Nat} {p i : Int} (hB : jx_B E) (hC : cR E D w G lo hi) (hR : rl S D) (hp : iR p) (hi : 0 ≤ i ∧ i ≤ 2147483647) : ∀ (j : Nat) (t : Int), (∀ u, 0 ≤ u ∧ u < t → S 13 u = 0 ∧ S 19 u = p → rk (pO S p) (S 20) (S 1 0) u ≠ i) → 0 ≤ t ∧ t ≤ S 1 0 → S 1 0 - t < j → jx_G E l Y_T_plannedTask (d + 4) (jx_eq (.inr (some (.int (iI (sPlan S p i))))) w) 2 [some (.ref (G 2 0)), some (.int (iI (p))), some (.int (iI (i))), some (.int (iI (t)))] [] w := by
  have hN := hR.N
  intro j
  induction j with
  | zero => intro t hx ht hz; exfalso; omega
  | succ j ih =>
    intro t hx ht hz
    refine jx_iload_n d_T_plannedTask_2 rfl rfl ?_
    refine jx_aload_n d_T_plannedTask_3 rfl rfl ?_
    refine cx_ptr (c2 := 2) (x2 := 2) d_T_plannedTask_4 (f_T_16 hB) hC (by decide) (by decide) rfl ?_
    refine cx_size 1 2 34 rfl hB d_T_plannedTask_7 (v_T_41 hB) hC (by decide) rfl (Nat.le_of_ble_eq_true rfl) ?_
    refine jI_icmp_ge (tgt := 59) d_T_plannedTask_10 (by decide) (by omega) (by omega) (fun hc1 => ?_) (fun hc1 => ?_)
    · refine jI_const d_T_plannedTask_59 ?_
      exact jx_iret d_T_plannedTask_60 rfl ⟨jr_i (by refine (plan_no (by omega) (by omega) (fun u hu hpu => hx u (by omega) hpu)).symm), rfl⟩
    · refine jx_aload_n d_T_plannedTask_13 rfl rfl ?_
      refine cx_ptr (c2 := 2) (x2 := 2) d_T_plannedTask_14 (f_T_16 hB) hC (by decide) (by decide) rfl ?_
      refine jx_iload_n d_T_plannedTask_17 rfl rfl ?_
      refine cx_at1 hB d_T_plannedTask_18 (v_T_166 hB) hC (by omega) (Nat.le_of_ble_eq_true rfl) ?_
      refine jx_cast d_T_plannedTask_21 (h_T_98 hB) (h_cast3 hB) (by decide) (jx_c3 hB) (by rw [hC.kd (.inr (.inl ⟨rfl, by omega⟩))]; rfl) ?_
      refine jx_iload_n d_T_plannedTask_24 rfl rfl ?_
      refine jI_const d_T_plannedTask_25 ?_
      refine jx_callV_r (As := [.int (iI (p)), .int (iI (0))]) (v := some (.int (iI (if S 19 t = p ∧ S 13 t = 0 then 1 else 0)))) d_T_plannedTask_26 (m_K_isOf hB) (v_T_237 hB) (by decide) (jx_c3 hB) (by rw [hC.kd (.inr (.inl ⟨rfl, by omega⟩))]; rfl) rfl (Nat.le_of_ble_eq_true rfl) (Nat.le_of_ble_eq_true rfl) (w_K_isOf hB hC hR (t := t) (a := p) (b := 0) (by omega) (by omega) (by omega)) ?_
      have q2 := ite01 (S 19 t = p ∧ S 13 t = 0)
      refine jI_if_eq (tgt := 53) d_T_plannedTask_29 (by decide) (by omega) (fun hc3 => ?_) (fun hc3 => ?_)
      · refine jI_inc d_T_plannedTask_53 rfl rfl ?_
        try dsimp only [List.set]
        refine jx_goto (tgt := 2) d_T_plannedTask_56 (by decide) ?_
        exact ih (t + 1) (fun u hu hpu => if e : u = t then (by subst e; first | (exfalso; omega) | (intro hk; rw [← hpu.2] at hk; omega)) else hx u (by omega) hpu) (by omega) (by omega)
      · refine jx_aload_n d_T_plannedTask_32 rfl rfl ?_
        refine jx_aload_n d_T_plannedTask_33 rfl rfl ?_
        refine cx_ptr (c2 := 2) (x2 := 2) d_T_plannedTask_34 (f_T_16 hB) hC (by decide) (by decide) rfl ?_
        refine jx_iload_n d_T_plannedTask_37 rfl rfl ?_
        refine cx_at1 hB d_T_plannedTask_38 (v_T_166 hB) hC (by omega) (Nat.le_of_ble_eq_true rfl) ?_
        refine jx_cast d_T_plannedTask_41 (h_T_98 hB) (h_cast3 hB) (by decide) (jx_c3 hB) (by rw [hC.kd (.inr (.inl ⟨rfl, by omega⟩))]; rfl) ?_
        refine jx_callV_r (As := [.ref (G 1 (t).toNat)]) (v := some (.int (iI (rk (pO S (S 19 t)) (S 20) (S 1 0) t)))) d_T_plannedTask_44 (m_T_plannedBefore hB) (v_T_244 hB) (by decide) (jx_c0 hB) (by rw [hC.kd (.inr (.inr (.inl ⟨rfl, by decide⟩)))]; rfl) rfl (Nat.le_of_ble_eq_true rfl) (Nat.le_of_ble_eq_true rfl) (w_T_plannedBefore hB hC hR (q := t) (by omega)) ?_
        have q4 := rk_rg (pO S (S 19 t)) (S 20) (n := S 1 0) (by omega) t
        refine jx_iload_n d_T_plannedTask_47 rfl rfl ?_
        refine jI_icmp_ne (tgt := 53) d_T_plannedTask_48 (by decide) (by omega) (by omega) (fun hc5 => ?_) (fun hc5 => ?_)
        · refine jI_inc d_T_plannedTask_53 rfl rfl ?_
          try dsimp only [List.set]
          refine jx_goto (tgt := 2) d_T_plannedTask_56 (by decide) ?_
          exact ih (t + 1) (fun u hu hpu => if e : u = t then (by subst e; first | (exfalso; omega) | (intro hk; rw [← hpu.2] at hk; omega)) else hx u (by omega) hpu) (by omega) (by omega)
        · refine jx_iload_n d_T_plannedTask_51 rfl rfl ?_
          exact jx_iret d_T_plannedTask_52 rfl ⟨jr_i (by (have e2 : S 19 t = p := by omega); refine (plan_eq (by omega) (by omega) (by omega) (by omega) ?_).symm; rw [← e2]; omega), rfl⟩
theorem w_T_plannedTask {E : jx_E} {l : Launch} {d : Nat} {w : jx_W} {D S : mS} {G : Nat → Nat → Nat} {lo hi : Nat} {p i : Int} (hB : jx_B E) (hC : cR E D w G lo hi) (hR : rl S D) (hp : iR p) (hi : 0 ≤ i ∧ i ≤ 2147483647) : jx_G E l Y_T_plannedTask (d + 4) (jx_eq (.inr (some (.int (iI (sPlan S p i))))) w) 0 (jx_ent [.ref (G 2 0), .int (iI (p)), .int (iI (i))] 4) [] w := by
  show jx_G E l Y_T_plannedTask (d + 4) _ 0 [some (.ref (G 2 0)), some (.int (iI (p))), some (.int (iI (i))), none] [] w
  have hN := hR.N
  refine jI_const d_T_plannedTask_0 ?_
  refine jx_istore_n d_T_plannedTask_1 rfl (Nat.le_of_ble_eq_true rfl) rfl ?_
  try dsimp only [List.set]
  exact l_T_plannedTask hB hC hR hp hi 17 0 (fun u hu => by omega) (by omega) (by omega)
theorem w_T_startAsOnlyOne {E : jx_E} {l : Launch} {d : Nat} {w : jx_W} {D S : mS} {G : Nat → Nat → Nat} {lo hi : Nat} {p t : Int} (hB : jx_B E) (hC : cR E D w G lo hi) (hR : rl S D) (hp : 0 ≤ p ∧ p < S 0 0) (ht : 0 ≤ t ∧ t < S 1 0) (h7 : D 7 p = 1) : jx_G E l Y_T_startAsOnlyOne (d + 2) (jx_eq (.inr (some (.int (iI (sAlone S p t))))) w) 0 (jx_ent [.ref (G 2 0), .ref (G 0 (p).toNat), .ref (G 1 (t).toNat)] 3) [] w := by
  show jx_G E l Y_T_startAsOnlyOne (d + 2) _ 0 [some (.ref (G 2 0)), some (.ref (G 0 (p).toNat)), some (.ref (G 1 (t).toNat))] [] w
  have hN := hR.N
  refine jx_aload_n d_T_startAsOnlyOne_0 rfl rfl ?_
  refine jx_aload_n d_T_startAsOnlyOne_1 rfl rfl ?_
  refine jx_aload_n d_T_startAsOnlyOne_2 rfl rfl ?_
  refine jx_aload_n d_T_startAsOnlyOne_3 rfl rfl ?_
  refine cx_now d_T_startAsOnlyOne_4 (f_T_153 hB) hC ?_
  refine jx_callV_r (As := [.int (iI (D 31 0))]) (v := some (.int (iI (sGr (D 31 0) (sGr (D 1 p) (D 9 p)))))) d_T_startAsOnlyOne_7 (m_P_freeFrom hB) (v_T_247 hB) (by decide) (jx_c2 hB) (by rw [hC.kd (.inl ⟨rfl, by omega⟩)]; rfl) rfl (Nat.le_of_ble_eq_true rfl) (Nat.le_of_ble_eq_true rfl) (w_P_freeFrom hB hC hR (p := p) (n := D 31 0) (by omega) (by omega)) ?_
  have a1 : 0 ≤ sGr (D 31 0) (sGr (D 1 p) (D 9 p)) ∧ sGr (D 31 0) (sGr (D 1 p) (D 9 p)) ≤ 110000 := by have hh := hR.Pr (p := p) (by omega); unfold sGr; (repeat' split) <;> omega
  refine jx_aload_n d_T_startAsOnlyOne_10 rfl rfl ?_
  refine cx_P 4 d_T_startAsOnlyOne_11 (f_T_200 hB) hC (by decide) (by omega) ?_
  have a2 : 0 ≤ D 4 p ∧ D 4 p ≤ 3 := (hR.Pr (p := p) (by omega)).2.2.2.1
  have a3 : D 4 p = S 9 p := (hR.P (p := p) (by omega)).1.2.2.2.2.1
  refine jx_aload_n d_T_startAsOnlyOne_14 rfl rfl ?_
  refine cx_ptr (c2 := 2) (x2 := 4) d_T_startAsOnlyOne_15 (f_T_25 hB) hC (by decide) (by decide) rfl ?_
  refine jx_callV_r (As := [.ref (G 1 (t).toNat), .int (iI (sGr (D 31 0) (sGr (D 1 p) (D 9 p)))), .int (iI (D 4 p)), .ref (G 2 4)]) (v := some (.int (iI (sStart S p t (sGr (D 31 0) (sGr (D 1 p) (D 9 p))) (D 4 p))))) d_T_startAsOnlyOne_18 (m_P_startOf hB) (v_T_250 hB) (by decide) (jx_c2 hB) (by rw [hC.kd (.inl ⟨rfl, by omega⟩)]; rfl) rfl (Nat.le_of_ble_eq_true rfl) (Nat.le_of_ble_eq_true rfl) (w_P_startOf hB hC hR (p := p) (t := t) (r := sGr (D 31 0) (sGr (D 1 p) (D 9 p))) (z := D 4 p) (by omega) (by omega) (by omega) (by omega)) ?_
  have q4 := sStart_rg (S := S) (p := p) (t := t) (r := sGr (D 31 0) (sGr (D 1 p) (D 9 p))) (z := D 4 p) hR.I (by omega) (by omega) (by omega) (by omega)
  exact jx_iret d_T_startAsOnlyOne_21 rfl ⟨jr_i (by rw [hR.ready hp h7]; unfold sAlone; rw [(hR.P hp).1.2.2.2.2.1]), rfl⟩
theorem l_T_least {E : jx_E} {l : Launch} {d : Nat} {w : jx_W} {D S : mS} {G : Nat → Nat → Nat} {lo hi : Nat} {t : Int} (hB : jx_B E) (hC : cR E D w G lo hi) (hR : rl S D) (ht : 0 ≤ t ∧ t < S 1 0) : ∀ (j : Nat) (x p : Int) (X Z : Option Value), x = iFor (gLeast S t) 100000 p → 0 ≤ p ∧ p ≤ S 0 0 → S 0 0 - p < j → jx_G E l Y_T_leastLatenessAlone (d + 3) (jx_eq (.inr (some (.int (iI (sLeast S t))))) w) 5 [some (.ref (G 2 0)), some (.ref (G 1 (t).toNat)), some (.int (iI (x))), some (.int (iI (p))), X, Z] [] w := by
  have hN := hR.N
  intro j
  induction j with
  | zero => intro x p X Z hx hp hz; exfalso; omega
  | succ j ih =>
    intro x p X Z hx hp hz
    have hxr := sLeast_rg (S := S) (t := t) (q := p) hR.I hN.2.1 (by omega) (by omega) hp.2
    rw [← hx] at hxr
    refine jx_iload_n d_T_leastLatenessAlone_5 rfl rfl ?_
    refine jx_aload_n d_T_leastLatenessAlone_6 rfl rfl ?_
    refine cx_ptr (c2 := 2) (x2 := 1) d_T_leastLatenessAlone_7 (f_T_10 hB) hC (by decide) (by decide) rfl ?_
    refine cx_size 0 1 33 rfl hB d_T_leastLatenessAlone_10 (v_T_41 hB) hC (by decide) rfl (Nat.le_of_ble_eq_true rfl) ?_
    refine jI_icmp_ge (tgt := 74) d_T_leastLatenessAlone_13 (by decide) (by omega) (by omega) (fun hc1 => ?_) (fun hc1 => ?_)
    · refine jx_iload_n d_T_leastLatenessAlone_74 rfl rfl ?_
      exact jx_iret d_T_leastLatenessAlone_75 rfl ⟨jr_i (by (have e : p = S 0 0 := by omega); rw [hx, e]; rfl), rfl⟩
    · refine jx_aload_n d_T_leastLatenessAlone_16 rfl rfl ?_
      refine cx_ptr (c2 := 2) (x2 := 1) d_T_leastLatenessAlone_17 (f_T_10 hB) hC (by decide) (by decide) rfl ?_
      refine jx_iload_n d_T_leastLatenessAlone_20 rfl rfl ?_
      refine cx_at0 hB d_T_leastLatenessAlone_21 (v_T_166 hB) hC (by omega) (Nat.le_of_ble_eq_true rfl) ?_
      refine jx_cast d_T_leastLatenessAlone_24 (h_T_49 hB) (h_cast2 hB) (by decide) (jx_c2 hB) (by rw [hC.kd (.inl ⟨rfl, by omega⟩)]; rfl) ?_
      refine jx_astore d_T_leastLatenessAlone_27 (Nat.le_of_ble_eq_true rfl) rfl ?_
      try dsimp only [List.set]
      refine jx_aload d_T_leastLatenessAlone_29 rfl ?_
      refine jx_aload_n d_T_leastLatenessAlone_31 rfl rfl ?_
      refine jx_callV_r (As := [.ref (G 1 (t).toNat)]) (v := some (.int (iI (sMay S p t)))) d_T_leastLatenessAlone_32 (m_P_may hB) (v_T_254 hB) (by decide) (jx_c2 hB) (by rw [hC.kd (.inl ⟨rfl, by omega⟩)]; rfl) rfl (Nat.le_of_ble_eq_true rfl) (Nat.le_of_ble_eq_true rfl) (w_P_may hB hC hR (p := p) (t := t) (by omega) (by omega)) ?_
      have q2 := sMay_01 S p t
      have q3 := may_here hR (p := p) (t := t) (by omega)
      refine jI_if_eq (tgt := 48) d_T_leastLatenessAlone_35 (by decide) (by omega) (fun hc4 => ?_) (fun hc4 => ?_)
      · refine jI_const d_T_leastLatenessAlone_48 ?_
        refine jx_istore d_T_leastLatenessAlone_49 (Nat.le_of_ble_eq_true rfl) rfl ?_
        try dsimp only [List.set]
        refine jx_iload d_T_leastLatenessAlone_51 rfl ?_
        refine jI_const d_T_leastLatenessAlone_53 ?_
        refine jI_icmp_eq (tgt := 68) d_T_leastLatenessAlone_54 (by decide) (by omega) (by omega) (fun _ => ?_) (fun z => absurd z (by omega))
        refine jI_inc d_T_leastLatenessAlone_68 rfl rfl ?_
        try dsimp only [List.set]
        refine jx_goto (tgt := 5) d_T_leastLatenessAlone_71 (by decide) ?_
        exact ih (x) (p + 1) _ _ (by rw [iFor_s _ _ (by omega), ← hx]; unfold gLeast; first | (rw [if_neg (by omega)]; done) | (split <;> split <;> omega) | (split <;> omega)) (by omega) (by omega)
      · refine jx_aload_n d_T_leastLatenessAlone_38 rfl rfl ?_
        refine jx_aload d_T_leastLatenessAlone_39 rfl ?_
        refine jx_aload_n d_T_leastLatenessAlone_41 rfl rfl ?_
        refine jx_callV_r (As := [.ref (G 0 (p).toNat), .ref (G 1 (t).toNat)]) (v := some (.int (iI (sAlone S p t)))) d_T_leastLatenessAlone_42 (m_T_startAsOnlyOne hB) (v_T_140 hB) (by decide) (jx_c0 hB) (by rw [hC.kd (.inr (.inr (.inl ⟨rfl, by decide⟩)))]; rfl) rfl (Nat.le_of_ble_eq_true rfl) (Nat.le_of_ble_eq_true rfl) (w_T_startAsOnlyOne hB hC hR (p := p) (t := t) (by omega) (by omega) (by omega)) ?_
        have q6 := sAlone_rg (S := S) (p := p) (t := t) hR.I (by omega) (by omega) (by omega)
        refine jx_goto (tgt := 49) d_T_leastLatenessAlone_45 (by decide) ?_
        refine jx_istore d_T_leastLatenessAlone_49 (Nat.le_of_ble_eq_true rfl) rfl ?_
        try dsimp only [List.set]
        refine jx_iload d_T_leastLatenessAlone_51 rfl ?_
        refine jI_const d_T_leastLatenessAlone_53 ?_
        refine jI_icmp_eq (tgt := 68) d_T_leastLatenessAlone_54 (by decide) (by omega) (by omega) (fun hc7 => ?_) (fun hc7 => ?_)
        · refine jI_inc d_T_leastLatenessAlone_68 rfl rfl ?_
          try dsimp only [List.set]
          refine jx_goto (tgt := 5) d_T_leastLatenessAlone_71 (by decide) ?_
          exact ih (x) (p + 1) _ _ (by rw [iFor_s _ _ (by omega), ← hx]; unfold gLeast; first | (rw [if_neg (by omega)]; done) | (split <;> split <;> omega) | (split <;> omega)) (by omega) (by omega)
        · refine jx_iload_n d_T_leastLatenessAlone_57 rfl rfl ?_
          refine jx_aload_n d_T_leastLatenessAlone_58 rfl rfl ?_
          refine jx_iload d_T_leastLatenessAlone_59 rfl ?_
          refine jx_callV_r (As := [.int (iI (sAlone S p t))]) (v := some (.int (iI (sLate S t (sAlone S p t))))) d_T_leastLatenessAlone_61 (m_K_latenessFrom hB) (v_T_241 hB) (by decide) (jx_c3 hB) (by rw [hC.kd (.inr (.inl ⟨rfl, by omega⟩))]; rfl) rfl (Nat.le_of_ble_eq_true rfl) (Nat.le_of_ble_eq_true rfl) (w_K_latenessFrom hB hC hR (t := t) (b := sAlone S p t) (by omega) (by omega)) ?_
          have q8 := sLate_rg (S := S) (t := t) (s := sAlone S p t) hR.I (by omega) (by omega)
          refine jI_min d_T_leastLatenessAlone_64 (h_T_257 hB) (h_min1 hB) (h_math hB) (h_min2 hB) (Nat.le_of_ble_eq_true rfl) (by omega) (by omega) ?_
          have g9 : ((if sLate S t (sAlone S p t) < x then sLate S t (sAlone S p t) else x) ≤ x ∧ (if sLate S t (sAlone S p t) < x then sLate S t (sAlone S p t) else x) ≤ sLate S t (sAlone S p t)) ∧ ((if sLate S t (sAlone S p t) < x then sLate S t (sAlone S p t) else x) = x ∨ (if sLate S t (sAlone S p t) < x then sLate S t (sAlone S p t) else x) = sLate S t (sAlone S p t)) := by split <;> omega
          refine jx_istore_n d_T_leastLatenessAlone_67 rfl (Nat.le_of_ble_eq_true rfl) rfl ?_
          try dsimp only [List.set]
          refine jI_inc d_T_leastLatenessAlone_68 rfl rfl ?_
          try dsimp only [List.set]
          refine jx_goto (tgt := 5) d_T_leastLatenessAlone_71 (by decide) ?_
          exact ih (if sLate S t (sAlone S p t) < x then sLate S t (sAlone S p t) else x) (p + 1) _ _ (by rw [iFor_s _ _ (by omega), ← hx]; unfold gLeast; first | (rw [if_neg (by omega)]; done) | (split <;> split <;> omega) | (split <;> omega)) (by omega) (by omega)
theorem w_T_leastLatenessAlone {E : jx_E} {l : Launch} {d : Nat} {w : jx_W} {D S : mS} {G : Nat → Nat → Nat} {lo hi : Nat} {t : Int} (hB : jx_B E) (hC : cR E D w G lo hi) (hR : rl S D) (ht : 0 ≤ t ∧ t < S 1 0) : jx_G E l Y_T_leastLatenessAlone (d + 3) (jx_eq (.inr (some (.int (iI (sLeast S t))))) w) 0 (jx_ent [.ref (G 2 0), .ref (G 1 (t).toNat)] 6) [] w := by
  show jx_G E l Y_T_leastLatenessAlone (d + 3) _ 0 [some (.ref (G 2 0)), some (.ref (G 1 (t).toNat)), none, none, none, none] [] w
  have hN := hR.N
  refine jI_ldc d_T_leastLatenessAlone_0 (k_T_40 hB) (n := 100000) (by decide) ?_
  refine jx_istore_n d_T_leastLatenessAlone_2 rfl (Nat.le_of_ble_eq_true rfl) rfl ?_
  try dsimp only [List.set]
  refine jI_const d_T_leastLatenessAlone_3 ?_
  refine jx_istore_n d_T_leastLatenessAlone_4 rfl (Nat.le_of_ble_eq_true rfl) rfl ?_
  try dsimp only [List.set]
  exact l_T_least hB hC hR ht 5 100000 0 _ _ rfl (by omega) (by omega)
