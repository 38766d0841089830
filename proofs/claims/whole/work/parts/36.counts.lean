/-! 36.counts: the reference's counting loops -/
def sCntN (P : Int → Bool) : Nat → Int
  | 0 => 0
  | k + 1 => sCntN P k + (if P k = true then 1 else 0)
/-- how many of 0 .. t - 1 -/
def sCnt (P : Int → Bool) (t : Int) : Int := sCntN P t.toNat
theorem sCnt_0 (P : Int → Bool) : sCnt P 0 = 0 := rfl
theorem sCnt_s (P : Int → Bool) {t : Int} (h : 0 ≤ t) : sCnt P (t + 1) = sCnt P t + (if P t = true then 1 else 0) := by
  unfold sCnt
  rw [show (t + 1).toNat = t.toNat + 1 by omega]
  show sCntN P t.toNat + (if P (t.toNat : Int) = true then 1 else 0) = _
  rw [Int.toNat_of_nonneg h]
theorem sCntN_rg (P : Int → Bool) : ∀ k : Nat, 0 ≤ sCntN P k ∧ sCntN P k ≤ k
  | 0 => ⟨Int.le_refl _, Int.le_refl _⟩
  | k + 1 => by
    have h := sCntN_rg P k
    show 0 ≤ sCntN P k + (if P k = true then 1 else 0) ∧ sCntN P k + (if P k = true then 1 else 0) ≤ ((k + 1 : Nat) : Int)
    split <;> omega
theorem sCnt_rg (P : Int → Bool) {t : Int} (h : 0 ≤ t) : 0 ≤ sCnt P t ∧ sCnt P t ≤ t := by
  have h1 := sCntN_rg P t.toNat
  unfold sCnt
  omega
theorem l_M_inState {E : jx_E} {l : Launch} {d : Nat} {w : jx_W} {S : mS} {m : Nat} {A : Nat → Nat} {s : Int} (hB : jx_B E) (hM : mR E S w m A) (hI : sI S) (hT : 0 ≤ S 1 0 ∧ S 1 0 ≤ 16) (ha : iR s) : ∀ (k : Nat) (t n : Int), n = sCnt (fun i => decide (S 13 i = s)) t → 0 ≤ t ∧ t ≤ S 1 0 → S 1 0 - t < k → jx_G E l Y_M_inState d (jx_eq (.inr (some (.int (iI (sCnt (fun i => decide (S 13 i = s)) (S 1 0)))))) w) 4 [some (.ref m), some (.int (iI s)), some (.int (iI n)), some (.int (iI t))] [] w := by
  intro k
  induction k with
  | zero => intro t n hn h1 h2; exfalso; omega
  | succ k ih =>
    intro t n hn h1 h2
    have hnr := sCnt_rg (fun i => decide (S 13 i = s)) h1.1
    have ett : t = S 1 0 → S 1 0 = t := fun z => z.symm
    refine jx_iload_n d_M_inState_4 rfl rfl ?_
    refine jx_aload_n d_M_inState_5 rfl rfl ?_
    refine mx_sc 1 d_M_inState_6 (f_M_94 hB) hM (by decide) ?_
    refine jI_icmp_ge (tgt := 31) d_M_inState_9 (by decide) (by omega) (by omega) (fun hc1 => ?_) (fun hc1 => ?_)
    · refine jx_iload_n d_M_inState_31 rfl rfl ?_
      exact jx_iret d_M_inState_32 rfl ⟨jr_i (by rw [hn, show t = S 1 0 by omega]), rfl⟩
    · refine jx_aload_n d_M_inState_12 rfl rfl ?_
      refine mx_ar 13 d_M_inState_13 (f_M_38 hB) hM (by decide) ?_
      refine jx_iload_n d_M_inState_16 rfl rfl ?_
      refine mx_ld (n := 16) d_M_inState_17 hM (by decide) rfl ⟨by omega, by omega⟩ ?_
      have r2 : 0 ≤ S 13 t ∧ S 13 t ≤ 2 := hI.r 13 t (n := 16) (by decide) rfl ⟨by omega, by omega⟩
      refine jx_iload_n d_M_inState_18 rfl rfl ?_
      refine jI_icmp_ne (tgt := 25) d_M_inState_19 (by decide) (by omega) (by omega) (fun hc3 => ?_) (fun hc3 => ?_)
      · refine jI_inc d_M_inState_25 rfl rfl ?_
        try dsimp only [List.set]
        refine jx_goto (tgt := 4) d_M_inState_28 (by decide) ?_
        exact ih (t + 1) (n) (by rw [sCnt_s _ (by omega), ← hn, if_neg (fun z => absurd (of_decide_eq_true z) (by omega)), Int.add_zero]) (by omega) (by omega)
      · refine jI_inc d_M_inState_22 rfl rfl ?_
        try dsimp only [List.set]
        refine jI_inc d_M_inState_25 rfl rfl ?_
        try dsimp only [List.set]
        refine jx_goto (tgt := 4) d_M_inState_28 (by decide) ?_
        exact ih (t + 1) (n + 1) (by rw [sCnt_s _ (by omega), ← hn, if_pos (decide_eq_true (by omega))]) (by omega) (by omega)
theorem w_M_inState {E : jx_E} {l : Launch} {d : Nat} {w : jx_W} {S : mS} {m : Nat} {A : Nat → Nat} {s : Int} (hB : jx_B E) (hM : mR E S w m A) (hI : sI S) (hT : 0 ≤ S 1 0 ∧ S 1 0 ≤ 16) (ha : iR s) : jx_G E l Y_M_inState d (jx_eq (.inr (some (.int (iI (sCnt (fun i => decide (S 13 i = s)) (S 1 0)))))) w) 0 (jx_ent [.ref m, .int (iI s)] 4) [] w := by
  show jx_G E l Y_M_inState d _ 0 [some (.ref m), some (.int (iI s)), none, none] [] w
  refine jI_const d_M_inState_0 ?_
  refine jx_istore_n d_M_inState_1 rfl (Nat.le_of_ble_eq_true rfl) rfl ?_
  try dsimp only [List.set]
  refine jI_const d_M_inState_2 ?_
  refine jx_istore_n d_M_inState_3 rfl (Nat.le_of_ble_eq_true rfl) rfl ?_
  try dsimp only [List.set]
  exact l_M_inState hB hM hI hT ha 17 0 0 (sCnt_0 _).symm (by omega) (by omega)
theorem l_M_doneBy {E : jx_E} {l : Launch} {d : Nat} {w : jx_W} {S : mS} {m : Nat} {A : Nat → Nat} {p : Int} (hB : jx_B E) (hM : mR E S w m A) (hI : sI S) (hT : 0 ≤ S 1 0 ∧ S 1 0 ≤ 16) (ha : iR p) : ∀ (k : Nat) (t n : Int), n = sCnt (fun i => decide (S 13 i = 2 ∧ (p = -1 ∨ S 19 i = p))) t → 0 ≤ t ∧ t ≤ S 1 0 → S 1 0 - t < k → jx_G E l Y_M_doneBy d (jx_eq (.inr (some (.int (iI (sCnt (fun i => decide (S 13 i = 2 ∧ (p = -1 ∨ S 19 i = p))) (S 1 0)))))) w) 4 [some (.ref m), some (.int (iI p)), some (.int (iI n)), some (.int (iI t))] [] w := by
  intro k
  induction k with
  | zero => intro t n hn h1 h2; exfalso; omega
  | succ k ih =>
    intro t n hn h1 h2
    have hnr := sCnt_rg (fun i => decide (S 13 i = 2 ∧ (p = -1 ∨ S 19 i = p))) h1.1
    have ett : t = S 1 0 → S 1 0 = t := fun z => z.symm
    refine jx_iload_n d_M_doneBy_4 rfl rfl ?_
    refine jx_aload_n d_M_doneBy_5 rfl rfl ?_
    refine mx_sc 1 d_M_doneBy_6 (f_M_94 hB) hM (by decide) ?_
    refine jI_icmp_ge (tgt := 46) d_M_doneBy_9 (by decide) (by omega) (by omega) (fun hc1 => ?_) (fun hc1 => ?_)
    · refine jx_iload_n d_M_doneBy_46 rfl rfl ?_
      exact jx_iret d_M_doneBy_47 rfl ⟨jr_i (by rw [hn, show t = S 1 0 by omega]), rfl⟩
    · refine jx_aload_n d_M_doneBy_12 rfl rfl ?_
      refine mx_ar 13 d_M_doneBy_13 (f_M_38 hB) hM (by decide) ?_
      refine jx_iload_n d_M_doneBy_16 rfl rfl ?_
      refine mx_ld (n := 16) d_M_doneBy_17 hM (by decide) rfl ⟨by omega, by omega⟩ ?_
      have r2 : 0 ≤ S 13 t ∧ S 13 t ≤ 2 := hI.r 13 t (n := 16) (by decide) rfl ⟨by omega, by omega⟩
      refine jI_const d_M_doneBy_18 ?_
      refine jI_icmp_ne (tgt := 40) d_M_doneBy_19 (by decide) (by omega) (by omega) (fun hc3 => ?_) (fun hc3 => ?_)
      · refine jI_inc d_M_doneBy_40 rfl rfl ?_
        try dsimp only [List.set]
        refine jx_goto (tgt := 4) d_M_doneBy_43 (by decide) ?_
        exact ih (t + 1) (n) (by rw [sCnt_s _ (by omega), ← hn, if_neg (fun z => absurd (of_decide_eq_true z) (by omega)), Int.add_zero]) (by omega) (by omega)
      · refine jx_iload_n d_M_doneBy_22 rfl rfl ?_
        refine jI_const d_M_doneBy_23 ?_
        refine jI_icmp_eq (tgt := 37) d_M_doneBy_24 (by decide) (by omega) (by omega) (fun hc4 => ?_) (fun hc4 => ?_)
        · refine jI_inc d_M_doneBy_37 rfl rfl ?_
          try dsimp only [List.set]
          refine jI_inc d_M_doneBy_40 rfl rfl ?_
          try dsimp only [List.set]
          refine jx_goto (tgt := 4) d_M_doneBy_43 (by decide) ?_
          exact ih (t + 1) (n + 1) (by rw [sCnt_s _ (by omega), ← hn, if_pos (decide_eq_true (by omega))]) (by omega) (by omega)
        · refine jx_aload_n d_M_doneBy_27 rfl rfl ?_
          refine mx_ar 19 d_M_doneBy_28 (f_M_56 hB) hM (by decide) ?_
          refine jx_iload_n d_M_doneBy_31 rfl rfl ?_
          refine mx_ld (n := 16) d_M_doneBy_32 hM (by decide) rfl ⟨by omega, by omega⟩ ?_
          have r5 : -1 ≤ S 19 t ∧ S 19 t ≤ 3 := hI.r 19 t (n := 16) (by decide) rfl ⟨by omega, by omega⟩
          refine jx_iload_n d_M_doneBy_33 rfl rfl ?_
          refine jI_icmp_ne (tgt := 40) d_M_doneBy_34 (by decide) (by omega) (by omega) (fun hc6 => ?_) (fun hc6 => ?_)
          · refine jI_inc d_M_doneBy_40 rfl rfl ?_
            try dsimp only [List.set]
            refine jx_goto (tgt := 4) d_M_doneBy_43 (by decide) ?_
            exact ih (t + 1) (n) (by rw [sCnt_s _ (by omega), ← hn, if_neg (fun z => absurd (of_decide_eq_true z) (by omega)), Int.add_zero]) (by omega) (by omega)
          · refine jI_inc d_M_doneBy_37 rfl rfl ?_
            try dsimp only [List.set]
            refine jI_inc d_M_doneBy_40 rfl rfl ?_
            try dsimp only [List.set]
            refine jx_goto (tgt := 4) d_M_doneBy_43 (by decide) ?_
            exact ih (t + 1) (n + 1) (by rw [sCnt_s _ (by omega), ← hn, if_pos (decide_eq_true (by omega))]) (by omega) (by omega)
theorem w_M_doneBy {E : jx_E} {l : Launch} {d : Nat} {w : jx_W} {S : mS} {m : Nat} {A : Nat → Nat} {p : Int} (hB : jx_B E) (hM : mR E S w m A) (hI : sI S) (hT : 0 ≤ S 1 0 ∧ S 1 0 ≤ 16) (ha : iR p) : jx_G E l Y_M_doneBy d (jx_eq (.inr (some (.int (iI (sCnt (fun i => decide (S 13 i = 2 ∧ (p = -1 ∨ S 19 i = p))) (S 1 0)))))) w) 0 (jx_ent [.ref m, .int (iI p)] 4) [] w := by
  show jx_G E l Y_M_doneBy d _ 0 [some (.ref m), some (.int (iI p)), none, none] [] w
  refine jI_const d_M_doneBy_0 ?_
  refine jx_istore_n d_M_doneBy_1 rfl (Nat.le_of_ble_eq_true rfl) rfl ?_
  try dsimp only [List.set]
  refine jI_const d_M_doneBy_2 ?_
  refine jx_istore_n d_M_doneBy_3 rfl (Nat.le_of_ble_eq_true rfl) rfl ?_
  try dsimp only [List.set]
  exact l_M_doneBy hB hM hI hT ha 17 0 0 (sCnt_0 _).symm (by omega) (by omega)
theorem l_M_load {E : jx_E} {l : Launch} {d : Nat} {w : jx_W} {S : mS} {m : Nat} {A : Nat → Nat} {p : Int} (hB : jx_B E) (hM : mR E S w m A) (hI : sI S) (hT : 0 ≤ S 1 0 ∧ S 1 0 ≤ 16) (ha : iR p) : ∀ (k : Nat) (t n : Int), n = sCnt (fun i => decide (S 19 i = p)) t → 0 ≤ t ∧ t ≤ S 1 0 → S 1 0 - t < k → jx_G E l Y_M_load d (jx_eq (.inr (some (.int (iI (sCnt (fun i => decide (S 19 i = p)) (S 1 0)))))) w) 4 [some (.ref m), some (.int (iI p)), some (.int (iI n)), some (.int (iI t))] [] w := by
  intro k
  induction k with
  | zero => intro t n hn h1 h2; exfalso; omega
  | succ k ih =>
    intro t n hn h1 h2
    have hnr := sCnt_rg (fun i => decide (S 19 i = p)) h1.1
    have ett : t = S 1 0 → S 1 0 = t := fun z => z.symm
    refine jx_iload_n d_M_load_4 rfl rfl ?_
    refine jx_aload_n d_M_load_5 rfl rfl ?_
    refine mx_sc 1 d_M_load_6 (f_M_94 hB) hM (by decide) ?_
    refine jI_icmp_ge (tgt := 31) d_M_load_9 (by decide) (by omega) (by omega) (fun hc1 => ?_) (fun hc1 => ?_)
    · refine jx_iload_n d_M_load_31 rfl rfl ?_
      exact jx_iret d_M_load_32 rfl ⟨jr_i (by rw [hn, show t = S 1 0 by omega]), rfl⟩
    · refine jx_aload_n d_M_load_12 rfl rfl ?_
      refine mx_ar 19 d_M_load_13 (f_M_56 hB) hM (by decide) ?_
      refine jx_iload_n d_M_load_16 rfl rfl ?_
      refine mx_ld (n := 16) d_M_load_17 hM (by decide) rfl ⟨by omega, by omega⟩ ?_
      have r2 : -1 ≤ S 19 t ∧ S 19 t ≤ 3 := hI.r 19 t (n := 16) (by decide) rfl ⟨by omega, by omega⟩
      refine jx_iload_n d_M_load_18 rfl rfl ?_
      refine jI_icmp_ne (tgt := 25) d_M_load_19 (by decide) (by omega) (by omega) (fun hc3 => ?_) (fun hc3 => ?_)
      · refine jI_inc d_M_load_25 rfl rfl ?_
        try dsimp only [List.set]
        refine jx_goto (tgt := 4) d_M_load_28 (by decide) ?_
        exact ih (t + 1) (n) (by rw [sCnt_s _ (by omega), ← hn, if_neg (fun z => absurd (of_decide_eq_true z) (by omega)), Int.add_zero]) (by omega) (by omega)
      · refine jI_inc d_M_load_22 rfl rfl ?_
        try dsimp only [List.set]
        refine jI_inc d_M_load_25 rfl rfl ?_
        try dsimp only [List.set]
        refine jx_goto (tgt := 4) d_M_load_28 (by decide) ?_
        exact ih (t + 1) (n + 1) (by rw [sCnt_s _ (by omega), ← hn, if_pos (decide_eq_true (by omega))]) (by omega) (by omega)
theorem w_M_load {E : jx_E} {l : Launch} {d : Nat} {w : jx_W} {S : mS} {m : Nat} {A : Nat → Nat} {p : Int} (hB : jx_B E) (hM : mR E S w m A) (hI : sI S) (hT : 0 ≤ S 1 0 ∧ S 1 0 ≤ 16) (ha : iR p) : jx_G E l Y_M_load d (jx_eq (.inr (some (.int (iI (sCnt (fun i => decide (S 19 i = p)) (S 1 0)))))) w) 0 (jx_ent [.ref m, .int (iI p)] 4) [] w := by
  show jx_G E l Y_M_load d _ 0 [some (.ref m), some (.int (iI p)), none, none] [] w
  refine jI_const d_M_load_0 ?_
  refine jx_istore_n d_M_load_1 rfl (Nat.le_of_ble_eq_true rfl) rfl ?_
  try dsimp only [List.set]
  refine jI_const d_M_load_2 ?_
  refine jx_istore_n d_M_load_3 rfl (Nat.le_of_ble_eq_true rfl) rfl ?_
  try dsimp only [List.set]
  exact l_M_load hB hM hI hT ha 17 0 0 (sCnt_0 _).symm (by omega) (by omega)
