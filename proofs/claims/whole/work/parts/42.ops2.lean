/-! 42.ops2: more of the reference's calls -/
theorem sI.u {S : mS} (h : sI S) (f : Nat) (i v : Int) (hv : mRg f → mLo f ≤ v ∧ v ≤ mHi f) : sI (sU S f i v) := by
  intro g j hg hj
  unfold sU
  split
  · rename_i z
    obtain ⟨rfl, rfl⟩ := z
    exact hv hg
  · exact h g j hg hj
theorem sI_free {S : mS} (h : sI S) (t : Int) : sI (oFree S t) := by
  unfold oFree
  exact ((h.u 13 t 0 (fun _ => by decide)).u 19 t (-1) (fun _ => by decide)).u 20 t (-1) (fun _ => by decide)
theorem sStart_rg {S : mS} {p t r z : Int} (hI : sI S) (hp : 0 ≤ p ∧ p < 4) (ht : 0 ≤ t ∧ t < 16) (hr : 0 ≤ r ∧ r ≤ 200000) (hz : 0 ≤ z ∧ z < 4) : -1 ≤ sStart S p t r z ∧ sStart S p t r z ≤ 100000 := by
  have r1 : 0 ≤ S 17 t ∧ S 17 t ≤ 3 := hI.r 17 t (n := 16) (by decide) rfl ⟨by omega, by omega⟩
  have r2 : 0 ≤ S 12 (4 * z + S 17 t) ∧ S 12 (4 * z + S 17 t) ≤ 1000 := hI.r 12 _ (n := 16) (by decide) rfl ⟨by omega, by omega⟩
  have r3 : 0 ≤ S 8 p ∧ S 8 p ≤ 100000 := hI.r 8 p (n := 4) (by decide) rfl ⟨by omega, by omega⟩
  have r4 : 0 ≤ S 6 p ∧ S 6 p ≤ 100000 := hI.r 6 p (n := 4) (by decide) rfl ⟨by omega, by omega⟩
  have r5 : 0 ≤ S 15 t ∧ S 15 t ≤ 5000 := hI.r 15 t (n := 16) (by decide) rfl ⟨by omega, by omega⟩
  unfold sStart
  (repeat' split) <;> omega
theorem sAlone_rg {S : mS} {p t : Int} (hI : sI S) (hp : 0 ≤ p ∧ p < 4) (ht : 0 ≤ t ∧ t < 16) (hn : 0 ≤ S 2 0 ∧ S 2 0 ≤ 100000) : -1 ≤ sAlone S p t ∧ sAlone S p t ≤ 100000 := by
  have q2 := sReady_rg hI hp hn
  have r1 : 0 ≤ S 9 p ∧ S 9 p ≤ 3 := hI.r 9 p (n := 4) (by decide) rfl ⟨by omega, by omega⟩
  exact sStart_rg hI hp ht (by omega) (by omega)
theorem sLate_rg {S : mS} {t s : Int} (hI : sI S) (ht : 0 ≤ t ∧ t < 16) (hs : -1 ≤ s ∧ s ≤ 100000) : 0 ≤ sLate S t s ∧ sLate S t s ≤ 105000 := by
  have r1 : 0 ≤ S 15 t ∧ S 15 t ≤ 5000 := hI.r 15 t (n := 16) (by decide) rfl ⟨by omega, by omega⟩
  have r2 : 0 ≤ S 16 t ∧ S 16 t ≤ 100000 := hI.r 16 t (n := 16) (by decide) rfl ⟨by omega, by omega⟩
  unfold sLate sGr
  split <;> omega
def sBits (x : Int) : Int := sSum (fun k => sBit x k) 8
def oTrain (S : mS) (p s : Int) : Int × mS :=
  if 0 ≤ p ∧ p ≤ S 0 0 - 1 then
    if 0 ≤ s ∧ s ≤ 7 then
      if sBit (S 4 p) s = 1 then (0, sU S 3 0 3) else (sBits (sSet (S 4 p) s), sU (sU S 3 0 0) 4 p (sSet (S 4 p) s))
    else (0, sU S 3 0 2)
  else (0, sU S 3 0 1)
def oRefuse (S : mS) (p t : Int) : Int × mS :=
  if (0 ≤ p ∧ p ≤ S 0 0 - 1) ∧ (0 ≤ t ∧ t ≤ S 1 0 - 1) then
    if S 13 t ≠ 0 ∨ sRef S p t = 1 then (0, sU S 3 0 2)
    else if S 19 t = p then (1, oFree (sU (sU S 3 0 0) 18 t (sSet (S 18 t) p)) t) else (0, sU (sU S 3 0 0) 18 t (sSet (S 18 t) p))
  else (0, sU S 3 0 1)
def oBar (S : mS) (p t : Int) : Int × mS :=
  if (0 ≤ p ∧ p ≤ S 0 0 - 1) ∧ (0 ≤ t ∧ t ≤ S 1 0 - 1) then
    if S 13 t ≠ 0 then (0, sU S 3 0 2)
    else (if S 10 p = 0 then 1 else if sBit (S 4 p) (S 14 t) = 0 then 2 else if sRef S p t = 1 then 3 else if sAlone S p t = -1 then 4 else 0, sU S 3 0 0)
  else (0, sU S 3 0 1)
def oTold (S : mS) (t k : Int) : Int × mS :=
  if 0 ≤ t ∧ t ≤ S 1 0 - 1 then
    if 0 ≤ k ∧ k ≤ 6 then (if k = 0 then S 13 t else if k = 1 then S 19 t else if k = 2 then S 20 t else if k = 3 then S 14 t else if k = 4 then S 15 t else if k = 5 then S 16 t else S 17 t, sU S 3 0 0)
    else (0, sU S 3 0 2)
  else (0, sU S 3 0 1)
def sDone (S : mS) (p : Int) : Int := sCnt (fun i => decide (S 13 i = 2 ∧ (p = -1 ∨ S 19 i = p))) (S 1 0)
def oFair (S : mS) (p : Int) : Int × mS :=
  if 0 ≤ p ∧ p ≤ S 0 0 - 1 then (if sDone S (-1) = 0 then 0 else 100 * sDone S p / sDone S (-1), sU S 3 0 0)
  else (0, sU S 3 0 1)
/-- the state behind a change of the field 3 alone looks the same -/
theorem sCnt_congr {P P' : Int → Bool} {t : Int} (h : ∀ i, 0 ≤ i ∧ i < t → P i = P' i) : sCnt P t = sCnt P' t := by
  have key : ∀ k : Nat, (k : Int) ≤ t → sCntN P k = sCntN P' k := by
    intro k
    induction k with
    | zero => intro _; rfl
    | succ k ih =>
      intro hk
      show sCntN P k + _ = sCntN P' k + _
      rw [ih (by omega), h k ⟨by omega, by omega⟩]
  by_cases h0 : 0 ≤ t
  · exact key t.toNat (by omega)
  · unfold sCnt
    rw [show t.toNat = 0 by omega]
    rfl
theorem l_M_bits {E : jx_E} {l : Launch} {d : Nat} {w : jx_W} {x : Int} (hx : 0 ≤ x ∧ x < 2147483648) : ∀ (j : Nat) (k n : Int), n = sSum (fun k => sBit x k) k → 0 ≤ k ∧ k ≤ 8 → 8 - k < j → jx_G E l Y_M_bits d (jx_eq (.inr (some (.int (iI (sBits x))))) w) 4 [some (.int (iI x)), some (.int (iI n)), some (.int (iI k))] [] w := by
  intro j
  induction j with
  | zero => intro k n hn h1 h2; exfalso; omega
  | succ j ih =>
    intro k n hn h1 h2
    have hnr := sSum_rg (f := fun k => sBit x k) (b := 1) (by decide) h1.1 (fun i _ => sBit_01 x i)
    rw [← hn] at hnr
    refine jx_iload_n d_M_bits_4 rfl rfl ?_
    refine jI_bipush d_M_bits_5 (by decide) ?_
    refine jI_icmp_ge (tgt := 24) d_M_bits_7 (by decide) (by omega) (by omega) (fun hc1 => ?_) (fun hc1 => ?_)
    · refine jx_iload_n d_M_bits_24 rfl rfl ?_
      exact jx_iret d_M_bits_25 rfl ⟨jr_i (by rw [hn, show k = 8 by omega]; rfl), rfl⟩
    · refine jx_iload_n d_M_bits_10 rfl rfl ?_
      refine jx_iload_n d_M_bits_11 rfl rfl ?_
      refine jx_iload_n d_M_bits_12 rfl rfl ?_
      refine jI_bit d_M_bits_13 d_M_bits_14 d_M_bits_15 ⟨by omega, by omega⟩ ⟨by omega, by omega⟩ ?_
      have b2 := sBit_01 x k
      refine jI_add d_M_bits_16 ?_
      refine jx_istore_n d_M_bits_17 rfl (Nat.le_of_ble_eq_true rfl) rfl ?_
      try dsimp only [List.set]
      refine jI_inc d_M_bits_18 rfl rfl ?_
      try dsimp only [List.set]
      refine jx_goto (tgt := 4) d_M_bits_21 (by decide) ?_
      exact ih (k + 1) (n + (sBit x k)) (by rw [sSum_s _ (by omega), ← hn]) (by omega) (by omega)
theorem w_M_bits {E : jx_E} {l : Launch} {d : Nat} {w : jx_W} {x : Int} (hx : 0 ≤ x ∧ x < 2147483648) : jx_G E l Y_M_bits d (jx_eq (.inr (some (.int (iI (sBits x))))) w) 0 (jx_ent [.int (iI x)] 3) [] w := by
  show jx_G E l Y_M_bits d _ 0 [some (.int (iI x)), none, none] [] w
  refine jI_const d_M_bits_0 ?_
  refine jx_istore_n d_M_bits_1 rfl (Nat.le_of_ble_eq_true rfl) rfl ?_
  try dsimp only [List.set]
  refine jI_const d_M_bits_2 ?_
  refine jx_istore_n d_M_bits_3 rfl (Nat.le_of_ble_eq_true rfl) rfl ?_
  try dsimp only [List.set]
  exact l_M_bits hx 9 0 0 (sSum_0 _).symm (by omega) (by omega)
theorem w_M_train {E : jx_E} {l : Launch} {d : Nat} {w : jx_W} {S : mS} {m : Nat} {A : Nat → Nat} {p s : Int} (hB : jx_B E) (hM : mR E S w m A) (hI : sI S) (hP : 0 ≤ S 0 0 ∧ S 0 0 ≤ 4) (h1 : iR p) (h2 : iR s) : jx_G E l Y_M_train (d + 2) (jm_po E m A w (some (.int (iI (oTrain S p s).1))) (oTrain S p s).2) 0 (jx_ent [.ref m, .int (iI p), .int (iI s)] 3) [] w := by
  have hF : mF m A w w := mF.rf
  generalize hw0 : w = w0 at hF ⊢
  rw [hw0] at hM
  have hF : mF m A w0 w0 := mF.rf
  show jx_G E l Y_M_train (d + 2) (jm_po E m A w0 _ _) 0 [some (.ref m), some (.int (iI p)), some (.int (iI s))] [] w0
  refine jx_aload_n d_M_train_0 rfl rfl ?_
  refine jx_aload_n d_M_train_1 rfl rfl ?_
  refine jx_iload_n d_M_train_2 rfl rfl ?_
  refine jx_callV_r (As := [.int (iI (p))]) d_M_train_3 (m_M_isPerson hB) (v_M_98 hB) (by decide) (jx_c5 hB) hM.1 rfl (Nat.le_of_ble_eq_true rfl) (Nat.le_of_ble_eq_true rfl) (w_M_isPerson hB hM hI (x := p) (by omega) (by omega)) ?_
  have q1 : sIn (p) 0 (S 0 0 - 1) = 0 ∧ ¬ (0 ≤ p ∧ p ≤ S 0 0 - 1) ∨ sIn (p) 0 (S 0 0 - 1) = 1 ∧ (0 ≤ p ∧ p ≤ S 0 0 - 1) := by unfold sIn; split <;> omega
  refine jI_if_ne (tgt := 13) d_M_train_6 (by decide) (by omega) (fun hc2 => ?_) (fun hc2 => ?_)
  · refine jx_iload_n d_M_train_13 rfl rfl ?_
    refine jI_const d_M_train_14 ?_
    refine jI_bipush d_M_train_15 (by decide) ?_
    refine jx_callS_r (As := [.int (iI (s)), .int (iI (0)), .int (iI (7))]) d_M_train_17 (m_M_within hB) (s_M_90 hB) rfl (Nat.le_of_ble_eq_true rfl) (Nat.le_of_ble_eq_true rfl) (w_M_within hB (x := s) (a := 0) (b := 7) (by omega) (by omega) (by omega)) ?_
    have q3 : sIn (s) (0) (7) = 0 ∧ ¬ (0 ≤ s ∧ s ≤ 7) ∨ sIn (s) (0) (7) = 1 ∧ (0 ≤ s ∧ s ≤ 7) := by unfold sIn; split <;> omega
    refine jI_if_ne (tgt := 27) d_M_train_20 (by decide) (by omega) (fun hc4 => ?_) (fun hc4 => ?_)
    · refine jx_aload_n d_M_train_27 rfl rfl ?_
      refine mx_ar 4 d_M_train_28 (f_M_7 hB) hM (by decide) ?_
      refine jx_iload_n d_M_train_31 rfl rfl ?_
      refine mx_ld (n := 4) d_M_train_32 hM (by decide) rfl ⟨by omega, by omega⟩ ?_
      have r5 : 0 ≤ S 4 p ∧ S 4 p ≤ 255 := hI.r 4 p (n := 4) (by decide) rfl ⟨by omega, by omega⟩
      refine jx_iload_n d_M_train_33 rfl rfl ?_
      refine jI_bit d_M_train_34 d_M_train_35 d_M_train_36 ⟨by omega, by omega⟩ ⟨by omega, by omega⟩ ?_
      have b6 := sBit_01 (S 4 p) s
      refine jI_const d_M_train_37 ?_
      refine jI_icmp_ne (tgt := 45) d_M_train_38 (by decide) (by omega) (by omega) (fun hc7 => ?_) (fun hc7 => ?_)
      · refine jI_const d_M_train_45 ?_
        refine mx_psc d_M_train_46 (f_M_83 hB) (t_5_3 hB) hM (by decide) (fun w hM hF1 => ?_)
        have hF := hF.tr hF1
        obtain ⟨S8, hS8⟩ : ∃ zz, zz = sU S 3 0 0 := ⟨_, rfl⟩
        rw [← hS8] at hM
        refine jx_aload_n d_M_train_49 rfl rfl ?_
        refine mx_sc 3 d_M_train_50 (f_M_83 hB) hM (by decide) ?_
        rw [show S8 3 0 = 0 by simp [hS8, sU, sUs]]
        refine jI_if_eq (tgt := 58) d_M_train_53 (by decide) (by omega) (fun _ => ?_) (fun z => absurd z (by omega))
        refine jx_aload_n d_M_train_58 rfl rfl ?_
        refine mx_ar 4 d_M_train_59 (f_M_7 hB) hM (by decide) ?_
        refine jx_iload_n d_M_train_62 rfl rfl ?_
        refine jx_dup2 d_M_train_63 rfl rfl ?_
        refine mx_ld (n := 4) d_M_train_64 hM (by decide) rfl ⟨by omega, by omega⟩ ?_
        rw [show S8 4 p = S 4 p by simp [hS8, sU, sUs]]
        have r10 : 0 ≤ S 4 p ∧ S 4 p ≤ 255 := hI.r 4 p (n := 4) (by decide) rfl ⟨by omega, by omega⟩
        refine jI_const d_M_train_65 ?_
        refine jx_iload_n d_M_train_66 rfl rfl ?_
        refine jI_setbit d_M_train_67 d_M_train_68 ⟨by omega, by omega⟩ ⟨by omega, by omega⟩ ?_
        have u11 := sSet_rg (n := 16) (x := (S 4 p)) (k := s) ⟨by omega, by omega⟩ ⟨by omega, by omega⟩
        refine mx_st (n := 4) d_M_train_69 hM (by decide) rfl ⟨by omega, by omega⟩ (fun w hM hF1 => ?_)
        have hF := hF.tr hF1
        obtain ⟨S12, hS12⟩ : ∃ zz, zz = sU S8 4 p (sSet (S 4 p) s) := ⟨_, rfl⟩
        rw [← hS12] at hM
        refine jx_aload_n d_M_train_70 rfl rfl ?_
        refine mx_ar 4 d_M_train_71 (f_M_7 hB) hM (by decide) ?_
        refine jx_iload_n d_M_train_74 rfl rfl ?_
        refine mx_ld (n := 4) d_M_train_75 hM (by decide) rfl ⟨by omega, by omega⟩ ?_
        rw [show S12 4 p = sSet (S 4 p) s by simp [hS12, hS8, sU, sUs]]
        refine jx_callS_r (As := [.int (iI (sSet (S 4 p) s))]) d_M_train_76 (m_M_bits hB) (s_M_102 hB) rfl (Nat.le_of_ble_eq_true rfl) (Nat.le_of_ble_eq_true rfl) (w_M_bits (x := sSet (S 4 p) s) ⟨by omega, by omega⟩) ?_
        exact jx_iret d_M_train_79 rfl (jm_i (S := S12) (by rw [hS12, hS8]; unfold oTrain; (repeat' split) <;> first | rfl | exact jp2 (by omega) rfl | (exfalso; omega)) hM hF)
      · refine jI_const d_M_train_41 ?_
        refine jx_goto (tgt := 46) d_M_train_42 (by decide) ?_
        refine mx_psc d_M_train_46 (f_M_83 hB) (t_5_3 hB) hM (by decide) (fun w hM hF1 => ?_)
        have hF := hF.tr hF1
        obtain ⟨S13, hS13⟩ : ∃ zz, zz = sU S 3 0 3 := ⟨_, rfl⟩
        rw [← hS13] at hM
        refine jx_aload_n d_M_train_49 rfl rfl ?_
        refine mx_sc 3 d_M_train_50 (f_M_83 hB) hM (by decide) ?_
        rw [show S13 3 0 = 3 by simp [hS13, sU, sUs]]
        refine jI_if_eq (tgt := 58) d_M_train_53 (by decide) (by omega) (fun z => absurd z (by omega)) (fun _ => ?_)
        refine jI_const d_M_train_56 ?_
        exact jx_iret d_M_train_57 rfl (jm_i (S := S13) (by rw [hS13]; unfold oTrain; (repeat' split) <;> first | rfl | exact jp2 (by omega) rfl | (exfalso; omega)) hM hF)
    · refine jI_const d_M_train_23 ?_
      refine jx_goto (tgt := 46) d_M_train_24 (by decide) ?_
      refine mx_psc d_M_train_46 (f_M_83 hB) (t_5_3 hB) hM (by decide) (fun w hM hF1 => ?_)
      have hF := hF.tr hF1
      obtain ⟨S15, hS15⟩ : ∃ zz, zz = sU S 3 0 2 := ⟨_, rfl⟩
      rw [← hS15] at hM
      refine jx_aload_n d_M_train_49 rfl rfl ?_
      refine mx_sc 3 d_M_train_50 (f_M_83 hB) hM (by decide) ?_
      rw [show S15 3 0 = 2 by simp [hS15, sU, sUs]]
      refine jI_if_eq (tgt := 58) d_M_train_53 (by decide) (by omega) (fun z => absurd z (by omega)) (fun _ => ?_)
      refine jI_const d_M_train_56 ?_
      exact jx_iret d_M_train_57 rfl (jm_i (S := S15) (by rw [hS15]; unfold oTrain; (repeat' split) <;> first | rfl | exact jp2 (by omega) rfl | (exfalso; omega)) hM hF)
  · refine jI_const d_M_train_9 ?_
    refine jx_goto (tgt := 46) d_M_train_10 (by decide) ?_
    refine mx_psc d_M_train_46 (f_M_83 hB) (t_5_3 hB) hM (by decide) (fun w hM hF1 => ?_)
    have hF := hF.tr hF1
    obtain ⟨S17, hS17⟩ : ∃ zz, zz = sU S 3 0 1 := ⟨_, rfl⟩
    rw [← hS17] at hM
    refine jx_aload_n d_M_train_49 rfl rfl ?_
    refine mx_sc 3 d_M_train_50 (f_M_83 hB) hM (by decide) ?_
    rw [show S17 3 0 = 1 by simp [hS17, sU, sUs]]
    refine jI_if_eq (tgt := 58) d_M_train_53 (by decide) (by omega) (fun z => absurd z (by omega)) (fun _ => ?_)
    refine jI_const d_M_train_56 ?_
    exact jx_iret d_M_train_57 rfl (jm_i (S := S17) (by rw [hS17]; unfold oTrain; (repeat' split) <;> first | rfl | exact jp2 (by omega) rfl | (exfalso; omega)) hM hF)
theorem w_M_refuse {E : jx_E} {l : Launch} {d : Nat} {w : jx_W} {S : mS} {m : Nat} {A : Nat → Nat} {p t : Int} (hB : jx_B E) (hM : mR E S w m A) (hI : sI S) (hP : 0 ≤ S 0 0 ∧ S 0 0 ≤ 4) (hT : 0 ≤ S 1 0 ∧ S 1 0 ≤ 16) (h1 : iR p) (h2 : iR t) : jx_G E l Y_M_refuse (d + 2) (jm_po E m A w (some (.int (iI (oRefuse S p t).1))) (oRefuse S p t).2) 0 (jx_ent [.ref m, .int (iI p), .int (iI t)] 3) [] w := by
  have hF : mF m A w w := mF.rf
  generalize hw0 : w = w0 at hF ⊢
  rw [hw0] at hM
  have hF : mF m A w0 w0 := mF.rf
  show jx_G E l Y_M_refuse (d + 2) (jm_po E m A w0 _ _) 0 [some (.ref m), some (.int (iI p)), some (.int (iI t))] [] w0
  refine jx_aload_n d_M_refuse_0 rfl rfl ?_
  refine jx_aload_n d_M_refuse_1 rfl rfl ?_
  refine jx_iload_n d_M_refuse_2 rfl rfl ?_
  refine jx_callV_r (As := [.int (iI (p))]) d_M_refuse_3 (m_M_isPerson hB) (v_M_98 hB) (by decide) (jx_c5 hB) hM.1 rfl (Nat.le_of_ble_eq_true rfl) (Nat.le_of_ble_eq_true rfl) (w_M_isPerson hB hM hI (x := p) (by omega) (by omega)) ?_
  have q1 : sIn (p) 0 (S 0 0 - 1) = 0 ∧ ¬ (0 ≤ p ∧ p ≤ S 0 0 - 1) ∨ sIn (p) 0 (S 0 0 - 1) = 1 ∧ (0 ≤ p ∧ p ≤ S 0 0 - 1) := by unfold sIn; split <;> omega
  refine jI_if_eq (tgt := 17) d_M_refuse_6 (by decide) (by omega) (fun hc2 => ?_) (fun hc2 => ?_)
  · refine jI_const d_M_refuse_17 ?_
    refine jx_goto (tgt := 44) d_M_refuse_18 (by decide) ?_
    refine mx_psc d_M_refuse_44 (f_M_83 hB) (t_5_3 hB) hM (by decide) (fun w hM hF1 => ?_)
    have hF := hF.tr hF1
    obtain ⟨S3, hS3⟩ : ∃ zz, zz = sU S 3 0 1 := ⟨_, rfl⟩
    rw [← hS3] at hM
    refine jx_aload_n d_M_refuse_47 rfl rfl ?_
    refine mx_sc 3 d_M_refuse_48 (f_M_83 hB) hM (by decide) ?_
    rw [show S3 3 0 = 1 by simp [hS3, sU, sUs]]
    refine jI_if_eq (tgt := 56) d_M_refuse_51 (by decide) (by omega) (fun z => absurd z (by omega)) (fun _ => ?_)
    refine jI_const d_M_refuse_54 ?_
    exact jx_zret (ty := .boolean) d_M_refuse_55 rfl (jI_bool (by omega)) (jm_i (S := S3) (by rw [hS3]; unfold oRefuse; (repeat' split) <;> first | rfl | exact jp2 (by omega) rfl | (exfalso; omega)) hM hF)
  · refine jx_aload_n d_M_refuse_9 rfl rfl ?_
    refine jx_iload_n d_M_refuse_10 rfl rfl ?_
    refine jx_callV_r (As := [.int (iI (t))]) d_M_refuse_11 (m_M_isTask hB) (v_M_106 hB) (by decide) (jx_c5 hB) hM.1 rfl (Nat.le_of_ble_eq_true rfl) (Nat.le_of_ble_eq_true rfl) (w_M_isTask hB hM hI (x := t) (by omega) (by omega)) ?_
    have q5 : sIn (t) 0 (S 1 0 - 1) = 0 ∧ ¬ (0 ≤ t ∧ t ≤ S 1 0 - 1) ∨ sIn (t) 0 (S 1 0 - 1) = 1 ∧ (0 ≤ t ∧ t ≤ S 1 0 - 1) := by unfold sIn; split <;> omega
    refine jI_if_ne (tgt := 21) d_M_refuse_14 (by decide) (by omega) (fun hc6 => ?_) (fun hc6 => ?_)
    · refine jx_aload_n d_M_refuse_21 rfl rfl ?_
      refine mx_ar 13 d_M_refuse_22 (f_M_38 hB) hM (by decide) ?_
      refine jx_iload_n d_M_refuse_25 rfl rfl ?_
      refine mx_ld (n := 16) d_M_refuse_26 hM (by decide) rfl ⟨by omega, by omega⟩ ?_
      have r7 : 0 ≤ S 13 t ∧ S 13 t ≤ 2 := hI.r 13 t (n := 16) (by decide) rfl ⟨by omega, by omega⟩
      refine jI_if_ne (tgt := 39) d_M_refuse_27 (by decide) (by omega) (fun hc8 => ?_) (fun hc8 => ?_)
      · refine jI_const d_M_refuse_39 ?_
        refine jx_goto (tgt := 44) d_M_refuse_40 (by decide) ?_
        refine mx_psc d_M_refuse_44 (f_M_83 hB) (t_5_3 hB) hM (by decide) (fun w hM hF1 => ?_)
        have hF := hF.tr hF1
        obtain ⟨S9, hS9⟩ : ∃ zz, zz = sU S 3 0 2 := ⟨_, rfl⟩
        rw [← hS9] at hM
        refine jx_aload_n d_M_refuse_47 rfl rfl ?_
        refine mx_sc 3 d_M_refuse_48 (f_M_83 hB) hM (by decide) ?_
        rw [show S9 3 0 = 2 by simp [hS9, sU, sUs]]
        refine jI_if_eq (tgt := 56) d_M_refuse_51 (by decide) (by omega) (fun z => absurd z (by omega)) (fun _ => ?_)
        refine jI_const d_M_refuse_54 ?_
        exact jx_zret (ty := .boolean) d_M_refuse_55 rfl (jI_bool (by omega)) (jm_i (S := S9) (by rw [hS9]; unfold oRefuse; (repeat' split) <;> first | rfl | exact jp2 (by omega) rfl | (exfalso; omega)) hM hF)
      · refine jx_aload_n d_M_refuse_30 rfl rfl ?_
        refine jx_iload_n d_M_refuse_31 rfl rfl ?_
        refine jx_iload_n d_M_refuse_32 rfl rfl ?_
        refine jx_callV_r (As := [.int (iI (p)), .int (iI (t))]) d_M_refuse_33 (m_M_hasRefused hB) (v_M_109 hB) (by decide) (jx_c5 hB) hM.1 rfl (Nat.le_of_ble_eq_true rfl) (Nat.le_of_ble_eq_true rfl) (w_M_hasRefused hB hM hI (p := p) (t := t) (by omega) (by omega)) ?_
        have q11 : sRef S (p) (t) = 0 ∨ sRef S (p) (t) = 1 := by unfold sRef; split <;> omega
        refine jI_if_eq (tgt := 43) d_M_refuse_36 (by decide) (by omega) (fun hc12 => ?_) (fun hc12 => ?_)
        · refine jI_const d_M_refuse_43 ?_
          refine mx_psc d_M_refuse_44 (f_M_83 hB) (t_5_3 hB) hM (by decide) (fun w hM hF1 => ?_)
          have hF := hF.tr hF1
          obtain ⟨S13, hS13⟩ : ∃ zz, zz = sU S 3 0 0 := ⟨_, rfl⟩
          rw [← hS13] at hM
          refine jx_aload_n d_M_refuse_47 rfl rfl ?_
          refine mx_sc 3 d_M_refuse_48 (f_M_83 hB) hM (by decide) ?_
          rw [show S13 3 0 = 0 by simp [hS13, sU, sUs]]
          refine jI_if_eq (tgt := 56) d_M_refuse_51 (by decide) (by omega) (fun _ => ?_) (fun z => absurd z (by omega))
          refine jx_aload_n d_M_refuse_56 rfl rfl ?_
          refine mx_ar 18 d_M_refuse_57 (f_M_53 hB) hM (by decide) ?_
          refine jx_iload_n d_M_refuse_60 rfl rfl ?_
          refine jx_dup2 d_M_refuse_61 rfl rfl ?_
          refine mx_ld (n := 16) d_M_refuse_62 hM (by decide) rfl ⟨by omega, by omega⟩ ?_
          rw [show S13 18 t = S 18 t by simp [hS13, sU, sUs]]
          have r15 : 0 ≤ S 18 t ∧ S 18 t ≤ 15 := hI.r 18 t (n := 16) (by decide) rfl ⟨by omega, by omega⟩
          refine jI_const d_M_refuse_63 ?_
          refine jx_iload_n d_M_refuse_64 rfl rfl ?_
          refine jI_setbit d_M_refuse_65 d_M_refuse_66 ⟨by omega, by omega⟩ ⟨by omega, by omega⟩ ?_
          have u16 := sSet_rg (n := 16) (x := (S 18 t)) (k := p) ⟨by omega, by omega⟩ ⟨by omega, by omega⟩
          refine mx_st (n := 16) d_M_refuse_67 hM (by decide) rfl ⟨by omega, by omega⟩ (fun w hM hF1 => ?_)
          have hF := hF.tr hF1
          obtain ⟨S17, hS17⟩ : ∃ zz, zz = sU S13 18 t (sSet (S 18 t) p) := ⟨_, rfl⟩
          rw [← hS17] at hM
          refine jx_aload_n d_M_refuse_68 rfl rfl ?_
          refine mx_ar 19 d_M_refuse_69 (f_M_56 hB) hM (by decide) ?_
          refine jx_iload_n d_M_refuse_72 rfl rfl ?_
          refine mx_ld (n := 16) d_M_refuse_73 hM (by decide) rfl ⟨by omega, by omega⟩ ?_
          rw [show S17 19 t = S 19 t by simp [hS17, hS13, sU, sUs]]
          have r18 : -1 ≤ S 19 t ∧ S 19 t ≤ 3 := hI.r 19 t (n := 16) (by decide) rfl ⟨by omega, by omega⟩
          refine jx_iload_n d_M_refuse_74 rfl rfl ?_
          refine jI_icmp_eq (tgt := 80) d_M_refuse_75 (by decide) (by omega) (by omega) (fun hc19 => ?_) (fun hc19 => ?_)
          · refine jx_aload_n d_M_refuse_80 rfl rfl ?_
            refine jx_iload_n d_M_refuse_81 rfl rfl ?_
            refine jm_callV (As := [.int (iI (t))]) d_M_refuse_82 (m_M_free hB) (v_M_113 hB) hB hM.1 rfl (Nat.le_of_ble_eq_true rfl) (Nat.le_of_ble_eq_true rfl) (w_M_free hB hM (S := S17) (by rw [hS17, hS13]; repeat' (first | exact hI | exact sI_free (by assumption) _ | refine sI.u ?_ _ _ _ (fun z => ?_) | (exact absurd z (by decide)) | (show _ ≤ _ ∧ _ ≤ _; constructor <;> (show (_ : Int) ≤ _) <;> simp [mLo, mHi] <;> omega))) (by omega)) (fun w hM hF1 => ?_)
            have hF := hF.tr hF1
            obtain ⟨S20, hS20⟩ : ∃ zz, zz = oFree S17 t := ⟨_, rfl⟩
            rw [← hS20] at hM
            refine jI_const d_M_refuse_85 ?_
            exact jx_zret (ty := .boolean) d_M_refuse_86 rfl (jI_bool (by omega)) (jm_i (S := S20) (by rw [hS20, hS17, hS13]; unfold oRefuse; (repeat' split) <;> first | rfl | exact jp2 (by omega) rfl | (exfalso; omega)) hM hF)
          · refine jI_const d_M_refuse_78 ?_
            exact jx_zret (ty := .boolean) d_M_refuse_79 rfl (jI_bool (by omega)) (jm_i (S := S17) (by rw [hS17, hS13]; unfold oRefuse; (repeat' split) <;> first | rfl | exact jp2 (by omega) rfl | (exfalso; omega)) hM hF)
        · refine jI_const d_M_refuse_39 ?_
          refine jx_goto (tgt := 44) d_M_refuse_40 (by decide) ?_
          refine mx_psc d_M_refuse_44 (f_M_83 hB) (t_5_3 hB) hM (by decide) (fun w hM hF1 => ?_)
          have hF := hF.tr hF1
          obtain ⟨S21, hS21⟩ : ∃ zz, zz = sU S 3 0 2 := ⟨_, rfl⟩
          rw [← hS21] at hM
          refine jx_aload_n d_M_refuse_47 rfl rfl ?_
          refine mx_sc 3 d_M_refuse_48 (f_M_83 hB) hM (by decide) ?_
          rw [show S21 3 0 = 2 by simp [hS21, sU, sUs]]
          refine jI_if_eq (tgt := 56) d_M_refuse_51 (by decide) (by omega) (fun z => absurd z (by omega)) (fun _ => ?_)
          refine jI_const d_M_refuse_54 ?_
          exact jx_zret (ty := .boolean) d_M_refuse_55 rfl (jI_bool (by omega)) (jm_i (S := S21) (by rw [hS21]; unfold oRefuse; (repeat' split) <;> first | rfl | exact jp2 (by omega) rfl | (exfalso; omega)) hM hF)
    · refine jI_const d_M_refuse_17 ?_
      refine jx_goto (tgt := 44) d_M_refuse_18 (by decide) ?_
      refine mx_psc d_M_refuse_44 (f_M_83 hB) (t_5_3 hB) hM (by decide) (fun w hM hF1 => ?_)
      have hF := hF.tr hF1
      obtain ⟨S23, hS23⟩ : ∃ zz, zz = sU S 3 0 1 := ⟨_, rfl⟩
      rw [← hS23] at hM
      refine jx_aload_n d_M_refuse_47 rfl rfl ?_
      refine mx_sc 3 d_M_refuse_48 (f_M_83 hB) hM (by decide) ?_
      rw [show S23 3 0 = 1 by simp [hS23, sU, sUs]]
      refine jI_if_eq (tgt := 56) d_M_refuse_51 (by decide) (by omega) (fun z => absurd z (by omega)) (fun _ => ?_)
      refine jI_const d_M_refuse_54 ?_
      exact jx_zret (ty := .boolean) d_M_refuse_55 rfl (jI_bool (by omega)) (jm_i (S := S23) (by rw [hS23]; unfold oRefuse; (repeat' split) <;> first | rfl | exact jp2 (by omega) rfl | (exfalso; omega)) hM hF)
