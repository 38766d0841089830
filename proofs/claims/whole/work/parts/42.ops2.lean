/-! 42.ops2: more of the reference's calls -/
theorem sI.u {S : mS} (h : sI S) (f : Nat) (i v : Int) (hv : mRg f → mLo f ≤ v ∧ v ≤ mHi f) : sI (sU S f i v) := by
  intro g j hg hj
  unfold sU
  split
  · rename_i z
    obtain ⟨rfl, rfl⟩ := z
    exact hv hg
  · exact h g j hg hj
theorem sI_free {S : mS} (h : sI S) (t : Int) : sI (oFree S t) := by
  unfold oFree
  exact ((h.u 13 t 0 (fun _ => by decide)).u 19 t (-1) (fun _ => by decide)).u 20 t (-1) (fun _ => by decide)
theorem sStart_rg {S : mS} {p t r z : Int} (hI : sI S) (hp : 0 ≤ p ∧ p < 4) (ht : 0 ≤ t ∧ t < 16) (hr : 0 ≤ r ∧ r ≤ 200000) (hz : 0 ≤ z ∧ z < 4) : -1 ≤ sStart S p t r z ∧ sStart S p t r z ≤ 100000 := by
  have r1 : 0 ≤ S 17 t ∧ S 17 t ≤ 3 := hI.r 17 t (n := 16) (by decide) rfl ⟨by omega, by omega⟩
  have r2 : 0 ≤ S 12 (4 * z + S 17 t) ∧ S 12 (4 * z + S 17 t) ≤ 1000 := hI.r 12 _ (n := 16) (by decide) rfl ⟨by omega, by omega⟩
  have r3 : 0 ≤ S 8 p ∧ S 8 p ≤ 100000 := hI.r 8 p (n := 4) (by decide) rfl ⟨by omega, by omega⟩
  have r4 : 0 ≤ S 6 p ∧ S 6 p ≤ 100000 := hI.r 6 p (n := 4) (by decide) rfl ⟨by omega, by omega⟩
  have r5 : 0 ≤ S 15 t ∧ S 15 t ≤ 5000 := hI.r 15 t (n := 16) (by decide) rfl ⟨by omega, by omega⟩
  unfold sStart
  (repeat' split) <;> omega
theorem sAlone_rg {S : mS} {p t : Int} (hI : sI S) (hp : 0 ≤ p ∧ p < 4) (ht : 0 ≤ t ∧ t < 16) (hn : 0 ≤ S 2 0 ∧ S 2 0 ≤ 100000) : -1 ≤ sAlone S p t ∧ sAlone S p t ≤ 100000 := by
  have q2 := sReady_rg hI hp hn
  have r1 : 0 ≤ S 9 p ∧ S 9 p ≤ 3 := hI.r 9 p (n := 4) (by decide) rfl ⟨by omega, by omega⟩
  exact sStart_rg hI hp ht (by omega) (by omega)
theorem sLate_rg {S : mS} {t s : Int} (hI : sI S) (ht : 0 ≤ t ∧ t < 16) (hs : -1 ≤ s ∧ s ≤ 100000) : 0 ≤ sLate S t s ∧ sLate S t s ≤ 105000 := by
  have r1 : 0 ≤ S 15 t ∧ S 15 t ≤ 5000 := hI.r 15 t (n := 16) (by decide) rfl ⟨by omega, by omega⟩
  have r2 : 0 ≤ S 16 t ∧ S 16 t ≤ 100000 := hI.r 16 t (n := 16) (by decide) rfl ⟨by omega, by omega⟩
  unfold sLate sGr
  split <;> omega
def sBits (x : Int) : Int := sSum (fun k => sBit x k) 8
def oTrain (S : mS) (p s : Int) : Int × mS :=
  if 0 ≤ p ∧ p ≤ S 0 0 - 1 then
    if 0 ≤ s ∧ s ≤ 7 then
      if sBit (S 4 p) s = 1 then (0, sU S 3 0 3) else (sBits (sSet (S 4 p) s), sU (sU S 3 0 0) 4 p (sSet (S 4 p) s))
    else (0, sU S 3 0 2)
  else (0, sU S 3 0 1)
def oRefuse (S : mS) (p t : Int) : Int × mS :=
  if (0 ≤ p ∧ p ≤ S 0 0 - 1) ∧ (0 ≤ t ∧ t ≤ S 1 0 - 1) then
    if S 13 t ≠ 0 ∨ sRef S p t = 1 then (0, sU S 3 0 2)
    else if S 19 t = p then (1, oFree (sU (sU S 3 0 0) 18 t (sSet (S 18 t) p)) t) else (0, sU (sU S 3 0 0) 18 t (sSet (S 18 t) p))
  else (0, sU S 3 0 1)
def oBar (S : mS) (p t : Int) : Int × mS :=
  if (0 ≤ p ∧ p ≤ S 0 0 - 1) ∧ (0 ≤ t ∧ t ≤ S 1 0 - 1) then
    if S 13 t ≠ 0 then (0, sU S 3 0 2)
    else (if S 10 p = 0 then 1 else if sBit (S 4 p) (S 14 t) = 0 then 2 else if sRef S p t = 1 then 3 else if sAlone S p t = -1 then 4 else 0, sU S 3 0 0)
  else (0, sU S 3 0 1)
def oTold (S : mS) (t k : Int) : Int × mS :=
  if 0 ≤ t ∧ t ≤ S 1 0 - 1 then
    if 0 ≤ k ∧ k ≤ 6 then (if k = 0 then S 13 t else if k = 1 then S 19 t else if k = 2 then S 20 t else if k = 3 then S 14 t else if k = 4 then S 15 t else if k = 5 then S 16 t else S 17 t, sU S 3 0 0)
    else (0, sU S 3 0 2)
  else (0, sU S 3 0 1)
def sDone (S : mS) (p : Int) : Int := sCnt (fun i => decide (S 13 i = 2 ∧ (p = -1 ∨ S 19 i = p))) (S 1 0)
def oFair (S : mS) (p : Int) : Int × mS :=
  if 0 ≤ p ∧ p ≤ S 0 0 - 1 then (if sDone S (-1) = 0 then 0 else 100 * sDone S p / sDone S (-1), sU S 3 0 0)
  else (0, sU S 3 0 1)
/-- the state behind a change of the field 3 alone looks the same -/
theorem sCnt_congr {P P' : Int → Bool} {t : Int} (h : ∀ i, 0 ≤ i ∧ i < t → P i = P' i) : sCnt P t = sCnt P' t := by
  have key : ∀ k : Nat, (k : Int) ≤ t → sCntN P k = sCntN P' k := by
    intro k
    induction k with
    | zero => intro _; rfl
    | succ k ih =>
      intro hk
      show sCntN P k + _ = sCntN P' k + _
      rw [ih (by omega), h k ⟨by omega, by omega⟩]
  by_cases h0 : 0 ≤ t
  · exact key t.toNat (by omega)
  · unfold sCnt
    rw [show t.toNat = 0 by omega]
    rfl
theorem l_M_bits {E : jx_E} {l : Launch} {d : Nat} {w : jx_W} {x : Int} (hx : 0 ≤ x ∧ x < 2147483648) : ∀ (j : Nat) (k n : Int), n = sSum (fun k => sBit x k) k → 0 ≤ k ∧ k ≤ 8 → 8 - k < j → jx_G E l Y_M_bits d (jx_eq (.inr (some (.int (iI (sBits x))))) w) 4 [some (.int (iI x)), some (.int (iI n)), some (.int (iI k))] [] w := by
  intro j
  induction j with
  | zero => intro k n hn h1 h2; exfalso; omega
  | succ j ih =>
    intro k n hn h1 h2
    have hnr := sSum_rg (f := fun k => sBit x k) (b := 1) (by decide) h1.1 (fun i _ => sBit_01 x i)
    rw [← hn] at hnr
    refine jx_iload_n d_M_bits_4 rfl rfl ?_
    refine jI_bipush d_M_bits_5 (by decide) ?_
    refine jI_icmp_ge (tgt := 24) d_M_bits_7 (by decide) (by omega) (by omega) (fun hc1 => ?_) (fun hc1 => ?_)
    · refine jx_iload_n d_M_bits_24 rfl rfl ?_
      exact jx_iret d_M_bits_25 rfl ⟨jr_i (by rw [hn, show k = 8 by omega]; rfl), rfl⟩
    · refine jx_iload_n d_M_bits_10 rfl rfl ?_
      refine jx_iload_n d_M_bits_11 rfl rfl ?_
      refine jx_iload_n d_M_bits_12 rfl rfl ?_
      refine jI_bit d_M_bits_13 d_M_bits_14 d_M_bits_15 ⟨by omega, by omega⟩ ⟨by omega, by omega⟩ ?_
      have b2 := sBit_01 x k
      refine jI_add d_M_bits_16 ?_
      refine jx_istore_n d_M_bits_17 rfl (Nat.le_of_ble_eq_true rfl) rfl ?_
      try dsimp only [List.set]
      refine jI_inc d_M_bits_18 rfl rfl ?_
      try dsimp only [List.set]
      refine jx_goto (tgt := 4) d_M_bits_21 (by decide) ?_
      exact ih (k + 1) (n + (sBit x k)) (by rw [sSum_s _ (by omega), ← hn]) (by omega) (by omega)
theorem w_M_bits {E : jx_E} {l : Launch} {d : Nat} {w : jx_W} {x : Int} (hx : 0 ≤ x ∧ x < 2147483648) : jx_G E l Y_M_bits d (jx_eq (.inr (some (.int (iI (sBits x))))) w) 0 (jx_ent [.int (iI x)] 3) [] w := by
  show jx_G E l Y_M_bits d _ 0 [some (.int (iI x)), none, none] [] w
  refine jI_const d_M_bits_0 ?_
  refine jx_istore_n d_M_bits_1 rfl (Nat.le_of_ble_eq_true rfl) rfl ?_
  try dsimp only [List.set]
  refine jI_const d_M_bits_2 ?_
  refine jx_istore_n d_M_bits_3 rfl (Nat.le_of_ble_eq_true rfl) rfl ?_
  try dsimp only [List.set]
  exact l_M_bits hx 9 0 0 (sSum_0 _).symm (by omega) (by omega)
theorem sMay_01 (S : mS) (p t : Int) : 0 ≤ sMay S p t ∧ sMay S p t ≤ 1 := by unfold sMay; split <;> omega
theorem sRef_01 (S : mS) (p t : Int) : 0 ≤ sRef S p t ∧ sRef S p t ≤ 1 := by unfold sRef; split <;> omega
theorem sDone_rg {S : mS} {p : Int} (hT : 0 ≤ S 1 0 ∧ S 1 0 ≤ 16) : 0 ≤ sDone S p ∧ sDone S p ≤ 16 := by
  have := sCnt_rg (fun i => decide (S 13 i = 2 ∧ (p = -1 ∨ S 19 i = p))) hT.1
  unfold sDone
  omega
def sInS (S : mS) (s : Int) : Int := sCnt (fun i => decide (S 13 i = s)) (S 1 0)
theorem sInS_rg {S : mS} {s : Int} (hT : 0 ≤ S 1 0 ∧ S 1 0 ≤ 16) : 0 ≤ sInS S s ∧ sInS S s ≤ 16 := by
  have := sCnt_rg (fun i => decide (S 13 i = s)) hT.1
  unfold sInS
  omega
def sLoad (S : mS) (p : Int) : Int := sCnt (fun i => decide (S 19 i = p)) (S 1 0)
theorem sLoad_rg {S : mS} {p : Int} (hT : 0 ≤ S 1 0 ∧ S 1 0 ≤ 16) : 0 ≤ sLoad S p ∧ sLoad S p ≤ 16 := by
  have := sCnt_rg (fun i => decide (S 19 i = p)) hT.1
  unfold sLoad
  omega
def oDone (S : mS) (p : Int) : Int × mS :=
  if 0 ≤ p ∧ p ≤ S 0 0 - 1 then
    if S 11 p = -1 ∨ S 2 0 < S 20 (S 11 p) + S 15 (S 11 p) then (0, sU S 3 0 2)
    else (sDone (sU (sU S 13 (S 11 p) 2) 11 p (-1)) p, sU (sU (sU S 3 0 0) 13 (S 11 p) 2) 11 p (-1))
  else (0, sU S 3 0 1)
theorem w_M_train {E : jx_E} {l : Launch} {d : Nat} {w : jx_W} {S : mS} {m : Nat} {A : Nat → Nat} {p s : Int} (hB : jx_B E) (hM : mR E S w m A) (hI : sI S) (hP : 0 ≤ S 0 0 ∧ S 0 0 ≤ 4) (h1 : iR p) (h2 : iR s) : jx_G E l Y_M_train (d + 2) (jm_po E m A w (some (.int (iI (oTrain S p s).1))) (oTrain S p s).2) 0 (jx_ent [.ref m, .int (iI p), .int (iI s)] 3) [] w := by
  have hF : mF m A w w := mF.rf
  generalize hw0 : w = w0 at hF ⊢
  rw [hw0] at hM
  have hF : mF m A w0 w0 := mF.rf
  show jx_G E l Y_M_train (d + 2) (jm_po E m A w0 _ _) 0 [some (.ref m), some (.int (iI p)), some (.int (iI s))] [] w0
  refine jx_aload_n d_M_train_0 rfl rfl ?_
  refine jx_aload_n d_M_train_1 rfl rfl ?_
  refine jx_iload_n d_M_train_2 rfl rfl ?_
  refine jx_callV_r (As := [.int (iI (p))]) d_M_train_3 (m_M_isPerson hB) (v_M_98 hB) (by decide) (jx_c5 hB) hM.1 rfl (Nat.le_of_ble_eq_true rfl) (Nat.le_of_ble_eq_true rfl) (w_M_isPerson hB hM hI (x := p) (by omega) (by omega)) ?_
  have q1 : sIn (p) 0 (S 0 0 - 1) = 0 ∧ ¬ (0 ≤ p ∧ p ≤ S 0 0 - 1) ∨ sIn (p) 0 (S 0 0 - 1) = 1 ∧ (0 ≤ p ∧ p ≤ S 0 0 - 1) := by unfold sIn; split <;> omega
  refine jI_if_ne (tgt := 13) d_M_train_6 (by decide) (by omega) (fun hc2 => ?_) (fun hc2 => ?_)
  · refine jx_iload_n d_M_train_13 rfl rfl ?_
    refine jI_const d_M_train_14 ?_
    refine jI_bipush d_M_train_15 (by decide) ?_
    refine jx_callS_r (As := [.int (iI (s)), .int (iI (0)), .int (iI (7))]) d_M_train_17 (m_M_within hB) (s_M_90 hB) rfl (Nat.le_of_ble_eq_true rfl) (Nat.le_of_ble_eq_true rfl) (w_M_within hB (x := s) (a := 0) (b := 7) (by omega) (by omega) (by omega)) ?_
    have q3 : sIn (s) (0) (7) = 0 ∧ ¬ (0 ≤ s ∧ s ≤ 7) ∨ sIn (s) (0) (7) = 1 ∧ (0 ≤ s ∧ s ≤ 7) := by unfold sIn; split <;> omega
    refine jI_if_ne (tgt := 27) d_M_train_20 (by decide) (by omega) (fun hc4 => ?_) (fun hc4 => ?_)
    · refine jx_aload_n d_M_train_27 rfl rfl ?_
      refine mx_ar 4 d_M_train_28 (f_M_7 hB) hM (by decide) ?_
      refine jx_iload_n d_M_train_31 rfl rfl ?_
      refine mx_ld (n := 4) d_M_train_32 hM (by decide) rfl ⟨by omega, by omega⟩ ?_
      have r5 : 0 ≤ S 4 p ∧ S 4 p ≤ 255 := hI.r 4 p (n := 4) (by decide) rfl ⟨by omega, by omega⟩
      refine jx_iload_n d_M_train_33 rfl rfl ?_
      refine jI_bit d_M_train_34 d_M_train_35 d_M_train_36 ⟨by omega, by omega⟩ ⟨by omega, by omega⟩ ?_
      have b6 := sBit_01 (S 4 p) s
      refine jI_const d_M_train_37 ?_
      refine jI_icmp_ne (tgt := 45) d_M_train_38 (by decide) (by omega) (by omega) (fun hc7 => ?_) (fun hc7 => ?_)
      · refine jI_const d_M_train_45 ?_
        refine mx_psc d_M_train_46 (f_M_83 hB) (t_5_3 hB) hM (by decide) (fun w hM hF1 => ?_)
        have hF := hF.tr hF1
        obtain ⟨S8, hS8⟩ : ∃ zz, zz = sU S 3 0 0 := ⟨_, rfl⟩
        rw [← hS8] at hM
        have hIS8 : sI S8 := by rw [hS8]; exact hI.u 3 _ _ (fun z => absurd z (by decide))
        have e9 : S8 0 0 = S 0 0 := by rw [hS8]; rfl
        have e10 : S8 1 0 = S 1 0 := by rw [hS8]; rfl
        have e11 : S8 2 0 = S 2 0 := by rw [hS8]; rfl
        have e12 : S8 23 0 = S 23 0 := by rw [hS8]; rfl
        refine jx_aload_n d_M_train_49 rfl rfl ?_
        refine mx_sc 3 d_M_train_50 (f_M_83 hB) hM (by decide) ?_
        rw [show S8 3 0 = 0 by simp [hS8, sU, sUs]]
        refine jI_if_eq (tgt := 58) d_M_train_53 (by decide) (by omega) (fun _ => ?_) (fun z => absurd z (by omega))
        refine jx_aload_n d_M_train_58 rfl rfl ?_
        refine mx_ar 4 d_M_train_59 (f_M_7 hB) hM (by decide) ?_
        refine jx_iload_n d_M_train_62 rfl rfl ?_
        refine jx_dup2 d_M_train_63 rfl rfl ?_
        refine mx_ld (n := 4) d_M_train_64 hM (by decide) rfl ⟨by omega, by omega⟩ ?_
        rw [show S8 4 p = S 4 p by simp [hS8, sU, sUs]]
        have r14 : 0 ≤ S 4 p ∧ S 4 p ≤ 255 := hI.r 4 p (n := 4) (by decide) rfl ⟨by omega, by omega⟩
        refine jI_const d_M_train_65 ?_
        refine jx_iload_n d_M_train_66 rfl rfl ?_
        refine jI_setbit d_M_train_67 d_M_train_68 ⟨by omega, by omega⟩ ⟨by omega, by omega⟩ ?_
        have u15 := sSet_rg (n := 8) (x := (S 4 p)) (k := s) ⟨by omega, by omega⟩ ⟨by omega, by omega⟩
        refine mx_st (n := 4) d_M_train_69 hM (by decide) rfl ⟨by omega, by omega⟩ (fun w hM hF1 => ?_)
        have hF := hF.tr hF1
        obtain ⟨S16, hS16⟩ : ∃ zz, zz = sU S8 4 p (sSet (S 4 p) s) := ⟨_, rfl⟩
        rw [← hS16] at hM
        have hIS16 : sI S16 := by rw [hS16]; exact hIS8.u 4 _ _ (fun _ => (show (0 : Int) ≤ sSet (S 4 p) s ∧ sSet (S 4 p) s ≤ 255 by constructor <;> omega))
        have e17 : S16 0 0 = S8 0 0 := by rw [hS16]; rfl
        have e18 : S16 1 0 = S8 1 0 := by rw [hS16]; rfl
        have e19 : S16 2 0 = S8 2 0 := by rw [hS16]; rfl
        have e20 : S16 23 0 = S8 23 0 := by rw [hS16]; rfl
        refine jx_aload_n d_M_train_70 rfl rfl ?_
        refine mx_ar 4 d_M_train_71 (f_M_7 hB) hM (by decide) ?_
        refine jx_iload_n d_M_train_74 rfl rfl ?_
        refine mx_ld (n := 4) d_M_train_75 hM (by decide) rfl ⟨by omega, by omega⟩ ?_
        rw [show S16 4 p = sSet (S 4 p) s by simp [hS16, hS8, sU, sUs]]
        refine jx_callS_r (As := [.int (iI (sSet (S 4 p) s))]) d_M_train_76 (m_M_bits hB) (s_M_102 hB) rfl (Nat.le_of_ble_eq_true rfl) (Nat.le_of_ble_eq_true rfl) (w_M_bits (x := sSet (S 4 p) s) ⟨by omega, by omega⟩) ?_
        exact jx_iret d_M_train_79 rfl (jm_i (S := S16) (by rw [hS16, hS8]; unfold oTrain; (repeat' split) <;> first | rfl | exact jp2 (by omega) rfl | (exfalso; omega)) hM hF)
      · refine jI_const d_M_train_41 ?_
        refine jx_goto (tgt := 46) d_M_train_42 (by decide) ?_
        refine mx_psc d_M_train_46 (f_M_83 hB) (t_5_3 hB) hM (by decide) (fun w hM hF1 => ?_)
        have hF := hF.tr hF1
        obtain ⟨S21, hS21⟩ : ∃ zz, zz = sU S 3 0 3 := ⟨_, rfl⟩
        rw [← hS21] at hM
        have hIS21 : sI S21 := by rw [hS21]; exact hI.u 3 _ _ (fun z => absurd z (by decide))
        have e22 : S21 0 0 = S 0 0 := by rw [hS21]; rfl
        have e23 : S21 1 0 = S 1 0 := by rw [hS21]; rfl
        have e24 : S21 2 0 = S 2 0 := by rw [hS21]; rfl
        have e25 : S21 23 0 = S 23 0 := by rw [hS21]; rfl
        refine jx_aload_n d_M_train_49 rfl rfl ?_
        refine mx_sc 3 d_M_train_50 (f_M_83 hB) hM (by decide) ?_
        rw [show S21 3 0 = 3 by simp [hS21, sU, sUs]]
        refine jI_if_eq (tgt := 58) d_M_train_53 (by decide) (by omega) (fun z => absurd z (by omega)) (fun _ => ?_)
        refine jI_const d_M_train_56 ?_
        exact jx_iret d_M_train_57 rfl (jm_i (S := S21) (by rw [hS21]; unfold oTrain; (repeat' split) <;> first | rfl | exact jp2 (by omega) rfl | (exfalso; omega)) hM hF)
    · refine jI_const d_M_train_23 ?_
      refine jx_goto (tgt := 46) d_M_train_24 (by decide) ?_
      refine mx_psc d_M_train_46 (f_M_83 hB) (t_5_3 hB) hM (by decide) (fun w hM hF1 => ?_)
      have hF := hF.tr hF1
      obtain ⟨S27, hS27⟩ : ∃ zz, zz = sU S 3 0 2 := ⟨_, rfl⟩
      rw [← hS27] at hM
      have hIS27 : sI S27 := by rw [hS27]; exact hI.u 3 _ _ (fun z => absurd z (by decide))
      have e28 : S27 0 0 = S 0 0 := by rw [hS27]; rfl
      have e29 : S27 1 0 = S 1 0 := by rw [hS27]; rfl
      have e30 : S27 2 0 = S 2 0 := by rw [hS27]; rfl
      have e31 : S27 23 0 = S 23 0 := by rw [hS27]; rfl
      refine jx_aload_n d_M_train_49 rfl rfl ?_
      refine mx_sc 3 d_M_train_50 (f_M_83 hB) hM (by decide) ?_
      rw [show S27 3 0 = 2 by simp [hS27, sU, sUs]]
      refine jI_if_eq (tgt := 58) d_M_train_53 (by decide) (by omega) (fun z => absurd z (by omega)) (fun _ => ?_)
      refine jI_const d_M_train_56 ?_
      exact jx_iret d_M_train_57 rfl (jm_i (S := S27) (by rw [hS27]; unfold oTrain; (repeat' split) <;> first | rfl | exact jp2 (by omega) rfl | (exfalso; omega)) hM hF)
  · refine jI_const d_M_train_9 ?_
    refine jx_goto (tgt := 46) d_M_train_10 (by decide) ?_
    refine mx_psc d_M_train_46 (f_M_83 hB) (t_5_3 hB) hM (by decide) (fun w hM hF1 => ?_)
    have hF := hF.tr hF1
    obtain ⟨S33, hS33⟩ : ∃ zz, zz = sU S 3 0 1 := ⟨_, rfl⟩
    rw [← hS33] at hM
    have hIS33 : sI S33 := by rw [hS33]; exact hI.u 3 _ _ (fun z => absurd z (by decide))
    have e34 : S33 0 0 = S 0 0 := by rw [hS33]; rfl
    have e35 : S33 1 0 = S 1 0 := by rw [hS33]; rfl
    have e36 : S33 2 0 = S 2 0 := by rw [hS33]; rfl
    have e37 : S33 23 0 = S 23 0 := by rw [hS33]; rfl
    refine jx_aload_n d_M_train_49 rfl rfl ?_
    refine mx_sc 3 d_M_train_50 (f_M_83 hB) hM (by decide) ?_
    rw [show S33 3 0 = 1 by simp [hS33, sU, sUs]]
    refine jI_if_eq (tgt := 58) d_M_train_53 (by decide) (by omega) (fun z => absurd z (by omega)) (fun _ => ?_)
    refine jI_const d_M_train_56 ?_
    exact jx_iret d_M_train_57 rfl (jm_i (S := S33) (by rw [hS33]; unfold oTrain; (repeat' split) <;> first | rfl | exact jp2 (by omega) rfl | (exfalso; omega)) hM hF)
theorem w_M_refuse {E : jx_E} {l : Launch} {d : Nat} {w : jx_W} {S : mS} {m : Nat} {A : Nat → Nat} {p t : Int} (hB : jx_B E) (hM : mR E S w m A) (hI : sI S) (hP : 0 ≤ S 0 0 ∧ S 0 0 ≤ 4) (hT : 0 ≤ S 1 0 ∧ S 1 0 ≤ 16) (h1 : iR p) (h2 : iR t) : jx_G E l Y_M_refuse (d + 2) (jm_po E m A w (some (.int (iI (oRefuse S p t).1))) (oRefuse S p t).2) 0 (jx_ent [.ref m, .int (iI p), .int (iI t)] 3) [] w := by
  have hF : mF m A w w := mF.rf
  generalize hw0 : w = w0 at hF ⊢
  rw [hw0] at hM
  have hF : mF m A w0 w0 := mF.rf
  show jx_G E l Y_M_refuse (d + 2) (jm_po E m A w0 _ _) 0 [some (.ref m), some (.int (iI p)), some (.int (iI t))] [] w0
  refine jx_aload_n d_M_refuse_0 rfl rfl ?_
  refine jx_aload_n d_M_refuse_1 rfl rfl ?_
  refine jx_iload_n d_M_refuse_2 rfl rfl ?_
  refine jx_callV_r (As := [.int (iI (p))]) d_M_refuse_3 (m_M_isPerson hB) (v_M_98 hB) (by decide) (jx_c5 hB) hM.1 rfl (Nat.le_of_ble_eq_true rfl) (Nat.le_of_ble_eq_true rfl) (w_M_isPerson hB hM hI (x := p) (by omega) (by omega)) ?_
  have q1 : sIn (p) 0 (S 0 0 - 1) = 0 ∧ ¬ (0 ≤ p ∧ p ≤ S 0 0 - 1) ∨ sIn (p) 0 (S 0 0 - 1) = 1 ∧ (0 ≤ p ∧ p ≤ S 0 0 - 1) := by unfold sIn; split <;> omega
  refine jI_if_eq (tgt := 17) d_M_refuse_6 (by decide) (by omega) (fun hc2 => ?_) (fun hc2 => ?_)
  · refine jI_const d_M_refuse_17 ?_
    refine jx_goto (tgt := 44) d_M_refuse_18 (by decide) ?_
    refine mx_psc d_M_refuse_44 (f_M_83 hB) (t_5_3 hB) hM (by decide) (fun w hM hF1 => ?_)
    have hF := hF.tr hF1
    obtain ⟨S3, hS3⟩ : ∃ zz, zz = sU S 3 0 1 := ⟨_, rfl⟩
    rw [← hS3] at hM
    have hIS3 : sI S3 := by rw [hS3]; exact hI.u 3 _ _ (fun z => absurd z (by decide))
    have e4 : S3 0 0 = S 0 0 := by rw [hS3]; rfl
    have e5 : S3 1 0 = S 1 0 := by rw [hS3]; rfl
    have e6 : S3 2 0 = S 2 0 := by rw [hS3]; rfl
    have e7 : S3 23 0 = S 23 0 := by rw [hS3]; rfl
    refine jx_aload_n d_M_refuse_47 rfl rfl ?_
    refine mx_sc 3 d_M_refuse_48 (f_M_83 hB) hM (by decide) ?_
    rw [show S3 3 0 = 1 by simp [hS3, sU, sUs]]
    refine jI_if_eq (tgt := 56) d_M_refuse_51 (by decide) (by omega) (fun z => absurd z (by omega)) (fun _ => ?_)
    refine jI_const d_M_refuse_54 ?_
    exact jx_zret (ty := .boolean) d_M_refuse_55 rfl (jI_bool (by omega)) (jm_i (S := S3) (by rw [hS3]; unfold oRefuse; (repeat' split) <;> first | rfl | exact jp2 (by omega) rfl | (exfalso; omega)) hM hF)
  · refine jx_aload_n d_M_refuse_9 rfl rfl ?_
    refine jx_iload_n d_M_refuse_10 rfl rfl ?_
    refine jx_callV_r (As := [.int (iI (t))]) d_M_refuse_11 (m_M_isTask hB) (v_M_106 hB) (by decide) (jx_c5 hB) hM.1 rfl (Nat.le_of_ble_eq_true rfl) (Nat.le_of_ble_eq_true rfl) (w_M_isTask hB hM hI (x := t) (by omega) (by omega)) ?_
    have q9 : sIn (t) 0 (S 1 0 - 1) = 0 ∧ ¬ (0 ≤ t ∧ t ≤ S 1 0 - 1) ∨ sIn (t) 0 (S 1 0 - 1) = 1 ∧ (0 ≤ t ∧ t ≤ S 1 0 - 1) := by unfold sIn; split <;> omega
    refine jI_if_ne (tgt := 21) d_M_refuse_14 (by decide) (by omega) (fun hc10 => ?_) (fun hc10 => ?_)
    · refine jx_aload_n d_M_refuse_21 rfl rfl ?_
      refine mx_ar 13 d_M_refuse_22 (f_M_38 hB) hM (by decide) ?_
      refine jx_iload_n d_M_refuse_25 rfl rfl ?_
      refine mx_ld (n := 16) d_M_refuse_26 hM (by decide) rfl ⟨by omega, by omega⟩ ?_
      have r11 : 0 ≤ S 13 t ∧ S 13 t ≤ 2 := hI.r 13 t (n := 16) (by decide) rfl ⟨by omega, by omega⟩
      refine jI_if_ne (tgt := 39) d_M_refuse_27 (by decide) (by omega) (fun hc12 => ?_) (fun hc12 => ?_)
      · refine jI_const d_M_refuse_39 ?_
        refine jx_goto (tgt := 44) d_M_refuse_40 (by decide) ?_
        refine mx_psc d_M_refuse_44 (f_M_83 hB) (t_5_3 hB) hM (by decide) (fun w hM hF1 => ?_)
        have hF := hF.tr hF1
        obtain ⟨S13, hS13⟩ : ∃ zz, zz = sU S 3 0 2 := ⟨_, rfl⟩
        rw [← hS13] at hM
        have hIS13 : sI S13 := by rw [hS13]; exact hI.u 3 _ _ (fun z => absurd z (by decide))
        have e14 : S13 0 0 = S 0 0 := by rw [hS13]; rfl
        have e15 : S13 1 0 = S 1 0 := by rw [hS13]; rfl
        have e16 : S13 2 0 = S 2 0 := by rw [hS13]; rfl
        have e17 : S13 23 0 = S 23 0 := by rw [hS13]; rfl
        refine jx_aload_n d_M_refuse_47 rfl rfl ?_
        refine mx_sc 3 d_M_refuse_48 (f_M_83 hB) hM (by decide) ?_
        rw [show S13 3 0 = 2 by simp [hS13, sU, sUs]]
        refine jI_if_eq (tgt := 56) d_M_refuse_51 (by decide) (by omega) (fun z => absurd z (by omega)) (fun _ => ?_)
        refine jI_const d_M_refuse_54 ?_
        exact jx_zret (ty := .boolean) d_M_refuse_55 rfl (jI_bool (by omega)) (jm_i (S := S13) (by rw [hS13]; unfold oRefuse; (repeat' split) <;> first | rfl | exact jp2 (by omega) rfl | (exfalso; omega)) hM hF)
      · refine jx_aload_n d_M_refuse_30 rfl rfl ?_
        refine jx_iload_n d_M_refuse_31 rfl rfl ?_
        refine jx_iload_n d_M_refuse_32 rfl rfl ?_
        refine jx_callV_r (As := [.int (iI (p)), .int (iI (t))]) (v := some (.int (iI (sRef S p t)))) d_M_refuse_33 (m_M_hasRefused hB) (v_M_109 hB) (by decide) (jx_c5 hB) hM.1 rfl (Nat.le_of_ble_eq_true rfl) (Nat.le_of_ble_eq_true rfl) (w_M_hasRefused hB hM hI (p := p) (t := t) (by omega) (by omega)) ?_
        have q19 := sRef_01 S p t
        refine jI_if_eq (tgt := 43) d_M_refuse_36 (by decide) (by omega) (fun hc20 => ?_) (fun hc20 => ?_)
        · refine jI_const d_M_refuse_43 ?_
          refine mx_psc d_M_refuse_44 (f_M_83 hB) (t_5_3 hB) hM (by decide) (fun w hM hF1 => ?_)
          have hF := hF.tr hF1
          obtain ⟨S21, hS21⟩ : ∃ zz, zz = sU S 3 0 0 := ⟨_, rfl⟩
          rw [← hS21] at hM
          have hIS21 : sI S21 := by rw [hS21]; exact hI.u 3 _ _ (fun z => absurd z (by decide))
          have e22 : S21 0 0 = S 0 0 := by rw [hS21]; rfl
          have e23 : S21 1 0 = S 1 0 := by rw [hS21]; rfl
          have e24 : S21 2 0 = S 2 0 := by rw [hS21]; rfl
          have e25 : S21 23 0 = S 23 0 := by rw [hS21]; rfl
          refine jx_aload_n d_M_refuse_47 rfl rfl ?_
          refine mx_sc 3 d_M_refuse_48 (f_M_83 hB) hM (by decide) ?_
          rw [show S21 3 0 = 0 by simp [hS21, sU, sUs]]
          refine jI_if_eq (tgt := 56) d_M_refuse_51 (by decide) (by omega) (fun _ => ?_) (fun z => absurd z (by omega))
          refine jx_aload_n d_M_refuse_56 rfl rfl ?_
          refine mx_ar 18 d_M_refuse_57 (f_M_53 hB) hM (by decide) ?_
          refine jx_iload_n d_M_refuse_60 rfl rfl ?_
          refine jx_dup2 d_M_refuse_61 rfl rfl ?_
          refine mx_ld (n := 16) d_M_refuse_62 hM (by decide) rfl ⟨by omega, by omega⟩ ?_
          rw [show S21 18 t = S 18 t by simp [hS21, sU, sUs]]
          have r27 : 0 ≤ S 18 t ∧ S 18 t ≤ 15 := hI.r 18 t (n := 16) (by decide) rfl ⟨by omega, by omega⟩
          refine jI_const d_M_refuse_63 ?_
          refine jx_iload_n d_M_refuse_64 rfl rfl ?_
          refine jI_setbit d_M_refuse_65 d_M_refuse_66 ⟨by omega, by omega⟩ ⟨by omega, by omega⟩ ?_
          have u28 := sSet_rg (n := 4) (x := (S 18 t)) (k := p) ⟨by omega, by omega⟩ ⟨by omega, by omega⟩
          refine mx_st (n := 16) d_M_refuse_67 hM (by decide) rfl ⟨by omega, by omega⟩ (fun w hM hF1 => ?_)
          have hF := hF.tr hF1
          obtain ⟨S29, hS29⟩ : ∃ zz, zz = sU S21 18 t (sSet (S 18 t) p) := ⟨_, rfl⟩
          rw [← hS29] at hM
          have hIS29 : sI S29 := by rw [hS29]; exact hIS21.u 18 _ _ (fun _ => (show (0 : Int) ≤ sSet (S 18 t) p ∧ sSet (S 18 t) p ≤ 15 by constructor <;> omega))
          have e30 : S29 0 0 = S21 0 0 := by rw [hS29]; rfl
          have e31 : S29 1 0 = S21 1 0 := by rw [hS29]; rfl
          have e32 : S29 2 0 = S21 2 0 := by rw [hS29]; rfl
          have e33 : S29 23 0 = S21 23 0 := by rw [hS29]; rfl
          refine jx_aload_n d_M_refuse_68 rfl rfl ?_
          refine mx_ar 19 d_M_refuse_69 (f_M_56 hB) hM (by decide) ?_
          refine jx_iload_n d_M_refuse_72 rfl rfl ?_
          refine mx_ld (n := 16) d_M_refuse_73 hM (by decide) rfl ⟨by omega, by omega⟩ ?_
          rw [show S29 19 t = S 19 t by simp [hS29, hS21, sU, sUs]]
          have r34 : -1 ≤ S 19 t ∧ S 19 t ≤ 3 := hI.r 19 t (n := 16) (by decide) rfl ⟨by omega, by omega⟩
          refine jx_iload_n d_M_refuse_74 rfl rfl ?_
          refine jI_icmp_eq (tgt := 80) d_M_refuse_75 (by decide) (by omega) (by omega) (fun hc35 => ?_) (fun hc35 => ?_)
          · refine jx_aload_n d_M_refuse_80 rfl rfl ?_
            refine jx_iload_n d_M_refuse_81 rfl rfl ?_
            refine jm_callV (As := [.int (iI (t))]) d_M_refuse_82 (m_M_free hB) (v_M_113 hB) hB hM.1 rfl (Nat.le_of_ble_eq_true rfl) (Nat.le_of_ble_eq_true rfl) (w_M_free hB hM hIS29 (t := t) (by omega)) (fun w hM hF1 => ?_)
            have hF := hF.tr hF1
            obtain ⟨S36, hS36⟩ : ∃ zz, zz = oFree S29 t := ⟨_, rfl⟩
            rw [← hS36] at hM
            have hIS36 : sI S36 := by rw [hS36]; exact sI_free hIS29 _
            have e37 : S36 0 0 = S29 0 0 := by rw [hS36]; rfl
            have e38 : S36 1 0 = S29 1 0 := by rw [hS36]; rfl
            have e39 : S36 2 0 = S29 2 0 := by rw [hS36]; rfl
            have e40 : S36 23 0 = S29 23 0 := by rw [hS36]; rfl
            refine jI_const d_M_refuse_85 ?_
            exact jx_zret (ty := .boolean) d_M_refuse_86 rfl (jI_bool (by omega)) (jm_i (S := S36) (by rw [hS36, hS29, hS21]; unfold oRefuse; (repeat' split) <;> first | rfl | exact jp2 (by omega) rfl | (exfalso; omega)) hM hF)
          · refine jI_const d_M_refuse_78 ?_
            exact jx_zret (ty := .boolean) d_M_refuse_79 rfl (jI_bool (by omega)) (jm_i (S := S29) (by rw [hS29, hS21]; unfold oRefuse; (repeat' split) <;> first | rfl | exact jp2 (by omega) rfl | (exfalso; omega)) hM hF)
        · refine jI_const d_M_refuse_39 ?_
          refine jx_goto (tgt := 44) d_M_refuse_40 (by decide) ?_
          refine mx_psc d_M_refuse_44 (f_M_83 hB) (t_5_3 hB) hM (by decide) (fun w hM hF1 => ?_)
          have hF := hF.tr hF1
          obtain ⟨S41, hS41⟩ : ∃ zz, zz = sU S 3 0 2 := ⟨_, rfl⟩
          rw [← hS41] at hM
          have hIS41 : sI S41 := by rw [hS41]; exact hI.u 3 _ _ (fun z => absurd z (by decide))
          have e42 : S41 0 0 = S 0 0 := by rw [hS41]; rfl
          have e43 : S41 1 0 = S 1 0 := by rw [hS41]; rfl
          have e44 : S41 2 0 = S 2 0 := by rw [hS41]; rfl
          have e45 : S41 23 0 = S 23 0 := by rw [hS41]; rfl
          refine jx_aload_n d_M_refuse_47 rfl rfl ?_
          refine mx_sc 3 d_M_refuse_48 (f_M_83 hB) hM (by decide) ?_
          rw [show S41 3 0 = 2 by simp [hS41, sU, sUs]]
          refine jI_if_eq (tgt := 56) d_M_refuse_51 (by decide) (by omega) (fun z => absurd z (by omega)) (fun _ => ?_)
          refine jI_const d_M_refuse_54 ?_
          exact jx_zret (ty := .boolean) d_M_refuse_55 rfl (jI_bool (by omega)) (jm_i (S := S41) (by rw [hS41]; unfold oRefuse; (repeat' split) <;> first | rfl | exact jp2 (by omega) rfl | (exfalso; omega)) hM hF)
    · refine jI_const d_M_refuse_17 ?_
      refine jx_goto (tgt := 44) d_M_refuse_18 (by decide) ?_
      refine mx_psc d_M_refuse_44 (f_M_83 hB) (t_5_3 hB) hM (by decide) (fun w hM hF1 => ?_)
      have hF := hF.tr hF1
      obtain ⟨S47, hS47⟩ : ∃ zz, zz = sU S 3 0 1 := ⟨_, rfl⟩
      rw [← hS47] at hM
      have hIS47 : sI S47 := by rw [hS47]; exact hI.u 3 _ _ (fun z => absurd z (by decide))
      have e48 : S47 0 0 = S 0 0 := by rw [hS47]; rfl
      have e49 : S47 1 0 = S 1 0 := by rw [hS47]; rfl
      have e50 : S47 2 0 = S 2 0 := by rw [hS47]; rfl
      have e51 : S47 23 0 = S 23 0 := by rw [hS47]; rfl
      refine jx_aload_n d_M_refuse_47 rfl rfl ?_
      refine mx_sc 3 d_M_refuse_48 (f_M_83 hB) hM (by decide) ?_
      rw [show S47 3 0 = 1 by simp [hS47, sU, sUs]]
      refine jI_if_eq (tgt := 56) d_M_refuse_51 (by decide) (by omega) (fun z => absurd z (by omega)) (fun _ => ?_)
      refine jI_const d_M_refuse_54 ?_
      exact jx_zret (ty := .boolean) d_M_refuse_55 rfl (jI_bool (by omega)) (jm_i (S := S47) (by rw [hS47]; unfold oRefuse; (repeat' split) <;> first | rfl | exact jp2 (by omega) rfl | (exfalso; omega)) hM hF)
theorem w_M_bar {E : jx_E} {l : Launch} {d : Nat} {w : jx_W} {S : mS} {m : Nat} {A : Nat → Nat} {p t : Int} (hB : jx_B E) (hM : mR E S w m A) (hI : sI S) (hP : 0 ≤ S 0 0 ∧ S 0 0 ≤ 4) (hT : 0 ≤ S 1 0 ∧ S 1 0 ≤ 16) (hn : 0 ≤ S 2 0 ∧ S 2 0 ≤ 100000) (h1 : iR p) (h2 : iR t) : jx_G E l Y_M_bar (d + 3) (jm_po E m A w (some (.int (iI (oBar S p t).1))) (oBar S p t).2) 0 (jx_ent [.ref m, .int (iI p), .int (iI t)] 3) [] w := by
  have hF : mF m A w w := mF.rf
  generalize hw0 : w = w0 at hF ⊢
  rw [hw0] at hM
  have hF : mF m A w0 w0 := mF.rf
  show jx_G E l Y_M_bar (d + 3) (jm_po E m A w0 _ _) 0 [some (.ref m), some (.int (iI p)), some (.int (iI t))] [] w0
  refine jx_aload_n d_M_bar_0 rfl rfl ?_
  refine jx_aload_n d_M_bar_1 rfl rfl ?_
  refine jx_iload_n d_M_bar_2 rfl rfl ?_
  refine jx_callV_r (As := [.int (iI (p))]) d_M_bar_3 (m_M_isPerson hB) (v_M_98 hB) (by decide) (jx_c5 hB) hM.1 rfl (Nat.le_of_ble_eq_true rfl) (Nat.le_of_ble_eq_true rfl) (w_M_isPerson hB hM hI (x := p) (by omega) (by omega)) ?_
  have q1 : sIn (p) 0 (S 0 0 - 1) = 0 ∧ ¬ (0 ≤ p ∧ p ≤ S 0 0 - 1) ∨ sIn (p) 0 (S 0 0 - 1) = 1 ∧ (0 ≤ p ∧ p ≤ S 0 0 - 1) := by unfold sIn; split <;> omega
  refine jI_if_eq (tgt := 17) d_M_bar_6 (by decide) (by omega) (fun hc2 => ?_) (fun hc2 => ?_)
  · refine jI_const d_M_bar_17 ?_
    refine jx_goto (tgt := 35) d_M_bar_18 (by decide) ?_
    refine mx_psc d_M_bar_35 (f_M_83 hB) (t_5_3 hB) hM (by decide) (fun w hM hF1 => ?_)
    have hF := hF.tr hF1
    obtain ⟨S3, hS3⟩ : ∃ zz, zz = sU S 3 0 1 := ⟨_, rfl⟩
    rw [← hS3] at hM
    have hIS3 : sI S3 := by rw [hS3]; exact hI.u 3 _ _ (fun z => absurd z (by decide))
    have e4 : S3 0 0 = S 0 0 := by rw [hS3]; rfl
    have e5 : S3 1 0 = S 1 0 := by rw [hS3]; rfl
    have e6 : S3 2 0 = S 2 0 := by rw [hS3]; rfl
    have e7 : S3 23 0 = S 23 0 := by rw [hS3]; rfl
    refine jx_aload_n d_M_bar_38 rfl rfl ?_
    refine mx_sc 3 d_M_bar_39 (f_M_83 hB) hM (by decide) ?_
    rw [show S3 3 0 = 1 by simp [hS3, sU, sUs]]
    refine jI_if_eq (tgt := 47) d_M_bar_42 (by decide) (by omega) (fun z => absurd z (by omega)) (fun _ => ?_)
    refine jI_const d_M_bar_45 ?_
    exact jx_iret d_M_bar_46 rfl (jm_i (S := S3) (by rw [hS3]; unfold oBar; (repeat' split) <;> first | rfl | exact jp2 (by omega) rfl | (exfalso; omega)) hM hF)
  · refine jx_aload_n d_M_bar_9 rfl rfl ?_
    refine jx_iload_n d_M_bar_10 rfl rfl ?_
    refine jx_callV_r (As := [.int (iI (t))]) d_M_bar_11 (m_M_isTask hB) (v_M_106 hB) (by decide) (jx_c5 hB) hM.1 rfl (Nat.le_of_ble_eq_true rfl) (Nat.le_of_ble_eq_true rfl) (w_M_isTask hB hM hI (x := t) (by omega) (by omega)) ?_
    have q9 : sIn (t) 0 (S 1 0 - 1) = 0 ∧ ¬ (0 ≤ t ∧ t ≤ S 1 0 - 1) ∨ sIn (t) 0 (S 1 0 - 1) = 1 ∧ (0 ≤ t ∧ t ≤ S 1 0 - 1) := by unfold sIn; split <;> omega
    refine jI_if_ne (tgt := 21) d_M_bar_14 (by decide) (by omega) (fun hc10 => ?_) (fun hc10 => ?_)
    · refine jx_aload_n d_M_bar_21 rfl rfl ?_
      refine mx_ar 13 d_M_bar_22 (f_M_38 hB) hM (by decide) ?_
      refine jx_iload_n d_M_bar_25 rfl rfl ?_
      refine mx_ld (n := 16) d_M_bar_26 hM (by decide) rfl ⟨by omega, by omega⟩ ?_
      have r11 : 0 ≤ S 13 t ∧ S 13 t ≤ 2 := hI.r 13 t (n := 16) (by decide) rfl ⟨by omega, by omega⟩
      refine jI_if_eq (tgt := 34) d_M_bar_27 (by decide) (by omega) (fun hc12 => ?_) (fun hc12 => ?_)
      · refine jI_const d_M_bar_34 ?_
        refine mx_psc d_M_bar_35 (f_M_83 hB) (t_5_3 hB) hM (by decide) (fun w hM hF1 => ?_)
        have hF := hF.tr hF1
        obtain ⟨S13, hS13⟩ : ∃ zz, zz = sU S 3 0 0 := ⟨_, rfl⟩
        rw [← hS13] at hM
        have hIS13 : sI S13 := by rw [hS13]; exact hI.u 3 _ _ (fun z => absurd z (by decide))
        have e14 : S13 0 0 = S 0 0 := by rw [hS13]; rfl
        have e15 : S13 1 0 = S 1 0 := by rw [hS13]; rfl
        have e16 : S13 2 0 = S 2 0 := by rw [hS13]; rfl
        have e17 : S13 23 0 = S 23 0 := by rw [hS13]; rfl
        refine jx_aload_n d_M_bar_38 rfl rfl ?_
        refine mx_sc 3 d_M_bar_39 (f_M_83 hB) hM (by decide) ?_
        rw [show S13 3 0 = 0 by simp [hS13, sU, sUs]]
        refine jI_if_eq (tgt := 47) d_M_bar_42 (by decide) (by omega) (fun _ => ?_) (fun z => absurd z (by omega))
        refine jx_aload_n d_M_bar_47 rfl rfl ?_
        refine mx_ar 10 d_M_bar_48 (f_M_28 hB) hM (by decide) ?_
        refine jx_iload_n d_M_bar_51 rfl rfl ?_
        refine mx_zld d_M_bar_52 hM ⟨by omega, by omega⟩ ?_
        rw [show S13 10 p = S 10 p by simp [hS13, sU, sUs]]
        have r19 : 0 ≤ S 10 p ∧ S 10 p ≤ 1 := hI.r 10 p (n := 4) (by decide) rfl ⟨by omega, by omega⟩
        refine jI_if_ne (tgt := 58) d_M_bar_53 (by decide) (by omega) (fun hc20 => ?_) (fun hc20 => ?_)
        · refine jx_aload_n d_M_bar_58 rfl rfl ?_
          refine mx_ar 4 d_M_bar_59 (f_M_7 hB) hM (by decide) ?_
          refine jx_iload_n d_M_bar_62 rfl rfl ?_
          refine mx_ld (n := 4) d_M_bar_63 hM (by decide) rfl ⟨by omega, by omega⟩ ?_
          rw [show S13 4 p = S 4 p by simp [hS13, sU, sUs]]
          have r21 : 0 ≤ S 4 p ∧ S 4 p ≤ 255 := hI.r 4 p (n := 4) (by decide) rfl ⟨by omega, by omega⟩
          refine jx_aload_n d_M_bar_64 rfl rfl ?_
          refine mx_ar 14 d_M_bar_65 (f_M_41 hB) hM (by decide) ?_
          refine jx_iload_n d_M_bar_68 rfl rfl ?_
          refine mx_ld (n := 16) d_M_bar_69 hM (by decide) rfl ⟨by omega, by omega⟩ ?_
          rw [show S13 14 t = S 14 t by simp [hS13, sU, sUs]]
          have r22 : 0 ≤ S 14 t ∧ S 14 t ≤ 7 := hI.r 14 t (n := 16) (by decide) rfl ⟨by omega, by omega⟩
          refine jI_bit d_M_bar_70 d_M_bar_71 d_M_bar_72 ⟨by omega, by omega⟩ ⟨by omega, by omega⟩ ?_
          have b23 := sBit_01 (S 4 p) (S 14 t)
          refine jI_if_ne (tgt := 78) d_M_bar_73 (by decide) (by omega) (fun hc24 => ?_) (fun hc24 => ?_)
          · refine jx_aload_n d_M_bar_78 rfl rfl ?_
            refine jx_iload_n d_M_bar_79 rfl rfl ?_
            refine jx_iload_n d_M_bar_80 rfl rfl ?_
            refine jx_callV_r (As := [.int (iI (p)), .int (iI (t))]) (v := some (.int (iI (sRef S13 p t)))) d_M_bar_81 (m_M_hasRefused hB) (v_M_109 hB) (by decide) (jx_c5 hB) hM.1 rfl (Nat.le_of_ble_eq_true rfl) (Nat.le_of_ble_eq_true rfl) (w_M_hasRefused hB hM hIS13 (p := p) (t := t) (by omega) (by omega)) ?_
            rw [show sRef S13 p t = sRef S p t by rw [hS13]; rfl]
            have q25 := sRef_01 S p t
            refine jI_if_eq (tgt := 89) d_M_bar_84 (by decide) (by omega) (fun hc26 => ?_) (fun hc26 => ?_)
            · refine jx_aload_n d_M_bar_89 rfl rfl ?_
              refine jx_iload_n d_M_bar_90 rfl rfl ?_
              refine jx_iload_n d_M_bar_91 rfl rfl ?_
              refine jx_callV_r (As := [.int (iI (p)), .int (iI (t))]) (v := some (.int (iI (sAlone S13 p t)))) d_M_bar_92 (m_M_aloneAt hB) (v_M_131 hB) (by decide) (jx_c5 hB) hM.1 rfl (Nat.le_of_ble_eq_true rfl) (Nat.le_of_ble_eq_true rfl) (w_M_aloneAt hB hM hIS13 (p := p) (t := t) (by omega) (by omega) (by omega)) ?_
              rw [show sAlone S13 p t = sAlone S p t by rw [hS13]; rfl]
              have q27 := sAlone_rg (S := S) (p := p) (t := t) hI (by omega) (by omega) (by omega)
              refine jI_const d_M_bar_95 ?_
              refine jI_icmp_ne (tgt := 103) d_M_bar_96 (by decide) (by omega) (by omega) (fun hc28 => ?_) (fun hc28 => ?_)
              · refine jI_const d_M_bar_103 ?_
                exact jx_iret d_M_bar_104 rfl (jm_i (S := S13) (by rw [hS13]; unfold oBar; (repeat' split) <;> first | rfl | exact jp2 (by omega) rfl | (exfalso; omega)) hM hF)
              · refine jI_const d_M_bar_99 ?_
                refine jx_goto (tgt := 104) d_M_bar_100 (by decide) ?_
                exact jx_iret d_M_bar_104 rfl (jm_i (S := S13) (by rw [hS13]; unfold oBar; (repeat' split) <;> first | rfl | exact jp2 (by omega) rfl | (exfalso; omega)) hM hF)
            · refine jI_const d_M_bar_87 ?_
              exact jx_iret d_M_bar_88 rfl (jm_i (S := S13) (by rw [hS13]; unfold oBar; (repeat' split) <;> first | rfl | exact jp2 (by omega) rfl | (exfalso; omega)) hM hF)
          · refine jI_const d_M_bar_76 ?_
            exact jx_iret d_M_bar_77 rfl (jm_i (S := S13) (by rw [hS13]; unfold oBar; (repeat' split) <;> first | rfl | exact jp2 (by omega) rfl | (exfalso; omega)) hM hF)
        · refine jI_const d_M_bar_56 ?_
          exact jx_iret d_M_bar_57 rfl (jm_i (S := S13) (by rw [hS13]; unfold oBar; (repeat' split) <;> first | rfl | exact jp2 (by omega) rfl | (exfalso; omega)) hM hF)
      · refine jI_const d_M_bar_30 ?_
        refine jx_goto (tgt := 35) d_M_bar_31 (by decide) ?_
        refine mx_psc d_M_bar_35 (f_M_83 hB) (t_5_3 hB) hM (by decide) (fun w hM hF1 => ?_)
        have hF := hF.tr hF1
        obtain ⟨S29, hS29⟩ : ∃ zz, zz = sU S 3 0 2 := ⟨_, rfl⟩
        rw [← hS29] at hM
        have hIS29 : sI S29 := by rw [hS29]; exact hI.u 3 _ _ (fun z => absurd z (by decide))
        have e30 : S29 0 0 = S 0 0 := by rw [hS29]; rfl
        have e31 : S29 1 0 = S 1 0 := by rw [hS29]; rfl
        have e32 : S29 2 0 = S 2 0 := by rw [hS29]; rfl
        have e33 : S29 23 0 = S 23 0 := by rw [hS29]; rfl
        refine jx_aload_n d_M_bar_38 rfl rfl ?_
        refine mx_sc 3 d_M_bar_39 (f_M_83 hB) hM (by decide) ?_
        rw [show S29 3 0 = 2 by simp [hS29, sU, sUs]]
        refine jI_if_eq (tgt := 47) d_M_bar_42 (by decide) (by omega) (fun z => absurd z (by omega)) (fun _ => ?_)
        refine jI_const d_M_bar_45 ?_
        exact jx_iret d_M_bar_46 rfl (jm_i (S := S29) (by rw [hS29]; unfold oBar; (repeat' split) <;> first | rfl | exact jp2 (by omega) rfl | (exfalso; omega)) hM hF)
    · refine jI_const d_M_bar_17 ?_
      refine jx_goto (tgt := 35) d_M_bar_18 (by decide) ?_
      refine mx_psc d_M_bar_35 (f_M_83 hB) (t_5_3 hB) hM (by decide) (fun w hM hF1 => ?_)
      have hF := hF.tr hF1
      obtain ⟨S35, hS35⟩ : ∃ zz, zz = sU S 3 0 1 := ⟨_, rfl⟩
      rw [← hS35] at hM
      have hIS35 : sI S35 := by rw [hS35]; exact hI.u 3 _ _ (fun z => absurd z (by decide))
      have e36 : S35 0 0 = S 0 0 := by rw [hS35]; rfl
      have e37 : S35 1 0 = S 1 0 := by rw [hS35]; rfl
      have e38 : S35 2 0 = S 2 0 := by rw [hS35]; rfl
      have e39 : S35 23 0 = S 23 0 := by rw [hS35]; rfl
      refine jx_aload_n d_M_bar_38 rfl rfl ?_
      refine mx_sc 3 d_M_bar_39 (f_M_83 hB) hM (by decide) ?_
      rw [show S35 3 0 = 1 by simp [hS35, sU, sUs]]
      refine jI_if_eq (tgt := 47) d_M_bar_42 (by decide) (by omega) (fun z => absurd z (by omega)) (fun _ => ?_)
      refine jI_const d_M_bar_45 ?_
      exact jx_iret d_M_bar_46 rfl (jm_i (S := S35) (by rw [hS35]; unfold oBar; (repeat' split) <;> first | rfl | exact jp2 (by omega) rfl | (exfalso; omega)) hM hF)
theorem w_M_told {E : jx_E} {l : Launch} {d : Nat} {w : jx_W} {S : mS} {m : Nat} {A : Nat → Nat} {t k : Int} (hB : jx_B E) (hM : mR E S w m A) (hI : sI S) (hT : 0 ≤ S 1 0 ∧ S 1 0 ≤ 16) (h1 : iR t) (h2 : iR k) : jx_G E l Y_M_told (d + 2) (jm_po E m A w (some (.int (iI (oTold S t k).1))) (oTold S t k).2) 0 (jx_ent [.ref m, .int (iI t), .int (iI k)] 3) [] w := by
  have hF : mF m A w w := mF.rf
  generalize hw0 : w = w0 at hF ⊢
  rw [hw0] at hM
  have hF : mF m A w0 w0 := mF.rf
  show jx_G E l Y_M_told (d + 2) (jm_po E m A w0 _ _) 0 [some (.ref m), some (.int (iI t)), some (.int (iI k))] [] w0
  refine jx_aload_n d_M_told_0 rfl rfl ?_
  refine jx_aload_n d_M_told_1 rfl rfl ?_
  refine jx_iload_n d_M_told_2 rfl rfl ?_
  refine jx_callV_r (As := [.int (iI (t))]) d_M_told_3 (m_M_isTask hB) (v_M_106 hB) (by decide) (jx_c5 hB) hM.1 rfl (Nat.le_of_ble_eq_true rfl) (Nat.le_of_ble_eq_true rfl) (w_M_isTask hB hM hI (x := t) (by omega) (by omega)) ?_
  have q1 : sIn (t) 0 (S 1 0 - 1) = 0 ∧ ¬ (0 ≤ t ∧ t ≤ S 1 0 - 1) ∨ sIn (t) 0 (S 1 0 - 1) = 1 ∧ (0 ≤ t ∧ t ≤ S 1 0 - 1) := by unfold sIn; split <;> omega
  refine jI_if_ne (tgt := 13) d_M_told_6 (by decide) (by omega) (fun hc2 => ?_) (fun hc2 => ?_)
  · refine jx_iload_n d_M_told_13 rfl rfl ?_
    refine jI_const d_M_told_14 ?_
    refine jI_bipush d_M_told_15 (by decide) ?_
    refine jx_callS_r (As := [.int (iI (k)), .int (iI (0)), .int (iI (6))]) d_M_told_17 (m_M_within hB) (s_M_90 hB) rfl (Nat.le_of_ble_eq_true rfl) (Nat.le_of_ble_eq_true rfl) (w_M_within hB (x := k) (a := 0) (b := 6) (by omega) (by omega) (by omega)) ?_
    have q3 : sIn (k) (0) (6) = 0 ∧ ¬ (0 ≤ k ∧ k ≤ 6) ∨ sIn (k) (0) (6) = 1 ∧ (0 ≤ k ∧ k ≤ 6) := by unfold sIn; split <;> omega
    refine jI_if_ne (tgt := 27) d_M_told_20 (by decide) (by omega) (fun hc4 => ?_) (fun hc4 => ?_)
    · refine jI_const d_M_told_27 ?_
      refine mx_psc d_M_told_28 (f_M_83 hB) (t_5_3 hB) hM (by decide) (fun w hM hF1 => ?_)
      have hF := hF.tr hF1
      obtain ⟨S5, hS5⟩ : ∃ zz, zz = sU S 3 0 0 := ⟨_, rfl⟩
      rw [← hS5] at hM
      have hIS5 : sI S5 := by rw [hS5]; exact hI.u 3 _ _ (fun z => absurd z (by decide))
      have e6 : S5 0 0 = S 0 0 := by rw [hS5]; rfl
      have e7 : S5 1 0 = S 1 0 := by rw [hS5]; rfl
      have e8 : S5 2 0 = S 2 0 := by rw [hS5]; rfl
      have e9 : S5 23 0 = S 23 0 := by rw [hS5]; rfl
      refine jx_aload_n d_M_told_31 rfl rfl ?_
      refine mx_sc 3 d_M_told_32 (f_M_83 hB) hM (by decide) ?_
      rw [show S5 3 0 = 0 by simp [hS5, sU, sUs]]
      refine jI_if_eq (tgt := 40) d_M_told_35 (by decide) (by omega) (fun _ => ?_) (fun z => absurd z (by omega))
      refine jx_iload_n d_M_told_40 rfl rfl ?_
      by_cases hs110 : k = 0
      · refine jx_tableIn (off := 39) (tgt := 80) d_M_told_41 (by rw [iI_toInt (by omega)]; omega) (by rw [iI_toInt (by omega)]; omega) (by rw [iI_toInt (by omega), hs110]; rfl) (by decide) ?_
        refine jx_aload_n d_M_told_80 rfl rfl ?_
        refine mx_ar 13 d_M_told_81 (f_M_38 hB) hM (by decide) ?_
        refine jx_iload_n d_M_told_84 rfl rfl ?_
        refine mx_ld (n := 16) d_M_told_85 hM (by decide) rfl ⟨by omega, by omega⟩ ?_
        rw [show S5 13 t = S 13 t by simp [hS5, sU, sUs]]
        have r12 : 0 ≤ S 13 t ∧ S 13 t ≤ 2 := hI.r 13 t (n := 16) (by decide) rfl ⟨by omega, by omega⟩
        exact jx_iret d_M_told_86 rfl (jm_i (S := S5) (by rw [hS5]; unfold oTold; (repeat' split) <;> first | rfl | exact jp2 (by omega) rfl | (exfalso; omega)) hM hF)
      by_cases hs111 : k = 1
      · refine jx_tableIn (off := 46) (tgt := 87) d_M_told_41 (by rw [iI_toInt (by omega)]; omega) (by rw [iI_toInt (by omega)]; omega) (by rw [iI_toInt (by omega), hs111]; rfl) (by decide) ?_
        refine jx_aload_n d_M_told_87 rfl rfl ?_
        refine mx_ar 19 d_M_told_88 (f_M_56 hB) hM (by decide) ?_
        refine jx_iload_n d_M_told_91 rfl rfl ?_
        refine mx_ld (n := 16) d_M_told_92 hM (by decide) rfl ⟨by omega, by omega⟩ ?_
        rw [show S5 19 t = S 19 t by simp [hS5, sU, sUs]]
        have r13 : -1 ≤ S 19 t ∧ S 19 t ≤ 3 := hI.r 19 t (n := 16) (by decide) rfl ⟨by omega, by omega⟩
        exact jx_iret d_M_told_93 rfl (jm_i (S := S5) (by rw [hS5]; unfold oTold; (repeat' split) <;> first | rfl | exact jp2 (by omega) rfl | (exfalso; omega)) hM hF)
      by_cases hs112 : k = 2
      · refine jx_tableIn (off := 53) (tgt := 94) d_M_told_41 (by rw [iI_toInt (by omega)]; omega) (by rw [iI_toInt (by omega)]; omega) (by rw [iI_toInt (by omega), hs112]; rfl) (by decide) ?_
        refine jx_aload_n d_M_told_94 rfl rfl ?_
        refine mx_ar 20 d_M_told_95 (f_M_59 hB) hM (by decide) ?_
        refine jx_iload_n d_M_told_98 rfl rfl ?_
        refine mx_ld (n := 16) d_M_told_99 hM (by decide) rfl ⟨by omega, by omega⟩ ?_
        rw [show S5 20 t = S 20 t by simp [hS5, sU, sUs]]
        have r14 : -1 ≤ S 20 t ∧ S 20 t ≤ 100000 := hI.r 20 t (n := 16) (by decide) rfl ⟨by omega, by omega⟩
        exact jx_iret d_M_told_100 rfl (jm_i (S := S5) (by rw [hS5]; unfold oTold; (repeat' split) <;> first | rfl | exact jp2 (by omega) rfl | (exfalso; omega)) hM hF)
      by_cases hs113 : k = 3
      · refine jx_tableIn (off := 60) (tgt := 101) d_M_told_41 (by rw [iI_toInt (by omega)]; omega) (by rw [iI_toInt (by omega)]; omega) (by rw [iI_toInt (by omega), hs113]; rfl) (by decide) ?_
        refine jx_aload_n d_M_told_101 rfl rfl ?_
        refine mx_ar 14 d_M_told_102 (f_M_41 hB) hM (by decide) ?_
        refine jx_iload_n d_M_told_105 rfl rfl ?_
        refine mx_ld (n := 16) d_M_told_106 hM (by decide) rfl ⟨by omega, by omega⟩ ?_
        rw [show S5 14 t = S 14 t by simp [hS5, sU, sUs]]
        have r15 : 0 ≤ S 14 t ∧ S 14 t ≤ 7 := hI.r 14 t (n := 16) (by decide) rfl ⟨by omega, by omega⟩
        exact jx_iret d_M_told_107 rfl (jm_i (S := S5) (by rw [hS5]; unfold oTold; (repeat' split) <;> first | rfl | exact jp2 (by omega) rfl | (exfalso; omega)) hM hF)
      by_cases hs114 : k = 4
      · refine jx_tableIn (off := 67) (tgt := 108) d_M_told_41 (by rw [iI_toInt (by omega)]; omega) (by rw [iI_toInt (by omega)]; omega) (by rw [iI_toInt (by omega), hs114]; rfl) (by decide) ?_
        refine jx_aload_n d_M_told_108 rfl rfl ?_
        refine mx_ar 15 d_M_told_109 (f_M_44 hB) hM (by decide) ?_
        refine jx_iload_n d_M_told_112 rfl rfl ?_
        refine mx_ld (n := 16) d_M_told_113 hM (by decide) rfl ⟨by omega, by omega⟩ ?_
        rw [show S5 15 t = S 15 t by simp [hS5, sU, sUs]]
        have r16 : 0 ≤ S 15 t ∧ S 15 t ≤ 5000 := hI.r 15 t (n := 16) (by decide) rfl ⟨by omega, by omega⟩
        exact jx_iret d_M_told_114 rfl (jm_i (S := S5) (by rw [hS5]; unfold oTold; (repeat' split) <;> first | rfl | exact jp2 (by omega) rfl | (exfalso; omega)) hM hF)
      by_cases hs115 : k = 5
      · refine jx_tableIn (off := 74) (tgt := 115) d_M_told_41 (by rw [iI_toInt (by omega)]; omega) (by rw [iI_toInt (by omega)]; omega) (by rw [iI_toInt (by omega), hs115]; rfl) (by decide) ?_
        refine jx_aload_n d_M_told_115 rfl rfl ?_
        refine mx_ar 16 d_M_told_116 (f_M_47 hB) hM (by decide) ?_
        refine jx_iload_n d_M_told_119 rfl rfl ?_
        refine mx_ld (n := 16) d_M_told_120 hM (by decide) rfl ⟨by omega, by omega⟩ ?_
        rw [show S5 16 t = S 16 t by simp [hS5, sU, sUs]]
        have r17 : 0 ≤ S 16 t ∧ S 16 t ≤ 100000 := hI.r 16 t (n := 16) (by decide) rfl ⟨by omega, by omega⟩
        exact jx_iret d_M_told_121 rfl (jm_i (S := S5) (by rw [hS5]; unfold oTold; (repeat' split) <;> first | rfl | exact jp2 (by omega) rfl | (exfalso; omega)) hM hF)
      refine jx_tableOut (tgt := 122) d_M_told_41 (by rw [iI_toInt (by omega)]; omega) (by decide) ?_
      refine jx_aload_n d_M_told_122 rfl rfl ?_
      refine mx_ar 17 d_M_told_123 (f_M_50 hB) hM (by decide) ?_
      refine jx_iload_n d_M_told_126 rfl rfl ?_
      refine mx_ld (n := 16) d_M_told_127 hM (by decide) rfl ⟨by omega, by omega⟩ ?_
      rw [show S5 17 t = S 17 t by simp [hS5, sU, sUs]]
      have r18 : 0 ≤ S 17 t ∧ S 17 t ≤ 3 := hI.r 17 t (n := 16) (by decide) rfl ⟨by omega, by omega⟩
      exact jx_iret d_M_told_128 rfl (jm_i (S := S5) (by rw [hS5]; unfold oTold; (repeat' split) <;> first | rfl | exact jp2 (by omega) rfl | (exfalso; omega)) hM hF)
    · refine jI_const d_M_told_23 ?_
      refine jx_goto (tgt := 28) d_M_told_24 (by decide) ?_
      refine mx_psc d_M_told_28 (f_M_83 hB) (t_5_3 hB) hM (by decide) (fun w hM hF1 => ?_)
      have hF := hF.tr hF1
      obtain ⟨S19, hS19⟩ : ∃ zz, zz = sU S 3 0 2 := ⟨_, rfl⟩
      rw [← hS19] at hM
      have hIS19 : sI S19 := by rw [hS19]; exact hI.u 3 _ _ (fun z => absurd z (by decide))
      have e20 : S19 0 0 = S 0 0 := by rw [hS19]; rfl
      have e21 : S19 1 0 = S 1 0 := by rw [hS19]; rfl
      have e22 : S19 2 0 = S 2 0 := by rw [hS19]; rfl
      have e23 : S19 23 0 = S 23 0 := by rw [hS19]; rfl
      refine jx_aload_n d_M_told_31 rfl rfl ?_
      refine mx_sc 3 d_M_told_32 (f_M_83 hB) hM (by decide) ?_
      rw [show S19 3 0 = 2 by simp [hS19, sU, sUs]]
      refine jI_if_eq (tgt := 40) d_M_told_35 (by decide) (by omega) (fun z => absurd z (by omega)) (fun _ => ?_)
      refine jI_const d_M_told_38 ?_
      exact jx_iret d_M_told_39 rfl (jm_i (S := S19) (by rw [hS19]; unfold oTold; (repeat' split) <;> first | rfl | exact jp2 (by omega) rfl | (exfalso; omega)) hM hF)
  · refine jI_const d_M_told_9 ?_
    refine jx_goto (tgt := 28) d_M_told_10 (by decide) ?_
    refine mx_psc d_M_told_28 (f_M_83 hB) (t_5_3 hB) hM (by decide) (fun w hM hF1 => ?_)
    have hF := hF.tr hF1
    obtain ⟨S25, hS25⟩ : ∃ zz, zz = sU S 3 0 1 := ⟨_, rfl⟩
    rw [← hS25] at hM
    have hIS25 : sI S25 := by rw [hS25]; exact hI.u 3 _ _ (fun z => absurd z (by decide))
    have e26 : S25 0 0 = S 0 0 := by rw [hS25]; rfl
    have e27 : S25 1 0 = S 1 0 := by rw [hS25]; rfl
    have e28 : S25 2 0 = S 2 0 := by rw [hS25]; rfl
    have e29 : S25 23 0 = S 23 0 := by rw [hS25]; rfl
    refine jx_aload_n d_M_told_31 rfl rfl ?_
    refine mx_sc 3 d_M_told_32 (f_M_83 hB) hM (by decide) ?_
    rw [show S25 3 0 = 1 by simp [hS25, sU, sUs]]
    refine jI_if_eq (tgt := 40) d_M_told_35 (by decide) (by omega) (fun z => absurd z (by omega)) (fun _ => ?_)
    refine jI_const d_M_told_38 ?_
    exact jx_iret d_M_told_39 rfl (jm_i (S := S25) (by rw [hS25]; unfold oTold; (repeat' split) <;> first | rfl | exact jp2 (by omega) rfl | (exfalso; omega)) hM hF)
theorem w_M_fair {E : jx_E} {l : Launch} {d : Nat} {w : jx_W} {S : mS} {m : Nat} {A : Nat → Nat} {p : Int} (hB : jx_B E) (hM : mR E S w m A) (hI : sI S) (hP : 0 ≤ S 0 0 ∧ S 0 0 ≤ 4) (hT : 0 ≤ S 1 0 ∧ S 1 0 ≤ 16) (h1 : iR p) : jx_G E l Y_M_fair (d + 2) (jm_po E m A w (some (.int (iI (oFair S p).1))) (oFair S p).2) 0 (jx_ent [.ref m, .int (iI p)] 3) [] w := by
  have hF : mF m A w w := mF.rf
  generalize hw0 : w = w0 at hF ⊢
  rw [hw0] at hM
  have hF : mF m A w0 w0 := mF.rf
  show jx_G E l Y_M_fair (d + 2) (jm_po E m A w0 _ _) 0 [some (.ref m), some (.int (iI p)), none] [] w0
  refine jx_aload_n d_M_fair_0 rfl rfl ?_
  refine jx_aload_n d_M_fair_1 rfl rfl ?_
  refine jx_iload_n d_M_fair_2 rfl rfl ?_
  refine jx_callV_r (As := [.int (iI (p))]) d_M_fair_3 (m_M_isPerson hB) (v_M_98 hB) (by decide) (jx_c5 hB) hM.1 rfl (Nat.le_of_ble_eq_true rfl) (Nat.le_of_ble_eq_true rfl) (w_M_isPerson hB hM hI (x := p) (by omega) (by omega)) ?_
  have q1 : sIn (p) 0 (S 0 0 - 1) = 0 ∧ ¬ (0 ≤ p ∧ p ≤ S 0 0 - 1) ∨ sIn (p) 0 (S 0 0 - 1) = 1 ∧ (0 ≤ p ∧ p ≤ S 0 0 - 1) := by unfold sIn; split <;> omega
  refine jI_if_eq (tgt := 13) d_M_fair_6 (by decide) (by omega) (fun hc2 => ?_) (fun hc2 => ?_)
  · refine jI_const d_M_fair_13 ?_
    refine mx_psc d_M_fair_14 (f_M_83 hB) (t_5_3 hB) hM (by decide) (fun w hM hF1 => ?_)
    have hF := hF.tr hF1
    obtain ⟨S3, hS3⟩ : ∃ zz, zz = sU S 3 0 1 := ⟨_, rfl⟩
    rw [← hS3] at hM
    have hIS3 : sI S3 := by rw [hS3]; exact hI.u 3 _ _ (fun z => absurd z (by decide))
    have e4 : S3 0 0 = S 0 0 := by rw [hS3]; rfl
    have e5 : S3 1 0 = S 1 0 := by rw [hS3]; rfl
    have e6 : S3 2 0 = S 2 0 := by rw [hS3]; rfl
    have e7 : S3 23 0 = S 23 0 := by rw [hS3]; rfl
    refine jx_aload_n d_M_fair_17 rfl rfl ?_
    refine mx_sc 3 d_M_fair_18 (f_M_83 hB) hM (by decide) ?_
    rw [show S3 3 0 = 1 by simp [hS3, sU, sUs]]
    refine jI_if_eq (tgt := 26) d_M_fair_21 (by decide) (by omega) (fun z => absurd z (by omega)) (fun _ => ?_)
    refine jI_const d_M_fair_24 ?_
    exact jx_iret d_M_fair_25 rfl (jm_i (S := S3) (by rw [hS3]; unfold oFair; (repeat' split) <;> first | rfl | exact jp2 (by omega) rfl | (exfalso; omega)) hM hF)
  · refine jI_const d_M_fair_9 ?_
    refine jx_goto (tgt := 14) d_M_fair_10 (by decide) ?_
    refine mx_psc d_M_fair_14 (f_M_83 hB) (t_5_3 hB) hM (by decide) (fun w hM hF1 => ?_)
    have hF := hF.tr hF1
    obtain ⟨S9, hS9⟩ : ∃ zz, zz = sU S 3 0 0 := ⟨_, rfl⟩
    rw [← hS9] at hM
    have hIS9 : sI S9 := by rw [hS9]; exact hI.u 3 _ _ (fun z => absurd z (by decide))
    have e10 : S9 0 0 = S 0 0 := by rw [hS9]; rfl
    have e11 : S9 1 0 = S 1 0 := by rw [hS9]; rfl
    have e12 : S9 2 0 = S 2 0 := by rw [hS9]; rfl
    have e13 : S9 23 0 = S 23 0 := by rw [hS9]; rfl
    refine jx_aload_n d_M_fair_17 rfl rfl ?_
    refine mx_sc 3 d_M_fair_18 (f_M_83 hB) hM (by decide) ?_
    rw [show S9 3 0 = 0 by simp [hS9, sU, sUs]]
    refine jI_if_eq (tgt := 26) d_M_fair_21 (by decide) (by omega) (fun _ => ?_) (fun z => absurd z (by omega))
    refine jx_aload_n d_M_fair_26 rfl rfl ?_
    refine jI_const d_M_fair_27 ?_
    refine jx_callV_r (As := [.int (iI ((-1)))]) (v := some (.int (iI (sDone S9 ((-1)))))) d_M_fair_28 (m_M_doneBy hB) (v_M_191 hB) (by decide) (jx_c5 hB) hM.1 rfl (Nat.le_of_ble_eq_true rfl) (Nat.le_of_ble_eq_true rfl) (w_M_doneBy hB hM hIS9 (p := (-1)) (by omega) (by omega)) ?_
    rw [show sDone S9 ((-1)) = sDone S ((-1)) by rw [hS9]; rfl]
    have q15 := sDone_rg (S := S) (p := (-1)) (by omega)
    refine jx_istore_n d_M_fair_31 rfl (Nat.le_of_ble_eq_true rfl) rfl ?_
    try dsimp only [List.set]
    refine jx_iload_n d_M_fair_32 rfl rfl ?_
    refine jI_if_ne (tgt := 40) d_M_fair_33 (by decide) (by omega) (fun hc16 => ?_) (fun hc16 => ?_)
    · refine jI_bipush d_M_fair_40 (by decide) ?_
      refine jx_aload_n d_M_fair_42 rfl rfl ?_
      refine jx_iload_n d_M_fair_43 rfl rfl ?_
      refine jx_callV_r (As := [.int (iI (p))]) (v := some (.int (iI (sDone S9 p)))) d_M_fair_44 (m_M_doneBy hB) (v_M_191 hB) (by decide) (jx_c5 hB) hM.1 rfl (Nat.le_of_ble_eq_true rfl) (Nat.le_of_ble_eq_true rfl) (w_M_doneBy hB hM hIS9 (p := p) (by omega) (by omega)) ?_
      rw [show sDone S9 p = sDone S p by rw [hS9]; rfl]
      have q17 := sDone_rg (S := S) (p := p) (by omega)
      refine jI_mul d_M_fair_47 ?_
      refine jx_iload_n d_M_fair_48 rfl rfl ?_
      refine jI_div d_M_fair_49 ⟨by omega, by omega⟩ ⟨by omega, by omega⟩ ?_
      exact jx_iret d_M_fair_50 rfl (jm_i (S := S9) (by rw [hS9]; unfold oFair; (repeat' split) <;> first | rfl | exact jp2 (by omega) rfl | (exfalso; omega)) hM hF)
    · refine jI_const d_M_fair_36 ?_
      refine jx_goto (tgt := 50) d_M_fair_37 (by decide) ?_
      exact jx_iret d_M_fair_50 rfl (jm_i (S := S9) (by rw [hS9]; unfold oFair; (repeat' split) <;> first | rfl | exact jp2 (by omega) rfl | (exfalso; omega)) hM hF)
theorem w_M_done {E : jx_E} {l : Launch} {d : Nat} {w : jx_W} {S : mS} {m : Nat} {A : Nat → Nat} {p : Int} (hB : jx_B E) (hM : mR E S w m A) (hI : sI S) (hP : 0 ≤ S 0 0 ∧ S 0 0 ≤ 4) (hT : 0 ≤ S 1 0 ∧ S 1 0 ≤ 16) (hn : 0 ≤ S 2 0 ∧ S 2 0 ≤ 100000) (h1 : iR p) : jx_G E l Y_M_done (d + 2) (jm_po E m A w (some (.int (iI (oDone S p).1))) (oDone S p).2) 0 (jx_ent [.ref m, .int (iI p)] 2) [] w := by
  have hF : mF m A w w := mF.rf
  generalize hw0 : w = w0 at hF ⊢
  rw [hw0] at hM
  have hF : mF m A w0 w0 := mF.rf
  show jx_G E l Y_M_done (d + 2) (jm_po E m A w0 _ _) 0 [some (.ref m), some (.int (iI p))] [] w0
  refine jx_aload_n d_M_done_0 rfl rfl ?_
  refine jx_aload_n d_M_done_1 rfl rfl ?_
  refine jx_iload_n d_M_done_2 rfl rfl ?_
  refine jx_callV_r (As := [.int (iI (p))]) d_M_done_3 (m_M_isPerson hB) (v_M_98 hB) (by decide) (jx_c5 hB) hM.1 rfl (Nat.le_of_ble_eq_true rfl) (Nat.le_of_ble_eq_true rfl) (w_M_isPerson hB hM hI (x := p) (by omega) (by omega)) ?_
  have q1 : sIn (p) 0 (S 0 0 - 1) = 0 ∧ ¬ (0 ≤ p ∧ p ≤ S 0 0 - 1) ∨ sIn (p) 0 (S 0 0 - 1) = 1 ∧ (0 ≤ p ∧ p ≤ S 0 0 - 1) := by unfold sIn; split <;> omega
  refine jI_if_ne (tgt := 13) d_M_done_6 (by decide) (by omega) (fun hc2 => ?_) (fun hc2 => ?_)
  · refine jx_aload_n d_M_done_13 rfl rfl ?_
    refine mx_ar 11 d_M_done_14 (f_M_32 hB) hM (by decide) ?_
    refine jx_iload_n d_M_done_17 rfl rfl ?_
    refine mx_ld (n := 4) d_M_done_18 hM (by decide) rfl ⟨by omega, by omega⟩ ?_
    have r3 : -1 ≤ S 11 p ∧ S 11 p ≤ 15 := hI.r 11 p (n := 4) (by decide) rfl ⟨by omega, by omega⟩
    refine jI_const d_M_done_19 ?_
    refine jI_icmp_eq (tgt := 53) d_M_done_20 (by decide) (by omega) (by omega) (fun hc4 => ?_) (fun hc4 => ?_)
    · refine jI_const d_M_done_53 ?_
      refine jx_goto (tgt := 58) d_M_done_54 (by decide) ?_
      refine mx_psc d_M_done_58 (f_M_83 hB) (t_5_3 hB) hM (by decide) (fun w hM hF1 => ?_)
      have hF := hF.tr hF1
      obtain ⟨S5, hS5⟩ : ∃ zz, zz = sU S 3 0 2 := ⟨_, rfl⟩
      rw [← hS5] at hM
      have hIS5 : sI S5 := by rw [hS5]; exact hI.u 3 _ _ (fun z => absurd z (by decide))
      have e6 : S5 0 0 = S 0 0 := by rw [hS5]; rfl
      have e7 : S5 1 0 = S 1 0 := by rw [hS5]; rfl
      have e8 : S5 2 0 = S 2 0 := by rw [hS5]; rfl
      have e9 : S5 23 0 = S 23 0 := by rw [hS5]; rfl
      refine jx_aload_n d_M_done_61 rfl rfl ?_
      refine mx_sc 3 d_M_done_62 (f_M_83 hB) hM (by decide) ?_
      rw [show S5 3 0 = 2 by simp [hS5, sU, sUs]]
      refine jI_if_eq (tgt := 70) d_M_done_65 (by decide) (by omega) (fun z => absurd z (by omega)) (fun _ => ?_)
      refine jI_const d_M_done_68 ?_
      exact jx_iret d_M_done_69 rfl (jm_i (S := S5) (by rw [hS5]; unfold oDone; (repeat' split) <;> first | rfl | exact jp2 (by omega) rfl | (exfalso; omega)) hM hF)
    · refine jx_aload_n d_M_done_23 rfl rfl ?_
      refine mx_sc 2 d_M_done_24 (f_M_117 hB) hM (by decide) ?_
      refine jx_aload_n d_M_done_27 rfl rfl ?_
      refine mx_ar 20 d_M_done_28 (f_M_59 hB) hM (by decide) ?_
      refine jx_aload_n d_M_done_31 rfl rfl ?_
      refine mx_ar 11 d_M_done_32 (f_M_32 hB) hM (by decide) ?_
      refine jx_iload_n d_M_done_35 rfl rfl ?_
      refine mx_ld (n := 4) d_M_done_36 hM (by decide) rfl ⟨by omega, by omega⟩ ?_
      have r11 : -1 ≤ S 11 p ∧ S 11 p ≤ 15 := hI.r 11 p (n := 4) (by decide) rfl ⟨by omega, by omega⟩
      refine mx_ld (n := 16) d_M_done_37 hM (by decide) rfl ⟨by omega, by omega⟩ ?_
      have r12 : -1 ≤ S 20 (S 11 p) ∧ S 20 (S 11 p) ≤ 100000 := hI.r 20 (S 11 p) (n := 16) (by decide) rfl ⟨by omega, by omega⟩
      refine jx_aload_n d_M_done_38 rfl rfl ?_
      refine mx_ar 15 d_M_done_39 (f_M_44 hB) hM (by decide) ?_
      refine jx_aload_n d_M_done_42 rfl rfl ?_
      refine mx_ar 11 d_M_done_43 (f_M_32 hB) hM (by decide) ?_
      refine jx_iload_n d_M_done_46 rfl rfl ?_
      refine mx_ld (n := 4) d_M_done_47 hM (by decide) rfl ⟨by omega, by omega⟩ ?_
      have r13 : -1 ≤ S 11 p ∧ S 11 p ≤ 15 := hI.r 11 p (n := 4) (by decide) rfl ⟨by omega, by omega⟩
      refine mx_ld (n := 16) d_M_done_48 hM (by decide) rfl ⟨by omega, by omega⟩ ?_
      have r14 : 0 ≤ S 15 (S 11 p) ∧ S 15 (S 11 p) ≤ 5000 := hI.r 15 (S 11 p) (n := 16) (by decide) rfl ⟨by omega, by omega⟩
      refine jI_add d_M_done_49 ?_
      refine jI_icmp_ge (tgt := 57) d_M_done_50 (by decide) (by omega) (by omega) (fun hc15 => ?_) (fun hc15 => ?_)
      · refine jI_const d_M_done_57 ?_
        refine mx_psc d_M_done_58 (f_M_83 hB) (t_5_3 hB) hM (by decide) (fun w hM hF1 => ?_)
        have hF := hF.tr hF1
        obtain ⟨S16, hS16⟩ : ∃ zz, zz = sU S 3 0 0 := ⟨_, rfl⟩
        rw [← hS16] at hM
        have hIS16 : sI S16 := by rw [hS16]; exact hI.u 3 _ _ (fun z => absurd z (by decide))
        have e17 : S16 0 0 = S 0 0 := by rw [hS16]; rfl
        have e18 : S16 1 0 = S 1 0 := by rw [hS16]; rfl
        have e19 : S16 2 0 = S 2 0 := by rw [hS16]; rfl
        have e20 : S16 23 0 = S 23 0 := by rw [hS16]; rfl
        refine jx_aload_n d_M_done_61 rfl rfl ?_
        refine mx_sc 3 d_M_done_62 (f_M_83 hB) hM (by decide) ?_
        rw [show S16 3 0 = 0 by simp [hS16, sU, sUs]]
        refine jI_if_eq (tgt := 70) d_M_done_65 (by decide) (by omega) (fun _ => ?_) (fun z => absurd z (by omega))
        refine jx_aload_n d_M_done_70 rfl rfl ?_
        refine mx_ar 13 d_M_done_71 (f_M_38 hB) hM (by decide) ?_
        refine jx_aload_n d_M_done_74 rfl rfl ?_
        refine mx_ar 11 d_M_done_75 (f_M_32 hB) hM (by decide) ?_
        refine jx_iload_n d_M_done_78 rfl rfl ?_
        refine mx_ld (n := 4) d_M_done_79 hM (by decide) rfl ⟨by omega, by omega⟩ ?_
        rw [show S16 11 p = S 11 p by simp [hS16, sU, sUs]]
        have r22 : -1 ≤ S 11 p ∧ S 11 p ≤ 15 := hI.r 11 p (n := 4) (by decide) rfl ⟨by omega, by omega⟩
        refine jI_const d_M_done_80 ?_
        refine mx_st (n := 16) d_M_done_81 hM (by decide) rfl ⟨by omega, by omega⟩ (fun w hM hF1 => ?_)
        have hF := hF.tr hF1
        obtain ⟨S23, hS23⟩ : ∃ zz, zz = sU S16 13 (S 11 p) 2 := ⟨_, rfl⟩
        rw [← hS23] at hM
        have hIS23 : sI S23 := by rw [hS23]; exact hIS16.u 13 _ _ (fun _ => (show (0 : Int) ≤ 2 ∧ 2 ≤ 2 by constructor <;> omega))
        have e24 : S23 0 0 = S16 0 0 := by rw [hS23]; rfl
        have e25 : S23 1 0 = S16 1 0 := by rw [hS23]; rfl
        have e26 : S23 2 0 = S16 2 0 := by rw [hS23]; rfl
        have e27 : S23 23 0 = S16 23 0 := by rw [hS23]; rfl
        refine jx_aload_n d_M_done_82 rfl rfl ?_
        refine mx_ar 11 d_M_done_83 (f_M_32 hB) hM (by decide) ?_
        refine jx_iload_n d_M_done_86 rfl rfl ?_
        refine jI_const d_M_done_87 ?_
        refine mx_st (n := 4) d_M_done_88 hM (by decide) rfl ⟨by omega, by omega⟩ (fun w hM hF1 => ?_)
        have hF := hF.tr hF1
        obtain ⟨S28, hS28⟩ : ∃ zz, zz = sU S23 11 p ((-1)) := ⟨_, rfl⟩
        rw [← hS28] at hM
        have hIS28 : sI S28 := by rw [hS28]; exact hIS23.u 11 _ _ (fun _ => (show (-1 : Int) ≤ (-1) ∧ (-1) ≤ 15 by constructor <;> omega))
        have e29 : S28 0 0 = S23 0 0 := by rw [hS28]; rfl
        have e30 : S28 1 0 = S23 1 0 := by rw [hS28]; rfl
        have e31 : S28 2 0 = S23 2 0 := by rw [hS28]; rfl
        have e32 : S28 23 0 = S23 23 0 := by rw [hS28]; rfl
        refine jx_aload_n d_M_done_89 rfl rfl ?_
        refine jx_iload_n d_M_done_90 rfl rfl ?_
        refine jx_callV_r (As := [.int (iI (p))]) (v := some (.int (iI (sDone S28 p)))) d_M_done_91 (m_M_doneBy hB) (v_M_191 hB) (by decide) (jx_c5 hB) hM.1 rfl (Nat.le_of_ble_eq_true rfl) (Nat.le_of_ble_eq_true rfl) (w_M_doneBy hB hM hIS28 (p := p) (by omega) (by omega)) ?_
        have q33 := sDone_rg (S := S28) (p := p) (by omega)
        exact jx_iret d_M_done_94 rfl (jm_i (S := S28) (by rw [hS28, hS23, hS16]; unfold oDone; (repeat' split) <;> first | rfl | exact jp2 (by omega) rfl | (exfalso; omega)) hM hF)
      · refine jI_const d_M_done_53 ?_
        refine jx_goto (tgt := 58) d_M_done_54 (by decide) ?_
        refine mx_psc d_M_done_58 (f_M_83 hB) (t_5_3 hB) hM (by decide) (fun w hM hF1 => ?_)
        have hF := hF.tr hF1
        obtain ⟨S34, hS34⟩ : ∃ zz, zz = sU S 3 0 2 := ⟨_, rfl⟩
        rw [← hS34] at hM
        have hIS34 : sI S34 := by rw [hS34]; exact hI.u 3 _ _ (fun z => absurd z (by decide))
        have e35 : S34 0 0 = S 0 0 := by rw [hS34]; rfl
        have e36 : S34 1 0 = S 1 0 := by rw [hS34]; rfl
        have e37 : S34 2 0 = S 2 0 := by rw [hS34]; rfl
        have e38 : S34 23 0 = S 23 0 := by rw [hS34]; rfl
        refine jx_aload_n d_M_done_61 rfl rfl ?_
        refine mx_sc 3 d_M_done_62 (f_M_83 hB) hM (by decide) ?_
        rw [show S34 3 0 = 2 by simp [hS34, sU, sUs]]
        refine jI_if_eq (tgt := 70) d_M_done_65 (by decide) (by omega) (fun z => absurd z (by omega)) (fun _ => ?_)
        refine jI_const d_M_done_68 ?_
        exact jx_iret d_M_done_69 rfl (jm_i (S := S34) (by rw [hS34]; unfold oDone; (repeat' split) <;> first | rfl | exact jp2 (by omega) rfl | (exfalso; omega)) hM hF)
  · refine jI_const d_M_done_9 ?_
    refine jx_goto (tgt := 58) d_M_done_10 (by decide) ?_
    refine mx_psc d_M_done_58 (f_M_83 hB) (t_5_3 hB) hM (by decide) (fun w hM hF1 => ?_)
    have hF := hF.tr hF1
    obtain ⟨S40, hS40⟩ : ∃ zz, zz = sU S 3 0 1 := ⟨_, rfl⟩
    rw [← hS40] at hM
    have hIS40 : sI S40 := by rw [hS40]; exact hI.u 3 _ _ (fun z => absurd z (by decide))
    have e41 : S40 0 0 = S 0 0 := by rw [hS40]; rfl
    have e42 : S40 1 0 = S 1 0 := by rw [hS40]; rfl
    have e43 : S40 2 0 = S 2 0 := by rw [hS40]; rfl
    have e44 : S40 23 0 = S 23 0 := by rw [hS40]; rfl
    refine jx_aload_n d_M_done_61 rfl rfl ?_
    refine mx_sc 3 d_M_done_62 (f_M_83 hB) hM (by decide) ?_
    rw [show S40 3 0 = 1 by simp [hS40, sU, sUs]]
    refine jI_if_eq (tgt := 70) d_M_done_65 (by decide) (by omega) (fun z => absurd z (by omega)) (fun _ => ?_)
    refine jI_const d_M_done_68 ?_
    exact jx_iret d_M_done_69 rfl (jm_i (S := S40) (by rw [hS40]; unfold oDone; (repeat' split) <;> first | rfl | exact jp2 (by omega) rfl | (exfalso; omega)) hM hF)
