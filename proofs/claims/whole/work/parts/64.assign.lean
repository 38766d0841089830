/-! 64.assign: the reference's assign, thrown -/
theorem sCnt_mono {P : Int → Bool} {t n : Int} (ht : 0 ≤ t) (h : t ≤ n) : sCnt P t ≤ sCnt P n := by
  have key : ∀ k : Nat, sCnt P t ≤ sCnt P (t + k) := by
    intro k
    induction k with
    | zero => rw [show t + ((0 : Nat) : Int) = t by omega]; exact Int.le_refl _
    | succ k ih =>
      rw [show t + ((k + 1 : Nat) : Int) = (t + k) + 1 by omega, sCnt_s _ (by omega)]
      split <;> omega
  have := key (n - t).toNat
  rw [show t + ((n - t).toNat : Int) = n by omega] at this
  exact this
def gFo (S : mS) (t : Int) : mS := if S 13 t = 0 then oFree S t else S
def oFo (S : mS) : mS := sFor gFo (sU S 3 0 0) (S 1 0)
def gFew (S : mS) (t : Int) : mS := if S 13 t = 0 then sU (sU S 22 (S 23 0) t) 23 0 (S 23 0 + 1) else S
def oFew (S : mS) : mS := sFor gFew (sU S 23 0 0) (S 1 0)
def oSet (S : mS) (most : Int) : mS := sU (sU (oFo S) 3 0 0) 21 0 (if sInS (oFo S) 0 ≤ most then 1 else 0)
def oPlan (S : mS) (most : Int) : mS := if sInS (oFo S) 0 ≤ most then oExp (oFew (oSet S most)) else oRule (oSet S most)
def oAssign (S : mS) (most : Int) : Int × mS := if 0 ≤ most ∧ most ≤ 5 then (sCost (oPlan S most), sU (oPlan S most) 3 0 0) else (0, sU S 3 0 1)
theorem gFo_i {f : Nat} (S : mS) (t i : Int) (h : i ≠ t) : gFo S t f i = S f i := by
  unfold gFo
  split
  · exact oFree_i h
  · rfl
theorem gFo_ne {S : mS} {t : Int} {g : Nat} (h1 : g ≠ 13) (h2 : g ≠ 19) (h3 : g ≠ 20) : gFo S t g = S g := by
  unfold gFo
  split
  · unfold oFree
    rw [sU_ne h3, sU_ne h2, sU_ne h1]
  · rfl
theorem oFo_ne {S : mS} {g : Nat} (h0 : g ≠ 3) (h1 : g ≠ 13) (h2 : g ≠ 19) (h3 : g ≠ 20) : oFo S g = S g := by
  unfold oFo
  refine (sFor_ind (P := fun T => T g = sU S 3 0 0 g) rfl (fun T t _ hT => ?_)).trans (sU_ne h0)
  rw [gFo_ne h1 h2 h3]
  exact hT
theorem gFew_ne {S : mS} {t : Int} {g : Nat} (h1 : g ≠ 22) (h2 : g ≠ 23) : gFew S t g = S g := by
  unfold gFew
  split
  · rw [sU_ne h2, sU_ne h1]
  · rfl
theorem few_ne {S : mS} {t : Int} {g : Nat} (h1 : g ≠ 22) (h2 : g ≠ 23) : sFor gFew S t g = S g := by
  refine sFor_ind (P := fun T => T g = S g) rfl (fun T t _ hT => ?_)
  rw [gFew_ne h1 h2]
  exact hT
theorem sCost_q {S T : mS} (h : ∀ g, g < 22 → T g = S g) : sCost T = sCost S := by
  unfold sCost
  rw [h 1 (by decide), h 13 (by decide), h 19 (by decide), h 20 (by decide)]
  congr 1
  funext t
  rw [sLate_q (fun g hg => h g (by omega))]
theorem l_M_asF {E : jx_E} {l : Launch} {d : Nat} {w0 : jx_W} {S0 : mS} {m : Nat} {A : Nat → Nat} {Q : jx_R → jx_W → Prop} {most : Int} (hB : jx_B E) (hT : 0 ≤ S0 1 0 ∧ S0 1 0 ≤ 16) (K : ∀ (T : mS) (w : jx_W), mR E T w m A → sI T → mF m A w0 w → T = sFor gFo S0 (S0 1 0) → jx_G E l Y_M_assign (d + 1) Q 57 [some (.ref m), some (.int (iI most)), some (.int (iI (S0 1 0)))] [] w) : ∀ (j : Nat) (t : Int) (S : mS) (w : jx_W), mR E S w m A → sI S → mF m A w0 w → S = sFor gFo S0 t → 0 ≤ t ∧ t ≤ S0 1 0 → S0 1 0 - t < j → jx_G E l Y_M_assign (d + 1) Q 29 [some (.ref m), some (.int (iI most)), some (.int (iI t))] [] w := by
  intro j
  induction j with
  | zero => intro t S w hM hI hF hS ht hz; exfalso; omega
  | succ j ih =>
    intro t S w hM hI hF hS ht hz
    have e1 : S 1 0 = S0 1 0 := by
      have : S 1 = S0 1 := by
        rw [hS]
        exact sFor_ind (P := fun T => T 1 = S0 1) rfl (fun T t _ hT => by rw [gFo_ne (by decide) (by decide) (by decide)]; exact hT)
      rw [this]
    refine jx_iload_n d_M_assign_29 rfl rfl ?_
    refine jx_aload_n d_M_assign_30 rfl rfl ?_
    refine mx_sc 1 d_M_assign_31 (f_M_94 hB) hM (by decide) ?_
    refine jI_icmp_ge (tgt := 57) d_M_assign_34 (by decide) (by omega) (by omega) (fun hc1 => ?_) (fun hc1 => ?_)
    · (have e : t = S0 1 0 := by omega); rw [e] at hS ⊢; exact K S w hM hI hF hS
    · refine jx_aload_n d_M_assign_37 rfl rfl ?_
      refine mx_ar 13 d_M_assign_38 (f_M_38 hB) hM (by decide) ?_
      refine jx_iload_n d_M_assign_41 rfl rfl ?_
      refine mx_ld (n := 16) d_M_assign_42 hM (by decide) rfl ⟨by omega, by omega⟩ ?_
      have r2 : 0 ≤ S 13 t ∧ S 13 t ≤ 2 := hI.r 13 t (n := 16) (by decide) rfl ⟨by omega, by omega⟩
      refine jI_if_ne (tgt := 51) d_M_assign_43 (by decide) (by omega) (fun hc3 => ?_) (fun hc3 => ?_)
      · refine jI_inc d_M_assign_51 rfl rfl ?_
        try dsimp only [List.set]
        refine jx_goto (tgt := 29) d_M_assign_54 (by decide) ?_
        exact ih (t + 1) S w hM hI hF (by rw [sFor_s _ _ ht.1, ← hS]; exact (if_neg (by omega)).symm) (by omega) (by omega)
      · refine jx_aload_n d_M_assign_46 rfl rfl ?_
        refine jx_iload_n d_M_assign_47 rfl rfl ?_
        refine jm_callV (As := [.int (iI (t))]) d_M_assign_48 (m_M_free hB) (v_M_113 hB) hB hM.1 rfl (Nat.le_of_ble_eq_true rfl) (Nat.le_of_ble_eq_true rfl) (w_M_free hB hM hI (t := t) (by omega)) (fun w hM hF1 => ?_)
        have hF := hF.tr hF1
        obtain ⟨S4, hS4⟩ : ∃ zz, zz = oFree S t := ⟨_, rfl⟩
        rw [← hS4] at hM
        have hIS4 : sI S4 := by rw [hS4]; exact sI_free hI _
        have e5 : S4 0 0 = S 0 0 := by rw [hS4]; rfl
        have e6 : S4 1 0 = S 1 0 := by rw [hS4]; rfl
        have e7 : S4 2 0 = S 2 0 := by rw [hS4]; rfl
        have e8 : S4 23 0 = S 23 0 := by rw [hS4]; rfl
        refine jI_inc d_M_assign_51 rfl rfl ?_
        try dsimp only [List.set]
        refine jx_goto (tgt := 29) d_M_assign_54 (by decide) ?_
        exact ih (t + 1) S4 w hM hIS4 hF (by rw [sFor_s _ _ ht.1, ← hS]; exact hS4.trans (if_pos (by omega)).symm) (by omega) (by omega)
theorem l_M_asW {E : jx_E} {l : Launch} {d : Nat} {w0 : jx_W} {S0 : mS} {m : Nat} {A : Nat → Nat} {Q : jx_R → jx_W → Prop} {most : Int} (hB : jx_B E) (hT : 0 ≤ S0 1 0 ∧ S0 1 0 ≤ 16) (h0 : S0 23 0 = 0) (hle : sInS S0 0 ≤ 5) (K : ∀ (T : mS) (w : jx_W), mR E T w m A → sI T → mF m A w0 w → T = sFor gFew S0 (S0 1 0) → T 23 0 = sInS S0 0 → jx_G E l Y_M_assign (d + 1) Q 139 [some (.ref m), some (.int (iI most)), some (.int (iI (S0 1 0)))] [] w) : ∀ (j : Nat) (t : Int) (S : mS) (w : jx_W), mR E S w m A → sI S → mF m A w0 w → S = sFor gFew S0 t → S 23 0 = sCnt (fun i => decide (S0 13 i = 0)) t → 0 ≤ t ∧ t ≤ S0 1 0 → S0 1 0 - t < j → jx_G E l Y_M_assign (d + 1) Q 96 [some (.ref m), some (.int (iI most)), some (.int (iI t))] [] w := by
  intro j
  induction j with
  | zero => intro t S w hM hI hF hS hc ht hz; exfalso; omega
  | succ j ih =>
    intro t S w hM hI hF hS hc ht hz
    have hne : ∀ g, g ≠ 22 → g ≠ 23 → S g = S0 g := fun g h1 h2 => by rw [hS]; exact few_ne h1 h2
    have e1 : S 1 0 = S0 1 0 := by rw [hne 1 (by decide) (by decide)]
    have e13 : S 13 t = S0 13 t := by rw [hne 13 (by decide) (by decide)]
    have hcr := sCnt_rg (fun i => decide (S0 13 i = 0)) ht.1
    have hcs := sCnt_s (fun i => decide (S0 13 i = 0)) ht.1
    have hcm : t + 1 ≤ S0 1 0 → sCnt (fun i => decide (S0 13 i = 0)) (t + 1) ≤ 5 := fun h => Int.le_trans (sCnt_mono (P := fun i => decide (S0 13 i = 0)) (by omega) h) hle
    refine jx_iload_n d_M_assign_96 rfl rfl ?_
    refine jx_aload_n d_M_assign_97 rfl rfl ?_
    refine mx_sc 1 d_M_assign_98 (f_M_94 hB) hM (by decide) ?_
    refine jI_icmp_ge (tgt := 139) d_M_assign_101 (by decide) (by omega) (by omega) (fun hc1 => ?_) (fun hc1 => ?_)
    · (have e : t = S0 1 0 := by omega); rw [e] at hS hc ⊢; exact K S w hM hI hF hS hc
    · refine jx_aload_n d_M_assign_104 rfl rfl ?_
      refine mx_ar 13 d_M_assign_105 (f_M_38 hB) hM (by decide) ?_
      refine jx_iload_n d_M_assign_108 rfl rfl ?_
      refine mx_ld (n := 16) d_M_assign_109 hM (by decide) rfl ⟨by omega, by omega⟩ ?_
      have r2 : 0 ≤ S 13 t ∧ S 13 t ≤ 2 := hI.r 13 t (n := 16) (by decide) rfl ⟨by omega, by omega⟩
      refine jI_if_ne (tgt := 133) d_M_assign_110 (by decide) (by omega) (fun hc3 => ?_) (fun hc3 => ?_)
      · refine jI_inc d_M_assign_133 rfl rfl ?_
        try dsimp only [List.set]
        refine jx_goto (tgt := 96) d_M_assign_136 (by decide) ?_
        (rw [if_neg (fun z => absurd (of_decide_eq_true z) (by omega)), Int.add_zero] at hcs); exact ih (t + 1) S w hM hI hF (by rw [sFor_s _ _ ht.1, ← hS]; exact (if_neg (by omega)).symm) (by rw [hcs]; exact hc) (by omega) (by omega)
      · rw [if_pos (decide_eq_true (by omega))] at hcs
        have hcm := hcm (by omega)
        refine jx_aload_n d_M_assign_113 rfl rfl ?_
        refine mx_ar 22 d_M_assign_114 (f_M_62 hB) hM (by decide) ?_
        refine jx_aload_n d_M_assign_117 rfl rfl ?_
        refine mx_sc 23 d_M_assign_118 (f_M_141 hB) hM (by decide) ?_
        refine jx_iload_n d_M_assign_121 rfl rfl ?_
        refine mx_st (n := 5) d_M_assign_122 hM (by decide) rfl ⟨by omega, by omega⟩ (fun w hM hF1 => ?_)
        have hF := hF.tr hF1
        obtain ⟨S4, hS4⟩ : ∃ zz, zz = sU S 22 (S 23 0) t := ⟨_, rfl⟩
        rw [← hS4] at hM
        have hIS4 : sI S4 := by rw [hS4]; exact hI.u 22 _ _ (fun _ => (show (0 : Int) ≤ t ∧ t ≤ 15 by constructor <;> omega))
        have e5 : S4 0 0 = S 0 0 := by rw [hS4]; rfl
        have e6 : S4 1 0 = S 1 0 := by rw [hS4]; rfl
        have e7 : S4 2 0 = S 2 0 := by rw [hS4]; rfl
        have e8 : S4 23 0 = S 23 0 := by rw [hS4]; rfl
        refine jx_aload_n d_M_assign_123 rfl rfl ?_
        refine jx_dup d_M_assign_124 rfl ?_
        refine mx_sc 23 d_M_assign_125 (f_M_141 hB) hM (by decide) ?_
        rw [show S4 23 0 = S 23 0 by simp [hS4, sU, sUs]]
        refine jI_const d_M_assign_128 ?_
        refine jI_add d_M_assign_129 ?_
        refine mx_psc d_M_assign_130 (f_M_141 hB) (t_5_23 hB) hM (by decide) (fun w hM hF1 => ?_)
        have hF := hF.tr hF1
        obtain ⟨S9, hS9⟩ : ∃ zz, zz = sU S4 23 0 ((S 23 0) + 1) := ⟨_, rfl⟩
        rw [← hS9] at hM
        have hIS9 : sI S9 := by rw [hS9]; exact hIS4.u 23 _ _ (fun z => absurd z (by decide))
        have e10 : S9 0 0 = S4 0 0 := by rw [hS9]; rfl
        have e11 : S9 1 0 = S4 1 0 := by rw [hS9]; rfl
        have e12 : S9 2 0 = S4 2 0 := by rw [hS9]; rfl
        have e13 : S9 23 0 = (S 23 0) + 1 := by rw [hS9]; rfl
        refine jI_inc d_M_assign_133 rfl rfl ?_
        try dsimp only [List.set]
        refine jx_goto (tgt := 96) d_M_assign_136 (by decide) ?_
        exact ih (t + 1) S9 w hM hIS9 hF (by rw [sFor_s _ _ ht.1, ← hS, hS9, hS4]; exact (if_pos (by omega)).symm) (by rw [hcs, ← hc, hS9, hS4]; exact sU_same) (by omega) (by omega)
theorem oOne_ne {S : mS} {t : Int} {g : Nat} (h1 : g ≠ 19) (h2 : g ≠ 20) : oOne S t g = S g := by
  unfold oOne
  rw [sU_ne h2, sU_ne h1]
theorem rule_ne {S : mS} {n : Int} {g : Nat} (h1 : g ≠ 19) (h2 : g ≠ 20) : (aFor gRule (0, S) n).2 g = S g := by
  refine aFor_ind (P := fun x : Int × mS => x.2 g = S g) rfl (fun x t _ hx => ?_)
  unfold gRule
  split
  · exact hx
  · show oOne x.2 (sDue x.2 x.1) g = S g
    rw [oOne_ne h1 h2]
    exact hx
theorem sI_rule {S : mS} (hI : sI S) (hP : 0 ≤ S 0 0 ∧ S 0 0 ≤ 4) (hT : 0 ≤ S 1 0 ∧ S 1 0 ≤ 16) (hn : 0 ≤ S 2 0 ∧ S 2 0 ≤ 100000) : sI (oRule S) := by
  unfold oRule
  refine (aFor_ind (P := fun x : Int × mS => sI x.2 ∧ ∀ g, g ≠ 19 → g ≠ 20 → x.2 g = S g) ⟨hI, fun _ _ _ => rfl⟩ (fun x t _ hx => ?_)).1
  unfold gRule
  have e0 : x.2 0 0 = S 0 0 := by rw [hx.2 0 (by decide) (by decide)]
  have e1 : x.2 1 0 = S 1 0 := by rw [hx.2 1 (by decide) (by decide)]
  have e2 : x.2 2 0 = S 2 0 := by rw [hx.2 2 (by decide) (by decide)]
  have hd := gDue_rg (S := x.2) (k := x.1) (n := x.2 1 0) (by omega)
  have hd2 : iFor (gDue x.2 x.1) (-1) (x.2 1 0) = sDue x.2 x.1 := rfl
  split
  · exact hx
  · exact ⟨sI_one hx.1 (by omega) (by omega) (by omega) (by omega), fun g h1 h2 => (oOne_ne h1 h2).trans (hx.2 g h1 h2)⟩
theorem w_M_assign {E : jx_E} {l : Launch} {d : Nat} {w : jx_W} {S : mS} {m : Nat} {A : Nat → Nat} {most : Int} (hB : jx_B E) (hM : mR E S w m A) (hI : sI S) (hP : 0 ≤ S 0 0 ∧ S 0 0 ≤ 4) (hT : 0 ≤ S 1 0 ∧ S 1 0 ≤ 16) (hn : 0 ≤ S 2 0 ∧ S 2 0 ≤ 100000) (h1 : iR most) : jx_G E l Y_M_assign (d + 6) (jm_pp E m A w (some (.int (iI (oAssign S most).1))) (fun T => ∀ g, g < 22 → T g = (oAssign S most).2 g)) 0 (jx_ent [.ref m, .int (iI most)] 3) [] w := by
  show jx_G E l Y_M_assign (d + 6) (jm_pp E m A w (some (.int (iI (oAssign S most).1))) (fun T => ∀ g, g < 22 → T g = (oAssign S most).2 g)) 0 [some (.ref m), some (.int (iI most)), none] [] w
  have hF : mF m A w w := mF.rf
  generalize hw0 : w = w0 at hF ⊢
  rw [hw0] at hM
  have hF : mF m A w0 w0 := mF.rf
  refine jx_aload_n d_M_assign_0 rfl rfl ?_
  refine jx_iload_n d_M_assign_1 rfl rfl ?_
  refine jI_const d_M_assign_2 ?_
  refine jI_const d_M_assign_3 ?_
  refine jx_callS_r (As := [.int (iI (most)), .int (iI (0)), .int (iI (5))]) d_M_assign_4 (m_M_within hB) (s_M_90 hB) rfl (Nat.le_of_ble_eq_true rfl) (Nat.le_of_ble_eq_true rfl) (w_M_within hB (x := most) (a := 0) (b := 5) (by omega) (by omega) (by omega)) ?_
  have q1 : sIn (most) (0) (5) = 0 ∧ ¬ (0 ≤ most ∧ most ≤ 5) ∨ sIn (most) (0) (5) = 1 ∧ (0 ≤ most ∧ most ≤ 5) := by unfold sIn; split <;> omega
  refine jI_if_eq (tgt := 14) d_M_assign_7 (by decide) (by omega) (fun hc2 => ?_) (fun hc2 => ?_)
  · refine jI_const d_M_assign_14 ?_
    refine mx_psc d_M_assign_15 (f_M_83 hB) (t_5_3 hB) hM (by decide) (fun w hM hF1 => ?_)
    have hF := hF.tr hF1
    obtain ⟨S3, hS3⟩ : ∃ zz, zz = sU S 3 0 1 := ⟨_, rfl⟩
    rw [← hS3] at hM
    have hIS3 : sI S3 := by rw [hS3]; exact hI.u 3 _ _ (fun z => absurd z (by decide))
    have e4 : S3 0 0 = S 0 0 := by rw [hS3]; rfl
    have e5 : S3 1 0 = S 1 0 := by rw [hS3]; rfl
    have e6 : S3 2 0 = S 2 0 := by rw [hS3]; rfl
    have e7 : S3 23 0 = S 23 0 := by rw [hS3]; rfl
    refine jx_aload_n d_M_assign_18 rfl rfl ?_
    refine mx_sc 3 d_M_assign_19 (f_M_83 hB) hM (by decide) ?_
    rw [show S3 3 0 = 1 by simp [hS3, sU, sUs]]
    refine jI_if_eq (tgt := 27) d_M_assign_22 (by decide) (by omega) (fun z => absurd z (by omega)) (fun _ => ?_)
    refine jI_const d_M_assign_25 ?_
    rw [show (oAssign S most) = (0, sU S 3 0 1) from if_neg (by omega)]; exact jx_iret d_M_assign_26 rfl ⟨rfl, S3, hM, hF, hIS3, fun g hg => by rw [hS3]⟩
  · refine jI_const d_M_assign_10 ?_
    refine jx_goto (tgt := 15) d_M_assign_11 (by decide) ?_
    refine mx_psc d_M_assign_15 (f_M_83 hB) (t_5_3 hB) hM (by decide) (fun w hM hF1 => ?_)
    have hF := hF.tr hF1
    obtain ⟨S9, hS9⟩ : ∃ zz, zz = sU S 3 0 0 := ⟨_, rfl⟩
    rw [← hS9] at hM
    have hIS9 : sI S9 := by rw [hS9]; exact hI.u 3 _ _ (fun z => absurd z (by decide))
    have e10 : S9 0 0 = S 0 0 := by rw [hS9]; rfl
    have e11 : S9 1 0 = S 1 0 := by rw [hS9]; rfl
    have e12 : S9 2 0 = S 2 0 := by rw [hS9]; rfl
    have e13 : S9 23 0 = S 23 0 := by rw [hS9]; rfl
    refine jx_aload_n d_M_assign_18 rfl rfl ?_
    refine mx_sc 3 d_M_assign_19 (f_M_83 hB) hM (by decide) ?_
    rw [show S9 3 0 = 0 by simp [hS9, sU, sUs]]
    refine jI_if_eq (tgt := 27) d_M_assign_22 (by decide) (by omega) (fun _ => ?_) (fun z => absurd z (by omega))
    refine jI_const d_M_assign_27 ?_
    refine jx_istore_n d_M_assign_28 rfl (Nat.le_of_ble_eq_true rfl) rfl ?_
    try dsimp only [List.set]
    rw [show (oAssign S most) = (sCost (oPlan S most), sU (oPlan S most) 3 0 0) from if_pos (by omega)]
    refine l_M_asF (S0 := S9) (w0 := w0) hB (by omega) (fun T w hM hIT hF hTe => ?_) 17 0 S9 w hM hIS9 hF (sFor_0 _ _).symm (by omega) (by omega)
    have hTo : T = oFo S := by rw [hTe, hS9]; rfl
    have t0 : T 0 0 = S 0 0 := by rw [hTo, oFo_ne (by decide) (by decide) (by decide) (by decide)]
    have t1 : T 1 0 = S 1 0 := by rw [hTo, oFo_ne (by decide) (by decide) (by decide) (by decide)]
    have t2 : T 2 0 = S 2 0 := by rw [hTo, oFo_ne (by decide) (by decide) (by decide) (by decide)]
    refine jx_aload_n d_M_assign_57 rfl rfl ?_
    refine jx_aload_n d_M_assign_58 rfl rfl ?_
    refine jI_const d_M_assign_59 ?_
    refine jm_callV (As := [.int (iI (2))]) d_M_assign_60 (m_M_count hB) (v_M_175 hB) hB hM.1 rfl (Nat.le_of_ble_eq_true rfl) (Nat.le_of_ble_eq_true rfl) (w_M_count hB hM hIT (k := 2) (by omega) (by omega) (by omega) (by omega)) (fun w hM hF1 => ?_)
    have hF := hF.tr hF1
    obtain ⟨S15, hS15⟩ : ∃ zz, zz = (oCount T 2).2 := ⟨_, rfl⟩
    rw [← hS15] at hM
    have hIS15 : sI S15 := by rw [hS15]; exact hIT.u 3 _ _ (fun z => absurd z (by decide))
    have e16 : S15 0 0 = T 0 0 := by rw [hS15]; rfl
    have e17 : S15 1 0 = T 1 0 := by rw [hS15]; rfl
    have e18 : S15 2 0 = T 2 0 := by rw [hS15]; rfl
    have e19 : S15 23 0 = T 23 0 := by rw [hS15]; rfl
    rw [show (oCount T 2).1 = sInS T 0 by simp [oCount]]
    have hin := sInS_rg (S := T) (s := 0) (by omega)
    refine jx_iload_n d_M_assign_63 rfl rfl ?_
    refine jI_icmp_gt (tgt := 71) d_M_assign_64 (by decide) (by omega) (by omega) (fun hc20 => ?_) (fun hc20 => ?_)
    · refine jI_const d_M_assign_71 ?_
      refine mx_pz d_M_assign_72 (f_M_178 hB) (t_5_21 hB) hM (by omega) (fun w hM hF1 => ?_)
      have hF := hF.tr hF1
      obtain ⟨S21, hS21⟩ : ∃ zz, zz = sU S15 21 0 0 := ⟨_, rfl⟩
      rw [← hS21] at hM
      have hIS21 : sI S21 := by rw [hS21]; exact hIS15.u 21 _ _ (fun z => absurd z (by decide))
      have e22 : S21 0 0 = S15 0 0 := by rw [hS21]; rfl
      have e23 : S21 1 0 = S15 1 0 := by rw [hS21]; rfl
      have e24 : S21 2 0 = S15 2 0 := by rw [hS21]; rfl
      have e25 : S21 23 0 = S15 23 0 := by rw [hS21]; rfl
      refine jx_aload_n d_M_assign_75 rfl rfl ?_
      refine mx_sc 21 d_M_assign_76 (f_M_178 hB) hM (by decide) ?_
      rw [show S21 21 0 = 0 by simp [hS21, hS15, sU, sUs]]
      refine jI_if_ne (tgt := 89) d_M_assign_79 (by decide) (by omega) (fun z => absurd z (by omega)) (fun _ => ?_)
      refine jx_aload_n d_M_assign_82 rfl rfl ?_
      refine jm_callV (As := []) d_M_assign_83 (m_M_planByRule hB) (v_M_182 hB) hB hM.1 rfl (Nat.le_of_ble_eq_true rfl) (Nat.le_of_ble_eq_true rfl) (w_M_planByRule hB hM hIS21 (by omega) (by omega) (by omega)) (fun w hM hF1 => ?_)
      have hF := hF.tr hF1
      obtain ⟨S27, hS27⟩ : ∃ zz, zz = oRule S21 := ⟨_, rfl⟩
      rw [← hS27] at hM
      have hIS27 : sI S27 := by rw [hS27]; exact sI_rule hIS21 (by omega) (by omega) (by omega)
      have e28 : S27 0 0 = S21 0 0 := by rw [hS27]; exact congrFun (rule_ne (by decide) (by decide)) 0
      have e29 : S27 1 0 = S21 1 0 := by rw [hS27]; exact congrFun (rule_ne (by decide) (by decide)) 0
      have e30 : S27 2 0 = S21 2 0 := by rw [hS27]; exact congrFun (rule_ne (by decide) (by decide)) 0
      have e31 : S27 23 0 = S21 23 0 := by rw [hS27]; exact congrFun (rule_ne (by decide) (by decide)) 0
      refine jx_goto (tgt := 143) d_M_assign_86 (by decide) ?_
      refine jx_aload_n d_M_assign_143 rfl rfl ?_
      refine jI_bipush d_M_assign_144 (by decide) ?_
      refine jm_callV (As := [.int (iI (7))]) d_M_assign_146 (m_M_count hB) (v_M_175 hB) hB hM.1 rfl (Nat.le_of_ble_eq_true rfl) (Nat.le_of_ble_eq_true rfl) (w_M_count hB hM hIS27 (k := 7) (by omega) (by omega) (by omega) (by omega)) (fun w hM hF1 => ?_)
      have hF := hF.tr hF1
      obtain ⟨S32, hS32⟩ : ∃ zz, zz = (oCount S27 7).2 := ⟨_, rfl⟩
      rw [← hS32] at hM
      have hIS32 : sI S32 := by rw [hS32]; exact hIS27.u 3 _ _ (fun z => absurd z (by decide))
      have e33 : S32 0 0 = S27 0 0 := by rw [hS32]; rfl
      have e34 : S32 1 0 = S27 1 0 := by rw [hS32]; rfl
      have e35 : S32 2 0 = S27 2 0 := by rw [hS32]; rfl
      have e36 : S32 23 0 = S27 23 0 := by rw [hS32]; rfl
      rw [show (oCount S27 7).1 = sCost S27 by simp [oCount]]
      (have hR : S27 = oPlan S most := by rw [hS27, hS21, hS15, hTo]; unfold oPlan oSet; rw [← hTo, if_neg (by omega), if_neg (by omega)]; rfl); exact jx_iret d_M_assign_149 rfl ⟨by rw [hR], S32, hM, hF, hIS32, fun g hg => by rw [hS32, ← hR]; rfl⟩
    · refine jI_const d_M_assign_67 ?_
      refine jx_goto (tgt := 72) d_M_assign_68 (by decide) ?_
      refine mx_pz d_M_assign_72 (f_M_178 hB) (t_5_21 hB) hM (by omega) (fun w hM hF1 => ?_)
      have hF := hF.tr hF1
      obtain ⟨S37, hS37⟩ : ∃ zz, zz = sU S15 21 0 1 := ⟨_, rfl⟩
      rw [← hS37] at hM
      have hIS37 : sI S37 := by rw [hS37]; exact hIS15.u 21 _ _ (fun z => absurd z (by decide))
      have e38 : S37 0 0 = S15 0 0 := by rw [hS37]; rfl
      have e39 : S37 1 0 = S15 1 0 := by rw [hS37]; rfl
      have e40 : S37 2 0 = S15 2 0 := by rw [hS37]; rfl
      have e41 : S37 23 0 = S15 23 0 := by rw [hS37]; rfl
      refine jx_aload_n d_M_assign_75 rfl rfl ?_
      refine mx_sc 21 d_M_assign_76 (f_M_178 hB) hM (by decide) ?_
      rw [show S37 21 0 = 1 by simp [hS37, hS15, sU, sUs]]
      refine jI_if_ne (tgt := 89) d_M_assign_79 (by decide) (by omega) (fun _ => ?_) (fun z => absurd z (by omega))
      refine jx_aload_n d_M_assign_89 rfl rfl ?_
      refine jI_const d_M_assign_90 ?_
      refine mx_psc d_M_assign_91 (f_M_141 hB) (t_5_23 hB) hM (by decide) (fun w hM hF1 => ?_)
      have hF := hF.tr hF1
      obtain ⟨S43, hS43⟩ : ∃ zz, zz = sU S37 23 0 0 := ⟨_, rfl⟩
      rw [← hS43] at hM
      have hIS43 : sI S43 := by rw [hS43]; exact hIS37.u 23 _ _ (fun z => absurd z (by decide))
      have e44 : S43 0 0 = S37 0 0 := by rw [hS43]; rfl
      have e45 : S43 1 0 = S37 1 0 := by rw [hS43]; rfl
      have e46 : S43 2 0 = S37 2 0 := by rw [hS43]; rfl
      have e47 : S43 23 0 = 0 := by rw [hS43]; rfl
      refine jI_const d_M_assign_94 ?_
      refine jx_istore_n d_M_assign_95 rfl (Nat.le_of_ble_eq_true rfl) rfl ?_
      try dsimp only [List.set]
      have hin5 : sInS S43 0 = sInS T 0 := by rw [hS43, hS37, hS15]; rfl
      refine l_M_asW (S0 := S43) (w0 := w0) hB (by omega) (by omega) (by omega) (fun V w hM hIV hF hVe hV23 => ?_) 17 0 S43 w hM hIS43 hF (sFor_0 _ _).symm (by rw [sCnt_0]; omega) (by omega) (by omega)
      have v0 : V 0 0 = S 0 0 := by rw [hVe, few_ne (by decide) (by decide)]; omega
      have v1 : V 1 0 = S 1 0 := by rw [hVe, few_ne (by decide) (by decide)]; omega
      have v2 : V 2 0 = S 2 0 := by rw [hVe, few_ne (by decide) (by decide)]; omega
      have hVo : V = oFew (oSet S most) := by rw [hVe, hS43, hS37, hS15, hTo]; unfold oFew oSet; rw [if_pos (by rw [← hTo]; omega)]; rfl
      refine jx_aload_n d_M_assign_139 rfl rfl ?_
      refine jm_callP (As := []) (v := none) d_M_assign_140 (m_M_planExactly hB) (v_M_185 hB) hB hM.1 rfl (Nat.le_of_ble_eq_true rfl) (Nat.le_of_ble_eq_true rfl) (w_M_planExactly hB hM hIV (by omega) (by omega) (by omega)) (fun w T48 hM hF1 hIT48 hPT48 => ?_)
      have hF := hF.tr hF1
      have k0 : T48 0 0 = V 0 0 := by rw [hPT48 0 (by decide)]; exact congrFun (tell_ne (by decide) (by decide)) 0
      have k1 : T48 1 0 = V 1 0 := by rw [hPT48 1 (by decide)]; exact congrFun (tell_ne (by decide) (by decide)) 0
      have k2 : T48 2 0 = V 2 0 := by rw [hPT48 2 (by decide)]; exact congrFun (tell_ne (by decide) (by decide)) 0
      refine jx_aload_n d_M_assign_143 rfl rfl ?_
      refine jI_bipush d_M_assign_144 (by decide) ?_
      refine jm_callV (As := [.int (iI (7))]) d_M_assign_146 (m_M_count hB) (v_M_175 hB) hB hM.1 rfl (Nat.le_of_ble_eq_true rfl) (Nat.le_of_ble_eq_true rfl) (w_M_count hB hM hIT48 (k := 7) (by omega) (by omega) (by omega) (by omega)) (fun w hM hF1 => ?_)
      have hF := hF.tr hF1
      obtain ⟨S49, hS49⟩ : ∃ zz, zz = (oCount T48 7).2 := ⟨_, rfl⟩
      rw [← hS49] at hM
      have hIS49 : sI S49 := by rw [hS49]; exact hIT48.u 3 _ _ (fun z => absurd z (by decide))
      have e50 : S49 0 0 = T48 0 0 := by rw [hS49]; rfl
      have e51 : S49 1 0 = T48 1 0 := by rw [hS49]; rfl
      have e52 : S49 2 0 = T48 2 0 := by rw [hS49]; rfl
      have e53 : S49 23 0 = T48 23 0 := by rw [hS49]; rfl
      rw [show (oCount T48 7).1 = sCost T48 by simp [oCount]]
      (have hR : ∀ g, g < 24 → T48 g = oPlan S most g := fun g hg => by rw [hPT48 g hg, hVo]; unfold oPlan; rw [if_pos (by rw [← hTo]; omega)]); exact jx_iret d_M_assign_149 rfl ⟨by rw [sCost_q (fun g hg => hR g (by omega))], S49, hM, hF, hIS49, fun g hg => by rw [hS49]; show sU T48 3 0 0 g = sU (oPlan S most) 3 0 0 g; (by_cases e : g = 3); (· subst e; rw [sU_fU, sU_fU, hR 3 (by decide)]); (· rw [sU_ne e, sU_ne e, hR g (by omega)])⟩
theorem w_M_thrown {E : jx_E} {l : Launch} {d : Nat} {w : jx_W} {S : mS} {m : Nat} {A : Nat → Nat} (hB : jx_B E) (hM : mR E S w m A) : jx_G E l Y_M_thrown d (jx_eq (.inr (some (.int (iI (S 3 0))))) w) 0 (jx_ent [.ref m] 1) [] w := by
  show jx_G E l Y_M_thrown d _ 0 [some (.ref m)] [] w
  refine jx_aload_n d_M_thrown_0 rfl rfl ?_
  refine mx_sc 3 d_M_thrown_1 (f_M_83 hB) hM (by decide) ?_
  exact jx_iret d_M_thrown_4 rfl ⟨rfl, rfl⟩
