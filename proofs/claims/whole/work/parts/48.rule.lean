/-! 48.rule: the reference's plan by rule -/
def aForN {α : Type} (g : α → Int → α) (a : α) : Nat → α
  | 0 => a
  | k + 1 => g (aForN g a k) k
def aFor {α : Type} (g : α → Int → α) (a : α) (t : Int) : α := aForN g a t.toNat
theorem aFor_0 {α : Type} (g : α → Int → α) (a : α) : aFor g a 0 = a := rfl
theorem aFor_s {α : Type} (g : α → Int → α) (a : α) {t : Int} (h : 0 ≤ t) : aFor g a (t + 1) = g (aFor g a t) t := by
  unfold aFor
  rw [show (t + 1).toNat = t.toNat + 1 by omega]
  show g (aForN g a t.toNat) (t.toNat : Int) = _
  rw [Int.toNat_of_nonneg h]
theorem aFor_ind {α : Type} {g : α → Int → α} {a : α} {P : α → Prop} (h0 : P a) {n : Int} (h : ∀ x t, 0 ≤ t ∧ t < n → P x → P (g x t)) : P (aFor g a n) := by
  unfold aFor
  have key : ∀ k : Nat, (k : Int) ≤ n → P (aForN g a k) := by
    intro k
    induction k with
    | zero => intro _; exact h0
    | succ k ih => intro hk; exact h _ _ (by omega) (ih (by omega))
  by_cases hn : 0 ≤ n
  · exact key _ (by omega)
  · rw [show n.toNat = 0 by omega]
    exact h0
/-- a turn that changes nothing is followed by none that does -/
theorem aFor_stay {α : Type} {g : α → Int → α} {a : α} {n m : Int} (hn : 0 ≤ n) (hm : n ≤ m) (h : ∀ i, n ≤ i ∧ i < m → g (aFor g a n) i = aFor g a n) : aFor g a m = aFor g a n := by
  have key : ∀ k : Nat, n + k ≤ m → aFor g a (n + k) = aFor g a n := by
    intro k
    induction k with
    | zero => intro _; rw [show n + ((0 : Nat) : Int) = n by omega]
    | succ k ih =>
      intro hk
      rw [show n + ((k + 1 : Nat) : Int) = (n + k) + 1 by omega, aFor_s _ _ (by omega), ih (by omega)]
      exact h _ (by omega)
  have := key (m - n).toNat (by omega)
  rw [show n + ((m - n).toNat : Int) = m by omega] at this
  exact this
def gLast (S : mS) (p x u : Int) : Int := if S 13 u = 0 ∧ S 19 u = p ∧ (x = -1 ∨ S 20 x < S 20 u) then u else x
def sLast (S : mS) (p : Int) : Int := iFor (gLast S p) (-1) (S 1 0)
def sBehind (S : mS) (p t : Int) : Int := if sLast S p = -1 then sAlone S p t else sStart S p t (S 20 (sLast S p) + S 15 (sLast S p)) (S 17 (sLast S p))
def gOne (S : mS) (t : Int) (f : Int × Int) (p : Int) : Int × Int := if sMay S p t = 1 ∧ sBehind S p t ≠ -1 ∧ (f.1 = -1 ∨ sBehind S p t < f.2 ∨ sBehind S p t = f.2 ∧ sLoad S p < sLoad S f.1) then (p, sBehind S p t) else f
def sOne (S : mS) (t : Int) : Int × Int := aFor (gOne S t) (-1, -1) (S 0 0)
def oOne (S : mS) (t : Int) : mS := sU (sU S 19 t (sOne S t).1) 20 t (sOne S t).2
def gDue (S : mS) (k x t : Int) : Int := if S 13 t = 0 ∧ sBit k t = 0 ∧ (x = -1 ∨ S 16 t < S 16 x) then t else x
def sDue (S : mS) (k : Int) : Int := iFor (gDue S k) (-1) (S 1 0)
def gRule (f : Int × mS) (_ : Int) : Int × mS := if sDue f.2 f.1 = -1 then f else (sSet f.1 (sDue f.2 f.1), oOne f.2 (sDue f.2 f.1))
def oRule (S : mS) : mS := (aFor gRule (0, S) (S 1 0)).2
theorem gLast_rg {S : mS} {p n : Int} (hn : n ≤ 16) : -1 ≤ iFor (gLast S p) (-1) n ∧ iFor (gLast S p) (-1) n < 16 := by
  refine iFor_ind (P := fun x => -1 ≤ x ∧ x < 16) (by omega) (fun x t ht hx => ?_)
  unfold gLast
  split <;> omega
theorem gDue_rg {S : mS} {k n : Int} (hn : n ≤ 16) : -1 ≤ iFor (gDue S k) (-1) n ∧ iFor (gDue S k) (-1) n < n ∨ iFor (gDue S k) (-1) n = -1 := by
  by_cases h0 : 0 ≤ n
  · left
    refine ⟨?_, ?_⟩
    · refine iFor_ind (P := fun x => -1 ≤ x) (by omega) (fun x t ht hx => ?_)
      unfold gDue
      split <;> omega
    · refine iFor_ind (P := fun x => x < n) (by omega) (fun x t ht hx => ?_)
      unfold gDue
      split <;> omega
  · right
    unfold iFor
    rw [show n.toNat = 0 by omega]
    rfl
theorem sStart_rg2 {S : mS} {p t r z : Int} (hI : sI S) (hp : 0 ≤ p ∧ p < 4) (ht : 0 ≤ t ∧ t < 16) (hr : -1 ≤ r ∧ r ≤ 200000) (hz : 0 ≤ z ∧ z < 4) : -1 ≤ sStart S p t r z ∧ sStart S p t r z ≤ 100000 := by
  have r1 : 0 ≤ S 17 t ∧ S 17 t ≤ 3 := hI.r 17 t (n := 16) (by decide) rfl ⟨by omega, by omega⟩
  have r2 : 0 ≤ S 12 (4 * z + S 17 t) ∧ S 12 (4 * z + S 17 t) ≤ 1000 := hI.r 12 _ (n := 16) (by decide) rfl ⟨by omega, by omega⟩
  have r3 : 0 ≤ S 8 p ∧ S 8 p ≤ 100000 := hI.r 8 p (n := 4) (by decide) rfl ⟨by omega, by omega⟩
  have r4 : 0 ≤ S 6 p ∧ S 6 p ≤ 100000 := hI.r 6 p (n := 4) (by decide) rfl ⟨by omega, by omega⟩
  have r5 : 0 ≤ S 15 t ∧ S 15 t ≤ 5000 := hI.r 15 t (n := 16) (by decide) rfl ⟨by omega, by omega⟩
  unfold sStart
  (repeat' split) <;> omega
theorem w_M_startOf2 {E : jx_E} {l : Launch} {d : Nat} {w : jx_W} {S : mS} {m : Nat} {A : Nat → Nat} {p t r z : Int} (hB : jx_B E) (hM : mR E S w m A) (hI : sI S) (hp : 0 ≤ p ∧ p < 4) (ht : 0 ≤ t ∧ t < 16) (hr : -1 ≤ r ∧ r ≤ 200000) (hz : 0 ≤ z ∧ z < 4) : jx_G E l Y_M_startOf d (jx_eq (.inr (some (.int (iI (sStart S p t r z))))) w) 0 (jx_ent [.ref m, .int (iI p), .int (iI t), .int (iI r), .int (iI z)] 6) [] w := by
  show jx_G E l Y_M_startOf d _ 0 [some (.ref m), some (.int (iI p)), some (.int (iI t)), some (.int (iI r)), some (.int (iI z)), none] [] w
  refine jx_iload_n d_M_startOf_0 rfl rfl ?_
  refine jx_aload_n d_M_startOf_1 rfl rfl ?_
  refine mx_ar 12 d_M_startOf_2 (f_M_35 hB) hM (by decide) ?_
  refine jI_const d_M_startOf_5 ?_
  refine jx_iload d_M_startOf_6 rfl ?_
  refine jI_mul d_M_startOf_8 ?_
  refine jx_aload_n d_M_startOf_9 rfl rfl ?_
  refine mx_ar 17 d_M_startOf_10 (f_M_50 hB) hM (by decide) ?_
  refine jx_iload_n d_M_startOf_13 rfl rfl ?_
  refine mx_ld (n := 16) d_M_startOf_14 hM (by decide) rfl ⟨by omega, by omega⟩ ?_
  have r1 : 0 ≤ S 17 t ∧ S 17 t ≤ 3 := hI.r 17 t (n := 16) (by decide) rfl ⟨by omega, by omega⟩
  refine jI_add d_M_startOf_15 ?_
  refine mx_ld (n := 16) d_M_startOf_16 hM (by decide) rfl ⟨by omega, by omega⟩ ?_
  have r2 : 0 ≤ S 12 ((4 * z) + (S 17 t)) ∧ S 12 ((4 * z) + (S 17 t)) ≤ 1000 := hI.r 12 ((4 * z) + (S 17 t)) (n := 16) (by decide) rfl ⟨by omega, by omega⟩
  refine jI_add d_M_startOf_17 ?_
  refine jx_istore d_M_startOf_18 (Nat.le_of_ble_eq_true rfl) rfl ?_
  try dsimp only [List.set]
  refine jx_iload d_M_startOf_20 rfl ?_
  refine jx_aload_n d_M_startOf_22 rfl rfl ?_
  refine mx_ar 8 d_M_startOf_23 (f_M_22 hB) hM (by decide) ?_
  refine jx_iload_n d_M_startOf_26 rfl rfl ?_
  refine mx_ld (n := 4) d_M_startOf_27 hM (by decide) rfl ⟨by omega, by omega⟩ ?_
  have r3 : 0 ≤ S 8 p ∧ S 8 p ≤ 100000 := hI.r 8 p (n := 4) (by decide) rfl ⟨by omega, by omega⟩
  refine jI_icmp_ge (tgt := 72) d_M_startOf_28 (by decide) (by omega) (by omega) (fun hc4 => ?_) (fun hc4 => ?_)
  · refine jx_iload d_M_startOf_72 rfl ?_
    refine jx_aload_n d_M_startOf_74 rfl rfl ?_
    refine mx_ar 15 d_M_startOf_75 (f_M_44 hB) hM (by decide) ?_
    refine jx_iload_n d_M_startOf_78 rfl rfl ?_
    refine mx_ld (n := 16) d_M_startOf_79 hM (by decide) rfl ⟨by omega, by omega⟩ ?_
    have r5 : 0 ≤ S 15 t ∧ S 15 t ≤ 5000 := hI.r 15 t (n := 16) (by decide) rfl ⟨by omega, by omega⟩
    refine jI_add d_M_startOf_80 ?_
    refine jx_aload_n d_M_startOf_81 rfl rfl ?_
    refine mx_ar 6 d_M_startOf_82 (f_M_16 hB) hM (by decide) ?_
    refine jx_iload_n d_M_startOf_85 rfl rfl ?_
    refine mx_ld (n := 4) d_M_startOf_86 hM (by decide) rfl ⟨by omega, by omega⟩ ?_
    have r6 : 0 ≤ S 6 p ∧ S 6 p ≤ 100000 := hI.r 6 p (n := 4) (by decide) rfl ⟨by omega, by omega⟩
    refine jI_icmp_le (tgt := 94) d_M_startOf_87 (by decide) (by omega) (by omega) (fun hc7 => ?_) (fun hc7 => ?_)
    · refine jx_iload d_M_startOf_94 rfl ?_
      exact jx_iret d_M_startOf_96 rfl ⟨jr_i (by unfold sStart; (repeat' split) <;> omega), rfl⟩
    · refine jI_const d_M_startOf_90 ?_
      refine jx_goto (tgt := 96) d_M_startOf_91 (by decide) ?_
      exact jx_iret d_M_startOf_96 rfl ⟨jr_i (by unfold sStart; (repeat' split) <;> omega), rfl⟩
  · refine jx_iload d_M_startOf_31 rfl ?_
    refine jx_aload_n d_M_startOf_33 rfl rfl ?_
    refine mx_ar 15 d_M_startOf_34 (f_M_44 hB) hM (by decide) ?_
    refine jx_iload_n d_M_startOf_37 rfl rfl ?_
    refine mx_ld (n := 16) d_M_startOf_38 hM (by decide) rfl ⟨by omega, by omega⟩ ?_
    have r8 : 0 ≤ S 15 t ∧ S 15 t ≤ 5000 := hI.r 15 t (n := 16) (by decide) rfl ⟨by omega, by omega⟩
    refine jI_add d_M_startOf_39 ?_
    refine jx_aload_n d_M_startOf_40 rfl rfl ?_
    refine mx_ar 7 d_M_startOf_41 (f_M_19 hB) hM (by decide) ?_
    refine jx_iload_n d_M_startOf_44 rfl rfl ?_
    refine mx_ld (n := 4) d_M_startOf_45 hM (by decide) rfl ⟨by omega, by omega⟩ ?_
    have r9 : 0 ≤ S 7 p ∧ S 7 p ≤ 100000 := hI.r 7 p (n := 4) (by decide) rfl ⟨by omega, by omega⟩
    refine jI_icmp_le (tgt := 72) d_M_startOf_46 (by decide) (by omega) (by omega) (fun hc10 => ?_) (fun hc10 => ?_)
    · refine jx_iload d_M_startOf_72 rfl ?_
      refine jx_aload_n d_M_startOf_74 rfl rfl ?_
      refine mx_ar 15 d_M_startOf_75 (f_M_44 hB) hM (by decide) ?_
      refine jx_iload_n d_M_startOf_78 rfl rfl ?_
      refine mx_ld (n := 16) d_M_startOf_79 hM (by decide) rfl ⟨by omega, by omega⟩ ?_
      have r11 : 0 ≤ S 15 t ∧ S 15 t ≤ 5000 := hI.r 15 t (n := 16) (by decide) rfl ⟨by omega, by omega⟩
      refine jI_add d_M_startOf_80 ?_
      refine jx_aload_n d_M_startOf_81 rfl rfl ?_
      refine mx_ar 6 d_M_startOf_82 (f_M_16 hB) hM (by decide) ?_
      refine jx_iload_n d_M_startOf_85 rfl rfl ?_
      refine mx_ld (n := 4) d_M_startOf_86 hM (by decide) rfl ⟨by omega, by omega⟩ ?_
      have r12 : 0 ≤ S 6 p ∧ S 6 p ≤ 100000 := hI.r 6 p (n := 4) (by decide) rfl ⟨by omega, by omega⟩
      refine jI_icmp_le (tgt := 94) d_M_startOf_87 (by decide) (by omega) (by omega) (fun hc13 => ?_) (fun hc13 => ?_)
      · refine jx_iload d_M_startOf_94 rfl ?_
        exact jx_iret d_M_startOf_96 rfl ⟨jr_i (by unfold sStart; (repeat' split) <;> omega), rfl⟩
      · refine jI_const d_M_startOf_90 ?_
        refine jx_goto (tgt := 96) d_M_startOf_91 (by decide) ?_
        exact jx_iret d_M_startOf_96 rfl ⟨jr_i (by unfold sStart; (repeat' split) <;> omega), rfl⟩
    · refine jx_aload_n d_M_startOf_49 rfl rfl ?_
      refine mx_ar 7 d_M_startOf_50 (f_M_19 hB) hM (by decide) ?_
      refine jx_iload_n d_M_startOf_53 rfl rfl ?_
      refine mx_ld (n := 4) d_M_startOf_54 hM (by decide) rfl ⟨by omega, by omega⟩ ?_
      have r14 : 0 ≤ S 7 p ∧ S 7 p ≤ 100000 := hI.r 7 p (n := 4) (by decide) rfl ⟨by omega, by omega⟩
      refine jx_aload_n d_M_startOf_55 rfl rfl ?_
      refine mx_ar 8 d_M_startOf_56 (f_M_22 hB) hM (by decide) ?_
      refine jx_iload_n d_M_startOf_59 rfl rfl ?_
      refine mx_ld (n := 4) d_M_startOf_60 hM (by decide) rfl ⟨by omega, by omega⟩ ?_
      have r15 : 0 ≤ S 8 p ∧ S 8 p ≤ 100000 := hI.r 8 p (n := 4) (by decide) rfl ⟨by omega, by omega⟩
      refine jI_icmp_ge (tgt := 72) d_M_startOf_61 (by decide) (by omega) (by omega) (fun hc16 => ?_) (fun hc16 => ?_)
      · refine jx_iload d_M_startOf_72 rfl ?_
        refine jx_aload_n d_M_startOf_74 rfl rfl ?_
        refine mx_ar 15 d_M_startOf_75 (f_M_44 hB) hM (by decide) ?_
        refine jx_iload_n d_M_startOf_78 rfl rfl ?_
        refine mx_ld (n := 16) d_M_startOf_79 hM (by decide) rfl ⟨by omega, by omega⟩ ?_
        have r17 : 0 ≤ S 15 t ∧ S 15 t ≤ 5000 := hI.r 15 t (n := 16) (by decide) rfl ⟨by omega, by omega⟩
        refine jI_add d_M_startOf_80 ?_
        refine jx_aload_n d_M_startOf_81 rfl rfl ?_
        refine mx_ar 6 d_M_startOf_82 (f_M_16 hB) hM (by decide) ?_
        refine jx_iload_n d_M_startOf_85 rfl rfl ?_
        refine mx_ld (n := 4) d_M_startOf_86 hM (by decide) rfl ⟨by omega, by omega⟩ ?_
        have r18 : 0 ≤ S 6 p ∧ S 6 p ≤ 100000 := hI.r 6 p (n := 4) (by decide) rfl ⟨by omega, by omega⟩
        refine jI_icmp_le (tgt := 94) d_M_startOf_87 (by decide) (by omega) (by omega) (fun hc19 => ?_) (fun hc19 => ?_)
        · refine jx_iload d_M_startOf_94 rfl ?_
          exact jx_iret d_M_startOf_96 rfl ⟨jr_i (by unfold sStart; (repeat' split) <;> omega), rfl⟩
        · refine jI_const d_M_startOf_90 ?_
          refine jx_goto (tgt := 96) d_M_startOf_91 (by decide) ?_
          exact jx_iret d_M_startOf_96 rfl ⟨jr_i (by unfold sStart; (repeat' split) <;> omega), rfl⟩
      · refine jx_aload_n d_M_startOf_64 rfl rfl ?_
        refine mx_ar 8 d_M_startOf_65 (f_M_22 hB) hM (by decide) ?_
        refine jx_iload_n d_M_startOf_68 rfl rfl ?_
        refine mx_ld (n := 4) d_M_startOf_69 hM (by decide) rfl ⟨by omega, by omega⟩ ?_
        have r20 : 0 ≤ S 8 p ∧ S 8 p ≤ 100000 := hI.r 8 p (n := 4) (by decide) rfl ⟨by omega, by omega⟩
        refine jx_istore d_M_startOf_70 (Nat.le_of_ble_eq_true rfl) rfl ?_
        try dsimp only [List.set]
        refine jx_iload d_M_startOf_72 rfl ?_
        refine jx_aload_n d_M_startOf_74 rfl rfl ?_
        refine mx_ar 15 d_M_startOf_75 (f_M_44 hB) hM (by decide) ?_
        refine jx_iload_n d_M_startOf_78 rfl rfl ?_
        refine mx_ld (n := 16) d_M_startOf_79 hM (by decide) rfl ⟨by omega, by omega⟩ ?_
        have r21 : 0 ≤ S 15 t ∧ S 15 t ≤ 5000 := hI.r 15 t (n := 16) (by decide) rfl ⟨by omega, by omega⟩
        refine jI_add d_M_startOf_80 ?_
        refine jx_aload_n d_M_startOf_81 rfl rfl ?_
        refine mx_ar 6 d_M_startOf_82 (f_M_16 hB) hM (by decide) ?_
        refine jx_iload_n d_M_startOf_85 rfl rfl ?_
        refine mx_ld (n := 4) d_M_startOf_86 hM (by decide) rfl ⟨by omega, by omega⟩ ?_
        have r22 : 0 ≤ S 6 p ∧ S 6 p ≤ 100000 := hI.r 6 p (n := 4) (by decide) rfl ⟨by omega, by omega⟩
        refine jI_icmp_le (tgt := 94) d_M_startOf_87 (by decide) (by omega) (by omega) (fun hc23 => ?_) (fun hc23 => ?_)
        · refine jx_iload d_M_startOf_94 rfl ?_
          exact jx_iret d_M_startOf_96 rfl ⟨jr_i (by unfold sStart; (repeat' split) <;> omega), rfl⟩
        · refine jI_const d_M_startOf_90 ?_
          refine jx_goto (tgt := 96) d_M_startOf_91 (by decide) ?_
          exact jx_iret d_M_startOf_96 rfl ⟨jr_i (by unfold sStart; (repeat' split) <;> omega), rfl⟩
theorem l_M_behind {E : jx_E} {l : Launch} {d : Nat} {w : jx_W} {S : mS} {m : Nat} {A : Nat → Nat} {Q : jx_R → jx_W → Prop} {p t : Int} (hB : jx_B E) (hM : mR E S w m A) (hI : sI S) (hT : 0 ≤ S 1 0 ∧ S 1 0 ≤ 16) (hp : 0 ≤ p ∧ p < 4) (K : jx_G E l Y_M_behind d Q 65 [some (.ref m), some (.int (iI p)), some (.int (iI t)), some (.int (iI (sLast S p))), some (.int (iI (S 1 0)))] [] w) : ∀ (j : Nat) (x u : Int), x = iFor (gLast S p) (-1) u → 0 ≤ u ∧ u ≤ S 1 0 → S 1 0 - u < j → jx_G E l Y_M_behind d Q 5 [some (.ref m), some (.int (iI p)), some (.int (iI t)), some (.int (iI x)), some (.int (iI u))] [] w := by
  intro j
  induction j with
  | zero => intro x u hx hu hz; exfalso; omega
  | succ j ih =>
    intro x u hx hu hz
    have hxr := gLast_rg (S := S) (p := p) (n := u) (by omega)
    rw [← hx] at hxr
    refine jx_iload d_M_behind_5 rfl ?_
    refine jx_aload_n d_M_behind_7 rfl rfl ?_
    refine mx_sc 1 d_M_behind_8 (f_M_94 hB) hM (by decide) ?_
    refine jI_icmp_ge (tgt := 65) d_M_behind_11 (by decide) (by omega) (by omega) (fun hc1 => ?_) (fun hc1 => ?_)
    · (have e : u = S 1 0 := by omega); (have e2 : x = sLast S p := by rw [hx, e]; rfl); rw [e, e2]; exact K
    · refine jx_aload_n d_M_behind_14 rfl rfl ?_
      refine mx_ar 13 d_M_behind_15 (f_M_38 hB) hM (by decide) ?_
      refine jx_iload d_M_behind_18 rfl ?_
      refine mx_ld (n := 16) d_M_behind_20 hM (by decide) rfl ⟨by omega, by omega⟩ ?_
      have r2 : 0 ≤ S 13 u ∧ S 13 u ≤ 2 := hI.r 13 u (n := 16) (by decide) rfl ⟨by omega, by omega⟩
      refine jI_if_ne (tgt := 59) d_M_behind_21 (by decide) (by omega) (fun hc3 => ?_) (fun hc3 => ?_)
      · refine jI_inc d_M_behind_59 rfl rfl ?_
        try dsimp only [List.set]
        refine jx_goto (tgt := 5) d_M_behind_62 (by decide) ?_
        exact ih (x) (u + 1) (by rw [iFor_s _ _ (by omega), ← hx]; exact (if_neg (by omega)).symm) (by omega) (by omega)
      · refine jx_aload_n d_M_behind_24 rfl rfl ?_
        refine mx_ar 19 d_M_behind_25 (f_M_56 hB) hM (by decide) ?_
        refine jx_iload d_M_behind_28 rfl ?_
        refine mx_ld (n := 16) d_M_behind_30 hM (by decide) rfl ⟨by omega, by omega⟩ ?_
        have r4 : -1 ≤ S 19 u ∧ S 19 u ≤ 3 := hI.r 19 u (n := 16) (by decide) rfl ⟨by omega, by omega⟩
        refine jx_iload_n d_M_behind_31 rfl rfl ?_
        refine jI_icmp_ne (tgt := 59) d_M_behind_32 (by decide) (by omega) (by omega) (fun hc5 => ?_) (fun hc5 => ?_)
        · refine jI_inc d_M_behind_59 rfl rfl ?_
          try dsimp only [List.set]
          refine jx_goto (tgt := 5) d_M_behind_62 (by decide) ?_
          exact ih (x) (u + 1) (by rw [iFor_s _ _ (by omega), ← hx]; exact (if_neg (by omega)).symm) (by omega) (by omega)
        · refine jx_iload_n d_M_behind_35 rfl rfl ?_
          refine jI_const d_M_behind_36 ?_
          refine jI_icmp_eq (tgt := 56) d_M_behind_37 (by decide) (by omega) (by omega) (fun hc6 => ?_) (fun hc6 => ?_)
          · refine jx_iload d_M_behind_56 rfl ?_
            refine jx_istore_n d_M_behind_58 rfl (Nat.le_of_ble_eq_true rfl) rfl ?_
            try dsimp only [List.set]
            refine jI_inc d_M_behind_59 rfl rfl ?_
            try dsimp only [List.set]
            refine jx_goto (tgt := 5) d_M_behind_62 (by decide) ?_
            exact ih (u) (u + 1) (by rw [iFor_s _ _ (by omega), ← hx]; exact (if_pos ⟨by omega, by omega, by omega⟩).symm) (by omega) (by omega)
          · refine jx_aload_n d_M_behind_40 rfl rfl ?_
            refine mx_ar 20 d_M_behind_41 (f_M_59 hB) hM (by decide) ?_
            refine jx_iload d_M_behind_44 rfl ?_
            refine mx_ld (n := 16) d_M_behind_46 hM (by decide) rfl ⟨by omega, by omega⟩ ?_
            have r7 : -1 ≤ S 20 u ∧ S 20 u ≤ 100000 := hI.r 20 u (n := 16) (by decide) rfl ⟨by omega, by omega⟩
            refine jx_aload_n d_M_behind_47 rfl rfl ?_
            refine mx_ar 20 d_M_behind_48 (f_M_59 hB) hM (by decide) ?_
            refine jx_iload_n d_M_behind_51 rfl rfl ?_
            refine mx_ld (n := 16) d_M_behind_52 hM (by decide) rfl ⟨by omega, by omega⟩ ?_
            have r8 : -1 ≤ S 20 x ∧ S 20 x ≤ 100000 := hI.r 20 x (n := 16) (by decide) rfl ⟨by omega, by omega⟩
            refine jI_icmp_le (tgt := 59) d_M_behind_53 (by decide) (by omega) (by omega) (fun hc9 => ?_) (fun hc9 => ?_)
            · refine jI_inc d_M_behind_59 rfl rfl ?_
              try dsimp only [List.set]
              refine jx_goto (tgt := 5) d_M_behind_62 (by decide) ?_
              exact ih (x) (u + 1) (by rw [iFor_s _ _ (by omega), ← hx]; exact (if_neg (by omega)).symm) (by omega) (by omega)
            · refine jx_iload d_M_behind_56 rfl ?_
              refine jx_istore_n d_M_behind_58 rfl (Nat.le_of_ble_eq_true rfl) rfl ?_
              try dsimp only [List.set]
              refine jI_inc d_M_behind_59 rfl rfl ?_
              try dsimp only [List.set]
              refine jx_goto (tgt := 5) d_M_behind_62 (by decide) ?_
              exact ih (u) (u + 1) (by rw [iFor_s _ _ (by omega), ← hx]; exact (if_pos ⟨by omega, by omega, by omega⟩).symm) (by omega) (by omega)
theorem w_M_behind {E : jx_E} {l : Launch} {d : Nat} {w : jx_W} {S : mS} {m : Nat} {A : Nat → Nat} {p t : Int} (hB : jx_B E) (hM : mR E S w m A) (hI : sI S) (hT : 0 ≤ S 1 0 ∧ S 1 0 ≤ 16) (hn : 0 ≤ S 2 0 ∧ S 2 0 ≤ 100000) (hp : 0 ≤ p ∧ p < 4) (ht : 0 ≤ t ∧ t < 16) : jx_G E l Y_M_behind (d + 3) (jx_eq (.inr (some (.int (iI (sBehind S p t))))) w) 0 (jx_ent [.ref m, .int (iI p), .int (iI t)] 5) [] w := by
  show jx_G E l Y_M_behind (d + 3) _ 0 [some (.ref m), some (.int (iI p)), some (.int (iI t)), none, none] [] w
  have hxr : -1 ≤ sLast S p ∧ sLast S p < 16 := gLast_rg (S := S) (p := p) (n := S 1 0) (by omega)
  refine jI_const d_M_behind_0 ?_
  refine jx_istore_n d_M_behind_1 rfl (Nat.le_of_ble_eq_true rfl) rfl ?_
  try dsimp only [List.set]
  refine jI_const d_M_behind_2 ?_
  refine jx_istore d_M_behind_3 (Nat.le_of_ble_eq_true rfl) rfl ?_
  try dsimp only [List.set]
  refine l_M_behind hB hM hI hT hp ?_ 17 (-1) 0 rfl (by omega) (by omega)
  refine jx_iload_n d_M_behind_65 rfl rfl ?_
  refine jI_const d_M_behind_66 ?_
  refine jI_icmp_ne (tgt := 79) d_M_behind_67 (by decide) (by omega) (by omega) (fun hc1 => ?_) (fun hc1 => ?_)
  · refine jx_aload_n d_M_behind_79 rfl rfl ?_
    refine jx_iload_n d_M_behind_80 rfl rfl ?_
    refine jx_iload_n d_M_behind_81 rfl rfl ?_
    refine jx_aload_n d_M_behind_82 rfl rfl ?_
    refine mx_ar 20 d_M_behind_83 (f_M_59 hB) hM (by decide) ?_
    refine jx_iload_n d_M_behind_86 rfl rfl ?_
    refine mx_ld (n := 16) d_M_behind_87 hM (by decide) rfl ⟨by omega, by omega⟩ ?_
    have r2 : -1 ≤ S 20 (sLast S p) ∧ S 20 (sLast S p) ≤ 100000 := hI.r 20 (sLast S p) (n := 16) (by decide) rfl ⟨by omega, by omega⟩
    refine jx_aload_n d_M_behind_88 rfl rfl ?_
    refine mx_ar 15 d_M_behind_89 (f_M_44 hB) hM (by decide) ?_
    refine jx_iload_n d_M_behind_92 rfl rfl ?_
    refine mx_ld (n := 16) d_M_behind_93 hM (by decide) rfl ⟨by omega, by omega⟩ ?_
    have r3 : 0 ≤ S 15 (sLast S p) ∧ S 15 (sLast S p) ≤ 5000 := hI.r 15 (sLast S p) (n := 16) (by decide) rfl ⟨by omega, by omega⟩
    refine jI_add d_M_behind_94 ?_
    refine jx_aload_n d_M_behind_95 rfl rfl ?_
    refine mx_ar 17 d_M_behind_96 (f_M_50 hB) hM (by decide) ?_
    refine jx_iload_n d_M_behind_99 rfl rfl ?_
    refine mx_ld (n := 16) d_M_behind_100 hM (by decide) rfl ⟨by omega, by omega⟩ ?_
    have r4 : 0 ≤ S 17 (sLast S p) ∧ S 17 (sLast S p) ≤ 3 := hI.r 17 (sLast S p) (n := 16) (by decide) rfl ⟨by omega, by omega⟩
    refine jx_callV_r (As := [.int (iI (p)), .int (iI (t)), .int (iI ((S 20 (sLast S p)) + (S 15 (sLast S p)))), .int (iI (S 17 (sLast S p)))]) (v := some (.int (iI (sStart S p t ((S 20 (sLast S p)) + (S 15 (sLast S p))) (S 17 (sLast S p)))))) d_M_behind_101 (m_M_startOf hB) (v_M_127 hB) (by decide) (jx_c5 hB) hM.1 rfl (Nat.le_of_ble_eq_true rfl) (Nat.le_of_ble_eq_true rfl) (w_M_startOf2 hB hM hI (p := p) (t := t) (r := (S 20 (sLast S p)) + (S 15 (sLast S p))) (z := S 17 (sLast S p)) (by omega) (by omega) (by omega) (by omega)) ?_
    have q5 := sStart_rg2 (S := S) (p := p) (t := t) (r := (S 20 (sLast S p)) + (S 15 (sLast S p))) (z := S 17 (sLast S p)) hI (by omega) (by omega) (by omega) (by omega)
    exact jx_iret d_M_behind_104 rfl ⟨jr_i (by unfold sBehind; first | (rw [if_pos (by omega)]) | (rw [if_neg (by omega)])), rfl⟩
  · refine jx_aload_n d_M_behind_70 rfl rfl ?_
    refine jx_iload_n d_M_behind_71 rfl rfl ?_
    refine jx_iload_n d_M_behind_72 rfl rfl ?_
    refine jx_callV_r (As := [.int (iI (p)), .int (iI (t))]) (v := some (.int (iI (sAlone S p t)))) d_M_behind_73 (m_M_aloneAt hB) (v_M_131 hB) (by decide) (jx_c5 hB) hM.1 rfl (Nat.le_of_ble_eq_true rfl) (Nat.le_of_ble_eq_true rfl) (w_M_aloneAt hB hM hI (p := p) (t := t) (by omega) (by omega) (by omega)) ?_
    have q6 := sAlone_rg (S := S) (p := p) (t := t) hI (by omega) (by omega) (by omega)
    refine jx_goto (tgt := 104) d_M_behind_76 (by decide) ?_
    exact jx_iret d_M_behind_104 rfl ⟨jr_i (by unfold sBehind; first | (rw [if_pos (by omega)]) | (rw [if_neg (by omega)])), rfl⟩
theorem sBehind_rg {S : mS} {p t : Int} (hI : sI S) (hT : 0 ≤ S 1 0 ∧ S 1 0 ≤ 16) (hp : 0 ≤ p ∧ p < 4) (ht : 0 ≤ t ∧ t < 16) (hn : 0 ≤ S 2 0 ∧ S 2 0 ≤ 100000) : -1 ≤ sBehind S p t ∧ sBehind S p t ≤ 100000 := by
  have hxr : -1 ≤ sLast S p ∧ sLast S p < 16 := gLast_rg (S := S) (p := p) (n := S 1 0) (by omega)
  unfold sBehind
  split
  · exact sAlone_rg hI hp ht hn
  · have r1 : -1 ≤ S 20 (sLast S p) ∧ S 20 (sLast S p) ≤ 100000 := hI.r 20 _ (n := 16) (by decide) rfl ⟨by omega, by omega⟩
    have r2 : 0 ≤ S 15 (sLast S p) ∧ S 15 (sLast S p) ≤ 5000 := hI.r 15 _ (n := 16) (by decide) rfl ⟨by omega, by omega⟩
    have r3 : 0 ≤ S 17 (sLast S p) ∧ S 17 (sLast S p) ≤ 3 := hI.r 17 _ (n := 16) (by decide) rfl ⟨by omega, by omega⟩
    exact sStart_rg2 hI hp ht (by omega) (by omega)
theorem gOne_rg {S : mS} {t n : Int} (hI : sI S) (hT : 0 ≤ S 1 0 ∧ S 1 0 ≤ 16) (ht : 0 ≤ t ∧ t < 16) (hn : 0 ≤ S 2 0 ∧ S 2 0 ≤ 100000) (h4 : n ≤ 4) : (-1 ≤ (aFor (gOne S t) (-1, -1) n).1 ∧ (aFor (gOne S t) (-1, -1) n).1 < 4) ∧ (-1 ≤ (aFor (gOne S t) (-1, -1) n).2 ∧ (aFor (gOne S t) (-1, -1) n).2 ≤ 100000) := by
  refine aFor_ind (P := fun x : Int × Int => (-1 ≤ x.1 ∧ x.1 < 4) ∧ (-1 ≤ x.2 ∧ x.2 ≤ 100000)) ⟨⟨by decide, by decide⟩, by decide, by decide⟩ (fun x q hq hx => ?_)
  unfold gOne
  split
  · have := sBehind_rg hI hT (p := q) (by omega) ht hn
    exact ⟨⟨by show (-1 : Int) ≤ q; omega, by show q < (4 : Int); omega⟩, this⟩
  · exact hx
theorem l_M_planOne {E : jx_E} {l : Launch} {d : Nat} {w : jx_W} {S : mS} {m : Nat} {A : Nat → Nat} {Q : jx_R → jx_W → Prop} {t : Int} (hB : jx_B E) (hM : mR E S w m A) (hI : sI S) (hP : 0 ≤ S 0 0 ∧ S 0 0 ≤ 4) (hT : 0 ≤ S 1 0 ∧ S 1 0 ≤ 16) (hn : 0 ≤ S 2 0 ∧ S 2 0 ≤ 100000) (ht : 0 ≤ t ∧ t < 16) (K : ∀ X, jx_G E l Y_M_planOne (d + 4) Q 88 [some (.ref m), some (.int (iI t)), some (.int (iI (sOne S t).1)), some (.int (iI (sOne S t).2)), some (.int (iI (S 0 0))), X] [] w) : ∀ (j : Nat) (f a q : Int) (X : Option Value), (f, a) = aFor (gOne S t) (-1, -1) q → 0 ≤ q ∧ q ≤ S 0 0 → S 0 0 - q < j → jx_G E l Y_M_planOne (d + 4) Q 7 [some (.ref m), some (.int (iI t)), some (.int (iI f)), some (.int (iI a)), some (.int (iI q)), X] [] w := by
  intro j
  induction j with
  | zero => intro f a q X hx hq hz; exfalso; omega
  | succ j ih =>
    intro f a q X hx hq hz
    have hxr := gOne_rg (S := S) (t := t) (n := q) hI hT ht hn (by omega)
    rw [← hx] at hxr
    obtain ⟨hf, ha⟩ := hxr
    dsimp only at hf ha
    refine jx_iload d_M_planOne_7 rfl ?_
    refine jx_aload_n d_M_planOne_9 rfl rfl ?_
    refine mx_sc 0 d_M_planOne_10 (f_M_87 hB) hM (by decide) ?_
    refine jI_icmp_ge (tgt := 88) d_M_planOne_13 (by decide) (by omega) (by omega) (fun hc1 => ?_) (fun hc1 => ?_)
    · (have e : q = S 0 0 := by omega); (have e2 : (f, a) = sOne S t := by rw [hx, e]; rfl); (have e3 : f = (sOne S t).1 := by rw [← e2]); (have e4 : a = (sOne S t).2 := by rw [← e2]); rw [e, e3, e4]; exact K X
    · refine jx_aload_n d_M_planOne_16 rfl rfl ?_
      refine jx_iload d_M_planOne_17 rfl ?_
      refine jx_iload_n d_M_planOne_19 rfl rfl ?_
      refine jx_callV_r (As := [.int (iI (q)), .int (iI (t))]) (v := some (.int (iI (sMay S q t)))) d_M_planOne_20 (m_M_may hB) (v_M_144 hB) (by decide) (jx_c5 hB) hM.1 rfl (Nat.le_of_ble_eq_true rfl) (Nat.le_of_ble_eq_true rfl) (w_M_may hB hM hI (p := q) (t := t) (by omega) (by omega)) ?_
      have q2 := sMay_01 S q t
      refine jI_if_eq (tgt := 36) d_M_planOne_23 (by decide) (by omega) (fun hc3 => ?_) (fun hc3 => ?_)
      · refine jI_const d_M_planOne_36 ?_
        refine jx_istore d_M_planOne_37 (Nat.le_of_ble_eq_true rfl) rfl ?_
        try dsimp only [List.set]
        refine jx_iload d_M_planOne_39 rfl ?_
        refine jI_const d_M_planOne_41 ?_
        refine jI_icmp_eq (tgt := 82) d_M_planOne_42 (by decide) (by omega) (by omega) (fun _ => ?_) (fun z => absurd z (by omega))
        refine jI_inc d_M_planOne_82 rfl rfl ?_
        try dsimp only [List.set]
        refine jx_goto (tgt := 7) d_M_planOne_85 (by decide) ?_
        first | exact ih (f) (a) (q + 1) _ (by rw [aFor_s _ _ (by omega), ← hx]; unfold gOne; rw [if_neg (by dsimp only; omega)]) (by omega) (by omega) | (exfalso; omega)
      · refine jx_aload_n d_M_planOne_26 rfl rfl ?_
        refine jx_iload d_M_planOne_27 rfl ?_
        refine jx_iload_n d_M_planOne_29 rfl rfl ?_
        refine jx_callV_r (As := [.int (iI (q)), .int (iI (t))]) (v := some (.int (iI (sBehind S q t)))) d_M_planOne_30 (m_M_behind hB) (v_M_166 hB) (by decide) (jx_c5 hB) hM.1 rfl (Nat.le_of_ble_eq_true rfl) (Nat.le_of_ble_eq_true rfl) (w_M_behind hB hM hI (p := q) (t := t) (by omega) (by omega) (by omega) (by omega)) ?_
        have q5 := sBehind_rg (S := S) (p := q) (t := t) hI (by omega) (by omega) (by omega) (by omega)
        refine jx_goto (tgt := 37) d_M_planOne_33 (by decide) ?_
        refine jx_istore d_M_planOne_37 (Nat.le_of_ble_eq_true rfl) rfl ?_
        try dsimp only [List.set]
        refine jx_iload d_M_planOne_39 rfl ?_
        refine jI_const d_M_planOne_41 ?_
        refine jI_icmp_eq (tgt := 82) d_M_planOne_42 (by decide) (by omega) (by omega) (fun hc6 => ?_) (fun hc6 => ?_)
        · refine jI_inc d_M_planOne_82 rfl rfl ?_
          try dsimp only [List.set]
          refine jx_goto (tgt := 7) d_M_planOne_85 (by decide) ?_
          first | exact ih (f) (a) (q + 1) _ (by rw [aFor_s _ _ (by omega), ← hx]; unfold gOne; rw [if_neg (by dsimp only; omega)]) (by omega) (by omega) | (exfalso; omega)
        · refine jx_iload_n d_M_planOne_45 rfl rfl ?_
          refine jI_const d_M_planOne_46 ?_
          refine jI_icmp_eq (tgt := 76) d_M_planOne_47 (by decide) (by omega) (by omega) (fun hc7 => ?_) (fun hc7 => ?_)
          · refine jx_iload d_M_planOne_76 rfl ?_
            refine jx_istore_n d_M_planOne_78 rfl (Nat.le_of_ble_eq_true rfl) rfl ?_
            try dsimp only [List.set]
            refine jx_iload d_M_planOne_79 rfl ?_
            refine jx_istore_n d_M_planOne_81 rfl (Nat.le_of_ble_eq_true rfl) rfl ?_
            try dsimp only [List.set]
            refine jI_inc d_M_planOne_82 rfl rfl ?_
            try dsimp only [List.set]
            refine jx_goto (tgt := 7) d_M_planOne_85 (by decide) ?_
            first | exact ih (q) (sBehind S q t) (q + 1) _ (by rw [aFor_s _ _ (by omega), ← hx]; unfold gOne; rw [if_pos (by dsimp only; exact ⟨by omega, by omega, by omega⟩)]) (by omega) (by omega) | (exfalso; omega)
          · refine jx_iload d_M_planOne_50 rfl ?_
            refine jx_iload_n d_M_planOne_52 rfl rfl ?_
            refine jI_icmp_lt (tgt := 76) d_M_planOne_53 (by decide) (by omega) (by omega) (fun hc8 => ?_) (fun hc8 => ?_)
            · refine jx_iload d_M_planOne_76 rfl ?_
              refine jx_istore_n d_M_planOne_78 rfl (Nat.le_of_ble_eq_true rfl) rfl ?_
              try dsimp only [List.set]
              refine jx_iload d_M_planOne_79 rfl ?_
              refine jx_istore_n d_M_planOne_81 rfl (Nat.le_of_ble_eq_true rfl) rfl ?_
              try dsimp only [List.set]
              refine jI_inc d_M_planOne_82 rfl rfl ?_
              try dsimp only [List.set]
              refine jx_goto (tgt := 7) d_M_planOne_85 (by decide) ?_
              first | exact ih (q) (sBehind S q t) (q + 1) _ (by rw [aFor_s _ _ (by omega), ← hx]; unfold gOne; rw [if_pos (by dsimp only; exact ⟨by omega, by omega, by omega⟩)]) (by omega) (by omega) | (exfalso; omega)
            · refine jx_iload d_M_planOne_56 rfl ?_
              refine jx_iload_n d_M_planOne_58 rfl rfl ?_
              refine jI_icmp_ne (tgt := 82) d_M_planOne_59 (by decide) (by omega) (by omega) (fun hc9 => ?_) (fun hc9 => ?_)
              · refine jI_inc d_M_planOne_82 rfl rfl ?_
                try dsimp only [List.set]
                refine jx_goto (tgt := 7) d_M_planOne_85 (by decide) ?_
                first | exact ih (f) (a) (q + 1) _ (by rw [aFor_s _ _ (by omega), ← hx]; unfold gOne; rw [if_neg (by dsimp only; omega)]) (by omega) (by omega) | (exfalso; omega)
              · refine jx_aload_n d_M_planOne_62 rfl rfl ?_
                refine jx_iload d_M_planOne_63 rfl ?_
                refine jx_callV_r (As := [.int (iI (q))]) (v := some (.int (iI (sLoad S q)))) d_M_planOne_65 (m_M_load hB) (v_M_169 hB) (by decide) (jx_c5 hB) hM.1 rfl (Nat.le_of_ble_eq_true rfl) (Nat.le_of_ble_eq_true rfl) (w_M_load hB hM hI (p := q) (by omega) (by omega)) ?_
                have q10 := sLoad_rg (S := S) (p := q) (by omega)
                refine jx_aload_n d_M_planOne_68 rfl rfl ?_
                refine jx_iload_n d_M_planOne_69 rfl rfl ?_
                refine jx_callV_r (As := [.int (iI (f))]) (v := some (.int (iI (sLoad S f)))) d_M_planOne_70 (m_M_load hB) (v_M_169 hB) (by decide) (jx_c5 hB) hM.1 rfl (Nat.le_of_ble_eq_true rfl) (Nat.le_of_ble_eq_true rfl) (w_M_load hB hM hI (p := f) (by omega) (by omega)) ?_
                have q11 := sLoad_rg (S := S) (p := f) (by omega)
                refine jI_icmp_ge (tgt := 82) d_M_planOne_73 (by decide) (by omega) (by omega) (fun hc12 => ?_) (fun hc12 => ?_)
                · refine jI_inc d_M_planOne_82 rfl rfl ?_
                  try dsimp only [List.set]
                  refine jx_goto (tgt := 7) d_M_planOne_85 (by decide) ?_
                  first | exact ih (f) (a) (q + 1) _ (by rw [aFor_s _ _ (by omega), ← hx]; unfold gOne; rw [if_neg (by dsimp only; omega)]) (by omega) (by omega) | (exfalso; omega)
                · refine jx_iload d_M_planOne_76 rfl ?_
                  refine jx_istore_n d_M_planOne_78 rfl (Nat.le_of_ble_eq_true rfl) rfl ?_
                  try dsimp only [List.set]
                  refine jx_iload d_M_planOne_79 rfl ?_
                  refine jx_istore_n d_M_planOne_81 rfl (Nat.le_of_ble_eq_true rfl) rfl ?_
                  try dsimp only [List.set]
                  refine jI_inc d_M_planOne_82 rfl rfl ?_
                  try dsimp only [List.set]
                  refine jx_goto (tgt := 7) d_M_planOne_85 (by decide) ?_
                  first | exact ih (q) (sBehind S q t) (q + 1) _ (by rw [aFor_s _ _ (by omega), ← hx]; unfold gOne; rw [if_pos (by dsimp only; exact ⟨by omega, by omega, by omega⟩)]) (by omega) (by omega) | (exfalso; omega)
theorem w_M_planOne {E : jx_E} {l : Launch} {d : Nat} {w : jx_W} {S : mS} {m : Nat} {A : Nat → Nat} {t : Int} (hB : jx_B E) (hM : mR E S w m A) (hI : sI S) (hP : 0 ≤ S 0 0 ∧ S 0 0 ≤ 4) (hT : 0 ≤ S 1 0 ∧ S 1 0 ≤ 16) (hn : 0 ≤ S 2 0 ∧ S 2 0 ≤ 100000) (ht : 0 ≤ t ∧ t < 16) : jx_G E l Y_M_planOne (d + 4) (jm_po E m A w none (oOne S t)) 0 (jx_ent [.ref m, .int (iI t)] 6) [] w := by
  have hsr : (-1 ≤ (sOne S t).1 ∧ (sOne S t).1 < 4) ∧ (-1 ≤ (sOne S t).2 ∧ (sOne S t).2 ≤ 100000) := gOne_rg (S := S) (t := t) (n := S 0 0) hI hT ht hn (by omega)
  have hF : mF m A w w := mF.rf
  generalize hw0 : w = w0 at hF ⊢
  rw [hw0] at hM
  have hF : mF m A w0 w0 := mF.rf
  show jx_G E l Y_M_planOne (d + 4) (jm_po E m A w0 _ _) 0 [some (.ref m), some (.int (iI t)), none, none, none, none] [] w0
  refine jI_const d_M_planOne_0 ?_
  refine jx_istore_n d_M_planOne_1 rfl (Nat.le_of_ble_eq_true rfl) rfl ?_
  try dsimp only [List.set]
  refine jI_const d_M_planOne_2 ?_
  refine jx_istore_n d_M_planOne_3 rfl (Nat.le_of_ble_eq_true rfl) rfl ?_
  try dsimp only [List.set]
  refine jI_const d_M_planOne_4 ?_
  refine jx_istore d_M_planOne_5 (Nat.le_of_ble_eq_true rfl) rfl ?_
  try dsimp only [List.set]
  refine l_M_planOne hB hM hI hP hT hn ht (fun X => ?_) 5 (-1) (-1) 0 _ rfl (by omega) (by omega)
  refine jx_aload_n d_M_planOne_88 rfl rfl ?_
  refine mx_ar 19 d_M_planOne_89 (f_M_56 hB) hM (by decide) ?_
  refine jx_iload_n d_M_planOne_92 rfl rfl ?_
  refine jx_iload_n d_M_planOne_93 rfl rfl ?_
  refine mx_st (n := 16) d_M_planOne_94 hM (by decide) rfl ⟨by omega, by omega⟩ (fun w hM hF1 => ?_)
  have hF := hF.tr hF1
  obtain ⟨S1, hS1⟩ : ∃ zz, zz = sU S 19 t ((sOne S t).1) := ⟨_, rfl⟩
  rw [← hS1] at hM
  have hIS1 : sI S1 := by rw [hS1]; exact hI.u 19 _ _ (fun _ => (show (-1 : Int) ≤ (sOne S t).1 ∧ (sOne S t).1 ≤ 3 by constructor <;> omega))
  have e2 : S1 0 0 = S 0 0 := by rw [hS1]; rfl
  have e3 : S1 1 0 = S 1 0 := by rw [hS1]; rfl
  have e4 : S1 2 0 = S 2 0 := by rw [hS1]; rfl
  have e5 : S1 23 0 = S 23 0 := by rw [hS1]; rfl
  refine jx_aload_n d_M_planOne_95 rfl rfl ?_
  refine mx_ar 20 d_M_planOne_96 (f_M_59 hB) hM (by decide) ?_
  refine jx_iload_n d_M_planOne_99 rfl rfl ?_
  refine jx_iload_n d_M_planOne_100 rfl rfl ?_
  refine mx_st (n := 16) d_M_planOne_101 hM (by decide) rfl ⟨by omega, by omega⟩ (fun w hM hF1 => ?_)
  have hF := hF.tr hF1
  obtain ⟨S6, hS6⟩ : ∃ zz, zz = sU S1 20 t ((sOne S t).2) := ⟨_, rfl⟩
  rw [← hS6] at hM
  have hIS6 : sI S6 := by rw [hS6]; exact hIS1.u 20 _ _ (fun _ => (show (-1 : Int) ≤ (sOne S t).2 ∧ (sOne S t).2 ≤ 100000 by constructor <;> omega))
  have e7 : S6 0 0 = S1 0 0 := by rw [hS6]; rfl
  have e8 : S6 1 0 = S1 1 0 := by rw [hS6]; rfl
  have e9 : S6 2 0 = S1 2 0 := by rw [hS6]; rfl
  have e10 : S6 23 0 = S1 23 0 := by rw [hS6]; rfl
  exact jx_vret d_M_planOne_102 rfl (jm_v (S := S6) (by rw [hS6, hS1]; rfl) hM hF)
theorem sI_one {S : mS} {t : Int} (hI : sI S) (hP : 0 ≤ S 0 0 ∧ S 0 0 ≤ 4) (hT : 0 ≤ S 1 0 ∧ S 1 0 ≤ 16) (hn : 0 ≤ S 2 0 ∧ S 2 0 ≤ 100000) (ht : 0 ≤ t ∧ t < 16) : sI (oOne S t) := by
  have hsr : (-1 ≤ (sOne S t).1 ∧ (sOne S t).1 < 4) ∧ (-1 ≤ (sOne S t).2 ∧ (sOne S t).2 ≤ 100000) := gOne_rg (S := S) (t := t) (n := S 0 0) hI hT ht hn (by omega)
  unfold oOne
  exact (hI.u 19 _ _ (fun _ => (show (-1 : Int) ≤ _ ∧ _ ≤ (3 : Int) by constructor <;> omega))).u 20 _ _ (fun _ => (show (-1 : Int) ≤ _ ∧ _ ≤ (100000 : Int) by constructor <;> omega))
theorem l_M_ruleI {E : jx_E} {l : Launch} {d : Nat} {w : jx_W} {S : mS} {m : Nat} {A : Nat → Nat} {Q : jx_R → jx_W → Prop} {k i : Int} (hB : jx_B E) (hM : mR E S w m A) (hI : sI S) (hT : 0 ≤ S 1 0 ∧ S 1 0 ≤ 16) (hk : 0 ≤ k ∧ k < 65536) (K : jx_G E l Y_M_planByRule d Q 75 [some (.ref m), some (.int (iI k)), some (.int (iI i)), some (.int (iI (sDue S k))), some (.int (iI (S 1 0)))] [] w) : ∀ (j : Nat) (x t : Int), x = iFor (gDue S k) (-1) t → 0 ≤ t ∧ t ≤ S 1 0 → S 1 0 - t < j → jx_G E l Y_M_planByRule d Q 17 [some (.ref m), some (.int (iI k)), some (.int (iI i)), some (.int (iI x)), some (.int (iI t))] [] w := by
  intro j
  induction j with
  | zero => intro x t hx ht hz; exfalso; omega
  | succ j ih =>
    intro x t hx ht hz
    have hxr := gDue_rg (S := S) (k := k) (n := t) (by omega)
    rw [← hx] at hxr
    refine jx_iload d_M_planByRule_17 rfl ?_
    refine jx_aload_n d_M_planByRule_19 rfl rfl ?_
    refine mx_sc 1 d_M_planByRule_20 (f_M_94 hB) hM (by decide) ?_
    refine jI_icmp_ge (tgt := 75) d_M_planByRule_23 (by decide) (by omega) (by omega) (fun hc1 => ?_) (fun hc1 => ?_)
    · (have e : t = S 1 0 := by omega); (have e2 : x = sDue S k := by rw [hx, e]; rfl); rw [e, e2]; exact K
    · refine jx_aload_n d_M_planByRule_26 rfl rfl ?_
      refine mx_ar 13 d_M_planByRule_27 (f_M_38 hB) hM (by decide) ?_
      refine jx_iload d_M_planByRule_30 rfl ?_
      refine mx_ld (n := 16) d_M_planByRule_32 hM (by decide) rfl ⟨by omega, by omega⟩ ?_
      have r2 : 0 ≤ S 13 t ∧ S 13 t ≤ 2 := hI.r 13 t (n := 16) (by decide) rfl ⟨by omega, by omega⟩
      refine jI_if_ne (tgt := 69) d_M_planByRule_33 (by decide) (by omega) (fun hc3 => ?_) (fun hc3 => ?_)
      · refine jI_inc d_M_planByRule_69 rfl rfl ?_
        try dsimp only [List.set]
        refine jx_goto (tgt := 17) d_M_planByRule_72 (by decide) ?_
        exact ih (x) (t + 1) (by rw [iFor_s _ _ (by omega), ← hx]; exact (if_neg (by omega)).symm) (by omega) (by omega)
      · refine jx_iload_n d_M_planByRule_36 rfl rfl ?_
        refine jx_iload d_M_planByRule_37 rfl ?_
        refine jI_bit d_M_planByRule_39 d_M_planByRule_40 d_M_planByRule_41 ⟨by omega, by omega⟩ ⟨by omega, by omega⟩ ?_
        have b4 := sBit_01 k t
        refine jI_if_ne (tgt := 69) d_M_planByRule_42 (by decide) (by omega) (fun hc5 => ?_) (fun hc5 => ?_)
        · refine jI_inc d_M_planByRule_69 rfl rfl ?_
          try dsimp only [List.set]
          refine jx_goto (tgt := 17) d_M_planByRule_72 (by decide) ?_
          exact ih (x) (t + 1) (by rw [iFor_s _ _ (by omega), ← hx]; exact (if_neg (by omega)).symm) (by omega) (by omega)
        · refine jx_iload_n d_M_planByRule_45 rfl rfl ?_
          refine jI_const d_M_planByRule_46 ?_
          refine jI_icmp_eq (tgt := 66) d_M_planByRule_47 (by decide) (by omega) (by omega) (fun hc6 => ?_) (fun hc6 => ?_)
          · refine jx_iload d_M_planByRule_66 rfl ?_
            refine jx_istore_n d_M_planByRule_68 rfl (Nat.le_of_ble_eq_true rfl) rfl ?_
            try dsimp only [List.set]
            refine jI_inc d_M_planByRule_69 rfl rfl ?_
            try dsimp only [List.set]
            refine jx_goto (tgt := 17) d_M_planByRule_72 (by decide) ?_
            exact ih (t) (t + 1) (by rw [iFor_s _ _ (by omega), ← hx]; exact (if_pos ⟨by omega, by omega, by omega⟩).symm) (by omega) (by omega)
          · refine jx_aload_n d_M_planByRule_50 rfl rfl ?_
            refine mx_ar 16 d_M_planByRule_51 (f_M_47 hB) hM (by decide) ?_
            refine jx_iload d_M_planByRule_54 rfl ?_
            refine mx_ld (n := 16) d_M_planByRule_56 hM (by decide) rfl ⟨by omega, by omega⟩ ?_
            have r7 : 0 ≤ S 16 t ∧ S 16 t ≤ 100000 := hI.r 16 t (n := 16) (by decide) rfl ⟨by omega, by omega⟩
            refine jx_aload_n d_M_planByRule_57 rfl rfl ?_
            refine mx_ar 16 d_M_planByRule_58 (f_M_47 hB) hM (by decide) ?_
            refine jx_iload_n d_M_planByRule_61 rfl rfl ?_
            refine mx_ld (n := 16) d_M_planByRule_62 hM (by decide) rfl ⟨by omega, by omega⟩ ?_
            have r8 : 0 ≤ S 16 x ∧ S 16 x ≤ 100000 := hI.r 16 x (n := 16) (by decide) rfl ⟨by omega, by omega⟩
            refine jI_icmp_ge (tgt := 69) d_M_planByRule_63 (by decide) (by omega) (by omega) (fun hc9 => ?_) (fun hc9 => ?_)
            · refine jI_inc d_M_planByRule_69 rfl rfl ?_
              try dsimp only [List.set]
              refine jx_goto (tgt := 17) d_M_planByRule_72 (by decide) ?_
              exact ih (x) (t + 1) (by rw [iFor_s _ _ (by omega), ← hx]; exact (if_neg (by omega)).symm) (by omega) (by omega)
            · refine jx_iload d_M_planByRule_66 rfl ?_
              refine jx_istore_n d_M_planByRule_68 rfl (Nat.le_of_ble_eq_true rfl) rfl ?_
              try dsimp only [List.set]
              refine jI_inc d_M_planByRule_69 rfl rfl ?_
              try dsimp only [List.set]
              refine jx_goto (tgt := 17) d_M_planByRule_72 (by decide) ?_
              exact ih (t) (t + 1) (by rw [iFor_s _ _ (by omega), ← hx]; exact (if_pos ⟨by omega, by omega, by omega⟩).symm) (by omega) (by omega)
theorem l_M_rule {E : jx_E} {l : Launch} {d : Nat} {w0 : jx_W} {S0 : mS} {m : Nat} {A : Nat → Nat} (hB : jx_B E) (hP : 0 ≤ S0 0 0 ∧ S0 0 0 ≤ 4) (hT : 0 ≤ S0 1 0 ∧ S0 1 0 ≤ 16) (hn : 0 ≤ S0 2 0 ∧ S0 2 0 ≤ 100000) : ∀ (j : Nat) (k i : Int) (X Y : Option Value) (S : mS) (w : jx_W), mR E S w m A → sI S → mF m A w0 w → (k, S) = aFor gRule (0, S0) i → S 0 0 = S0 0 0 → S 1 0 = S0 1 0 → S 2 0 = S0 2 0 → 0 ≤ k ∧ k < 65536 → 0 ≤ i ∧ i ≤ S0 1 0 → S0 1 0 - i < j → jx_G E l Y_M_planByRule (d + 5) (jm_po E m A w0 none (oRule S0)) 4 [some (.ref m), some (.int (iI k)), some (.int (iI i)), X, Y] [] w := by
  intro j
  induction j with
  | zero => intro k i X Y S w hM hI hF hx a0 a1 a2 hk hi hz; exfalso; omega
  | succ j ih =>
    intro k i X Y S w hM hI hF hx a0 a1 a2 hk hi hz
    have hdr := gDue_rg (S := S) (k := k) (n := S 1 0) (by omega)
    have hdr : -1 ≤ sDue S k ∧ sDue S k < S 1 0 := by unfold sDue; omega
    refine jx_iload_n d_M_planByRule_4 rfl rfl ?_
    refine jx_aload_n d_M_planByRule_5 rfl rfl ?_
    refine mx_sc 1 d_M_planByRule_6 (f_M_94 hB) hM (by decide) ?_
    refine jI_icmp_ge (tgt := 98) d_M_planByRule_9 (by decide) (by omega) (by omega) (fun hc1 => ?_) (fun hc1 => ?_)
    · exact jx_vret d_M_planByRule_98 rfl ⟨rfl, (by first | ((have e : i = S0 1 0 := by omega); unfold oRule; rw [← e, ← hx]; exact hM) | (unfold oRule; rw [aFor_stay (n := i) (by omega) (by omega) (fun _ _ => by rw [← hx]; exact if_pos (by dsimp only; omega)), ← hx]; exact hM)), hF⟩
    · refine jI_const d_M_planByRule_12 ?_
      refine jx_istore_n d_M_planByRule_13 rfl (Nat.le_of_ble_eq_true rfl) rfl ?_
      try dsimp only [List.set]
      refine jI_const d_M_planByRule_14 ?_
      refine jx_istore d_M_planByRule_15 (Nat.le_of_ble_eq_true rfl) rfl ?_
      try dsimp only [List.set]
      refine l_M_ruleI hB hM hI (by omega) (by omega) ?_ 17 (-1) 0 rfl (by omega) (by omega)
      refine jx_iload_n d_M_planByRule_75 rfl rfl ?_
      refine jI_const d_M_planByRule_76 ?_
      refine jI_icmp_ne (tgt := 81) d_M_planByRule_77 (by decide) (by omega) (by omega) (fun hc2 => ?_) (fun hc2 => ?_)
      · refine jx_iload_n d_M_planByRule_81 rfl rfl ?_
        refine jI_const d_M_planByRule_82 ?_
        refine jx_iload_n d_M_planByRule_83 rfl rfl ?_
        refine jI_setbit d_M_planByRule_84 d_M_planByRule_85 ⟨by omega, by omega⟩ ⟨by omega, by omega⟩ ?_
        have u3 := sSet_rg (n := 16) (x := k) (k := (sDue S k)) ⟨by omega, by omega⟩ ⟨by omega, by omega⟩
        refine jx_istore_n d_M_planByRule_86 rfl (Nat.le_of_ble_eq_true rfl) rfl ?_
        try dsimp only [List.set]
        refine jx_aload_n d_M_planByRule_87 rfl rfl ?_
        refine jx_iload_n d_M_planByRule_88 rfl rfl ?_
        refine jm_callV (As := [.int (iI (sDue S k))]) d_M_planByRule_89 (m_M_planOne hB) (v_M_172 hB) hB hM.1 rfl (Nat.le_of_ble_eq_true rfl) (Nat.le_of_ble_eq_true rfl) (w_M_planOne hB hM hI (t := sDue S k) (by omega) (by omega) (by omega) (by omega)) (fun w hM hF1 => ?_)
        have hF := hF.tr hF1
        obtain ⟨S4, hS4⟩ : ∃ zz, zz = oOne S (sDue S k) := ⟨_, rfl⟩
        rw [← hS4] at hM
        have hIS4 : sI S4 := by rw [hS4]; exact sI_one hI (by omega) (by omega) (by omega) (by omega)
        have e5 : S4 0 0 = S 0 0 := by rw [hS4]; rfl
        have e6 : S4 1 0 = S 1 0 := by rw [hS4]; rfl
        have e7 : S4 2 0 = S 2 0 := by rw [hS4]; rfl
        have e8 : S4 23 0 = S 23 0 := by rw [hS4]; rfl
        refine jI_inc d_M_planByRule_92 rfl rfl ?_
        try dsimp only [List.set]
        refine jx_goto (tgt := 4) d_M_planByRule_95 (by decide) ?_
        exact ih (sSet k (sDue S k)) (i + 1) _ _ S4 w hM hIS4 hF (by rw [aFor_s _ _ (by omega), ← hx]; unfold gRule; rw [if_neg (by dsimp only; omega), hS4]) (by omega) (by omega) (by omega) (by omega) (by omega) (by omega)
      · exact jx_vret d_M_planByRule_80 rfl ⟨rfl, (by first | ((have e : i = S0 1 0 := by omega); unfold oRule; rw [← e, ← hx]; exact hM) | (unfold oRule; rw [aFor_stay (n := i) (by omega) (by omega) (fun _ _ => by rw [← hx]; exact if_pos (by dsimp only; omega)), ← hx]; exact hM)), hF⟩
theorem w_M_planByRule {E : jx_E} {l : Launch} {d : Nat} {w : jx_W} {S : mS} {m : Nat} {A : Nat → Nat} (hB : jx_B E) (hM : mR E S w m A) (hI : sI S) (hP : 0 ≤ S 0 0 ∧ S 0 0 ≤ 4) (hT : 0 ≤ S 1 0 ∧ S 1 0 ≤ 16) (hn : 0 ≤ S 2 0 ∧ S 2 0 ≤ 100000) : jx_G E l Y_M_planByRule (d + 5) (jm_po E m A w none (oRule S)) 0 (jx_ent [.ref m] 5) [] w := by
  show jx_G E l Y_M_planByRule (d + 5) _ 0 [some (.ref m), none, none, none, none] [] w
  refine jI_const d_M_planByRule_0 ?_
  refine jx_istore_n d_M_planByRule_1 rfl (Nat.le_of_ble_eq_true rfl) rfl ?_
  try dsimp only [List.set]
  refine jI_const d_M_planByRule_2 ?_
  refine jx_istore_n d_M_planByRule_3 rfl (Nat.le_of_ble_eq_true rfl) rfl ?_
  try dsimp only [List.set]
  exact l_M_rule hB hP hT hn 17 0 0 _ _ S w hM hI mF.rf rfl rfl rfl rfl (by omega) (by omega) (by omega)
