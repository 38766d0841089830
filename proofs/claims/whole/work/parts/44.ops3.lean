/-! 44.ops3: loops of the reference -/
def sForN (g : mS → Int → mS) (S : mS) : Nat → mS
  | 0 => S
  | k + 1 => g (sForN g S k) k
/-- the state behind t turns of a loop -/
def sFor (g : mS → Int → mS) (S : mS) (t : Int) : mS := sForN g S t.toNat
theorem sFor_0 (g : mS → Int → mS) (S : mS) : sFor g S 0 = S := rfl
theorem sFor_s (g : mS → Int → mS) (S : mS) {t : Int} (h : 0 ≤ t) : sFor g S (t + 1) = g (sFor g S t) t := by
  unfold sFor
  rw [show (t + 1).toNat = t.toNat + 1 by omega]
  show g (sForN g S t.toNat) (t.toNat : Int) = _
  rw [Int.toNat_of_nonneg h]
theorem sForN_look {g : mS → Int → mS} {S : mS} {f : Nat} (h : ∀ S t i, i ≠ t → g S t f i = S f i) : ∀ (k : Nat) (i : Int), (k : Int) ≤ i → sForN g S k f i = S f i
  | 0, _, _ => rfl
  | k + 1, i, hi => by
    show g (sForN g S k) k f i = _
    rw [h _ _ _ (by omega), sForN_look h k i (by omega)]
theorem sFor_look {g : mS → Int → mS} {S : mS} {f : Nat} (h : ∀ S t i, i ≠ t → g S t f i = S f i) {t i : Int} (ht : 0 ≤ t) (hi : t ≤ i) : sFor g S t f i = S f i := sForN_look h t.toNat i (by omega)
theorem sForN_ind {g : mS → Int → mS} {S : mS} {P : mS → Prop} (h0 : P S) (k : Nat) (h : ∀ S (t : Int), 0 ≤ t ∧ t < k → P S → P (g S t)) : P (sForN g S k) := by
  induction k with
  | zero => exact h0
  | succ k ih => exact h _ _ (by omega) (ih (fun S t ht => h S t (by omega)))
theorem sFor_ind {g : mS → Int → mS} {S : mS} {P : mS → Prop} (h0 : P S) {n : Int} (h : ∀ S t, 0 ≤ t ∧ t < n → P S → P (g S t)) : P (sFor g S n) := sForN_ind h0 n.toNat (fun S t ht => h S t (by omega))
def iForN (g : Int → Int → Int) (a : Int) : Nat → Int
  | 0 => a
  | k + 1 => g (iForN g a k) k
/-- the number behind t turns of a loop -/
def iFor (g : Int → Int → Int) (a : Int) (t : Int) : Int := iForN g a t.toNat
theorem iFor_0 (g : Int → Int → Int) (a : Int) : iFor g a 0 = a := rfl
theorem iFor_s (g : Int → Int → Int) (a : Int) {t : Int} (h : 0 ≤ t) : iFor g a (t + 1) = g (iFor g a t) t := by
  unfold iFor
  rw [show (t + 1).toNat = t.toNat + 1 by omega]
  show g (iForN g a t.toNat) (t.toNat : Int) = _
  rw [Int.toNat_of_nonneg h]
theorem iForN_ind {g : Int → Int → Int} {a : Int} {P : Int → Prop} (h0 : P a) (k : Nat) (h : ∀ x (t : Int), 0 ≤ t ∧ t < k → P x → P (g x t)) : P (iForN g a k) := by
  induction k with
  | zero => exact h0
  | succ k ih => exact h _ _ (by omega) (ih (fun S t ht => h S t (by omega)))
theorem iFor_ind {g : Int → Int → Int} {a : Int} {P : Int → Prop} (h0 : P a) {n : Int} (h : ∀ x t, 0 ≤ t ∧ t < n → P x → P (g x t)) : P (iFor g a n) := iForN_ind h0 n.toNat (fun S t ht => h S t (by omega))
def gLeave (p : Int) (S : mS) (t : Int) : mS := if S 19 t = p ∧ S 13 t ≠ 2 then oFree S t else S
theorem oFree_i {S : mS} {t i : Int} {f : Nat} (h : i ≠ t) : oFree S t f i = S f i := by
  unfold oFree sU
  rw [if_neg (fun z => h z.2), if_neg (fun z => h z.2), if_neg (fun z => h z.2)]
theorem gLeave_i {p : Int} {f : Nat} (S : mS) (t i : Int) (h : i ≠ t) : gLeave p S t f i = S f i := by
  unfold gLeave
  split
  · exact oFree_i h
  · rfl
def oLeaves (S : mS) (p : Int) : Int × mS :=
  if 0 ≤ p ∧ p ≤ S 0 0 - 1 then
    if S 10 p = 0 then (0, sU S 3 0 2)
    else (sCnt (fun i => decide (S 19 i = p ∧ S 13 i ≠ 2)) (S 1 0), sFor (gLeave p) (sU (sU (sU S 3 0 0) 10 p 0) 11 p (-1)) (S 1 0))
  else (0, sU S 3 0 1)
/-- the lateness of the plan -/
def sCost (S : mS) : Int := sSum (fun t => if S 13 t = 0 then (if S 19 t = -1 then 100000 else sLate S t (S 20 t)) else 0) (S 1 0)
def sFreeCnt (S : mS) : Int := sCnt (fun i => decide (S 13 i = 0 ∧ S 19 i = -1)) (S 1 0)
def oCount (S : mS) (k : Int) : Int × mS := (if k = 0 then S 0 0 else if k = 1 then S 1 0 else if 2 ≤ k ∧ k ≤ 4 then sInS S (k - 2) else if k = 5 then sFreeCnt S else if k = 6 then S 2 0 else if k = 7 then sCost S else -1, sU S 3 0 0)
def gLeast (S : mS) (t : Int) (a p : Int) : Int := if sMay S p t = 1 ∧ sAlone S p t ≠ -1 ∧ sLate S t (sAlone S p t) < a then sLate S t (sAlone S p t) else a
def sLeast (S : mS) (t : Int) : Int := iFor (gLeast S t) 100000 (S 0 0)
def oBound (S : mS) : Int × mS := (sSum (fun t => if S 13 t = 0 then sLeast S t else 0) (S 1 0), sU S 3 0 0)
def gNext (S : mS) (p k : Int) (x t : Int) : Int := if S 13 t = 0 ∧ S 19 t = p ∧ sBit k t = 0 ∧ (x = -1 ∨ S 20 t < S 20 x) then t else x
def sNext (S : mS) (p k : Int) : Int := iFor (gNext S p k) (-1) (S 1 0)
def sTkN (S : mS) (p : Int) : Nat → Int
  | 0 => 0
  | n + 1 => if sNext S p (sTkN S p n) = -1 then sTkN S p n else sSet (sTkN S p n) (sNext S p (sTkN S p n))
def sTk (S : mS) (p : Int) (n : Int) : Int := sTkN S p n.toNat
theorem sTk_0 (S : mS) (p : Int) : sTk S p 0 = 0 := rfl
theorem sTk_s (S : mS) (p : Int) {n : Int} (h : 0 ≤ n) : sTk S p (n + 1) = if sNext S p (sTk S p n) = -1 then sTk S p n else sSet (sTk S p n) (sNext S p (sTk S p n)) := by
  unfold sTk
  rw [show (n + 1).toNat = n.toNat + 1 by omega]
  rfl
/-- the task in place i of the plan of p -/
def sPlan (S : mS) (p i : Int) : Int := sNext S p (sTk S p i)
theorem sNext_rg {S : mS} {p k : Int} (hT : 0 ≤ S 1 0 ∧ S 1 0 ≤ 16) : -1 ≤ sNext S p k ∧ sNext S p k < 16 := by
  unfold sNext
  refine iFor_ind (P := fun x => -1 ≤ x ∧ x < 16) (by omega) (fun x t ht hx => ?_)
  unfold gNext
  split <;> omega
theorem sPlan_rg {S : mS} {p i : Int} (hT : 0 ≤ S 1 0 ∧ S 1 0 ≤ 16) : -1 ≤ sPlan S p i ∧ sPlan S p i < 16 := sNext_rg hT
theorem sPlan_stay {S : mS} {p i j : Int} (hi : 0 ≤ i) (h : sPlan S p i = -1) (hj : i ≤ j) : sPlan S p j = -1 := by
  have key : ∀ k : Nat, sPlan S p (i + k) = -1 := by
    intro k
    induction k with
    | zero => rw [show i + ((0 : Nat) : Int) = i by omega]; exact h
    | succ k ih =>
      unfold sPlan at ih ⊢
      rw [show i + ((k + 1 : Nat) : Int) = (i + k) + 1 by omega, sTk_s _ _ (by omega), if_pos ih]
      exact ih
  have := key (j - i).toNat
  rw [show i + ((j - i).toNat : Int) = j by omega] at this
  exact this
def sKn (S : mS) (p : Int) : Int := sCnt (fun i => decide (sPlan S p i ≠ -1)) 16
theorem sCnt_end {P : Int → Bool} {n m : Int} (hn : 0 ≤ n) (hm : n ≤ m) (h : ∀ i, n ≤ i ∧ i < m → P i = false) : sCnt P m = sCnt P n := by
  have key : ∀ k : Nat, n + k ≤ m → sCnt P (n + k) = sCnt P n := by
    intro k
    induction k with
    | zero => intro _; rw [show n + ((0 : Nat) : Int) = n by omega]
    | succ k ih =>
      intro hk
      rw [show n + ((k + 1 : Nat) : Int) = (n + k) + 1 by omega, sCnt_s _ (by omega), ih (by omega), h _ (by omega)]
      simp
  have := key (m - n).toNat (by omega)
  rw [show n + ((m - n).toNat : Int) = m by omega] at this
  exact this
def oGive (S : mS) (p : Int) : Int × mS :=
  if 0 ≤ p ∧ p ≤ S 0 0 - 1 then
    if S 10 p = 0 ∨ S 11 p ≠ -1 ∨ (S 7 p ≤ S 2 0 ∧ S 2 0 < S 8 p) ∨ S 2 0 < S 5 p ∨ S 6 p ≤ S 2 0 then (0, sU (sU S 3 0 0) 3 0 2)
    else if sPlan S p 0 = -1 ∨ S 2 0 < S 20 (sPlan S p 0) then (-1, sU (sU S 3 0 0) 3 0 0)
    else (sPlan S p 0, sU (sU (sU (sU (sU (sU S 3 0 0) 3 0 0) 13 (sPlan S p 0) 1) 20 (sPlan S p 0) (S 2 0)) 11 p (sPlan S p 0)) 9 p (S 17 (sPlan S p 0)))
  else (0, sU S 3 0 1)
def oOrder (S : mS) (p i : Int) : Int × mS :=
  if 0 ≤ p ∧ p ≤ S 0 0 - 1 then
    if i < 0 then (0, sU S 3 0 2) else (if 16 ≤ i then -1 else sPlan S p i, sU S 3 0 0)
  else (0, sU S 3 0 1)
def oKnown (S : mS) (p k : Int) : Int × mS :=
  if 0 ≤ p ∧ p ≤ S 0 0 - 1 then
    if 0 ≤ k ∧ k ≤ 5 then (if k = 0 then (if S 10 p = 0 then 0 else 1) else if k = 1 then S 4 p else if k = 2 then S 9 p else if k = 3 then S 11 p else if k = 4 then sDone S p else sKn S p, sU S 3 0 0)
    else (0, sU S 3 0 2)
  else (0, sU S 3 0 1)
section
variable {E : jx_E} {m : Nat} {A : Nat → Nat} {w0 w : jx_W}
/-- a loop that changes nothing gives the answer -/
theorem jm_w {l : Launch} {Y : jx_Y} {d : Nat} {pc : Nat} {L : List (Option Value)} {st : List Value} {o : Int × mS} {v : Int} {S : mS} (h : jx_G E l Y d (jx_eq (.inr (some (.int (iI v)))) w) pc L st w) (e : o = (v, S)) (hM : mR E S w m A) (hF : mF m A w0 w) : jx_G E l Y d (jm_po E m A w0 (some (.int (iI o.1))) o.2) pc L st w := jx_weak h (fun r w' z => by obtain ⟨z1, z2⟩ := z; subst z1 z2; exact jm_i e hM hF)
end
theorem l_M_leaves {E : jx_E} {l : Launch} {d : Nat} {w0 : jx_W} {S0 : mS} {m : Nat} {A : Nat → Nat} {p : Int} (hB : jx_B E) (hT : 0 ≤ S0 1 0 ∧ S0 1 0 ≤ 16) (hp : 0 ≤ p ∧ p < 4) : ∀ (j : Nat) (n t : Int) (S : mS) (w : jx_W), mR E S w m A → sI S → mF m A w0 w → S = sFor (gLeave p) S0 t → n = sCnt (fun i => decide (S0 19 i = p ∧ S0 13 i ≠ 2)) t → S 1 0 = S0 1 0 → 0 ≤ t ∧ t ≤ S0 1 0 → S0 1 0 - t < j → jx_G E l Y_M_leaves (d + 1) (jm_po E m A w0 (some (.int (iI (sCnt (fun i => decide (S0 19 i = p ∧ S0 13 i ≠ 2)) (S0 1 0))))) (sFor (gLeave p) S0 (S0 1 0))) 57 [some (.ref m), some (.int (iI p)), some (.int (iI n)), some (.int (iI t))] [] w := by
  intro j
  induction j with
  | zero => intro n t S w hM hI hF hS hn h0 ht hz; exfalso; omega
  | succ j ih =>
    intro n t S w hM hI hF hS hn h0 ht hz
    have a1 : S 19 t = S0 19 t := by rw [hS]; exact sFor_look gLeave_i (by omega) (by omega)
    have a2 : S 13 t = S0 13 t := by rw [hS]; exact sFor_look gLeave_i (by omega) (by omega)
    have hnr := sCnt_rg (fun i => decide (S0 19 i = p ∧ S0 13 i ≠ 2)) ht.1
    refine jx_iload_n d_M_leaves_57 rfl rfl ?_
    refine jx_aload_n d_M_leaves_58 rfl rfl ?_
    refine mx_sc 1 d_M_leaves_59 (f_M_94 hB) hM (by decide) ?_
    refine jI_icmp_ge (tgt := 99) d_M_leaves_62 (by decide) (by omega) (by omega) (fun hc1 => ?_) (fun hc1 => ?_)
    · refine jx_iload_n d_M_leaves_99 rfl rfl ?_
      exact jx_iret d_M_leaves_100 rfl ⟨jr_i (by rw [hn, show t = S0 1 0 by omega]), (by rw [← show t = S0 1 0 by omega, ← hS]; exact hM), hF⟩
    · refine jx_aload_n d_M_leaves_65 rfl rfl ?_
      refine mx_ar 19 d_M_leaves_66 (f_M_56 hB) hM (by decide) ?_
      refine jx_iload_n d_M_leaves_69 rfl rfl ?_
      refine mx_ld (n := 16) d_M_leaves_70 hM (by decide) rfl ⟨by omega, by omega⟩ ?_
      have r2 : -1 ≤ S 19 t ∧ S 19 t ≤ 3 := hI.r 19 t (n := 16) (by decide) rfl ⟨by omega, by omega⟩
      refine jx_iload_n d_M_leaves_71 rfl rfl ?_
      refine jI_icmp_ne (tgt := 93) d_M_leaves_72 (by decide) (by omega) (by omega) (fun hc3 => ?_) (fun hc3 => ?_)
      · refine jI_inc d_M_leaves_93 rfl rfl ?_
        try dsimp only [List.set]
        refine jx_goto (tgt := 57) d_M_leaves_96 (by decide) ?_
        exact ih (n) (t + 1) S w hM hI hF (by rw [sFor_s _ _ (by omega), ← hS]; exact (if_neg (by omega)).symm) (by rw [sCnt_s _ (by omega), ← hn, if_neg (fun z => absurd (of_decide_eq_true z) (by omega)), Int.add_zero]) (by omega) (by omega) (by omega)
      · refine jx_aload_n d_M_leaves_75 rfl rfl ?_
        refine mx_ar 13 d_M_leaves_76 (f_M_38 hB) hM (by decide) ?_
        refine jx_iload_n d_M_leaves_79 rfl rfl ?_
        refine mx_ld (n := 16) d_M_leaves_80 hM (by decide) rfl ⟨by omega, by omega⟩ ?_
        have r4 : 0 ≤ S 13 t ∧ S 13 t ≤ 2 := hI.r 13 t (n := 16) (by decide) rfl ⟨by omega, by omega⟩
        refine jI_const d_M_leaves_81 ?_
        refine jI_icmp_eq (tgt := 93) d_M_leaves_82 (by decide) (by omega) (by omega) (fun hc5 => ?_) (fun hc5 => ?_)
        · refine jI_inc d_M_leaves_93 rfl rfl ?_
          try dsimp only [List.set]
          refine jx_goto (tgt := 57) d_M_leaves_96 (by decide) ?_
          exact ih (n) (t + 1) S w hM hI hF (by rw [sFor_s _ _ (by omega), ← hS]; exact (if_neg (by omega)).symm) (by rw [sCnt_s _ (by omega), ← hn, if_neg (fun z => absurd (of_decide_eq_true z) (by omega)), Int.add_zero]) (by omega) (by omega) (by omega)
        · refine jx_aload_n d_M_leaves_85 rfl rfl ?_
          refine jx_iload_n d_M_leaves_86 rfl rfl ?_
          refine jm_callV (As := [.int (iI (t))]) d_M_leaves_87 (m_M_free hB) (v_M_113 hB) hB hM.1 rfl (Nat.le_of_ble_eq_true rfl) (Nat.le_of_ble_eq_true rfl) (w_M_free hB hM hI (t := t) (by omega)) (fun w hM hF1 => ?_)
          have hF := hF.tr hF1
          obtain ⟨S6, hS6⟩ : ∃ zz, zz = oFree S t := ⟨_, rfl⟩
          rw [← hS6] at hM
          have hIS6 : sI S6 := by rw [hS6]; exact sI_free hI _
          have e7 : S6 0 0 = S 0 0 := by rw [hS6]; rfl
          have e8 : S6 1 0 = S 1 0 := by rw [hS6]; rfl
          have e9 : S6 2 0 = S 2 0 := by rw [hS6]; rfl
          have e10 : S6 23 0 = S 23 0 := by rw [hS6]; rfl
          refine jI_inc d_M_leaves_90 rfl rfl ?_
          try dsimp only [List.set]
          refine jI_inc d_M_leaves_93 rfl rfl ?_
          try dsimp only [List.set]
          refine jx_goto (tgt := 57) d_M_leaves_96 (by decide) ?_
          exact ih (n + 1) (t + 1) S6 w hM hIS6 hF (by rw [sFor_s _ _ (by omega), ← hS]; exact hS6.trans (if_pos (by omega)).symm) (by rw [sCnt_s _ (by omega), ← hn, if_pos (decide_eq_true (by omega))]) (by omega) (by omega) (by omega)
theorem w_M_leaves {E : jx_E} {l : Launch} {d : Nat} {w : jx_W} {S : mS} {m : Nat} {A : Nat → Nat} {p : Int} (hB : jx_B E) (hM : mR E S w m A) (hI : sI S) (hP : 0 ≤ S 0 0 ∧ S 0 0 ≤ 4) (hT : 0 ≤ S 1 0 ∧ S 1 0 ≤ 16) (h1 : iR p) : jx_G E l Y_M_leaves (d + 2) (jm_po E m A w (some (.int (iI (oLeaves S p).1))) (oLeaves S p).2) 0 (jx_ent [.ref m, .int (iI p)] 4) [] w := by
  have hF : mF m A w w := mF.rf
  generalize hw0 : w = w0 at hF ⊢
  rw [hw0] at hM
  have hF : mF m A w0 w0 := mF.rf
  show jx_G E l Y_M_leaves (d + 2) (jm_po E m A w0 _ _) 0 [some (.ref m), some (.int (iI p)), none, none] [] w0
  refine jx_aload_n d_M_leaves_0 rfl rfl ?_
  refine jx_aload_n d_M_leaves_1 rfl rfl ?_
  refine jx_iload_n d_M_leaves_2 rfl rfl ?_
  refine jx_callV_r (As := [.int (iI (p))]) d_M_leaves_3 (m_M_isPerson hB) (v_M_98 hB) (by decide) (jx_c5 hB) hM.1 rfl (Nat.le_of_ble_eq_true rfl) (Nat.le_of_ble_eq_true rfl) (w_M_isPerson hB hM hI (x := p) (by omega) (by omega)) ?_
  have q1 : sIn (p) 0 (S 0 0 - 1) = 0 ∧ ¬ (0 ≤ p ∧ p ≤ S 0 0 - 1) ∨ sIn (p) 0 (S 0 0 - 1) = 1 ∧ (0 ≤ p ∧ p ≤ S 0 0 - 1) := by unfold sIn; split <;> omega
  refine jI_if_ne (tgt := 13) d_M_leaves_6 (by decide) (by omega) (fun hc2 => ?_) (fun hc2 => ?_)
  · refine jx_aload_n d_M_leaves_13 rfl rfl ?_
    refine mx_ar 10 d_M_leaves_14 (f_M_28 hB) hM (by decide) ?_
    refine jx_iload_n d_M_leaves_17 rfl rfl ?_
    refine mx_zld d_M_leaves_18 hM ⟨by omega, by omega⟩ ?_
    have r3 : 0 ≤ S 10 p ∧ S 10 p ≤ 1 := hI.r 10 p (n := 4) (by decide) rfl ⟨by omega, by omega⟩
    refine jI_if_ne (tgt := 26) d_M_leaves_19 (by decide) (by omega) (fun hc4 => ?_) (fun hc4 => ?_)
    · refine jI_const d_M_leaves_26 ?_
      refine mx_psc d_M_leaves_27 (f_M_83 hB) (t_5_3 hB) hM (by decide) (fun w hM hF1 => ?_)
      have hF := hF.tr hF1
      obtain ⟨S5, hS5⟩ : ∃ zz, zz = sU S 3 0 0 := ⟨_, rfl⟩
      rw [← hS5] at hM
      have hIS5 : sI S5 := by rw [hS5]; exact hI.u 3 _ _ (fun z => absurd z (by decide))
      have e6 : S5 0 0 = S 0 0 := by rw [hS5]; rfl
      have e7 : S5 1 0 = S 1 0 := by rw [hS5]; rfl
      have e8 : S5 2 0 = S 2 0 := by rw [hS5]; rfl
      have e9 : S5 23 0 = S 23 0 := by rw [hS5]; rfl
      refine jx_aload_n d_M_leaves_30 rfl rfl ?_
      refine mx_sc 3 d_M_leaves_31 (f_M_83 hB) hM (by decide) ?_
      rw [show S5 3 0 = 0 by simp [hS5, sU, sUs]]
      refine jI_if_eq (tgt := 39) d_M_leaves_34 (by decide) (by omega) (fun _ => ?_) (fun z => absurd z (by omega))
      refine jx_aload_n d_M_leaves_39 rfl rfl ?_
      refine mx_ar 10 d_M_leaves_40 (f_M_28 hB) hM (by decide) ?_
      refine jx_iload_n d_M_leaves_43 rfl rfl ?_
      refine jI_const d_M_leaves_44 ?_
      refine mx_zst d_M_leaves_45 hM ⟨by omega, by omega⟩ (by omega) (fun w hM hF1 => ?_)
      have hF := hF.tr hF1
      obtain ⟨S11, hS11⟩ : ∃ zz, zz = sU S5 10 p 0 := ⟨_, rfl⟩
      rw [← hS11] at hM
      have hIS11 : sI S11 := by rw [hS11]; exact hIS5.u 10 _ _ (fun _ => (show (0 : Int) ≤ 0 ∧ 0 ≤ 1 by constructor <;> omega))
      have e12 : S11 0 0 = S5 0 0 := by rw [hS11]; rfl
      have e13 : S11 1 0 = S5 1 0 := by rw [hS11]; rfl
      have e14 : S11 2 0 = S5 2 0 := by rw [hS11]; rfl
      have e15 : S11 23 0 = S5 23 0 := by rw [hS11]; rfl
      refine jx_aload_n d_M_leaves_46 rfl rfl ?_
      refine mx_ar 11 d_M_leaves_47 (f_M_32 hB) hM (by decide) ?_
      refine jx_iload_n d_M_leaves_50 rfl rfl ?_
      refine jI_const d_M_leaves_51 ?_
      refine mx_st (n := 4) d_M_leaves_52 hM (by decide) rfl ⟨by omega, by omega⟩ (fun w hM hF1 => ?_)
      have hF := hF.tr hF1
      obtain ⟨S16, hS16⟩ : ∃ zz, zz = sU S11 11 p ((-1)) := ⟨_, rfl⟩
      rw [← hS16] at hM
      have hIS16 : sI S16 := by rw [hS16]; exact hIS11.u 11 _ _ (fun _ => (show (-1 : Int) ≤ (-1) ∧ (-1) ≤ 15 by constructor <;> omega))
      have e17 : S16 0 0 = S11 0 0 := by rw [hS16]; rfl
      have e18 : S16 1 0 = S11 1 0 := by rw [hS16]; rfl
      have e19 : S16 2 0 = S11 2 0 := by rw [hS16]; rfl
      have e20 : S16 23 0 = S11 23 0 := by rw [hS16]; rfl
      refine jI_const d_M_leaves_53 ?_
      refine jx_istore_n d_M_leaves_54 rfl (Nat.le_of_ble_eq_true rfl) rfl ?_
      try dsimp only [List.set]
      refine jI_const d_M_leaves_55 ?_
      refine jx_istore_n d_M_leaves_56 rfl (Nat.le_of_ble_eq_true rfl) rfl ?_
      try dsimp only [List.set]
      exact jx_weak (l_M_leaves (p := p) (S0 := S16) (w0 := w) hB (by omega) (by omega) 17 0 0 S16 w hM hIS16 (mF.rf) (sFor_0 _ _).symm (sCnt_0 _).symm rfl (by omega) (by omega)) (fun r w' z => by
                obtain ⟨z1, z2, z3⟩ := z
                subst z1
                refine jm_i (S := sFor (gLeave p) S16 (S16 1 0)) ?_ z2 (hF.tr z3)
                rw [hS16, hS11, hS5]; unfold oLeaves; (repeat' split) <;> first | rfl | (exfalso; omega))
    · refine jI_const d_M_leaves_22 ?_
      refine jx_goto (tgt := 27) d_M_leaves_23 (by decide) ?_
      refine mx_psc d_M_leaves_27 (f_M_83 hB) (t_5_3 hB) hM (by decide) (fun w hM hF1 => ?_)
      have hF := hF.tr hF1
      obtain ⟨S21, hS21⟩ : ∃ zz, zz = sU S 3 0 2 := ⟨_, rfl⟩
      rw [← hS21] at hM
      have hIS21 : sI S21 := by rw [hS21]; exact hI.u 3 _ _ (fun z => absurd z (by decide))
      have e22 : S21 0 0 = S 0 0 := by rw [hS21]; rfl
      have e23 : S21 1 0 = S 1 0 := by rw [hS21]; rfl
      have e24 : S21 2 0 = S 2 0 := by rw [hS21]; rfl
      have e25 : S21 23 0 = S 23 0 := by rw [hS21]; rfl
      refine jx_aload_n d_M_leaves_30 rfl rfl ?_
      refine mx_sc 3 d_M_leaves_31 (f_M_83 hB) hM (by decide) ?_
      rw [show S21 3 0 = 2 by simp [hS21, sU, sUs]]
      refine jI_if_eq (tgt := 39) d_M_leaves_34 (by decide) (by omega) (fun z => absurd z (by omega)) (fun _ => ?_)
      refine jI_const d_M_leaves_37 ?_
      exact jx_iret d_M_leaves_38 rfl (jm_i (S := S21) (by rw [hS21]; unfold oLeaves; (repeat' split) <;> first | rfl | exact jp2 (by omega) rfl | (exfalso; omega)) hM hF)
  · refine jI_const d_M_leaves_9 ?_
    refine jx_goto (tgt := 27) d_M_leaves_10 (by decide) ?_
    refine mx_psc d_M_leaves_27 (f_M_83 hB) (t_5_3 hB) hM (by decide) (fun w hM hF1 => ?_)
    have hF := hF.tr hF1
    obtain ⟨S27, hS27⟩ : ∃ zz, zz = sU S 3 0 1 := ⟨_, rfl⟩
    rw [← hS27] at hM
    have hIS27 : sI S27 := by rw [hS27]; exact hI.u 3 _ _ (fun z => absurd z (by decide))
    have e28 : S27 0 0 = S 0 0 := by rw [hS27]; rfl
    have e29 : S27 1 0 = S 1 0 := by rw [hS27]; rfl
    have e30 : S27 2 0 = S 2 0 := by rw [hS27]; rfl
    have e31 : S27 23 0 = S 23 0 := by rw [hS27]; rfl
    refine jx_aload_n d_M_leaves_30 rfl rfl ?_
    refine mx_sc 3 d_M_leaves_31 (f_M_83 hB) hM (by decide) ?_
    rw [show S27 3 0 = 1 by simp [hS27, sU, sUs]]
    refine jI_if_eq (tgt := 39) d_M_leaves_34 (by decide) (by omega) (fun z => absurd z (by omega)) (fun _ => ?_)
    refine jI_const d_M_leaves_37 ?_
    exact jx_iret d_M_leaves_38 rfl (jm_i (S := S27) (by rw [hS27]; unfold oLeaves; (repeat' split) <;> first | rfl | exact jp2 (by omega) rfl | (exfalso; omega)) hM hF)
theorem l_M_count5 {E : jx_E} {l : Launch} {d : Nat} {w : jx_W} {S : mS} {m : Nat} {A : Nat → Nat} {k : Int} (hB : jx_B E) (hM : mR E S w m A) (hI : sI S) (hT : 0 ≤ S 1 0 ∧ S 1 0 ≤ 16) : ∀ (j : Nat) (n t : Int), n = sCnt (fun i => decide (S 13 i = 0 ∧ S 19 i = -1)) t → 0 ≤ t ∧ t ≤ S 1 0 → S 1 0 - t < j → jx_G E l Y_M_count (d) (jx_eq (.inr (some (.int (iI (sFreeCnt S))))) w) 76 [some (.ref m), some (.int (iI k)), some (.int (iI n)), some (.int (iI t))] [] w := by
  intro j
  induction j with
  | zero => intro n t hn ht hz; exfalso; omega
  | succ j ih =>
    intro n t hn ht hz
    have hnr := sCnt_rg (fun i => decide (S 13 i = 0 ∧ S 19 i = -1)) ht.1
    refine jx_iload_n d_M_count_76 rfl rfl ?_
    refine jx_aload_n d_M_count_77 rfl rfl ?_
    refine mx_sc 1 d_M_count_78 (f_M_94 hB) hM (by decide) ?_
    refine jI_icmp_ge (tgt := 112) d_M_count_81 (by decide) (by omega) (by omega) (fun hc1 => ?_) (fun hc1 => ?_)
    · refine jx_iload_n d_M_count_112 rfl rfl ?_
      exact jx_iret d_M_count_113 rfl ⟨jr_i (by rw [hn, show t = S 1 0 by omega]; rfl), rfl⟩
    · refine jx_aload_n d_M_count_84 rfl rfl ?_
      refine mx_ar 13 d_M_count_85 (f_M_38 hB) hM (by decide) ?_
      refine jx_iload_n d_M_count_88 rfl rfl ?_
      refine mx_ld (n := 16) d_M_count_89 hM (by decide) rfl ⟨by omega, by omega⟩ ?_
      have r2 : 0 ≤ S 13 t ∧ S 13 t ≤ 2 := hI.r 13 t (n := 16) (by decide) rfl ⟨by omega, by omega⟩
      refine jI_if_ne (tgt := 106) d_M_count_90 (by decide) (by omega) (fun hc3 => ?_) (fun hc3 => ?_)
      · refine jI_inc d_M_count_106 rfl rfl ?_
        try dsimp only [List.set]
        refine jx_goto (tgt := 76) d_M_count_109 (by decide) ?_
        exact ih (n) (t + 1) (by rw [sCnt_s _ (by omega), ← hn, if_neg (fun z => absurd (of_decide_eq_true z) (by omega)), Int.add_zero]) (by omega) (by omega)
      · refine jx_aload_n d_M_count_93 rfl rfl ?_
        refine mx_ar 19 d_M_count_94 (f_M_56 hB) hM (by decide) ?_
        refine jx_iload_n d_M_count_97 rfl rfl ?_
        refine mx_ld (n := 16) d_M_count_98 hM (by decide) rfl ⟨by omega, by omega⟩ ?_
        have r4 : -1 ≤ S 19 t ∧ S 19 t ≤ 3 := hI.r 19 t (n := 16) (by decide) rfl ⟨by omega, by omega⟩
        refine jI_const d_M_count_99 ?_
        refine jI_icmp_ne (tgt := 106) d_M_count_100 (by decide) (by omega) (by omega) (fun hc5 => ?_) (fun hc5 => ?_)
        · refine jI_inc d_M_count_106 rfl rfl ?_
          try dsimp only [List.set]
          refine jx_goto (tgt := 76) d_M_count_109 (by decide) ?_
          exact ih (n) (t + 1) (by rw [sCnt_s _ (by omega), ← hn, if_neg (fun z => absurd (of_decide_eq_true z) (by omega)), Int.add_zero]) (by omega) (by omega)
        · refine jI_inc d_M_count_103 rfl rfl ?_
          try dsimp only [List.set]
          refine jI_inc d_M_count_106 rfl rfl ?_
          try dsimp only [List.set]
          refine jx_goto (tgt := 76) d_M_count_109 (by decide) ?_
          exact ih (n + 1) (t + 1) (by rw [sCnt_s _ (by omega), ← hn, if_pos (decide_eq_true (by omega))]) (by omega) (by omega)
theorem sCost_rg {S : mS} {t : Int} (hI : sI S) (hT : 0 ≤ S 1 0 ∧ S 1 0 ≤ 16) (ht : 0 ≤ t ∧ t ≤ S 1 0) : 0 ≤ sSum (fun t => if S 13 t = 0 then (if S 19 t = -1 then 100000 else sLate S t (S 20 t)) else 0) t ∧ sSum (fun t => if S 13 t = 0 then (if S 19 t = -1 then 100000 else sLate S t (S 20 t)) else 0) t ≤ 105000 * t := by
  refine sSum_rg (b := 105000) (by decide) ht.1 (fun i hi => ?_)
  have r1 : -1 ≤ S 20 i ∧ S 20 i ≤ 100000 := hI.r 20 i (n := 16) (by decide) rfl ⟨by omega, by omega⟩
  have r2 := sLate_rg (t := i) (s := S 20 i) hI (by omega) r1
  (repeat' split) <;> omega
theorem l_M_count7 {E : jx_E} {l : Launch} {d : Nat} {w : jx_W} {S : mS} {m : Nat} {A : Nat → Nat} {k : Int} (hB : jx_B E) (hM : mR E S w m A) (hI : sI S) (hT : 0 ≤ S 1 0 ∧ S 1 0 ≤ 16) : ∀ (j : Nat) (n t : Int), n = sSum (fun t => if S 13 t = 0 then (if S 19 t = -1 then 100000 else sLate S t (S 20 t)) else 0) t → 0 ≤ t ∧ t ≤ S 1 0 → S 1 0 - t < j → jx_G E l Y_M_count (d + 2) (jx_eq (.inr (some (.int (iI (sCost S))))) w) 121 [some (.ref m), some (.int (iI k)), some (.int (iI n)), some (.int (iI t))] [] w := by
  intro j
  induction j with
  | zero => intro n t hn ht hz; exfalso; omega
  | succ j ih =>
    intro n t hn ht hz
    have hnr := sCost_rg hI hT ht
    rw [← hn] at hnr
    refine jx_iload_n d_M_count_121 rfl rfl ?_
    refine jx_aload_n d_M_count_122 rfl rfl ?_
    refine mx_sc 1 d_M_count_123 (f_M_94 hB) hM (by decide) ?_
    refine jI_icmp_ge (tgt := 173) d_M_count_126 (by decide) (by omega) (by omega) (fun hc1 => ?_) (fun hc1 => ?_)
    · refine jx_iload_n d_M_count_173 rfl rfl ?_
      exact jx_iret d_M_count_174 rfl ⟨jr_i (by rw [hn, show t = S 1 0 by omega]; rfl), rfl⟩
    · refine jx_aload_n d_M_count_129 rfl rfl ?_
      refine mx_ar 13 d_M_count_130 (f_M_38 hB) hM (by decide) ?_
      refine jx_iload_n d_M_count_133 rfl rfl ?_
      refine mx_ld (n := 16) d_M_count_134 hM (by decide) rfl ⟨by omega, by omega⟩ ?_
      have r2 : 0 ≤ S 13 t ∧ S 13 t ≤ 2 := hI.r 13 t (n := 16) (by decide) rfl ⟨by omega, by omega⟩
      refine jI_if_ne (tgt := 167) d_M_count_135 (by decide) (by omega) (fun hc3 => ?_) (fun hc3 => ?_)
      · refine jI_inc d_M_count_167 rfl rfl ?_
        try dsimp only [List.set]
        refine jx_goto (tgt := 121) d_M_count_170 (by decide) ?_
        exact ih (n) (t + 1) (by rw [sSum_s _ (by omega), ← hn, if_neg (by omega), Int.add_zero]) (by omega) (by omega)
      · refine jx_iload_n d_M_count_138 rfl rfl ?_
        refine jx_aload_n d_M_count_139 rfl rfl ?_
        refine mx_ar 19 d_M_count_140 (f_M_56 hB) hM (by decide) ?_
        refine jx_iload_n d_M_count_143 rfl rfl ?_
        refine mx_ld (n := 16) d_M_count_144 hM (by decide) rfl ⟨by omega, by omega⟩ ?_
        have r4 : -1 ≤ S 19 t ∧ S 19 t ≤ 3 := hI.r 19 t (n := 16) (by decide) rfl ⟨by omega, by omega⟩
        refine jI_const d_M_count_145 ?_
        refine jI_icmp_ne (tgt := 154) d_M_count_146 (by decide) (by omega) (by omega) (fun hc5 => ?_) (fun hc5 => ?_)
        · refine jx_aload_n d_M_count_154 rfl rfl ?_
          refine jx_iload_n d_M_count_155 rfl rfl ?_
          refine jx_aload_n d_M_count_156 rfl rfl ?_
          refine mx_ar 20 d_M_count_157 (f_M_59 hB) hM (by decide) ?_
          refine jx_iload_n d_M_count_160 rfl rfl ?_
          refine mx_ld (n := 16) d_M_count_161 hM (by decide) rfl ⟨by omega, by omega⟩ ?_
          have r6 : -1 ≤ S 20 t ∧ S 20 t ≤ 100000 := hI.r 20 t (n := 16) (by decide) rfl ⟨by omega, by omega⟩
          refine jx_callV_r (As := [.int (iI (t)), .int (iI (S 20 t))]) (v := some (.int (iI (sLate S t (S 20 t))))) d_M_count_162 (m_M_lateBy hB) (v_M_134 hB) (by decide) (jx_c5 hB) hM.1 rfl (Nat.le_of_ble_eq_true rfl) (Nat.le_of_ble_eq_true rfl) (w_M_lateBy hB hM hI (t := t) (s := S 20 t) (by omega) (by omega)) ?_
          have q7 := sLate_rg (S := S) (t := t) (s := S 20 t) hI (by omega) (by omega)
          refine jI_add d_M_count_165 ?_
          refine jx_istore_n d_M_count_166 rfl (Nat.le_of_ble_eq_true rfl) rfl ?_
          try dsimp only [List.set]
          refine jI_inc d_M_count_167 rfl rfl ?_
          try dsimp only [List.set]
          refine jx_goto (tgt := 121) d_M_count_170 (by decide) ?_
          exact ih (n + (sLate S t (S 20 t))) (t + 1) (by rw [sSum_s _ (by omega), ← hn, if_pos (by omega), if_neg (by omega)]) (by omega) (by omega)
        · refine jI_ldc d_M_count_149 (k_M_97 hB) (n := 100000) (by decide) ?_
          refine jx_goto (tgt := 165) d_M_count_151 (by decide) ?_
          refine jI_add d_M_count_165 ?_
          refine jx_istore_n d_M_count_166 rfl (Nat.le_of_ble_eq_true rfl) rfl ?_
          try dsimp only [List.set]
          refine jI_inc d_M_count_167 rfl rfl ?_
          try dsimp only [List.set]
          refine jx_goto (tgt := 121) d_M_count_170 (by decide) ?_
          exact ih (n + 100000) (t + 1) (by rw [sSum_s _ (by omega), ← hn, if_pos (by omega), if_pos (by omega)]) (by omega) (by omega)
theorem w_M_count {E : jx_E} {l : Launch} {d : Nat} {w : jx_W} {S : mS} {m : Nat} {A : Nat → Nat} {k : Int} (hB : jx_B E) (hM : mR E S w m A) (hI : sI S) (hP : 0 ≤ S 0 0 ∧ S 0 0 ≤ 4) (hT : 0 ≤ S 1 0 ∧ S 1 0 ≤ 16) (hn : 0 ≤ S 2 0 ∧ S 2 0 ≤ 100000) (h1 : iR k) : jx_G E l Y_M_count (d + 2) (jm_po E m A w (some (.int (iI (oCount S k).1))) (oCount S k).2) 0 (jx_ent [.ref m, .int (iI k)] 4) [] w := by
  have hF : mF m A w w := mF.rf
  generalize hw0 : w = w0 at hF ⊢
  rw [hw0] at hM
  have hF : mF m A w0 w0 := mF.rf
  show jx_G E l Y_M_count (d + 2) (jm_po E m A w0 _ _) 0 [some (.ref m), some (.int (iI k)), none, none] [] w0
  refine jx_aload_n d_M_count_0 rfl rfl ?_
  refine jI_const d_M_count_1 ?_
  refine mx_psc d_M_count_2 (f_M_83 hB) (t_5_3 hB) hM (by decide) (fun w hM hF1 => ?_)
  have hF := hF.tr hF1
  obtain ⟨S1, hS1⟩ : ∃ zz, zz = sU S 3 0 0 := ⟨_, rfl⟩
  rw [← hS1] at hM
  have hIS1 : sI S1 := by rw [hS1]; exact hI.u 3 _ _ (fun z => absurd z (by decide))
  have e2 : S1 0 0 = S 0 0 := by rw [hS1]; rfl
  have e3 : S1 1 0 = S 1 0 := by rw [hS1]; rfl
  have e4 : S1 2 0 = S 2 0 := by rw [hS1]; rfl
  have e5 : S1 23 0 = S 23 0 := by rw [hS1]; rfl
  refine jI_const d_M_count_5 ?_
  refine jx_istore_n d_M_count_6 rfl (Nat.le_of_ble_eq_true rfl) rfl ?_
  try dsimp only [List.set]
  refine jx_iload_n d_M_count_7 rfl rfl ?_
  by_cases hs60 : k = 0
  · refine jx_tableIn (off := 48) (tgt := 56) d_M_count_8 (by rw [iI_toInt (by omega)]; omega) (by rw [iI_toInt (by omega)]; omega) (by rw [iI_toInt (by omega), hs60]; rfl) (by decide) ?_
    refine jx_aload_n d_M_count_56 rfl rfl ?_
    refine mx_sc 0 d_M_count_57 (f_M_87 hB) hM (by decide) ?_
    rw [show S1 0 0 = S 0 0 by simp [hS1, sU, sUs]]
    exact jx_iret d_M_count_60 rfl (jm_i (S := S1) (by rw [hS1]; unfold oCount; (repeat' split) <;> first | rfl | exact jp2 (by omega) rfl | (exfalso; omega)) hM hF)
  by_cases hs61 : k = 1
  · refine jx_tableIn (off := 53) (tgt := 61) d_M_count_8 (by rw [iI_toInt (by omega)]; omega) (by rw [iI_toInt (by omega)]; omega) (by rw [iI_toInt (by omega), hs61]; rfl) (by decide) ?_
    refine jx_aload_n d_M_count_61 rfl rfl ?_
    refine mx_sc 1 d_M_count_62 (f_M_94 hB) hM (by decide) ?_
    rw [show S1 1 0 = S 1 0 by simp [hS1, sU, sUs]]
    exact jx_iret d_M_count_65 rfl (jm_i (S := S1) (by rw [hS1]; unfold oCount; (repeat' split) <;> first | rfl | exact jp2 (by omega) rfl | (exfalso; omega)) hM hF)
  by_cases hs62 : k = 2
  · refine jx_tableIn (off := 58) (tgt := 66) d_M_count_8 (by rw [iI_toInt (by omega)]; omega) (by rw [iI_toInt (by omega)]; omega) (by rw [iI_toInt (by omega), hs62]; rfl) (by decide) ?_
    refine jx_aload_n d_M_count_66 rfl rfl ?_
    refine jx_iload_n d_M_count_67 rfl rfl ?_
    refine jI_const d_M_count_68 ?_
    refine jI_sub d_M_count_69 ?_
    refine jx_callV_r (As := [.int (iI (k - 2))]) (v := some (.int (iI (sInS S1 (k - 2))))) d_M_count_70 (m_M_inState hB) (v_M_194 hB) (by decide) (jx_c5 hB) hM.1 rfl (Nat.le_of_ble_eq_true rfl) (Nat.le_of_ble_eq_true rfl) (w_M_inState hB hM hIS1 (s := k - 2) (by omega) (by omega)) ?_
    rw [show sInS S1 (k - 2) = sInS S (k - 2) by rw [hS1]; rfl]
    have q7 := sInS_rg (S := S) (s := k - 2) (by omega)
    exact jx_iret d_M_count_73 rfl (jm_i (S := S1) (by rw [hS1]; unfold oCount; (repeat' split) <;> first | rfl | exact jp2 (by omega) rfl | (exfalso; omega)) hM hF)
  by_cases hs63 : k = 3
  · refine jx_tableIn (off := 58) (tgt := 66) d_M_count_8 (by rw [iI_toInt (by omega)]; omega) (by rw [iI_toInt (by omega)]; omega) (by rw [iI_toInt (by omega), hs63]; rfl) (by decide) ?_
    refine jx_aload_n d_M_count_66 rfl rfl ?_
    refine jx_iload_n d_M_count_67 rfl rfl ?_
    refine jI_const d_M_count_68 ?_
    refine jI_sub d_M_count_69 ?_
    refine jx_callV_r (As := [.int (iI (k - 2))]) (v := some (.int (iI (sInS S1 (k - 2))))) d_M_count_70 (m_M_inState hB) (v_M_194 hB) (by decide) (jx_c5 hB) hM.1 rfl (Nat.le_of_ble_eq_true rfl) (Nat.le_of_ble_eq_true rfl) (w_M_inState hB hM hIS1 (s := k - 2) (by omega) (by omega)) ?_
    rw [show sInS S1 (k - 2) = sInS S (k - 2) by rw [hS1]; rfl]
    have q8 := sInS_rg (S := S) (s := k - 2) (by omega)
    exact jx_iret d_M_count_73 rfl (jm_i (S := S1) (by rw [hS1]; unfold oCount; (repeat' split) <;> first | rfl | exact jp2 (by omega) rfl | (exfalso; omega)) hM hF)
  by_cases hs64 : k = 4
  · refine jx_tableIn (off := 58) (tgt := 66) d_M_count_8 (by rw [iI_toInt (by omega)]; omega) (by rw [iI_toInt (by omega)]; omega) (by rw [iI_toInt (by omega), hs64]; rfl) (by decide) ?_
    refine jx_aload_n d_M_count_66 rfl rfl ?_
    refine jx_iload_n d_M_count_67 rfl rfl ?_
    refine jI_const d_M_count_68 ?_
    refine jI_sub d_M_count_69 ?_
    refine jx_callV_r (As := [.int (iI (k - 2))]) (v := some (.int (iI (sInS S1 (k - 2))))) d_M_count_70 (m_M_inState hB) (v_M_194 hB) (by decide) (jx_c5 hB) hM.1 rfl (Nat.le_of_ble_eq_true rfl) (Nat.le_of_ble_eq_true rfl) (w_M_inState hB hM hIS1 (s := k - 2) (by omega) (by omega)) ?_
    rw [show sInS S1 (k - 2) = sInS S (k - 2) by rw [hS1]; rfl]
    have q9 := sInS_rg (S := S) (s := k - 2) (by omega)
    exact jx_iret d_M_count_73 rfl (jm_i (S := S1) (by rw [hS1]; unfold oCount; (repeat' split) <;> first | rfl | exact jp2 (by omega) rfl | (exfalso; omega)) hM hF)
  by_cases hs65 : k = 5
  · refine jx_tableIn (off := 66) (tgt := 74) d_M_count_8 (by rw [iI_toInt (by omega)]; omega) (by rw [iI_toInt (by omega)]; omega) (by rw [iI_toInt (by omega), hs65]; rfl) (by decide) ?_
    refine jI_const d_M_count_74 ?_
    refine jx_istore_n d_M_count_75 rfl (Nat.le_of_ble_eq_true rfl) rfl ?_
    try dsimp only [List.set]
    exact jm_w (S := S1) (v := sFreeCnt S1) (l_M_count5 hB hM hIS1 (k := k) (by omega) 17 0 0 (sCnt_0 _).symm (by omega) (by omega)) (by rw [hS1]; unfold oCount; (repeat' split) <;> first | rfl | (exfalso; omega)) hM hF
  by_cases hs66 : k = 6
  · refine jx_tableIn (off := 106) (tgt := 114) d_M_count_8 (by rw [iI_toInt (by omega)]; omega) (by rw [iI_toInt (by omega)]; omega) (by rw [iI_toInt (by omega), hs66]; rfl) (by decide) ?_
    refine jx_aload_n d_M_count_114 rfl rfl ?_
    refine mx_sc 2 d_M_count_115 (f_M_117 hB) hM (by decide) ?_
    rw [show S1 2 0 = S 2 0 by simp [hS1, sU, sUs]]
    exact jx_iret d_M_count_118 rfl (jm_i (S := S1) (by rw [hS1]; unfold oCount; (repeat' split) <;> first | rfl | exact jp2 (by omega) rfl | (exfalso; omega)) hM hF)
  by_cases hs67 : k = 7
  · refine jx_tableIn (off := 111) (tgt := 119) d_M_count_8 (by rw [iI_toInt (by omega)]; omega) (by rw [iI_toInt (by omega)]; omega) (by rw [iI_toInt (by omega), hs67]; rfl) (by decide) ?_
    refine jI_const d_M_count_119 ?_
    refine jx_istore_n d_M_count_120 rfl (Nat.le_of_ble_eq_true rfl) rfl ?_
    try dsimp only [List.set]
    exact jm_w (S := S1) (v := sCost S1) (l_M_count7 hB hM hIS1 (k := k) (by omega) 17 0 0 (sSum_0 _).symm (by omega) (by omega)) (by rw [hS1]; unfold oCount; (repeat' split) <;> first | rfl | (exfalso; omega)) hM hF
  refine jx_tableOut (tgt := 175) d_M_count_8 (by rw [iI_toInt (by omega)]; omega) (by decide) ?_
  refine jI_const d_M_count_175 ?_
  exact jx_iret d_M_count_176 rfl (jm_i (S := S1) (by rw [hS1]; unfold oCount; (repeat' split) <;> first | rfl | exact jp2 (by omega) rfl | (exfalso; omega)) hM hF)
theorem gLeast_rg {S : mS} {t b q : Int} (hI : sI S) (ht : 0 ≤ t ∧ t < 16) (hq : 0 ≤ q ∧ q < 4) (hn : 0 ≤ S 2 0 ∧ S 2 0 ≤ 100000) (h : 0 ≤ b ∧ b ≤ 100000) : 0 ≤ gLeast S t b q ∧ gLeast S t b q ≤ 100000 := by
  have h1 := sAlone_rg (p := q) hI hq ht hn
  have h2 := sLate_rg (t := t) hI ht h1
  unfold gLeast
  split <;> omega
theorem sLeast_rg {S : mS} {t q : Int} (hI : sI S) (hP : 0 ≤ S 0 0 ∧ S 0 0 ≤ 4) (ht : 0 ≤ t ∧ t < 16) (hn : 0 ≤ S 2 0 ∧ S 2 0 ≤ 100000) (hq : q ≤ S 0 0) : 0 ≤ iFor (gLeast S t) 100000 q ∧ iFor (gLeast S t) 100000 q ≤ 100000 :=
  iFor_ind (P := fun b => 0 ≤ b ∧ b ≤ 100000) (by omega) (fun x i hi hx => gLeast_rg hI ht (by omega) hn hx)
theorem l_M_boundI {E : jx_E} {l : Launch} {d : Nat} {w : jx_W} {S : mS} {m : Nat} {A : Nat → Nat} {Q : jx_R → jx_W → Prop} {a t : Int} (hB : jx_B E) (hM : mR E S w m A) (hI : sI S) (hP : 0 ≤ S 0 0 ∧ S 0 0 ≤ 4) (hn : 0 ≤ S 2 0 ∧ S 2 0 ≤ 100000) (ht : 0 ≤ t ∧ t < 16) (K : ∀ X : Option Value, jx_G E l Y_M_bound (d + 3) Q 95 [some (.ref m), some (.int (iI a)), some (.int (iI t)), some (.int (iI (sLeast S t))), some (.int (iI (S 0 0))), X] [] w) : ∀ (j : Nat) (b q : Int) (X : Option Value), b = iFor (gLeast S t) 100000 q → 0 ≤ q ∧ q ≤ S 0 0 → S 0 0 - q < j → jx_G E l Y_M_bound (d + 3) Q 32 [some (.ref m), some (.int (iI a)), some (.int (iI t)), some (.int (iI b)), some (.int (iI q)), X] [] w := by
  intro j
  induction j with
  | zero => intro b q X hb hq hz; exfalso; omega
  | succ j ih =>
    intro b q X hb hq hz
    have hbr := sLeast_rg (S := S) (t := t) hI hP ht hn hq.2
    rw [← hb] at hbr
    refine jx_iload d_M_bound_32 rfl ?_
    refine jx_aload_n d_M_bound_34 rfl rfl ?_
    refine mx_sc 0 d_M_bound_35 (f_M_87 hB) hM (by decide) ?_
    refine jI_icmp_ge (tgt := 95) d_M_bound_38 (by decide) (by omega) (by omega) (fun hc1 => ?_) (fun hc1 => ?_)
    · (have e : q = S 0 0 := by omega); (have e2 : b = sLeast S t := by rw [hb, e]; rfl); rw [e, e2]; exact K X
    · refine jx_aload_n d_M_bound_41 rfl rfl ?_
      refine jx_iload d_M_bound_42 rfl ?_
      refine jx_iload_n d_M_bound_44 rfl rfl ?_
      refine jx_callV_r (As := [.int (iI (q)), .int (iI (t))]) (v := some (.int (iI (sMay S q t)))) d_M_bound_45 (m_M_may hB) (v_M_144 hB) (by decide) (jx_c5 hB) hM.1 rfl (Nat.le_of_ble_eq_true rfl) (Nat.le_of_ble_eq_true rfl) (w_M_may hB hM hI (p := q) (t := t) (by omega) (by omega)) ?_
      have q2 := sMay_01 S q t
      refine jI_if_eq (tgt := 61) d_M_bound_48 (by decide) (by omega) (fun hc3 => ?_) (fun hc3 => ?_)
      · refine jI_const d_M_bound_61 ?_
        refine jx_istore d_M_bound_62 (Nat.le_of_ble_eq_true rfl) rfl ?_
        try dsimp only [List.set]
        refine jx_iload d_M_bound_64 rfl ?_
        refine jI_const d_M_bound_66 ?_
        refine jI_icmp_eq (tgt := 89) d_M_bound_67 (by decide) (by omega) (by omega) (fun hc4 => ?_) (fun hc4 => ?_)
        · refine jI_inc d_M_bound_89 rfl rfl ?_
          try dsimp only [List.set]
          refine jx_goto (tgt := 32) d_M_bound_92 (by decide) ?_
          first | exact ih (b) (q + 1) _ (by rw [iFor_s _ _ (by omega), ← hb]; exact (if_neg (by omega)).symm) (by omega) (by omega) | (exfalso; omega)
        · refine jx_aload_n d_M_bound_70 rfl rfl ?_
          refine jx_iload_n d_M_bound_71 rfl rfl ?_
          refine jx_iload d_M_bound_72 rfl ?_
          refine jx_callV_r (As := [.int (iI (t)), .int (iI ((-1)))]) (v := some (.int (iI (sLate S t ((-1)))))) d_M_bound_74 (m_M_lateBy hB) (v_M_134 hB) (by decide) (jx_c5 hB) hM.1 rfl (Nat.le_of_ble_eq_true rfl) (Nat.le_of_ble_eq_true rfl) (w_M_lateBy hB hM hI (t := t) (s := (-1)) (by omega) (by omega)) ?_
          have q5 := sLate_rg (S := S) (t := t) (s := (-1)) hI (by omega) (by omega)
          refine jx_iload_n d_M_bound_77 rfl rfl ?_
          refine jI_icmp_ge (tgt := 89) d_M_bound_78 (by decide) (by omega) (by omega) (fun hc6 => ?_) (fun hc6 => ?_)
          · refine jI_inc d_M_bound_89 rfl rfl ?_
            try dsimp only [List.set]
            refine jx_goto (tgt := 32) d_M_bound_92 (by decide) ?_
            first | exact ih (b) (q + 1) _ (by rw [iFor_s _ _ (by omega), ← hb]; exact (if_neg (by omega)).symm) (by omega) (by omega) | (exfalso; omega)
          · refine jx_aload_n d_M_bound_81 rfl rfl ?_
            refine jx_iload_n d_M_bound_82 rfl rfl ?_
            refine jx_iload d_M_bound_83 rfl ?_
            refine jx_callV_r (As := [.int (iI (t)), .int (iI ((-1)))]) (v := some (.int (iI (sLate S t ((-1)))))) d_M_bound_85 (m_M_lateBy hB) (v_M_134 hB) (by decide) (jx_c5 hB) hM.1 rfl (Nat.le_of_ble_eq_true rfl) (Nat.le_of_ble_eq_true rfl) (w_M_lateBy hB hM hI (t := t) (s := (-1)) (by omega) (by omega)) ?_
            have q7 := sLate_rg (S := S) (t := t) (s := (-1)) hI (by omega) (by omega)
            refine jx_istore_n d_M_bound_88 rfl (Nat.le_of_ble_eq_true rfl) rfl ?_
            try dsimp only [List.set]
            refine jI_inc d_M_bound_89 rfl rfl ?_
            try dsimp only [List.set]
            refine jx_goto (tgt := 32) d_M_bound_92 (by decide) ?_
            first | exact ih (sLate S t ((-1))) (q + 1) _ (by rw [iFor_s _ _ (by omega), ← hb]; exact (if_pos ⟨by omega, by omega, by omega⟩).symm) (by omega) (by omega) | (exfalso; omega)
      · refine jx_aload_n d_M_bound_51 rfl rfl ?_
        refine jx_iload d_M_bound_52 rfl ?_
        refine jx_iload_n d_M_bound_54 rfl rfl ?_
        refine jx_callV_r (As := [.int (iI (q)), .int (iI (t))]) (v := some (.int (iI (sAlone S q t)))) d_M_bound_55 (m_M_aloneAt hB) (v_M_131 hB) (by decide) (jx_c5 hB) hM.1 rfl (Nat.le_of_ble_eq_true rfl) (Nat.le_of_ble_eq_true rfl) (w_M_aloneAt hB hM hI (p := q) (t := t) (by omega) (by omega) (by omega)) ?_
        have q8 := sAlone_rg (S := S) (p := q) (t := t) hI (by omega) (by omega) (by omega)
        refine jx_goto (tgt := 62) d_M_bound_58 (by decide) ?_
        refine jx_istore d_M_bound_62 (Nat.le_of_ble_eq_true rfl) rfl ?_
        try dsimp only [List.set]
        refine jx_iload d_M_bound_64 rfl ?_
        refine jI_const d_M_bound_66 ?_
        refine jI_icmp_eq (tgt := 89) d_M_bound_67 (by decide) (by omega) (by omega) (fun hc9 => ?_) (fun hc9 => ?_)
        · refine jI_inc d_M_bound_89 rfl rfl ?_
          try dsimp only [List.set]
          refine jx_goto (tgt := 32) d_M_bound_92 (by decide) ?_
          first | exact ih (b) (q + 1) _ (by rw [iFor_s _ _ (by omega), ← hb]; exact (if_neg (by omega)).symm) (by omega) (by omega) | (exfalso; omega)
        · refine jx_aload_n d_M_bound_70 rfl rfl ?_
          refine jx_iload_n d_M_bound_71 rfl rfl ?_
          refine jx_iload d_M_bound_72 rfl ?_
          refine jx_callV_r (As := [.int (iI (t)), .int (iI (sAlone S q t))]) (v := some (.int (iI (sLate S t (sAlone S q t))))) d_M_bound_74 (m_M_lateBy hB) (v_M_134 hB) (by decide) (jx_c5 hB) hM.1 rfl (Nat.le_of_ble_eq_true rfl) (Nat.le_of_ble_eq_true rfl) (w_M_lateBy hB hM hI (t := t) (s := sAlone S q t) (by omega) (by omega)) ?_
          have q10 := sLate_rg (S := S) (t := t) (s := sAlone S q t) hI (by omega) (by omega)
          refine jx_iload_n d_M_bound_77 rfl rfl ?_
          refine jI_icmp_ge (tgt := 89) d_M_bound_78 (by decide) (by omega) (by omega) (fun hc11 => ?_) (fun hc11 => ?_)
          · refine jI_inc d_M_bound_89 rfl rfl ?_
            try dsimp only [List.set]
            refine jx_goto (tgt := 32) d_M_bound_92 (by decide) ?_
            first | exact ih (b) (q + 1) _ (by rw [iFor_s _ _ (by omega), ← hb]; exact (if_neg (by omega)).symm) (by omega) (by omega) | (exfalso; omega)
          · refine jx_aload_n d_M_bound_81 rfl rfl ?_
            refine jx_iload_n d_M_bound_82 rfl rfl ?_
            refine jx_iload d_M_bound_83 rfl ?_
            refine jx_callV_r (As := [.int (iI (t)), .int (iI (sAlone S q t))]) (v := some (.int (iI (sLate S t (sAlone S q t))))) d_M_bound_85 (m_M_lateBy hB) (v_M_134 hB) (by decide) (jx_c5 hB) hM.1 rfl (Nat.le_of_ble_eq_true rfl) (Nat.le_of_ble_eq_true rfl) (w_M_lateBy hB hM hI (t := t) (s := sAlone S q t) (by omega) (by omega)) ?_
            have q12 := sLate_rg (S := S) (t := t) (s := sAlone S q t) hI (by omega) (by omega)
            refine jx_istore_n d_M_bound_88 rfl (Nat.le_of_ble_eq_true rfl) rfl ?_
            try dsimp only [List.set]
            refine jI_inc d_M_bound_89 rfl rfl ?_
            try dsimp only [List.set]
            refine jx_goto (tgt := 32) d_M_bound_92 (by decide) ?_
            first | exact ih (sLate S t (sAlone S q t)) (q + 1) _ (by rw [iFor_s _ _ (by omega), ← hb]; exact (if_pos ⟨by omega, by omega, by omega⟩).symm) (by omega) (by omega) | (exfalso; omega)
theorem l_M_boundO {E : jx_E} {l : Launch} {d : Nat} {w : jx_W} {S : mS} {m : Nat} {A : Nat → Nat} (hB : jx_B E) (hM : mR E S w m A) (hI : sI S) (hP : 0 ≤ S 0 0 ∧ S 0 0 ≤ 4) (hn : 0 ≤ S 2 0 ∧ S 2 0 ≤ 100000) (hT : 0 ≤ S 1 0 ∧ S 1 0 ≤ 16) : ∀ (j : Nat) (a t : Int) (X Y Z : Option Value), a = sSum (fun t => if S 13 t = 0 then sLeast S t else 0) t → 0 ≤ t ∧ t ≤ S 1 0 → S 1 0 - t < j → jx_G E l Y_M_bound (d + 3) (jx_eq (.inr (some (.int (iI (sSum (fun t => if S 13 t = 0 then sLeast S t else 0) (S 1 0)))))) w) 9 [some (.ref m), some (.int (iI a)), some (.int (iI t)), X, Y, Z] [] w := by
  intro j
  induction j with
  | zero => intro a t X Y Z ha ht hz; exfalso; omega
  | succ j ih =>
    intro a t X Y Z ha ht hz
    have har : 0 ≤ sSum (fun t => if S 13 t = 0 then sLeast S t else 0) t ∧ sSum (fun t => if S 13 t = 0 then sLeast S t else 0) t ≤ 100000 * t := sSum_rg (by decide) ht.1 (fun i hi => by
      have := sLeast_rg (S := S) (t := i) hI hP (by omega) hn (Int.le_refl _)
      have e : sLeast S i = iFor (gLeast S i) 100000 (S 0 0) := rfl
      split <;> omega)
    rw [← ha] at har
    refine jx_iload_n d_M_bound_9 rfl rfl ?_
    refine jx_aload_n d_M_bound_10 rfl rfl ?_
    refine mx_sc 1 d_M_bound_11 (f_M_94 hB) hM (by decide) ?_
    refine jI_icmp_ge (tgt := 105) d_M_bound_14 (by decide) (by omega) (by omega) (fun hc1 => ?_) (fun hc1 => ?_)
    · refine jx_iload_n d_M_bound_105 rfl rfl ?_
      exact jx_iret d_M_bound_106 rfl ⟨jr_i (by rw [ha, show t = S 1 0 by omega]), rfl⟩
    · refine jx_aload_n d_M_bound_17 rfl rfl ?_
      refine mx_ar 13 d_M_bound_18 (f_M_38 hB) hM (by decide) ?_
      refine jx_iload_n d_M_bound_21 rfl rfl ?_
      refine mx_ld (n := 16) d_M_bound_22 hM (by decide) rfl ⟨by omega, by omega⟩ ?_
      have r2 : 0 ≤ S 13 t ∧ S 13 t ≤ 2 := hI.r 13 t (n := 16) (by decide) rfl ⟨by omega, by omega⟩
      refine jI_if_ne (tgt := 99) d_M_bound_23 (by decide) (by omega) (fun hc3 => ?_) (fun hc3 => ?_)
      · refine jI_inc d_M_bound_99 rfl rfl ?_
        try dsimp only [List.set]
        refine jx_goto (tgt := 9) d_M_bound_102 (by decide) ?_
        exact ih (a) (t + 1) _ _ _ (by rw [sSum_s _ (by omega), ← ha, if_neg (by omega), Int.add_zero]) (by omega) (by omega)
      · refine jI_ldc d_M_bound_26 (k_M_97 hB) (n := 100000) (by decide) ?_
        refine jx_istore_n d_M_bound_28 rfl (Nat.le_of_ble_eq_true rfl) rfl ?_
        try dsimp only [List.set]
        refine jI_const d_M_bound_29 ?_
        refine jx_istore d_M_bound_30 (Nat.le_of_ble_eq_true rfl) rfl ?_
        try dsimp only [List.set]
        refine l_M_boundI hB hM hI hP hn (by omega) (fun X => ?_) 5 100000 0 _ rfl (by omega) (by omega)
        have hlr := sLeast_rg (S := S) (t := t) (q := S 0 0) hI hP (by omega) hn (Int.le_refl _)
        have e0 : sLeast S t = iFor (gLeast S t) 100000 (S 0 0) := rfl
        refine jx_iload_n d_M_bound_95 rfl rfl ?_
        refine jx_iload_n d_M_bound_96 rfl rfl ?_
        refine jI_add d_M_bound_97 ?_
        refine jx_istore_n d_M_bound_98 rfl (Nat.le_of_ble_eq_true rfl) rfl ?_
        try dsimp only [List.set]
        refine jI_inc d_M_bound_99 rfl rfl ?_
        try dsimp only [List.set]
        refine jx_goto (tgt := 9) d_M_bound_102 (by decide) ?_
        exact ih (a + (sLeast S t)) (t + 1) _ _ _ (by rw [sSum_s _ (by omega), ← ha, if_pos (by omega)]) (by omega) (by omega)
theorem w_M_bound {E : jx_E} {l : Launch} {d : Nat} {w : jx_W} {S : mS} {m : Nat} {A : Nat → Nat} (hB : jx_B E) (hM : mR E S w m A) (hI : sI S) (hP : 0 ≤ S 0 0 ∧ S 0 0 ≤ 4) (hT : 0 ≤ S 1 0 ∧ S 1 0 ≤ 16) (hn : 0 ≤ S 2 0 ∧ S 2 0 ≤ 100000) : jx_G E l Y_M_bound (d + 3) (jm_po E m A w (some (.int (iI (oBound S).1))) (oBound S).2) 0 (jx_ent [.ref m] 6) [] w := by
  have hF : mF m A w w := mF.rf
  generalize hw0 : w = w0 at hF ⊢
  rw [hw0] at hM
  have hF : mF m A w0 w0 := mF.rf
  show jx_G E l Y_M_bound (d + 3) (jm_po E m A w0 _ _) 0 [some (.ref m), none, none, none, none, none] [] w0
  refine jx_aload_n d_M_bound_0 rfl rfl ?_
  refine jI_const d_M_bound_1 ?_
  refine mx_psc d_M_bound_2 (f_M_83 hB) (t_5_3 hB) hM (by decide) (fun w hM hF1 => ?_)
  have hF := hF.tr hF1
  obtain ⟨S1, hS1⟩ : ∃ zz, zz = sU S 3 0 0 := ⟨_, rfl⟩
  rw [← hS1] at hM
  have hIS1 : sI S1 := by rw [hS1]; exact hI.u 3 _ _ (fun z => absurd z (by decide))
  have e2 : S1 0 0 = S 0 0 := by rw [hS1]; rfl
  have e3 : S1 1 0 = S 1 0 := by rw [hS1]; rfl
  have e4 : S1 2 0 = S 2 0 := by rw [hS1]; rfl
  have e5 : S1 23 0 = S 23 0 := by rw [hS1]; rfl
  refine jI_const d_M_bound_5 ?_
  refine jx_istore_n d_M_bound_6 rfl (Nat.le_of_ble_eq_true rfl) rfl ?_
  try dsimp only [List.set]
  refine jI_const d_M_bound_7 ?_
  refine jx_istore_n d_M_bound_8 rfl (Nat.le_of_ble_eq_true rfl) rfl ?_
  try dsimp only [List.set]
  exact jm_w (S := S1) (l_M_boundO hB hM hIS1 (by omega) (by omega) (by omega) 17 0 0 _ _ _ (sSum_0 _).symm (by omega) (by omega)) (by rw [hS1]; unfold oBound; rfl) hM hF
