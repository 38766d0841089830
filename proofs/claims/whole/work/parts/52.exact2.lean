/-! 52.exact2: comparing starts, sets of a choice, costs -/
theorem iFor_stay {g : Int → Int → Int} {a n m : Int} (hn : 0 ≤ n) (hm : n ≤ m) (h : ∀ i, n ≤ i ∧ i < m → g (iFor g a n) i = iFor g a n) : iFor g a m = iFor g a n := by
  have key : ∀ k : Nat, n + k ≤ m → iFor g a (n + k) = iFor g a n := by
    intro k
    induction k with
    | zero => intro _; rw [show n + ((0 : Nat) : Int) = n by omega]
    | succ k ih =>
      intro hk
      rw [show n + ((k + 1 : Nat) : Int) = (n + k) + 1 by omega, iFor_s _ _ (by omega), ih (by omega)]
      exact h _ (by omega)
  have := key (m - n).toNat (by omega)
  rw [show n + ((m - n).toNat : Int) = m by omega] at this
  exact this
theorem iFor_congr {g g2 : Int → Int → Int} {a n : Int} (h : ∀ x i, 0 ≤ i ∧ i < n → g x i = g2 x i) : iFor g a n = iFor g2 a n := by
  unfold iFor
  have key : ∀ k : Nat, (k : Int) ≤ n → iForN g a k = iForN g2 a k := by
    intro k
    induction k with
    | zero => intro _; rfl
    | succ k ih =>
      intro hk
      show g (iForN g a k) k = g2 (iForN g2 a k) k
      rw [ih (by omega), h _ _ (by omega)]
  by_cases h0 : 0 ≤ n
  · exact key _ (by omega)
  · rw [show n.toNat = 0 by omega]
    rfl
def gLess (tr st : Int → Int) (set x k : Int) : Int := if x ≠ 2 then x else if sBit set k = 1 ∧ tr k ≠ st k then (if tr k < st k then 1 else 0) else 2
/-- the first of the set's starts that differs is less -/
def sLess (tr st : Int → Int) (set n : Int) : Int := if iFor (gLess tr st set) 2 n = 1 then 1 else 0
theorem sLess_congr {tr st tr2 st2 : Int → Int} {set n : Int} (h1 : ∀ k, 0 ≤ k ∧ k < n → sBit set k = 1 → tr k = tr2 k) (h2 : ∀ k, 0 ≤ k ∧ k < n → sBit set k = 1 → st k = st2 k) : sLess tr st set n = sLess tr2 st2 set n := by
  unfold sLess
  rw [iFor_congr (g := gLess tr st set) (g2 := gLess tr2 st2 set) (fun x i hi => ?_)]
  unfold gLess
  by_cases hb : sBit set i = 1
  · rw [h1 i hi hb, h2 i hi hb]
  · split
    · rfl
    · rw [if_neg (fun z => hb z.1), if_neg (fun z => hb z.1)]
theorem gLess_stay {tr st : Int → Int} {set k n x : Int} (hk : 0 ≤ k ∧ k < n) (h2 : iFor (gLess tr st set) 2 k = 2) (hx : gLess tr st set 2 k = x) (hx2 : x ≠ 2) : iFor (gLess tr st set) 2 n = x := by
  have e : iFor (gLess tr st set) 2 (k + 1) = x := by rw [iFor_s _ _ hk.1, h2, hx]
  rw [iFor_stay (n := k + 1) (by omega) (by omega) (fun i _ => by rw [e]; exact if_pos hx2), e]
def gSet (ch : Int → Int) (q x k : Int) : Int := if ch k = q then sSet x k else x
/-- the set of those that are given to q -/
def fSet (ch : Int → Int) (q n : Int) : Int := iFor (gSet ch q) 0 n
theorem fSet_rg {ch : Int → Int} {q n : Int} (hn : n ≤ 5) : 0 ≤ fSet ch q n ∧ fSet ch q n < 32 := by
  refine iFor_ind (P := fun x => 0 ≤ x ∧ x < 32) (by omega) (fun x k hk hx => ?_)
  unfold gSet
  split
  · exact sSet_rg (n := 5) hx ⟨by omega, by omega⟩
  · exact hx
theorem fSet_congr {ch ch2 : Int → Int} {q n : Int} (h : ∀ k, 0 ≤ k ∧ k < n → ch k = ch2 k) : fSet ch q n = fSet ch2 q n := by
  unfold fSet
  exact iFor_congr (fun x i hi => by unfold gSet; rw [h i hi])
def gCost (lat ch : Int → Int) (n x q : Int) : Int := if x = -1 then -1 else if lat (32 * q + fSet ch q n) = -1 then -1 else x + lat (32 * q + fSet ch q n)
/-- what a choice costs; -1: it can't be -/
def fCost (lat ch : Int → Int) (n m : Int) : Int := iFor (gCost lat ch n) (sSum (fun k => if ch k = m then 100000 else 0) n) m
theorem l_M_less {E : jx_E} {l : Launch} {d : Nat} {w : jx_W} {S : mS} {m : Nat} {A : Nat → Nat} {at_ set : Int} (hB : jx_B E) (hM : mR E S w m A) (hI : sI S) (ha : 0 ≤ at_ ∧ at_ < 128) (hs : 0 ≤ set ∧ set < 32) (h5 : 0 ≤ S 23 0 ∧ S 23 0 ≤ 5) : ∀ (j : Nat) (k : Int), iFor (gLess (S 27) (fun k => S 25 (5 * at_ + k)) set) 2 k = 2 → 0 ≤ k ∧ k ≤ S 23 0 → S 23 0 - k < j → jx_G E l Y_M_startsAreLess d (jx_eq (.inr (some (.int (iI (sLess (S 27) (fun k => S 25 (5 * at_ + k)) set (S 23 0)))))) w) 2 [some (.ref m), some (.int (iI at_)), some (.int (iI set)), some (.int (iI k))] [] w := by
  intro j
  induction j with
  | zero => intro k hx hk hz; exfalso; omega
  | succ j ih =>
    intro k hx hk hz
    refine jx_iload_n d_M_startsAreLess_2 rfl rfl ?_
    refine jx_aload_n d_M_startsAreLess_3 rfl rfl ?_
    refine mx_sc 23 d_M_startsAreLess_4 (f_M_141 hB) hM (by decide) ?_
    refine jI_icmp_ge (tgt := 69) d_M_startsAreLess_7 (by decide) (by omega) (by omega) (fun hc1 => ?_) (fun hc1 => ?_)
    · refine jI_const d_M_startsAreLess_69 ?_
      exact jx_zret (ty := .boolean) d_M_startsAreLess_70 rfl (jI_bool (by omega)) ⟨jr_i (by unfold sLess; first | (rw [gLess_stay (k := k) (x := 0) (by omega) hx (by unfold gLess; rw [if_neg (by omega), if_pos ⟨by omega, by dsimp only; omega⟩]; first | exact if_pos (by dsimp only; omega) | exact if_neg (by dsimp only; omega)) (by omega)]; rfl) | (rw [← show k = S 23 0 by omega, hx]; rfl)), rfl⟩
    · refine jx_iload_n d_M_startsAreLess_10 rfl rfl ?_
      refine jx_iload_n d_M_startsAreLess_11 rfl rfl ?_
      refine jI_bit d_M_startsAreLess_12 d_M_startsAreLess_13 d_M_startsAreLess_14 ⟨by omega, by omega⟩ ⟨by omega, by omega⟩ ?_
      have b2 := sBit_01 set k
      refine jI_const d_M_startsAreLess_15 ?_
      refine jI_icmp_ne (tgt := 63) d_M_startsAreLess_16 (by decide) (by omega) (by omega) (fun hc3 => ?_) (fun hc3 => ?_)
      · refine jI_inc d_M_startsAreLess_63 rfl rfl ?_
        try dsimp only [List.set]
        refine jx_goto (tgt := 2) d_M_startsAreLess_66 (by decide) ?_
        exact ih (k + 1) (by rw [iFor_s _ _ (by omega), hx]; unfold gLess; rw [if_neg (by omega), if_neg (by dsimp only; omega)]) (by omega) (by omega)
      · refine jx_aload_n d_M_startsAreLess_19 rfl rfl ?_
        refine mx_ar 27 d_M_startsAreLess_20 (f_M_74 hB) hM (by decide) ?_
        refine jx_iload_n d_M_startsAreLess_23 rfl rfl ?_
        refine mx_ld (n := 5) d_M_startsAreLess_24 hM (by decide) rfl ⟨by omega, by omega⟩ ?_
        have r4 : -1 ≤ S 27 k ∧ S 27 k ≤ 100000 := hI.r 27 k (n := 5) (by decide) rfl ⟨by omega, by omega⟩
        refine jx_aload_n d_M_startsAreLess_25 rfl rfl ?_
        refine mx_ar 25 d_M_startsAreLess_26 (f_M_68 hB) hM (by decide) ?_
        refine jI_const d_M_startsAreLess_29 ?_
        refine jx_iload_n d_M_startsAreLess_30 rfl rfl ?_
        refine jI_mul d_M_startsAreLess_31 ?_
        refine jx_iload_n d_M_startsAreLess_32 rfl rfl ?_
        refine jI_add d_M_startsAreLess_33 ?_
        refine mx_ld (n := 640) d_M_startsAreLess_34 hM (by decide) rfl ⟨by omega, by omega⟩ ?_
        have r5 : -1 ≤ S 25 ((5 * at_) + k) ∧ S 25 ((5 * at_) + k) ≤ 100000 := hI.r 25 ((5 * at_) + k) (n := 640) (by decide) rfl ⟨by omega, by omega⟩
        refine jI_icmp_eq (tgt := 63) d_M_startsAreLess_35 (by decide) (by omega) (by omega) (fun hc6 => ?_) (fun hc6 => ?_)
        · refine jI_inc d_M_startsAreLess_63 rfl rfl ?_
          try dsimp only [List.set]
          refine jx_goto (tgt := 2) d_M_startsAreLess_66 (by decide) ?_
          exact ih (k + 1) (by rw [iFor_s _ _ (by omega), hx]; unfold gLess; rw [if_neg (by omega), if_neg (by dsimp only; omega)]) (by omega) (by omega)
        · refine jx_aload_n d_M_startsAreLess_38 rfl rfl ?_
          refine mx_ar 27 d_M_startsAreLess_39 (f_M_74 hB) hM (by decide) ?_
          refine jx_iload_n d_M_startsAreLess_42 rfl rfl ?_
          refine mx_ld (n := 5) d_M_startsAreLess_43 hM (by decide) rfl ⟨by omega, by omega⟩ ?_
          have r7 : -1 ≤ S 27 k ∧ S 27 k ≤ 100000 := hI.r 27 k (n := 5) (by decide) rfl ⟨by omega, by omega⟩
          refine jx_aload_n d_M_startsAreLess_44 rfl rfl ?_
          refine mx_ar 25 d_M_startsAreLess_45 (f_M_68 hB) hM (by decide) ?_
          refine jI_const d_M_startsAreLess_48 ?_
          refine jx_iload_n d_M_startsAreLess_49 rfl rfl ?_
          refine jI_mul d_M_startsAreLess_50 ?_
          refine jx_iload_n d_M_startsAreLess_51 rfl rfl ?_
          refine jI_add d_M_startsAreLess_52 ?_
          refine mx_ld (n := 640) d_M_startsAreLess_53 hM (by decide) rfl ⟨by omega, by omega⟩ ?_
          have r8 : -1 ≤ S 25 ((5 * at_) + k) ∧ S 25 ((5 * at_) + k) ≤ 100000 := hI.r 25 ((5 * at_) + k) (n := 640) (by decide) rfl ⟨by omega, by omega⟩
          refine jI_icmp_ge (tgt := 61) d_M_startsAreLess_54 (by decide) (by omega) (by omega) (fun hc9 => ?_) (fun hc9 => ?_)
          · refine jI_const d_M_startsAreLess_61 ?_
            exact jx_zret (ty := .boolean) d_M_startsAreLess_62 rfl (jI_bool (by omega)) ⟨jr_i (by unfold sLess; first | (rw [gLess_stay (k := k) (x := 0) (by omega) hx (by unfold gLess; rw [if_neg (by omega), if_pos ⟨by omega, by dsimp only; omega⟩]; first | exact if_pos (by dsimp only; omega) | exact if_neg (by dsimp only; omega)) (by omega)]; rfl) | (rw [← show k = S 23 0 by omega, hx]; rfl)), rfl⟩
          · refine jI_const d_M_startsAreLess_57 ?_
            refine jx_goto (tgt := 62) d_M_startsAreLess_58 (by decide) ?_
            exact jx_zret (ty := .boolean) d_M_startsAreLess_62 rfl (jI_bool (by omega)) ⟨jr_i (by unfold sLess; first | (rw [gLess_stay (k := k) (x := 1) (by omega) hx (by unfold gLess; rw [if_neg (by omega), if_pos ⟨by omega, by dsimp only; omega⟩]; first | exact if_pos (by dsimp only; omega) | exact if_neg (by dsimp only; omega)) (by omega)]; rfl) | (rw [← show k = S 23 0 by omega, hx]; rfl)), rfl⟩
theorem w_M_less {E : jx_E} {l : Launch} {d : Nat} {w : jx_W} {S : mS} {m : Nat} {A : Nat → Nat} {at_ set : Int} (hB : jx_B E) (hM : mR E S w m A) (hI : sI S) (ha : 0 ≤ at_ ∧ at_ < 128) (hs : 0 ≤ set ∧ set < 32) (h5 : 0 ≤ S 23 0 ∧ S 23 0 ≤ 5) : jx_G E l Y_M_startsAreLess d (jx_eq (.inr (some (.int (iI (sLess (S 27) (fun k => S 25 (5 * at_ + k)) set (S 23 0)))))) w) 0 (jx_ent [.ref m, .int (iI at_), .int (iI set)] 4) [] w := by
  show jx_G E l Y_M_startsAreLess d _ 0 [some (.ref m), some (.int (iI at_)), some (.int (iI set)), none] [] w
  refine jI_const d_M_startsAreLess_0 ?_
  refine jx_istore_n d_M_startsAreLess_1 rfl (Nat.le_of_ble_eq_true rfl) rfl ?_
  try dsimp only [List.set]
  exact l_M_less hB hM hI ha hs h5 6 0 rfl (by omega) (by omega)
theorem l_M_setOf {E : jx_E} {l : Launch} {d : Nat} {w : jx_W} {S : mS} {m : Nat} {A : Nat → Nat} {q : Int} (hB : jx_B E) (hM : mR E S w m A) (hI : sI S) (hq : iR q) (h5 : 0 ≤ S 23 0 ∧ S 23 0 ≤ 5) : ∀ (j : Nat) (x k : Int), x = iFor (gSet (S 28) q) 0 k → 0 ≤ k ∧ k ≤ S 23 0 → S 23 0 - k < j → jx_G E l Y_M_setOf d (jx_eq (.inr (some (.int (iI (fSet (S 28) q (S 23 0)))))) w) 4 [some (.ref m), some (.int (iI q)), some (.int (iI x)), some (.int (iI k))] [] w := by
  intro j
  induction j with
  | zero => intro x k hx hk hz; exfalso; omega
  | succ j ih =>
    intro x k hx hk hz
    have hxr := fSet_rg (ch := S 28) (q := q) (n := k) (by omega)
    unfold fSet at hxr
    rw [← hx] at hxr
    refine jx_iload_n d_M_setOf_4 rfl rfl ?_
    refine jx_aload_n d_M_setOf_5 rfl rfl ?_
    refine mx_sc 23 d_M_setOf_6 (f_M_141 hB) hM (by decide) ?_
    refine jI_icmp_ge (tgt := 34) d_M_setOf_9 (by decide) (by omega) (by omega) (fun hc1 => ?_) (fun hc1 => ?_)
    · refine jx_iload_n d_M_setOf_34 rfl rfl ?_
      exact jx_iret d_M_setOf_35 rfl ⟨jr_i (by rw [hx, show k = S 23 0 by omega]; rfl), rfl⟩
    · refine jx_aload_n d_M_setOf_12 rfl rfl ?_
      refine mx_ar 28 d_M_setOf_13 (f_M_77 hB) hM (by decide) ?_
      refine jx_iload_n d_M_setOf_16 rfl rfl ?_
      refine mx_ld (n := 5) d_M_setOf_17 hM (by decide) rfl ⟨by omega, by omega⟩ ?_
      have r2 : 0 ≤ S 28 k ∧ S 28 k ≤ 4 := hI.r 28 k (n := 5) (by decide) rfl ⟨by omega, by omega⟩
      refine jx_iload_n d_M_setOf_18 rfl rfl ?_
      refine jI_icmp_ne (tgt := 28) d_M_setOf_19 (by decide) (by omega) (by omega) (fun hc3 => ?_) (fun hc3 => ?_)
      · refine jI_inc d_M_setOf_28 rfl rfl ?_
        try dsimp only [List.set]
        refine jx_goto (tgt := 4) d_M_setOf_31 (by decide) ?_
        exact ih (x) (k + 1) (by rw [iFor_s _ _ (by omega), ← hx]; exact (if_neg (by omega)).symm) (by omega) (by omega)
      · refine jx_iload_n d_M_setOf_22 rfl rfl ?_
        refine jI_const d_M_setOf_23 ?_
        refine jx_iload_n d_M_setOf_24 rfl rfl ?_
        refine jI_setbit d_M_setOf_25 d_M_setOf_26 ⟨by omega, by omega⟩ ⟨by omega, by omega⟩ ?_
        have u4 := sSet_rg (n := 5) (x := x) (k := k) ⟨by omega, by omega⟩ ⟨by omega, by omega⟩
        refine jx_istore_n d_M_setOf_27 rfl (Nat.le_of_ble_eq_true rfl) rfl ?_
        try dsimp only [List.set]
        refine jI_inc d_M_setOf_28 rfl rfl ?_
        try dsimp only [List.set]
        refine jx_goto (tgt := 4) d_M_setOf_31 (by decide) ?_
        exact ih (sSet x k) (k + 1) (by rw [iFor_s _ _ (by omega), ← hx]; exact (if_pos (by omega)).symm) (by omega) (by omega)
theorem w_M_setOf {E : jx_E} {l : Launch} {d : Nat} {w : jx_W} {S : mS} {m : Nat} {A : Nat → Nat} {q : Int} (hB : jx_B E) (hM : mR E S w m A) (hI : sI S) (hq : iR q) (h5 : 0 ≤ S 23 0 ∧ S 23 0 ≤ 5) : jx_G E l Y_M_setOf d (jx_eq (.inr (some (.int (iI (fSet (S 28) q (S 23 0)))))) w) 0 (jx_ent [.ref m, .int (iI q)] 4) [] w := by
  show jx_G E l Y_M_setOf d _ 0 [some (.ref m), some (.int (iI q)), none, none] [] w
  refine jI_const d_M_setOf_0 ?_
  refine jx_istore_n d_M_setOf_1 rfl (Nat.le_of_ble_eq_true rfl) rfl ?_
  try dsimp only [List.set]
  refine jI_const d_M_setOf_2 ?_
  refine jx_istore_n d_M_setOf_3 rfl (Nat.le_of_ble_eq_true rfl) rfl ?_
  try dsimp only [List.set]
  exact l_M_setOf hB hM hI hq h5 6 0 0 rfl (by omega) (by omega)
theorem l_M_cost1 {E : jx_E} {l : Launch} {d : Nat} {w : jx_W} {S : mS} {m : Nat} {A : Nat → Nat} {Q : jx_R → jx_W → Prop} {X : Option Value} (hB : jx_B E) (hM : mR E S w m A) (hI : sI S) (hP : 0 ≤ S 0 0 ∧ S 0 0 ≤ 4) (h5 : 0 ≤ S 23 0 ∧ S 23 0 ≤ 5) (K : jx_G E l Y_M_costOf d Q 36 [some (.ref m), some (.int (iI (sSum (fun k => if S 28 k = S 0 0 then 100000 else 0) (S 23 0)))), some (.int (iI (S 23 0))), X] [] w) : ∀ (j : Nat) (x k : Int), x = sSum (fun k => if S 28 k = S 0 0 then 100000 else 0) k → 0 ≤ k ∧ k ≤ S 23 0 → S 23 0 - k < j → jx_G E l Y_M_costOf d Q 4 [some (.ref m), some (.int (iI x)), some (.int (iI k)), X] [] w := by
  intro j
  induction j with
  | zero => intro x k hx hk hz; exfalso; omega
  | succ j ih =>
    intro x k hx hk hz
    have hxr : 0 ≤ sSum (fun k => if S 28 k = S 0 0 then 100000 else 0) k ∧ sSum (fun k => if S 28 k = S 0 0 then 100000 else 0) k ≤ 100000 * k := sSum_rg (by decide) hk.1 (fun i _ => by split <;> omega)
    rw [← hx] at hxr
    refine jx_iload_n d_M_costOf_4 rfl rfl ?_
    refine jx_aload_n d_M_costOf_5 rfl rfl ?_
    refine mx_sc 23 d_M_costOf_6 (f_M_141 hB) hM (by decide) ?_
    refine jI_icmp_ge (tgt := 36) d_M_costOf_9 (by decide) (by omega) (by omega) (fun hc1 => ?_) (fun hc1 => ?_)
    · (have e : k = S 23 0 := by omega); rw [hx, e]; exact K
    · refine jx_aload_n d_M_costOf_12 rfl rfl ?_
      refine mx_ar 28 d_M_costOf_13 (f_M_77 hB) hM (by decide) ?_
      refine jx_iload_n d_M_costOf_16 rfl rfl ?_
      refine mx_ld (n := 5) d_M_costOf_17 hM (by decide) rfl ⟨by omega, by omega⟩ ?_
      have r2 : 0 ≤ S 28 k ∧ S 28 k ≤ 4 := hI.r 28 k (n := 5) (by decide) rfl ⟨by omega, by omega⟩
      refine jx_aload_n d_M_costOf_18 rfl rfl ?_
      refine mx_sc 0 d_M_costOf_19 (f_M_87 hB) hM (by decide) ?_
      refine jI_icmp_ne (tgt := 30) d_M_costOf_22 (by decide) (by omega) (by omega) (fun hc3 => ?_) (fun hc3 => ?_)
      · refine jI_inc d_M_costOf_30 rfl rfl ?_
        try dsimp only [List.set]
        refine jx_goto (tgt := 4) d_M_costOf_33 (by decide) ?_
        exact ih (x) (k + 1) (by rw [sSum_s _ (by omega), ← hx, if_neg (by omega), Int.add_zero]) (by omega) (by omega)
      · refine jx_iload_n d_M_costOf_25 rfl rfl ?_
        refine jI_ldc d_M_costOf_26 (k_M_97 hB) (n := 100000) (by decide) ?_
        refine jI_add d_M_costOf_28 ?_
        refine jx_istore_n d_M_costOf_29 rfl (Nat.le_of_ble_eq_true rfl) rfl ?_
        try dsimp only [List.set]
        refine jI_inc d_M_costOf_30 rfl rfl ?_
        try dsimp only [List.set]
        refine jx_goto (tgt := 4) d_M_costOf_33 (by decide) ?_
        exact ih (x + 100000) (k + 1) (by rw [sSum_s _ (by omega), ← hx, if_pos (by omega)]) (by omega) (by omega)
theorem l_M_cost2 {E : jx_E} {l : Launch} {d : Nat} {w : jx_W} {S : mS} {m : Nat} {A : Nat → Nat} (hB : jx_B E) (hM : mR E S w m A) (hI : sI S) (hP : 0 ≤ S 0 0 ∧ S 0 0 ≤ 4) (h5 : 0 ≤ S 23 0 ∧ S 23 0 ≤ 5) : ∀ (j : Nat) (x q : Int) (X : Option Value), x = iFor (gCost (S 24) (S 28) (S 23 0)) (sSum (fun k => if S 28 k = S 0 0 then 100000 else 0) (S 23 0)) q → 0 ≤ x ∧ x ≤ 500000 + 600000 * q → 0 ≤ q ∧ q ≤ S 0 0 → S 0 0 - q < j → jx_G E l Y_M_costOf (d + 1) (jx_eq (.inr (some (.int (iI (fCost (S 24) (S 28) (S 23 0) (S 0 0)))))) w) 38 [some (.ref m), some (.int (iI x)), some (.int (iI q)), X] [] w := by
  intro j
  induction j with
  | zero => intro x q X hx hxr hq hz; exfalso; omega
  | succ j ih =>
    intro x q X hx hxr hq hz
    refine jx_iload_n d_M_costOf_38 rfl rfl ?_
    refine jx_aload_n d_M_costOf_39 rfl rfl ?_
    refine mx_sc 0 d_M_costOf_40 (f_M_87 hB) hM (by decide) ?_
    refine jI_icmp_ge (tgt := 79) d_M_costOf_43 (by decide) (by omega) (by omega) (fun hc1 => ?_) (fun hc1 => ?_)
    · refine jx_iload_n d_M_costOf_79 rfl rfl ?_
      exact jx_iret d_M_costOf_80 rfl ⟨jr_i (by unfold fCost; first | (rw [show S 0 0 = q by omega]; rw [show S 0 0 = q by omega] at hx; exact hx) | ((have e : iFor (gCost (S 24) (S 28) (S 23 0)) (sSum (fun k => if S 28 k = S 0 0 then 100000 else 0) (S 23 0)) (q + 1) = -1 := by rw [iFor_s _ _ (by omega), ← hx]; unfold gCost; rw [if_neg (by omega), if_pos (by omega)]); rw [iFor_stay (n := q + 1) (by omega) (by omega) (fun i _ => by rw [e]; exact if_pos rfl), e])), rfl⟩
    · refine jx_aload_n d_M_costOf_46 rfl rfl ?_
      refine mx_ar 24 d_M_costOf_47 (f_M_65 hB) hM (by decide) ?_
      refine jI_bipush d_M_costOf_50 (by decide) ?_
      refine jx_iload_n d_M_costOf_52 rfl rfl ?_
      refine jI_mul d_M_costOf_53 ?_
      refine jx_aload_n d_M_costOf_54 rfl rfl ?_
      refine jx_iload_n d_M_costOf_55 rfl rfl ?_
      refine jx_callV_r (As := [.int (iI (q))]) (v := some (.int (iI (fSet (S 28) q (S 23 0))))) d_M_costOf_56 (m_M_setOf hB) (v_M_156 hB) (by decide) (jx_c5 hB) hM.1 rfl (Nat.le_of_ble_eq_true rfl) (Nat.le_of_ble_eq_true rfl) (w_M_setOf hB hM hI (q := q) (by omega) (by omega)) ?_
      have q2 := fSet_rg (ch := S 28) (q := q) (n := S 23 0) (by omega)
      refine jI_add d_M_costOf_59 ?_
      refine mx_ld (n := 128) d_M_costOf_60 hM (by decide) rfl ⟨by omega, by omega⟩ ?_
      have r3 : -1 ≤ S 24 ((32 * q) + (fSet (S 28) q (S 23 0))) ∧ S 24 ((32 * q) + (fSet (S 28) q (S 23 0))) ≤ 600000 := hI.r 24 ((32 * q) + (fSet (S 28) q (S 23 0))) (n := 128) (by decide) rfl ⟨by omega, by omega⟩
      refine jx_istore_n d_M_costOf_61 rfl (Nat.le_of_ble_eq_true rfl) rfl ?_
      try dsimp only [List.set]
      refine jx_iload_n d_M_costOf_62 rfl rfl ?_
      refine jI_const d_M_costOf_63 ?_
      refine jI_icmp_ne (tgt := 69) d_M_costOf_64 (by decide) (by omega) (by omega) (fun hc4 => ?_) (fun hc4 => ?_)
      · refine jx_iload_n d_M_costOf_69 rfl rfl ?_
        refine jx_iload_n d_M_costOf_70 rfl rfl ?_
        refine jI_add d_M_costOf_71 ?_
        refine jx_istore_n d_M_costOf_72 rfl (Nat.le_of_ble_eq_true rfl) rfl ?_
        try dsimp only [List.set]
        refine jI_inc d_M_costOf_73 rfl rfl ?_
        try dsimp only [List.set]
        refine jx_goto (tgt := 38) d_M_costOf_76 (by decide) ?_
        exact ih (x + (S 24 ((32 * q) + (fSet (S 28) q (S 23 0))))) (q + 1) _ (by rw [iFor_s _ _ (by omega), ← hx]; unfold gCost; rw [if_neg (by omega), if_neg (by omega)]) (by omega) (by omega) (by omega)
      · refine jI_const d_M_costOf_67 ?_
        exact jx_iret d_M_costOf_68 rfl ⟨jr_i (by unfold fCost; first | (rw [show S 0 0 = q by omega]; rw [show S 0 0 = q by omega] at hx; exact hx) | ((have e : iFor (gCost (S 24) (S 28) (S 23 0)) (sSum (fun k => if S 28 k = S 0 0 then 100000 else 0) (S 23 0)) (q + 1) = -1 := by rw [iFor_s _ _ (by omega), ← hx]; unfold gCost; rw [if_neg (by omega), if_pos (by omega)]); rw [iFor_stay (n := q + 1) (by omega) (by omega) (fun i _ => by rw [e]; exact if_pos rfl), e])), rfl⟩
theorem w_M_costOf {E : jx_E} {l : Launch} {d : Nat} {w : jx_W} {S : mS} {m : Nat} {A : Nat → Nat} (hB : jx_B E) (hM : mR E S w m A) (hI : sI S) (hP : 0 ≤ S 0 0 ∧ S 0 0 ≤ 4) (h5 : 0 ≤ S 23 0 ∧ S 23 0 ≤ 5) : jx_G E l Y_M_costOf (d + 1) (jx_eq (.inr (some (.int (iI (fCost (S 24) (S 28) (S 23 0) (S 0 0)))))) w) 0 (jx_ent [.ref m] 4) [] w := by
  show jx_G E l Y_M_costOf (d + 1) _ 0 [some (.ref m), none, none, none] [] w
  have hxr : 0 ≤ sSum (fun k => if S 28 k = S 0 0 then 100000 else 0) (S 23 0) ∧ sSum (fun k => if S 28 k = S 0 0 then 100000 else 0) (S 23 0) ≤ 100000 * S 23 0 := sSum_rg (by decide) h5.1 (fun i _ => by split <;> omega)
  refine jI_const d_M_costOf_0 ?_
  refine jx_istore_n d_M_costOf_1 rfl (Nat.le_of_ble_eq_true rfl) rfl ?_
  try dsimp only [List.set]
  refine jI_const d_M_costOf_2 ?_
  refine jx_istore_n d_M_costOf_3 rfl (Nat.le_of_ble_eq_true rfl) rfl ?_
  try dsimp only [List.set]
  refine l_M_cost1 hB hM hI hP h5 ?_ 6 0 0 rfl (by omega) (by omega)
  refine jI_const d_M_costOf_36 ?_
  refine jx_istore_n d_M_costOf_37 rfl (Nat.le_of_ble_eq_true rfl) rfl ?_
  try dsimp only [List.set]
  exact l_M_cost2 hB hM hI hP h5 5 _ 0 _ rfl (by omega) (by omega) (by omega)
