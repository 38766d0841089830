/-! 34.leaves: the reference's small methods -/
theorem jx_c5 {E : jx_E} (hB : jx_B E) : E.2.2[5]? = some jx_q5 := by rw [hB.1]; rfl
theorem jr_i {a b : Int} (h : a = b) : (Sum.inr (some (Value.int (iI a))) : jx_R) = .inr (some (.int (iI b))) := by rw [h]
/-- the least and the greatest number that a field's elements hold -/
def mLo (f : Nat) : Int := if f = 11 ∨ f = 19 ∨ f = 20 ∨ f = 24 ∨ f = 25 ∨ f = 27 then -1 else 0
def mHi (f : Nat) : Int := if f = 4 then 255 else if f = 9 ∨ f = 17 ∨ f = 19 then 3 else if f = 10 then 1 else if f = 11 ∨ f = 18 ∨ f = 22 then 15 else if f = 12 then 1000 else if f = 13 then 2 else if f = 14 then 7 else if f = 15 then 5000 else if f = 26 ∨ f = 28 ∨ f = 29 then 4 else if f = 24 then 600000 else 100000
/-- the fields whose elements have a range of their own always -/
abbrev mRg (f : Nat) : Prop := (4 ≤ f ∧ f < 21) ∨ f = 22 ∨ (24 ≤ f ∧ f < 30)
def sI (S : mS) : Prop := ∀ (f : Nat) (i : Int), mRg f → (0 ≤ i ∧ i < (mLen f : Int)) → mLo f ≤ S f i ∧ S f i ≤ mHi f
theorem sI.r {S : mS} (h : sI S) (f : Nat) (i : Int) {n : Nat} (hf : mRg f) (hn : mLen f = n) (hi : 0 ≤ i ∧ i < (n : Int)) : mLo f ≤ S f i ∧ S f i ≤ mHi f := by subst hn; exact h f i hf hi
def sBit (x k : Int) : Int := x / 2 ^ k.toNat % 2
theorem sBit_01 (x k : Int) : 0 ≤ sBit x k ∧ sBit x k ≤ 1 := by unfold sBit; omega
theorem iI_shr {x k : Int} (hx : 0 ≤ x ∧ x < 2147483648) (hk : 0 ≤ k ∧ k < 31) : iI x >>> (iI k &&& 31) = iI (x / 2 ^ k.toNat) := by
  have e1 : iI x = nI x.toNat := by rw [iI_nat, Int.toNat_of_nonneg hx.1]
  have e2 : iI k &&& 31 = nI k.toNat := by
    rw [show iI k = nI k.toNat by rw [iI_nat, Int.toNat_of_nonneg hk.1], show (31 : Int32) = nI 31 from rfl]
    rw [pk_andN (n := k.toNat) (by omega) 5 (by decide)]
    congr 1
    omega
  rw [e1, e2, pk_shrN (n := x.toNat) (by omega) (nI k.toNat) k.toNat ?_, iI_nat]
  · congr 1
    rw [Int.natCast_ediv, Int.toNat_of_nonneg hx.1, Int.natCast_pow]
    rfl
  · have : ∀ j : Nat, j < 31 → ((nI j).toBitVec.smod 32).toNat = j := by decide +kernel
    exact this k.toNat (by omega)
theorem iI_and1 {x : Int} (hx : 0 ≤ x ∧ x < 2147483648) : iI x &&& iI 1 = iI (x % 2) := by
  have e1 : iI x = nI x.toNat := by rw [iI_nat, Int.toNat_of_nonneg hx.1]
  rw [e1, show iI 1 = (1 : Int32) from rfl, pk_andN (n := x.toNat) (by omega) 1 (by decide), iI_nat]
  congr 1
  omega
section
variable {E : jx_E} {l : Launch} {Y : jx_Y} {d : Nat} {Q : jx_R → jx_W → Prop} {pc : Nat} {L : List (Option Value)} {st : List Value} {w : jx_W}
/-- x >> k & 1 -/
theorem jI_bit {x k : Int} (h1 : decode Y.2.2.1 pc = .ok (.ishr, 1)) (h2 : decode Y.2.2.1 (pc + 1) = .ok (.iconst 1, 1)) (h3 : decode Y.2.2.1 (pc + 1 + 1) = .ok (.iand, 1)) (hx : 0 ≤ x ∧ x < 2147483648) (hk : 0 ≤ k ∧ k < 31) (K : jx_G E l Y d Q (pc + 1 + 1 + 1) L (.int (iI (sBit x k)) :: st) w) : jx_G E l Y d Q pc L (.int (iI k) :: .int (iI x) :: st) w := by
  refine jx_ishr h1 ?_
  rw [iI_shr hx hk]
  refine jI_const h2 ?_
  refine jx_iand h3 ?_
  have h5 : 0 ≤ x / 2 ^ k.toNat := Int.ediv_nonneg hx.1 (Int.le_of_lt (Int.pow_pos (by decide)))
  have h6 : x / 2 ^ k.toNat ≤ x := Int.ediv_le_self _ hx.1
  rw [iI_and1 (by omega)]
  exact K
end
def sGr (a b : Int) : Int := if b < a then a else b
def sIn (x a b : Int) : Int := if a ≤ x ∧ x ≤ b then 1 else 0
def sReady (S : mS) (p : Int) : Int := if S 11 p = -1 then sGr (S 2 0) (S 5 p) else sGr (sGr (S 2 0) (S 5 p)) (S 20 (S 11 p) + S 15 (S 11 p))
def sStart (S : mS) (p t r z : Int) : Int :=
  if r + S 12 (4 * z + S 17 t) < S 8 p ∧ S 7 p < r + S 12 (4 * z + S 17 t) + S 15 t ∧ S 7 p < S 8 p then (if S 6 p < S 8 p + S 15 t then -1 else S 8 p)
  else if S 6 p < r + S 12 (4 * z + S 17 t) + S 15 t then -1 else r + S 12 (4 * z + S 17 t)
def sLate (S : mS) (t s : Int) : Int := sGr (s + S 15 t - S 16 t) 0
def sAlone (S : mS) (p t : Int) : Int := sStart S p t (sReady S p) (S 9 p)
def sRef (S : mS) (p t : Int) : Int := if sBit (S 18 t) p = 1 then 1 else 0
def sMay (S : mS) (p t : Int) : Int := if S 10 p ≠ 0 ∧ sBit (S 4 p) (S 14 t) = 1 ∧ sRef S p t = 0 then 1 else 0
theorem w_M_within {E : jx_E} {l : Launch} {d : Nat} {w : jx_W} {x a b : Int} (hB : jx_B E) (h1 : iR x) (h2 : iR a) (h3 : iR b) : jx_G E l Y_M_within (d) (jx_eq (.inr (some (.int (iI (sIn x a b))))) w) 0 (jx_ent [.int (iI x), .int (iI a), .int (iI b)] 3) [] w := by
  show jx_G E l Y_M_within (d) _ 0 [some (.int (iI x)), some (.int (iI a)), some (.int (iI b))] [] w
  refine jx_iload_n d_M_within_0 rfl rfl ?_
  refine jx_iload_n d_M_within_1 rfl rfl ?_
  refine jI_icmp_lt (tgt := 14) d_M_within_2 (by decide) (by omega) (by omega) (fun hc1 => ?_) (fun hc1 => ?_)
  · refine jI_const d_M_within_14 ?_
    exact jx_zret (ty := .boolean) d_M_within_15 rfl (jI_bool (by omega)) ⟨jr_i (by unfold sIn; (repeat' split) <;> omega), rfl⟩
  · refine jx_iload_n d_M_within_5 rfl rfl ?_
    refine jx_iload_n d_M_within_6 rfl rfl ?_
    refine jI_icmp_gt (tgt := 14) d_M_within_7 (by decide) (by omega) (by omega) (fun hc2 => ?_) (fun hc2 => ?_)
    · refine jI_const d_M_within_14 ?_
      exact jx_zret (ty := .boolean) d_M_within_15 rfl (jI_bool (by omega)) ⟨jr_i (by unfold sIn; (repeat' split) <;> omega), rfl⟩
    · refine jI_const d_M_within_10 ?_
      refine jx_goto (tgt := 15) d_M_within_11 (by decide) ?_
      exact jx_zret (ty := .boolean) d_M_within_15 rfl (jI_bool (by omega)) ⟨jr_i (by unfold sIn; (repeat' split) <;> omega), rfl⟩
theorem w_M_greater {E : jx_E} {l : Launch} {d : Nat} {w : jx_W} {a b : Int} (hB : jx_B E) (h1 : iR a) (h2 : iR b) : jx_G E l Y_M_greater (d) (jx_eq (.inr (some (.int (iI (sGr a b))))) w) 0 (jx_ent [.int (iI a), .int (iI b)] 2) [] w := by
  show jx_G E l Y_M_greater (d) _ 0 [some (.int (iI a)), some (.int (iI b))] [] w
  refine jx_iload_n d_M_greater_0 rfl rfl ?_
  refine jx_iload_n d_M_greater_1 rfl rfl ?_
  refine jI_icmp_le (tgt := 9) d_M_greater_2 (by decide) (by omega) (by omega) (fun hc1 => ?_) (fun hc1 => ?_)
  · refine jx_iload_n d_M_greater_9 rfl rfl ?_
    exact jx_iret d_M_greater_10 rfl ⟨jr_i (by unfold sGr; (repeat' split) <;> omega), rfl⟩
  · refine jx_iload_n d_M_greater_5 rfl rfl ?_
    refine jx_goto (tgt := 10) d_M_greater_6 (by decide) ?_
    exact jx_iret d_M_greater_10 rfl ⟨jr_i (by unfold sGr; (repeat' split) <;> omega), rfl⟩
theorem w_M_isPerson {E : jx_E} {l : Launch} {d : Nat} {w : jx_W} {S : mS} {m : Nat} {A : Nat → Nat} {x : Int} (hB : jx_B E) (hM : mR E S w m A) (hI : sI S) (h1 : iR x) (h2 : 0 ≤ S 0 0 ∧ S 0 0 ≤ 4) : jx_G E l Y_M_isPerson (d + 1) (jx_eq (.inr (some (.int (iI (sIn x 0 (S 0 0 - 1)))))) w) 0 (jx_ent [.ref m, .int (iI x)] 2) [] w := by
  show jx_G E l Y_M_isPerson (d + 1) _ 0 [some (.ref m), some (.int (iI x))] [] w
  refine jx_iload_n d_M_isPerson_0 rfl rfl ?_
  refine jI_const d_M_isPerson_1 ?_
  refine jx_aload_n d_M_isPerson_2 rfl rfl ?_
  refine mx_sc 0 d_M_isPerson_3 (f_M_87 hB) hM (by decide) ?_
  refine jI_const d_M_isPerson_6 ?_
  refine jI_sub d_M_isPerson_7 ?_
  refine jx_callS_r (As := [.int (iI (x)), .int (iI (0)), .int (iI ((S 0 0) - 1))]) d_M_isPerson_8 (m_M_within hB) (s_M_90 hB) rfl (Nat.le_of_ble_eq_true rfl) (Nat.le_of_ble_eq_true rfl) (w_M_within hB (x := x) (a := 0) (b := (S 0 0) - 1) (by omega) (by omega) (by omega)) ?_
  have q1 : sIn (x) (0) ((S 0 0) - 1) = 0 ∨ sIn (x) (0) ((S 0 0) - 1) = 1 := by unfold sIn; split <;> omega
  exact jx_zret (ty := .boolean) d_M_isPerson_11 rfl (jI_bool (by omega)) ⟨jr_i (by rfl), rfl⟩
theorem w_M_isTask {E : jx_E} {l : Launch} {d : Nat} {w : jx_W} {S : mS} {m : Nat} {A : Nat → Nat} {x : Int} (hB : jx_B E) (hM : mR E S w m A) (hI : sI S) (h1 : iR x) (h2 : 0 ≤ S 1 0 ∧ S 1 0 ≤ 16) : jx_G E l Y_M_isTask (d + 1) (jx_eq (.inr (some (.int (iI (sIn x 0 (S 1 0 - 1)))))) w) 0 (jx_ent [.ref m, .int (iI x)] 2) [] w := by
  show jx_G E l Y_M_isTask (d + 1) _ 0 [some (.ref m), some (.int (iI x))] [] w
  refine jx_iload_n d_M_isTask_0 rfl rfl ?_
  refine jI_const d_M_isTask_1 ?_
  refine jx_aload_n d_M_isTask_2 rfl rfl ?_
  refine mx_sc 1 d_M_isTask_3 (f_M_94 hB) hM (by decide) ?_
  refine jI_const d_M_isTask_6 ?_
  refine jI_sub d_M_isTask_7 ?_
  refine jx_callS_r (As := [.int (iI (x)), .int (iI (0)), .int (iI ((S 1 0) - 1))]) d_M_isTask_8 (m_M_within hB) (s_M_90 hB) rfl (Nat.le_of_ble_eq_true rfl) (Nat.le_of_ble_eq_true rfl) (w_M_within hB (x := x) (a := 0) (b := (S 1 0) - 1) (by omega) (by omega) (by omega)) ?_
  have q1 : sIn (x) (0) ((S 1 0) - 1) = 0 ∨ sIn (x) (0) ((S 1 0) - 1) = 1 := by unfold sIn; split <;> omega
  exact jx_zret (ty := .boolean) d_M_isTask_11 rfl (jI_bool (by omega)) ⟨jr_i (by rfl), rfl⟩
theorem w_M_lateBy {E : jx_E} {l : Launch} {d : Nat} {w : jx_W} {S : mS} {m : Nat} {A : Nat → Nat} {t s : Int} (hB : jx_B E) (hM : mR E S w m A) (hI : sI S) (ht : 0 ≤ t ∧ t < 16) (hs : -1 ≤ s ∧ s ≤ 200000) : jx_G E l Y_M_lateBy (d + 1) (jx_eq (.inr (some (.int (iI (sLate S t s))))) w) 0 (jx_ent [.ref m, .int (iI t), .int (iI s)] 3) [] w := by
  show jx_G E l Y_M_lateBy (d + 1) _ 0 [some (.ref m), some (.int (iI t)), some (.int (iI s))] [] w
  refine jx_iload_n d_M_lateBy_0 rfl rfl ?_
  refine jx_aload_n d_M_lateBy_1 rfl rfl ?_
  refine mx_ar 15 d_M_lateBy_2 (f_M_44 hB) hM (by decide) ?_
  refine jx_iload_n d_M_lateBy_5 rfl rfl ?_
  refine mx_ld (n := 16) d_M_lateBy_6 hM (by decide) rfl ⟨by omega, by omega⟩ ?_
  have r1 : 0 ≤ S 15 t ∧ S 15 t ≤ 5000 := hI.r 15 t (n := 16) (by decide) rfl ⟨by omega, by omega⟩
  refine jI_add d_M_lateBy_7 ?_
  refine jx_aload_n d_M_lateBy_8 rfl rfl ?_
  refine mx_ar 16 d_M_lateBy_9 (f_M_47 hB) hM (by decide) ?_
  refine jx_iload_n d_M_lateBy_12 rfl rfl ?_
  refine mx_ld (n := 16) d_M_lateBy_13 hM (by decide) rfl ⟨by omega, by omega⟩ ?_
  have r2 : 0 ≤ S 16 t ∧ S 16 t ≤ 100000 := hI.r 16 t (n := 16) (by decide) rfl ⟨by omega, by omega⟩
  refine jI_sub d_M_lateBy_14 ?_
  refine jI_const d_M_lateBy_15 ?_
  refine jx_callS_r (As := [.int (iI ((s + (S 15 t)) - (S 16 t))), .int (iI (0))]) d_M_lateBy_16 (m_M_greater hB) (s_M_120 hB) rfl (Nat.le_of_ble_eq_true rfl) (Nat.le_of_ble_eq_true rfl) (w_M_greater hB (a := (s + (S 15 t)) - (S 16 t)) (b := 0) (by omega) (by omega)) ?_
  have g3 : sGr ((s + (S 15 t)) - (S 16 t)) (0) = (s + (S 15 t)) - (S 16 t) ∨ sGr ((s + (S 15 t)) - (S 16 t)) (0) = 0 := by unfold sGr; split <;> omega
  exact jx_iret d_M_lateBy_19 rfl ⟨jr_i (by unfold sLate; rfl), rfl⟩
theorem w_M_readyAt {E : jx_E} {l : Launch} {d : Nat} {w : jx_W} {S : mS} {m : Nat} {A : Nat → Nat} {p : Int} (hB : jx_B E) (hM : mR E S w m A) (hI : sI S) (hp : 0 ≤ p ∧ p < 4) (hn : 0 ≤ S 2 0 ∧ S 2 0 ≤ 100000) : jx_G E l Y_M_readyAt (d + 1) (jx_eq (.inr (some (.int (iI (sReady S p))))) w) 0 (jx_ent [.ref m, .int (iI p)] 3) [] w := by
  show jx_G E l Y_M_readyAt (d + 1) _ 0 [some (.ref m), some (.int (iI p)), none] [] w
  refine jx_aload_n d_M_readyAt_0 rfl rfl ?_
  refine mx_sc 2 d_M_readyAt_1 (f_M_117 hB) hM (by decide) ?_
  refine jx_aload_n d_M_readyAt_4 rfl rfl ?_
  refine mx_ar 5 d_M_readyAt_5 (f_M_13 hB) hM (by decide) ?_
  refine jx_iload_n d_M_readyAt_8 rfl rfl ?_
  refine mx_ld (n := 4) d_M_readyAt_9 hM (by decide) rfl ⟨by omega, by omega⟩ ?_
  have r1 : 0 ≤ S 5 p ∧ S 5 p ≤ 100000 := hI.r 5 p (n := 4) (by decide) rfl ⟨by omega, by omega⟩
  refine jx_callS_r (As := [.int (iI (S 2 0)), .int (iI (S 5 p))]) d_M_readyAt_10 (m_M_greater hB) (s_M_120 hB) rfl (Nat.le_of_ble_eq_true rfl) (Nat.le_of_ble_eq_true rfl) (w_M_greater hB (a := S 2 0) (b := S 5 p) (by omega) (by omega)) ?_
  have g2 : sGr (S 2 0) (S 5 p) = S 2 0 ∨ sGr (S 2 0) (S 5 p) = S 5 p := by unfold sGr; split <;> omega
  refine jx_istore_n d_M_readyAt_13 rfl (Nat.le_of_ble_eq_true rfl) rfl ?_
  try dsimp only [List.set]
  refine jx_aload_n d_M_readyAt_14 rfl rfl ?_
  refine mx_ar 11 d_M_readyAt_15 (f_M_32 hB) hM (by decide) ?_
  refine jx_iload_n d_M_readyAt_18 rfl rfl ?_
  refine mx_ld (n := 4) d_M_readyAt_19 hM (by decide) rfl ⟨by omega, by omega⟩ ?_
  have r3 : -1 ≤ S 11 p ∧ S 11 p ≤ 15 := hI.r 11 p (n := 4) (by decide) rfl ⟨by omega, by omega⟩
  refine jI_const d_M_readyAt_20 ?_
  refine jI_icmp_ne (tgt := 28) d_M_readyAt_21 (by decide) (by omega) (by omega) (fun hc4 => ?_) (fun hc4 => ?_)
  · refine jx_iload_n d_M_readyAt_28 rfl rfl ?_
    refine jx_aload_n d_M_readyAt_29 rfl rfl ?_
    refine mx_ar 20 d_M_readyAt_30 (f_M_59 hB) hM (by decide) ?_
    refine jx_aload_n d_M_readyAt_33 rfl rfl ?_
    refine mx_ar 11 d_M_readyAt_34 (f_M_32 hB) hM (by decide) ?_
    refine jx_iload_n d_M_readyAt_37 rfl rfl ?_
    refine mx_ld (n := 4) d_M_readyAt_38 hM (by decide) rfl ⟨by omega, by omega⟩ ?_
    have r5 : -1 ≤ S 11 p ∧ S 11 p ≤ 15 := hI.r 11 p (n := 4) (by decide) rfl ⟨by omega, by omega⟩
    refine mx_ld (n := 16) d_M_readyAt_39 hM (by decide) rfl ⟨by omega, by omega⟩ ?_
    have r6 : -1 ≤ S 20 (S 11 p) ∧ S 20 (S 11 p) ≤ 100000 := hI.r 20 (S 11 p) (n := 16) (by decide) rfl ⟨by omega, by omega⟩
    refine jx_aload_n d_M_readyAt_40 rfl rfl ?_
    refine mx_ar 15 d_M_readyAt_41 (f_M_44 hB) hM (by decide) ?_
    refine jx_aload_n d_M_readyAt_44 rfl rfl ?_
    refine mx_ar 11 d_M_readyAt_45 (f_M_32 hB) hM (by decide) ?_
    refine jx_iload_n d_M_readyAt_48 rfl rfl ?_
    refine mx_ld (n := 4) d_M_readyAt_49 hM (by decide) rfl ⟨by omega, by omega⟩ ?_
    have r7 : -1 ≤ S 11 p ∧ S 11 p ≤ 15 := hI.r 11 p (n := 4) (by decide) rfl ⟨by omega, by omega⟩
    refine mx_ld (n := 16) d_M_readyAt_50 hM (by decide) rfl ⟨by omega, by omega⟩ ?_
    have r8 : 0 ≤ S 15 (S 11 p) ∧ S 15 (S 11 p) ≤ 5000 := hI.r 15 (S 11 p) (n := 16) (by decide) rfl ⟨by omega, by omega⟩
    refine jI_add d_M_readyAt_51 ?_
    refine jx_callS_r (As := [.int (iI (sGr (S 2 0) (S 5 p))), .int (iI ((S 20 (S 11 p)) + (S 15 (S 11 p))))]) d_M_readyAt_52 (m_M_greater hB) (s_M_120 hB) rfl (Nat.le_of_ble_eq_true rfl) (Nat.le_of_ble_eq_true rfl) (w_M_greater hB (a := sGr (S 2 0) (S 5 p)) (b := (S 20 (S 11 p)) + (S 15 (S 11 p))) (by omega) (by omega)) ?_
    have g9 : sGr (sGr (S 2 0) (S 5 p)) ((S 20 (S 11 p)) + (S 15 (S 11 p))) = sGr (S 2 0) (S 5 p) ∨ sGr (sGr (S 2 0) (S 5 p)) ((S 20 (S 11 p)) + (S 15 (S 11 p))) = (S 20 (S 11 p)) + (S 15 (S 11 p)) := by unfold sGr; split <;> omega
    exact jx_iret d_M_readyAt_55 rfl ⟨jr_i (by unfold sReady; split <;> first | rfl | omega), rfl⟩
  · refine jx_iload_n d_M_readyAt_24 rfl rfl ?_
    refine jx_goto (tgt := 55) d_M_readyAt_25 (by decide) ?_
    exact jx_iret d_M_readyAt_55 rfl ⟨jr_i (by unfold sReady; split <;> first | rfl | omega), rfl⟩
theorem w_M_startOf {E : jx_E} {l : Launch} {d : Nat} {w : jx_W} {S : mS} {m : Nat} {A : Nat → Nat} {p t r z : Int} (hB : jx_B E) (hM : mR E S w m A) (hI : sI S) (hp : 0 ≤ p ∧ p < 4) (ht : 0 ≤ t ∧ t < 16) (hr : 0 ≤ r ∧ r ≤ 200000) (hz : 0 ≤ z ∧ z < 4) : jx_G E l Y_M_startOf (d) (jx_eq (.inr (some (.int (iI (sStart S p t r z))))) w) 0 (jx_ent [.ref m, .int (iI p), .int (iI t), .int (iI r), .int (iI z)] 6) [] w := by
  show jx_G E l Y_M_startOf (d) _ 0 [some (.ref m), some (.int (iI p)), some (.int (iI t)), some (.int (iI r)), some (.int (iI z)), none] [] w
  refine jx_iload_n d_M_startOf_0 rfl rfl ?_
  refine jx_aload_n d_M_startOf_1 rfl rfl ?_
  refine mx_ar 12 d_M_startOf_2 (f_M_35 hB) hM (by decide) ?_
  refine jI_const d_M_startOf_5 ?_
  refine jx_iload d_M_startOf_6 rfl ?_
  refine jI_mul d_M_startOf_8 ?_
  refine jx_aload_n d_M_startOf_9 rfl rfl ?_
  refine mx_ar 17 d_M_startOf_10 (f_M_50 hB) hM (by decide) ?_
  refine jx_iload_n d_M_startOf_13 rfl rfl ?_
  refine mx_ld (n := 16) d_M_startOf_14 hM (by decide) rfl ⟨by omega, by omega⟩ ?_
  have r1 : 0 ≤ S 17 t ∧ S 17 t ≤ 3 := hI.r 17 t (n := 16) (by decide) rfl ⟨by omega, by omega⟩
  refine jI_add d_M_startOf_15 ?_
  refine mx_ld (n := 16) d_M_startOf_16 hM (by decide) rfl ⟨by omega, by omega⟩ ?_
  have r2 : 0 ≤ S 12 ((4 * z) + (S 17 t)) ∧ S 12 ((4 * z) + (S 17 t)) ≤ 1000 := hI.r 12 ((4 * z) + (S 17 t)) (n := 16) (by decide) rfl ⟨by omega, by omega⟩
  refine jI_add d_M_startOf_17 ?_
  refine jx_istore d_M_startOf_18 (Nat.le_of_ble_eq_true rfl) rfl ?_
  try dsimp only [List.set]
  refine jx_iload d_M_startOf_20 rfl ?_
  refine jx_aload_n d_M_startOf_22 rfl rfl ?_
  refine mx_ar 8 d_M_startOf_23 (f_M_22 hB) hM (by decide) ?_
  refine jx_iload_n d_M_startOf_26 rfl rfl ?_
  refine mx_ld (n := 4) d_M_startOf_27 hM (by decide) rfl ⟨by omega, by omega⟩ ?_
  have r3 : 0 ≤ S 8 p ∧ S 8 p ≤ 100000 := hI.r 8 p (n := 4) (by decide) rfl ⟨by omega, by omega⟩
  refine jI_icmp_ge (tgt := 72) d_M_startOf_28 (by decide) (by omega) (by omega) (fun hc4 => ?_) (fun hc4 => ?_)
  · refine jx_iload d_M_startOf_72 rfl ?_
    refine jx_aload_n d_M_startOf_74 rfl rfl ?_
    refine mx_ar 15 d_M_startOf_75 (f_M_44 hB) hM (by decide) ?_
    refine jx_iload_n d_M_startOf_78 rfl rfl ?_
    refine mx_ld (n := 16) d_M_startOf_79 hM (by decide) rfl ⟨by omega, by omega⟩ ?_
    have r5 : 0 ≤ S 15 t ∧ S 15 t ≤ 5000 := hI.r 15 t (n := 16) (by decide) rfl ⟨by omega, by omega⟩
    refine jI_add d_M_startOf_80 ?_
    refine jx_aload_n d_M_startOf_81 rfl rfl ?_
    refine mx_ar 6 d_M_startOf_82 (f_M_16 hB) hM (by decide) ?_
    refine jx_iload_n d_M_startOf_85 rfl rfl ?_
    refine mx_ld (n := 4) d_M_startOf_86 hM (by decide) rfl ⟨by omega, by omega⟩ ?_
    have r6 : 0 ≤ S 6 p ∧ S 6 p ≤ 100000 := hI.r 6 p (n := 4) (by decide) rfl ⟨by omega, by omega⟩
    refine jI_icmp_le (tgt := 94) d_M_startOf_87 (by decide) (by omega) (by omega) (fun hc7 => ?_) (fun hc7 => ?_)
    · refine jx_iload d_M_startOf_94 rfl ?_
      exact jx_iret d_M_startOf_96 rfl ⟨jr_i (by unfold sStart; (repeat' split) <;> omega), rfl⟩
    · refine jI_const d_M_startOf_90 ?_
      refine jx_goto (tgt := 96) d_M_startOf_91 (by decide) ?_
      exact jx_iret d_M_startOf_96 rfl ⟨jr_i (by unfold sStart; (repeat' split) <;> omega), rfl⟩
  · refine jx_iload d_M_startOf_31 rfl ?_
    refine jx_aload_n d_M_startOf_33 rfl rfl ?_
    refine mx_ar 15 d_M_startOf_34 (f_M_44 hB) hM (by decide) ?_
    refine jx_iload_n d_M_startOf_37 rfl rfl ?_
    refine mx_ld (n := 16) d_M_startOf_38 hM (by decide) rfl ⟨by omega, by omega⟩ ?_
    have r8 : 0 ≤ S 15 t ∧ S 15 t ≤ 5000 := hI.r 15 t (n := 16) (by decide) rfl ⟨by omega, by omega⟩
    refine jI_add d_M_startOf_39 ?_
    refine jx_aload_n d_M_startOf_40 rfl rfl ?_
    refine mx_ar 7 d_M_startOf_41 (f_M_19 hB) hM (by decide) ?_
    refine jx_iload_n d_M_startOf_44 rfl rfl ?_
    refine mx_ld (n := 4) d_M_startOf_45 hM (by decide) rfl ⟨by omega, by omega⟩ ?_
    have r9 : 0 ≤ S 7 p ∧ S 7 p ≤ 100000 := hI.r 7 p (n := 4) (by decide) rfl ⟨by omega, by omega⟩
    refine jI_icmp_le (tgt := 72) d_M_startOf_46 (by decide) (by omega) (by omega) (fun hc10 => ?_) (fun hc10 => ?_)
    · refine jx_iload d_M_startOf_72 rfl ?_
      refine jx_aload_n d_M_startOf_74 rfl rfl ?_
      refine mx_ar 15 d_M_startOf_75 (f_M_44 hB) hM (by decide) ?_
      refine jx_iload_n d_M_startOf_78 rfl rfl ?_
      refine mx_ld (n := 16) d_M_startOf_79 hM (by decide) rfl ⟨by omega, by omega⟩ ?_
      have r11 : 0 ≤ S 15 t ∧ S 15 t ≤ 5000 := hI.r 15 t (n := 16) (by decide) rfl ⟨by omega, by omega⟩
      refine jI_add d_M_startOf_80 ?_
      refine jx_aload_n d_M_startOf_81 rfl rfl ?_
      refine mx_ar 6 d_M_startOf_82 (f_M_16 hB) hM (by decide) ?_
      refine jx_iload_n d_M_startOf_85 rfl rfl ?_
      refine mx_ld (n := 4) d_M_startOf_86 hM (by decide) rfl ⟨by omega, by omega⟩ ?_
      have r12 : 0 ≤ S 6 p ∧ S 6 p ≤ 100000 := hI.r 6 p (n := 4) (by decide) rfl ⟨by omega, by omega⟩
      refine jI_icmp_le (tgt := 94) d_M_startOf_87 (by decide) (by omega) (by omega) (fun hc13 => ?_) (fun hc13 => ?_)
      · refine jx_iload d_M_startOf_94 rfl ?_
        exact jx_iret d_M_startOf_96 rfl ⟨jr_i (by unfold sStart; (repeat' split) <;> omega), rfl⟩
      · refine jI_const d_M_startOf_90 ?_
        refine jx_goto (tgt := 96) d_M_startOf_91 (by decide) ?_
        exact jx_iret d_M_startOf_96 rfl ⟨jr_i (by unfold sStart; (repeat' split) <;> omega), rfl⟩
    · refine jx_aload_n d_M_startOf_49 rfl rfl ?_
      refine mx_ar 7 d_M_startOf_50 (f_M_19 hB) hM (by decide) ?_
      refine jx_iload_n d_M_startOf_53 rfl rfl ?_
      refine mx_ld (n := 4) d_M_startOf_54 hM (by decide) rfl ⟨by omega, by omega⟩ ?_
      have r14 : 0 ≤ S 7 p ∧ S 7 p ≤ 100000 := hI.r 7 p (n := 4) (by decide) rfl ⟨by omega, by omega⟩
      refine jx_aload_n d_M_startOf_55 rfl rfl ?_
      refine mx_ar 8 d_M_startOf_56 (f_M_22 hB) hM (by decide) ?_
      refine jx_iload_n d_M_startOf_59 rfl rfl ?_
      refine mx_ld (n := 4) d_M_startOf_60 hM (by decide) rfl ⟨by omega, by omega⟩ ?_
      have r15 : 0 ≤ S 8 p ∧ S 8 p ≤ 100000 := hI.r 8 p (n := 4) (by decide) rfl ⟨by omega, by omega⟩
      refine jI_icmp_ge (tgt := 72) d_M_startOf_61 (by decide) (by omega) (by omega) (fun hc16 => ?_) (fun hc16 => ?_)
      · refine jx_iload d_M_startOf_72 rfl ?_
        refine jx_aload_n d_M_startOf_74 rfl rfl ?_
        refine mx_ar 15 d_M_startOf_75 (f_M_44 hB) hM (by decide) ?_
        refine jx_iload_n d_M_startOf_78 rfl rfl ?_
        refine mx_ld (n := 16) d_M_startOf_79 hM (by decide) rfl ⟨by omega, by omega⟩ ?_
        have r17 : 0 ≤ S 15 t ∧ S 15 t ≤ 5000 := hI.r 15 t (n := 16) (by decide) rfl ⟨by omega, by omega⟩
        refine jI_add d_M_startOf_80 ?_
        refine jx_aload_n d_M_startOf_81 rfl rfl ?_
        refine mx_ar 6 d_M_startOf_82 (f_M_16 hB) hM (by decide) ?_
        refine jx_iload_n d_M_startOf_85 rfl rfl ?_
        refine mx_ld (n := 4) d_M_startOf_86 hM (by decide) rfl ⟨by omega, by omega⟩ ?_
        have r18 : 0 ≤ S 6 p ∧ S 6 p ≤ 100000 := hI.r 6 p (n := 4) (by decide) rfl ⟨by omega, by omega⟩
        refine jI_icmp_le (tgt := 94) d_M_startOf_87 (by decide) (by omega) (by omega) (fun hc19 => ?_) (fun hc19 => ?_)
        · refine jx_iload d_M_startOf_94 rfl ?_
          exact jx_iret d_M_startOf_96 rfl ⟨jr_i (by unfold sStart; (repeat' split) <;> omega), rfl⟩
        · refine jI_const d_M_startOf_90 ?_
          refine jx_goto (tgt := 96) d_M_startOf_91 (by decide) ?_
          exact jx_iret d_M_startOf_96 rfl ⟨jr_i (by unfold sStart; (repeat' split) <;> omega), rfl⟩
      · refine jx_aload_n d_M_startOf_64 rfl rfl ?_
        refine mx_ar 8 d_M_startOf_65 (f_M_22 hB) hM (by decide) ?_
        refine jx_iload_n d_M_startOf_68 rfl rfl ?_
        refine mx_ld (n := 4) d_M_startOf_69 hM (by decide) rfl ⟨by omega, by omega⟩ ?_
        have r20 : 0 ≤ S 8 p ∧ S 8 p ≤ 100000 := hI.r 8 p (n := 4) (by decide) rfl ⟨by omega, by omega⟩
        refine jx_istore d_M_startOf_70 (Nat.le_of_ble_eq_true rfl) rfl ?_
        try dsimp only [List.set]
        refine jx_iload d_M_startOf_72 rfl ?_
        refine jx_aload_n d_M_startOf_74 rfl rfl ?_
        refine mx_ar 15 d_M_startOf_75 (f_M_44 hB) hM (by decide) ?_
        refine jx_iload_n d_M_startOf_78 rfl rfl ?_
        refine mx_ld (n := 16) d_M_startOf_79 hM (by decide) rfl ⟨by omega, by omega⟩ ?_
        have r21 : 0 ≤ S 15 t ∧ S 15 t ≤ 5000 := hI.r 15 t (n := 16) (by decide) rfl ⟨by omega, by omega⟩
        refine jI_add d_M_startOf_80 ?_
        refine jx_aload_n d_M_startOf_81 rfl rfl ?_
        refine mx_ar 6 d_M_startOf_82 (f_M_16 hB) hM (by decide) ?_
        refine jx_iload_n d_M_startOf_85 rfl rfl ?_
        refine mx_ld (n := 4) d_M_startOf_86 hM (by decide) rfl ⟨by omega, by omega⟩ ?_
        have r22 : 0 ≤ S 6 p ∧ S 6 p ≤ 100000 := hI.r 6 p (n := 4) (by decide) rfl ⟨by omega, by omega⟩
        refine jI_icmp_le (tgt := 94) d_M_startOf_87 (by decide) (by omega) (by omega) (fun hc23 => ?_) (fun hc23 => ?_)
        · refine jx_iload d_M_startOf_94 rfl ?_
          exact jx_iret d_M_startOf_96 rfl ⟨jr_i (by unfold sStart; (repeat' split) <;> omega), rfl⟩
        · refine jI_const d_M_startOf_90 ?_
          refine jx_goto (tgt := 96) d_M_startOf_91 (by decide) ?_
          exact jx_iret d_M_startOf_96 rfl ⟨jr_i (by unfold sStart; (repeat' split) <;> omega), rfl⟩
theorem sReady_rg {S : mS} {p : Int} (hI : sI S) (hp : 0 ≤ p ∧ p < 4) (hn : 0 ≤ S 2 0 ∧ S 2 0 ≤ 100000) : 0 ≤ sReady S p ∧ sReady S p ≤ 110000 := by
  have r1 : 0 ≤ S 5 p ∧ S 5 p ≤ 100000 := hI.r 5 p (n := 4) (by decide) rfl ⟨by omega, by omega⟩
  have r2 : -1 ≤ S 11 p ∧ S 11 p ≤ 15 := hI.r 11 p (n := 4) (by decide) rfl ⟨by omega, by omega⟩
  unfold sReady sGr
  split
  · split <;> omega
  · have r3 : -1 ≤ S 20 (S 11 p) ∧ S 20 (S 11 p) ≤ 100000 := hI.r 20 (S 11 p) (n := 16) (by decide) rfl ⟨by omega, by omega⟩
    have r4 : 0 ≤ S 15 (S 11 p) ∧ S 15 (S 11 p) ≤ 5000 := hI.r 15 (S 11 p) (n := 16) (by decide) rfl ⟨by omega, by omega⟩
    (repeat' split) <;> omega
theorem w_M_aloneAt {E : jx_E} {l : Launch} {d : Nat} {w : jx_W} {S : mS} {m : Nat} {A : Nat → Nat} {p t : Int} (hB : jx_B E) (hM : mR E S w m A) (hI : sI S) (hp : 0 ≤ p ∧ p < 4) (ht : 0 ≤ t ∧ t < 16) (hn : 0 ≤ S 2 0 ∧ S 2 0 ≤ 100000) : jx_G E l Y_M_aloneAt (d + 2) (jx_eq (.inr (some (.int (iI (sAlone S p t))))) w) 0 (jx_ent [.ref m, .int (iI p), .int (iI t)] 3) [] w := by
  show jx_G E l Y_M_aloneAt (d + 2) _ 0 [some (.ref m), some (.int (iI p)), some (.int (iI t))] [] w
  refine jx_aload_n d_M_aloneAt_0 rfl rfl ?_
  refine jx_iload_n d_M_aloneAt_1 rfl rfl ?_
  refine jx_iload_n d_M_aloneAt_2 rfl rfl ?_
  refine jx_aload_n d_M_aloneAt_3 rfl rfl ?_
  refine jx_iload_n d_M_aloneAt_4 rfl rfl ?_
  refine jx_callV_r (As := [.int (iI (p))]) d_M_aloneAt_5 (m_M_readyAt hB) (v_M_124 hB) (by decide) (jx_c5 hB) hM.1 rfl (Nat.le_of_ble_eq_true rfl) (Nat.le_of_ble_eq_true rfl) (w_M_readyAt hB hM hI hp hn) ?_
  have q2 := sReady_rg hI hp hn
  refine jx_aload_n d_M_aloneAt_8 rfl rfl ?_
  refine mx_ar 9 d_M_aloneAt_9 (f_M_25 hB) hM (by decide) ?_
  refine jx_iload_n d_M_aloneAt_12 rfl rfl ?_
  refine mx_ld (n := 4) d_M_aloneAt_13 hM (by decide) rfl ⟨by omega, by omega⟩ ?_
  have r1 : 0 ≤ S 9 p ∧ S 9 p ≤ 3 := hI.r 9 p (n := 4) (by decide) rfl ⟨by omega, by omega⟩
  refine jx_callV_r (As := [.int (iI (p)), .int (iI (t)), .int (iI (sReady S p)), .int (iI (S 9 p))]) d_M_aloneAt_14 (m_M_startOf hB) (v_M_127 hB) (by decide) (jx_c5 hB) hM.1 rfl (Nat.le_of_ble_eq_true rfl) (Nat.le_of_ble_eq_true rfl) (w_M_startOf hB hM hI (p := p) (t := t) (r := sReady S p) (z := S 9 p) (by omega) (by omega) (by omega) (by omega)) ?_
  exact jx_iret d_M_aloneAt_17 rfl ⟨jr_i (by rfl), rfl⟩
theorem w_M_hasRefused {E : jx_E} {l : Launch} {d : Nat} {w : jx_W} {S : mS} {m : Nat} {A : Nat → Nat} {p t : Int} (hB : jx_B E) (hM : mR E S w m A) (hI : sI S) (hp : 0 ≤ p ∧ p < 4) (ht : 0 ≤ t ∧ t < 16) : jx_G E l Y_M_hasRefused (d) (jx_eq (.inr (some (.int (iI (sRef S p t))))) w) 0 (jx_ent [.ref m, .int (iI p), .int (iI t)] 3) [] w := by
  show jx_G E l Y_M_hasRefused (d) _ 0 [some (.ref m), some (.int (iI p)), some (.int (iI t))] [] w
  refine jx_aload_n d_M_hasRefused_0 rfl rfl ?_
  refine mx_ar 18 d_M_hasRefused_1 (f_M_53 hB) hM (by decide) ?_
  refine jx_iload_n d_M_hasRefused_4 rfl rfl ?_
  refine mx_ld (n := 16) d_M_hasRefused_5 hM (by decide) rfl ⟨by omega, by omega⟩ ?_
  have r1 : 0 ≤ S 18 t ∧ S 18 t ≤ 15 := hI.r 18 t (n := 16) (by decide) rfl ⟨by omega, by omega⟩
  refine jx_iload_n d_M_hasRefused_6 rfl rfl ?_
  refine jI_bit d_M_hasRefused_7 d_M_hasRefused_8 d_M_hasRefused_9 ⟨by omega, by omega⟩ ⟨by omega, by omega⟩ ?_
  have b2 := sBit_01 (S 18 t) p
  refine jI_const d_M_hasRefused_10 ?_
  refine jI_icmp_ne (tgt := 18) d_M_hasRefused_11 (by decide) (by omega) (by omega) (fun hc3 => ?_) (fun hc3 => ?_)
  · refine jI_const d_M_hasRefused_18 ?_
    exact jx_zret (ty := .boolean) d_M_hasRefused_19 rfl (jI_bool (by omega)) ⟨jr_i (by unfold sRef; (repeat' split) <;> omega), rfl⟩
  · refine jI_const d_M_hasRefused_14 ?_
    refine jx_goto (tgt := 19) d_M_hasRefused_15 (by decide) ?_
    exact jx_zret (ty := .boolean) d_M_hasRefused_19 rfl (jI_bool (by omega)) ⟨jr_i (by unfold sRef; (repeat' split) <;> omega), rfl⟩
theorem w_M_may {E : jx_E} {l : Launch} {d : Nat} {w : jx_W} {S : mS} {m : Nat} {A : Nat → Nat} {p t : Int} (hB : jx_B E) (hM : mR E S w m A) (hI : sI S) (hp : 0 ≤ p ∧ p < 4) (ht : 0 ≤ t ∧ t < 16) : jx_G E l Y_M_may (d + 1) (jx_eq (.inr (some (.int (iI (sMay S p t))))) w) 0 (jx_ent [.ref m, .int (iI p), .int (iI t)] 3) [] w := by
  show jx_G E l Y_M_may (d + 1) _ 0 [some (.ref m), some (.int (iI p)), some (.int (iI t))] [] w
  refine jx_aload_n d_M_may_0 rfl rfl ?_
  refine mx_ar 10 d_M_may_1 (f_M_28 hB) hM (by decide) ?_
  refine jx_iload_n d_M_may_4 rfl rfl ?_
  refine mx_zld d_M_may_5 hM ⟨by omega, by omega⟩ ?_
  have r1 : 0 ≤ S 10 p ∧ S 10 p ≤ 1 := hI.r 10 p (n := 4) (by decide) rfl ⟨by omega, by omega⟩
  refine jI_if_eq (tgt := 41) d_M_may_6 (by decide) (by omega) (fun hc2 => ?_) (fun hc2 => ?_)
  · refine jI_const d_M_may_41 ?_
    exact jx_zret (ty := .boolean) d_M_may_42 rfl (jI_bool (by omega)) ⟨jr_i (by unfold sMay; (repeat' split) <;> omega), rfl⟩
  · refine jx_aload_n d_M_may_9 rfl rfl ?_
    refine mx_ar 4 d_M_may_10 (f_M_7 hB) hM (by decide) ?_
    refine jx_iload_n d_M_may_13 rfl rfl ?_
    refine mx_ld (n := 4) d_M_may_14 hM (by decide) rfl ⟨by omega, by omega⟩ ?_
    have r3 : 0 ≤ S 4 p ∧ S 4 p ≤ 255 := hI.r 4 p (n := 4) (by decide) rfl ⟨by omega, by omega⟩
    refine jx_aload_n d_M_may_15 rfl rfl ?_
    refine mx_ar 14 d_M_may_16 (f_M_41 hB) hM (by decide) ?_
    refine jx_iload_n d_M_may_19 rfl rfl ?_
    refine mx_ld (n := 16) d_M_may_20 hM (by decide) rfl ⟨by omega, by omega⟩ ?_
    have r4 : 0 ≤ S 14 t ∧ S 14 t ≤ 7 := hI.r 14 t (n := 16) (by decide) rfl ⟨by omega, by omega⟩
    refine jI_bit d_M_may_21 d_M_may_22 d_M_may_23 ⟨by omega, by omega⟩ ⟨by omega, by omega⟩ ?_
    have b5 := sBit_01 (S 4 p) (S 14 t)
    refine jI_const d_M_may_24 ?_
    refine jI_icmp_ne (tgt := 41) d_M_may_25 (by decide) (by omega) (by omega) (fun hc6 => ?_) (fun hc6 => ?_)
    · refine jI_const d_M_may_41 ?_
      exact jx_zret (ty := .boolean) d_M_may_42 rfl (jI_bool (by omega)) ⟨jr_i (by unfold sMay; (repeat' split) <;> omega), rfl⟩
    · refine jx_aload_n d_M_may_28 rfl rfl ?_
      refine jx_iload_n d_M_may_29 rfl rfl ?_
      refine jx_iload_n d_M_may_30 rfl rfl ?_
      refine jx_callV_r (As := [.int (iI (p)), .int (iI (t))]) d_M_may_31 (m_M_hasRefused hB) (v_M_109 hB) (by decide) (jx_c5 hB) hM.1 rfl (Nat.le_of_ble_eq_true rfl) (Nat.le_of_ble_eq_true rfl) (w_M_hasRefused hB hM hI (by omega) (by omega)) ?_
      have q3 : sRef S (p) (t) = 0 ∨ sRef S (p) (t) = 1 := by unfold sRef; split <;> omega
      refine jI_if_ne (tgt := 41) d_M_may_34 (by decide) (by omega) (fun hc7 => ?_) (fun hc7 => ?_)
      · refine jI_const d_M_may_41 ?_
        exact jx_zret (ty := .boolean) d_M_may_42 rfl (jI_bool (by omega)) ⟨jr_i (by unfold sMay; (repeat' split) <;> omega), rfl⟩
      · refine jI_const d_M_may_37 ?_
        refine jx_goto (tgt := 42) d_M_may_38 (by decide) ?_
        exact jx_zret (ty := .boolean) d_M_may_42 rfl (jI_bool (by omega)) ⟨jr_i (by unfold sMay; (repeat' split) <;> omega), rfl⟩
