/-! 40.bits: bits of a number -/
theorem sBit_tb {x k : Int} (hx : 0 ≤ x) : sBit x k = if x.toNat.testBit k.toNat = true then 1 else 0 := by
  unfold sBit
  have e : x / 2 ^ k.toNat = ((x.toNat / 2 ^ k.toNat : Nat) : Int) := by
    rw [Int.natCast_ediv, Int.toNat_of_nonneg hx, Int.natCast_pow]
    rfl
  rw [e, Nat.testBit_eq_decide_div_mod_eq]
  simp only [decide_eq_true_eq]
  split <;> omega
/-- x with the bit k -/
def sSet (x k : Int) : Int := ((x.toNat ||| 2 ^ k.toNat : Nat) : Int)
theorem sSet_nn (x k : Int) : 0 ≤ sSet x k := Int.natCast_nonneg _
theorem sSet_rg {n : Nat} {x k : Int} (hx : 0 ≤ x ∧ x < 2 ^ n) (hk : 0 ≤ k ∧ k < n) : 0 ≤ sSet x k ∧ sSet x k < 2 ^ n := by
  refine ⟨sSet_nn x k, ?_⟩
  have h1 : x.toNat < 2 ^ n := by
    have : ((x.toNat : Nat) : Int) < ((2 ^ n : Nat) : Int) := by rw [Int.toNat_of_nonneg hx.1, Int.natCast_pow]; exact hx.2
    omega
  have h2 : 2 ^ k.toNat < 2 ^ n := Nat.pow_lt_pow_right (by decide) (by omega)
  have h3 := Nat.or_lt_two_pow h1 h2
  unfold sSet
  have : ((x.toNat ||| 2 ^ k.toNat : Nat) : Int) < ((2 ^ n : Nat) : Int) := by omega
  rw [Int.natCast_pow] at this
  exact this
theorem sBit_set {x k j : Int} (hx : 0 ≤ x) (hk : 0 ≤ k) (hj : 0 ≤ j) : sBit (sSet x k) j = if j = k then 1 else sBit x j := by
  rw [sBit_tb (sSet_nn x k), sBit_tb hx]
  unfold sSet
  rw [Int.toNat_natCast, Nat.testBit_or, Nat.testBit_two_pow]
  by_cases e : j = k
  · subst e
    simp
  · have : ¬ k.toNat = j.toNat := by omega
    simp [e, this]
theorem nI_or (a b : Nat) : nI a ||| nI b = nI (a ||| b) := by
  apply Int32.toBitVec_inj.mp
  rw [Int32.toBitVec_or]
  show BitVec.ofNat 32 a ||| BitVec.ofNat 32 b = BitVec.ofNat 32 (a ||| b)
  rw [BitVec.ofNat_or]
theorem iI_shl1 {k : Int} (hk : 0 ≤ k ∧ k < 31) : iI 1 <<< (iI k &&& 31) = nI (2 ^ k.toNat) := by
  have h : ∀ j : Nat, j < 31 → (1 : Int32) <<< (nI j &&& 31) = nI (2 ^ j) := by decide +kernel
  have e : iI k = nI k.toNat := by rw [iI_nat, Int.toNat_of_nonneg hk.1]
  rw [e]
  exact h k.toNat (by omega)
section
variable {E : jx_E} {l : Launch} {Y : jx_Y} {d : Nat} {Q : jx_R → jx_W → Prop} {pc : Nat} {L : List (Option Value)} {st : List Value} {w : jx_W}
theorem jI_shl1 {k : Int} (h1 : decode Y.2.2.1 pc = .ok (.ishl, 1)) (hk : 0 ≤ k ∧ k < 31) (K : jx_G E l Y d Q (pc + 1) L (.int (iI (2 ^ k.toNat)) :: st) w) : jx_G E l Y d Q pc L (.int (iI k) :: .int (iI 1) :: st) w := by
  refine jx_ishl h1 ?_
  rw [iI_shl1 hk, iI_nat, Int.natCast_pow]
  exact K
/-- x | 1 << k -/
theorem jI_setbit {x k : Int} (h1 : decode Y.2.2.1 pc = .ok (.ishl, 1)) (h2 : decode Y.2.2.1 (pc + 1) = .ok (.ior, 1)) (hx : 0 ≤ x ∧ x < 2147483648) (hk : 0 ≤ k ∧ k < 31) (K : jx_G E l Y d Q (pc + 1 + 1) L (.int (iI (sSet x k)) :: st) w) : jx_G E l Y d Q pc L (.int (iI k) :: .int (iI 1) :: .int (iI x) :: st) w := by
  refine jx_ishl h1 ?_
  rw [iI_shl1 hk]
  refine jx_ior h2 ?_
  rw [show iI x = nI x.toNat by rw [iI_nat, Int.toNat_of_nonneg hx.1], nI_or, iI_nat]
  exact K
end
def sSumN (f : Int → Int) : Nat → Int
  | 0 => 0
  | k + 1 => sSumN f k + f k
/-- f 0 + .. + f (t - 1) -/
def sSum (f : Int → Int) (t : Int) : Int := sSumN f t.toNat
theorem sSum_0 (f : Int → Int) : sSum f 0 = 0 := rfl
theorem sSum_s (f : Int → Int) {t : Int} (h : 0 ≤ t) : sSum f (t + 1) = sSum f t + f t := by
  unfold sSum
  rw [show (t + 1).toNat = t.toNat + 1 by omega]
  show sSumN f t.toNat + f (t.toNat : Int) = _
  rw [Int.toNat_of_nonneg h]
theorem sSumN_rg {f : Int → Int} {b : Int} (h0 : 0 ≤ b) (n : Nat) : (∀ i : Int, 0 ≤ i ∧ i < n → 0 ≤ f i ∧ f i ≤ b) → 0 ≤ sSumN f n ∧ sSumN f n ≤ b * n := by
  induction n with
  | zero => intro _; exact ⟨Int.le_refl _, by simp [sSumN]⟩
  | succ k ih =>
    intro h
    have h1 := ih (fun i hi => h i ⟨hi.1, by omega⟩)
    have h2 := h k ⟨by omega, by omega⟩
    show 0 ≤ sSumN f k + f k ∧ sSumN f k + f k ≤ b * ((k + 1 : Nat) : Int)
    have e : b * ((k + 1 : Nat) : Int) = b * (k : Int) + b := by rw [Int.natCast_add, Int.mul_add]; simp
    rw [e]
    omega
theorem sSum_rg {f : Int → Int} {b t : Int} (h0 : 0 ≤ b) (ht : 0 ≤ t) (h : ∀ i : Int, 0 ≤ i ∧ i < t → 0 ≤ f i ∧ f i ≤ b) : 0 ≤ sSum f t ∧ sSum f t ≤ b * t := by
  have h1 := sSumN_rg h0 t.toNat (fun i hi => h i ⟨hi.1, by omega⟩)
  rw [Int.toNat_of_nonneg ht] at h1
  exact h1
