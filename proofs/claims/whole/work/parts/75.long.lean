/-! 75.long: longs; sets of bits -/
theorem lI_toInt {x : Int} (h : -9223372036854775808 ≤ x ∧ x < 9223372036854775808) : (lI x).toInt = x := by
  unfold lI
  rw [Int64.toInt_ofInt]
  rw [Int.bmod_def]
  have hs : ((Int64.size : Nat) : Int) = 18446744073709551616 := rfl
  rw [hs]
  omega
theorem lI_add (x y : Int) : lI x + lI y = lI (x + y) := (Int64.ofInt_add x y).symm
theorem lI_mul (x y : Int) : lI x * lI y = lI (x * y) := (Int64.ofInt_mul x y).symm
abbrev lR (x : Int) : Prop := -4611686018427387904 ≤ x ∧ x ≤ 4611686018427387904
theorem lI_lt {x y : Int} (hx : lR x) (hy : lR y) : lI x < lI y ↔ x < y := by
  rw [Int64.lt_iff_toInt_lt, lI_toInt (by omega), lI_toInt (by omega)]
theorem lI_eq {x y : Int} (hx : lR x) (hy : lR y) : lI x = lI y ↔ x = y := by
  constructor
  · intro h
    have h2 := congrArg Int64.toInt h
    rw [lI_toInt (by omega), lI_toInt (by omega)] at h2
    exact h2
  · intro h; rw [h]
theorem iI_long {x : Int} (h : iR x) : (iI x).toInt64 = lI x := by
  apply Int64.toInt_inj.mp
  rw [Int32.toInt_toInt64, iI_toInt (by omega), lI_toInt (by omega)]
/-- x & y -/
def nA (x y : Int) : Int := ((x.toNat &&& y.toNat : Nat) : Int)
theorem nA_rg (x y : Int) : 0 ≤ nA x y ∧ nA x y ≤ (x.toNat : Int) ∧ nA x y ≤ (y.toNat : Int) := by
  unfold nA
  have h1 : x.toNat &&& y.toNat ≤ x.toNat := Nat.and_le_left
  have h2 : x.toNat &&& y.toNat ≤ y.toNat := Nat.and_le_right
  omega
theorem xr_rg {x y : Int} (hx : 0 ≤ x ∧ x < 32) (hy : 0 ≤ y ∧ y < 32) : 0 ≤ xr x y ∧ xr x y < 32 := by
  have h3 : x.toNat ^^^ y.toNat < 2 ^ 5 := Nat.xor_lt_two_pow (by omega) (by omega)
  unfold xr
  omega
theorem nA_sbs (x y : Int) : nA x y = x ↔ sbs x y := Iff.rfl
theorem nI_and (a b : Nat) : nI a &&& nI b = nI (a &&& b) := by
  apply Int32.toBitVec_inj.mp
  rw [Int32.toBitVec_and]
  show BitVec.ofNat 32 a &&& BitVec.ofNat 32 b = BitVec.ofNat 32 (a &&& b)
  rw [BitVec.ofNat_and]
theorem nI_xor (a b : Nat) : nI a ^^^ nI b = nI (a ^^^ b) := by
  apply Int32.toBitVec_inj.mp
  rw [Int32.toBitVec_xor]
  show BitVec.ofNat 32 a ^^^ BitVec.ofNat 32 b = BitVec.ofNat 32 (a ^^^ b)
  rw [BitVec.ofNat_xor]
section LONG
variable {E : jx_E} {l : Launch} {Y : jx_Y} {d : Nat} {Q : jx_R → jx_W → Prop} {pc : Nat} {L : List (Option Value)} {st : List Value} {w : jx_W}
theorem jI_and {x y : Int} (hd : decode Y.2.2.1 pc = .ok (.iand, 1)) (hx : 0 ≤ x ∧ x < 2147483648) (hy : 0 ≤ y ∧ y < 2147483648) (K : jx_G E l Y d Q (pc + 1) L (.int (iI (nA x y)) :: st) w) : jx_G E l Y d Q pc L (.int (iI y) :: .int (iI x) :: st) w := by
  refine jx_iand hd ?_
  rw [show iI x = nI x.toNat by rw [iI_nat, Int.toNat_of_nonneg hx.1], show iI y = nI y.toNat by rw [iI_nat, Int.toNat_of_nonneg hy.1], nI_and, iI_nat]
  exact K
theorem jI_xor {x y : Int} (hd : decode Y.2.2.1 pc = .ok (.ixor, 1)) (hx : 0 ≤ x ∧ x < 2147483648) (hy : 0 ≤ y ∧ y < 2147483648) (K : jx_G E l Y d Q (pc + 1) L (.int (iI (xr x y)) :: st) w) : jx_G E l Y d Q pc L (.int (iI y) :: .int (iI x) :: st) w := by
  refine jx_ixor hd ?_
  rw [show iI x = nI x.toNat by rw [iI_nat, Int.toNat_of_nonneg hx.1], show iI y = nI y.toNat by rw [iI_nat, Int.toNat_of_nonneg hy.1], nI_xor, iI_nat]
  exact K
theorem jL_i2l {x : Int} (hd : decode Y.2.2.1 pc = .ok (.i2l, 1)) (hx : iR x) (K : jx_G E l Y d Q (pc + 1) L (.long (lI x) :: st) w) : jx_G E l Y d Q pc L (.int (iI x) :: st) w := jx_i2l hd (iI_long hx) K
theorem jL_add {x y : Int} (hd : decode Y.2.2.1 pc = .ok (.ladd, 1)) (K : jx_G E l Y d Q (pc + 1) L (.long (lI (x + y)) :: st) w) : jx_G E l Y d Q pc L (.long (lI y) :: .long (lI x) :: st) w := jx_ladd hd (by rw [lI_add]; exact K)
theorem jL_mul {x y : Int} (hd : decode Y.2.2.1 pc = .ok (.lmul, 1)) (K : jx_G E l Y d Q (pc + 1) L (.long (lI (x * y)) :: st) w) : jx_G E l Y d Q pc L (.long (lI y) :: .long (lI x) :: st) w := jx_lmul hd (by rw [lI_mul]; exact K)
theorem jL_ldc2 {idx : Nat} {v : Int64} {n : Int} (hd : decode Y.2.2.1 pc = .ok (.ldc2_w idx, 3)) (hk : (Jvm.Cond.constantLong Y.1 idx v).before #[] E.1 = true) (hv : v = lI n) (K : jx_G E l Y d Q (pc + 3) L (.long (lI n) :: st) w) : jx_G E l Y d Q pc L st w := by
  subst hv
  exact jx_ldc2 hd hk K
end LONG
