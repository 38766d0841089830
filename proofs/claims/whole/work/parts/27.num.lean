/-! 27.num: whole numbers as ints -/
def iI (x : Int) : Int32 := Int32.ofInt x
theorem iI_toInt {x : Int} (h : -2147483648 ≤ x ∧ x < 2147483648) : (iI x).toInt = x := by
  unfold iI
  rw [Int32.toInt_ofInt]
  rw [Int.bmod_def]
  have hs : ((Int32.size : Nat) : Int) = 4294967296 := rfl
  rw [hs]
  omega
theorem iI_add (x y : Int) : iI x + iI y = iI (x + y) := (Int32.ofInt_add x y).symm
theorem iI_sub (x y : Int) : iI x - iI y = iI (x - y) := (Int32.ofInt_sub x y).symm
theorem iI_mul (x y : Int) : iI x * iI y = iI (x * y) := (Int32.ofInt_mul x y).symm
/-- the range of an int -/
abbrev iR (x : Int) : Prop := -2147483648 ≤ x ∧ x ≤ 2147483647
theorem iI_lt {x y : Int} (hx : iR x) (hy : iR y) : iI x < iI y ↔ x < y := by
  rw [Int32.lt_iff_toInt_lt, iI_toInt (by omega), iI_toInt (by omega)]
theorem iI_le {x y : Int} (hx : iR x) (hy : iR y) : iI x ≤ iI y ↔ x ≤ y := by
  rw [Int32.le_iff_toInt_le, iI_toInt (by omega), iI_toInt (by omega)]
theorem iI_eq {x y : Int} (hx : iR x) (hy : iR y) : iI x = iI y ↔ x = y := by
  constructor
  · intro h
    have h2 := congrArg Int32.toInt h
    rw [iI_toInt (by omega), iI_toInt (by omega)] at h2
    exact h2
  · rintro rfl
    rfl
theorem iI_nat (n : Nat) : nI n = iI (n : Int) := rfl
theorem iI_of (x : Int32) : x = iI x.toInt := by
  unfold iI
  rw [Int32.ofInt_toInt]
theorem iI_clamp {x : Int} (h : 0 ≤ x ∧ x < 2147483648) : (iI x).toNatClampNeg = x.toNat := by
  show (iI x).toInt.toNat = x.toNat
  rw [iI_toInt (by omega)]
theorem iI_in {x : Int} {n : Nat} (h : 0 ≤ x ∧ x < n) (hn : n < 2147483648) : vp_in (iI x) n := by
  rw [vp_in_iff, iI_toInt (by omega)]
  exact h
theorem iI_0 : (0 : Int32) = iI 0 := rfl
theorem iI_1 : (1 : Int32) = iI 1 := rfl
theorem iI_m1 : (-1 : Int32) = iI (-1) := by decide
theorem iI_div {x y : Int} (hx : 0 ≤ x ∧ x ≤ 1000000000) (hy : 0 < y ∧ y ≤ 1000000000) : iI x / iI y = iI (x / y) := by
  have h1 : 0 ≤ x / y := Int.ediv_nonneg hx.1 (by omega)
  have h2 : x / y ≤ x := Int.ediv_le_self y hx.1
  apply Int32.toInt_inj.mp
  rw [lg_idiv_nonneg (by rw [iI_toInt (by omega)]; exact hx.1) (by rw [iI_toInt (by omega)]; exact hy.1), iI_toInt (by omega), iI_toInt (by omega), iI_toInt (by omega)]
theorem iI_rem {x y : Int} (hx : 0 ≤ x ∧ x ≤ 1000000000) (hy : 0 < y ∧ y ≤ 1000000000) : iI x - iI x / iI y * iI y = iI (x % y) := by
  rw [iI_div hx hy, iI_mul, iI_sub]
  congr 1
  rw [Int.emod_def, Int.mul_comm]
