/-! 69.dp: sharing sets out finds the first of the cheapest choices -/
def xr (x y : Int) : Int := ((x.toNat ^^^ y.toNat : Nat) : Int)
/-- the set x is a part of y -/
abbrev sbs (x y : Int) : Prop := ((x.toNat &&& y.toNat : Nat) : Int) = x
theorem bit_ext {x y : Int} (hx : 0 ≤ x) (hy : 0 ≤ y) (h : ∀ k, 0 ≤ k → sBit x k = sBit y k) : x = y := by
  have : x.toNat = y.toNat := by
    refine Nat.eq_of_testBit_eq (fun i => ?_)
    have h1 := h i (by omega)
    rw [sBit_tb hx, sBit_tb hy, Int.toNat_natCast] at h1
    cases hb : x.toNat.testBit i <;> cases hc : y.toNat.testBit i <;> rw [hb, hc] at h1 <;> simp at h1 ⊢
  omega
theorem xr_nn (x y : Int) : 0 ≤ xr x y := Int.natCast_nonneg _
theorem bit_xr {x y k : Int} (hx : 0 ≤ x) (hy : 0 ≤ y) : sBit (xr x y) k = if sBit x k = sBit y k then 0 else 1 := by
  rw [sBit_tb (xr_nn x y), sBit_tb hx, sBit_tb hy]
  unfold xr
  rw [Int.toNat_natCast, Nat.testBit_xor]
  cases x.toNat.testBit k.toNat <;> cases y.toNat.testBit k.toNat <;> simp
theorem sbs_bit {x y : Int} (hx : 0 ≤ x) (hy : 0 ≤ y) : sbs x y ↔ ∀ k, 0 ≤ k → sBit x k = 1 → sBit y k = 1 := by
  constructor
  · intro h k hk hb
    unfold sbs at h
    rw [← h, sBit_tb (Int.natCast_nonneg _), Int.toNat_natCast, Nat.testBit_and] at hb
    rw [sBit_tb hy]
    cases h1 : x.toNat.testBit k.toNat <;> cases h2 : y.toNat.testBit k.toNat <;> rw [h1, h2] at hb <;> simp at hb ⊢
  · intro h
    unfold sbs
    refine bit_ext (Int.natCast_nonneg _) hx (fun k hk => ?_)
    have h1 := h k hk
    rw [sBit_tb hx, sBit_tb hy] at h1
    rw [sBit_tb (Int.natCast_nonneg _), sBit_tb hx, Int.toNat_natCast, Nat.testBit_and]
    cases h1 : x.toNat.testBit k.toNat <;> cases h2 : y.toNat.testBit k.toNat <;> simp_all
theorem sbs_le {x y : Int} (hx : 0 ≤ x) (hy : 0 ≤ y) (h : sbs x y) : x ≤ y := by
  unfold sbs at h
  have : x.toNat &&& y.toNat ≤ y.toNat := Nat.and_le_right
  omega
theorem xr_0 {x : Int} (hx : 0 ≤ x) : xr x 0 = x := by
  unfold xr
  rw [show (0 : Int).toNat = 0 from rfl, Nat.xor_zero]
  omega
def pv (k : Int) : Int := if k = 0 then 625 else if k = 1 then 125 else if k = 2 then 25 else if k = 3 then 5 else 1
/-- values[set] -/
def vl (set : Int) : Int := sSum (fun i => sBit set i * pv i) 5
def bc (set : Int) : Int := sSum (fun i => sBit set i) 5
def gCh (LT RT : Int → Int) (q set : Int) (f : Int × Int) (j : Int) : Int × Int := if sbs (j + 1) set ∧ LT (32 * q + (j + 1)) ≠ 1000000000 ∧ LT (32 * q + (j + 1)) * 3125 + q * vl (j + 1) + RT (32 * (q + 1) + xr set (j + 1)) < f.1 then (LT (32 * q + (j + 1)) * 3125 + q * vl (j + 1) + RT (32 * (q + 1) + xr set (j + 1)), j + 1) else f
def chq (LT RT : Int → Int) (q set : Int) : Int × Int := aFor (gCh LT RT q set) (RT (32 * (q + 1) + set), 0) set
theorem vl_0 : vl 0 = 0 := by decide
theorem chq_min {LT RT : Int → Int} {q set : Int} (hs : 0 ≤ set) : (chq LT RT q set).1 ≤ RT (32 * (q + 1) + set) ∧ ∀ part, 1 ≤ part → sbs part set → LT (32 * q + part) ≠ 1000000000 → (chq LT RT q set).1 ≤ LT (32 * q + part) * 3125 + q * vl part + RT (32 * (q + 1) + xr set part) := by
  have key : ∀ k : Nat, (aForN (gCh LT RT q set) (RT (32 * (q + 1) + set), 0) k).1 ≤ RT (32 * (q + 1) + set) ∧ ∀ part : Int, 1 ≤ part → part ≤ (k : Int) → sbs part set → LT (32 * q + part) ≠ 1000000000 → (aForN (gCh LT RT q set) (RT (32 * (q + 1) + set), 0) k).1 ≤ LT (32 * q + part) * 3125 + q * vl part + RT (32 * (q + 1) + xr set part) := by
    intro k
    induction k with
    | zero => exact ⟨Int.le_refl _, fun part h1 h2 => by omega⟩
    | succ k ih =>
      obtain ⟨i1, i2⟩ := ih
      show (gCh LT RT q set (aForN (gCh LT RT q set) (RT (32 * (q + 1) + set), 0) k) k).1 ≤ _ ∧ ∀ part, 1 ≤ part → part ≤ ((k + 1 : Nat) : Int) → sbs part set → LT (32 * q + part) ≠ 1000000000 → (gCh LT RT q set (aForN (gCh LT RT q set) (RT (32 * (q + 1) + set), 0) k) k).1 ≤ _
      generalize aForN (gCh LT RT q set) (RT (32 * (q + 1) + set), 0) k = f at i1 i2 ⊢
      unfold gCh
      by_cases hc : sbs (k + 1) set ∧ LT (32 * q + (k + 1)) ≠ 1000000000 ∧ LT (32 * q + (k + 1)) * 3125 + q * vl (k + 1) + RT (32 * (q + 1) + xr set (k + 1)) < f.1
      · rw [if_pos hc]
        refine ⟨by show LT (32 * q + (k + 1)) * 3125 + q * vl (k + 1) + RT (32 * (q + 1) + xr set (k + 1)) ≤ _; omega, fun part h1 h2 h3 h4 => ?_⟩
        show LT (32 * q + (k + 1)) * 3125 + q * vl (k + 1) + RT (32 * (q + 1) + xr set (k + 1)) ≤ _
        by_cases e : part = k + 1
        · subst e; exact Int.le_refl _
        · have := i2 part h1 (by omega) h3 h4
          omega
      · rw [if_neg hc]
        refine ⟨i1, fun part h1 h2 h3 h4 => ?_⟩
        by_cases e : part = k + 1
        · subst e
          by_cases z : f.1 ≤ LT (32 * q + (k + 1)) * 3125 + q * vl (k + 1) + RT (32 * (q + 1) + xr set (k + 1))
          · exact z
          · exact absurd ⟨h3, h4, by omega⟩ hc
        · exact i2 part h1 (by omega) h3 h4
  have h := key set.toNat
  refine ⟨h.1, fun part h1 h2 h3 => h.2 part h1 ?_ h2 h3⟩
  have := sbs_le (by omega) hs h2
  omega
theorem chq_is {LT RT : Int → Int} {q set : Int} (hs : 0 ≤ set) : ((chq LT RT q set).2 = 0 ∧ (chq LT RT q set).1 = RT (32 * (q + 1) + set)) ∨ (1 ≤ (chq LT RT q set).2 ∧ sbs (chq LT RT q set).2 set ∧ LT (32 * q + (chq LT RT q set).2) ≠ 1000000000 ∧ (chq LT RT q set).1 = LT (32 * q + (chq LT RT q set).2) * 3125 + q * vl (chq LT RT q set).2 + RT (32 * (q + 1) + xr set (chq LT RT q set).2)) := by
  unfold chq
  refine aFor_ind (P := fun (f : Int × Int) => (f.2 = 0 ∧ f.1 = RT (32 * (q + 1) + set)) ∨ (1 ≤ f.2 ∧ sbs f.2 set ∧ LT (32 * q + f.2) ≠ 1000000000 ∧ f.1 = LT (32 * q + f.2) * 3125 + q * vl f.2 + RT (32 * (q + 1) + xr set f.2))) (.inl ⟨rfl, rfl⟩) (fun f j hj hf => ?_)
  unfold gCh
  split
  · rename_i h
    exact .inr ⟨by show 1 ≤ j + 1; omega, h.1, h.2.1, rfl⟩
  · exact hf
/-! a choice: task k is for c k, m: nobody -/
def lf (c : Int → Int) (q n : Int) : Int := iFor (fun x k => if q ≤ c k then sSet x k else x) 0 n
theorem lf_nn (c : Int → Int) (q n : Int) : 0 ≤ lf c q n := by
  unfold lf
  refine iFor_ind (P := fun x => 0 ≤ x) (Int.le_refl _) (fun x k _ hx => ?_)
  show 0 ≤ if q ≤ c k then sSet x k else x
  split
  · exact sSet_nn _ _
  · exact hx
theorem lf_bit {c : Int → Int} {q n k : Int} (hn : 0 ≤ n) (hk : 0 ≤ k) : sBit (lf c q n) k = if k < n ∧ q ≤ c k then 1 else 0 := by
  have key : ∀ m : Nat, 0 ≤ iForN (fun x k => if q ≤ c k then sSet x k else x) 0 m ∧ sBit (iForN (fun x k => if q ≤ c k then sSet x k else x) 0 m) k = if k < m ∧ q ≤ c k then 1 else 0 := by
    intro m
    induction m with
    | zero => exact ⟨Int.le_refl _, by rw [if_neg (by omega)]; exact sBit_0 k⟩
    | succ m ih =>
      obtain ⟨i1, i2⟩ := ih
      show 0 ≤ (if q ≤ c m then sSet (iForN (fun x k => if q ≤ c k then sSet x k else x) 0 m) m else iForN (fun x k => if q ≤ c k then sSet x k else x) 0 m) ∧ sBit (if q ≤ c m then sSet (iForN (fun x k => if q ≤ c k then sSet x k else x) 0 m) m else iForN (fun x k => if q ≤ c k then sSet x k else x) 0 m) k = _
      generalize iForN (fun x k => if q ≤ c k then sSet x k else x) 0 m = y at i1 i2
      by_cases h : q ≤ c m
      · rw [if_pos h]
        refine ⟨sSet_nn _ _, ?_⟩
        rw [sBit_set i1 (by omega) hk, i2]
        by_cases e : k = m
        · subst e; rw [if_pos rfl, if_pos ⟨by omega, h⟩]
        · rw [if_neg e]
          by_cases z : k < m ∧ q ≤ c k
          · rw [if_pos z, if_pos ⟨by omega, z.2⟩]
          · rw [if_neg z, if_neg (fun y => z ⟨by omega, y.2⟩)]
      · rw [if_neg h]
        refine ⟨i1, ?_⟩
        rw [i2]
        by_cases z : k < m ∧ q ≤ c k
        · rw [if_pos z, if_pos ⟨by omega, z.2⟩]
        · rw [if_neg z, if_neg]
          rintro ⟨y1, y2⟩
          by_cases e : k = m
          · subst e; exact h y2
          · exact z ⟨by omega, y2⟩
  have h := (key n.toNat).2
  rw [Int.toNat_of_nonneg hn] at h
  exact h
theorem fSet_nn {c : Int → Int} {q n : Int} (hn : 0 ≤ n) : 0 ≤ fSet c q n := (fSet_lt hn).1
theorem ite01 (P : Prop) [Decidable P] : (P ∧ (if P then (1 : Int) else 0) = 1) ∨ (¬ P ∧ (if P then (1 : Int) else 0) = 0) := by
  by_cases h : P
  · exact .inl ⟨h, if_pos h⟩
  · exact .inr ⟨h, if_neg h⟩
theorem lf_xr {c : Int → Int} {q n : Int} (hn : 0 ≤ n) : xr (lf c q n) (fSet c q n) = lf c (q + 1) n := by
  refine bit_ext (xr_nn _ _) (lf_nn _ _ _) (fun k hk => ?_)
  rw [bit_xr (lf_nn _ _ _) (fSet_nn hn), lf_bit hn hk, lf_bit hn hk, fSet_bit hn hk]
  rcases ite01 (k < n ∧ q ≤ c k) with ⟨a1, a2⟩ | ⟨a1, a2⟩ <;> rcases ite01 (k < n ∧ c k = q) with ⟨b1, b2⟩ | ⟨b1, b2⟩ <;> rcases ite01 (k < n ∧ q + 1 ≤ c k) with ⟨d1, d2⟩ | ⟨d1, d2⟩ <;> rw [a2, b2, d2] <;> first | rfl | (exfalso; omega)
theorem lf_sbs {c : Int → Int} {q n : Int} (hn : 0 ≤ n) : sbs (fSet c q n) (lf c q n) := by
  rw [sbs_bit (fSet_nn hn) (lf_nn _ _ _)]
  intro k hk h
  rw [fSet_bit hn hk] at h
  rw [lf_bit hn hk]
  by_cases a : k < n ∧ c k = q
  · rw [if_pos ⟨a.1, by omega⟩]
  · rw [if_neg a] at h; omega
theorem lf_top {c : Int → Int} {m n : Int} (hn : 0 ≤ n) (h : ∀ k, 0 ≤ k ∧ k < n → c k ≤ m) : lf c m n = fSet c m n := by
  refine bit_ext (lf_nn _ _ _) (fSet_nn hn) (fun k hk => ?_)
  rw [lf_bit hn hk, fSet_bit hn hk]
  by_cases a : k < n
  · have := h k ⟨hk, a⟩
    by_cases b : c k = m
    · rw [if_pos ⟨a, by omega⟩, if_pos ⟨a, b⟩]
    · rw [if_neg (by omega), if_neg (fun z => b z.2)]
  · rw [if_neg (fun z => a z.1), if_neg (fun z => a z.1)]
/-- the tables of the class, once filled for n tasks and m persons -/
abbrev dpT (LT RT CT : Int → Int) (n m : Int) : Prop := (∀ s, 0 ≤ s ∧ s < 2 ^ n.toNat → RT (32 * m + s) = bc s * 100000 * 3125 + 4 * vl s) ∧ ∀ q, 0 ≤ q ∧ q < m → ∀ s, 0 ≤ s ∧ s < 2 ^ n.toNat → RT (32 * q + s) = (chq LT RT q s).1 ∧ CT (32 * q + s) = (chq LT RT q s).2
/-- the rank of a choice, from the last f persons on -/
def vtN (LT : Int → Int) (c : Int → Int) (n m : Int) : Nat → Int
  | 0 => bc (fSet c m n) * 100000 * 3125 + 4 * vl (fSet c m n)
  | f + 1 => LT (32 * (m - (f + 1)) + fSet c (m - (f + 1)) n) * 3125 + (m - (f + 1)) * vl (fSet c (m - (f + 1)) n) + vtN LT c n m f
theorem lf_lt {c : Int → Int} {q n : Int} (hn : 0 ≤ n) : 0 ≤ lf c q n ∧ lf c q n < 2 ^ n.toNat := by
  refine ⟨lf_nn _ _ _, ?_⟩
  unfold lf
  have key : ∀ m : Nat, 0 ≤ iForN (fun x k => if q ≤ c k then sSet x k else x) 0 m ∧ iForN (fun x k => if q ≤ c k then sSet x k else x) 0 m < 2 ^ m := by
    intro m
    induction m with
    | zero => exact ⟨Int.le_refl _, (show (0 : Int) < 2 ^ 0 by decide)⟩
    | succ m ih =>
      show 0 ≤ (if q ≤ c m then sSet (iForN (fun x k => if q ≤ c k then sSet x k else x) 0 m) m else iForN (fun x k => if q ≤ c k then sSet x k else x) 0 m) ∧ (if q ≤ c m then sSet (iForN (fun x k => if q ≤ c k then sSet x k else x) 0 m) m else iForN (fun x k => if q ≤ c k then sSet x k else x) 0 m) < 2 ^ (m + 1)
      generalize iForN (fun x k => if q ≤ c k then sSet x k else x) 0 m = y at ih
      have e : (2 : Int) ^ (m + 1) = 2 ^ m * 2 := Int.pow_succ 2 m
      split
      · exact sSet_rg (n := m + 1) ⟨ih.1, by omega⟩ ⟨by omega, by omega⟩
      · exact ⟨ih.1, by omega⟩
  exact (key n.toNat).2
theorem dp_low {LT RT CT : Int → Int} {n m : Int} {c : Int → Int} (hn : 0 ≤ n) (h : dpT LT RT CT n m) (h0 : ∀ q, 0 ≤ q ∧ q < m → LT (32 * q + 0) = 0) (hc : ∀ k, 0 ≤ k ∧ k < n → c k ≤ m) (hv : ∀ q, 0 ≤ q ∧ q < m → LT (32 * q + fSet c q n) ≠ 1000000000) : ∀ f : Nat, (f : Int) ≤ m → RT (32 * (m - f) + lf c (m - f) n) ≤ vtN LT c n m f := by
  intro f
  induction f with
  | zero =>
    intro _
    rw [show m - ((0 : Nat) : Int) = m by omega, h.1 _ (lf_lt hn), lf_top hn hc]
    exact Int.le_refl _
  | succ f ih =>
    intro hf
    have ih := ih (by omega)
    have hq := h.2 (m - ((f : Int) + 1)) (by omega) (lf c (m - ((f : Int) + 1)) n) (lf_lt hn)
    obtain ⟨m1, m2⟩ := chq_min (LT := LT) (RT := RT) (q := m - ((f : Int) + 1)) (set := lf c (m - ((f : Int) + 1)) n) (lf_nn _ _ _)
    show RT (32 * (m - ((f : Int) + 1)) + lf c (m - ((f : Int) + 1)) n) ≤ LT (32 * (m - ((f : Int) + 1)) + fSet c (m - ((f : Int) + 1)) n) * 3125 + (m - ((f : Int) + 1)) * vl (fSet c (m - ((f : Int) + 1)) n) + vtN LT c n m f
    rw [hq.1]
    have ex := lf_xr (c := c) (q := m - ((f : Int) + 1)) hn
    have e1 : m - ((f : Int) + 1) + 1 = m - f := by omega
    rw [e1] at ex m1 m2
    by_cases hp : fSet c (m - ((f : Int) + 1)) n = 0
    · rw [hp, xr_0 (lf_nn _ _ _)] at ex
      rw [hp, h0 _ (by omega), vl_0, Int.mul_zero, ex]
      rw [ex] at m1
      omega
    · have := fSet_nn (c := c) (q := m - ((f : Int) + 1)) hn
      have m3 := m2 (fSet c (m - ((f : Int) + 1)) n) (by omega) (lf_sbs hn) (hv _ (by omega))
      rw [ex] at m3
      omega
/-! what the class tells: the sets that persons take, one after the other -/
def lftN (CT : Int → Int) (n : Int) : Nat → Int
  | 0 => 2 ^ n.toNat - 1
  | q + 1 => xr (lftN CT n q) (CT (32 * q + lftN CT n q))
def lft (CT : Int → Int) (n q : Int) : Int := lftN CT n q.toNat
/-- the set that person q takes -/
def tkn (CT : Int → Int) (n q : Int) : Int := CT (32 * q + lft CT n q)
def csN (CT : Int → Int) (n m k : Int) : Nat → Int
  | 0 => m
  | f + 1 => if sBit (tkn CT n (m - (f + 1))) k = 1 then m - (f + 1) else csN CT n m k f
def cs (CT : Int → Int) (n m k : Int) : Int := csN CT n m k m.toNat
theorem lft_s {CT : Int → Int} {n q : Int} (hq : 0 ≤ q) : lft CT n (q + 1) = xr (lft CT n q) (tkn CT n q) := by
  unfold tkn lft
  rw [show (q + 1).toNat = q.toNat + 1 by omega]
  show xr (lftN CT n q.toNat) (CT (32 * (q.toNat : Int) + lftN CT n q.toNat)) = _
  rw [Int.toNat_of_nonneg hq]
theorem full_bit {n k : Int} (hn : 0 ≤ n) (hk : 0 ≤ k) : sBit (2 ^ n.toNat - 1) k = if k < n then 1 else 0 := by
  have e : (2 : Int) ^ n.toNat - 1 = ((2 ^ n.toNat - 1 : Nat) : Int) := by
    have : 1 ≤ (2 : Nat) ^ n.toNat := Nat.one_le_two_pow
    rw [Int.natCast_sub this, Int.natCast_pow]
    rfl
  rw [e, sBit_tb (Int.natCast_nonneg _), Int.toNat_natCast, Nat.testBit_two_pow_sub_one]
  simp only [decide_eq_true_eq]
  by_cases h : k < n
  · rw [if_pos h, if_pos (by omega)]
  · rw [if_neg h, if_neg (by omega)]
section DP
variable {LT RT CT : Int → Int} {n m : Int}
theorem lft_ok (hn : 0 ≤ n) (h : dpT LT RT CT n m) : ∀ q : Nat, (q : Int) ≤ m → 0 ≤ lft CT n q ∧ lft CT n q < 2 ^ n.toNat := by
  intro q
  induction q with
  | zero =>
    intro _
    show 0 ≤ (2 : Int) ^ n.toNat - 1 ∧ (2 : Int) ^ n.toNat - 1 < 2 ^ n.toNat
    have : (0 : Int) < 2 ^ n.toNat := Int.pow_pos (by decide)
    omega
  | succ q ih =>
    intro hq
    have ih := ih (by omega)
    have e : lft CT n ((q + 1 : Nat) : Int) = xr (lft CT n q) (tkn CT n q) := by
      rw [show ((q + 1 : Nat) : Int) = (q : Int) + 1 by omega]
      exact lft_s (by omega)
    rw [e]
    refine ⟨xr_nn _ _, ?_⟩
    have h1 := (h.2 q (by omega) _ ih).2
    have h2 : 0 ≤ tkn CT n q ∧ tkn CT n q ≤ lft CT n q := by
      unfold tkn
      rw [h1]
      rcases chq_is (LT := LT) (RT := RT) (q := q) ih.1 with ⟨z, _⟩ | ⟨z1, z2, _⟩
      · rw [z]; omega
      · have := sbs_le (by omega) ih.1 z2
        omega
    unfold xr
    have e2 : ((2 ^ n.toNat : Nat) : Int) = 2 ^ n.toNat := by rw [Int.natCast_pow]; rfl
    have h3 : (lft CT n q).toNat ^^^ (tkn CT n q).toNat < 2 ^ n.toNat := Nat.xor_lt_two_pow (by omega) (by omega)
    omega
theorem tkn_ok (hn : 0 ≤ n) (h : dpT LT RT CT n m) {q : Int} (hq : 0 ≤ q ∧ q < m) : (0 ≤ tkn CT n q ∧ tkn CT n q < 2 ^ n.toNat) ∧ sbs (tkn CT n q) (lft CT n q) := by
  have hl := lft_ok hn h q.toNat (by omega)
  rw [Int.toNat_of_nonneg hq.1] at hl
  have h1 := (h.2 q hq _ hl).2
  unfold tkn
  rw [h1]
  rcases chq_is (LT := LT) (RT := RT) (q := q) hl.1 with ⟨z, _⟩ | ⟨z1, z2, _⟩
  · rw [z]
    refine ⟨⟨Int.le_refl _, by omega⟩, ?_⟩
    rw [sbs_bit (Int.le_refl _) hl.1]
    intro k _ hb
    rw [sBit_0] at hb
    omega
  · have := sbs_le (by omega) hl.1 z2
    exact ⟨by omega, z2⟩
theorem lft_bit (hn : 0 ≤ n) (h : dpT LT RT CT n m) {k : Int} (hk : 0 ≤ k) : ∀ q : Nat, (q : Int) ≤ m → (sBit (lft CT n q) k = 1 ↔ k < n ∧ ∀ j : Int, 0 ≤ j ∧ j < q → sBit (tkn CT n j) k = 0) := by
  intro q
  induction q with
  | zero =>
    intro _
    show sBit (2 ^ n.toNat - 1) k = 1 ↔ _
    rw [full_bit hn hk]
    constructor
    · intro z
      refine ⟨?_, fun j hj => by omega⟩
      by_cases a : k < n
      · exact a
      · rw [if_neg a] at z; omega
    · rintro ⟨a, _⟩; rw [if_pos a]
  | succ q ih =>
    intro hq
    have ih := ih (by omega)
    have hl := lft_ok hn h q (by omega)
    have ht := tkn_ok hn h (q := q) (by omega)
    have e : lft CT n ((q + 1 : Nat) : Int) = xr (lft CT n q) (tkn CT n q) := by
      rw [show ((q + 1 : Nat) : Int) = (q : Int) + 1 by omega]
      exact lft_s (by omega)
    have hs := (sbs_bit ht.1.1 hl.1).mp ht.2 k hk
    have b1 := sBit_01 (lft CT n q) k
    have b2 := sBit_01 (tkn CT n q) k
    rw [e, bit_xr hl.1 ht.1.1]
    constructor
    · intro z
      by_cases a : sBit (lft CT n q) k = sBit (tkn CT n q) k
      · rw [if_pos a] at z; omega
      · have c1 : sBit (lft CT n q) k = 1 := by omega
        obtain ⟨i1, i2⟩ := ih.mp c1
        refine ⟨i1, fun j hj => ?_⟩
        by_cases ej : j = q
        · subst ej; omega
        · exact i2 j (by omega)
    · rintro ⟨a, b⟩
      have c1 := ih.mpr ⟨a, fun j hj => b j (by omega)⟩
      have c2 := b q (by omega)
      rw [if_neg (by omega)]
theorem csN_ok (CT : Int → Int) (n m k : Int) : ∀ f : Nat, (m - f ≤ csN CT n m k f ∧ csN CT n m k f ≤ m) ∧ (csN CT n m k f < m → sBit (tkn CT n (csN CT n m k f)) k = 1) ∧ ∀ j, m - f ≤ j ∧ j < csN CT n m k f → sBit (tkn CT n j) k = 0 := by
  intro f
  induction f with
  | zero => exact ⟨⟨by show m - ((0 : Nat) : Int) ≤ m; omega, Int.le_refl _⟩, fun z => absurd z (Int.lt_irrefl _), fun j hj => by have : j < m := hj.2; omega⟩
  | succ f ih =>
    obtain ⟨i1, i2, i3⟩ := ih
    show (m - ((f + 1 : Nat) : Int) ≤ (if sBit (tkn CT n (m - (f + 1))) k = 1 then m - (f + 1) else csN CT n m k f) ∧ (if sBit (tkn CT n (m - (f + 1))) k = 1 then m - (f + 1) else csN CT n m k f) ≤ m) ∧ ((if sBit (tkn CT n (m - (f + 1))) k = 1 then m - (f + 1) else csN CT n m k f) < m → sBit (tkn CT n (if sBit (tkn CT n (m - (f + 1))) k = 1 then m - (f + 1) else csN CT n m k f)) k = 1) ∧ ∀ j, m - ((f + 1 : Nat) : Int) ≤ j ∧ j < (if sBit (tkn CT n (m - (f + 1))) k = 1 then m - (f + 1) else csN CT n m k f) → sBit (tkn CT n j) k = 0
    by_cases hb : sBit (tkn CT n (m - ((f : Int) + 1))) k = 1
    · rw [if_pos hb]
      exact ⟨by omega, fun _ => hb, fun j hj => by omega⟩
    · rw [if_neg hb]
      refine ⟨by omega, i2, fun j hj => ?_⟩
      by_cases ej : j = m - ((f : Int) + 1)
      · subst ej
        have := sBit_01 (tkn CT n (m - ((f : Int) + 1))) k
        omega
      · exact i3 j (by omega)
theorem cs_rg (hm : 0 ≤ m) (k : Int) : 0 ≤ cs CT n m k ∧ cs CT n m k ≤ m := by
  have := (csN_ok CT n m k m.toNat).1
  unfold cs
  omega
theorem cs_bit (hm : 0 ≤ m) (hn : 0 ≤ n) (h : dpT LT RT CT n m) {k q : Int} (hk : 0 ≤ k) (hq : 0 ≤ q ∧ q < m) : sBit (tkn CT n q) k = 1 ↔ cs CT n m k = q := by
  obtain ⟨c1, c2, c3⟩ := csN_ok CT n m k m.toNat
  have e : csN CT n m k m.toNat = cs CT n m k := rfl
  rw [e] at c1 c2 c3
  constructor
  · intro hb
    by_cases z : cs CT n m k = q
    · exact z
    · exfalso
      by_cases z1 : q < cs CT n m k
      · have := c3 q (by omega)
        omega
      · have hb2 := c2 (by omega)
        have ht := tkn_ok hn h hq
        have hl := lft_ok hn h q.toNat (by omega)
        have hlb := lft_bit hn h hk q.toNat (by omega)
        rw [Int.toNat_of_nonneg hq.1] at hl hlb
        have hs := (sbs_bit ht.1.1 hl.1).mp ht.2 k hk hb
        have := (hlb.mp hs).2 (cs CT n m k) (by omega)
        omega
  · intro z
    subst z
    exact c2 hq.2
theorem cs_set (hm : 0 ≤ m) (hn : 0 ≤ n) (h : dpT LT RT CT n m) {q : Int} (hq : 0 ≤ q ∧ q < m) : fSet (cs CT n m) q n = tkn CT n q := by
  have ht := tkn_ok hn h hq
  refine bit_ext (fSet_nn hn) ht.1.1 (fun k hk => ?_)
  have hc := cs_bit hm hn h hk hq
  have b := sBit_01 (tkn CT n q) k
  rw [fSet_bit hn hk]
  by_cases a : k < n ∧ cs CT n m k = q
  · rw [if_pos a, hc.mpr a.2]
  · rw [if_neg a]
    by_cases a1 : k < n
    · have : ¬ sBit (tkn CT n q) k = 1 := fun z => a ⟨a1, hc.mp z⟩
      omega
    · exact (sBit_hi ht.1 (by omega)).symm
theorem cs_none (hm : 0 ≤ m) (hn : 0 ≤ n) (h : dpT LT RT CT n m) : fSet (cs CT n m) m n = lft CT n m := by
  have hl := lft_ok hn h m.toNat (by omega)
  rw [Int.toNat_of_nonneg hm] at hl
  refine bit_ext (fSet_nn hn) hl.1 (fun k hk => ?_)
  have hlb := lft_bit hn h hk m.toNat (by omega)
  rw [Int.toNat_of_nonneg hm] at hlb
  have b := sBit_01 (lft CT n m) k
  obtain ⟨c1, c2, c3⟩ := csN_ok CT n m k m.toNat
  have e : csN CT n m k m.toNat = cs CT n m k := rfl
  rw [e] at c1 c2 c3
  rw [fSet_bit hn hk]
  by_cases a : k < n ∧ cs CT n m k = m
  · rw [if_pos a, hlb.mpr ⟨a.1, fun j hj => c3 j (by omega)⟩]
  · rw [if_neg a]
    have : ¬ sBit (lft CT n m) k = 1 := fun z => by
      obtain ⟨z1, z2⟩ := hlb.mp z
      have z3 : cs CT n m k < m := by
        have : ¬ cs CT n m k = m := fun y => a ⟨z1, y⟩
        omega
      have z4 := c2 z3
      have z5 := z2 _ ⟨by omega, z3⟩
      omega
    omega
theorem cs_val (hm : 0 ≤ m) (hn : 0 ≤ n) (h : dpT LT RT CT n m) (h0 : ∀ q, 0 ≤ q ∧ q < m → LT (32 * q + 0) = 0) : ∀ f : Nat, (f : Int) ≤ m → RT (32 * (m - f) + lft CT n (m - f)) = vtN LT (cs CT n m) n m f := by
  intro f
  induction f with
  | zero =>
    intro _
    have hl := lft_ok hn h m.toNat (by omega)
    rw [Int.toNat_of_nonneg hm] at hl
    rw [show m - ((0 : Nat) : Int) = m by omega, h.1 _ hl, ← cs_none hm hn h]
    rfl
  | succ f ih =>
    intro hf
    have ih := ih (by omega)
    have hl := lft_ok hn h (m - ((f : Int) + 1)).toNat (by omega)
    rw [Int.toNat_of_nonneg (by omega)] at hl
    have hq := h.2 (m - ((f : Int) + 1)) (by omega) _ hl
    have es := lft_s (CT := CT) (n := n) (q := m - ((f : Int) + 1)) (by omega)
    have e1 : m - ((f : Int) + 1) + 1 = m - f := by omega
    rw [e1] at es
    have et : tkn CT n (m - ((f : Int) + 1)) = (chq LT RT (m - ((f : Int) + 1)) (lft CT n (m - ((f : Int) + 1)))).2 := hq.2
    show RT (32 * (m - ((f : Int) + 1)) + lft CT n (m - ((f : Int) + 1))) = LT (32 * (m - ((f : Int) + 1)) + fSet (cs CT n m) (m - ((f : Int) + 1)) n) * 3125 + (m - ((f : Int) + 1)) * vl (fSet (cs CT n m) (m - ((f : Int) + 1)) n) + vtN LT (cs CT n m) n m f
    rw [hq.1, cs_set hm hn h (by omega), ← ih, es]
    rcases chq_is (LT := LT) (RT := RT) (q := m - ((f : Int) + 1)) hl.1 with ⟨z1, z2⟩ | ⟨z1, z2, z3, z4⟩
    · rw [z2, et, z1, h0 _ (by omega), vl_0, xr_0 hl.1, e1]
      omega
    · rw [z4, et, e1]
theorem cs_fin (hm : 0 ≤ m) (hn : 0 ≤ n) (h : dpT LT RT CT n m) (h0 : ∀ q, 0 ≤ q ∧ q < m → LT (32 * q + 0) = 0) {q : Int} (hq : 0 ≤ q ∧ q < m) : LT (32 * q + fSet (cs CT n m) q n) ≠ 1000000000 := by
  rw [cs_set hm hn h hq]
  have hl := lft_ok hn h q.toNat (by omega)
  rw [Int.toNat_of_nonneg hq.1] at hl
  have et : tkn CT n q = (chq LT RT q (lft CT n q)).2 := (h.2 q hq _ hl).2
  rcases chq_is (LT := LT) (RT := RT) (q := q) hl.1 with ⟨z1, z2⟩ | ⟨z1, z2, z3, z4⟩
  · rw [et, z1, h0 q hq]
    decide
  · rw [et]; exact z3
/-- no choice has a smaller rank than the one told -/
theorem cs_best (hm : 0 ≤ m) (hn : 0 ≤ n) (h : dpT LT RT CT n m) (h0 : ∀ q, 0 ≤ q ∧ q < m → LT (32 * q + 0) = 0) {c : Int → Int} (hc : ∀ k, 0 ≤ k ∧ k < n → 0 ≤ c k ∧ c k ≤ m) (hv : ∀ q, 0 ≤ q ∧ q < m → LT (32 * q + fSet c q n) ≠ 1000000000) : vtN LT (cs CT n m) n m m.toNat ≤ vtN LT c n m m.toNat := by
  have h1 := dp_low hn h h0 (fun k hk => (hc k hk).2) hv m.toNat (by omega)
  have h2 := cs_val hm hn h h0 m.toNat (by omega)
  rw [show m - ((m.toNat : Nat) : Int) = 0 by omega] at h1 h2
  have e : lf c 0 n = lft CT n 0 := by
    show lf c 0 n = 2 ^ n.toNat - 1
    have : (0 : Int) < 2 ^ n.toNat := Int.pow_pos (by decide)
    refine bit_ext (lf_nn _ _ _) (by omega) (fun k hk => ?_)
    rw [lf_bit hn hk, full_bit hn hk]
    by_cases a : k < n
    · rw [if_pos a, if_pos ⟨a, (hc k ⟨hk, a⟩).1⟩]
    · rw [if_neg a, if_neg (fun z => a z.1)]
  rw [e] at h1
  omega
end DP
