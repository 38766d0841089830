/-! 69.b.pick: the choice that the class tells is the reference's -/
theorem sSum_congr {f g : Int → Int} {n : Int} (h : ∀ i, 0 ≤ i ∧ i < n → f i = g i) : sSum f n = sSum g n := by
  have key : ∀ k : Nat, (k : Int) ≤ n ∨ k = 0 → sSumN f k = sSumN g k := by
    intro k
    induction k with
    | zero => intro _; rfl
    | succ k ih =>
      intro hk
      show sSumN f k + f k = sSumN g k + g k
      rw [ih (by omega), h k (by omega)]
  exact key n.toNat (by omega)
theorem sSum_add (f g : Int → Int) (n : Int) : sSum (fun i => f i + g i) n = sSum f n + sSum g n := by
  have key : ∀ k : Nat, sSumN (fun i => f i + g i) k = sSumN f k + sSumN g k := by
    intro k
    induction k with
    | zero => rfl
    | succ k ih =>
      show sSumN (fun i => f i + g i) k + (f k + g k) = sSumN f k + f k + (sSumN g k + g k)
      rw [ih]
      omega
  exact key n.toNat
theorem sSum_mul (f : Int → Int) (a n : Int) : sSum (fun i => f i * a) n = sSum f n * a := by
  have key : ∀ k : Nat, sSumN (fun i => f i * a) k = sSumN f k * a := by
    intro k
    induction k with
    | zero => exact (Int.zero_mul a).symm
    | succ k ih =>
      show sSumN (fun i => f i * a) k + f k * a = (sSumN f k + f k) * a
      rw [ih, Int.add_mul]
  exact key n.toNat
theorem sSum_end {f : Int → Int} {n m : Int} (hn : 0 ≤ n) (hm : n ≤ m) (h : ∀ i, n ≤ i ∧ i < m → f i = 0) : sSum f m = sSum f n := by
  have key : ∀ d : Nat, n + d ≤ m → sSum f (n + d) = sSum f n := by
    intro d
    induction d with
    | zero => intro _; rw [show n + ((0 : Nat) : Int) = n by omega]
    | succ d ih =>
      intro hd
      rw [show n + ((d + 1 : Nat) : Int) = (n + d) + 1 by omega, sSum_s _ (by omega), ih (by omega), h _ (by omega)]
      omega
  have := key (m - n).toNat (by omega)
  rw [show n + ((m - n).toNat : Int) = m by omega] at this
  exact this
theorem vl_fSet {c : Int → Int} {q n : Int} (hn : 0 ≤ n ∧ n ≤ 5) : vl (fSet c q n) = sSum (fun k => if c k = q then pv k else 0) n := by
  unfold vl
  have e : sSum (fun i => sBit (fSet c q n) i * pv i) 5 = sSum (fun i => if i < n ∧ c i = q then pv i else 0) 5 := sSum_congr (fun i hi => by
    rw [fSet_bit hn.1 hi.1]
    split
    · exact Int.one_mul _
    · exact Int.zero_mul _)
  rw [e, sSum_end hn.1 hn.2 (fun i hi => if_neg (by omega))]
  refine sSum_congr (fun i hi => ?_)
  by_cases z : c i = q
  · rw [if_pos z, if_pos ⟨hi.2, z⟩]
  · rw [if_neg z, if_neg (fun y => z y.2)]
theorem bc_fSet {c : Int → Int} {q n : Int} (hn : 0 ≤ n ∧ n ≤ 5) : bc (fSet c q n) * 100000 = sSum (fun k => if c k = q then 100000 else 0) n := by
  unfold bc
  rw [← sSum_mul]
  have e : sSum (fun i => sBit (fSet c q n) i * 100000) 5 = sSum (fun i => if i < n ∧ c i = q then 100000 else 0) 5 := sSum_congr (fun i hi => by
    rw [fSet_bit hn.1 hi.1]
    split <;> rfl)
  rw [e, sSum_end hn.1 hn.2 (fun i hi => if_neg (by omega))]
  refine sSum_congr (fun i hi => ?_)
  by_cases z : c i = q
  · rw [if_pos z, if_pos ⟨hi.2, z⟩]
  · rw [if_neg z, if_neg (fun y => z y.2)]
theorem vtN_sum (LT c : Int → Int) (n m : Int) (hm : 0 ≤ m) : vtN LT c n m m.toNat = sSum (fun q => LT (32 * q + fSet c q n) * 3125 + q * vl (fSet c q n)) m + (bc (fSet c m n) * 100000 * 3125 + 4 * vl (fSet c m n)) := by
  have key : ∀ f : Nat, (f : Int) ≤ m → vtN LT c n m f + sSum (fun q => LT (32 * q + fSet c q n) * 3125 + q * vl (fSet c q n)) (m - f) = sSum (fun q => LT (32 * q + fSet c q n) * 3125 + q * vl (fSet c q n)) m + (bc (fSet c m n) * 100000 * 3125 + 4 * vl (fSet c m n)) := by
    intro f
    induction f with
    | zero =>
      intro _
      rw [show m - ((0 : Nat) : Int) = m by omega]
      show bc (fSet c m n) * 100000 * 3125 + 4 * vl (fSet c m n) + _ = _
      omega
    | succ f ih =>
      intro hf
      have ih := ih (by omega)
      have e := sSum_s (fun q => LT (32 * q + fSet c q n) * 3125 + q * vl (fSet c q n)) (t := m - ((f : Int) + 1)) (by omega)
      rw [show m - ((f : Int) + 1) + 1 = m - f by omega] at e
      rw [e] at ih
      show LT (32 * (m - ((f : Int) + 1)) + fSet c (m - ((f : Int) + 1)) n) * 3125 + (m - ((f : Int) + 1)) * vl (fSet c (m - ((f : Int) + 1)) n) + vtN LT c n m f + sSum (fun q => LT (32 * q + fSet c q n) * 3125 + q * vl (fSet c q n)) (m - ((f : Int) + 1)) = _
      have ih : vtN LT c n m f + (sSum (fun q => LT (32 * q + fSet c q n) * 3125 + q * vl (fSet c q n)) (m - ((f : Int) + 1)) + (LT (32 * (m - ((f : Int) + 1)) + fSet c (m - ((f : Int) + 1)) n) * 3125 + (m - ((f : Int) + 1)) * vl (fSet c (m - ((f : Int) + 1)) n))) = _ := ih
      omega
  have := key m.toNat (by omega)
  rw [show m - ((m.toNat : Nat) : Int) = 0 by omega, sSum_0] at this
  omega
theorem fCost_sum {lat ch : Int → Int} {n m : Int} (hm : 0 ≤ m) (h : ∀ q, 0 ≤ q ∧ q < m → 0 ≤ lat (32 * q + fSet ch q n)) (hn : 0 ≤ n) : fCost lat ch n m = sSum (fun k => if ch k = m then 100000 else 0) n + sSum (fun q => lat (32 * q + fSet ch q n)) m := by
  unfold fCost
  have h0 : 0 ≤ sSum (fun k => if ch k = m then 100000 else 0) n := (sSum_rg (b := 100000) (by decide) hn (fun i hi => by show 0 ≤ (if ch i = m then (100000 : Int) else 0) ∧ (if ch i = m then (100000 : Int) else 0) ≤ 100000; split <;> omega)).1
  generalize sSum (fun k => if ch k = m then 100000 else 0) n = a at h0
  have key : ∀ k : Nat, (k : Int) ≤ m → iForN (gCost lat ch n) a k = a + sSumN (fun q => lat (32 * q + fSet ch q n)) k ∧ 0 ≤ sSumN (fun q => lat (32 * q + fSet ch q n)) k := by
    intro k
    induction k with
    | zero => intro _; exact ⟨(Int.add_zero a).symm, Int.le_refl _⟩
    | succ k ih =>
      intro hk
      obtain ⟨i1, i2⟩ := ih (by omega)
      have h1 := h k (by omega)
      show gCost lat ch n (iForN (gCost lat ch n) a k) k = a + (sSumN (fun q => lat (32 * q + fSet ch q n)) k + lat (32 * k + fSet ch k n)) ∧ 0 ≤ sSumN (fun q => lat (32 * q + fSet ch q n)) k + lat (32 * k + fSet ch k n)
      rw [i1]
      unfold gCost
      rw [if_neg (by omega), if_neg (by omega)]
      omega
  exact (key m.toNat (by omega)).1
def dgt (m x : Int) : Int := if x = m then 4 else x
theorem pick1 {a b m : Int} (hm : 0 ≤ m) (ha : 0 ≤ a ∧ a ≤ m) : sSum (fun q => q * (if a = q then b else 0)) m + 4 * (if a = m then b else 0) = dgt m a * b := by
  have key : ∀ k : Nat, sSumN (fun q => q * (if a = q then b else 0)) k = if a < k then a * b else 0 := by
    intro k
    induction k with
    | zero => rw [if_neg (by omega)]; rfl
    | succ k ih =>
      show sSumN (fun q => q * (if a = q then b else 0)) k + k * (if a = k then b else 0) = _
      rw [ih]
      by_cases e : a = k
      · rw [if_pos e, if_neg (by omega), if_pos (by omega), e]
        omega
      · rw [if_neg e]
        by_cases z : a < k
        · rw [if_pos z, if_pos (by omega)]; omega
        · rw [if_neg z, if_neg (by omega)]; omega
  have h := key m.toNat
  rw [Int.toNat_of_nonneg hm] at h
  show sSumN _ _ + _ = _
  rw [h]
  unfold dgt
  by_cases e : a = m
  · rw [if_pos e, if_pos e, if_neg (by omega)]; omega
  · rw [if_neg e, if_neg e, if_pos (by omega)]; omega
theorem w_sum {c : Int → Int} {m : Int} (hm : 0 ≤ m) : ∀ n : Nat, (∀ k, 0 ≤ k ∧ k < (n : Int) → 0 ≤ c k ∧ c k ≤ m) → sSum (fun q => q * sSum (fun k => if c k = q then pv k else 0) n) m + 4 * sSum (fun k => if c k = m then pv k else 0) n = sSum (fun k => dgt m (c k) * pv k) n := by
  intro n
  induction n with
  | zero =>
    intro _
    have e : sSum (fun q => q * sSum (fun k => if c k = q then pv k else 0) ((0 : Nat) : Int)) m = sSum (fun q => (fun _ => (0 : Int)) q * 0) m := sSum_congr (fun q _ => by show q * 0 = 0 * 0; omega)
    rw [e, sSum_mul, Int.mul_zero]
    rfl
  | succ n ih =>
    intro h
    have ih := ih (fun k hk => h k (by omega))
    rw [show ((n + 1 : Nat) : Int) = (n : Int) + 1 by omega, sSum_s _ (by omega), sSum_s _ (by omega), ← ih, ← pick1 (m := m) (a := c n) (b := pv n) hm (h n (by omega))]
    have e : sSum (fun q => q * sSum (fun k => if c k = q then pv k else 0) ((n : Int) + 1)) m = sSum (fun q => q * sSum (fun k => if c k = q then pv k else 0) n + q * (if c n = q then pv n else 0)) m := sSum_congr (fun q _ => by rw [sSum_s _ (by omega), Int.mul_add])
    rw [e, sSum_add]
    omega
/-- the rank of a choice: its lateness, then its persons -/
theorem vt_rank {LT lat c : Int → Int} {n m : Int} (hm : 0 ≤ m) (hn : 0 ≤ n ∧ n ≤ 5) (hc : ∀ k, 0 ≤ k ∧ k < n → 0 ≤ c k ∧ c k ≤ m) (hl : ∀ q, 0 ≤ q ∧ q < m → lat (32 * q + fSet c q n) = LT (32 * q + fSet c q n) ∧ 0 ≤ lat (32 * q + fSet c q n)) : vtN LT c n m m.toNat = fCost lat c n m * 3125 + sSum (fun k => dgt m (c k) * pv k) n := by
  rw [vtN_sum LT c n m hm, fCost_sum hm (fun q hq => (hl q hq).2) hn.1, sSum_add, sSum_mul, bc_fSet hn]
  have h1 := w_sum (c := c) hm n.toNat (fun k hk => hc k (by omega))
  rw [Int.toNat_of_nonneg hn.1] at h1
  have h2 : sSum (fun q => q * vl (fSet c q n)) m = sSum (fun q => q * sSum (fun k => if c k = q then pv k else 0) n) m := sSum_congr (fun q _ => by rw [vl_fSet hn])
  have h3 : sSum (fun q => LT (32 * q + fSet c q n)) m = sSum (fun q => lat (32 * q + fSet c q n)) m := sSum_congr (fun q hq => ((hl q hq).1).symm)
  rw [h2, h3, vl_fSet hn, ← h1]
  omega
/-! numbers by their digits -/
def enN (B : Int) (c : Int → Int) : Nat → Int
  | 0 => 0
  | n + 1 => enN B c n * B + c n
theorem en_rg {B : Int} {c : Int → Int} (hB : 1 ≤ B) : ∀ n : Nat, (∀ k, 0 ≤ k ∧ k < (n : Int) → 0 ≤ c k ∧ c k < B) → 0 ≤ enN B c n ∧ enN B c n < B ^ n := by
  intro n
  induction n with
  | zero => intro _; exact ⟨Int.le_refl _, (show (0 : Int) < B ^ 0 by rw [Int.pow_zero]; decide)⟩
  | succ n ih =>
    intro h
    have i := ih (fun k hk => h k (by omega))
    have h1 := h n (by omega)
    show 0 ≤ enN B c n * B + c n ∧ enN B c n * B + c n < B ^ (n + 1)
    rw [Int.pow_succ]
    have h2 : enN B c n + 1 ≤ B ^ n := i.2
    have h3 := Int.mul_le_mul_of_nonneg_right h2 (show 0 ≤ B by omega)
    rw [Int.add_mul] at h3
    have h4 := Int.mul_nonneg i.1 (show 0 ≤ B by omega)
    omega
theorem en_cmp1 {B x y a b : Int} (ha : 0 ≤ a ∧ a < B) (hb : 0 ≤ b ∧ b < B) : (x * B + a < y * B + b ↔ x < y ∨ x = y ∧ a < b) ∧ (x * B + a = y * B + b ↔ x = y ∧ a = b) := by
  by_cases h1 : x < y
  · have h2 : x + 1 ≤ y := h1
    have h3 := Int.mul_le_mul_of_nonneg_right h2 (show 0 ≤ B by omega)
    rw [Int.add_mul] at h3
    omega
  · by_cases h2 : x = y
    · subst h2; omega
    · have h2 : y + 1 ≤ x := by omega
      have h3 := Int.mul_le_mul_of_nonneg_right h2 (show 0 ≤ B by omega)
      rw [Int.add_mul] at h3
      omega
theorem en_mono {m : Int} {c c2 : Int → Int} (hm : 0 ≤ m ∧ m ≤ 4) : ∀ n : Nat, (∀ k, 0 ≤ k ∧ k < (n : Int) → 0 ≤ c k ∧ c k ≤ m) → (∀ k, 0 ≤ k ∧ k < (n : Int) → 0 ≤ c2 k ∧ c2 k ≤ m) → (enN 5 (fun k => dgt m (c k)) n < enN 5 (fun k => dgt m (c2 k)) n ↔ enN (m + 1) c n < enN (m + 1) c2 n) ∧ (enN 5 (fun k => dgt m (c k)) n = enN 5 (fun k => dgt m (c2 k)) n ↔ enN (m + 1) c n = enN (m + 1) c2 n) := by
  intro n
  induction n with
  | zero => intro _ _; exact ⟨Iff.rfl, Iff.rfl⟩
  | succ n ih =>
    intro h1 h2
    have i := ih (fun k hk => h1 k (by omega)) (fun k hk => h2 k (by omega))
    have a1 := h1 n (by omega)
    have a2 := h2 n (by omega)
    have d1 : 0 ≤ dgt m (c n) ∧ dgt m (c n) < 5 := by unfold dgt; split <;> omega
    have d2 : 0 ≤ dgt m (c2 n) ∧ dgt m (c2 n) < 5 := by unfold dgt; split <;> omega
    have d3 : (dgt m (c n) < dgt m (c2 n) ↔ c n < c2 n) ∧ (dgt m (c n) = dgt m (c2 n) ↔ c n = c2 n) := by
      unfold dgt
      (repeat' split) <;> omega
    have e1 := en_cmp1 (B := 5) (x := enN 5 (fun k => dgt m (c k)) n) (y := enN 5 (fun k => dgt m (c2 k)) n) d1 d2
    have e2 := en_cmp1 (B := m + 1) (x := enN (m + 1) c n) (y := enN (m + 1) c2 n) (a := c n) (b := c2 n) (by omega) (by omega)
    show (enN 5 (fun k => dgt m (c k)) n * 5 + dgt m (c n) < enN 5 (fun k => dgt m (c2 k)) n * 5 + dgt m (c2 n) ↔ enN (m + 1) c n * (m + 1) + c n < enN (m + 1) c2 n * (m + 1) + c2 n) ∧ (enN 5 (fun k => dgt m (c k)) n * 5 + dgt m (c n) = enN 5 (fun k => dgt m (c2 k)) n * 5 + dgt m (c2 n) ↔ enN (m + 1) c n * (m + 1) + c n = enN (m + 1) c2 n * (m + 1) + c2 n)
    rw [e1.1, e1.2, e2.1, e2.2, i.1, i.2, d3.1, d3.2]
    exact ⟨Iff.rfl, Iff.rfl⟩
theorem en_eq {B : Int} {c c2 : Int → Int} : ∀ n : Nat, (∀ k, 0 ≤ k ∧ k < (n : Int) → 0 ≤ c k ∧ c k < B) → (∀ k, 0 ≤ k ∧ k < (n : Int) → 0 ≤ c2 k ∧ c2 k < B) → enN B c n = enN B c2 n → ∀ k, 0 ≤ k ∧ k < (n : Int) → c k = c2 k := by
  intro n
  induction n with
  | zero => intro _ _ _ k hk; omega
  | succ n ih =>
    intro h1 h2 e k hk
    have e : enN B c n * B + c n = enN B c2 n * B + c2 n := e
    obtain ⟨e1, e2⟩ := (en_cmp1 (h1 n (by omega)) (h2 n (by omega))).2.mp e
    by_cases z : k = n
    · rw [z]; exact e2
    · exact ih (fun k hk => h1 k (by omega)) (fun k hk => h2 k (by omega)) e1 k (by omega)
theorem pv_en {d : Int → Int} : ∀ n : Nat, n ≤ 5 → ∃ g, 0 < g ∧ sSum (fun k => d k * pv k) n = enN 5 d n * g ∧ (∀ e : Int → Int, sSum (fun k => e k * pv k) n = enN 5 e n * g) := by
  intro n hn
  have h : n = 0 ∨ n = 1 ∨ n = 2 ∨ n = 3 ∨ n = 4 ∨ n = 5 := by omega
  have key : ∃ g, 0 < g ∧ (∀ e : Int → Int, sSum (fun k => e k * pv k) n = enN 5 e n * g) := by
    rcases h with rfl | rfl | rfl | rfl | rfl | rfl
    · exact ⟨1, by decide, fun e => rfl⟩
    · exact ⟨625, by decide, fun e => by show 0 + e 0 * 625 = (0 * 5 + e 0) * 625; omega⟩
    · exact ⟨125, by decide, fun e => by show 0 + e 0 * 625 + e 1 * 125 = ((0 * 5 + e 0) * 5 + e 1) * 125; omega⟩
    · exact ⟨25, by decide, fun e => by show 0 + e 0 * 625 + e 1 * 125 + e 2 * 25 = (((0 * 5 + e 0) * 5 + e 1) * 5 + e 2) * 25; omega⟩
    · exact ⟨5, by decide, fun e => by show 0 + e 0 * 625 + e 1 * 125 + e 2 * 25 + e 3 * 5 = ((((0 * 5 + e 0) * 5 + e 1) * 5 + e 2) * 5 + e 3) * 5; omega⟩
    · exact ⟨1, by decide, fun e => by show 0 + e 0 * 625 + e 1 * 125 + e 2 * 25 + e 3 * 5 + e 4 * 1 = (((((0 * 5 + e 0) * 5 + e 1) * 5 + e 2) * 5 + e 3) * 5 + e 4) * 1; omega⟩
  obtain ⟨g, g1, g2⟩ := key
  exact ⟨g, g1, g2 d, g2⟩
theorem w_rg {d : Int → Int} {n : Nat} (hn : n ≤ 5) (h : ∀ k, 0 ≤ k ∧ k < (n : Int) → 0 ≤ d k ∧ d k ≤ 4) : 0 ≤ sSum (fun k => d k * pv k) n ∧ sSum (fun k => d k * pv k) n < 3125 := by
  have z : n = 0 ∨ n = 1 ∨ n = 2 ∨ n = 3 ∨ n = 4 ∨ n = 5 := by omega
  rcases z with rfl | rfl | rfl | rfl | rfl | rfl
  · exact ⟨Int.le_refl _, (show (0 : Int) < 3125 by decide)⟩
  · have h0 := h 0 (by omega)
    show 0 ≤ 0 + d 0 * 625 ∧ 0 + d 0 * 625 < 3125; omega
  · have h0 := h 0 (by omega)
    have h1 := h 1 (by omega)
    show 0 ≤ 0 + d 0 * 625 + d 1 * 125 ∧ 0 + d 0 * 625 + d 1 * 125 < 3125; omega
  · have h0 := h 0 (by omega)
    have h1 := h 1 (by omega)
    have h2 := h 2 (by omega)
    show 0 ≤ 0 + d 0 * 625 + d 1 * 125 + d 2 * 25 ∧ 0 + d 0 * 625 + d 1 * 125 + d 2 * 25 < 3125; omega
  · have h0 := h 0 (by omega)
    have h1 := h 1 (by omega)
    have h2 := h 2 (by omega)
    have h3 := h 3 (by omega)
    show 0 ≤ 0 + d 0 * 625 + d 1 * 125 + d 2 * 25 + d 3 * 5 ∧ 0 + d 0 * 625 + d 1 * 125 + d 2 * 25 + d 3 * 5 < 3125; omega
  · have h0 := h 0 (by omega)
    have h1 := h 1 (by omega)
    have h2 := h 2 (by omega)
    have h3 := h 3 (by omega)
    have h4 := h 4 (by omega)
    show 0 ≤ 0 + d 0 * 625 + d 1 * 125 + d 2 * 25 + d 3 * 5 + d 4 * 1 ∧ 0 + d 0 * 625 + d 1 * 125 + d 2 * 25 + d 3 * 5 + d 4 * 1 < 3125; omega
theorem dg_s {B j k : Int} {n : Nat} (hB : 1 ≤ B) (hk : k < n) : dg B ((n + 1 : Nat) : Int) j k = dg B n (j / B) k := by
  unfold dg
  have e : (((n + 1 : Nat) : Int) - 1 - k).toNat = ((n : Int) - 1 - k).toNat + 1 := by omega
  rw [e, Int.pow_succ, Int.mul_comm, Int.ediv_ediv_of_nonneg (by omega)]
theorem enN_c {B : Int} {c c2 : Int → Int} : ∀ n : Nat, (∀ k, 0 ≤ k ∧ k < (n : Int) → c k = c2 k) → enN B c n = enN B c2 n := by
  intro n
  induction n with
  | zero => intro _; rfl
  | succ n ih =>
    intro h
    show enN B c n * B + c n = enN B c2 n * B + c2 n
    rw [ih (fun k hk => h k (by omega)), h n (by omega)]
theorem en_dg {B : Int} (hB : 1 ≤ B) : ∀ (n : Nat) (j : Int), 0 ≤ j ∧ j < B ^ n → enN B (dg B n j) n = j := by
  intro n
  induction n with
  | zero => intro j hj; rw [Int.pow_zero] at hj; show 0 = j; omega
  | succ n ih =>
    intro j hj
    show enN B (dg B ((n + 1 : Nat) : Int) j) n * B + dg B ((n + 1 : Nat) : Int) j n = j
    rw [enN_c n (fun k hk => dg_s hB hk.2), ih (j / B) ⟨Int.ediv_nonneg hj.1 (by omega), ?_⟩]
    · have e : dg B ((n + 1 : Nat) : Int) j n = j % B := by
        unfold dg
        rw [show (((n + 1 : Nat) : Int) - 1 - n).toNat = 0 by omega, Int.pow_zero, Int.ediv_one]
      rw [e]
      have := Int.mul_ediv_add_emod j B
      rw [Int.mul_comm] at this
      exact this
    · refine Int.ediv_lt_of_lt_mul (by omega) ?_
      rw [← Int.pow_succ]
      exact hj.2
theorem dg_en {B : Int} {c : Int → Int} (hB : 1 ≤ B) {n : Nat} (h : ∀ k, 0 ≤ k ∧ k < (n : Int) → 0 ≤ c k ∧ c k < B) : ∀ k, 0 ≤ k ∧ k < (n : Int) → dg B n (enN B c n) k = c k := by
  have hr := en_rg hB n h
  refine en_eq n (fun k hk => ?_) h (en_dg hB n _ hr)
  unfold dg
  exact ⟨Int.emod_nonneg _ (by omega), Int.emod_lt_of_pos _ (by omega)⟩
theorem fEn_first (lat : Int → Int) (n m : Int) : ∀ i : Nat, ((fEn lat n m i).1 = -1 ∧ ∀ j, 0 ≤ j ∧ j < (i : Int) → fCost lat (dg (m + 1) n j) n m = -1) ∨ ∃ j, (0 ≤ j ∧ j < (i : Int)) ∧ (fEn lat n m i).2 = dg (m + 1) n j ∧ (fEn lat n m i).1 = fCost lat (dg (m + 1) n j) n m ∧ (fEn lat n m i).1 ≠ -1 ∧ ∀ j2, 0 ≤ j2 ∧ j2 < (i : Int) → fCost lat (dg (m + 1) n j2) n m = -1 ∨ (fEn lat n m i).1 < fCost lat (dg (m + 1) n j2) n m ∨ (fEn lat n m i).1 = fCost lat (dg (m + 1) n j2) n m ∧ j ≤ j2 := by
  intro i
  induction i with
  | zero => exact .inl ⟨rfl, fun j hj => by omega⟩
  | succ i ih =>
    have e : fEn lat n m ((i + 1 : Nat) : Int) = gEn lat n m (fEn lat n m i) i := rfl
    rw [e]
    generalize fEn lat n m i = f at ih
    unfold gEn
    by_cases hc : fCost lat (dg (m + 1) n i) n m ≠ -1 ∧ (f.1 = -1 ∨ fCost lat (dg (m + 1) n i) n m < f.1)
    · rw [if_pos hc]
      refine .inr ⟨i, by omega, rfl, rfl, hc.1, fun j2 hj2 => ?_⟩
      show _ ∨ fCost lat (dg (m + 1) n i) n m < _ ∨ fCost lat (dg (m + 1) n i) n m = _ ∧ _
      by_cases z : j2 = i
      · subst z; exact .inr (.inr ⟨rfl, Int.le_refl _⟩)
      · rcases ih with ⟨a, b⟩ | ⟨j, a1, a2, a3, a4, a5⟩
        · exact .inl (b j2 (by omega))
        · have := a5 j2 (by omega)
          have := hc.2
          omega
    · rw [if_neg hc]
      rcases ih with ⟨a, b⟩ | ⟨j, a1, a2, a3, a4, a5⟩
      · refine .inl ⟨a, fun j hj => ?_⟩
        by_cases z : j = i
        · subst z
          by_cases y : fCost lat (dg (m + 1) n i) n m = -1
          · exact y
          · exact absurd ⟨y, .inl a⟩ hc
        · exact b j (by omega)
      · refine .inr ⟨j, by omega, a2, a3, a4, fun j2 hj2 => ?_⟩
        by_cases z : j2 = i
        · subst z
          by_cases y : fCost lat (dg (m + 1) n i) n m = -1
          · exact .inl y
          · have : ¬ fCost lat (dg (m + 1) n i) n m < f.1 := fun q => hc ⟨y, .inr q⟩
            omega
        · exact a5 j2 (by omega)
theorem fCost_ok {lat ch : Int → Int} {n m : Int} (hm : 0 ≤ m) (hn : 0 ≤ n) (h : ∀ q, 0 ≤ q ∧ q < m → 0 ≤ lat (32 * q + fSet ch q n)) : 0 ≤ fCost lat ch n m := by
  rw [fCost_sum hm h hn]
  have h0 : 0 ≤ sSum (fun k => if ch k = m then 100000 else 0) n := (sSum_rg (b := 100000) (by decide) hn (fun i hi => by show 0 ≤ (if ch i = m then (100000 : Int) else 0) ∧ (if ch i = m then (100000 : Int) else 0) ≤ 100000; split <;> omega)).1
  have key : ∀ k : Nat, (k : Int) ≤ m → 0 ≤ sSumN (fun q => lat (32 * q + fSet ch q n)) k := by
    intro k
    induction k with
    | zero => intro _; exact Int.le_refl _
    | succ k ih =>
      intro hk
      have h1 := h k (by omega)
      have := ih (by omega)
      show 0 ≤ sSumN (fun q => lat (32 * q + fSet ch q n)) k + lat (32 * k + fSet ch k n)
      omega
  have : 0 ≤ sSum (fun q => lat (32 * q + fSet ch q n)) m := key m.toNat (by omega)
  omega
/-- the first of the cheapest is the choice told -/
theorem pick_ok {LT RT CT lat : Int → Int} {n m : Int} (hm : 0 ≤ m ∧ m ≤ 4) (hn : 0 ≤ n ∧ n ≤ 5) (h : dpT LT RT CT n m) (h0 : ∀ q, 0 ≤ q ∧ q < m → LT (32 * q + 0) = 0) (hl : ∀ q s, 0 ≤ q ∧ q < m → 0 ≤ s ∧ s < 2 ^ n.toNat → (lat (32 * q + s) = -1 ∧ LT (32 * q + s) = 1000000000) ∨ (lat (32 * q + s) = LT (32 * q + s) ∧ 0 ≤ lat (32 * q + s) ∧ LT (32 * q + s) ≠ 1000000000)) : ∀ k, 0 ≤ k ∧ k < n → (fEn lat n m ((m + 1) ^ n.toNat)).2 k = cs CT n m k := by
  have en : ((n.toNat : Nat) : Int) = n := Int.toNat_of_nonneg hn.1
  -- the choice told
  have c1 : ∀ k, 0 ≤ k ∧ k < n → 0 ≤ cs CT n m k ∧ cs CT n m k ≤ m := fun k _ => cs_rg hm.1 k
  have cl : ∀ q, 0 ≤ q ∧ q < m → lat (32 * q + fSet (cs CT n m) q n) = LT (32 * q + fSet (cs CT n m) q n) ∧ 0 ≤ lat (32 * q + fSet (cs CT n m) q n) := by
    intro q hq
    rcases hl q _ hq (fSet_lt hn.1) with ⟨_, z⟩ | ⟨z1, z2, _⟩
    · exact absurd z (cs_fin hm.1 hn.1 h h0 hq)
    · exact ⟨z1, z2⟩
  have cv := vt_rank hm.1 hn c1 cl
  have cN : 0 ≤ fCost lat (cs CT n m) n m := fCost_ok hm.1 hn.1 (fun q hq => (cl q hq).2)
  have cb : ∀ k, 0 ≤ k ∧ k < ((n.toNat : Nat) : Int) → 0 ≤ cs CT n m k ∧ cs CT n m k < m + 1 := fun k hk => by have := c1 k (by omega); omega
  have cj := en_rg (B := m + 1) (c := cs CT n m) (by omega) n.toNat cb
  have cd : ∀ k, 0 ≤ k ∧ k < n → dg (m + 1) n (enN (m + 1) (cs CT n m) n.toNat) k = cs CT n m k := by
    have := dg_en (B := m + 1) (by omega) cb
    rw [en] at this
    exact this
  have eN : ((((m + 1) ^ n.toNat).toNat : Nat) : Int) = (m + 1) ^ n.toNat := Int.toNat_of_nonneg (by omega)
  have hf := fEn_first lat n m ((m + 1) ^ n.toNat).toNat
  rw [eN] at hf
  have cc : fCost lat (dg (m + 1) n (enN (m + 1) (cs CT n m) n.toNat)) n m = fCost lat (cs CT n m) n m := fCost_congr cd
  rcases hf with ⟨_, z⟩ | ⟨j, j1, j2, j3, j4, j5⟩
  · have := z _ cj
    omega
  · -- the reference's choice
    have b1 : ∀ k, 0 ≤ k ∧ k < n → 0 ≤ dg (m + 1) n j k ∧ dg (m + 1) n j k ≤ m := by
      intro k _
      unfold dg
      have a1 := Int.emod_nonneg (j / (m + 1) ^ (n - 1 - k).toNat) (show m + 1 ≠ 0 by omega)
      have a2 := Int.emod_lt_of_pos (j / (m + 1) ^ (n - 1 - k).toNat) (show 0 < m + 1 by omega)
      omega
    have bf := fCost_fin (lat := lat) (ch := dg (m + 1) n j) (n := n) (m := m) (by rw [← j3]; exact j4)
    have bl : ∀ q, 0 ≤ q ∧ q < m → (lat (32 * q + fSet (dg (m + 1) n j) q n) = LT (32 * q + fSet (dg (m + 1) n j) q n) ∧ 0 ≤ lat (32 * q + fSet (dg (m + 1) n j) q n)) ∧ LT (32 * q + fSet (dg (m + 1) n j) q n) ≠ 1000000000 := by
      intro q hq
      rcases hl q _ hq (fSet_lt (ch := dg (m + 1) n j) hn.1) with ⟨z, _⟩ | ⟨z1, z2, z3⟩
      · exact absurd z (bf q hq)
      · exact ⟨⟨z1, z2⟩, z3⟩
    have bv := vt_rank hm.1 hn b1 (fun q hq => (bl q hq).1)
    have hb := cs_best hm.1 hn.1 h h0 b1 (fun q hq => (bl q hq).2)
    have hj := j5 _ cj
    rw [cc] at hj
    rw [j2]
    have w1 := w_rg (d := fun k => dgt m (cs CT n m k)) (n := n.toNat) (by omega) (fun k hk => by have := c1 k (by omega); show 0 ≤ dgt m (cs CT n m k) ∧ dgt m (cs CT n m k) ≤ 4; unfold dgt; split <;> omega)
    have w2 := w_rg (d := fun k => dgt m (dg (m + 1) n j k)) (n := n.toNat) (by omega) (fun k hk => by have := b1 k (by omega); show 0 ≤ dgt m (dg (m + 1) n j k) ∧ dgt m (dg (m + 1) n j k) ≤ 4; unfold dgt; split <;> omega)
    rw [en] at w1 w2
    have hcost : fCost lat (cs CT n m) n m = fCost lat (dg (m + 1) n j) n m := by omega
    have hw : sSum (fun k => dgt m (cs CT n m k) * pv k) n ≤ sSum (fun k => dgt m (dg (m + 1) n j k) * pv k) n := by omega
    obtain ⟨g, g1, _, g2⟩ := pv_en (d := fun _ => 0) n.toNat (by omega)
    rw [en] at g2
    rw [g2 (fun k => dgt m (cs CT n m k)), g2 (fun k => dgt m (dg (m + 1) n j k))] at hw
    have hw2 := Int.le_of_mul_le_mul_right hw g1
    have hm2 := en_mono (m := m) (c := dg (m + 1) n j) (c2 := cs CT n m) hm n.toNat (fun k hk => b1 k (by omega)) (fun k hk => c1 k (by omega))
    have ej := en_dg (B := m + 1) (by omega) n.toNat j j1
    rw [en] at ej
    rw [ej] at hm2
    have hle : ¬ j < enN (m + 1) (cs CT n m) n.toNat := fun z => by
      have := hm2.1.mpr z
      omega
    have hje : j = enN (m + 1) (cs CT n m) n.toNat := by omega
    intro k hk
    rw [hje]
    exact cd k hk
