/-! 87.a.share: filling the tables of ranks, person by person from the last -/
theorem aForN_congr {α : Type} {g g2 : α → Int → α} {a : α} : ∀ k : Nat, (∀ x (i : Int), 0 ≤ i ∧ i < k → g x i = g2 x i) → aForN g a k = aForN g2 a k := by
  intro k
  induction k with
  | zero => intro _; rfl
  | succ k ih =>
    intro h
    show g (aForN g a k) k = g2 (aForN g2 a k) k
    rw [ih (fun x i hi => h x i (by omega)), h _ k (by omega)]
theorem chq_c {LT RT RT2 : Int → Int} {q set n : Int} (hn : 0 ≤ n ∧ n ≤ 5) (hs : 0 ≤ set ∧ set < 2 ^ n.toNat) (h : ∀ s, 0 ≤ s ∧ s < 2 ^ n.toNat → RT (32 * (q + 1) + s) = RT2 (32 * (q + 1) + s)) : chq LT RT q set = chq LT RT2 q set := by
  unfold chq aFor
  rw [h set hs]
  refine aForN_congr _ (fun x i hi => ?_)
  have hx := xr_in (n := n) (x := set) (y := i + 1) hs ⟨by omega, by omega⟩
  unfold gCh
  rw [h _ hx]
theorem chq_rg {LT RT : Int → Int} {q set n b : Int} (hn : 0 ≤ n ∧ n ≤ 5) (hq : 0 ≤ q ∧ q ≤ 4) (hs : 0 ≤ set ∧ set < 2 ^ n.toNat) (hL : ∀ s, 0 ≤ s ∧ s ≤ set → 0 ≤ LT (32 * q + s)) (h : ∀ s, 0 ≤ s ∧ s < 2 ^ n.toNat → 0 ≤ RT (32 * (q + 1) + s) ∧ RT (32 * (q + 1) + s) ≤ b) : (0 ≤ (chq LT RT q set).1 ∧ (chq LT RT q set).1 ≤ b) ∧ (0 ≤ (chq LT RT q set).2 ∧ (chq LT RT q set).2 ≤ set) := by
  have h1 := (chq_min (LT := LT) (RT := RT) (q := q) hs.1).1
  have h2 := h set hs
  have hp := pow_rg hn
  rcases chq_is (LT := LT) (RT := RT) (q := q) hs.1 with ⟨z1, z2⟩ | ⟨z1, z2, z3, z4⟩
  · omega
  · have hle := sbs_le (by omega) hs.1 z2
    have hx := xr_in (n := n) (x := set) (y := (chq LT RT q set).2) hs ⟨by omega, by omega⟩
    have h3 := h _ hx
    have h4 := hL (chq LT RT q set).2 (by omega)
    have h5 := vl_rg (s := (chq LT RT q set).2) (by omega)
    have h6 := mul_rg hq h5
    omega
/-- the tables behind person q -/
abbrev shR (LT : Int → Int) (D : mS) (n m q : Int) : Prop := (∀ s, 0 ≤ s ∧ s < 2 ^ n.toNat → D 44 (32 * m + s) = bc s * 100000 * 3125 + 4 * vl s) ∧ (∀ r, q < r ∧ r < m → ∀ s, 0 ≤ s ∧ s < 2 ^ n.toNat → D 44 (32 * r + s) = (chq LT (D 44) r s).1 ∧ D 45 (32 * r + s) = (chq LT (D 44) r s).2) ∧ ∀ r, q < r ∧ r ≤ m → ∀ s, 0 ≤ s ∧ s < 2 ^ n.toNat → 0 ≤ D 44 (32 * r + s) ∧ D 44 (32 * r + s) ≤ 2000000000
/-- and of person q the sets below k -/
abbrev shI (LT : Int → Int) (D : mS) (n m q k : Int) : Prop := shR LT D n m q ∧ ∀ s, 0 ≤ s ∧ s < k → D 44 (32 * q + s) = (chq LT (D 44) q s).1 ∧ D 45 (32 * q + s) = (chq LT (D 44) q s).2 ∧ 0 ≤ D 44 (32 * q + s) ∧ D 44 (32 * q + s) ≤ 2000000000
theorem shI_s {LT : Int → Int} {D : mS} {n m q k : Int} (hn : 0 ≤ n ∧ n ≤ 5) (hq : 0 ≤ q ∧ q < m) (hm : m ≤ 4) (hk : 0 ≤ k ∧ k < 2 ^ n.toNat) (hL : ∀ s, 0 ≤ s ∧ s < 2 ^ n.toNat → 0 ≤ LT (32 * q + s)) (h : shI LT D n m q k) : shI LT (sU (sU D 44 (32 * q + k) (chq LT (D 44) q k).1) 45 (32 * q + k) (chq LT (D 44) q k).2) n m q (k + 1) := by
  obtain ⟨⟨h1, h2, h3⟩, h4⟩ := h
  have hp := pow_rg hn
  have hr := chq_rg (LT := LT) (RT := D 44) (q := q) (set := k) (b := 2000000000) hn (by omega) hk (fun s hs => hL s (by omega)) (fun s hs => h3 (q + 1) (by omega) s hs)
  generalize hv : (chq LT (D 44) q k).1 = v at hr
  generalize ht : (chq LT (D 44) q k).2 = t at hr
  have e44 : ∀ x, x ≠ 32 * q + k → sU (sU D 44 (32 * q + k) v) 45 (32 * q + k) t 44 x = D 44 x := fun x hx => by rw [sU_f (by decide), sU_i hx]
  have e45 : ∀ x, x ≠ 32 * q + k → sU (sU D 44 (32 * q + k) v) 45 (32 * q + k) t 45 x = D 45 x := fun x hx => by rw [sU_i hx, sU_f (by decide)]
  have ec : ∀ r s, q ≤ r → 0 ≤ s ∧ s < 2 ^ n.toNat → chq LT (sU (sU D 44 (32 * q + k) v) 45 (32 * q + k) t 44) r s = chq LT (D 44) r s := fun r s hr hs => chq_c hn hs (fun x hx => e44 _ (by omega))
  refine ⟨⟨fun s hs => ?_, fun r hr2 s hs => ?_, fun r hr2 s hs => ?_⟩, fun s hs => ?_⟩
  · rw [e44 _ (by omega)]
    exact h1 s hs
  · rw [ec r s (by omega) hs, e44 _ (by omega), e45 _ (by omega)]
    exact h2 r hr2 s hs
  · rw [e44 _ (by omega)]
    exact h3 r hr2 s hs
  · rw [ec q s (Int.le_refl _) (by omega)]
    by_cases e : s = k
    · rw [e]
      have x1 : sU (sU D 44 (32 * q + k) v) 45 (32 * q + k) t 44 (32 * q + k) = v := by rw [sU_f (by decide), sU_same]
      have x2 : sU (sU D 44 (32 * q + k) v) 45 (32 * q + k) t 45 (32 * q + k) = t := sU_same
      rw [x1, x2]
      exact ⟨hv.symm, ht.symm, hr.1⟩
    · rw [e44 _ (by omega), e45 _ (by omega)]
      exact h4 s (by omega)
theorem shI_next {LT : Int → Int} {D : mS} {n m q : Int} (h : shI LT D n m q (2 ^ n.toNat)) : shR LT D n m (q - 1) := by
  obtain ⟨⟨h1, h2, h3⟩, h4⟩ := h
  refine ⟨h1, fun r hr s hs => ?_, fun r hr s hs => ?_⟩
  · by_cases e : r = q
    · rw [e]
      have := h4 s hs
      exact ⟨this.1, this.2.1⟩
    · exact h2 r (by omega) s hs
  · by_cases e : r = q
    · rw [e]
      exact (h4 s hs).2.2
    · exact h3 r (by omega) s hs
theorem shR_dp {LT : Int → Int} {D : mS} {n m : Int} (h : shR LT D n m (-1)) : dpT LT (D 44) (D 45) n m := ⟨h.1, fun q hq s hs => h.2.1 q (by omega) s hs⟩
/-- the first table -/
abbrev shB (D : mS) (n m k : Int) : Prop := ∀ s, 0 ≤ s ∧ s < k → D 44 (32 * m + s) = bc s * 100000 * 3125 + 4 * vl s
theorem shB_s {D : mS} {n m k v : Int} (h : shB D n m k) (hk : 0 ≤ k) (hv : v = bc k * 100000 * 3125 + 4 * vl k) : shB (sU D 44 (32 * m + k) v) n m (k + 1) := by
  intro s hs
  by_cases e : s = k
  · rw [e, sU_same]
    exact hv
  · rw [sU_i (by omega)]
    exact h s (by omega)
theorem shB_R {LT : Int → Int} {D : mS} {n m : Int} (hn : 0 ≤ n ∧ n ≤ 5) (h : shB D n m (2 ^ n.toNat)) : shR LT D n m (m - 1) := by
  have hp := pow_rg hn
  refine ⟨h, fun r hr => by omega, fun r hr s hs => ?_⟩
  have e : r = m := by omega
  rw [e, h s hs]
  have h1 := bc_rg (s := s) (by omega)
  have h2 := vl_rg (s := s) (by omega)
  omega
