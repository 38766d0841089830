/-! 83.lcmp: comparing longs; the values of sets; what the planner knows of the tasks -/
theorem jL_cmp_ge {E : jx_E} {l : Launch} {Y : jx_Y} {d : Nat} {Q : jx_R → jx_W → Prop} {pc : Nat} {L : List (Option Value)} {st : List Value} {w : jx_W} {x y : Int} {off : Int} {tgt : Nat} (hd : decode Y.2.2.1 pc = .ok (.lcmp, 1)) (hd2 : decode Y.2.2.1 (pc + 1) = .ok (.ifCond .ge off, 3)) (ht : ((pc + 1 : Nat) : Int) + off = (tgt : Int)) (hx : lR x) (hy : lR y) (kt : y ≤ x → jx_G E l Y d Q tgt L st w) (kf : ¬ y ≤ x → jx_G E l Y d Q (pc + 1 + 3) L st w) : jx_G E l Y d Q pc L (.long (lI y) :: .long (lI x) :: st) w := by
  refine jx_lcmp hd (jx_if_ge hd2 ht (fun z => kt ?_) (fun z => kf ?_))
  · unfold lg_cmp at z
    by_cases h1 : lI x > lI y
    · have := (lI_lt hy hx).mp h1
      omega
    · rw [if_neg h1] at z
      by_cases h2 : lI x = lI y
      · have := (lI_eq hx hy).mp h2
        omega
      · rw [if_neg h2] at z
        exact absurd z (by decide)
  · intro hc
    apply z
    unfold lg_cmp
    by_cases h1 : lI x > lI y
    · rw [if_pos h1]
      decide
    · rw [if_neg h1]
      have h2 : lI x = lI y := (lI_eq hx hy).mpr (by
        by_cases e : y < x
        · exact absurd ((lI_lt hy hx).mpr e) h1
        · omega)
      rw [if_pos h2]
      decide
theorem vl_rgN : ∀ n : Nat, n < 32 → 0 ≤ vl (n : Int) ∧ vl (n : Int) ≤ 781 := by decide +kernel
theorem vl_rg {s : Int} (h : 0 ≤ s ∧ s < 32) : 0 ≤ vl s ∧ vl s ≤ 781 := by
  have := vl_rgN s.toNat (by omega)
  rw [Int.toNat_of_nonneg h.1] at this
  exact this
theorem bc_rgN : ∀ n : Nat, n < 32 → 0 ≤ bc (n : Int) ∧ bc (n : Int) ≤ 5 := by decide +kernel
theorem bc_rg {s : Int} (h : 0 ≤ s ∧ s < 32) : 0 ≤ bc s ∧ bc s ≤ 5 := by
  have := bc_rgN s.toNat (by omega)
  rw [Int.toNat_of_nonneg h.1] at this
  exact this
theorem mul_rg {p v : Int} (hp : 0 ≤ p ∧ p ≤ 4) (hv : 0 ≤ v ∧ v ≤ 781) : 0 ≤ p * v ∧ p * v ≤ 3124 := by
  have h : p = 0 ∨ p = 1 ∨ p = 2 ∨ p = 3 ∨ p = 4 := by omega
  rcases h with rfl | rfl | rfl | rfl | rfl <;> omega
/-- the planner's list of tasks is the reference's few -/
abbrev fewR (S D : mS) : Prop := D 36 0 = S 23 0 ∧ (0 ≤ S 23 0 ∧ S 23 0 ≤ 5) ∧ D 46 0 = 2 ^ (S 23 0).toNat ∧ ∀ i, 0 ≤ i ∧ i < S 23 0 → D 38 i = S 22 i ∧ (0 ≤ S 22 i ∧ S 22 i < S 1 0)
/-- the planner's entries for person p -/
abbrev tabR (D : mS) (n p : Int) (X : Int → cB) : Prop := ∀ Y, 0 ≤ Y ∧ Y < 2 ^ n.toNat → bR2 (D 40 (32 * p + Y)) (fun k => D 41 (160 * p + (Y * 5 + k))) Y n (X Y)
theorem bR2_rg {lat set n : Int} {st : Int → Int} {b : cB} (h : bR2 lat st set n b) : 0 ≤ lat ∧ (lat ≤ 600000 ∨ lat = 1000000000) := by
  cases b with
  | none =>
    have h : lat = 1000000000 := h
    omega
  | some y =>
    obtain ⟨l, s⟩ := y
    have h1 : lat = l := h.1
    have h2 := h.2.1
    omega
theorem bR2_in {lat set n : Int} {st tr ts : Int → Int} {b : cB} (h : bR2 lat st set n b) (hne : lat ≠ 1000000000) (ht : ∀ k, 0 ≤ k ∧ k < n → sBit set k = 1 → tr k = ts k ∧ (-1 ≤ ts k ∧ ts k ≤ 100000)) : ∀ k, 0 ≤ k ∧ k < n → sBit set k = 1 → iR (tr k) ∧ iR (st k) := by
  intro k hk hb
  have h1 := ht k hk hb
  cases b with
  | none => exact absurd h hne
  | some y =>
    obtain ⟨l, s⟩ := y
    have h2 := h.2.2 k hk hb
    omega
theorem keep_not {lat set n late : Int} {st tr ts : Int → Int} {b : cB} (h : bR2 lat st set n b) (hl : 0 ≤ late ∧ late ≤ 600000) (ht : ∀ k, 0 ≤ k ∧ k < n → sBit set k = 1 → tr k = ts k ∧ (-1 ≤ ts k ∧ ts k ≤ 100000)) (hc : lat < late ∨ late = lat ∧ sLess tr st set n = 0) : cKeep set n b (some (late, ts)) = b := by
  cases b with
  | none =>
    have h : lat = 1000000000 := h
    omega
  | some y =>
    obtain ⟨l, s⟩ := y
    have h1 : lat = l := h.1
    have e : sLess tr st set n = sLess ts s set n := sLess_congr (fun k hk hb => (ht k hk hb).1) (fun k hk hb => (h.2.2 k hk hb).1)
    show (if late < l ∨ late = l ∧ sLess ts s set n = 1 then some (late, ts) else some (l, s)) = some (l, s)
    rw [if_neg (by omega)]
theorem keep_yes {lat set n late : Int} {st tr ts : Int → Int} {b : cB} (h : bR2 lat st set n b) (hl : 0 ≤ late ∧ late ≤ 600000) (ht : ∀ k, 0 ≤ k ∧ k < n → sBit set k = 1 → tr k = ts k ∧ (-1 ≤ ts k ∧ ts k ≤ 100000)) (hc : late < lat ∨ late = lat ∧ sLess tr st set n = 1) : cKeep set n b (some (late, ts)) = some (late, ts) := by
  cases b with
  | none => rfl
  | some y =>
    obtain ⟨l, s⟩ := y
    have h1 : lat = l := h.1
    have e : sLess tr st set n = sLess ts s set n := sLess_congr (fun k hk hb => (ht k hk hb).1) (fun k hk hb => (h.2.2 k hk hb).1)
    show (if late < l ∨ late = l ∧ sLess ts s set n = 1 then some (late, ts) else some (l, s)) = some (late, ts)
    rw [if_pos (by omega)]
/-- the entry of a set while it is copied -/
abbrev kpR (D0 : mS) (p set late i : Int) (D : mS) : Prop := D 40 (32 * p + set) = late ∧ (∀ k, 0 ≤ k ∧ k < i → D 41 (160 * p + (set * 5 + k)) = D0 42 k) ∧ ∀ (g : Nat) (x : Int), ¬ (g = 40 ∧ x = 32 * p + set) → ¬ (g = 41 ∧ 160 * p + set * 5 ≤ x ∧ x < 160 * p + set * 5 + 5) → D g x = D0 g x
theorem kpR_s {D0 D : mS} {p set late i : Int} (h : kpR D0 p set late i D) (hi : 0 ≤ i ∧ i < 5) : kpR D0 p set late (i + 1) (sU D 41 (160 * p + (set * 5 + i)) (D 42 i)) := by
  obtain ⟨h1, h2, h3⟩ := h
  refine ⟨by rw [sU_f (by decide)]; exact h1, fun k hk => ?_, fun g x hg1 hg2 => ?_⟩
  · by_cases e : k = i
    · rw [e, sU_same, h3 42 i (by omega) (by omega)]
    · rw [sU_i (by omega)]
      exact h2 k (by omega)
  · by_cases e : g = 41 ∧ x = 160 * p + (set * 5 + i)
    · exact absurd ⟨e.1, by omega, by omega⟩ hg2
    · have : sU D 41 (160 * p + (set * 5 + i)) (D 42 i) g x = D g x := if_neg e
      rw [this]
      exact h3 g x hg1 hg2
theorem kpR_0 (D : mS) (p set late : Int) : kpR D p set late 0 (sU D 40 (32 * p + set) late) := by
  refine ⟨sU_same, fun k hk => by omega, fun g x hg1 _ => if_neg hg1⟩
theorem xr_in {n x y : Int} (hx : 0 ≤ x ∧ x < 2 ^ n.toNat) (hy : 0 ≤ y ∧ y < 2 ^ n.toNat) : 0 ≤ xr x y ∧ xr x y < 2 ^ n.toNat := by
  have e2 : ((2 ^ n.toNat : Nat) : Int) = 2 ^ n.toNat := by rw [Int.natCast_pow]; rfl
  have h3 : x.toNat ^^^ y.toNat < 2 ^ n.toNat := Nat.xor_lt_two_pow (by omega) (by omega)
  unfold xr
  omega
