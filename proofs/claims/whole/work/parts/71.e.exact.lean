/-! 71.e: the class's tables give the reference's exact plan -/
/-- the class's entry of a set: the best of its orders -/
def bR2 (lat : Int) (st : Int → Int) (set n : Int) (b : cB) : Prop := match b with
  | none => lat = 1000000000
  | some (l, s) => lat = l ∧ (0 ≤ l ∧ l ≤ 600000) ∧ ∀ k, 0 ≤ k ∧ k < n → sBit set k = 1 → st k = s k ∧ (-1 ≤ s k ∧ s k ≤ 100000)
theorem exact_ok {S : mS} {LT ST RT CT : Int → Int} (hn : 0 ≤ S 23 0 ∧ S 23 0 ≤ 5) (hm : 0 ≤ S 0 0 ∧ S 0 0 ≤ 4) (hinj : ∀ i j, 0 ≤ i ∧ i < S 23 0 → 0 ≤ j ∧ j < S 23 0 → S 22 i = S 22 j → i = j)
    (hL : ∀ q s, 0 ≤ q ∧ q < S 0 0 → 0 ≤ s ∧ s < 2 ^ (S 23 0).toNat → bR2 (LT (32 * q + s)) (fun k => ST (160 * q + (5 * s + k))) s (S 23 0) (cFo S q s (S 23 0))) (h : dpT LT RT CT (S 23 0) (S 0 0)) :
    sFor (gT2 (S 22) (tkn CT (S 23 0)) (fun q k => ST (160 * q + (5 * tkn CT (S 23 0) q + k))) (S 23 0)) S (S 0 0) = oExp S := by
  have hp32 := pow_rg hn
  have h0 : ∀ q, 0 ≤ q ∧ q < S 0 0 → LT (32 * q + 0) = 0 := by
    intro q hq
    have := hL q 0 hq ⟨by omega, by omega⟩
    rw [cFo_0] at this
    exact this.1
  have hl : ∀ q s, 0 ≤ q ∧ q < S 0 0 → 0 ≤ s ∧ s < 2 ^ (S 23 0).toNat → (lt S (S 23 0) (32 * q + s) = -1 ∧ LT (32 * q + s) = 1000000000) ∨ (lt S (S 23 0) (32 * q + s) = LT (32 * q + s) ∧ 0 ≤ lt S (S 23 0) (32 * q + s) ∧ LT (32 * q + s) ≠ 1000000000) := by
    intro q s hq hs
    have hh := hL q s hq hs
    rw [lt_at S (S 23 0) (q := q) (s := s) ⟨hs.1, by omega⟩]
    cases hc : cFo S q s (S 23 0) with
    | none =>
      rw [hc] at hh
      exact .inl ⟨rfl, hh⟩
    | some y =>
      rw [hc] at hh
      obtain ⟨l, t⟩ := y
      have h1 : LT (32 * q + s) = l := hh.1
      have h2 := hh.2.1
      right
      show l = LT (32 * q + s) ∧ 0 ≤ l ∧ LT (32 * q + s) ≠ 1000000000
      omega
  have hx : ∀ k, 0 ≤ k ∧ k < S 23 0 → xB S k = cs CT (S 23 0) (S 0 0) k := pick_ok hm hn h h0 hl
  unfold oExp
  refine tell_same (few := S 22) hn.1 hm.1 (fun _ => rfl) hinj (fun q j hq hj => ?_) (fun j hj => ?_) (fun j hj hb => ?_)
  · rw [hx j hj]
    exact cs_bit hm.1 hn.1 h hj.1 hq
  · rw [hx j hj]
    exact (cs_rg hm.1 j).1
  · have hc0 := cs_rg (CT := CT) (n := S 23 0) (m := S 0 0) hm.1 j
    rw [hx j hj] at hb
    have hq : 0 ≤ cs CT (S 23 0) (S 0 0) j ∧ cs CT (S 23 0) (S 0 0) j < S 0 0 := ⟨hc0.1, hb⟩
    have ht := tkn_ok hn.1 h hq
    have es : fSet (xB S) (xB S j) (S 23 0) = tkn CT (S 23 0) (cs CT (S 23 0) (S 0 0) j) := by
      rw [fSet_congr hx, hx j hj, cs_set hm.1 hn.1 h hq]
    have hf := cs_fin hm.1 hn.1 h h0 hq
    rw [cs_set hm.1 hn.1 h hq] at hf
    have hh := hL _ _ hq ht.1
    have hbit := (cs_bit hm.1 hn.1 h hj.1 hq).mpr rfl
    unfold xC
    rw [es, hx j hj]
    cases hc : cFo S (cs CT (S 23 0) (S 0 0) j) (tkn CT (S 23 0) (cs CT (S 23 0) (S 0 0) j)) (S 23 0) with
    | none =>
      rw [hc] at hh
      exact absurd hh hf
    | some y =>
      rw [hc] at hh
      obtain ⟨l, t⟩ := y
      exact (hh.2.2 j hj hbit).1
theorem few_spec (S : mS) : ∀ t : Nat, let T := sForN gFew (sU S 23 0 0) t; T 23 0 = sCnt (opn S) t ∧ (∀ i, 0 ≤ i ∧ i < T 23 0 → (0 ≤ T 22 i ∧ T 22 i < t) ∧ S 13 (T 22 i) = 0) ∧ ∀ i j, 0 ≤ i ∧ i < j → j < T 23 0 → T 22 i < T 22 j := by
  intro t
  induction t with
  | zero =>
    refine ⟨rfl, fun i hi => ?_, fun i j hi hj => ?_⟩
    · have : i < 0 := hi.2
      omega
    · have : j < 0 := hj
      omega
  | succ t ih =>
    obtain ⟨i1, i2, i3⟩ := ih
    have h13 : sForN gFew (sU S 23 0 0) t 13 = S 13 := by
      have e : sForN gFew (sU S 23 0 0) t = sFor gFew (sU S 23 0 0) t := rfl
      rw [e, few_ne (by decide) (by decide)]
      funext i
      exact sU_f (by decide)
    have hs : sCnt (opn S) ((t + 1 : Nat) : Int) = sCnt (opn S) t + (if opn S t = true then 1 else 0) := by
      rw [show ((t + 1 : Nat) : Int) = (t : Int) + 1 by omega, sCnt_s _ (by omega)]
    have hr := sCnt_rg (opn S) (t := t) (by omega)
    show gFew (sForN gFew (sU S 23 0 0) t) t 23 0 = _ ∧ (∀ i, 0 ≤ i ∧ i < gFew (sForN gFew (sU S 23 0 0) t) t 23 0 → (0 ≤ gFew (sForN gFew (sU S 23 0 0) t) t 22 i ∧ gFew (sForN gFew (sU S 23 0 0) t) t 22 i < ((t + 1 : Nat) : Int)) ∧ S 13 (gFew (sForN gFew (sU S 23 0 0) t) t 22 i) = 0) ∧ ∀ i j, 0 ≤ i ∧ i < j → j < gFew (sForN gFew (sU S 23 0 0) t) t 23 0 → gFew (sForN gFew (sU S 23 0 0) t) t 22 i < gFew (sForN gFew (sU S 23 0 0) t) t 22 j
    generalize sForN gFew (sU S 23 0 0) t = T at i1 i2 i3 h13
    unfold gFew
    rw [h13, hs, ← i1]
    by_cases hc : S 13 t = 0
    · rw [if_pos hc, if_pos (opn_t.mpr hc)]
      have e23 : sU (sU T 22 (T 23 0) t) 23 0 (T 23 0 + 1) 23 0 = T 23 0 + 1 := sU_same
      have e22 : ∀ i, sU (sU T 22 (T 23 0) t) 23 0 (T 23 0 + 1) 22 i = if i = T 23 0 then (t : Int) else T 22 i := by
        intro i
        rw [sU_f (by decide)]
        unfold sU
        simp only [true_and]
      rw [e23]
      refine ⟨rfl, fun i hi => ?_, fun i j hi hj => ?_⟩
      · rw [e22]
        by_cases e : i = T 23 0
        · rw [if_pos e]; exact ⟨by omega, hc⟩
        · rw [if_neg e]
          have := i2 i (by omega)
          exact ⟨by omega, this.2⟩
      · rw [e22, e22]
        by_cases e : j = T 23 0
        · rw [if_pos e, if_neg (by omega)]
          have := i2 i (by omega)
          omega
        · rw [if_neg e, if_neg (by omega)]
          exact i3 i j hi (by omega)
    · rw [if_neg hc, if_neg (fun z => hc (opn_t.mp z))]
      refine ⟨by omega, fun i hi => ?_, i3⟩
      have := i2 i hi
      exact ⟨by omega, this.2⟩
