/-! 71.rel: the class's numbers are the reference's -/
abbrev rlN (S : mS) : Prop := (0 ≤ S 0 0 ∧ S 0 0 ≤ 4) ∧ (0 ≤ S 1 0 ∧ S 1 0 ≤ 16) ∧ (0 ≤ S 2 0 ∧ S 2 0 ≤ 100000) ∧ (S 21 0 = 0 ∨ S 21 0 = 1)
abbrev rlP (S D : mS) (p : Int) : Prop := (D 0 p = p ∧ D 1 p = S 5 p ∧ D 2 p = S 6 p ∧ D 3 p = S 4 p ∧ D 4 p = S 9 p ∧ D 7 p = S 10 p ∧ D 8 p = S 11 p) ∧ ((D 5 p = S 7 p ∧ D 6 p = S 8 p ∧ S 7 p < S 8 p) ∨ (D 5 p = 0 ∧ D 6 p = 0 ∧ S 8 p ≤ S 7 p)) ∧ (S 10 p = 1 → S 11 p = -1 → D 9 p ≤ S 2 0) ∧ (0 ≤ D 9 p ∧ D 9 p ≤ 105000) ∧ (S 11 p ≠ -1 → S 10 p = 1 ∧ S 11 p < S 1 0 ∧ S 13 (S 11 p) = 1 ∧ S 19 (S 11 p) = p ∧ D 9 p = S 20 (S 11 p) + S 15 (S 11 p)) ∧ (0 ≤ D 10 p ∧ D 10 p < 65536)
abbrev rlK (S D : mS) (t : Int) : Prop := (D 20 t = t ∧ D 21 t = S 14 t ∧ D 22 t = S 15 t ∧ D 23 t = S 16 t ∧ D 24 t = S 17 t ∧ D 25 t = S 13 t ∧ D 26 t = S 19 t ∧ D 27 t = S 20 t) ∧ 1 ≤ S 15 t ∧ S 19 t < S 0 0
def rl (S D : mS) : Prop :=
  (D 33 0 = S 0 0 ∧ D 34 0 = S 1 0 ∧ D 31 0 = S 2 0 ∧ D 32 0 = S 21 0) ∧ rlN S ∧ sI S ∧
  (∀ p, 0 ≤ p ∧ p < S 0 0 → rlP S D p) ∧ (∀ t, 0 ≤ t ∧ t < S 1 0 → rlK S D t) ∧
  (∀ p t, 0 ≤ p ∧ p < 4 → 0 ≤ t ∧ t < 16 → (p < S 0 0 → t < S 1 0 → sBit (D 10 p) t = sBit (S 18 t) p) ∧ (p < S 0 0 → S 1 0 ≤ t → sBit (D 10 p) t = 0) ∧ (t < S 1 0 → S 0 0 ≤ p → sBit (S 18 t) p = 0)) ∧
  (∀ i, 0 ≤ i ∧ i < 16 → D 30 i = S 12 i) ∧ ∀ s, 0 ≤ s ∧ s < 32 → D 43 s = vl s
section RL
variable {S D : mS}
theorem rl.P (h : rl S D) {p : Int} (hp : 0 ≤ p ∧ p < S 0 0) : rlP S D p := h.2.2.2.1 p hp
theorem rl.K (h : rl S D) {t : Int} (ht : 0 ≤ t ∧ t < S 1 0) : rlK S D t := h.2.2.2.2.1 t ht
theorem rl.N (h : rl S D) : (D 33 0 = S 0 0 ∧ D 34 0 = S 1 0 ∧ D 31 0 = S 2 0 ∧ D 32 0 = S 21 0) ∧ rlN S := ⟨h.1, h.2.1⟩
theorem rl.I (h : rl S D) : sI S := h.2.2.1
theorem rl.B (h : rl S D) {p t : Int} (hp : 0 ≤ p ∧ p < S 0 0) (ht : 0 ≤ t ∧ t < S 1 0) : sBit (D 10 p) t = sBit (S 18 t) p := (h.2.2.2.2.2.1 p t (by have := h.2.1.1; omega) (by have := h.2.1.2.1; omega)).1 hp.2 ht.2
theorem rl.W (h : rl S D) {i : Int} (hi : 0 ≤ i ∧ i < 16) : D 30 i = S 12 i := h.2.2.2.2.2.2.1 i hi
theorem rl.V (h : rl S D) {s : Int} (hs : 0 ≤ s ∧ s < 32) : D 43 s = vl s := h.2.2.2.2.2.2.2 s hs
/-- ranges of a person's numbers -/
theorem rl.Pr (h : rl S D) {p : Int} (hp : 0 ≤ p ∧ p < S 0 0) : (0 ≤ D 1 p ∧ D 1 p ≤ 100000) ∧ (0 ≤ D 2 p ∧ D 2 p ≤ 100000) ∧ (0 ≤ D 3 p ∧ D 3 p ≤ 255) ∧ (0 ≤ D 4 p ∧ D 4 p ≤ 3) ∧ (0 ≤ D 5 p ∧ D 5 p ≤ 100000) ∧ (0 ≤ D 6 p ∧ D 6 p ≤ 100000) ∧ (0 ≤ D 7 p ∧ D 7 p ≤ 1) ∧ (-1 ≤ D 8 p ∧ D 8 p ≤ 15) ∧ (0 ≤ D 9 p ∧ D 9 p ≤ 105000) ∧ (0 ≤ D 10 p ∧ D 10 p < 65536) := by
  obtain ⟨⟨e0, e1, e2, e3, e4, e7, e8⟩, e5, _, e9, _, e10⟩ := h.P hp
  have hN := h.2.1
  have r1 : 0 ≤ S 5 p ∧ S 5 p ≤ 100000 := h.I.r 5 p (n := 4) (by decide) rfl ⟨by omega, by omega⟩
  have r2 : 0 ≤ S 6 p ∧ S 6 p ≤ 100000 := h.I.r 6 p (n := 4) (by decide) rfl ⟨by omega, by omega⟩
  have r3 : 0 ≤ S 4 p ∧ S 4 p ≤ 255 := h.I.r 4 p (n := 4) (by decide) rfl ⟨by omega, by omega⟩
  have r4 : 0 ≤ S 9 p ∧ S 9 p ≤ 3 := h.I.r 9 p (n := 4) (by decide) rfl ⟨by omega, by omega⟩
  have r5 : 0 ≤ S 7 p ∧ S 7 p ≤ 100000 := h.I.r 7 p (n := 4) (by decide) rfl ⟨by omega, by omega⟩
  have r6 : 0 ≤ S 8 p ∧ S 8 p ≤ 100000 := h.I.r 8 p (n := 4) (by decide) rfl ⟨by omega, by omega⟩
  have r7 : 0 ≤ S 10 p ∧ S 10 p ≤ 1 := h.I.r 10 p (n := 4) (by decide) rfl ⟨by omega, by omega⟩
  have r8 : -1 ≤ S 11 p ∧ S 11 p ≤ 15 := h.I.r 11 p (n := 4) (by decide) rfl ⟨by omega, by omega⟩
  refine ⟨by omega, by omega, by omega, by omega, ?_, ?_, by omega, by omega, e9, e10⟩ <;> rcases e5 with e5 | e5 <;> omega
theorem rl.Kr (h : rl S D) {t : Int} (ht : 0 ≤ t ∧ t < S 1 0) : D 20 t = t ∧ (0 ≤ D 21 t ∧ D 21 t ≤ 7) ∧ (1 ≤ D 22 t ∧ D 22 t ≤ 5000) ∧ (0 ≤ D 23 t ∧ D 23 t ≤ 100000) ∧ (0 ≤ D 24 t ∧ D 24 t ≤ 3) ∧ (0 ≤ D 25 t ∧ D 25 t ≤ 2) ∧ (-1 ≤ D 26 t ∧ D 26 t ≤ 3) ∧ (-1 ≤ D 27 t ∧ D 27 t ≤ 100000) := by
  obtain ⟨⟨e0, e1, e2, e3, e4, e5, e6, e7⟩, e8, _⟩ := h.K ht
  have hN := h.2.1
  have r1 : 0 ≤ S 14 t ∧ S 14 t ≤ 7 := h.I.r 14 t (n := 16) (by decide) rfl ⟨by omega, by omega⟩
  have r2 : 0 ≤ S 15 t ∧ S 15 t ≤ 5000 := h.I.r 15 t (n := 16) (by decide) rfl ⟨by omega, by omega⟩
  have r3 : 0 ≤ S 16 t ∧ S 16 t ≤ 100000 := h.I.r 16 t (n := 16) (by decide) rfl ⟨by omega, by omega⟩
  have r4 : 0 ≤ S 17 t ∧ S 17 t ≤ 3 := h.I.r 17 t (n := 16) (by decide) rfl ⟨by omega, by omega⟩
  have r5 : 0 ≤ S 13 t ∧ S 13 t ≤ 2 := h.I.r 13 t (n := 16) (by decide) rfl ⟨by omega, by omega⟩
  have r6 : -1 ≤ S 19 t ∧ S 19 t ≤ 3 := h.I.r 19 t (n := 16) (by decide) rfl ⟨by omega, by omega⟩
  have r7 : -1 ≤ S 20 t ∧ S 20 t ≤ 100000 := h.I.r 20 t (n := 16) (by decide) rfl ⟨by omega, by omega⟩
  refine ⟨e0, ?_, ?_, ?_, ?_, ?_, ?_, ?_⟩ <;> omega
theorem rl.Wr (h : rl S D) {i : Int} (hi : 0 ≤ i ∧ i < 16) : 0 ≤ D 30 i ∧ D 30 i ≤ 1000 := by
  have r1 : 0 ≤ S 12 i ∧ S 12 i ≤ 1000 := h.I.r 12 i (n := 16) (by decide) rfl ⟨by omega, by omega⟩
  rw [h.W hi]
  exact r1
/-- what the class reads of a person and a task, as the reference reads it -/
theorem rl.ready (h : rl S D) {p : Int} (hp : 0 ≤ p ∧ p < S 0 0) (h7 : D 7 p = 1) : sGr (D 31 0) (sGr (D 1 p) (D 9 p)) = sReady S p := by
  obtain ⟨⟨e0, e1, e2, e3, e4, e7, e8⟩, e5, e6, e9, e11, e10⟩ := h.P hp
  have hN := h.N.1
  unfold sReady
  by_cases hb : S 11 p = -1
  · rw [if_pos hb]
    have := e6 (by omega) hb
    unfold sGr
    (repeat' split) <;> omega
  · rw [if_neg hb]
    have := e11 hb
    unfold sGr
    (repeat' split) <;> omega
def cSt (D : mS) (p t r z : Int) : Int :=
  if r + D 30 (z * 4 + D 24 t) < D 6 p ∧ D 5 p < r + D 30 (z * 4 + D 24 t) + D 22 t then (if D 2 p < D 6 p + D 22 t then -1 else D 6 p)
  else if D 2 p < r + D 30 (z * 4 + D 24 t) + D 22 t then -1 else r + D 30 (z * 4 + D 24 t)
theorem rl.start (h : rl S D) {p t r z : Int} (hp : 0 ≤ p ∧ p < S 0 0) (ht : 0 ≤ t ∧ t < S 1 0) (hr : 0 ≤ r) (hz : 0 ≤ z ∧ z < 4) : cSt D p t r z = sStart S p t r z := by
  obtain ⟨⟨e0, e1, e2, e3, e4, e7, e8⟩, e5, e6, e9, e11, e10⟩ := h.P hp
  obtain ⟨⟨k0, k1, k2, k3, k4, k5, k6, k7⟩, k8, _⟩ := h.K ht
  have hk := h.Kr ht
  have w1 := h.Wr (i := 4 * z + S 17 t) (by omega)
  have w2 := h.W (i := 4 * z + S 17 t) (by omega)
  unfold cSt sStart
  rw [k4, k2, e2, show z * 4 + S 17 t = 4 * z + S 17 t by omega, w2]
  rw [w2] at w1
  generalize S 12 (4 * z + S 17 t) = g at w1
  rcases e5 with e5 | e5
  · rw [e5.1, e5.2.1]
    by_cases c : r + g < S 8 p ∧ S 7 p < r + g + S 15 t
    · rw [if_pos c, if_pos (show r + g < S 8 p ∧ S 7 p < r + g + S 15 t ∧ S 7 p < S 8 p from ⟨c.1, c.2, e5.2.2⟩)]
    · rw [if_neg c, if_neg (show ¬ (r + g < S 8 p ∧ S 7 p < r + g + S 15 t ∧ S 7 p < S 8 p) from fun z => c ⟨z.1, z.2.1⟩)]
  · rw [e5.1, e5.2.1, if_neg (show ¬ (r + g < 0 ∧ 0 < r + g + S 15 t) by omega), if_neg (show ¬ (r + g < S 8 p ∧ S 7 p < r + g + S 15 t ∧ S 7 p < S 8 p) by omega)]
theorem rl.may (h : rl S D) {p t : Int} (hp : 0 ≤ p ∧ p < S 0 0) (ht : 0 ≤ t ∧ t < S 1 0) : (if D 7 p ≠ 0 ∧ sBit (D 3 p) (D 21 t) = 1 ∧ ¬ sBit (D 10 p) (D 20 t) = 1 then 1 else 0) = sMay S p t := by
  obtain ⟨⟨e0, e1, e2, e3, e4, e7, e8⟩, e5, e6, e9, e11, e10⟩ := h.P hp
  obtain ⟨⟨k0, k1, k2, k3, k4, k5, k6, k7⟩, k8, _⟩ := h.K ht
  have hb := h.B hp ht
  unfold sMay sRef
  rw [e7, e3, k1, k0, hb]
  by_cases c : sBit (S 18 t) p = 1
  · rw [if_pos c, if_neg (fun z => z.2.2 c), if_neg (fun z => absurd z.2.2 (by decide))]
  · rw [if_neg c]
    by_cases c2 : S 10 p ≠ 0 ∧ sBit (S 4 p) (S 14 t) = 1
    · rw [if_pos ⟨c2.1, c2.2, c⟩, if_pos ⟨c2.1, c2.2, rfl⟩]
    · rw [if_neg (fun z => c2 ⟨z.1, z.2.1⟩), if_neg (fun z => c2 ⟨z.1, z.2.1⟩)]
end RL
