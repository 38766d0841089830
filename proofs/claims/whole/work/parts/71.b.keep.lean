/-! 71.5: what the operations leave of the relation -/
theorem rl.cD {S D D2 : mS} (h : rl S D) (hc : ∀ f, f ≤ 10 ∨ (20 ≤ f ∧ f ≤ 27) ∨ (30 ≤ f ∧ f ≤ 34) ∨ f = 43 → D2 f = D f) : rl S D2 := by
  obtain ⟨⟨n1, n2, n3, n4⟩, hN, hI, hP, hK, hB, hW, hV⟩ := h
  have e0 := hc 0 (by decide); have e1 := hc 1 (by decide); have e2 := hc 2 (by decide); have e3 := hc 3 (by decide); have e4 := hc 4 (by decide); have e5 := hc 5 (by decide); have e6 := hc 6 (by decide); have e7 := hc 7 (by decide); have e8 := hc 8 (by decide); have e9 := hc 9 (by decide); have e10 := hc 10 (by decide)
  have f0 := hc 20 (by decide); have f1 := hc 21 (by decide); have f2 := hc 22 (by decide); have f3 := hc 23 (by decide); have f4 := hc 24 (by decide); have f5 := hc 25 (by decide); have f6 := hc 26 (by decide); have f7 := hc 27 (by decide)
  have g0 := hc 30 (by decide); have g1 := hc 31 (by decide); have g2 := hc 32 (by decide); have g3 := hc 33 (by decide); have g4 := hc 34 (by decide); have g5 := hc 43 (by decide)
  unfold rl rlP rlK
  rw [e0, e1, e2, e3, e4, e5, e6, e7, e8, e9, e10, f0, f1, f2, f3, f4, f5, f6, f7, g0, g1, g2, g3, g4, g5]
  exact ⟨⟨n1, n2, n3, n4⟩, hN, hI, hP, hK, hB, hW, hV⟩
theorem rl.cS {S S2 D : mS} (h : rl S D) (hI : sI S2) (hc : ∀ f, f < 22 → f ≠ 3 → S2 f = S f) : rl S2 D := by
  obtain ⟨hn, hN, _, hP, hK, hB, hW, hV⟩ := h
  have e0 := hc 0 (by decide) (by decide); have e1 := hc 1 (by decide) (by decide); have e2 := hc 2 (by decide) (by decide); have e4 := hc 4 (by decide) (by decide); have e5 := hc 5 (by decide) (by decide); have e6 := hc 6 (by decide) (by decide); have e7 := hc 7 (by decide) (by decide); have e8 := hc 8 (by decide) (by decide); have e9 := hc 9 (by decide) (by decide); have e10 := hc 10 (by decide) (by decide)
  have f0 := hc 11 (by decide) (by decide); have f1 := hc 12 (by decide) (by decide); have f2 := hc 13 (by decide) (by decide); have f3 := hc 14 (by decide) (by decide); have f4 := hc 15 (by decide) (by decide); have f5 := hc 16 (by decide) (by decide); have f6 := hc 17 (by decide) (by decide); have f7 := hc 18 (by decide) (by decide); have f8 := hc 19 (by decide) (by decide); have f9 := hc 20 (by decide) (by decide); have g0 := hc 21 (by decide) (by decide)
  unfold rl rlP rlK rlN
  rw [e0, e1, e2, e4, e5, e6, e7, e8, e9, e10, f0, f1, f2, f3, f4, f5, f6, f7, f8, f9, g0]
  exact ⟨hn, hN, hI, hP, hK, hB, hW, hV⟩
theorem rl.s3 {S D : mS} (h : rl S D) (k : Int) : rl (sU S 3 0 k) D := h.cS (h.I.u 3 0 k (fun z => absurd z (by decide))) (fun f _ h3 => by funext i; exact sU_f h3)
theorem keep_rest {S D : mS} {p a b : Int} (h : rl S D) (hp : 0 ≤ p ∧ p < S 0 0) (ha : S 5 p ≤ a) (hb : b ≤ S 6 p) (hab : a ≤ b) : rl (sU (sU S 7 p a) 8 p b) (sU (sU D 5 p (if a = b then 0 else a)) 6 p (if a = b then 0 else b)) := by
  have hI := h.I
  have r1 : 0 ≤ S 5 p ∧ S 5 p ≤ 100000 := hI.r 5 p (n := 4) (by decide) rfl ⟨by omega, by have := h.2.1; omega⟩
  have r2 : 0 ≤ S 6 p ∧ S 6 p ≤ 100000 := hI.r 6 p (n := 4) (by decide) rfl ⟨by omega, by have := h.2.1; omega⟩
  obtain ⟨hn, hN, _, hP, hK, hB, hW, hV⟩ := h
  refine ⟨hn, hN, (hI.u 7 p a (fun _ => show 0 ≤ a ∧ a ≤ 100000 by omega)).u 8 p b (fun _ => show 0 ≤ b ∧ b ≤ 100000 by omega), fun q hq => ?_, hK, hB, hW, hV⟩
  obtain ⟨b1, b2, b3, b4, b5, b6⟩ := hP q hq
  refine ⟨b1, ?_, b3, b4, b5, b6⟩
  by_cases e : q = p
  · subst e
    have z1 : sU (sU D 5 q (if a = b then 0 else a)) 6 q (if a = b then 0 else b) 5 q = (if a = b then 0 else a) := by rw [sU_f (by decide), sU_same]
    have z2 : sU (sU S 7 q a) 8 q b 7 q = a := by rw [sU_f (by decide), sU_same]
    rw [z1, z2, sU_same, sU_same]
    by_cases e2 : a = b
    · rw [if_pos e2, if_pos e2]; right; exact ⟨rfl, rfl, by omega⟩
    · rw [if_neg e2, if_neg e2]; left; exact ⟨rfl, rfl, by omega⟩
  · have z1 : sU (sU D 5 p (if a = b then 0 else a)) 6 p (if a = b then 0 else b) 5 q = D 5 q := by rw [sU_f (by decide), sU_i e]
    have z2 : sU (sU S 7 p a) 8 p b 7 q = S 7 q := by rw [sU_f (by decide), sU_i e]
    have z3 : sU (sU D 5 p (if a = b then 0 else a)) 6 p (if a = b then 0 else b) 6 q = D 6 q := by rw [sU_i e, sU_f (by decide)]
    have z4 : sU (sU S 7 p a) 8 p b 8 q = S 8 q := by rw [sU_i e, sU_f (by decide)]
    rw [z1, z2, z3, z4]
    exact b2
theorem keep_train {S D : mS} {p s : Int} (h : rl S D) (hp : 0 ≤ p ∧ p < S 0 0) (hs : 0 ≤ s ∧ s ≤ 7) : rl (sU S 4 p (sSet (S 4 p) s)) (sU D 3 p (sSet (D 3 p) s)) := by
  have hI := h.I
  have r1 : 0 ≤ S 4 p ∧ S 4 p ≤ 255 := hI.r 4 p (n := 4) (by decide) rfl ⟨by omega, by have := h.2.1; omega⟩
  have r2 := sSet_rg (n := 8) (x := S 4 p) (k := s) ⟨r1.1, by omega⟩ ⟨hs.1, by omega⟩
  have e3 := (h.P hp).1.2.2.2.1
  obtain ⟨hn, hN, _, hP, hK, hB, hW, hV⟩ := h
  refine ⟨hn, hN, hI.u 4 p _ (fun _ => show 0 ≤ sSet (S 4 p) s ∧ sSet (S 4 p) s ≤ 255 by omega), fun q hq => ?_, hK, hB, hW, hV⟩
  obtain ⟨⟨c0, c1, c2, c3, c4, c7, c8⟩, b2, b3, b4, b5, b6⟩ := hP q hq
  refine ⟨⟨c0, c1, c2, ?_, c4, c7, c8⟩, b2, b3, b4, b5, b6⟩
  by_cases e : q = p
  · subst e
    rw [sU_same, sU_same, e3]
  · rw [sU_i e, sU_i e]
    exact c3
theorem keep_way {S D : mS} {a b c : Int} (h : rl S D) (ha : 0 ≤ a ∧ a ≤ 3) (hb : 0 ≤ b ∧ b ≤ 3) (hc : 0 ≤ c ∧ c ≤ 1000) : rl (sU (sU S 12 (4 * a + b) c) 12 (4 * b + a) c) (sU (sU D 30 (a * 4 + b) c) 30 (b * 4 + a) c) := by
  have hI := h.I
  obtain ⟨hn, hN, _, hP, hK, hB, hW, hV⟩ := h
  refine ⟨hn, hN, (hI.u 12 _ c (fun _ => show 0 ≤ c ∧ c ≤ 1000 by omega)).u 12 _ c (fun _ => show 0 ≤ c ∧ c ≤ 1000 by omega), hP, hK, hB, fun i hi => ?_, hV⟩
  rw [show a * 4 + b = 4 * a + b by omega, show b * 4 + a = 4 * b + a by omega]
  by_cases e1 : i = 4 * b + a
  · rw [e1, sU_same, sU_same]
  · rw [sU_i e1, sU_i e1]
    by_cases e2 : i = 4 * a + b
    · rw [e2, sU_same, sU_same]
    · rw [sU_i e2, sU_i e2]
      exact hW i hi
theorem keep_pass {S D : mS} {t : Int} (h : rl S D) (ht : S 2 0 ≤ t ∧ t ≤ 100000) : rl (sU S 2 0 t) (sU D 31 0 t) := by
  have hI := h.I
  obtain ⟨hn, hN, _, hP, hK, hB, hW, hV⟩ := h
  refine ⟨⟨hn.1, hn.2.1, rfl, hn.2.2.2⟩, ⟨hN.1, hN.2.1, ?_, hN.2.2.2⟩, hI.u 2 0 t (fun z => absurd z (by decide)), fun q hq => ?_, hK, hB, hW, hV⟩
  · rw [sU_same]; omega
  · obtain ⟨b1, b2, b3, b4, b5, b6⟩ := hP q hq
    refine ⟨b1, b2, fun z1 z2 => ?_, b4, b5, b6⟩
    have := b3 z1 z2
    rw [sU_same, sU_f (by decide)]
    omega
/-- setting a task free; no person has begun it -/
theorem keep_free {S D : mS} {t : Int} (h : rl S D) (ht : 0 ≤ t ∧ t < S 1 0) (hb : ∀ p, 0 ≤ p ∧ p < S 0 0 → S 11 p ≠ t) : rl (oFree S t) (sU (sU (sU D 25 t 0) 26 t (-1)) 27 t (-1)) := by
  have hI := h.I
  obtain ⟨hn, hN, _, hP, hK, hB, hW, hV⟩ := h
  refine ⟨hn, hN, sI_free hI t, fun q hq => ?_, fun u hu => ?_, hB, hW, hV⟩
  · obtain ⟨b1, b2, b3, b4, b5, b6⟩ := hP q hq
    refine ⟨b1, b2, b3, b4, fun z => ?_, b6⟩
    have hne := hb q hq
    have z1 : oFree S t 13 (S 11 q) = S 13 (S 11 q) := oFree_i hne
    have z2 : oFree S t 19 (S 11 q) = S 19 (S 11 q) := oFree_i hne
    have z3 : oFree S t 20 (S 11 q) = S 20 (S 11 q) := oFree_i hne
    show S 10 q = 1 ∧ S 11 q < S 1 0 ∧ oFree S t 13 (S 11 q) = 1 ∧ oFree S t 19 (S 11 q) = q ∧ D 9 q = oFree S t 20 (S 11 q) + S 15 (S 11 q)
    rw [z1, z2, z3]
    exact b5 z
  · obtain ⟨⟨c0, c1, c2, c3, c4, c5, c6, c7⟩, b2, b3⟩ := hK u hu
    by_cases e : u = t
    · subst e
      have y1 : oFree S u 13 u = 0 := by unfold oFree; rw [sU_f (by decide), sU_f (by decide), sU_same]
      have y2 : oFree S u 19 u = -1 := by unfold oFree; rw [sU_f (by decide), sU_same]
      have y3 : oFree S u 20 u = -1 := by unfold oFree; rw [sU_same]
      have x1 : sU (sU (sU D 25 u 0) 26 u (-1)) 27 u (-1) 25 u = 0 := by rw [sU_f (by decide), sU_f (by decide), sU_same]
      have x2 : sU (sU (sU D 25 u 0) 26 u (-1)) 27 u (-1) 26 u = -1 := by rw [sU_f (by decide), sU_same]
      have x3 : sU (sU (sU D 25 u 0) 26 u (-1)) 27 u (-1) 27 u = -1 := by rw [sU_same]
      refine ⟨⟨c0, c1, c2, c3, c4, ?_, ?_, ?_⟩, b2, ?_⟩
      · rw [x1, y1]
      · rw [x2, y2]
      · rw [x3, y3]
      · rw [y2]; show (-1 : Int) < S 0 0; have := hN.1; omega
    · have y1 : oFree S t 13 u = S 13 u := oFree_i e
      have y2 : oFree S t 19 u = S 19 u := oFree_i e
      have y3 : oFree S t 20 u = S 20 u := oFree_i e
      have x1 : sU (sU (sU D 25 t 0) 26 t (-1)) 27 t (-1) 25 u = D 25 u := by rw [sU_f (by decide), sU_f (by decide), sU_i e]
      have x2 : sU (sU (sU D 25 t 0) 26 t (-1)) 27 t (-1) 26 u = D 26 u := by rw [sU_f (by decide), sU_i e, sU_f (by decide)]
      have x3 : sU (sU (sU D 25 t 0) 26 t (-1)) 27 t (-1) 27 u = D 27 u := by rw [sU_i e, sU_f (by decide), sU_f (by decide)]
      refine ⟨⟨c0, c1, c2, c3, c4, ?_, ?_, ?_⟩, b2, ?_⟩
      · rw [x1, y1]; exact c5
      · rw [x2, y2]; exact c6
      · rw [x3, y3]; exact c7
      · rw [y2]; exact b3
theorem keep_refuse {S D : mS} {p t : Int} (h : rl S D) (hp : 0 ≤ p ∧ p < S 0 0) (ht : 0 ≤ t ∧ t < S 1 0) : rl (sU S 18 t (sSet (S 18 t) p)) (sU D 10 p (sSet (D 10 p) t)) := by
  have hI := h.I
  have hN0 := h.2.1
  have r1 : 0 ≤ S 18 t ∧ S 18 t ≤ 15 := hI.r 18 t (n := 16) (by decide) rfl ⟨by omega, by omega⟩
  have r2 := sSet_rg (n := 4) (x := S 18 t) (k := p) ⟨r1.1, by omega⟩ ⟨hp.1, by omega⟩
  have r3 := (h.P hp).2.2.2.2.2
  have r4 := sSet_rg (n := 16) (x := D 10 p) (k := t) ⟨r3.1, by omega⟩ ⟨ht.1, by omega⟩
  obtain ⟨hn, hN, _, hP, hK, hB, hW, hV⟩ := h
  refine ⟨hn, hN, hI.u 18 t _ (fun _ => show 0 ≤ sSet (S 18 t) p ∧ sSet (S 18 t) p ≤ 15 by omega), fun q hq => ?_, hK, fun q u hq hu => ?_, hW, hV⟩
  · obtain ⟨b1, b2, b3, b4, b5, b6⟩ := hP q hq
    refine ⟨b1, b2, b3, b4, b5, ?_⟩
    by_cases e : q = p
    · subst e; rw [sU_same]; omega
    · rw [sU_i e]; exact b6
  · obtain ⟨b1, b2, b3⟩ := hB q u hq hu
    have x1 : sBit (sU D 10 p (sSet (D 10 p) t) 10 q) u = if q = p ∧ u = t then 1 else sBit (D 10 q) u := by
      by_cases e : q = p
      · subst e
        rw [sU_same, sBit_set r3.1 ht.1 hu.1]
        by_cases e2 : u = t
        · rw [if_pos e2, if_pos ⟨rfl, e2⟩]
        · rw [if_neg e2, if_neg (fun z => e2 z.2)]
      · rw [sU_i e, if_neg (fun z => e z.1)]
    have x2 : sBit (sU S 18 t (sSet (S 18 t) p) 18 u) q = if q = p ∧ u = t then 1 else sBit (S 18 u) q := by
      by_cases e : u = t
      · subst e
        rw [sU_same, sBit_set r1.1 hp.1 hq.1]
        by_cases e2 : q = p
        · rw [if_pos e2, if_pos ⟨e2, rfl⟩]
        · rw [if_neg e2, if_neg (fun z => e2 z.1)]
      · rw [sU_i e, if_neg (fun z => e z.2)]
    rw [x1, x2]
    have e0 : sU S 18 t (sSet (S 18 t) p) 0 0 = S 0 0 := rfl
    have e1 : sU S 18 t (sSet (S 18 t) p) 1 0 = S 1 0 := rfl
    rw [e0, e1]
    refine ⟨fun z1 z2 => ?_, fun z1 z2 => ?_, fun z1 z2 => ?_⟩
    · rw [b1 z1 z2]
    · rw [if_neg (by omega)]; exact b2 z1 z2
    · rw [if_neg (by omega)]; exact b3 z1 z2
theorem keep_done {S D : mS} {p : Int} (h : rl S D) (hp : 0 ≤ p ∧ p < S 0 0) (hb : S 11 p ≠ -1) (hn2 : S 20 (S 11 p) + S 15 (S 11 p) ≤ S 2 0) : rl (sU (sU S 13 (S 11 p) 2) 11 p (-1)) (sU (sU D 25 (D 8 p) 2) 8 p (-1)) := by
  have hI := h.I
  have hPp := h.P hp
  have e8 := hPp.1.2.2.2.2.2.2
  have h5 := hPp.2.2.2.2.1 hb
  have r11 : -1 ≤ S 11 p ∧ S 11 p ≤ 15 := hI.r 11 p (n := 4) (by decide) rfl ⟨by omega, by have := h.2.1; omega⟩
  rw [e8]
  obtain ⟨hn, hN, _, hP, hK, hB, hW, hV⟩ := h
  refine ⟨hn, hN, (hI.u 13 _ 2 (fun _ => show 0 ≤ (2 : Int) ∧ (2 : Int) ≤ 2 by omega)).u 11 p (-1) (fun _ => show -1 ≤ (-1 : Int) ∧ (-1 : Int) ≤ 15 by omega), fun q hq => ?_, fun u hu => ?_, hB, hW, hV⟩
  · obtain ⟨⟨c0, c1, c2, c3, c4, c7, c8⟩, b2, b3, b4, b5, b6⟩ := hP q hq
    by_cases e : q = p
    · subst e
      have x1 : sU (sU S 13 (S 11 q) 2) 11 q (-1) 11 q = -1 := sU_same
      have x2 : sU (sU D 25 (S 11 q) 2) 8 q (-1) 8 q = -1 := sU_same
      refine ⟨⟨c0, c1, c2, c3, c4, c7, ?_⟩, b2, fun _ _ => ?_, b4, fun z => ?_, b6⟩
      · rw [x1, x2]
      · show D 9 q ≤ S 2 0
        omega
      · exact absurd x1 z
    · have x1 : sU (sU S 13 (S 11 p) 2) 11 p (-1) 11 q = S 11 q := by rw [sU_i e, sU_f (by decide)]
      have x2 : sU (sU D 25 (S 11 p) 2) 8 p (-1) 8 q = D 8 q := by rw [sU_i e, sU_f (by decide)]
      refine ⟨⟨c0, c1, c2, c3, c4, c7, ?_⟩, b2, fun z1 z2 => ?_, b4, fun z => ?_, b6⟩
      · rw [x1, x2]; exact c8
      · rw [x1] at z2
        exact b3 z1 z2
      · rw [x1] at z ⊢
        have b5 := b5 z
        have hne : S 11 q ≠ S 11 p := fun y => by
          have := b5.2.2.2.1
          rw [y] at this
          omega
        refine ⟨b5.1, b5.2.1, ?_, b5.2.2.2.1, b5.2.2.2.2⟩
        show sU (sU S 13 (S 11 p) 2) 11 p (-1) 13 (S 11 q) = 1
        rw [sU_f (by decide), sU_i hne]
        exact b5.2.2.1
  · obtain ⟨⟨c0, c1, c2, c3, c4, c5, c6, c7⟩, b2, b3⟩ := hK u hu
    refine ⟨⟨c0, c1, c2, c3, c4, ?_, c6, c7⟩, b2, b3⟩
    by_cases e : u = S 11 p
    · subst e
      rw [sU_f (by decide), sU_same, sU_f (by decide), sU_same]
    · rw [sU_f (by decide), sU_i e, sU_f (by decide), sU_i e]
      exact c5
theorem keep_give {S D : mS} {p t : Int} (h : rl S D) (hp : 0 ≤ p ∧ p < S 0 0) (ht : 0 ≤ t ∧ t < S 1 0) (h10 : S 10 p = 1) (hb : S 11 p = -1) (h13 : S 13 t = 0) (h19 : S 19 t = p) : rl (sU (sU (sU (sU S 13 t 1) 20 t (S 2 0)) 11 p t) 9 p (S 17 t)) (sU (sU (sU (sU (sU D 25 t 1) 27 t (D 31 0)) 8 p t) 9 p (D 31 0 + D 22 t)) 4 p (D 24 t)) := by
  have hI := h.I
  have hN0 := h.2.1
  have hKt := h.K ht
  have r17 : 0 ≤ S 17 t ∧ S 17 t ≤ 3 := hI.r 17 t (n := 16) (by decide) rfl ⟨by omega, by omega⟩
  have r15 : 0 ≤ S 15 t ∧ S 15 t ≤ 5000 := hI.r 15 t (n := 16) (by decide) rfl ⟨by omega, by omega⟩
  obtain ⟨hn, hN, _, hP, hK, hB, hW, hV⟩ := h
  rw [hn.2.2.1, hKt.1.2.2.1, hKt.1.2.2.2.2.1]
  refine ⟨⟨hn.1, hn.2.1, hn.2.2.1, hn.2.2.2⟩, hN, (((hI.u 13 t 1 (fun _ => show 0 ≤ (1 : Int) ∧ (1 : Int) ≤ 2 by omega)).u 20 t (S 2 0) (fun _ => show -1 ≤ S 2 0 ∧ S 2 0 ≤ 100000 by omega)).u 11 p t (fun _ => show -1 ≤ t ∧ t ≤ 15 by omega)).u 9 p (S 17 t) (fun _ => show 0 ≤ S 17 t ∧ S 17 t ≤ 3 by omega), fun q hq => ?_, fun u hu => ?_, hB, hW, hV⟩
  · obtain ⟨⟨c0, c1, c2, c3, c4, c7, c8⟩, b2, b3, b4, b5, b6⟩ := hP q hq
    by_cases e : q = p
    · subst e
      have x1 : sU (sU (sU (sU S 13 t 1) 20 t (S 2 0)) 11 q t) 9 q (S 17 t) 11 q = t := by rw [sU_f (by decide), sU_same]
      have x2 : sU (sU (sU (sU (sU D 25 t 1) 27 t (S 2 0)) 8 q t) 9 q (S 2 0 + S 15 t)) 4 q (S 17 t) 8 q = t := by rw [sU_f (by decide), sU_f (by decide), sU_same]
      have x3 : sU (sU (sU (sU (sU D 25 t 1) 27 t (S 2 0)) 8 q t) 9 q (S 2 0 + S 15 t)) 4 q (S 17 t) 9 q = S 2 0 + S 15 t := by rw [sU_f (by decide), sU_same]
      refine ⟨⟨c0, c1, c2, c3, ?_, c7, ?_⟩, b2, fun _ z => ?_, ?_, fun _ => ?_, b6⟩
      · rw [sU_same, sU_same]
      · rw [x1, x2]
      · rw [x1] at z; omega
      · rw [x3]; omega
      · rw [x1, x3]
        refine ⟨h10, ht.2, ?_, ?_, ?_⟩
        · rw [sU_f (by decide), sU_f (by decide), sU_f (by decide), sU_same]
        · exact h19
        · show S 2 0 + S 15 t = sU (sU (sU (sU S 13 t 1) 20 t (S 2 0)) 11 q t) 9 q (S 17 t) 20 t + S 15 t
          rw [sU_f (by decide), sU_f (by decide), sU_same]
    · have x1 : sU (sU (sU (sU S 13 t 1) 20 t (S 2 0)) 11 p t) 9 p (S 17 t) 11 q = S 11 q := by rw [sU_f (by decide), sU_i e, sU_f (by decide), sU_f (by decide)]
      have x2 : sU (sU (sU (sU (sU D 25 t 1) 27 t (S 2 0)) 8 p t) 9 p (S 2 0 + S 15 t)) 4 p (S 17 t) 8 q = D 8 q := by rw [sU_f (by decide), sU_f (by decide), sU_i e, sU_f (by decide), sU_f (by decide)]
      have x3 : sU (sU (sU (sU (sU D 25 t 1) 27 t (S 2 0)) 8 p t) 9 p (S 2 0 + S 15 t)) 4 p (S 17 t) 9 q = D 9 q := by rw [sU_f (by decide), sU_i e, sU_f (by decide), sU_f (by decide), sU_f (by decide)]
      have x4 : sU (sU (sU (sU (sU D 25 t 1) 27 t (S 2 0)) 8 p t) 9 p (S 2 0 + S 15 t)) 4 p (S 17 t) 4 q = D 4 q := by rw [sU_i e, sU_f (by decide), sU_f (by decide), sU_f (by decide), sU_f (by decide)]
      have x5 : sU (sU (sU (sU S 13 t 1) 20 t (S 2 0)) 11 p t) 9 p (S 17 t) 9 q = S 9 q := by rw [sU_i e, sU_f (by decide), sU_f (by decide), sU_f (by decide)]
      refine ⟨⟨c0, c1, c2, c3, ?_, c7, ?_⟩, b2, fun z1 z => ?_, ?_, fun z => ?_, b6⟩
      · rw [x4, x5]; exact c4
      · rw [x1, x2]; exact c8
      · rw [x1] at z
        rw [x3]
        exact b3 z1 z
      · rw [x3]; exact b4
      · rw [x1] at z ⊢
        rw [x3]
        have b5 := b5 z
        have hne : S 11 q ≠ t := fun y => by
          have := b5.2.2.1
          rw [y] at this
          omega
        refine ⟨b5.1, b5.2.1, ?_, b5.2.2.2.1, ?_⟩
        · rw [sU_f (by decide), sU_f (by decide), sU_f (by decide), sU_i hne]; exact b5.2.2.1
        · rw [b5.2.2.2.2]
          show _ = sU (sU (sU (sU S 13 t 1) 20 t (S 2 0)) 11 p t) 9 p (S 17 t) 20 (S 11 q) + S 15 (S 11 q)
          rw [sU_f (by decide), sU_f (by decide), sU_i hne, sU_f (by decide)]
  · obtain ⟨⟨c0, c1, c2, c3, c4, c5, c6, c7⟩, b2, b3⟩ := hK u hu
    refine ⟨⟨c0, c1, c2, c3, c4, ?_, c6, ?_⟩, b2, b3⟩
    · show sU (sU (sU (sU (sU D 25 t 1) 27 t (S 2 0)) 8 p t) 9 p (S 2 0 + S 15 t)) 4 p (S 17 t) 25 u = sU (sU (sU (sU S 13 t 1) 20 t (S 2 0)) 11 p t) 9 p (S 17 t) 13 u
      by_cases e : u = t
      · subst e
        rw [sU_f (by decide), sU_f (by decide), sU_f (by decide), sU_f (by decide), sU_same, sU_f (by decide), sU_f (by decide), sU_f (by decide), sU_same]
      · rw [sU_f (by decide), sU_f (by decide), sU_f (by decide), sU_f (by decide), sU_i e, sU_f (by decide), sU_f (by decide), sU_f (by decide), sU_i e]
        exact c5
    · show sU (sU (sU (sU (sU D 25 t 1) 27 t (S 2 0)) 8 p t) 9 p (S 2 0 + S 15 t)) 4 p (S 17 t) 27 u = sU (sU (sU (sU S 13 t 1) 20 t (S 2 0)) 11 p t) 9 p (S 17 t) 20 u
      by_cases e : u = t
      · subst e
        rw [sU_f (by decide), sU_f (by decide), sU_f (by decide), sU_same, sU_f (by decide), sU_f (by decide), sU_same]
      · rw [sU_f (by decide), sU_f (by decide), sU_f (by decide), sU_i e, sU_f (by decide), sU_f (by decide), sU_f (by decide), sU_i e, sU_f (by decide)]
        exact c7
theorem keep_leave {S D : mS} {p : Int} (h : rl S D) (hp : 0 ≤ p ∧ p < S 0 0) : rl (sU (sU S 10 p 0) 11 p (-1)) (sU (sU D 7 p 0) 8 p (-1)) := by
  have hI := h.I
  obtain ⟨hn, hN, _, hP, hK, hB, hW, hV⟩ := h
  refine ⟨hn, hN, (hI.u 10 p 0 (fun _ => show 0 ≤ (0 : Int) ∧ (0 : Int) ≤ 1 by omega)).u 11 p (-1) (fun _ => show -1 ≤ (-1 : Int) ∧ (-1 : Int) ≤ 15 by omega), fun q hq => ?_, hK, hB, hW, hV⟩
  obtain ⟨⟨c0, c1, c2, c3, c4, c7, c8⟩, b2, b3, b4, b5, b6⟩ := hP q hq
  by_cases e : q = p
  · subst e
    have x0 : sU (sU S 10 q 0) 11 q (-1) 10 q = 0 := by rw [sU_f (by decide), sU_same]
    have x1 : sU (sU S 10 q 0) 11 q (-1) 11 q = -1 := sU_same
    have x2 : sU (sU D 7 q 0) 8 q (-1) 7 q = 0 := by rw [sU_f (by decide), sU_same]
    have x3 : sU (sU D 7 q 0) 8 q (-1) 8 q = -1 := sU_same
    refine ⟨⟨c0, c1, c2, c3, c4, ?_, ?_⟩, b2, fun z _ => ?_, b4, fun z => absurd x1 z, b6⟩
    · rw [x0, x2]
    · rw [x1, x3]
    · rw [x0] at z; omega
  · have x0 : sU (sU S 10 p 0) 11 p (-1) 10 q = S 10 q := by rw [sU_f (by decide), sU_i e]
    have x1 : sU (sU S 10 p 0) 11 p (-1) 11 q = S 11 q := by rw [sU_i e, sU_f (by decide)]
    have x2 : sU (sU D 7 p 0) 8 p (-1) 7 q = D 7 q := by rw [sU_f (by decide), sU_i e]
    have x3 : sU (sU D 7 p 0) 8 p (-1) 8 q = D 8 q := by rw [sU_i e, sU_f (by decide)]
    refine ⟨⟨c0, c1, c2, c3, c4, ?_, ?_⟩, b2, fun z1 z2 => ?_, b4, fun z => ?_, b6⟩
    · rw [x0, x2]; exact c7
    · rw [x1, x3]; exact c8
    · rw [x0] at z1; rw [x1] at z2; exact b3 z1 z2
    · rw [x1] at z ⊢
      rw [x0]
      exact b5 z
