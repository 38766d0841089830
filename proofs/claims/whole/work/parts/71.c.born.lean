/-! 71.c: a new person, a new task -/
theorem keep_person {S D D2 : mS} {a b c z : Int} (h : rl S D) (hn4 : S 0 0 < 4) (ha : 0 ≤ a ∧ a ≤ 255) (hb : 0 ≤ b ∧ b ≤ 100000) (hc : 0 ≤ c ∧ c ≤ 100000) (hz : 0 ≤ z ∧ z ≤ 3)
    (hD : ∀ f i, ¬ (f ≤ 13 ∧ i = S 0 0) → f ≠ 33 → D2 f i = D f i) (h33 : D2 33 0 = S 0 0 + 1) (v0 : D2 0 (S 0 0) = S 0 0) (v1 : D2 1 (S 0 0) = b) (v2 : D2 2 (S 0 0) = c) (v3 : D2 3 (S 0 0) = a) (v4 : D2 4 (S 0 0) = z) (v5 : D2 5 (S 0 0) = 0) (v6 : D2 6 (S 0 0) = 0) (v7 : D2 7 (S 0 0) = 1) (v8 : D2 8 (S 0 0) = -1) (v9 : D2 9 (S 0 0) = 0) (v10 : D2 10 (S 0 0) = 0) :
    rl (sU (sU (sU (sU (sU (sU (sU (sU (sU (sU S 3 0 0) 4 (S 0 0) a) 5 (S 0 0) b) 6 (S 0 0) c) 7 (S 0 0) 0) 8 (S 0 0) 0) 9 (S 0 0) z) 10 (S 0 0) 1) 11 (S 0 0) (-1)) 0 0 (S 0 0 + 1)) D2 := by
  obtain ⟨T, hT⟩ : ∃ T, T = sU (sU (sU (sU (sU (sU (sU (sU (sU (sU S 3 0 0) 4 (S 0 0) a) 5 (S 0 0) b) 6 (S 0 0) c) 7 (S 0 0) 0) 8 (S 0 0) 0) 9 (S 0 0) z) 10 (S 0 0) 1) 11 (S 0 0) (-1)) 0 0 (S 0 0 + 1) := ⟨_, rfl⟩
  have hI := h.I
  have hI2 : sI T := by
    rw [hT]
    exact (((((((((hI.u 3 0 0 (fun z => absurd z (by decide))).u 4 _ a (fun _ => show 0 ≤ a ∧ a ≤ 255 by omega)).u 5 _ b (fun _ => show 0 ≤ b ∧ b ≤ 100000 by omega)).u 6 _ c (fun _ => show 0 ≤ c ∧ c ≤ 100000 by omega)).u 7 _ 0 (fun _ => show (0 : Int) ≤ 0 ∧ (0 : Int) ≤ 100000 by omega)).u 8 _ 0 (fun _ => show (0 : Int) ≤ 0 ∧ (0 : Int) ≤ 100000 by omega)).u 9 _ z (fun _ => show 0 ≤ z ∧ z ≤ 3 by omega)).u 10 _ 1 (fun _ => show (0 : Int) ≤ 1 ∧ (1 : Int) ≤ 1 by omega)).u 11 _ (-1) (fun _ => show (-1 : Int) ≤ -1 ∧ (-1 : Int) ≤ 15 by omega)).u 0 0 _ (fun z => absurd z (by decide))
  have t0 : T 0 0 = S 0 0 + 1 := by rw [hT]; exact sU_same
  have tn : ∀ f i, ¬ (4 ≤ f ∧ f ≤ 11 ∧ i = S 0 0) → f ≠ 3 → f ≠ 0 → T f i = S f i := by
    intro f i h1 h2 h3
    rw [hT]
    unfold sU
    rw [if_neg (fun z => h3 z.1), if_neg (fun z => h1 ⟨by omega, by omega, z.2⟩), if_neg (fun z => h1 ⟨by omega, by omega, z.2⟩), if_neg (fun z => h1 ⟨by omega, by omega, z.2⟩), if_neg (fun z => h1 ⟨by omega, by omega, z.2⟩), if_neg (fun z => h1 ⟨by omega, by omega, z.2⟩), if_neg (fun z => h1 ⟨by omega, by omega, z.2⟩), if_neg (fun z => h1 ⟨by omega, by omega, z.2⟩), if_neg (fun z => h1 ⟨by omega, by omega, z.2⟩), if_neg (fun z => h2 z.1)]
  have u4 : T 4 (S 0 0) = a := by rw [hT]; simp [sU]
  have u5 : T 5 (S 0 0) = b := by rw [hT]; simp [sU]
  have u6 : T 6 (S 0 0) = c := by rw [hT]; simp [sU]
  have u7 : T 7 (S 0 0) = 0 := by rw [hT]; simp [sU]
  have u8 : T 8 (S 0 0) = 0 := by rw [hT]; simp [sU]
  have u9 : T 9 (S 0 0) = z := by rw [hT]; simp [sU]
  have u10 : T 10 (S 0 0) = 1 := by rw [hT]; simp [sU]
  have u11 : T 11 (S 0 0) = -1 := by rw [hT]; simp [sU]
  rw [← hT]
  clear hT
  obtain ⟨hn, hN, _, hP, hK, hB, hW, hV⟩ := h
  have w1 : T 1 0 = S 1 0 := tn 1 0 (by omega) (by decide) (by decide)
  have w2 : T 2 0 = S 2 0 := tn 2 0 (by omega) (by decide) (by decide)
  have w21 : T 21 0 = S 21 0 := tn 21 0 (by omega) (by decide) (by decide)
  refine ⟨⟨by rw [h33, t0], ?_, ?_, ?_⟩, ⟨?_, ?_, ?_, ?_⟩, hI2, fun q hq => ?_, fun u hu => ?_, fun q u hq hu => ?_, fun i hi => ?_, fun s hs => ?_⟩
  · rw [hD 34 0 (by omega) (by decide), w1]; exact hn.2.1
  · rw [hD 31 0 (by omega) (by decide), w2]; exact hn.2.2.1
  · rw [hD 32 0 (by omega) (by decide), w21]; exact hn.2.2.2
  · rw [t0]; omega
  · rw [w1]; exact hN.2.1
  · rw [w2]; exact hN.2.2.1
  · rw [w21]; exact hN.2.2.2
  · rw [t0] at hq
    by_cases e : q = S 0 0
    · rw [e]
      unfold rlP
      rw [v0, v1, v2, v3, v4, v5, v6, v7, v8, v9, v10, u4, u5, u6, u7, u8, u9, u10, u11, w2]
      refine ⟨⟨rfl, rfl, rfl, rfl, rfl, rfl, rfl⟩, .inr ⟨rfl, rfl, Int.le_refl _⟩, fun _ _ => by omega, by omega, fun z => absurd rfl z, by omega⟩
    · have hq2 : 0 ≤ q ∧ q < S 0 0 := by omega
      have hh := hP q hq2
      have hd : ∀ f, f ≤ 13 → D2 f q = D f q := fun f hf => hD f q (fun z => e z.2) (by omega)
      have ht : ∀ f, f ≠ 3 → f ≠ 0 → T f q = S f q := fun f h3 h0 => tn f q (fun z => e z.2.2) h3 h0
      have hs11 : ∀ f, 12 ≤ f → T f (S 11 q) = S f (S 11 q) := fun f hf => tn f _ (by omega) (by omega) (by omega)
      unfold rlP
      rw [hd 0 (by decide), hd 1 (by decide), hd 2 (by decide), hd 3 (by decide), hd 4 (by decide), hd 5 (by decide), hd 6 (by decide), hd 7 (by decide), hd 8 (by decide), hd 9 (by decide), hd 10 (by decide), ht 4 (by decide) (by decide), ht 5 (by decide) (by decide), ht 6 (by decide) (by decide), ht 7 (by decide) (by decide), ht 8 (by decide) (by decide), ht 9 (by decide) (by decide), ht 10 (by decide) (by decide), ht 11 (by decide) (by decide), w1, w2, hs11 13 (by decide), hs11 19 (by decide), hs11 20 (by decide), hs11 15 (by decide)]
      exact hh
  · rw [w1] at hu
    obtain ⟨b1, b2, b3⟩ := hK u hu
    have hd : ∀ f, 20 ≤ f → f ≤ 27 → D2 f u = D f u := fun f h1 h2 => hD f u (by omega) (by omega)
    have ht : ∀ f, 12 ≤ f → T f u = S f u := fun f hf => tn f u (by omega) (by omega) (by omega)
    unfold rlK
    rw [hd 20 (by decide) (by decide), hd 21 (by decide) (by decide), hd 22 (by decide) (by decide), hd 23 (by decide) (by decide), hd 24 (by decide) (by decide), hd 25 (by decide) (by decide), hd 26 (by decide) (by decide), hd 27 (by decide) (by decide), ht 14 (by decide), ht 15 (by decide), ht 16 (by decide), ht 17 (by decide), ht 13 (by decide), ht 19 (by decide), ht 20 (by decide), t0]
    exact ⟨b1, b2, by omega⟩
  · obtain ⟨b1, b2, b3⟩ := hB q u hq hu
    rw [t0, w1, tn 18 u (by omega) (by decide) (by decide)]
    by_cases e : q = S 0 0
    · rw [e, v10]
      refine ⟨fun _ z2 => ?_, fun _ _ => sBit_0 u, fun _ z => by omega⟩
      rw [sBit_0]
      rw [e] at b3
      exact (b3 z2 (Int.le_refl _)).symm
    · rw [hD 10 q (fun z => e z.2) (by decide)]
      refine ⟨fun z1 z2 => b1 (by omega) z2, fun z1 z2 => b2 (by omega) z2, fun z1 z2 => b3 z1 (by omega)⟩
  · rw [hD 30 i (by omega) (by decide), tn 12 i (by omega) (by decide) (by decide)]
    exact hW i hi
  · rw [hD 43 s (by omega) (by decide)]
    exact hV s hs
theorem keep_task {S D D2 : mS} {a b c z : Int} (h : rl S D) (hn4 : S 1 0 < 16) (ha : 0 ≤ a ∧ a ≤ 7) (hb : 1 ≤ b ∧ b ≤ 5000) (hc : 0 ≤ c ∧ c ≤ 100000) (hz : 0 ≤ z ∧ z ≤ 3)
    (hD : ∀ f i, ¬ (20 ≤ f ∧ f ≤ 27 ∧ i = S 1 0) → f ≠ 34 → D2 f i = D f i) (h34 : D2 34 0 = S 1 0 + 1) (v0 : D2 20 (S 1 0) = S 1 0) (v1 : D2 21 (S 1 0) = a) (v2 : D2 22 (S 1 0) = b) (v3 : D2 23 (S 1 0) = c) (v4 : D2 24 (S 1 0) = z) (v5 : D2 25 (S 1 0) = 0) (v6 : D2 26 (S 1 0) = -1) (v7 : D2 27 (S 1 0) = -1) :
    rl (sU (sU (sU (sU (sU (sU (sU (sU (sU (sU S 3 0 0) 13 (S 1 0) 0) 14 (S 1 0) a) 15 (S 1 0) b) 16 (S 1 0) c) 17 (S 1 0) z) 18 (S 1 0) 0) 19 (S 1 0) (-1)) 20 (S 1 0) (-1)) 1 0 (S 1 0 + 1)) D2 := by
  obtain ⟨T, hT⟩ : ∃ T, T = sU (sU (sU (sU (sU (sU (sU (sU (sU (sU S 3 0 0) 13 (S 1 0) 0) 14 (S 1 0) a) 15 (S 1 0) b) 16 (S 1 0) c) 17 (S 1 0) z) 18 (S 1 0) 0) 19 (S 1 0) (-1)) 20 (S 1 0) (-1)) 1 0 (S 1 0 + 1) := ⟨_, rfl⟩
  have hI := h.I
  have hI2 : sI T := by
    rw [hT]
    exact (((((((((hI.u 3 0 0 (fun z => absurd z (by decide))).u 13 _ 0 (fun _ => show (0 : Int) ≤ 0 ∧ (0 : Int) ≤ 2 by omega)).u 14 _ a (fun _ => show 0 ≤ a ∧ a ≤ 7 by omega)).u 15 _ b (fun _ => show 0 ≤ b ∧ b ≤ 5000 by omega)).u 16 _ c (fun _ => show 0 ≤ c ∧ c ≤ 100000 by omega)).u 17 _ z (fun _ => show 0 ≤ z ∧ z ≤ 3 by omega)).u 18 _ 0 (fun _ => show (0 : Int) ≤ 0 ∧ (0 : Int) ≤ 15 by omega)).u 19 _ (-1) (fun _ => show (-1 : Int) ≤ -1 ∧ (-1 : Int) ≤ 3 by omega)).u 20 _ (-1) (fun _ => show (-1 : Int) ≤ -1 ∧ (-1 : Int) ≤ 100000 by omega)).u 1 0 _ (fun z => absurd z (by decide))
  have t0 : T 1 0 = S 1 0 + 1 := by rw [hT]; exact sU_same
  have tn : ∀ f i, ¬ (13 ≤ f ∧ f ≤ 20 ∧ i = S 1 0) → f ≠ 3 → f ≠ 1 → T f i = S f i := by
    intro f i h1 h2 h3
    rw [hT]
    unfold sU
    rw [if_neg (fun z => h3 z.1), if_neg (fun z => h1 ⟨by omega, by omega, z.2⟩), if_neg (fun z => h1 ⟨by omega, by omega, z.2⟩), if_neg (fun z => h1 ⟨by omega, by omega, z.2⟩), if_neg (fun z => h1 ⟨by omega, by omega, z.2⟩), if_neg (fun z => h1 ⟨by omega, by omega, z.2⟩), if_neg (fun z => h1 ⟨by omega, by omega, z.2⟩), if_neg (fun z => h1 ⟨by omega, by omega, z.2⟩), if_neg (fun z => h1 ⟨by omega, by omega, z.2⟩), if_neg (fun z => h2 z.1)]
  have u4 : T 13 (S 1 0) = 0 := by rw [hT]; simp [sU]
  have u5 : T 14 (S 1 0) = a := by rw [hT]; simp [sU]
  have u6 : T 15 (S 1 0) = b := by rw [hT]; simp [sU]
  have u7 : T 16 (S 1 0) = c := by rw [hT]; simp [sU]
  have u8 : T 17 (S 1 0) = z := by rw [hT]; simp [sU]
  have u9 : T 18 (S 1 0) = 0 := by rw [hT]; simp [sU]
  have u10 : T 19 (S 1 0) = -1 := by rw [hT]; simp [sU]
  have u11 : T 20 (S 1 0) = -1 := by rw [hT]; simp [sU]
  rw [← hT]
  clear hT
  obtain ⟨hn, hN, _, hP, hK, hB, hW, hV⟩ := h
  have w0 : T 0 0 = S 0 0 := tn 0 0 (by omega) (by decide) (by decide)
  have w2 : T 2 0 = S 2 0 := tn 2 0 (by omega) (by decide) (by decide)
  have w21 : T 21 0 = S 21 0 := tn 21 0 (by omega) (by decide) (by decide)
  refine ⟨⟨?_, by rw [h34, t0], ?_, ?_⟩, ⟨?_, ?_, ?_, ?_⟩, hI2, fun q hq => ?_, fun u hu => ?_, fun q u hq hu => ?_, fun i hi => ?_, fun s hs => ?_⟩
  · rw [hD 33 0 (by omega) (by decide), w0]; exact hn.1
  · rw [hD 31 0 (by omega) (by decide), w2]; exact hn.2.2.1
  · rw [hD 32 0 (by omega) (by decide), w21]; exact hn.2.2.2
  · rw [w0]; exact hN.1
  · rw [t0]; omega
  · rw [w2]; exact hN.2.2.1
  · rw [w21]; exact hN.2.2.2
  · rw [w0] at hq
    obtain ⟨b1, b2, b3, b4, b5, b6⟩ := hP q hq
    have hd : ∀ f, f ≤ 13 → D2 f q = D f q := fun f hf => hD f q (by omega) (by omega)
    have ht : ∀ f, 4 ≤ f → f ≤ 11 → T f q = S f q := fun f h3 h0 => tn f q (by omega) (by omega) (by omega)
    unfold rlP
    rw [hd 0 (by decide), hd 1 (by decide), hd 2 (by decide), hd 3 (by decide), hd 4 (by decide), hd 5 (by decide), hd 6 (by decide), hd 7 (by decide), hd 8 (by decide), hd 9 (by decide), hd 10 (by decide), ht 4 (by decide) (by decide), ht 5 (by decide) (by decide), ht 6 (by decide) (by decide), ht 7 (by decide) (by decide), ht 8 (by decide) (by decide), ht 9 (by decide) (by decide), ht 10 (by decide) (by decide), ht 11 (by decide) (by decide), t0, w2]
    refine ⟨b1, b2, b3, b4, fun z => ?_, b6⟩
    have b5 := b5 z
    have hne : S 11 q ≠ S 1 0 := by omega
    rw [tn 13 _ (fun z => hne z.2.2) (by decide) (by decide), tn 19 _ (fun z => hne z.2.2) (by decide) (by decide), tn 20 _ (fun z => hne z.2.2) (by decide) (by decide), tn 15 _ (fun z => hne z.2.2) (by decide) (by decide)]
    exact ⟨b5.1, by omega, b5.2.2⟩
  · rw [t0] at hu
    by_cases e : u = S 1 0
    · rw [e]
      unfold rlK
      rw [v0, v1, v2, v3, v4, v5, v6, v7, u4, u5, u6, u7, u8, u10, u11, w0]
      exact ⟨⟨rfl, rfl, rfl, rfl, rfl, rfl, rfl, rfl⟩, by omega, by omega⟩
    · have hh := hK u (by omega)
      have hd : ∀ f, 20 ≤ f → f ≤ 27 → D2 f u = D f u := fun f h1 h2 => hD f u (fun z => e z.2.2) (by omega)
      have ht : ∀ f, 12 ≤ f → T f u = S f u := fun f hf => tn f u (fun z => e z.2.2) (by omega) (by omega)
      unfold rlK
      rw [hd 20 (by decide) (by decide), hd 21 (by decide) (by decide), hd 22 (by decide) (by decide), hd 23 (by decide) (by decide), hd 24 (by decide) (by decide), hd 25 (by decide) (by decide), hd 26 (by decide) (by decide), hd 27 (by decide) (by decide), ht 14 (by decide), ht 15 (by decide), ht 16 (by decide), ht 17 (by decide), ht 13 (by decide), ht 19 (by decide), ht 20 (by decide), w0]
      exact hh
  · obtain ⟨b1, b2, b3⟩ := hB q u hq hu
    rw [t0, w0, hD 10 q (by omega) (by decide)]
    by_cases e : u = S 1 0
    · rw [e, u9]
      rw [e] at b2
      refine ⟨fun z1 _ => ?_, fun _ z => by omega, fun _ _ => sBit_0 q⟩
      rw [sBit_0]
      exact b2 z1 (Int.le_refl _)
    · rw [tn 18 u (fun z => e z.2.2) (by decide) (by decide)]
      refine ⟨fun z1 z2 => b1 z1 (by omega), fun z1 z2 => b2 z1 (by omega), fun z1 z2 => b3 (by omega) z2⟩
  · rw [hD 30 i (by omega) (by decide), tn 12 i (by omega) (by decide) (by decide)]
    exact hW i hi
  · rw [hD 43 s (by omega) (by decide)]
    exact hV s hs
