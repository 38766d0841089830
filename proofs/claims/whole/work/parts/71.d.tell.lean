/-! 71.d: telling the plan person by person -/
theorem keep_plan {S D : mS} {t q s : Int} (h : rl S D) (ht : 0 ≤ t ∧ t < S 1 0) (h13 : S 13 t = 0) (hq : -1 ≤ q ∧ q < S 0 0) (hs : -1 ≤ s ∧ s ≤ 100000) : rl (sU (sU S 19 t q) 20 t s) (sU (sU D 26 t q) 27 t s) := by
  have hI := h.I
  have hN0 := h.2.1
  obtain ⟨hn, hN, _, hP, hK, hB, hW, hV⟩ := h
  refine ⟨hn, hN, (hI.u 19 t q (fun _ => show -1 ≤ q ∧ q ≤ 3 by omega)).u 20 t s (fun _ => show -1 ≤ s ∧ s ≤ 100000 by omega), fun p hp => ?_, fun u hu => ?_, hB, hW, hV⟩
  · obtain ⟨b1, b2, b3, b4, b5, b6⟩ := hP p hp
    refine ⟨b1, b2, b3, b4, fun z => ?_, b6⟩
    have b5 := b5 z
    have hne : S 11 p ≠ t := fun y => by
      have := b5.2.2.1
      rw [y] at this
      omega
    have z2 : sU (sU S 19 t q) 20 t s 19 (S 11 p) = S 19 (S 11 p) := by rw [sU_f (by decide), sU_i hne]
    have z3 : sU (sU S 19 t q) 20 t s 20 (S 11 p) = S 20 (S 11 p) := by rw [sU_i hne, sU_f (by decide)]
    show S 10 p = 1 ∧ S 11 p < S 1 0 ∧ S 13 (S 11 p) = 1 ∧ sU (sU S 19 t q) 20 t s 19 (S 11 p) = p ∧ D 9 p = sU (sU S 19 t q) 20 t s 20 (S 11 p) + S 15 (S 11 p)
    rw [z2, z3]
    exact b5
  · obtain ⟨⟨c0, c1, c2, c3, c4, c5, c6, c7⟩, b2, b3⟩ := hK u hu
    by_cases e : u = t
    · subst e
      have y2 : sU (sU S 19 u q) 20 u s 19 u = q := by rw [sU_f (by decide), sU_same]
      have y3 : sU (sU S 19 u q) 20 u s 20 u = s := sU_same
      have x2 : sU (sU D 26 u q) 27 u s 26 u = q := by rw [sU_f (by decide), sU_same]
      have x3 : sU (sU D 26 u q) 27 u s 27 u = s := sU_same
      refine ⟨⟨c0, c1, c2, c3, c4, c5, ?_, ?_⟩, b2, ?_⟩
      · rw [x2, y2]
      · rw [x3, y3]
      · rw [y2]; exact hq.2
    · have y2 : sU (sU S 19 t q) 20 t s 19 u = S 19 u := by rw [sU_f (by decide), sU_i e]
      have y3 : sU (sU S 19 t q) 20 t s 20 u = S 20 u := by rw [sU_i e, sU_f (by decide)]
      have x2 : sU (sU D 26 t q) 27 t s 26 u = D 26 u := by rw [sU_f (by decide), sU_i e]
      have x3 : sU (sU D 26 t q) 27 t s 27 u = D 27 u := by rw [sU_i e, sU_f (by decide)]
      refine ⟨⟨c0, c1, c2, c3, c4, c5, ?_, ?_⟩, b2, ?_⟩
      · rw [x2, y2]; exact c6
      · rw [x3, y3]; exact c7
      · rw [y2]; exact b3
theorem keep_exact {S D : mS} {x : Int} (h : rl S D) (hx : x = 0 ∨ x = 1) : rl (sU S 21 0 x) (sU D 32 0 x) := by
  have hI := h.I
  obtain ⟨hn, hN, _, hP, hK, hB, hW, hV⟩ := h
  refine ⟨⟨hn.1, hn.2.1, hn.2.2.1, rfl⟩, ⟨hN.1, hN.2.1, hN.2.2.1, hx⟩, hI.u 21 0 x (fun z => absurd z (by decide)), hP, hK, hB, hW, hV⟩
def gT1 (few : Int → Int) (tk : Int) (st : Int → Int) (q : Int) (T : mS) (k : Int) : mS := if sBit tk k = 1 then sU (sU T 19 (few k) q) 20 (few k) (st k) else T
def gT2 (few : Int → Int) (tk : Int → Int) (st : Int → Int → Int) (n : Int) (T : mS) (q : Int) : mS := sFor (gT1 few (tk q) (st q) q) T n
section TELL
variable {few : Int → Int} {n m : Int} {S : mS}
theorem gT1_ne {tk q : Int} {st : Int → Int} {T : mS} {k : Int} {g : Nat} (h1 : g ≠ 19) (h2 : g ≠ 20) : gT1 few tk st q T k g = T g := by
  unfold gT1
  split
  · rw [sU_ne h2, sU_ne h1]
  · rfl
theorem tell1_ne {tk q : Int} {st : Int → Int} {T : mS} {k : Int} {g : Nat} (h1 : g ≠ 19) (h2 : g ≠ 20) : sFor (gT1 few tk st q) T k g = T g :=
  sFor_ind (P := fun (U : mS) => U g = T g) rfl (fun U t _ h => (gT1_ne h1 h2).trans h)
theorem tell2_ne {tk : Int → Int} {st : Int → Int → Int} {T : mS} {q : Int} {g : Nat} (h1 : g ≠ 19) (h2 : g ≠ 20) : sFor (gT2 few tk st n) T q g = T g :=
  sFor_ind (P := fun (U : mS) => U g = T g) rfl (fun U t _ h => (tell1_ne h1 h2).trans h)
/-- one person's tasks -/
theorem tell1_at {tk q : Int} {st : Int → Int} {T : mS} (hinj : ∀ i j, 0 ≤ i ∧ i < n → 0 ≤ j ∧ j < n → few i = few j → i = j) : ∀ k : Nat, (k : Int) ≤ n → (∀ j, 0 ≤ j ∧ j < n → sForN (gT1 few tk st q) T k 19 (few j) = (if j < k ∧ sBit tk j = 1 then q else T 19 (few j)) ∧ sForN (gT1 few tk st q) T k 20 (few j) = (if j < k ∧ sBit tk j = 1 then st j else T 20 (few j))) ∧ ∀ u, (∀ j, 0 ≤ j ∧ j < n → few j ≠ u) → sForN (gT1 few tk st q) T k 19 u = T 19 u ∧ sForN (gT1 few tk st q) T k 20 u = T 20 u := by
  intro k
  induction k with
  | zero => intro _; exact ⟨fun j hj => ⟨by rw [if_neg (by omega)]; rfl, by rw [if_neg (by omega)]; rfl⟩, fun u _ => ⟨rfl, rfl⟩⟩
  | succ k ih =>
    intro hk
    obtain ⟨i1, i2⟩ := ih (by omega)
    show (∀ j, 0 ≤ j ∧ j < n → gT1 few tk st q (sForN (gT1 few tk st q) T k) k 19 (few j) = (if j < ((k + 1 : Nat) : Int) ∧ sBit tk j = 1 then q else T 19 (few j)) ∧ gT1 few tk st q (sForN (gT1 few tk st q) T k) k 20 (few j) = (if j < ((k + 1 : Nat) : Int) ∧ sBit tk j = 1 then st j else T 20 (few j))) ∧ ∀ u, (∀ j, 0 ≤ j ∧ j < n → few j ≠ u) → gT1 few tk st q (sForN (gT1 few tk st q) T k) k 19 u = T 19 u ∧ gT1 few tk st q (sForN (gT1 few tk st q) T k) k 20 u = T 20 u
    generalize sForN (gT1 few tk st q) T k = U at i1 i2
    unfold gT1
    by_cases hb : sBit tk k = 1
    · rw [if_pos hb]
      refine ⟨fun j hj => ?_, fun u hu => ?_⟩
      · by_cases e : j = k
        · subst e
          rw [if_pos ⟨by omega, hb⟩, if_pos ⟨by omega, hb⟩, sU_f (by decide), sU_same, sU_same]
          exact ⟨rfl, rfl⟩
        · have hne : few j ≠ few k := fun z => e (hinj j k hj (by omega) z)
          obtain ⟨a1, a2⟩ := i1 j hj
          rw [sU_f (by decide), sU_i hne, sU_i hne, sU_f (by decide), a1, a2]
          by_cases c : j < k ∧ sBit tk j = 1
          · rw [if_pos c, if_pos c, if_pos ⟨by omega, c.2⟩, if_pos ⟨by omega, c.2⟩]; exact ⟨rfl, rfl⟩
          · rw [if_neg c, if_neg c, if_neg (fun z => c ⟨by omega, z.2⟩), if_neg (fun z => c ⟨by omega, z.2⟩)]; exact ⟨rfl, rfl⟩
      · have hne : u ≠ few k := fun z => hu k (by omega) z.symm
        obtain ⟨a1, a2⟩ := i2 u hu
        rw [sU_f (by decide), sU_i hne, sU_i hne, sU_f (by decide)]
        exact ⟨a1, a2⟩
    · rw [if_neg hb]
      refine ⟨fun j hj => ?_, i2⟩
      obtain ⟨a1, a2⟩ := i1 j hj
      rw [a1, a2]
      by_cases c : j < k ∧ sBit tk j = 1
      · rw [if_pos c, if_pos c, if_pos ⟨by omega, c.2⟩, if_pos ⟨by omega, c.2⟩]; exact ⟨rfl, rfl⟩
      · have c2 : ¬ (j < ((k + 1 : Nat) : Int) ∧ sBit tk j = 1) := fun z => by
          by_cases e : j = k
          · rw [e] at z; exact hb z.2
          · exact c ⟨by omega, z.2⟩
        rw [if_neg c, if_neg c, if_neg c2, if_neg c2]; exact ⟨rfl, rfl⟩
theorem tell2_at {tk : Int → Int} {st : Int → Int → Int} {T : mS} {c : Int → Int} (hn : 0 ≤ n) (hinj : ∀ i j, 0 ≤ i ∧ i < n → 0 ≤ j ∧ j < n → few i = few j → i = j) (hc : ∀ q j, 0 ≤ q ∧ q < m → 0 ≤ j ∧ j < n → (sBit (tk q) j = 1 ↔ c j = q)) (hc0 : ∀ j, 0 ≤ j ∧ j < n → 0 ≤ c j) : ∀ q : Nat, (q : Int) ≤ m → (∀ j, 0 ≤ j ∧ j < n → sForN (gT2 few tk st n) T q 19 (few j) = (if c j < q then c j else T 19 (few j)) ∧ sForN (gT2 few tk st n) T q 20 (few j) = (if c j < q then st (c j) j else T 20 (few j))) ∧ ∀ u, (∀ j, 0 ≤ j ∧ j < n → few j ≠ u) → sForN (gT2 few tk st n) T q 19 u = T 19 u ∧ sForN (gT2 few tk st n) T q 20 u = T 20 u := by
  intro q
  induction q with
  | zero => intro _; exact ⟨fun j hj => by have := hc0 j hj; exact ⟨by rw [if_neg (by omega)]; rfl, by rw [if_neg (by omega)]; rfl⟩, fun u _ => ⟨rfl, rfl⟩⟩
  | succ q ih =>
    intro hq
    obtain ⟨i1, i2⟩ := ih (by omega)
    show (∀ j, 0 ≤ j ∧ j < n → gT2 few tk st n (sForN (gT2 few tk st n) T q) q 19 (few j) = (if c j < ((q + 1 : Nat) : Int) then c j else T 19 (few j)) ∧ gT2 few tk st n (sForN (gT2 few tk st n) T q) q 20 (few j) = (if c j < ((q + 1 : Nat) : Int) then st (c j) j else T 20 (few j))) ∧ ∀ u, (∀ j, 0 ≤ j ∧ j < n → few j ≠ u) → gT2 few tk st n (sForN (gT2 few tk st n) T q) q 19 u = T 19 u ∧ gT2 few tk st n (sForN (gT2 few tk st n) T q) q 20 u = T 20 u
    generalize sForN (gT2 few tk st n) T q = U at i1 i2
    obtain ⟨b1, b2⟩ := tell1_at (few := few) (n := n) (tk := tk q) (q := q) (st := st q) (T := U) hinj n.toNat (by omega)
    have e : ∀ g u, sForN (gT1 few (tk q) (st q) q) U n.toNat g u = gT2 few tk st n U q g u := fun _ _ => rfl
    refine ⟨fun j hj => ?_, fun u hu => ?_⟩
    · obtain ⟨a1, a2⟩ := i1 j hj
      obtain ⟨d1, d2⟩ := b1 j hj
      rw [← e, ← e, d1, d2]
      have hcq := hc q j (by omega) hj
      by_cases z : c j = q
      · have hb := hcq.mpr z
        have y1 : j < (n.toNat : Int) ∧ sBit (tk q) j = 1 := ⟨by omega, hb⟩
        have y2 : c j < ((q + 1 : Nat) : Int) := by omega
        rw [if_pos y1, if_pos y1, if_pos y2, if_pos y2, z]
        exact ⟨rfl, rfl⟩
      · have hb : ¬ sBit (tk q) j = 1 := fun y => z (hcq.mp y)
        rw [if_neg (show ¬ (j < (n.toNat : Int) ∧ sBit (tk q) j = 1) from fun y => hb y.2), if_neg (show ¬ (j < (n.toNat : Int) ∧ sBit (tk q) j = 1) from fun y => hb y.2), a1, a2]
        by_cases y : c j < q
        · have y2 : c j < ((q + 1 : Nat) : Int) := by omega
          rw [if_pos y, if_pos y, if_pos y2, if_pos y2]; exact ⟨rfl, rfl⟩
        · have y2 : ¬ c j < ((q + 1 : Nat) : Int) := by omega
          rw [if_neg y, if_neg y, if_neg y2, if_neg y2]; exact ⟨rfl, rfl⟩
    · obtain ⟨d1, d2⟩ := b2 u hu
      obtain ⟨a1, a2⟩ := i2 u hu
      rw [← e, ← e, d1, d2]
      exact ⟨a1, a2⟩
theorem tellR_at {b c : Int → Int} {T : mS} (h22 : ∀ k, T 22 k = few k) (hinj : ∀ i j, 0 ≤ i ∧ i < n → 0 ≤ j ∧ j < n → few i = few j → i = j) : ∀ k : Nat, (k : Int) ≤ n → (∀ j, 0 ≤ j ∧ j < n → sForN (gTell m b c) T k 19 (few j) = (if j < k ∧ b j < m then b j else T 19 (few j)) ∧ sForN (gTell m b c) T k 20 (few j) = (if j < k ∧ b j < m then c j else T 20 (few j))) ∧ ∀ u, (∀ j, 0 ≤ j ∧ j < n → few j ≠ u) → sForN (gTell m b c) T k 19 u = T 19 u ∧ sForN (gTell m b c) T k 20 u = T 20 u := by
  intro k
  induction k with
  | zero => intro _; exact ⟨fun j hj => ⟨by rw [if_neg (by omega)]; rfl, by rw [if_neg (by omega)]; rfl⟩, fun u _ => ⟨rfl, rfl⟩⟩
  | succ k ih =>
    intro hk
    obtain ⟨i1, i2⟩ := ih (by omega)
    have hf : sForN (gTell m b c) T k 22 k = few k := by
      have : sFor (gTell m b c) T k 22 = T 22 := tell_ne (by decide) (by decide)
      have e : sForN (gTell m b c) T k = sFor (gTell m b c) T k := rfl
      rw [e, this, h22]
    show (∀ j, 0 ≤ j ∧ j < n → gTell m b c (sForN (gTell m b c) T k) k 19 (few j) = (if j < ((k + 1 : Nat) : Int) ∧ b j < m then b j else T 19 (few j)) ∧ gTell m b c (sForN (gTell m b c) T k) k 20 (few j) = (if j < ((k + 1 : Nat) : Int) ∧ b j < m then c j else T 20 (few j))) ∧ ∀ u, (∀ j, 0 ≤ j ∧ j < n → few j ≠ u) → gTell m b c (sForN (gTell m b c) T k) k 19 u = T 19 u ∧ gTell m b c (sForN (gTell m b c) T k) k 20 u = T 20 u
    generalize sForN (gTell m b c) T k = U at i1 i2 hf
    unfold gTell
    rw [hf]
    by_cases hb : b k < m
    · rw [if_pos hb]
      refine ⟨fun j hj => ?_, fun u hu => ?_⟩
      · by_cases e : j = k
        · subst e
          rw [if_pos ⟨by omega, hb⟩, if_pos ⟨by omega, hb⟩, sU_f (by decide), sU_same, sU_same]
          exact ⟨rfl, rfl⟩
        · have hne : few j ≠ few k := fun z => e (hinj j k hj (by omega) z)
          obtain ⟨a1, a2⟩ := i1 j hj
          rw [sU_f (by decide), sU_i hne, sU_i hne, sU_f (by decide), a1, a2]
          by_cases c : j < k ∧ b j < m
          · rw [if_pos c, if_pos c, if_pos ⟨by omega, c.2⟩, if_pos ⟨by omega, c.2⟩]; exact ⟨rfl, rfl⟩
          · rw [if_neg c, if_neg c, if_neg (fun z => c ⟨by omega, z.2⟩), if_neg (fun z => c ⟨by omega, z.2⟩)]; exact ⟨rfl, rfl⟩
      · have hne : u ≠ few k := fun z => hu k (by omega) z.symm
        obtain ⟨a1, a2⟩ := i2 u hu
        rw [sU_f (by decide), sU_i hne, sU_i hne, sU_f (by decide)]
        exact ⟨a1, a2⟩
    · rw [if_neg hb]
      refine ⟨fun j hj => ?_, i2⟩
      obtain ⟨a1, a2⟩ := i1 j hj
      rw [a1, a2]
      by_cases c : j < k ∧ b j < m
      · rw [if_pos c, if_pos c, if_pos ⟨by omega, c.2⟩, if_pos ⟨by omega, c.2⟩]; exact ⟨rfl, rfl⟩
      · have c2 : ¬ (j < ((k + 1 : Nat) : Int) ∧ b j < m) := fun z => by
          by_cases e : j = k
          · rw [e] at z; exact hb z.2
          · exact c ⟨by omega, z.2⟩
        rw [if_neg c, if_neg c, if_neg c2, if_neg c2]; exact ⟨rfl, rfl⟩
/-- person by person or task by task: the same plan -/
theorem tell_same {tk : Int → Int} {st : Int → Int → Int} {T : mS} {b c : Int → Int} (hn : 0 ≤ n) (hm : 0 ≤ m) (h22 : ∀ k, T 22 k = few k) (hinj : ∀ i j, 0 ≤ i ∧ i < n → 0 ≤ j ∧ j < n → few i = few j → i = j) (hb : ∀ q j, 0 ≤ q ∧ q < m → 0 ≤ j ∧ j < n → (sBit (tk q) j = 1 ↔ b j = q)) (hb0 : ∀ j, 0 ≤ j ∧ j < n → 0 ≤ b j) (hs : ∀ j, 0 ≤ j ∧ j < n → b j < m → st (b j) j = c j) : sFor (gT2 few tk st n) T m = sFor (gTell m b c) T n := by
  obtain ⟨a1, a2⟩ := tell2_at (few := few) (n := n) (m := m) (T := T) (st := st) hn hinj hb hb0 m.toNat (by omega)
  obtain ⟨d1, d2⟩ := tellR_at (few := few) (n := n) (m := m) (b := b) (c := c) (T := T) h22 hinj n.toNat (by omega)
  have e1 : sForN (gT2 few tk st n) T m.toNat = sFor (gT2 few tk st n) T m := rfl
  have e2 : sForN (gTell m b c) T n.toNat = sFor (gTell m b c) T n := rfl
  rw [e1] at a1 a2
  rw [e2] at d1 d2
  rw [Int.toNat_of_nonneg hm] at a1
  rw [Int.toNat_of_nonneg hn] at d1
  funext g u
  by_cases g1 : g = 19
  · subst g1
    by_cases hu : ∃ j, (0 ≤ j ∧ j < n) ∧ few j = u
    · obtain ⟨j, hj, rfl⟩ := hu
      rw [(a1 j hj).1, (d1 j hj).1]
      by_cases z : b j < m
      · rw [if_pos z, if_pos ⟨hj.2, z⟩]
      · rw [if_neg z, if_neg (fun y => z y.2)]
    · have hu2 : ∀ j, 0 ≤ j ∧ j < n → few j ≠ u := fun j hj z => hu ⟨j, hj, z⟩
      rw [(a2 u hu2).1, (d2 u hu2).1]
  · by_cases g2 : g = 20
    · subst g2
      by_cases hu : ∃ j, (0 ≤ j ∧ j < n) ∧ few j = u
      · obtain ⟨j, hj, rfl⟩ := hu
        rw [(a1 j hj).2, (d1 j hj).2]
        by_cases z : b j < m
        · rw [if_pos z, if_pos ⟨hj.2, z⟩, hs j hj z]
        · rw [if_neg z, if_neg (fun y => z y.2)]
      · have hu2 : ∀ j, 0 ≤ j ∧ j < n → few j ≠ u := fun j hj z => hu ⟨j, hj, z⟩
        rw [(a2 u hu2).2, (d2 u hu2).2]
    · rw [tell2_ne g1 g2, tell_ne g1 g2]
end TELL
