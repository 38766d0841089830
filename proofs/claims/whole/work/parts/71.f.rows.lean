/-! 71.f: the rows of the class in the rule's plan -/
def rwR (T D : mS) : Prop := ∀ p, 0 ≤ p ∧ p < T 0 0 → D 13 p = sLoad T p ∧ D 12 p = rZ T p ∧ (T 10 p = 1 → D 11 p = rE T p) ∧ (0 ≤ D 11 p ∧ D 11 p ≤ 110000) ∧ (0 ≤ D 12 p ∧ D 12 p ≤ 3)
theorem fo_spec (S : mS) : ∀ k : Nat, ∀ t, sForN gFo S k 13 t = S 13 t ∧ sForN gFo S k 19 t = (if (0 ≤ t ∧ t < k) ∧ S 13 t = 0 then -1 else S 19 t) ∧ sForN gFo S k 20 t = (if (0 ≤ t ∧ t < k) ∧ S 13 t = 0 then -1 else S 20 t) := by
  intro k
  induction k with
  | zero =>
    intro t
    have : ¬ ((0 ≤ t ∧ t < ((0 : Nat) : Int)) ∧ S 13 t = 0) := by omega
    rw [if_neg this, if_neg this]
    exact ⟨rfl, rfl, rfl⟩
  | succ k ih =>
    intro t
    show gFo (sForN gFo S k) k 13 t = S 13 t ∧ gFo (sForN gFo S k) k 19 t = _ ∧ gFo (sForN gFo S k) k 20 t = _
    obtain ⟨j1, _, _⟩ := ih k
    obtain ⟨i1, i2, i3⟩ := ih t
    generalize sForN gFo S k = T at i1 i2 i3 j1
    by_cases e : t = k
    · subst e
      unfold gFo
      rw [i1]
      have c : ¬ ((0 ≤ (k : Int) ∧ (k : Int) < k) ∧ S 13 k = 0) := by omega
      rw [if_neg c] at i2 i3
      by_cases hc : S 13 k = 0
      · have c2 : (0 ≤ (k : Int) ∧ (k : Int) < ((k + 1 : Nat) : Int)) ∧ S 13 k = 0 := ⟨by omega, hc⟩
        rw [if_pos hc, if_pos c2, if_pos c2]
        unfold oFree
        rw [sU_f (by decide), sU_f (by decide), sU_same, sU_f (by decide), sU_same, sU_same]
        exact ⟨hc.symm, rfl, rfl⟩
      · have c2 : ¬ ((0 ≤ (k : Int) ∧ (k : Int) < ((k + 1 : Nat) : Int)) ∧ S 13 k = 0) := fun z => hc z.2
        rw [if_neg hc, if_neg c2, if_neg c2]
        exact ⟨i1, i2, i3⟩
    · rw [gFo_i _ _ _ e, gFo_i _ _ _ e, gFo_i _ _ _ e, i1, i2, i3]
      have : ((0 ≤ t ∧ t < (k : Int)) ∧ S 13 t = 0) ↔ ((0 ≤ t ∧ t < ((k + 1 : Nat) : Int)) ∧ S 13 t = 0) := by omega
      simp only [this]
      exact ⟨trivial, trivial, trivial⟩
theorem last_none {T : mS} {p : Int} (hT : 0 ≤ T 1 0) (hp : 0 ≤ p) (h : ∀ u, 0 ≤ u ∧ u < T 1 0 → T 13 u = 0 → T 19 u = -1) : sLast T p = -1 := by
  rcases last_spec (S := T) (p := p) hT with ⟨z, _⟩ | ⟨z1, z2, _⟩
  · exact z
  · have := h _ z1 z2.1
    omega
theorem sCnt_sum {P Q R : Int → Bool} {n : Int} (h : ∀ i, 0 ≤ i ∧ i < n → (R i = true ↔ P i = true ∨ Q i = true) ∧ ¬ (P i = true ∧ Q i = true)) : sCnt P n + sCnt Q n = sCnt R n := by
  have key : ∀ k : Nat, (k : Int) ≤ n ∨ k = 0 → sCntN P k + sCntN Q k = sCntN R k := by
    intro k
    induction k with
    | zero => intro _; rfl
    | succ k ih =>
      intro hk
      have h1 := ih (by omega)
      obtain ⟨h2, h3⟩ := h k (by omega)
      show sCntN P k + (if P k = true then 1 else 0) + (sCntN Q k + (if Q k = true then 1 else 0)) = sCntN R k + (if R k = true then 1 else 0)
      by_cases a : P k = true
      · have b : ¬ Q k = true := fun z => h3 ⟨a, z⟩
        rw [if_pos a, if_neg b, if_pos (h2.mpr (.inl a))]; omega
      · by_cases b : Q k = true
        · rw [if_neg a, if_pos b, if_pos (h2.mpr (.inr b))]; omega
        · rw [if_neg a, if_neg b, if_neg (fun z => (h2.mp z).elim a b)]; omega
  exact key n.toNat (by omega)
/-- tasks of p in the state s -/
def sOf (S : mS) (p s : Int) : Int := sCnt (fun i => decide (S 19 i = p ∧ S 13 i = s)) (S 1 0)
theorem load_init {T : mS} {p : Int} (hI : sI T) (hT : 0 ≤ T 1 0 ∧ T 1 0 ≤ 16) (hp : 0 ≤ p) (h : ∀ u, 0 ≤ u ∧ u < T 1 0 → T 13 u = 0 → T 19 u = -1) : sOf T p 1 + sOf T p 2 = sLoad T p := by
  unfold sOf sLoad
  refine sCnt_sum (fun u hu => ?_)
  have r5 : 0 ≤ T 13 u ∧ T 13 u ≤ 2 := hI.r 13 u (n := 16) (by decide) rfl ⟨by omega, by omega⟩
  have hu2 := h u hu
  rw [decide_eq_true_iff, decide_eq_true_iff, decide_eq_true_iff]
  omega
theorem rw_init {T D : mS} (h : rl T D) (ho : ∀ u, 0 ≤ u ∧ u < T 1 0 → T 13 u = 0 → T 19 u = -1) (hD : ∀ p, 0 ≤ p ∧ p < T 0 0 → D 11 p = sGr (D 31 0) (sGr (D 1 p) (D 9 p)) ∧ D 12 p = D 4 p ∧ D 13 p = sOf T p 1 + sOf T p 2) : rwR T D := by
  intro p hp
  obtain ⟨d1, d2, d3⟩ := hD p hp
  have hl := last_none (T := T) (p := p) h.2.1.2.1.1 hp.1 ho
  have hr := h.Pr hp
  have e4 := (h.P hp).1.2.2.2.2.1
  have e7 := (h.P hp).1.2.2.2.2.2.1
  have hN := h.N
  refine ⟨?_, ?_, fun z => ?_, ?_, ?_⟩
  · rw [d3]; exact load_init h.I h.2.1.2.1 hp.1 ho
  · rw [d2, e4]; unfold rZ; rw [if_pos hl]
  · rw [d1, h.ready hp (by omega)]; unfold rE; rw [if_pos hl]
  · rw [d1]; unfold sGr; (repeat' split) <;> omega
  · rw [d2]; omega
theorem rw_step {T D : mS} {t : Int} (h : rl T D) (hw : rwR T D) (ht : 0 ≤ t ∧ t < T 1 0) (h13 : T 13 t = 0) (h19 : T 19 t = -1) (hq : (sOne T t).1 ≠ -1) :
    rl (oOne T t) (sU (sU (sU (sU (sU D 26 t (sOne T t).1) 27 t (sOne T t).2) 11 (sOne T t).1 ((sOne T t).2 + D 22 t)) 12 (sOne T t).1 (D 24 t)) 13 (sOne T t).1 (D 13 (sOne T t).1 + 1)) ∧ rwR (oOne T t) (sU (sU (sU (sU (sU D 26 t (sOne T t).1) 27 t (sOne T t).2) 11 (sOne T t).1 ((sOne T t).2 + D 22 t)) 12 (sOne T t).1 (D 24 t)) 13 (sOne T t).1 (D 13 (sOne T t).1 + 1)) := by
  have hN := h.2.1
  have hI := h.I
  rcases one_spec T t hN.1.1 with ⟨z, _⟩ | ⟨q1, q2, q3⟩
  · exact absurd z hq
  have hsr : -1 ≤ (sOne T t).2 ∧ (sOne T t).2 ≤ 100000 := (gOne_rg (S := T) (t := t) (n := T 0 0) hI hN.2.1 (by omega) hN.2.2.1 hN.1.2).2
  have hk := h.K ht
  have hown := row_own hI hN.2.1 ht h13 h19 hN.1 hN.2.2.1 (fun u hu => (h.K hu).2.1) hq
  have hkr := h.Kr ht
  have hge : 0 ≤ (sOne T t).2 := by omega
  have e0 : ∀ g, g ≠ 19 → g ≠ 20 → oOne T t g = T g := fun g a b => oOne_ne a b
  refine ⟨?_, ?_⟩
  · have h1 : rl (oOne T t) (sU (sU D 26 t (sOne T t).1) 27 t (sOne T t).2) := keep_plan h ht h13 ⟨by omega, q1.2⟩ hsr
    exact h1.cD (fun f hf => by rw [sU_ne (by omega), sU_ne (by omega), sU_ne (by omega)])
  · intro p hp
    rw [e0 0 (by decide) (by decide)] at hp
    obtain ⟨w1, w2, w3, w4, w5⟩ := hw p hp
    by_cases e : p = (sOne T t).1
    · rw [e]
      have x13 : sU (sU (sU (sU (sU D 26 t (sOne T t).1) 27 t (sOne T t).2) 11 (sOne T t).1 ((sOne T t).2 + D 22 t)) 12 (sOne T t).1 (D 24 t)) 13 (sOne T t).1 (D 13 (sOne T t).1 + 1) 13 (sOne T t).1 = D 13 (sOne T t).1 + 1 := sU_same
      have x12 : sU (sU (sU (sU (sU D 26 t (sOne T t).1) 27 t (sOne T t).2) 11 (sOne T t).1 ((sOne T t).2 + D 22 t)) 12 (sOne T t).1 (D 24 t)) 13 (sOne T t).1 (D 13 (sOne T t).1 + 1) 12 (sOne T t).1 = D 24 t := by rw [sU_f (by decide), sU_same]
      have x11 : sU (sU (sU (sU (sU D 26 t (sOne T t).1) 27 t (sOne T t).2) 11 (sOne T t).1 ((sOne T t).2 + D 22 t)) 12 (sOne T t).1 (D 24 t)) 13 (sOne T t).1 (D 13 (sOne T t).1 + 1) 11 (sOne T t).1 = (sOne T t).2 + D 22 t := by rw [sU_f (by decide), sU_f (by decide), sU_same]
      rw [x13, x12, x11, hown.1, hown.2.1, hown.2.2]
      rw [e] at w1
      refine ⟨by rw [w1], by rw [hk.1.2.2.2.2.1], fun _ => by rw [hk.1.2.2.1], by omega, by omega⟩
    · have x13 : sU (sU (sU (sU (sU D 26 t (sOne T t).1) 27 t (sOne T t).2) 11 (sOne T t).1 ((sOne T t).2 + D 22 t)) 12 (sOne T t).1 (D 24 t)) 13 (sOne T t).1 (D 13 (sOne T t).1 + 1) 13 p = D 13 p := by rw [sU_i e, sU_f (by decide), sU_f (by decide), sU_f (by decide), sU_f (by decide)]
      have x12 : sU (sU (sU (sU (sU D 26 t (sOne T t).1) 27 t (sOne T t).2) 11 (sOne T t).1 ((sOne T t).2 + D 22 t)) 12 (sOne T t).1 (D 24 t)) 13 (sOne T t).1 (D 13 (sOne T t).1 + 1) 12 p = D 12 p := by rw [sU_f (by decide), sU_i e, sU_f (by decide), sU_f (by decide), sU_f (by decide)]
      have x11 : sU (sU (sU (sU (sU D 26 t (sOne T t).1) 27 t (sOne T t).2) 11 (sOne T t).1 ((sOne T t).2 + D 22 t)) 12 (sOne T t).1 (D 24 t)) 13 (sOne T t).1 (D 13 (sOne T t).1 + 1) 11 p = D 11 p := by rw [sU_f (by decide), sU_f (by decide), sU_i e, sU_f (by decide), sU_f (by decide)]
      have hb : T 11 p ≠ t := fun y => by
        have hne : T 11 p ≠ -1 := by omega
        have := (h.P hp).2.2.2.2.1 hne
        rw [y] at this
        omega
      obtain ⟨o1, o2, o3⟩ := row_other (S := T) (t := t) (p := p) ht h13 h19 hp.1 e hb
      rw [x13, x12, x11, o1, o2, o3, e0 10 (by decide) (by decide)]
      exact ⟨w1, w2, w3, w4, w5⟩
