/-! 86.a.try: what trying orders leaves alone; its steps -/
/-- nothing has changed but person p's row and entries, and what was tried -/
def frT (D : mS) (p : Int) (D2 : mS) : Prop := ∀ (g : Nat) (x : Int), g ≠ 42 → ¬ ((g = 11 ∨ g = 12) ∧ x = p) → ¬ (g = 40 ∧ 32 * p ≤ x ∧ x < 32 * p + 32) → ¬ (g = 41 ∧ 160 * p ≤ x ∧ x < 160 * p + 160) → D2 g x = D g x
theorem frT.rf {D : mS} {p : Int} : frT D p D := fun _ _ _ _ _ _ => rfl
theorem frT.tr {D D2 D3 : mS} {p : Int} (h : frT D p D2) (h2 : frT D2 p D3) : frT D p D3 := fun g x a b c e => (h2 g x a b c e).trans (h g x a b c e)
theorem frT.at {D D2 : mS} {p : Int} (h : frT D p D2) {g : Nat} (x : Int) (hg : g ≠ 42 ∧ g ≠ 11 ∧ g ≠ 12 ∧ g ≠ 40 ∧ g ≠ 41) : D2 g x = D g x := h g x hg.1 (by omega) (by omega) (by omega)
theorem frT.rl {S D D2 : mS} {p : Int} (h : frT D p D2) (hR : rl S D) : rl S D2 := hR.cD (fun f hf => by funext x; exact h.at x (by omega))
theorem frT.few {S D D2 : mS} {p : Int} (h : frT D p D2) (hn : fewR S D) : fewR S D2 := by
  obtain ⟨h1, h2, h3, h4⟩ := hn
  exact ⟨by rw [h.at 0 (by decide)]; exact h1, h2, by rw [h.at 0 (by decide)]; exact h3, fun i hi => by rw [h.at i (by decide)]; exact h4 i hi⟩
theorem frT.u {D D2 : mS} {p v : Int} {g : Nat} {x : Int} (h : frT D p D2) (hg : g = 42 ∨ ((g = 11 ∨ g = 12) ∧ x = p)) : frT D p (sU D2 g x v) := by
  intro f y a b c e
  rw [← h f y a b c e]
  unfold sU
  rw [if_neg]
  rintro ⟨rfl, rfl⟩
  rcases hg with hg | hg
  · exact a hg
  · exact b hg
theorem fr_keep {D D2 : mS} {p set : Int} (hs : 0 ≤ set ∧ set < 32) (h : ∀ (g : Nat) (x : Int), ¬ (g = 40 ∧ x = 32 * p + set) → ¬ (g = 41 ∧ 160 * p + set * 5 ≤ x ∧ x < 160 * p + set * 5 + 5) → D2 g x = D g x) : frT D p D2 := fun g x _ _ c e => h g x (fun z => c ⟨z.1, by omega, by omega⟩) (fun z => e ⟨z.1, by omega, by omega⟩)
theorem tab_c {D D2 : mS} {n p : Int} {X : Int → cB} (h : tabR D n p X) (h40 : D2 40 = D 40) (h41 : D2 41 = D 41) : tabR D2 n p X := by
  intro Y hY
  rw [h40, h41]
  exact h Y hY
theorem tab_keep {D D2 : mS} {n p set late : Int} {ts : Int → Int} {X : Int → cB} (hn : 0 ≤ n ∧ n ≤ 5) (h : tabR D n p X) (h1 : bR2 (D2 40 (32 * p + set)) (fun k => D2 41 (160 * p + (set * 5 + k))) set n (cKeep set n (X set) (some (late, ts)))) (h2 : ∀ (g : Nat) (x : Int), ¬ (g = 40 ∧ x = 32 * p + set) → ¬ (g = 41 ∧ 160 * p + set * 5 ≤ x ∧ x < 160 * p + set * 5 + 5) → D2 g x = D g x) : tabR D2 n p (kp n set late ts X) := by
  intro Y hY
  unfold kp
  by_cases e : Y = set
  · rw [e, if_pos rfl]
    exact h1
  · rw [if_neg e]
    have e40 : D2 40 (32 * p + Y) = D 40 (32 * p + Y) := h2 40 _ (fun z => e (by omega)) (fun z => absurd z.1 (by decide))
    rw [e40]
    have hh := h Y hY
    generalize X Y = b at hh
    cases b with
    | none => exact hh
    | some y =>
      obtain ⟨l, s⟩ := y
      refine ⟨hh.1, hh.2.1, fun k hk hb => ?_⟩
      have e41 : D2 41 (160 * p + (Y * 5 + k)) = D 41 (160 * p + (Y * 5 + k)) := h2 41 _ (fun z => absurd z.1 (by decide)) (fun z => e (by omega))
      show D2 41 (160 * p + (Y * 5 + k)) = s k ∧ _
      rw [e41]
      exact hh.2.2 k hk hb
/-- one step of the search -/
def gDf (S : mS) (p n : Int) (f : Nat) (set r z late : Int) (ts : Int → Int) (X : Int → cB) (i : Int) : Int → cB := if sBit set i = 0 ∧ sMay S p (S 22 i) = 1 ∧ sStart S p (S 22 i) r z ≠ -1 then dfs S p n f (sSet set i) (sStart S p (S 22 i) r z + S 15 (S 22 i)) (S 17 (S 22 i)) (late + sLate S (S 22 i) (sStart S p (S 22 i) r z)) (fU ts i (sStart S p (S 22 i) r z)) X else X
theorem dfs_s (S : mS) (p n : Int) (f : Nat) (set r z late : Int) (ts : Int → Int) (X : Int → cB) : dfs S p n (f + 1) set r z late ts X = aFor (gDf S p n f set r z late ts) (kp n set late ts X) n := rfl
theorem gDf_yes {S : mS} {p n : Int} {f : Nat} {set r z late : Int} {ts : Int → Int} {X : Int → cB} {i : Int} (h : sBit set i = 0 ∧ sMay S p (S 22 i) = 1 ∧ sStart S p (S 22 i) r z ≠ -1) : gDf S p n f set r z late ts X i = dfs S p n f (sSet set i) (sStart S p (S 22 i) r z + S 15 (S 22 i)) (S 17 (S 22 i)) (late + sLate S (S 22 i) (sStart S p (S 22 i) r z)) (fU ts i (sStart S p (S 22 i) r z)) X := if_pos h
theorem gDf_no {S : mS} {p n : Int} {f : Nat} {set r z late : Int} {ts : Int → Int} {X : Int → cB} {i : Int} (h : ¬ (sBit set i = 0 ∧ sMay S p (S 22 i) = 1 ∧ sStart S p (S 22 i) r z ≠ -1)) : gDf S p n f set r z late ts X i = X := if_neg h
theorem set_in {n set i : Int} (hn : 0 ≤ n) (hs : 0 ≤ set ∧ set < 2 ^ n.toNat) (hi : 0 ≤ i ∧ i < n) : 0 ≤ sSet set i ∧ sSet set i < 2 ^ n.toNat := sSet_rg hs ⟨hi.1, by omega⟩
