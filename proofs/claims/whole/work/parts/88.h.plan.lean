/-! 88.h.plan: persons' tables one by one (numbers alone) -/
theorem dfs_gone {S : mS} {p n : Int} (h : S 10 p = 0) (f : Nat) (set r z r2 z2 late : Int) (ts : Int → Int) (X : Int → cB) : dfs S p n f set r z late ts X = dfs S p n f set r2 z2 late ts X := by
  have hm : ∀ t, sMay S p t ≠ 1 := by
    intro t
    unfold sMay
    rw [if_neg (fun z => z.1 h)]
    decide
  cases f with
  | zero => rfl
  | succ f =>
    rw [dfs_s, dfs_s]
    unfold aFor
    refine aForN_congr _ (fun x i _ => ?_)
    rw [gDf_no (fun z => hm _ z.2.1), gDf_no (fun z => hm _ z.2.1)]
/-- the tables of the persons below q are filled -/
abbrev allR (T D : mS) (q : Int) : Prop := ∀ r, 0 ≤ r ∧ r < q → tabR D (T 23 0) r (fun Y => cFo T r Y (T 23 0))
theorem tab_fr {D D2 : mS} {n p q : Int} {X : Int → cB} (hn : 0 ≤ n ∧ n ≤ 5) (hne : q ≠ p) (h : tabR D n q X) (hf : frT D p D2) : tabR D2 n q X := by
  have hp := pow_rg hn
  intro Y hY
  have hh := h Y hY
  have e40 : D2 40 (32 * q + Y) = D 40 (32 * q + Y) := hf 40 _ (by decide) (by omega) (by omega) (by omega)
  rw [e40]
  generalize X Y = b at hh
  cases b with
  | none => exact hh
  | some y =>
    obtain ⟨l, s⟩ := y
    refine ⟨hh.1, hh.2.1, fun k hk hb => ?_⟩
    have e41 : D2 41 (160 * q + (Y * 5 + k)) = D 41 (160 * q + (Y * 5 + k)) := hf 41 _ (by decide) (by omega) (by omega) (by omega)
    show D2 41 (160 * q + (Y * 5 + k)) = s k ∧ _
    rw [e41]
    exact hh.2.2 k hk hb
theorem tab_X {D : mS} {n p : Int} {X X2 : Int → cB} (h : tabR D n p X) (e : ∀ Y, 0 ≤ Y ∧ Y < 2 ^ n.toNat → X Y = X2 Y) : tabR D n p X2 := fun Y hY => by rw [← e Y hY]; exact h Y hY
theorem tab_none {D : mS} {n p : Int} (h : ∀ Y, 0 ≤ Y ∧ Y < 2 ^ n.toNat → D 40 (32 * p + Y) = 1000000000) : tabR D n p (fun _ => none) := fun Y hY => h Y hY
theorem allR_s {T D D2 : mS} {q r z : Int} (hn : 0 ≤ T 23 0 ∧ T 23 0 ≤ 5) (hq : 0 ≤ q) (h : allR T D q) (hf : frT D q D2) (hz : T 10 q ≠ 0 → r = sReady T q ∧ z = T 9 q) (ht : tabR D2 (T 23 0) q (dfs T q (T 23 0) (T 23 0).toNat 0 r z 0 (fun _ => 0) (fun _ => none))) : allR T D2 (q + 1) := by
  intro s hs
  by_cases e : s = q
  · subst e
    refine tab_X ht (fun Y hY => ?_)
    by_cases h10 : T 10 s = 0
    · rw [dfs_gone h10 _ _ r z (sReady T s) (T 9 s)]
      exact dfs_ok hn hY
    · obtain ⟨e1, e2⟩ := hz h10
      rw [e1, e2]
      exact dfs_ok hn hY
  · exact tab_fr hn e (h s (by omega)) hf
theorem tkn_fin {LT RT CT : Int → Int} {n m q k : Int} (hn : 0 ≤ n) (h : dpT LT RT CT n m) (hq : 0 ≤ q ∧ q < m) (hb : sBit (tkn CT n q) k = 1) : LT (32 * q + tkn CT n q) ≠ 1000000000 := by
  have hl := lft_ok hn h q.toNat (by omega)
  rw [Int.toNat_of_nonneg hq.1] at hl
  have et : tkn CT n q = (chq LT RT q (lft CT n q)).2 := (h.2 q hq _ hl).2
  rcases chq_is (LT := LT) (RT := RT) (q := q) hl.1 with ⟨z1, z2⟩ | ⟨z1, z2, z3, z4⟩
  · rw [et, z1, sBit_0] at hb
    omega
  · rw [et]; exact z3
theorem all_st {T D : mS} {RT : Int → Int} {m : Int} (hn : 0 ≤ T 23 0 ∧ T 23 0 ≤ 5) (h : allR T D m) (hdp : dpT (D 40) RT (D 45) (T 23 0) m) : ∀ q k, 0 ≤ q ∧ q < m → 0 ≤ k ∧ k < T 23 0 → sBit (tkn (D 45) (T 23 0) q) k = 1 → -1 ≤ stK D (T 23 0) q k ∧ stK D (T 23 0) q k ≤ 100000 := by
  intro q k hq hk hb
  have ht := tkn_ok hn.1 hdp hq
  have hf := tkn_fin hn.1 hdp hq hb
  have hh : bR2 (D 40 (32 * q + tkn (D 45) (T 23 0) q)) (fun k => D 41 (160 * q + (tkn (D 45) (T 23 0) q * 5 + k))) (tkn (D 45) (T 23 0) q) (T 23 0) (cFo T q (tkn (D 45) (T 23 0) q) (T 23 0)) := h q hq _ ht.1
  cases hc : cFo T q (tkn (D 45) (T 23 0) q) (T 23 0) with
  | none =>
    rw [hc] at hh
    exact absurd hh hf
  | some y =>
    rw [hc] at hh
    obtain ⟨l, s⟩ := y
    have h2 := hh.2.2 k hk hb
    unfold stK
    have h3 : D 41 (160 * q + (tkn (D 45) (T 23 0) q * 5 + k)) = s k := h2.1
    omega
theorem all_exp {T D : mS} {RT : Int → Int} (hn : 0 ≤ T 23 0 ∧ T 23 0 ≤ 5) (hm : 0 ≤ T 0 0 ∧ T 0 0 ≤ 4) (hinj : ∀ i j, 0 ≤ i ∧ i < T 23 0 → 0 ≤ j ∧ j < T 23 0 → T 22 i = T 22 j → i = j) (h : allR T D (T 0 0)) (hdp : dpT (D 40) RT (D 45) (T 23 0) (T 0 0)) : sFor (gT2 (T 22) (tkn (D 45) (T 23 0)) (stK D (T 23 0)) (T 23 0)) T (T 0 0) = oExp T := by
  have e := exact_ok (S := T) (LT := D 40) (ST := D 41) (RT := RT) (CT := D 45) hn hm hinj (fun q s hq hs => by
    have hh := h q hq s hs
    have ee : (fun k => D 41 (160 * q + (5 * s + k))) = (fun k => D 41 (160 * q + (s * 5 + k))) := by
      funext k
      rw [Int.mul_comm 5 s]
    rw [ee]
    exact hh) hdp
  rw [← e]
  have e2 : stK D (T 23 0) = (fun q k => D 41 (160 * q + (5 * tkn (D 45) (T 23 0) q + k))) := by
    funext q k
    unfold stK
    rw [Int.mul_comm 5 (tkn (D 45) (T 23 0) q)]
  rw [e2]
