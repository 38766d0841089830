/-! 68.dfs: trying the orders prefix by prefix finds the best order of each set -/
def kp (n set late : Int) (ts : Int → Int) (X : Int → cB) : Int → cB := fun Y => if Y = set then cKeep set n (X set) (some (late, ts)) else X Y
def dfs (S : mS) (p n : Int) : Nat → Int → Int → Int → Int → (Int → Int) → (Int → cB) → (Int → cB)
  | 0, set, _, _, late, ts, X => kp n set late ts X
  | f + 1, set, r, z, late, ts, X => aFor (fun X i => if sBit set i = 0 ∧ sMay S p (S 22 i) = 1 ∧ sStart S p (S 22 i) r z ≠ -1 then dfs S p n f (sSet set i) (sStart S p (S 22 i) r z + S 15 (S 22 i)) (S 17 (S 22 i)) (late + sLate S (S 22 i) (sStart S p (S 22 i) r z)) (fU ts i (sStart S p (S 22 i) r z)) X else X) (kp n set late ts X) n
def sq (n : Nat) : Nat → Int → List (List Int)
  | 0, _ => [[]]
  | f + 1, set => [] :: (List.range n).flatMap (fun j : Nat => if sBit set (j : Int) = 0 then (sq n f (sSet set (j : Int))).map (fun o => (j : Int) :: o) else [])
def fo (S : mS) (p n Y set r z late : Int) (ts : Int → Int) (b : cB) (L : List (List Int)) : cB := L.foldl (fun b o => if o.foldl sSet set = Y then cKeep Y n b (cRun S p o r z late ts) else b) b
theorem keep_none (set n : Int) (b : cB) : cKeep set n b none = b := rfl
theorem fo_cons_no {S : mS} {p n Y set r z late : Int} {ts : Int → Int} {k : Int} (h : ¬ (sMay S p (S 22 k) = 1 ∧ sStart S p (S 22 k) r z ≠ -1)) : ∀ (L : List (List Int)) (b : cB), fo S p n Y set r z late ts b (L.map (fun o => k :: o)) = b := by
  intro L
  induction L with
  | nil => intro b; rfl
  | cons o L ih =>
    intro b
    show fo S p n Y set r z late ts (if (k :: o).foldl sSet set = Y then cKeep Y n b (cRun S p (k :: o) r z late ts) else b) (L.map (fun o => k :: o)) = b
    rw [ih]
    have e : cRun S p (k :: o) r z late ts = none := by unfold cRun; rw [if_neg h]
    rw [e, keep_none]
    split <;> rfl
theorem fo_cons_yes {S : mS} {p n Y set r z late : Int} {ts : Int → Int} {k : Int} (h : sMay S p (S 22 k) = 1 ∧ sStart S p (S 22 k) r z ≠ -1) : ∀ (L : List (List Int)) (b : cB), fo S p n Y set r z late ts b (L.map (fun o => k :: o)) = fo S p n Y (sSet set k) (sStart S p (S 22 k) r z + S 15 (S 22 k)) (S 17 (S 22 k)) (late + sLate S (S 22 k) (sStart S p (S 22 k) r z)) (fU ts k (sStart S p (S 22 k) r z)) b L := by
  intro L
  induction L with
  | nil => intro b; rfl
  | cons o L ih =>
    intro b
    show fo S p n Y set r z late ts (if (k :: o).foldl sSet set = Y then cKeep Y n b (cRun S p (k :: o) r z late ts) else b) (L.map (fun o => k :: o)) = fo S p n Y (sSet set k) _ _ _ _ (if o.foldl sSet (sSet set k) = Y then cKeep Y n b (cRun S p o _ _ _ _) else b) L
    rw [ih]
    have e : cRun S p (k :: o) r z late ts = cRun S p o (sStart S p (S 22 k) r z + S 15 (S 22 k)) (S 17 (S 22 k)) (late + sLate S (S 22 k) (sStart S p (S 22 k) r z)) (fU ts k (sStart S p (S 22 k) r z)) := by
      conv => lhs; unfold cRun
      rw [if_pos h]
    rw [e]
    rfl
theorem fo_app {S : mS} {p n Y set r z late : Int} {ts : Int → Int} {b : cB} {L L2 : List (List Int)} : fo S p n Y set r z late ts b (L ++ L2) = fo S p n Y set r z late ts (fo S p n Y set r z late ts b L) L2 := by
  unfold fo
  rw [List.foldl_append]
theorem kp_fo (S : mS) (p n Y set r z late : Int) (ts : Int → Int) (X : Int → cB) : kp n set late ts X Y = fo S p n Y set r z late ts (X Y) [[]] := by
  show kp n set late ts X Y = if set = Y then cKeep Y n (X Y) (some (late, ts)) else X Y
  unfold kp
  by_cases h : Y = set
  · subst h
    rw [if_pos rfl]
  · rw [if_neg h, if_neg (fun z => h z.symm)]
theorem dfs_fo (S : mS) (p : Int) (n : Nat) : ∀ (f : Nat) (set r z late : Int) (ts : Int → Int) (X : Int → cB) (Y : Int), dfs S p n f set r z late ts X Y = fo S p n Y set r z late ts (X Y) (sq n f set) := by
  intro f
  induction f with
  | zero => intro set r z late ts X Y; exact kp_fo S p n Y set r z late ts X
  | succ f ih =>
    intro set r z late ts X Y
    have key : ∀ m : Nat, aForN (fun X i => if sBit set i = 0 ∧ sMay S p (S 22 i) = 1 ∧ sStart S p (S 22 i) r z ≠ -1 then dfs S p n f (sSet set i) (sStart S p (S 22 i) r z + S 15 (S 22 i)) (S 17 (S 22 i)) (late + sLate S (S 22 i) (sStart S p (S 22 i) r z)) (fU ts i (sStart S p (S 22 i) r z)) X else X) (kp n set late ts X) m Y = fo S p n Y set r z late ts (X Y) ([] :: (List.range m).flatMap (fun j : Nat => if sBit set (j : Int) = 0 then (sq n f (sSet set (j : Int))).map (fun o => (j : Int) :: o) else [])) := by
      intro m
      induction m with
      | zero => exact kp_fo S p n Y set r z late ts X
      | succ m im =>
        rw [List.range_succ, List.flatMap_append, ← List.cons_append, fo_app, ← im]
        generalize hX : aForN (fun X i => if sBit set i = 0 ∧ sMay S p (S 22 i) = 1 ∧ sStart S p (S 22 i) r z ≠ -1 then dfs S p n f (sSet set i) (sStart S p (S 22 i) r z + S 15 (S 22 i)) (S 17 (S 22 i)) (late + sLate S (S 22 i) (sStart S p (S 22 i) r z)) (fU ts i (sStart S p (S 22 i) r z)) X else X) (kp n set late ts X) m = X2
        show (fun X i => if sBit set i = 0 ∧ sMay S p (S 22 i) = 1 ∧ sStart S p (S 22 i) r z ≠ -1 then dfs S p n f (sSet set i) (sStart S p (S 22 i) r z + S 15 (S 22 i)) (S 17 (S 22 i)) (late + sLate S (S 22 i) (sStart S p (S 22 i) r z)) (fU ts i (sStart S p (S 22 i) r z)) X else X) (aForN (fun X i => if sBit set i = 0 ∧ sMay S p (S 22 i) = 1 ∧ sStart S p (S 22 i) r z ≠ -1 then dfs S p n f (sSet set i) (sStart S p (S 22 i) r z + S 15 (S 22 i)) (S 17 (S 22 i)) (late + sLate S (S 22 i) (sStart S p (S 22 i) r z)) (fU ts i (sStart S p (S 22 i) r z)) X else X) (kp n set late ts X) m) m Y = _
        rw [hX]
        rw [List.flatMap_cons, List.flatMap_nil, List.append_nil]
        show (if sBit set m = 0 ∧ sMay S p (S 22 m) = 1 ∧ sStart S p (S 22 m) r z ≠ -1 then _ else X2) Y = _
        by_cases hb : sBit set m = 0
        · rw [if_pos hb]
          by_cases hc : sMay S p (S 22 m) = 1 ∧ sStart S p (S 22 m) r z ≠ -1
          · rw [if_pos ⟨hb, hc⟩, fo_cons_yes hc, ih]
          · rw [if_neg (fun z => hc z.2), fo_cons_no hc]
        · rw [if_neg hb, if_neg (fun z => hb z.1)]
          rfl
    exact key n
theorem sq_okN : ∀ n : Nat, n < 6 → ∀ s : Nat, s < 2 ^ n → (sq n n 0).filter (fun o => decide (o.foldl sSet 0 = (s : Int))) = perms (s : Int) := by decide +kernel
theorem fo_filter {S : mS} {p n Y set r z late : Int} {ts : Int → Int} : ∀ (L : List (List Int)) (b : cB), fo S p n Y set r z late ts b L = (L.filter (fun o => decide (o.foldl sSet set = Y))).foldl (fun b o => cKeep Y n b (cRun S p o r z late ts)) b := by
  intro L
  induction L with
  | nil => intro b; rfl
  | cons o L ih =>
    intro b
    show fo S p n Y set r z late ts (if o.foldl sSet set = Y then cKeep Y n b (cRun S p o r z late ts) else b) L = _
    rw [ih, List.filter_cons]
    by_cases h : o.foldl sSet set = Y
    · rw [if_pos h, if_pos (decide_eq_true h)]
      rfl
    · rw [if_neg h, if_neg (fun z => h (of_decide_eq_true z))]
/-- the class's tables are the reference's -/
theorem dfs_ok {S : mS} {p n Y : Int} (hn : 0 ≤ n ∧ n ≤ 5) (hY : 0 ≤ Y ∧ Y < 2 ^ n.toNat) : dfs S p n n.toNat 0 (sReady S p) (S 9 p) 0 (fun _ => 0) (fun _ => none) Y = cFo S p Y n := by
  have e : n = (n.toNat : Int) := by omega
  have h1 : dfs S p n n.toNat 0 (sReady S p) (S 9 p) 0 (fun _ => 0) (fun _ => none) Y = dfs S p (n.toNat : Int) n.toNat 0 (sReady S p) (S 9 p) 0 (fun _ => 0) (fun _ => none) Y := by rw [← e]
  rw [h1, dfs_fo, fo_filter]
  have h2 := sq_okN n.toNat (by omega) Y.toNat (by
    have : ((Y.toNat : Nat) : Int) < ((2 ^ n.toNat : Nat) : Int) := by rw [Int.toNat_of_nonneg hY.1, Int.natCast_pow]; exact hY.2
    exact_mod_cast this)
  rw [Int.toNat_of_nonneg hY.1] at h2
  rw [h2, ← e]
  rfl
