/-! 54.perms: the orders of a set; the best of them -/
def fL (os : List Int) : Int → Int := fun i => os.getD i.toNat 0
def toL (a : Int → Int) (n : Nat) : List Int := (List.range n).map (fun j : Nat => a (j : Int))
def elems (set : Int) : List Int := ([0, 1, 2, 3, 4] : List Int).filter (fun k => decide (sBit set k = 1))
def permF : Nat → List Int → List (List Int)
  | 0, _ => [[]]
  | f + 1, l => if l.isEmpty = true then [[]] else l.flatMap (fun x => (permF f (l.erase x)).map (fun y => x :: y))
def perms (set : Int) : List (List Int) := permF 5 (elems set)
def chB : List (List Int) → Bool
  | [] => false
  | [o] => (aNx (fL o) o.length).isNone
  | o :: o2 :: r => (match aNx (fL o) o.length with | none => false | some b => decide (toL b o.length = o2)) && chB (o2 :: r)
theorem ch_okN : ∀ n : Nat, n < 32 → (chB (perms (n : Int)) && decide ((perms (n : Int)).head? = some (elems (n : Int))) && (perms (n : Int)).all (fun o => decide (o.length = (elems (n : Int)).length) && (elems (n : Int)).all (fun k => o.contains k) && o.all (fun k => (elems (n : Int)).contains k))) = true := by decide +kernel
theorem ch_ok {set : Int} (h : 0 ≤ set ∧ set < 32) : chB (perms set) = true ∧ (perms set).head? = some (elems set) ∧ ∀ o ∈ perms set, o.length = (elems set).length ∧ (∀ k ∈ elems set, k ∈ o) ∧ ∀ k ∈ o, k ∈ elems set := by
  have h1 := ch_okN set.toNat (by omega)
  rw [Int.toNat_of_nonneg h.1] at h1
  rw [Bool.and_eq_true, Bool.and_eq_true] at h1
  refine ⟨h1.1.1, of_decide_eq_true h1.1.2, fun o ho => ?_⟩
  have h2 := List.all_eq_true.mp h1.2 o ho
  rw [Bool.and_eq_true, Bool.and_eq_true] at h2
  refine ⟨of_decide_eq_true h2.1.1, fun k hk => ?_, fun k hk => ?_⟩
  · have := List.all_eq_true.mp h2.1.2 k hk
    simpa using this
  · have := List.all_eq_true.mp h2.2 k hk
    simpa using this
theorem mem_elems {set k : Int} : k ∈ elems set ↔ (0 ≤ k ∧ k < 5) ∧ sBit set k = 1 := by
  unfold elems
  rw [List.mem_filter]
  constructor
  · rintro ⟨h1, h2⟩
    refine ⟨?_, of_decide_eq_true h2⟩
    simp at h1
    omega
  · rintro ⟨h1, h2⟩
    refine ⟨?_, decide_eq_true h2⟩
    simp
    omega
theorem sBit_hi {set k : Int} {n : Int} (hs : 0 ≤ set ∧ set < 2 ^ n.toNat) (hk : n ≤ k) : sBit set k = 0 := by
  unfold sBit
  have h : set < 2 ^ k.toNat := by
    have h2 : (2 : Nat) ^ n.toNat ≤ 2 ^ k.toNat := Nat.pow_le_pow_right (by decide) (by omega)
    have h3 : ((2 ^ n.toNat : Nat) : Int) ≤ ((2 ^ k.toNat : Nat) : Int) := by exact_mod_cast h2
    rw [Int.natCast_pow, Int.natCast_pow] at h3
    exact Int.lt_of_lt_of_le hs.2 h3
  rw [Int.ediv_eq_zero_of_lt hs.1 h]
  rfl
/-! the next order looks at the first many alone -/
theorem aI_c {a b : Int → Int} {many : Nat} (h : ∀ j : Int, 0 ≤ j ∧ j < many → a j = b j) : ∀ n : Nat, n + 1 ≤ many ∨ n = 0 → aI a n = aI b n := by
  intro n
  induction n with
  | zero => intro _; rfl
  | succ n ih =>
    intro hn
    show (if a (n + 1) < a n then aI a n else n) = (if b (n + 1) < b n then aI b n else n)
    rw [h (n + 1) (by omega), h n (by omega), ih (by omega)]
theorem aJ_c {a b : Int → Int} {many : Nat} (h : ∀ j : Int, 0 ≤ j ∧ j < many → a j = b j) (x : Int) : ∀ n : Nat, n + 1 ≤ many ∨ n = 0 → aJ a x n = aJ b x n := by
  intro n
  induction n with
  | zero => intro _; rfl
  | succ n ih =>
    intro hn
    show (if a (n + 1) < x then aJ a x n else ((n + 1 : Nat) : Int)) = (if b (n + 1) < x then aJ b x n else ((n + 1 : Nat) : Int))
    rw [h (n + 1) (by omega), ih (by omega)]
theorem aSw_c {a b : Int → Int} {many : Nat} (h : ∀ j : Int, 0 ≤ j ∧ j < many → a j = b j) {i j : Int} (hi : 0 ≤ i ∧ i < many) (hj : 0 ≤ j ∧ j < many) : ∀ k : Int, 0 ≤ k ∧ k < many → aSw a i j k = aSw b i j k := by
  intro k hk
  unfold aSw fU
  rw [h i hi, h j hj, h k hk]
theorem aRev_c {many : Nat} : ∀ (f : Nat) (a b : Int → Int) (x y : Int), (∀ j : Int, 0 ≤ j ∧ j < many → a j = b j) → 0 ≤ x → y < many → ∀ k : Int, 0 ≤ k ∧ k < many → aRev f a x y k = aRev f b x y k := by
  intro f
  induction f with
  | zero => intro a b x y h _ _ k hk; exact h k hk
  | succ f ih =>
    intro a b x y h hx hy k hk
    show (if x < y then aRev f (aSw a x y) (x + 1) (y - 1) else a) k = (if x < y then aRev f (aSw b x y) (x + 1) (y - 1) else b) k
    by_cases hxy : x < y
    · rw [if_pos hxy, if_pos hxy]
      exact ih _ _ _ _ (aSw_c h (by omega) (by omega)) (by omega) (by omega) k hk
    · rw [if_neg hxy, if_neg hxy]
      exact h k hk
theorem aNx_c {a b : Int → Int} {many : Nat} (h : ∀ j : Int, 0 ≤ j ∧ j < many → a j = b j) : (aNx a many = none ∧ aNx b many = none) ∨ ∃ a2 b2, aNx a many = some a2 ∧ aNx b many = some b2 ∧ ∀ k : Int, 0 ≤ k ∧ k < many → a2 k = b2 k := by
  unfold aNx
  have e1 : aI a (many - 1) = aI b (many - 1) := aI_c h _ (by omega)
  rw [e1]
  by_cases h0 : aI b (many - 1) < 0
  · left
    rw [if_pos h0, if_pos h0]
    exact ⟨rfl, rfl⟩
  · right
    have hr := aI_lo b (many - 1)
    have e2 : a (aI b (many - 1)) = b (aI b (many - 1)) := h _ (by omega)
    have e3 := aJ_c h (b (aI b (many - 1))) (many - 1) (by omega)
    have hj := aJ_rg b (b (aI b (many - 1))) (many - 1)
    rw [if_neg h0, if_neg h0, e2, e3]
    exact ⟨_, _, rfl, rfl, aRev_c _ _ _ _ _ (aSw_c h (by omega) (by omega)) (by omega) (by omega)⟩
theorem fL_toL {b : Int → Int} {n : Nat} {k : Int} (hk : 0 ≤ k ∧ k < n) : fL (toL b n) k = b k := by
  unfold fL toL
  rw [List.getD_eq_getElem?_getD, List.getElem?_map, List.getElem?_range (by omega)]
  show b (k.toNat : Int) = b k
  rw [Int.toNat_of_nonneg hk.1]
/-! a run over a list -/
def cRun (S : mS) (p : Int) : List Int → Int → Int → Int → (Int → Int) → Option (Int × (Int → Int))
  | [], _, _, late, ts => some (late, ts)
  | k :: os, r, z, late, ts => if sMay S p (S 22 k) = 1 ∧ sStart S p (S 22 k) r z ≠ -1 then cRun S p os (sStart S p (S 22 k) r z + S 15 (S 22 k)) (S 17 (S 22 k)) (late + sLate S (S 22 k) (sStart S p (S 22 k) r z)) (fU ts k (sStart S p (S 22 k) r z)) else none
theorem sLate_nn (S : mS) (t s : Int) : 0 ≤ sLate S t s := by
  unfold sLate sGr
  split <;> omega
theorem run_link {S : mS} {p : Int} {a : Int → Int} : ∀ (os : List Int) (i r z late : Int) (tr ts : Int → Int), (∀ (j : Nat) (h : j < os.length), a (i + j) = os[j]) → (∀ k ∈ os, sMay S p (S 22 k) = 1) → 0 ≤ late →
    (cRun S p os r z late ts = none ∧ (sRun S p a os.length i r z late tr).1 = -1) ∨ ∃ l2 t2, cRun S p os r z late ts = some (l2, t2) ∧ (sRun S p a os.length i r z late tr).1 = l2 ∧ 0 ≤ l2 ∧ ∀ k, (k ∈ os ∨ tr k = ts k) → (sRun S p a os.length i r z late tr).2 k = t2 k := by
  intro os
  induction os with
  | nil =>
    intro i r z late tr ts _ _ hl
    right
    refine ⟨late, ts, rfl, rfl, hl, fun k hk => ?_⟩
    rcases hk with hk | hk
    · exact absurd hk (List.not_mem_nil)
    · exact hk
  | cons k os ih =>
    intro i r z late tr ts ha hm hl
    have e : a i = k := by
      have := ha 0 (by simp)
      rw [show i + ((0 : Nat) : Int) = i by omega] at this
      exact this
    show (cRun S p (k :: os) r z late ts = none ∧ (sRun S p a (os.length + 1) i r z late tr).1 = -1) ∨ ∃ l2 t2, cRun S p (k :: os) r z late ts = some (l2, t2) ∧ (sRun S p a (os.length + 1) i r z late tr).1 = l2 ∧ 0 ≤ l2 ∧ ∀ x, (x ∈ k :: os ∨ tr x = ts x) → (sRun S p a (os.length + 1) i r z late tr).2 x = t2 x
    unfold cRun sRun
    rw [e]
    by_cases hs : sStart S p (S 22 k) r z = -1
    · left
      rw [if_neg (fun z => z.2 hs), if_pos hs]
      exact ⟨rfl, rfl⟩
    · rw [if_pos ⟨hm k (List.mem_cons_self ..), hs⟩, if_neg hs]
      rcases ih (i + 1) (sStart S p (S 22 k) r z + S 15 (S 22 k)) (S 17 (S 22 k)) (late + sLate S (S 22 k) (sStart S p (S 22 k) r z)) (fU tr k (sStart S p (S 22 k) r z)) (fU ts k (sStart S p (S 22 k) r z)) (fun j hj => by
          have := ha (j + 1) (by simpa using hj)
          rw [show i + ((j + 1 : Nat) : Int) = i + 1 + (j : Int) by omega] at this
          simpa using this) (fun x hx => hm x (List.mem_cons_of_mem _ hx)) (by have := sLate_nn S (S 22 k) (sStart S p (S 22 k) r z); omega) with h | ⟨l2, t2, h1, h2, h3, h4⟩
      · exact .inl h
      · right
        refine ⟨l2, t2, h1, h2, h3, fun x hx => h4 x ?_⟩
        by_cases hxo : x ∈ os
        · exact .inl hxo
        · right
          unfold fU
          by_cases hxk : x = k
          · rw [if_pos hxk, if_pos hxk]
          · rw [if_neg hxk, if_neg hxk]
            rcases hx with hx | hx
            · rcases List.mem_cons.mp hx with hx | hx
              · exact absurd hx hxk
              · exact absurd hx hxo
            · exact hx
theorem cRun_none {S : mS} {p k0 : Int} (hm : sMay S p (S 22 k0) ≠ 1) : ∀ (os : List Int) (r z late : Int) (ts : Int → Int), k0 ∈ os → cRun S p os r z late ts = none := by
  intro os
  induction os with
  | nil => intro r z late ts h; exact absurd h (List.not_mem_nil)
  | cons k os ih =>
    intro r z late ts h
    unfold cRun
    rcases List.mem_cons.mp h with h | h
    · subst h
      rw [if_neg (fun z => hm z.1)]
    · split
      · exact ih _ _ _ _ h
      · rfl
abbrev cB : Type := Option (Int × (Int → Int))
/-- the better of two -/
def cKeep (set n : Int) (b c : cB) : cB := match c with
  | none => b
  | some (l, t) => match b with
    | none => some (l, t)
    | some (l0, t0) => if l < l0 ∨ l = l0 ∧ sLess t t0 set n = 1 then some (l, t) else some (l0, t0)
def cOne (S : mS) (p : Int) (os : List Int) : cB := cRun S p os (sReady S p) (S 9 p) 0 (fun _ => 0)
def cFold (S : mS) (p set n : Int) (b : cB) (L : List (List Int)) : cB := L.foldl (fun b os => cKeep set n b (cOne S p os)) b
def cFo (S : mS) (p set n : Int) : cB := cFold S p set n none (perms set)
theorem cFo_none {S : mS} {p set n k0 : Int} (hs : 0 ≤ set ∧ set < 32) (hk : (0 ≤ k0 ∧ k0 < 5) ∧ sBit set k0 = 1) (hm : sMay S p (S 22 k0) ≠ 1) : cFo S p set n = none := by
  have h := (ch_ok hs).2.2
  unfold cFo
  have key : ∀ L : List (List Int), (∀ o ∈ L, k0 ∈ o) → cFold S p set n none L = none := by
    intro L
    induction L with
    | nil => intro _; rfl
    | cons o L ih =>
      intro hL
      show cFold S p set n (cKeep set n none (cOne S p o)) L = none
      have : cOne S p o = none := cRun_none hm _ _ _ _ _ (hL o (List.mem_cons_self ..))
      rw [this]
      exact ih (fun x hx => hL x (List.mem_cons_of_mem _ hx))
  exact key _ (fun o ho => (h o ho).2.1 k0 (mem_elems.mpr hk))
/-- the table's entry is the best of the orders so far -/
def bR (lat : Int) (st : Int → Int) (set n : Int) (b : cB) : Prop := match b with
  | none => lat = -1
  | some (l, s) => lat = l ∧ 0 ≤ l ∧ ∀ k, 0 ≤ k ∧ k < n → sBit set k = 1 → st k = s k
theorem sRun_rg {S : mS} {p : Int} {a : Int → Int} (hI : sI S) (hp : 0 ≤ p ∧ p < 4) (ha : ∀ i, 0 ≤ i ∧ i < 5 → 0 ≤ a i ∧ a i ≤ 4) : ∀ (n : Nat) (i r z late : Int) (tr : Int → Int), 0 ≤ i → i + n ≤ 5 → -1 ≤ r ∧ r ≤ 200000 → 0 ≤ z ∧ z < 4 → 0 ≤ late → -1 ≤ (sRun S p a n i r z late tr).1 ∧ (sRun S p a n i r z late tr).1 ≤ late + 105000 * n := by
  intro n
  induction n with
  | zero => intro i r z late tr hi hin hr hz hl; exact ⟨by show -1 ≤ late; omega, by show late ≤ late + 105000 * ((0 : Nat) : Int); omega⟩
  | succ n ih =>
    intro i r z late tr hi hin hr hz hl
    have h1 := ha i (by omega)
    have r1 : 0 ≤ S 22 (a i) ∧ S 22 (a i) ≤ 15 := hI.r 22 _ (n := 5) (by decide) rfl ⟨by omega, by omega⟩
    have r2 := sStart_rg2 (p := p) (t := S 22 (a i)) hI hp (by omega) hr hz
    have r3 : 0 ≤ S 17 (S 22 (a i)) ∧ S 17 (S 22 (a i)) ≤ 3 := hI.r 17 _ (n := 16) (by decide) rfl ⟨by omega, by omega⟩
    have r4 : 0 ≤ S 15 (S 22 (a i)) ∧ S 15 (S 22 (a i)) ≤ 5000 := hI.r 15 _ (n := 16) (by decide) rfl ⟨by omega, by omega⟩
    have r5 := sLate_rg (t := S 22 (a i)) hI (by omega) r2
    unfold sRun
    split
    · exact ⟨Int.le_refl (-1), by show (-1 : Int) ≤ _; omega⟩
    · have := ih (i + 1) (sStart S p (S 22 (a i)) r z + S 15 (S 22 (a i))) (S 17 (S 22 (a i))) (late + sLate S (S 22 (a i)) (sStart S p (S 22 (a i)) r z)) (fU tr (a i) (sStart S p (S 22 (a i)) r z)) (by omega) (by omega) (by omega) (by omega) (by omega)
      omega
def elemsTo (set : Int) (k : Nat) : List Int := ((List.range k).map (fun j : Nat => (j : Int))).filter (fun k => decide (sBit set k = 1))
theorem elemsTo_s (set : Int) (k : Nat) : elemsTo set (k + 1) = elemsTo set k ++ (if sBit set k = 1 then [(k : Int)] else []) := by
  unfold elemsTo
  rw [List.range_succ, List.map_append, List.filter_append]
  congr 1
  by_cases h : sBit set k = 1
  · rw [if_pos h]
    show List.filter (fun k => decide (sBit set k = 1)) [(k : Int)] = _
    rw [List.filter_cons, if_pos (decide_eq_true h)]
    rfl
  · rw [if_neg h]
    show List.filter (fun k => decide (sBit set k = 1)) [(k : Int)] = _
    rw [List.filter_cons, if_neg (fun z => h (of_decide_eq_true z))]
    rfl
theorem elemsTo_okN : ∀ n : Nat, n < 6 → ∀ s : Nat, s < 2 ^ n → elemsTo (s : Int) n = elems (s : Int) := by decide +kernel
theorem elemsTo_ok {n set : Int} (hn : 0 ≤ n ∧ n ≤ 5) (hs : 0 ≤ set ∧ set < 2 ^ n.toNat) : elemsTo set n.toNat = elems set := by
  have h := elemsTo_okN n.toNat (by omega) set.toNat (by
    have : ((set.toNat : Nat) : Int) < ((2 ^ n.toNat : Nat) : Int) := by rw [Int.toNat_of_nonneg hs.1, Int.natCast_pow]; exact hs.2
    exact_mod_cast this)
  rw [Int.toNat_of_nonneg hs.1] at h
  exact h
theorem toL_s (a : Int → Int) (n : Nat) (v : Int) : toL (fU a n v) (n + 1) = toL a n ++ [v] := by
  unfold toL
  rw [List.range_succ, List.map_append]
  congr 1
  · refine List.map_congr_left (fun j hj => ?_)
    have := List.mem_range.mp hj
    unfold fU
    rw [if_neg (by omega)]
  · show [fU a n v (n : Int)] = [v]
    unfold fU
    rw [if_pos rfl]
theorem elemsTo_len (set : Int) (k : Nat) : (elemsTo set k).length ≤ k := by
  unfold elemsTo
  refine Nat.le_trans (List.length_filter_le ..) ?_
  rw [List.length_map, List.length_range]
  exact Nat.le_refl _
