/-! 66.sel: choosing the least again and again is going by ranks -/
theorem sCnt_le {P Q : Int → Bool} {n : Int} (h : ∀ i, 0 ≤ i ∧ i < n → P i = true → Q i = true) : sCnt P n ≤ sCnt Q n := by
  have key : ∀ k : Nat, (k : Int) ≤ n ∨ k = 0 → sCntN P k ≤ sCntN Q k := by
    intro k
    induction k with
    | zero => intro _; exact Int.le_refl _
    | succ k ih =>
      intro hk
      have h1 := ih (by omega)
      have h2 := h k (by omega)
      show sCntN P k + (if P k = true then 1 else 0) ≤ sCntN Q k + (if Q k = true then 1 else 0)
      by_cases e : P k = true
      · rw [if_pos e, if_pos (h2 e)]
        omega
      · rw [if_neg e]
        split <;> omega
  exact key n.toNat (by omega)
theorem sCnt_one {P Q : Int → Bool} {n x : Int} (hx : 0 ≤ x ∧ x < n) (h : ∀ i, 0 ≤ i ∧ i < n → (Q i = true ↔ P i = true ∨ i = x)) (hp : P x ≠ true) : sCnt Q n = sCnt P n + 1 := by
  have key : ∀ k : Nat, (k : Int) ≤ n → sCntN Q k = sCntN P k + (if x < k then 1 else 0) := by
    intro k
    induction k with
    | zero => intro _; rw [if_neg (by omega)]; rfl
    | succ k ih =>
      intro hk
      have h1 := ih (by omega)
      have h2 := h k (by omega)
      show sCntN Q k + (if Q k = true then 1 else 0) = sCntN P k + (if P k = true then 1 else 0) + (if x < ((k + 1 : Nat) : Int) then 1 else 0)
      rw [h1]
      by_cases e : (k : Int) = x
      · have hp : ¬ P k = true := by rw [e]; exact hp
        rw [if_pos (h2.mpr (.inr e)), if_neg hp, if_neg (by omega), if_pos (by omega)]
      · by_cases e2 : P k = true
        · rw [if_pos e2, if_pos (h2.mpr (.inl e2))]
          split <;> split <;> omega
        · rw [if_neg e2, if_neg (fun z => (h2.mp z).elim e2 e)]
          split <;> split <;> omega
  have := key n.toNat (by omega)
  rw [if_pos (by omega)] at this
  exact this
theorem sCnt_lt {P Q : Int → Bool} {n x : Int} (hx : 0 ≤ x ∧ x < n) (h : ∀ i, 0 ≤ i ∧ i < n → P i = true → Q i = true) (hp : P x ≠ true) (hq : Q x = true) : sCnt P n < sCnt Q n := by
  have h1 : sCnt (fun i => P i || decide (i = x)) n = sCnt P n + 1 := sCnt_one hx (fun i _ => by simp) hp
  have h2 : sCnt (fun i => P i || decide (i = x)) n ≤ sCnt Q n := sCnt_le (fun i hi hz => by
    simp at hz
    rcases hz with hz | hz
    · exact h i hi hz
    · rw [hz]; exact hq)
  omega
def gSl (P : Int → Bool) (K : Int → Int) (k x t : Int) : Int := if P t = true ∧ sBit k t = 0 ∧ (x = -1 ∨ K t < K x) then t else x
/-- the first of the least that are not in k -/
def sl (P : Int → Bool) (K : Int → Int) (n k : Int) : Int := iFor (gSl P K k) (-1) n
def tkN (P : Int → Bool) (K : Int → Int) (n : Int) : Nat → Int
  | 0 => 0
  | i + 1 => if sl P K n (tkN P K n i) = -1 then tkN P K n i else sSet (tkN P K n i) (sl P K n (tkN P K n i))
def kB (K : Int → Int) (u t : Int) : Bool := decide (K u < K t ∨ K u = K t ∧ u < t)
def rk (P : Int → Bool) (K : Int → Int) (n t : Int) : Int := sCnt (fun u => P u && kB K u t) n
section SL
variable {P : Int → Bool} {K : Int → Int} {n : Int}
theorem kB_t {u t : Int} : kB K u t = true ↔ (K u < K t ∨ K u = K t ∧ u < t) := by unfold kB; exact decide_eq_true_iff
theorem sl_spec (hn : 0 ≤ n) (k : Int) : (sl P K n k = -1 ∧ ∀ t, 0 ≤ t ∧ t < n → P t = true → sBit k t ≠ 0) ∨ ((0 ≤ sl P K n k ∧ sl P K n k < n) ∧ P (sl P K n k) = true ∧ sBit k (sl P K n k) = 0 ∧ ∀ t, 0 ≤ t ∧ t < n → P t = true → sBit k t = 0 → t = sl P K n k ∨ kB K (sl P K n k) t = true) := by
  have key : ∀ m : Nat, ∀ x, x = iForN (gSl P K k) (-1) m → (x = -1 ∧ ∀ t, 0 ≤ t ∧ t < (m : Int) → P t = true → sBit k t ≠ 0) ∨ ((0 ≤ x ∧ x < (m : Int)) ∧ P x = true ∧ sBit k x = 0 ∧ ∀ t, 0 ≤ t ∧ t < (m : Int) → P t = true → sBit k t = 0 → t = x ∨ kB K x t = true) := by
    intro m
    induction m with
    | zero => intro x hx; exact .inl ⟨hx, fun t ht => by omega⟩
    | succ m ih =>
      intro x hx
      have hx : x = gSl P K k (iForN (gSl P K k) (-1) m) m := hx
      generalize iForN (gSl P K k) (-1) m = y at hx ih
      have ih := ih y rfl
      unfold gSl at hx
      by_cases hc : P m = true ∧ sBit k m = 0 ∧ (y = -1 ∨ K m < K y)
      · rw [if_pos hc] at hx
        subst hx
        refine .inr ⟨by omega, hc.1, hc.2.1, fun t ht hp hb => ?_⟩
        by_cases e : t = m
        · exact .inl e
        · right
          rw [kB_t]
          rcases ih with ⟨_, h2⟩ | ⟨h1, h2, h3, h4⟩
          · exact absurd hb (h2 t (by omega) hp)
          · have h5 := h4 t (by omega) hp hb
            rw [kB_t] at h5
            rcases h5 with h5 | h5
            · subst h5; omega
            · omega
      · rw [if_neg hc] at hx
        subst hx
        rcases ih with ⟨h1, h2⟩ | ⟨h1, h2, h3, h4⟩
        · refine .inl ⟨h1, fun t ht hp hb => ?_⟩
          by_cases e : t = m
          · subst e; exact hc ⟨hp, hb, .inl h1⟩
          · exact h2 t (by omega) hp hb
        · refine .inr ⟨by omega, h2, h3, fun t ht hp hb => ?_⟩
          by_cases e : t = m
          · subst e
            right
            rw [kB_t]
            have : ¬ K (m : Int) < K x := fun z => hc ⟨hp, hb, .inr z⟩
            omega
          · exact h4 t (by omega) hp hb
  have h := key n.toNat _ rfl
  rw [Int.toNat_of_nonneg hn] at h
  exact h
theorem rk_lt {x y : Int} (hx : 0 ≤ x ∧ x < n) (hp : P x = true) (h : kB K x y = true) : rk P K n x < rk P K n y := by
  refine sCnt_lt hx (fun i hi hz => ?_) ?_ ?_
  · rw [Bool.and_eq_true] at hz ⊢
    refine ⟨hz.1, ?_⟩
    rw [kB_t] at h ⊢
    have := kB_t.mp hz.2
    omega
  · rw [Ne, Bool.and_eq_true, kB_t]
    omega
  · rw [Bool.and_eq_true]
    exact ⟨hp, h⟩
theorem rk_inj {x y : Int} (hx : 0 ≤ x ∧ x < n) (hy : 0 ≤ y ∧ y < n) (hp : P x = true) (hq : P y = true) (h : rk P K n x = rk P K n y) : x = y := by
  by_cases e : x = y
  · exact e
  · have : kB K x y = true ∨ kB K y x = true := by rw [kB_t, kB_t]; omega
    rcases this with h1 | h1
    · have := rk_lt hx hp h1; omega
    · have := rk_lt hy hq h1; omega
theorem rk_cnt {x : Int} (hx : 0 ≤ x ∧ x < n) (hp : P x = true) : rk P K n x < sCnt P n := by
  refine sCnt_lt hx (fun i hi hz => ?_) ?_ hp
  · rw [Bool.and_eq_true] at hz
    exact hz.1
  · rw [Ne, Bool.and_eq_true, kB_t]
    omega
theorem sBit_n1 {k t : Int} : sBit k t ≠ 0 ↔ sBit k t = 1 := by have := sBit_01 k t; omega
theorem tk_spec (hn : 0 ≤ n) (i : Nat) : 0 ≤ tkN P K n i ∧ (∀ t, 0 ≤ t ∧ t < n → (sBit (tkN P K n i) t = 1 ↔ P t = true ∧ rk P K n t < i)) ∧ (sCnt (fun t => decide (sBit (tkN P K n i) t = 1)) n = i ∨ sl P K n (tkN P K n i) = -1) ∧ sCnt (fun t => decide (sBit (tkN P K n i) t = 1)) n ≤ i := by
  induction i with
  | zero =>
    have h0 : sCnt (fun t => decide (sBit (tkN P K n 0) t = 1)) n = 0 := by
      have e : sCnt (fun t => decide (sBit (tkN P K n 0) t = 1)) n = sCnt (fun _ => false) n := sCnt_congr (fun t ht => by
        show decide (sBit 0 t = 1) = false
        rw [sBit_0]; rfl)
      rw [e]
      have : ∀ k : Nat, sCntN (fun _ => false) k = 0 := by
        intro k
        induction k with
        | zero => rfl
        | succ k ih => show sCntN (fun _ => false) k + 0 = 0; omega
      exact this n.toNat
    refine ⟨Int.le_refl 0, fun t ht => ?_, .inl h0, by rw [h0]; exact Int.le_refl _⟩
    show sBit 0 t = 1 ↔ _
    rw [sBit_0]
    constructor
    · intro z; omega
    · rintro ⟨_, z⟩
      have := (sCnt_rg (fun u => P u && kB K u t) hn).1
      unfold rk at z
      omega
  | succ i ih =>
    obtain ⟨h1, h2, h3, h4⟩ := ih
    rcases sl_spec (P := P) (K := K) hn (tkN P K n i) with ⟨hs, hs2⟩ | ⟨hs, hs2, hs3, hs4⟩
    · have e : tkN P K n (i + 1) = tkN P K n i := if_pos hs
      rw [e]
      refine ⟨h1, fun t ht => ?_, .inr hs, by omega⟩
      rw [h2 t ht]
      constructor
      · rintro ⟨a, b⟩; exact ⟨a, by omega⟩
      · rintro ⟨a, b⟩
        exact (h2 t ht).mp (sBit_n1.mp (hs2 t ht a))
    · have hne : sl P K n (tkN P K n i) ≠ -1 := by omega
      have e : tkN P K n (i + 1) = sSet (tkN P K n i) (sl P K n (tkN P K n i)) := if_neg hne
      have h3 : sCnt (fun t => decide (sBit (tkN P K n i) t = 1)) n = i := by
        rcases h3 with h3 | h3
        · exact h3
        · exact absurd h3 hne
      rw [e]
      generalize hxx : sl P K n (tkN P K n i) = x at hs hs2 hs3 hs4 hne
      have hrk : rk P K n x = i := by
        rw [← h3]
        unfold rk
        refine sCnt_congr (fun u hu => ?_)
        rw [Bool.eq_iff_iff, Bool.and_eq_true, decide_eq_true_iff]
        constructor
        · rintro ⟨a, b⟩
          by_cases hb : sBit (tkN P K n i) u = 0
          · rcases hs4 u hu a hb with z | z
            · subst z; have := kB_t.mp b; omega
            · have z1 := kB_t.mp b; have z2 := kB_t.mp z; omega
          · exact sBit_n1.mp hb
        · intro hb
          have h5 := (h2 u hu).mp hb
          refine ⟨h5.1, ?_⟩
          by_cases hk : kB K u x = true
          · exact hk
          · have hx2 : ¬ (rk P K n x < i) := fun z => by
              have := (h2 x hs).mpr ⟨hs2, z⟩
              omega
            have : u = x ∨ kB K x u = true := by
              have hk : ¬ (K u < K x ∨ K u = K x ∧ u < x) := fun z => hk (kB_t.mpr z)
              rw [kB_t]
              omega
            rcases this with z | z
            · subst z; omega
            · have := rk_lt hs hs2 z; omega
      have hcnt : sCnt (fun t => decide (sBit (sSet (tkN P K n i) x) t = 1)) n = i + 1 := by
        rw [← h3]
        refine sCnt_one hs (fun u hu => ?_) ?_
        · rw [decide_eq_true_iff, decide_eq_true_iff, sBit_set h1 hs.1 hu.1]
          by_cases z : u = x
          · rw [if_pos z]; exact ⟨fun _ => .inr z, fun _ => rfl⟩
          · rw [if_neg z]; exact ⟨fun y => .inl y, fun y => y.elim id (fun q => absurd q z)⟩
        · rw [Ne, decide_eq_true_iff]; omega
      refine ⟨sSet_nn _ _, fun t ht => ?_, .inl (by rw [hcnt]; rfl), by rw [hcnt]; omega⟩
      rw [sBit_set h1 hs.1 ht.1]
      by_cases z : t = x
      · rw [if_pos z, z]
        exact ⟨fun _ => ⟨hs2, by omega⟩, fun _ => rfl⟩
      · rw [if_neg z, h2 t ht]
        constructor
        · rintro ⟨a, b⟩; exact ⟨a, by omega⟩
        · rintro ⟨a, b⟩
          refine ⟨a, ?_⟩
          have : rk P K n t ≠ i := fun q => z (rk_inj (K := K) ht hs a hs2 (by omega))
          omega
theorem pl_spec (hn : 0 ≤ n) (i : Nat) : (sl P K n (tkN P K n i) = -1 ∧ sCnt P n ≤ i) ∨ ((0 ≤ sl P K n (tkN P K n i) ∧ sl P K n (tkN P K n i) < n) ∧ P (sl P K n (tkN P K n i)) = true ∧ rk P K n (sl P K n (tkN P K n i)) = i ∧ i < sCnt P n) := by
  obtain ⟨h1, h2, h3, h4⟩ := tk_spec (P := P) (K := K) hn i
  rcases sl_spec (P := P) (K := K) hn (tkN P K n i) with ⟨hs, hs2⟩ | ⟨hs, hs2, hs3, hs4⟩
  · left
    refine ⟨hs, Int.le_trans (sCnt_le (fun t ht hp => ?_)) h4⟩
    exact decide_eq_true (sBit_n1.mp (hs2 t ht hp))
  · right
    have e : rk P K n (sl P K n (tkN P K n i)) = i := by
      have a : ¬ rk P K n (sl P K n (tkN P K n i)) < i := fun z => by
        have := (h2 _ hs).mpr ⟨hs2, z⟩
        omega
      have hne : sl P K n (tkN P K n i) ≠ -1 := by omega
      obtain ⟨g1, g2, _, _⟩ := tk_spec (P := P) (K := K) hn (i + 1)
      have e : tkN P K n (i + 1) = sSet (tkN P K n i) (sl P K n (tkN P K n i)) := if_neg hne
      have := (g2 _ hs).mp (by rw [e, sBit_set h1 hs.1 hs.1, if_pos rfl])
      omega
    refine ⟨hs, hs2, e, ?_⟩
    have := rk_cnt (K := K) hs hs2
    omega
/-- who has rank i is the one chosen -/
theorem pl_eq (hn : 0 ≤ n) {i : Nat} {t : Int} (ht : 0 ≤ t ∧ t < n) (hp : P t = true) (h : rk P K n t = i) : sl P K n (tkN P K n i) = t := by
  have := rk_cnt (K := K) ht hp
  rcases pl_spec (P := P) (K := K) hn i with ⟨_, h2⟩ | ⟨h1, h2, h3, _⟩
  · omega
  · exact rk_inj (K := K) h1 ht h2 hp (by omega)
theorem pl_no (hn : 0 ≤ n) {i : Nat} (h : ∀ t, 0 ≤ t ∧ t < n → P t = true → rk P K n t ≠ i) : sl P K n (tkN P K n i) = -1 := by
  rcases pl_spec (P := P) (K := K) hn i with ⟨h1, _⟩ | ⟨h1, h2, h3, _⟩
  · exact h1
  · exact absurd h3 (h _ h1 h2)
end SL
/-- the tasks that are planned for p -/
def pO (S : mS) (p : Int) : Int → Bool := fun t => decide (S 13 t = 0 ∧ S 19 t = p)
theorem next_sl (S : mS) (p k : Int) : sNext S p k = sl (pO S p) (S 20) (S 1 0) k := by
  unfold sNext sl
  refine iFor_congr (fun x i _ => ?_)
  unfold gNext gSl pO
  simp only [decide_eq_true_eq, and_assoc]
theorem tk_sl (S : mS) (p : Int) (i : Nat) : sTkN S p i = tkN (pO S p) (S 20) (S 1 0) i := by
  induction i with
  | zero => rfl
  | succ i ih =>
    show (if sNext S p (sTkN S p i) = -1 then sTkN S p i else sSet (sTkN S p i) (sNext S p (sTkN S p i))) = _
    rw [ih, next_sl]
    rfl
theorem plan_sl (S : mS) (p : Int) (i : Int) : sPlan S p i = sl (pO S p) (S 20) (S 1 0) (tkN (pO S p) (S 20) (S 1 0) i.toNat) := by
  unfold sPlan sTk
  rw [tk_sl, next_sl]
theorem plan_eq {S : mS} {p i t : Int} (hT : 0 ≤ S 1 0) (hi : 0 ≤ i) (ht : 0 ≤ t ∧ t < S 1 0) (h1 : S 13 t = 0 ∧ S 19 t = p) (h : rk (pO S p) (S 20) (S 1 0) t = i) : sPlan S p i = t := by
  rw [plan_sl]
  exact pl_eq hT ht (decide_eq_true h1) (by omega)
theorem plan_no {S : mS} {p i : Int} (hT : 0 ≤ S 1 0) (hi : 0 ≤ i) (h : ∀ t, 0 ≤ t ∧ t < S 1 0 → S 13 t = 0 ∧ S 19 t = p → rk (pO S p) (S 20) (S 1 0) t ≠ i) : sPlan S p i = -1 := by
  rw [plan_sl]
  refine pl_no hT (fun t ht hp => ?_)
  have := h t ht (of_decide_eq_true hp)
  omega
theorem plan_in {S : mS} {p i : Int} (hT : 0 ≤ S 1 0) (hi : 0 ≤ i) (h : sPlan S p i ≠ -1) : (0 ≤ sPlan S p i ∧ sPlan S p i < S 1 0) ∧ S 13 (sPlan S p i) = 0 ∧ S 19 (sPlan S p i) = p := by
  rw [plan_sl] at h ⊢
  rcases pl_spec (P := pO S p) (K := S 20) hT i.toNat with ⟨h1, _⟩ | ⟨h1, h2, _⟩
  · exact absurd h1 h
  · exact ⟨h1, of_decide_eq_true h2⟩
theorem plan_cnt {S : mS} {p i : Int} (hT : 0 ≤ S 1 0) (hi : 0 ≤ i) : sPlan S p i ≠ -1 ↔ i < sCnt (pO S p) (S 1 0) := by
  rw [plan_sl]
  rcases pl_spec (P := pO S p) (K := S 20) hT i.toNat with ⟨h1, h2⟩ | ⟨h1, h2, h3, h4⟩
  · constructor
    · intro z; exact absurd h1 z
    · intro z; omega
  · constructor
    · intro _; omega
    · intro _ z; omega
theorem sCnt_upto (c : Int) : ∀ k : Nat, sCntN (fun i => decide (i < c)) k = if c ≤ 0 then 0 else if c ≤ k then c else k := by
  intro k
  induction k with
  | zero => show (0 : Int) = _; (repeat' split) <;> omega
  | succ k ih =>
    show sCntN (fun i => decide (i < c)) k + (if decide ((k : Int) < c) = true then 1 else 0) = _
    rw [ih]
    simp only [decide_eq_true_eq]
    (repeat' split) <;> omega
theorem kn_cnt {S : mS} {p : Int} (hT : 0 ≤ S 1 0 ∧ S 1 0 ≤ 16) : sKn S p = sCnt (pO S p) (S 1 0) := by
  unfold sKn
  have e : sCnt (fun i => decide (sPlan S p i ≠ -1)) 16 = sCnt (fun i => decide (i < sCnt (pO S p) (S 1 0))) 16 := sCnt_congr (fun i hi => by
    rw [decide_eq_decide]
    exact plan_cnt hT.1 hi.1)
  have h := sCnt_rg (pO S p) hT.1
  rw [e]
  show sCntN _ 16 = _
  rw [sCnt_upto]
  (repeat' split) <;> omega
