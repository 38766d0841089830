/-! 67.rule: the rule's plan, task by task in the order of dues; the rows of persons -/
def opn (S : mS) : Int → Bool := fun t => decide (S 13 t = 0)
theorem opn_t {S : mS} {t : Int} : opn S t = true ↔ S 13 t = 0 := decide_eq_true_iff
theorem due_sl (S : mS) (k : Int) : sDue S k = sl (opn S) (S 16) (S 1 0) k := by
  unfold sDue sl
  refine iFor_congr (fun x i _ => ?_)
  unfold gDue gSl opn
  simp only [decide_eq_true_eq]
theorem sDue_c {S T : mS} (h1 : T 1 = S 1) (h13 : T 13 = S 13) (h16 : T 16 = S 16) (k : Int) : sDue T k = sDue S k := by
  unfold sDue
  have e : gDue T k = gDue S k := by funext x t; unfold gDue; rw [h13, h16]
  rw [e, h1]
def ruS (S : mS) (a : Int → Int) (i : Int) : mS := aFor (fun T j => oOne T (a j)) S i
theorem ruS_ne {S : mS} {a : Int → Int} {i : Int} {g : Nat} (h1 : g ≠ 19) (h2 : g ≠ 20) : ruS S a i g = S g := by
  unfold ruS
  exact aFor_ind (P := fun (T : mS) => T g = S g) rfl (fun T t _ h => (oOne_ne h1 h2).trans h)
theorem ruS_look {S : mS} {a : Int → Int} {i u : Int} {g : Nat} (hi : 0 ≤ i) (h : ∀ j, 0 ≤ j ∧ j < i → a j ≠ u) : ruS S a i g u = S g u := by
  unfold ruS
  refine aFor_ind (P := fun (T : mS) => T g u = S g u) rfl (fun T t ht hT => ?_)
  rw [← hT]
  show sU (sU T 19 (a t) _) 20 (a t) _ g u = T g u
  have hn := h t ht
  unfold sU
  rw [if_neg (fun z => hn z.2.symm), if_neg (fun z => hn z.2.symm)]
/-- a lists the tasks that are not begun, by due -/
abbrev byDue (S : mS) (a : Int → Int) (m : Int) : Prop := m = sCnt (opn S) (S 1 0) ∧ ∀ i, 0 ≤ i ∧ i < m → (0 ≤ a i ∧ a i < S 1 0) ∧ S 13 (a i) = 0 ∧ rk (opn S) (S 16) (S 1 0) (a i) = i
theorem rule_steps {S : mS} {a : Int → Int} {m : Int} (hT : 0 ≤ S 1 0) (h : byDue S a m) : oRule S = ruS S a m := by
  have hm := sCnt_rg (opn S) hT
  have hm1 := h.1
  have key : ∀ i : Nat, (i : Int) ≤ m → aForN gRule (0, S) i = (tkN (opn S) (S 16) (S 1 0) i, ruS S a i) := by
    intro i
    induction i with
    | zero => intro _; rfl
    | succ i ih =>
      intro hi
      show gRule (aForN gRule (0, S) i) i = _
      rw [ih (by omega)]
      obtain ⟨h2, h3, h4⟩ := h.2 i (by omega)
      have e1 : sDue (ruS S a i) (tkN (opn S) (S 16) (S 1 0) i) = a i := by
        rw [sDue_c (ruS_ne (by decide) (by decide)) (ruS_ne (by decide) (by decide)) (ruS_ne (by decide) (by decide)), due_sl]
        exact pl_eq hT h2 (opn_t.mpr h3) h4
      have e2 : sl (opn S) (S 16) (S 1 0) (tkN (opn S) (S 16) (S 1 0) i) = a i := pl_eq hT h2 (opn_t.mpr h3) h4
      unfold gRule
      show (if sDue (ruS S a i) (tkN (opn S) (S 16) (S 1 0) i) = -1 then _ else (sSet (tkN (opn S) (S 16) (S 1 0) i) (sDue (ruS S a i) (tkN (opn S) (S 16) (S 1 0) i)), oOne (ruS S a i) (sDue (ruS S a i) (tkN (opn S) (S 16) (S 1 0) i)))) = _
      rw [e1, if_neg (by omega)]
      refine Prod.ext ?_ ?_
      · show sSet (tkN (opn S) (S 16) (S 1 0) i) (a i) = (if sl (opn S) (S 16) (S 1 0) (tkN (opn S) (S 16) (S 1 0) i) = -1 then _ else _)
        rw [e2, if_neg (by omega)]
      · show oOne (ruS S a i) (a i) = ruS S a ((i + 1 : Nat) : Int)
        unfold ruS
        rw [show ((i + 1 : Nat) : Int) = (i : Int) + 1 by omega, aFor_s _ _ (by omega)]
  have hk := key m.toNat (by omega)
  rw [Int.toNat_of_nonneg (by omega)] at hk
  have hk : aFor gRule (0, S) m = (tkN (opn S) (S 16) (S 1 0) m.toNat, ruS S a m) := hk
  unfold oRule
  rw [aFor_stay (n := m) (by omega) (by omega) (fun i _ => ?_), hk]
  rw [hk]
  have e1 : sDue (ruS S a m) (tkN (opn S) (S 16) (S 1 0) m.toNat) = -1 := by
    rw [sDue_c (ruS_ne (by decide) (by decide)) (ruS_ne (by decide) (by decide)) (ruS_ne (by decide) (by decide)), due_sl]
    rcases pl_spec (P := opn S) (K := S 16) hT m.toNat with ⟨h1, _⟩ | ⟨_, _, _, h4⟩
    · exact h1
    · omega
  unfold gRule
  show (if sDue (ruS S a m) (tkN (opn S) (S 16) (S 1 0) m.toNat) = -1 then _ else _) = _
  rw [e1, if_pos rfl]
/-! inserting behind those that are not later due -/
theorem rk_s {P : Int → Bool} {K : Int → Int} {n t : Int} (hn : 0 ≤ n) : rk P K (n + 1) t = rk P K n t + (if P n = true ∧ kB K n t = true then 1 else 0) := by
  unfold rk
  rw [sCnt_s _ hn]
  congr 1
  simp only [Bool.and_eq_true]
/-- a lists, by due and number, those below n that P holds of -/
abbrev lst (P : Int → Bool) (K : Int → Int) (n : Int) (a : Int → Int) (m : Int) : Prop := m = sCnt P n ∧ ∀ i, 0 ≤ i ∧ i < m → (0 ≤ a i ∧ a i < n) ∧ P (a i) = true ∧ rk P K n (a i) = i
/-- a with v put in at the place c, of m -/
def ins (a : Int → Int) (c v : Int) : Int → Int := fun i => if i < c then a i else if i = c then v else a (i - 1)
theorem lst_no {P : Int → Bool} {K : Int → Int} {n m : Int} {a : Int → Int} (hn : 0 ≤ n) (h : lst P K n a m) (hp : P n ≠ true) : lst P K (n + 1) a m := by
  refine ⟨by rw [sCnt_s _ hn, if_neg hp, h.1]; omega, fun i hi => ?_⟩
  obtain ⟨h1, h2, h3⟩ := h.2 i hi
  refine ⟨by omega, h2, ?_⟩
  rw [rk_s hn, if_neg (fun z => hp z.1), h3]
  omega
theorem lst_all {P : Int → Bool} {K : Int → Int} {n m : Int} {a : Int → Int} (hn : 0 ≤ n) (h : lst P K n a m) {u : Int} (hu : 0 ≤ u ∧ u < n) (hp : P u = true) : (0 ≤ rk P K n u ∧ rk P K n u < m) ∧ a (rk P K n u) = u := by
  have h1 := rk_cnt (K := K) hu hp
  have h2 : 0 ≤ rk P K n u := (sCnt_rg _ hn).1
  have h3 := h.1
  obtain ⟨k1, k2, k3⟩ := h.2 (rk P K n u) (by omega)
  exact ⟨by omega, rk_inj (K := K) k1 hu k2 hp k3⟩
theorem lst_mono {P : Int → Bool} {K : Int → Int} {n m : Int} {a : Int → Int} (h : lst P K n a m) {i j : Int} (hi : 0 ≤ i) (hij : i ≤ j) (hj : j < m) : K (a i) ≤ K (a j) := by
  obtain ⟨h1, h2, h3⟩ := h.2 i (by omega)
  obtain ⟨k1, k2, k3⟩ := h.2 j (by omega)
  by_cases e : K (a j) < K (a i)
  · have := rk_lt (P := P) k1 k2 (kB_t (K := K).mpr (.inl e))
    omega
  · omega
theorem lst_ins {P : Int → Bool} {K : Int → Int} {n m c : Int} {a : Int → Int} (hn : 0 ≤ n) (h : lst P K n a m) (hp : P n = true) (hc : 0 ≤ c ∧ c ≤ m) (hlo : c = 0 ∨ K (a (c - 1)) ≤ K n) (hhi : ∀ j, c ≤ j ∧ j < m → K n < K (a j)) : lst P K (n + 1) (ins a c n) (m + 1) := by
  have hm : m + 1 = sCnt P (n + 1) := by rw [sCnt_s _ hn, if_pos hp, h.1]
  refine ⟨hm, fun i hi => ?_⟩
  have hlo2 : ∀ j, 0 ≤ j ∧ j < c → K (a j) ≤ K n := by
    intro j hj
    rcases hlo with z | z
    · omega
    · exact Int.le_trans (lst_mono h hj.1 (by omega) (by omega)) z
  unfold ins
  by_cases e1 : i < c
  · rw [if_pos e1]
    obtain ⟨h1, h2, h3⟩ := h.2 i (by omega)
    refine ⟨by omega, h2, ?_⟩
    rw [rk_s hn, if_neg, h3]
    · omega
    · rintro ⟨_, z⟩
      have z := kB_t.mp z
      have := hlo2 i (by omega)
      omega
  · rw [if_neg e1]
    by_cases e2 : i = c
    · rw [if_pos e2]
      refine ⟨by omega, hp, ?_⟩
      rw [rk_s hn, if_neg, e2]
      · -- the rank of the new one
        by_cases c0 : c = 0
        · have : rk P K n n = sCnt (fun _ => false) n := by
            unfold rk
            refine sCnt_congr (fun u hu => ?_)
            rw [Bool.eq_iff_iff]
            constructor
            · intro z
              rw [Bool.and_eq_true] at z
              obtain ⟨k1, k2⟩ := lst_all hn h hu z.1
              have := hhi (rk P K n u) (by omega)
              rw [k2] at this
              have := kB_t.mp z.2
              omega
            · intro z; exact absurd z (by decide)
          have e0 : ∀ k : Nat, sCntN (fun _ => false) k = 0 := by
            intro k
            induction k with
            | zero => rfl
            | succ k ih => show sCntN (fun _ => false) k + 0 = 0; omega
          rw [this]
          show sCntN _ _ + 0 = c
          rw [e0]
          omega
        · obtain ⟨g1, g2, g3⟩ := h.2 (c - 1) (by omega)
          have : rk P K n n = rk P K n (a (c - 1)) + 1 := by
            unfold rk
            refine sCnt_one g1 (fun u hu => ?_) ?_
            · rw [Bool.and_eq_true, Bool.and_eq_true]
              constructor
              · rintro ⟨z1, z2⟩
                obtain ⟨k1, k2⟩ := lst_all hn h hu z1
                by_cases q : rk P K n u < c
                · by_cases q2 : rk P K n u = c - 1
                  · right
                    rw [← k2, q2]
                  · left
                    refine ⟨z1, ?_⟩
                    by_cases q3 : kB K u (a (c - 1)) = true
                    · exact q3
                    · have q3 : ¬ (K u < K (a (c - 1)) ∨ K u = K (a (c - 1)) ∧ u < a (c - 1)) := fun z => q3 (kB_t.mpr z)
                      have q4 : u = a (c - 1) ∨ kB K (a (c - 1)) u = true := by rw [kB_t]; omega
                      rcases q4 with q4 | q4
                      · rw [q4] at q2; omega
                      · have := rk_lt (P := P) g1 g2 q4
                        omega
                · have := hhi (rk P K n u) (by omega)
                  rw [k2] at this
                  have := kB_t.mp z2
                  omega
              · rintro (⟨z1, z2⟩ | z)
                · refine ⟨z1, ?_⟩
                  rw [kB_t] at z2 ⊢
                  have := hlo2 (c - 1) (by omega)
                  omega
                · rw [z]
                  refine ⟨g2, ?_⟩
                  rw [kB_t]
                  have := hlo2 (c - 1) (by omega)
                  omega
            · rw [Ne, Bool.and_eq_true, kB_t]
              omega
          omega
      · rintro ⟨_, z⟩
        have z := kB_t.mp z
        omega
    · rw [if_neg e2]
      obtain ⟨h1, h2, h3⟩ := h.2 (i - 1) (by omega)
      refine ⟨by omega, h2, ?_⟩
      rw [rk_s hn, if_pos, h3]
      · omega
      · exact ⟨hp, kB_t.mpr (.inl (hhi (i - 1) (by omega)))⟩
theorem lst_0 (P : Int → Bool) (K : Int → Int) (a : Int → Int) : lst P K 0 a 0 := ⟨rfl, fun i hi => by omega⟩
theorem lst_c {P : Int → Bool} {K : Int → Int} {n m : Int} {a b : Int → Int} (h : lst P K n a m) (e : ∀ i, 0 ≤ i ∧ i < m → b i = a i) : lst P K n b m := ⟨h.1, fun i hi => by rw [e i hi]; exact h.2 i hi⟩
theorem lst_due {S : mS} {a : Int → Int} {m : Int} (h : lst (opn S) (S 16) (S 1 0) a m) : byDue S a m := ⟨h.1, fun i hi => by
  obtain ⟨h1, h2, h3⟩ := h.2 i hi
  exact ⟨h1, opn_t.mp h2, h3⟩⟩
theorem byDue_inj {S : mS} {a : Int → Int} {m i j : Int} (h : byDue S a m) (hi : 0 ≤ i ∧ i < m) (hj : 0 ≤ j ∧ j < m) (e : a i = a j) : i = j := by
  have h1 := (h.2 i hi).2.2
  have h2 := (h.2 j hj).2.2
  rw [e, h2] at h1
  exact h1.symm
/-! the rows -/
def rE (S : mS) (p : Int) : Int := if sLast S p = -1 then sReady S p else S 20 (sLast S p) + S 15 (sLast S p)
def rZ (S : mS) (p : Int) : Int := if sLast S p = -1 then S 9 p else S 17 (sLast S p)
theorem behind_row (S : mS) (p t : Int) : sBehind S p t = sStart S p t (rE S p) (rZ S p) := by
  unfold sBehind rE rZ
  by_cases h : sLast S p = -1
  · rw [if_pos h, if_pos h, if_pos h]; rfl
  · rw [if_neg h, if_neg h, if_neg h]
theorem last_sl (S : mS) (p : Int) : sLast S p = sl (pO S p) (fun u => -(S 20 u)) (S 1 0) 0 := by
  unfold sLast sl
  refine iFor_congr (fun x i _ => ?_)
  unfold gLast gSl pO
  simp only [decide_eq_true_eq, sBit_0, and_assoc, true_and, Int.neg_lt_neg_iff]
theorem last_spec {S : mS} {p : Int} (hT : 0 ≤ S 1 0) : (sLast S p = -1 ∧ ∀ t, 0 ≤ t ∧ t < S 1 0 → ¬ (S 13 t = 0 ∧ S 19 t = p)) ∨ ((0 ≤ sLast S p ∧ sLast S p < S 1 0) ∧ (S 13 (sLast S p) = 0 ∧ S 19 (sLast S p) = p) ∧ ∀ t, 0 ≤ t ∧ t < S 1 0 → S 13 t = 0 ∧ S 19 t = p → t = sLast S p ∨ S 20 t < S 20 (sLast S p) ∨ S 20 t = S 20 (sLast S p) ∧ sLast S p < t) := by
  rw [last_sl]
  rcases sl_spec (P := pO S p) (K := fun u => -(S 20 u)) hT 0 with ⟨h1, h2⟩ | ⟨h1, h2, h3, h4⟩
  · exact .inl ⟨h1, fun t ht hp => h2 t ht (decide_eq_true hp) (sBit_0 t)⟩
  · refine .inr ⟨h1, of_decide_eq_true h2, fun t ht hp => ?_⟩
    rcases h4 t ht (decide_eq_true hp) (sBit_0 t) with z | z
    · exact .inl z
    · have z := kB_t.mp z
      right
      omega
theorem last_is {S : mS} {p x : Int} (hT : 0 ≤ S 1 0) (hx : 0 ≤ x ∧ x < S 1 0) (hp : S 13 x = 0 ∧ S 19 x = p) (h : ∀ t, 0 ≤ t ∧ t < S 1 0 → S 13 t = 0 ∧ S 19 t = p → t ≠ x → S 20 t < S 20 x) : sLast S p = x := by
  rcases last_spec (S := S) (p := p) hT with ⟨_, h2⟩ | ⟨h1, h2, h3⟩
  · exact absurd hp (h2 x hx)
  · by_cases e : sLast S p = x
    · exact e
    · have z1 := h _ h1 h2 e
      rcases h3 x hx hp with z | z
      · exact z.symm
      · omega
theorem last_c {S T : mS} {p : Int} (h1 : T 1 0 = S 1 0) (h13 : T 13 = S 13) (h : ∀ t, 0 ≤ t ∧ t < S 1 0 → (S 13 t = 0 ∧ T 19 t = p ↔ S 13 t = 0 ∧ S 19 t = p) ∧ (S 13 t = 0 ∧ S 19 t = p → T 20 t = S 20 t)) : sLast T p = sLast S p := by
  have key : ∀ k : Nat, (k : Int) ≤ S 1 0 → iForN (gLast T p) (-1) k = iForN (gLast S p) (-1) k ∧ (iForN (gLast S p) (-1) k = -1 ∨ ((0 ≤ iForN (gLast S p) (-1) k ∧ iForN (gLast S p) (-1) k < k) ∧ S 13 (iForN (gLast S p) (-1) k) = 0 ∧ S 19 (iForN (gLast S p) (-1) k) = p)) := by
    intro k
    induction k with
    | zero => intro _; exact ⟨rfl, .inl rfl⟩
    | succ k ih =>
      intro hk
      obtain ⟨i1, i2⟩ := ih (by omega)
      show gLast T p (iForN (gLast T p) (-1) k) k = gLast S p (iForN (gLast S p) (-1) k) k ∧ (gLast S p (iForN (gLast S p) (-1) k) k = -1 ∨ ((0 ≤ gLast S p (iForN (gLast S p) (-1) k) k ∧ gLast S p (iForN (gLast S p) (-1) k) k < ((k + 1 : Nat) : Int)) ∧ S 13 (gLast S p (iForN (gLast S p) (-1) k) k) = 0 ∧ S 19 (gLast S p (iForN (gLast S p) (-1) k) k) = p))
      rw [i1]
      generalize iForN (gLast S p) (-1) k = x at i2
      obtain ⟨a1, a2⟩ := h k (by omega)
      unfold gLast
      rw [h13]
      by_cases hp : S 13 k = 0 ∧ S 19 k = p
      · have ek := a2 hp
        have hp2 := a1.mpr hp
        have ex : x = -1 ∨ T 20 x = S 20 x := by
          rcases i2 with z | ⟨z1, z2⟩
          · exact .inl z
          · exact .inr ((h x (by omega)).2 z2)
        have ec : (x = -1 ∨ T 20 x < T 20 k) ↔ (x = -1 ∨ S 20 x < S 20 k) := by omega
        by_cases hc : x = -1 ∨ S 20 x < S 20 k
        · rw [if_pos ⟨hp2.1, hp2.2, ec.mpr hc⟩, if_pos ⟨hp.1, hp.2, hc⟩]
          exact ⟨rfl, .inr ⟨by omega, hp⟩⟩
        · rw [if_neg (fun z => hc (ec.mp z.2.2)), if_neg (fun z => hc z.2.2)]
          refine ⟨rfl, ?_⟩
          rcases i2 with z | ⟨z1, z2⟩
          · exact .inl z
          · exact .inr ⟨by omega, z2⟩
      · rw [if_neg (fun z => hp (a1.mp ⟨z.1, z.2.1⟩)), if_neg (fun z => hp ⟨z.1, z.2.1⟩)]
        refine ⟨rfl, ?_⟩
        rcases i2 with z | ⟨z1, z2⟩
        · exact .inl z
        · exact .inr ⟨by omega, z2⟩
  by_cases h0 : 0 ≤ S 1 0
  · have := (key (S 1 0).toNat (by omega)).1
    unfold sLast iFor
    rw [h1]
    exact this
  · unfold sLast iFor
    rw [h1, show (S 1 0).toNat = 0 by omega]
    rfl
theorem start_ge {S : mS} {p t r z : Int} (hw : 0 ≤ S 12 (4 * z + S 17 t)) (h : sStart S p t r z ≠ -1) : r ≤ sStart S p t r z := by
  unfold sStart at h ⊢
  split
  · split
    · rename_i h1 h2
      rw [if_pos h1, if_pos h2] at h
      omega
    · omega
  · split
    · rename_i h1 h2
      rw [if_neg h1, if_pos h2] at h
      omega
    · omega
theorem one_spec (S : mS) (t : Int) (hP : 0 ≤ S 0 0) : ((sOne S t).1 = -1 ∧ (sOne S t).2 = -1) ∨ ((0 ≤ (sOne S t).1 ∧ (sOne S t).1 < S 0 0) ∧ (sOne S t).2 = sBehind S (sOne S t).1 t ∧ (sOne S t).2 ≠ -1) := by
  unfold sOne
  refine aFor_ind (P := fun (f : Int × Int) => (f.1 = -1 ∧ f.2 = -1) ∨ ((0 ≤ f.1 ∧ f.1 < S 0 0) ∧ f.2 = sBehind S f.1 t ∧ f.2 ≠ -1)) (.inl ⟨rfl, rfl⟩) (fun f p hp hf => ?_)
  unfold gOne
  split
  · rename_i h
    exact .inr ⟨hp, rfl, h.2.1⟩
  · exact hf
theorem row_none {S : mS} {t : Int} (h : (sOne S t).1 = -1 ∧ (sOne S t).2 = -1) (h19 : S 19 t = -1) (h20 : S 20 t = -1) : oOne S t = S := by
  funext g i
  unfold oOne
  rw [h.1, h.2]
  unfold sU
  split
  · rename_i z; rw [z.1, z.2, h20]
  · split
    · rename_i z; rw [z.1, z.2, h19]
    · rfl
section ROW
variable {S : mS} {t : Int}
theorem one_l (p : Int) : oOne S t 19 p = if p = t then (sOne S t).1 else S 19 p := by
  unfold oOne
  rw [sU_f (by decide)]
  unfold sU
  simp only [true_and]
theorem one_s (p : Int) : oOne S t 20 p = if p = t then (sOne S t).2 else S 20 p := by
  unfold oOne
  show (if (20 : Nat) = 20 ∧ p = t then _ else sU S 19 t _ 20 p) = _
  rw [sU_f (by decide)]
  simp only [true_and]
theorem row_other {p : Int} (ht : 0 ≤ t ∧ t < S 1 0) (h13 : S 13 t = 0) (h19 : S 19 t = -1) (hp : 0 ≤ p) (hq : p ≠ (sOne S t).1) (hb : S 11 p ≠ t) : rE (oOne S t) p = rE S p ∧ rZ (oOne S t) p = rZ S p ∧ sLoad (oOne S t) p = sLoad S p := by
  have e0 : ∀ g, g ≠ 19 → g ≠ 20 → oOne S t g = S g := fun g a b => oOne_ne a b
  have hl : sLast (oOne S t) p = sLast S p := by
    refine last_c (by rw [e0 1 (by decide) (by decide)]) (e0 13 (by decide) (by decide)) (fun u hu => ?_)
    rw [one_l, one_s]
    by_cases e : u = t
    · subst e
      rw [if_pos rfl]
      refine ⟨⟨fun z => absurd z.2.symm hq, fun z => ?_⟩, fun z => ?_⟩ <;> omega
    · rw [if_neg e, if_neg e]
      exact ⟨Iff.rfl, fun _ => rfl⟩
  have hlt : sLast S p = -1 ∨ sLast S p ≠ t := by
    rcases last_spec (S := S) (p := p) (by omega) with ⟨z, _⟩ | ⟨_, z, _⟩
    · exact .inl z
    · right
      intro y
      rw [y] at z
      omega
  refine ⟨?_, ?_, ?_⟩
  · unfold rE
    rw [hl]
    by_cases e : sLast S p = -1
    · rw [if_pos e, if_pos e]
      unfold sReady
      rw [e0 11 (by decide) (by decide), e0 2 (by decide) (by decide), e0 5 (by decide) (by decide), e0 15 (by decide) (by decide), one_s, if_neg hb]
    · rw [if_neg e, if_neg e, one_s, if_neg (by omega), e0 15 (by decide) (by decide)]
  · unfold rZ
    rw [hl, e0 9 (by decide) (by decide), e0 17 (by decide) (by decide)]
  · unfold sLoad
    rw [e0 1 (by decide) (by decide)]
    refine sCnt_congr (fun u hu => ?_)
    rw [one_l, decide_eq_decide]
    by_cases e : u = t
    · subst e
      rw [if_pos rfl]
      constructor
      · intro z; exact absurd z.symm hq
      · intro z; omega
    · rw [if_neg e]
theorem row_own (hI : sI S) (hT : 0 ≤ S 1 0 ∧ S 1 0 ≤ 16) (ht : 0 ≤ t ∧ t < S 1 0) (h13 : S 13 t = 0) (h19 : S 19 t = -1) (hP : 0 ≤ S 0 0 ∧ S 0 0 ≤ 4) (hn : 0 ≤ S 2 0 ∧ S 2 0 ≤ 100000) (hs : ∀ u, 0 ≤ u ∧ u < S 1 0 → 1 ≤ S 15 u) (hq : (sOne S t).1 ≠ -1) : rE (oOne S t) (sOne S t).1 = (sOne S t).2 + S 15 t ∧ rZ (oOne S t) (sOne S t).1 = S 17 t ∧ sLoad (oOne S t) (sOne S t).1 = sLoad S (sOne S t).1 + 1 := by
  have e0 : ∀ g, g ≠ 19 → g ≠ 20 → oOne S t g = S g := fun g a b => oOne_ne a b
  rcases one_spec S t hP.1 with ⟨z, _⟩ | ⟨q1, q2, q3⟩
  · exact absurd z hq
  have r17 : 0 ≤ S 17 t ∧ S 17 t ≤ 3 := hI.r 17 _ (n := 16) (by decide) rfl ⟨by omega, by omega⟩
  have hl : sLast (oOne S t) (sOne S t).1 = t := by
    refine last_is (by rw [e0 1 (by decide) (by decide)]; omega) (by rw [e0 1 (by decide) (by decide)]; exact ht) ⟨by rw [e0 13 (by decide) (by decide)]; exact h13, by rw [one_l, if_pos rfl]⟩ (fun u hu hp hne => ?_)
    rw [e0 1 (by decide) (by decide)] at hu
    rw [e0 13 (by decide) (by decide), one_l, if_neg hne] at hp
    rw [one_s, one_s, if_neg hne, if_pos rfl]
    rcases last_spec (S := S) (p := (sOne S t).1) (by omega) with ⟨_, z⟩ | ⟨z1, z2, z3⟩
    · exact absurd hp (z u hu)
    · have hne2 : sLast S (sOne S t).1 ≠ -1 := by omega
      have e1 := behind_row S (sOne S t).1 t
      have r3 : 0 ≤ S 17 (sLast S (sOne S t).1) ∧ S 17 (sLast S (sOne S t).1) ≤ 3 := hI.r 17 _ (n := 16) (by decide) rfl ⟨by omega, by omega⟩
      have hw : 0 ≤ S 12 (4 * rZ S (sOne S t).1 + S 17 t) := by
        have ez : rZ S (sOne S t).1 = S 17 (sLast S (sOne S t).1) := by unfold rZ; rw [if_neg hne2]
        rw [ez]
        have : 0 ≤ S 12 (4 * S 17 (sLast S (sOne S t).1) + S 17 t) ∧ S 12 (4 * S 17 (sLast S (sOne S t).1) + S 17 t) ≤ 1000 := hI.r 12 _ (n := 16) (by decide) rfl ⟨by omega, by omega⟩
        exact this.1
      have hge := start_ge (S := S) (p := (sOne S t).1) (t := t) (r := rE S (sOne S t).1) (z := rZ S (sOne S t).1) hw (by rw [← e1, ← q2]; exact q3)
      rw [← e1, ← q2] at hge
      have ee : rE S (sOne S t).1 = S 20 (sLast S (sOne S t).1) + S 15 (sLast S (sOne S t).1) := by unfold rE; rw [if_neg hne2]
      have hs1 := hs _ z1
      have z4 := z3 u hu hp
      rcases z4 with z4 | z4
      · rw [z4]; omega
      · omega
  refine ⟨?_, ?_, ?_⟩
  · unfold rE
    rw [hl, if_neg (by omega), one_s, if_pos rfl, e0 15 (by decide) (by decide)]
  · unfold rZ
    rw [hl, if_neg (by omega), e0 17 (by decide) (by decide)]
  · unfold sLoad
    rw [e0 1 (by decide) (by decide)]
    refine sCnt_one ht (fun u hu => ?_) ?_
    · rw [decide_eq_true_iff, decide_eq_true_iff, one_l]
      by_cases e : u = t
      · rw [if_pos e]; exact ⟨fun _ => .inr e, fun _ => rfl⟩
      · rw [if_neg e]; exact ⟨fun z => .inl z, fun z => z.elim id (fun y => absurd y e)⟩
    · rw [Ne, decide_eq_true_iff]
      omega
end ROW
