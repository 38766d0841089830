/-! 91.b.build: what a constructor lays, step by step; the old heap's arrays -/
/-- n fields of b are laid: the i-th is fx i and refers to the cell off i of those that are new; the new cells' kinds, lengths, values -/
def bI (w0 : jx_W) (b : Nat) (off fx K Ln : Nat → Nat) (P : Nat → (Nat → Value) → Prop) (n : Nat) (w : jx_W) : Prop :=
  jx_n w = jx_n w0 + off n ∧ (∀ a, a < jx_n w0 → jx_k w a = jx_k w0 a ∧ jx_l w a = jx_l w0 a ∧ (a ≠ b → jx_v w a = jx_v w0 a)) ∧ (∀ i, i < n → jx_v w b (fx i) = .ref (jx_n w0 + off i)) ∧ (∀ s, (∀ i, i < n → s ≠ fx i) → jx_v w b s = jx_v w0 b s) ∧ (∀ o, o < off n → jx_k w (jx_n w0 + o) = K o ∧ jx_l w (jx_n w0 + o) = Ln o ∧ P o (jx_v w (jx_n w0 + o))) ∧ jx_c w0 ≤ jx_c w + off n ∧ jx_s w0 ≤ jx_s w + 1000 * off n
section BI
variable {w0 w w1 : jx_W} {b n : Nat} {off fx K Ln : Nat → Nat} {P : Nat → (Nat → Value) → Prop}
theorem bI.zero (h0 : off 0 = 0) : bI w0 b off fx K Ln P 0 w0 := by
  refine ⟨by rw [h0, Nat.add_zero], fun a _ => ⟨rfl, rfl, fun _ => rfl⟩, fun i hi => absurd hi (Nat.not_lt_zero i), fun s _ => rfl, fun o ho => ?_, by omega, by omega⟩
  rw [h0] at ho
  exact absurd ho (Nat.not_lt_zero o)
theorem bI.cs (h : bI w0 b off fx K Ln P n w) {k : Nat} (hk : off n = k) : jx_n w = jx_n w0 + k ∧ jx_c w0 ≤ jx_c w + k ∧ jx_s w0 ≤ jx_s w + 1000 * k := by
  subst hk
  exact ⟨h.1, h.2.2.2.2.2.1, h.2.2.2.2.2.2⟩
theorem bI.kb (h : bI w0 b off fx K Ln P n w) (hb : b < jx_n w0) : jx_k w b = jx_k w0 b := (h.2.1 b hb).1
theorem bI.step (h : bI w0 b off fx K Ln P n w) (hb : b < jx_n w0) (hfx : ∀ i, i < n → fx i ≠ fx n) (hoff : off n ≤ off (n + 1)) (e1 : jx_n w1 = jx_n w0 + off (n + 1)) (e2 : ∀ a, a < jx_n w → jx_k w1 a = jx_k w a ∧ jx_l w1 a = jx_l w a ∧ jx_v w1 a = jx_v w a) (e3 : ∀ o, off n ≤ o → o < off (n + 1) → jx_k w1 (jx_n w0 + o) = K o ∧ jx_l w1 (jx_n w0 + o) = Ln o ∧ P o (jx_v w1 (jx_n w0 + o))) (e4 : jx_c w ≤ jx_c w1 + (off (n + 1) - off n)) (e5 : jx_s w ≤ jx_s w1 + 1000 * (off (n + 1) - off n)) : bI w0 b off fx K Ln P (n + 1) (jx_put w1 b (fx n) (.ref (jx_n w))) := by
  obtain ⟨h1, h2, h3, h4, h5, h6, h7⟩ := h
  have hbw : b < jx_n w := by omega
  have ev : ∀ x, x ≠ b → jx_v (jx_put w1 b (fx n) (.ref (jx_n w))) x = jx_v w1 x := fun x hx => by
    funext y
    rw [put_v, if_neg (fun z => hx z.1)]
  have evb : ∀ s, jx_v (jx_put w1 b (fx n) (.ref (jx_n w))) b s = if s = fx n then .ref (jx_n w) else jx_v w b s := fun s => by
    rw [put_v, (e2 b hbw).2.2]
    by_cases e : s = fx n
    · rw [if_pos ⟨rfl, e⟩, if_pos e]
    · rw [if_neg (fun z => e z.2), if_neg e]
  refine ⟨e1, fun a ha => ?_, fun i hi => ?_, fun s hs => ?_, fun o ho => ?_, ?_, ?_⟩
  · obtain ⟨k1, k2, k3⟩ := h2 a ha
    obtain ⟨g1, g2, g3⟩ := e2 a (by omega)
    exact ⟨g1.trans k1, g2.trans k2, fun hne => (ev a hne).trans (g3.trans (k3 hne))⟩
  · rw [evb]
    by_cases e : i = n
    · subst e
      rw [if_pos rfl, h1]
    · rw [if_neg (hfx i (by omega)), h3 i (by omega)]
  · rw [evb, if_neg (hs n (by omega)), h4 s (fun i hi => hs i (by omega))]
  · have hob : jx_n w0 + o ≠ b := by omega
    rw [ev _ hob]
    by_cases e : off n ≤ o
    · exact e3 o e ho
    · obtain ⟨k1, k2, k3⟩ := h5 o (by omega)
      obtain ⟨g1, g2, g3⟩ := e2 (jx_n w0 + o) (by omega)
      refine ⟨g1.trans k1, g2.trans k2, ?_⟩
      rw [g3]
      exact k3
  · show jx_c w0 ≤ jx_c w1 + off (n + 1)
    omega
  · show jx_s w0 ≤ jx_s w1 + 1000 * off (n + 1)
    omega
/-- one new cell -/
theorem bI.new (h : bI w0 b off fx K Ln P n w) (hb : b < jx_n w0) (hfx : ∀ i, i < n → fx i ≠ fx n) (hoff : off (n + 1) = off n + 1) {kd len sl : Nat} {f : Nat → Value} (hK : K (off n) = kd) (hL : Ln (off n) = len) (hP : P (off n) f) (hsl : sl ≤ 1000) : bI w0 b off fx K Ln P (n + 1) (jx_put (jx_new w kd len sl f) b (fx n) (.ref (jx_n w))) := by
  have h1 := h.1
  refine h.step hb hfx (by omega) ?_ (fun a ha => ⟨if_neg (show ¬ a = jx_n w by omega), if_neg (show ¬ a = jx_n w by omega), if_neg (show ¬ a = jx_n w by omega)⟩) (fun o ho1 ho2 => ?_) ?_ ?_
  · show jx_n w + 1 = _
    omega
  · have eo : o = off n := by omega
    subst eo
    rw [← h1]
    refine ⟨(if_pos rfl).trans hK.symm, (if_pos rfl).trans hL.symm, ?_⟩
    rw [new_v, if_pos rfl]
    exact hP
  · show jx_c w ≤ jx_c w - 1 + _
    omega
  · show jx_s w ≤ jx_s w - sl + _
    omega
/-- an array of arrays -/
theorem bI.mu (h : bI w0 b off fx K Ln P n w) (hb : b < jx_n w0) (hfx : ∀ i, i < n → fx i ≠ fx n) {ko ki N M : Nat} {dv : Value} (hoff : off (n + 1) = off n + 1 + N) (hK : K (off n) = ko) (hL : Ln (off n) = N) (hP : P (off n) (fun i => if i < N then .ref (jx_n w0 + off n + 1 + i) else .null)) (hi : ∀ i, i < N → K (off n + 1 + i) = ki ∧ Ln (off n + 1 + i) = M ∧ P (off n + 1 + i) (fun _ => dv)) (hsl : N + N * M ≤ 1000 * (1 + N)) : bI w0 b off fx K Ln P (n + 1) (jx_put (jx_mu w ko ki N M dv) b (fx n) (.ref (jx_n w))) := by
  have h1 := h.1
  refine h.step hb hfx (by omega) ?_ (fun a ha => ?_) (fun o ho1 ho2 => ?_) ?_ ?_
  · show jx_n w + 1 + N = _
    omega
  · have z1 : ¬ a = jx_n w := by omega
    have z2 : ¬ (jx_n w < a ∧ a < jx_n w + 1 + N) := by omega
    rw [mu_k, mu_l, mu_v, if_neg z1, if_neg z1, if_neg z1, if_neg z2, if_neg z2, if_neg z2]
    exact ⟨rfl, rfl, rfl⟩
  · by_cases eo : o = off n
    · subst eo
      rw [mu_k, mu_l, mu_v, if_pos h1.symm, if_pos h1.symm, if_pos h1.symm]
      refine ⟨hK.symm, hL.symm, ?_⟩
      rw [h1]
      exact hP
    · obtain ⟨q1, q2, q3⟩ := hi (o - off n - 1) (by omega)
      rw [show off n + 1 + (o - off n - 1) = o by omega] at q1 q2 q3
      have z1 : ¬ jx_n w0 + o = jx_n w := by omega
      have z2 : jx_n w < jx_n w0 + o ∧ jx_n w0 + o < jx_n w + 1 + N := by omega
      rw [mu_k, mu_l, mu_v, if_neg z1, if_neg z1, if_neg z1, if_pos z2, if_pos z2, if_pos z2]
      exact ⟨q1.symm, q2.symm, q3⟩
  · show jx_c w ≤ jx_c w - (1 + N) + _
    omega
  · show jx_s w ≤ jx_s w - (N + N * M) + _
    generalize N * M = nm at hsl ⊢
    omega
/-- a new list that holds nothing -/
theorem bI.list (h : bI w0 b off fx K Ln P n w) (hb : b < jx_n w0) (hfx : ∀ i, i < n → fx i ≠ fx n) (hoff : off (n + 1) = off n + 1) {z : Nat} (hK : K (off n) = 7) (hL : Ln (off n) = 0) (hP : ∀ V : Nat → Value, V 0 = .ref z → V 1 = .int 0 → V 2 = .int 0 → P (off n) V) : bI w0 b off fx K Ln P (n + 1) (jx_put (jx_put (jx_put (jx_new w 7 0 3 jx_d6) (jx_n w) 2 (.int (iI 0))) (jx_n w) 0 (.ref z)) b (fx n) (.ref (jx_n w))) := by
  have h1 := h.1
  have ev : ∀ x y, jx_v (jx_put (jx_put (jx_new w 7 0 3 jx_d6) (jx_n w) 2 (.int (iI 0))) (jx_n w) 0 (.ref z)) x y = if x = jx_n w ∧ y = 0 then .ref z else if x = jx_n w ∧ y = 2 then .int (iI 0) else if x = jx_n w then jx_d6 y else jx_v w x y := fun x y => by
    rw [put_v, put_v, new_v]
    by_cases e : x = jx_n w
    · rw [if_pos e, if_pos e]
    · rw [if_neg e, if_neg e]
  refine h.step hb hfx (by omega) ?_ (fun a ha => ⟨if_neg (show ¬ a = jx_n w by omega), if_neg (show ¬ a = jx_n w by omega), ?_⟩) (fun o ho1 ho2 => ?_) ?_ ?_
  · show jx_n w + 1 = _
    omega
  · funext y
    rw [ev, if_neg (by omega), if_neg (by omega), if_neg (by omega)]
  · have eo : o = off n := by omega
    subst eo
    rw [← h1]
    refine ⟨(if_pos rfl).trans hK.symm, (if_pos rfl).trans hL.symm, hP _ ?_ ?_ ?_⟩
    · rw [ev, if_pos ⟨rfl, rfl⟩]
    · rw [ev, if_neg (by omega), if_neg (by omega), if_pos rfl]
      rfl
    · rw [ev, if_neg (by omega), if_pos ⟨rfl, rfl⟩]
      rfl
  · show jx_c w ≤ jx_c w - 1 + _
    omega
  · show jx_s w ≤ jx_s w - 3 + _
    omega
/-- a change within a new cell of which nothing is said -/
theorem bI.putP (h : bI w0 b off fx K Ln P n w) (hb : b < jx_n w0) {o j : Nat} {v : Value} (hP : ∀ V, P o V) : bI w0 b off fx K Ln P n (jx_put w (jx_n w0 + o) j v) := by
  obtain ⟨h1, h2, h3, h4, h5, h6, h7⟩ := h
  have ev : ∀ x, x ≠ jx_n w0 + o → jx_v (jx_put w (jx_n w0 + o) j v) x = jx_v w x := fun x hx => by
    funext y
    rw [put_v, if_neg (fun z => hx z.1)]
  refine ⟨h1, fun a ha => ?_, fun i hi => ?_, fun s hs => ?_, fun q hq => ?_, h6, h7⟩
  · obtain ⟨k1, k2, k3⟩ := h2 a ha
    exact ⟨k1, k2, fun hne => (ev a (by omega)).trans (k3 hne)⟩
  · rw [ev b (by omega)]
    exact h3 i hi
  · rw [ev b (by omega)]
    exact h4 s hs
  · obtain ⟨k1, k2, k3⟩ := h5 q hq
    refine ⟨k1, k2, ?_⟩
    by_cases e : q = o
    · subst e
      exact hP _
    · rw [ev _ (by omega)]
      exact k3
end BI
section RC
variable {E : jx_E} {l : Launch} {Y : jx_Y} {d : Nat} {Q : jx_R → jx_W → Prop} {pc : Nat} {L : List (Option Value)} {st : List Value} {w : jx_W}
theorem jx_gen {P : jx_W → Prop} (h : P w) (k : ∀ w', P w' → jx_G E l Y d Q pc L st w') : jx_G E l Y d Q pc L st w := k w h
/-- the world with what is known of one address anew -/
def jx_set (w : jx_W) (a kd len : Nat) (f : Nat → Value) : jx_W := (jx_n w, jx_c w, jx_s w, fun b => if b = a then kd else jx_k w b, fun b => if b = a then len else jx_l w b, fun b => if b = a then f else jx_v w b)
theorem set_k {a kd len b : Nat} {f : Nat → Value} : jx_k (jx_set w a kd len f) b = if b = a then kd else jx_k w b := rfl
theorem set_l {a kd len b : Nat} {f : Nat → Value} : jx_l (jx_set w a kd len f) b = if b = a then len else jx_l w b := rfl
theorem set_v {a kd len b : Nat} {f : Nat → Value} : jx_v (jx_set w a kd len f) b = if b = a then f else jx_v w b := rfl
/-- what was there before the law is there still -/
theorem jx_recall {a kd len : Nat} {f : Nat → Value} (hp : ∃ cell, E.1.heap[a]? = some cell ∧ jx_pic E kd len f cell) (K : (kd = 100 → jx_k w a ≠ 105) → jx_G E l Y d Q pc L st (jx_set w a kd len f)) : jx_G E l Y d Q pc L st w := by
  intro p e R s m args below meth c H locs cells slots ls C hH hL hq hc hs
  obtain ⟨cell, hcell, hpic⟩ := hp
  have ha : a < E.1.heap.size := (Array.getElem?_eq_some_iff.mp hcell).1
  have hHa : H[a]? = some cell := (hH.2.1.2 a ha).trans hcell
  refine K (fun e5 e6 => ?_) p e R s m args below meth c H locs cells slots ls C ⟨hH.1, hH.2.1, fun b hb => ?_⟩ hL hq hc hs
  · obtain ⟨c2, h2, hp2⟩ := hH.2.2 a (by rw [e6]; decide)
    cases hHa.symm.trans h2
    rw [e6] at hp2
    rw [e5] at hpic
    obtain ⟨-, k1, g1, c1, g2⟩ := (jx_pic_arr (by decide) hp2).2.2.1
    obtain ⟨-, k3, g3, c3, g4⟩ := (jx_pic_arr (by decide) hpic).2.2.1
    cases g1.symm.trans g3
    rw [g2] at g4
    simp [jx_ty] at g4
  · rw [set_k] at hb
    rw [set_k, set_l, set_v]
    by_cases e5 : b = a
    · subst e5
      rw [if_pos rfl, if_pos rfl, if_pos rfl]
      exact ⟨cell, hHa, hpic⟩
    · rw [if_neg e5] at hb
      rw [if_neg e5, if_neg e5, if_neg e5]
      exact hH.2.2 b hb
theorem mR.rc {S : mS} {m a kd len : Nat} {A : Nat → Nat} {f : Nat → Value} (h : mR E S w m A) (ha : a < E.1.heap.size) : mR E S (jx_set w a kd len f) m A := by
  obtain ⟨h1, h2, h3, h4, h5⟩ := h
  refine ⟨?_, h2, fun g hg => ?_, fun g hg => ?_, h5⟩
  · rw [set_k, if_neg (by omega)]
    exact h1
  · rw [set_v, if_neg (by omega)]
    exact h3 g hg
  · obtain ⟨k1, k2, k3, k4, k5⟩ := h4 g hg
    rw [set_k, set_l, set_v, set_v, if_neg (by omega), if_neg (by omega), if_neg (by omega), if_neg (by omega)]
    exact ⟨k1, k2, k3, k4, k5⟩
theorem cR.rc {D : mS} {G : Nat → Nat → Nat} {lo hi a kd len : Nat} {f : Nat → Value} (h : cR E D w G lo hi) (ha : a < E.1.heap.size) (hk : jx_k w a ≠ 105) : cR E D (jx_set w a kd len f) G lo hi := by
  obtain ⟨h1, h2, h3, h4, h5, h6⟩ := h
  have ne : ∀ c i, cOk D c i → G c i ≠ a := fun c i hc => by
    have := (h1 c i hc).2.1
    omega
  have ok2 : ∀ i, i < 14 → cOk D 2 i := fun i hi => .inr (.inr (.inl ⟨rfl, hi⟩))
  have hk14 : ∀ x, x < 4 → cLk x < 14 := by
    intro x hx
    have := cLk_c hx
    omega
  have sv : ∀ c i, cOk D c i → jx_v (jx_set w a kd len f) (G c i) = jx_v w (G c i) := fun c i hc => if_neg (ne c i hc)
  refine ⟨fun c i hc => ?_, h2, fun c i s c2 i2 hp => ?_, fun g i hg => ?_, fun j hj => ?_, h6⟩
  · rw [set_k, set_l, if_neg (ne c i hc), if_neg (ne c i hc)]
    exact h1 c i hc
  · rw [sv c i (cP_ok hp)]
    exact h3 c i s c2 i2 hp
  · rw [sv _ _ (cLoc_ok hg)]
    exact h4 g i hg
  · obtain ⟨b, l0, l1, l2, l3, l4, l5, ⟨mc, l6⟩, l7⟩ := h5 j hj
    have es := sv 2 (cLk j) (ok2 _ (hk14 j hj))
    have hba : ¬ b = a := fun e => hk (by rw [← e]; exact l1)
    have el : jx_l (jx_set w a kd len f) b = jx_l w b := if_neg hba
    have ev : jx_v (jx_set w a kd len f) b = jx_v w b := if_neg hba
    refine ⟨b, by rw [es]; exact l0, by rw [set_k, if_neg hba]; exact l1, l2, by rw [el]; exact l3, by rw [el]; exact l4, ?_, ⟨mc, by rw [es]; exact l6⟩, fun i hi => by rw [ev]; exact l7 i hi⟩
    rw [el]
    rcases l5 with z | ⟨z0, z1, z2, z3, z4⟩
    · exact .inl z
    · exact .inr ⟨z0, z1, z2, z3, fun j2 hj2 hne => by rw [sv 2 (cLk j2) (ok2 _ (hk14 j2 hj2))]; exact z4 j2 hj2 hne⟩
/-- a change within the reference's addresses -/
theorem cR.inn {D : mS} {G : Nat → Nat → Nat} {lo hi a j : Nat} {v : Value} (h : cR E D w G lo hi) (ha : lo ≤ a ∧ a < hi) (hk : jx_k w a ≠ 105) : cR E D (jx_put w a j v) G lo hi := by
  obtain ⟨h1, h2, h3, h4, h5, h6⟩ := h
  have ne : ∀ c i, cOk D c i → G c i ≠ a := fun c i hc => by
    have := (h1 c i hc).2.2.2.1
    omega
  have ok2 : ∀ i, i < 14 → cOk D 2 i := fun i hi => .inr (.inr (.inl ⟨rfl, hi⟩))
  have hk14 : ∀ x, x < 4 → cLk x < 14 := by
    intro x hx
    have := cLk_c hx
    omega
  have ev0 : ∀ x, x ≠ a → jx_v (jx_put w a j v) x = jx_v w x := fun x hx => by
    funext y
    rw [put_v, if_neg (fun z => hx z.1)]
  have sv : ∀ c i, cOk D c i → jx_v (jx_put w a j v) (G c i) = jx_v w (G c i) := fun c i hc => ev0 _ (ne c i hc)
  refine ⟨h1, h2, fun c i s c2 i2 hp => ?_, fun g i hg => ?_, fun q hq => ?_, h6⟩
  · rw [sv c i (cP_ok hp)]
    exact h3 c i s c2 i2 hp
  · rw [sv _ _ (cLoc_ok hg)]
    exact h4 g i hg
  · obtain ⟨b, l0, l1, l2, l3, l4, l5, ⟨mc, l6⟩, l7⟩ := h5 q hq
    have es := sv 2 (cLk q) (ok2 _ (hk14 q hq))
    have ev : jx_v (jx_put w a j v) b = jx_v w b := ev0 b (fun e => hk (by rw [← e]; exact l1))
    refine ⟨b, by rw [es]; exact l0, l1, l2, l3, l4, ?_, ⟨mc, by rw [es]; exact l6⟩, fun i hi => by rw [ev]; exact l7 i hi⟩
    rcases l5 with z | ⟨z0, z1, z2, z3, z4⟩
    · exact .inl z
    · exact .inr ⟨z0, z1, z2, z3, fun j2 hj2 hne => by rw [sv 2 (cLk j2) (ok2 _ (hk14 j2 hj2))]; exact z4 j2 hj2 hne⟩
/-- new addresses are the reference's -/
theorem cR.up2 {D : mS} {w2 : jx_W} {G : Nat → Nat → Nat} {lo hi hi2 : Nat} (h : cR E D w G lo hi) (hlt : ∀ a, jx_k w a ≠ 0 → a < jx_n w) (hn : jx_n w ≤ jx_n w2) (hh : hi2 ≤ jx_n w2) (hk : ∀ b, b < jx_n w → jx_k w2 b = jx_k w b ∧ jx_l w2 b = jx_l w b ∧ jx_v w2 b = jx_v w b) : cR E D w2 G (jx_n w) hi2 := by
  obtain ⟨h1, h2, h3, h4, h5, h6⟩ := h
  have sv : ∀ c i, cOk D c i → jx_v w2 (G c i) = jx_v w (G c i) := fun c i hc => (hk _ (h1 c i hc).2.2.1).2.2
  have ok2 : ∀ i, i < 14 → cOk D 2 i := fun i hi => .inr (.inr (.inl ⟨rfl, hi⟩))
  have hk14 : ∀ x, x < 4 → cLk x < 14 := by
    intro x hx
    have := cLk_c hx
    omega
  refine ⟨fun c i hc => ?_, h2, fun c i s c2 i2 hp => ?_, fun f i hf => ?_, fun j hj => ?_, hh⟩
  · obtain ⟨a1, a2, a3, a4, a5⟩ := h1 c i hc
    obtain ⟨r1, r2, r3⟩ := hk _ a3
    exact ⟨by rw [r1]; exact a1, a2, by omega, .inl a3, fun z => by rw [r2]; exact a5 z⟩
  · rw [sv c i (cP_ok hp)]
    exact h3 c i s c2 i2 hp
  · rw [sv _ _ (cLoc_ok hf)]
    exact h4 f i hf
  · obtain ⟨a, l0, l1, l2, l3, l4, l5, ⟨mc, l6⟩, l7⟩ := h5 j hj
    have ha := hlt a (by rw [l1]; decide)
    obtain ⟨r1, r2, r3⟩ := hk _ ha
    have es := sv 2 (cLk j) (ok2 _ (hk14 j hj))
    refine ⟨a, by rw [es]; exact l0, by rw [r1]; exact l1, l2, by rw [r2]; exact l3, by rw [r2]; exact l4, ?_, ⟨mc, by rw [es]; exact l6⟩, fun i hi => by rw [r3]; exact l7 i hi⟩
    rw [r2]
    rcases l5 with z | ⟨z0, z1, z2, z3, z4⟩
    · exact .inl z
    · exact .inr ⟨z0, z1, by omega, .inl ha, fun j2 hj2 hne => by rw [sv 2 (cLk j2) (ok2 _ (hk14 j2 hj2))]; exact z4 j2 hj2 hne⟩
end RC
