/-! 92.b.frame: what stands between two calls of the law -/
theorem and31 (x : Int32) : ∃ n : Nat, n ≤ 31 ∧ x &&& 31 = iI (n : Int) := by
  refine ⟨(x.toBitVec &&& 31#32).toNat, ?_, ?_⟩
  · rw [BitVec.toNat_and]
    exact Nat.and_le_right
  · apply Int32.toBitVec_inj.mp
    rw [Int32.toBitVec_and]
    unfold iI
    show x.toBitVec &&& 31#32 = BitVec.ofInt 32 ((x.toBitVec &&& 31#32).toNat : Int)
    rw [BitVec.ofInt_natCast, BitVec.ofNat_toNat, BitVec.setWidth_eq]
theorem lg_self (x : Int64) : lg_cmp x x = 0 := by
  unfold lg_cmp
  rw [if_neg (show ¬ x > x from Int64.lt_irrefl), if_pos rfl]
/-- where the reference, out and the script lie -/
def lwX (E : jx_E) (m out b lo hi : Nat) (A : Nat → Nat) : Prop := (lo ≤ m ∧ m < hi) ∧ (∀ f, mArr f → lo ≤ A f ∧ A f < hi) ∧ (lo ≤ out ∧ out < hi) ∧ E.1.heap.size ≤ lo ∧ b < E.1.heap.size ∧ out ≠ m ∧ ∀ f, mArr f → out ≠ A f
/-- the reference is in state S, the class in state S2, the script is known, out holds the answer, there is room -/
def lwS (E : jx_E) (ts m out b L lo hi : Nat) (A : Nat → Nat) (ys : Nat → Int) (S S2 : mS) (x : Option Int64) (cc ss : Int) (w : jx_W) : Prop := mR E S w m A ∧ (∃ (D : mS) (G : Nat → Nat → Nat), cR E D w G lo hi ∧ rl S2 D ∧ G 2 0 = ts) ∧ (jx_k w out = 101 ∧ jx_l w out = 1) ∧ (jx_k w b = 100 ∧ jx_l w b = L ∧ ∀ j : Nat, jx_v w b j = .int (iI (ys j))) ∧ (∀ y, x = some y → iI (S2 3 0) = 0 → jx_v w out 0 = .long y) ∧ cc ≤ (jx_c w : Int) ∧ ss ≤ (jx_s w : Int)
section LWS
variable {E : jx_E} {ts m out b L lo hi : Nat} {A : Nat → Nat} {ys : Nat → Int} {S S2 T : mS} {x : Option Int64} {cc ss cc2 ss2 : Int} {w w1 : jx_W}
theorem mR.fr (hX : lwX E m out b lo hi A) (h : mR E S w m A) (hF : lwF lo hi out w w1) : mR E S w1 m A := by
  obtain ⟨x1, x2, x3, x4, x5, x6, x7⟩ := hX
  obtain ⟨h1, h2, h3, h4, h5⟩ := h
  obtain ⟨-, -, -, f4⟩ := hF
  obtain ⟨m1, m2, m3⟩ := f4 m x1
  have m3 := m3 (fun e => x6 e.symm)
  refine ⟨m1.trans h1, h2, fun f hf => by rw [m3]; exact h3 f hf, fun f hf => ?_, h5⟩
  obtain ⟨k1, k2, k3, k4, k5⟩ := h4 f hf
  obtain ⟨a1, a2, a3⟩ := f4 (A f) (x2 f hf)
  have a3 := a3 (fun e => x7 f hf e.symm)
  rw [m3, a1, a2, a3]
  exact ⟨k1, k2, k3, k4, k5⟩
theorem cR.mf {D : mS} {G : Nat → Nat → Nat} (hX : lwX E m out b lo hi A) (hM : mR E S w m A) (h : cR E D w G lo hi) (hF : mF m A w w1) : cR E D w1 G lo hi := by
  obtain ⟨x1, x2, x3, x4, x5, x6, x7⟩ := hX
  obtain ⟨h1, h2, h3, h4, h5, h6⟩ := h
  obtain ⟨f1, f2, f3, f4, f5, f6⟩ := hF
  have ok2 : ∀ i, i < 14 → cOk D 2 i := fun i hi => .inr (.inr (.inl ⟨rfl, hi⟩))
  have hk14 : ∀ x, x < 4 → cLk x < 14 := by
    intro x hx
    have := cLk_c hx
    omega
  have sv : ∀ c i, cOk D c i → jx_v w1 (G c i) = jx_v w (G c i) := fun c i hc => by
    have q := (h1 c i hc).2.2.2.1
    exact f6 _ (by omega) (fun f hf => by have := x2 f hf; omega)
  refine ⟨fun c i hc => ?_, h2, fun c i s c2 i2 hp => ?_, fun g i hg => ?_, fun j hj => ?_, by rw [f1]; exact h6⟩
  · rw [f4, f5, f1]
    exact h1 c i hc
  · rw [sv c i (cP_ok hp)]
    exact h3 c i s c2 i2 hp
  · rw [sv _ _ (cLoc_ok hg)]
    exact h4 g i hg
  · obtain ⟨a, l0, l1, l2, l3, l4, l5, ⟨mc, l6⟩, l7⟩ := h5 j hj
    have es := sv 2 (cLk j) (ok2 _ (hk14 j hj))
    have ev : jx_v w1 a = jx_v w a := f6 a (fun e => by rw [e, hM.1] at l1; exact absurd l1 (by decide)) (fun f hf e => by
      rw [e, (hM.2.2.2.1 f hf).2.1] at l1
      unfold mKd at l1
      split at l1 <;> omega)
    refine ⟨a, by rw [es]; exact l0, by rw [f4]; exact l1, l2, by rw [f5]; exact l3, by rw [f5]; exact l4, ?_, ⟨mc, by rw [es]; exact l6⟩, fun i hi => by rw [ev]; exact l7 i hi⟩
    rw [f5, f1]
    rcases l5 with z | ⟨z0, z1, z2, z3, z4⟩
    · exact .inl z
    · exact .inr ⟨z0, z1, z2, z3, fun j2 hj2 hne => by rw [sv 2 (cLk j2) (ok2 _ (hk14 j2 hj2))]; exact z4 j2 hj2 hne⟩
/-- behind a call of the reference -/
theorem lwS.mf (hX : lwX E m out b lo hi A) (h : lwS E ts m out b L lo hi A ys S S2 x cc ss w) (hM : mR E T w1 m A) (hF : mF m A w w1) : lwS E ts m out b L lo hi A ys T S2 x cc ss w1 := by
  obtain ⟨h1, ⟨D, G, hC, hR, hG⟩, h3, h4, h5, h6, h7⟩ := h
  have hC2 := hC.mf hX h1 hF
  obtain ⟨x1, x2, x3, x4, x5, x6, x7⟩ := hX
  obtain ⟨f1, f2, f3, f4, f5, f6⟩ := hF
  have eb : jx_v w1 b = jx_v w b := f6 b (by omega) (fun f hf => by have := x2 f hf; omega)
  have eo : jx_v w1 out = jx_v w out := f6 out x6 x7
  refine ⟨hM, ⟨D, G, hC2, hR, hG⟩, by rw [f4, f5]; exact h3, by rw [f4, f5, eb]; exact h4, by rw [eo]; exact h5, by rw [f2]; exact h6, by rw [f3]; exact h7⟩
theorem lwS.wk (h : lwS E ts m out b L lo hi A ys S S2 x cc ss w) (hT : ∀ D, rl S2 D → rl T D) : lwS E ts m out b L lo hi A ys S T none cc ss w := by
  obtain ⟨h1, ⟨D, G, hC, hR, hG⟩, h3, h4, h5, h6, h7⟩ := h
  exact ⟨h1, ⟨D, G, hC, hT D hR, hG⟩, h3, h4, (fun y hy => by cases hy), h6, h7⟩
variable {l : Launch} {Y : jx_Y} {d : Nat} {Q : jx_R → jx_W → Prop} {pc : Nat} {Lo : List (Option Value)} {st : List Value}
/-- behind a call of the class: the script is read again -/
theorem lw_rec (hX : lwX E m out b lo hi A) (hscr : ∃ cell, E.1.heap[b]? = some cell ∧ jx_pic E 100 L (fun j => .int (iI (ys j))) cell) (hM : mR E S w m A) (ho : jx_k w out = 101 ∧ jx_l w out = 1) (hcc : cc ≤ (jx_c w : Int) ∧ ss ≤ (jx_s w : Int)) (hc : ∃ (D : mS) (G : Nat → Nat → Nat), cR E D w1 G lo hi ∧ rl S2 D ∧ G 2 0 = ts) (hF : lwF lo hi out w w1) (hv : ∀ y, x = some y → iI (S2 3 0) = 0 → jx_v w1 out 0 = .long y) (h1 : cc2 + 50 ≤ cc) (h2 : ss2 + 5000 ≤ ss) (K : ∀ w2, lwS E ts m out b L lo hi A ys S S2 x cc2 ss2 w2 → jx_G E l Y d Q pc Lo st w2) : jx_G E l Y d Q pc Lo st w1 := by
  refine jx_recall hscr (fun h105 => K _ ?_)
  obtain ⟨D, G, hC, hR, hG⟩ := hc
  have hM1 := hM.fr hX hF
  obtain ⟨x1, x2, x3, x4, x5, x6, x7⟩ := hX
  obtain ⟨f1, f2, f3, f4⟩ := hF
  obtain ⟨o1, o2, -⟩ := f4 out x3
  refine ⟨hM1.rc x5, ⟨D, G, hC.rc x5 (h105 rfl), hR, hG⟩, ?_, ?_, fun y hy h0 => ?_, ?_, ?_⟩
  · rw [set_k, set_l, if_neg (by omega), if_neg (by omega), o1, o2]
    exact ho
  · rw [set_k, set_l, set_v, if_pos rfl, if_pos rfl, if_pos rfl]
    exact ⟨rfl, rfl, fun _ => rfl⟩
  · rw [set_v, if_neg (by omega)]
    exact hv y hy h0
  · show cc2 ≤ (jx_c w1 : Int)
    omega
  · show ss2 ≤ (jx_s w1 : Int)
    omega
end LWS
