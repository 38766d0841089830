/-! 70.class: the class's state (a list's data lie where the list says). D f i: a number of the class; G c i: the address of the cell (c, i); lo .. hi: addresses that are the reference's -/
def lI (x : Int) : Int64 := Int64.ofInt x
def cKd (c i : Nat) : Nat := if c = 0 then 3 else if c = 1 then 4 else if c = 5 then 101 else if c ≠ 2 then 100 else if i = 0 then 1 else if i = 4 then 5 else if i = 5 then 2 else if i = 1 ∨ i = 2 ∨ i = 3 ∨ i = 7 then 7 else if i = 6 ∨ i = 10 ∨ i = 11 then 100 else if i = 12 then 104 else 103
def cLn (c i : Nat) : Nat := if c = 4 then 160 else if c = 3 ∨ c = 5 ∨ c = 6 then 32 else if i = 6 then 16 else if i = 10 ∨ i = 12 then 5 else if i = 11 then 32 else 4
abbrev cOk (D : mS) (c i : Nat) : Prop := (c = 0 ∧ (i : Int) < D 33 0) ∨ (c = 1 ∧ (i : Int) < D 34 0) ∨ (c = 2 ∧ i < 14) ∨ ((c = 3 ∨ c = 4 ∨ c = 6) ∧ i < 4) ∨ (c = 5 ∧ i < 5)
/-- where D f i lies: the cell and the field or the element -/
def cLoc (f : Nat) (i : Int) : Nat × Nat × Nat := if f < 14 then (0, i.toNat, f) else if f < 28 then (1, i.toNat, f - 20) else if f = 30 then (2, 6, i.toNat) else if f = 31 then (2, 0, 5) else if f = 32 then (2, 0, 6) else if f = 33 then (2, 1, 1) else if f = 34 then (2, 2, 1) else if f = 35 then (2, 3, 1) else if f = 36 then (2, 7, 1) else if f = 40 then (3, (i / 32).toNat, (i % 32).toNat) else if f = 41 then (4, (i / 160).toNat, (i % 160).toNat) else if f = 42 then (2, 10, i.toNat) else if f = 43 then (2, 11, i.toNat) else if f = 44 then (5, (i / 32).toNat, (i % 32).toNat) else if f = 45 then (6, (i / 32).toNat, (i % 32).toNat) else (2, 5, 7)
abbrev cDm (D : mS) (f : Nat) (i : Int) : Prop := (f < 14 ∧ 0 ≤ i ∧ i < D 33 0) ∨ (20 ≤ f ∧ f < 28 ∧ 0 ≤ i ∧ i < D 34 0) ∨ (f = 30 ∧ 0 ≤ i ∧ i < 16) ∨ ((31 ≤ f ∧ f ≤ 36 ∨ f = 46) ∧ i = 0) ∨ ((f = 40 ∨ f = 45) ∧ 0 ≤ i ∧ i < 128) ∨ (f = 41 ∧ 0 ≤ i ∧ i < 640) ∨ (f = 42 ∧ 0 ≤ i ∧ i < 5) ∨ (f = 43 ∧ 0 ≤ i ∧ i < 32) ∨ (f = 44 ∧ 0 ≤ i ∧ i < 160)
def cEn (f : Nat) (v : Int) : Value := if f = 44 then .long (lI v) else .int (iI v)
/-- the field or element s of the cell (c, i) refers to the cell (c2, i2) -/
abbrev cP (c i s c2 i2 : Nat) : Prop := c = 2 ∧ ((i = 0 ∧ s < 5 ∧ c2 = 2 ∧ i2 = s + 1) ∨ (i = 5 ∧ s < 7 ∧ c2 = 2 ∧ i2 = s + 7) ∨ (i = 4 ∧ s = 0 ∧ c2 = 2 ∧ i2 = 6) ∨ (i = 8 ∧ s < 4 ∧ c2 = 3 ∧ i2 = s) ∨ (i = 9 ∧ s < 4 ∧ c2 = 4 ∧ i2 = s) ∨ (i = 12 ∧ s < 5 ∧ c2 = 5 ∧ i2 = s) ∨ (i = 13 ∧ s < 4 ∧ c2 = 6 ∧ i2 = s))
def cLk (j : Nat) : Nat := if j = 3 then 7 else j + 1
def cEl (G : Nat → Nat → Nat) (D : mS) (j i : Nat) : Nat := if j = 0 then G 0 i else if j = 1 then G 1 i else if j = 2 then G 1 (D 37 i).toNat else G 1 (D 38 i).toNat
/-- the array of lists that hold nothing yet -/
def jZ (E : jx_E) (a : Nat) : Prop := va_Z "java/util/ArrayList" "DEFAULTCAPACITY_EMPTY_ELEMENTDATA" "[Ljava/lang/Object;" (.ref a) (fun q => E.1.heap.size ≤ q) E.1 E.1.heap
/-- the list j: persons, tasks, openByDue, open -/
def cLs (E : jx_E) (D : mS) (w : jx_W) (G : Nat → Nat → Nat) (lo hi j : Nat) : Prop := ∃ a : Nat, jx_v w (G 2 (cLk j)) 0 = .ref a ∧ jx_k w a = 105 ∧ 0 ≤ D (33 + j) 0 ∧ D (33 + j) 0 ≤ (jx_l w a : Int) ∧ jx_l w a ≤ 1000 ∧ ((jx_l w a = 0 ∧ jZ E a) ∨ (jx_l w a ≠ 0 ∧ E.1.heap.size ≤ a ∧ a < jx_n w ∧ (a < lo ∨ hi ≤ a) ∧ ∀ j2, j2 < 4 → j2 ≠ j → jx_v w (G 2 (cLk j2)) 0 ≠ .ref a)) ∧ (∃ mc, jx_v w (G 2 (cLk j)) 2 = .int mc) ∧ ∀ i : Nat, (i : Int) < D (33 + j) 0 → jx_v w a i = .ref (cEl G D j i)
/-- the class lies in the world -/
def cR (E : jx_E) (D : mS) (w : jx_W) (G : Nat → Nat → Nat) (lo hi : Nat) : Prop :=
  (∀ c i, cOk D c i → jx_k w (G c i) = cKd c i ∧ E.1.heap.size ≤ G c i ∧ G c i < jx_n w ∧ (G c i < lo ∨ hi ≤ G c i) ∧ (100 ≤ cKd c i → jx_l w (G c i) = cLn c i)) ∧
  (∀ c i c2 i2, cOk D c i → cOk D c2 i2 → G c i = G c2 i2 → c = c2 ∧ i = i2) ∧
  (∀ c i s c2 i2, cP c i s c2 i2 → jx_v w (G c i) s = .ref (G c2 i2)) ∧
  (∀ f i, cDm D f i → jx_v w (G (cLoc f i).1 (cLoc f i).2.1) (cLoc f i).2.2 = cEn f (D f i)) ∧
  (∀ j, j < 4 → cLs E D w G lo hi j) ∧ hi ≤ jx_n w
/-- a cells and 100 a slots were used at most, the reference's addresses are as they were -/
def cF (lo hi a : Nat) (w w' : jx_W) : Prop := jx_c w ≤ jx_c w' + a ∧ jx_s w ≤ jx_s w' + 100 * a ∧ jx_n w ≤ jx_n w' ∧ ∀ b, lo ≤ b ∧ b < hi → jx_v w' b = jx_v w b ∧ jx_k w' b = jx_k w b ∧ jx_l w' b = jx_l w b
theorem cF.rf {lo hi : Nat} {w : jx_W} : cF lo hi 0 w w := ⟨Nat.le_refl _, Nat.le_refl _, Nat.le_refl _, fun _ _ => ⟨rfl, rfl, rfl⟩⟩
theorem cF.tr {lo hi a b c : Nat} {w w1 w2 : jx_W} (h : cF lo hi a w w1) (h2 : cF lo hi b w1 w2) (hc : a + b ≤ c) : cF lo hi c w w2 := by
  obtain ⟨h1, h3, h4, h5⟩ := h
  obtain ⟨k1, k3, k4, k5⟩ := h2
  refine ⟨by omega, by omega, by omega, fun x hx => ?_⟩
  obtain ⟨e1, e2, e3⟩ := h5 x hx
  obtain ⟨g1, g2, g3⟩ := k5 x hx
  exact ⟨g1.trans e1, g2.trans e2, g3.trans e3⟩
theorem cLoc_c {D : mS} {f : Nat} {i : Int} (h : cDm D f i) : ∃ a b s, cLoc f i = (a, b, s) ∧ ((a = 0 ∧ f < 14 ∧ b = i.toNat ∧ s = f ∧ 0 ≤ i ∧ i < D 33 0) ∨ (a = 1 ∧ 20 ≤ f ∧ f < 28 ∧ b = i.toNat ∧ s = f - 20 ∧ 0 ≤ i ∧ i < D 34 0) ∨ (a = 2 ∧ ((f = 30 ∧ b = 6 ∧ s = i.toNat ∧ 0 ≤ i ∧ i < 16) ∨ (i = 0 ∧ ((f = 31 ∧ b = 0 ∧ s = 5) ∨ (f = 32 ∧ b = 0 ∧ s = 6) ∨ (f = 33 ∧ b = 1 ∧ s = 1) ∨ (f = 34 ∧ b = 2 ∧ s = 1) ∨ (f = 35 ∧ b = 3 ∧ s = 1) ∨ (f = 36 ∧ b = 7 ∧ s = 1) ∨ (f = 46 ∧ b = 5 ∧ s = 7))) ∨ (f = 42 ∧ b = 10 ∧ s = i.toNat ∧ 0 ≤ i ∧ i < 5) ∨ (f = 43 ∧ b = 11 ∧ s = i.toNat ∧ 0 ≤ i ∧ i < 32))) ∨ (((a = 3 ∧ f = 40) ∨ (a = 6 ∧ f = 45) ∨ (a = 5 ∧ f = 44)) ∧ b = (i / 32).toNat ∧ s = (i % 32).toNat ∧ 0 ≤ i ∧ i < 160 ∧ (f = 44 ∨ i < 128)) ∨ (a = 4 ∧ f = 41 ∧ b = (i / 160).toNat ∧ s = (i % 160).toNat ∧ 0 ≤ i ∧ i < 640)) := by
  rcases h with ⟨h, h1, h2⟩ | ⟨h, h0, h1, h2⟩ | ⟨h, h1, h2⟩ | ⟨h, h0⟩ | ⟨h, h1, h2⟩ | ⟨h, h1, h2⟩ | ⟨h, h1, h2⟩ | ⟨h, h1, h2⟩ | ⟨h, h1, h2⟩
  · exact ⟨_, _, _, by unfold cLoc; rw [if_pos (by omega)], .inl ⟨rfl, h, rfl, rfl, h1, h2⟩⟩
  · exact ⟨_, _, _, by unfold cLoc; rw [if_neg (by omega), if_pos (by omega)], .inr (.inl ⟨rfl, h, h0, rfl, rfl, h1, h2⟩)⟩
  · exact ⟨_, _, _, by unfold cLoc; rw [if_neg (by omega), if_neg (by omega), if_pos (by omega)], .inr (.inr (.inl ⟨rfl, .inl ⟨h, rfl, rfl, h1, h2⟩⟩))⟩
  · have h2 : f = 31 ∨ f = 32 ∨ f = 33 ∨ f = 34 ∨ f = 35 ∨ f = 36 ∨ f = 46 := by omega
    rcases h2 with h2 | h2 | h2 | h2 | h2 | h2 | h2
    · exact ⟨_, _, _, by unfold cLoc; rw [if_neg (by omega), if_neg (by omega), if_neg (by omega), if_pos (by omega)], .inr (.inr (.inl ⟨rfl, .inr (.inl ⟨h0, .inl (⟨h2, rfl, rfl⟩)⟩)⟩))⟩
    · exact ⟨_, _, _, by unfold cLoc; rw [if_neg (by omega), if_neg (by omega), if_neg (by omega), if_neg (by omega), if_pos (by omega)], .inr (.inr (.inl ⟨rfl, .inr (.inl ⟨h0, .inr (.inl (⟨h2, rfl, rfl⟩))⟩)⟩))⟩
    · exact ⟨_, _, _, by unfold cLoc; rw [if_neg (by omega), if_neg (by omega), if_neg (by omega), if_neg (by omega), if_neg (by omega), if_pos (by omega)], .inr (.inr (.inl ⟨rfl, .inr (.inl ⟨h0, .inr (.inr (.inl (⟨h2, rfl, rfl⟩)))⟩)⟩))⟩
    · exact ⟨_, _, _, by unfold cLoc; rw [if_neg (by omega), if_neg (by omega), if_neg (by omega), if_neg (by omega), if_neg (by omega), if_neg (by omega), if_pos (by omega)], .inr (.inr (.inl ⟨rfl, .inr (.inl ⟨h0, .inr (.inr (.inr (.inl (⟨h2, rfl, rfl⟩))))⟩)⟩))⟩
    · exact ⟨_, _, _, by unfold cLoc; rw [if_neg (by omega), if_neg (by omega), if_neg (by omega), if_neg (by omega), if_neg (by omega), if_neg (by omega), if_neg (by omega), if_pos (by omega)], .inr (.inr (.inl ⟨rfl, .inr (.inl ⟨h0, .inr (.inr (.inr (.inr (.inl (⟨h2, rfl, rfl⟩)))))⟩)⟩))⟩
    · exact ⟨_, _, _, by unfold cLoc; rw [if_neg (by omega), if_neg (by omega), if_neg (by omega), if_neg (by omega), if_neg (by omega), if_neg (by omega), if_neg (by omega), if_neg (by omega), if_pos (by omega)], .inr (.inr (.inl ⟨rfl, .inr (.inl ⟨h0, .inr (.inr (.inr (.inr (.inr (.inl (⟨h2, rfl, rfl⟩))))))⟩)⟩))⟩
    · exact ⟨_, _, _, by unfold cLoc; rw [if_neg (by omega), if_neg (by omega), if_neg (by omega), if_neg (by omega), if_neg (by omega), if_neg (by omega), if_neg (by omega), if_neg (by omega), if_neg (by omega), if_neg (by omega), if_neg (by omega), if_neg (by omega), if_neg (by omega), if_neg (by omega), if_neg (by omega)], .inr (.inr (.inl ⟨rfl, .inr (.inl ⟨h0, .inr (.inr (.inr (.inr (.inr (.inr (⟨h2, rfl, rfl⟩))))))⟩)⟩))⟩
  · rcases h with h | h
    · exact ⟨_, _, _, by unfold cLoc; rw [if_neg (by omega), if_neg (by omega), if_neg (by omega), if_neg (by omega), if_neg (by omega), if_neg (by omega), if_neg (by omega), if_neg (by omega), if_neg (by omega), if_pos (by omega)], .inr (.inr (.inr (.inl ⟨.inl ⟨rfl, h⟩, rfl, rfl, h1, by omega, .inr h2⟩)))⟩
    · exact ⟨_, _, _, by unfold cLoc; rw [if_neg (by omega), if_neg (by omega), if_neg (by omega), if_neg (by omega), if_neg (by omega), if_neg (by omega), if_neg (by omega), if_neg (by omega), if_neg (by omega), if_neg (by omega), if_neg (by omega), if_neg (by omega), if_neg (by omega), if_neg (by omega), if_pos (by omega)], .inr (.inr (.inr (.inl ⟨.inr (.inl ⟨rfl, h⟩), rfl, rfl, h1, by omega, .inr h2⟩)))⟩
  · exact ⟨_, _, _, by unfold cLoc; rw [if_neg (by omega), if_neg (by omega), if_neg (by omega), if_neg (by omega), if_neg (by omega), if_neg (by omega), if_neg (by omega), if_neg (by omega), if_neg (by omega), if_neg (by omega), if_pos (by omega)], .inr (.inr (.inr (.inr ⟨rfl, h, rfl, rfl, h1, h2⟩)))⟩
  · exact ⟨_, _, _, by unfold cLoc; rw [if_neg (by omega), if_neg (by omega), if_neg (by omega), if_neg (by omega), if_neg (by omega), if_neg (by omega), if_neg (by omega), if_neg (by omega), if_neg (by omega), if_neg (by omega), if_neg (by omega), if_pos (by omega)], .inr (.inr (.inl ⟨rfl, .inr (.inr (.inl ⟨h, rfl, rfl, h1, h2⟩))⟩))⟩
  · exact ⟨_, _, _, by unfold cLoc; rw [if_neg (by omega), if_neg (by omega), if_neg (by omega), if_neg (by omega), if_neg (by omega), if_neg (by omega), if_neg (by omega), if_neg (by omega), if_neg (by omega), if_neg (by omega), if_neg (by omega), if_neg (by omega), if_pos (by omega)], .inr (.inr (.inl ⟨rfl, .inr (.inr (.inr ⟨h, rfl, rfl, h1, h2⟩))⟩))⟩
  · exact ⟨_, _, _, by unfold cLoc; rw [if_neg (by omega), if_neg (by omega), if_neg (by omega), if_neg (by omega), if_neg (by omega), if_neg (by omega), if_neg (by omega), if_neg (by omega), if_neg (by omega), if_neg (by omega), if_neg (by omega), if_neg (by omega), if_neg (by omega), if_pos (by omega)], .inr (.inr (.inr (.inl ⟨.inr (.inr ⟨rfl, h⟩), rfl, rfl, h1, h2, .inl h⟩)))⟩
theorem cLoc_ok {D : mS} {f : Nat} {i : Int} (h : cDm D f i) : cOk D (cLoc f i).1 (cLoc f i).2.1 := by
  obtain ⟨a, b, s, e, h2⟩ := cLoc_c h
  rw [e]
  show cOk D a b
  omega
theorem cLoc_inj {D : mS} {f g : Nat} {i j : Int} (hf : cDm D f i) (hg : cDm D g j) (h1 : (cLoc f i).1 = (cLoc g j).1) (h2 : (cLoc f i).2.1 = (cLoc g j).2.1) (h3 : (cLoc f i).2.2 = (cLoc g j).2.2) : f = g ∧ i = j := by
  obtain ⟨a, b, s, e, k⟩ := cLoc_c hf
  obtain ⟨a2, b2, s2, e2, k2⟩ := cLoc_c hg
  rw [e, e2] at h1 h2 h3
  have h1 : a = a2 := h1
  have h2 : b = b2 := h2
  have h3 : s = s2 := h3
  subst h1 h2 h3
  clear hf hg e e2
  rcases k with k | k | ⟨k0, k | ⟨k1, k | k | k | k | k | k | k⟩ | k | k⟩ | k | k <;> omega
theorem cLoc_P {D : mS} {f c i s c2 i2 : Nat} {x : Int} (hf : cDm D f x) (h : cP c i s c2 i2) : ¬ (c = (cLoc f x).1 ∧ i = (cLoc f x).2.1 ∧ s = (cLoc f x).2.2) := by
  obtain ⟨a, b, s2, e, k⟩ := cLoc_c hf
  rw [e]
  show ¬ (c = a ∧ i = b ∧ s = s2)
  clear hf e
  rintro ⟨rfl, rfl, rfl⟩
  rcases k with k | k | ⟨k0, k | ⟨k1, k | k | k | k | k | k | k⟩ | k | k⟩ | k | k <;> omega
theorem cKd_105 {D : mS} {c i : Nat} (h : cOk D c i) : cKd c i ≠ 105 ∧ cKd c i ≠ 0 := by
  unfold cKd
  (repeat' split) <;> omega
theorem cOk_c {D D2 : mS} {c i : Nat} (h1 : D2 33 0 = D 33 0) (h2 : D2 34 0 = D 34 0) (h : cOk D2 c i) : cOk D c i := by
  unfold cOk at h ⊢
  rw [h1, h2] at h
  exact h
theorem cDm_c {D D2 : mS} {f : Nat} {i : Int} (h1 : D2 33 0 = D 33 0) (h2 : D2 34 0 = D 34 0) (h : cDm D2 f i) : cDm D f i := by
  unfold cDm at h ⊢
  rw [h1, h2] at h
  exact h
/-- a change of a number that is no list's size -/
theorem cR.put {E : jx_E} {D : mS} {w : jx_W} {G : Nat → Nat → Nat} {lo hi f : Nat} {i v : Int} (h : cR E D w G lo hi) (hd : cDm D f i) (hf : f < 33 ∨ 36 < f) : cR E (sU D f i v) (jx_put w (G (cLoc f i).1 (cLoc f i).2.1) (cLoc f i).2.2 (cEn f v)) G lo hi := by
  obtain ⟨h1, h2, h3, h4, h5, h6⟩ := h
  have e33 : sU D f i v 33 0 = D 33 0 := sU_f (by omega)
  have e34 : sU D f i v 34 0 = D 34 0 := sU_f (by omega)
  have hk := cLoc_ok hd
  have ev : ∀ b s, jx_v (jx_put w (G (cLoc f i).1 (cLoc f i).2.1) (cLoc f i).2.2 (cEn f v)) b s = if b = G (cLoc f i).1 (cLoc f i).2.1 ∧ s = (cLoc f i).2.2 then cEn f v else jx_v w b s := fun b s => rfl
  refine ⟨fun c j hc => ?_, fun c j c2 j2 hc hc2 => ?_, fun c j s c2 j2 hp => ?_, fun g j hg => ?_, fun j hj => ?_, h6⟩
  · exact h1 c j (cOk_c e33 e34 hc)
  · exact h2 c j c2 j2 (cOk_c e33 e34 hc) (cOk_c e33 e34 hc2)
  · rw [ev, if_neg, h3 c j s c2 j2 hp]
    rintro ⟨z1, z2⟩
    obtain ⟨z3, z4⟩ := h2 _ _ _ _ (by omega) hk z1
    exact cLoc_P hd hp ⟨z3, z4, z2⟩
  · have hg := cDm_c e33 e34 hg
    rw [ev]
    by_cases e : g = f ∧ j = i
    · obtain ⟨rfl, rfl⟩ := e
      rw [if_pos ⟨rfl, rfl⟩, sU_same]
    · rw [if_neg, h4 g j hg]
      · unfold sU
        rw [if_neg e]
      · rintro ⟨z1, z2⟩
        obtain ⟨z3, z4⟩ := h2 _ _ _ _ (cLoc_ok hg) hk z1
        exact e (cLoc_inj hg hd z3 z4 z2)
  · have hpt : ∀ (j s : Nat), j < 4 → s ≠ 1 → jx_v (jx_put w (G (cLoc f i).1 (cLoc f i).2.1) (cLoc f i).2.2 (cEn f v)) (G 2 (cLk j)) s = jx_v w (G 2 (cLk j)) s := by
      intro j s hj hs
      rw [ev, if_neg]
      rintro ⟨z1, z2⟩
      have hlk : cLk j < 14 ∧ (cLk j = 1 ∨ cLk j = 2 ∨ cLk j = 3 ∨ cLk j = 7) := by unfold cLk; split <;> omega
      obtain ⟨z3, z4⟩ := h2 _ _ _ _ (by omega) hk z1
      obtain ⟨a, b, s2, e, k⟩ := cLoc_c hd
      rw [e] at z2 z3 z4
      have z2 : s = s2 := z2
      have z3 : 2 = a := z3
      have z4 : cLk j = b := z4
      rcases k with k | k | ⟨k0, k | ⟨k1, k | k | k | k | k | k | k⟩ | k | k⟩ | k | k <;> omega
    obtain ⟨a, l0, l1, l2, l3, l4, l5, ⟨mc, l6⟩, l7⟩ := h5 j hj
    have ej : sU D f i v (33 + j) 0 = D (33 + j) 0 := sU_f (by omega)
    refine ⟨a, by rw [hpt j 0 hj (by decide)]; exact l0, l1, by rw [ej]; exact l2, by rw [ej]; exact l3, l4, ?_, ⟨mc, by rw [hpt j 2 hj (by decide)]; exact l6⟩, fun x hx => ?_⟩
    · rcases l5 with l5 | ⟨m0, m1, m2, m3, m4⟩
      · exact .inl l5
      · exact .inr ⟨m0, m1, m2, m3, fun j2 hj2 hne => by rw [hpt j2 0 hj2 (by decide)]; exact m4 j2 hj2 hne⟩
    · rw [ej] at hx
      rw [ev, if_neg, l7 x hx]
      · unfold cEl
        by_cases e37 : (37 : Nat) = f
        · exfalso
          omega
        · by_cases e38 : (38 : Nat) = f
          · exfalso
            omega
          · rw [sU_f e37, sU_f e38]
      · rintro ⟨z1, z2⟩
        have := (h1 _ _ hk).1
        rw [← z1, l1] at this
        exact (cKd_105 hk).1 this.symm
theorem cF_put {lo hi b s : Nat} {w : jx_W} {v : Value} (h : b < lo ∨ hi ≤ b) : cF lo hi 0 w (jx_put w b s v) := by
  refine ⟨Nat.le_refl _, Nat.le_refl _, Nat.le_refl _, fun x hx => ⟨?_, rfl, rfl⟩⟩
  funext j
  show (if x = b ∧ j = s then v else jx_v w x j) = _
  rw [if_neg (by omega)]
