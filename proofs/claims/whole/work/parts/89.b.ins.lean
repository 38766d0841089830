/-! 89.b.ins: a task is put into the list by due -/
theorem ia_b {w : jx_W} {b a e : Nat} {n p : Int} (hab : a ≠ b) (y : Nat) : jx_v (jx_ia w b a n p e) b y = if y = 1 then .int (iI (n + 1)) else jx_v w b y := by
  show (if b = b ∧ y = 1 then _ else if b = a ∧ y = p.toNat then _ else if b = a ∧ _ then _ else jx_v w b y) = _
  by_cases e1 : y = 1
  · rw [if_pos ⟨rfl, e1⟩, if_pos e1]
  · rw [if_neg (fun z => e1 z.2), if_neg e1, if_neg (fun z => hab z.1.symm), if_neg (fun z => hab z.1.symm)]
theorem ia_o {w : jx_W} {b a e x : Nat} {n p : Int} (h1 : x ≠ b) (h2 : x ≠ a) : jx_v (jx_ia w b a n p e) x = jx_v w x := by
  funext y
  show (if x = b ∧ y = 1 then _ else if x = a ∧ y = p.toNat then _ else if x = a ∧ _ then _ else jx_v w x y) = _
  rw [if_neg (fun z => h1 z.1), if_neg (fun z => h2 z.1), if_neg (fun z => h2 z.1)]
theorem ia_a {w : jx_W} {b a e : Nat} {n p : Int} (hab : a ≠ b) (hp : 0 ≤ p ∧ p ≤ n) (i : Nat) (hi : (i : Int) ≤ n) : jx_v (jx_ia w b a n p e) a i = if (i : Int) < p then jx_v w a i else if (i : Int) = p then .ref e else jx_v w a (i - 1) := by
  show (if a = b ∧ i = 1 then _ else if a = a ∧ i = p.toNat then Value.ref e else if a = a ∧ (p + 1).toNat ≤ i ∧ i < (p + 1).toNat + (n - p).toNat then jx_v w a (p.toNat + (i - (p + 1).toNat)) else jx_v w a i) = _
  rw [if_neg (fun z => hab z.1)]
  by_cases e1 : (i : Int) = p
  · rw [if_pos ⟨rfl, by omega⟩, if_neg (by omega), if_pos e1]
  · rw [if_neg (by omega)]
    by_cases e2 : (i : Int) < p
    · rw [if_neg (by omega), if_pos e2]
    · rw [if_pos ⟨rfl, by omega, by omega⟩, if_neg e2, if_neg e1, show p.toNat + (i - (p + 1).toNat) = i - 1 by omega]
def insD (D : mS) (p t : Int) : mS := fun g i => if g = 37 then ins (D 37) p t i else if g = 35 ∧ i = 0 then D 35 0 + 1 else D g i
theorem insD_ne {D : mS} {p t : Int} {g : Nat} (h1 : g ≠ 37) (h2 : g ≠ 35) : insD D p t g = D g := by
  funext i
  show (if g = 37 then _ else if g = 35 ∧ i = 0 then _ else D g i) = _
  rw [if_neg h1, if_neg (fun z => h2 z.1)]
theorem insD_35 {D : mS} {p t : Int} : insD D p t 35 0 = D 35 0 + 1 := rfl
theorem insD_37 {D : mS} {p t : Int} : insD D p t 37 = ins (D 37) p t := rfl
theorem w_addAtT {E : jx_E} {l : Launch} {d : Nat} {w : jx_W} {D : mS} {G : Nat → Nat → Nat} {lo hi mi : Nat} {t p : Int} (hB : jx_B E) (hB2 : jx_B2 E mi) (hC : cR E D w G lo hi) (ht : 0 ≤ t ∧ t < D 34 0) (hp : 0 ≤ p ∧ p ≤ D 35 0) (hn : D 35 0 ≤ 50) (hel : ∀ i, 0 ≤ i ∧ i < D 35 0 → 0 ≤ D 37 i ∧ D 37 i < D 34 0) (hold : E.1.heap.size ≤ jx_n w) (h1 : 1 ≤ jx_c w) (h2 : 100 ≤ jx_s w) :
    jx_G E l Y_A_addAt (d + 6) (cpo E G lo hi w 1 none (insD D p t)) 0 (jx_ent [.ref (G 2 3), .int (iI p), .ref (G 1 t.toNat)] 5) [] w := by
  refine jx_lt (fun hlt => ?_)
  have hlc : cOk D 2 3 := .inr (.inr (.inl ⟨rfl, by omega⟩))
  obtain ⟨q1, q2, q3, q4, q5⟩ := hC.1 2 3 hlc
  have hli := hC.li 2 (by omega)
  obtain ⟨a, p0, p1, p2, p3, p4, p5, ⟨mc, p6⟩, p7⟩ := hC.2.2.2.2.1 2 (by omega)
  have p0 : jx_v w (G 2 3) 0 = .ref a := p0
  have p2 : 0 ≤ D 35 0 := p2
  have p3 : D 35 0 ≤ (jx_l w a : Int) := p3
  have p6 : jx_v w (G 2 3) 2 = .int mc := p6
  have p7 : ∀ i : Nat, (i : Int) < D 35 0 → jx_v w a i = .ref (G 1 (D 37 i).toNat) := p7
  have hpa := hlt a (by rw [p1]; decide)
  have hab : a ≠ G 2 3 := fun z => by
    rw [z, q1] at p1
    exact (cKd_105 hlc).1 p1
  have hsz : jx_v w (G 2 3) 1 = .int (iI (D 35 0)) := by
    have := hli.2.1
    rw [iI_nat, Int.toNat_of_nonneg p2] at this
    exact this
  have hte : cOk D 1 t.toNat := .inr (.inl ⟨rfl, by omega⟩)
  obtain ⟨t1, t2, t3, t4, -⟩ := hC.1 1 t.toNat hte
  have hls : lsA E w (G 2 3) a (D 35 0) := ⟨hli.1, q2, q3, p0, hsz, ⟨mc, p6⟩, p1, hpa, ⟨p2, by omega⟩, p3, p4, hold, fun i hi => by
    have he := hel i (by omega)
    have hok : cOk D 1 (D 37 i).toNat := .inr (.inl ⟨rfl, by omega⟩)
    obtain ⟨u1, u2, u3, u4, -⟩ := hC.1 1 _ hok
    rw [p7 i hi]
    exact .inr ⟨_, 3, jx_q3, rfl, u3, by decide, jx_c3 hB, u1, y_c3 hB⟩⟩
  have hjz : (jx_l w a : Int) = D 35 0 → D 35 0 = 0 → jZ E a := fun e1 e2 => by
    rcases p5 with p5 | p5
    · exact p5.2
    · exact absurd (by omega) p5.1
  have hoa : (jx_l w a : Int) ≠ D 35 0 → E.1.heap.size ≤ a := fun hne => by
    rcases p5 with p5 | p5
    · omega
    · exact p5.2.1
  have hg := gC_rg (n := D 35 0) ⟨p2, by omega⟩
  refine jx_weak (w_A_addAt hB hB2 hls hp p6 hab hjz hoa (by decide) (jx_c3 hB) t1 t3 (y_c3 hB) h1 h2) (fun r w2 hh => ?_)
  obtain ⟨e1, e2⟩ := hh
  subst e2
  refine ⟨e1, ?_⟩
  -- the world before the place is made, and the array
  obtain ⟨W, A, c1, c2, c3, c4, c5, c6, c7, c8, c9, c10, c11, c12, c13, c14⟩ : ∃ W A, jx_iw (jx_put w (G 2 3) 2 (.int (mc + iI 1))) (G 2 3) a (D 35 0) p (G 1 t.toNat) = jx_ia W (G 2 3) A (D 35 0) p (G 1 t.toNat) ∧ (jx_n w ≤ jx_n W) ∧ (∀ x, x < jx_n w → jx_k W x = jx_k w x ∧ jx_l W x = jx_l w x) ∧ (∀ x, x ≠ G 2 3 → x ≠ A → jx_v W x = jx_v w x) ∧ jx_v W (G 2 3) 0 = .ref A ∧ jx_v W (G 2 3) 2 = .int (mc + iI 1) ∧ jx_k W A = 105 ∧ (D 35 0 + 1 ≤ (jx_l W A : Int)) ∧ jx_l W A ≤ 1000 ∧ (∀ i : Nat, (i : Int) < D 35 0 → jx_v W A i = jx_v w a i) ∧ A ≠ G 2 3 ∧ (jx_c w ≤ jx_c W + 1 ∧ jx_s w ≤ jx_s W + 100) ∧ (E.1.heap.size ≤ A ∧ A < jx_n W ∧ (A < lo ∨ hi ≤ A)) ∧ ((jx_n w ≤ A) ∨ A = a ∧ ∀ j2, j2 < 4 → j2 ≠ 2 → jx_v w (G 2 (cLk j2)) 0 ≠ .ref a) := by
    by_cases hfull : (jx_l w a : Int) = D 35 0
    · refine ⟨jx_put (jx_gr (jx_put w (G 2 3) 2 (.int (mc + iI 1))) a (D 35 0).toNat (gC (D 35 0)).toNat) (G 2 3) 0 (.ref (jx_n w)), jx_n w, if_pos hfull, Nat.le_succ _, fun x hx => ⟨if_neg (show ¬ x = jx_n w by omega), if_neg (show ¬ x = jx_n w by omega)⟩, fun x hx1 hx2 => ?_, if_pos ⟨rfl, rfl⟩, ?_, if_pos rfl, ?_, ?_, fun i hi => ?_, by omega, ⟨?_, ?_⟩, ⟨hold, Nat.lt_succ_self _, .inr hC.2.2.2.2.2⟩, .inl (Nat.le_refl _)⟩
      · funext y
        show (if x = G 2 3 ∧ y = 0 then _ else if x = jx_n w then _ else if x = G 2 3 ∧ y = 2 then _ else jx_v w x y) = _
        rw [if_neg (fun z => hx1 z.1), if_neg hx2, if_neg (fun z => hx1 z.1)]
      · show (if G 2 3 = G 2 3 ∧ 2 = 0 then _ else if G 2 3 = jx_n w then _ else if G 2 3 = G 2 3 ∧ 2 = 2 then _ else _) = _
        rw [if_neg (by omega), if_neg (by omega), if_pos ⟨rfl, rfl⟩]
      · show D 35 0 + 1 ≤ (((if jx_n w = jx_n w then (gC (D 35 0)).toNat else _) : Nat) : Int)
        rw [if_pos rfl]
        omega
      · show (if jx_n w = jx_n w then (gC (D 35 0)).toNat else _) ≤ 1000
        rw [if_pos rfl]
        omega
      · show (if jx_n w = G 2 3 ∧ i = 0 then _ else if jx_n w = jx_n w then (if i < (D 35 0).toNat then (if a = G 2 3 ∧ i = 2 then _ else jx_v w a i) else _) else _) = _
        rw [if_neg (by omega), if_pos rfl, if_pos (by omega), if_neg (fun z => hab z.1)]
      · show jx_c w ≤ jx_c w - 1 + 1
        omega
      · show jx_s w ≤ jx_s w - (gC (D 35 0)).toNat + 100
        omega
    · have p5 : jx_l w a ≠ 0 ∧ E.1.heap.size ≤ a ∧ a < jx_n w ∧ (a < lo ∨ hi ≤ a) ∧ ∀ j2, j2 < 4 → j2 ≠ 2 → jx_v w (G 2 (cLk j2)) 0 ≠ .ref a := by
        rcases p5 with p5 | p5
        · exact absurd (show (jx_l w a : Int) = D 35 0 by omega) hfull
        · exact p5
      refine ⟨jx_put w (G 2 3) 2 (.int (mc + iI 1)), a, if_neg hfull, Nat.le_refl _, fun x hx => ⟨rfl, rfl⟩, fun x hx1 hx2 => ?_, ?_, if_pos ⟨rfl, rfl⟩, p1, ?_, p4, fun i hi => if_neg (fun z => hab z.1), hab, ⟨Nat.le_succ _, Nat.le_add_right _ _⟩, ⟨p5.2.1, p5.2.2.1, p5.2.2.2.1⟩, .inr ⟨rfl, p5.2.2.2.2⟩⟩
      · funext y
        exact if_neg (fun z => hx1 z.1)
      · exact (if_neg (by omega)).trans p0
      · show D 35 0 + 1 ≤ (jx_l w a : Int)
        omega
  rw [c1]
  have hkl : ∀ x, x < jx_n w → jx_k (jx_ia W (G 2 3) A (D 35 0) p (G 1 t.toNat)) x = jx_k w x ∧ jx_l (jx_ia W (G 2 3) A (D 35 0) p (G 1 t.toNat)) x = jx_l w x := fun x hx => c3 x hx
  have hlA : jx_l (jx_ia W (G 2 3) A (D 35 0) p (G 1 t.toNat)) A = jx_l W A := rfl
  have hnA : jx_n (jx_ia W (G 2 3) A (D 35 0) p (G 1 t.toNat)) = jx_n W := rfl
  have hhi := hC.2.2.2.2.2
  refine ⟨cR.relist (j := 2) (a2 := A) hC (.inl rfl) hlt (by rw [hnA]; exact c2) hkl (fun b hb hb1 hb2 => ?_) ?_ ?_ ⟨mc + iI 1, ?_⟩ (fun f i hf1 hf2 => by rw [insD_ne (by omega) (by omega)]) ⟨c7, ?_, ?_, by rw [hlA]; exact c9, .inr ⟨by rw [hlA]; omega, c13.1, c13.2.1, c13.2.2, ?_⟩⟩ (fun i hi => ?_), ⟨c12.1, c12.2, by rw [hnA]; exact c2, fun b hb => ⟨?_, (hkl b (by omega)).1, (hkl b (by omega)).2⟩⟩⟩
  · have hbA : b ≠ A := by
      rcases c14 with z | z
      · omega
      · rintro rfl
        exact hb2 (by rw [z.1]; exact p0)
    have hb3 : b ≠ G 2 3 := hb1
    rw [ia_o hb3 hbA]
    exact c4 b hb3 hbA
  · show jx_v _ (G 2 3) 0 = _
    rw [ia_b c11, if_neg (by omega)]
    exact c5
  · show jx_v _ (G 2 3) 1 = .int (iI (insD D p t 35 0))
    rw [ia_b c11, if_pos rfl, insD_35]
  · show jx_v _ (G 2 3) 2 = _
    rw [ia_b c11, if_neg (by omega)]
    exact c6
  · show 0 ≤ insD D p t 35 0
    rw [insD_35]
    omega
  · show insD D p t 35 0 ≤ _
    rw [insD_35, hlA]
    exact c8
  · rcases c14 with z | z
    · exact .inl z
    · exact .inr (by rw [z.1]; exact z.2)
  · have hi : (i : Int) < insD D p t 35 0 := hi
    rw [insD_35] at hi
    rw [ia_a c11 hp i (by omega)]
    show _ = Value.ref (G 1 (insD D p t 37 i).toNat)
    rw [insD_37]
    unfold ins
    by_cases z1 : (i : Int) < p
    · rw [if_pos z1, if_pos z1, c10 i (by omega)]
      exact p7 i (by omega)
    · rw [if_neg z1, if_neg z1]
      by_cases z2 : (i : Int) = p
      · rw [if_pos z2, if_pos z2]
      · rw [if_neg z2, if_neg z2, c10 (i - 1) (by omega), p7 (i - 1) (by omega), show ((i - 1 : Nat) : Int) = (i : Int) - 1 by omega]
  · have z1 : b ≠ G 2 3 := by omega
    have z2 : b ≠ A := by omega
    rw [ia_o z1 z2]
    exact c4 b z1 z2
