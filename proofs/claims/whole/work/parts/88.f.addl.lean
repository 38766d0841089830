/-! 88.f.addl: a task is added to a working list -/
theorem w_addT {E : jx_E} {l : Launch} {d : Nat} {w : jx_W} {D : mS} {G : Nat → Nat → Nat} {lo hi j mi : Nat} {t : Int} (hB : jx_B E) (hB2 : jx_B2 E mi) (hC : cR E D w G lo hi) (hj : j = 2 ∨ j = 3) (ht : 0 ≤ t ∧ t < D 34 0) (hn : D (33 + j) 0 ≤ 50) (hel : ∀ i, 0 ≤ i ∧ i < D (33 + j) 0 → 0 ≤ D (35 + j) i ∧ D (35 + j) i < D 34 0) (hold : E.1.heap.size ≤ jx_n w) (h1 : 1 ≤ jx_c w) (h2 : 100 ≤ jx_s w) :
    jx_G E l Y_A_add (d + 6) (cpo E G lo hi w 1 (some (.int (iI 1))) (sU (sU D (35 + j) (D (33 + j) 0) t) (33 + j) 0 (D (33 + j) 0 + 1))) 0 (jx_ent [.ref (G 2 (cLk j)), .ref (G 1 t.toNat)] 2) [] w := by
  refine jx_lt (fun hlt => ?_)
  have hjk := cLk_c (j := j) (by omega)
  have hlc : cOk D 2 (cLk j) := .inr (.inr (.inl ⟨rfl, by omega⟩))
  obtain ⟨q1, q2, q3, q4, q5⟩ := hC.1 2 (cLk j) hlc
  have hli := hC.li j (by omega)
  obtain ⟨a, p0, p1, p2, p3, p4, p5, ⟨mc, p6⟩, p7⟩ := hC.2.2.2.2.1 j (by omega)
  have hpa := hlt a (by rw [p1]; decide)
  have hab : a ≠ G 2 (cLk j) := fun z => by
    rw [z, q1] at p1
    exact (cKd_105 hlc).1 p1
  have hsz : jx_v w (G 2 (cLk j)) 1 = .int (iI (D (33 + j) 0)) := by
    have := hli.2.1
    rw [iI_nat, Int.toNat_of_nonneg p2] at this
    exact this
  have hte : cOk D 1 t.toNat := .inr (.inl ⟨rfl, by omega⟩)
  obtain ⟨t1, t2, t3, t4, -⟩ := hC.1 1 t.toNat hte
  have hcE : ∀ i : Nat, cEl G D j i = G 1 (D (35 + j) i).toNat := by
    intro i
    unfold cEl
    rcases hj with rfl | rfl <;> rfl
  have hls : lsA E w (G 2 (cLk j)) a (D (33 + j) 0) := ⟨hli.1, q2, q3, p0, hsz, ⟨mc, p6⟩, p1, hpa, ⟨p2, by omega⟩, p3, p4, hold, fun i hi => by
    have he := hel i (by omega)
    have hok : cOk D 1 (D (35 + j) i).toNat := .inr (.inl ⟨rfl, by omega⟩)
    obtain ⟨u1, u2, u3, u4, -⟩ := hC.1 1 _ hok
    rw [p7 i hi, hcE]
    exact .inr ⟨_, 3, jx_q3, rfl, u3, by decide, jx_c3 hB, u1, y_c3 hB⟩⟩
  have hjz : (jx_l w a : Int) = D (33 + j) 0 → D (33 + j) 0 = 0 → jZ E a := fun e1 e2 => by
    rcases p5 with p5 | p5
    · exact p5.2
    · exact absurd (by omega) p5.1
  have hoa : (jx_l w a : Int) ≠ D (33 + j) 0 → E.1.heap.size ≤ a := fun hne => by
    rcases p5 with p5 | p5
    · omega
    · exact p5.2.1
  have hg := gC_rg (n := D (33 + j) 0) ⟨p2, by omega⟩
  have hs1 : sU (sU D (35 + j) (D (33 + j) 0) t) (33 + j) 0 (D (33 + j) 0 + 1) (33 + j) 0 = D (33 + j) 0 + 1 := sU_same
  have hs2 : ∀ i : Nat, cEl G (sU (sU D (35 + j) (D (33 + j) 0) t) (33 + j) 0 (D (33 + j) 0 + 1)) j i = if (i : Int) = D (33 + j) 0 then G 1 t.toNat else cEl G D j i := by
    intro i
    have e : cEl G (sU (sU D (35 + j) (D (33 + j) 0) t) (33 + j) 0 (D (33 + j) 0 + 1)) j i = G 1 (sU (sU D (35 + j) (D (33 + j) 0) t) (33 + j) 0 (D (33 + j) 0 + 1) (35 + j) i).toNat := by
      unfold cEl
      rcases hj with rfl | rfl <;> rfl
    rw [e, sU_f (by omega), hcE]
    by_cases e2 : (i : Int) = D (33 + j) 0
    · rw [if_pos e2, e2, sU_same]
    · rw [if_neg e2, sU_i e2]
  refine jx_weak (w_A_add hB hB2 hls p6 hab hjz hoa (by decide) (jx_c3 hB) t1 t3 (y_c3 hB) h1 h2) (fun r w2 hh => ?_)
  obtain ⟨e1, e2⟩ := hh
  subst e2
  refine ⟨e1, ?_⟩
  have hbn : G 2 (cLk j) ≠ jx_n w := by omega
  have han : a ≠ jx_n w := by omega
  by_cases hfull : (jx_l w a : Int) = D (33 + j) 0
  · have ew : jx_ad (jx_put w (G 2 (cLk j)) 2 (.int (mc + iI 1))) (G 2 (cLk j)) a (D (33 + j) 0) (G 1 t.toNat) = jx_put (jx_put (jx_put (jx_gr (jx_put w (G 2 (cLk j)) 2 (.int (mc + iI 1))) a (D (33 + j) 0).toNat (gC (D (33 + j) 0)).toNat) (G 2 (cLk j)) 0 (.ref (jx_n w))) (jx_n w) (D (33 + j) 0).toNat (.ref (G 1 t.toNat))) (G 2 (cLk j)) 1 (.int (iI (D (33 + j) 0 + 1))) := if_pos hfull
    rw [ew]
    -- every value of the new world
    have ev : ∀ x y, jx_v (jx_put (jx_put (jx_put (jx_gr (jx_put w (G 2 (cLk j)) 2 (.int (mc + iI 1))) a (D (33 + j) 0).toNat (gC (D (33 + j) 0)).toNat) (G 2 (cLk j)) 0 (.ref (jx_n w))) (jx_n w) (D (33 + j) 0).toNat (.ref (G 1 t.toNat))) (G 2 (cLk j)) 1 (.int (iI (D (33 + j) 0 + 1)))) x y = if x = G 2 (cLk j) ∧ y = 1 then .int (iI (D (33 + j) 0 + 1)) else if x = jx_n w ∧ y = (D (33 + j) 0).toNat then .ref (G 1 t.toNat) else if x = G 2 (cLk j) ∧ y = 0 then .ref (jx_n w) else if x = jx_n w then (if y < (D (33 + j) 0).toNat then (if a = G 2 (cLk j) ∧ y = 2 then .int (mc + iI 1) else jx_v w a y) else .null) else if x = G 2 (cLk j) ∧ y = 2 then .int (mc + iI 1) else jx_v w x y := fun x y => rfl
    have eo : ∀ x y, x ≠ jx_n w → x ≠ G 2 (cLk j) → jx_v (jx_put (jx_put (jx_put (jx_gr (jx_put w (G 2 (cLk j)) 2 (.int (mc + iI 1))) a (D (33 + j) 0).toNat (gC (D (33 + j) 0)).toNat) (G 2 (cLk j)) 0 (.ref (jx_n w))) (jx_n w) (D (33 + j) 0).toNat (.ref (G 1 t.toNat))) (G 2 (cLk j)) 1 (.int (iI (D (33 + j) 0 + 1)))) x y = jx_v w x y := fun x y h1 h2 => by
      rw [ev, if_neg (fun z => h2 z.1), if_neg (fun z => h1 z.1), if_neg (fun z => h2 z.1), if_neg h1, if_neg (fun z => h2 z.1)]
    refine ⟨cR.relist (a2 := jx_n w) hC hj hlt (Nat.le_succ _) (fun b hb => ⟨if_neg (show ¬ b = jx_n w by omega), if_neg (show ¬ b = jx_n w by omega)⟩) (fun b hb h1 h2 => funext (fun y => eo b y (by omega) h1)) ?_ ?_ ⟨mc + iI 1, ?_⟩ (fun f i h1 h2 => by rw [sU_f h1, sU_f h2]) ⟨if_pos rfl, ?_, ?_, ?_, .inr ⟨?_, hold, Nat.lt_succ_self _, .inr hC.2.2.2.2.2, .inl (Nat.le_refl _)⟩⟩ (fun i hi => ?_), ⟨?_, ?_, Nat.le_succ _, fun b hb => ⟨funext (fun y => eo b y ?_ ?_), if_neg ?_, if_neg ?_⟩⟩⟩
    · rw [ev, if_neg (by omega), if_neg (fun z => hbn z.1), if_pos ⟨rfl, rfl⟩]
    · rw [ev, if_pos ⟨rfl, rfl⟩, hs1]
    · rw [ev, if_neg (by omega), if_neg (fun z => hbn z.1), if_neg (by omega), if_neg hbn, if_pos ⟨rfl, rfl⟩]
    · rw [hs1]; omega
    · rw [hs1]
      show D (33 + j) 0 + 1 ≤ (((if jx_n w = jx_n w then (gC (D (33 + j) 0)).toNat else _) : Nat) : Int)
      rw [if_pos rfl]
      omega
    · show (if jx_n w = jx_n w then (gC (D (33 + j) 0)).toNat else _) ≤ 1000
      rw [if_pos rfl]
      omega
    · show (if jx_n w = jx_n w then (gC (D (33 + j) 0)).toNat else _) ≠ 0
      rw [if_pos rfl]
      omega
    · rw [hs1] at hi
      rw [hs2, ev, if_neg (fun z => hbn z.1.symm)]
      by_cases e : (i : Int) = D (33 + j) 0
      · rw [if_pos (show jx_n w = jx_n w ∧ i = (D (33 + j) 0).toNat from ⟨rfl, by omega⟩), if_pos e]
      · rw [if_neg (show ¬ (jx_n w = jx_n w ∧ i = (D (33 + j) 0).toNat) from fun z => e (by omega)), if_neg (fun z => hbn z.1.symm), if_pos rfl, if_pos (show i < (D (33 + j) 0).toNat by omega), if_neg (fun z => hab z.1), if_neg e]
        exact p7 i (by omega)
    · show jx_c w ≤ jx_c w - 1 + 1
      omega
    · show jx_s w ≤ jx_s w - (gC (D (33 + j) 0)).toNat + 100 * 1
      omega
    · have := hC.2.2.2.2.2
      omega
    · omega
    · have := hC.2.2.2.2.2
      show ¬ b = jx_n w
      omega
    · have := hC.2.2.2.2.2
      show ¬ b = jx_n w
      omega
  · have ew : jx_ad (jx_put w (G 2 (cLk j)) 2 (.int (mc + iI 1))) (G 2 (cLk j)) a (D (33 + j) 0) (G 1 t.toNat) = jx_put (jx_put (jx_put w (G 2 (cLk j)) 2 (.int (mc + iI 1))) a (D (33 + j) 0).toNat (.ref (G 1 t.toNat))) (G 2 (cLk j)) 1 (.int (iI (D (33 + j) 0 + 1))) := if_neg hfull
    rw [ew]
    have p5 : jx_l w a ≠ 0 ∧ E.1.heap.size ≤ a ∧ a < jx_n w ∧ (a < lo ∨ hi ≤ a) ∧ ∀ j2, j2 < 4 → j2 ≠ j → jx_v w (G 2 (cLk j2)) 0 ≠ .ref a := by
      rcases p5 with p5 | p5
      · exact absurd (show (jx_l w a : Int) = D (33 + j) 0 by omega) hfull
      · exact p5
    have ev : ∀ x y, jx_v (jx_put (jx_put (jx_put w (G 2 (cLk j)) 2 (.int (mc + iI 1))) a (D (33 + j) 0).toNat (.ref (G 1 t.toNat))) (G 2 (cLk j)) 1 (.int (iI (D (33 + j) 0 + 1)))) x y = if x = G 2 (cLk j) ∧ y = 1 then .int (iI (D (33 + j) 0 + 1)) else if x = a ∧ y = (D (33 + j) 0).toNat then .ref (G 1 t.toNat) else if x = G 2 (cLk j) ∧ y = 2 then .int (mc + iI 1) else jx_v w x y := fun x y => rfl
    have eo : ∀ x y, x ≠ a → x ≠ G 2 (cLk j) → jx_v (jx_put (jx_put (jx_put w (G 2 (cLk j)) 2 (.int (mc + iI 1))) a (D (33 + j) 0).toNat (.ref (G 1 t.toNat))) (G 2 (cLk j)) 1 (.int (iI (D (33 + j) 0 + 1)))) x y = jx_v w x y := fun x y h1 h2 => by
      rw [ev, if_neg (fun z => h2 z.1), if_neg (fun z => h1 z.1), if_neg (fun z => h2 z.1)]
    refine ⟨cR.relist (a2 := a) hC hj hlt (Nat.le_refl _) (fun b hb => ⟨rfl, rfl⟩) (fun b hb h1 h2 => funext (fun y => eo b y (fun z => h2 (by rw [z]; exact p0)) h1)) ?_ ?_ ⟨mc + iI 1, ?_⟩ (fun f i h1 h2 => by rw [sU_f h1, sU_f h2]) ⟨p1, ?_, ?_, p4, .inr ⟨p5.1, p5.2.1, p5.2.2.1, p5.2.2.2.1, .inr p5.2.2.2.2⟩⟩ (fun i hi => ?_), ⟨Nat.le_succ _, Nat.le_add_right _ _, Nat.le_refl _, fun b hb => ⟨funext (fun y => eo b y ?_ ?_), rfl, rfl⟩⟩⟩
    · rw [ev, if_neg (by omega), if_neg (fun z => hab z.1.symm), if_neg (by omega)]
      exact p0
    · rw [ev, if_pos ⟨rfl, rfl⟩, hs1]
    · rw [ev, if_neg (by omega), if_neg (fun z => hab z.1.symm), if_pos ⟨rfl, rfl⟩]
    · rw [hs1]; omega
    · rw [hs1]
      show D (33 + j) 0 + 1 ≤ (jx_l w a : Int)
      omega
    · rw [hs1] at hi
      rw [hs2, ev, if_neg (fun z => hab z.1)]
      by_cases e : (i : Int) = D (33 + j) 0
      · rw [if_pos (show a = a ∧ i = (D (33 + j) 0).toNat from ⟨rfl, by omega⟩), if_pos e]
      · rw [if_neg (show ¬ (a = a ∧ i = (D (33 + j) 0).toNat) from fun z => e (by omega)), if_neg (fun z => hab z.1), if_neg e]
        exact p7 i (by omega)
    · omega
    · omega
