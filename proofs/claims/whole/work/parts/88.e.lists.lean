/-! 88.e.lists: clear and add for the class's working lists -/
/-- the world while a list is cleared: the first i elements are gone -/
def jx_clr (w : jx_W) (b a i : Nat) (mc : Int32) : jx_W := (jx_n w, jx_c w, jx_s w, jx_k w, jx_l w, fun x y => if x = b ∧ y = 1 then .int (iI 0) else if x = b ∧ y = 2 then .int mc else if x = a ∧ y < i then .null else jx_v w x y)
theorem cl_s {w : jx_W} {b a i : Nat} {mc : Int32} (hab : a ≠ b) : jx_put (jx_clr w b a i mc) a i .null = jx_clr w b a (i + 1) mc := by
  refine jx_W_ext rfl rfl rfl rfl rfl ?_
  funext x y
  show (if x = a ∧ y = i then Value.null else if x = b ∧ y = 1 then .int (iI 0) else if x = b ∧ y = 2 then .int mc else if x = a ∧ y < i then .null else jx_v w x y) = (if x = b ∧ y = 1 then .int (iI 0) else if x = b ∧ y = 2 then .int mc else if x = a ∧ y < i + 1 then .null else jx_v w x y)
  by_cases e : x = a ∧ y = i
  · rw [if_pos e, if_neg (fun z => hab (e.1.symm.trans z.1)), if_neg (fun z => hab (e.1.symm.trans z.1)), if_pos ⟨e.1, by omega⟩]
  · rw [if_neg e]
    by_cases e2 : x = a ∧ y < i
    · rw [if_pos e2, if_pos (show x = a ∧ y < i + 1 from ⟨e2.1, by omega⟩)]
    · rw [if_neg e2, if_neg (show ¬ (x = a ∧ y < i + 1) from fun z => by
        by_cases e3 : y = i
        · exact e ⟨z.1, e3⟩
        · exact e2 ⟨z.1, by omega⟩)]
theorem cl_0 {w : jx_W} {b a : Nat} {mc : Int32} : jx_put (jx_put w b 2 (.int mc)) b 1 (.int (iI 0)) = jx_clr w b a 0 mc := by
  refine jx_W_ext rfl rfl rfl rfl rfl ?_
  funext x y
  show (if x = b ∧ y = 1 then Value.int (iI 0) else if x = b ∧ y = 2 then .int mc else jx_v w x y) = (if x = b ∧ y = 1 then .int (iI 0) else if x = b ∧ y = 2 then .int mc else if x = a ∧ y < 0 then .null else jx_v w x y)
  rw [if_neg (show ¬ (x = a ∧ y < 0) from fun z => absurd z.2 (Nat.not_lt_zero _))]
theorem w_A_clear {E : jx_E} {l : Launch} {d : Nat} {w : jx_W} {a b : Nat} {n : Int} {mc : Int32} (hB : jx_B E) (k1 : jx_k w b = 7) (k2 : E.1.heap.size ≤ b) (k4 : jx_v w b 0 = .ref a) (k5 : jx_v w b 1 = .int (iI n)) (k6 : jx_v w b 2 = .int mc) (k7 : jx_k w a = 105) (k9 : 0 ≤ n ∧ n ≤ (jx_l w a : Int)) (k10 : jx_l w a ≤ 1000) (hab : a ≠ b) (ho : n ≠ 0 → E.1.heap.size ≤ a) :
    jx_G E l Y_A_clear d (jx_eq (.inr none) (jx_clr w b a n.toNat (mc + iI 1))) 0 (jx_ent [.ref b] 4) [] w := by
  have key : ∀ (j : Nat) (i : Int), 0 ≤ i ∧ i ≤ n → n - i < j → jx_G E l Y_A_clear d (jx_eq (.inr none) (jx_clr w b a n.toNat (mc + iI 1))) 27 [some (.ref b), some (.ref a), some (.int (iI n)), some (.int (iI i))] [] (jx_clr w b a i.toNat (mc + iI 1)) := by
    intro j
    induction j with
    | zero => intro i hi hj; exfalso; omega
    | succ j ih =>
      intro i hi hj
      refine jx_iload_n d_A_clear_27 rfl rfl ?_
      refine jx_iload_n d_A_clear_28 rfl rfl ?_
      refine jI_icmp_ge (tgt := 42) d_A_clear_29 (by decide) (by omega) (by omega) (fun hc => ?_) (fun hc => ?_)
      · have e : i = n := by omega
        rw [e]
        exact jx_vret d_A_clear_42 rfl ⟨rfl, rfl⟩
      · refine jx_aload_n d_A_clear_32 rfl rfl ?_
        refine jx_iload_n d_A_clear_33 rfl rfl ?_
        refine jx_null d_A_clear_34 ?_
        refine jx_aastN d_A_clear_35 k7 (iI_in (by show 0 ≤ i ∧ i < (jx_l w a : Int); omega) (by show jx_l w a < 2147483648; omega)) (ho (by omega)) ?_
        rw [iI_clamp (by omega), cl_s hab]
        refine jI_inc d_A_clear_36 rfl rfl ?_
        try dsimp only [List.set]
        refine jx_goto (tgt := 27) d_A_clear_39 (by decide) ?_
        have := ih (i + 1) (by omega) (by omega)
        rw [show (i + 1).toNat = i.toNat + 1 by omega] at this
        exact this
  show jx_G E l Y_A_clear d _ 0 [some (.ref b), none, none, none] [] w
  refine jx_aload_n d_A_clear_0 rfl rfl ?_
  refine jx_dup d_A_clear_1 rfl ?_
  refine jx_getv d_A_clear_2 (f_A_63 hB) k1 k6 ?_
  refine jI_const d_A_clear_5 ?_
  refine jx_iadd d_A_clear_6 ?_
  refine jx_putf d_A_clear_7 (f_A_63 hB) (t_6_2 hB) k1 k2 rfl rfl ?_
  have ev : ∀ x i, ¬ (x = b ∧ i = 2) → jx_v (jx_put w b 2 (.int (mc + iI 1))) x i = jx_v w x i := fun x i hx => if_neg hx
  refine jx_aload_n d_A_clear_10 rfl rfl ?_
  refine jx_getv (v := .ref a) d_A_clear_11 (f_A_9 hB) (show jx_k (jx_put w b 2 (.int (mc + iI 1))) b = 6 + 1 from k1) (by rw [ev b 0 (by omega)]; exact k4) ?_
  refine jx_astore_n d_A_clear_14 rfl (Nat.le_of_ble_eq_true rfl) rfl ?_
  try dsimp only [List.set]
  refine jx_aload_n d_A_clear_15 rfl rfl ?_
  refine jx_getv (v := .int (iI n)) d_A_clear_16 (f_A_48 hB) (show jx_k (jx_put w b 2 (.int (mc + iI 1))) b = 6 + 1 from k1) (by rw [ev b 1 (by omega)]; exact k5) ?_
  refine jx_istore_n d_A_clear_19 rfl (Nat.le_of_ble_eq_true rfl) rfl ?_
  try dsimp only [List.set]
  refine jx_aload_n d_A_clear_20 rfl rfl ?_
  refine jI_const d_A_clear_21 ?_
  refine jx_dup_x1 d_A_clear_22 rfl rfl ?_
  refine jx_putf d_A_clear_23 (f_A_48 hB) (t_6_1 hB) (show jx_k (jx_put w b 2 (.int (mc + iI 1))) b = 6 + 1 from k1) k2 rfl rfl ?_
  refine jx_istore_n d_A_clear_26 rfl (Nat.le_of_ble_eq_true rfl) rfl ?_
  try dsimp only [List.set]
  rw [cl_0 (a := a)]
  exact key (n.toNat + 1) 0 (by omega) (by omega)
/-- clearing openByDue or the planner's list -/
theorem w_clear {E : jx_E} {l : Launch} {d : Nat} {w : jx_W} {D : mS} {G : Nat → Nat → Nat} {lo hi j : Nat} (hB : jx_B E) (hC : cR E D w G lo hi) (hj : j = 2 ∨ j = 3) : jx_G E l Y_A_clear d (cpo E G lo hi w 0 none (sU D (33 + j) 0 0)) 0 (jx_ent [.ref (G 2 (cLk j))] 4) [] w := by
  refine jx_lt (fun hlt => ?_)
  have hjk := cLk_c (j := j) (by omega)
  have hlc : cOk D 2 (cLk j) := .inr (.inr (.inl ⟨rfl, by omega⟩))
  obtain ⟨q1, q2, q3, q4, q5⟩ := hC.1 2 (cLk j) hlc
  have hli := hC.li j (by omega)
  obtain ⟨a, p0, p1, p2, p3, p4, p5, ⟨mc, p6⟩, p7⟩ := hC.2.2.2.2.1 j (by omega)
  have hab : a ≠ G 2 (cLk j) := fun z => by
    rw [z, q1] at p1
    exact (cKd_105 hlc).1 p1
  have hsz : jx_v w (G 2 (cLk j)) 1 = .int (iI (D (33 + j) 0)) := by
    have := hli.2.1
    rw [iI_nat, Int.toNat_of_nonneg p2] at this
    exact this
  refine jx_weak (w_A_clear hB hli.1 q2 p0 hsz p6 p1 ⟨p2, p3⟩ p4 hab (fun hne => ?_)) (fun r w2 hh => ?_)
  · rcases p5 with p5 | p5
    · omega
    · exact p5.2.1
  · obtain ⟨e1, e2⟩ := hh
    subst e2
    have ea : ∀ x y, ¬ (x = G 2 (cLk j)) → x ≠ a → jx_v (jx_clr w (G 2 (cLk j)) a (D (33 + j) 0).toNat (mc + iI 1)) x y = jx_v w x y := fun x y h1 h2 => by
      show (if x = G 2 (cLk j) ∧ y = 1 then _ else if x = G 2 (cLk j) ∧ y = 2 then _ else if x = a ∧ y < _ then _ else jx_v w x y) = _
      rw [if_neg (fun z => h1 z.1), if_neg (fun z => h1 z.1), if_neg (fun z => h2 z.1)]
    refine ⟨e1, cR.relist (a2 := a) hC hj hlt (Nat.le_refl _) (fun b _ => ⟨rfl, rfl⟩) (fun b _ h1 h2 => ?_) ?_ ?_ ⟨mc + iI 1, ?_⟩ (fun f i h1 _ => sU_f h1) ⟨p1, ?_, ?_, p4, ?_⟩ (fun i hi => ?_), ⟨Nat.le_refl _, Nat.le_refl _, Nat.le_refl _, fun b hb => ⟨?_, rfl, rfl⟩⟩⟩
    · funext y
      exact ea b y h1 (fun z => h2 (by rw [z]; exact p0))
    · show (if G 2 (cLk j) = G 2 (cLk j) ∧ 0 = 1 then _ else if G 2 (cLk j) = G 2 (cLk j) ∧ 0 = 2 then _ else if G 2 (cLk j) = a ∧ 0 < _ then _ else jx_v w (G 2 (cLk j)) 0) = _
      rw [if_neg (by omega), if_neg (by omega), if_neg (fun z => hab z.1.symm)]
      exact p0
    · rw [sU_same]
      exact if_pos ⟨rfl, rfl⟩
    · show (if G 2 (cLk j) = G 2 (cLk j) ∧ 2 = 1 then _ else if G 2 (cLk j) = G 2 (cLk j) ∧ 2 = 2 then Value.int (mc + iI 1) else _) = _
      rw [if_neg (by omega), if_pos ⟨rfl, rfl⟩]
    · rw [sU_same]; exact Int.le_refl _
    · rw [sU_same]; exact Int.natCast_nonneg _
    · rcases p5 with p5 | ⟨m0, m1, m2, m3, m4⟩
      · exact .inl ⟨p5.1, p5.2, p0⟩
      · exact .inr ⟨m0, m1, m2, m3, .inr m4⟩
    · rw [sU_same] at hi
      omega
    · funext y
      by_cases hba : b = a
      · rcases p5 with p5 | ⟨m0, m1, m2, m3, m4⟩
        · have e0 : (D (33 + j) 0).toNat = 0 := by omega
          show (if b = G 2 (cLk j) ∧ y = 1 then _ else if b = G 2 (cLk j) ∧ y = 2 then _ else if b = a ∧ y < (D (33 + j) 0).toNat then _ else jx_v w b y) = _
          rw [e0, if_neg (fun z => hab (hba.symm.trans z.1)), if_neg (fun z => hab (hba.symm.trans z.1)), if_neg (fun z => absurd z.2 (Nat.not_lt_zero _))]
        · omega
      · refine ea b y (fun z => ?_) hba
        rw [z] at hb
        omega
