/-! 92.a.help: the law's helpers -/
set_option maxRecDepth 100000 in
theorem y_L13 {E : jx_E} (hB : jx_B E) : (Jvm.Cond.classLink "TaskShareLaw" 13 (jx_xn 1)).before #[] E.1 = true := jx_w1 hB 228 rfl rfl
set_option maxRecDepth 100000 in
theorem y_L15 {E : jx_E} (hB : jx_B E) : (Jvm.Cond.classLink "TaskShareLaw" 15 (jx_xn 3)).before #[] E.1 = true := jx_w1 hB 229 rfl rfl
set_option maxRecDepth 100000 in
theorem y_L21 {E : jx_E} (hB : jx_B E) : (Jvm.Cond.classLink "TaskShareLaw" 21 (jx_xn 0)).before #[] E.1 = true := jx_w2 hB 207 rfl rfl
set_option maxRecDepth 100000 in
theorem y_L27 {E : jx_E} (hB : jx_B E) : (Jvm.Cond.classLink "TaskShareLaw" 27 (jx_xn 2)).before #[] E.1 = true := jx_w2 hB 235 rfl rfl
theorem lw_fc {E : jx_E} {z pa : Nat} (h : jx_B3 E z pa) : ∀ x, x < 4 → ∃ c, E.1.vm.findClass (jx_xn x) = some c := by
  obtain ⟨-, -, -, -, -, -, ⟨a, b, h1, h2, -⟩, ⟨c, d, h3, h4, -⟩, ⟨e, f, h5, h6, -⟩, -⟩ := h
  intro x hx
  have hx : x = 0 ∨ x = 1 ∨ x = 2 ∨ x = 3 := by omega
  rcases hx with rfl | rfl | rfl | rfl
  · exact ⟨d, h4⟩
  · exact ⟨b, h2⟩
  · exact ⟨e, h5⟩
  · exact ⟨a, h1⟩
theorem lw_take {E : jx_E} {z pa pc s e h idx x : Nat} (h3 : jx_B3 E z pa) (hl : (Jvm.Cond.classLink "TaskShareLaw" idx (jx_xn x)).before #[] E.1 = true) (hx : x < 4) (h1 : s ≤ pc ∧ pc < e) (h2 : idx ≠ 0) : jx_take E "TaskShareLaw" pc x (s, e, h, idx) := by
  obtain ⟨c, hc⟩ := lw_fc h3 x hx
  exact ⟨h1, h2, jx_xn x, c, c, hl, hc, hc, va_asg _ c⟩
theorem lw_pass {E : jx_E} {pc s e h idx x y : Nat} (hN : va_Nc (jx_xn x) (jx_xn y) E.1) (hl : (Jvm.Cond.classLink "TaskShareLaw" idx (jx_xn y)).before #[] E.1 = true) (h2 : idx ≠ 0) : jx_pass E "TaskShareLaw" pc x (s, e, h, idx) := by
  obtain ⟨c, t, h1, h3, h4⟩ := hN
  exact .inr ⟨h2, jx_xn y, t, c, hl, h3, h1, h4⟩
/-- within the reference's addresses only out may have changed -/
def lwF (lo hi out : Nat) (w w' : jx_W) : Prop := jx_c w ≤ jx_c w' + 50 ∧ jx_s w ≤ jx_s w' + 5000 ∧ jx_n w ≤ jx_n w' ∧ ∀ b, lo ≤ b ∧ b < hi → jx_k w' b = jx_k w b ∧ jx_l w' b = jx_l w b ∧ (b ≠ out → jx_v w' b = jx_v w b)
theorem cF.lw {lo hi out : Nat} {w w' : jx_W} (h : cF lo hi 50 w w') : lwF lo hi out w w' := by
  obtain ⟨h1, h2, h3, h4⟩ := h
  exact ⟨h1, by omega, h3, fun b hb => ⟨(h4 b hb).2.1, (h4 b hb).2.2, fun _ => (h4 b hb).1⟩⟩
theorem cF.lwp {lo hi out j : Nat} {v : Value} {w w' : jx_W} (h : cF lo hi 50 w w') : lwF lo hi out w (jx_put w' out j v) := by
  obtain ⟨h1, h2, h3, h4⟩ := h
  refine ⟨h1, by show jx_s w ≤ jx_s w' + 5000; omega, h3, fun b hb => ⟨(h4 b hb).2.1, (h4 b hb).2.2, fun hne => ?_⟩⟩
  funext y
  rw [put_v, if_neg (fun z => hne z.1), (h4 b hb).1]
/-- a helper's end: what was thrown as a number, the class in its new state, the answer in out -/
def lwQ (E : jx_E) (ts lo hi out : Nat) (w : jx_W) (x : Option Int64) (S2 : mS) : jx_R → jx_W → Prop := fun r w' => r = .inr (some (.int (iI (S2 3 0)))) ∧ (∃ (D2 : mS) (G2 : Nat → Nat → Nat), cR E D2 w' G2 lo hi ∧ rl S2 D2 ∧ G2 2 0 = ts) ∧ lwF lo hi out w w' ∧ ∀ y, x = some y → iI (S2 3 0) = 0 → jx_v w' out 0 = .long y
section LWQ
variable {E : jx_E} {D2 S2 : mS} {G G2 : Nat → Nat → Nat} {lo hi out : Nat} {w w1 : jx_W}
theorem lw_ok {x : Int64} (hC : cR E D2 w1 G2 lo hi) (hR : rl S2 D2) (hF : cF lo hi 50 w w1) (hG : G2 2 0 = G 2 0) (ho : lo ≤ out ∧ out < hi) (hk : jx_k w1 out = 101) (h3 : S2 3 0 = 0) : lwQ E (G 2 0) lo hi out w (some x) S2 (.inr (some (.int (iI 0)))) (jx_put w1 out 0 (.long x)) := by
  refine ⟨by rw [h3], ⟨D2, G2, hC.inn ho (by rw [hk]; decide), hR, hG⟩, hF.lwp, fun y hy _ => ?_⟩
  cases hy
  rw [put_v, if_pos ⟨rfl, rfl⟩]
theorem lw_ok0 (hC : cR E D2 w1 G2 lo hi) (hR : rl S2 D2) (hF : cF lo hi 50 w w1) (hG : G2 2 0 = G 2 0) (h3 : S2 3 0 = 0) : lwQ E (G 2 0) lo hi out w none S2 (.inr (some (.int (iI 0)))) w1 := ⟨by rw [h3], ⟨D2, G2, hC, hR, hG⟩, hF.lw, fun y hy => by cases hy⟩
theorem lw_thr {x : Option Int64} {k : Int} (hC : cR E D2 w1 G2 lo hi) (hR : rl S2 D2) (hF : cF lo hi 50 w w1) (hG : G2 2 0 = G 2 0) (h3 : S2 3 0 = k) (hk : ¬ iI k = 0) : lwQ E (G 2 0) lo hi out w x S2 (.inr (some (.int (iI k)))) w1 := by
  refine ⟨by rw [h3], ⟨D2, G2, hC, hR, hG⟩, hF.lw, fun y hy h0 => ?_⟩
  rw [h3] at h0
  exact absurd h0 hk
end LWQ
theorem c_k0 {E : jx_E} {D : mS} {w : jx_W} {G : Nat → Nat → Nat} {lo hi : Nat} (h : cR E D w G lo hi) : jx_k w (G 2 0) = 0 + 1 := (h.1 2 0 (.inr (.inr (.inl ⟨rfl, by decide⟩)))).1
theorem th_person (S : mS) (a b c z : Int) : (oPerson S a b c z).2 3 0 = 0 ∨ (oPerson S a b c z).2 3 0 = 1 ∨ (oPerson S a b c z).2 3 0 = 2 := by
  unfold oPerson
  (repeat' split) <;> simp [sU, oFree]
theorem th_rest (S : mS) (p a b : Int) : (oRest S p a b) 3 0 = 0 ∨ (oRest S p a b) 3 0 = 1 ∨ (oRest S p a b) 3 0 = 2 := by
  unfold oRest
  (repeat' split) <;> simp [sU, oFree]
theorem th_train (S : mS) (p s : Int) : (oTrain S p s).2 3 0 = 0 ∨ (oTrain S p s).2 3 0 = 1 ∨ (oTrain S p s).2 3 0 = 2 ∨ (oTrain S p s).2 3 0 = 3 := by
  unfold oTrain
  (repeat' split) <;> simp [sU, oFree]
theorem th_task (S : mS) (a b c z : Int) : (oTask S a b c z).2 3 0 = 0 ∨ (oTask S a b c z).2 3 0 = 1 ∨ (oTask S a b c z).2 3 0 = 2 := by
  unfold oTask
  (repeat' split) <;> simp [sU, oFree]
theorem th_way (S : mS) (a b c : Int) : (oWay S a b c) 3 0 = 0 ∨ (oWay S a b c) 3 0 = 1 := by
  unfold oWay
  (repeat' split) <;> simp [sU, oFree]
theorem th_refuse (S : mS) (p t : Int) : (oRefuse S p t).2 3 0 = 0 ∨ (oRefuse S p t).2 3 0 = 1 ∨ (oRefuse S p t).2 3 0 = 2 := by
  unfold oRefuse
  (repeat' split) <;> simp [sU, oFree]
theorem th_bar (S : mS) (p t : Int) : (oBar S p t).2 3 0 = 0 ∨ (oBar S p t).2 3 0 = 1 ∨ (oBar S p t).2 3 0 = 2 := by
  unfold oBar
  (repeat' split) <;> simp [sU, oFree]
theorem th_assign (S : mS) (most : Int) : (oAssign S most).2 3 0 = 0 ∨ (oAssign S most).2 3 0 = 1 := by
  unfold oAssign
  split
  · left
    show sU (oPlan S most) 3 0 0 3 0 = 0
    exact sU_same
  · right
    show sU S 3 0 1 3 0 = 1
    exact sU_same
theorem th_give (S : mS) (p : Int) : (oGive S p).2 3 0 = 0 ∨ (oGive S p).2 3 0 = 1 ∨ (oGive S p).2 3 0 = 2 := by
  unfold oGive
  (repeat' split) <;> simp [sU, oFree]
theorem th_done (S : mS) (p : Int) : (oDone S p).2 3 0 = 0 ∨ (oDone S p).2 3 0 = 1 ∨ (oDone S p).2 3 0 = 2 := by
  unfold oDone
  (repeat' split) <;> simp [sU, oFree]
theorem th_leaves (S : mS) (p : Int) : (oLeaves S p).2 3 0 = 0 ∨ (oLeaves S p).2 3 0 = 1 ∨ (oLeaves S p).2 3 0 = 2 := by
  have h := leave_3 S p
  unfold oLeaves
  (repeat' split) <;> first | (simp [sU]; done) | (left; exact h)
theorem th_fair (S : mS) (p : Int) : (oFair S p).2 3 0 = 0 ∨ (oFair S p).2 3 0 = 1 := by
  unfold oFair
  (repeat' split) <;> simp [sU, oFree]
theorem th_pass (S : mS) (t : Int) : (oPass S t) 3 0 = 0 ∨ (oPass S t) 3 0 = 1 := by
  unfold oPass
  (repeat' split) <;> simp [sU, oFree]
theorem th_order (S : mS) (p i : Int) : (oOrder S p i).2 3 0 = 0 ∨ (oOrder S p i).2 3 0 = 1 ∨ (oOrder S p i).2 3 0 = 2 := by
  unfold oOrder
  (repeat' split) <;> simp [sU, oFree]
theorem th_told (S : mS) (t k : Int) : (oTold S t k).2 3 0 = 0 ∨ (oTold S t k).2 3 0 = 1 ∨ (oTold S t k).2 3 0 = 2 := by
  unfold oTold
  (repeat' split) <;> simp [sU, oFree]
theorem th_known (S : mS) (p k : Int) : (oKnown S p k).2 3 0 = 0 ∨ (oKnown S p k).2 3 0 = 1 ∨ (oKnown S p k).2 3 0 = 2 := by
  unfold oKnown
  (repeat' split) <;> simp [sU, oFree]
theorem w_L_person {E : jx_E} {l : Launch} {d : Nat} {w : jx_W} {D S : mS} {G : Nat → Nat → Nat} {lo hi mi z0 pa out ts : Nat} {a b c z : Int} (hB : jx_B E) (hB2 : jx_B2 E mi) (hB3 : jx_B3 E z0 pa) (hC : cR E D w G lo hi) (hR : rl S D) (hG0 : G 2 0 = ts) (ira : iR a) (irb : iR b) (irc : iR c) (irz : iR z) (hW : 50 ≤ jx_c w ∧ 5000 ≤ jx_s w) (ho : lo ≤ out ∧ out < hi) (ho2 : E.1.heap.size ≤ out) (hk : jx_k w out = 101) (hl : jx_l w out = 1) : jx_G E l Y_L_person (d + 12) (lwQ E ts lo hi out w (some (iI (oPerson S a b c z).1).toInt64) (oPerson S a b c z).2) 0 (jx_ent [.ref ts, .int (iI a), .int (iI b), .int (iI c), .int (iI z), .ref out] 7) [] w := by
  subst hG0
  show jx_G E l Y_L_person (d + 12) _ 0 [some (.ref (G 2 0)), some (.int (iI a)), some (.int (iI b)), some (.int (iI c)), some (.int (iI z)), some (.ref out), none] [] w
  refine jx_aload d_L_person_0 rfl ?_
  refine jI_const d_L_person_2 ?_
  refine jx_aload_n d_L_person_3 rfl rfl ?_
  refine jx_iload_n d_L_person_4 rfl rfl ?_
  refine jx_iload_n d_L_person_5 rfl rfl ?_
  refine jx_iload_n d_L_person_6 rfl rfl ?_
  refine jx_iload d_L_person_7 rfl ?_
  refine jx_callV (As := [.int (iI a), .int (iI b), .int (iI c), .int (iI z)]) (rest := [.int (iI 0), .ref out]) d_L_person_9 (m_T_person hB) (v_L_7 hB) (by decide) (jx_c0 hB) (c_k0 hC) rfl (Nat.le_of_ble_eq_true rfl) (Nat.le_of_ble_eq_true rfl) (w_T_person hB hB2 hC hR ira irb irc irz hW) (fun v w1 hq => ?_) (fun x ad w1 hq => ?_)
  · obtain ⟨⟨D2, G2, hC2, hR2, hF2, hG2⟩, hq2⟩ := hq
    obtain ⟨-, -, -, hF3⟩ := id hF2
    have hk1 : jx_k w1 out = 101 := (hF3 out ho).2.1.trans hk
    have hl1 : jx_l w1 out = 1 := (hF3 out ho).2.2.trans hl
    rcases hq2 with ⟨h3, e⟩ | ⟨h3, ad2, e⟩
    · cases e
      refine jx_i2l d_L_person_12 rfl ?_
      refine jI_last (m := 1) (i := 0) d_L_person_13 hk1 hl1 (by decide) (by decide) ho2 ?_
      refine jx_goto (tgt := 25) d_L_person_14 (by decide) ?_
      refine jI_const d_L_person_25 ?_
      exact jx_iret d_L_person_26 rfl (lw_ok hC2 hR2 hF2 hG2 ho hk1 h3)
    · cases e
  · obtain ⟨⟨D2, G2, hC2, hR2, hF2, hG2⟩, hq2⟩ := hq
    rcases hq2 with ⟨h3, e⟩ | ⟨h3, ad2, e⟩
    · cases e
    · cases e
      rcases th_person S a b c z with t0 | t0 | t0
      · exact absurd t0 h3
      · rw [t0, show exA 1 = 1 from rfl]
        refine Or.inr ⟨[], (0, 14, 17, 13), [(0, 14, 21, 15)], rfl, ?_, lw_take hB3 (y_L13 hB) (by decide) (by decide) (by decide), ?_⟩
        · exact fun y hy => absurd hy List.not_mem_nil
        show jx_G E l Y_L_person (d + 12) _ 17 _ [.ref _] w1
        refine jx_astore d_L_person_17 (Nat.le_of_ble_eq_true rfl) rfl ?_
        refine jI_const d_L_person_19 ?_
        exact jx_iret d_L_person_20 rfl (lw_thr hC2 hR2 hF2 hG2 t0 (by decide))
      · rw [t0, show exA 2 = 3 from rfl]
        refine Or.inr ⟨[(0, 14, 17, 13)], (0, 14, 21, 15), [], rfl, ?_, lw_take hB3 (y_L15 hB) (by decide) (by decide) (by decide), ?_⟩
        · intro y hy
          simp only [List.mem_cons, List.not_mem_nil, or_false] at hy
          subst hy
          exact lw_pass hB3.2.2.2.2.2.2.1 (y_L13 hB) (by decide)
        show jx_G E l Y_L_person (d + 12) _ 21 _ [.ref _] w1
        refine jx_astore d_L_person_21 (Nat.le_of_ble_eq_true rfl) rfl ?_
        refine jI_const d_L_person_23 ?_
        exact jx_iret d_L_person_24 rfl (lw_thr hC2 hR2 hF2 hG2 t0 (by decide))
theorem w_L_rest {E : jx_E} {l : Launch} {d : Nat} {w : jx_W} {D S : mS} {G : Nat → Nat → Nat} {lo hi mi z0 pa out ts : Nat} {p a b : Int} (hB : jx_B E) (hB2 : jx_B2 E mi) (hB3 : jx_B3 E z0 pa) (hC : cR E D w G lo hi) (hR : rl S D) (hG0 : G 2 0 = ts) (irp : iR p) (ira : iR a) (irb : iR b) (hW : 50 ≤ jx_c w ∧ 5000 ≤ jx_s w) (ho : lo ≤ out ∧ out < hi) (ho2 : E.1.heap.size ≤ out) (hk : jx_k w out = 101) (hl : jx_l w out = 1) : jx_G E l Y_L_rest (d + 12) (lwQ E ts lo hi out w none (oRest S p a b)) 0 (jx_ent [.ref ts, .int (iI p), .int (iI a), .int (iI b)] 5) [] w := by
  subst hG0
  show jx_G E l Y_L_rest (d + 12) _ 0 [some (.ref (G 2 0)), some (.int (iI p)), some (.int (iI a)), some (.int (iI b)), none] [] w
  refine jx_aload_n d_L_rest_0 rfl rfl ?_
  refine jx_iload_n d_L_rest_1 rfl rfl ?_
  refine jx_iload_n d_L_rest_2 rfl rfl ?_
  refine jx_iload_n d_L_rest_3 rfl rfl ?_
  refine jx_callV (As := [.int (iI p), .int (iI a), .int (iI b)]) (rest := []) d_L_rest_4 (m_T_rest hB) (v_L_17 hB) (by decide) (jx_c0 hB) (c_k0 hC) rfl (Nat.le_of_ble_eq_true rfl) (Nat.le_of_ble_eq_true rfl) (w_T_rest hB hC hR irp ira irb hW) (fun v w1 hq => ?_) (fun x ad w1 hq => ?_)
  · obtain ⟨⟨D2, G2, hC2, hR2, hF2, hG2⟩, hq2⟩ := hq
    obtain ⟨-, -, -, hF3⟩ := id hF2
    have hk1 : jx_k w1 out = 101 := (hF3 out ho).2.1.trans hk
    have hl1 : jx_l w1 out = 1 := (hF3 out ho).2.2.trans hl
    rcases hq2 with ⟨h3, e⟩ | ⟨h3, ad2, e⟩
    · cases e
      refine jx_goto (tgt := 18) d_L_rest_7 (by decide) ?_
      refine jI_const d_L_rest_18 ?_
      exact jx_iret d_L_rest_19 rfl (lw_ok0 hC2 hR2 hF2 hG2 h3)
    · cases e
  · obtain ⟨⟨D2, G2, hC2, hR2, hF2, hG2⟩, hq2⟩ := hq
    rcases hq2 with ⟨h3, e⟩ | ⟨h3, ad2, e⟩
    · cases e
    · cases e
      rcases th_rest S p a b with t0 | t0 | t0
      · exact absurd t0 h3
      · rw [t0, show exB 1 = 0 from rfl]
        refine Or.inr ⟨[], (0, 7, 10, 21), [(0, 7, 14, 13)], rfl, ?_, lw_take hB3 (y_L21 hB) (by decide) (by decide) (by decide), ?_⟩
        · exact fun y hy => absurd hy List.not_mem_nil
        show jx_G E l Y_L_rest (d + 12) _ 10 _ [.ref _] w1
        refine jx_astore d_L_rest_10 (Nat.le_of_ble_eq_true rfl) rfl ?_
        refine jI_const d_L_rest_12 ?_
        exact jx_iret d_L_rest_13 rfl (lw_thr hC2 hR2 hF2 hG2 t0 (by decide))
      · rw [t0, show exB 2 = 1 from rfl]
        refine Or.inr ⟨[(0, 7, 10, 21)], (0, 7, 14, 13), [], rfl, ?_, lw_take hB3 (y_L13 hB) (by decide) (by decide) (by decide), ?_⟩
        · intro y hy
          simp only [List.mem_cons, List.not_mem_nil, or_false] at hy
          subst hy
          exact lw_pass hB3.2.2.2.2.2.2.2.1 (y_L21 hB) (by decide)
        show jx_G E l Y_L_rest (d + 12) _ 14 _ [.ref _] w1
        refine jx_astore d_L_rest_14 (Nat.le_of_ble_eq_true rfl) rfl ?_
        refine jI_const d_L_rest_16 ?_
        exact jx_iret d_L_rest_17 rfl (lw_thr hC2 hR2 hF2 hG2 t0 (by decide))
theorem w_L_train {E : jx_E} {l : Launch} {d : Nat} {w : jx_W} {D S : mS} {G : Nat → Nat → Nat} {lo hi mi z0 pa out ts : Nat} {p s : Int} (hB : jx_B E) (hB2 : jx_B2 E mi) (hB3 : jx_B3 E z0 pa) (hC : cR E D w G lo hi) (hR : rl S D) (hG0 : G 2 0 = ts) (irp : iR p) (irs : iR s) (hW : 50 ≤ jx_c w ∧ 5000 ≤ jx_s w) (ho : lo ≤ out ∧ out < hi) (ho2 : E.1.heap.size ≤ out) (hk : jx_k w out = 101) (hl : jx_l w out = 1) : jx_G E l Y_L_train (d + 12) (lwQ E ts lo hi out w (some (iI (oTrain S p s).1).toInt64) (oTrain S p s).2) 0 (jx_ent [.ref ts, .int (iI p), .int (iI s), .ref out] 5) [] w := by
  subst hG0
  show jx_G E l Y_L_train (d + 12) _ 0 [some (.ref (G 2 0)), some (.int (iI p)), some (.int (iI s)), some (.ref out), none] [] w
  refine jx_aload_n d_L_train_0 rfl rfl ?_
  refine jI_const d_L_train_1 ?_
  refine jx_aload_n d_L_train_2 rfl rfl ?_
  refine jx_iload_n d_L_train_3 rfl rfl ?_
  refine jx_iload_n d_L_train_4 rfl rfl ?_
  refine jx_callV (As := [.int (iI p), .int (iI s)]) (rest := [.int (iI 0), .ref out]) d_L_train_5 (m_T_train hB) (v_L_23 hB) (by decide) (jx_c0 hB) (c_k0 hC) rfl (Nat.le_of_ble_eq_true rfl) (Nat.le_of_ble_eq_true rfl) (w_T_train hB hC hR irp irs hW) (fun v w1 hq => ?_) (fun x ad w1 hq => ?_)
  · obtain ⟨⟨D2, G2, hC2, hR2, hF2, hG2⟩, hq2⟩ := hq
    obtain ⟨-, -, -, hF3⟩ := id hF2
    have hk1 : jx_k w1 out = 101 := (hF3 out ho).2.1.trans hk
    have hl1 : jx_l w1 out = 1 := (hF3 out ho).2.2.trans hl
    rcases hq2 with ⟨h3, e⟩ | ⟨h3, ad2, e⟩
    · cases e
      refine jx_i2l d_L_train_8 rfl ?_
      refine jI_last (m := 1) (i := 0) d_L_train_9 hk1 hl1 (by decide) (by decide) ho2 ?_
      refine jx_goto (tgt := 25) d_L_train_10 (by decide) ?_
      refine jI_const d_L_train_25 ?_
      exact jx_iret d_L_train_26 rfl (lw_ok hC2 hR2 hF2 hG2 ho hk1 h3)
    · cases e
  · obtain ⟨⟨D2, G2, hC2, hR2, hF2, hG2⟩, hq2⟩ := hq
    rcases hq2 with ⟨h3, e⟩ | ⟨h3, ad2, e⟩
    · cases e
    · cases e
      rcases th_train S p s with t0 | t0 | t0 | t0
      · exact absurd t0 h3
      · rw [t0, show exC 1 = 0 from rfl]
        refine Or.inr ⟨[], (0, 10, 13, 21), [(0, 10, 17, 13), (0, 10, 21, 27)], rfl, ?_, lw_take hB3 (y_L21 hB) (by decide) (by decide) (by decide), ?_⟩
        · exact fun y hy => absurd hy List.not_mem_nil
        show jx_G E l Y_L_train (d + 12) _ 13 _ [.ref _] w1
        refine jx_astore d_L_train_13 (Nat.le_of_ble_eq_true rfl) rfl ?_
        refine jI_const d_L_train_15 ?_
        exact jx_iret d_L_train_16 rfl (lw_thr hC2 hR2 hF2 hG2 t0 (by decide))
      · rw [t0, show exC 2 = 1 from rfl]
        refine Or.inr ⟨[(0, 10, 13, 21)], (0, 10, 17, 13), [(0, 10, 21, 27)], rfl, ?_, lw_take hB3 (y_L13 hB) (by decide) (by decide) (by decide), ?_⟩
        · intro y hy
          simp only [List.mem_cons, List.not_mem_nil, or_false] at hy
          subst hy
          exact lw_pass hB3.2.2.2.2.2.2.2.1 (y_L21 hB) (by decide)
        show jx_G E l Y_L_train (d + 12) _ 17 _ [.ref _] w1
        refine jx_astore d_L_train_17 (Nat.le_of_ble_eq_true rfl) rfl ?_
        refine jI_const d_L_train_19 ?_
        exact jx_iret d_L_train_20 rfl (lw_thr hC2 hR2 hF2 hG2 t0 (by decide))
      · rw [t0, show exC 3 = 2 from rfl]
        refine Or.inr ⟨[(0, 10, 13, 21), (0, 10, 17, 13)], (0, 10, 21, 27), [], rfl, ?_, lw_take hB3 (y_L27 hB) (by decide) (by decide) (by decide), ?_⟩
        · intro y hy
          simp only [List.mem_cons, List.not_mem_nil, or_false] at hy
          rcases hy with rfl | rfl
          · exact lw_pass hB3.2.2.2.2.2.2.2.2.1 (y_L21 hB) (by decide)
          · exact lw_pass hB3.2.2.2.2.2.2.2.2.2 (y_L13 hB) (by decide)
        show jx_G E l Y_L_train (d + 12) _ 21 _ [.ref _] w1
        refine jx_astore d_L_train_21 (Nat.le_of_ble_eq_true rfl) rfl ?_
        refine jI_const d_L_train_23 ?_
        exact jx_iret d_L_train_24 rfl (lw_thr hC2 hR2 hF2 hG2 t0 (by decide))
theorem w_L_task {E : jx_E} {l : Launch} {d : Nat} {w : jx_W} {D S : mS} {G : Nat → Nat → Nat} {lo hi mi z0 pa out ts : Nat} {a b c z : Int} (hB : jx_B E) (hB2 : jx_B2 E mi) (hB3 : jx_B3 E z0 pa) (hC : cR E D w G lo hi) (hR : rl S D) (hG0 : G 2 0 = ts) (ira : iR a) (irb : iR b) (irc : iR c) (irz : iR z) (hW : 50 ≤ jx_c w ∧ 5000 ≤ jx_s w) (ho : lo ≤ out ∧ out < hi) (ho2 : E.1.heap.size ≤ out) (hk : jx_k w out = 101) (hl : jx_l w out = 1) : jx_G E l Y_L_task (d + 12) (lwQ E ts lo hi out w (some (iI (oTask S a b c z).1).toInt64) (oTask S a b c z).2) 0 (jx_ent [.ref ts, .int (iI a), .int (iI b), .int (iI c), .int (iI z), .ref out] 7) [] w := by
  subst hG0
  show jx_G E l Y_L_task (d + 12) _ 0 [some (.ref (G 2 0)), some (.int (iI a)), some (.int (iI b)), some (.int (iI c)), some (.int (iI z)), some (.ref out), none] [] w
  refine jx_aload d_L_task_0 rfl ?_
  refine jI_const d_L_task_2 ?_
  refine jx_aload_n d_L_task_3 rfl rfl ?_
  refine jx_iload_n d_L_task_4 rfl rfl ?_
  refine jx_iload_n d_L_task_5 rfl rfl ?_
  refine jx_iload_n d_L_task_6 rfl rfl ?_
  refine jx_iload d_L_task_7 rfl ?_
  refine jx_callV (As := [.int (iI a), .int (iI b), .int (iI c), .int (iI z)]) (rest := [.int (iI 0), .ref out]) d_L_task_9 (m_T_task hB) (v_L_29 hB) (by decide) (jx_c0 hB) (c_k0 hC) rfl (Nat.le_of_ble_eq_true rfl) (Nat.le_of_ble_eq_true rfl) (w_T_task hB hB2 hC hR ira irb irc irz hW) (fun v w1 hq => ?_) (fun x ad w1 hq => ?_)
  · obtain ⟨⟨D2, G2, hC2, hR2, hF2, hG2⟩, hq2⟩ := hq
    obtain ⟨-, -, -, hF3⟩ := id hF2
    have hk1 : jx_k w1 out = 101 := (hF3 out ho).2.1.trans hk
    have hl1 : jx_l w1 out = 1 := (hF3 out ho).2.2.trans hl
    rcases hq2 with ⟨h3, e⟩ | ⟨h3, ad2, e⟩
    · cases e
      refine jx_i2l d_L_task_12 rfl ?_
      refine jI_last (m := 1) (i := 0) d_L_task_13 hk1 hl1 (by decide) (by decide) ho2 ?_
      refine jx_goto (tgt := 25) d_L_task_14 (by decide) ?_
      refine jI_const d_L_task_25 ?_
      exact jx_iret d_L_task_26 rfl (lw_ok hC2 hR2 hF2 hG2 ho hk1 h3)
    · cases e
  · obtain ⟨⟨D2, G2, hC2, hR2, hF2, hG2⟩, hq2⟩ := hq
    rcases hq2 with ⟨h3, e⟩ | ⟨h3, ad2, e⟩
    · cases e
    · cases e
      rcases th_task S a b c z with t0 | t0 | t0
      · exact absurd t0 h3
      · rw [t0, show exA 1 = 1 from rfl]
        refine Or.inr ⟨[], (0, 14, 17, 13), [(0, 14, 21, 15)], rfl, ?_, lw_take hB3 (y_L13 hB) (by decide) (by decide) (by decide), ?_⟩
        · exact fun y hy => absurd hy List.not_mem_nil
        show jx_G E l Y_L_task (d + 12) _ 17 _ [.ref _] w1
        refine jx_astore d_L_task_17 (Nat.le_of_ble_eq_true rfl) rfl ?_
        refine jI_const d_L_task_19 ?_
        exact jx_iret d_L_task_20 rfl (lw_thr hC2 hR2 hF2 hG2 t0 (by decide))
      · rw [t0, show exA 2 = 3 from rfl]
        refine Or.inr ⟨[(0, 14, 17, 13)], (0, 14, 21, 15), [], rfl, ?_, lw_take hB3 (y_L15 hB) (by decide) (by decide) (by decide), ?_⟩
        · intro y hy
          simp only [List.mem_cons, List.not_mem_nil, or_false] at hy
          subst hy
          exact lw_pass hB3.2.2.2.2.2.2.1 (y_L13 hB) (by decide)
        show jx_G E l Y_L_task (d + 12) _ 21 _ [.ref _] w1
        refine jx_astore d_L_task_21 (Nat.le_of_ble_eq_true rfl) rfl ?_
        refine jI_const d_L_task_23 ?_
        exact jx_iret d_L_task_24 rfl (lw_thr hC2 hR2 hF2 hG2 t0 (by decide))
theorem w_L_way {E : jx_E} {l : Launch} {d : Nat} {w : jx_W} {D S : mS} {G : Nat → Nat → Nat} {lo hi mi z0 pa out ts : Nat} {a b c : Int} (hB : jx_B E) (hB2 : jx_B2 E mi) (hB3 : jx_B3 E z0 pa) (hC : cR E D w G lo hi) (hR : rl S D) (hG0 : G 2 0 = ts) (ira : iR a) (irb : iR b) (irc : iR c) (hW : 50 ≤ jx_c w ∧ 5000 ≤ jx_s w) (ho : lo ≤ out ∧ out < hi) (ho2 : E.1.heap.size ≤ out) (hk : jx_k w out = 101) (hl : jx_l w out = 1) : jx_G E l Y_L_way (d + 12) (lwQ E ts lo hi out w none (oWay S a b c)) 0 (jx_ent [.ref ts, .int (iI a), .int (iI b), .int (iI c)] 5) [] w := by
  subst hG0
  show jx_G E l Y_L_way (d + 12) _ 0 [some (.ref (G 2 0)), some (.int (iI a)), some (.int (iI b)), some (.int (iI c)), none] [] w
  refine jx_aload_n d_L_way_0 rfl rfl ?_
  refine jx_iload_n d_L_way_1 rfl rfl ?_
  refine jx_iload_n d_L_way_2 rfl rfl ?_
  refine jx_iload_n d_L_way_3 rfl rfl ?_
  refine jx_callV (As := [.int (iI a), .int (iI b), .int (iI c)]) (rest := []) d_L_way_4 (m_T_way hB) (v_L_32 hB) (by decide) (jx_c0 hB) (c_k0 hC) rfl (Nat.le_of_ble_eq_true rfl) (Nat.le_of_ble_eq_true rfl) (w_T_way hB hC hR ira irb irc hW) (fun v w1 hq => ?_) (fun x ad w1 hq => ?_)
  · obtain ⟨⟨D2, G2, hC2, hR2, hF2, hG2⟩, hq2⟩ := hq
    obtain ⟨-, -, -, hF3⟩ := id hF2
    have hk1 : jx_k w1 out = 101 := (hF3 out ho).2.1.trans hk
    have hl1 : jx_l w1 out = 1 := (hF3 out ho).2.2.trans hl
    rcases hq2 with ⟨h3, e⟩ | ⟨h3, ad2, e⟩
    · cases e
      refine jx_goto (tgt := 14) d_L_way_7 (by decide) ?_
      refine jI_const d_L_way_14 ?_
      exact jx_iret d_L_way_15 rfl (lw_ok0 hC2 hR2 hF2 hG2 h3)
    · cases e
  · obtain ⟨⟨D2, G2, hC2, hR2, hF2, hG2⟩, hq2⟩ := hq
    rcases hq2 with ⟨h3, e⟩ | ⟨h3, ad2, e⟩
    · cases e
    · cases e
      rcases th_way S a b c with t0 | t0
      · exact absurd t0 h3
      · rw [t0, show exE 1 = 1 from rfl]
        refine Or.inr ⟨[], (0, 7, 10, 13), [], rfl, ?_, lw_take hB3 (y_L13 hB) (by decide) (by decide) (by decide), ?_⟩
        · exact fun y hy => absurd hy List.not_mem_nil
        show jx_G E l Y_L_way (d + 12) _ 10 _ [.ref _] w1
        refine jx_astore d_L_way_10 (Nat.le_of_ble_eq_true rfl) rfl ?_
        refine jI_const d_L_way_12 ?_
        exact jx_iret d_L_way_13 rfl (lw_thr hC2 hR2 hF2 hG2 t0 (by decide))
theorem w_L_refuse {E : jx_E} {l : Launch} {d : Nat} {w : jx_W} {D S : mS} {G : Nat → Nat → Nat} {lo hi mi z0 pa out ts : Nat} {p t : Int} (hB : jx_B E) (hB2 : jx_B2 E mi) (hB3 : jx_B3 E z0 pa) (hC : cR E D w G lo hi) (hR : rl S D) (hG0 : G 2 0 = ts) (irp : iR p) (irt : iR t) (hW : 50 ≤ jx_c w ∧ 5000 ≤ jx_s w) (ho : lo ≤ out ∧ out < hi) (ho2 : E.1.heap.size ≤ out) (hk : jx_k w out = 101) (hl : jx_l w out = 1) : jx_G E l Y_L_refuse (d + 12) (lwQ E ts lo hi out w (some (if iI (oRefuse S p t).1 = 0 then 0 else 1)) (oRefuse S p t).2) 0 (jx_ent [.ref ts, .int (iI p), .int (iI t), .ref out] 5) [] w := by
  subst hG0
  show jx_G E l Y_L_refuse (d + 12) _ 0 [some (.ref (G 2 0)), some (.int (iI p)), some (.int (iI t)), some (.ref out), none] [] w
  refine jx_aload_n d_L_refuse_0 rfl rfl ?_
  refine jI_const d_L_refuse_1 ?_
  refine jx_aload_n d_L_refuse_2 rfl rfl ?_
  refine jx_iload_n d_L_refuse_3 rfl rfl ?_
  refine jx_iload_n d_L_refuse_4 rfl rfl ?_
  refine jx_callV (As := [.int (iI p), .int (iI t)]) (rest := [.int (iI 0), .ref out]) d_L_refuse_5 (m_T_refuse hB) (v_L_35 hB) (by decide) (jx_c0 hB) (c_k0 hC) rfl (Nat.le_of_ble_eq_true rfl) (Nat.le_of_ble_eq_true rfl) (w_T_refuse hB hC hR irp irt hW) (fun v w1 hq => ?_) (fun x ad w1 hq => ?_)
  · obtain ⟨⟨D2, G2, hC2, hR2, hF2, hG2⟩, hq2⟩ := hq
    obtain ⟨-, -, -, hF3⟩ := id hF2
    have hk1 : jx_k w1 out = 101 := (hF3 out ho).2.1.trans hk
    have hl1 : jx_l w1 out = 1 := (hF3 out ho).2.2.trans hl
    rcases hq2 with ⟨h3, e⟩ | ⟨h3, ad2, e⟩
    · cases e
      refine jx_if_eq (tgt := 15) d_L_refuse_8 (by decide) (fun hc => ?_) (fun hc => ?_)
      · rw [if_pos hc]
        refine jx_lconst d_L_refuse_15 rfl ?_
        refine jI_last (m := 1) (i := 0) d_L_refuse_16 hk1 hl1 (by decide) (by decide) ho2 ?_
        refine jx_goto (tgt := 28) d_L_refuse_17 (by decide) ?_
        refine jI_const d_L_refuse_28 ?_
        exact jx_iret d_L_refuse_29 rfl (lw_ok hC2 hR2 hF2 hG2 ho hk1 h3)
      · rw [if_neg hc]
        refine jx_lconst d_L_refuse_11 rfl ?_
        refine jx_goto (tgt := 16) d_L_refuse_12 (by decide) ?_
        refine jI_last (m := 1) (i := 0) d_L_refuse_16 hk1 hl1 (by decide) (by decide) ho2 ?_
        refine jx_goto (tgt := 28) d_L_refuse_17 (by decide) ?_
        refine jI_const d_L_refuse_28 ?_
        exact jx_iret d_L_refuse_29 rfl (lw_ok hC2 hR2 hF2 hG2 ho hk1 h3)
    · cases e
  · obtain ⟨⟨D2, G2, hC2, hR2, hF2, hG2⟩, hq2⟩ := hq
    rcases hq2 with ⟨h3, e⟩ | ⟨h3, ad2, e⟩
    · cases e
    · cases e
      rcases th_refuse S p t with t0 | t0 | t0
      · exact absurd t0 h3
      · rw [t0, show exD 1 = 0 from rfl]
        refine Or.inr ⟨[], (0, 17, 20, 21), [(0, 17, 24, 27)], rfl, ?_, lw_take hB3 (y_L21 hB) (by decide) (by decide) (by decide), ?_⟩
        · exact fun y hy => absurd hy List.not_mem_nil
        show jx_G E l Y_L_refuse (d + 12) _ 20 _ [.ref _] w1
        refine jx_astore d_L_refuse_20 (Nat.le_of_ble_eq_true rfl) rfl ?_
        refine jI_const d_L_refuse_22 ?_
        exact jx_iret d_L_refuse_23 rfl (lw_thr hC2 hR2 hF2 hG2 t0 (by decide))
      · rw [t0, show exD 2 = 2 from rfl]
        refine Or.inr ⟨[(0, 17, 20, 21)], (0, 17, 24, 27), [], rfl, ?_, lw_take hB3 (y_L27 hB) (by decide) (by decide) (by decide), ?_⟩
        · intro y hy
          simp only [List.mem_cons, List.not_mem_nil, or_false] at hy
          subst hy
          exact lw_pass hB3.2.2.2.2.2.2.2.2.1 (y_L21 hB) (by decide)
        show jx_G E l Y_L_refuse (d + 12) _ 24 _ [.ref _] w1
        refine jx_astore d_L_refuse_24 (Nat.le_of_ble_eq_true rfl) rfl ?_
        refine jI_const d_L_refuse_26 ?_
        exact jx_iret d_L_refuse_27 rfl (lw_thr hC2 hR2 hF2 hG2 t0 (by decide))
theorem w_L_bar {E : jx_E} {l : Launch} {d : Nat} {w : jx_W} {D S : mS} {G : Nat → Nat → Nat} {lo hi mi z0 pa out ts : Nat} {p t : Int} (hB : jx_B E) (hB2 : jx_B2 E mi) (hB3 : jx_B3 E z0 pa) (hC : cR E D w G lo hi) (hR : rl S D) (hG0 : G 2 0 = ts) (irp : iR p) (irt : iR t) (hW : 50 ≤ jx_c w ∧ 5000 ≤ jx_s w) (ho : lo ≤ out ∧ out < hi) (ho2 : E.1.heap.size ≤ out) (hk : jx_k w out = 101) (hl : jx_l w out = 1) : jx_G E l Y_L_bar (d + 12) (lwQ E ts lo hi out w (some (iI (oBar S p t).1).toInt64) (oBar S p t).2) 0 (jx_ent [.ref ts, .int (iI p), .int (iI t), .ref out] 5) [] w := by
  subst hG0
  show jx_G E l Y_L_bar (d + 12) _ 0 [some (.ref (G 2 0)), some (.int (iI p)), some (.int (iI t)), some (.ref out), none] [] w
  refine jx_aload_n d_L_bar_0 rfl rfl ?_
  refine jI_const d_L_bar_1 ?_
  refine jx_aload_n d_L_bar_2 rfl rfl ?_
  refine jx_iload_n d_L_bar_3 rfl rfl ?_
  refine jx_iload_n d_L_bar_4 rfl rfl ?_
  refine jx_callV (As := [.int (iI p), .int (iI t)]) (rest := [.int (iI 0), .ref out]) d_L_bar_5 (m_T_bar hB) (v_L_39 hB) (by decide) (jx_c0 hB) (c_k0 hC) rfl (Nat.le_of_ble_eq_true rfl) (Nat.le_of_ble_eq_true rfl) (w_T_bar hB hC hR irp irt hW) (fun v w1 hq => ?_) (fun x ad w1 hq => ?_)
  · obtain ⟨⟨D2, G2, hC2, hR2, hF2, hG2⟩, hq2⟩ := hq
    obtain ⟨-, -, -, hF3⟩ := id hF2
    have hk1 : jx_k w1 out = 101 := (hF3 out ho).2.1.trans hk
    have hl1 : jx_l w1 out = 1 := (hF3 out ho).2.2.trans hl
    rcases hq2 with ⟨h3, e⟩ | ⟨h3, ad2, e⟩
    · cases e
      refine jx_i2l d_L_bar_8 rfl ?_
      refine jI_last (m := 1) (i := 0) d_L_bar_9 hk1 hl1 (by decide) (by decide) ho2 ?_
      refine jx_goto (tgt := 21) d_L_bar_10 (by decide) ?_
      refine jI_const d_L_bar_21 ?_
      exact jx_iret d_L_bar_22 rfl (lw_ok hC2 hR2 hF2 hG2 ho hk1 h3)
    · cases e
  · obtain ⟨⟨D2, G2, hC2, hR2, hF2, hG2⟩, hq2⟩ := hq
    rcases hq2 with ⟨h3, e⟩ | ⟨h3, ad2, e⟩
    · cases e
    · cases e
      rcases th_bar S p t with t0 | t0 | t0
      · exact absurd t0 h3
      · rw [t0, show exD 1 = 0 from rfl]
        refine Or.inr ⟨[], (0, 10, 13, 21), [(0, 10, 17, 27)], rfl, ?_, lw_take hB3 (y_L21 hB) (by decide) (by decide) (by decide), ?_⟩
        · exact fun y hy => absurd hy List.not_mem_nil
        show jx_G E l Y_L_bar (d + 12) _ 13 _ [.ref _] w1
        refine jx_astore d_L_bar_13 (Nat.le_of_ble_eq_true rfl) rfl ?_
        refine jI_const d_L_bar_15 ?_
        exact jx_iret d_L_bar_16 rfl (lw_thr hC2 hR2 hF2 hG2 t0 (by decide))
      · rw [t0, show exD 2 = 2 from rfl]
        refine Or.inr ⟨[(0, 10, 13, 21)], (0, 10, 17, 27), [], rfl, ?_, lw_take hB3 (y_L27 hB) (by decide) (by decide) (by decide), ?_⟩
        · intro y hy
          simp only [List.mem_cons, List.not_mem_nil, or_false] at hy
          subst hy
          exact lw_pass hB3.2.2.2.2.2.2.2.2.1 (y_L21 hB) (by decide)
        show jx_G E l Y_L_bar (d + 12) _ 17 _ [.ref _] w1
        refine jx_astore d_L_bar_17 (Nat.le_of_ble_eq_true rfl) rfl ?_
        refine jI_const d_L_bar_19 ?_
        exact jx_iret d_L_bar_20 rfl (lw_thr hC2 hR2 hF2 hG2 t0 (by decide))
theorem w_L_assign {E : jx_E} {l : Launch} {d : Nat} {w : jx_W} {D S : mS} {G : Nat → Nat → Nat} {lo hi mi z0 pa out ts : Nat} {most : Int} (hB : jx_B E) (hB2 : jx_B2 E mi) (hB3 : jx_B3 E z0 pa) (hC : cR E D w G lo hi) (hR : rl S D) (hG0 : G 2 0 = ts) (irmost : iR most) (hW : 50 ≤ jx_c w ∧ 5000 ≤ jx_s w) (ho : lo ≤ out ∧ out < hi) (ho2 : E.1.heap.size ≤ out) (hk : jx_k w out = 101) (hl : jx_l w out = 1) : jx_G E l Y_L_assign (d + 12) (lwQ E ts lo hi out w (some (iI (oAssign S most).1).toInt64) (oAssign S most).2) 0 (jx_ent [.ref ts, .int (iI most), .ref out] 4) [] w := by
  subst hG0
  show jx_G E l Y_L_assign (d + 12) _ 0 [some (.ref (G 2 0)), some (.int (iI most)), some (.ref out), none] [] w
  refine jx_aload_n d_L_assign_0 rfl rfl ?_
  refine jI_const d_L_assign_1 ?_
  refine jx_aload_n d_L_assign_2 rfl rfl ?_
  refine jx_iload_n d_L_assign_3 rfl rfl ?_
  refine jx_callV (As := [.int (iI most)]) (rest := [.int (iI 0), .ref out]) d_L_assign_4 (m_T_assign hB) (v_L_42 hB) (by decide) (jx_c0 hB) (c_k0 hC) rfl (Nat.le_of_ble_eq_true rfl) (Nat.le_of_ble_eq_true rfl) (w_T_assign hB hB2 hC hR irmost hW) (fun v w1 hq => ?_) (fun x ad w1 hq => ?_)
  · obtain ⟨⟨D2, G2, hC2, hR2, hF2, hG2⟩, hq2⟩ := hq
    obtain ⟨-, -, -, hF3⟩ := id hF2
    have hk1 : jx_k w1 out = 101 := (hF3 out ho).2.1.trans hk
    have hl1 : jx_l w1 out = 1 := (hF3 out ho).2.2.trans hl
    rcases hq2 with ⟨h3, e⟩ | ⟨h3, ad2, e⟩
    · cases e
      refine jx_i2l d_L_assign_7 rfl ?_
      refine jI_last (m := 1) (i := 0) d_L_assign_8 hk1 hl1 (by decide) (by decide) ho2 ?_
      refine jx_goto (tgt := 15) d_L_assign_9 (by decide) ?_
      refine jI_const d_L_assign_15 ?_
      exact jx_iret d_L_assign_16 rfl (lw_ok hC2 hR2 hF2 hG2 ho hk1 h3)
    · cases e
  · obtain ⟨⟨D2, G2, hC2, hR2, hF2, hG2⟩, hq2⟩ := hq
    rcases hq2 with ⟨h3, e⟩ | ⟨h3, ad2, e⟩
    · cases e
    · cases e
      rcases th_assign S most with t0 | t0
      · exact absurd t0 h3
      · rw [t0, show exE 1 = 1 from rfl]
        refine Or.inr ⟨[], (0, 9, 12, 13), [], rfl, ?_, lw_take hB3 (y_L13 hB) (by decide) (by decide) (by decide), ?_⟩
        · exact fun y hy => absurd hy List.not_mem_nil
        show jx_G E l Y_L_assign (d + 12) _ 12 _ [.ref _] w1
        refine jx_astore_n d_L_assign_12 rfl (Nat.le_of_ble_eq_true rfl) rfl ?_
        refine jI_const d_L_assign_13 ?_
        exact jx_iret d_L_assign_14 rfl (lw_thr hC2 hR2 hF2 hG2 t0 (by decide))
theorem w_L_give {E : jx_E} {l : Launch} {d : Nat} {w : jx_W} {D S : mS} {G : Nat → Nat → Nat} {lo hi mi z0 pa out ts : Nat} {p : Int} (hB : jx_B E) (hB2 : jx_B2 E mi) (hB3 : jx_B3 E z0 pa) (hC : cR E D w G lo hi) (hR : rl S D) (hG0 : G 2 0 = ts) (irp : iR p) (hW : 50 ≤ jx_c w ∧ 5000 ≤ jx_s w) (ho : lo ≤ out ∧ out < hi) (ho2 : E.1.heap.size ≤ out) (hk : jx_k w out = 101) (hl : jx_l w out = 1) : jx_G E l Y_L_give (d + 12) (lwQ E ts lo hi out w (some (iI (oGive S p).1).toInt64) (oGive S p).2) 0 (jx_ent [.ref ts, .int (iI p), .ref out] 4) [] w := by
  subst hG0
  show jx_G E l Y_L_give (d + 12) _ 0 [some (.ref (G 2 0)), some (.int (iI p)), some (.ref out), none] [] w
  refine jx_aload_n d_L_give_0 rfl rfl ?_
  refine jI_const d_L_give_1 ?_
  refine jx_aload_n d_L_give_2 rfl rfl ?_
  refine jx_iload_n d_L_give_3 rfl rfl ?_
  refine jx_callV (As := [.int (iI p)]) (rest := [.int (iI 0), .ref out]) d_L_give_4 (m_T_give hB) (v_L_46 hB) (by decide) (jx_c0 hB) (c_k0 hC) rfl (Nat.le_of_ble_eq_true rfl) (Nat.le_of_ble_eq_true rfl) (w_T_give hB hC hR irp hW) (fun v w1 hq => ?_) (fun x ad w1 hq => ?_)
  · obtain ⟨⟨D2, G2, hC2, hR2, hF2, hG2⟩, hq2⟩ := hq
    obtain ⟨-, -, -, hF3⟩ := id hF2
    have hk1 : jx_k w1 out = 101 := (hF3 out ho).2.1.trans hk
    have hl1 : jx_l w1 out = 1 := (hF3 out ho).2.2.trans hl
    rcases hq2 with ⟨h3, e⟩ | ⟨h3, ad2, e⟩
    · cases e
      refine jx_i2l d_L_give_7 rfl ?_
      refine jI_last (m := 1) (i := 0) d_L_give_8 hk1 hl1 (by decide) (by decide) ho2 ?_
      refine jx_goto (tgt := 18) d_L_give_9 (by decide) ?_
      refine jI_const d_L_give_18 ?_
      exact jx_iret d_L_give_19 rfl (lw_ok hC2 hR2 hF2 hG2 ho hk1 h3)
    · cases e
  · obtain ⟨⟨D2, G2, hC2, hR2, hF2, hG2⟩, hq2⟩ := hq
    rcases hq2 with ⟨h3, e⟩ | ⟨h3, ad2, e⟩
    · cases e
    · cases e
      rcases th_give S p with t0 | t0 | t0
      · exact absurd t0 h3
      · rw [t0, show exD 1 = 0 from rfl]
        refine Or.inr ⟨[], (0, 9, 12, 21), [(0, 9, 15, 27)], rfl, ?_, lw_take hB3 (y_L21 hB) (by decide) (by decide) (by decide), ?_⟩
        · exact fun y hy => absurd hy List.not_mem_nil
        show jx_G E l Y_L_give (d + 12) _ 12 _ [.ref _] w1
        refine jx_astore_n d_L_give_12 rfl (Nat.le_of_ble_eq_true rfl) rfl ?_
        refine jI_const d_L_give_13 ?_
        exact jx_iret d_L_give_14 rfl (lw_thr hC2 hR2 hF2 hG2 t0 (by decide))
      · rw [t0, show exD 2 = 2 from rfl]
        refine Or.inr ⟨[(0, 9, 12, 21)], (0, 9, 15, 27), [], rfl, ?_, lw_take hB3 (y_L27 hB) (by decide) (by decide) (by decide), ?_⟩
        · intro y hy
          simp only [List.mem_cons, List.not_mem_nil, or_false] at hy
          subst hy
          exact lw_pass hB3.2.2.2.2.2.2.2.2.1 (y_L21 hB) (by decide)
        show jx_G E l Y_L_give (d + 12) _ 15 _ [.ref _] w1
        refine jx_astore_n d_L_give_15 rfl (Nat.le_of_ble_eq_true rfl) rfl ?_
        refine jI_const d_L_give_16 ?_
        exact jx_iret d_L_give_17 rfl (lw_thr hC2 hR2 hF2 hG2 t0 (by decide))
theorem w_L_done {E : jx_E} {l : Launch} {d : Nat} {w : jx_W} {D S : mS} {G : Nat → Nat → Nat} {lo hi mi z0 pa out ts : Nat} {p : Int} (hB : jx_B E) (hB2 : jx_B2 E mi) (hB3 : jx_B3 E z0 pa) (hC : cR E D w G lo hi) (hR : rl S D) (hG0 : G 2 0 = ts) (irp : iR p) (hW : 50 ≤ jx_c w ∧ 5000 ≤ jx_s w) (ho : lo ≤ out ∧ out < hi) (ho2 : E.1.heap.size ≤ out) (hk : jx_k w out = 101) (hl : jx_l w out = 1) : jx_G E l Y_L_done (d + 12) (lwQ E ts lo hi out w (some (iI (oDone S p).1).toInt64) (oDone S p).2) 0 (jx_ent [.ref ts, .int (iI p), .ref out] 4) [] w := by
  subst hG0
  show jx_G E l Y_L_done (d + 12) _ 0 [some (.ref (G 2 0)), some (.int (iI p)), some (.ref out), none] [] w
  refine jx_aload_n d_L_done_0 rfl rfl ?_
  refine jI_const d_L_done_1 ?_
  refine jx_aload_n d_L_done_2 rfl rfl ?_
  refine jx_iload_n d_L_done_3 rfl rfl ?_
  refine jx_callV (As := [.int (iI p)]) (rest := [.int (iI 0), .ref out]) d_L_done_4 (m_T_done hB) (v_L_49 hB) (by decide) (jx_c0 hB) (c_k0 hC) rfl (Nat.le_of_ble_eq_true rfl) (Nat.le_of_ble_eq_true rfl) (w_T_done hB hC hR irp hW) (fun v w1 hq => ?_) (fun x ad w1 hq => ?_)
  · obtain ⟨⟨D2, G2, hC2, hR2, hF2, hG2⟩, hq2⟩ := hq
    obtain ⟨-, -, -, hF3⟩ := id hF2
    have hk1 : jx_k w1 out = 101 := (hF3 out ho).2.1.trans hk
    have hl1 : jx_l w1 out = 1 := (hF3 out ho).2.2.trans hl
    rcases hq2 with ⟨h3, e⟩ | ⟨h3, ad2, e⟩
    · cases e
      refine jx_i2l d_L_done_7 rfl ?_
      refine jI_last (m := 1) (i := 0) d_L_done_8 hk1 hl1 (by decide) (by decide) ho2 ?_
      refine jx_goto (tgt := 18) d_L_done_9 (by decide) ?_
      refine jI_const d_L_done_18 ?_
      exact jx_iret d_L_done_19 rfl (lw_ok hC2 hR2 hF2 hG2 ho hk1 h3)
    · cases e
  · obtain ⟨⟨D2, G2, hC2, hR2, hF2, hG2⟩, hq2⟩ := hq
    rcases hq2 with ⟨h3, e⟩ | ⟨h3, ad2, e⟩
    · cases e
    · cases e
      rcases th_done S p with t0 | t0 | t0
      · exact absurd t0 h3
      · rw [t0, show exD 1 = 0 from rfl]
        refine Or.inr ⟨[], (0, 9, 12, 21), [(0, 9, 15, 27)], rfl, ?_, lw_take hB3 (y_L21 hB) (by decide) (by decide) (by decide), ?_⟩
        · exact fun y hy => absurd hy List.not_mem_nil
        show jx_G E l Y_L_done (d + 12) _ 12 _ [.ref _] w1
        refine jx_astore_n d_L_done_12 rfl (Nat.le_of_ble_eq_true rfl) rfl ?_
        refine jI_const d_L_done_13 ?_
        exact jx_iret d_L_done_14 rfl (lw_thr hC2 hR2 hF2 hG2 t0 (by decide))
      · rw [t0, show exD 2 = 2 from rfl]
        refine Or.inr ⟨[(0, 9, 12, 21)], (0, 9, 15, 27), [], rfl, ?_, lw_take hB3 (y_L27 hB) (by decide) (by decide) (by decide), ?_⟩
        · intro y hy
          simp only [List.mem_cons, List.not_mem_nil, or_false] at hy
          subst hy
          exact lw_pass hB3.2.2.2.2.2.2.2.2.1 (y_L21 hB) (by decide)
        show jx_G E l Y_L_done (d + 12) _ 15 _ [.ref _] w1
        refine jx_astore_n d_L_done_15 rfl (Nat.le_of_ble_eq_true rfl) rfl ?_
        refine jI_const d_L_done_16 ?_
        exact jx_iret d_L_done_17 rfl (lw_thr hC2 hR2 hF2 hG2 t0 (by decide))
theorem w_L_leaves {E : jx_E} {l : Launch} {d : Nat} {w : jx_W} {D S : mS} {G : Nat → Nat → Nat} {lo hi mi z0 pa out ts : Nat} {p : Int} (hB : jx_B E) (hB2 : jx_B2 E mi) (hB3 : jx_B3 E z0 pa) (hC : cR E D w G lo hi) (hR : rl S D) (hG0 : G 2 0 = ts) (irp : iR p) (hW : 50 ≤ jx_c w ∧ 5000 ≤ jx_s w) (ho : lo ≤ out ∧ out < hi) (ho2 : E.1.heap.size ≤ out) (hk : jx_k w out = 101) (hl : jx_l w out = 1) : jx_G E l Y_L_leaves (d + 12) (lwQ E ts lo hi out w (some (iI (oLeaves S p).1).toInt64) (oLeaves S p).2) 0 (jx_ent [.ref ts, .int (iI p), .ref out] 4) [] w := by
  subst hG0
  show jx_G E l Y_L_leaves (d + 12) _ 0 [some (.ref (G 2 0)), some (.int (iI p)), some (.ref out), none] [] w
  refine jx_aload_n d_L_leaves_0 rfl rfl ?_
  refine jI_const d_L_leaves_1 ?_
  refine jx_aload_n d_L_leaves_2 rfl rfl ?_
  refine jx_iload_n d_L_leaves_3 rfl rfl ?_
  refine jx_callV (As := [.int (iI p)]) (rest := [.int (iI 0), .ref out]) d_L_leaves_4 (m_T_leaves hB) (v_L_52 hB) (by decide) (jx_c0 hB) (c_k0 hC) rfl (Nat.le_of_ble_eq_true rfl) (Nat.le_of_ble_eq_true rfl) (w_T_leaves hB hC hR irp hW) (fun v w1 hq => ?_) (fun x ad w1 hq => ?_)
  · obtain ⟨⟨D2, G2, hC2, hR2, hF2, hG2⟩, hq2⟩ := hq
    obtain ⟨-, -, -, hF3⟩ := id hF2
    have hk1 : jx_k w1 out = 101 := (hF3 out ho).2.1.trans hk
    have hl1 : jx_l w1 out = 1 := (hF3 out ho).2.2.trans hl
    rcases hq2 with ⟨h3, e⟩ | ⟨h3, ad2, e⟩
    · cases e
      refine jx_i2l d_L_leaves_7 rfl ?_
      refine jI_last (m := 1) (i := 0) d_L_leaves_8 hk1 hl1 (by decide) (by decide) ho2 ?_
      refine jx_goto (tgt := 18) d_L_leaves_9 (by decide) ?_
      refine jI_const d_L_leaves_18 ?_
      exact jx_iret d_L_leaves_19 rfl (lw_ok hC2 hR2 hF2 hG2 ho hk1 h3)
    · cases e
  · obtain ⟨⟨D2, G2, hC2, hR2, hF2, hG2⟩, hq2⟩ := hq
    rcases hq2 with ⟨h3, e⟩ | ⟨h3, ad2, e⟩
    · cases e
    · cases e
      rcases th_leaves S p with t0 | t0 | t0
      · exact absurd t0 h3
      · rw [t0, show exD 1 = 0 from rfl]
        refine Or.inr ⟨[], (0, 9, 12, 21), [(0, 9, 15, 27)], rfl, ?_, lw_take hB3 (y_L21 hB) (by decide) (by decide) (by decide), ?_⟩
        · exact fun y hy => absurd hy List.not_mem_nil
        show jx_G E l Y_L_leaves (d + 12) _ 12 _ [.ref _] w1
        refine jx_astore_n d_L_leaves_12 rfl (Nat.le_of_ble_eq_true rfl) rfl ?_
        refine jI_const d_L_leaves_13 ?_
        exact jx_iret d_L_leaves_14 rfl (lw_thr hC2 hR2 hF2 hG2 t0 (by decide))
      · rw [t0, show exD 2 = 2 from rfl]
        refine Or.inr ⟨[(0, 9, 12, 21)], (0, 9, 15, 27), [], rfl, ?_, lw_take hB3 (y_L27 hB) (by decide) (by decide) (by decide), ?_⟩
        · intro y hy
          simp only [List.mem_cons, List.not_mem_nil, or_false] at hy
          subst hy
          exact lw_pass hB3.2.2.2.2.2.2.2.2.1 (y_L21 hB) (by decide)
        show jx_G E l Y_L_leaves (d + 12) _ 15 _ [.ref _] w1
        refine jx_astore_n d_L_leaves_15 rfl (Nat.le_of_ble_eq_true rfl) rfl ?_
        refine jI_const d_L_leaves_16 ?_
        exact jx_iret d_L_leaves_17 rfl (lw_thr hC2 hR2 hF2 hG2 t0 (by decide))
theorem w_L_fair {E : jx_E} {l : Launch} {d : Nat} {w : jx_W} {D S : mS} {G : Nat → Nat → Nat} {lo hi mi z0 pa out ts : Nat} {p : Int} (hB : jx_B E) (hB2 : jx_B2 E mi) (hB3 : jx_B3 E z0 pa) (hC : cR E D w G lo hi) (hR : rl S D) (hG0 : G 2 0 = ts) (irp : iR p) (hW : 50 ≤ jx_c w ∧ 5000 ≤ jx_s w) (ho : lo ≤ out ∧ out < hi) (ho2 : E.1.heap.size ≤ out) (hk : jx_k w out = 101) (hl : jx_l w out = 1) : jx_G E l Y_L_fair (d + 12) (lwQ E ts lo hi out w (some (iI (oFair S p).1).toInt64) (oFair S p).2) 0 (jx_ent [.ref ts, .int (iI p), .ref out] 4) [] w := by
  subst hG0
  show jx_G E l Y_L_fair (d + 12) _ 0 [some (.ref (G 2 0)), some (.int (iI p)), some (.ref out), none] [] w
  refine jx_aload_n d_L_fair_0 rfl rfl ?_
  refine jI_const d_L_fair_1 ?_
  refine jx_aload_n d_L_fair_2 rfl rfl ?_
  refine jx_iload_n d_L_fair_3 rfl rfl ?_
  refine jx_callV (As := [.int (iI p)]) (rest := [.int (iI 0), .ref out]) d_L_fair_4 (m_T_fair hB) (v_L_55 hB) (by decide) (jx_c0 hB) (c_k0 hC) rfl (Nat.le_of_ble_eq_true rfl) (Nat.le_of_ble_eq_true rfl) (w_T_fair hB hC hR irp hW) (fun v w1 hq => ?_) (fun x ad w1 hq => ?_)
  · obtain ⟨⟨D2, G2, hC2, hR2, hF2, hG2⟩, hq2⟩ := hq
    obtain ⟨-, -, -, hF3⟩ := id hF2
    have hk1 : jx_k w1 out = 101 := (hF3 out ho).2.1.trans hk
    have hl1 : jx_l w1 out = 1 := (hF3 out ho).2.2.trans hl
    rcases hq2 with ⟨h3, e⟩ | ⟨h3, ad2, e⟩
    · cases e
      refine jx_i2l d_L_fair_7 rfl ?_
      refine jI_last (m := 1) (i := 0) d_L_fair_8 hk1 hl1 (by decide) (by decide) ho2 ?_
      refine jx_goto (tgt := 15) d_L_fair_9 (by decide) ?_
      refine jI_const d_L_fair_15 ?_
      exact jx_iret d_L_fair_16 rfl (lw_ok hC2 hR2 hF2 hG2 ho hk1 h3)
    · cases e
  · obtain ⟨⟨D2, G2, hC2, hR2, hF2, hG2⟩, hq2⟩ := hq
    rcases hq2 with ⟨h3, e⟩ | ⟨h3, ad2, e⟩
    · cases e
    · cases e
      rcases th_fair S p with t0 | t0
      · exact absurd t0 h3
      · rw [t0, show exD 1 = 0 from rfl]
        refine Or.inr ⟨[], (0, 9, 12, 21), [], rfl, ?_, lw_take hB3 (y_L21 hB) (by decide) (by decide) (by decide), ?_⟩
        · exact fun y hy => absurd hy List.not_mem_nil
        show jx_G E l Y_L_fair (d + 12) _ 12 _ [.ref _] w1
        refine jx_astore_n d_L_fair_12 rfl (Nat.le_of_ble_eq_true rfl) rfl ?_
        refine jI_const d_L_fair_13 ?_
        exact jx_iret d_L_fair_14 rfl (lw_thr hC2 hR2 hF2 hG2 t0 (by decide))
theorem w_L_pass {E : jx_E} {l : Launch} {d : Nat} {w : jx_W} {D S : mS} {G : Nat → Nat → Nat} {lo hi mi z0 pa out ts : Nat} {t : Int} (hB : jx_B E) (hB2 : jx_B2 E mi) (hB3 : jx_B3 E z0 pa) (hC : cR E D w G lo hi) (hR : rl S D) (hG0 : G 2 0 = ts) (irt : iR t) (hW : 50 ≤ jx_c w ∧ 5000 ≤ jx_s w) (ho : lo ≤ out ∧ out < hi) (ho2 : E.1.heap.size ≤ out) (hk : jx_k w out = 101) (hl : jx_l w out = 1) : jx_G E l Y_L_pass (d + 12) (lwQ E ts lo hi out w none (oPass S t)) 0 (jx_ent [.ref ts, .int (iI t)] 3) [] w := by
  subst hG0
  show jx_G E l Y_L_pass (d + 12) _ 0 [some (.ref (G 2 0)), some (.int (iI t)), none] [] w
  refine jx_aload_n d_L_pass_0 rfl rfl ?_
  refine jx_iload_n d_L_pass_1 rfl rfl ?_
  refine jx_callV (As := [.int (iI t)]) (rest := []) d_L_pass_2 (m_T_pass hB) (v_L_58 hB) (by decide) (jx_c0 hB) (c_k0 hC) rfl (Nat.le_of_ble_eq_true rfl) (Nat.le_of_ble_eq_true rfl) (w_T_pass hB hC hR irt hW) (fun v w1 hq => ?_) (fun x ad w1 hq => ?_)
  · obtain ⟨⟨D2, G2, hC2, hR2, hF2, hG2⟩, hq2⟩ := hq
    obtain ⟨-, -, -, hF3⟩ := id hF2
    have hk1 : jx_k w1 out = 101 := (hF3 out ho).2.1.trans hk
    have hl1 : jx_l w1 out = 1 := (hF3 out ho).2.2.trans hl
    rcases hq2 with ⟨h3, e⟩ | ⟨h3, ad2, e⟩
    · cases e
      refine jx_goto (tgt := 11) d_L_pass_5 (by decide) ?_
      refine jI_const d_L_pass_11 ?_
      exact jx_iret d_L_pass_12 rfl (lw_ok0 hC2 hR2 hF2 hG2 h3)
    · cases e
  · obtain ⟨⟨D2, G2, hC2, hR2, hF2, hG2⟩, hq2⟩ := hq
    rcases hq2 with ⟨h3, e⟩ | ⟨h3, ad2, e⟩
    · cases e
    · cases e
      rcases th_pass S t with t0 | t0
      · exact absurd t0 h3
      · rw [t0, show exE 1 = 1 from rfl]
        refine Or.inr ⟨[], (0, 5, 8, 13), [], rfl, ?_, lw_take hB3 (y_L13 hB) (by decide) (by decide) (by decide), ?_⟩
        · exact fun y hy => absurd hy List.not_mem_nil
        show jx_G E l Y_L_pass (d + 12) _ 8 _ [.ref _] w1
        refine jx_astore_n d_L_pass_8 rfl (Nat.le_of_ble_eq_true rfl) rfl ?_
        refine jI_const d_L_pass_9 ?_
        exact jx_iret d_L_pass_10 rfl (lw_thr hC2 hR2 hF2 hG2 t0 (by decide))
theorem w_L_order {E : jx_E} {l : Launch} {d : Nat} {w : jx_W} {D S : mS} {G : Nat → Nat → Nat} {lo hi mi z0 pa out ts : Nat} {p i : Int} (hB : jx_B E) (hB2 : jx_B2 E mi) (hB3 : jx_B3 E z0 pa) (hC : cR E D w G lo hi) (hR : rl S D) (hG0 : G 2 0 = ts) (irp : iR p) (iri : iR i) (hW : 50 ≤ jx_c w ∧ 5000 ≤ jx_s w) (ho : lo ≤ out ∧ out < hi) (ho2 : E.1.heap.size ≤ out) (hk : jx_k w out = 101) (hl : jx_l w out = 1) : jx_G E l Y_L_order (d + 12) (lwQ E ts lo hi out w (some (iI (oOrder S p i).1).toInt64) (oOrder S p i).2) 0 (jx_ent [.ref ts, .int (iI p), .int (iI i), .ref out] 5) [] w := by
  subst hG0
  show jx_G E l Y_L_order (d + 12) _ 0 [some (.ref (G 2 0)), some (.int (iI p)), some (.int (iI i)), some (.ref out), none] [] w
  refine jx_aload_n d_L_order_0 rfl rfl ?_
  refine jI_const d_L_order_1 ?_
  refine jx_aload_n d_L_order_2 rfl rfl ?_
  refine jx_iload_n d_L_order_3 rfl rfl ?_
  refine jx_iload_n d_L_order_4 rfl rfl ?_
  refine jx_callV (As := [.int (iI p), .int (iI i)]) (rest := [.int (iI 0), .ref out]) d_L_order_5 (m_T_order hB) (v_L_62 hB) (by decide) (jx_c0 hB) (c_k0 hC) rfl (Nat.le_of_ble_eq_true rfl) (Nat.le_of_ble_eq_true rfl) (w_T_order hB hC hR irp iri hW) (fun v w1 hq => ?_) (fun x ad w1 hq => ?_)
  · obtain ⟨⟨D2, G2, hC2, hR2, hF2, hG2⟩, hq2⟩ := hq
    obtain ⟨-, -, -, hF3⟩ := id hF2
    have hk1 : jx_k w1 out = 101 := (hF3 out ho).2.1.trans hk
    have hl1 : jx_l w1 out = 1 := (hF3 out ho).2.2.trans hl
    rcases hq2 with ⟨h3, e⟩ | ⟨h3, ad2, e⟩
    · cases e
      refine jx_i2l d_L_order_8 rfl ?_
      refine jI_last (m := 1) (i := 0) d_L_order_9 hk1 hl1 (by decide) (by decide) ho2 ?_
      refine jx_goto (tgt := 21) d_L_order_10 (by decide) ?_
      refine jI_const d_L_order_21 ?_
      exact jx_iret d_L_order_22 rfl (lw_ok hC2 hR2 hF2 hG2 ho hk1 h3)
    · cases e
  · obtain ⟨⟨D2, G2, hC2, hR2, hF2, hG2⟩, hq2⟩ := hq
    rcases hq2 with ⟨h3, e⟩ | ⟨h3, ad2, e⟩
    · cases e
    · cases e
      rcases th_order S p i with t0 | t0 | t0
      · exact absurd t0 h3
      · rw [t0, show exB 1 = 0 from rfl]
        refine Or.inr ⟨[], (0, 10, 13, 21), [(0, 10, 17, 13)], rfl, ?_, lw_take hB3 (y_L21 hB) (by decide) (by decide) (by decide), ?_⟩
        · exact fun y hy => absurd hy List.not_mem_nil
        show jx_G E l Y_L_order (d + 12) _ 13 _ [.ref _] w1
        refine jx_astore d_L_order_13 (Nat.le_of_ble_eq_true rfl) rfl ?_
        refine jI_const d_L_order_15 ?_
        exact jx_iret d_L_order_16 rfl (lw_thr hC2 hR2 hF2 hG2 t0 (by decide))
      · rw [t0, show exB 2 = 1 from rfl]
        refine Or.inr ⟨[(0, 10, 13, 21)], (0, 10, 17, 13), [], rfl, ?_, lw_take hB3 (y_L13 hB) (by decide) (by decide) (by decide), ?_⟩
        · intro y hy
          simp only [List.mem_cons, List.not_mem_nil, or_false] at hy
          subst hy
          exact lw_pass hB3.2.2.2.2.2.2.2.1 (y_L21 hB) (by decide)
        show jx_G E l Y_L_order (d + 12) _ 17 _ [.ref _] w1
        refine jx_astore d_L_order_17 (Nat.le_of_ble_eq_true rfl) rfl ?_
        refine jI_const d_L_order_19 ?_
        exact jx_iret d_L_order_20 rfl (lw_thr hC2 hR2 hF2 hG2 t0 (by decide))
theorem w_L_told {E : jx_E} {l : Launch} {d : Nat} {w : jx_W} {D S : mS} {G : Nat → Nat → Nat} {lo hi mi z0 pa out ts : Nat} {t k : Int} (hB : jx_B E) (hB2 : jx_B2 E mi) (hB3 : jx_B3 E z0 pa) (hC : cR E D w G lo hi) (hR : rl S D) (hG0 : G 2 0 = ts) (irt : iR t) (irk : iR k) (hW : 50 ≤ jx_c w ∧ 5000 ≤ jx_s w) (ho : lo ≤ out ∧ out < hi) (ho2 : E.1.heap.size ≤ out) (hk : jx_k w out = 101) (hl : jx_l w out = 1) : jx_G E l Y_L_told (d + 12) (lwQ E ts lo hi out w (some (iI (oTold S t k).1).toInt64) (oTold S t k).2) 0 (jx_ent [.ref ts, .int (iI t), .int (iI k), .ref out] 5) [] w := by
  subst hG0
  show jx_G E l Y_L_told (d + 12) _ 0 [some (.ref (G 2 0)), some (.int (iI t)), some (.int (iI k)), some (.ref out), none] [] w
  refine jx_aload_n d_L_told_0 rfl rfl ?_
  refine jI_const d_L_told_1 ?_
  refine jx_aload_n d_L_told_2 rfl rfl ?_
  refine jx_iload_n d_L_told_3 rfl rfl ?_
  refine jx_iload_n d_L_told_4 rfl rfl ?_
  refine jx_callV (As := [.int (iI t), .int (iI k)]) (rest := [.int (iI 0), .ref out]) d_L_told_5 (m_T_told hB) (v_L_65 hB) (by decide) (jx_c0 hB) (c_k0 hC) rfl (Nat.le_of_ble_eq_true rfl) (Nat.le_of_ble_eq_true rfl) (w_T_told hB hC hR irt irk hW) (fun v w1 hq => ?_) (fun x ad w1 hq => ?_)
  · obtain ⟨⟨D2, G2, hC2, hR2, hF2, hG2⟩, hq2⟩ := hq
    obtain ⟨-, -, -, hF3⟩ := id hF2
    have hk1 : jx_k w1 out = 101 := (hF3 out ho).2.1.trans hk
    have hl1 : jx_l w1 out = 1 := (hF3 out ho).2.2.trans hl
    rcases hq2 with ⟨h3, e⟩ | ⟨h3, ad2, e⟩
    · cases e
      refine jx_i2l d_L_told_8 rfl ?_
      refine jI_last (m := 1) (i := 0) d_L_told_9 hk1 hl1 (by decide) (by decide) ho2 ?_
      refine jx_goto (tgt := 21) d_L_told_10 (by decide) ?_
      refine jI_const d_L_told_21 ?_
      exact jx_iret d_L_told_22 rfl (lw_ok hC2 hR2 hF2 hG2 ho hk1 h3)
    · cases e
  · obtain ⟨⟨D2, G2, hC2, hR2, hF2, hG2⟩, hq2⟩ := hq
    rcases hq2 with ⟨h3, e⟩ | ⟨h3, ad2, e⟩
    · cases e
    · cases e
      rcases th_told S t k with t0 | t0 | t0
      · exact absurd t0 h3
      · rw [t0, show exB 1 = 0 from rfl]
        refine Or.inr ⟨[], (0, 10, 13, 21), [(0, 10, 17, 13)], rfl, ?_, lw_take hB3 (y_L21 hB) (by decide) (by decide) (by decide), ?_⟩
        · exact fun y hy => absurd hy List.not_mem_nil
        show jx_G E l Y_L_told (d + 12) _ 13 _ [.ref _] w1
        refine jx_astore d_L_told_13 (Nat.le_of_ble_eq_true rfl) rfl ?_
        refine jI_const d_L_told_15 ?_
        exact jx_iret d_L_told_16 rfl (lw_thr hC2 hR2 hF2 hG2 t0 (by decide))
      · rw [t0, show exB 2 = 1 from rfl]
        refine Or.inr ⟨[(0, 10, 13, 21)], (0, 10, 17, 13), [], rfl, ?_, lw_take hB3 (y_L13 hB) (by decide) (by decide) (by decide), ?_⟩
        · intro y hy
          simp only [List.mem_cons, List.not_mem_nil, or_false] at hy
          subst hy
          exact lw_pass hB3.2.2.2.2.2.2.2.1 (y_L21 hB) (by decide)
        show jx_G E l Y_L_told (d + 12) _ 17 _ [.ref _] w1
        refine jx_astore d_L_told_17 (Nat.le_of_ble_eq_true rfl) rfl ?_
        refine jI_const d_L_told_19 ?_
        exact jx_iret d_L_told_20 rfl (lw_thr hC2 hR2 hF2 hG2 t0 (by decide))
theorem w_L_known {E : jx_E} {l : Launch} {d : Nat} {w : jx_W} {D S : mS} {G : Nat → Nat → Nat} {lo hi mi z0 pa out ts : Nat} {p k : Int} (hB : jx_B E) (hB2 : jx_B2 E mi) (hB3 : jx_B3 E z0 pa) (hC : cR E D w G lo hi) (hR : rl S D) (hG0 : G 2 0 = ts) (irp : iR p) (irk : iR k) (hW : 50 ≤ jx_c w ∧ 5000 ≤ jx_s w) (ho : lo ≤ out ∧ out < hi) (ho2 : E.1.heap.size ≤ out) (hk : jx_k w out = 101) (hl : jx_l w out = 1) : jx_G E l Y_L_known (d + 12) (lwQ E ts lo hi out w (some (iI (oKnown S p k).1).toInt64) (oKnown S p k).2) 0 (jx_ent [.ref ts, .int (iI p), .int (iI k), .ref out] 5) [] w := by
  subst hG0
  show jx_G E l Y_L_known (d + 12) _ 0 [some (.ref (G 2 0)), some (.int (iI p)), some (.int (iI k)), some (.ref out), none] [] w
  refine jx_aload_n d_L_known_0 rfl rfl ?_
  refine jI_const d_L_known_1 ?_
  refine jx_aload_n d_L_known_2 rfl rfl ?_
  refine jx_iload_n d_L_known_3 rfl rfl ?_
  refine jx_iload_n d_L_known_4 rfl rfl ?_
  refine jx_callV (As := [.int (iI p), .int (iI k)]) (rest := [.int (iI 0), .ref out]) d_L_known_5 (m_T_known hB) (v_L_68 hB) (by decide) (jx_c0 hB) (c_k0 hC) rfl (Nat.le_of_ble_eq_true rfl) (Nat.le_of_ble_eq_true rfl) (w_T_known hB hC hR irp irk hW) (fun v w1 hq => ?_) (fun x ad w1 hq => ?_)
  · obtain ⟨⟨D2, G2, hC2, hR2, hF2, hG2⟩, hq2⟩ := hq
    obtain ⟨-, -, -, hF3⟩ := id hF2
    have hk1 : jx_k w1 out = 101 := (hF3 out ho).2.1.trans hk
    have hl1 : jx_l w1 out = 1 := (hF3 out ho).2.2.trans hl
    rcases hq2 with ⟨h3, e⟩ | ⟨h3, ad2, e⟩
    · cases e
      refine jx_i2l d_L_known_8 rfl ?_
      refine jI_last (m := 1) (i := 0) d_L_known_9 hk1 hl1 (by decide) (by decide) ho2 ?_
      refine jx_goto (tgt := 21) d_L_known_10 (by decide) ?_
      refine jI_const d_L_known_21 ?_
      exact jx_iret d_L_known_22 rfl (lw_ok hC2 hR2 hF2 hG2 ho hk1 h3)
    · cases e
  · obtain ⟨⟨D2, G2, hC2, hR2, hF2, hG2⟩, hq2⟩ := hq
    rcases hq2 with ⟨h3, e⟩ | ⟨h3, ad2, e⟩
    · cases e
    · cases e
      rcases th_known S p k with t0 | t0 | t0
      · exact absurd t0 h3
      · rw [t0, show exB 1 = 0 from rfl]
        refine Or.inr ⟨[], (0, 10, 13, 21), [(0, 10, 17, 13)], rfl, ?_, lw_take hB3 (y_L21 hB) (by decide) (by decide) (by decide), ?_⟩
        · exact fun y hy => absurd hy List.not_mem_nil
        show jx_G E l Y_L_known (d + 12) _ 13 _ [.ref _] w1
        refine jx_astore d_L_known_13 (Nat.le_of_ble_eq_true rfl) rfl ?_
        refine jI_const d_L_known_15 ?_
        exact jx_iret d_L_known_16 rfl (lw_thr hC2 hR2 hF2 hG2 t0 (by decide))
      · rw [t0, show exB 2 = 1 from rfl]
        refine Or.inr ⟨[(0, 10, 13, 21)], (0, 10, 17, 13), [], rfl, ?_, lw_take hB3 (y_L13 hB) (by decide) (by decide) (by decide), ?_⟩
        · intro y hy
          simp only [List.mem_cons, List.not_mem_nil, or_false] at hy
          subst hy
          exact lw_pass hB3.2.2.2.2.2.2.2.1 (y_L21 hB) (by decide)
        show jx_G E l Y_L_known (d + 12) _ 17 _ [.ref _] w1
        refine jx_astore d_L_known_17 (Nat.le_of_ble_eq_true rfl) rfl ?_
        refine jI_const d_L_known_19 ?_
        exact jx_iret d_L_known_20 rfl (lw_thr hC2 hR2 hF2 hG2 t0 (by decide))
