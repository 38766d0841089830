/-! 90.d.person: person, task -/
theorem put_v {w : jx_W} {a j x y : Nat} {v : Value} : jx_v (jx_put w a j v) x y = if x = a ∧ y = j then v else jx_v w x y := rfl
theorem new_v {w : jx_W} {kd n sl x : Nat} {f : Nat → Value} : jx_v (jx_new w kd n sl f) x = if x = jx_n w then f else jx_v w x := rfl
theorem new_k {w : jx_W} {kd n sl x : Nat} {f : Nat → Value} : jx_k (jx_new w kd n sl f) x = if x = jx_n w then kd else jx_k w x := rfl
theorem new_l {w : jx_W} {kd n sl x : Nat} {f : Nat → Value} : jx_l (jx_new w kd n sl f) x = if x = jx_n w then n else jx_l w x := rfl
def pvP (n a b c z : Int) : Nat → Int := fun f => match f with
  | 0 => n
  | 1 => b
  | 2 => c
  | 3 => a
  | 4 => z
  | 7 => 1
  | 8 => -1
  | _ => 0
def pvK (n a b c z : Int) : Nat → Int := fun f => match f with
  | 20 => n
  | 21 => a
  | 22 => b
  | 23 => c
  | 24 => z
  | 26 => -1
  | 27 => -1
  | _ => 0
/-- places of the working lists are no numbers of the relation -/
theorem keep_person2 {S D : mS} {a b c z : Int} (h : rl S D) (hn4 : S 0 0 < 4) (ha : 0 ≤ a ∧ a ≤ 255) (hb : 0 ≤ b ∧ b ≤ 100000) (hc : 0 ≤ c ∧ c ≤ 100000) (hz : 0 ≤ z ∧ z ≤ 3) : rl (sU (sU (sU (sU (sU (sU (sU (sU (sU (sU S 3 0 0) 4 (S 0 0) a) 5 (S 0 0) b) 6 (S 0 0) c) 7 (S 0 0) 0) 8 (S 0 0) 0) 9 (S 0 0) z) 10 (S 0 0) 1) 11 (S 0 0) (-1)) 0 0 (S 0 0 + 1)) (growD D 0 (pvP (D 33 0) a b c z)) := by
  have e : D (33 + 0) 0 = S 0 0 := h.N.1.1
  have e2 : D 33 0 = S 0 0 := h.N.1.1
  have hv : ∀ f, cFl 0 f → growD D 0 (pvP (D 33 0) a b c z) f (S 0 0) = pvP (D 33 0) a b c z f := fun f hf => by
    rw [← e]
    exact growD_v (.inl rfl) hf
  refine keep_person h hn4 ha hb hc hz (fun f i h1 h2 => growD_o h2 (fun z => h1 ?_) (.inl rfl)) ?_ ?_ ?_ ?_ ?_ ?_ ?_ ?_ ?_ ?_ ?_ ?_
  · obtain ⟨z1, z2⟩ := z
    rcases z1 with z1 | z1
    · exact ⟨by omega, by omega⟩
    · omega
  · exact growD_n.trans (by rw [e])
  · rw [hv 0 (.inl ⟨rfl, by decide⟩)]; exact e2
  · rw [hv 1 (.inl ⟨rfl, by decide⟩)]; rfl
  · rw [hv 2 (.inl ⟨rfl, by decide⟩)]; rfl
  · rw [hv 3 (.inl ⟨rfl, by decide⟩)]; rfl
  · rw [hv 4 (.inl ⟨rfl, by decide⟩)]; rfl
  · rw [hv 5 (.inl ⟨rfl, by decide⟩)]; rfl
  · rw [hv 6 (.inl ⟨rfl, by decide⟩)]; rfl
  · rw [hv 7 (.inl ⟨rfl, by decide⟩)]; rfl
  · rw [hv 8 (.inl ⟨rfl, by decide⟩)]; rfl
  · rw [hv 9 (.inl ⟨rfl, by decide⟩)]; rfl
  · rw [hv 10 (.inl ⟨rfl, by decide⟩)]; rfl
theorem keep_task2 {S D : mS} {a b c z : Int} (h : rl S D) (hn4 : S 1 0 < 16) (ha : 0 ≤ a ∧ a ≤ 7) (hb : 1 ≤ b ∧ b ≤ 5000) (hc : 0 ≤ c ∧ c ≤ 100000) (hz : 0 ≤ z ∧ z ≤ 3) : rl (sU (sU (sU (sU (sU (sU (sU (sU (sU (sU S 3 0 0) 13 (S 1 0) 0) 14 (S 1 0) a) 15 (S 1 0) b) 16 (S 1 0) c) 17 (S 1 0) z) 18 (S 1 0) 0) 19 (S 1 0) (-1)) 20 (S 1 0) (-1)) 1 0 (S 1 0 + 1)) (growD D 1 (pvK (D 34 0) a b c z)) := by
  have e : D (33 + 1) 0 = S 1 0 := h.N.1.2.1
  have e2 : D 34 0 = S 1 0 := h.N.1.2.1
  obtain ⟨X, hX⟩ : ∃ zz, zz = growD D 1 (pvK (D 34 0) a b c z) := ⟨_, rfl⟩
  have hv : ∀ f, cFl 1 f → X f (S 1 0) = pvK (D 34 0) a b c z f := fun f hf => by
    rw [← e, hX]
    exact growD_v (.inr rfl) hf
  rw [← hX]
  have hx3 : ∀ f, f ≠ 37 → f ≠ 38 → (fun (g : Nat) (i : Int) => if g = 37 ∨ g = 38 then D g i else X g i) f = X f := fun f h1 h2 => by
    funext i
    exact if_neg (fun z => by omega)
  refine rl.cD (D := fun g i => if g = 37 ∨ g = 38 then D g i else X g i) ?_ (fun f hf => (hx3 f (by omega) (by omega)).symm)
  refine keep_task h hn4 ha hb hc hz (fun f i h1 h2 => ?_) ?_ ?_ ?_ ?_ ?_ ?_ ?_ ?_ ?_
  · show (if f = 37 ∨ f = 38 then D f i else X f i) = D f i
    by_cases y : f = 37 ∨ f = 38
    · rw [if_pos y]
    · rw [if_neg y, hX]
      refine growD_o h2 (fun z => h1 ?_) (.inr (by omega))
      obtain ⟨z1, z2⟩ := z
      rcases z1 with z1 | z1
      · omega
      · exact ⟨by omega, by omega, by omega⟩
  · rw [if_neg (by decide), hX]; exact growD_n.trans (by rw [e])
  · rw [if_neg (by decide), hv 20 (.inr ⟨rfl, by decide, by decide⟩)]; exact e2
  · rw [if_neg (by decide), hv 21 (.inr ⟨rfl, by decide, by decide⟩)]; rfl
  · rw [if_neg (by decide), hv 22 (.inr ⟨rfl, by decide, by decide⟩)]; rfl
  · rw [if_neg (by decide), hv 23 (.inr ⟨rfl, by decide, by decide⟩)]; rfl
  · rw [if_neg (by decide), hv 24 (.inr ⟨rfl, by decide, by decide⟩)]; rfl
  · rw [if_neg (by decide), hv 25 (.inr ⟨rfl, by decide, by decide⟩)]; rfl
  · rw [if_neg (by decide), hv 26 (.inr ⟨rfl, by decide, by decide⟩)]; rfl
  · rw [if_neg (by decide), hv 27 (.inr ⟨rfl, by decide, by decide⟩)]; rfl
theorem w_T_person {E : jx_E} {l : Launch} {d : Nat} {w : jx_W} {S D : mS} {G : Nat → Nat → Nat} {lo hi mi : Nat} {a b c z : Int} (hB : jx_B E) (hB2 : jx_B2 E mi) (hC : cR E D w G lo hi) (hR : rl S D) (ira : iR a) (irb : iR b) (irc : iR c) (irz : iR z) (hW : 50 ≤ jx_c w ∧ 5000 ≤ jx_s w) : jx_G E l Y_T_person (d + 11) (pubQ E G lo hi w exA (some (.int (iI (oPerson S a b c z).1))) (oPerson S a b c z).2) 0 (jx_ent [.ref (G 2 0), .int (iI a), .int (iI b), .int (iI c), .int (iI z)] 6) [] w := by
  show jx_G E l Y_T_person (d + 11) _ 0 [some (.ref (G 2 0)), some (.int (iI a)), some (.int (iI b)), some (.int (iI c)), some (.int (iI z)), none] [] w
  have hN := hR.N
  have hF : cF lo hi 0 w w := cF.rf
  refine jx_iload_n d_T_person_0 rfl rfl ?_
  refine jI_const d_T_person_1 ?_
  refine jI_sipush d_T_person_2 (by decide) ?_
  by_cases hq1 : 0 ≤ a ∧ a ≤ 255
  rotate_left
  · exact jx_callS_t (As := [.int (iI (a)), .int (iI (0)), .int (iI (255))]) d_T_person_5 (m_T_needWithin hB) (s_T_36 hB) rfl (Nat.le_of_ble_eq_true rfl) (Nat.le_of_ble_eq_true rfl) (w_T_needWithin_no (lo := lo) (hi := hi) (D := D) (S := S) (G := G) hB (x := a) (a := 0) (b := 255) (by omega) (by omega) (by omega) hq1 (room_c hF hW.1 (by decide)) (room_s hF hW.2 (by decide))) (.inl ⟨fun y hy => absurd hy List.not_mem_nil, pub_thr hC hR hF (by decide) 1 (by decide) (by unfold oPerson; (repeat' split) <;> first | rfl | (exfalso; omega)) rfl⟩)
  refine jx_callS_r (As := [.int (iI (a)), .int (iI (0)), .int (iI (255))]) (v := none) d_T_person_5 (m_T_needWithin hB) (s_T_36 hB) rfl (Nat.le_of_ble_eq_true rfl) (Nat.le_of_ble_eq_true rfl) (w_T_needWithin_ok (lo := lo) (hi := hi) (D := D) (S := S) (G := G) hB (x := a) (a := 0) (b := 255) (by omega) (by omega) (by omega) hq1) ?_
  refine jx_iload_n d_T_person_8 rfl rfl ?_
  refine jI_const d_T_person_9 ?_
  refine jI_ldc d_T_person_10 (k_T_40 hB) (n := 100000) (by decide) ?_
  by_cases hq2 : 0 ≤ b ∧ b ≤ 100000
  rotate_left
  · exact jx_callS_t (As := [.int (iI (b)), .int (iI (0)), .int (iI (100000))]) d_T_person_12 (m_T_needWithin hB) (s_T_36 hB) rfl (Nat.le_of_ble_eq_true rfl) (Nat.le_of_ble_eq_true rfl) (w_T_needWithin_no (lo := lo) (hi := hi) (D := D) (S := S) (G := G) hB (x := b) (a := 0) (b := 100000) (by omega) (by omega) (by omega) hq2 (room_c hF hW.1 (by decide)) (room_s hF hW.2 (by decide))) (.inl ⟨fun y hy => absurd hy List.not_mem_nil, pub_thr hC hR hF (by decide) 1 (by decide) (by unfold oPerson; (repeat' split) <;> first | rfl | (exfalso; omega)) rfl⟩)
  refine jx_callS_r (As := [.int (iI (b)), .int (iI (0)), .int (iI (100000))]) (v := none) d_T_person_12 (m_T_needWithin hB) (s_T_36 hB) rfl (Nat.le_of_ble_eq_true rfl) (Nat.le_of_ble_eq_true rfl) (w_T_needWithin_ok (lo := lo) (hi := hi) (D := D) (S := S) (G := G) hB (x := b) (a := 0) (b := 100000) (by omega) (by omega) (by omega) hq2) ?_
  refine jx_iload_n d_T_person_15 rfl rfl ?_
  refine jx_iload_n d_T_person_16 rfl rfl ?_
  refine jI_const d_T_person_17 ?_
  refine jI_add d_T_person_18 ?_
  refine jI_ldc d_T_person_19 (k_T_40 hB) (n := 100000) (by decide) ?_
  by_cases hq3 : b + 1 ≤ c ∧ c ≤ 100000
  rotate_left
  · exact jx_callS_t (As := [.int (iI (c)), .int (iI (b + 1)), .int (iI (100000))]) d_T_person_21 (m_T_needWithin hB) (s_T_36 hB) rfl (Nat.le_of_ble_eq_true rfl) (Nat.le_of_ble_eq_true rfl) (w_T_needWithin_no (lo := lo) (hi := hi) (D := D) (S := S) (G := G) hB (x := c) (a := b + 1) (b := 100000) (by omega) (by omega) (by omega) hq3 (room_c hF hW.1 (by decide)) (room_s hF hW.2 (by decide))) (.inl ⟨fun y hy => absurd hy List.not_mem_nil, pub_thr hC hR hF (by decide) 1 (by decide) (by unfold oPerson; (repeat' split) <;> first | rfl | (exfalso; omega)) rfl⟩)
  refine jx_callS_r (As := [.int (iI (c)), .int (iI (b + 1)), .int (iI (100000))]) (v := none) d_T_person_21 (m_T_needWithin hB) (s_T_36 hB) rfl (Nat.le_of_ble_eq_true rfl) (Nat.le_of_ble_eq_true rfl) (w_T_needWithin_ok (lo := lo) (hi := hi) (D := D) (S := S) (G := G) hB (x := c) (a := b + 1) (b := 100000) (by omega) (by omega) (by omega) hq3) ?_
  refine jx_iload d_T_person_24 rfl ?_
  refine jI_const d_T_person_26 ?_
  refine jI_const d_T_person_27 ?_
  by_cases hq4 : 0 ≤ z ∧ z ≤ 3
  rotate_left
  · exact jx_callS_t (As := [.int (iI (z)), .int (iI (0)), .int (iI (3))]) d_T_person_28 (m_T_needWithin hB) (s_T_36 hB) rfl (Nat.le_of_ble_eq_true rfl) (Nat.le_of_ble_eq_true rfl) (w_T_needWithin_no (lo := lo) (hi := hi) (D := D) (S := S) (G := G) hB (x := z) (a := 0) (b := 3) (by omega) (by omega) (by omega) hq4 (room_c hF hW.1 (by decide)) (room_s hF hW.2 (by decide))) (.inl ⟨fun y hy => absurd hy List.not_mem_nil, pub_thr hC hR hF (by decide) 1 (by decide) (by unfold oPerson; (repeat' split) <;> first | rfl | (exfalso; omega)) rfl⟩)
  refine jx_callS_r (As := [.int (iI (z)), .int (iI (0)), .int (iI (3))]) (v := none) d_T_person_28 (m_T_needWithin hB) (s_T_36 hB) rfl (Nat.le_of_ble_eq_true rfl) (Nat.le_of_ble_eq_true rfl) (w_T_needWithin_ok (lo := lo) (hi := hi) (D := D) (S := S) (G := G) hB (x := z) (a := 0) (b := 3) (by omega) (by omega) (by omega) hq4) ?_
  refine jx_aload_n d_T_person_31 rfl rfl ?_
  refine cx_ptr (c2 := 2) (x2 := 1) d_T_person_32 (f_T_10 hB) hC (by decide) (by decide) rfl ?_
  refine cx_size 0 1 33 rfl hB d_T_person_35 (v_T_41 hB) hC (by decide) rfl (Nat.le_of_ble_eq_true rfl) ?_
  refine jI_const d_T_person_38 ?_
  by_cases hq5 : D 33 0 < 4
  rotate_left
  · exact jx_callS_t (As := [.int (iI (D 33 0)), .int (iI (4))]) d_T_person_39 (m_T_needRoom hB) (s_T_45 hB) rfl (Nat.le_of_ble_eq_true rfl) (Nat.le_of_ble_eq_true rfl) (w_T_needRoom_no (lo := lo) (hi := hi) (D := D) (S := S) (G := G) hB (x := D 33 0) (a := 4) (by omega) (by omega) hq5 (room_c hF hW.1 (by decide)) (room_s hF hW.2 (by decide))) (.inl ⟨fun y hy => absurd hy List.not_mem_nil, pub_thr hC hR hF (by decide) 2 (by decide) (by unfold oPerson; (repeat' split) <;> first | rfl | (exfalso; omega)) rfl⟩)
  refine jx_callS_r (As := [.int (iI (D 33 0)), .int (iI (4))]) (v := none) d_T_person_39 (m_T_needRoom hB) (s_T_45 hB) rfl (Nat.le_of_ble_eq_true rfl) (Nat.le_of_ble_eq_true rfl) (w_T_needRoom_ok (lo := lo) (hi := hi) (D := D) (S := S) (G := G) hB (x := D 33 0) (a := 4) (by omega) (by omega) hq5) ?_
  refine jx_lt (fun hlt => ?_)
  have hrm := hC.room
  refine jx_nw d_T_person_42 (n_T_49 hB) (by omega) (by omega) ?_
  have hk1 : ∀ x, x ≠ jx_n w → jx_k (jx_new w 3 0 14 jx_d2) x = jx_k w x ∧ jx_l (jx_new w 3 0 14 jx_d2) x = jx_l w x ∧ jx_v (jx_new w 3 0 14 jx_d2) x = jx_v w x := fun x hx => ⟨if_neg hx, if_neg hx, if_neg hx⟩
  have hC1 : cR E D (jx_new w 3 0 14 jx_d2) G lo hi := hC.up hlt (Nat.le_succ _) (fun x hx => hk1 x (by omega))
  refine jx_dup d_T_person_45 rfl ?_
  refine jx_aload_n d_T_person_46 rfl rfl ?_
  refine cx_ptr (c2 := 2) (x2 := 1) d_T_person_47 (f_T_10 hB) hC1 (by decide) (by decide) rfl ?_
  refine cx_size 0 1 33 rfl hB d_T_person_50 (v_T_41 hB) hC1 (by decide) rfl (Nat.le_of_ble_eq_true rfl) ?_
  refine jx_iload_n d_T_person_53 rfl rfl ?_
  refine jx_iload_n d_T_person_54 rfl rfl ?_
  refine jx_iload_n d_T_person_55 rfl rfl ?_
  refine jx_iload d_T_person_56 rfl ?_
  refine jx_callI_r (As := [.int (iI (D 33 0)), .int (iI a), .int (iI b), .int (iI c), .int (iI z)]) (v := none) d_T_person_58 (m_P_init hB) (i_T_51 hB) rfl rfl rfl (Nat.le_of_ble_eq_true rfl) (Nat.le_of_ble_eq_true rfl) (w_P_init hB (if_pos rfl) hrm) ?_
  obtain ⟨w2, hw2⟩ : ∃ zz, zz = jx_put (jx_put (jx_put (jx_put (jx_put (jx_put (jx_put (jx_new w 3 0 14 jx_d2) (jx_n w) 7 (.int (iI (1)))) (jx_n w) 8 (.int (iI ((-1))))) (jx_n w) 0 (.int (iI (D 33 0)))) (jx_n w) 3 (.int (iI (a)))) (jx_n w) 1 (.int (iI (b)))) (jx_n w) 2 (.int (iI (c)))) (jx_n w) 4 (.int (iI (z))) := ⟨_, rfl⟩
  rw [← hw2]
  have n2 : jx_n w2 = jx_n w + 1 := by rw [hw2]; rfl
  have c2 : jx_c w ≤ jx_c w2 + 1 := by (have e : jx_c w2 = jx_c w - 1 := by rw [hw2]; rfl); omega
  have s2 : jx_s w ≤ jx_s w2 + 14 := by (have e : jx_s w2 = jx_s w - 14 := by rw [hw2]; rfl); omega
  have hk2 : ∀ x, x ≠ jx_n w → jx_k w2 x = jx_k w x ∧ jx_l w2 x = jx_l w x ∧ jx_v w2 x = jx_v w x := fun x hx => by
    refine ⟨by rw [hw2]; exact if_neg hx, by rw [hw2]; exact if_neg hx, ?_⟩
    funext y
    rw [hw2]
    simp only [put_v, new_v, hx, false_and, if_false]
  have kb : jx_k w2 (jx_n w) = 3 := by rw [hw2]; exact if_pos rfl
  have hvb : ∀ f, cFl 0 f → jx_v w2 (jx_n w) (f - 20 * 0) = .int (iI (pvP (D 33 0) a b c z f)) := fun f hf => by
    have hf2 : f = 0 ∨ f = 1 ∨ f = 2 ∨ f = 3 ∨ f = 4 ∨ f = 5 ∨ f = 6 ∨ f = 7 ∨ f = 8 ∨ f = 9 ∨ f = 10 ∨ f = 11 ∨ f = 12 ∨ f = 13 := by rcases hf with y | y <;> omega
    rw [hw2]
    rcases hf2 with rfl | rfl | rfl | rfl | rfl | rfl | rfl | rfl | rfl | rfl | rfl | rfl | rfl | rfl <;> simp only [put_v, new_v, true_and] <;> rfl
  have hC2 : cR E D w2 G lo hi := hC.up hlt (by omega) (fun x hx => hk2 x (by omega))
  refine jx_astore d_T_person_61 (Nat.le_of_ble_eq_true rfl) rfl ?_
  try dsimp only [List.set]
  refine jx_aload_n d_T_person_63 rfl rfl ?_
  refine cx_ptr (c2 := 2) (x2 := 1) d_T_person_64 (f_T_10 hB) hC2 (by decide) (by decide) rfl ?_
  refine jx_aload d_T_person_67 rfl ?_
  refine jx_callV (As := [.ref (jx_n w)]) d_T_person_69 (m_A_add hB) (v_T_54 hB) (by decide) (jx_c6 hB) (by rw [hC2.kd (.inr (.inr (.inl ⟨rfl, by decide⟩)))]; rfl) rfl (Nat.le_of_ble_eq_true rfl) (Nat.le_of_ble_eq_true rfl) (w_addB (j := 0) (pv := pvP (D 33 0) a b c z) hB hB2 hC (.inl rfl) hlt (show D 33 0 ≤ 50 by omega) hrm n2 c2 s2 (by omega) hk2 kb hvb (jx_c2 hB) (y_c2 hB)) (fun v w3 hh => ?_) (fun x ad w3 hh => by obtain ⟨e9, -⟩ := hh; cases e9)
  obtain ⟨e9, hC3, hF3, hv3, hk3⟩ := hh
  cases e9
  refine jx_pop d_T_person_72 rfl ?_
  refine jx_aload d_T_person_73 rfl ?_
  refine jx_getv (v := .int (iI (D 33 0))) d_T_person_75 (f_T_58 hB) hk3 hv3 ?_
  have hO : oPerson S a b c z = (S 0 0, sU (sU (sU (sU (sU (sU (sU (sU (sU (sU S 3 0 0) 4 (S 0 0) a) 5 (S 0 0) b) 6 (S 0 0) c) 7 (S 0 0) 0) 8 (S 0 0) 0) 9 (S 0 0) z) 10 (S 0 0) 1) 11 (S 0 0) (-1)) 0 0 (S 0 0 + 1)) := by unfold oPerson; rw [if_pos (by omega), if_neg (by omega)]
  refine jx_iret d_T_person_78 rfl ?_
  rw [hO]
  exact ⟨⟨_, _, hC3, keep_person2 hR (by omega) (by omega) (by omega) (by omega) (by omega), hF.tr hF3 (by omega), growG_o (.inl rfl) (.inr (.inr (.inl ⟨rfl, by decide⟩)))⟩, .inl ⟨rfl, by rw [show D 33 0 = S 0 0 by omega]⟩⟩
theorem w_T_task {E : jx_E} {l : Launch} {d : Nat} {w : jx_W} {S D : mS} {G : Nat → Nat → Nat} {lo hi mi : Nat} {a b c z : Int} (hB : jx_B E) (hB2 : jx_B2 E mi) (hC : cR E D w G lo hi) (hR : rl S D) (ira : iR a) (irb : iR b) (irc : iR c) (irz : iR z) (hW : 50 ≤ jx_c w ∧ 5000 ≤ jx_s w) : jx_G E l Y_T_task (d + 11) (pubQ E G lo hi w exA (some (.int (iI (oTask S a b c z).1))) (oTask S a b c z).2) 0 (jx_ent [.ref (G 2 0), .int (iI a), .int (iI b), .int (iI c), .int (iI z)] 6) [] w := by
  show jx_G E l Y_T_task (d + 11) _ 0 [some (.ref (G 2 0)), some (.int (iI a)), some (.int (iI b)), some (.int (iI c)), some (.int (iI z)), none] [] w
  have hN := hR.N
  have hF : cF lo hi 0 w w := cF.rf
  refine jx_iload_n d_T_task_0 rfl rfl ?_
  refine jI_const d_T_task_1 ?_
  refine jI_bipush d_T_task_2 (by decide) ?_
  by_cases hq1 : 0 ≤ a ∧ a ≤ 7
  rotate_left
  · exact jx_callS_t (As := [.int (iI (a)), .int (iI (0)), .int (iI (7))]) d_T_task_4 (m_T_needWithin hB) (s_T_36 hB) rfl (Nat.le_of_ble_eq_true rfl) (Nat.le_of_ble_eq_true rfl) (w_T_needWithin_no (lo := lo) (hi := hi) (D := D) (S := S) (G := G) hB (x := a) (a := 0) (b := 7) (by omega) (by omega) (by omega) hq1 (room_c hF hW.1 (by decide)) (room_s hF hW.2 (by decide))) (.inl ⟨fun y hy => absurd hy List.not_mem_nil, pub_thr hC hR hF (by decide) 1 (by decide) (by unfold oTask; (repeat' split) <;> first | rfl | (exfalso; omega)) rfl⟩)
  refine jx_callS_r (As := [.int (iI (a)), .int (iI (0)), .int (iI (7))]) (v := none) d_T_task_4 (m_T_needWithin hB) (s_T_36 hB) rfl (Nat.le_of_ble_eq_true rfl) (Nat.le_of_ble_eq_true rfl) (w_T_needWithin_ok (lo := lo) (hi := hi) (D := D) (S := S) (G := G) hB (x := a) (a := 0) (b := 7) (by omega) (by omega) (by omega) hq1) ?_
  refine jx_iload_n d_T_task_7 rfl rfl ?_
  refine jI_const d_T_task_8 ?_
  refine jI_sipush d_T_task_9 (by decide) ?_
  by_cases hq2 : 1 ≤ b ∧ b ≤ 5000
  rotate_left
  · exact jx_callS_t (As := [.int (iI (b)), .int (iI (1)), .int (iI (5000))]) d_T_task_12 (m_T_needWithin hB) (s_T_36 hB) rfl (Nat.le_of_ble_eq_true rfl) (Nat.le_of_ble_eq_true rfl) (w_T_needWithin_no (lo := lo) (hi := hi) (D := D) (S := S) (G := G) hB (x := b) (a := 1) (b := 5000) (by omega) (by omega) (by omega) hq2 (room_c hF hW.1 (by decide)) (room_s hF hW.2 (by decide))) (.inl ⟨fun y hy => absurd hy List.not_mem_nil, pub_thr hC hR hF (by decide) 1 (by decide) (by unfold oTask; (repeat' split) <;> first | rfl | (exfalso; omega)) rfl⟩)
  refine jx_callS_r (As := [.int (iI (b)), .int (iI (1)), .int (iI (5000))]) (v := none) d_T_task_12 (m_T_needWithin hB) (s_T_36 hB) rfl (Nat.le_of_ble_eq_true rfl) (Nat.le_of_ble_eq_true rfl) (w_T_needWithin_ok (lo := lo) (hi := hi) (D := D) (S := S) (G := G) hB (x := b) (a := 1) (b := 5000) (by omega) (by omega) (by omega) hq2) ?_
  refine jx_iload_n d_T_task_15 rfl rfl ?_
  refine jI_const d_T_task_16 ?_
  refine jI_ldc d_T_task_17 (k_T_40 hB) (n := 100000) (by decide) ?_
  by_cases hq3 : 0 ≤ c ∧ c ≤ 100000
  rotate_left
  · exact jx_callS_t (As := [.int (iI (c)), .int (iI (0)), .int (iI (100000))]) d_T_task_19 (m_T_needWithin hB) (s_T_36 hB) rfl (Nat.le_of_ble_eq_true rfl) (Nat.le_of_ble_eq_true rfl) (w_T_needWithin_no (lo := lo) (hi := hi) (D := D) (S := S) (G := G) hB (x := c) (a := 0) (b := 100000) (by omega) (by omega) (by omega) hq3 (room_c hF hW.1 (by decide)) (room_s hF hW.2 (by decide))) (.inl ⟨fun y hy => absurd hy List.not_mem_nil, pub_thr hC hR hF (by decide) 1 (by decide) (by unfold oTask; (repeat' split) <;> first | rfl | (exfalso; omega)) rfl⟩)
  refine jx_callS_r (As := [.int (iI (c)), .int (iI (0)), .int (iI (100000))]) (v := none) d_T_task_19 (m_T_needWithin hB) (s_T_36 hB) rfl (Nat.le_of_ble_eq_true rfl) (Nat.le_of_ble_eq_true rfl) (w_T_needWithin_ok (lo := lo) (hi := hi) (D := D) (S := S) (G := G) hB (x := c) (a := 0) (b := 100000) (by omega) (by omega) (by omega) hq3) ?_
  refine jx_iload d_T_task_22 rfl ?_
  refine jI_const d_T_task_24 ?_
  refine jI_const d_T_task_25 ?_
  by_cases hq4 : 0 ≤ z ∧ z ≤ 3
  rotate_left
  · exact jx_callS_t (As := [.int (iI (z)), .int (iI (0)), .int (iI (3))]) d_T_task_26 (m_T_needWithin hB) (s_T_36 hB) rfl (Nat.le_of_ble_eq_true rfl) (Nat.le_of_ble_eq_true rfl) (w_T_needWithin_no (lo := lo) (hi := hi) (D := D) (S := S) (G := G) hB (x := z) (a := 0) (b := 3) (by omega) (by omega) (by omega) hq4 (room_c hF hW.1 (by decide)) (room_s hF hW.2 (by decide))) (.inl ⟨fun y hy => absurd hy List.not_mem_nil, pub_thr hC hR hF (by decide) 1 (by decide) (by unfold oTask; (repeat' split) <;> first | rfl | (exfalso; omega)) rfl⟩)
  refine jx_callS_r (As := [.int (iI (z)), .int (iI (0)), .int (iI (3))]) (v := none) d_T_task_26 (m_T_needWithin hB) (s_T_36 hB) rfl (Nat.le_of_ble_eq_true rfl) (Nat.le_of_ble_eq_true rfl) (w_T_needWithin_ok (lo := lo) (hi := hi) (D := D) (S := S) (G := G) hB (x := z) (a := 0) (b := 3) (by omega) (by omega) (by omega) hq4) ?_
  refine jx_aload_n d_T_task_29 rfl rfl ?_
  refine cx_ptr (c2 := 2) (x2 := 2) d_T_task_30 (f_T_16 hB) hC (by decide) (by decide) rfl ?_
  refine cx_size 1 2 34 rfl hB d_T_task_33 (v_T_41 hB) hC (by decide) rfl (Nat.le_of_ble_eq_true rfl) ?_
  refine jI_bipush d_T_task_36 (by decide) ?_
  by_cases hq5 : D 34 0 < 16
  rotate_left
  · exact jx_callS_t (As := [.int (iI (D 34 0)), .int (iI (16))]) d_T_task_38 (m_T_needRoom hB) (s_T_45 hB) rfl (Nat.le_of_ble_eq_true rfl) (Nat.le_of_ble_eq_true rfl) (w_T_needRoom_no (lo := lo) (hi := hi) (D := D) (S := S) (G := G) hB (x := D 34 0) (a := 16) (by omega) (by omega) hq5 (room_c hF hW.1 (by decide)) (room_s hF hW.2 (by decide))) (.inl ⟨fun y hy => absurd hy List.not_mem_nil, pub_thr hC hR hF (by decide) 2 (by decide) (by unfold oTask; (repeat' split) <;> first | rfl | (exfalso; omega)) rfl⟩)
  refine jx_callS_r (As := [.int (iI (D 34 0)), .int (iI (16))]) (v := none) d_T_task_38 (m_T_needRoom hB) (s_T_45 hB) rfl (Nat.le_of_ble_eq_true rfl) (Nat.le_of_ble_eq_true rfl) (w_T_needRoom_ok (lo := lo) (hi := hi) (D := D) (S := S) (G := G) hB (x := D 34 0) (a := 16) (by omega) (by omega) hq5) ?_
  refine jx_lt (fun hlt => ?_)
  have hrm := hC.room
  refine jx_nw d_T_task_41 (n_T_98 hB) (by omega) (by omega) ?_
  have hk1 : ∀ x, x ≠ jx_n w → jx_k (jx_new w 4 0 8 jx_d3) x = jx_k w x ∧ jx_l (jx_new w 4 0 8 jx_d3) x = jx_l w x ∧ jx_v (jx_new w 4 0 8 jx_d3) x = jx_v w x := fun x hx => ⟨if_neg hx, if_neg hx, if_neg hx⟩
  have hC1 : cR E D (jx_new w 4 0 8 jx_d3) G lo hi := hC.up hlt (Nat.le_succ _) (fun x hx => hk1 x (by omega))
  refine jx_dup d_T_task_44 rfl ?_
  refine jx_aload_n d_T_task_45 rfl rfl ?_
  refine cx_ptr (c2 := 2) (x2 := 2) d_T_task_46 (f_T_16 hB) hC1 (by decide) (by decide) rfl ?_
  refine cx_size 1 2 34 rfl hB d_T_task_49 (v_T_41 hB) hC1 (by decide) rfl (Nat.le_of_ble_eq_true rfl) ?_
  refine jx_iload_n d_T_task_52 rfl rfl ?_
  refine jx_iload_n d_T_task_53 rfl rfl ?_
  refine jx_iload_n d_T_task_54 rfl rfl ?_
  refine jx_iload d_T_task_55 rfl ?_
  refine jx_callI_r (As := [.int (iI (D 34 0)), .int (iI a), .int (iI b), .int (iI c), .int (iI z)]) (v := none) d_T_task_57 (m_K_init hB) (i_T_100 hB) rfl rfl rfl (Nat.le_of_ble_eq_true rfl) (Nat.le_of_ble_eq_true rfl) (w_K_init hB (if_pos rfl) hrm) ?_
  obtain ⟨w2, hw2⟩ : ∃ zz, zz = jx_put (jx_put (jx_put (jx_put (jx_put (jx_put (jx_put (jx_put (jx_new w 4 0 8 jx_d3) (jx_n w) 5 (.int (iI (0)))) (jx_n w) 6 (.int (iI ((-1))))) (jx_n w) 7 (.int (iI ((-1))))) (jx_n w) 0 (.int (iI (D 34 0)))) (jx_n w) 1 (.int (iI (a)))) (jx_n w) 2 (.int (iI (b)))) (jx_n w) 3 (.int (iI (c)))) (jx_n w) 4 (.int (iI (z))) := ⟨_, rfl⟩
  rw [← hw2]
  have n2 : jx_n w2 = jx_n w + 1 := by rw [hw2]; rfl
  have c2 : jx_c w ≤ jx_c w2 + 1 := by (have e : jx_c w2 = jx_c w - 1 := by rw [hw2]; rfl); omega
  have s2 : jx_s w ≤ jx_s w2 + 14 := by (have e : jx_s w2 = jx_s w - 8 := by rw [hw2]; rfl); omega
  have hk2 : ∀ x, x ≠ jx_n w → jx_k w2 x = jx_k w x ∧ jx_l w2 x = jx_l w x ∧ jx_v w2 x = jx_v w x := fun x hx => by
    refine ⟨by rw [hw2]; exact if_neg hx, by rw [hw2]; exact if_neg hx, ?_⟩
    funext y
    rw [hw2]
    simp only [put_v, new_v, hx, false_and, if_false]
  have kb : jx_k w2 (jx_n w) = 4 := by rw [hw2]; exact if_pos rfl
  have hvb : ∀ f, cFl 1 f → jx_v w2 (jx_n w) (f - 20 * 1) = .int (iI (pvK (D 34 0) a b c z f)) := fun f hf => by
    have hf2 : f = 20 ∨ f = 21 ∨ f = 22 ∨ f = 23 ∨ f = 24 ∨ f = 25 ∨ f = 26 ∨ f = 27 := by rcases hf with y | y <;> omega
    rw [hw2]
    rcases hf2 with rfl | rfl | rfl | rfl | rfl | rfl | rfl | rfl <;> simp only [put_v, new_v, true_and] <;> rfl
  have hC2 : cR E D w2 G lo hi := hC.up hlt (by omega) (fun x hx => hk2 x (by omega))
  refine jx_astore d_T_task_60 (Nat.le_of_ble_eq_true rfl) rfl ?_
  try dsimp only [List.set]
  refine jx_aload_n d_T_task_62 rfl rfl ?_
  refine cx_ptr (c2 := 2) (x2 := 2) d_T_task_63 (f_T_16 hB) hC2 (by decide) (by decide) rfl ?_
  refine jx_aload d_T_task_66 rfl ?_
  refine jx_callV (As := [.ref (jx_n w)]) d_T_task_68 (m_A_add hB) (v_T_54 hB) (by decide) (jx_c6 hB) (by rw [hC2.kd (.inr (.inr (.inl ⟨rfl, by decide⟩)))]; rfl) rfl (Nat.le_of_ble_eq_true rfl) (Nat.le_of_ble_eq_true rfl) (w_addB (j := 1) (pv := pvK (D 34 0) a b c z) hB hB2 hC (.inr rfl) hlt (show D 34 0 ≤ 50 by omega) hrm n2 c2 s2 (by omega) hk2 kb hvb (jx_c3 hB) (y_c3 hB)) (fun v w3 hh => ?_) (fun x ad w3 hh => by obtain ⟨e9, -⟩ := hh; cases e9)
  obtain ⟨e9, hC3, hF3, hv3, hk3⟩ := hh
  cases e9
  refine jx_pop d_T_task_71 rfl ?_
  refine jx_aload d_T_task_72 rfl ?_
  refine jx_getv (v := .int (iI (D 34 0))) d_T_task_74 (f_T_101 hB) hk3 hv3 ?_
  have hO : oTask S a b c z = (S 1 0, sU (sU (sU (sU (sU (sU (sU (sU (sU (sU S 3 0 0) 13 (S 1 0) 0) 14 (S 1 0) a) 15 (S 1 0) b) 16 (S 1 0) c) 17 (S 1 0) z) 18 (S 1 0) 0) 19 (S 1 0) (-1)) 20 (S 1 0) (-1)) 1 0 (S 1 0 + 1)) := by unfold oTask; rw [if_pos (by omega), if_neg (by omega)]
  refine jx_iret d_T_task_77 rfl ?_
  rw [hO]
  exact ⟨⟨_, _, hC3, keep_task2 hR (by omega) (by omega) (by omega) (by omega) (by omega), hF.tr hF3 (by omega), growG_o (.inr rfl) (.inr (.inr (.inl ⟨rfl, by decide⟩)))⟩, .inl ⟨rfl, by rw [show D 34 0 = S 1 0 by omega]⟩⟩
