/-! 82.cfree: setting all free; a task for the best row -/
/-- what a method of the class comes to, its state told by P -/
def cpp (E : jx_E) (G : Nat → Nat → Nat) (lo hi : Nat) (w : jx_W) (a : Nat) (v : Option Value) (P : mS → Prop) : jx_R → jx_W → Prop := fun r w' => r = .inr v ∧ ∃ D2, cR E D2 w' G lo hi ∧ cF lo hi a w w' ∧ P D2
section JCP
variable {E : jx_E} {l : Launch} {Y Z : jx_Y} {d n a : Nat} {Q : jx_R → jx_W → Prop} {pc : Nat} {L : List (Option Value)} {rest : List Value} {w : jx_W} {z : MethodName} {As : List Value} {P : mS → Prop} {G : Nat → Nat → Nat} {lo hi : Nat}
theorem jc_callP {idx b ci : Nat} {q : vw_C} {v : Option Value} (hd : decode Y.2.2.1 pc = .ok (.invokevirtual idx, 3)) (hM : jx_M E z Z n) (hV : jx_V E Y.1 idx z q.1) (hci : ci < 99) (hq0 : E.2.2[ci]? = some q) (hk : jx_k w b = ci + 1) (hn : As.length = n) (hlen : (jx_fl (.ref b :: As)).length ≤ Z.2.2.2.1) (hW : (rest.map fun v => v.category).sum ≤ 24)
    (hz : jx_G E l Z d (cpp E G lo hi w a v P) 0 (jx_ent (.ref b :: As) Z.2.2.2.1) [] w) (kr : ∀ w' D2, cR E D2 w' G lo hi → cF lo hi a w w' → P D2 → jx_G E l Y (d + 1) Q (pc + 3) L (v.toList ++ rest) w') : jx_G E l Y (d + 1) Q pc L (As.reverse ++ .ref b :: rest) w :=
  jx_callV hd hM hV hci hq0 hk hn hlen hW hz (fun v' w' h => by obtain ⟨h1, D2, h2, h3, h4⟩ := h; cases h1; exact kr w' D2 h2 h3 h4) (fun x a w' h => by obtain ⟨h1, -⟩ := h; cases h1)
end JCP
theorem fo_ne {S : mS} {n : Int} {g : Nat} (h1 : g ≠ 13) (h2 : g ≠ 19) (h3 : g ≠ 20) : sFor gFo S n g = S g :=
  sFor_ind (P := fun (T : mS) => T g = S g) rfl (fun T t _ h => (gFo_ne h1 h2 h3).trans h)
theorem l_T_freeOpen {E : jx_E} {l : Launch} {d : Nat} {w0 : jx_W} {S : mS} {G : Nat → Nat → Nat} {lo hi : Nat}  (hB : jx_B E)  : ∀ (j : Nat) (t : Int) (D : mS) (w : jx_W), cR E D w G lo hi → rl (sFor gFo S t) D → cF lo hi 0 w0 w → 0 ≤ t ∧ t ≤ S 1 0 → S 1 0 - t < j → jx_G E l Y_T_freeOpenTasks (d + 4) (cpp E G lo hi w0 0 none (fun D2 => rl (sFor gFo S (S 1 0)) D2)) 2 [some (.ref (G 2 0)), some (.int (iI (t)))] [] w := by
  intro j
  induction j with
  | zero => intro t D w hC hR hF ht hz; exfalso; omega
  | succ j ih =>
    intro t D w hC hR hF ht hz
    obtain ⟨T, hT⟩ : ∃ zz, zz = sFor gFo S t := ⟨_, rfl⟩
    rw [← hT] at hR
    have hN := hR.N
    have t1 : T 1 0 = S 1 0 := by rw [hT, fo_ne (by decide) (by decide) (by decide)]
    refine jx_iload_n d_T_freeOpenTasks_2 rfl rfl ?_
    refine jx_aload_n d_T_freeOpenTasks_3 rfl rfl ?_
    refine cx_ptr (c2 := 2) (x2 := 2) d_T_freeOpenTasks_4 (f_T_16 hB) hC (by decide) (by decide) rfl ?_
    refine cx_size 1 2 34 rfl hB d_T_freeOpenTasks_7 (v_T_41 hB) hC (by decide) rfl (Nat.le_of_ble_eq_true rfl) ?_
    refine jI_icmp_ge (tgt := 50) d_T_freeOpenTasks_10 (by decide) (by omega) (by omega) (fun hc1 => ?_) (fun hc1 => ?_)
    · exact jx_vret d_T_freeOpenTasks_50 rfl ⟨rfl, _, hC, hF, by (have e : t = S 1 0 := by omega); rw [← e, ← hT]; exact hR⟩
    · refine jx_aload_n d_T_freeOpenTasks_13 rfl rfl ?_
      refine cx_ptr (c2 := 2) (x2 := 2) d_T_freeOpenTasks_14 (f_T_16 hB) hC (by decide) (by decide) rfl ?_
      refine jx_iload_n d_T_freeOpenTasks_17 rfl rfl ?_
      refine cx_at1 hB d_T_freeOpenTasks_18 (v_T_166 hB) hC (by omega) (Nat.le_of_ble_eq_true rfl) ?_
      refine jx_cast d_T_freeOpenTasks_21 (h_T_98 hB) (h_cast3 hB) (by decide) (jx_c3 hB) (by rw [hC.kd (.inr (.inl ⟨rfl, by omega⟩))]; rfl) ?_
      refine cx_K 5 (f := 25) rfl d_T_freeOpenTasks_24 (f_T_170 hB) hC (by decide) (by omega) ?_
      have a2 : D 25 t = T 13 t := (hR.K (t := t) (by omega)).1.2.2.2.2.2.1
      have a3 : 0 ≤ D 25 t ∧ D 25 t ≤ 2 := (hR.Kr (t := t) (by omega)).2.2.2.2.2.1
      refine jI_if_ne (tgt := 44) d_T_freeOpenTasks_27 (by decide) (by omega) (fun hc4 => ?_) (fun hc4 => ?_)
      · refine jI_inc d_T_freeOpenTasks_44 rfl rfl ?_
        try dsimp only [List.set]
        refine jx_goto (tgt := 2) d_T_freeOpenTasks_47 (by decide) ?_
        exact ih (t + 1) _ _ hC (by rw [sFor_s _ _ (by omega), ← hT]; unfold gFo; rw [if_neg (by omega)]; exact hR) hF (by omega) (by omega)
      · refine jx_aload_n d_T_freeOpenTasks_30 rfl rfl ?_
        refine cx_ptr (c2 := 2) (x2 := 2) d_T_freeOpenTasks_31 (f_T_16 hB) hC (by decide) (by decide) rfl ?_
        refine jx_iload_n d_T_freeOpenTasks_34 rfl rfl ?_
        refine cx_at1 hB d_T_freeOpenTasks_35 (v_T_166 hB) hC (by omega) (Nat.le_of_ble_eq_true rfl) ?_
        refine jx_cast d_T_freeOpenTasks_38 (h_T_98 hB) (h_cast3 hB) (by decide) (jx_c3 hB) (by rw [hC.kd (.inr (.inl ⟨rfl, by omega⟩))]; rfl) ?_
        refine jc_callV (As := []) (v := none) d_T_freeOpenTasks_41 (m_K_free hB) (v_T_130 hB) (by decide) (jx_c3 hB) (by rw [hC.kd (.inr (.inl ⟨rfl, by omega⟩))]; rfl) rfl (Nat.le_of_ble_eq_true rfl) (Nat.le_of_ble_eq_true rfl) (w_K_free hB hC (t := t) (by omega)) (fun w hC hF1 => ?_)
        have hF := hF.tr hF1 (Nat.le_refl _)
        obtain ⟨D5, hD5⟩ : ∃ zz, zz = sU (sU (sU D 25 t 0) 26 t (-1)) 27 t (-1) := ⟨_, rfl⟩
        rw [← hD5] at hC
        have e6 : D5 33 0 = D 33 0 := by rw [hD5]; rfl
        have e7 : D5 34 0 = D 34 0 := by rw [hD5]; rfl
        have e8 : D5 35 0 = D 35 0 := by rw [hD5]; rfl
        have e9 : D5 36 0 = D 36 0 := by rw [hD5]; rfl
        refine jI_inc d_T_freeOpenTasks_44 rfl rfl ?_
        try dsimp only [List.set]
        refine jx_goto (tgt := 2) d_T_freeOpenTasks_47 (by decide) ?_
        exact ih (t + 1) _ _ hC (by rw [hD5]; rw [sFor_s _ _ (by omega), ← hT]; unfold gFo; rw [if_pos (by omega)]; exact keep_free hR (by omega) (fun q hq hz => by (have hz2 : T 11 q ≠ -1 := by omega); (have hh := (hR.P (p := q) (by omega)).2.2.2.2.1 hz2); rw [hz] at hh; omega)) hF (by omega) (by omega)
theorem w_T_freeOpenTasks {E : jx_E} {l : Launch} {d : Nat} {w : jx_W} {D S : mS} {G : Nat → Nat → Nat} {lo hi : Nat} (hB : jx_B E) (hC : cR E D w G lo hi) (hR : rl S D) : jx_G E l Y_T_freeOpenTasks (d + 4) (cpp E G lo hi w 0 none (fun D2 => rl (sFor gFo S (S 1 0)) D2)) 0 (jx_ent [.ref (G 2 0)] 2) [] w := by
  show jx_G E l Y_T_freeOpenTasks (d + 4) _ 0 [some (.ref (G 2 0)), none] [] w
  have hN := hR.N
  refine jI_const d_T_freeOpenTasks_0 ?_
  refine jx_istore_n d_T_freeOpenTasks_1 rfl (Nat.le_of_ble_eq_true rfl) rfl ?_
  try dsimp only [List.set]
  exact l_T_freeOpen hB 17 0 _ _ hC (by rw [sFor_0]; exact hR) cF.rf (by omega) (by omega)
theorem one_step {T : mS} {t q x y : Int} (hq : 0 ≤ q) (hx : x = (aFor (gOne T t) (-1, -1) q).1) (hy : y = (aFor (gOne T t) (-1, -1) q).2) : ((sMay T q t = 1 ∧ sBehind T q t ≠ -1 ∧ (x = -1 ∨ sBehind T q t < y ∨ sBehind T q t = y ∧ sLoad T q < sLoad T x)) → q = (aFor (gOne T t) (-1, -1) (q + 1)).1 ∧ sBehind T q t = (aFor (gOne T t) (-1, -1) (q + 1)).2) ∧ (¬ (sMay T q t = 1 ∧ sBehind T q t ≠ -1 ∧ (x = -1 ∨ sBehind T q t < y ∨ sBehind T q t = y ∧ sLoad T q < sLoad T x)) → x = (aFor (gOne T t) (-1, -1) (q + 1)).1 ∧ y = (aFor (gOne T t) (-1, -1) (q + 1)).2) := by
  rw [aFor_s _ _ hq]
  generalize aFor (gOne T t) (-1, -1) q = f at hx hy
  subst hx hy
  unfold gOne
  constructor
  · intro h
    rw [if_pos h]
    exact ⟨rfl, rfl⟩
  · intro h
    rw [if_neg h]
    exact ⟨rfl, rfl⟩
theorem l_T_addToBest {E : jx_E} {l : Launch} {d : Nat} {w : jx_W} {D T : mS} {G : Nat → Nat → Nat} {lo hi : Nat} {t : Int} (hB : jx_B E) (hC : cR E D w G lo hi) (hR : rl T D) (hw : rwR T D) (ht : 0 ≤ t ∧ t < T 1 0) (h13 : T 13 t = 0) (h19 : T 19 t = -1) (h20 : T 20 t = -1) : ∀ (j : Nat) (x y z q : Int) (X Z : Option Value), x = (aFor (gOne T t) (-1, -1) q).1 → y = (aFor (gOne T t) (-1, -1) q).2 → (x ≠ -1 → (0 ≤ x ∧ x < T 0 0) ∧ z = D 13 x) → iR z → 0 ≤ q ∧ q ≤ T 0 0 → T 0 0 - q < j → jx_G E l Y_T_addToBestRow (d + 4) (cpp E G lo hi w 0 none (fun D2 => rl (oOne T t) D2 ∧ rwR (oOne T t) D2 ∧ D2 35 = D 35 ∧ D2 37 = D 37)) 10 [some (.ref (G 2 0)), some (.ref (G 1 (t).toNat)), some (.int (iI (x))), some (.int (iI (y))), some (.int (iI (z))), some (.int (iI (q))), X, Z] [] w := by
  have hN := hR.N
  have hF : cF lo hi 0 w w := cF.rf
  intro j
  induction j with
  | zero => intro x y z q X Z hx hy hz hzr hq hj; exfalso; omega
  | succ j ih =>
    intro x y z q X Z hx hy hz hzr hq hj
    have hrg := gOne_rg (S := T) (t := t) (n := q) hR.I hN.2.2.1 (by omega) hN.2.2.2.1 (by omega)
    rw [← hx, ← hy] at hrg
    refine jx_iload d_T_addToBestRow_10 rfl ?_
    refine jx_aload_n d_T_addToBestRow_12 rfl rfl ?_
    refine cx_ptr (c2 := 2) (x2 := 1) d_T_addToBestRow_13 (f_T_10 hB) hC (by decide) (by decide) rfl ?_
    refine cx_size 0 1 33 rfl hB d_T_addToBestRow_16 (v_T_41 hB) hC (by decide) rfl (Nat.le_of_ble_eq_true rfl) ?_
    refine jI_icmp_ge (tgt := 126) d_T_addToBestRow_19 (by decide) (by omega) (by omega) (fun hc1 => ?_) (fun hc1 => ?_)
    · have eq : q = T 0 0 := by omega
      have e1 : x = (sOne T t).1 := by rw [hx, eq]; rfl
      have e2 : y = (sOne T t).2 := by rw [hy, eq]; rfl
      refine jx_iload_n d_T_addToBestRow_126 rfl rfl ?_
      refine jI_const d_T_addToBestRow_127 ?_
      refine jI_icmp_eq (tgt := 152) d_T_addToBestRow_128 (by decide) (by omega) (by omega) (fun hc2 => ?_) (fun hc2 => ?_)
      · exact jx_vret d_T_addToBestRow_152 rfl ⟨rfl, D, hC, hF, by (have hs := one_spec T t (by omega)); rw [row_none (by omega) h19 h20]; exact ⟨hR, hw, rfl, rfl⟩⟩
      · refine jx_aload_n d_T_addToBestRow_131 rfl rfl ?_
        refine jx_iload_n d_T_addToBestRow_132 rfl rfl ?_
        refine jx_iload_n d_T_addToBestRow_133 rfl rfl ?_
        refine jc_callV (As := [.int (iI (x)), .int (iI (y))]) (v := none) d_T_addToBestRow_134 (m_K_planFor hB) (v_T_283 hB) (by decide) (jx_c3 hB) (by rw [hC.kd (.inr (.inl ⟨rfl, by omega⟩))]; rfl) rfl (Nat.le_of_ble_eq_true rfl) (Nat.le_of_ble_eq_true rfl) (w_K_planFor hB hC (t := t) (q := x) (s := y) (by omega)) (fun w hC hF1 => ?_)
        have hF := hF.tr hF1 (Nat.le_refl _)
        obtain ⟨D3, hD3⟩ : ∃ zz, zz = sU (sU D 26 t x) 27 t y := ⟨_, rfl⟩
        rw [← hD3] at hC
        have e4 : D3 33 0 = D 33 0 := by rw [hD3]; rfl
        have e5 : D3 34 0 = D 34 0 := by rw [hD3]; rfl
        have e6 : D3 35 0 = D 35 0 := by rw [hD3]; rfl
        have e7 : D3 36 0 = D 36 0 := by rw [hD3]; rfl
        refine jx_aload_n d_T_addToBestRow_137 rfl rfl ?_
        refine cx_ptr (c2 := 2) (x2 := 1) d_T_addToBestRow_138 (f_T_10 hB) hC (by decide) (by decide) rfl ?_
        refine jx_iload_n d_T_addToBestRow_141 rfl rfl ?_
        refine cx_at0 hB d_T_addToBestRow_142 (v_T_166 hB) hC (by omega) (Nat.le_of_ble_eq_true rfl) ?_
        refine jx_cast d_T_addToBestRow_145 (h_T_49 hB) (h_cast2 hB) (by decide) (jx_c2 hB) (by rw [hC.kd (.inl ⟨rfl, by omega⟩)]; rfl) ?_
        refine jx_aload_n d_T_addToBestRow_148 rfl rfl ?_
        refine jc_callV (As := [.ref (G 1 (t).toNat)]) (v := none) d_T_addToBestRow_149 (m_P_addToRow hB) (v_T_286 hB) (by decide) (jx_c2 hB) (by rw [hC.kd (.inl ⟨rfl, by omega⟩)]; rfl) rfl (Nat.le_of_ble_eq_true rfl) (Nat.le_of_ble_eq_true rfl) (w_P_addToRow hB hC (p := x) (t := t) (by omega) (by omega)) (fun w hC hF1 => ?_)
        have hF := hF.tr hF1 (Nat.le_refl _)
        obtain ⟨D8, hD8⟩ : ∃ zz, zz = sU (sU (sU D3 11 x (D3 27 t + D3 22 t)) 12 x (D3 24 t)) 13 x (D3 13 x + 1) := ⟨_, rfl⟩
        rw [← hD8] at hC
        have e9 : D8 33 0 = D3 33 0 := by rw [hD8]; rfl
        have e10 : D8 34 0 = D3 34 0 := by rw [hD8]; rfl
        have e11 : D8 35 0 = D3 35 0 := by rw [hD8]; rfl
        have e12 : D8 36 0 = D3 36 0 := by rw [hD8]; rfl
        exact jx_vret d_T_addToBestRow_152 rfl ⟨rfl, _, hC, hF, by (have hs := rw_step hR hw ht h13 h19 (by omega)); rw [← e1, ← e2] at hs; (have f1 : sU (sU D 26 t x) 27 t y 27 t = y := sU_same); (have f2 : sU (sU D 26 t x) 27 t y 22 t = D 22 t := rfl); (have f3 : sU (sU D 26 t x) 27 t y 24 t = D 24 t := rfl); (have f4 : sU (sU D 26 t x) 27 t y 13 x = D 13 x := rfl); rw [hD8, hD3, f1, f2, f3, f4]; exact ⟨hs.1, hs.2, rfl, rfl⟩⟩
    · obtain ⟨w1, w2, w3, w4, w5⟩ := hw q (by omega)
      have wl := sLoad_rg (S := T) (p := q) (by omega)
      have wx : x ≠ -1 → D 13 x = sLoad T x := fun h => (hw x (hz h).1).1
      refine jx_aload_n d_T_addToBestRow_22 rfl rfl ?_
      refine cx_ptr (c2 := 2) (x2 := 1) d_T_addToBestRow_23 (f_T_10 hB) hC (by decide) (by decide) rfl ?_
      refine jx_iload d_T_addToBestRow_26 rfl ?_
      refine cx_at0 hB d_T_addToBestRow_28 (v_T_166 hB) hC (by omega) (Nat.le_of_ble_eq_true rfl) ?_
      refine jx_cast d_T_addToBestRow_31 (h_T_49 hB) (h_cast2 hB) (by decide) (jx_c2 hB) (by rw [hC.kd (.inl ⟨rfl, by omega⟩)]; rfl) ?_
      refine jx_astore d_T_addToBestRow_34 (Nat.le_of_ble_eq_true rfl) rfl ?_
      try dsimp only [List.set]
      refine jx_aload d_T_addToBestRow_36 rfl ?_
      refine jx_aload_n d_T_addToBestRow_38 rfl rfl ?_
      refine jx_callV_r (As := [.ref (G 1 (t).toNat)]) (v := some (.int (iI (sMay T q t)))) d_T_addToBestRow_39 (m_P_may hB) (v_T_254 hB) (by decide) (jx_c2 hB) (by rw [hC.kd (.inl ⟨rfl, by omega⟩)]; rfl) rfl (Nat.le_of_ble_eq_true rfl) (Nat.le_of_ble_eq_true rfl) (w_P_may hB hC hR (p := q) (t := t) (by omega) (by omega)) ?_
      have q13 := sMay_01 T q t
      have q14 := may_here hR (p := q) (t := t) (by omega)
      refine jI_if_eq (tgt := 68) d_T_addToBestRow_42 (by decide) (by omega) (fun hc15 => ?_) (fun hc15 => ?_)
      · refine jI_const d_T_addToBestRow_68 ?_
        refine jx_istore d_T_addToBestRow_69 (Nat.le_of_ble_eq_true rfl) rfl ?_
        try dsimp only [List.set]
        refine jx_iload d_T_addToBestRow_71 rfl ?_
        refine jI_const d_T_addToBestRow_73 ?_
        refine jI_icmp_ne (tgt := 80) d_T_addToBestRow_74 (by decide) (by omega) (by omega) (fun z => absurd z (by omega)) (fun _ => ?_)
        refine jx_goto (tgt := 120) d_T_addToBestRow_77 (by decide) ?_
        refine jI_inc d_T_addToBestRow_120 rfl rfl ?_
        try dsimp only [List.set]
        refine jx_goto (tgt := 10) d_T_addToBestRow_123 (by decide) ?_
        exact ih (x) (y) (z) (q + 1) _ _ ((one_step (by omega) hx hy).2 (by omega)).1 ((one_step (by omega) hx hy).2 (by omega)).2 hz (by omega) (by omega) (by omega)
      · have w3b := w3 (by have hh := (hR.P (p := q) (by omega)).1.2.2.2.2.2.1; omega)
        have eb : sStart T q t (D 11 q) (D 12 q) = sBehind T q t := by rw [behind_row, w3b, w2]
        refine jx_aload d_T_addToBestRow_45 rfl ?_
        refine jx_aload_n d_T_addToBestRow_47 rfl rfl ?_
        refine jx_aload d_T_addToBestRow_48 rfl ?_
        refine cx_P 11 d_T_addToBestRow_50 (f_T_265 hB) hC (by decide) (by omega) ?_
        refine jx_aload d_T_addToBestRow_53 rfl ?_
        refine cx_P 12 d_T_addToBestRow_55 (f_T_268 hB) hC (by decide) (by omega) ?_
        refine jx_aload_n d_T_addToBestRow_58 rfl rfl ?_
        refine cx_ptr (c2 := 2) (x2 := 4) d_T_addToBestRow_59 (f_T_25 hB) hC (by decide) (by decide) rfl ?_
        refine jx_callV_r (As := [.ref (G 1 (t).toNat), .int (iI (D 11 q)), .int (iI (D 12 q)), .ref (G 2 4)]) (v := some (.int (iI (sStart T q t (D 11 q) (D 12 q))))) d_T_addToBestRow_62 (m_P_startOf hB) (v_T_250 hB) (by decide) (jx_c2 hB) (by rw [hC.kd (.inl ⟨rfl, by omega⟩)]; rfl) rfl (Nat.le_of_ble_eq_true rfl) (Nat.le_of_ble_eq_true rfl) (w_P_startOf hB hC hR (p := q) (t := t) (r := D 11 q) (z := D 12 q) (by omega) (by omega) (by omega) (by omega)) ?_
        have q17 := sStart_rg (S := T) (p := q) (t := t) (r := D 11 q) (z := D 12 q) hR.I (by omega) (by omega) (by omega) (by omega)
        refine jx_goto (tgt := 69) d_T_addToBestRow_65 (by decide) ?_
        refine jx_istore d_T_addToBestRow_69 (Nat.le_of_ble_eq_true rfl) rfl ?_
        try dsimp only [List.set]
        refine jx_iload d_T_addToBestRow_71 rfl ?_
        refine jI_const d_T_addToBestRow_73 ?_
        refine jI_icmp_ne (tgt := 80) d_T_addToBestRow_74 (by decide) (by omega) (by omega) (fun hc18 => ?_) (fun hc18 => ?_)
        · refine jx_iload_n d_T_addToBestRow_80 rfl rfl ?_
          refine jI_const d_T_addToBestRow_81 ?_
          refine jI_icmp_eq (tgt := 107) d_T_addToBestRow_82 (by decide) (by omega) (by omega) (fun hc19 => ?_) (fun hc19 => ?_)
          · refine jx_iload d_T_addToBestRow_107 rfl ?_
            refine jx_istore_n d_T_addToBestRow_109 rfl (Nat.le_of_ble_eq_true rfl) rfl ?_
            try dsimp only [List.set]
            refine jx_iload d_T_addToBestRow_110 rfl ?_
            refine jx_istore_n d_T_addToBestRow_112 rfl (Nat.le_of_ble_eq_true rfl) rfl ?_
            try dsimp only [List.set]
            refine jx_aload d_T_addToBestRow_113 rfl ?_
            refine cx_P 13 d_T_addToBestRow_115 (f_T_271 hB) hC (by decide) (by omega) ?_
            refine jx_istore d_T_addToBestRow_118 (Nat.le_of_ble_eq_true rfl) rfl ?_
            try dsimp only [List.set]
            refine jI_inc d_T_addToBestRow_120 rfl rfl ?_
            try dsimp only [List.set]
            refine jx_goto (tgt := 10) d_T_addToBestRow_123 (by decide) ?_
            exact ih (q) (sStart T q t (D 11 q) (D 12 q)) (D 13 q) (q + 1) _ _ ((one_step (by omega) hx hy).1 ⟨by omega, by omega, by omega⟩).1 (by (have hh := ((one_step (by omega) hx hy).1 ⟨by omega, by omega, by omega⟩).2); omega) (fun _ => ⟨by omega, rfl⟩) (by omega) (by omega) (by omega)
          · refine jx_iload d_T_addToBestRow_85 rfl ?_
            refine jx_iload_n d_T_addToBestRow_87 rfl rfl ?_
            refine jI_icmp_lt (tgt := 107) d_T_addToBestRow_88 (by decide) (by omega) (by omega) (fun hc20 => ?_) (fun hc20 => ?_)
            · refine jx_iload d_T_addToBestRow_107 rfl ?_
              refine jx_istore_n d_T_addToBestRow_109 rfl (Nat.le_of_ble_eq_true rfl) rfl ?_
              try dsimp only [List.set]
              refine jx_iload d_T_addToBestRow_110 rfl ?_
              refine jx_istore_n d_T_addToBestRow_112 rfl (Nat.le_of_ble_eq_true rfl) rfl ?_
              try dsimp only [List.set]
              refine jx_aload d_T_addToBestRow_113 rfl ?_
              refine cx_P 13 d_T_addToBestRow_115 (f_T_271 hB) hC (by decide) (by omega) ?_
              refine jx_istore d_T_addToBestRow_118 (Nat.le_of_ble_eq_true rfl) rfl ?_
              try dsimp only [List.set]
              refine jI_inc d_T_addToBestRow_120 rfl rfl ?_
              try dsimp only [List.set]
              refine jx_goto (tgt := 10) d_T_addToBestRow_123 (by decide) ?_
              exact ih (q) (sStart T q t (D 11 q) (D 12 q)) (D 13 q) (q + 1) _ _ ((one_step (by omega) hx hy).1 ⟨by omega, by omega, by omega⟩).1 (by (have hh := ((one_step (by omega) hx hy).1 ⟨by omega, by omega, by omega⟩).2); omega) (fun _ => ⟨by omega, rfl⟩) (by omega) (by omega) (by omega)
            · refine jx_iload d_T_addToBestRow_91 rfl ?_
              refine jx_iload_n d_T_addToBestRow_93 rfl rfl ?_
              refine jI_icmp_ne (tgt := 120) d_T_addToBestRow_94 (by decide) (by omega) (by omega) (fun hc21 => ?_) (fun hc21 => ?_)
              · refine jI_inc d_T_addToBestRow_120 rfl rfl ?_
                try dsimp only [List.set]
                refine jx_goto (tgt := 10) d_T_addToBestRow_123 (by decide) ?_
                exact ih (x) (y) (z) (q + 1) _ _ ((one_step (by omega) hx hy).2 (by omega)).1 ((one_step (by omega) hx hy).2 (by omega)).2 hz (by omega) (by omega) (by omega)
              · refine jx_aload d_T_addToBestRow_97 rfl ?_
                refine cx_P 13 d_T_addToBestRow_99 (f_T_271 hB) hC (by decide) (by omega) ?_
                refine jx_iload d_T_addToBestRow_102 rfl ?_
                refine jI_icmp_ge (tgt := 120) d_T_addToBestRow_104 (by decide) (by omega) (by omega) (fun hc22 => ?_) (fun hc22 => ?_)
                · refine jI_inc d_T_addToBestRow_120 rfl rfl ?_
                  try dsimp only [List.set]
                  refine jx_goto (tgt := 10) d_T_addToBestRow_123 (by decide) ?_
                  exact ih (x) (y) (z) (q + 1) _ _ ((one_step (by omega) hx hy).2 (by omega)).1 ((one_step (by omega) hx hy).2 (by omega)).2 hz (by omega) (by omega) (by omega)
                · refine jx_iload d_T_addToBestRow_107 rfl ?_
                  refine jx_istore_n d_T_addToBestRow_109 rfl (Nat.le_of_ble_eq_true rfl) rfl ?_
                  try dsimp only [List.set]
                  refine jx_iload d_T_addToBestRow_110 rfl ?_
                  refine jx_istore_n d_T_addToBestRow_112 rfl (Nat.le_of_ble_eq_true rfl) rfl ?_
                  try dsimp only [List.set]
                  refine jx_aload d_T_addToBestRow_113 rfl ?_
                  refine cx_P 13 d_T_addToBestRow_115 (f_T_271 hB) hC (by decide) (by omega) ?_
                  refine jx_istore d_T_addToBestRow_118 (Nat.le_of_ble_eq_true rfl) rfl ?_
                  try dsimp only [List.set]
                  refine jI_inc d_T_addToBestRow_120 rfl rfl ?_
                  try dsimp only [List.set]
                  refine jx_goto (tgt := 10) d_T_addToBestRow_123 (by decide) ?_
                  exact ih (q) (sStart T q t (D 11 q) (D 12 q)) (D 13 q) (q + 1) _ _ ((one_step (by omega) hx hy).1 ⟨by omega, by omega, by omega⟩).1 (by (have hh := ((one_step (by omega) hx hy).1 ⟨by omega, by omega, by omega⟩).2); omega) (fun _ => ⟨by omega, rfl⟩) (by omega) (by omega) (by omega)
        · refine jx_goto (tgt := 120) d_T_addToBestRow_77 (by decide) ?_
          refine jI_inc d_T_addToBestRow_120 rfl rfl ?_
          try dsimp only [List.set]
          refine jx_goto (tgt := 10) d_T_addToBestRow_123 (by decide) ?_
          exact ih (x) (y) (z) (q + 1) _ _ ((one_step (by omega) hx hy).2 (by omega)).1 ((one_step (by omega) hx hy).2 (by omega)).2 hz (by omega) (by omega) (by omega)
theorem w_T_addToBestRow {E : jx_E} {l : Launch} {d : Nat} {w : jx_W} {D T : mS} {G : Nat → Nat → Nat} {lo hi : Nat} {t : Int} (hB : jx_B E) (hC : cR E D w G lo hi) (hR : rl T D) (hw : rwR T D) (ht : 0 ≤ t ∧ t < T 1 0) (h13 : T 13 t = 0) (h19 : T 19 t = -1) (h20 : T 20 t = -1) : jx_G E l Y_T_addToBestRow (d + 4) (cpp E G lo hi w 0 none (fun D2 => rl (oOne T t) D2 ∧ rwR (oOne T t) D2 ∧ D2 35 = D 35 ∧ D2 37 = D 37)) 0 (jx_ent [.ref (G 2 0), .ref (G 1 t.toNat)] 8) [] w := by
  show jx_G E l Y_T_addToBestRow (d + 4) _ 0 [some (.ref (G 2 0)), some (.ref (G 1 t.toNat)), none, none, none, none, none, none] [] w
  have hN := hR.N
  refine jI_const d_T_addToBestRow_0 ?_
  refine jx_istore_n d_T_addToBestRow_1 rfl (Nat.le_of_ble_eq_true rfl) rfl ?_
  try dsimp only [List.set]
  refine jI_const d_T_addToBestRow_2 ?_
  refine jx_istore_n d_T_addToBestRow_3 rfl (Nat.le_of_ble_eq_true rfl) rfl ?_
  try dsimp only [List.set]
  refine jI_const d_T_addToBestRow_4 ?_
  refine jx_istore d_T_addToBestRow_5 (Nat.le_of_ble_eq_true rfl) rfl ?_
  try dsimp only [List.set]
  refine jI_const d_T_addToBestRow_7 ?_
  refine jx_istore d_T_addToBestRow_8 (Nat.le_of_ble_eq_true rfl) rfl ?_
  try dsimp only [List.set]
  exact l_T_addToBest hB hC hR hw ht h13 h19 h20 5 (-1) (-1) 0 0 _ _ rfl rfl (fun h => absurd rfl h) (by omega) (by omega) (by omega)
