/-! 50.exact: the reference's exact plan, its small pieces -/
/-- an answer and what is known of the state behind it -/
def jm_pp (E : jx_E) (m : Nat) (A : Nat → Nat) (w : jx_W) (v : Option Value) (P : mS → Prop) : jx_R → jx_W → Prop := fun r w' => r = .inr v ∧ ∃ T, mR E T w' m A ∧ mF m A w w' ∧ sI T ∧ P T
theorem jm_callP {E : jx_E} {l : Launch} {Y Z : jx_Y} {d n : Nat} {Q : jx_R → jx_W → Prop} {pc : Nat} {L : List (Option Value)} {rest As : List Value} {w : jx_W} {z : MethodName} {idx m : Nat} {A : Nat → Nat} {v : Option Value} {P : mS → Prop} (hd : decode Y.2.2.1 pc = .ok (.invokevirtual idx, 3)) (hM : jx_M E z Z n) (hV : jx_V E Y.1 idx z "TaskShareModel") (hB : jx_B E) (hk : jx_k w m = 6) (hn : As.length = n) (hlen : (jx_fl (.ref m :: As)).length ≤ Z.2.2.2.1) (hW : (rest.map fun v => v.category).sum ≤ 24)
    (hz : jx_G E l Z d (jm_pp E m A w v P) 0 (jx_ent (.ref m :: As) Z.2.2.2.1) [] w) (kr : ∀ w' T, mR E T w' m A → mF m A w w' → sI T → P T → jx_G E l Y (d + 1) Q (pc + 3) L (v.toList ++ rest) w') : jx_G E l Y (d + 1) Q pc L (As.reverse ++ .ref m :: rest) w :=
  jx_callV hd hM hV (by decide) (jx_c5 hB) hk hn hlen hW hz (fun v' w' h => by obtain ⟨h1, T, h2, h3, h4, h5⟩ := h; cases h1; exact kr w' T h2 h3 h4 h5) (fun x a w' h => by obtain ⟨h1, -⟩ := h; cases h1)
def fU (a : Int → Int) (k v : Int) : Int → Int := fun i => if i = k then v else a i
theorem sU_fU (S : mS) (f : Nat) (k v : Int) : sU S f k v f = fU (S f) k v := by
  funext i
  unfold sU fU
  by_cases h : i = k
  · rw [if_pos ⟨rfl, h⟩, if_pos h]
  · rw [if_neg (fun z => h z.2), if_neg h]
theorem sU_ne {S : mS} {f g : Nat} {k v : Int} (h : g ≠ f) : sU S f k v g = S g := by
  funext i
  exact sU_f h
theorem sStart_q {S T : mS} (h : ∀ g, g < 19 → T g = S g) (p t r z : Int) : sStart T p t r z = sStart S p t r z := by
  unfold sStart
  rw [h 12 (by decide), h 17 (by decide), h 8 (by decide), h 7 (by decide), h 15 (by decide), h 6 (by decide)]
theorem sLate_q {S T : mS} (h : ∀ g, g < 19 → T g = S g) (t s : Int) : sLate T t s = sLate S t s := by
  unfold sLate
  rw [h 15 (by decide), h 16 (by decide)]
theorem sMay_q {S T : mS} (h : ∀ g, g < 19 → T g = S g) (p t : Int) : sMay T p t = sMay S p t := by
  unfold sMay sRef
  rw [h 10 (by decide), h 4 (by decide), h 14 (by decide), h 18 (by decide)]
theorem sReady_q {S T : mS} (h : ∀ g, g < 21 → T g = S g) (p : Int) : sReady T p = sReady S p := by
  unfold sReady
  rw [h 11 (by decide), h 2 (by decide), h 5 (by decide), h 20 (by decide), h 15 (by decide)]
/-- tasks taken up one behind the other: the lateness (-1: it can't be) and the starts -/
def sRun (S : mS) (p : Int) (a : Int → Int) : Nat → Int → Int → Int → Int → (Int → Int) → Int × (Int → Int)
  | 0, _, _, _, late, tr => (late, tr)
  | n + 1, i, r, z, late, tr => if sStart S p (S 22 (a i)) r z = -1 then (-1, tr) else sRun S p a n (i + 1) (sStart S p (S 22 (a i)) r z + S 15 (S 22 (a i))) (S 17 (S 22 (a i))) (late + sLate S (S 22 (a i)) (sStart S p (S 22 (a i)) r z)) (fU tr (a i) (sStart S p (S 22 (a i)) r z))
theorem sRun_q {S T : mS} (h : ∀ g, g < 23 → T g = S g) (p : Int) (a : Int → Int) : ∀ (n : Nat) (i r z late : Int) (tr : Int → Int), sRun T p a n i r z late tr = sRun S p a n i r z late tr := by
  intro n
  induction n with
  | zero => intros; rfl
  | succ n ih =>
    intro i r z late tr
    unfold sRun
    rw [h 22 (by decide), sStart_q (fun g hg => h g (by omega)), h 15 (by decide), h 17 (by decide), sLate_q (fun g hg => h g (by omega)), ih]
theorem l_M_tryOrder {E : jx_E} {l : Launch} {d : Nat} {w0 : jx_W} {m : Nat} {A : Nat → Nat} {p many : Int} (hB : jx_B E) (hp : 0 ≤ p ∧ p < 4) (h5 : many ≤ 5) : ∀ (n : Nat) (i r z late : Int) (X Y : Option Value) (S : mS) (w : jx_W), mR E S w m A → sI S → mF m A w0 w → 0 ≤ i → i + n = many → -1 ≤ r ∧ r ≤ 200000 → 0 ≤ z ∧ z < 4 → 0 ≤ late ∧ late ≤ 105000 * i → jx_G E l Y_M_tryOrder (d + 2) (jm_pp E m A w0 (some (.int (iI (sRun S p (S 26) n i r z late (S 27)).1))) (fun T => (∀ g, g ≠ 27 → T g = S g) ∧ T 27 = (sRun S p (S 26) n i r z late (S 27)).2)) 20 [some (.ref m), some (.int (iI p)), some (.int (iI many)), some (.int (iI r)), some (.int (iI z)), some (.int (iI late)), some (.int (iI i)), X, Y] [] w := by
  intro n
  induction n with
  | zero =>
    intro i r z late X Y S w hM hI hF hi0 hin hr hz hl
    refine jx_iload d_M_tryOrder_20 rfl ?_
    refine jx_iload_n d_M_tryOrder_22 rfl rfl ?_
    refine jI_icmp_ge (tgt := 113) d_M_tryOrder_23 (by decide) (by omega) (by omega) (fun hc1 => ?_) (fun hc1 => ?_)
    · refine jx_iload d_M_tryOrder_113 rfl ?_
      exact jx_iret d_M_tryOrder_115 rfl ⟨rfl, S, hM, hF, hI, fun _ _ => rfl, rfl⟩
    · (exfalso; omega)
  | succ n ih =>
    intro i r z late X Y S w hM hI hF hi0 hin hr hz hl
    unfold sRun
    refine jx_iload d_M_tryOrder_20 rfl ?_
    refine jx_iload_n d_M_tryOrder_22 rfl rfl ?_
    refine jI_icmp_ge (tgt := 113) d_M_tryOrder_23 (by decide) (by omega) (by omega) (fun hc1 => ?_) (fun hc1 => ?_)
    · (exfalso; omega)
    · refine jx_aload_n d_M_tryOrder_26 rfl rfl ?_
      refine mx_ar 22 d_M_tryOrder_27 (f_M_62 hB) hM (by decide) ?_
      refine jx_aload_n d_M_tryOrder_30 rfl rfl ?_
      refine mx_ar 26 d_M_tryOrder_31 (f_M_71 hB) hM (by decide) ?_
      refine jx_iload d_M_tryOrder_34 rfl ?_
      refine mx_ld (n := 5) d_M_tryOrder_36 hM (by decide) rfl ⟨by omega, by omega⟩ ?_
      have r2 : 0 ≤ S 26 i ∧ S 26 i ≤ 4 := hI.r 26 i (n := 5) (by decide) rfl ⟨by omega, by omega⟩
      refine mx_ld (n := 5) d_M_tryOrder_37 hM (by decide) rfl ⟨by omega, by omega⟩ ?_
      have r3 : 0 ≤ S 22 (S 26 i) ∧ S 22 (S 26 i) ≤ 15 := hI.r 22 (S 26 i) (n := 5) (by decide) rfl ⟨by omega, by omega⟩
      refine jx_istore d_M_tryOrder_38 (Nat.le_of_ble_eq_true rfl) rfl ?_
      try dsimp only [List.set]
      refine jx_aload_n d_M_tryOrder_40 rfl rfl ?_
      refine jx_iload_n d_M_tryOrder_41 rfl rfl ?_
      refine jx_iload d_M_tryOrder_42 rfl ?_
      refine jx_iload_n d_M_tryOrder_44 rfl rfl ?_
      refine jx_iload d_M_tryOrder_45 rfl ?_
      refine jx_callV_r (As := [.int (iI (p)), .int (iI (S 22 (S 26 i))), .int (iI (r)), .int (iI (z))]) (v := some (.int (iI (sStart S p (S 22 (S 26 i)) r z)))) d_M_tryOrder_47 (m_M_startOf hB) (v_M_127 hB) (by decide) (jx_c5 hB) hM.1 rfl (Nat.le_of_ble_eq_true rfl) (Nat.le_of_ble_eq_true rfl) (w_M_startOf2 hB hM hI (p := p) (t := S 22 (S 26 i)) (r := r) (z := z) (by omega) (by omega) (by omega) (by omega)) ?_
      have q4 := sStart_rg2 (S := S) (p := p) (t := S 22 (S 26 i)) (r := r) (z := z) hI (by omega) (by omega) (by omega) (by omega)
      refine jx_istore d_M_tryOrder_50 (Nat.le_of_ble_eq_true rfl) rfl ?_
      try dsimp only [List.set]
      refine jx_iload d_M_tryOrder_52 rfl ?_
      refine jI_const d_M_tryOrder_54 ?_
      refine jI_icmp_ne (tgt := 60) d_M_tryOrder_55 (by decide) (by omega) (by omega) (fun hc5 => ?_) (fun hc5 => ?_)
      · refine jx_aload_n d_M_tryOrder_60 rfl rfl ?_
        refine mx_ar 27 d_M_tryOrder_61 (f_M_74 hB) hM (by decide) ?_
        refine jx_aload_n d_M_tryOrder_64 rfl rfl ?_
        refine mx_ar 26 d_M_tryOrder_65 (f_M_71 hB) hM (by decide) ?_
        refine jx_iload d_M_tryOrder_68 rfl ?_
        refine mx_ld (n := 5) d_M_tryOrder_70 hM (by decide) rfl ⟨by omega, by omega⟩ ?_
        have r6 : 0 ≤ S 26 i ∧ S 26 i ≤ 4 := hI.r 26 i (n := 5) (by decide) rfl ⟨by omega, by omega⟩
        refine jx_iload d_M_tryOrder_71 rfl ?_
        refine mx_st (n := 5) d_M_tryOrder_73 hM (by decide) rfl ⟨by omega, by omega⟩ (fun w hM hF1 => ?_)
        have hF := hF.tr hF1
        obtain ⟨S7, hS7⟩ : ∃ zz, zz = sU S 27 (S 26 i) (sStart S p (S 22 (S 26 i)) r z) := ⟨_, rfl⟩
        rw [← hS7] at hM
        have hIS7 : sI S7 := by rw [hS7]; exact hI.u 27 _ _ (fun _ => (show (-1 : Int) ≤ sStart S p (S 22 (S 26 i)) r z ∧ sStart S p (S 22 (S 26 i)) r z ≤ 100000 by constructor <;> omega))
        have e8 : S7 0 0 = S 0 0 := by rw [hS7]; rfl
        have e9 : S7 1 0 = S 1 0 := by rw [hS7]; rfl
        have e10 : S7 2 0 = S 2 0 := by rw [hS7]; rfl
        have e11 : S7 23 0 = S 23 0 := by rw [hS7]; rfl
        refine jx_iload d_M_tryOrder_74 rfl ?_
        refine jx_aload_n d_M_tryOrder_76 rfl rfl ?_
        refine jx_iload d_M_tryOrder_77 rfl ?_
        refine jx_iload d_M_tryOrder_79 rfl ?_
        refine jx_callV_r (As := [.int (iI (S 22 (S 26 i))), .int (iI (sStart S p (S 22 (S 26 i)) r z))]) (v := some (.int (iI (sLate S7 (S 22 (S 26 i)) (sStart S p (S 22 (S 26 i)) r z))))) d_M_tryOrder_81 (m_M_lateBy hB) (v_M_134 hB) (by decide) (jx_c5 hB) hM.1 rfl (Nat.le_of_ble_eq_true rfl) (Nat.le_of_ble_eq_true rfl) (w_M_lateBy hB hM hIS7 (t := S 22 (S 26 i)) (s := sStart S p (S 22 (S 26 i)) r z) (by omega) (by omega)) ?_
        rw [show sLate S7 (S 22 (S 26 i)) (sStart S p (S 22 (S 26 i)) r z) = sLate S (S 22 (S 26 i)) (sStart S p (S 22 (S 26 i)) r z) by rw [hS7]; rfl]
        have q12 := sLate_rg (S := S) (t := S 22 (S 26 i)) (s := sStart S p (S 22 (S 26 i)) r z) hI (by omega) (by omega)
        refine jI_add d_M_tryOrder_84 ?_
        refine jx_istore d_M_tryOrder_85 (Nat.le_of_ble_eq_true rfl) rfl ?_
        try dsimp only [List.set]
        refine jx_iload d_M_tryOrder_87 rfl ?_
        refine jx_aload_n d_M_tryOrder_89 rfl rfl ?_
        refine mx_ar 15 d_M_tryOrder_90 (f_M_44 hB) hM (by decide) ?_
        refine jx_iload d_M_tryOrder_93 rfl ?_
        refine mx_ld (n := 16) d_M_tryOrder_95 hM (by decide) rfl ⟨by omega, by omega⟩ ?_
        rw [show S7 15 (S 22 (S 26 i)) = S 15 (S 22 (S 26 i)) by simp [hS7, sU, sUs]]
        have r13 : 0 ≤ S 15 (S 22 (S 26 i)) ∧ S 15 (S 22 (S 26 i)) ≤ 5000 := hI.r 15 (S 22 (S 26 i)) (n := 16) (by decide) rfl ⟨by omega, by omega⟩
        refine jI_add d_M_tryOrder_96 ?_
        refine jx_istore_n d_M_tryOrder_97 rfl (Nat.le_of_ble_eq_true rfl) rfl ?_
        try dsimp only [List.set]
        refine jx_aload_n d_M_tryOrder_98 rfl rfl ?_
        refine mx_ar 17 d_M_tryOrder_99 (f_M_50 hB) hM (by decide) ?_
        refine jx_iload d_M_tryOrder_102 rfl ?_
        refine mx_ld (n := 16) d_M_tryOrder_104 hM (by decide) rfl ⟨by omega, by omega⟩ ?_
        rw [show S7 17 (S 22 (S 26 i)) = S 17 (S 22 (S 26 i)) by simp [hS7, sU, sUs]]
        have r14 : 0 ≤ S 17 (S 22 (S 26 i)) ∧ S 17 (S 22 (S 26 i)) ≤ 3 := hI.r 17 (S 22 (S 26 i)) (n := 16) (by decide) rfl ⟨by omega, by omega⟩
        refine jx_istore d_M_tryOrder_105 (Nat.le_of_ble_eq_true rfl) rfl ?_
        try dsimp only [List.set]
        refine jI_inc d_M_tryOrder_107 rfl rfl ?_
        try dsimp only [List.set]
        refine jx_goto (tgt := 20) d_M_tryOrder_110 (by decide) ?_
        rw [if_neg (by omega)]
        have hq : ∀ g, g ≠ 27 → S7 g = S g := fun g hg => by rw [hS7]; exact sU_ne hg
        have h27 : S7 27 = fU (S 27) (S 26 i) (sStart S p (S 22 (S 26 i)) r z) := by rw [hS7]; exact sU_fU _ _ _ _
        refine jx_weak (ih (i + 1) ((sStart S p (S 22 (S 26 i)) r z) + (S 15 (S 22 (S 26 i)))) (S 17 (S 22 (S 26 i))) (late + (sLate S (S 22 (S 26 i)) (sStart S p (S 22 (S 26 i)) r z))) _ _ S7 w hM hIS7 hF (by omega) (by omega) (by omega) (by omega) (by omega)) (fun rr w' zz => ?_)
        rw [sRun_q (fun g hg => hq g (by omega)), hq 26 (by decide), h27] at zz
        obtain ⟨z1, T, z2, z3, z4, z5, z6⟩ := zz
        exact ⟨z1, T, z2, z3, z4, fun g hg => (z5 g hg).trans (hq g hg), z6⟩
      · refine jI_const d_M_tryOrder_58 ?_
        rw [if_pos (by omega)]; exact jx_iret d_M_tryOrder_59 rfl ⟨rfl, S, hM, hF, hI, fun _ _ => rfl, rfl⟩
theorem w_M_tryOrder {E : jx_E} {l : Launch} {d : Nat} {w : jx_W} {S : mS} {m : Nat} {A : Nat → Nat} {p many : Int} (hB : jx_B E) (hM : mR E S w m A) (hI : sI S) (hn : 0 ≤ S 2 0 ∧ S 2 0 ≤ 100000) (hp : 0 ≤ p ∧ p < 4) (h5 : 0 ≤ many ∧ many ≤ 5) : jx_G E l Y_M_tryOrder (d + 2) (jm_pp E m A w (some (.int (iI (sRun S p (S 26) many.toNat 0 (sReady S p) (S 9 p) 0 (S 27)).1))) (fun T => (∀ g, g ≠ 27 → T g = S g) ∧ T 27 = (sRun S p (S 26) many.toNat 0 (sReady S p) (S 9 p) 0 (S 27)).2)) 0 (jx_ent [.ref m, .int (iI p), .int (iI many)] 9) [] w := by
  show jx_G E l Y_M_tryOrder (d + 2) _ 0 [some (.ref m), some (.int (iI p)), some (.int (iI many)), none, none, none, none, none, none] [] w
  refine jx_aload_n d_M_tryOrder_0 rfl rfl ?_
  refine jx_iload_n d_M_tryOrder_1 rfl rfl ?_
  refine jx_callV_r (As := [.int (iI (p))]) (v := some (.int (iI (sReady S p)))) d_M_tryOrder_2 (m_M_readyAt hB) (v_M_124 hB) (by decide) (jx_c5 hB) hM.1 rfl (Nat.le_of_ble_eq_true rfl) (Nat.le_of_ble_eq_true rfl) (w_M_readyAt hB hM hI (p := p) (by omega) (by omega)) ?_
  have q1 := sReady_rg (S := S) (p := p) hI (by omega) (by omega)
  refine jx_istore_n d_M_tryOrder_5 rfl (Nat.le_of_ble_eq_true rfl) rfl ?_
  try dsimp only [List.set]
  refine jx_aload_n d_M_tryOrder_6 rfl rfl ?_
  refine mx_ar 9 d_M_tryOrder_7 (f_M_25 hB) hM (by decide) ?_
  refine jx_iload_n d_M_tryOrder_10 rfl rfl ?_
  refine mx_ld (n := 4) d_M_tryOrder_11 hM (by decide) rfl ⟨by omega, by omega⟩ ?_
  have r2 : 0 ≤ S 9 p ∧ S 9 p ≤ 3 := hI.r 9 p (n := 4) (by decide) rfl ⟨by omega, by omega⟩
  refine jx_istore d_M_tryOrder_12 (Nat.le_of_ble_eq_true rfl) rfl ?_
  try dsimp only [List.set]
  refine jI_const d_M_tryOrder_14 ?_
  refine jx_istore d_M_tryOrder_15 (Nat.le_of_ble_eq_true rfl) rfl ?_
  try dsimp only [List.set]
  refine jI_const d_M_tryOrder_17 ?_
  refine jx_istore d_M_tryOrder_18 (Nat.le_of_ble_eq_true rfl) rfl ?_
  try dsimp only [List.set]
  exact l_M_tryOrder hB hp h5.2 many.toNat 0 _ _ 0 _ _ S w hM hI mF.rf (by omega) (by omega) (by omega) (by omega) (by omega)
def oSwap (S : mS) (i j : Int) : mS := sU (sU S 26 i (S 26 j)) 26 j (S 26 i)
theorem w_M_swap {E : jx_E} {l : Launch} {d : Nat} {w : jx_W} {S : mS} {m : Nat} {A : Nat → Nat} {i j : Int} (hB : jx_B E) (hM : mR E S w m A) (hI : sI S) (hi : 0 ≤ i ∧ i < 5) (hj : 0 ≤ j ∧ j < 5) : jx_G E l Y_M_swap (d) (jm_po E m A w none (oSwap S i j)) 0 (jx_ent [.ref m, .int (iI i), .int (iI j)] 4) [] w := by
  have hF : mF m A w w := mF.rf
  generalize hw0 : w = w0 at hF ⊢
  rw [hw0] at hM
  have hF : mF m A w0 w0 := mF.rf
  show jx_G E l Y_M_swap (d) (jm_po E m A w0 _ _) 0 [some (.ref m), some (.int (iI i)), some (.int (iI j)), none] [] w0
  refine jx_aload_n d_M_swap_0 rfl rfl ?_
  refine mx_ar 26 d_M_swap_1 (f_M_71 hB) hM (by decide) ?_
  refine jx_iload_n d_M_swap_4 rfl rfl ?_
  refine mx_ld (n := 5) d_M_swap_5 hM (by decide) rfl ⟨by omega, by omega⟩ ?_
  have r1 : 0 ≤ S 26 i ∧ S 26 i ≤ 4 := hI.r 26 i (n := 5) (by decide) rfl ⟨by omega, by omega⟩
  refine jx_istore_n d_M_swap_6 rfl (Nat.le_of_ble_eq_true rfl) rfl ?_
  try dsimp only [List.set]
  refine jx_aload_n d_M_swap_7 rfl rfl ?_
  refine mx_ar 26 d_M_swap_8 (f_M_71 hB) hM (by decide) ?_
  refine jx_iload_n d_M_swap_11 rfl rfl ?_
  refine jx_aload_n d_M_swap_12 rfl rfl ?_
  refine mx_ar 26 d_M_swap_13 (f_M_71 hB) hM (by decide) ?_
  refine jx_iload_n d_M_swap_16 rfl rfl ?_
  refine mx_ld (n := 5) d_M_swap_17 hM (by decide) rfl ⟨by omega, by omega⟩ ?_
  have r2 : 0 ≤ S 26 j ∧ S 26 j ≤ 4 := hI.r 26 j (n := 5) (by decide) rfl ⟨by omega, by omega⟩
  refine mx_st (n := 5) d_M_swap_18 hM (by decide) rfl ⟨by omega, by omega⟩ (fun w hM hF1 => ?_)
  have hF := hF.tr hF1
  obtain ⟨S3, hS3⟩ : ∃ zz, zz = sU S 26 i (S 26 j) := ⟨_, rfl⟩
  rw [← hS3] at hM
  have hIS3 : sI S3 := by rw [hS3]; exact hI.u 26 _ _ (fun _ => (show (0 : Int) ≤ S 26 j ∧ S 26 j ≤ 4 by constructor <;> omega))
  have e4 : S3 0 0 = S 0 0 := by rw [hS3]; rfl
  have e5 : S3 1 0 = S 1 0 := by rw [hS3]; rfl
  have e6 : S3 2 0 = S 2 0 := by rw [hS3]; rfl
  have e7 : S3 23 0 = S 23 0 := by rw [hS3]; rfl
  refine jx_aload_n d_M_swap_19 rfl rfl ?_
  refine mx_ar 26 d_M_swap_20 (f_M_71 hB) hM (by decide) ?_
  refine jx_iload_n d_M_swap_23 rfl rfl ?_
  refine jx_iload_n d_M_swap_24 rfl rfl ?_
  refine mx_st (n := 5) d_M_swap_25 hM (by decide) rfl ⟨by omega, by omega⟩ (fun w hM hF1 => ?_)
  have hF := hF.tr hF1
  obtain ⟨S8, hS8⟩ : ∃ zz, zz = sU S3 26 j (S 26 i) := ⟨_, rfl⟩
  rw [← hS8] at hM
  have hIS8 : sI S8 := by rw [hS8]; exact hIS3.u 26 _ _ (fun _ => (show (0 : Int) ≤ S 26 i ∧ S 26 i ≤ 4 by constructor <;> omega))
  have e9 : S8 0 0 = S3 0 0 := by rw [hS8]; rfl
  have e10 : S8 1 0 = S3 1 0 := by rw [hS8]; rfl
  have e11 : S8 2 0 = S3 2 0 := by rw [hS8]; rfl
  have e12 : S8 23 0 = S3 23 0 := by rw [hS8]; rfl
  exact jx_vret d_M_swap_26 rfl (jm_v (S := S8) (by rw [hS8, hS3]; rfl) hM hF)
theorem sI_swap {S : mS} {i j : Int} (hI : sI S) (hi : 0 ≤ i ∧ i < 5) (hj : 0 ≤ j ∧ j < 5) : sI (oSwap S i j) := by
  have r1 : 0 ≤ S 26 i ∧ S 26 i ≤ 4 := hI.r 26 i (n := 5) (by decide) rfl ⟨by omega, by omega⟩
  have r2 : 0 ≤ S 26 j ∧ S 26 j ≤ 4 := hI.r 26 j (n := 5) (by decide) rfl ⟨by omega, by omega⟩
  exact (hI.u 26 i _ (fun _ => r2)).u 26 j _ (fun _ => r1)
def aSw (a : Int → Int) (i j : Int) : Int → Int := fU (fU a i (a j)) j (a i)
theorem oSwap_26 (S : mS) (i j : Int) : oSwap S i j 26 = aSw (S 26) i j := by
  unfold oSwap aSw
  rw [sU_fU, sU_fU]
theorem oSwap_ne {S : mS} {i j : Int} {g : Nat} (h : g ≠ 26) : oSwap S i j g = S g := by
  unfold oSwap
  rw [sU_ne h, sU_ne h]
def aI (a : Int → Int) : Nat → Int
  | 0 => -1
  | n + 1 => if a (n + 1) < a n then aI a n else n
def aJ (a : Int → Int) (x : Int) : Nat → Int
  | 0 => 0
  | n + 1 => if a (n + 1) < x then aJ a x n else (n + 1 : Nat)
def aRev : Nat → (Int → Int) → Int → Int → (Int → Int)
  | 0, a, _, _ => a
  | f + 1, a, x, y => if x < y then aRev f (aSw a x y) (x + 1) (y - 1) else a
/-- the next order; none behind the last -/
def aNx (a : Int → Int) (many : Nat) : Option (Int → Int) :=
  if aI a (many - 1) < 0 then none
  else some (aRev 5 (aSw a (aI a (many - 1)) (aJ a (a (aI a (many - 1))) (many - 1))) (aI a (many - 1) + 1) (many - 1))
theorem l_M_nx1 {E : jx_E} {l : Launch} {d : Nat} {w : jx_W} {S : mS} {m : Nat} {A : Nat → Nat} {Q : jx_R → jx_W → Prop} {many : Int} {X Y Z : Option Value} (hB : jx_B E) (hM : mR E S w m A) (hI : sI S) (h5 : 1 ≤ many ∧ many ≤ 5) (K : jx_G E l Y_M_nextOrder (d + 1) Q 31 [some (.ref m), some (.int (iI many)), some (.int (iI (aI (S 26) (many - 1).toNat))), X, Y, Z] [] w) : ∀ n : Nat, (n : Int) ≤ many - 1 → aI (S 26) n = aI (S 26) (many - 1).toNat → jx_G E l Y_M_nextOrder (d + 1) Q 4 [some (.ref m), some (.int (iI many)), some (.int (iI ((n : Int) - 1))), X, Y, Z] [] w := by
  intro n
  induction n with
  | zero =>
    intro hn he
    refine jx_iload_n d_M_nextOrder_4 rfl rfl ?_
    refine jI_if_lt (tgt := 31) d_M_nextOrder_5 (by decide) (by omega) (fun hc1 => ?_) (fun hc1 => ?_)
    · rw [← he] at K; exact K
    · (exfalso; omega)
  | succ n ih =>
    intro hn he
    rw [show ((n + 1 : Nat) : Int) - 1 = (n : Int) by omega]
    have he2 : (if S 26 ((n : Int) + 1) < S 26 n then aI (S 26) n else (n : Int)) = aI (S 26) (many - 1).toNat := he
    refine jx_iload_n d_M_nextOrder_4 rfl rfl ?_
    refine jI_if_lt (tgt := 31) d_M_nextOrder_5 (by decide) (by omega) (fun hc1 => ?_) (fun hc1 => ?_)
    · first | (exfalso; omega) | (rw [if_neg (by omega)] at he2; rw [← he2] at K; exact K)
    · refine jx_aload_n d_M_nextOrder_8 rfl rfl ?_
      refine mx_ar 26 d_M_nextOrder_9 (f_M_71 hB) hM (by decide) ?_
      refine jx_iload_n d_M_nextOrder_12 rfl rfl ?_
      refine mx_ld (n := 5) d_M_nextOrder_13 hM (by decide) rfl ⟨by omega, by omega⟩ ?_
      have r2 : 0 ≤ S 26 ((n : Int)) ∧ S 26 ((n : Int)) ≤ 4 := hI.r 26 ((n : Int)) (n := 5) (by decide) rfl ⟨by omega, by omega⟩
      refine jx_aload_n d_M_nextOrder_14 rfl rfl ?_
      refine mx_ar 26 d_M_nextOrder_15 (f_M_71 hB) hM (by decide) ?_
      refine jx_iload_n d_M_nextOrder_18 rfl rfl ?_
      refine jI_const d_M_nextOrder_19 ?_
      refine jI_add d_M_nextOrder_20 ?_
      refine mx_ld (n := 5) d_M_nextOrder_21 hM (by decide) rfl ⟨by omega, by omega⟩ ?_
      have r3 : 0 ≤ S 26 (((n : Int)) + 1) ∧ S 26 (((n : Int)) + 1) ≤ 4 := hI.r 26 (((n : Int)) + 1) (n := 5) (by decide) rfl ⟨by omega, by omega⟩
      refine jI_icmp_le (tgt := 31) d_M_nextOrder_22 (by decide) (by omega) (by omega) (fun hc4 => ?_) (fun hc4 => ?_)
      · first | (exfalso; omega) | (rw [if_neg (by omega)] at he2; rw [← he2] at K; exact K)
      · refine jI_inc d_M_nextOrder_25 rfl rfl ?_
        try dsimp only [List.set]
        refine jx_goto (tgt := 4) d_M_nextOrder_28 (by decide) ?_
        rw [if_pos (by omega)] at he2; exact ih (by omega) he2
theorem aI_lo (a : Int → Int) : ∀ n : Nat, -1 ≤ aI a n ∧ aI a n < n ∨ n = 0 ∧ aI a n = -1
  | 0 => .inr ⟨rfl, rfl⟩
  | n + 1 => by
    left
    have h := aI_lo a n
    show -1 ≤ (if a (n + 1) < a n then aI a n else n) ∧ (if a (n + 1) < a n then aI a n else n) < ((n + 1 : Nat) : Int)
    split <;> omega
theorem aI_up (a : Int → Int) : ∀ n : Nat, 0 ≤ aI a n → a (aI a n) ≤ a (aI a n + 1)
  | 0 => fun h => absurd h (show ¬ (0 : Int) ≤ -1 by decide)
  | n + 1 => by
    show 0 ≤ (if a (n + 1) < a n then aI a n else n) → a (if a (n + 1) < a n then aI a n else n) ≤ a ((if a (n + 1) < a n then aI a n else n) + 1)
    split
    · exact aI_up a n
    · intro _
      omega
theorem aJ_rg (a : Int → Int) (x : Int) : ∀ n : Nat, 0 ≤ aJ a x n ∧ aJ a x n ≤ n
  | 0 => ⟨Int.le_refl 0, Int.le_refl 0⟩
  | n + 1 => by
    have h := aJ_rg a x n
    show 0 ≤ (if a (n + 1) < x then aJ a x n else ((n + 1 : Nat) : Int)) ∧ (if a (n + 1) < x then aJ a x n else ((n + 1 : Nat) : Int)) ≤ ((n + 1 : Nat) : Int)
    split <;> omega
theorem l_M_nx2 {E : jx_E} {l : Launch} {d : Nat} {w : jx_W} {S : mS} {m : Nat} {A : Nat → Nat} {Q : jx_R → jx_W → Prop} {many i : Int} {Y Z : Option Value} (hB : jx_B E) (hM : mR E S w m A) (hI : sI S) (h5 : 1 ≤ many ∧ many ≤ 5) (hi : 0 ≤ i ∧ i + 1 < many) (hu : S 26 i ≤ S 26 (i + 1)) (K : jx_G E l Y_M_nextOrder (d + 1) Q 62 [some (.ref m), some (.int (iI many)), some (.int (iI i)), some (.int (iI (aJ (S 26) (S 26 i) (many - 1).toNat))), Y, Z] [] w) : ∀ n : Nat, i + 1 ≤ n ∧ (n : Int) ≤ many - 1 → aJ (S 26) (S 26 i) n = aJ (S 26) (S 26 i) (many - 1).toNat → jx_G E l Y_M_nextOrder (d + 1) Q 41 [some (.ref m), some (.int (iI many)), some (.int (iI i)), some (.int (iI (n : Int))), Y, Z] [] w := by
  intro n
  induction n with
  | zero => intro hn he; exfalso; omega
  | succ n ih =>
    intro hn he
    have he2 : (if S 26 ((n : Int) + 1) < S 26 i then aJ (S 26) (S 26 i) n else ((n + 1 : Nat) : Int)) = aJ (S 26) (S 26 i) (many - 1).toNat := he
    have hne : S 26 ((n : Int) + 1) < S 26 i → (n : Int) ≠ i := by
      rintro hlt rfl
      omega
    rw [show ((n + 1 : Nat) : Int) = (n : Int) + 1 by omega]
    rw [show ((n + 1 : Nat) : Int) = (n : Int) + 1 by omega] at he2
    refine jx_aload_n d_M_nextOrder_41 rfl rfl ?_
    refine mx_ar 26 d_M_nextOrder_42 (f_M_71 hB) hM (by decide) ?_
    refine jx_iload_n d_M_nextOrder_45 rfl rfl ?_
    refine mx_ld (n := 5) d_M_nextOrder_46 hM (by decide) rfl ⟨by omega, by omega⟩ ?_
    have r1 : 0 ≤ S 26 ((n : Int) + 1) ∧ S 26 ((n : Int) + 1) ≤ 4 := hI.r 26 ((n : Int) + 1) (n := 5) (by decide) rfl ⟨by omega, by omega⟩
    refine jx_aload_n d_M_nextOrder_47 rfl rfl ?_
    refine mx_ar 26 d_M_nextOrder_48 (f_M_71 hB) hM (by decide) ?_
    refine jx_iload_n d_M_nextOrder_51 rfl rfl ?_
    refine mx_ld (n := 5) d_M_nextOrder_52 hM (by decide) rfl ⟨by omega, by omega⟩ ?_
    have r2 : 0 ≤ S 26 i ∧ S 26 i ≤ 4 := hI.r 26 i (n := 5) (by decide) rfl ⟨by omega, by omega⟩
    refine jI_icmp_ge (tgt := 62) d_M_nextOrder_53 (by decide) (by omega) (by omega) (fun hc3 => ?_) (fun hc3 => ?_)
    · rw [if_neg (by omega)] at he2; rw [← he2] at K; exact K
    · refine jI_inc d_M_nextOrder_56 rfl rfl ?_
      try dsimp only [List.set]
      refine jx_goto (tgt := 41) d_M_nextOrder_59 (by decide) ?_
      rw [if_pos (by omega)] at he2; rw [show (n : Int) + 1 + (-1) = (n : Int) by omega]; exact ih (by have := hne (by omega); omega) he2
theorem l_M_nx3 {E : jx_E} {l : Launch} {d : Nat} {w0 : jx_W} {m : Nat} {A : Nat → Nat} {many i jj : Int} (hB : jx_B E) : ∀ (f : Nat) (x y : Int) (S : mS) (w : jx_W), mR E S w m A → sI S → mF m A w0 w → 0 ≤ x ∧ x ≤ 5 → -1 ≤ y ∧ y < 5 → y - x < f → jx_G E l Y_M_nextOrder (d + 1) (jm_pp E m A w0 (some (.int (iI 1))) (fun T => (∀ g, g ≠ 26 → T g = S g) ∧ T 26 = aRev f (S 26) x y)) 78 [some (.ref m), some (.int (iI many)), some (.int (iI i)), some (.int (iI jj)), some (.int (iI x)), some (.int (iI y))] [] w := by
  intro f
  induction f with
  | zero =>
    intro x y S w hM hI hF hx hy hf
    refine jx_iload d_M_nextOrder_78 rfl ?_
    refine jx_iload d_M_nextOrder_80 rfl ?_
    refine jI_icmp_ge (tgt := 102) d_M_nextOrder_82 (by decide) (by omega) (by omega) (fun hc1 => ?_) (fun hc1 => ?_)
    · refine jI_const d_M_nextOrder_102 ?_
      exact jx_zret (ty := .boolean) d_M_nextOrder_103 rfl (jI_bool (by omega)) ⟨rfl, S, hM, hF, hI, fun _ _ => rfl, rfl⟩
    · (exfalso; omega)
  | succ f ih =>
    intro x y S w hM hI hF hx hy hf
    refine jx_iload d_M_nextOrder_78 rfl ?_
    refine jx_iload d_M_nextOrder_80 rfl ?_
    refine jI_icmp_ge (tgt := 102) d_M_nextOrder_82 (by decide) (by omega) (by omega) (fun hc1 => ?_) (fun hc1 => ?_)
    · refine jI_const d_M_nextOrder_102 ?_
      exact jx_zret (ty := .boolean) d_M_nextOrder_103 rfl (jI_bool (by omega)) ⟨rfl, S, hM, hF, hI, fun _ _ => rfl, (show S 26 = (if x < y then _ else S 26) by rw [if_neg (by omega)])⟩
    · refine jx_aload_n d_M_nextOrder_85 rfl rfl ?_
      refine jx_iload d_M_nextOrder_86 rfl ?_
      refine jx_iload d_M_nextOrder_88 rfl ?_
      refine jm_callV (As := [.int (iI (x)), .int (iI (y))]) d_M_nextOrder_90 (m_M_swap hB) (v_M_137 hB) hB hM.1 rfl (Nat.le_of_ble_eq_true rfl) (Nat.le_of_ble_eq_true rfl) (w_M_swap hB hM hI (i := x) (j := y) (by omega) (by omega)) (fun w hM hF1 => ?_)
      have hF := hF.tr hF1
      obtain ⟨S2, hS2⟩ : ∃ zz, zz = oSwap S x y := ⟨_, rfl⟩
      rw [← hS2] at hM
      have hIS2 : sI S2 := by rw [hS2]; exact sI_swap hI (by omega) (by omega)
      have e3 : S2 0 0 = S 0 0 := by rw [hS2]; rfl
      have e4 : S2 1 0 = S 1 0 := by rw [hS2]; rfl
      have e5 : S2 2 0 = S 2 0 := by rw [hS2]; rfl
      have e6 : S2 23 0 = S 23 0 := by rw [hS2]; rfl
      refine jI_inc d_M_nextOrder_93 rfl rfl ?_
      try dsimp only [List.set]
      refine jI_inc d_M_nextOrder_96 rfl rfl ?_
      try dsimp only [List.set]
      refine jx_goto (tgt := 78) d_M_nextOrder_99 (by decide) ?_
      refine jx_weak (ih (x + 1) (y + (-1)) S2 w hM hIS2 hF (by omega) (by omega) (by omega)) (fun rr w' zz => ?_)
      obtain ⟨z1, T, z2, z3, z4, z5, z6⟩ := zz
      refine ⟨z1, T, z2, z3, z4, fun g hg => (z5 g hg).trans (by rw [hS2]; exact oSwap_ne hg), ?_⟩
      rw [z6, hS2, oSwap_26]
      show aRev f (aSw (S 26) x y) (x + 1) (y - 1) = (if x < y then aRev f (aSw (S 26) x y) (x + 1) (y - 1) else S 26)
      rw [if_pos (by omega)]
theorem w_M_nextOrder {E : jx_E} {l : Launch} {d : Nat} {w : jx_W} {S : mS} {m : Nat} {A : Nat → Nat} {many : Int} (hB : jx_B E) (hM : mR E S w m A) (hI : sI S) (h5 : 0 ≤ many ∧ many ≤ 5) : jx_G E l Y_M_nextOrder (d + 1) (jm_pp E m A w (some (.int (iI (if (aNx (S 26) many.toNat).isSome = true then 1 else 0)))) (fun T => (∀ g, g ≠ 26 → T g = S g) ∧ T 26 = (aNx (S 26) many.toNat).getD (S 26))) 0 (jx_ent [.ref m, .int (iI many)] 6) [] w := by
  show jx_G E l Y_M_nextOrder (d + 1) _ 0 [some (.ref m), some (.int (iI many)), none, none, none, none] [] w
  have hF : mF m A w w := mF.rf
  generalize hw0 : w = w0 at hF ⊢
  rw [hw0] at hM
  have hF : mF m A w0 w0 := mF.rf
  by_cases h0 : many = 0
  · subst h0
    refine jx_iload_n d_M_nextOrder_0 rfl rfl ?_
    refine jI_const d_M_nextOrder_1 ?_
    refine jI_sub d_M_nextOrder_2 ?_
    refine jx_istore_n d_M_nextOrder_3 rfl (Nat.le_of_ble_eq_true rfl) rfl ?_
    try dsimp only [List.set]
    refine jx_iload_n d_M_nextOrder_4 rfl rfl ?_
    refine jI_if_lt (tgt := 31) d_M_nextOrder_5 (by decide) (by omega) (fun hc1 => ?_) (fun hc1 => ?_)
    · refine jx_iload_n d_M_nextOrder_31 rfl rfl ?_
      refine jI_if_ge (tgt := 37) d_M_nextOrder_32 (by decide) (by omega) (fun hc2 => ?_) (fun hc2 => ?_)
      · (exfalso; omega)
      · refine jI_const d_M_nextOrder_35 ?_
        exact jx_zret (ty := .boolean) d_M_nextOrder_36 rfl (jI_bool (by omega)) (by rw [show aNx (S 26) (0 : Int).toNat = none by rfl]; exact ⟨rfl, S, hM, hF, hI, fun _ _ => rfl, rfl⟩)
    · (exfalso; omega)
  have h1 : 1 ≤ many ∧ many ≤ 5 := by omega
  have hlo := aI_lo (S 26) (many - 1).toNat
  have hup := aI_up (S 26) (many - 1).toNat
  have ej : (many - 1).toNat = many.toNat - 1 := by omega
  refine jx_iload_n d_M_nextOrder_0 rfl rfl ?_
  refine jI_const d_M_nextOrder_1 ?_
  refine jI_sub d_M_nextOrder_2 ?_
  refine jx_istore_n d_M_nextOrder_3 rfl (Nat.le_of_ble_eq_true rfl) rfl ?_
  try dsimp only [List.set]
  rw [show many - 2 = (((many - 1).toNat : Nat) : Int) - 1 by omega]
  refine l_M_nx1 hB hM hI h1 ?_ (many - 1).toNat (by omega) rfl
  refine jx_iload_n d_M_nextOrder_31 rfl rfl ?_
  refine jI_if_ge (tgt := 37) d_M_nextOrder_32 (by decide) (by omega) (fun hc1 => ?_) (fun hc1 => ?_)
  · refine jx_iload_n d_M_nextOrder_37 rfl rfl ?_
    refine jI_const d_M_nextOrder_38 ?_
    refine jI_sub d_M_nextOrder_39 ?_
    refine jx_istore_n d_M_nextOrder_40 rfl (Nat.le_of_ble_eq_true rfl) rfl ?_
    try dsimp only [List.set]
    have hjr := aJ_rg (S 26) (S 26 (aI (S 26) (many - 1).toNat)) (many - 1).toNat
    rw [show (iI (many - 1)) = iI (((many - 1).toNat : Nat) : Int) by rw [show (((many - 1).toNat : Nat) : Int) = many - 1 by omega]]
    refine l_M_nx2 hB hM hI h1 (by omega) (hup (by omega)) ?_ (many - 1).toNat (by omega) rfl
    refine jx_aload_n d_M_nextOrder_62 rfl rfl ?_
    refine jx_iload_n d_M_nextOrder_63 rfl rfl ?_
    refine jx_iload_n d_M_nextOrder_64 rfl rfl ?_
    refine jm_callV (As := [.int (iI (aI (S 26) (many - 1).toNat)), .int (iI (aJ (S 26) (S 26 (aI (S 26) (many - 1).toNat)) (many - 1).toNat))]) d_M_nextOrder_65 (m_M_swap hB) (v_M_137 hB) hB hM.1 rfl (Nat.le_of_ble_eq_true rfl) (Nat.le_of_ble_eq_true rfl) (w_M_swap hB hM hI (i := aI (S 26) (many - 1).toNat) (j := aJ (S 26) (S 26 (aI (S 26) (many - 1).toNat)) (many - 1).toNat) (by omega) (by omega)) (fun w hM hF1 => ?_)
    have hF := hF.tr hF1
    obtain ⟨S2, hS2⟩ : ∃ zz, zz = oSwap S (aI (S 26) (many - 1).toNat) (aJ (S 26) (S 26 (aI (S 26) (many - 1).toNat)) (many - 1).toNat) := ⟨_, rfl⟩
    rw [← hS2] at hM
    have hIS2 : sI S2 := by rw [hS2]; exact sI_swap hI (by omega) (by omega)
    have e3 : S2 0 0 = S 0 0 := by rw [hS2]; rfl
    have e4 : S2 1 0 = S 1 0 := by rw [hS2]; rfl
    have e5 : S2 2 0 = S 2 0 := by rw [hS2]; rfl
    have e6 : S2 23 0 = S 23 0 := by rw [hS2]; rfl
    refine jx_iload_n d_M_nextOrder_68 rfl rfl ?_
    refine jI_const d_M_nextOrder_69 ?_
    refine jI_add d_M_nextOrder_70 ?_
    refine jx_istore d_M_nextOrder_71 (Nat.le_of_ble_eq_true rfl) rfl ?_
    try dsimp only [List.set]
    refine jx_iload_n d_M_nextOrder_73 rfl rfl ?_
    refine jI_const d_M_nextOrder_74 ?_
    refine jI_sub d_M_nextOrder_75 ?_
    refine jx_istore d_M_nextOrder_76 (Nat.le_of_ble_eq_true rfl) rfl ?_
    try dsimp only [List.set]
    refine jx_weak (l_M_nx3 (w0 := w0) hB 5 ((aI (S 26) (many - 1).toNat) + 1) (many - 1) S2 w hM hIS2 hF (by omega) (by omega) (by omega)) (fun rr w' zz => ?_)
    obtain ⟨z1, T, z2, z3, z4, z5, z6⟩ := zz
    have en : aNx (S 26) many.toNat = some (aRev 5 (aSw (S 26) (aI (S 26) (many - 1).toNat) (aJ (S 26) (S 26 (aI (S 26) (many - 1).toNat)) (many - 1).toNat)) (aI (S 26) (many - 1).toNat + 1) (many - 1)) := by unfold aNx; rw [← ej, if_neg (by omega), show ((many.toNat : Nat) : Int) = many by omega]
    rw [en]
    refine ⟨z1, T, z2, z3, z4, fun g hg => (z5 g hg).trans (by rw [hS2]; exact oSwap_ne hg), ?_⟩
    rw [z6, hS2, oSwap_26]
    rfl
  · refine jI_const d_M_nextOrder_35 ?_
    exact jx_zret (ty := .boolean) d_M_nextOrder_36 rfl (jI_bool (by omega)) (by rw [show aNx (S 26) many.toNat = none by unfold aNx; rw [← ej, if_pos (by omega)]]; exact ⟨rfl, S, hM, hF, hI, fun _ _ => rfl, rfl⟩)
