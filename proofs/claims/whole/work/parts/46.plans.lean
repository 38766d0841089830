/-! 46.plans: the reference's plans in order -/
theorem sNext_rgk {S : mS} {p k t : Int} (ht : t ≤ 16) : -1 ≤ iFor (gNext S p k) (-1) t ∧ iFor (gNext S p k) (-1) t < 16 := by
  refine iFor_ind (P := fun x => -1 ≤ x ∧ x < 16) (by omega) (fun x t ht hx => ?_)
  unfold gNext
  split <;> omega
theorem sTk_rg {S : mS} {p n : Int} (hT : 0 ≤ S 1 0 ∧ S 1 0 ≤ 16) : 0 ≤ sTk S p n ∧ sTk S p n < 2 ^ 16 := by
  unfold sTk
  generalize n.toNat = k
  induction k with
  | zero => exact ⟨Int.le_refl 0, (by decide : (0 : Int) < 2 ^ 16)⟩
  | succ k ih =>
    show 0 ≤ (if sNext S p (sTkN S p k) = -1 then sTkN S p k else sSet (sTkN S p k) (sNext S p (sTkN S p k))) ∧ _
    have h1 := sNext_rg (p := p) (k := sTkN S p k) hT
    show 0 ≤ (if sNext S p (sTkN S p k) = -1 then sTkN S p k else sSet (sTkN S p k) (sNext S p (sTkN S p k))) ∧ (if sNext S p (sTkN S p k) = -1 then sTkN S p k else sSet (sTkN S p k) (sNext S p (sTkN S p k))) < 2 ^ 16
    split
    · exact ih
    · exact sSet_rg (n := 16) ih ⟨by omega, by omega⟩
theorem l_M_plannedI {E : jx_E} {l : Launch} {d : Nat} {w : jx_W} {S : mS} {m : Nat} {A : Nat → Nat} {Q : jx_R → jx_W → Prop} {p i k n : Int} (hB : jx_B E) (hM : mR E S w m A) (hI : sI S) (hT : 0 ≤ S 1 0 ∧ S 1 0 ≤ 16) (hp : iR p) (hk : 0 ≤ k ∧ k < 65536) (K : jx_G E l Y_M_planned d Q 89 [some (.ref m), some (.int (iI p)), some (.int (iI i)), some (.int (iI k)), some (.int (iI n)), some (.int (iI (sNext S p k))), some (.int (iI (S 1 0)))] [] w) : ∀ (j : Nat) (x t : Int), x = iFor (gNext S p k) (-1) t → 0 ≤ t ∧ t ≤ S 1 0 → S 1 0 - t < j → jx_G E l Y_M_planned d Q 17 [some (.ref m), some (.int (iI p)), some (.int (iI i)), some (.int (iI k)), some (.int (iI n)), some (.int (iI x)), some (.int (iI t))] [] w := by
  intro j
  induction j with
  | zero => intro x t hx ht hz; exfalso; omega
  | succ j ih =>
    intro x t hx ht hz
    have hxr := sNext_rgk (S := S) (p := p) (k := k) (t := t) (by omega)
    rw [← hx] at hxr
    refine jx_iload d_M_planned_17 rfl ?_
    refine jx_aload_n d_M_planned_19 rfl rfl ?_
    refine mx_sc 1 d_M_planned_20 (f_M_94 hB) hM (by decide) ?_
    refine jI_icmp_ge (tgt := 89) d_M_planned_23 (by decide) (by omega) (by omega) (fun hc1 => ?_) (fun hc1 => ?_)
    · (have e : t = S 1 0 := by omega); (have e2 : x = sNext S p k := by rw [hx, e]; rfl); rw [e, e2]; exact K
    · refine jx_aload_n d_M_planned_26 rfl rfl ?_
      refine mx_ar 13 d_M_planned_27 (f_M_38 hB) hM (by decide) ?_
      refine jx_iload d_M_planned_30 rfl ?_
      refine mx_ld (n := 16) d_M_planned_32 hM (by decide) rfl ⟨by omega, by omega⟩ ?_
      have r2 : 0 ≤ S 13 t ∧ S 13 t ≤ 2 := hI.r 13 t (n := 16) (by decide) rfl ⟨by omega, by omega⟩
      refine jI_if_ne (tgt := 83) d_M_planned_33 (by decide) (by omega) (fun hc3 => ?_) (fun hc3 => ?_)
      · refine jI_inc d_M_planned_83 rfl rfl ?_
        try dsimp only [List.set]
        refine jx_goto (tgt := 17) d_M_planned_86 (by decide) ?_
        exact ih (x) (t + 1) (by rw [iFor_s _ _ (by omega), ← hx]; exact (if_neg (by omega)).symm) (by omega) (by omega)
      · refine jx_aload_n d_M_planned_36 rfl rfl ?_
        refine mx_ar 19 d_M_planned_37 (f_M_56 hB) hM (by decide) ?_
        refine jx_iload d_M_planned_40 rfl ?_
        refine mx_ld (n := 16) d_M_planned_42 hM (by decide) rfl ⟨by omega, by omega⟩ ?_
        have r4 : -1 ≤ S 19 t ∧ S 19 t ≤ 3 := hI.r 19 t (n := 16) (by decide) rfl ⟨by omega, by omega⟩
        refine jx_iload_n d_M_planned_43 rfl rfl ?_
        refine jI_icmp_ne (tgt := 83) d_M_planned_44 (by decide) (by omega) (by omega) (fun hc5 => ?_) (fun hc5 => ?_)
        · refine jI_inc d_M_planned_83 rfl rfl ?_
          try dsimp only [List.set]
          refine jx_goto (tgt := 17) d_M_planned_86 (by decide) ?_
          exact ih (x) (t + 1) (by rw [iFor_s _ _ (by omega), ← hx]; exact (if_neg (by omega)).symm) (by omega) (by omega)
        · refine jx_iload_n d_M_planned_47 rfl rfl ?_
          refine jx_iload d_M_planned_48 rfl ?_
          refine jI_bit d_M_planned_50 d_M_planned_51 d_M_planned_52 ⟨by omega, by omega⟩ ⟨by omega, by omega⟩ ?_
          have b6 := sBit_01 k t
          refine jI_if_ne (tgt := 83) d_M_planned_53 (by decide) (by omega) (fun hc7 => ?_) (fun hc7 => ?_)
          · refine jI_inc d_M_planned_83 rfl rfl ?_
            try dsimp only [List.set]
            refine jx_goto (tgt := 17) d_M_planned_86 (by decide) ?_
            exact ih (x) (t + 1) (by rw [iFor_s _ _ (by omega), ← hx]; exact (if_neg (by omega)).symm) (by omega) (by omega)
          · refine jx_iload d_M_planned_56 rfl ?_
            refine jI_const d_M_planned_58 ?_
            refine jI_icmp_eq (tgt := 79) d_M_planned_59 (by decide) (by omega) (by omega) (fun hc8 => ?_) (fun hc8 => ?_)
            · refine jx_iload d_M_planned_79 rfl ?_
              refine jx_istore d_M_planned_81 (Nat.le_of_ble_eq_true rfl) rfl ?_
              try dsimp only [List.set]
              refine jI_inc d_M_planned_83 rfl rfl ?_
              try dsimp only [List.set]
              refine jx_goto (tgt := 17) d_M_planned_86 (by decide) ?_
              exact ih (t) (t + 1) (by rw [iFor_s _ _ (by omega), ← hx]; exact (if_pos ⟨by omega, by omega, by omega, by omega⟩).symm) (by omega) (by omega)
            · refine jx_aload_n d_M_planned_62 rfl rfl ?_
              refine mx_ar 20 d_M_planned_63 (f_M_59 hB) hM (by decide) ?_
              refine jx_iload d_M_planned_66 rfl ?_
              refine mx_ld (n := 16) d_M_planned_68 hM (by decide) rfl ⟨by omega, by omega⟩ ?_
              have r9 : -1 ≤ S 20 t ∧ S 20 t ≤ 100000 := hI.r 20 t (n := 16) (by decide) rfl ⟨by omega, by omega⟩
              refine jx_aload_n d_M_planned_69 rfl rfl ?_
              refine mx_ar 20 d_M_planned_70 (f_M_59 hB) hM (by decide) ?_
              refine jx_iload d_M_planned_73 rfl ?_
              refine mx_ld (n := 16) d_M_planned_75 hM (by decide) rfl ⟨by omega, by omega⟩ ?_
              have r10 : -1 ≤ S 20 x ∧ S 20 x ≤ 100000 := hI.r 20 x (n := 16) (by decide) rfl ⟨by omega, by omega⟩
              refine jI_icmp_ge (tgt := 83) d_M_planned_76 (by decide) (by omega) (by omega) (fun hc11 => ?_) (fun hc11 => ?_)
              · refine jI_inc d_M_planned_83 rfl rfl ?_
                try dsimp only [List.set]
                refine jx_goto (tgt := 17) d_M_planned_86 (by decide) ?_
                exact ih (x) (t + 1) (by rw [iFor_s _ _ (by omega), ← hx]; exact (if_neg (by omega)).symm) (by omega) (by omega)
              · refine jx_iload d_M_planned_79 rfl ?_
                refine jx_istore d_M_planned_81 (Nat.le_of_ble_eq_true rfl) rfl ?_
                try dsimp only [List.set]
                refine jI_inc d_M_planned_83 rfl rfl ?_
                try dsimp only [List.set]
                refine jx_goto (tgt := 17) d_M_planned_86 (by decide) ?_
                exact ih (t) (t + 1) (by rw [iFor_s _ _ (by omega), ← hx]; exact (if_pos ⟨by omega, by omega, by omega, by omega⟩).symm) (by omega) (by omega)
theorem l_M_plannedO {E : jx_E} {l : Launch} {d : Nat} {w : jx_W} {S : mS} {m : Nat} {A : Nat → Nat} {p i : Int} (hB : jx_B E) (hM : mR E S w m A) (hI : sI S) (hT : 0 ≤ S 1 0 ∧ S 1 0 ≤ 16) (hp : iR p) (hi : 0 ≤ i ∧ i < 16) : ∀ (j : Nat) (k n : Int) (X Y : Option Value), k = sTk S p n → 0 ≤ n ∧ n ≤ i → i - n < j → jx_G E l Y_M_planned d (jx_eq (.inr (some (.int (iI (sPlan S p i))))) w) 5 [some (.ref m), some (.int (iI p)), some (.int (iI i)), some (.int (iI k)), some (.int (iI n)), X, Y] [] w := by
  intro j
  induction j with
  | zero => intro k n X Y hk hn hz; exfalso; omega
  | succ j ih =>
    intro k n X Y hk hn hz
    have hkr := sTk_rg (S := S) (p := p) (n := n) hT
    rw [← hk] at hkr
    have hnx := sNext_rg (p := p) (k := k) hT
    refine jx_iload d_M_planned_5 rfl ?_
    refine jx_iload_n d_M_planned_7 rfl rfl ?_
    refine jI_icmp_gt (tgt := 119) d_M_planned_8 (by decide) (by omega) (by omega) (fun hc1 => ?_) (fun hc1 => ?_)
    · refine jI_const d_M_planned_119 ?_
      exact jx_iret d_M_planned_120 rfl ⟨jr_i (by first | (exfalso; omega) | (have e : i = n := by omega); rw [e]; unfold sPlan; rw [← hk]; done | (exact (sPlan_stay (i := n) (by omega) (by unfold sPlan; rw [← hk]; omega) (by omega)).symm) | (exfalso; omega)), rfl⟩
    · refine jI_const d_M_planned_11 ?_
      refine jx_istore d_M_planned_12 (Nat.le_of_ble_eq_true rfl) rfl ?_
      try dsimp only [List.set]
      refine jI_const d_M_planned_14 ?_
      refine jx_istore d_M_planned_15 (Nat.le_of_ble_eq_true rfl) rfl ?_
      try dsimp only [List.set]
      refine l_M_plannedI hB hM hI hT hp (by omega) ?_ 17 (-1) 0 rfl (by omega) (by omega)
      refine jx_iload d_M_planned_89 rfl ?_
      refine jI_const d_M_planned_91 ?_
      refine jI_icmp_ne (tgt := 97) d_M_planned_92 (by decide) (by omega) (by omega) (fun hc101 => ?_) (fun hc101 => ?_)
      · refine jx_iload d_M_planned_97 rfl ?_
        refine jx_iload_n d_M_planned_99 rfl rfl ?_
        refine jI_icmp_ne (tgt := 106) d_M_planned_100 (by decide) (by omega) (by omega) (fun hc102 => ?_) (fun hc102 => ?_)
        · refine jx_iload_n d_M_planned_106 rfl rfl ?_
          refine jI_const d_M_planned_107 ?_
          refine jx_iload d_M_planned_108 rfl ?_
          refine jI_setbit d_M_planned_110 d_M_planned_111 ⟨by omega, by omega⟩ ⟨by omega, by omega⟩ ?_
          have u103 := sSet_rg (n := 16) (x := k) (k := (sNext S p k)) ⟨by omega, by omega⟩ ⟨by omega, by omega⟩
          refine jx_istore_n d_M_planned_112 rfl (Nat.le_of_ble_eq_true rfl) rfl ?_
          try dsimp only [List.set]
          refine jI_inc d_M_planned_113 rfl rfl ?_
          try dsimp only [List.set]
          refine jx_goto (tgt := 5) d_M_planned_116 (by decide) ?_
          exact ih (sSet k (sNext S p k)) (n + 1) _ _ (by rw [sTk_s _ _ (by omega), ← hk, if_neg (by omega)]) (by omega) (by omega)
        · refine jx_iload d_M_planned_103 rfl ?_
          exact jx_iret d_M_planned_105 rfl ⟨jr_i (by first | (exfalso; omega) | (have e : i = n := by omega); rw [e]; unfold sPlan; rw [← hk]; done | (exact (sPlan_stay (i := n) (by omega) (by unfold sPlan; rw [← hk]; omega) (by omega)).symm) | (exfalso; omega)), rfl⟩
      · refine jI_const d_M_planned_95 ?_
        exact jx_iret d_M_planned_96 rfl ⟨jr_i (by first | (exfalso; omega) | (have e : i = n := by omega); rw [e]; unfold sPlan; rw [← hk]; done | (exact (sPlan_stay (i := n) (by omega) (by unfold sPlan; rw [← hk]; omega) (by omega)).symm) | (exfalso; omega)), rfl⟩
theorem w_M_planned {E : jx_E} {l : Launch} {d : Nat} {w : jx_W} {S : mS} {m : Nat} {A : Nat → Nat} {p i : Int} (hB : jx_B E) (hM : mR E S w m A) (hI : sI S) (hT : 0 ≤ S 1 0 ∧ S 1 0 ≤ 16) (hp : iR p) (hi : 0 ≤ i ∧ i < 16) : jx_G E l Y_M_planned d (jx_eq (.inr (some (.int (iI (sPlan S p i))))) w) 0 (jx_ent [.ref m, .int (iI p), .int (iI i)] 7) [] w := by
  show jx_G E l Y_M_planned d _ 0 [some (.ref m), some (.int (iI p)), some (.int (iI i)), none, none, none, none] [] w
  refine jI_const d_M_planned_0 ?_
  refine jx_istore_n d_M_planned_1 rfl (Nat.le_of_ble_eq_true rfl) rfl ?_
  try dsimp only [List.set]
  refine jI_const d_M_planned_2 ?_
  refine jx_istore d_M_planned_3 (Nat.le_of_ble_eq_true rfl) rfl ?_
  try dsimp only [List.set]
  exact l_M_plannedO hB hM hI hT hp hi 17 0 0 _ _ (sTk_0 _ _).symm (by omega) (by omega)
theorem sPlan_c {S T : mS} {p i : Int} (h1 : T 1 0 = S 1 0) (h13 : T 13 = S 13) (h19 : T 19 = S 19) (h20 : T 20 = S 20) : sPlan T p i = sPlan S p i := by
  have e : gNext T = gNext S := by
    funext p k x t
    unfold gNext
    rw [h13, h19, h20]
  have e2 : sNext T = sNext S := by
    funext p k
    unfold sNext
    rw [e, h1]
  have e3 : ∀ n, sTkN T p n = sTkN S p n := by
    intro n
    induction n with
    | zero => rfl
    | succ n ih =>
      show (if sNext T p (sTkN T p n) = -1 then sTkN T p n else sSet (sTkN T p n) (sNext T p (sTkN T p n))) = _
      rw [ih, e2]
      rfl
  unfold sPlan sTk
  rw [e3, e2]
theorem sKn_c {S T : mS} {p : Int} (h1 : T 1 0 = S 1 0) (h13 : T 13 = S 13) (h19 : T 19 = S 19) (h20 : T 20 = S 20) : sKn T p = sKn S p := by
  unfold sKn
  congr 1
  funext i
  rw [sPlan_c h1 h13 h19 h20]
theorem w_M_order {E : jx_E} {l : Launch} {d : Nat} {w : jx_W} {S : mS} {m : Nat} {A : Nat → Nat} {p i : Int} (hB : jx_B E) (hM : mR E S w m A) (hI : sI S) (hP : 0 ≤ S 0 0 ∧ S 0 0 ≤ 4) (hT : 0 ≤ S 1 0 ∧ S 1 0 ≤ 16) (h1 : iR p) (h2 : iR i) : jx_G E l Y_M_order (d + 2) (jm_po E m A w (some (.int (iI (oOrder S p i).1))) (oOrder S p i).2) 0 (jx_ent [.ref m, .int (iI p), .int (iI i)] 3) [] w := by
  have hF : mF m A w w := mF.rf
  generalize hw0 : w = w0 at hF ⊢
  rw [hw0] at hM
  have hF : mF m A w0 w0 := mF.rf
  show jx_G E l Y_M_order (d + 2) (jm_po E m A w0 _ _) 0 [some (.ref m), some (.int (iI p)), some (.int (iI i))] [] w0
  refine jx_aload_n d_M_order_0 rfl rfl ?_
  refine jx_aload_n d_M_order_1 rfl rfl ?_
  refine jx_iload_n d_M_order_2 rfl rfl ?_
  refine jx_callV_r (As := [.int (iI (p))]) d_M_order_3 (m_M_isPerson hB) (v_M_98 hB) (by decide) (jx_c5 hB) hM.1 rfl (Nat.le_of_ble_eq_true rfl) (Nat.le_of_ble_eq_true rfl) (w_M_isPerson hB hM hI (x := p) (by omega) (by omega)) ?_
  have q1 : sIn (p) 0 (S 0 0 - 1) = 0 ∧ ¬ (0 ≤ p ∧ p ≤ S 0 0 - 1) ∨ sIn (p) 0 (S 0 0 - 1) = 1 ∧ (0 ≤ p ∧ p ≤ S 0 0 - 1) := by unfold sIn; split <;> omega
  refine jI_if_ne (tgt := 13) d_M_order_6 (by decide) (by omega) (fun hc2 => ?_) (fun hc2 => ?_)
  · refine jx_iload_n d_M_order_13 rfl rfl ?_
    refine jI_if_ge (tgt := 21) d_M_order_14 (by decide) (by omega) (fun hc3 => ?_) (fun hc3 => ?_)
    · refine jI_const d_M_order_21 ?_
      refine mx_psc d_M_order_22 (f_M_83 hB) (t_5_3 hB) hM (by decide) (fun w hM hF1 => ?_)
      have hF := hF.tr hF1
      obtain ⟨S4, hS4⟩ : ∃ zz, zz = sU S 3 0 0 := ⟨_, rfl⟩
      rw [← hS4] at hM
      have hIS4 : sI S4 := by rw [hS4]; exact hI.u 3 _ _ (fun z => absurd z (by decide))
      have e5 : S4 0 0 = S 0 0 := by rw [hS4]; rfl
      have e6 : S4 1 0 = S 1 0 := by rw [hS4]; rfl
      have e7 : S4 2 0 = S 2 0 := by rw [hS4]; rfl
      have e8 : S4 23 0 = S 23 0 := by rw [hS4]; rfl
      refine jx_aload_n d_M_order_25 rfl rfl ?_
      refine mx_sc 3 d_M_order_26 (f_M_83 hB) hM (by decide) ?_
      rw [show S4 3 0 = 0 by simp [hS4, sU, sUs]]
      refine jI_if_eq (tgt := 34) d_M_order_29 (by decide) (by omega) (fun _ => ?_) (fun z => absurd z (by omega))
      refine jx_iload_n d_M_order_34 rfl rfl ?_
      refine jI_bipush d_M_order_35 (by decide) ?_
      refine jI_icmp_lt (tgt := 44) d_M_order_37 (by decide) (by omega) (by omega) (fun hc10 => ?_) (fun hc10 => ?_)
      · refine jx_aload_n d_M_order_44 rfl rfl ?_
        refine jx_iload_n d_M_order_45 rfl rfl ?_
        refine jx_iload_n d_M_order_46 rfl rfl ?_
        refine jx_callV_r (As := [.int (iI (p)), .int (iI (i))]) (v := some (.int (iI (sPlan S4 p i)))) d_M_order_47 (m_M_planned hB) (v_M_188 hB) (by decide) (jx_c5 hB) hM.1 rfl (Nat.le_of_ble_eq_true rfl) (Nat.le_of_ble_eq_true rfl) (w_M_planned hB hM hIS4 (p := p) (i := i) (by omega) (by omega) (by omega)) ?_
        rw [show sPlan S4 p i = sPlan S p i by rw [hS4]; exact sPlan_c rfl rfl rfl rfl]
        have q11 := sPlan_rg (S := S) (p := p) (i := i) (by omega)
        exact jx_iret d_M_order_50 rfl (jm_i (S := S4) (by rw [hS4]; unfold oOrder; (repeat' split) <;> first | rfl | exact jp2 (by omega) rfl | (exfalso; omega)) hM hF)
      · refine jI_const d_M_order_40 ?_
        refine jx_goto (tgt := 50) d_M_order_41 (by decide) ?_
        exact jx_iret d_M_order_50 rfl (jm_i (S := S4) (by rw [hS4]; unfold oOrder; (repeat' split) <;> first | rfl | exact jp2 (by omega) rfl | (exfalso; omega)) hM hF)
    · refine jI_const d_M_order_17 ?_
      refine jx_goto (tgt := 22) d_M_order_18 (by decide) ?_
      refine mx_psc d_M_order_22 (f_M_83 hB) (t_5_3 hB) hM (by decide) (fun w hM hF1 => ?_)
      have hF := hF.tr hF1
      obtain ⟨S12, hS12⟩ : ∃ zz, zz = sU S 3 0 2 := ⟨_, rfl⟩
      rw [← hS12] at hM
      have hIS12 : sI S12 := by rw [hS12]; exact hI.u 3 _ _ (fun z => absurd z (by decide))
      have e13 : S12 0 0 = S 0 0 := by rw [hS12]; rfl
      have e14 : S12 1 0 = S 1 0 := by rw [hS12]; rfl
      have e15 : S12 2 0 = S 2 0 := by rw [hS12]; rfl
      have e16 : S12 23 0 = S 23 0 := by rw [hS12]; rfl
      refine jx_aload_n d_M_order_25 rfl rfl ?_
      refine mx_sc 3 d_M_order_26 (f_M_83 hB) hM (by decide) ?_
      rw [show S12 3 0 = 2 by simp [hS12, sU, sUs]]
      refine jI_if_eq (tgt := 34) d_M_order_29 (by decide) (by omega) (fun z => absurd z (by omega)) (fun _ => ?_)
      refine jI_const d_M_order_32 ?_
      exact jx_iret d_M_order_33 rfl (jm_i (S := S12) (by rw [hS12]; unfold oOrder; (repeat' split) <;> first | rfl | exact jp2 (by omega) rfl | (exfalso; omega)) hM hF)
  · refine jI_const d_M_order_9 ?_
    refine jx_goto (tgt := 22) d_M_order_10 (by decide) ?_
    refine mx_psc d_M_order_22 (f_M_83 hB) (t_5_3 hB) hM (by decide) (fun w hM hF1 => ?_)
    have hF := hF.tr hF1
    obtain ⟨S18, hS18⟩ : ∃ zz, zz = sU S 3 0 1 := ⟨_, rfl⟩
    rw [← hS18] at hM
    have hIS18 : sI S18 := by rw [hS18]; exact hI.u 3 _ _ (fun z => absurd z (by decide))
    have e19 : S18 0 0 = S 0 0 := by rw [hS18]; rfl
    have e20 : S18 1 0 = S 1 0 := by rw [hS18]; rfl
    have e21 : S18 2 0 = S 2 0 := by rw [hS18]; rfl
    have e22 : S18 23 0 = S 23 0 := by rw [hS18]; rfl
    refine jx_aload_n d_M_order_25 rfl rfl ?_
    refine mx_sc 3 d_M_order_26 (f_M_83 hB) hM (by decide) ?_
    rw [show S18 3 0 = 1 by simp [hS18, sU, sUs]]
    refine jI_if_eq (tgt := 34) d_M_order_29 (by decide) (by omega) (fun z => absurd z (by omega)) (fun _ => ?_)
    refine jI_const d_M_order_32 ?_
    exact jx_iret d_M_order_33 rfl (jm_i (S := S18) (by rw [hS18]; unfold oOrder; (repeat' split) <;> first | rfl | exact jp2 (by omega) rfl | (exfalso; omega)) hM hF)
theorem w_M_give {E : jx_E} {l : Launch} {d : Nat} {w : jx_W} {S : mS} {m : Nat} {A : Nat → Nat} {p : Int} (hB : jx_B E) (hM : mR E S w m A) (hI : sI S) (hP : 0 ≤ S 0 0 ∧ S 0 0 ≤ 4) (hT : 0 ≤ S 1 0 ∧ S 1 0 ≤ 16) (hn : 0 ≤ S 2 0 ∧ S 2 0 ≤ 100000) (h1 : iR p) : jx_G E l Y_M_give (d + 2) (jm_po E m A w (some (.int (iI (oGive S p).1))) (oGive S p).2) 0 (jx_ent [.ref m, .int (iI p)] 4) [] w := by
  have hF : mF m A w w := mF.rf
  generalize hw0 : w = w0 at hF ⊢
  rw [hw0] at hM
  have hF : mF m A w0 w0 := mF.rf
  show jx_G E l Y_M_give (d + 2) (jm_po E m A w0 _ _) 0 [some (.ref m), some (.int (iI p)), none, none] [] w0
  refine jx_aload_n d_M_give_0 rfl rfl ?_
  refine jx_aload_n d_M_give_1 rfl rfl ?_
  refine jx_iload_n d_M_give_2 rfl rfl ?_
  refine jx_callV_r (As := [.int (iI (p))]) d_M_give_3 (m_M_isPerson hB) (v_M_98 hB) (by decide) (jx_c5 hB) hM.1 rfl (Nat.le_of_ble_eq_true rfl) (Nat.le_of_ble_eq_true rfl) (w_M_isPerson hB hM hI (x := p) (by omega) (by omega)) ?_
  have q1 : sIn (p) 0 (S 0 0 - 1) = 0 ∧ ¬ (0 ≤ p ∧ p ≤ S 0 0 - 1) ∨ sIn (p) 0 (S 0 0 - 1) = 1 ∧ (0 ≤ p ∧ p ≤ S 0 0 - 1) := by unfold sIn; split <;> omega
  refine jI_if_eq (tgt := 13) d_M_give_6 (by decide) (by omega) (fun hc2 => ?_) (fun hc2 => ?_)
  · refine jI_const d_M_give_13 ?_
    refine mx_psc d_M_give_14 (f_M_83 hB) (t_5_3 hB) hM (by decide) (fun w hM hF1 => ?_)
    have hF := hF.tr hF1
    obtain ⟨S3, hS3⟩ : ∃ zz, zz = sU S 3 0 1 := ⟨_, rfl⟩
    rw [← hS3] at hM
    have hIS3 : sI S3 := by rw [hS3]; exact hI.u 3 _ _ (fun z => absurd z (by decide))
    have e4 : S3 0 0 = S 0 0 := by rw [hS3]; rfl
    have e5 : S3 1 0 = S 1 0 := by rw [hS3]; rfl
    have e6 : S3 2 0 = S 2 0 := by rw [hS3]; rfl
    have e7 : S3 23 0 = S 23 0 := by rw [hS3]; rfl
    refine jx_aload_n d_M_give_17 rfl rfl ?_
    refine mx_sc 3 d_M_give_18 (f_M_83 hB) hM (by decide) ?_
    rw [show S3 3 0 = 1 by simp [hS3, sU, sUs]]
    refine jI_if_eq (tgt := 26) d_M_give_21 (by decide) (by omega) (fun z => absurd z (by omega)) (fun _ => ?_)
    refine jI_const d_M_give_24 ?_
    exact jx_iret d_M_give_25 rfl (jm_i (S := S3) (by rw [hS3]; unfold oGive; (repeat' split) <;> first | rfl | exact jp2 (by omega) rfl | (exfalso; omega)) hM hF)
  · refine jI_const d_M_give_9 ?_
    refine jx_goto (tgt := 14) d_M_give_10 (by decide) ?_
    refine mx_psc d_M_give_14 (f_M_83 hB) (t_5_3 hB) hM (by decide) (fun w hM hF1 => ?_)
    have hF := hF.tr hF1
    obtain ⟨S9, hS9⟩ : ∃ zz, zz = sU S 3 0 0 := ⟨_, rfl⟩
    rw [← hS9] at hM
    have hIS9 : sI S9 := by rw [hS9]; exact hI.u 3 _ _ (fun z => absurd z (by decide))
    have e10 : S9 0 0 = S 0 0 := by rw [hS9]; rfl
    have e11 : S9 1 0 = S 1 0 := by rw [hS9]; rfl
    have e12 : S9 2 0 = S 2 0 := by rw [hS9]; rfl
    have e13 : S9 23 0 = S 23 0 := by rw [hS9]; rfl
    refine jx_aload_n d_M_give_17 rfl rfl ?_
    refine mx_sc 3 d_M_give_18 (f_M_83 hB) hM (by decide) ?_
    rw [show S9 3 0 = 0 by simp [hS9, sU, sUs]]
    refine jI_if_eq (tgt := 26) d_M_give_21 (by decide) (by omega) (fun _ => ?_) (fun z => absurd z (by omega))
    refine jx_aload_n d_M_give_26 rfl rfl ?_
    refine mx_sc 2 d_M_give_27 (f_M_117 hB) hM (by decide) ?_
    rw [show S9 2 0 = S 2 0 by simp [hS9, sU, sUs]]
    refine jx_aload_n d_M_give_30 rfl rfl ?_
    refine mx_ar 7 d_M_give_31 (f_M_19 hB) hM (by decide) ?_
    refine jx_iload_n d_M_give_34 rfl rfl ?_
    refine mx_ld (n := 4) d_M_give_35 hM (by decide) rfl ⟨by omega, by omega⟩ ?_
    rw [show S9 7 p = S 7 p by simp [hS9, sU, sUs]]
    have r15 : 0 ≤ S 7 p ∧ S 7 p ≤ 100000 := hI.r 7 p (n := 4) (by decide) rfl ⟨by omega, by omega⟩
    refine jI_icmp_lt (tgt := 52) d_M_give_36 (by decide) (by omega) (by omega) (fun hc16 => ?_) (fun hc16 => ?_)
    · refine jx_aload_n d_M_give_52 rfl rfl ?_
      refine mx_sc 2 d_M_give_53 (f_M_117 hB) hM (by decide) ?_
      rw [show S9 2 0 = S 2 0 by simp [hS9, sU, sUs]]
      refine jx_aload_n d_M_give_56 rfl rfl ?_
      refine mx_ar 5 d_M_give_57 (f_M_13 hB) hM (by decide) ?_
      refine jx_iload_n d_M_give_60 rfl rfl ?_
      refine mx_ld (n := 4) d_M_give_61 hM (by decide) rfl ⟨by omega, by omega⟩ ?_
      rw [show S9 5 p = S 5 p by simp [hS9, sU, sUs]]
      have r17 : 0 ≤ S 5 p ∧ S 5 p ≤ 100000 := hI.r 5 p (n := 4) (by decide) rfl ⟨by omega, by omega⟩
      refine jI_icmp_lt (tgt := 78) d_M_give_62 (by decide) (by omega) (by omega) (fun hc18 => ?_) (fun hc18 => ?_)
      · refine jI_const d_M_give_78 ?_
        refine jx_goto (tgt := 83) d_M_give_79 (by decide) ?_
        refine jx_istore_n d_M_give_83 rfl (Nat.le_of_ble_eq_true rfl) rfl ?_
        try dsimp only [List.set]
        refine jx_aload_n d_M_give_84 rfl rfl ?_
        refine jx_aload_n d_M_give_85 rfl rfl ?_
        refine mx_ar 10 d_M_give_86 (f_M_28 hB) hM (by decide) ?_
        refine jx_iload_n d_M_give_89 rfl rfl ?_
        refine mx_zld d_M_give_90 hM ⟨by omega, by omega⟩ ?_
        rw [show S9 10 p = S 10 p by simp [hS9, sU, sUs]]
        have r19 : 0 ≤ S 10 p ∧ S 10 p ≤ 1 := hI.r 10 p (n := 4) (by decide) rfl ⟨by omega, by omega⟩
        refine jI_if_eq (tgt := 108) d_M_give_91 (by decide) (by omega) (fun hc20 => ?_) (fun hc20 => ?_)
        · refine jI_const d_M_give_108 ?_
          refine jx_goto (tgt := 113) d_M_give_109 (by decide) ?_
          refine mx_psc d_M_give_113 (f_M_83 hB) (t_5_3 hB) hM (by decide) (fun w hM hF1 => ?_)
          have hF := hF.tr hF1
          obtain ⟨S21, hS21⟩ : ∃ zz, zz = sU S9 3 0 2 := ⟨_, rfl⟩
          rw [← hS21] at hM
          have hIS21 : sI S21 := by rw [hS21]; exact hIS9.u 3 _ _ (fun z => absurd z (by decide))
          have e22 : S21 0 0 = S9 0 0 := by rw [hS21]; rfl
          have e23 : S21 1 0 = S9 1 0 := by rw [hS21]; rfl
          have e24 : S21 2 0 = S9 2 0 := by rw [hS21]; rfl
          have e25 : S21 23 0 = S9 23 0 := by rw [hS21]; rfl
          refine jx_aload_n d_M_give_116 rfl rfl ?_
          refine mx_sc 3 d_M_give_117 (f_M_83 hB) hM (by decide) ?_
          rw [show S21 3 0 = 2 by simp [hS21, hS9, sU, sUs]]
          refine jI_if_eq (tgt := 125) d_M_give_120 (by decide) (by omega) (fun z => absurd z (by omega)) (fun _ => ?_)
          refine jI_const d_M_give_123 ?_
          exact jx_iret d_M_give_124 rfl (jm_i (S := S21) (by rw [hS21, hS9]; unfold oGive; (repeat' split) <;> first | rfl | exact jp2 (by omega) rfl | (exfalso; omega)) hM hF)
        · refine jx_aload_n d_M_give_94 rfl rfl ?_
          refine mx_ar 11 d_M_give_95 (f_M_32 hB) hM (by decide) ?_
          refine jx_iload_n d_M_give_98 rfl rfl ?_
          refine mx_ld (n := 4) d_M_give_99 hM (by decide) rfl ⟨by omega, by omega⟩ ?_
          rw [show S9 11 p = S 11 p by simp [hS9, sU, sUs]]
          have r27 : -1 ≤ S 11 p ∧ S 11 p ≤ 15 := hI.r 11 p (n := 4) (by decide) rfl ⟨by omega, by omega⟩
          refine jI_const d_M_give_100 ?_
          refine jI_icmp_ne (tgt := 108) d_M_give_101 (by decide) (by omega) (by omega) (fun hc28 => ?_) (fun hc28 => ?_)
          · refine jI_const d_M_give_108 ?_
            refine jx_goto (tgt := 113) d_M_give_109 (by decide) ?_
            refine mx_psc d_M_give_113 (f_M_83 hB) (t_5_3 hB) hM (by decide) (fun w hM hF1 => ?_)
            have hF := hF.tr hF1
            obtain ⟨S29, hS29⟩ : ∃ zz, zz = sU S9 3 0 2 := ⟨_, rfl⟩
            rw [← hS29] at hM
            have hIS29 : sI S29 := by rw [hS29]; exact hIS9.u 3 _ _ (fun z => absurd z (by decide))
            have e30 : S29 0 0 = S9 0 0 := by rw [hS29]; rfl
            have e31 : S29 1 0 = S9 1 0 := by rw [hS29]; rfl
            have e32 : S29 2 0 = S9 2 0 := by rw [hS29]; rfl
            have e33 : S29 23 0 = S9 23 0 := by rw [hS29]; rfl
            refine jx_aload_n d_M_give_116 rfl rfl ?_
            refine mx_sc 3 d_M_give_117 (f_M_83 hB) hM (by decide) ?_
            rw [show S29 3 0 = 2 by simp [hS29, hS9, sU, sUs]]
            refine jI_if_eq (tgt := 125) d_M_give_120 (by decide) (by omega) (fun z => absurd z (by omega)) (fun _ => ?_)
            refine jI_const d_M_give_123 ?_
            exact jx_iret d_M_give_124 rfl (jm_i (S := S29) (by rw [hS29, hS9]; unfold oGive; (repeat' split) <;> first | rfl | exact jp2 (by omega) rfl | (exfalso; omega)) hM hF)
          · refine jx_iload_n d_M_give_104 rfl rfl ?_
            refine jI_if_eq (tgt := 112) d_M_give_105 (by decide) (by omega) (fun z => absurd z (by omega)) (fun _ => ?_)
            refine jI_const d_M_give_108 ?_
            refine jx_goto (tgt := 113) d_M_give_109 (by decide) ?_
            refine mx_psc d_M_give_113 (f_M_83 hB) (t_5_3 hB) hM (by decide) (fun w hM hF1 => ?_)
            have hF := hF.tr hF1
            obtain ⟨S36, hS36⟩ : ∃ zz, zz = sU S9 3 0 2 := ⟨_, rfl⟩
            rw [← hS36] at hM
            have hIS36 : sI S36 := by rw [hS36]; exact hIS9.u 3 _ _ (fun z => absurd z (by decide))
            have e37 : S36 0 0 = S9 0 0 := by rw [hS36]; rfl
            have e38 : S36 1 0 = S9 1 0 := by rw [hS36]; rfl
            have e39 : S36 2 0 = S9 2 0 := by rw [hS36]; rfl
            have e40 : S36 23 0 = S9 23 0 := by rw [hS36]; rfl
            refine jx_aload_n d_M_give_116 rfl rfl ?_
            refine mx_sc 3 d_M_give_117 (f_M_83 hB) hM (by decide) ?_
            rw [show S36 3 0 = 2 by simp [hS36, hS9, sU, sUs]]
            refine jI_if_eq (tgt := 125) d_M_give_120 (by decide) (by omega) (fun z => absurd z (by omega)) (fun _ => ?_)
            refine jI_const d_M_give_123 ?_
            exact jx_iret d_M_give_124 rfl (jm_i (S := S36) (by rw [hS36, hS9]; unfold oGive; (repeat' split) <;> first | rfl | exact jp2 (by omega) rfl | (exfalso; omega)) hM hF)
      · refine jx_aload_n d_M_give_65 rfl rfl ?_
        refine mx_sc 2 d_M_give_66 (f_M_117 hB) hM (by decide) ?_
        rw [show S9 2 0 = S 2 0 by simp [hS9, sU, sUs]]
        refine jx_aload_n d_M_give_69 rfl rfl ?_
        refine mx_ar 6 d_M_give_70 (f_M_16 hB) hM (by decide) ?_
        refine jx_iload_n d_M_give_73 rfl rfl ?_
        refine mx_ld (n := 4) d_M_give_74 hM (by decide) rfl ⟨by omega, by omega⟩ ?_
        rw [show S9 6 p = S 6 p by simp [hS9, sU, sUs]]
        have r42 : 0 ≤ S 6 p ∧ S 6 p ≤ 100000 := hI.r 6 p (n := 4) (by decide) rfl ⟨by omega, by omega⟩
        refine jI_icmp_lt (tgt := 82) d_M_give_75 (by decide) (by omega) (by omega) (fun hc43 => ?_) (fun hc43 => ?_)
        · refine jI_const d_M_give_82 ?_
          refine jx_istore_n d_M_give_83 rfl (Nat.le_of_ble_eq_true rfl) rfl ?_
          try dsimp only [List.set]
          refine jx_aload_n d_M_give_84 rfl rfl ?_
          refine jx_aload_n d_M_give_85 rfl rfl ?_
          refine mx_ar 10 d_M_give_86 (f_M_28 hB) hM (by decide) ?_
          refine jx_iload_n d_M_give_89 rfl rfl ?_
          refine mx_zld d_M_give_90 hM ⟨by omega, by omega⟩ ?_
          rw [show S9 10 p = S 10 p by simp [hS9, sU, sUs]]
          have r44 : 0 ≤ S 10 p ∧ S 10 p ≤ 1 := hI.r 10 p (n := 4) (by decide) rfl ⟨by omega, by omega⟩
          refine jI_if_eq (tgt := 108) d_M_give_91 (by decide) (by omega) (fun hc45 => ?_) (fun hc45 => ?_)
          · refine jI_const d_M_give_108 ?_
            refine jx_goto (tgt := 113) d_M_give_109 (by decide) ?_
            refine mx_psc d_M_give_113 (f_M_83 hB) (t_5_3 hB) hM (by decide) (fun w hM hF1 => ?_)
            have hF := hF.tr hF1
            obtain ⟨S46, hS46⟩ : ∃ zz, zz = sU S9 3 0 2 := ⟨_, rfl⟩
            rw [← hS46] at hM
            have hIS46 : sI S46 := by rw [hS46]; exact hIS9.u 3 _ _ (fun z => absurd z (by decide))
            have e47 : S46 0 0 = S9 0 0 := by rw [hS46]; rfl
            have e48 : S46 1 0 = S9 1 0 := by rw [hS46]; rfl
            have e49 : S46 2 0 = S9 2 0 := by rw [hS46]; rfl
            have e50 : S46 23 0 = S9 23 0 := by rw [hS46]; rfl
            refine jx_aload_n d_M_give_116 rfl rfl ?_
            refine mx_sc 3 d_M_give_117 (f_M_83 hB) hM (by decide) ?_
            rw [show S46 3 0 = 2 by simp [hS46, hS9, sU, sUs]]
            refine jI_if_eq (tgt := 125) d_M_give_120 (by decide) (by omega) (fun z => absurd z (by omega)) (fun _ => ?_)
            refine jI_const d_M_give_123 ?_
            exact jx_iret d_M_give_124 rfl (jm_i (S := S46) (by rw [hS46, hS9]; unfold oGive; (repeat' split) <;> first | rfl | exact jp2 (by omega) rfl | (exfalso; omega)) hM hF)
          · refine jx_aload_n d_M_give_94 rfl rfl ?_
            refine mx_ar 11 d_M_give_95 (f_M_32 hB) hM (by decide) ?_
            refine jx_iload_n d_M_give_98 rfl rfl ?_
            refine mx_ld (n := 4) d_M_give_99 hM (by decide) rfl ⟨by omega, by omega⟩ ?_
            rw [show S9 11 p = S 11 p by simp [hS9, sU, sUs]]
            have r52 : -1 ≤ S 11 p ∧ S 11 p ≤ 15 := hI.r 11 p (n := 4) (by decide) rfl ⟨by omega, by omega⟩
            refine jI_const d_M_give_100 ?_
            refine jI_icmp_ne (tgt := 108) d_M_give_101 (by decide) (by omega) (by omega) (fun hc53 => ?_) (fun hc53 => ?_)
            · refine jI_const d_M_give_108 ?_
              refine jx_goto (tgt := 113) d_M_give_109 (by decide) ?_
              refine mx_psc d_M_give_113 (f_M_83 hB) (t_5_3 hB) hM (by decide) (fun w hM hF1 => ?_)
              have hF := hF.tr hF1
              obtain ⟨S54, hS54⟩ : ∃ zz, zz = sU S9 3 0 2 := ⟨_, rfl⟩
              rw [← hS54] at hM
              have hIS54 : sI S54 := by rw [hS54]; exact hIS9.u 3 _ _ (fun z => absurd z (by decide))
              have e55 : S54 0 0 = S9 0 0 := by rw [hS54]; rfl
              have e56 : S54 1 0 = S9 1 0 := by rw [hS54]; rfl
              have e57 : S54 2 0 = S9 2 0 := by rw [hS54]; rfl
              have e58 : S54 23 0 = S9 23 0 := by rw [hS54]; rfl
              refine jx_aload_n d_M_give_116 rfl rfl ?_
              refine mx_sc 3 d_M_give_117 (f_M_83 hB) hM (by decide) ?_
              rw [show S54 3 0 = 2 by simp [hS54, hS9, sU, sUs]]
              refine jI_if_eq (tgt := 125) d_M_give_120 (by decide) (by omega) (fun z => absurd z (by omega)) (fun _ => ?_)
              refine jI_const d_M_give_123 ?_
              exact jx_iret d_M_give_124 rfl (jm_i (S := S54) (by rw [hS54, hS9]; unfold oGive; (repeat' split) <;> first | rfl | exact jp2 (by omega) rfl | (exfalso; omega)) hM hF)
            · refine jx_iload_n d_M_give_104 rfl rfl ?_
              refine jI_if_eq (tgt := 112) d_M_give_105 (by decide) (by omega) (fun _ => ?_) (fun z => absurd z (by omega))
              refine jI_const d_M_give_112 ?_
              refine mx_psc d_M_give_113 (f_M_83 hB) (t_5_3 hB) hM (by decide) (fun w hM hF1 => ?_)
              have hF := hF.tr hF1
              obtain ⟨S61, hS61⟩ : ∃ zz, zz = sU S9 3 0 0 := ⟨_, rfl⟩
              rw [← hS61] at hM
              have hIS61 : sI S61 := by rw [hS61]; exact hIS9.u 3 _ _ (fun z => absurd z (by decide))
              have e62 : S61 0 0 = S9 0 0 := by rw [hS61]; rfl
              have e63 : S61 1 0 = S9 1 0 := by rw [hS61]; rfl
              have e64 : S61 2 0 = S9 2 0 := by rw [hS61]; rfl
              have e65 : S61 23 0 = S9 23 0 := by rw [hS61]; rfl
              refine jx_aload_n d_M_give_116 rfl rfl ?_
              refine mx_sc 3 d_M_give_117 (f_M_83 hB) hM (by decide) ?_
              rw [show S61 3 0 = 0 by simp [hS61, hS9, sU, sUs]]
              refine jI_if_eq (tgt := 125) d_M_give_120 (by decide) (by omega) (fun _ => ?_) (fun z => absurd z (by omega))
              refine jx_aload_n d_M_give_125 rfl rfl ?_
              refine jx_iload_n d_M_give_126 rfl rfl ?_
              refine jI_const d_M_give_127 ?_
              refine jx_callV_r (As := [.int (iI (p)), .int (iI (0))]) (v := some (.int (iI (sPlan S61 p 0)))) d_M_give_128 (m_M_planned hB) (v_M_188 hB) (by decide) (jx_c5 hB) hM.1 rfl (Nat.le_of_ble_eq_true rfl) (Nat.le_of_ble_eq_true rfl) (w_M_planned hB hM hIS61 (p := p) (i := 0) (by omega) (by omega) (by omega)) ?_
              rw [show sPlan S61 p 0 = sPlan S p 0 by rw [hS61, hS9]; exact sPlan_c rfl rfl rfl rfl]
              have q67 := sPlan_rg (S := S) (p := p) (i := 0) (by omega)
              refine jx_istore_n d_M_give_131 rfl (Nat.le_of_ble_eq_true rfl) rfl ?_
              try dsimp only [List.set]
              refine jx_iload_n d_M_give_132 rfl rfl ?_
              refine jI_const d_M_give_133 ?_
              refine jI_icmp_eq (tgt := 150) d_M_give_134 (by decide) (by omega) (by omega) (fun hc68 => ?_) (fun hc68 => ?_)
              · refine jI_const d_M_give_150 ?_
                exact jx_iret d_M_give_151 rfl (jm_i (S := S61) (by rw [hS61, hS9]; unfold oGive; (repeat' split) <;> first | rfl | exact jp2 (by omega) rfl | (exfalso; omega)) hM hF)
              · refine jx_aload_n d_M_give_137 rfl rfl ?_
                refine mx_ar 20 d_M_give_138 (f_M_59 hB) hM (by decide) ?_
                refine jx_iload_n d_M_give_141 rfl rfl ?_
                refine mx_ld (n := 16) d_M_give_142 hM (by decide) rfl ⟨by omega, by omega⟩ ?_
                rw [show S61 20 (sPlan S p 0) = S 20 (sPlan S p 0) by simp [hS61, hS9, sU, sUs]]
                have r69 : -1 ≤ S 20 (sPlan S p 0) ∧ S 20 (sPlan S p 0) ≤ 100000 := hI.r 20 (sPlan S p 0) (n := 16) (by decide) rfl ⟨by omega, by omega⟩
                refine jx_aload_n d_M_give_143 rfl rfl ?_
                refine mx_sc 2 d_M_give_144 (f_M_117 hB) hM (by decide) ?_
                rw [show S61 2 0 = S 2 0 by simp [hS61, hS9, sU, sUs]]
                refine jI_icmp_le (tgt := 152) d_M_give_147 (by decide) (by omega) (by omega) (fun hc70 => ?_) (fun hc70 => ?_)
                · refine jx_aload_n d_M_give_152 rfl rfl ?_
                  refine mx_ar 13 d_M_give_153 (f_M_38 hB) hM (by decide) ?_
                  refine jx_iload_n d_M_give_156 rfl rfl ?_
                  refine jI_const d_M_give_157 ?_
                  refine mx_st (n := 16) d_M_give_158 hM (by decide) rfl ⟨by omega, by omega⟩ (fun w hM hF1 => ?_)
                  have hF := hF.tr hF1
                  obtain ⟨S71, hS71⟩ : ∃ zz, zz = sU S61 13 (sPlan S p 0) 1 := ⟨_, rfl⟩
                  rw [← hS71] at hM
                  have hIS71 : sI S71 := by rw [hS71]; exact hIS61.u 13 _ _ (fun _ => (show (0 : Int) ≤ 1 ∧ 1 ≤ 2 by constructor <;> omega))
                  have e72 : S71 0 0 = S61 0 0 := by rw [hS71]; rfl
                  have e73 : S71 1 0 = S61 1 0 := by rw [hS71]; rfl
                  have e74 : S71 2 0 = S61 2 0 := by rw [hS71]; rfl
                  have e75 : S71 23 0 = S61 23 0 := by rw [hS71]; rfl
                  refine jx_aload_n d_M_give_159 rfl rfl ?_
                  refine mx_ar 20 d_M_give_160 (f_M_59 hB) hM (by decide) ?_
                  refine jx_iload_n d_M_give_163 rfl rfl ?_
                  refine jx_aload_n d_M_give_164 rfl rfl ?_
                  refine mx_sc 2 d_M_give_165 (f_M_117 hB) hM (by decide) ?_
                  rw [show S71 2 0 = S 2 0 by simp [hS71, hS61, hS9, sU, sUs]]
                  refine mx_st (n := 16) d_M_give_168 hM (by decide) rfl ⟨by omega, by omega⟩ (fun w hM hF1 => ?_)
                  have hF := hF.tr hF1
                  obtain ⟨S76, hS76⟩ : ∃ zz, zz = sU S71 20 (sPlan S p 0) (S 2 0) := ⟨_, rfl⟩
                  rw [← hS76] at hM
                  have hIS76 : sI S76 := by rw [hS76]; exact hIS71.u 20 _ _ (fun _ => (show (-1 : Int) ≤ S 2 0 ∧ S 2 0 ≤ 100000 by constructor <;> omega))
                  have e77 : S76 0 0 = S71 0 0 := by rw [hS76]; rfl
                  have e78 : S76 1 0 = S71 1 0 := by rw [hS76]; rfl
                  have e79 : S76 2 0 = S71 2 0 := by rw [hS76]; rfl
                  have e80 : S76 23 0 = S71 23 0 := by rw [hS76]; rfl
                  refine jx_aload_n d_M_give_169 rfl rfl ?_
                  refine mx_ar 11 d_M_give_170 (f_M_32 hB) hM (by decide) ?_
                  refine jx_iload_n d_M_give_173 rfl rfl ?_
                  refine jx_iload_n d_M_give_174 rfl rfl ?_
                  refine mx_st (n := 4) d_M_give_175 hM (by decide) rfl ⟨by omega, by omega⟩ (fun w hM hF1 => ?_)
                  have hF := hF.tr hF1
                  obtain ⟨S81, hS81⟩ : ∃ zz, zz = sU S76 11 p (sPlan S p 0) := ⟨_, rfl⟩
                  rw [← hS81] at hM
                  have hIS81 : sI S81 := by rw [hS81]; exact hIS76.u 11 _ _ (fun _ => (show (-1 : Int) ≤ sPlan S p 0 ∧ sPlan S p 0 ≤ 15 by constructor <;> omega))
                  have e82 : S81 0 0 = S76 0 0 := by rw [hS81]; rfl
                  have e83 : S81 1 0 = S76 1 0 := by rw [hS81]; rfl
                  have e84 : S81 2 0 = S76 2 0 := by rw [hS81]; rfl
                  have e85 : S81 23 0 = S76 23 0 := by rw [hS81]; rfl
                  refine jx_aload_n d_M_give_176 rfl rfl ?_
                  refine mx_ar 9 d_M_give_177 (f_M_25 hB) hM (by decide) ?_
                  refine jx_iload_n d_M_give_180 rfl rfl ?_
                  refine jx_aload_n d_M_give_181 rfl rfl ?_
                  refine mx_ar 17 d_M_give_182 (f_M_50 hB) hM (by decide) ?_
                  refine jx_iload_n d_M_give_185 rfl rfl ?_
                  refine mx_ld (n := 16) d_M_give_186 hM (by decide) rfl ⟨by omega, by omega⟩ ?_
                  rw [show S81 17 (sPlan S p 0) = S 17 (sPlan S p 0) by simp [hS81, hS76, hS71, hS61, hS9, sU, sUs]]
                  have r86 : 0 ≤ S 17 (sPlan S p 0) ∧ S 17 (sPlan S p 0) ≤ 3 := hI.r 17 (sPlan S p 0) (n := 16) (by decide) rfl ⟨by omega, by omega⟩
                  refine mx_st (n := 4) d_M_give_187 hM (by decide) rfl ⟨by omega, by omega⟩ (fun w hM hF1 => ?_)
                  have hF := hF.tr hF1
                  obtain ⟨S87, hS87⟩ : ∃ zz, zz = sU S81 9 p (S 17 (sPlan S p 0)) := ⟨_, rfl⟩
                  rw [← hS87] at hM
                  have hIS87 : sI S87 := by rw [hS87]; exact hIS81.u 9 _ _ (fun _ => (show (0 : Int) ≤ S 17 (sPlan S p 0) ∧ S 17 (sPlan S p 0) ≤ 3 by constructor <;> omega))
                  have e88 : S87 0 0 = S81 0 0 := by rw [hS87]; rfl
                  have e89 : S87 1 0 = S81 1 0 := by rw [hS87]; rfl
                  have e90 : S87 2 0 = S81 2 0 := by rw [hS87]; rfl
                  have e91 : S87 23 0 = S81 23 0 := by rw [hS87]; rfl
                  refine jx_iload_n d_M_give_188 rfl rfl ?_
                  exact jx_iret d_M_give_189 rfl (jm_i (S := S87) (by rw [hS87, hS81, hS76, hS71, hS61, hS9]; unfold oGive; (repeat' split) <;> first | rfl | exact jp2 (by omega) rfl | (exfalso; omega)) hM hF)
                · refine jI_const d_M_give_150 ?_
                  exact jx_iret d_M_give_151 rfl (jm_i (S := S61) (by rw [hS61, hS9]; unfold oGive; (repeat' split) <;> first | rfl | exact jp2 (by omega) rfl | (exfalso; omega)) hM hF)
        · refine jI_const d_M_give_78 ?_
          refine jx_goto (tgt := 83) d_M_give_79 (by decide) ?_
          refine jx_istore_n d_M_give_83 rfl (Nat.le_of_ble_eq_true rfl) rfl ?_
          try dsimp only [List.set]
          refine jx_aload_n d_M_give_84 rfl rfl ?_
          refine jx_aload_n d_M_give_85 rfl rfl ?_
          refine mx_ar 10 d_M_give_86 (f_M_28 hB) hM (by decide) ?_
          refine jx_iload_n d_M_give_89 rfl rfl ?_
          refine mx_zld d_M_give_90 hM ⟨by omega, by omega⟩ ?_
          rw [show S9 10 p = S 10 p by simp [hS9, sU, sUs]]
          have r92 : 0 ≤ S 10 p ∧ S 10 p ≤ 1 := hI.r 10 p (n := 4) (by decide) rfl ⟨by omega, by omega⟩
          refine jI_if_eq (tgt := 108) d_M_give_91 (by decide) (by omega) (fun hc93 => ?_) (fun hc93 => ?_)
          · refine jI_const d_M_give_108 ?_
            refine jx_goto (tgt := 113) d_M_give_109 (by decide) ?_
            refine mx_psc d_M_give_113 (f_M_83 hB) (t_5_3 hB) hM (by decide) (fun w hM hF1 => ?_)
            have hF := hF.tr hF1
            obtain ⟨S94, hS94⟩ : ∃ zz, zz = sU S9 3 0 2 := ⟨_, rfl⟩
            rw [← hS94] at hM
            have hIS94 : sI S94 := by rw [hS94]; exact hIS9.u 3 _ _ (fun z => absurd z (by decide))
            have e95 : S94 0 0 = S9 0 0 := by rw [hS94]; rfl
            have e96 : S94 1 0 = S9 1 0 := by rw [hS94]; rfl
            have e97 : S94 2 0 = S9 2 0 := by rw [hS94]; rfl
            have e98 : S94 23 0 = S9 23 0 := by rw [hS94]; rfl
            refine jx_aload_n d_M_give_116 rfl rfl ?_
            refine mx_sc 3 d_M_give_117 (f_M_83 hB) hM (by decide) ?_
            rw [show S94 3 0 = 2 by simp [hS94, hS9, sU, sUs]]
            refine jI_if_eq (tgt := 125) d_M_give_120 (by decide) (by omega) (fun z => absurd z (by omega)) (fun _ => ?_)
            refine jI_const d_M_give_123 ?_
            exact jx_iret d_M_give_124 rfl (jm_i (S := S94) (by rw [hS94, hS9]; unfold oGive; (repeat' split) <;> first | rfl | exact jp2 (by omega) rfl | (exfalso; omega)) hM hF)
          · refine jx_aload_n d_M_give_94 rfl rfl ?_
            refine mx_ar 11 d_M_give_95 (f_M_32 hB) hM (by decide) ?_
            refine jx_iload_n d_M_give_98 rfl rfl ?_
            refine mx_ld (n := 4) d_M_give_99 hM (by decide) rfl ⟨by omega, by omega⟩ ?_
            rw [show S9 11 p = S 11 p by simp [hS9, sU, sUs]]
            have r100 : -1 ≤ S 11 p ∧ S 11 p ≤ 15 := hI.r 11 p (n := 4) (by decide) rfl ⟨by omega, by omega⟩
            refine jI_const d_M_give_100 ?_
            refine jI_icmp_ne (tgt := 108) d_M_give_101 (by decide) (by omega) (by omega) (fun hc101 => ?_) (fun hc101 => ?_)
            · refine jI_const d_M_give_108 ?_
              refine jx_goto (tgt := 113) d_M_give_109 (by decide) ?_
              refine mx_psc d_M_give_113 (f_M_83 hB) (t_5_3 hB) hM (by decide) (fun w hM hF1 => ?_)
              have hF := hF.tr hF1
              obtain ⟨S102, hS102⟩ : ∃ zz, zz = sU S9 3 0 2 := ⟨_, rfl⟩
              rw [← hS102] at hM
              have hIS102 : sI S102 := by rw [hS102]; exact hIS9.u 3 _ _ (fun z => absurd z (by decide))
              have e103 : S102 0 0 = S9 0 0 := by rw [hS102]; rfl
              have e104 : S102 1 0 = S9 1 0 := by rw [hS102]; rfl
              have e105 : S102 2 0 = S9 2 0 := by rw [hS102]; rfl
              have e106 : S102 23 0 = S9 23 0 := by rw [hS102]; rfl
              refine jx_aload_n d_M_give_116 rfl rfl ?_
              refine mx_sc 3 d_M_give_117 (f_M_83 hB) hM (by decide) ?_
              rw [show S102 3 0 = 2 by simp [hS102, hS9, sU, sUs]]
              refine jI_if_eq (tgt := 125) d_M_give_120 (by decide) (by omega) (fun z => absurd z (by omega)) (fun _ => ?_)
              refine jI_const d_M_give_123 ?_
              exact jx_iret d_M_give_124 rfl (jm_i (S := S102) (by rw [hS102, hS9]; unfold oGive; (repeat' split) <;> first | rfl | exact jp2 (by omega) rfl | (exfalso; omega)) hM hF)
            · refine jx_iload_n d_M_give_104 rfl rfl ?_
              refine jI_if_eq (tgt := 112) d_M_give_105 (by decide) (by omega) (fun z => absurd z (by omega)) (fun _ => ?_)
              refine jI_const d_M_give_108 ?_
              refine jx_goto (tgt := 113) d_M_give_109 (by decide) ?_
              refine mx_psc d_M_give_113 (f_M_83 hB) (t_5_3 hB) hM (by decide) (fun w hM hF1 => ?_)
              have hF := hF.tr hF1
              obtain ⟨S109, hS109⟩ : ∃ zz, zz = sU S9 3 0 2 := ⟨_, rfl⟩
              rw [← hS109] at hM
              have hIS109 : sI S109 := by rw [hS109]; exact hIS9.u 3 _ _ (fun z => absurd z (by decide))
              have e110 : S109 0 0 = S9 0 0 := by rw [hS109]; rfl
              have e111 : S109 1 0 = S9 1 0 := by rw [hS109]; rfl
              have e112 : S109 2 0 = S9 2 0 := by rw [hS109]; rfl
              have e113 : S109 23 0 = S9 23 0 := by rw [hS109]; rfl
              refine jx_aload_n d_M_give_116 rfl rfl ?_
              refine mx_sc 3 d_M_give_117 (f_M_83 hB) hM (by decide) ?_
              rw [show S109 3 0 = 2 by simp [hS109, hS9, sU, sUs]]
              refine jI_if_eq (tgt := 125) d_M_give_120 (by decide) (by omega) (fun z => absurd z (by omega)) (fun _ => ?_)
              refine jI_const d_M_give_123 ?_
              exact jx_iret d_M_give_124 rfl (jm_i (S := S109) (by rw [hS109, hS9]; unfold oGive; (repeat' split) <;> first | rfl | exact jp2 (by omega) rfl | (exfalso; omega)) hM hF)
    · refine jx_aload_n d_M_give_39 rfl rfl ?_
      refine mx_sc 2 d_M_give_40 (f_M_117 hB) hM (by decide) ?_
      rw [show S9 2 0 = S 2 0 by simp [hS9, sU, sUs]]
      refine jx_aload_n d_M_give_43 rfl rfl ?_
      refine mx_ar 8 d_M_give_44 (f_M_22 hB) hM (by decide) ?_
      refine jx_iload_n d_M_give_47 rfl rfl ?_
      refine mx_ld (n := 4) d_M_give_48 hM (by decide) rfl ⟨by omega, by omega⟩ ?_
      rw [show S9 8 p = S 8 p by simp [hS9, sU, sUs]]
      have r115 : 0 ≤ S 8 p ∧ S 8 p ≤ 100000 := hI.r 8 p (n := 4) (by decide) rfl ⟨by omega, by omega⟩
      refine jI_icmp_lt (tgt := 78) d_M_give_49 (by decide) (by omega) (by omega) (fun hc116 => ?_) (fun hc116 => ?_)
      · refine jI_const d_M_give_78 ?_
        refine jx_goto (tgt := 83) d_M_give_79 (by decide) ?_
        refine jx_istore_n d_M_give_83 rfl (Nat.le_of_ble_eq_true rfl) rfl ?_
        try dsimp only [List.set]
        refine jx_aload_n d_M_give_84 rfl rfl ?_
        refine jx_aload_n d_M_give_85 rfl rfl ?_
        refine mx_ar 10 d_M_give_86 (f_M_28 hB) hM (by decide) ?_
        refine jx_iload_n d_M_give_89 rfl rfl ?_
        refine mx_zld d_M_give_90 hM ⟨by omega, by omega⟩ ?_
        rw [show S9 10 p = S 10 p by simp [hS9, sU, sUs]]
        have r117 : 0 ≤ S 10 p ∧ S 10 p ≤ 1 := hI.r 10 p (n := 4) (by decide) rfl ⟨by omega, by omega⟩
        refine jI_if_eq (tgt := 108) d_M_give_91 (by decide) (by omega) (fun hc118 => ?_) (fun hc118 => ?_)
        · refine jI_const d_M_give_108 ?_
          refine jx_goto (tgt := 113) d_M_give_109 (by decide) ?_
          refine mx_psc d_M_give_113 (f_M_83 hB) (t_5_3 hB) hM (by decide) (fun w hM hF1 => ?_)
          have hF := hF.tr hF1
          obtain ⟨S119, hS119⟩ : ∃ zz, zz = sU S9 3 0 2 := ⟨_, rfl⟩
          rw [← hS119] at hM
          have hIS119 : sI S119 := by rw [hS119]; exact hIS9.u 3 _ _ (fun z => absurd z (by decide))
          have e120 : S119 0 0 = S9 0 0 := by rw [hS119]; rfl
          have e121 : S119 1 0 = S9 1 0 := by rw [hS119]; rfl
          have e122 : S119 2 0 = S9 2 0 := by rw [hS119]; rfl
          have e123 : S119 23 0 = S9 23 0 := by rw [hS119]; rfl
          refine jx_aload_n d_M_give_116 rfl rfl ?_
          refine mx_sc 3 d_M_give_117 (f_M_83 hB) hM (by decide) ?_
          rw [show S119 3 0 = 2 by simp [hS119, hS9, sU, sUs]]
          refine jI_if_eq (tgt := 125) d_M_give_120 (by decide) (by omega) (fun z => absurd z (by omega)) (fun _ => ?_)
          refine jI_const d_M_give_123 ?_
          exact jx_iret d_M_give_124 rfl (jm_i (S := S119) (by rw [hS119, hS9]; unfold oGive; (repeat' split) <;> first | rfl | exact jp2 (by omega) rfl | (exfalso; omega)) hM hF)
        · refine jx_aload_n d_M_give_94 rfl rfl ?_
          refine mx_ar 11 d_M_give_95 (f_M_32 hB) hM (by decide) ?_
          refine jx_iload_n d_M_give_98 rfl rfl ?_
          refine mx_ld (n := 4) d_M_give_99 hM (by decide) rfl ⟨by omega, by omega⟩ ?_
          rw [show S9 11 p = S 11 p by simp [hS9, sU, sUs]]
          have r125 : -1 ≤ S 11 p ∧ S 11 p ≤ 15 := hI.r 11 p (n := 4) (by decide) rfl ⟨by omega, by omega⟩
          refine jI_const d_M_give_100 ?_
          refine jI_icmp_ne (tgt := 108) d_M_give_101 (by decide) (by omega) (by omega) (fun hc126 => ?_) (fun hc126 => ?_)
          · refine jI_const d_M_give_108 ?_
            refine jx_goto (tgt := 113) d_M_give_109 (by decide) ?_
            refine mx_psc d_M_give_113 (f_M_83 hB) (t_5_3 hB) hM (by decide) (fun w hM hF1 => ?_)
            have hF := hF.tr hF1
            obtain ⟨S127, hS127⟩ : ∃ zz, zz = sU S9 3 0 2 := ⟨_, rfl⟩
            rw [← hS127] at hM
            have hIS127 : sI S127 := by rw [hS127]; exact hIS9.u 3 _ _ (fun z => absurd z (by decide))
            have e128 : S127 0 0 = S9 0 0 := by rw [hS127]; rfl
            have e129 : S127 1 0 = S9 1 0 := by rw [hS127]; rfl
            have e130 : S127 2 0 = S9 2 0 := by rw [hS127]; rfl
            have e131 : S127 23 0 = S9 23 0 := by rw [hS127]; rfl
            refine jx_aload_n d_M_give_116 rfl rfl ?_
            refine mx_sc 3 d_M_give_117 (f_M_83 hB) hM (by decide) ?_
            rw [show S127 3 0 = 2 by simp [hS127, hS9, sU, sUs]]
            refine jI_if_eq (tgt := 125) d_M_give_120 (by decide) (by omega) (fun z => absurd z (by omega)) (fun _ => ?_)
            refine jI_const d_M_give_123 ?_
            exact jx_iret d_M_give_124 rfl (jm_i (S := S127) (by rw [hS127, hS9]; unfold oGive; (repeat' split) <;> first | rfl | exact jp2 (by omega) rfl | (exfalso; omega)) hM hF)
          · refine jx_iload_n d_M_give_104 rfl rfl ?_
            refine jI_if_eq (tgt := 112) d_M_give_105 (by decide) (by omega) (fun z => absurd z (by omega)) (fun _ => ?_)
            refine jI_const d_M_give_108 ?_
            refine jx_goto (tgt := 113) d_M_give_109 (by decide) ?_
            refine mx_psc d_M_give_113 (f_M_83 hB) (t_5_3 hB) hM (by decide) (fun w hM hF1 => ?_)
            have hF := hF.tr hF1
            obtain ⟨S134, hS134⟩ : ∃ zz, zz = sU S9 3 0 2 := ⟨_, rfl⟩
            rw [← hS134] at hM
            have hIS134 : sI S134 := by rw [hS134]; exact hIS9.u 3 _ _ (fun z => absurd z (by decide))
            have e135 : S134 0 0 = S9 0 0 := by rw [hS134]; rfl
            have e136 : S134 1 0 = S9 1 0 := by rw [hS134]; rfl
            have e137 : S134 2 0 = S9 2 0 := by rw [hS134]; rfl
            have e138 : S134 23 0 = S9 23 0 := by rw [hS134]; rfl
            refine jx_aload_n d_M_give_116 rfl rfl ?_
            refine mx_sc 3 d_M_give_117 (f_M_83 hB) hM (by decide) ?_
            rw [show S134 3 0 = 2 by simp [hS134, hS9, sU, sUs]]
            refine jI_if_eq (tgt := 125) d_M_give_120 (by decide) (by omega) (fun z => absurd z (by omega)) (fun _ => ?_)
            refine jI_const d_M_give_123 ?_
            exact jx_iret d_M_give_124 rfl (jm_i (S := S134) (by rw [hS134, hS9]; unfold oGive; (repeat' split) <;> first | rfl | exact jp2 (by omega) rfl | (exfalso; omega)) hM hF)
      · refine jx_aload_n d_M_give_52 rfl rfl ?_
        refine mx_sc 2 d_M_give_53 (f_M_117 hB) hM (by decide) ?_
        rw [show S9 2 0 = S 2 0 by simp [hS9, sU, sUs]]
        refine jx_aload_n d_M_give_56 rfl rfl ?_
        refine mx_ar 5 d_M_give_57 (f_M_13 hB) hM (by decide) ?_
        refine jx_iload_n d_M_give_60 rfl rfl ?_
        refine mx_ld (n := 4) d_M_give_61 hM (by decide) rfl ⟨by omega, by omega⟩ ?_
        rw [show S9 5 p = S 5 p by simp [hS9, sU, sUs]]
        have r140 : 0 ≤ S 5 p ∧ S 5 p ≤ 100000 := hI.r 5 p (n := 4) (by decide) rfl ⟨by omega, by omega⟩
        refine jI_icmp_lt (tgt := 78) d_M_give_62 (by decide) (by omega) (by omega) (fun hc141 => ?_) (fun hc141 => ?_)
        · refine jI_const d_M_give_78 ?_
          refine jx_goto (tgt := 83) d_M_give_79 (by decide) ?_
          refine jx_istore_n d_M_give_83 rfl (Nat.le_of_ble_eq_true rfl) rfl ?_
          try dsimp only [List.set]
          refine jx_aload_n d_M_give_84 rfl rfl ?_
          refine jx_aload_n d_M_give_85 rfl rfl ?_
          refine mx_ar 10 d_M_give_86 (f_M_28 hB) hM (by decide) ?_
          refine jx_iload_n d_M_give_89 rfl rfl ?_
          refine mx_zld d_M_give_90 hM ⟨by omega, by omega⟩ ?_
          rw [show S9 10 p = S 10 p by simp [hS9, sU, sUs]]
          have r142 : 0 ≤ S 10 p ∧ S 10 p ≤ 1 := hI.r 10 p (n := 4) (by decide) rfl ⟨by omega, by omega⟩
          refine jI_if_eq (tgt := 108) d_M_give_91 (by decide) (by omega) (fun hc143 => ?_) (fun hc143 => ?_)
          · refine jI_const d_M_give_108 ?_
            refine jx_goto (tgt := 113) d_M_give_109 (by decide) ?_
            refine mx_psc d_M_give_113 (f_M_83 hB) (t_5_3 hB) hM (by decide) (fun w hM hF1 => ?_)
            have hF := hF.tr hF1
            obtain ⟨S144, hS144⟩ : ∃ zz, zz = sU S9 3 0 2 := ⟨_, rfl⟩
            rw [← hS144] at hM
            have hIS144 : sI S144 := by rw [hS144]; exact hIS9.u 3 _ _ (fun z => absurd z (by decide))
            have e145 : S144 0 0 = S9 0 0 := by rw [hS144]; rfl
            have e146 : S144 1 0 = S9 1 0 := by rw [hS144]; rfl
            have e147 : S144 2 0 = S9 2 0 := by rw [hS144]; rfl
            have e148 : S144 23 0 = S9 23 0 := by rw [hS144]; rfl
            refine jx_aload_n d_M_give_116 rfl rfl ?_
            refine mx_sc 3 d_M_give_117 (f_M_83 hB) hM (by decide) ?_
            rw [show S144 3 0 = 2 by simp [hS144, hS9, sU, sUs]]
            refine jI_if_eq (tgt := 125) d_M_give_120 (by decide) (by omega) (fun z => absurd z (by omega)) (fun _ => ?_)
            refine jI_const d_M_give_123 ?_
            exact jx_iret d_M_give_124 rfl (jm_i (S := S144) (by rw [hS144, hS9]; unfold oGive; (repeat' split) <;> first | rfl | exact jp2 (by omega) rfl | (exfalso; omega)) hM hF)
          · refine jx_aload_n d_M_give_94 rfl rfl ?_
            refine mx_ar 11 d_M_give_95 (f_M_32 hB) hM (by decide) ?_
            refine jx_iload_n d_M_give_98 rfl rfl ?_
            refine mx_ld (n := 4) d_M_give_99 hM (by decide) rfl ⟨by omega, by omega⟩ ?_
            rw [show S9 11 p = S 11 p by simp [hS9, sU, sUs]]
            have r150 : -1 ≤ S 11 p ∧ S 11 p ≤ 15 := hI.r 11 p (n := 4) (by decide) rfl ⟨by omega, by omega⟩
            refine jI_const d_M_give_100 ?_
            refine jI_icmp_ne (tgt := 108) d_M_give_101 (by decide) (by omega) (by omega) (fun hc151 => ?_) (fun hc151 => ?_)
            · refine jI_const d_M_give_108 ?_
              refine jx_goto (tgt := 113) d_M_give_109 (by decide) ?_
              refine mx_psc d_M_give_113 (f_M_83 hB) (t_5_3 hB) hM (by decide) (fun w hM hF1 => ?_)
              have hF := hF.tr hF1
              obtain ⟨S152, hS152⟩ : ∃ zz, zz = sU S9 3 0 2 := ⟨_, rfl⟩
              rw [← hS152] at hM
              have hIS152 : sI S152 := by rw [hS152]; exact hIS9.u 3 _ _ (fun z => absurd z (by decide))
              have e153 : S152 0 0 = S9 0 0 := by rw [hS152]; rfl
              have e154 : S152 1 0 = S9 1 0 := by rw [hS152]; rfl
              have e155 : S152 2 0 = S9 2 0 := by rw [hS152]; rfl
              have e156 : S152 23 0 = S9 23 0 := by rw [hS152]; rfl
              refine jx_aload_n d_M_give_116 rfl rfl ?_
              refine mx_sc 3 d_M_give_117 (f_M_83 hB) hM (by decide) ?_
              rw [show S152 3 0 = 2 by simp [hS152, hS9, sU, sUs]]
              refine jI_if_eq (tgt := 125) d_M_give_120 (by decide) (by omega) (fun z => absurd z (by omega)) (fun _ => ?_)
              refine jI_const d_M_give_123 ?_
              exact jx_iret d_M_give_124 rfl (jm_i (S := S152) (by rw [hS152, hS9]; unfold oGive; (repeat' split) <;> first | rfl | exact jp2 (by omega) rfl | (exfalso; omega)) hM hF)
            · refine jx_iload_n d_M_give_104 rfl rfl ?_
              refine jI_if_eq (tgt := 112) d_M_give_105 (by decide) (by omega) (fun z => absurd z (by omega)) (fun _ => ?_)
              refine jI_const d_M_give_108 ?_
              refine jx_goto (tgt := 113) d_M_give_109 (by decide) ?_
              refine mx_psc d_M_give_113 (f_M_83 hB) (t_5_3 hB) hM (by decide) (fun w hM hF1 => ?_)
              have hF := hF.tr hF1
              obtain ⟨S159, hS159⟩ : ∃ zz, zz = sU S9 3 0 2 := ⟨_, rfl⟩
              rw [← hS159] at hM
              have hIS159 : sI S159 := by rw [hS159]; exact hIS9.u 3 _ _ (fun z => absurd z (by decide))
              have e160 : S159 0 0 = S9 0 0 := by rw [hS159]; rfl
              have e161 : S159 1 0 = S9 1 0 := by rw [hS159]; rfl
              have e162 : S159 2 0 = S9 2 0 := by rw [hS159]; rfl
              have e163 : S159 23 0 = S9 23 0 := by rw [hS159]; rfl
              refine jx_aload_n d_M_give_116 rfl rfl ?_
              refine mx_sc 3 d_M_give_117 (f_M_83 hB) hM (by decide) ?_
              rw [show S159 3 0 = 2 by simp [hS159, hS9, sU, sUs]]
              refine jI_if_eq (tgt := 125) d_M_give_120 (by decide) (by omega) (fun z => absurd z (by omega)) (fun _ => ?_)
              refine jI_const d_M_give_123 ?_
              exact jx_iret d_M_give_124 rfl (jm_i (S := S159) (by rw [hS159, hS9]; unfold oGive; (repeat' split) <;> first | rfl | exact jp2 (by omega) rfl | (exfalso; omega)) hM hF)
        · refine jx_aload_n d_M_give_65 rfl rfl ?_
          refine mx_sc 2 d_M_give_66 (f_M_117 hB) hM (by decide) ?_
          rw [show S9 2 0 = S 2 0 by simp [hS9, sU, sUs]]
          refine jx_aload_n d_M_give_69 rfl rfl ?_
          refine mx_ar 6 d_M_give_70 (f_M_16 hB) hM (by decide) ?_
          refine jx_iload_n d_M_give_73 rfl rfl ?_
          refine mx_ld (n := 4) d_M_give_74 hM (by decide) rfl ⟨by omega, by omega⟩ ?_
          rw [show S9 6 p = S 6 p by simp [hS9, sU, sUs]]
          have r165 : 0 ≤ S 6 p ∧ S 6 p ≤ 100000 := hI.r 6 p (n := 4) (by decide) rfl ⟨by omega, by omega⟩
          refine jI_icmp_lt (tgt := 82) d_M_give_75 (by decide) (by omega) (by omega) (fun hc166 => ?_) (fun hc166 => ?_)
          · refine jI_const d_M_give_82 ?_
            refine jx_istore_n d_M_give_83 rfl (Nat.le_of_ble_eq_true rfl) rfl ?_
            try dsimp only [List.set]
            refine jx_aload_n d_M_give_84 rfl rfl ?_
            refine jx_aload_n d_M_give_85 rfl rfl ?_
            refine mx_ar 10 d_M_give_86 (f_M_28 hB) hM (by decide) ?_
            refine jx_iload_n d_M_give_89 rfl rfl ?_
            refine mx_zld d_M_give_90 hM ⟨by omega, by omega⟩ ?_
            rw [show S9 10 p = S 10 p by simp [hS9, sU, sUs]]
            have r167 : 0 ≤ S 10 p ∧ S 10 p ≤ 1 := hI.r 10 p (n := 4) (by decide) rfl ⟨by omega, by omega⟩
            refine jI_if_eq (tgt := 108) d_M_give_91 (by decide) (by omega) (fun hc168 => ?_) (fun hc168 => ?_)
            · refine jI_const d_M_give_108 ?_
              refine jx_goto (tgt := 113) d_M_give_109 (by decide) ?_
              refine mx_psc d_M_give_113 (f_M_83 hB) (t_5_3 hB) hM (by decide) (fun w hM hF1 => ?_)
              have hF := hF.tr hF1
              obtain ⟨S169, hS169⟩ : ∃ zz, zz = sU S9 3 0 2 := ⟨_, rfl⟩
              rw [← hS169] at hM
              have hIS169 : sI S169 := by rw [hS169]; exact hIS9.u 3 _ _ (fun z => absurd z (by decide))
              have e170 : S169 0 0 = S9 0 0 := by rw [hS169]; rfl
              have e171 : S169 1 0 = S9 1 0 := by rw [hS169]; rfl
              have e172 : S169 2 0 = S9 2 0 := by rw [hS169]; rfl
              have e173 : S169 23 0 = S9 23 0 := by rw [hS169]; rfl
              refine jx_aload_n d_M_give_116 rfl rfl ?_
              refine mx_sc 3 d_M_give_117 (f_M_83 hB) hM (by decide) ?_
              rw [show S169 3 0 = 2 by simp [hS169, hS9, sU, sUs]]
              refine jI_if_eq (tgt := 125) d_M_give_120 (by decide) (by omega) (fun z => absurd z (by omega)) (fun _ => ?_)
              refine jI_const d_M_give_123 ?_
              exact jx_iret d_M_give_124 rfl (jm_i (S := S169) (by rw [hS169, hS9]; unfold oGive; (repeat' split) <;> first | rfl | exact jp2 (by omega) rfl | (exfalso; omega)) hM hF)
            · refine jx_aload_n d_M_give_94 rfl rfl ?_
              refine mx_ar 11 d_M_give_95 (f_M_32 hB) hM (by decide) ?_
              refine jx_iload_n d_M_give_98 rfl rfl ?_
              refine mx_ld (n := 4) d_M_give_99 hM (by decide) rfl ⟨by omega, by omega⟩ ?_
              rw [show S9 11 p = S 11 p by simp [hS9, sU, sUs]]
              have r175 : -1 ≤ S 11 p ∧ S 11 p ≤ 15 := hI.r 11 p (n := 4) (by decide) rfl ⟨by omega, by omega⟩
              refine jI_const d_M_give_100 ?_
              refine jI_icmp_ne (tgt := 108) d_M_give_101 (by decide) (by omega) (by omega) (fun hc176 => ?_) (fun hc176 => ?_)
              · refine jI_const d_M_give_108 ?_
                refine jx_goto (tgt := 113) d_M_give_109 (by decide) ?_
                refine mx_psc d_M_give_113 (f_M_83 hB) (t_5_3 hB) hM (by decide) (fun w hM hF1 => ?_)
                have hF := hF.tr hF1
                obtain ⟨S177, hS177⟩ : ∃ zz, zz = sU S9 3 0 2 := ⟨_, rfl⟩
                rw [← hS177] at hM
                have hIS177 : sI S177 := by rw [hS177]; exact hIS9.u 3 _ _ (fun z => absurd z (by decide))
                have e178 : S177 0 0 = S9 0 0 := by rw [hS177]; rfl
                have e179 : S177 1 0 = S9 1 0 := by rw [hS177]; rfl
                have e180 : S177 2 0 = S9 2 0 := by rw [hS177]; rfl
                have e181 : S177 23 0 = S9 23 0 := by rw [hS177]; rfl
                refine jx_aload_n d_M_give_116 rfl rfl ?_
                refine mx_sc 3 d_M_give_117 (f_M_83 hB) hM (by decide) ?_
                rw [show S177 3 0 = 2 by simp [hS177, hS9, sU, sUs]]
                refine jI_if_eq (tgt := 125) d_M_give_120 (by decide) (by omega) (fun z => absurd z (by omega)) (fun _ => ?_)
                refine jI_const d_M_give_123 ?_
                exact jx_iret d_M_give_124 rfl (jm_i (S := S177) (by rw [hS177, hS9]; unfold oGive; (repeat' split) <;> first | rfl | exact jp2 (by omega) rfl | (exfalso; omega)) hM hF)
              · refine jx_iload_n d_M_give_104 rfl rfl ?_
                refine jI_if_eq (tgt := 112) d_M_give_105 (by decide) (by omega) (fun _ => ?_) (fun z => absurd z (by omega))
                refine jI_const d_M_give_112 ?_
                refine mx_psc d_M_give_113 (f_M_83 hB) (t_5_3 hB) hM (by decide) (fun w hM hF1 => ?_)
                have hF := hF.tr hF1
                obtain ⟨S184, hS184⟩ : ∃ zz, zz = sU S9 3 0 0 := ⟨_, rfl⟩
                rw [← hS184] at hM
                have hIS184 : sI S184 := by rw [hS184]; exact hIS9.u 3 _ _ (fun z => absurd z (by decide))
                have e185 : S184 0 0 = S9 0 0 := by rw [hS184]; rfl
                have e186 : S184 1 0 = S9 1 0 := by rw [hS184]; rfl
                have e187 : S184 2 0 = S9 2 0 := by rw [hS184]; rfl
                have e188 : S184 23 0 = S9 23 0 := by rw [hS184]; rfl
                refine jx_aload_n d_M_give_116 rfl rfl ?_
                refine mx_sc 3 d_M_give_117 (f_M_83 hB) hM (by decide) ?_
                rw [show S184 3 0 = 0 by simp [hS184, hS9, sU, sUs]]
                refine jI_if_eq (tgt := 125) d_M_give_120 (by decide) (by omega) (fun _ => ?_) (fun z => absurd z (by omega))
                refine jx_aload_n d_M_give_125 rfl rfl ?_
                refine jx_iload_n d_M_give_126 rfl rfl ?_
                refine jI_const d_M_give_127 ?_
                refine jx_callV_r (As := [.int (iI (p)), .int (iI (0))]) (v := some (.int (iI (sPlan S184 p 0)))) d_M_give_128 (m_M_planned hB) (v_M_188 hB) (by decide) (jx_c5 hB) hM.1 rfl (Nat.le_of_ble_eq_true rfl) (Nat.le_of_ble_eq_true rfl) (w_M_planned hB hM hIS184 (p := p) (i := 0) (by omega) (by omega) (by omega)) ?_
                rw [show sPlan S184 p 0 = sPlan S p 0 by rw [hS184, hS9]; exact sPlan_c rfl rfl rfl rfl]
                have q190 := sPlan_rg (S := S) (p := p) (i := 0) (by omega)
                refine jx_istore_n d_M_give_131 rfl (Nat.le_of_ble_eq_true rfl) rfl ?_
                try dsimp only [List.set]
                refine jx_iload_n d_M_give_132 rfl rfl ?_
                refine jI_const d_M_give_133 ?_
                refine jI_icmp_eq (tgt := 150) d_M_give_134 (by decide) (by omega) (by omega) (fun hc191 => ?_) (fun hc191 => ?_)
                · refine jI_const d_M_give_150 ?_
                  exact jx_iret d_M_give_151 rfl (jm_i (S := S184) (by rw [hS184, hS9]; unfold oGive; (repeat' split) <;> first | rfl | exact jp2 (by omega) rfl | (exfalso; omega)) hM hF)
                · refine jx_aload_n d_M_give_137 rfl rfl ?_
                  refine mx_ar 20 d_M_give_138 (f_M_59 hB) hM (by decide) ?_
                  refine jx_iload_n d_M_give_141 rfl rfl ?_
                  refine mx_ld (n := 16) d_M_give_142 hM (by decide) rfl ⟨by omega, by omega⟩ ?_
                  rw [show S184 20 (sPlan S p 0) = S 20 (sPlan S p 0) by simp [hS184, hS9, sU, sUs]]
                  have r192 : -1 ≤ S 20 (sPlan S p 0) ∧ S 20 (sPlan S p 0) ≤ 100000 := hI.r 20 (sPlan S p 0) (n := 16) (by decide) rfl ⟨by omega, by omega⟩
                  refine jx_aload_n d_M_give_143 rfl rfl ?_
                  refine mx_sc 2 d_M_give_144 (f_M_117 hB) hM (by decide) ?_
                  rw [show S184 2 0 = S 2 0 by simp [hS184, hS9, sU, sUs]]
                  refine jI_icmp_le (tgt := 152) d_M_give_147 (by decide) (by omega) (by omega) (fun hc193 => ?_) (fun hc193 => ?_)
                  · refine jx_aload_n d_M_give_152 rfl rfl ?_
                    refine mx_ar 13 d_M_give_153 (f_M_38 hB) hM (by decide) ?_
                    refine jx_iload_n d_M_give_156 rfl rfl ?_
                    refine jI_const d_M_give_157 ?_
                    refine mx_st (n := 16) d_M_give_158 hM (by decide) rfl ⟨by omega, by omega⟩ (fun w hM hF1 => ?_)
                    have hF := hF.tr hF1
                    obtain ⟨S194, hS194⟩ : ∃ zz, zz = sU S184 13 (sPlan S p 0) 1 := ⟨_, rfl⟩
                    rw [← hS194] at hM
                    have hIS194 : sI S194 := by rw [hS194]; exact hIS184.u 13 _ _ (fun _ => (show (0 : Int) ≤ 1 ∧ 1 ≤ 2 by constructor <;> omega))
                    have e195 : S194 0 0 = S184 0 0 := by rw [hS194]; rfl
                    have e196 : S194 1 0 = S184 1 0 := by rw [hS194]; rfl
                    have e197 : S194 2 0 = S184 2 0 := by rw [hS194]; rfl
                    have e198 : S194 23 0 = S184 23 0 := by rw [hS194]; rfl
                    refine jx_aload_n d_M_give_159 rfl rfl ?_
                    refine mx_ar 20 d_M_give_160 (f_M_59 hB) hM (by decide) ?_
                    refine jx_iload_n d_M_give_163 rfl rfl ?_
                    refine jx_aload_n d_M_give_164 rfl rfl ?_
                    refine mx_sc 2 d_M_give_165 (f_M_117 hB) hM (by decide) ?_
                    rw [show S194 2 0 = S 2 0 by simp [hS194, hS184, hS9, sU, sUs]]
                    refine mx_st (n := 16) d_M_give_168 hM (by decide) rfl ⟨by omega, by omega⟩ (fun w hM hF1 => ?_)
                    have hF := hF.tr hF1
                    obtain ⟨S199, hS199⟩ : ∃ zz, zz = sU S194 20 (sPlan S p 0) (S 2 0) := ⟨_, rfl⟩
                    rw [← hS199] at hM
                    have hIS199 : sI S199 := by rw [hS199]; exact hIS194.u 20 _ _ (fun _ => (show (-1 : Int) ≤ S 2 0 ∧ S 2 0 ≤ 100000 by constructor <;> omega))
                    have e200 : S199 0 0 = S194 0 0 := by rw [hS199]; rfl
                    have e201 : S199 1 0 = S194 1 0 := by rw [hS199]; rfl
                    have e202 : S199 2 0 = S194 2 0 := by rw [hS199]; rfl
                    have e203 : S199 23 0 = S194 23 0 := by rw [hS199]; rfl
                    refine jx_aload_n d_M_give_169 rfl rfl ?_
                    refine mx_ar 11 d_M_give_170 (f_M_32 hB) hM (by decide) ?_
                    refine jx_iload_n d_M_give_173 rfl rfl ?_
                    refine jx_iload_n d_M_give_174 rfl rfl ?_
                    refine mx_st (n := 4) d_M_give_175 hM (by decide) rfl ⟨by omega, by omega⟩ (fun w hM hF1 => ?_)
                    have hF := hF.tr hF1
                    obtain ⟨S204, hS204⟩ : ∃ zz, zz = sU S199 11 p (sPlan S p 0) := ⟨_, rfl⟩
                    rw [← hS204] at hM
                    have hIS204 : sI S204 := by rw [hS204]; exact hIS199.u 11 _ _ (fun _ => (show (-1 : Int) ≤ sPlan S p 0 ∧ sPlan S p 0 ≤ 15 by constructor <;> omega))
                    have e205 : S204 0 0 = S199 0 0 := by rw [hS204]; rfl
                    have e206 : S204 1 0 = S199 1 0 := by rw [hS204]; rfl
                    have e207 : S204 2 0 = S199 2 0 := by rw [hS204]; rfl
                    have e208 : S204 23 0 = S199 23 0 := by rw [hS204]; rfl
                    refine jx_aload_n d_M_give_176 rfl rfl ?_
                    refine mx_ar 9 d_M_give_177 (f_M_25 hB) hM (by decide) ?_
                    refine jx_iload_n d_M_give_180 rfl rfl ?_
                    refine jx_aload_n d_M_give_181 rfl rfl ?_
                    refine mx_ar 17 d_M_give_182 (f_M_50 hB) hM (by decide) ?_
                    refine jx_iload_n d_M_give_185 rfl rfl ?_
                    refine mx_ld (n := 16) d_M_give_186 hM (by decide) rfl ⟨by omega, by omega⟩ ?_
                    rw [show S204 17 (sPlan S p 0) = S 17 (sPlan S p 0) by simp [hS204, hS199, hS194, hS184, hS9, sU, sUs]]
                    have r209 : 0 ≤ S 17 (sPlan S p 0) ∧ S 17 (sPlan S p 0) ≤ 3 := hI.r 17 (sPlan S p 0) (n := 16) (by decide) rfl ⟨by omega, by omega⟩
                    refine mx_st (n := 4) d_M_give_187 hM (by decide) rfl ⟨by omega, by omega⟩ (fun w hM hF1 => ?_)
                    have hF := hF.tr hF1
                    obtain ⟨S210, hS210⟩ : ∃ zz, zz = sU S204 9 p (S 17 (sPlan S p 0)) := ⟨_, rfl⟩
                    rw [← hS210] at hM
                    have hIS210 : sI S210 := by rw [hS210]; exact hIS204.u 9 _ _ (fun _ => (show (0 : Int) ≤ S 17 (sPlan S p 0) ∧ S 17 (sPlan S p 0) ≤ 3 by constructor <;> omega))
                    have e211 : S210 0 0 = S204 0 0 := by rw [hS210]; rfl
                    have e212 : S210 1 0 = S204 1 0 := by rw [hS210]; rfl
                    have e213 : S210 2 0 = S204 2 0 := by rw [hS210]; rfl
                    have e214 : S210 23 0 = S204 23 0 := by rw [hS210]; rfl
                    refine jx_iload_n d_M_give_188 rfl rfl ?_
                    exact jx_iret d_M_give_189 rfl (jm_i (S := S210) (by rw [hS210, hS204, hS199, hS194, hS184, hS9]; unfold oGive; (repeat' split) <;> first | rfl | exact jp2 (by omega) rfl | (exfalso; omega)) hM hF)
                  · refine jI_const d_M_give_150 ?_
                    exact jx_iret d_M_give_151 rfl (jm_i (S := S184) (by rw [hS184, hS9]; unfold oGive; (repeat' split) <;> first | rfl | exact jp2 (by omega) rfl | (exfalso; omega)) hM hF)
          · refine jI_const d_M_give_78 ?_
            refine jx_goto (tgt := 83) d_M_give_79 (by decide) ?_
            refine jx_istore_n d_M_give_83 rfl (Nat.le_of_ble_eq_true rfl) rfl ?_
            try dsimp only [List.set]
            refine jx_aload_n d_M_give_84 rfl rfl ?_
            refine jx_aload_n d_M_give_85 rfl rfl ?_
            refine mx_ar 10 d_M_give_86 (f_M_28 hB) hM (by decide) ?_
            refine jx_iload_n d_M_give_89 rfl rfl ?_
            refine mx_zld d_M_give_90 hM ⟨by omega, by omega⟩ ?_
            rw [show S9 10 p = S 10 p by simp [hS9, sU, sUs]]
            have r215 : 0 ≤ S 10 p ∧ S 10 p ≤ 1 := hI.r 10 p (n := 4) (by decide) rfl ⟨by omega, by omega⟩
            refine jI_if_eq (tgt := 108) d_M_give_91 (by decide) (by omega) (fun hc216 => ?_) (fun hc216 => ?_)
            · refine jI_const d_M_give_108 ?_
              refine jx_goto (tgt := 113) d_M_give_109 (by decide) ?_
              refine mx_psc d_M_give_113 (f_M_83 hB) (t_5_3 hB) hM (by decide) (fun w hM hF1 => ?_)
              have hF := hF.tr hF1
              obtain ⟨S217, hS217⟩ : ∃ zz, zz = sU S9 3 0 2 := ⟨_, rfl⟩
              rw [← hS217] at hM
              have hIS217 : sI S217 := by rw [hS217]; exact hIS9.u 3 _ _ (fun z => absurd z (by decide))
              have e218 : S217 0 0 = S9 0 0 := by rw [hS217]; rfl
              have e219 : S217 1 0 = S9 1 0 := by rw [hS217]; rfl
              have e220 : S217 2 0 = S9 2 0 := by rw [hS217]; rfl
              have e221 : S217 23 0 = S9 23 0 := by rw [hS217]; rfl
              refine jx_aload_n d_M_give_116 rfl rfl ?_
              refine mx_sc 3 d_M_give_117 (f_M_83 hB) hM (by decide) ?_
              rw [show S217 3 0 = 2 by simp [hS217, hS9, sU, sUs]]
              refine jI_if_eq (tgt := 125) d_M_give_120 (by decide) (by omega) (fun z => absurd z (by omega)) (fun _ => ?_)
              refine jI_const d_M_give_123 ?_
              exact jx_iret d_M_give_124 rfl (jm_i (S := S217) (by rw [hS217, hS9]; unfold oGive; (repeat' split) <;> first | rfl | exact jp2 (by omega) rfl | (exfalso; omega)) hM hF)
            · refine jx_aload_n d_M_give_94 rfl rfl ?_
              refine mx_ar 11 d_M_give_95 (f_M_32 hB) hM (by decide) ?_
              refine jx_iload_n d_M_give_98 rfl rfl ?_
              refine mx_ld (n := 4) d_M_give_99 hM (by decide) rfl ⟨by omega, by omega⟩ ?_
              rw [show S9 11 p = S 11 p by simp [hS9, sU, sUs]]
              have r223 : -1 ≤ S 11 p ∧ S 11 p ≤ 15 := hI.r 11 p (n := 4) (by decide) rfl ⟨by omega, by omega⟩
              refine jI_const d_M_give_100 ?_
              refine jI_icmp_ne (tgt := 108) d_M_give_101 (by decide) (by omega) (by omega) (fun hc224 => ?_) (fun hc224 => ?_)
              · refine jI_const d_M_give_108 ?_
                refine jx_goto (tgt := 113) d_M_give_109 (by decide) ?_
                refine mx_psc d_M_give_113 (f_M_83 hB) (t_5_3 hB) hM (by decide) (fun w hM hF1 => ?_)
                have hF := hF.tr hF1
                obtain ⟨S225, hS225⟩ : ∃ zz, zz = sU S9 3 0 2 := ⟨_, rfl⟩
                rw [← hS225] at hM
                have hIS225 : sI S225 := by rw [hS225]; exact hIS9.u 3 _ _ (fun z => absurd z (by decide))
                have e226 : S225 0 0 = S9 0 0 := by rw [hS225]; rfl
                have e227 : S225 1 0 = S9 1 0 := by rw [hS225]; rfl
                have e228 : S225 2 0 = S9 2 0 := by rw [hS225]; rfl
                have e229 : S225 23 0 = S9 23 0 := by rw [hS225]; rfl
                refine jx_aload_n d_M_give_116 rfl rfl ?_
                refine mx_sc 3 d_M_give_117 (f_M_83 hB) hM (by decide) ?_
                rw [show S225 3 0 = 2 by simp [hS225, hS9, sU, sUs]]
                refine jI_if_eq (tgt := 125) d_M_give_120 (by decide) (by omega) (fun z => absurd z (by omega)) (fun _ => ?_)
                refine jI_const d_M_give_123 ?_
                exact jx_iret d_M_give_124 rfl (jm_i (S := S225) (by rw [hS225, hS9]; unfold oGive; (repeat' split) <;> first | rfl | exact jp2 (by omega) rfl | (exfalso; omega)) hM hF)
              · refine jx_iload_n d_M_give_104 rfl rfl ?_
                refine jI_if_eq (tgt := 112) d_M_give_105 (by decide) (by omega) (fun z => absurd z (by omega)) (fun _ => ?_)
                refine jI_const d_M_give_108 ?_
                refine jx_goto (tgt := 113) d_M_give_109 (by decide) ?_
                refine mx_psc d_M_give_113 (f_M_83 hB) (t_5_3 hB) hM (by decide) (fun w hM hF1 => ?_)
                have hF := hF.tr hF1
                obtain ⟨S232, hS232⟩ : ∃ zz, zz = sU S9 3 0 2 := ⟨_, rfl⟩
                rw [← hS232] at hM
                have hIS232 : sI S232 := by rw [hS232]; exact hIS9.u 3 _ _ (fun z => absurd z (by decide))
                have e233 : S232 0 0 = S9 0 0 := by rw [hS232]; rfl
                have e234 : S232 1 0 = S9 1 0 := by rw [hS232]; rfl
                have e235 : S232 2 0 = S9 2 0 := by rw [hS232]; rfl
                have e236 : S232 23 0 = S9 23 0 := by rw [hS232]; rfl
                refine jx_aload_n d_M_give_116 rfl rfl ?_
                refine mx_sc 3 d_M_give_117 (f_M_83 hB) hM (by decide) ?_
                rw [show S232 3 0 = 2 by simp [hS232, hS9, sU, sUs]]
                refine jI_if_eq (tgt := 125) d_M_give_120 (by decide) (by omega) (fun z => absurd z (by omega)) (fun _ => ?_)
                refine jI_const d_M_give_123 ?_
                exact jx_iret d_M_give_124 rfl (jm_i (S := S232) (by rw [hS232, hS9]; unfold oGive; (repeat' split) <;> first | rfl | exact jp2 (by omega) rfl | (exfalso; omega)) hM hF)
theorem l_M_known {E : jx_E} {l : Launch} {d : Nat} {w : jx_W} {S : mS} {m : Nat} {A : Nat → Nat} {p k : Int} (hB : jx_B E) (hM : mR E S w m A) (hI : sI S) (hT : 0 ≤ S 1 0 ∧ S 1 0 ≤ 16) (hp : iR p) : ∀ (j : Nat) (n : Int), n = sCnt (fun i => decide (sPlan S p i ≠ -1)) n → 0 ≤ n ∧ n ≤ 16 → 16 - n < j → jx_G E l Y_M_known (d + 1) (jx_eq (.inr (some (.int (iI (sKn S p))))) w) 120 [some (.ref m), some (.int (iI p)), some (.int (iI k)), some (.int (iI n))] [] w := by
  intro j
  induction j with
  | zero => intro n hn h1 hz; exfalso; omega
  | succ j ih =>
    intro n hn h1 hz
    refine jx_iload_n d_M_known_120 rfl rfl ?_
    refine jI_bipush d_M_known_121 (by decide) ?_
    refine jI_icmp_ge (tgt := 142) d_M_known_123 (by decide) (by omega) (by omega) (fun hc1 => ?_) (fun hc1 => ?_)
    · refine jx_iload_n d_M_known_142 rfl rfl ?_
      exact jx_iret d_M_known_143 rfl ⟨jr_i (by first | (unfold sKn; rw [sCnt_end (n := n) (by omega) (by omega) (fun i hi => decide_eq_false (fun z => z (sPlan_stay (i := n) (by omega) (by omega) (by omega))))]; exact hn) | (have e : n = 16 := by omega); rw [e] at hn; rw [e]; exact hn), rfl⟩
    · refine jx_aload_n d_M_known_126 rfl rfl ?_
      refine jx_iload_n d_M_known_127 rfl rfl ?_
      refine jx_iload_n d_M_known_128 rfl rfl ?_
      refine jx_callV_r (As := [.int (iI (p)), .int (iI (n))]) (v := some (.int (iI (sPlan S p n)))) d_M_known_129 (m_M_planned hB) (v_M_188 hB) (by decide) (jx_c5 hB) hM.1 rfl (Nat.le_of_ble_eq_true rfl) (Nat.le_of_ble_eq_true rfl) (w_M_planned hB hM hI (p := p) (i := n) (by omega) (by omega) (by omega)) ?_
      have q2 := sPlan_rg (S := S) (p := p) (i := n) (by omega)
      refine jI_const d_M_known_132 ?_
      refine jI_icmp_eq (tgt := 142) d_M_known_133 (by decide) (by omega) (by omega) (fun hc3 => ?_) (fun hc3 => ?_)
      · refine jx_iload_n d_M_known_142 rfl rfl ?_
        exact jx_iret d_M_known_143 rfl ⟨jr_i (by first | (unfold sKn; rw [sCnt_end (n := n) (by omega) (by omega) (fun i hi => decide_eq_false (fun z => z (sPlan_stay (i := n) (by omega) (by omega) (by omega))))]; exact hn) | (have e : n = 16 := by omega); rw [e] at hn; rw [e]; exact hn), rfl⟩
      · refine jI_inc d_M_known_136 rfl rfl ?_
        try dsimp only [List.set]
        refine jx_goto (tgt := 120) d_M_known_139 (by decide) ?_
        exact ih (n + 1) (by rw [sCnt_s _ (by omega), ← hn, if_pos (decide_eq_true (by omega))]) (by omega) (by omega)
theorem w_M_known {E : jx_E} {l : Launch} {d : Nat} {w : jx_W} {S : mS} {m : Nat} {A : Nat → Nat} {p k : Int} (hB : jx_B E) (hM : mR E S w m A) (hI : sI S) (hP : 0 ≤ S 0 0 ∧ S 0 0 ≤ 4) (hT : 0 ≤ S 1 0 ∧ S 1 0 ≤ 16) (h1 : iR p) (h2 : iR k) : jx_G E l Y_M_known (d + 2) (jm_po E m A w (some (.int (iI (oKnown S p k).1))) (oKnown S p k).2) 0 (jx_ent [.ref m, .int (iI p), .int (iI k)] 4) [] w := by
  have hF : mF m A w w := mF.rf
  generalize hw0 : w = w0 at hF ⊢
  rw [hw0] at hM
  have hF : mF m A w0 w0 := mF.rf
  show jx_G E l Y_M_known (d + 2) (jm_po E m A w0 _ _) 0 [some (.ref m), some (.int (iI p)), some (.int (iI k)), none] [] w0
  refine jx_aload_n d_M_known_0 rfl rfl ?_
  refine jx_aload_n d_M_known_1 rfl rfl ?_
  refine jx_iload_n d_M_known_2 rfl rfl ?_
  refine jx_callV_r (As := [.int (iI (p))]) d_M_known_3 (m_M_isPerson hB) (v_M_98 hB) (by decide) (jx_c5 hB) hM.1 rfl (Nat.le_of_ble_eq_true rfl) (Nat.le_of_ble_eq_true rfl) (w_M_isPerson hB hM hI (x := p) (by omega) (by omega)) ?_
  have q1 : sIn (p) 0 (S 0 0 - 1) = 0 ∧ ¬ (0 ≤ p ∧ p ≤ S 0 0 - 1) ∨ sIn (p) 0 (S 0 0 - 1) = 1 ∧ (0 ≤ p ∧ p ≤ S 0 0 - 1) := by unfold sIn; split <;> omega
  refine jI_if_ne (tgt := 13) d_M_known_6 (by decide) (by omega) (fun hc2 => ?_) (fun hc2 => ?_)
  · refine jx_iload_n d_M_known_13 rfl rfl ?_
    refine jI_const d_M_known_14 ?_
    refine jI_const d_M_known_15 ?_
    refine jx_callS_r (As := [.int (iI (k)), .int (iI (0)), .int (iI (5))]) d_M_known_16 (m_M_within hB) (s_M_90 hB) rfl (Nat.le_of_ble_eq_true rfl) (Nat.le_of_ble_eq_true rfl) (w_M_within hB (x := k) (a := 0) (b := 5) (by omega) (by omega) (by omega)) ?_
    have q3 : sIn (k) (0) (5) = 0 ∧ ¬ (0 ≤ k ∧ k ≤ 5) ∨ sIn (k) (0) (5) = 1 ∧ (0 ≤ k ∧ k ≤ 5) := by unfold sIn; split <;> omega
    refine jI_if_ne (tgt := 26) d_M_known_19 (by decide) (by omega) (fun hc4 => ?_) (fun hc4 => ?_)
    · refine jI_const d_M_known_26 ?_
      refine mx_psc d_M_known_27 (f_M_83 hB) (t_5_3 hB) hM (by decide) (fun w hM hF1 => ?_)
      have hF := hF.tr hF1
      obtain ⟨S5, hS5⟩ : ∃ zz, zz = sU S 3 0 0 := ⟨_, rfl⟩
      rw [← hS5] at hM
      have hIS5 : sI S5 := by rw [hS5]; exact hI.u 3 _ _ (fun z => absurd z (by decide))
      have e6 : S5 0 0 = S 0 0 := by rw [hS5]; rfl
      have e7 : S5 1 0 = S 1 0 := by rw [hS5]; rfl
      have e8 : S5 2 0 = S 2 0 := by rw [hS5]; rfl
      have e9 : S5 23 0 = S 23 0 := by rw [hS5]; rfl
      refine jx_aload_n d_M_known_30 rfl rfl ?_
      refine mx_sc 3 d_M_known_31 (f_M_83 hB) hM (by decide) ?_
      rw [show S5 3 0 = 0 by simp [hS5, sU, sUs]]
      refine jI_if_eq (tgt := 39) d_M_known_34 (by decide) (by omega) (fun _ => ?_) (fun z => absurd z (by omega))
      refine jx_iload_n d_M_known_39 rfl rfl ?_
      by_cases hs110 : k = 0
      · refine jx_tableIn (off := 36) (tgt := 76) d_M_known_40 (by rw [iI_toInt (by omega)]; omega) (by rw [iI_toInt (by omega)]; omega) (by rw [iI_toInt (by omega), hs110]; rfl) (by decide) ?_
        refine jx_aload_n d_M_known_76 rfl rfl ?_
        refine mx_ar 10 d_M_known_77 (f_M_28 hB) hM (by decide) ?_
        refine jx_iload_n d_M_known_80 rfl rfl ?_
        refine mx_zld d_M_known_81 hM ⟨by omega, by omega⟩ ?_
        rw [show S5 10 p = S 10 p by simp [hS5, sU, sUs]]
        have r12 : 0 ≤ S 10 p ∧ S 10 p ≤ 1 := hI.r 10 p (n := 4) (by decide) rfl ⟨by omega, by omega⟩
        refine jI_if_eq (tgt := 89) d_M_known_82 (by decide) (by omega) (fun hc13 => ?_) (fun hc13 => ?_)
        · refine jI_const d_M_known_89 ?_
          exact jx_iret d_M_known_90 rfl (jm_i (S := S5) (by rw [hS5]; unfold oKnown; (repeat' split) <;> first | rfl | exact jp2 (by omega) rfl | (exfalso; omega)) hM hF)
        · refine jI_const d_M_known_85 ?_
          refine jx_goto (tgt := 90) d_M_known_86 (by decide) ?_
          exact jx_iret d_M_known_90 rfl (jm_i (S := S5) (by rw [hS5]; unfold oKnown; (repeat' split) <;> first | rfl | exact jp2 (by omega) rfl | (exfalso; omega)) hM hF)
      by_cases hs111 : k = 1
      · refine jx_tableIn (off := 51) (tgt := 91) d_M_known_40 (by rw [iI_toInt (by omega)]; omega) (by rw [iI_toInt (by omega)]; omega) (by rw [iI_toInt (by omega), hs111]; rfl) (by decide) ?_
        refine jx_aload_n d_M_known_91 rfl rfl ?_
        refine mx_ar 4 d_M_known_92 (f_M_7 hB) hM (by decide) ?_
        refine jx_iload_n d_M_known_95 rfl rfl ?_
        refine mx_ld (n := 4) d_M_known_96 hM (by decide) rfl ⟨by omega, by omega⟩ ?_
        rw [show S5 4 p = S 4 p by simp [hS5, sU, sUs]]
        have r14 : 0 ≤ S 4 p ∧ S 4 p ≤ 255 := hI.r 4 p (n := 4) (by decide) rfl ⟨by omega, by omega⟩
        exact jx_iret d_M_known_97 rfl (jm_i (S := S5) (by rw [hS5]; unfold oKnown; (repeat' split) <;> first | rfl | exact jp2 (by omega) rfl | (exfalso; omega)) hM hF)
      by_cases hs112 : k = 2
      · refine jx_tableIn (off := 58) (tgt := 98) d_M_known_40 (by rw [iI_toInt (by omega)]; omega) (by rw [iI_toInt (by omega)]; omega) (by rw [iI_toInt (by omega), hs112]; rfl) (by decide) ?_
        refine jx_aload_n d_M_known_98 rfl rfl ?_
        refine mx_ar 9 d_M_known_99 (f_M_25 hB) hM (by decide) ?_
        refine jx_iload_n d_M_known_102 rfl rfl ?_
        refine mx_ld (n := 4) d_M_known_103 hM (by decide) rfl ⟨by omega, by omega⟩ ?_
        rw [show S5 9 p = S 9 p by simp [hS5, sU, sUs]]
        have r15 : 0 ≤ S 9 p ∧ S 9 p ≤ 3 := hI.r 9 p (n := 4) (by decide) rfl ⟨by omega, by omega⟩
        exact jx_iret d_M_known_104 rfl (jm_i (S := S5) (by rw [hS5]; unfold oKnown; (repeat' split) <;> first | rfl | exact jp2 (by omega) rfl | (exfalso; omega)) hM hF)
      by_cases hs113 : k = 3
      · refine jx_tableIn (off := 65) (tgt := 105) d_M_known_40 (by rw [iI_toInt (by omega)]; omega) (by rw [iI_toInt (by omega)]; omega) (by rw [iI_toInt (by omega), hs113]; rfl) (by decide) ?_
        refine jx_aload_n d_M_known_105 rfl rfl ?_
        refine mx_ar 11 d_M_known_106 (f_M_32 hB) hM (by decide) ?_
        refine jx_iload_n d_M_known_109 rfl rfl ?_
        refine mx_ld (n := 4) d_M_known_110 hM (by decide) rfl ⟨by omega, by omega⟩ ?_
        rw [show S5 11 p = S 11 p by simp [hS5, sU, sUs]]
        have r16 : -1 ≤ S 11 p ∧ S 11 p ≤ 15 := hI.r 11 p (n := 4) (by decide) rfl ⟨by omega, by omega⟩
        exact jx_iret d_M_known_111 rfl (jm_i (S := S5) (by rw [hS5]; unfold oKnown; (repeat' split) <;> first | rfl | exact jp2 (by omega) rfl | (exfalso; omega)) hM hF)
      by_cases hs114 : k = 4
      · refine jx_tableIn (off := 72) (tgt := 112) d_M_known_40 (by rw [iI_toInt (by omega)]; omega) (by rw [iI_toInt (by omega)]; omega) (by rw [iI_toInt (by omega), hs114]; rfl) (by decide) ?_
        refine jx_aload_n d_M_known_112 rfl rfl ?_
        refine jx_iload_n d_M_known_113 rfl rfl ?_
        refine jx_callV_r (As := [.int (iI (p))]) (v := some (.int (iI (sDone S5 p)))) d_M_known_114 (m_M_doneBy hB) (v_M_191 hB) (by decide) (jx_c5 hB) hM.1 rfl (Nat.le_of_ble_eq_true rfl) (Nat.le_of_ble_eq_true rfl) (w_M_doneBy hB hM hIS5 (p := p) (by omega) (by omega)) ?_
        rw [show sDone S5 p = sDone S p by rw [hS5]; rfl]
        have q17 := sDone_rg (S := S) (p := p) (by omega)
        exact jx_iret d_M_known_117 rfl (jm_i (S := S5) (by rw [hS5]; unfold oKnown; (repeat' split) <;> first | rfl | exact jp2 (by omega) rfl | (exfalso; omega)) hM hF)
      refine jx_tableOut (tgt := 118) d_M_known_40 (by rw [iI_toInt (by omega)]; omega) (by decide) ?_
      refine jI_const d_M_known_118 ?_
      refine jx_istore_n d_M_known_119 rfl (Nat.le_of_ble_eq_true rfl) rfl ?_
      try dsimp only [List.set]
      exact jm_w (S := S5) (l_M_known hB hM hIS5 (by omega) (by omega) 17 0 (sCnt_0 _).symm (by omega) (by omega)) (by rw [hS5]; unfold oKnown; (repeat' split) <;> first | exact jp2 (sKn_c rfl rfl rfl rfl).symm rfl | (exfalso; omega)) hM hF
    · refine jI_const d_M_known_22 ?_
      refine jx_goto (tgt := 27) d_M_known_23 (by decide) ?_
      refine mx_psc d_M_known_27 (f_M_83 hB) (t_5_3 hB) hM (by decide) (fun w hM hF1 => ?_)
      have hF := hF.tr hF1
      obtain ⟨S18, hS18⟩ : ∃ zz, zz = sU S 3 0 2 := ⟨_, rfl⟩
      rw [← hS18] at hM
      have hIS18 : sI S18 := by rw [hS18]; exact hI.u 3 _ _ (fun z => absurd z (by decide))
      have e19 : S18 0 0 = S 0 0 := by rw [hS18]; rfl
      have e20 : S18 1 0 = S 1 0 := by rw [hS18]; rfl
      have e21 : S18 2 0 = S 2 0 := by rw [hS18]; rfl
      have e22 : S18 23 0 = S 23 0 := by rw [hS18]; rfl
      refine jx_aload_n d_M_known_30 rfl rfl ?_
      refine mx_sc 3 d_M_known_31 (f_M_83 hB) hM (by decide) ?_
      rw [show S18 3 0 = 2 by simp [hS18, sU, sUs]]
      refine jI_if_eq (tgt := 39) d_M_known_34 (by decide) (by omega) (fun z => absurd z (by omega)) (fun _ => ?_)
      refine jI_const d_M_known_37 ?_
      exact jx_iret d_M_known_38 rfl (jm_i (S := S18) (by rw [hS18]; unfold oKnown; (repeat' split) <;> first | rfl | exact jp2 (by omega) rfl | (exfalso; omega)) hM hF)
  · refine jI_const d_M_known_9 ?_
    refine jx_goto (tgt := 27) d_M_known_10 (by decide) ?_
    refine mx_psc d_M_known_27 (f_M_83 hB) (t_5_3 hB) hM (by decide) (fun w hM hF1 => ?_)
    have hF := hF.tr hF1
    obtain ⟨S24, hS24⟩ : ∃ zz, zz = sU S 3 0 1 := ⟨_, rfl⟩
    rw [← hS24] at hM
    have hIS24 : sI S24 := by rw [hS24]; exact hI.u 3 _ _ (fun z => absurd z (by decide))
    have e25 : S24 0 0 = S 0 0 := by rw [hS24]; rfl
    have e26 : S24 1 0 = S 1 0 := by rw [hS24]; rfl
    have e27 : S24 2 0 = S 2 0 := by rw [hS24]; rfl
    have e28 : S24 23 0 = S 23 0 := by rw [hS24]; rfl
    refine jx_aload_n d_M_known_30 rfl rfl ?_
    refine mx_sc 3 d_M_known_31 (f_M_83 hB) hM (by decide) ?_
    rw [show S24 3 0 = 1 by simp [hS24, sU, sUs]]
    refine jI_if_eq (tgt := 39) d_M_known_34 (by decide) (by omega) (fun z => absurd z (by omega)) (fun _ => ?_)
    refine jI_const d_M_known_37 ?_
    exact jx_iret d_M_known_38 rfl (jm_i (S := S24) (by rw [hS24]; unfold oKnown; (repeat' split) <;> first | rfl | exact jp2 (by omega) rfl | (exfalso; omega)) hM hF)
