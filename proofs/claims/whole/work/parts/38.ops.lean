/-! 38.ops: the reference's calls that change little -/
def sUs : Unit := ()
theorem jp2 {a b : Int} {X Y : mS} (h : a = b) (h2 : X = Y) : (a, X) = (b, Y) := by rw [h, h2]
/-- an answer and a state -/
def jm_po (E : jx_E) (m : Nat) (A : Nat → Nat) (w : jx_W) (v : Option Value) (S : mS) : jx_R → jx_W → Prop := fun r w' => r = .inr v ∧ mR E S w' m A ∧ mF m A w w'
theorem jm_i {E : jx_E} {m : Nat} {A : Nat → Nat} {w0 w : jx_W} {o : Int × mS} {v : Int} {S : mS} (e : o = (v, S)) (hM : mR E S w m A) (hF : mF m A w0 w) : jm_po E m A w0 (some (.int (iI o.1))) o.2 (.inr (some (.int (iI v)))) w := by
  subst e
  exact ⟨rfl, hM, hF⟩
theorem jm_v {E : jx_E} {m : Nat} {A : Nat → Nat} {w0 w : jx_W} {o S : mS} (e : o = S) (hM : mR E S w m A) (hF : mF m A w0 w) : jm_po E m A w0 none o (.inr none) w := by
  subst e
  exact ⟨rfl, hM, hF⟩
theorem jm_callV {E : jx_E} {l : Launch} {Y Z : jx_Y} {d n : Nat} {Q : jx_R → jx_W → Prop} {pc : Nat} {L : List (Option Value)} {rest As : List Value} {w : jx_W} {z : MethodName} {idx m : Nat} {A : Nat → Nat} {v : Option Value} {S : mS} (hd : decode Y.2.2.1 pc = .ok (.invokevirtual idx, 3)) (hM : jx_M E z Z n) (hV : jx_V E Y.1 idx z "TaskShareModel") (hB : jx_B E) (hk : jx_k w m = 6) (hn : As.length = n) (hlen : (jx_fl (.ref m :: As)).length ≤ Z.2.2.2.1) (hW : (rest.map fun v => v.category).sum ≤ 24)
    (hz : jx_G E l Z d (jm_po E m A w v S) 0 (jx_ent (.ref m :: As) Z.2.2.2.1) [] w) (kr : ∀ w', mR E S w' m A → mF m A w w' → jx_G E l Y (d + 1) Q (pc + 3) L (v.toList ++ rest) w') : jx_G E l Y (d + 1) Q pc L (As.reverse ++ .ref m :: rest) w :=
  jx_callV hd hM hV (by decide) (jx_c5 hB) hk hn hlen hW hz (fun v' w' h => by obtain ⟨h1, h2, h3⟩ := h; cases h1; exact kr w' h2 h3) (fun x a w' h => by obtain ⟨h1, -⟩ := h; cases h1)
def oFree (S : mS) (t : Int) : mS := sU (sU (sU S 13 t 0) 19 t (-1)) 20 t (-1)
def oPerson (S : mS) (a b c z : Int) : Int × mS :=
  if (0 ≤ a ∧ a ≤ 255) ∧ (0 ≤ b ∧ b ≤ 100000) ∧ (0 ≤ c ∧ c ≤ 100000) ∧ b < c ∧ (0 ≤ z ∧ z ≤ 3) then
    if S 0 0 = 4 then (0, sU S 3 0 2)
    else (S 0 0, sU (sU (sU (sU (sU (sU (sU (sU (sU (sU S 3 0 0) 4 (S 0 0) a) 5 (S 0 0) b) 6 (S 0 0) c) 7 (S 0 0) 0) 8 (S 0 0) 0) 9 (S 0 0) z) 10 (S 0 0) 1) 11 (S 0 0) (-1)) 0 0 (S 0 0 + 1))
  else (0, sU S 3 0 1)
def oTask (S : mS) (a b c z : Int) : Int × mS :=
  if (0 ≤ a ∧ a ≤ 7) ∧ (1 ≤ b ∧ b ≤ 5000) ∧ (0 ≤ c ∧ c ≤ 100000) ∧ (0 ≤ z ∧ z ≤ 3) then
    if S 1 0 = 16 then (0, sU S 3 0 2)
    else (S 1 0, sU (sU (sU (sU (sU (sU (sU (sU (sU (sU S 3 0 0) 13 (S 1 0) 0) 14 (S 1 0) a) 15 (S 1 0) b) 16 (S 1 0) c) 17 (S 1 0) z) 18 (S 1 0) 0) 19 (S 1 0) (-1)) 20 (S 1 0) (-1)) 1 0 (S 1 0 + 1))
  else (0, sU S 3 0 1)
def oRest (S : mS) (p a b : Int) : mS :=
  if 0 ≤ p ∧ p ≤ S 0 0 - 1 then
    if a < S 5 p ∨ S 6 p < b ∨ b < a then sU S 3 0 2 else sU (sU (sU S 3 0 0) 7 p a) 8 p b
  else sU S 3 0 1
def oWay (S : mS) (a b c : Int) : mS :=
  if (0 ≤ a ∧ a ≤ 3) ∧ (0 ≤ b ∧ b ≤ 3) ∧ a ≠ b ∧ (0 ≤ c ∧ c ≤ 1000) then sU (sU (sU S 3 0 0) 12 (4 * a + b) c) 12 (4 * b + a) c else sU S 3 0 1
def oPass (S : mS) (t : Int) : mS := if t < S 2 0 ∨ 100000 < t then sU S 3 0 1 else sU (sU S 3 0 0) 2 0 t
def oExact (S : mS) : Int × mS := (S 21 0, sU S 3 0 0)
theorem w_M_free {E : jx_E} {l : Launch} {d : Nat} {w : jx_W} {S : mS} {m : Nat} {A : Nat → Nat} {t : Int} (hB : jx_B E) (hM : mR E S w m A) (hI : sI S) (ht : 0 ≤ t ∧ t < 16) : jx_G E l Y_M_free (d) (jm_po E m A w none (oFree S t)) 0 (jx_ent [.ref m, .int (iI t)] 2) [] w := by
  have hF : mF m A w w := mF.rf
  generalize hw0 : w = w0 at hF ⊢
  rw [hw0] at hM
  have hF : mF m A w0 w0 := mF.rf
  show jx_G E l Y_M_free (d) (jm_po E m A w0 _ _) 0 [some (.ref m), some (.int (iI t))] [] w0
  refine jx_aload_n d_M_free_0 rfl rfl ?_
  refine mx_ar 13 d_M_free_1 (f_M_38 hB) hM (by decide) ?_
  refine jx_iload_n d_M_free_4 rfl rfl ?_
  refine jI_const d_M_free_5 ?_
  refine mx_st (n := 16) d_M_free_6 hM (by decide) rfl ⟨by omega, by omega⟩ (fun w hM hF1 => ?_)
  have hF := hF.tr hF1
  obtain ⟨S1, hS1⟩ : ∃ zz, zz = sU S 13 t 0 := ⟨_, rfl⟩
  rw [← hS1] at hM
  refine jx_aload_n d_M_free_7 rfl rfl ?_
  refine mx_ar 19 d_M_free_8 (f_M_56 hB) hM (by decide) ?_
  refine jx_iload_n d_M_free_11 rfl rfl ?_
  refine jI_const d_M_free_12 ?_
  refine mx_st (n := 16) d_M_free_13 hM (by decide) rfl ⟨by omega, by omega⟩ (fun w hM hF1 => ?_)
  have hF := hF.tr hF1
  obtain ⟨S2, hS2⟩ : ∃ zz, zz = sU S1 19 t ((-1)) := ⟨_, rfl⟩
  rw [← hS2] at hM
  refine jx_aload_n d_M_free_14 rfl rfl ?_
  refine mx_ar 20 d_M_free_15 (f_M_59 hB) hM (by decide) ?_
  refine jx_iload_n d_M_free_18 rfl rfl ?_
  refine jI_const d_M_free_19 ?_
  refine mx_st (n := 16) d_M_free_20 hM (by decide) rfl ⟨by omega, by omega⟩ (fun w hM hF1 => ?_)
  have hF := hF.tr hF1
  obtain ⟨S3, hS3⟩ : ∃ zz, zz = sU S2 20 t ((-1)) := ⟨_, rfl⟩
  rw [← hS3] at hM
  exact jx_vret d_M_free_21 rfl (jm_v (S := S3) (by rw [hS3, hS2, hS1]; unfold oFree; (repeat' split) <;> first | rfl | exact jp2 (by omega) rfl | (exfalso; omega)) hM hF)
theorem w_M_person {E : jx_E} {l : Launch} {d : Nat} {w : jx_W} {S : mS} {m : Nat} {A : Nat → Nat} {a b c z : Int} (hB : jx_B E) (hM : mR E S w m A) (hI : sI S) (hP : 0 ≤ S 0 0 ∧ S 0 0 ≤ 4) (h1 : iR a) (h2 : iR b) (h3 : iR c) (h4 : iR z) : jx_G E l Y_M_person (d + 1) (jm_po E m A w (some (.int (iI (oPerson S a b c z).1))) (oPerson S a b c z).2) 0 (jx_ent [.ref m, .int (iI a), .int (iI b), .int (iI c), .int (iI z)] 6) [] w := by
  have hF : mF m A w w := mF.rf
  generalize hw0 : w = w0 at hF ⊢
  rw [hw0] at hM
  have hF : mF m A w0 w0 := mF.rf
  show jx_G E l Y_M_person (d + 1) (jm_po E m A w0 _ _) 0 [some (.ref m), some (.int (iI a)), some (.int (iI b)), some (.int (iI c)), some (.int (iI z)), none] [] w0
  refine jx_iload_n d_M_person_0 rfl rfl ?_
  refine jI_const d_M_person_1 ?_
  refine jI_sipush d_M_person_2 (by decide) ?_
  refine jx_callS_r (As := [.int (iI (a)), .int (iI (0)), .int (iI (255))]) d_M_person_5 (m_M_within hB) (s_M_90 hB) rfl (Nat.le_of_ble_eq_true rfl) (Nat.le_of_ble_eq_true rfl) (w_M_within hB (x := a) (a := 0) (b := 255) (by omega) (by omega) (by omega)) ?_
  have q1 : sIn (a) (0) (255) = 0 ∧ ¬ (0 ≤ a ∧ a ≤ 255) ∨ sIn (a) (0) (255) = 1 ∧ (0 ≤ a ∧ a ≤ 255) := by unfold sIn; split <;> omega
  refine jI_if_eq (tgt := 50) d_M_person_8 (by decide) (by omega) (fun hc2 => ?_) (fun hc2 => ?_)
  · refine jI_const d_M_person_50 ?_
    refine jx_istore d_M_person_51 (Nat.le_of_ble_eq_true rfl) rfl ?_
    try dsimp only [List.set]
    refine jx_aload_n d_M_person_53 rfl rfl ?_
    refine jx_iload d_M_person_54 rfl ?_
    refine jI_if_ne (tgt := 63) d_M_person_56 (by decide) (by omega) (fun z => absurd z (by omega)) (fun _ => ?_)
    refine jI_const d_M_person_59 ?_
    refine jx_goto (tgt := 76) d_M_person_60 (by decide) ?_
    refine mx_psc d_M_person_76 (f_M_83 hB) (t_5_3 hB) hM (by decide) (fun w hM hF1 => ?_)
    have hF := hF.tr hF1
    obtain ⟨S4, hS4⟩ : ∃ zz, zz = sU S 3 0 1 := ⟨_, rfl⟩
    rw [← hS4] at hM
    refine jx_aload_n d_M_person_79 rfl rfl ?_
    refine mx_sc 3 d_M_person_80 (f_M_83 hB) hM (by decide) ?_
    rw [show S4 3 0 = 1 by simp [hS4, sU, sUs]]
    refine jI_if_eq (tgt := 88) d_M_person_83 (by decide) (by omega) (fun z => absurd z (by omega)) (fun _ => ?_)
    refine jI_const d_M_person_86 ?_
    exact jx_iret d_M_person_87 rfl (jm_i (S := S4) (by rw [hS4]; unfold oPerson; (repeat' split) <;> first | rfl | exact jp2 (by omega) rfl | (exfalso; omega)) hM hF)
  · refine jx_iload_n d_M_person_11 rfl rfl ?_
    refine jI_const d_M_person_12 ?_
    refine jI_ldc d_M_person_13 (k_M_97 hB) (n := 100000) (by decide) ?_
    refine jx_callS_r (As := [.int (iI (b)), .int (iI (0)), .int (iI (100000))]) d_M_person_15 (m_M_within hB) (s_M_90 hB) rfl (Nat.le_of_ble_eq_true rfl) (Nat.le_of_ble_eq_true rfl) (w_M_within hB (x := b) (a := 0) (b := 100000) (by omega) (by omega) (by omega)) ?_
    have q6 : sIn (b) (0) (100000) = 0 ∧ ¬ (0 ≤ b ∧ b ≤ 100000) ∨ sIn (b) (0) (100000) = 1 ∧ (0 ≤ b ∧ b ≤ 100000) := by unfold sIn; split <;> omega
    refine jI_if_eq (tgt := 50) d_M_person_18 (by decide) (by omega) (fun hc7 => ?_) (fun hc7 => ?_)
    · refine jI_const d_M_person_50 ?_
      refine jx_istore d_M_person_51 (Nat.le_of_ble_eq_true rfl) rfl ?_
      try dsimp only [List.set]
      refine jx_aload_n d_M_person_53 rfl rfl ?_
      refine jx_iload d_M_person_54 rfl ?_
      refine jI_if_ne (tgt := 63) d_M_person_56 (by decide) (by omega) (fun z => absurd z (by omega)) (fun _ => ?_)
      refine jI_const d_M_person_59 ?_
      refine jx_goto (tgt := 76) d_M_person_60 (by decide) ?_
      refine mx_psc d_M_person_76 (f_M_83 hB) (t_5_3 hB) hM (by decide) (fun w hM hF1 => ?_)
      have hF := hF.tr hF1
      obtain ⟨S9, hS9⟩ : ∃ zz, zz = sU S 3 0 1 := ⟨_, rfl⟩
      rw [← hS9] at hM
      refine jx_aload_n d_M_person_79 rfl rfl ?_
      refine mx_sc 3 d_M_person_80 (f_M_83 hB) hM (by decide) ?_
      rw [show S9 3 0 = 1 by simp [hS9, sU, sUs]]
      refine jI_if_eq (tgt := 88) d_M_person_83 (by decide) (by omega) (fun z => absurd z (by omega)) (fun _ => ?_)
      refine jI_const d_M_person_86 ?_
      exact jx_iret d_M_person_87 rfl (jm_i (S := S9) (by rw [hS9]; unfold oPerson; (repeat' split) <;> first | rfl | exact jp2 (by omega) rfl | (exfalso; omega)) hM hF)
    · refine jx_iload_n d_M_person_21 rfl rfl ?_
      refine jI_const d_M_person_22 ?_
      refine jI_ldc d_M_person_23 (k_M_97 hB) (n := 100000) (by decide) ?_
      refine jx_callS_r (As := [.int (iI (c)), .int (iI (0)), .int (iI (100000))]) d_M_person_25 (m_M_within hB) (s_M_90 hB) rfl (Nat.le_of_ble_eq_true rfl) (Nat.le_of_ble_eq_true rfl) (w_M_within hB (x := c) (a := 0) (b := 100000) (by omega) (by omega) (by omega)) ?_
      have q11 : sIn (c) (0) (100000) = 0 ∧ ¬ (0 ≤ c ∧ c ≤ 100000) ∨ sIn (c) (0) (100000) = 1 ∧ (0 ≤ c ∧ c ≤ 100000) := by unfold sIn; split <;> omega
      refine jI_if_eq (tgt := 50) d_M_person_28 (by decide) (by omega) (fun hc12 => ?_) (fun hc12 => ?_)
      · refine jI_const d_M_person_50 ?_
        refine jx_istore d_M_person_51 (Nat.le_of_ble_eq_true rfl) rfl ?_
        try dsimp only [List.set]
        refine jx_aload_n d_M_person_53 rfl rfl ?_
        refine jx_iload d_M_person_54 rfl ?_
        refine jI_if_ne (tgt := 63) d_M_person_56 (by decide) (by omega) (fun z => absurd z (by omega)) (fun _ => ?_)
        refine jI_const d_M_person_59 ?_
        refine jx_goto (tgt := 76) d_M_person_60 (by decide) ?_
        refine mx_psc d_M_person_76 (f_M_83 hB) (t_5_3 hB) hM (by decide) (fun w hM hF1 => ?_)
        have hF := hF.tr hF1
        obtain ⟨S14, hS14⟩ : ∃ zz, zz = sU S 3 0 1 := ⟨_, rfl⟩
        rw [← hS14] at hM
        refine jx_aload_n d_M_person_79 rfl rfl ?_
        refine mx_sc 3 d_M_person_80 (f_M_83 hB) hM (by decide) ?_
        rw [show S14 3 0 = 1 by simp [hS14, sU, sUs]]
        refine jI_if_eq (tgt := 88) d_M_person_83 (by decide) (by omega) (fun z => absurd z (by omega)) (fun _ => ?_)
        refine jI_const d_M_person_86 ?_
        exact jx_iret d_M_person_87 rfl (jm_i (S := S14) (by rw [hS14]; unfold oPerson; (repeat' split) <;> first | rfl | exact jp2 (by omega) rfl | (exfalso; omega)) hM hF)
      · refine jx_iload_n d_M_person_31 rfl rfl ?_
        refine jx_iload_n d_M_person_32 rfl rfl ?_
        refine jI_icmp_ge (tgt := 50) d_M_person_33 (by decide) (by omega) (by omega) (fun hc16 => ?_) (fun hc16 => ?_)
        · refine jI_const d_M_person_50 ?_
          refine jx_istore d_M_person_51 (Nat.le_of_ble_eq_true rfl) rfl ?_
          try dsimp only [List.set]
          refine jx_aload_n d_M_person_53 rfl rfl ?_
          refine jx_iload d_M_person_54 rfl ?_
          refine jI_if_ne (tgt := 63) d_M_person_56 (by decide) (by omega) (fun z => absurd z (by omega)) (fun _ => ?_)
          refine jI_const d_M_person_59 ?_
          refine jx_goto (tgt := 76) d_M_person_60 (by decide) ?_
          refine mx_psc d_M_person_76 (f_M_83 hB) (t_5_3 hB) hM (by decide) (fun w hM hF1 => ?_)
          have hF := hF.tr hF1
          obtain ⟨S18, hS18⟩ : ∃ zz, zz = sU S 3 0 1 := ⟨_, rfl⟩
          rw [← hS18] at hM
          refine jx_aload_n d_M_person_79 rfl rfl ?_
          refine mx_sc 3 d_M_person_80 (f_M_83 hB) hM (by decide) ?_
          rw [show S18 3 0 = 1 by simp [hS18, sU, sUs]]
          refine jI_if_eq (tgt := 88) d_M_person_83 (by decide) (by omega) (fun z => absurd z (by omega)) (fun _ => ?_)
          refine jI_const d_M_person_86 ?_
          exact jx_iret d_M_person_87 rfl (jm_i (S := S18) (by rw [hS18]; unfold oPerson; (repeat' split) <;> first | rfl | exact jp2 (by omega) rfl | (exfalso; omega)) hM hF)
        · refine jx_iload d_M_person_36 rfl ?_
          refine jI_const d_M_person_38 ?_
          refine jI_const d_M_person_39 ?_
          refine jx_callS_r (As := [.int (iI (z)), .int (iI (0)), .int (iI (3))]) d_M_person_40 (m_M_within hB) (s_M_90 hB) rfl (Nat.le_of_ble_eq_true rfl) (Nat.le_of_ble_eq_true rfl) (w_M_within hB (x := z) (a := 0) (b := 3) (by omega) (by omega) (by omega)) ?_
          have q20 : sIn (z) (0) (3) = 0 ∧ ¬ (0 ≤ z ∧ z ≤ 3) ∨ sIn (z) (0) (3) = 1 ∧ (0 ≤ z ∧ z ≤ 3) := by unfold sIn; split <;> omega
          refine jI_if_eq (tgt := 50) d_M_person_43 (by decide) (by omega) (fun hc21 => ?_) (fun hc21 => ?_)
          · refine jI_const d_M_person_50 ?_
            refine jx_istore d_M_person_51 (Nat.le_of_ble_eq_true rfl) rfl ?_
            try dsimp only [List.set]
            refine jx_aload_n d_M_person_53 rfl rfl ?_
            refine jx_iload d_M_person_54 rfl ?_
            refine jI_if_ne (tgt := 63) d_M_person_56 (by decide) (by omega) (fun z => absurd z (by omega)) (fun _ => ?_)
            refine jI_const d_M_person_59 ?_
            refine jx_goto (tgt := 76) d_M_person_60 (by decide) ?_
            refine mx_psc d_M_person_76 (f_M_83 hB) (t_5_3 hB) hM (by decide) (fun w hM hF1 => ?_)
            have hF := hF.tr hF1
            obtain ⟨S23, hS23⟩ : ∃ zz, zz = sU S 3 0 1 := ⟨_, rfl⟩
            rw [← hS23] at hM
            refine jx_aload_n d_M_person_79 rfl rfl ?_
            refine mx_sc 3 d_M_person_80 (f_M_83 hB) hM (by decide) ?_
            rw [show S23 3 0 = 1 by simp [hS23, sU, sUs]]
            refine jI_if_eq (tgt := 88) d_M_person_83 (by decide) (by omega) (fun z => absurd z (by omega)) (fun _ => ?_)
            refine jI_const d_M_person_86 ?_
            exact jx_iret d_M_person_87 rfl (jm_i (S := S23) (by rw [hS23]; unfold oPerson; (repeat' split) <;> first | rfl | exact jp2 (by omega) rfl | (exfalso; omega)) hM hF)
          · refine jI_const d_M_person_46 ?_
            refine jx_goto (tgt := 51) d_M_person_47 (by decide) ?_
            refine jx_istore d_M_person_51 (Nat.le_of_ble_eq_true rfl) rfl ?_
            try dsimp only [List.set]
            refine jx_aload_n d_M_person_53 rfl rfl ?_
            refine jx_iload d_M_person_54 rfl ?_
            refine jI_if_ne (tgt := 63) d_M_person_56 (by decide) (by omega) (fun _ => ?_) (fun z => absurd z (by omega))
            refine jx_aload_n d_M_person_63 rfl rfl ?_
            refine mx_sc 0 d_M_person_64 (f_M_87 hB) hM (by decide) ?_
            refine jI_const d_M_person_67 ?_
            refine jI_icmp_ne (tgt := 75) d_M_person_68 (by decide) (by omega) (by omega) (fun hc26 => ?_) (fun hc26 => ?_)
            · refine jI_const d_M_person_75 ?_
              refine mx_psc d_M_person_76 (f_M_83 hB) (t_5_3 hB) hM (by decide) (fun w hM hF1 => ?_)
              have hF := hF.tr hF1
              obtain ⟨S27, hS27⟩ : ∃ zz, zz = sU S 3 0 0 := ⟨_, rfl⟩
              rw [← hS27] at hM
              refine jx_aload_n d_M_person_79 rfl rfl ?_
              refine mx_sc 3 d_M_person_80 (f_M_83 hB) hM (by decide) ?_
              rw [show S27 3 0 = 0 by simp [hS27, sU, sUs]]
              refine jI_if_eq (tgt := 88) d_M_person_83 (by decide) (by omega) (fun _ => ?_) (fun z => absurd z (by omega))
              refine jx_aload_n d_M_person_88 rfl rfl ?_
              refine mx_ar 4 d_M_person_89 (f_M_7 hB) hM (by decide) ?_
              refine jx_aload_n d_M_person_92 rfl rfl ?_
              refine mx_sc 0 d_M_person_93 (f_M_87 hB) hM (by decide) ?_
              rw [show S27 0 0 = S 0 0 by simp [hS27, sU, sUs]]
              refine jx_iload_n d_M_person_96 rfl rfl ?_
              refine mx_st (n := 4) d_M_person_97 hM (by decide) rfl ⟨by omega, by omega⟩ (fun w hM hF1 => ?_)
              have hF := hF.tr hF1
              obtain ⟨S29, hS29⟩ : ∃ zz, zz = sU S27 4 (S 0 0) a := ⟨_, rfl⟩
              rw [← hS29] at hM
              refine jx_aload_n d_M_person_98 rfl rfl ?_
              refine mx_ar 5 d_M_person_99 (f_M_13 hB) hM (by decide) ?_
              refine jx_aload_n d_M_person_102 rfl rfl ?_
              refine mx_sc 0 d_M_person_103 (f_M_87 hB) hM (by decide) ?_
              rw [show S29 0 0 = S 0 0 by simp [hS29, hS27, sU, sUs]]
              refine jx_iload_n d_M_person_106 rfl rfl ?_
              refine mx_st (n := 4) d_M_person_107 hM (by decide) rfl ⟨by omega, by omega⟩ (fun w hM hF1 => ?_)
              have hF := hF.tr hF1
              obtain ⟨S30, hS30⟩ : ∃ zz, zz = sU S29 5 (S 0 0) b := ⟨_, rfl⟩
              rw [← hS30] at hM
              refine jx_aload_n d_M_person_108 rfl rfl ?_
              refine mx_ar 6 d_M_person_109 (f_M_16 hB) hM (by decide) ?_
              refine jx_aload_n d_M_person_112 rfl rfl ?_
              refine mx_sc 0 d_M_person_113 (f_M_87 hB) hM (by decide) ?_
              rw [show S30 0 0 = S 0 0 by simp [hS30, hS29, hS27, sU, sUs]]
              refine jx_iload_n d_M_person_116 rfl rfl ?_
              refine mx_st (n := 4) d_M_person_117 hM (by decide) rfl ⟨by omega, by omega⟩ (fun w hM hF1 => ?_)
              have hF := hF.tr hF1
              obtain ⟨S31, hS31⟩ : ∃ zz, zz = sU S30 6 (S 0 0) c := ⟨_, rfl⟩
              rw [← hS31] at hM
              refine jx_aload_n d_M_person_118 rfl rfl ?_
              refine mx_ar 7 d_M_person_119 (f_M_19 hB) hM (by decide) ?_
              refine jx_aload_n d_M_person_122 rfl rfl ?_
              refine mx_sc 0 d_M_person_123 (f_M_87 hB) hM (by decide) ?_
              rw [show S31 0 0 = S 0 0 by simp [hS31, hS30, hS29, hS27, sU, sUs]]
              refine jI_const d_M_person_126 ?_
              refine mx_st (n := 4) d_M_person_127 hM (by decide) rfl ⟨by omega, by omega⟩ (fun w hM hF1 => ?_)
              have hF := hF.tr hF1
              obtain ⟨S32, hS32⟩ : ∃ zz, zz = sU S31 7 (S 0 0) 0 := ⟨_, rfl⟩
              rw [← hS32] at hM
              refine jx_aload_n d_M_person_128 rfl rfl ?_
              refine mx_ar 8 d_M_person_129 (f_M_22 hB) hM (by decide) ?_
              refine jx_aload_n d_M_person_132 rfl rfl ?_
              refine mx_sc 0 d_M_person_133 (f_M_87 hB) hM (by decide) ?_
              rw [show S32 0 0 = S 0 0 by simp [hS32, hS31, hS30, hS29, hS27, sU, sUs]]
              refine jI_const d_M_person_136 ?_
              refine mx_st (n := 4) d_M_person_137 hM (by decide) rfl ⟨by omega, by omega⟩ (fun w hM hF1 => ?_)
              have hF := hF.tr hF1
              obtain ⟨S33, hS33⟩ : ∃ zz, zz = sU S32 8 (S 0 0) 0 := ⟨_, rfl⟩
              rw [← hS33] at hM
              refine jx_aload_n d_M_person_138 rfl rfl ?_
              refine mx_ar 9 d_M_person_139 (f_M_25 hB) hM (by decide) ?_
              refine jx_aload_n d_M_person_142 rfl rfl ?_
              refine mx_sc 0 d_M_person_143 (f_M_87 hB) hM (by decide) ?_
              rw [show S33 0 0 = S 0 0 by simp [hS33, hS32, hS31, hS30, hS29, hS27, sU, sUs]]
              refine jx_iload d_M_person_146 rfl ?_
              refine mx_st (n := 4) d_M_person_148 hM (by decide) rfl ⟨by omega, by omega⟩ (fun w hM hF1 => ?_)
              have hF := hF.tr hF1
              obtain ⟨S34, hS34⟩ : ∃ zz, zz = sU S33 9 (S 0 0) z := ⟨_, rfl⟩
              rw [← hS34] at hM
              refine jx_aload_n d_M_person_149 rfl rfl ?_
              refine mx_ar 10 d_M_person_150 (f_M_28 hB) hM (by decide) ?_
              refine jx_aload_n d_M_person_153 rfl rfl ?_
              refine mx_sc 0 d_M_person_154 (f_M_87 hB) hM (by decide) ?_
              rw [show S34 0 0 = S 0 0 by simp [hS34, hS33, hS32, hS31, hS30, hS29, hS27, sU, sUs]]
              refine jI_const d_M_person_157 ?_
              refine mx_zst d_M_person_158 hM ⟨by omega, by omega⟩ (by omega) (fun w hM hF1 => ?_)
              have hF := hF.tr hF1
              obtain ⟨S35, hS35⟩ : ∃ zz, zz = sU S34 10 (S 0 0) 1 := ⟨_, rfl⟩
              rw [← hS35] at hM
              refine jx_aload_n d_M_person_159 rfl rfl ?_
              refine mx_ar 11 d_M_person_160 (f_M_32 hB) hM (by decide) ?_
              refine jx_aload_n d_M_person_163 rfl rfl ?_
              refine mx_sc 0 d_M_person_164 (f_M_87 hB) hM (by decide) ?_
              rw [show S35 0 0 = S 0 0 by simp [hS35, hS34, hS33, hS32, hS31, hS30, hS29, hS27, sU, sUs]]
              refine jI_const d_M_person_167 ?_
              refine mx_st (n := 4) d_M_person_168 hM (by decide) rfl ⟨by omega, by omega⟩ (fun w hM hF1 => ?_)
              have hF := hF.tr hF1
              obtain ⟨S36, hS36⟩ : ∃ zz, zz = sU S35 11 (S 0 0) ((-1)) := ⟨_, rfl⟩
              rw [← hS36] at hM
              refine jx_aload_n d_M_person_169 rfl rfl ?_
              refine jx_dup d_M_person_170 rfl ?_
              refine mx_sc 0 d_M_person_171 (f_M_87 hB) hM (by decide) ?_
              rw [show S36 0 0 = S 0 0 by simp [hS36, hS35, hS34, hS33, hS32, hS31, hS30, hS29, hS27, sU, sUs]]
              refine jI_const d_M_person_174 ?_
              refine jI_add d_M_person_175 ?_
              refine mx_psc d_M_person_176 (f_M_87 hB) (t_5_0 hB) hM (by decide) (fun w hM hF1 => ?_)
              have hF := hF.tr hF1
              obtain ⟨S37, hS37⟩ : ∃ zz, zz = sU S36 0 0 ((S 0 0) + 1) := ⟨_, rfl⟩
              rw [← hS37] at hM
              refine jx_aload_n d_M_person_179 rfl rfl ?_
              refine mx_sc 0 d_M_person_180 (f_M_87 hB) hM (by decide) ?_
              rw [show S37 0 0 = (S 0 0) + 1 by simp [hS37, hS36, hS35, hS34, hS33, hS32, hS31, hS30, hS29, hS27, sU, sUs]]
              refine jI_const d_M_person_183 ?_
              refine jI_sub d_M_person_184 ?_
              exact jx_iret d_M_person_185 rfl (jm_i (S := S37) (by rw [hS37, hS36, hS35, hS34, hS33, hS32, hS31, hS30, hS29, hS27]; unfold oPerson; (repeat' split) <;> first | rfl | exact jp2 (by omega) rfl | (exfalso; omega)) hM hF)
            · refine jI_const d_M_person_71 ?_
              refine jx_goto (tgt := 76) d_M_person_72 (by decide) ?_
              refine mx_psc d_M_person_76 (f_M_83 hB) (t_5_3 hB) hM (by decide) (fun w hM hF1 => ?_)
              have hF := hF.tr hF1
              obtain ⟨S38, hS38⟩ : ∃ zz, zz = sU S 3 0 2 := ⟨_, rfl⟩
              rw [← hS38] at hM
              refine jx_aload_n d_M_person_79 rfl rfl ?_
              refine mx_sc 3 d_M_person_80 (f_M_83 hB) hM (by decide) ?_
              rw [show S38 3 0 = 2 by simp [hS38, sU, sUs]]
              refine jI_if_eq (tgt := 88) d_M_person_83 (by decide) (by omega) (fun z => absurd z (by omega)) (fun _ => ?_)
              refine jI_const d_M_person_86 ?_
              exact jx_iret d_M_person_87 rfl (jm_i (S := S38) (by rw [hS38]; unfold oPerson; (repeat' split) <;> first | rfl | exact jp2 (by omega) rfl | (exfalso; omega)) hM hF)
theorem w_M_task {E : jx_E} {l : Launch} {d : Nat} {w : jx_W} {S : mS} {m : Nat} {A : Nat → Nat} {a b c z : Int} (hB : jx_B E) (hM : mR E S w m A) (hI : sI S) (hT : 0 ≤ S 1 0 ∧ S 1 0 ≤ 16) (h1 : iR a) (h2 : iR b) (h3 : iR c) (h4 : iR z) : jx_G E l Y_M_task (d + 1) (jm_po E m A w (some (.int (iI (oTask S a b c z).1))) (oTask S a b c z).2) 0 (jx_ent [.ref m, .int (iI a), .int (iI b), .int (iI c), .int (iI z)] 6) [] w := by
  have hF : mF m A w w := mF.rf
  generalize hw0 : w = w0 at hF ⊢
  rw [hw0] at hM
  have hF : mF m A w0 w0 := mF.rf
  show jx_G E l Y_M_task (d + 1) (jm_po E m A w0 _ _) 0 [some (.ref m), some (.int (iI a)), some (.int (iI b)), some (.int (iI c)), some (.int (iI z)), none] [] w0
  refine jx_iload_n d_M_task_0 rfl rfl ?_
  refine jI_const d_M_task_1 ?_
  refine jI_bipush d_M_task_2 (by decide) ?_
  refine jx_callS_r (As := [.int (iI (a)), .int (iI (0)), .int (iI (7))]) d_M_task_4 (m_M_within hB) (s_M_90 hB) rfl (Nat.le_of_ble_eq_true rfl) (Nat.le_of_ble_eq_true rfl) (w_M_within hB (x := a) (a := 0) (b := 7) (by omega) (by omega) (by omega)) ?_
  have q1 : sIn (a) (0) (7) = 0 ∧ ¬ (0 ≤ a ∧ a ≤ 7) ∨ sIn (a) (0) (7) = 1 ∧ (0 ≤ a ∧ a ≤ 7) := by unfold sIn; split <;> omega
  refine jI_if_eq (tgt := 45) d_M_task_7 (by decide) (by omega) (fun hc2 => ?_) (fun hc2 => ?_)
  · refine jI_const d_M_task_45 ?_
    refine jx_istore d_M_task_46 (Nat.le_of_ble_eq_true rfl) rfl ?_
    try dsimp only [List.set]
    refine jx_aload_n d_M_task_48 rfl rfl ?_
    refine jx_iload d_M_task_49 rfl ?_
    refine jI_if_ne (tgt := 58) d_M_task_51 (by decide) (by omega) (fun z => absurd z (by omega)) (fun _ => ?_)
    refine jI_const d_M_task_54 ?_
    refine jx_goto (tgt := 72) d_M_task_55 (by decide) ?_
    refine mx_psc d_M_task_72 (f_M_83 hB) (t_5_3 hB) hM (by decide) (fun w hM hF1 => ?_)
    have hF := hF.tr hF1
    obtain ⟨S4, hS4⟩ : ∃ zz, zz = sU S 3 0 1 := ⟨_, rfl⟩
    rw [← hS4] at hM
    refine jx_aload_n d_M_task_75 rfl rfl ?_
    refine mx_sc 3 d_M_task_76 (f_M_83 hB) hM (by decide) ?_
    rw [show S4 3 0 = 1 by simp [hS4, sU, sUs]]
    refine jI_if_eq (tgt := 84) d_M_task_79 (by decide) (by omega) (fun z => absurd z (by omega)) (fun _ => ?_)
    refine jI_const d_M_task_82 ?_
    exact jx_iret d_M_task_83 rfl (jm_i (S := S4) (by rw [hS4]; unfold oTask; (repeat' split) <;> first | rfl | exact jp2 (by omega) rfl | (exfalso; omega)) hM hF)
  · refine jx_iload_n d_M_task_10 rfl rfl ?_
    refine jI_const d_M_task_11 ?_
    refine jI_sipush d_M_task_12 (by decide) ?_
    refine jx_callS_r (As := [.int (iI (b)), .int (iI (1)), .int (iI (5000))]) d_M_task_15 (m_M_within hB) (s_M_90 hB) rfl (Nat.le_of_ble_eq_true rfl) (Nat.le_of_ble_eq_true rfl) (w_M_within hB (x := b) (a := 1) (b := 5000) (by omega) (by omega) (by omega)) ?_
    have q6 : sIn (b) (1) (5000) = 0 ∧ ¬ (1 ≤ b ∧ b ≤ 5000) ∨ sIn (b) (1) (5000) = 1 ∧ (1 ≤ b ∧ b ≤ 5000) := by unfold sIn; split <;> omega
    refine jI_if_eq (tgt := 45) d_M_task_18 (by decide) (by omega) (fun hc7 => ?_) (fun hc7 => ?_)
    · refine jI_const d_M_task_45 ?_
      refine jx_istore d_M_task_46 (Nat.le_of_ble_eq_true rfl) rfl ?_
      try dsimp only [List.set]
      refine jx_aload_n d_M_task_48 rfl rfl ?_
      refine jx_iload d_M_task_49 rfl ?_
      refine jI_if_ne (tgt := 58) d_M_task_51 (by decide) (by omega) (fun z => absurd z (by omega)) (fun _ => ?_)
      refine jI_const d_M_task_54 ?_
      refine jx_goto (tgt := 72) d_M_task_55 (by decide) ?_
      refine mx_psc d_M_task_72 (f_M_83 hB) (t_5_3 hB) hM (by decide) (fun w hM hF1 => ?_)
      have hF := hF.tr hF1
      obtain ⟨S9, hS9⟩ : ∃ zz, zz = sU S 3 0 1 := ⟨_, rfl⟩
      rw [← hS9] at hM
      refine jx_aload_n d_M_task_75 rfl rfl ?_
      refine mx_sc 3 d_M_task_76 (f_M_83 hB) hM (by decide) ?_
      rw [show S9 3 0 = 1 by simp [hS9, sU, sUs]]
      refine jI_if_eq (tgt := 84) d_M_task_79 (by decide) (by omega) (fun z => absurd z (by omega)) (fun _ => ?_)
      refine jI_const d_M_task_82 ?_
      exact jx_iret d_M_task_83 rfl (jm_i (S := S9) (by rw [hS9]; unfold oTask; (repeat' split) <;> first | rfl | exact jp2 (by omega) rfl | (exfalso; omega)) hM hF)
    · refine jx_iload_n d_M_task_21 rfl rfl ?_
      refine jI_const d_M_task_22 ?_
      refine jI_ldc d_M_task_23 (k_M_97 hB) (n := 100000) (by decide) ?_
      refine jx_callS_r (As := [.int (iI (c)), .int (iI (0)), .int (iI (100000))]) d_M_task_25 (m_M_within hB) (s_M_90 hB) rfl (Nat.le_of_ble_eq_true rfl) (Nat.le_of_ble_eq_true rfl) (w_M_within hB (x := c) (a := 0) (b := 100000) (by omega) (by omega) (by omega)) ?_
      have q11 : sIn (c) (0) (100000) = 0 ∧ ¬ (0 ≤ c ∧ c ≤ 100000) ∨ sIn (c) (0) (100000) = 1 ∧ (0 ≤ c ∧ c ≤ 100000) := by unfold sIn; split <;> omega
      refine jI_if_eq (tgt := 45) d_M_task_28 (by decide) (by omega) (fun hc12 => ?_) (fun hc12 => ?_)
      · refine jI_const d_M_task_45 ?_
        refine jx_istore d_M_task_46 (Nat.le_of_ble_eq_true rfl) rfl ?_
        try dsimp only [List.set]
        refine jx_aload_n d_M_task_48 rfl rfl ?_
        refine jx_iload d_M_task_49 rfl ?_
        refine jI_if_ne (tgt := 58) d_M_task_51 (by decide) (by omega) (fun z => absurd z (by omega)) (fun _ => ?_)
        refine jI_const d_M_task_54 ?_
        refine jx_goto (tgt := 72) d_M_task_55 (by decide) ?_
        refine mx_psc d_M_task_72 (f_M_83 hB) (t_5_3 hB) hM (by decide) (fun w hM hF1 => ?_)
        have hF := hF.tr hF1
        obtain ⟨S14, hS14⟩ : ∃ zz, zz = sU S 3 0 1 := ⟨_, rfl⟩
        rw [← hS14] at hM
        refine jx_aload_n d_M_task_75 rfl rfl ?_
        refine mx_sc 3 d_M_task_76 (f_M_83 hB) hM (by decide) ?_
        rw [show S14 3 0 = 1 by simp [hS14, sU, sUs]]
        refine jI_if_eq (tgt := 84) d_M_task_79 (by decide) (by omega) (fun z => absurd z (by omega)) (fun _ => ?_)
        refine jI_const d_M_task_82 ?_
        exact jx_iret d_M_task_83 rfl (jm_i (S := S14) (by rw [hS14]; unfold oTask; (repeat' split) <;> first | rfl | exact jp2 (by omega) rfl | (exfalso; omega)) hM hF)
      · refine jx_iload d_M_task_31 rfl ?_
        refine jI_const d_M_task_33 ?_
        refine jI_const d_M_task_34 ?_
        refine jx_callS_r (As := [.int (iI (z)), .int (iI (0)), .int (iI (3))]) d_M_task_35 (m_M_within hB) (s_M_90 hB) rfl (Nat.le_of_ble_eq_true rfl) (Nat.le_of_ble_eq_true rfl) (w_M_within hB (x := z) (a := 0) (b := 3) (by omega) (by omega) (by omega)) ?_
        have q16 : sIn (z) (0) (3) = 0 ∧ ¬ (0 ≤ z ∧ z ≤ 3) ∨ sIn (z) (0) (3) = 1 ∧ (0 ≤ z ∧ z ≤ 3) := by unfold sIn; split <;> omega
        refine jI_if_eq (tgt := 45) d_M_task_38 (by decide) (by omega) (fun hc17 => ?_) (fun hc17 => ?_)
        · refine jI_const d_M_task_45 ?_
          refine jx_istore d_M_task_46 (Nat.le_of_ble_eq_true rfl) rfl ?_
          try dsimp only [List.set]
          refine jx_aload_n d_M_task_48 rfl rfl ?_
          refine jx_iload d_M_task_49 rfl ?_
          refine jI_if_ne (tgt := 58) d_M_task_51 (by decide) (by omega) (fun z => absurd z (by omega)) (fun _ => ?_)
          refine jI_const d_M_task_54 ?_
          refine jx_goto (tgt := 72) d_M_task_55 (by decide) ?_
          refine mx_psc d_M_task_72 (f_M_83 hB) (t_5_3 hB) hM (by decide) (fun w hM hF1 => ?_)
          have hF := hF.tr hF1
          obtain ⟨S19, hS19⟩ : ∃ zz, zz = sU S 3 0 1 := ⟨_, rfl⟩
          rw [← hS19] at hM
          refine jx_aload_n d_M_task_75 rfl rfl ?_
          refine mx_sc 3 d_M_task_76 (f_M_83 hB) hM (by decide) ?_
          rw [show S19 3 0 = 1 by simp [hS19, sU, sUs]]
          refine jI_if_eq (tgt := 84) d_M_task_79 (by decide) (by omega) (fun z => absurd z (by omega)) (fun _ => ?_)
          refine jI_const d_M_task_82 ?_
          exact jx_iret d_M_task_83 rfl (jm_i (S := S19) (by rw [hS19]; unfold oTask; (repeat' split) <;> first | rfl | exact jp2 (by omega) rfl | (exfalso; omega)) hM hF)
        · refine jI_const d_M_task_41 ?_
          refine jx_goto (tgt := 46) d_M_task_42 (by decide) ?_
          refine jx_istore d_M_task_46 (Nat.le_of_ble_eq_true rfl) rfl ?_
          try dsimp only [List.set]
          refine jx_aload_n d_M_task_48 rfl rfl ?_
          refine jx_iload d_M_task_49 rfl ?_
          refine jI_if_ne (tgt := 58) d_M_task_51 (by decide) (by omega) (fun _ => ?_) (fun z => absurd z (by omega))
          refine jx_aload_n d_M_task_58 rfl rfl ?_
          refine mx_sc 1 d_M_task_59 (f_M_94 hB) hM (by decide) ?_
          refine jI_bipush d_M_task_62 (by decide) ?_
          refine jI_icmp_ne (tgt := 71) d_M_task_64 (by decide) (by omega) (by omega) (fun hc22 => ?_) (fun hc22 => ?_)
          · refine jI_const d_M_task_71 ?_
            refine mx_psc d_M_task_72 (f_M_83 hB) (t_5_3 hB) hM (by decide) (fun w hM hF1 => ?_)
            have hF := hF.tr hF1
            obtain ⟨S23, hS23⟩ : ∃ zz, zz = sU S 3 0 0 := ⟨_, rfl⟩
            rw [← hS23] at hM
            refine jx_aload_n d_M_task_75 rfl rfl ?_
            refine mx_sc 3 d_M_task_76 (f_M_83 hB) hM (by decide) ?_
            rw [show S23 3 0 = 0 by simp [hS23, sU, sUs]]
            refine jI_if_eq (tgt := 84) d_M_task_79 (by decide) (by omega) (fun _ => ?_) (fun z => absurd z (by omega))
            refine jx_aload_n d_M_task_84 rfl rfl ?_
            refine mx_ar 13 d_M_task_85 (f_M_38 hB) hM (by decide) ?_
            refine jx_aload_n d_M_task_88 rfl rfl ?_
            refine mx_sc 1 d_M_task_89 (f_M_94 hB) hM (by decide) ?_
            rw [show S23 1 0 = S 1 0 by simp [hS23, sU, sUs]]
            refine jI_const d_M_task_92 ?_
            refine mx_st (n := 16) d_M_task_93 hM (by decide) rfl ⟨by omega, by omega⟩ (fun w hM hF1 => ?_)
            have hF := hF.tr hF1
            obtain ⟨S25, hS25⟩ : ∃ zz, zz = sU S23 13 (S 1 0) 0 := ⟨_, rfl⟩
            rw [← hS25] at hM
            refine jx_aload_n d_M_task_94 rfl rfl ?_
            refine mx_ar 14 d_M_task_95 (f_M_41 hB) hM (by decide) ?_
            refine jx_aload_n d_M_task_98 rfl rfl ?_
            refine mx_sc 1 d_M_task_99 (f_M_94 hB) hM (by decide) ?_
            rw [show S25 1 0 = S 1 0 by simp [hS25, hS23, sU, sUs]]
            refine jx_iload_n d_M_task_102 rfl rfl ?_
            refine mx_st (n := 16) d_M_task_103 hM (by decide) rfl ⟨by omega, by omega⟩ (fun w hM hF1 => ?_)
            have hF := hF.tr hF1
            obtain ⟨S26, hS26⟩ : ∃ zz, zz = sU S25 14 (S 1 0) a := ⟨_, rfl⟩
            rw [← hS26] at hM
            refine jx_aload_n d_M_task_104 rfl rfl ?_
            refine mx_ar 15 d_M_task_105 (f_M_44 hB) hM (by decide) ?_
            refine jx_aload_n d_M_task_108 rfl rfl ?_
            refine mx_sc 1 d_M_task_109 (f_M_94 hB) hM (by decide) ?_
            rw [show S26 1 0 = S 1 0 by simp [hS26, hS25, hS23, sU, sUs]]
            refine jx_iload_n d_M_task_112 rfl rfl ?_
            refine mx_st (n := 16) d_M_task_113 hM (by decide) rfl ⟨by omega, by omega⟩ (fun w hM hF1 => ?_)
            have hF := hF.tr hF1
            obtain ⟨S27, hS27⟩ : ∃ zz, zz = sU S26 15 (S 1 0) b := ⟨_, rfl⟩
            rw [← hS27] at hM
            refine jx_aload_n d_M_task_114 rfl rfl ?_
            refine mx_ar 16 d_M_task_115 (f_M_47 hB) hM (by decide) ?_
            refine jx_aload_n d_M_task_118 rfl rfl ?_
            refine mx_sc 1 d_M_task_119 (f_M_94 hB) hM (by decide) ?_
            rw [show S27 1 0 = S 1 0 by simp [hS27, hS26, hS25, hS23, sU, sUs]]
            refine jx_iload_n d_M_task_122 rfl rfl ?_
            refine mx_st (n := 16) d_M_task_123 hM (by decide) rfl ⟨by omega, by omega⟩ (fun w hM hF1 => ?_)
            have hF := hF.tr hF1
            obtain ⟨S28, hS28⟩ : ∃ zz, zz = sU S27 16 (S 1 0) c := ⟨_, rfl⟩
            rw [← hS28] at hM
            refine jx_aload_n d_M_task_124 rfl rfl ?_
            refine mx_ar 17 d_M_task_125 (f_M_50 hB) hM (by decide) ?_
            refine jx_aload_n d_M_task_128 rfl rfl ?_
            refine mx_sc 1 d_M_task_129 (f_M_94 hB) hM (by decide) ?_
            rw [show S28 1 0 = S 1 0 by simp [hS28, hS27, hS26, hS25, hS23, sU, sUs]]
            refine jx_iload d_M_task_132 rfl ?_
            refine mx_st (n := 16) d_M_task_134 hM (by decide) rfl ⟨by omega, by omega⟩ (fun w hM hF1 => ?_)
            have hF := hF.tr hF1
            obtain ⟨S29, hS29⟩ : ∃ zz, zz = sU S28 17 (S 1 0) z := ⟨_, rfl⟩
            rw [← hS29] at hM
            refine jx_aload_n d_M_task_135 rfl rfl ?_
            refine mx_ar 18 d_M_task_136 (f_M_53 hB) hM (by decide) ?_
            refine jx_aload_n d_M_task_139 rfl rfl ?_
            refine mx_sc 1 d_M_task_140 (f_M_94 hB) hM (by decide) ?_
            rw [show S29 1 0 = S 1 0 by simp [hS29, hS28, hS27, hS26, hS25, hS23, sU, sUs]]
            refine jI_const d_M_task_143 ?_
            refine mx_st (n := 16) d_M_task_144 hM (by decide) rfl ⟨by omega, by omega⟩ (fun w hM hF1 => ?_)
            have hF := hF.tr hF1
            obtain ⟨S30, hS30⟩ : ∃ zz, zz = sU S29 18 (S 1 0) 0 := ⟨_, rfl⟩
            rw [← hS30] at hM
            refine jx_aload_n d_M_task_145 rfl rfl ?_
            refine mx_ar 19 d_M_task_146 (f_M_56 hB) hM (by decide) ?_
            refine jx_aload_n d_M_task_149 rfl rfl ?_
            refine mx_sc 1 d_M_task_150 (f_M_94 hB) hM (by decide) ?_
            rw [show S30 1 0 = S 1 0 by simp [hS30, hS29, hS28, hS27, hS26, hS25, hS23, sU, sUs]]
            refine jI_const d_M_task_153 ?_
            refine mx_st (n := 16) d_M_task_154 hM (by decide) rfl ⟨by omega, by omega⟩ (fun w hM hF1 => ?_)
            have hF := hF.tr hF1
            obtain ⟨S31, hS31⟩ : ∃ zz, zz = sU S30 19 (S 1 0) ((-1)) := ⟨_, rfl⟩
            rw [← hS31] at hM
            refine jx_aload_n d_M_task_155 rfl rfl ?_
            refine mx_ar 20 d_M_task_156 (f_M_59 hB) hM (by decide) ?_
            refine jx_aload_n d_M_task_159 rfl rfl ?_
            refine mx_sc 1 d_M_task_160 (f_M_94 hB) hM (by decide) ?_
            rw [show S31 1 0 = S 1 0 by simp [hS31, hS30, hS29, hS28, hS27, hS26, hS25, hS23, sU, sUs]]
            refine jI_const d_M_task_163 ?_
            refine mx_st (n := 16) d_M_task_164 hM (by decide) rfl ⟨by omega, by omega⟩ (fun w hM hF1 => ?_)
            have hF := hF.tr hF1
            obtain ⟨S32, hS32⟩ : ∃ zz, zz = sU S31 20 (S 1 0) ((-1)) := ⟨_, rfl⟩
            rw [← hS32] at hM
            refine jx_aload_n d_M_task_165 rfl rfl ?_
            refine jx_dup d_M_task_166 rfl ?_
            refine mx_sc 1 d_M_task_167 (f_M_94 hB) hM (by decide) ?_
            rw [show S32 1 0 = S 1 0 by simp [hS32, hS31, hS30, hS29, hS28, hS27, hS26, hS25, hS23, sU, sUs]]
            refine jI_const d_M_task_170 ?_
            refine jI_add d_M_task_171 ?_
            refine mx_psc d_M_task_172 (f_M_94 hB) (t_5_1 hB) hM (by decide) (fun w hM hF1 => ?_)
            have hF := hF.tr hF1
            obtain ⟨S33, hS33⟩ : ∃ zz, zz = sU S32 1 0 ((S 1 0) + 1) := ⟨_, rfl⟩
            rw [← hS33] at hM
            refine jx_aload_n d_M_task_175 rfl rfl ?_
            refine mx_sc 1 d_M_task_176 (f_M_94 hB) hM (by decide) ?_
            rw [show S33 1 0 = (S 1 0) + 1 by simp [hS33, hS32, hS31, hS30, hS29, hS28, hS27, hS26, hS25, hS23, sU, sUs]]
            refine jI_const d_M_task_179 ?_
            refine jI_sub d_M_task_180 ?_
            exact jx_iret d_M_task_181 rfl (jm_i (S := S33) (by rw [hS33, hS32, hS31, hS30, hS29, hS28, hS27, hS26, hS25, hS23]; unfold oTask; (repeat' split) <;> first | rfl | exact jp2 (by omega) rfl | (exfalso; omega)) hM hF)
          · refine jI_const d_M_task_67 ?_
            refine jx_goto (tgt := 72) d_M_task_68 (by decide) ?_
            refine mx_psc d_M_task_72 (f_M_83 hB) (t_5_3 hB) hM (by decide) (fun w hM hF1 => ?_)
            have hF := hF.tr hF1
            obtain ⟨S34, hS34⟩ : ∃ zz, zz = sU S 3 0 2 := ⟨_, rfl⟩
            rw [← hS34] at hM
            refine jx_aload_n d_M_task_75 rfl rfl ?_
            refine mx_sc 3 d_M_task_76 (f_M_83 hB) hM (by decide) ?_
            rw [show S34 3 0 = 2 by simp [hS34, sU, sUs]]
            refine jI_if_eq (tgt := 84) d_M_task_79 (by decide) (by omega) (fun z => absurd z (by omega)) (fun _ => ?_)
            refine jI_const d_M_task_82 ?_
            exact jx_iret d_M_task_83 rfl (jm_i (S := S34) (by rw [hS34]; unfold oTask; (repeat' split) <;> first | rfl | exact jp2 (by omega) rfl | (exfalso; omega)) hM hF)
theorem w_M_rest {E : jx_E} {l : Launch} {d : Nat} {w : jx_W} {S : mS} {m : Nat} {A : Nat → Nat} {p a b : Int} (hB : jx_B E) (hM : mR E S w m A) (hI : sI S) (hP : 0 ≤ S 0 0 ∧ S 0 0 ≤ 4) (h1 : iR p) (h2 : iR a) (h3 : iR b) : jx_G E l Y_M_rest (d + 2) (jm_po E m A w none (oRest S p a b)) 0 (jx_ent [.ref m, .int (iI p), .int (iI a), .int (iI b)] 4) [] w := by
  have hF : mF m A w w := mF.rf
  generalize hw0 : w = w0 at hF ⊢
  rw [hw0] at hM
  have hF : mF m A w0 w0 := mF.rf
  show jx_G E l Y_M_rest (d + 2) (jm_po E m A w0 _ _) 0 [some (.ref m), some (.int (iI p)), some (.int (iI a)), some (.int (iI b))] [] w0
  refine jx_aload_n d_M_rest_0 rfl rfl ?_
  refine jx_aload_n d_M_rest_1 rfl rfl ?_
  refine jx_iload_n d_M_rest_2 rfl rfl ?_
  refine jx_callV_r (As := [.int (iI (p))]) d_M_rest_3 (m_M_isPerson hB) (v_M_98 hB) (by decide) (jx_c5 hB) hM.1 rfl (Nat.le_of_ble_eq_true rfl) (Nat.le_of_ble_eq_true rfl) (w_M_isPerson hB hM hI (x := p) (by omega) (by omega)) ?_
  have q1 : sIn (p) 0 (S 0 0 - 1) = 0 ∧ ¬ (0 ≤ p ∧ p ≤ S 0 0 - 1) ∨ sIn (p) 0 (S 0 0 - 1) = 1 ∧ (0 ≤ p ∧ p ≤ S 0 0 - 1) := by unfold sIn; split <;> omega
  refine jI_if_ne (tgt := 13) d_M_rest_6 (by decide) (by omega) (fun hc2 => ?_) (fun hc2 => ?_)
  · refine jx_iload_n d_M_rest_13 rfl rfl ?_
    refine jx_aload_n d_M_rest_14 rfl rfl ?_
    refine mx_ar 5 d_M_rest_15 (f_M_13 hB) hM (by decide) ?_
    refine jx_iload_n d_M_rest_18 rfl rfl ?_
    refine mx_ld (n := 4) d_M_rest_19 hM (by decide) rfl ⟨by omega, by omega⟩ ?_
    have r3 : 0 ≤ S 5 p ∧ S 5 p ≤ 100000 := hI.r 5 p (n := 4) (by decide) rfl ⟨by omega, by omega⟩
    refine jI_icmp_lt (tgt := 38) d_M_rest_20 (by decide) (by omega) (by omega) (fun hc4 => ?_) (fun hc4 => ?_)
    · refine jI_const d_M_rest_38 ?_
      refine jx_goto (tgt := 43) d_M_rest_39 (by decide) ?_
      refine mx_psc d_M_rest_43 (f_M_83 hB) (t_5_3 hB) hM (by decide) (fun w hM hF1 => ?_)
      have hF := hF.tr hF1
      obtain ⟨S5, hS5⟩ : ∃ zz, zz = sU S 3 0 2 := ⟨_, rfl⟩
      rw [← hS5] at hM
      refine jx_aload_n d_M_rest_46 rfl rfl ?_
      refine mx_sc 3 d_M_rest_47 (f_M_83 hB) hM (by decide) ?_
      rw [show S5 3 0 = 2 by simp [hS5, sU, sUs]]
      refine jI_if_eq (tgt := 54) d_M_rest_50 (by decide) (by omega) (fun z => absurd z (by omega)) (fun _ => ?_)
      exact jx_vret d_M_rest_53 rfl (jm_v (S := S5) (by rw [hS5]; unfold oRest; (repeat' split) <;> first | rfl | exact jp2 (by omega) rfl | (exfalso; omega)) hM hF)
    · refine jx_iload_n d_M_rest_23 rfl rfl ?_
      refine jx_aload_n d_M_rest_24 rfl rfl ?_
      refine mx_ar 6 d_M_rest_25 (f_M_16 hB) hM (by decide) ?_
      refine jx_iload_n d_M_rest_28 rfl rfl ?_
      refine mx_ld (n := 4) d_M_rest_29 hM (by decide) rfl ⟨by omega, by omega⟩ ?_
      have r7 : 0 ≤ S 6 p ∧ S 6 p ≤ 100000 := hI.r 6 p (n := 4) (by decide) rfl ⟨by omega, by omega⟩
      refine jI_icmp_gt (tgt := 38) d_M_rest_30 (by decide) (by omega) (by omega) (fun hc8 => ?_) (fun hc8 => ?_)
      · refine jI_const d_M_rest_38 ?_
        refine jx_goto (tgt := 43) d_M_rest_39 (by decide) ?_
        refine mx_psc d_M_rest_43 (f_M_83 hB) (t_5_3 hB) hM (by decide) (fun w hM hF1 => ?_)
        have hF := hF.tr hF1
        obtain ⟨S9, hS9⟩ : ∃ zz, zz = sU S 3 0 2 := ⟨_, rfl⟩
        rw [← hS9] at hM
        refine jx_aload_n d_M_rest_46 rfl rfl ?_
        refine mx_sc 3 d_M_rest_47 (f_M_83 hB) hM (by decide) ?_
        rw [show S9 3 0 = 2 by simp [hS9, sU, sUs]]
        refine jI_if_eq (tgt := 54) d_M_rest_50 (by decide) (by omega) (fun z => absurd z (by omega)) (fun _ => ?_)
        exact jx_vret d_M_rest_53 rfl (jm_v (S := S9) (by rw [hS9]; unfold oRest; (repeat' split) <;> first | rfl | exact jp2 (by omega) rfl | (exfalso; omega)) hM hF)
      · refine jx_iload_n d_M_rest_33 rfl rfl ?_
        refine jx_iload_n d_M_rest_34 rfl rfl ?_
        refine jI_icmp_le (tgt := 42) d_M_rest_35 (by decide) (by omega) (by omega) (fun hc11 => ?_) (fun hc11 => ?_)
        · refine jI_const d_M_rest_42 ?_
          refine mx_psc d_M_rest_43 (f_M_83 hB) (t_5_3 hB) hM (by decide) (fun w hM hF1 => ?_)
          have hF := hF.tr hF1
          obtain ⟨S12, hS12⟩ : ∃ zz, zz = sU S 3 0 0 := ⟨_, rfl⟩
          rw [← hS12] at hM
          refine jx_aload_n d_M_rest_46 rfl rfl ?_
          refine mx_sc 3 d_M_rest_47 (f_M_83 hB) hM (by decide) ?_
          rw [show S12 3 0 = 0 by simp [hS12, sU, sUs]]
          refine jI_if_eq (tgt := 54) d_M_rest_50 (by decide) (by omega) (fun _ => ?_) (fun z => absurd z (by omega))
          refine jx_aload_n d_M_rest_54 rfl rfl ?_
          refine mx_ar 7 d_M_rest_55 (f_M_19 hB) hM (by decide) ?_
          refine jx_iload_n d_M_rest_58 rfl rfl ?_
          refine jx_iload_n d_M_rest_59 rfl rfl ?_
          refine mx_st (n := 4) d_M_rest_60 hM (by decide) rfl ⟨by omega, by omega⟩ (fun w hM hF1 => ?_)
          have hF := hF.tr hF1
          obtain ⟨S14, hS14⟩ : ∃ zz, zz = sU S12 7 p a := ⟨_, rfl⟩
          rw [← hS14] at hM
          refine jx_aload_n d_M_rest_61 rfl rfl ?_
          refine mx_ar 8 d_M_rest_62 (f_M_22 hB) hM (by decide) ?_
          refine jx_iload_n d_M_rest_65 rfl rfl ?_
          refine jx_iload_n d_M_rest_66 rfl rfl ?_
          refine mx_st (n := 4) d_M_rest_67 hM (by decide) rfl ⟨by omega, by omega⟩ (fun w hM hF1 => ?_)
          have hF := hF.tr hF1
          obtain ⟨S15, hS15⟩ : ∃ zz, zz = sU S14 8 p b := ⟨_, rfl⟩
          rw [← hS15] at hM
          exact jx_vret d_M_rest_68 rfl (jm_v (S := S15) (by rw [hS15, hS14, hS12]; unfold oRest; (repeat' split) <;> first | rfl | exact jp2 (by omega) rfl | (exfalso; omega)) hM hF)
        · refine jI_const d_M_rest_38 ?_
          refine jx_goto (tgt := 43) d_M_rest_39 (by decide) ?_
          refine mx_psc d_M_rest_43 (f_M_83 hB) (t_5_3 hB) hM (by decide) (fun w hM hF1 => ?_)
          have hF := hF.tr hF1
          obtain ⟨S16, hS16⟩ : ∃ zz, zz = sU S 3 0 2 := ⟨_, rfl⟩
          rw [← hS16] at hM
          refine jx_aload_n d_M_rest_46 rfl rfl ?_
          refine mx_sc 3 d_M_rest_47 (f_M_83 hB) hM (by decide) ?_
          rw [show S16 3 0 = 2 by simp [hS16, sU, sUs]]
          refine jI_if_eq (tgt := 54) d_M_rest_50 (by decide) (by omega) (fun z => absurd z (by omega)) (fun _ => ?_)
          exact jx_vret d_M_rest_53 rfl (jm_v (S := S16) (by rw [hS16]; unfold oRest; (repeat' split) <;> first | rfl | exact jp2 (by omega) rfl | (exfalso; omega)) hM hF)
  · refine jI_const d_M_rest_9 ?_
    refine jx_goto (tgt := 43) d_M_rest_10 (by decide) ?_
    refine mx_psc d_M_rest_43 (f_M_83 hB) (t_5_3 hB) hM (by decide) (fun w hM hF1 => ?_)
    have hF := hF.tr hF1
    obtain ⟨S18, hS18⟩ : ∃ zz, zz = sU S 3 0 1 := ⟨_, rfl⟩
    rw [← hS18] at hM
    refine jx_aload_n d_M_rest_46 rfl rfl ?_
    refine mx_sc 3 d_M_rest_47 (f_M_83 hB) hM (by decide) ?_
    rw [show S18 3 0 = 1 by simp [hS18, sU, sUs]]
    refine jI_if_eq (tgt := 54) d_M_rest_50 (by decide) (by omega) (fun z => absurd z (by omega)) (fun _ => ?_)
    exact jx_vret d_M_rest_53 rfl (jm_v (S := S18) (by rw [hS18]; unfold oRest; (repeat' split) <;> first | rfl | exact jp2 (by omega) rfl | (exfalso; omega)) hM hF)
theorem w_M_way {E : jx_E} {l : Launch} {d : Nat} {w : jx_W} {S : mS} {m : Nat} {A : Nat → Nat} {a b c : Int} (hB : jx_B E) (hM : mR E S w m A) (hI : sI S) (h1 : iR a) (h2 : iR b) (h3 : iR c) : jx_G E l Y_M_way (d + 1) (jm_po E m A w none (oWay S a b c)) 0 (jx_ent [.ref m, .int (iI a), .int (iI b), .int (iI c)] 4) [] w := by
  have hF : mF m A w w := mF.rf
  generalize hw0 : w = w0 at hF ⊢
  rw [hw0] at hM
  have hF : mF m A w0 w0 := mF.rf
  show jx_G E l Y_M_way (d + 1) (jm_po E m A w0 _ _) 0 [some (.ref m), some (.int (iI a)), some (.int (iI b)), some (.int (iI c))] [] w0
  refine jx_aload_n d_M_way_0 rfl rfl ?_
  refine jx_iload_n d_M_way_1 rfl rfl ?_
  refine jI_const d_M_way_2 ?_
  refine jI_const d_M_way_3 ?_
  refine jx_callS_r (As := [.int (iI (a)), .int (iI (0)), .int (iI (3))]) d_M_way_4 (m_M_within hB) (s_M_90 hB) rfl (Nat.le_of_ble_eq_true rfl) (Nat.le_of_ble_eq_true rfl) (w_M_within hB (x := a) (a := 0) (b := 3) (by omega) (by omega) (by omega)) ?_
  have q1 : sIn (a) (0) (3) = 0 ∧ ¬ (0 ≤ a ∧ a ≤ 3) ∨ sIn (a) (0) (3) = 1 ∧ (0 ≤ a ∧ a ≤ 3) := by unfold sIn; split <;> omega
  refine jI_if_eq (tgt := 39) d_M_way_7 (by decide) (by omega) (fun hc2 => ?_) (fun hc2 => ?_)
  · refine jI_const d_M_way_39 ?_
    refine mx_psc d_M_way_40 (f_M_83 hB) (t_5_3 hB) hM (by decide) (fun w hM hF1 => ?_)
    have hF := hF.tr hF1
    obtain ⟨S3, hS3⟩ : ∃ zz, zz = sU S 3 0 1 := ⟨_, rfl⟩
    rw [← hS3] at hM
    refine jx_aload_n d_M_way_43 rfl rfl ?_
    refine mx_sc 3 d_M_way_44 (f_M_83 hB) hM (by decide) ?_
    rw [show S3 3 0 = 1 by simp [hS3, sU, sUs]]
    refine jI_if_eq (tgt := 51) d_M_way_47 (by decide) (by omega) (fun z => absurd z (by omega)) (fun _ => ?_)
    exact jx_vret d_M_way_50 rfl (jm_v (S := S3) (by rw [hS3]; unfold oWay; (repeat' split) <;> first | rfl | exact jp2 (by omega) rfl | (exfalso; omega)) hM hF)
  · refine jx_iload_n d_M_way_10 rfl rfl ?_
    refine jI_const d_M_way_11 ?_
    refine jI_const d_M_way_12 ?_
    refine jx_callS_r (As := [.int (iI (b)), .int (iI (0)), .int (iI (3))]) d_M_way_13 (m_M_within hB) (s_M_90 hB) rfl (Nat.le_of_ble_eq_true rfl) (Nat.le_of_ble_eq_true rfl) (w_M_within hB (x := b) (a := 0) (b := 3) (by omega) (by omega) (by omega)) ?_
    have q5 : sIn (b) (0) (3) = 0 ∧ ¬ (0 ≤ b ∧ b ≤ 3) ∨ sIn (b) (0) (3) = 1 ∧ (0 ≤ b ∧ b ≤ 3) := by unfold sIn; split <;> omega
    refine jI_if_eq (tgt := 39) d_M_way_16 (by decide) (by omega) (fun hc6 => ?_) (fun hc6 => ?_)
    · refine jI_const d_M_way_39 ?_
      refine mx_psc d_M_way_40 (f_M_83 hB) (t_5_3 hB) hM (by decide) (fun w hM hF1 => ?_)
      have hF := hF.tr hF1
      obtain ⟨S7, hS7⟩ : ∃ zz, zz = sU S 3 0 1 := ⟨_, rfl⟩
      rw [← hS7] at hM
      refine jx_aload_n d_M_way_43 rfl rfl ?_
      refine mx_sc 3 d_M_way_44 (f_M_83 hB) hM (by decide) ?_
      rw [show S7 3 0 = 1 by simp [hS7, sU, sUs]]
      refine jI_if_eq (tgt := 51) d_M_way_47 (by decide) (by omega) (fun z => absurd z (by omega)) (fun _ => ?_)
      exact jx_vret d_M_way_50 rfl (jm_v (S := S7) (by rw [hS7]; unfold oWay; (repeat' split) <;> first | rfl | exact jp2 (by omega) rfl | (exfalso; omega)) hM hF)
    · refine jx_iload_n d_M_way_19 rfl rfl ?_
      refine jx_iload_n d_M_way_20 rfl rfl ?_
      refine jI_icmp_eq (tgt := 39) d_M_way_21 (by decide) (by omega) (by omega) (fun hc9 => ?_) (fun hc9 => ?_)
      · refine jI_const d_M_way_39 ?_
        refine mx_psc d_M_way_40 (f_M_83 hB) (t_5_3 hB) hM (by decide) (fun w hM hF1 => ?_)
        have hF := hF.tr hF1
        obtain ⟨S10, hS10⟩ : ∃ zz, zz = sU S 3 0 1 := ⟨_, rfl⟩
        rw [← hS10] at hM
        refine jx_aload_n d_M_way_43 rfl rfl ?_
        refine mx_sc 3 d_M_way_44 (f_M_83 hB) hM (by decide) ?_
        rw [show S10 3 0 = 1 by simp [hS10, sU, sUs]]
        refine jI_if_eq (tgt := 51) d_M_way_47 (by decide) (by omega) (fun z => absurd z (by omega)) (fun _ => ?_)
        exact jx_vret d_M_way_50 rfl (jm_v (S := S10) (by rw [hS10]; unfold oWay; (repeat' split) <;> first | rfl | exact jp2 (by omega) rfl | (exfalso; omega)) hM hF)
      · refine jx_iload_n d_M_way_24 rfl rfl ?_
        refine jI_const d_M_way_25 ?_
        refine jI_sipush d_M_way_26 (by decide) ?_
        refine jx_callS_r (As := [.int (iI (c)), .int (iI (0)), .int (iI (1000))]) d_M_way_29 (m_M_within hB) (s_M_90 hB) rfl (Nat.le_of_ble_eq_true rfl) (Nat.le_of_ble_eq_true rfl) (w_M_within hB (x := c) (a := 0) (b := 1000) (by omega) (by omega) (by omega)) ?_
        have q12 : sIn (c) (0) (1000) = 0 ∧ ¬ (0 ≤ c ∧ c ≤ 1000) ∨ sIn (c) (0) (1000) = 1 ∧ (0 ≤ c ∧ c ≤ 1000) := by unfold sIn; split <;> omega
        refine jI_if_eq (tgt := 39) d_M_way_32 (by decide) (by omega) (fun hc13 => ?_) (fun hc13 => ?_)
        · refine jI_const d_M_way_39 ?_
          refine mx_psc d_M_way_40 (f_M_83 hB) (t_5_3 hB) hM (by decide) (fun w hM hF1 => ?_)
          have hF := hF.tr hF1
          obtain ⟨S14, hS14⟩ : ∃ zz, zz = sU S 3 0 1 := ⟨_, rfl⟩
          rw [← hS14] at hM
          refine jx_aload_n d_M_way_43 rfl rfl ?_
          refine mx_sc 3 d_M_way_44 (f_M_83 hB) hM (by decide) ?_
          rw [show S14 3 0 = 1 by simp [hS14, sU, sUs]]
          refine jI_if_eq (tgt := 51) d_M_way_47 (by decide) (by omega) (fun z => absurd z (by omega)) (fun _ => ?_)
          exact jx_vret d_M_way_50 rfl (jm_v (S := S14) (by rw [hS14]; unfold oWay; (repeat' split) <;> first | rfl | exact jp2 (by omega) rfl | (exfalso; omega)) hM hF)
        · refine jI_const d_M_way_35 ?_
          refine jx_goto (tgt := 40) d_M_way_36 (by decide) ?_
          refine mx_psc d_M_way_40 (f_M_83 hB) (t_5_3 hB) hM (by decide) (fun w hM hF1 => ?_)
          have hF := hF.tr hF1
          obtain ⟨S16, hS16⟩ : ∃ zz, zz = sU S 3 0 0 := ⟨_, rfl⟩
          rw [← hS16] at hM
          refine jx_aload_n d_M_way_43 rfl rfl ?_
          refine mx_sc 3 d_M_way_44 (f_M_83 hB) hM (by decide) ?_
          rw [show S16 3 0 = 0 by simp [hS16, sU, sUs]]
          refine jI_if_eq (tgt := 51) d_M_way_47 (by decide) (by omega) (fun _ => ?_) (fun z => absurd z (by omega))
          refine jx_aload_n d_M_way_51 rfl rfl ?_
          refine mx_ar 12 d_M_way_52 (f_M_35 hB) hM (by decide) ?_
          refine jI_const d_M_way_55 ?_
          refine jx_iload_n d_M_way_56 rfl rfl ?_
          refine jI_mul d_M_way_57 ?_
          refine jx_iload_n d_M_way_58 rfl rfl ?_
          refine jI_add d_M_way_59 ?_
          refine jx_iload_n d_M_way_60 rfl rfl ?_
          refine mx_st (n := 16) d_M_way_61 hM (by decide) rfl ⟨by omega, by omega⟩ (fun w hM hF1 => ?_)
          have hF := hF.tr hF1
          obtain ⟨S18, hS18⟩ : ∃ zz, zz = sU S16 12 ((4 * a) + b) c := ⟨_, rfl⟩
          rw [← hS18] at hM
          refine jx_aload_n d_M_way_62 rfl rfl ?_
          refine mx_ar 12 d_M_way_63 (f_M_35 hB) hM (by decide) ?_
          refine jI_const d_M_way_66 ?_
          refine jx_iload_n d_M_way_67 rfl rfl ?_
          refine jI_mul d_M_way_68 ?_
          refine jx_iload_n d_M_way_69 rfl rfl ?_
          refine jI_add d_M_way_70 ?_
          refine jx_iload_n d_M_way_71 rfl rfl ?_
          refine mx_st (n := 16) d_M_way_72 hM (by decide) rfl ⟨by omega, by omega⟩ (fun w hM hF1 => ?_)
          have hF := hF.tr hF1
          obtain ⟨S19, hS19⟩ : ∃ zz, zz = sU S18 12 ((4 * b) + a) c := ⟨_, rfl⟩
          rw [← hS19] at hM
          exact jx_vret d_M_way_73 rfl (jm_v (S := S19) (by rw [hS19, hS18, hS16]; unfold oWay; (repeat' split) <;> first | rfl | exact jp2 (by omega) rfl | (exfalso; omega)) hM hF)
theorem w_M_pass {E : jx_E} {l : Launch} {d : Nat} {w : jx_W} {S : mS} {m : Nat} {A : Nat → Nat} {t : Int} (hB : jx_B E) (hM : mR E S w m A) (hI : sI S) (hn : 0 ≤ S 2 0 ∧ S 2 0 ≤ 100000) (h1 : iR t) : jx_G E l Y_M_pass (d) (jm_po E m A w none (oPass S t)) 0 (jx_ent [.ref m, .int (iI t)] 2) [] w := by
  have hF : mF m A w w := mF.rf
  generalize hw0 : w = w0 at hF ⊢
  rw [hw0] at hM
  have hF : mF m A w0 w0 := mF.rf
  show jx_G E l Y_M_pass (d) (jm_po E m A w0 _ _) 0 [some (.ref m), some (.int (iI t))] [] w0
  refine jx_aload_n d_M_pass_0 rfl rfl ?_
  refine jx_iload_n d_M_pass_1 rfl rfl ?_
  refine jx_aload_n d_M_pass_2 rfl rfl ?_
  refine mx_sc 2 d_M_pass_3 (f_M_117 hB) hM (by decide) ?_
  refine jI_icmp_lt (tgt := 15) d_M_pass_6 (by decide) (by omega) (by omega) (fun hc1 => ?_) (fun hc1 => ?_)
  · refine jI_const d_M_pass_15 ?_
    refine jx_goto (tgt := 20) d_M_pass_16 (by decide) ?_
    refine mx_psc d_M_pass_20 (f_M_83 hB) (t_5_3 hB) hM (by decide) (fun w hM hF1 => ?_)
    have hF := hF.tr hF1
    obtain ⟨S2, hS2⟩ : ∃ zz, zz = sU S 3 0 1 := ⟨_, rfl⟩
    rw [← hS2] at hM
    refine jx_aload_n d_M_pass_23 rfl rfl ?_
    refine mx_sc 3 d_M_pass_24 (f_M_83 hB) hM (by decide) ?_
    rw [show S2 3 0 = 1 by simp [hS2, sU, sUs]]
    refine jI_if_ne (tgt := 35) d_M_pass_27 (by decide) (by omega) (fun _ => ?_) (fun z => absurd z (by omega))
    exact jx_vret d_M_pass_35 rfl (jm_v (S := S2) (by rw [hS2]; unfold oPass; (repeat' split) <;> first | rfl | exact jp2 (by omega) rfl | (exfalso; omega)) hM hF)
  · refine jx_iload_n d_M_pass_9 rfl rfl ?_
    refine jI_ldc d_M_pass_10 (k_M_97 hB) (n := 100000) (by decide) ?_
    refine jI_icmp_le (tgt := 19) d_M_pass_12 (by decide) (by omega) (by omega) (fun hc4 => ?_) (fun hc4 => ?_)
    · refine jI_const d_M_pass_19 ?_
      refine mx_psc d_M_pass_20 (f_M_83 hB) (t_5_3 hB) hM (by decide) (fun w hM hF1 => ?_)
      have hF := hF.tr hF1
      obtain ⟨S5, hS5⟩ : ∃ zz, zz = sU S 3 0 0 := ⟨_, rfl⟩
      rw [← hS5] at hM
      refine jx_aload_n d_M_pass_23 rfl rfl ?_
      refine mx_sc 3 d_M_pass_24 (f_M_83 hB) hM (by decide) ?_
      rw [show S5 3 0 = 0 by simp [hS5, sU, sUs]]
      refine jI_if_ne (tgt := 35) d_M_pass_27 (by decide) (by omega) (fun z => absurd z (by omega)) (fun _ => ?_)
      refine jx_aload_n d_M_pass_30 rfl rfl ?_
      refine jx_iload_n d_M_pass_31 rfl rfl ?_
      refine mx_psc d_M_pass_32 (f_M_117 hB) (t_5_2 hB) hM (by decide) (fun w hM hF1 => ?_)
      have hF := hF.tr hF1
      obtain ⟨S7, hS7⟩ : ∃ zz, zz = sU S5 2 0 t := ⟨_, rfl⟩
      rw [← hS7] at hM
      exact jx_vret d_M_pass_35 rfl (jm_v (S := S7) (by rw [hS7, hS5]; unfold oPass; (repeat' split) <;> first | rfl | exact jp2 (by omega) rfl | (exfalso; omega)) hM hF)
    · refine jI_const d_M_pass_15 ?_
      refine jx_goto (tgt := 20) d_M_pass_16 (by decide) ?_
      refine mx_psc d_M_pass_20 (f_M_83 hB) (t_5_3 hB) hM (by decide) (fun w hM hF1 => ?_)
      have hF := hF.tr hF1
      obtain ⟨S8, hS8⟩ : ∃ zz, zz = sU S 3 0 1 := ⟨_, rfl⟩
      rw [← hS8] at hM
      refine jx_aload_n d_M_pass_23 rfl rfl ?_
      refine mx_sc 3 d_M_pass_24 (f_M_83 hB) hM (by decide) ?_
      rw [show S8 3 0 = 1 by simp [hS8, sU, sUs]]
      refine jI_if_ne (tgt := 35) d_M_pass_27 (by decide) (by omega) (fun _ => ?_) (fun z => absurd z (by omega))
      exact jx_vret d_M_pass_35 rfl (jm_v (S := S8) (by rw [hS8]; unfold oPass; (repeat' split) <;> first | rfl | exact jp2 (by omega) rfl | (exfalso; omega)) hM hF)
theorem w_M_exact {E : jx_E} {l : Launch} {d : Nat} {w : jx_W} {S : mS} {m : Nat} {A : Nat → Nat} (hB : jx_B E) (hM : mR E S w m A) (hI : sI S) (hx : S 21 0 = 0 ∨ S 21 0 = 1) : jx_G E l Y_M_exact (d) (jm_po E m A w (some (.int (iI (oExact S).1))) (oExact S).2) 0 (jx_ent [.ref m] 1) [] w := by
  have hF : mF m A w w := mF.rf
  generalize hw0 : w = w0 at hF ⊢
  rw [hw0] at hM
  have hF : mF m A w0 w0 := mF.rf
  show jx_G E l Y_M_exact (d) (jm_po E m A w0 _ _) 0 [some (.ref m)] [] w0
  refine jx_aload_n d_M_exact_0 rfl rfl ?_
  refine jI_const d_M_exact_1 ?_
  refine mx_psc d_M_exact_2 (f_M_83 hB) (t_5_3 hB) hM (by decide) (fun w hM hF1 => ?_)
  have hF := hF.tr hF1
  obtain ⟨S1, hS1⟩ : ∃ zz, zz = sU S 3 0 0 := ⟨_, rfl⟩
  rw [← hS1] at hM
  refine jx_aload_n d_M_exact_5 rfl rfl ?_
  refine mx_sc 21 d_M_exact_6 (f_M_178 hB) hM (by decide) ?_
  rw [show S1 21 0 = S 21 0 by simp [hS1, sU, sUs]]
  exact jx_zret (ty := .boolean) d_M_exact_9 rfl (jI_bool (by omega)) (jm_i (S := S1) (by rw [hS1]; unfold oExact; (repeat' split) <;> first | rfl | exact jp2 (by omega) rfl | (exfalso; omega)) hM hF)
