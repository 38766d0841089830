/-! 58.find2: the best orders of all sets -/
theorem l_M_build {E : jx_E} {l : Launch} {d : Nat} {w0 : jx_W} {S1 : mS} {m : Nat} {A : Nat → Nat} {Q : jx_R → jx_W → Prop} {q set at_ n : Int} {X Y : Option Value} (hB : jx_B E) (hq : 0 ≤ q ∧ q < 4) (hs : 0 ≤ set ∧ set < 32) (h23 : n = S1 23 0) (h5 : 0 ≤ n ∧ n ≤ 5) (K2 : ∀ (T : mS) (w : jx_W), mR E T w m A → sI T → mF m A w0 w → (∀ g, g ≠ 26 → T g = S1 g) → (∃ k0, (0 ≤ k0 ∧ k0 < n) ∧ sBit set k0 = 1 ∧ sMay S1 q (S1 22 k0) ≠ 1) → Q (.inr none) w) (K : ∀ (T : mS) (w : jx_W) (many : Int), mR E T w m A → sI T → mF m A w0 w → (∀ g, g ≠ 26 → T g = S1 g) → (∀ i, 0 ≤ i ∧ i < n → sBit set i = 1 → sMay S1 q (S1 22 i) = 1) → 0 ≤ many → toL (T 26) many.toNat = elemsTo set n.toNat → many = ((elemsTo set n.toNat).length : Int) → jx_G E l Y_M_findOrder (d + 3) Q 73 [some (.ref m), some (.int (iI q)), some (.int (iI set)), some (.int (iI at_)), some (.int (iI many)), some (.int (iI n)), X, Y] [] w) : ∀ (j : Nat) (many k : Int) (S : mS) (w : jx_W), mR E S w m A → sI S → mF m A w0 w → (∀ g, g ≠ 26 → S g = S1 g) → (∀ i, 0 ≤ i ∧ i < k → sBit set i = 1 → sMay S1 q (S1 22 i) = 1) → 0 ≤ many → toL (S 26) many.toNat = elemsTo set k.toNat → many = ((elemsTo set k.toNat).length : Int) → 0 ≤ k ∧ k ≤ n → n - k < j → jx_G E l Y_M_findOrder (d + 3) Q 20 [some (.ref m), some (.int (iI q)), some (.int (iI set)), some (.int (iI at_)), some (.int (iI many)), some (.int (iI k)), X, Y] [] w := by
  intro j
  induction j with
  | zero => intro many k S w hM hI hF hg hm h0 ht hl hk hz; exfalso; omega
  | succ j ih =>
    intro many k S w hM hI hF hg hm h0 ht hl hk hz
    have e23 : S 23 0 = n := by rw [h23, hg 23 (by decide)]
    have hml : many ≤ k := by have := elemsTo_len set k.toNat; omega
    have hel := elemsTo_s set k.toNat
    rw [Int.toNat_of_nonneg hk.1] at hel
    have hkt : (k + 1).toNat = k.toNat + 1 := by omega
    have hmay : sMay S q (S 22 k) = sMay S1 q (S1 22 k) := by rw [hg 22 (by decide)]; exact sMay_q (fun g hg1 => hg g (by omega)) _ _
    refine jx_iload d_M_findOrder_20 rfl ?_
    refine jx_aload_n d_M_findOrder_22 rfl rfl ?_
    refine mx_sc 23 d_M_findOrder_23 (f_M_141 hB) hM (by decide) ?_
    refine jI_icmp_ge (tgt := 73) d_M_findOrder_26 (by decide) (by omega) (by omega) (fun hc1 => ?_) (fun hc1 => ?_)
    · (have e : k = n := by omega); rw [e] at ht hl hm ⊢; exact K S w many hM hI hF hg hm h0 ht hl
    · refine jx_iload_n d_M_findOrder_29 rfl rfl ?_
      refine jx_iload d_M_findOrder_30 rfl ?_
      refine jI_bit d_M_findOrder_32 d_M_findOrder_33 d_M_findOrder_34 ⟨by omega, by omega⟩ ⟨by omega, by omega⟩ ?_
      have b2 := sBit_01 set k
      refine jI_const d_M_findOrder_35 ?_
      refine jI_icmp_ne (tgt := 67) d_M_findOrder_36 (by decide) (by omega) (by omega) (fun hc3 => ?_) (fun hc3 => ?_)
      · refine jI_inc d_M_findOrder_67 rfl rfl ?_
        try dsimp only [List.set]
        refine jx_goto (tgt := 20) d_M_findOrder_70 (by decide) ?_
        exact ih many (k + 1) S w hM hI hF hg (fun i hi hb => by by_cases e : i = k; (rw [e] at hb; omega); exact hm i (by omega) hb) h0 (by rw [hkt, hel, if_neg (by omega), List.append_nil]; exact ht) (by rw [hkt, hel, if_neg (by omega), List.append_nil]; exact hl) (by omega) (by omega)
      · refine jx_aload_n d_M_findOrder_39 rfl rfl ?_
        refine jx_iload_n d_M_findOrder_40 rfl rfl ?_
        refine jx_aload_n d_M_findOrder_41 rfl rfl ?_
        refine mx_ar 22 d_M_findOrder_42 (f_M_62 hB) hM (by decide) ?_
        refine jx_iload d_M_findOrder_45 rfl ?_
        refine mx_ld (n := 5) d_M_findOrder_47 hM (by decide) rfl ⟨by omega, by omega⟩ ?_
        have r4 : 0 ≤ S 22 k ∧ S 22 k ≤ 15 := hI.r 22 k (n := 5) (by decide) rfl ⟨by omega, by omega⟩
        refine jx_callV_r (As := [.int (iI (q)), .int (iI (S 22 k))]) (v := some (.int (iI (sMay S q (S 22 k))))) d_M_findOrder_48 (m_M_may hB) (v_M_144 hB) (by decide) (jx_c5 hB) hM.1 rfl (Nat.le_of_ble_eq_true rfl) (Nat.le_of_ble_eq_true rfl) (w_M_may hB hM hI (p := q) (t := S 22 k) (by omega) (by omega)) ?_
        have q5 := sMay_01 S q (S 22 k)
        refine jI_if_ne (tgt := 55) d_M_findOrder_51 (by decide) (by omega) (fun hc6 => ?_) (fun hc6 => ?_)
        · refine jx_aload_n d_M_findOrder_55 rfl rfl ?_
          refine mx_ar 26 d_M_findOrder_56 (f_M_71 hB) hM (by decide) ?_
          refine jx_iload d_M_findOrder_59 rfl ?_
          refine jx_iload d_M_findOrder_61 rfl ?_
          refine mx_st (n := 5) d_M_findOrder_63 hM (by decide) rfl ⟨by omega, by omega⟩ (fun w hM hF1 => ?_)
          have hF := hF.tr hF1
          obtain ⟨S7, hS7⟩ : ∃ zz, zz = sU S 26 many k := ⟨_, rfl⟩
          rw [← hS7] at hM
          have hIS7 : sI S7 := by rw [hS7]; exact hI.u 26 _ _ (fun _ => (show (0 : Int) ≤ k ∧ k ≤ 4 by constructor <;> omega))
          have e8 : S7 0 0 = S 0 0 := by rw [hS7]; rfl
          have e9 : S7 1 0 = S 1 0 := by rw [hS7]; rfl
          have e10 : S7 2 0 = S 2 0 := by rw [hS7]; rfl
          have e11 : S7 23 0 = S 23 0 := by rw [hS7]; rfl
          refine jI_inc d_M_findOrder_64 rfl rfl ?_
          try dsimp only [List.set]
          refine jI_inc d_M_findOrder_67 rfl rfl ?_
          try dsimp only [List.set]
          refine jx_goto (tgt := 20) d_M_findOrder_70 (by decide) ?_
          rw [if_pos (by omega)] at hel
          refine ih (many + 1) (k + 1) S7 w hM hIS7 hF (fun g hgg => by rw [hS7, sU_ne hgg]; exact hg g hgg) (fun i hi hb => ?_) (by omega) ?_ ?_ (by omega) (by omega)
          · by_cases e : i = k
            · rw [e, ← hmay]; omega
            · exact hm i (by omega) hb
          · rw [hkt, hel, show (many + 1).toNat = many.toNat + 1 by omega, hS7, sU_fU, ← ht]
            have := toL_s (S 26) many.toNat k
            rw [Int.toNat_of_nonneg h0] at this
            exact this
          · rw [hkt, hel, List.length_append, hl]
            show _ = (((elemsTo set k.toNat).length + 1 : Nat) : Int)
            omega
        · exact jx_vret d_M_findOrder_54 rfl (K2 S w hM hI hF hg ⟨k, by omega, by omega, by omega⟩)
theorem w_M_findOrder {E : jx_E} {l : Launch} {d : Nat} {w : jx_W} {S : mS} {m : Nat} {A : Nat → Nat} {q set : Int} (hB : jx_B E) (hM : mR E S w m A) (hI : sI S) (hn : 0 ≤ S 2 0 ∧ S 2 0 ≤ 100000) (hq : 0 ≤ q ∧ q < 4) (h5 : 0 ≤ S 23 0 ∧ S 23 0 ≤ 5) (hs : 0 ≤ set ∧ set < 2 ^ (S 23 0).toNat) (hs2 : set < 32) : jx_G E l Y_M_findOrder (d + 3) (jm_pp E m A w none (foP S q set)) 0 (jx_ent [.ref m, .int (iI q), .int (iI set)] 8) [] w := by
  show jx_G E l Y_M_findOrder (d + 3) (jm_pp E m A w none (foP S q set)) 0 [some (.ref m), some (.int (iI q)), some (.int (iI set)), none, none, none, none, none] [] w
  have hF : mF m A w w := mF.rf
  generalize hw0 : w = w0 at hF ⊢
  rw [hw0] at hM
  have hF : mF m A w0 w0 := mF.rf
  have hel := elemsTo_ok h5 hs
  have hch := ch_ok (set := set) ⟨hs.1, hs2⟩
  have hlen : (elems set).length ≤ 5 := by
    have := elemsTo_len set (S 23 0).toNat
    rw [hel] at this
    omega
  refine jI_bipush d_M_findOrder_0 (by decide) ?_
  refine jx_iload_n d_M_findOrder_2 rfl rfl ?_
  refine jI_mul d_M_findOrder_3 ?_
  refine jx_iload_n d_M_findOrder_4 rfl rfl ?_
  refine jI_add d_M_findOrder_5 ?_
  refine jx_istore_n d_M_findOrder_6 rfl (Nat.le_of_ble_eq_true rfl) rfl ?_
  try dsimp only [List.set]
  refine jI_const d_M_findOrder_7 ?_
  refine jx_istore d_M_findOrder_8 (Nat.le_of_ble_eq_true rfl) rfl ?_
  try dsimp only [List.set]
  refine jx_aload_n d_M_findOrder_10 rfl rfl ?_
  refine mx_ar 24 d_M_findOrder_11 (f_M_65 hB) hM (by decide) ?_
  refine jx_iload_n d_M_findOrder_14 rfl rfl ?_
  refine jI_const d_M_findOrder_15 ?_
  refine mx_st (n := 128) d_M_findOrder_16 hM (by decide) rfl ⟨by omega, by omega⟩ (fun w hM hF1 => ?_)
  have hF := hF.tr hF1
  obtain ⟨S1, hS1⟩ : ∃ zz, zz = sU S 24 ((32 * q) + set) ((-1)) := ⟨_, rfl⟩
  rw [← hS1] at hM
  have hIS1 : sI S1 := by rw [hS1]; exact hI.u 24 _ _ (fun _ => (show (-1 : Int) ≤ (-1) ∧ (-1) ≤ 600000 by constructor <;> omega))
  have e2 : S1 0 0 = S 0 0 := by rw [hS1]; rfl
  have e3 : S1 1 0 = S 1 0 := by rw [hS1]; rfl
  have e4 : S1 2 0 = S 2 0 := by rw [hS1]; rfl
  have e5 : S1 23 0 = S 23 0 := by rw [hS1]; rfl
  refine jI_const d_M_findOrder_17 ?_
  refine jx_istore d_M_findOrder_18 (Nat.le_of_ble_eq_true rfl) rfl ?_
  try dsimp only [List.set]
  obtain ⟨at_, hat⟩ : ∃ at_ : Int, at_ = 32 * q + set := ⟨_, rfl⟩
  rw [← hat] at hS1 ⊢
  have f23 : S1 23 0 = S 23 0 := by rw [hS1]; rfl
  have f2 : S1 2 0 = S 2 0 := by rw [hS1]; rfl
  have hqS : ∀ g, g ≠ 24 → S1 g = S g := fun g hg => by rw [hS1]; exact sU_ne hg
  have hqm : ∀ k, sMay S1 q (S1 22 k) = sMay S q (S 22 k) := fun k => by rw [hqS 22 (by decide)]; exact sMay_q (fun g hg => hqS g (by omega)) _ _
  refine l_M_build (S1 := S1) (w0 := w0) (n := S 23 0) hB hq ⟨hs.1, hs2⟩ f23.symm h5 (fun T w hM hIT hF hg hk0 => ?_) (fun T w many hM hIT hF hg hm h0 ht hl => ?_) 6 0 0 S1 w hM hIS1 hF (fun _ _ => rfl) (fun i hi _ => by omega) (by omega) rfl rfl (by omega) (by omega)
  · obtain ⟨k0, k1, k2, k3⟩ := hk0
    rw [hqm] at k3
    have hne : cFo S q set (S 23 0) = none := cFo_none ⟨hs.1, hs2⟩ ⟨by omega, k2⟩ k3
    refine ⟨rfl, T, hM, hF, hIT, ?_⟩
    unfold foP
    rw [← hat, hne]
    refine ⟨⟨fun g hgg => ?_, fun i hi => ?_, fun i hi => ?_⟩, ?_⟩
    · rw [hg g (by omega), hqS g (by omega)]
    · rw [hg 24 (by decide), hS1, sU_i hi]
    · rw [hg 25 (by decide), hqS 25 (by decide)]
    · show T 24 at_ = -1
      rw [hg 24 (by decide), hS1, sU_same]
  rw [hel] at ht hl
  refine jI_const d_M_findOrder_73 ?_
  refine jx_istore d_M_findOrder_74 (Nat.le_of_ble_eq_true rfl) rfl ?_
  try dsimp only [List.set]
  have hpe : perms set = elems set :: (perms set).tail := by
    have := hch.2.1
    cases hpm : perms set with
    | nil => rw [hpm] at this; cases this
    | cons a r => rw [hpm] at this; injection this with this; subst this; rfl
  refine jx_weak (l_M_find (S0 := S) (w0 := w0) (n := S 23 0) hB hat hq ⟨hs.1, hs2⟩ hl (by omega) hn rfl h5 (fun k hk hb => mem_elems.mpr ⟨by omega, hb⟩) (fun k hk => ?_) (perms set).tail (elems set) none _ _ T w hM hIT hF ⟨fun g hgg => ?_, fun i hi => ?_, fun i hi => ?_⟩ (by rw [← hpe]; exact hch.1) (by rw [← hpe]; exact hch.2.2) (fun i hi => ?_) ?_) (fun rr w' zz => ?_)
  · have hk2 := mem_elems.mp hk
    have : k < S 23 0 := by
      by_cases h : k < S 23 0
      · exact h
      · have := sBit_hi (n := S 23 0) hs (by omega : S 23 0 ≤ k); omega
    rw [← hqm]; exact hm k (by omega) hk2.2
  · rw [hg g (by omega), hqS g (by omega)]
  · rw [hg 24 (by decide), hS1, sU_i hi]
  · rw [hg 25 (by decide), hqS 25 (by decide)]
  · rw [← fL_toL (b := T 26) (n := many.toNat) (by omega), ht]
  · show T 24 at_ = -1
    rw [hg 24 (by decide), hS1, sU_same]
  · rw [← hpe] at zz
    obtain ⟨z1, U, z2, z3, z4, z5⟩ := zz
    refine ⟨z1, U, z2, z3, z4, ?_⟩
    unfold foP
    rw [← hat]
    exact z5
/-- the tables of the sets before (q, set) are right -/
def exT (S : mS) (n q set : Int) (T : mS) : Prop := (∀ g, ¬ (24 ≤ g ∧ g ≤ 27) → T g = S g) ∧ ∀ q2 s2, 0 ≤ q2 → 0 ≤ s2 ∧ s2 < 2 ^ n.toNat → (q2 < q ∨ q2 = q ∧ s2 < set) → bR (T 24 (32 * q2 + s2)) (fun k => T 25 (5 * (32 * q2 + s2) + k)) s2 n (cFo S q2 s2 n)
theorem exT_s {S T U : mS} {n q set : Int} (h5 : 0 ≤ n ∧ n ≤ 5) (e : n = S 23 0) (hN : (2 : Int) ^ n.toNat ≤ 32) (hq : 0 ≤ q) (hs : 0 ≤ set ∧ set < 2 ^ n.toNat) (hT : exT S n q set T) (hU : foP T q set U) : exT S n q (set + 1) U := by
  obtain ⟨⟨u1, u2, u3⟩, u4⟩ := hU
  obtain ⟨t1, t2⟩ := hT
  refine ⟨fun g hg => (u1 g hg).trans (t1 g hg), fun q2 s2 hq2 hs2 hc => ?_⟩
  by_cases h : q2 = q ∧ s2 = set
  · obtain ⟨rfl, rfl⟩ := h
    rw [t1 23 (by decide), ← e, cFo_q (fun g hg => t1 g (by omega))] at u4
    exact u4
  · have hne : 32 * q2 + s2 ≠ 32 * q + set := by omega
    have hb := t2 q2 s2 hq2 hs2 (by omega)
    have hbc : ∀ k, 0 ≤ k ∧ k < n → U 25 (5 * (32 * q2 + s2) + k) = T 25 (5 * (32 * q2 + s2) + k) := fun k hk => u3 _ (by omega)
    rw [u2 _ hne]
    cases hc2 : cFo S q2 s2 n with
    | none => rw [hc2] at hb; exact hb
    | some x =>
      obtain ⟨l2, t⟩ := x
      rw [hc2] at hb
      obtain ⟨b1, b2, b3⟩ := hb
      exact ⟨b1, b2, fun k hk hbk => (hbc k hk).trans (b3 k hk hbk)⟩
theorem pow_rg {n : Int} (h5 : 0 ≤ n ∧ n ≤ 5) : 1 ≤ (2 : Int) ^ n.toNat ∧ (2 : Int) ^ n.toNat ≤ 32 := by
  have h : n = 0 ∨ n = 1 ∨ n = 2 ∨ n = 3 ∨ n = 4 ∨ n = 5 := by omega
  rcases h with rfl | rfl | rfl | rfl | rfl | rfl <;> exact ⟨by decide, by decide⟩
theorem l_M_allI {E : jx_E} {l : Launch} {d : Nat} {w0 : jx_W} {S0 : mS} {m : Nat} {A : Nat → Nat} {Q : jx_R → jx_W → Prop} {n N : Int} {X3 X4 X5 X6 : Option Value} (hB : jx_B E) (hP : 0 ≤ S0 0 0 ∧ S0 0 0 ≤ 4) (hn : 0 ≤ S0 2 0 ∧ S0 2 0 ≤ 100000) (h23 : n = S0 23 0) (h5 : 0 ≤ n ∧ n ≤ 5) (hN : N = 2 ^ n.toNat) (hN2 : 1 ≤ N ∧ N ≤ 32) {q : Int} (hq : 0 ≤ q ∧ q < S0 0 0) (K : ∀ (T : mS) (w : jx_W), mR E T w m A → sI T → mF m A w0 w → exT S0 n q N T → jx_G E l Y_M_planExactly (d + 4) Q 34 [some (.ref m), some (.int (iI q)), some (.int (iI N)), X3, X4, X5, X6] [] w) : ∀ (j : Nat) (set : Int) (S : mS) (w : jx_W), mR E S w m A → sI S → mF m A w0 w → exT S0 n q set S → 0 ≤ set ∧ set ≤ N → N - set < j → jx_G E l Y_M_planExactly (d + 4) Q 12 [some (.ref m), some (.int (iI q)), some (.int (iI set)), X3, X4, X5, X6] [] w := by
  intro j
  induction j with
  | zero => intro set S w hM hI hF hx hs hz; exfalso; omega
  | succ j ih =>
    intro set S w hM hI hF hx hs hz
    have e23 : S 23 0 = n := by rw [h23, hx.1 23 (by decide)]
    have e2 : S 2 0 = S0 2 0 := by rw [hx.1 2 (by decide)]
    refine jx_iload_n d_M_planExactly_12 rfl rfl ?_
    refine jI_const d_M_planExactly_13 ?_
    refine jx_aload_n d_M_planExactly_14 rfl rfl ?_
    refine mx_sc 23 d_M_planExactly_15 (f_M_141 hB) hM (by decide) ?_
    refine jI_shl1 d_M_planExactly_18 ⟨by omega, by omega⟩ ?_
    rw [show (2 : Int) ^ (S 23 0).toNat = N by rw [e23, hN]]
    refine jI_icmp_ge (tgt := 34) d_M_planExactly_19 (by decide) (by omega) (by omega) (fun hc1 => ?_) (fun hc1 => ?_)
    · (have e : set = N := by omega); rw [e] at hx ⊢; exact K S w hM hI hF hx
    · refine jx_aload_n d_M_planExactly_22 rfl rfl ?_
      refine jx_iload_n d_M_planExactly_23 rfl rfl ?_
      refine jx_iload_n d_M_planExactly_24 rfl rfl ?_
      refine jm_callP (As := [.int (iI (q)), .int (iI (set))]) (v := none) d_M_planExactly_25 (m_M_findOrder hB) (v_M_159 hB) hB hM.1 rfl (Nat.le_of_ble_eq_true rfl) (Nat.le_of_ble_eq_true rfl) (w_M_findOrder hB hM hI (q := q) (set := set) (by omega) (by omega) (by omega) (by rw [e23, ← hN]; omega) (by omega)) (fun w T2 hM hF1 hIT2 hPT2 => ?_)
      have hF := hF.tr hF1
      have hx2 := exT_s h5 h23 (by omega) (by omega) (by omega) hx hPT2
      refine jI_inc d_M_planExactly_28 rfl rfl ?_
      try dsimp only [List.set]
      refine jx_goto (tgt := 12) d_M_planExactly_31 (by decide) ?_
      exact ih (set + 1) T2 w hM hIT2 hF hx2 (by omega) (by omega)
theorem l_M_allO {E : jx_E} {l : Launch} {d : Nat} {w0 : jx_W} {S0 : mS} {m : Nat} {A : Nat → Nat} {Q : jx_R → jx_W → Prop} {n N : Int} {X3 X4 X5 X6 : Option Value} (hB : jx_B E) (hP : 0 ≤ S0 0 0 ∧ S0 0 0 ≤ 4) (hn : 0 ≤ S0 2 0 ∧ S0 2 0 ≤ 100000) (h23 : n = S0 23 0) (h5 : 0 ≤ n ∧ n ≤ 5) (hN : N = 2 ^ n.toNat) (hN2 : 1 ≤ N ∧ N ≤ 32) (K : ∀ (T : mS) (w : jx_W) (X2 : Option Value), mR E T w m A → sI T → mF m A w0 w → exT S0 n (S0 0 0) 0 T → jx_G E l Y_M_planExactly (d + 4) Q 40 [some (.ref m), some (.int (iI (S0 0 0))), X2, X3, X4, X5, X6] [] w) : ∀ (j : Nat) (q : Int) (X2 : Option Value) (S : mS) (w : jx_W), mR E S w m A → sI S → mF m A w0 w → exT S0 n q 0 S → 0 ≤ q ∧ q ≤ S0 0 0 → S0 0 0 - q < j → jx_G E l Y_M_planExactly (d + 4) Q 2 [some (.ref m), some (.int (iI q)), X2, X3, X4, X5, X6] [] w := by
  intro j
  induction j with
  | zero => intro q X2 S w hM hI hF hx hq hz; exfalso; omega
  | succ j ih =>
    intro q X2 S w hM hI hF hx hq hz
    have e0 : S 0 0 = S0 0 0 := by rw [hx.1 0 (by decide)]
    refine jx_iload_n d_M_planExactly_2 rfl rfl ?_
    refine jx_aload_n d_M_planExactly_3 rfl rfl ?_
    refine mx_sc 0 d_M_planExactly_4 (f_M_87 hB) hM (by decide) ?_
    refine jI_icmp_ge (tgt := 40) d_M_planExactly_7 (by decide) (by omega) (by omega) (fun hc1 => ?_) (fun hc1 => ?_)
    · (have e : q = S0 0 0 := by omega); rw [e] at hx ⊢; exact K S w X2 hM hI hF hx
    · refine jI_const d_M_planExactly_10 ?_
      refine jx_istore_n d_M_planExactly_11 rfl (Nat.le_of_ble_eq_true rfl) rfl ?_
      try dsimp only [List.set]
      refine l_M_allI (S0 := S0) (w0 := w0) hB hP hn h23 h5 hN hN2 (q := q) (by omega) (fun T w hM hIT hF hxT => ?_) 33 0 S w hM hI hF hx (by omega) (by omega)
      refine jI_inc d_M_planExactly_34 rfl rfl ?_
      try dsimp only [List.set]
      refine jx_goto (tgt := 2) d_M_planExactly_37 (by decide) ?_
      exact ih (q + 1) _ T w hM hIT hF ⟨hxT.1, fun q2 s2 h1 h2 h3 => hxT.2 q2 s2 h1 h2 (by rw [← hN] at h2; omega)⟩ (by omega) (by omega)
