/-! 60.enum: all choices of the exact plan -/
/-- the choice number i: its digits to the base B, the first task's first -/
def dg (B n i k : Int) : Int := i / B ^ (n - 1 - k).toNat % B
theorem dg_rg {B n i k : Int} (hB : 0 < B) : 0 ≤ dg B n i k ∧ dg B n i k < B := by
  unfold dg
  exact ⟨Int.emod_nonneg _ (by omega), Int.emod_lt_of_pos _ hB⟩
theorem pw_rg {m k : Int} (hm : 0 ≤ m ∧ m ≤ 4) (hk : 0 ≤ k ∧ k ≤ 5) : 1 ≤ (m + 1) ^ k.toNat ∧ (m + 1) ^ k.toNat ≤ 3125 := by
  have h1 : m = 0 ∨ m = 1 ∨ m = 2 ∨ m = 3 ∨ m = 4 := by omega
  have h2 : k = 0 ∨ k = 1 ∨ k = 2 ∨ k = 3 ∨ k = 4 ∨ k = 5 := by omega
  rcases h1 with rfl | rfl | rfl | rfl | rfl <;> rcases h2 with rfl | rfl | rfl | rfl | rfl | rfl <;> exact ⟨by decide, by decide⟩
theorem pw_s (B : Int) {k : Int} (hk : 0 ≤ k) : B ^ (k + 1).toNat = B ^ k.toNat * B := by
  rw [show (k + 1).toNat = k.toNat + 1 by omega, Int.pow_succ]
def gEn (lat : Int → Int) (n m : Int) (f : Int × (Int → Int)) (i : Int) : Int × (Int → Int) := if fCost lat (dg (m + 1) n i) n m ≠ -1 ∧ (f.1 = -1 ∨ fCost lat (dg (m + 1) n i) n m < f.1) then (fCost lat (dg (m + 1) n i) n m, dg (m + 1) n i) else f
/-- the least cost and the first choice that has it -/
def fEn (lat : Int → Int) (n m i : Int) : Int × (Int → Int) := aFor (gEn lat n m) (-1, fun _ => 0) i
theorem fCost_congr {lat ch ch2 : Int → Int} {n m : Int} (h : ∀ k, 0 ≤ k ∧ k < n → ch k = ch2 k) : fCost lat ch n m = fCost lat ch2 n m := by
  unfold fCost
  have e1 : gCost lat ch n = gCost lat ch2 n := by
    funext x q
    unfold gCost
    rw [fSet_congr h]
  have e2 : sSum (fun k => if ch k = m then 100000 else 0) n = sSum (fun k => if ch2 k = m then 100000 else 0) n := by
    by_cases h0 : 0 ≤ n
    · have key : ∀ k : Nat, (k : Int) ≤ n → sSumN (fun k => if ch k = m then 100000 else 0) k = sSumN (fun k => if ch2 k = m then (100000 : Int) else 0) k := by
        intro k
        induction k with
        | zero => intro _; rfl
        | succ k ih =>
          intro hk
          show sSumN _ k + (if ch k = m then 100000 else 0) = sSumN _ k + (if ch2 k = m then (100000 : Int) else 0)
          rw [ih (by omega), h k (by omega)]
      exact key _ (by omega)
    · unfold sSum
      rw [show n.toNat = 0 by omega]
      rfl
  rw [e1, e2]
theorem fCost_rg {S : mS} {ch : Int → Int} {n m : Int} (hI : sI S) (hn : 0 ≤ n ∧ n ≤ 5) (hm : 0 ≤ m ∧ m ≤ 4) : -1 ≤ fCost (S 24) ch n m ∧ fCost (S 24) ch n m ≤ 5000000 := by
  have h0 : 0 ≤ sSum (fun k => if ch k = m then 100000 else 0) n ∧ sSum (fun k => if ch k = m then 100000 else 0) n ≤ 100000 * n := sSum_rg (by decide) hn.1 (fun i _ => by split <;> omega)
  unfold fCost
  have key : ∀ q : Nat, (q : Int) ≤ m → -1 ≤ iFor (gCost (S 24) ch n) (sSum (fun k => if ch k = m then 100000 else 0) n) q ∧ iFor (gCost (S 24) ch n) (sSum (fun k => if ch k = m then 100000 else 0) n) q ≤ 500000 + 600000 * q := by
    intro q
    induction q with
    | zero => intro _; rw [show ((0 : Nat) : Int) = 0 from rfl, iFor_0]; omega
    | succ q ih =>
      intro hq
      have h1 := ih (by omega)
      have h2 := fSet_rg (ch := ch) (q := q) (n := n) hn.2
      have h3 : -1 ≤ S 24 (32 * q + fSet ch q n) ∧ S 24 (32 * q + fSet ch q n) ≤ 600000 := hI.r 24 _ (n := 128) (by decide) rfl ⟨by omega, by omega⟩
      rw [show ((q + 1 : Nat) : Int) = (q : Int) + 1 by omega, iFor_s _ _ (by omega)]
      generalize iFor (gCost (S 24) ch n) (sSum (fun k => if ch k = m then 100000 else 0) n) (q : Int) = y at h1 ⊢
      unfold gCost
      split
      · omega
      · split <;> omega
  have := key m.toNat (by omega)
  rw [Int.toNat_of_nonneg hm.1] at this
  omega
theorem fEn_rg {S : mS} {n m i : Int} (hI : sI S) (hn : 0 ≤ n ∧ n ≤ 5) (hm : 0 ≤ m ∧ m ≤ 4) : -1 ≤ (fEn (S 24) n m i).1 ∧ (fEn (S 24) n m i).1 ≤ 5000000 := by
  unfold fEn
  refine aFor_ind (P := fun x : Int × (Int → Int) => -1 ≤ x.1 ∧ x.1 ≤ 5000000) ⟨Int.le_refl (-1), by show (-1 : Int) ≤ 5000000; decide⟩ (fun x t ht hx => ?_)
  unfold gEn
  split
  · exact fCost_rg hI hn hm
  · exact hx
theorem l_M_all {E : jx_E} {l : Launch} {d : Nat} {w : jx_W} {S : mS} {m : Nat} {A : Nat → Nat} {X3 X4 X5 X6 : Option Value} (hB : jx_B E) (hM : mR E S w m A) (hI : sI S) {Q : jx_R → jx_W → Prop} {n B : Int} (hP : 0 ≤ S 0 0 ∧ S 0 0 ≤ 4) (h23 : n = S 23 0) (h5 : 0 ≤ n ∧ n ≤ 5) (hBB : B = S 0 0 + 1) (K : jx_G E l Y_M_planExactly d Q 67 [some (.ref m), some (.int (iI (B ^ n.toNat))), some (.int (iI n)), X3, X4, X5, X6] [] w) : ∀ (j : Nat) (x k : Int), x = B ^ k.toNat → 0 ≤ k ∧ k ≤ n → n - k < j → jx_G E l Y_M_planExactly d Q 44 [some (.ref m), some (.int (iI x)), some (.int (iI k)), X3, X4, X5, X6] [] w := by
  intro j
  induction j with
  | zero => intro x k hx hk hz; exfalso; omega
  | succ j ih =>
    intro x k hx hk hz
    refine jx_iload_n d_M_planExactly_44 rfl rfl ?_
    refine jx_aload_n d_M_planExactly_45 rfl rfl ?_
    refine mx_sc 23 d_M_planExactly_46 (f_M_141 hB) hM (by decide) ?_
    refine jI_icmp_ge (tgt := 67) d_M_planExactly_49 (by decide) (by omega) (by omega) (fun hc1 => ?_) (fun hc1 => ?_)
    · (have e : k = n := by omega); rw [hx, e]; exact K
    · refine jx_iload_n d_M_planExactly_52 rfl rfl ?_
      refine jx_aload_n d_M_planExactly_53 rfl rfl ?_
      refine mx_sc 0 d_M_planExactly_54 (f_M_87 hB) hM (by decide) ?_
      refine jI_const d_M_planExactly_57 ?_
      refine jI_add d_M_planExactly_58 ?_
      refine jI_mul d_M_planExactly_59 ?_
      refine jx_istore_n d_M_planExactly_60 rfl (Nat.le_of_ble_eq_true rfl) rfl ?_
      try dsimp only [List.set]
      refine jI_inc d_M_planExactly_61 rfl rfl ?_
      try dsimp only [List.set]
      refine jx_goto (tgt := 44) d_M_planExactly_64 (by decide) ?_
      exact ih (x * ((S 0 0) + 1)) (k + 1) (by rw [pw_s _ hk.1, ← hx, hBB]) (by omega) (by omega)
theorem l_M_dig {E : jx_E} {l : Launch} {d : Nat} {w0 : jx_W} {S0 : mS} {m : Nat} {A : Nat → Nat} {Q : jx_R → jx_W → Prop} {n B al : Int} (hB : jx_B E) (hP : 0 ≤ S0 0 0 ∧ S0 0 0 ≤ 4) (h23 : n = S0 23 0) (h5 : 0 ≤ n ∧ n ≤ 5) (hBB : B = S0 0 0 + 1) {least i : Int} {X6 : Option Value} (hi : 0 ≤ i ∧ i < 3125) (K : ∀ (T : mS) (w : jx_W) (x4 x5 : Int), mR E T w m A → sI T → mF m A w0 w → (∀ g, g ≠ 28 → T g = S0 g) → (∀ k, 0 ≤ k ∧ k < n → T 28 k = dg B n i k) → jx_G E l Y_M_planExactly d Q 125 [some (.ref m), some (.int (iI al)), some (.int (iI least)), some (.int (iI i)), some (.int (iI x4)), some (.int (iI x5)), X6] [] w) : ∀ (j : Nat) (r k : Int) (S : mS) (w : jx_W), mR E S w m A → sI S → mF m A w0 w → (∀ g, g ≠ 28 → S g = S0 g) → (∀ k2, k < k2 ∧ k2 < n → S 28 k2 = dg B n i k2) → r = i / B ^ (n - 1 - k).toNat → 0 ≤ r ∧ r < 3125 → -1 ≤ k ∧ k < n → k + 1 < j → jx_G E l Y_M_planExactly d Q 87 [some (.ref m), some (.int (iI al)), some (.int (iI least)), some (.int (iI i)), some (.int (iI r)), some (.int (iI k)), X6] [] w := by
  intro j
  induction j with
  | zero => intro r k S w hM hI hF hg hd hr hr2 hk hz; exfalso; omega
  | succ j ih =>
    intro r k S w hM hI hF hg hd hr hr2 hk hz
    have e0 : S 0 0 + 1 = B := by rw [hBB, hg 0 (by decide)]
    have hq1 : 0 ≤ r / B := Int.ediv_nonneg hr2.1 (by omega)
    have hq2 : r / B ≤ r := Int.ediv_le_self _ hr2.1
    have hm1 : 0 ≤ r % B := Int.emod_nonneg _ (by omega)
    have hm2 : r % B < B := Int.emod_lt_of_pos _ (by omega)
    refine jx_iload d_M_planExactly_87 rfl ?_
    refine jI_if_lt (tgt := 125) d_M_planExactly_89 (by decide) (by omega) (fun hc1 => ?_) (fun hc1 => ?_)
    · exact K S w _ _ hM hI hF hg (fun k2 hk2 => hd k2 (by omega))
    · refine jx_aload_n d_M_planExactly_92 rfl rfl ?_
      refine mx_ar 28 d_M_planExactly_93 (f_M_77 hB) hM (by decide) ?_
      refine jx_iload d_M_planExactly_96 rfl ?_
      refine jx_iload d_M_planExactly_98 rfl ?_
      refine jx_aload_n d_M_planExactly_100 rfl rfl ?_
      refine mx_sc 0 d_M_planExactly_101 (f_M_87 hB) hM (by decide) ?_
      refine jI_const d_M_planExactly_104 ?_
      refine jI_add d_M_planExactly_105 ?_
      rw [show S 0 0 + 1 = B by omega]
      refine jI_rem d_M_planExactly_106 ⟨by omega, by omega⟩ ⟨by omega, by omega⟩ ?_
      refine mx_st (n := 5) d_M_planExactly_107 hM (by decide) rfl ⟨by omega, by omega⟩ (fun w hM hF1 => ?_)
      have hF := hF.tr hF1
      obtain ⟨S2, hS2⟩ : ∃ zz, zz = sU S 28 k (r % B) := ⟨_, rfl⟩
      rw [← hS2] at hM
      have hIS2 : sI S2 := by rw [hS2]; exact hI.u 28 _ _ (fun _ => (show (0 : Int) ≤ r % B ∧ r % B ≤ 4 by constructor <;> omega))
      have e3 : S2 0 0 = S 0 0 := by rw [hS2]; rfl
      have e4 : S2 1 0 = S 1 0 := by rw [hS2]; rfl
      have e5 : S2 2 0 = S 2 0 := by rw [hS2]; rfl
      have e6 : S2 23 0 = S 23 0 := by rw [hS2]; rfl
      refine jx_iload d_M_planExactly_108 rfl ?_
      refine jx_aload_n d_M_planExactly_110 rfl rfl ?_
      refine mx_sc 0 d_M_planExactly_111 (f_M_87 hB) hM (by decide) ?_
      rw [show S2 0 0 = S 0 0 by simp [hS2, sU, sUs]]
      refine jI_const d_M_planExactly_114 ?_
      refine jI_add d_M_planExactly_115 ?_
      first | rw [show S2 0 0 + 1 = B by omega] | rw [show S 0 0 + 1 = B by omega]
      refine jI_div d_M_planExactly_116 ⟨by omega, by omega⟩ ⟨by omega, by omega⟩ ?_
      refine jx_istore d_M_planExactly_117 (Nat.le_of_ble_eq_true rfl) rfl ?_
      try dsimp only [List.set]
      refine jI_inc d_M_planExactly_119 rfl rfl ?_
      try dsimp only [List.set]
      refine jx_goto (tgt := 87) d_M_planExactly_122 (by decide) ?_
      refine ih (r / B) (k + (-1)) S2 w hM hIS2 hF (fun g hgg => by rw [hS2, sU_ne hgg]; exact hg g hgg) (fun k2 hk2 => ?_) ?_ (by omega) (by omega) (by omega)
      · rw [hS2]
        by_cases e : k2 = k
        · rw [e, sU_same, hr]; rfl
        · rw [sU_i e]; exact hd k2 (by omega)
      · rw [hr, Int.ediv_ediv_of_nonneg (Int.le_of_lt (Int.pow_pos (by omega))), show n - 1 - (k + (-1)) = (n - 1 - k) + 1 by omega, pw_s _ (by omega)]
theorem l_M_best {E : jx_E} {l : Launch} {d : Nat} {w0 : jx_W} {S0 : mS} {m : Nat} {A : Nat → Nat} {Q : jx_R → jx_W → Prop} {n B al : Int} (hB : jx_B E) (hP : 0 ≤ S0 0 0 ∧ S0 0 0 ≤ 4) (h23 : n = S0 23 0) (h5 : 0 ≤ n ∧ n ≤ 5) (hBB : B = S0 0 0 + 1) {least i c : Int} {X4 : Option Value} (K : ∀ (T : mS) (w : jx_W) (X6 : Option Value), mR E T w m A → sI T → mF m A w0 w → (∀ g, g ≠ 29 → T g = S0 g) → (∀ k, 0 ≤ k ∧ k < n → T 29 k = S0 28 k) → jx_G E l Y_M_planExactly d Q 183 [some (.ref m), some (.int (iI al)), some (.int (iI least)), some (.int (iI i)), X4, some (.int (iI c)), X6] [] w) : ∀ (j : Nat) (k : Int) (S : mS) (w : jx_W), mR E S w m A → sI S → mF m A w0 w → (∀ g, g ≠ 29 → S g = S0 g) → (∀ k2, 0 ≤ k2 ∧ k2 < k → S 29 k2 = S0 28 k2) → 0 ≤ k ∧ k ≤ n → n - k < j → jx_G E l Y_M_planExactly d Q 154 [some (.ref m), some (.int (iI al)), some (.int (iI least)), some (.int (iI i)), X4, some (.int (iI c)), some (.int (iI k))] [] w := by
  intro j
  induction j with
  | zero => intro k S w hM hI hF hg hd hk hz; exfalso; omega
  | succ j ih =>
    intro k S w hM hI hF hg hd hk hz
    have e23 : S 23 0 = n := by rw [h23, hg 23 (by decide)]
    refine jx_iload d_M_planExactly_154 rfl ?_
    refine jx_aload_n d_M_planExactly_156 rfl rfl ?_
    refine mx_sc 23 d_M_planExactly_157 (f_M_141 hB) hM (by decide) ?_
    refine jI_icmp_ge (tgt := 183) d_M_planExactly_160 (by decide) (by omega) (by omega) (fun hc1 => ?_) (fun hc1 => ?_)
    · exact K S w _ hM hI hF hg (fun k2 hk2 => hd k2 (by omega))
    · refine jx_aload_n d_M_planExactly_163 rfl rfl ?_
      refine mx_ar 29 d_M_planExactly_164 (f_M_80 hB) hM (by decide) ?_
      refine jx_iload d_M_planExactly_167 rfl ?_
      refine jx_aload_n d_M_planExactly_169 rfl rfl ?_
      refine mx_ar 28 d_M_planExactly_170 (f_M_77 hB) hM (by decide) ?_
      refine jx_iload d_M_planExactly_173 rfl ?_
      refine mx_ld (n := 5) d_M_planExactly_175 hM (by decide) rfl ⟨by omega, by omega⟩ ?_
      have r2 : 0 ≤ S 28 k ∧ S 28 k ≤ 4 := hI.r 28 k (n := 5) (by decide) rfl ⟨by omega, by omega⟩
      refine mx_st (n := 5) d_M_planExactly_176 hM (by decide) rfl ⟨by omega, by omega⟩ (fun w hM hF1 => ?_)
      have hF := hF.tr hF1
      obtain ⟨S3, hS3⟩ : ∃ zz, zz = sU S 29 k (S 28 k) := ⟨_, rfl⟩
      rw [← hS3] at hM
      have hIS3 : sI S3 := by rw [hS3]; exact hI.u 29 _ _ (fun _ => (show (0 : Int) ≤ S 28 k ∧ S 28 k ≤ 4 by constructor <;> omega))
      have e4 : S3 0 0 = S 0 0 := by rw [hS3]; rfl
      have e5 : S3 1 0 = S 1 0 := by rw [hS3]; rfl
      have e6 : S3 2 0 = S 2 0 := by rw [hS3]; rfl
      have e7 : S3 23 0 = S 23 0 := by rw [hS3]; rfl
      refine jI_inc d_M_planExactly_177 rfl rfl ?_
      try dsimp only [List.set]
      refine jx_goto (tgt := 154) d_M_planExactly_180 (by decide) ?_
      refine ih (k + 1) S3 w hM hIS3 hF (fun g hgg => by rw [hS3, sU_ne hgg]; exact hg g hgg) (fun k2 hk2 => ?_) (by omega) (by omega)
      rw [hS3]
      by_cases e : k2 = k
      · rw [e, sU_same, hg 28 (by decide)]
      · rw [sU_i e]; exact hd k2 (by omega)
theorem l_M_enum {E : jx_E} {l : Launch} {d : Nat} {w0 : jx_W} {S0 : mS} {m : Nat} {A : Nat → Nat} {Q : jx_R → jx_W → Prop} {n B al : Int} (hB : jx_B E) (hP : 0 ≤ S0 0 0 ∧ S0 0 0 ≤ 4) (h23 : n = S0 23 0) (h5 : 0 ≤ n ∧ n ≤ 5) (hBB : B = S0 0 0 + 1) (hal : al = B ^ n.toNat) (hal2 : 1 ≤ al ∧ al ≤ 3125) (K : ∀ (T : mS) (w : jx_W) (X3 X4 X5 X6 : Option Value), mR E T w m A → sI T → mF m A w0 w → (∀ g, g ≠ 28 → g ≠ 29 → T g = S0 g) → ((fEn (S0 24) n (S0 0 0) al).1 ≠ -1 → ∀ k, 0 ≤ k ∧ k < n → T 29 k = (fEn (S0 24) n (S0 0 0) al).2 k) → jx_G E l Y_M_planExactly (d + 2) Q 189 [some (.ref m), some (.int (iI al)), some (.int (iI (fEn (S0 24) n (S0 0 0) al).1)), X3, X4, X5, X6] [] w) : ∀ (j : Nat) (least i : Int) (X4 X5 X6 : Option Value) (S : mS) (w : jx_W), mR E S w m A → sI S → mF m A w0 w → (∀ g, g ≠ 28 → g ≠ 29 → S g = S0 g) → least = (fEn (S0 24) n (S0 0 0) i).1 → (least ≠ -1 → ∀ k, 0 ≤ k ∧ k < n → S 29 k = (fEn (S0 24) n (S0 0 0) i).2 k) → 0 ≤ i ∧ i ≤ al → al - i < j → jx_G E l Y_M_planExactly (d + 2) Q 71 [some (.ref m), some (.int (iI al)), some (.int (iI least)), some (.int (iI i)), X4, X5, X6] [] w := by
  intro j
  induction j with
  | zero => intro least i X4 X5 X6 S w hM hI hF hg hl hb hi hz; exfalso; omega
  | succ j ih =>
    intro least i X4 X5 X6 S w hM hI hF hg hl hb hi hz
    have e23 : S 23 0 = n := by rw [h23, hg 23 (by decide) (by decide)]
    have e0 : S 0 0 = S0 0 0 := by rw [hg 0 (by decide) (by decide)]
    have hlr := fEn_rg (S := S) (n := n) (m := S0 0 0) (i := i) hI h5 hP
    rw [hg 24 (by decide) (by decide), ← hl] at hlr
    refine jx_iload_n d_M_planExactly_71 rfl rfl ?_
    refine jx_iload_n d_M_planExactly_72 rfl rfl ?_
    refine jI_icmp_ge (tgt := 189) d_M_planExactly_73 (by decide) (by omega) (by omega) (fun hc1 => ?_) (fun hc1 => ?_)
    · (have e : i = al := by omega); rw [e] at hl hb ⊢; rw [hl] at hb ⊢; exact K S w _ _ _ _ hM hI hF hg hb
    · refine jx_iload_n d_M_planExactly_76 rfl rfl ?_
      refine jx_istore d_M_planExactly_77 (Nat.le_of_ble_eq_true rfl) rfl ?_
      try dsimp only [List.set]
      refine jx_aload_n d_M_planExactly_79 rfl rfl ?_
      refine mx_sc 23 d_M_planExactly_80 (f_M_141 hB) hM (by decide) ?_
      refine jI_const d_M_planExactly_83 ?_
      refine jI_sub d_M_planExactly_84 ?_
      refine jx_istore d_M_planExactly_85 (Nat.le_of_ble_eq_true rfl) rfl ?_
      try dsimp only [List.set]
      refine l_M_dig (S0 := S) (w0 := w0) (n := n) (B := B) hB (by omega) e23.symm h5 (by omega) (i := i) (by omega) (fun T w x4 x5 hM hIT hF g1 g2 => ?_) (n + 1).toNat i (S 23 0 - 1) S w hM hI hF (fun _ _ => rfl) (fun k2 hk2 => by omega) (by rw [e23, show n - 1 - (n - 1) = 0 by omega]; show i = i / B ^ 0; rw [Int.pow_zero, Int.ediv_one]) (by omega) (by omega) (by omega)
      have f0 : T 0 0 = S0 0 0 := by rw [g1 0 (by decide)]; exact e0
      have f23 : T 23 0 = n := by rw [g1 23 (by decide)]; exact e23
      have hce : fCost (T 24) (T 28) (T 23 0) (T 0 0) = fCost (S0 24) (dg (S0 0 0 + 1) n i) n (S0 0 0) := by rw [f0, f23, g1 24 (by decide), hg 24 (by decide) (by decide), ← hBB]; exact fCost_congr g2
      have hcr := fCost_rg (S := T) (ch := T 28) (n := T 23 0) (m := T 0 0) hIT (by omega) (by omega)
      have hes := aFor_s (gEn (S0 24) n (S0 0 0)) (-1, fun _ => 0) hi.1
      have hes2 : fEn (S0 24) n (S0 0 0) (i + 1) = gEn (S0 24) n (S0 0 0) (fEn (S0 24) n (S0 0 0) i) i := hes
      unfold gEn at hes2
      rw [← hl, ← hce] at hes2
      refine jx_aload_n d_M_planExactly_125 rfl rfl ?_
      refine jx_callV_r (As := []) (v := some (.int (iI (fCost (T 24) (T 28) (T 23 0) (T 0 0))))) d_M_planExactly_126 (m_M_costOf hB) (v_M_162 hB) (by decide) (jx_c5 hB) hM.1 rfl (Nat.le_of_ble_eq_true rfl) (Nat.le_of_ble_eq_true rfl) (w_M_costOf hB hM hIT (by omega) (by omega)) ?_
      refine jx_istore d_M_planExactly_129 (Nat.le_of_ble_eq_true rfl) rfl ?_
      try dsimp only [List.set]
      refine jx_iload d_M_planExactly_131 rfl ?_
      refine jI_const d_M_planExactly_133 ?_
      refine jI_icmp_eq (tgt := 183) d_M_planExactly_134 (by decide) (by omega) (by omega) (fun hc2 => ?_) (fun hc2 => ?_)
      · refine jI_inc d_M_planExactly_183 rfl rfl ?_
        try dsimp only [List.set]
        refine jx_goto (tgt := 71) d_M_planExactly_186 (by decide) ?_
        rw [if_neg (by omega)] at hes2; exact ih least (i + 1) _ _ _ T w hM hIT hF (fun g h28 h29 => by rw [g1 g h28]; exact hg g h28 h29) (by rw [hes2]; exact hl) (fun h k hk => by rw [g1 29 (by decide), hes2]; exact hb h k hk) (by omega) (by omega)
      · refine jx_iload_n d_M_planExactly_137 rfl rfl ?_
        refine jI_const d_M_planExactly_138 ?_
        refine jI_icmp_eq (tgt := 148) d_M_planExactly_139 (by decide) (by omega) (by omega) (fun hc3 => ?_) (fun hc3 => ?_)
        · refine jx_iload d_M_planExactly_148 rfl ?_
          refine jx_istore_n d_M_planExactly_150 rfl (Nat.le_of_ble_eq_true rfl) rfl ?_
          try dsimp only [List.set]
          refine jI_const d_M_planExactly_151 ?_
          refine jx_istore d_M_planExactly_152 (Nat.le_of_ble_eq_true rfl) rfl ?_
          try dsimp only [List.set]
          rw [if_pos ⟨by omega, by omega⟩] at hes2
          refine l_M_best (S0 := T) (w0 := w0) (n := n) hB (by omega) f23.symm h5 (B := B) (by omega) (fun U w X6 hM hIU hF u1 u2 => ?_) 6 0 T w hM hIT hF (fun _ _ => rfl) (fun k2 hk2 => by omega) (by omega) (by omega)
          refine jI_inc d_M_planExactly_183 rfl rfl ?_
          try dsimp only [List.set]
          refine jx_goto (tgt := 71) d_M_planExactly_186 (by decide) ?_
          exact ih (fCost (T 24) (T 28) (T 23 0) (T 0 0)) (i + 1) _ _ _ U w hM hIU hF (fun g h28 h29 => by rw [u1 g h29, g1 g h28]; exact hg g h28 h29) (by rw [hes2]) (fun _ k hk => by rw [u2 k hk, hes2, hBB.symm]; exact g2 k hk) (by omega) (by omega)
        · refine jx_iload d_M_planExactly_142 rfl ?_
          refine jx_iload_n d_M_planExactly_144 rfl rfl ?_
          refine jI_icmp_ge (tgt := 183) d_M_planExactly_145 (by decide) (by omega) (by omega) (fun hc4 => ?_) (fun hc4 => ?_)
          · refine jI_inc d_M_planExactly_183 rfl rfl ?_
            try dsimp only [List.set]
            refine jx_goto (tgt := 71) d_M_planExactly_186 (by decide) ?_
            rw [if_neg (by omega)] at hes2; exact ih least (i + 1) _ _ _ T w hM hIT hF (fun g h28 h29 => by rw [g1 g h28]; exact hg g h28 h29) (by rw [hes2]; exact hl) (fun h k hk => by rw [g1 29 (by decide), hes2]; exact hb h k hk) (by omega) (by omega)
          · refine jx_iload d_M_planExactly_148 rfl ?_
            refine jx_istore_n d_M_planExactly_150 rfl (Nat.le_of_ble_eq_true rfl) rfl ?_
            try dsimp only [List.set]
            refine jI_const d_M_planExactly_151 ?_
            refine jx_istore d_M_planExactly_152 (Nat.le_of_ble_eq_true rfl) rfl ?_
            try dsimp only [List.set]
            rw [if_pos ⟨by omega, by omega⟩] at hes2
            refine l_M_best (S0 := T) (w0 := w0) (n := n) hB (by omega) f23.symm h5 (B := B) (by omega) (fun U w X6 hM hIU hF u1 u2 => ?_) 6 0 T w hM hIT hF (fun _ _ => rfl) (fun k2 hk2 => by omega) (by omega) (by omega)
            refine jI_inc d_M_planExactly_183 rfl rfl ?_
            try dsimp only [List.set]
            refine jx_goto (tgt := 71) d_M_planExactly_186 (by decide) ?_
            exact ih (fCost (T 24) (T 28) (T 23 0) (T 0 0)) (i + 1) _ _ _ U w hM hIU hF (fun g h28 h29 => by rw [u1 g h29, g1 g h28]; exact hg g h28 h29) (by rw [hes2]) (fun _ k hk => by rw [u2 k hk, hes2, hBB.symm]; exact g2 k hk) (by omega) (by omega)
theorem l_M_chb {E : jx_E} {l : Launch} {d : Nat} {w0 : jx_W} {S0 : mS} {m : Nat} {A : Nat → Nat} {Q : jx_R → jx_W → Prop} {n B al : Int} (hB : jx_B E) (hP : 0 ≤ S0 0 0 ∧ S0 0 0 ≤ 4) (h23 : n = S0 23 0) (h5 : 0 ≤ n ∧ n ≤ 5) (hBB : B = S0 0 0 + 1) {least : Int} {X4 X5 X6 : Option Value} (K : ∀ (T : mS) (w : jx_W) (X3 : Option Value), mR E T w m A → sI T → mF m A w0 w → (∀ g, g ≠ 28 → T g = S0 g) → (∀ k, 0 ≤ k ∧ k < n → T 28 k = S0 29 k) → jx_G E l Y_M_planExactly d Q 217 [some (.ref m), some (.int (iI al)), some (.int (iI least)), X3, X4, X5, X6] [] w) : ∀ (j : Nat) (k : Int) (S : mS) (w : jx_W), mR E S w m A → sI S → mF m A w0 w → (∀ g, g ≠ 28 → S g = S0 g) → (∀ k2, 0 ≤ k2 ∧ k2 < k → S 28 k2 = S0 29 k2) → 0 ≤ k ∧ k ≤ n → n - k < j → jx_G E l Y_M_planExactly d Q 191 [some (.ref m), some (.int (iI al)), some (.int (iI least)), some (.int (iI k)), X4, X5, X6] [] w := by
  intro j
  induction j with
  | zero => intro k S w hM hI hF hg hd hk hz; exfalso; omega
  | succ j ih =>
    intro k S w hM hI hF hg hd hk hz
    have e23 : S 23 0 = n := by rw [h23, hg 23 (by decide)]
    refine jx_iload_n d_M_planExactly_191 rfl rfl ?_
    refine jx_aload_n d_M_planExactly_192 rfl rfl ?_
    refine mx_sc 23 d_M_planExactly_193 (f_M_141 hB) hM (by decide) ?_
    refine jI_icmp_ge (tgt := 217) d_M_planExactly_196 (by decide) (by omega) (by omega) (fun hc1 => ?_) (fun hc1 => ?_)
    · exact K S w _ hM hI hF hg (fun k2 hk2 => hd k2 (by omega))
    · refine jx_aload_n d_M_planExactly_199 rfl rfl ?_
      refine mx_ar 28 d_M_planExactly_200 (f_M_77 hB) hM (by decide) ?_
      refine jx_iload_n d_M_planExactly_203 rfl rfl ?_
      refine jx_aload_n d_M_planExactly_204 rfl rfl ?_
      refine mx_ar 29 d_M_planExactly_205 (f_M_80 hB) hM (by decide) ?_
      refine jx_iload_n d_M_planExactly_208 rfl rfl ?_
      refine mx_ld (n := 5) d_M_planExactly_209 hM (by decide) rfl ⟨by omega, by omega⟩ ?_
      have r2 : 0 ≤ S 29 k ∧ S 29 k ≤ 4 := hI.r 29 k (n := 5) (by decide) rfl ⟨by omega, by omega⟩
      refine mx_st (n := 5) d_M_planExactly_210 hM (by decide) rfl ⟨by omega, by omega⟩ (fun w hM hF1 => ?_)
      have hF := hF.tr hF1
      obtain ⟨S3, hS3⟩ : ∃ zz, zz = sU S 28 k (S 29 k) := ⟨_, rfl⟩
      rw [← hS3] at hM
      have hIS3 : sI S3 := by rw [hS3]; exact hI.u 28 _ _ (fun _ => (show (0 : Int) ≤ S 29 k ∧ S 29 k ≤ 4 by constructor <;> omega))
      have e4 : S3 0 0 = S 0 0 := by rw [hS3]; rfl
      have e5 : S3 1 0 = S 1 0 := by rw [hS3]; rfl
      have e6 : S3 2 0 = S 2 0 := by rw [hS3]; rfl
      have e7 : S3 23 0 = S 23 0 := by rw [hS3]; rfl
      refine jI_inc d_M_planExactly_211 rfl rfl ?_
      try dsimp only [List.set]
      refine jx_goto (tgt := 191) d_M_planExactly_214 (by decide) ?_
      refine ih (k + 1) S3 w hM hIS3 hF (fun g hgg => by rw [hS3, sU_ne hgg]; exact hg g hgg) (fun k2 hk2 => ?_) (by omega) (by omega)
      rw [hS3]
      by_cases e : k2 = k
      · rw [e, sU_same, hg 29 (by decide)]
      · rw [sU_i e]; exact hd k2 (by omega)
/-- giving the task few k to b k, at its start -/
def gTell (m : Int) (b c : Int → Int) (S : mS) (k : Int) : mS := if b k < m then sU (sU S 19 (S 22 k) (b k)) 20 (S 22 k) (c k) else S
theorem gTell_ne {m : Int} {b c : Int → Int} {S : mS} {k : Int} {g : Nat} (h1 : g ≠ 19) (h2 : g ≠ 20) : gTell m b c S k g = S g := by
  unfold gTell
  split
  · rw [sU_ne h2, sU_ne h1]
  · rfl
theorem tell_ne {m : Int} {b c : Int → Int} {S : mS} {k : Int} {g : Nat} (h1 : g ≠ 19) (h2 : g ≠ 20) : sFor (gTell m b c) S k g = S g := by
  refine sFor_ind (P := fun T => T g = S g) rfl (fun T t _ hT => ?_)
  rw [gTell_ne h1 h2]
  exact hT
theorem l_M_tell {E : jx_E} {l : Launch} {d : Nat} {w0 : jx_W} {S0 : mS} {m : Nat} {A : Nat → Nat} {Q : jx_R → jx_W → Prop} {n B al : Int} (hB : jx_B E) (hP : 0 ≤ S0 0 0 ∧ S0 0 0 ≤ 4) (h23 : n = S0 23 0) (h5 : 0 ≤ n ∧ n ≤ 5) (hBB : B = S0 0 0 + 1) {least : Int} {X4 X5 X6 : Option Value} {b c : Int → Int} (hb : ∀ k, 0 ≤ k ∧ k < n → S0 29 k = b k) (hb2 : ∀ k, 0 ≤ k ∧ k < n → S0 28 k = b k) (hc : ∀ k, 0 ≤ k ∧ k < n → b k < S0 0 0 → S0 25 (5 * (32 * b k + fSet b (b k) n) + k) = c k) : ∀ (j : Nat) (k : Int) (S : mS) (w : jx_W), mR E S w m A → sI S → mF m A w0 w → S = sFor (gTell (S0 0 0) b c) S0 k → 0 ≤ k ∧ k ≤ n → n - k < j → jx_G E l Y_M_planExactly (d + 1) (jm_pp E m A w0 none (fun T => T = sFor (gTell (S0 0 0) b c) S0 n)) 219 [some (.ref m), some (.int (iI al)), some (.int (iI least)), some (.int (iI k)), X4, X5, X6] [] w := by
  intro j
  induction j with
  | zero => intro k S w hM hI hF hS hk hz; exfalso; omega
  | succ j ih =>
    intro k S w hM hI hF hS hk hz
    have hne : ∀ g, g ≠ 19 → g ≠ 20 → S g = S0 g := fun g h1 h2 => by rw [hS]; exact tell_ne h1 h2
    have e23 : S 23 0 = n := by rw [h23, hne 23 (by decide) (by decide)]
    have e0 : S 0 0 = S0 0 0 := by rw [hne 0 (by decide) (by decide)]
    have hbk : k < n → S 29 k = b k := fun h => by rw [hne 29 (by decide) (by decide)]; exact hb k (by omega)
    have hst : sFor (gTell (S0 0 0) b c) S0 (k + 1) = (if b k < S0 0 0 then sU (sU S 19 (S 22 k) (b k)) 20 (S 22 k) (c k) else S) := by
      rw [sFor_s _ _ hk.1, ← hS]
      rfl
    have hse : k < n → fSet (S 28) (S 29 k) (S 23 0) = fSet b (b k) n := fun h => by rw [hbk h, e23, hne 28 (by decide) (by decide)]; exact fSet_congr hb2
    refine jx_iload_n d_M_planExactly_219 rfl rfl ?_
    refine jx_aload_n d_M_planExactly_220 rfl rfl ?_
    refine mx_sc 23 d_M_planExactly_221 (f_M_141 hB) hM (by decide) ?_
    refine jI_icmp_ge (tgt := 303) d_M_planExactly_224 (by decide) (by omega) (by omega) (fun hc1 => ?_) (fun hc1 => ?_)
    · exact jx_vret d_M_planExactly_303 rfl ⟨rfl, S, hM, hF, hI, by rw [hS, show k = n by omega]⟩
    · refine jx_aload_n d_M_planExactly_227 rfl rfl ?_
      refine mx_ar 29 d_M_planExactly_228 (f_M_80 hB) hM (by decide) ?_
      refine jx_iload_n d_M_planExactly_231 rfl rfl ?_
      refine mx_ld (n := 5) d_M_planExactly_232 hM (by decide) rfl ⟨by omega, by omega⟩ ?_
      have r2 : 0 ≤ S 29 k ∧ S 29 k ≤ 4 := hI.r 29 k (n := 5) (by decide) rfl ⟨by omega, by omega⟩
      refine jx_aload_n d_M_planExactly_233 rfl rfl ?_
      refine mx_sc 0 d_M_planExactly_234 (f_M_87 hB) hM (by decide) ?_
      refine jI_icmp_ge (tgt := 297) d_M_planExactly_237 (by decide) (by omega) (by omega) (fun hc3 => ?_) (fun hc3 => ?_)
      · refine jI_inc d_M_planExactly_297 rfl rfl ?_
        try dsimp only [List.set]
        refine jx_goto (tgt := 219) d_M_planExactly_300 (by decide) ?_
        rw [if_neg (by have := hbk (by omega); omega)] at hst; exact ih (k + 1) S w hM hI hF hst.symm (by omega) (by omega)
      · refine jx_aload_n d_M_planExactly_240 rfl rfl ?_
        refine mx_ar 19 d_M_planExactly_241 (f_M_56 hB) hM (by decide) ?_
        refine jx_aload_n d_M_planExactly_244 rfl rfl ?_
        refine mx_ar 22 d_M_planExactly_245 (f_M_62 hB) hM (by decide) ?_
        refine jx_iload_n d_M_planExactly_248 rfl rfl ?_
        refine mx_ld (n := 5) d_M_planExactly_249 hM (by decide) rfl ⟨by omega, by omega⟩ ?_
        have r4 : 0 ≤ S 22 k ∧ S 22 k ≤ 15 := hI.r 22 k (n := 5) (by decide) rfl ⟨by omega, by omega⟩
        refine jx_aload_n d_M_planExactly_250 rfl rfl ?_
        refine mx_ar 29 d_M_planExactly_251 (f_M_80 hB) hM (by decide) ?_
        refine jx_iload_n d_M_planExactly_254 rfl rfl ?_
        refine mx_ld (n := 5) d_M_planExactly_255 hM (by decide) rfl ⟨by omega, by omega⟩ ?_
        have r5 : 0 ≤ S 29 k ∧ S 29 k ≤ 4 := hI.r 29 k (n := 5) (by decide) rfl ⟨by omega, by omega⟩
        refine mx_st (n := 16) d_M_planExactly_256 hM (by decide) rfl ⟨by omega, by omega⟩ (fun w hM hF1 => ?_)
        have hF := hF.tr hF1
        obtain ⟨S6, hS6⟩ : ∃ zz, zz = sU S 19 (S 22 k) (S 29 k) := ⟨_, rfl⟩
        rw [← hS6] at hM
        have hIS6 : sI S6 := by rw [hS6]; exact hI.u 19 _ _ (fun _ => (show (-1 : Int) ≤ S 29 k ∧ S 29 k ≤ 3 by constructor <;> omega))
        have e7 : S6 0 0 = S 0 0 := by rw [hS6]; rfl
        have e8 : S6 1 0 = S 1 0 := by rw [hS6]; rfl
        have e9 : S6 2 0 = S 2 0 := by rw [hS6]; rfl
        have e10 : S6 23 0 = S 23 0 := by rw [hS6]; rfl
        refine jx_aload_n d_M_planExactly_257 rfl rfl ?_
        refine mx_ar 20 d_M_planExactly_258 (f_M_59 hB) hM (by decide) ?_
        refine jx_aload_n d_M_planExactly_261 rfl rfl ?_
        refine mx_ar 22 d_M_planExactly_262 (f_M_62 hB) hM (by decide) ?_
        refine jx_iload_n d_M_planExactly_265 rfl rfl ?_
        refine mx_ld (n := 5) d_M_planExactly_266 hM (by decide) rfl ⟨by omega, by omega⟩ ?_
        rw [show S6 22 k = S 22 k by simp [hS6, sU, sUs]]
        have r11 : 0 ≤ S 22 k ∧ S 22 k ≤ 15 := hI.r 22 k (n := 5) (by decide) rfl ⟨by omega, by omega⟩
        refine jx_aload_n d_M_planExactly_267 rfl rfl ?_
        refine mx_ar 25 d_M_planExactly_268 (f_M_68 hB) hM (by decide) ?_
        refine jI_const d_M_planExactly_271 ?_
        refine jI_bipush d_M_planExactly_272 (by decide) ?_
        refine jx_aload_n d_M_planExactly_274 rfl rfl ?_
        refine mx_ar 29 d_M_planExactly_275 (f_M_80 hB) hM (by decide) ?_
        refine jx_iload_n d_M_planExactly_278 rfl rfl ?_
        refine mx_ld (n := 5) d_M_planExactly_279 hM (by decide) rfl ⟨by omega, by omega⟩ ?_
        rw [show S6 29 k = S 29 k by simp [hS6, sU, sUs]]
        have r12 : 0 ≤ S 29 k ∧ S 29 k ≤ 4 := hI.r 29 k (n := 5) (by decide) rfl ⟨by omega, by omega⟩
        refine jI_mul d_M_planExactly_280 ?_
        refine jx_aload_n d_M_planExactly_281 rfl rfl ?_
        refine jx_aload_n d_M_planExactly_282 rfl rfl ?_
        refine mx_ar 29 d_M_planExactly_283 (f_M_80 hB) hM (by decide) ?_
        refine jx_iload_n d_M_planExactly_286 rfl rfl ?_
        refine mx_ld (n := 5) d_M_planExactly_287 hM (by decide) rfl ⟨by omega, by omega⟩ ?_
        rw [show S6 29 k = S 29 k by simp [hS6, sU, sUs]]
        have r13 : 0 ≤ S 29 k ∧ S 29 k ≤ 4 := hI.r 29 k (n := 5) (by decide) rfl ⟨by omega, by omega⟩
        refine jx_callV_r (As := [.int (iI (S 29 k))]) (v := some (.int (iI (fSet (S6 28) (S 29 k) (S6 23 0))))) d_M_planExactly_288 (m_M_setOf hB) (v_M_156 hB) (by decide) (jx_c5 hB) hM.1 rfl (Nat.le_of_ble_eq_true rfl) (Nat.le_of_ble_eq_true rfl) (w_M_setOf hB hM hIS6 (q := S 29 k) (by omega) (by omega)) ?_
        rw [show fSet (S6 28) (S 29 k) (S6 23 0) = fSet (S 28) (S 29 k) (S 23 0) by rw [hS6]; rfl]
        have q14 := fSet_rg (ch := S 28) (q := S 29 k) (n := S 23 0) (by omega)
        refine jI_add d_M_planExactly_291 ?_
        refine jI_mul d_M_planExactly_292 ?_
        refine jx_iload_n d_M_planExactly_293 rfl rfl ?_
        refine jI_add d_M_planExactly_294 ?_
        refine mx_ld (n := 640) d_M_planExactly_295 hM (by decide) rfl ⟨by omega, by omega⟩ ?_
        rw [show S6 25 ((5 * ((32 * (S 29 k)) + (fSet (S 28) (S 29 k) (S 23 0)))) + k) = S 25 ((5 * ((32 * (S 29 k)) + (fSet (S 28) (S 29 k) (S 23 0)))) + k) by simp [hS6, sU, sUs]]
        have r15 : -1 ≤ S 25 ((5 * ((32 * (S 29 k)) + (fSet (S 28) (S 29 k) (S 23 0)))) + k) ∧ S 25 ((5 * ((32 * (S 29 k)) + (fSet (S 28) (S 29 k) (S 23 0)))) + k) ≤ 100000 := hI.r 25 ((5 * ((32 * (S 29 k)) + (fSet (S 28) (S 29 k) (S 23 0)))) + k) (n := 640) (by decide) rfl ⟨by omega, by omega⟩
        refine mx_st (n := 16) d_M_planExactly_296 hM (by decide) rfl ⟨by omega, by omega⟩ (fun w hM hF1 => ?_)
        have hF := hF.tr hF1
        obtain ⟨S16, hS16⟩ : ∃ zz, zz = sU S6 20 (S 22 k) (S 25 ((5 * ((32 * (S 29 k)) + (fSet (S 28) (S 29 k) (S 23 0)))) + k)) := ⟨_, rfl⟩
        rw [← hS16] at hM
        have hIS16 : sI S16 := by rw [hS16]; exact hIS6.u 20 _ _ (fun _ => (show (-1 : Int) ≤ S 25 ((5 * ((32 * (S 29 k)) + (fSet (S 28) (S 29 k) (S 23 0)))) + k) ∧ S 25 ((5 * ((32 * (S 29 k)) + (fSet (S 28) (S 29 k) (S 23 0)))) + k) ≤ 100000 by constructor <;> omega))
        have e17 : S16 0 0 = S6 0 0 := by rw [hS16]; rfl
        have e18 : S16 1 0 = S6 1 0 := by rw [hS16]; rfl
        have e19 : S16 2 0 = S6 2 0 := by rw [hS16]; rfl
        have e20 : S16 23 0 = S6 23 0 := by rw [hS16]; rfl
        refine jI_inc d_M_planExactly_297 rfl rfl ?_
        try dsimp only [List.set]
        refine jx_goto (tgt := 219) d_M_planExactly_300 (by decide) ?_
        rw [if_pos (by have := hbk (by omega); omega)] at hst; exact ih (k + 1) S16 w hM hIS16 hF (by rw [hst, hS16, hS6]; rw [hse (by omega), hbk (by omega), hne 25 (by decide) (by decide)] <;> first | rfl | (rw [← hc k (by omega) (by have := hbk (by omega); omega)])) (by omega) (by omega)
