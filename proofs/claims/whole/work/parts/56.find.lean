/-! 56.find: the best order of a set -/
/-- but for the entry at and the scratch, T is S -/
def foF (S : mS) (at_ : Int) (T : mS) : Prop := (∀ g, ¬ (24 ≤ g ∧ g ≤ 27) → T g = S g) ∧ (∀ i, i ≠ at_ → T 24 i = S 24 i) ∧ ∀ i, (i < 5 * at_ ∨ 5 * at_ + 5 ≤ i) → T 25 i = S 25 i
def foP (S : mS) (q set : Int) (T : mS) : Prop := foF S (32 * q + set) T ∧ bR (T 24 (32 * q + set)) (fun k => T 25 (5 * (32 * q + set) + k)) set (S 23 0) (cFo S q set (S 23 0))
theorem cRun_q {S T : mS} (h : ∀ g, g < 23 → T g = S g) (p : Int) : ∀ (os : List Int) (r z late : Int) (ts : Int → Int), cRun T p os r z late ts = cRun S p os r z late ts := by
  intro os
  induction os with
  | nil => intros; rfl
  | cons k os ih =>
    intro r z late ts
    unfold cRun
    rw [h 22 (by decide), sMay_q (fun g hg => h g (by omega)), sStart_q (fun g hg => h g (by omega)), h 15 (by decide), h 17 (by decide), sLate_q (fun g hg => h g (by omega)), ih]
theorem cOne_q {S T : mS} (h : ∀ g, g < 23 → T g = S g) (p : Int) (os : List Int) : cOne T p os = cOne S p os := by
  unfold cOne
  rw [cRun_q h, sReady_q (fun g hg => h g (by omega)), h 9 (by decide)]
theorem cFo_q {S T : mS} (h : ∀ g, g < 23 → T g = S g) (p set n : Int) : cFo T p set n = cFo S p set n := by
  unfold cFo cFold
  congr 1
  funext b os
  rw [cOne_q h]
theorem foF.q {S T : mS} {at_ : Int} (h : foF S at_ T) : ∀ g, g < 23 → T g = S g := fun g hg => h.1 g (by omega)
theorem l_M_copy {E : jx_E} {l : Launch} {d : Nat} {w0 : jx_W} {S0 : mS} {m : Nat} {A : Nat → Nat} {Q : jx_R → jx_W → Prop} {q set at_ many more late : Int} (hB : jx_B E) (ha : 0 ≤ at_ ∧ at_ < 128) (h5 : 0 ≤ S0 23 0 ∧ S0 23 0 ≤ 5) (K : ∀ (T : mS) (w : jx_W) (X : Option Value), mR E T w m A → sI T → mF m A w0 w → (∀ g, g ≠ 25 → T g = S0 g) → (∀ i, (i < 5 * at_ ∨ 5 * at_ + 5 ≤ i) → T 25 i = S0 25 i) → (∀ k, 0 ≤ k ∧ k < S0 23 0 → T 25 (5 * at_ + k) = S0 27 k) → jx_G E l Y_M_findOrder d Q 181 [some (.ref m), some (.int (iI q)), some (.int (iI set)), some (.int (iI at_)), some (.int (iI many)), some (.int (iI more)), some (.int (iI late)), X] [] w) : ∀ (j : Nat) (k : Int) (S : mS) (w : jx_W), mR E S w m A → sI S → mF m A w0 w → (∀ g, g ≠ 25 → S g = S0 g) → (∀ i, (i < 5 * at_ ∨ 5 * at_ + 5 ≤ i) → S 25 i = S0 25 i) → (∀ i, 0 ≤ i ∧ i < k → S 25 (5 * at_ + i) = S0 27 i) → 0 ≤ k ∧ k ≤ S0 23 0 → S0 23 0 - k < j → jx_G E l Y_M_findOrder d Q 148 [some (.ref m), some (.int (iI q)), some (.int (iI set)), some (.int (iI at_)), some (.int (iI many)), some (.int (iI more)), some (.int (iI late)), some (.int (iI k))] [] w := by
  intro j
  induction j with
  | zero => intro k S w hM hI hF hg ho hc hk hz; exfalso; omega
  | succ j ih =>
    intro k S w hM hI hF hg ho hc hk hz
    have e23 : S 23 0 = S0 23 0 := by rw [hg 23 (by decide)]
    refine jx_iload d_M_findOrder_148 rfl ?_
    refine jx_aload_n d_M_findOrder_150 rfl rfl ?_
    refine mx_sc 23 d_M_findOrder_151 (f_M_141 hB) hM (by decide) ?_
    refine jI_icmp_ge (tgt := 181) d_M_findOrder_154 (by decide) (by omega) (by omega) (fun hc1 => ?_) (fun hc1 => ?_)
    · exact K S w _ hM hI hF hg ho (fun i hi => hc i (by omega))
    · refine jx_aload_n d_M_findOrder_157 rfl rfl ?_
      refine mx_ar 25 d_M_findOrder_158 (f_M_68 hB) hM (by decide) ?_
      refine jI_const d_M_findOrder_161 ?_
      refine jx_iload_n d_M_findOrder_162 rfl rfl ?_
      refine jI_mul d_M_findOrder_163 ?_
      refine jx_iload d_M_findOrder_164 rfl ?_
      refine jI_add d_M_findOrder_166 ?_
      refine jx_aload_n d_M_findOrder_167 rfl rfl ?_
      refine mx_ar 27 d_M_findOrder_168 (f_M_74 hB) hM (by decide) ?_
      refine jx_iload d_M_findOrder_171 rfl ?_
      refine mx_ld (n := 5) d_M_findOrder_173 hM (by decide) rfl ⟨by omega, by omega⟩ ?_
      have r2 : -1 ≤ S 27 k ∧ S 27 k ≤ 100000 := hI.r 27 k (n := 5) (by decide) rfl ⟨by omega, by omega⟩
      refine mx_st (n := 640) d_M_findOrder_174 hM (by decide) rfl ⟨by omega, by omega⟩ (fun w hM hF1 => ?_)
      have hF := hF.tr hF1
      obtain ⟨S3, hS3⟩ : ∃ zz, zz = sU S 25 ((5 * at_) + k) (S 27 k) := ⟨_, rfl⟩
      rw [← hS3] at hM
      have hIS3 : sI S3 := by rw [hS3]; exact hI.u 25 _ _ (fun _ => (show (-1 : Int) ≤ S 27 k ∧ S 27 k ≤ 100000 by constructor <;> omega))
      have e4 : S3 0 0 = S 0 0 := by rw [hS3]; rfl
      have e5 : S3 1 0 = S 1 0 := by rw [hS3]; rfl
      have e6 : S3 2 0 = S 2 0 := by rw [hS3]; rfl
      have e7 : S3 23 0 = S 23 0 := by rw [hS3]; rfl
      refine jI_inc d_M_findOrder_175 rfl rfl ?_
      try dsimp only [List.set]
      refine jx_goto (tgt := 148) d_M_findOrder_178 (by decide) ?_
      refine ih (k + 1) S3 w hM hIS3 hF (fun g hgg => ?_) (fun i hi => ?_) (fun i hi => ?_) (by omega) (by omega)
      · rw [hS3, sU_ne hgg]; exact hg g hgg
      · rw [hS3, sU_i (by omega)]; exact ho i hi
      · rw [hS3]
        by_cases e : i = k
        · rw [e, sU_same, hg 27 (by decide)]
        · rw [sU_i (by omega)]; exact hc i (by omega)
theorem sLess_01 (t s : Int → Int) (set n : Int) : 0 ≤ sLess t s set n ∧ sLess t s set n ≤ 1 := by
  unfold sLess
  split <;> omega
theorem bR_not {S : mS} {q set n lat : Int} {st : Int → Int} {os : List Int} {R : Int × (Int → Int)} {tr : Int → Int} {b : cB} (hl : (cOne S q os = none ∧ R.1 = -1) ∨ ∃ l2 t2, cOne S q os = some (l2, t2) ∧ R.1 = l2 ∧ 0 ≤ l2 ∧ ∀ k, (k ∈ os ∨ tr k = (fun _ => 0) k) → R.2 k = t2 k) (hb : bR lat st set n b) (hin : ∀ k, 0 ≤ k ∧ k < n → sBit set k = 1 → k ∈ os) (h : R.1 = -1 ∨ lat ≠ -1 ∧ lat < R.1 ∨ lat ≠ -1 ∧ lat = R.1 ∧ sLess R.2 st set n = 0) : bR lat st set n (cKeep set n b (cOne S q os)) := by
  rcases hl with ⟨h1, -⟩ | ⟨l2, t2, h1, h2, h3, h4⟩
  · rw [h1]
    exact hb
  · rw [h1]
    cases b with
    | none =>
      have hb : lat = -1 := hb
      omega
    | some x =>
      obtain ⟨l0, s0⟩ := x
      obtain ⟨b1, b2, b3⟩ := id hb
      have e : sLess R.2 st set n = sLess t2 s0 set n := sLess_congr (fun k hk hbk => h4 k (.inl (hin k hk hbk))) b3
      show bR lat st set n (if l2 < l0 ∨ l2 = l0 ∧ sLess t2 s0 set n = 1 then some (l2, t2) else some (l0, s0))
      rw [if_neg (by omega)]
      exact hb
theorem bR_yes {S : mS} {q set n lat : Int} {st : Int → Int} {os : List Int} {R : Int × (Int → Int)} {tr : Int → Int} {b : cB} (hl : (cOne S q os = none ∧ R.1 = -1) ∨ ∃ l2 t2, cOne S q os = some (l2, t2) ∧ R.1 = l2 ∧ 0 ≤ l2 ∧ ∀ k, (k ∈ os ∨ tr k = (fun _ => 0) k) → R.2 k = t2 k) (hb : bR lat st set n b) (hin : ∀ k, 0 ≤ k ∧ k < n → sBit set k = 1 → k ∈ os) (h : R.1 ≠ -1 ∧ (lat = -1 ∨ R.1 < lat ∨ R.1 = lat ∧ ¬ sLess R.2 st set n = 0)) : ∃ l2 t2, cOne S q os = some (l2, t2) ∧ R.1 = l2 ∧ 0 ≤ l2 ∧ (∀ k, (k ∈ os ∨ tr k = 0) → R.2 k = t2 k) ∧ cKeep set n b (some (l2, t2)) = some (l2, t2) := by
  rcases hl with ⟨h1, h2⟩ | ⟨l2, t2, h1, h2, h3, h4⟩
  · exact absurd h2 h.1
  · refine ⟨l2, t2, h1, h2, h3, h4, ?_⟩
    cases b with
    | none => rfl
    | some x =>
      obtain ⟨l0, s0⟩ := x
      obtain ⟨b1, b2, b3⟩ := id hb
      have e : sLess R.2 st set n = sLess t2 s0 set n := sLess_congr (fun k hk hbk => h4 k (.inl (hin k hk hbk))) b3
      have := sLess_01 t2 s0 set n
      show (if l2 < l0 ∨ l2 = l0 ∧ sLess t2 s0 set n = 1 then some (l2, t2) else some (l0, s0)) = some (l2, t2)
      rw [if_pos (by omega)]
theorem l_M_find {E : jx_E} {l : Launch} {d : Nat} {w0 : jx_W} {S0 : mS} {m : Nat} {A : Nat → Nat} {q set at_ many n : Int} (hB : jx_B E) (hat : at_ = 32 * q + set) (hq : 0 ≤ q ∧ q < 4) (hs : 0 ≤ set ∧ set < 32) (hmn : many = ((elems set).length : Int)) (hm5 : 0 ≤ many ∧ many ≤ 5) (hn : 0 ≤ S0 2 0 ∧ S0 2 0 ≤ 100000) (h23 : n = S0 23 0) (h5 : 0 ≤ n ∧ n ≤ 5) (hbits : ∀ k, 0 ≤ k ∧ k < n → sBit set k = 1 → k ∈ elems set) (hall : ∀ k ∈ elems set, sMay S0 q (S0 22 k) = 1) : ∀ (rest : List (List Int)) (os : List Int) (b : cB) (X Y : Option Value) (S : mS) (w : jx_W), mR E S w m A → sI S → mF m A w0 w → foF S0 at_ S → chB (os :: rest) = true → (∀ o ∈ os :: rest, o.length = (elems set).length ∧ (∀ k ∈ elems set, k ∈ o) ∧ ∀ k ∈ o, k ∈ elems set) → (∀ i : Int, 0 ≤ i ∧ i < many → S 26 i = fL os i) → bR (S 24 at_) (fun k => S 25 (5 * at_ + k)) set n b → jx_G E l Y_M_findOrder (d + 3) (jm_pp E m A w0 none (fun T => foF S0 at_ T ∧ bR (T 24 at_) (fun k => T 25 (5 * at_ + k)) set n (cFold S0 q set n b (os :: rest)))) 76 [some (.ref m), some (.int (iI q)), some (.int (iI set)), some (.int (iI at_)), some (.int (iI many)), some (.int (iI 1)), X, Y] [] w := by
  intro rest
  induction rest with
  | nil =>
    intro os b X Y S w hM hI hF hfo hch hos ho hb
    have e23 : S 23 0 = n := by rw [h23, hfo.1 23 (by decide)]
    have e2 : S 2 0 = S0 2 0 := by rw [hfo.1 2 (by decide)]
    have hosl := (hos os (List.mem_cons_self ..)).1
    have hmt : many.toNat = os.length := by omega
    have hlink := run_link (S := S0) (p := q) (a := S 26) os 0 (sReady S0 q) (S0 9 q) 0 (S 27) (fun _ => 0) (fun j hj => by have := ho (0 + (j : Int)) (by omega); rw [this]; unfold fL; rw [show (0 + (j : Int)).toNat = j by omega, List.getD_eq_getElem?_getD, List.getElem?_eq_getElem hj]; rfl) (fun k hk => hall k ((hos os (List.mem_cons_self ..)).2.2 k hk)) (by omega)
    have hrun : sRun S q (S 26) many.toNat 0 (sReady S q) (S 9 q) 0 (S 27) = sRun S0 q (S 26) os.length 0 (sReady S0 q) (S0 9 q) 0 (S 27) := by rw [sRun_q hfo.q, sReady_q (fun g hg => hfo.1 g (by omega)), hfo.1 9 (by decide), hmt]
    have hrr := sRun_rg (S := S) (p := q) (a := S 26) hI hq (fun i hi => hI.r 26 i (n := 5) (by decide) rfl hi) many.toNat 0 (sReady S q) (S 9 q) 0 (S 27) (by omega) (by omega) (by have := sReady_rg (p := q) hI (by omega) (by omega); omega) (by have : 0 ≤ S 9 q ∧ S 9 q ≤ 3 := hI.r 9 q (n := 4) (by decide) rfl (by omega); omega) (by omega)
    rw [hrun] at hrr
    have hnx := aNx_c (a := S 26) (b := fL os) (many := os.length) (fun j hj => ho j (by omega))
    obtain ⟨R, hR⟩ : ∃ R, R = sRun S0 q (S 26) os.length 0 (sReady S0 q) (S0 9 q) 0 (S 27) := ⟨_, rfl⟩
    rw [← hR] at hlink hrun hrr
    have hlink : (cOne S0 q os = none ∧ R.1 = -1) ∨ ∃ l2 t2, cOne S0 q os = some (l2, t2) ∧ R.1 = l2 ∧ 0 ≤ l2 ∧ ∀ k, (k ∈ os ∨ S 27 k = (fun _ => 0) k) → R.2 k = t2 k := hlink
    have K181 : ∀ (T : mS) (w : jx_W) (X Y : Option Value), mR E T w m A → sI T → mF m A w0 w → foF S0 at_ T → T 26 = S 26 → bR (T 24 at_) (fun k => T 25 (5 * at_ + k)) set n (cKeep set n b (cOne S0 q os)) → jx_G E l Y_M_findOrder (d + 3) (jm_pp E m A w0 none (fun T => foF S0 at_ T ∧ bR (T 24 at_) (fun k => T 25 (5 * at_ + k)) set n (cFold S0 q set n b (os :: [])))) 181 [some (.ref m), some (.int (iI q)), some (.int (iI set)), some (.int (iI at_)), some (.int (iI many)), some (.int (iI 1)), X, Y] [] w := by
      intro Sa w X Y hM hISa hF hfo1 h26 hb1
      have hnone : aNx (Sa 26) many.toNat = none := by
        rw [h26, hmt]
        have hch : (aNx (fL os) os.length).isNone = true := hch
        rcases hnx with ⟨h1, h2⟩ | ⟨a2, b2, h1, h2, h3⟩
        · exact h1
        · rw [h2] at hch; cases hch
      refine jx_aload_n d_M_findOrder_181 rfl rfl ?_
      refine jx_iload d_M_findOrder_182 rfl ?_
      refine jm_callP (As := [.int (iI (many))]) (v := some (.int (iI (0)))) d_M_findOrder_184 (m_M_nextOrder hB) (v_M_153 hB) hB hM.1 rfl (Nat.le_of_ble_eq_true rfl) (Nat.le_of_ble_eq_true rfl) (by have h := w_M_nextOrder (l := l) (d := d + 1) hB hM hISa (many := many) (by omega); rw [hnone] at h; exact h) (fun w T1 hM hF1 hIT1 hPT1 => ?_)
      have hF := hF.tr hF1
      obtain ⟨hg, h26b⟩ := hPT1
      refine jx_istore d_M_findOrder_187 (Nat.le_of_ble_eq_true rfl) rfl ?_
      try dsimp only [List.set]
      refine jx_goto (tgt := 76) d_M_findOrder_189 (by decide) ?_
      refine jx_iload d_M_findOrder_76 rfl ?_
      refine jI_if_eq (tgt := 192) d_M_findOrder_78 (by decide) (by omega) (fun _ => ?_) (fun z => absurd z (by omega))
      exact jx_vret d_M_findOrder_192 rfl ⟨rfl, T1, hM, hF, hIT1, ⟨fun g hgg => (hg g (by omega)).trans (hfo1.1 g hgg), fun i hi => by rw [hg 24 (by decide)]; exact hfo1.2.1 i hi, fun i hi => by rw [hg 25 (by decide)]; exact hfo1.2.2 i hi⟩, by rw [hg 24 (by decide), hg 25 (by decide)]; exact hb1⟩
    have K137 : ∀ (T : mS) (w : jx_W) (Y : Option Value), mR E T w m A → sI T → mF m A w0 w → (∀ g, g ≠ 27 → T g = S g) → T 27 = R.2 → ∀ l2 t2, cOne S0 q os = some (l2, t2) → R.1 = l2 → 0 ≤ l2 → (∀ k, (k ∈ os ∨ S 27 k = 0) → R.2 k = t2 k) → cKeep set n b (some (l2, t2)) = some (l2, t2) → jx_G E l Y_M_findOrder (d + 3) (jm_pp E m A w0 none (fun T => foF S0 at_ T ∧ bR (T 24 at_) (fun k => T 25 (5 * at_ + k)) set n (cFold S0 q set n b (os :: [])))) 137 [some (.ref m), some (.int (iI q)), some (.int (iI set)), some (.int (iI at_)), some (.int (iI many)), some (.int (iI 1)), some (.int (iI R.1)), Y] [] w := by
      intro Sa w Y hM hISa hF hg h27 l2 t2 hc1 hc2 hc3 hc4 hc5
      have f23 : Sa 23 0 = n := by rw [hg 23 (by decide)]; exact e23
      refine jx_aload_n d_M_findOrder_137 rfl rfl ?_
      refine mx_ar 24 d_M_findOrder_138 (f_M_65 hB) hM (by decide) ?_
      refine jx_iload_n d_M_findOrder_141 rfl rfl ?_
      refine jx_iload d_M_findOrder_142 rfl ?_
      refine mx_st (n := 128) d_M_findOrder_144 hM (by decide) rfl ⟨by omega, by omega⟩ (fun w hM hF1 => ?_)
      have hF := hF.tr hF1
      obtain ⟨S1, hS1⟩ : ∃ zz, zz = sU Sa 24 at_ R.1 := ⟨_, rfl⟩
      rw [← hS1] at hM
      have hIS1 : sI S1 := by rw [hS1]; exact hISa.u 24 _ _ (fun _ => (show (-1 : Int) ≤ R.1 ∧ R.1 ≤ 600000 by constructor <;> omega))
      have e2 : S1 0 0 = Sa 0 0 := by rw [hS1]; rfl
      have e3 : S1 1 0 = Sa 1 0 := by rw [hS1]; rfl
      have e4 : S1 2 0 = Sa 2 0 := by rw [hS1]; rfl
      have e5 : S1 23 0 = Sa 23 0 := by rw [hS1]; rfl
      refine jI_const d_M_findOrder_145 ?_
      refine jx_istore d_M_findOrder_146 (Nat.le_of_ble_eq_true rfl) rfl ?_
      try dsimp only [List.set]
      refine l_M_copy (S0 := S1) (w0 := w0) hB (by omega) (by have : S1 23 0 = n := (by rw [hS1]; exact f23); omega) (fun T w X hM hIT hF g1 g2 g3 => ?_) 6 0 S1 w hM hIS1 hF (fun _ _ => rfl) (fun _ _ => rfl) (fun i hi => (by omega)) (by have : S1 23 0 = n := (by rw [hS1]; exact f23); omega) (by have : S1 23 0 = n := (by rw [hS1]; exact f23); omega)
      refine K181 T w _ _ hM hIT hF ⟨fun g hgg => ?_, fun i hi => ?_, fun i hi => ?_⟩ ?_ ?_
      · rw [g1 g (by omega), hS1, sU_ne (by omega), hg g (by omega)]; exact hfo.1 g hgg
      · rw [g1 24 (by decide), hS1, sU_i hi, hg 24 (by decide)]; exact hfo.2.1 i hi
      · rw [g2 i hi, hS1, sU_ne (by decide), hg 25 (by decide)]; exact hfo.2.2 i hi
      · rw [g1 26 (by decide), hS1, sU_ne (by decide), hg 26 (by decide)]
      · rw [hc1, hc5]
        refine ⟨?_, hc3, fun k hk hbk => ?_⟩
        · rw [g1 24 (by decide), hS1, sU_same]; exact hc2
        · have f1 : S1 23 0 = n := (by rw [hS1]; exact f23)
          show T 25 (5 * at_ + k) = t2 k
          rw [g3 k (by omega), hS1, sU_ne (by decide), h27]
          exact hc4 k (.inl ((hos os (List.mem_cons_self ..)).2.1 k (hbits k hk hbk)))
    refine jx_iload d_M_findOrder_76 rfl ?_
    refine jI_if_eq (tgt := 192) d_M_findOrder_78 (by decide) (by omega) (fun z => absurd z (by omega)) (fun _ => ?_)
    refine jx_aload_n d_M_findOrder_81 rfl rfl ?_
    refine jx_iload_n d_M_findOrder_82 rfl rfl ?_
    refine jx_iload d_M_findOrder_83 rfl ?_
    refine jm_callP (As := [.int (iI (q)), .int (iI (many))]) (v := some (.int (iI (R.1)))) d_M_findOrder_85 (m_M_tryOrder hB) (v_M_147 hB) hB hM.1 rfl (Nat.le_of_ble_eq_true rfl) (Nat.le_of_ble_eq_true rfl) (by have h := w_M_tryOrder (l := l) (d := d) hB hM hI (p := q) (many := many) (by omega) (by omega) (by omega); rw [hrun] at h; exact h) (fun w T2 hM hF1 hIT2 hPT2 => ?_)
    have hF := hF.tr hF1
    obtain ⟨hg, h27⟩ := hPT2
    have e24 : T2 24 at_ = S 24 at_ := by rw [hg 24 (by decide)]
    have e23t : T2 23 0 = n := by rw [hg 23 (by decide)]; exact e23
    refine jx_istore d_M_findOrder_88 (Nat.le_of_ble_eq_true rfl) rfl ?_
    try dsimp only [List.set]
    refine jx_iload d_M_findOrder_90 rfl ?_
    refine jI_const d_M_findOrder_92 ?_
    refine jI_icmp_eq (tgt := 181) d_M_findOrder_93 (by decide) (by omega) (by omega) (fun hc3 => ?_) (fun hc3 => ?_)
    · exact K181 T2 w _ _ hM hIT2 hF ⟨fun g hgg => (hg g (by omega)).trans (hfo.1 g hgg), fun i hi => by rw [hg 24 (by decide)]; exact hfo.2.1 i hi, fun i hi => by rw [hg 25 (by decide)]; exact hfo.2.2 i hi⟩ (hg 26 (by decide)) (by rw [hg 24 (by decide), hg 25 (by decide)]; exact bR_not hlink hb (fun k hk hbk => (hos os (List.mem_cons_self ..)).2.1 k (hbits k hk hbk)) (by omega))
    · refine jx_aload_n d_M_findOrder_96 rfl rfl ?_
      refine mx_ar 24 d_M_findOrder_97 (f_M_65 hB) hM (by decide) ?_
      refine jx_iload_n d_M_findOrder_100 rfl rfl ?_
      refine mx_ld (n := 128) d_M_findOrder_101 hM (by decide) rfl ⟨by omega, by omega⟩ ?_
      have r4 : -1 ≤ T2 24 at_ ∧ T2 24 at_ ≤ 600000 := hIT2.r 24 at_ (n := 128) (by decide) rfl ⟨by omega, by omega⟩
      refine jI_const d_M_findOrder_102 ?_
      refine jI_icmp_eq (tgt := 137) d_M_findOrder_103 (by decide) (by omega) (by omega) (fun hc5 => ?_) (fun hc5 => ?_)
      · (obtain ⟨l2, t2, y1, y2, y3, y4, y5⟩ := bR_yes hlink hb (fun k hk hbk => (hos os (List.mem_cons_self ..)).2.1 k (hbits k hk hbk)) (by omega)); exact K137 T2 w _ hM hIT2 hF hg h27 l2 t2 y1 y2 y3 y4 y5
      · refine jx_iload d_M_findOrder_106 rfl ?_
        refine jx_aload_n d_M_findOrder_108 rfl rfl ?_
        refine mx_ar 24 d_M_findOrder_109 (f_M_65 hB) hM (by decide) ?_
        refine jx_iload_n d_M_findOrder_112 rfl rfl ?_
        refine mx_ld (n := 128) d_M_findOrder_113 hM (by decide) rfl ⟨by omega, by omega⟩ ?_
        have r6 : -1 ≤ T2 24 at_ ∧ T2 24 at_ ≤ 600000 := hIT2.r 24 at_ (n := 128) (by decide) rfl ⟨by omega, by omega⟩
        refine jI_icmp_lt (tgt := 137) d_M_findOrder_114 (by decide) (by omega) (by omega) (fun hc7 => ?_) (fun hc7 => ?_)
        · (obtain ⟨l2, t2, y1, y2, y3, y4, y5⟩ := bR_yes hlink hb (fun k hk hbk => (hos os (List.mem_cons_self ..)).2.1 k (hbits k hk hbk)) (by omega)); exact K137 T2 w _ hM hIT2 hF hg h27 l2 t2 y1 y2 y3 y4 y5
        · refine jx_iload d_M_findOrder_117 rfl ?_
          refine jx_aload_n d_M_findOrder_119 rfl rfl ?_
          refine mx_ar 24 d_M_findOrder_120 (f_M_65 hB) hM (by decide) ?_
          refine jx_iload_n d_M_findOrder_123 rfl rfl ?_
          refine mx_ld (n := 128) d_M_findOrder_124 hM (by decide) rfl ⟨by omega, by omega⟩ ?_
          have r8 : -1 ≤ T2 24 at_ ∧ T2 24 at_ ≤ 600000 := hIT2.r 24 at_ (n := 128) (by decide) rfl ⟨by omega, by omega⟩
          refine jI_icmp_ne (tgt := 181) d_M_findOrder_125 (by decide) (by omega) (by omega) (fun hc9 => ?_) (fun hc9 => ?_)
          · exact K181 T2 w _ _ hM hIT2 hF ⟨fun g hgg => (hg g (by omega)).trans (hfo.1 g hgg), fun i hi => by rw [hg 24 (by decide)]; exact hfo.2.1 i hi, fun i hi => by rw [hg 25 (by decide)]; exact hfo.2.2 i hi⟩ (hg 26 (by decide)) (by rw [hg 24 (by decide), hg 25 (by decide)]; exact bR_not hlink hb (fun k hk hbk => (hos os (List.mem_cons_self ..)).2.1 k (hbits k hk hbk)) (by omega))
          · refine jx_aload_n d_M_findOrder_128 rfl rfl ?_
            refine jx_iload_n d_M_findOrder_129 rfl rfl ?_
            refine jx_iload_n d_M_findOrder_130 rfl rfl ?_
            refine jx_callV_r (As := [.int (iI (at_)), .int (iI (set))]) (v := some (.int (iI (sLess R.2 (fun k => S 25 (5 * at_ + k)) set n)))) d_M_findOrder_131 (m_M_startsAreLess hB) (v_M_150 hB) (by decide) (jx_c5 hB) hM.1 rfl (Nat.le_of_ble_eq_true rfl) (Nat.le_of_ble_eq_true rfl) (by have h := w_M_less (l := l) (d := d + 2) hB hM hIT2 (at_ := at_) (set := set) (by omega) (by omega) (by omega); rw [h27, hg 25 (by decide), e23t] at h; exact h) ?_
            have q10 := sLess_01 R.2 (fun k => S 25 (5 * at_ + k)) set n
            refine jI_if_eq (tgt := 181) d_M_findOrder_134 (by decide) (by omega) (fun hc11 => ?_) (fun hc11 => ?_)
            · exact K181 T2 w _ _ hM hIT2 hF ⟨fun g hgg => (hg g (by omega)).trans (hfo.1 g hgg), fun i hi => by rw [hg 24 (by decide)]; exact hfo.2.1 i hi, fun i hi => by rw [hg 25 (by decide)]; exact hfo.2.2 i hi⟩ (hg 26 (by decide)) (by rw [hg 24 (by decide), hg 25 (by decide)]; exact bR_not hlink hb (fun k hk hbk => (hos os (List.mem_cons_self ..)).2.1 k (hbits k hk hbk)) (by omega))
            · (obtain ⟨l2, t2, y1, y2, y3, y4, y5⟩ := bR_yes hlink hb (fun k hk hbk => (hos os (List.mem_cons_self ..)).2.1 k (hbits k hk hbk)) (by omega)); exact K137 T2 w _ hM hIT2 hF hg h27 l2 t2 y1 y2 y3 y4 y5
  | cons o2 rest ih =>
    intro os b X Y S w hM hI hF hfo hch hos ho hb
    have e23 : S 23 0 = n := by rw [h23, hfo.1 23 (by decide)]
    have e2 : S 2 0 = S0 2 0 := by rw [hfo.1 2 (by decide)]
    have hosl := (hos os (List.mem_cons_self ..)).1
    have hmt : many.toNat = os.length := by omega
    have hlink := run_link (S := S0) (p := q) (a := S 26) os 0 (sReady S0 q) (S0 9 q) 0 (S 27) (fun _ => 0) (fun j hj => by have := ho (0 + (j : Int)) (by omega); rw [this]; unfold fL; rw [show (0 + (j : Int)).toNat = j by omega, List.getD_eq_getElem?_getD, List.getElem?_eq_getElem hj]; rfl) (fun k hk => hall k ((hos os (List.mem_cons_self ..)).2.2 k hk)) (by omega)
    have hrun : sRun S q (S 26) many.toNat 0 (sReady S q) (S 9 q) 0 (S 27) = sRun S0 q (S 26) os.length 0 (sReady S0 q) (S0 9 q) 0 (S 27) := by rw [sRun_q hfo.q, sReady_q (fun g hg => hfo.1 g (by omega)), hfo.1 9 (by decide), hmt]
    have hrr := sRun_rg (S := S) (p := q) (a := S 26) hI hq (fun i hi => hI.r 26 i (n := 5) (by decide) rfl hi) many.toNat 0 (sReady S q) (S 9 q) 0 (S 27) (by omega) (by omega) (by have := sReady_rg (p := q) hI (by omega) (by omega); omega) (by have : 0 ≤ S 9 q ∧ S 9 q ≤ 3 := hI.r 9 q (n := 4) (by decide) rfl (by omega); omega) (by omega)
    rw [hrun] at hrr
    have hnx := aNx_c (a := S 26) (b := fL os) (many := os.length) (fun j hj => ho j (by omega))
    obtain ⟨R, hR⟩ : ∃ R, R = sRun S0 q (S 26) os.length 0 (sReady S0 q) (S0 9 q) 0 (S 27) := ⟨_, rfl⟩
    rw [← hR] at hlink hrun hrr
    have hlink : (cOne S0 q os = none ∧ R.1 = -1) ∨ ∃ l2 t2, cOne S0 q os = some (l2, t2) ∧ R.1 = l2 ∧ 0 ≤ l2 ∧ ∀ k, (k ∈ os ∨ S 27 k = (fun _ => 0) k) → R.2 k = t2 k := hlink
    have K181 : ∀ (T : mS) (w : jx_W) (X Y : Option Value), mR E T w m A → sI T → mF m A w0 w → foF S0 at_ T → T 26 = S 26 → bR (T 24 at_) (fun k => T 25 (5 * at_ + k)) set n (cKeep set n b (cOne S0 q os)) → jx_G E l Y_M_findOrder (d + 3) (jm_pp E m A w0 none (fun T => foF S0 at_ T ∧ bR (T 24 at_) (fun k => T 25 (5 * at_ + k)) set n (cFold S0 q set n b (os :: (o2 :: rest))))) 181 [some (.ref m), some (.int (iI q)), some (.int (iI set)), some (.int (iI at_)), some (.int (iI many)), some (.int (iI 1)), X, Y] [] w := by
      intro Sa w X Y hM hISa hF hfo1 h26 hb1
      have hsome : ∃ a2, aNx (Sa 26) many.toNat = some a2 ∧ ∀ i : Int, 0 ≤ i ∧ i < many → a2 i = fL o2 i := by
        rw [h26, hmt]
        have hch1 : ((match aNx (fL os) os.length with | none => false | some b => decide (toL b os.length = o2)) && chB (o2 :: rest)) = true := hch
        rw [Bool.and_eq_true] at hch1
        rcases hnx with ⟨h1, h2⟩ | ⟨a2, b2, h1, h2, h3⟩
        · rw [h2] at hch1; exact absurd hch1.1 (fun z => Bool.false_ne_true z)
        · refine ⟨a2, h1, fun i hi => ?_⟩
          have hch2 := hch1.1
          rw [h2] at hch2
          rw [h3 i (by omega), ← of_decide_eq_true hch2, fL_toL (by omega)]
      obtain ⟨a2, hs1, hs2⟩ := hsome
      refine jx_aload_n d_M_findOrder_181 rfl rfl ?_
      refine jx_iload d_M_findOrder_182 rfl ?_
      refine jm_callP (As := [.int (iI (many))]) (v := some (.int (iI (1)))) d_M_findOrder_184 (m_M_nextOrder hB) (v_M_153 hB) hB hM.1 rfl (Nat.le_of_ble_eq_true rfl) (Nat.le_of_ble_eq_true rfl) (by have h := w_M_nextOrder (l := l) (d := d + 1) hB hM hISa (many := many) (by omega); rw [hs1] at h; exact h) (fun w T1 hM hF1 hIT1 hPT1 => ?_)
      have hF := hF.tr hF1
      obtain ⟨hg, h26b⟩ := hPT1
      refine jx_istore d_M_findOrder_187 (Nat.le_of_ble_eq_true rfl) rfl ?_
      try dsimp only [List.set]
      refine jx_goto (tgt := 76) d_M_findOrder_189 (by decide) ?_
      exact ih o2 (cKeep set n b (cOne S0 q os)) _ _ T1 w hM hIT1 hF ⟨fun g hgg => (hg g (by omega)).trans (hfo1.1 g hgg), fun i hi => by rw [hg 24 (by decide)]; exact hfo1.2.1 i hi, fun i hi => by rw [hg 25 (by decide)]; exact hfo1.2.2 i hi⟩ ((Bool.and_eq_true _ _).mp hch |>.2) (fun o ho => hos o (List.mem_cons_of_mem _ ho)) (fun i hi => by rw [h26b]; exact hs2 i hi) (by rw [hg 24 (by decide), hg 25 (by decide)]; exact hb1)
    have K137 : ∀ (T : mS) (w : jx_W) (Y : Option Value), mR E T w m A → sI T → mF m A w0 w → (∀ g, g ≠ 27 → T g = S g) → T 27 = R.2 → ∀ l2 t2, cOne S0 q os = some (l2, t2) → R.1 = l2 → 0 ≤ l2 → (∀ k, (k ∈ os ∨ S 27 k = 0) → R.2 k = t2 k) → cKeep set n b (some (l2, t2)) = some (l2, t2) → jx_G E l Y_M_findOrder (d + 3) (jm_pp E m A w0 none (fun T => foF S0 at_ T ∧ bR (T 24 at_) (fun k => T 25 (5 * at_ + k)) set n (cFold S0 q set n b (os :: (o2 :: rest))))) 137 [some (.ref m), some (.int (iI q)), some (.int (iI set)), some (.int (iI at_)), some (.int (iI many)), some (.int (iI 1)), some (.int (iI R.1)), Y] [] w := by
      intro Sa w Y hM hISa hF hg h27 l2 t2 hc1 hc2 hc3 hc4 hc5
      have f23 : Sa 23 0 = n := by rw [hg 23 (by decide)]; exact e23
      refine jx_aload_n d_M_findOrder_137 rfl rfl ?_
      refine mx_ar 24 d_M_findOrder_138 (f_M_65 hB) hM (by decide) ?_
      refine jx_iload_n d_M_findOrder_141 rfl rfl ?_
      refine jx_iload d_M_findOrder_142 rfl ?_
      refine mx_st (n := 128) d_M_findOrder_144 hM (by decide) rfl ⟨by omega, by omega⟩ (fun w hM hF1 => ?_)
      have hF := hF.tr hF1
      obtain ⟨S1, hS1⟩ : ∃ zz, zz = sU Sa 24 at_ R.1 := ⟨_, rfl⟩
      rw [← hS1] at hM
      have hIS1 : sI S1 := by rw [hS1]; exact hISa.u 24 _ _ (fun _ => (show (-1 : Int) ≤ R.1 ∧ R.1 ≤ 600000 by constructor <;> omega))
      have e2 : S1 0 0 = Sa 0 0 := by rw [hS1]; rfl
      have e3 : S1 1 0 = Sa 1 0 := by rw [hS1]; rfl
      have e4 : S1 2 0 = Sa 2 0 := by rw [hS1]; rfl
      have e5 : S1 23 0 = Sa 23 0 := by rw [hS1]; rfl
      refine jI_const d_M_findOrder_145 ?_
      refine jx_istore d_M_findOrder_146 (Nat.le_of_ble_eq_true rfl) rfl ?_
      try dsimp only [List.set]
      refine l_M_copy (S0 := S1) (w0 := w0) hB (by omega) (by have : S1 23 0 = n := (by rw [hS1]; exact f23); omega) (fun T w X hM hIT hF g1 g2 g3 => ?_) 6 0 S1 w hM hIS1 hF (fun _ _ => rfl) (fun _ _ => rfl) (fun i hi => (by omega)) (by have : S1 23 0 = n := (by rw [hS1]; exact f23); omega) (by have : S1 23 0 = n := (by rw [hS1]; exact f23); omega)
      refine K181 T w _ _ hM hIT hF ⟨fun g hgg => ?_, fun i hi => ?_, fun i hi => ?_⟩ ?_ ?_
      · rw [g1 g (by omega), hS1, sU_ne (by omega), hg g (by omega)]; exact hfo.1 g hgg
      · rw [g1 24 (by decide), hS1, sU_i hi, hg 24 (by decide)]; exact hfo.2.1 i hi
      · rw [g2 i hi, hS1, sU_ne (by decide), hg 25 (by decide)]; exact hfo.2.2 i hi
      · rw [g1 26 (by decide), hS1, sU_ne (by decide), hg 26 (by decide)]
      · rw [hc1, hc5]
        refine ⟨?_, hc3, fun k hk hbk => ?_⟩
        · rw [g1 24 (by decide), hS1, sU_same]; exact hc2
        · have f1 : S1 23 0 = n := (by rw [hS1]; exact f23)
          show T 25 (5 * at_ + k) = t2 k
          rw [g3 k (by omega), hS1, sU_ne (by decide), h27]
          exact hc4 k (.inl ((hos os (List.mem_cons_self ..)).2.1 k (hbits k hk hbk)))
    refine jx_iload d_M_findOrder_76 rfl ?_
    refine jI_if_eq (tgt := 192) d_M_findOrder_78 (by decide) (by omega) (fun z => absurd z (by omega)) (fun _ => ?_)
    refine jx_aload_n d_M_findOrder_81 rfl rfl ?_
    refine jx_iload_n d_M_findOrder_82 rfl rfl ?_
    refine jx_iload d_M_findOrder_83 rfl ?_
    refine jm_callP (As := [.int (iI (q)), .int (iI (many))]) (v := some (.int (iI (R.1)))) d_M_findOrder_85 (m_M_tryOrder hB) (v_M_147 hB) hB hM.1 rfl (Nat.le_of_ble_eq_true rfl) (Nat.le_of_ble_eq_true rfl) (by have h := w_M_tryOrder (l := l) (d := d) hB hM hI (p := q) (many := many) (by omega) (by omega) (by omega); rw [hrun] at h; exact h) (fun w T2 hM hF1 hIT2 hPT2 => ?_)
    have hF := hF.tr hF1
    obtain ⟨hg, h27⟩ := hPT2
    have e24 : T2 24 at_ = S 24 at_ := by rw [hg 24 (by decide)]
    have e23t : T2 23 0 = n := by rw [hg 23 (by decide)]; exact e23
    refine jx_istore d_M_findOrder_88 (Nat.le_of_ble_eq_true rfl) rfl ?_
    try dsimp only [List.set]
    refine jx_iload d_M_findOrder_90 rfl ?_
    refine jI_const d_M_findOrder_92 ?_
    refine jI_icmp_eq (tgt := 181) d_M_findOrder_93 (by decide) (by omega) (by omega) (fun hc3 => ?_) (fun hc3 => ?_)
    · exact K181 T2 w _ _ hM hIT2 hF ⟨fun g hgg => (hg g (by omega)).trans (hfo.1 g hgg), fun i hi => by rw [hg 24 (by decide)]; exact hfo.2.1 i hi, fun i hi => by rw [hg 25 (by decide)]; exact hfo.2.2 i hi⟩ (hg 26 (by decide)) (by rw [hg 24 (by decide), hg 25 (by decide)]; exact bR_not hlink hb (fun k hk hbk => (hos os (List.mem_cons_self ..)).2.1 k (hbits k hk hbk)) (by omega))
    · refine jx_aload_n d_M_findOrder_96 rfl rfl ?_
      refine mx_ar 24 d_M_findOrder_97 (f_M_65 hB) hM (by decide) ?_
      refine jx_iload_n d_M_findOrder_100 rfl rfl ?_
      refine mx_ld (n := 128) d_M_findOrder_101 hM (by decide) rfl ⟨by omega, by omega⟩ ?_
      have r4 : -1 ≤ T2 24 at_ ∧ T2 24 at_ ≤ 600000 := hIT2.r 24 at_ (n := 128) (by decide) rfl ⟨by omega, by omega⟩
      refine jI_const d_M_findOrder_102 ?_
      refine jI_icmp_eq (tgt := 137) d_M_findOrder_103 (by decide) (by omega) (by omega) (fun hc5 => ?_) (fun hc5 => ?_)
      · (obtain ⟨l2, t2, y1, y2, y3, y4, y5⟩ := bR_yes hlink hb (fun k hk hbk => (hos os (List.mem_cons_self ..)).2.1 k (hbits k hk hbk)) (by omega)); exact K137 T2 w _ hM hIT2 hF hg h27 l2 t2 y1 y2 y3 y4 y5
      · refine jx_iload d_M_findOrder_106 rfl ?_
        refine jx_aload_n d_M_findOrder_108 rfl rfl ?_
        refine mx_ar 24 d_M_findOrder_109 (f_M_65 hB) hM (by decide) ?_
        refine jx_iload_n d_M_findOrder_112 rfl rfl ?_
        refine mx_ld (n := 128) d_M_findOrder_113 hM (by decide) rfl ⟨by omega, by omega⟩ ?_
        have r6 : -1 ≤ T2 24 at_ ∧ T2 24 at_ ≤ 600000 := hIT2.r 24 at_ (n := 128) (by decide) rfl ⟨by omega, by omega⟩
        refine jI_icmp_lt (tgt := 137) d_M_findOrder_114 (by decide) (by omega) (by omega) (fun hc7 => ?_) (fun hc7 => ?_)
        · (obtain ⟨l2, t2, y1, y2, y3, y4, y5⟩ := bR_yes hlink hb (fun k hk hbk => (hos os (List.mem_cons_self ..)).2.1 k (hbits k hk hbk)) (by omega)); exact K137 T2 w _ hM hIT2 hF hg h27 l2 t2 y1 y2 y3 y4 y5
        · refine jx_iload d_M_findOrder_117 rfl ?_
          refine jx_aload_n d_M_findOrder_119 rfl rfl ?_
          refine mx_ar 24 d_M_findOrder_120 (f_M_65 hB) hM (by decide) ?_
          refine jx_iload_n d_M_findOrder_123 rfl rfl ?_
          refine mx_ld (n := 128) d_M_findOrder_124 hM (by decide) rfl ⟨by omega, by omega⟩ ?_
          have r8 : -1 ≤ T2 24 at_ ∧ T2 24 at_ ≤ 600000 := hIT2.r 24 at_ (n := 128) (by decide) rfl ⟨by omega, by omega⟩
          refine jI_icmp_ne (tgt := 181) d_M_findOrder_125 (by decide) (by omega) (by omega) (fun hc9 => ?_) (fun hc9 => ?_)
          · exact K181 T2 w _ _ hM hIT2 hF ⟨fun g hgg => (hg g (by omega)).trans (hfo.1 g hgg), fun i hi => by rw [hg 24 (by decide)]; exact hfo.2.1 i hi, fun i hi => by rw [hg 25 (by decide)]; exact hfo.2.2 i hi⟩ (hg 26 (by decide)) (by rw [hg 24 (by decide), hg 25 (by decide)]; exact bR_not hlink hb (fun k hk hbk => (hos os (List.mem_cons_self ..)).2.1 k (hbits k hk hbk)) (by omega))
          · refine jx_aload_n d_M_findOrder_128 rfl rfl ?_
            refine jx_iload_n d_M_findOrder_129 rfl rfl ?_
            refine jx_iload_n d_M_findOrder_130 rfl rfl ?_
            refine jx_callV_r (As := [.int (iI (at_)), .int (iI (set))]) (v := some (.int (iI (sLess R.2 (fun k => S 25 (5 * at_ + k)) set n)))) d_M_findOrder_131 (m_M_startsAreLess hB) (v_M_150 hB) (by decide) (jx_c5 hB) hM.1 rfl (Nat.le_of_ble_eq_true rfl) (Nat.le_of_ble_eq_true rfl) (by have h := w_M_less (l := l) (d := d + 2) hB hM hIT2 (at_ := at_) (set := set) (by omega) (by omega) (by omega); rw [h27, hg 25 (by decide), e23t] at h; exact h) ?_
            have q10 := sLess_01 R.2 (fun k => S 25 (5 * at_ + k)) set n
            refine jI_if_eq (tgt := 181) d_M_findOrder_134 (by decide) (by omega) (fun hc11 => ?_) (fun hc11 => ?_)
            · exact K181 T2 w _ _ hM hIT2 hF ⟨fun g hgg => (hg g (by omega)).trans (hfo.1 g hgg), fun i hi => by rw [hg 24 (by decide)]; exact hfo.2.1 i hi, fun i hi => by rw [hg 25 (by decide)]; exact hfo.2.2 i hi⟩ (hg 26 (by decide)) (by rw [hg 24 (by decide), hg 25 (by decide)]; exact bR_not hlink hb (fun k hk hbk => (hos os (List.mem_cons_self ..)).2.1 k (hbits k hk hbk)) (by omega))
            · (obtain ⟨l2, t2, y1, y2, y3, y4, y5⟩ := bR_yes hlink hb (fun k hk hbk => (hos os (List.mem_cons_self ..)).2.1 k (hbits k hk hbk)) (by omega)); exact K137 T2 w _ hM hIT2 hF hg h27 l2 t2 y1 y2 y3 y4 y5
