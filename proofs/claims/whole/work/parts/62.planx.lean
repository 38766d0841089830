/-! 62.planx: the exact plan; assign -/
theorem fSet_lt {ch : Int → Int} {q n : Int} (hn : 0 ≤ n) : 0 ≤ fSet ch q n ∧ fSet ch q n < 2 ^ n.toNat := by
  refine iFor_ind (P := fun x => 0 ≤ x ∧ x < 2 ^ n.toNat) ⟨by omega, Int.pow_pos (by decide)⟩ (fun x k hk hx => ?_)
  unfold gSet
  split
  · exact sSet_rg (n := n.toNat) hx ⟨by omega, by omega⟩
  · exact hx
theorem sBit_0 (k : Int) : sBit 0 k = 0 := by
  unfold sBit
  rw [Int.zero_ediv]
  rfl
theorem fSet_bit {ch : Int → Int} {q n k : Int} (hn : 0 ≤ n) (hk : 0 ≤ k) : sBit (fSet ch q n) k = if k < n ∧ ch k = q then 1 else 0 := by
  have key : ∀ j : Nat, 0 ≤ fSet ch q j ∧ sBit (fSet ch q j) k = if k < j ∧ ch k = q then 1 else 0 := by
    intro j
    induction j with
    | zero =>
      refine ⟨Int.le_refl 0, ?_⟩
      rw [if_neg (by omega)]
      exact sBit_0 k
    | succ j ih =>
      have e : fSet ch q ((j + 1 : Nat) : Int) = if ch j = q then sSet (fSet ch q j) j else fSet ch q j := by
        unfold fSet
        rw [show ((j + 1 : Nat) : Int) = (j : Int) + 1 by omega, iFor_s _ _ (by omega)]
        rfl
      rw [e]
      by_cases h : ch j = q
      · rw [if_pos h]
        refine ⟨sSet_nn _ _, ?_⟩
        rw [sBit_set ih.1 (by omega) hk, ih.2]
        by_cases hkj : k = j
        · rw [if_pos hkj, if_pos ⟨by omega, by rw [hkj]; exact h⟩]
        · rw [if_neg hkj]
          by_cases hc : ch k = q
          · by_cases hl : k < j
            · rw [if_pos ⟨hl, hc⟩, if_pos ⟨by omega, hc⟩]
            · rw [if_neg (by omega), if_neg (by omega)]
          · rw [if_neg (fun z => hc z.2), if_neg (fun z => hc z.2)]
      · rw [if_neg h]
        refine ⟨ih.1, ?_⟩
        rw [ih.2]
        by_cases hc : ch k = q
        · have : k ≠ j := by rintro rfl; exact h hc
          by_cases hl : k < j
          · rw [if_pos ⟨hl, hc⟩, if_pos ⟨by omega, hc⟩]
          · rw [if_neg (by omega), if_neg (by omega)]
        · rw [if_neg (fun z => hc z.2), if_neg (fun z => hc z.2)]
  have := (key n.toNat).2
  rw [Int.toNat_of_nonneg hn] at this
  exact this
def lt (S : mS) (n x : Int) : Int := match cFo S (x / 32) (x % 32) n with
  | none => -1
  | some y => y.1
theorem lt_at (S : mS) (n : Int) {q s : Int} (hs : 0 ≤ s ∧ s < 32) : lt S n (32 * q + s) = match cFo S q s n with | none => -1 | some y => y.1 := by
  unfold lt
  rw [show (32 * q + s) / 32 = q by omega, show (32 * q + s) % 32 = s by omega]
theorem fCost_lat {lat lat2 ch : Int → Int} {n m : Int} (h : ∀ q s, 0 ≤ q ∧ q < m → 0 ≤ s ∧ s < 2 ^ n.toNat → lat (32 * q + s) = lat2 (32 * q + s)) (hn : 0 ≤ n) : fCost lat ch n m = fCost lat2 ch n m := by
  unfold fCost
  exact iFor_congr (fun x q hq => by unfold gCost; rw [h q _ hq (fSet_lt hn)])
theorem fEn_lat {lat lat2 : Int → Int} {n m i : Int} (h : ∀ q s, 0 ≤ q ∧ q < m → 0 ≤ s ∧ s < 2 ^ n.toNat → lat (32 * q + s) = lat2 (32 * q + s)) (hn : 0 ≤ n) : fEn lat n m i = fEn lat2 n m i := by
  unfold fEn
  have e : gEn lat n m = gEn lat2 n m := by
    funext f j
    unfold gEn
    rw [fCost_lat h hn]
  rw [e]
theorem fCost_fin {lat ch : Int → Int} {n m : Int} (h : fCost lat ch n m ≠ -1) : ∀ q, 0 ≤ q ∧ q < m → lat (32 * q + fSet ch q n) ≠ -1 := by
  intro q hq hl
  apply h
  unfold fCost
  have e : iFor (gCost lat ch n) (sSum (fun k => if ch k = m then 100000 else 0) n) (q + 1) = -1 := by
    rw [iFor_s _ _ hq.1]
    generalize iFor (gCost lat ch n) (sSum (fun k => if ch k = m then 100000 else 0) n) q = y
    unfold gCost
    rw [if_pos hl]
    split <;> rfl
  rw [iFor_stay (n := q + 1) (by omega) (by omega) (fun i _ => by rw [e]; exact if_pos rfl), e]
theorem fEn_cost (lat : Int → Int) (n m i : Int) : (fEn lat n m i).1 = -1 ∨ (fCost lat (fEn lat n m i).2 n m = (fEn lat n m i).1 ∧ ∃ j, (0 ≤ j ∧ j < i) ∧ (fEn lat n m i).2 = dg (m + 1) n j) := by
  unfold fEn
  refine aFor_ind (P := fun x : Int × (Int → Int) => x.1 = -1 ∨ (fCost lat x.2 n m = x.1 ∧ ∃ j, (0 ≤ j ∧ j < i) ∧ x.2 = dg (m + 1) n j)) (.inl rfl) (fun x t ht hx => ?_)
  unfold gEn
  split
  · exact .inr ⟨rfl, t, ht, rfl⟩
  · exact hx
/-- nothing that can be is cheaper, and nothing before it as cheap -/
theorem fEn_min (lat : Int → Int) (n m : Int) : ∀ i : Nat, ∀ j : Int, 0 ≤ j ∧ j < i → fCost lat (dg (m + 1) n j) n m ≠ -1 → (fEn lat n m i).1 ≠ -1 ∧ (fEn lat n m i).1 ≤ fCost lat (dg (m + 1) n j) n m := by
  intro i
  induction i with
  | zero => intro j hj; exfalso; omega
  | succ i ih =>
    intro j hj hc
    have e : fEn lat n m ((i + 1 : Nat) : Int) = gEn lat n m (fEn lat n m i) i := by
      unfold fEn
      rw [show ((i + 1 : Nat) : Int) = (i : Int) + 1 by omega, aFor_s _ _ (by omega)]
    rw [e]
    by_cases hji : j < i
    · have h1 := ih j (by omega) hc
      unfold gEn
      split
      · rename_i h
        refine ⟨h.1, ?_⟩
        show fCost lat (dg (m + 1) n i) n m ≤ _
        omega
      · exact h1
    · have hje : j = i := by omega
      subst hje
      unfold gEn
      by_cases h : fCost lat (dg (m + 1) n i) n m ≠ -1 ∧ ((fEn lat n m i).1 = -1 ∨ fCost lat (dg (m + 1) n i) n m < (fEn lat n m i).1)
      · rw [if_pos h]
        exact ⟨h.1, Int.le_refl _⟩
      · rw [if_neg h]
        omega
theorem cFo_0 (S : mS) (q n : Int) : cFo S q 0 n = some (0, fun _ => 0) := rfl
theorem dg_last {m n k : Int} (hm : 0 ≤ m ∧ m ≤ 4) (hn : n ≤ 5) (hk : 0 ≤ k ∧ k < n) : dg (m + 1) n ((m + 1) ^ n.toNat - 1) k = m := by
  have h1 : m = 0 ∨ m = 1 ∨ m = 2 ∨ m = 3 ∨ m = 4 := by omega
  have h2 : n = 1 ∨ n = 2 ∨ n = 3 ∨ n = 4 ∨ n = 5 := by omega
  have h3 : k = 0 ∨ k = 1 ∨ k = 2 ∨ k = 3 ∨ k = 4 := by omega
  rcases h1 with rfl | rfl | rfl | rfl | rfl <;> rcases h2 with rfl | rfl | rfl | rfl | rfl <;> rcases h3 with rfl | rfl | rfl | rfl | rfl <;> first | rfl | (exfalso; omega)
/-- nobody does anything: that can be -/
theorem fEn_ok (S : mS) {n m : Int} (hm : 0 ≤ m ∧ m ≤ 4) (hn : 0 ≤ n ∧ n ≤ 5) : (fEn (lt S n) n m ((m + 1) ^ n.toNat)).1 ≠ -1 := by
  have hp := pw_rg hm hn
  have hc : fCost (lt S n) (dg (m + 1) n ((m + 1) ^ n.toNat - 1)) n m ≠ -1 := by
    have hs : 0 ≤ sSum (fun k => if dg (m + 1) n ((m + 1) ^ n.toNat - 1) k = m then 100000 else 0) n ∧ sSum (fun k => if dg (m + 1) n ((m + 1) ^ n.toNat - 1) k = m then 100000 else 0) n ≤ 100000 * n := sSum_rg (by decide) hn.1 (fun i _ => by split <;> omega)
    have h0 : ∀ q, 0 ≤ q ∧ q < m → fSet (dg (m + 1) n ((m + 1) ^ n.toNat - 1)) q n = 0 := by
      intro q hq
      unfold fSet
      rw [iFor_stay (n := 0) (by omega) hn.1 (fun i hi => ?_)]
      · rfl
      · unfold gSet
        rw [if_neg (by rw [dg_last hm hn.2 hi]; omega)]
    have key : ∀ q : Nat, (q : Int) ≤ m → 0 ≤ iFor (gCost (lt S n) (dg (m + 1) n ((m + 1) ^ n.toNat - 1)) n) (sSum (fun k => if dg (m + 1) n ((m + 1) ^ n.toNat - 1) k = m then 100000 else 0) n) q := by
      intro q
      induction q with
      | zero => intro _; exact hs.1
      | succ q ih =>
        intro hq
        have h1 := ih (by omega)
        rw [show ((q + 1 : Nat) : Int) = (q : Int) + 1 by omega, iFor_s _ _ (by omega)]
        generalize iFor (gCost (lt S n) (dg (m + 1) n ((m + 1) ^ n.toNat - 1)) n) (sSum (fun k => if dg (m + 1) n ((m + 1) ^ n.toNat - 1) k = m then 100000 else 0) n) (q : Int) = y at h1 ⊢
        unfold gCost
        rw [h0 q (by omega), lt_at S n (by omega), cFo_0]
        show 0 ≤ (if y = -1 then -1 else if (0 : Int) = -1 then -1 else y + 0)
        rw [if_neg (by omega), if_neg (by omega)]
        omega
    unfold fCost
    have := key m.toNat (by omega)
    rw [Int.toNat_of_nonneg hm.1] at this
    omega
  have := fEn_min (lt S n) n m ((m + 1) ^ n.toNat).toNat ((m + 1) ^ n.toNat - 1) (by omega) hc
  rw [Int.toNat_of_nonneg (by omega)] at this
  exact this.1
/-- who does what in the exact plan, and when -/
def xB (S : mS) : Int → Int := (fEn (lt S (S 23 0)) (S 23 0) (S 0 0) ((S 0 0 + 1) ^ (S 23 0).toNat)).2
def xC (S : mS) (k : Int) : Int := match cFo S (xB S k) (fSet (xB S) (xB S k) (S 23 0)) (S 23 0) with
  | none => 0
  | some y => y.2 k
def oExp (S : mS) : mS := sFor (gTell (S 0 0) (xB S) (xC S)) S (S 23 0)
theorem tell_c {m : Int} {b c b2 c2 : Int → Int} {S T : mS} (h : ∀ g, g < 24 → T g = S g) : ∀ n : Nat, (∀ k, 0 ≤ k ∧ k < n → b k = b2 k) → (∀ k, 0 ≤ k ∧ k < n → b k < m → c k = c2 k) → ∀ g, g < 24 → sForN (gTell m b c) T n g = sForN (gTell m b2 c2) S n g := by
  intro n
  induction n with
  | zero => intro _ _ g hg; exact h g hg
  | succ n ih =>
    intro hb hc g hg
    have ih2 := ih (fun k hk => hb k (by omega)) (fun k hk => hc k (by omega))
    show gTell m b c (sForN (gTell m b c) T n) n g = gTell m b2 c2 (sForN (gTell m b2 c2) S n) n g
    generalize sForN (gTell m b c) T n = U at ih2 ⊢
    generalize sForN (gTell m b2 c2) S n = V at ih2 ⊢
    unfold gTell
    rw [← hb n (by omega)]
    by_cases hm : b n < m
    · rw [if_pos hm, if_pos hm, ← hc n (by omega) hm, ih2 22 (by decide)]
      by_cases e20 : g = 20
      · subst e20
        rw [sU_fU, sU_fU, sU_ne (by decide), sU_ne (by decide), ih2 20 (by decide)]
      · rw [sU_ne e20, sU_ne e20]
        by_cases e19 : g = 19
        · subst e19
          rw [sU_fU, sU_fU, ih2 19 (by decide)]
        · rw [sU_ne e19, sU_ne e19, ih2 g hg]
    · rw [if_neg hm, if_neg hm]
      exact ih2 g hg
theorem w_M_planExactly {E : jx_E} {l : Launch} {d : Nat} {w : jx_W} {S : mS} {m : Nat} {A : Nat → Nat} (hB : jx_B E) (hM : mR E S w m A) (hI : sI S) (hP : 0 ≤ S 0 0 ∧ S 0 0 ≤ 4) (hn : 0 ≤ S 2 0 ∧ S 2 0 ≤ 100000) (h5 : 0 ≤ S 23 0 ∧ S 23 0 ≤ 5) : jx_G E l Y_M_planExactly (d + 4) (jm_pp E m A w none (fun T => ∀ g, g < 24 → T g = oExp S g)) 0 (jx_ent [.ref m] 7) [] w := by
  show jx_G E l Y_M_planExactly (d + 4) (jm_pp E m A w none (fun T => ∀ g, g < 24 → T g = oExp S g)) 0 [some (.ref m), none, none, none, none, none, none] [] w
  have hF : mF m A w w := mF.rf
  generalize hw0 : w = w0 at hF ⊢
  rw [hw0] at hM
  have hF : mF m A w0 w0 := mF.rf
  obtain ⟨n, hnn⟩ : ∃ n, n = S 23 0 := ⟨_, rfl⟩
  have h5n : 0 ≤ n ∧ n ≤ 5 := by omega
  have hN2 := pow_rg h5n
  have hal := pw_rg hP h5n
  have hok := fEn_ok S hP h5n
  refine jI_const d_M_planExactly_0 ?_
  refine jx_istore_n d_M_planExactly_1 rfl (Nat.le_of_ble_eq_true rfl) rfl ?_
  try dsimp only [List.set]
  refine l_M_allO (S0 := S) (w0 := w0) hB hP hn hnn h5n rfl hN2 (fun T w X2 hM hIT hF hxT => ?_) 5 0 _ S w0 hM hI hF ⟨fun _ _ => rfl, fun q2 s2 h1 h2 h3 => by omega⟩ (by omega) (by omega)
  have t0 : T 0 0 = S 0 0 := by rw [hxT.1 0 (by decide)]
  have t23 : T 23 0 = n := by rw [hxT.1 23 (by decide), hnn]
  have htab : ∀ q s, 0 ≤ q ∧ q < S 0 0 → 0 ≤ s ∧ s < 2 ^ n.toNat → T 24 (32 * q + s) = lt S n (32 * q + s) := fun q s hq hs => by
    have hb := hxT.2 q s hq.1 hs (.inl hq.2)
    rw [lt_at S n (by omega)]
    cases hc : cFo S q s n with
    | none => rw [hc] at hb; exact hb
    | some y => rw [hc] at hb; exact hb.1
  have hen : fEn (T 24) n (S 0 0) ((S 0 0 + 1) ^ n.toNat) = fEn (lt S n) n (S 0 0) ((S 0 0 + 1) ^ n.toNat) := fEn_lat htab h5n.1
  refine jI_const d_M_planExactly_40 ?_
  refine jx_istore_n d_M_planExactly_41 rfl (Nat.le_of_ble_eq_true rfl) rfl ?_
  try dsimp only [List.set]
  refine jI_const d_M_planExactly_42 ?_
  refine jx_istore_n d_M_planExactly_43 rfl (Nat.le_of_ble_eq_true rfl) rfl ?_
  try dsimp only [List.set]
  refine l_M_all hB hM hIT (n := n) (B := S 0 0 + 1) (by omega) t23.symm h5n (by omega) ?_ 6 1 0 (by show (1 : Int) = (S 0 0 + 1) ^ 0; rw [Int.pow_zero]) (by omega) (by omega)
  refine jI_const d_M_planExactly_67 ?_
  refine jx_istore_n d_M_planExactly_68 rfl (Nat.le_of_ble_eq_true rfl) rfl ?_
  try dsimp only [List.set]
  refine jI_const d_M_planExactly_69 ?_
  refine jx_istore_n d_M_planExactly_70 rfl (Nat.le_of_ble_eq_true rfl) rfl ?_
  try dsimp only [List.set]
  refine l_M_enum (S0 := T) (w0 := w0) (n := n) (B := S 0 0 + 1) hB (by omega) t23.symm h5n (by omega) rfl hal (fun U w X3 X4 X5 X6 hM hIU hF u1 u2 => ?_) 3126 (-1) 0 _ _ _ T w hM hIT hF (fun _ _ _ => rfl) rfl (fun z => absurd rfl z) (by omega) (by omega)
  rw [t0, hen] at u2
  have u2 := u2 hok
  rw [t0, hen]
  refine jI_const d_M_planExactly_189 ?_
  refine jx_istore_n d_M_planExactly_190 rfl (Nat.le_of_ble_eq_true rfl) rfl ?_
  try dsimp only [List.set]
  refine l_M_chb (S0 := U) (w0 := w0) (n := n) (B := S 0 0 + 1) hB (by rw [u1 0 (by decide) (by decide)]; omega) (by rw [u1 23 (by decide) (by decide), t23]) h5n (by rw [u1 0 (by decide) (by decide), t0]) (fun V w X3 hM hIV hF v1 v2 => ?_) 6 0 U w hM hIU hF (fun _ _ => rfl) (fun k hk => by omega) (by omega) (by omega)
  refine jI_const d_M_planExactly_217 ?_
  refine jx_istore_n d_M_planExactly_218 rfl (Nat.le_of_ble_eq_true rfl) rfl ?_
  try dsimp only [List.set]
  have hxb : xB S = (fEn (lt S n) n (S 0 0) ((S 0 0 + 1) ^ n.toNat)).2 := by unfold xB; rw [← hnn]
  rw [← hxb] at u2
  have hq4 : ∀ g, g < 24 → V g = S g := fun g hg => by rw [v1 g (by omega), u1 g (by omega) (by omega), hxT.1 g (by omega)]
  have hV0 : V 0 0 = S 0 0 := by rw [hq4 0 (by decide)]
  have hfin : fCost (lt S n) (xB S) n (S 0 0) ≠ -1 := by
    rcases fEn_cost (lt S n) n (S 0 0) ((S 0 0 + 1) ^ n.toNat) with h | h
    · exact absurd h hok
    · rw [hxb, h.1]; exact hok
  have hxr : ∀ k, 0 ≤ xB S k := fun k => by
    rcases fEn_cost (lt S n) n (S 0 0) ((S 0 0 + 1) ^ n.toNat) with h | ⟨h, j, hj, h2⟩
    · exact absurd h hok
    · rw [hxb, h2]; exact (dg_rg (by omega)).1
  refine jx_weak (l_M_tell (Q := fun _ _ => True) (S0 := V) (w0 := w0) (n := n) (B := S 0 0 + 1) (b := xB S) (c := xC S) hB (by omega) (by rw [hq4 23 (by decide), hnn]) h5n (by omega) (fun k hk => ?_) (fun k hk => ?_) (fun k hk hbk => ?_) 6 0 V w hM hIV hF (sFor_0 _ _).symm (by omega) (by omega)) (fun rr w' zz => ?_)
  · rw [v1 29 (by decide)]; exact u2 k hk
  · rw [v2 k hk]; exact u2 k hk
  · rw [hV0] at hbk
    have hb := hxT.2 (xB S k) (fSet (xB S) (xB S k) n) (hxr k) (fSet_lt h5n.1) (.inl hbk)
    have hf := fCost_fin hfin (xB S k) ⟨hxr k, hbk⟩
    rw [lt_at S n (fSet_rg h5n.2)] at hf
    rw [v1 25 (by decide), u1 25 (by decide) (by decide)]
    unfold xC
    rw [← hnn]
    cases hc : cFo S (xB S k) (fSet (xB S) (xB S k) n) n with
    | none => rw [hc] at hf; exact absurd rfl hf
    | some y =>
      rw [hc] at hb
      exact hb.2.2 k hk (by rw [fSet_bit h5n.1 hk.1, if_pos ⟨hk.2, rfl⟩])
  · obtain ⟨z1, Z, z2, z3, z4, z5⟩ := zz
    refine ⟨z1, Z, z2, z3, z4, fun g hg => ?_⟩
    rw [z5, hV0]
    unfold oExp
    rw [← hnn]
    exact tell_c hq4 n.toNat (fun _ _ => rfl) (fun _ _ _ => rfl) g hg
