/-! 88.d.relist: a list of the class has changed -/
/-- what the world knows lies below the next address -/
theorem jx_lt {E : jx_E} {l : Launch} {Y : jx_Y} {d : Nat} {Q : jx_R → jx_W → Prop} {pc : Nat} {L : List (Option Value)} {st : List Value} {w : jx_W} (K : (∀ a, jx_k w a ≠ 0 → a < jx_n w) → jx_G E l Y d Q pc L st w) : jx_G E l Y d Q pc L st w := by
  intro p e R s m args below meth c H locs cells slots ls C hH hL hq hc hs
  exact K (fun a ha => hH.lt ha) p e R s m args below meth c H locs cells slots ls C hH hL hq hc hs
theorem cLk_c {j : Nat} (hj : j < 4) : (j = 0 ∧ cLk j = 1) ∨ (j = 1 ∧ cLk j = 2) ∨ (j = 2 ∧ cLk j = 3) ∨ (j = 3 ∧ cLk j = 7) := by
  unfold cLk
  split <;> omega
theorem cDm_ne {D : mS} {f j : Nat} {i : Int} (h : cDm D f i) (hj : j = 2 ∨ j = 3) : f ≠ 35 + j := by
  rcases h with h | h | h | h | h | h | h | h | h <;> omega
theorem cDm_0 {D : mS} {f : Nat} {i : Int} (h : cDm D f i) (hf : 33 ≤ f ∧ f ≤ 36) : i = 0 := by
  rcases h with h | h | h | h | h | h | h | h | h <;> omega
theorem cP_ok {D : mS} {c i s c2 i2 : Nat} (h : cP c i s c2 i2) : cOk D c i := by
  obtain ⟨h1, h2⟩ := h
  refine .inr (.inr (.inl ⟨h1, ?_⟩))
  rcases h2 with h | h | h | h | h | h | h <;> omega
theorem cP_no {c i s c2 i2 k : Nat} (h : cP c i s c2 i2) (hk : k = 1 ∨ k = 2 ∨ k = 3 ∨ k = 7) : ¬ (c = 2 ∧ i = k) := by
  obtain ⟨h1, h2⟩ := h
  rcases h2 with h | h | h | h | h | h | h <;> omega
theorem cR.relist {E : jx_E} {D D2 : mS} {w w2 : jx_W} {G : Nat → Nat → Nat} {lo hi j a2 : Nat} (h : cR E D w G lo hi) (hj : j = 2 ∨ j = 3) (hlt : ∀ a, jx_k w a ≠ 0 → a < jx_n w) (hn : jx_n w ≤ jx_n w2) (hk : ∀ b, b < jx_n w → jx_k w2 b = jx_k w b ∧ jx_l w2 b = jx_l w b)
    (hv : ∀ b, b < jx_n w → b ≠ G 2 (cLk j) → jx_v w (G 2 (cLk j)) 0 ≠ .ref b → jx_v w2 b = jx_v w b)
    (l0 : jx_v w2 (G 2 (cLk j)) 0 = .ref a2) (l1 : jx_v w2 (G 2 (cLk j)) 1 = .int (iI (D2 (33 + j) 0))) (l2 : ∃ mc, jx_v w2 (G 2 (cLk j)) 2 = .int mc)
    (hD : ∀ f i, f ≠ 33 + j → f ≠ 35 + j → D2 f i = D f i)
    (hL : jx_k w2 a2 = 105 ∧ 0 ≤ D2 (33 + j) 0 ∧ D2 (33 + j) 0 ≤ (jx_l w2 a2 : Int) ∧ jx_l w2 a2 ≤ 1000 ∧ ((jx_l w2 a2 = 0 ∧ jZ E a2 ∧ jx_v w (G 2 (cLk j)) 0 = .ref a2) ∨ (jx_l w2 a2 ≠ 0 ∧ E.1.heap.size ≤ a2 ∧ a2 < jx_n w2 ∧ (a2 < lo ∨ hi ≤ a2) ∧ (jx_n w ≤ a2 ∨ ∀ j2, j2 < 4 → j2 ≠ j → jx_v w (G 2 (cLk j2)) 0 ≠ .ref a2))))
    (hE : ∀ i : Nat, (i : Int) < D2 (33 + j) 0 → jx_v w2 a2 i = .ref (cEl G D2 j i)) : cR E D2 w2 G lo hi := by
  obtain ⟨h1, h2, h3, h4, h5, h6⟩ := h
  have e33 : D2 33 0 = D 33 0 := hD 33 0 (by omega) (by omega)
  have e34 : D2 34 0 = D 34 0 := hD 34 0 (by omega) (by omega)
  have hjk := cLk_c (j := j) (by omega)
  have hlc : cOk D 2 (cLk j) := .inr (.inr (.inl ⟨rfl, by omega⟩))
  obtain ⟨a, p0, p1, p2, p3, p4, p5, p6, p7⟩ := h5 j (by omega)
  -- a cell that is no list of this kind is as it was
  have same : ∀ c i, cOk D c i → ¬ (c = 2 ∧ i = cLk j) → jx_v w2 (G c i) = jx_v w (G c i) := by
    intro c i hc hne
    obtain ⟨q1, q2, q3, q4, q5⟩ := h1 c i hc
    refine hv _ q3 (fun z => hne (h2 _ _ _ _ hc hlc z)) (fun z => ?_)
    rw [p0] at z
    have z : a = G c i := by cases z; rfl
    rw [← z, p1] at q1
    exact (cKd_105 hc).1 q1.symm
  refine ⟨fun c i hc => ?_, fun c i c2 i2 hc hc2 => h2 c i c2 i2 (cOk_c e33 e34 hc) (cOk_c e33 e34 hc2), fun c i s c2 i2 hp => ?_, fun f i hf => ?_, fun j2 hj2 => ?_, by omega⟩
  · obtain ⟨q1, q2, q3, q4, q5⟩ := h1 c i (cOk_c e33 e34 hc)
    obtain ⟨r1, r2⟩ := hk _ q3
    exact ⟨by rw [r1]; exact q1, q2, by omega, q4, fun z => by rw [r2]; exact q5 z⟩
  · have hci : cOk D c i := cP_ok hp
    rw [same c i hci (cP_no hp (by omega))]
    exact h3 c i s c2 i2 hp
  · have hf2 := cDm_c e33 e34 hf
    by_cases e : f = 33 + j
    · have ei : i = 0 := cDm_0 hf2 (by omega)
      subst e ei
      have hl : cLoc (33 + j) 0 = (2, cLk j, 1) := by
        rcases hj with rfl | rfl <;> rfl
      rw [hl]
      show jx_v w2 (G 2 (cLk j)) 1 = _
      rw [l1, cEn_i (by omega)]
    · have hcell := cLoc_ok hf2
      obtain ⟨a3, b3, s3, e3, k3⟩ := cLoc_c hf2
      have hne : ¬ ((cLoc f i).1 = 2 ∧ (cLoc f i).2.1 = cLk j) := by
        rw [e3]
        show ¬ (a3 = 2 ∧ b3 = cLk j)
        rintro ⟨z1, z2⟩
        rcases k3 with k | k | ⟨k0, k | ⟨k1, k | k | k | k | k | k | k⟩ | k | k⟩ | k | k <;> omega
      rw [same _ _ hcell hne, hD f i e (cDm_ne hf2 hj)]
      exact h4 f i hf2
  · by_cases e : j2 = j
    · subst e
      obtain ⟨q1, q2, q3, q4, q5⟩ := hL
      refine ⟨a2, l0, q1, q2, q3, q4, ?_, l2, hE⟩
      rcases q5 with q5 | ⟨m0, m1, m2, m3, m4⟩
      · exact .inl ⟨q5.1, q5.2.1⟩
      · refine .inr ⟨m0, m1, m2, m3, fun j3 hj3 hne => ?_⟩
        have hjk3 := cLk_c hj3
        rw [same 2 (cLk j3) (.inr (.inr (.inl ⟨rfl, by omega⟩))) (by omega)]
        intro z
        obtain ⟨a4, r0, r1, _⟩ := h5 j3 hj3
        have ea : a4 = a2 := by rw [r0] at z; cases z; rfl
        rcases m4 with m4 | m4
        · have := hlt a4 (by rw [r1]; decide)
          omega
        · exact m4 j3 hj3 hne z
    · have hjk2 := cLk_c hj2
      have hs := same 2 (cLk j2) (.inr (.inr (.inl ⟨rfl, by omega⟩))) (by omega)
      obtain ⟨a3, r0, r1, r2, r3, r4, r5, ⟨mc, r6⟩, r7⟩ := h5 j2 hj2
      have ha3 := hlt a3 (by rw [r1]; decide)
      obtain ⟨s1, s2⟩ := hk a3 ha3
      have ej : D2 (33 + j2) 0 = D (33 + j2) 0 := hD _ 0 (by omega) (by omega)
      have hel : ∀ i : Nat, cEl G D2 j2 i = cEl G D j2 i := by
        intro i
        unfold cEl
        by_cases e2 : j2 = 0
        · rw [if_pos e2, if_pos e2]
        · rw [if_neg e2, if_neg e2]
          by_cases e4 : j2 = 1
          · rw [if_pos e4, if_pos e4]
          · rw [if_neg e4, if_neg e4]
            by_cases e5 : j2 = 2
            · rw [if_pos e5, if_pos e5, hD 37 _ (by omega) (by omega)]
            · rw [if_neg e5, if_neg e5, hD 38 _ (by omega) (by omega)]
      refine ⟨a3, by rw [hs]; exact r0, by rw [s1]; exact r1, by rw [ej]; exact r2, by rw [ej, s2]; exact r3, by rw [s2]; exact r4, ?_, ⟨mc, by rw [hs]; exact r6⟩, fun i hi => ?_⟩
      · rw [s2]
        rcases r5 with r5 | ⟨m0, m1, m2, m3, m4⟩
        · exact .inl r5
        · refine .inr ⟨m0, m1, by omega, m3, fun j3 hj3 hne => ?_⟩
          by_cases e3 : j3 = j
          · rw [e3, l0]
            intro z
            have ea : a2 = a3 := by cases z; rfl
            obtain ⟨_, _, _, _, q5⟩ := hL
            rcases q5 with q5 | ⟨_, _, _, _, n4⟩
            · exact m4 j (by omega) (by omega) (by rw [← ea]; exact q5.2.2)
            · rcases n4 with n4 | n4
              · omega
              · exact n4 j2 hj2 e (by rw [ea]; exact r0)
          · have hjk3 := cLk_c hj3
            rw [same 2 (cLk j3) (.inr (.inr (.inl ⟨rfl, by omega⟩))) (by omega)]
            exact m4 j3 hj3 hne
      · rw [ej] at hi
        rw [hel i]
        by_cases hz : jx_l w a3 = 0
        · exfalso
          omega
        · rcases r5 with r5 | ⟨_, _, _, _, m4⟩
          · exact absurd r5.1 hz
          · rw [hv a3 ha3 (fun z => ?_) (m4 j (by omega) (by omega))]
            · exact r7 i hi
            · rw [z, (h1 _ _ hlc).1] at r1
              exact (cKd_105 hlc).1 r1
