/-! 90.b.grow: a person or a task is added to the class's state -/
/-- the fields of persons (j = 0) and of tasks (j = 1) -/
abbrev cFl (j f : Nat) : Prop := (j = 0 ∧ f < 14) ∨ (j = 1 ∧ 20 ≤ f ∧ f < 28)
theorem cR.grow {E : jx_E} {D D2 : mS} {w w2 : jx_W} {G G2 : Nat → Nat → Nat} {lo hi j a2 : Nat} (h : cR E D w G lo hi) (hj : j = 0 ∨ j = 1) (hlt : ∀ a, jx_k w a ≠ 0 → a < jx_n w) (hold : E.1.heap.size ≤ jx_n w) (hn : jx_n w < jx_n w2) (hk : ∀ b, b < jx_n w → jx_k w2 b = jx_k w b ∧ jx_l w2 b = jx_l w b)
    (hv : ∀ b, b < jx_n w → b ≠ G 2 (j + 1) → jx_v w (G 2 (j + 1)) 0 ≠ .ref b → jx_v w2 b = jx_v w b)
    (hkb : jx_k w2 (jx_n w) = j + 3) (hvb : ∀ f, cFl j f → jx_v w2 (jx_n w) (f - 20 * j) = .int (iI (D2 f (D (33 + j) 0))))
    (hG : ∀ c i, cOk D c i → G2 c i = G c i) (hGb : G2 j (D (33 + j) 0).toNat = jx_n w)
    (hDl : D2 (33 + j) 0 = D (33 + j) 0 + 1) (hD : ∀ f i, f ≠ 33 + j → ¬ (cFl j f ∧ i = D (33 + j) 0) → f ≠ 37 → f ≠ 38 → D2 f i = D f i)
    (hD37 : ∀ f i, f = 37 ∨ f = 38 → G2 1 (D2 f i).toNat = G 1 (D f i).toNat)
    (l0 : jx_v w2 (G 2 (j + 1)) 0 = .ref a2) (l1 : jx_v w2 (G 2 (j + 1)) 1 = .int (iI (D (33 + j) 0 + 1))) (l2 : ∃ mc, jx_v w2 (G 2 (j + 1)) 2 = .int mc)
    (hL : jx_k w2 a2 = 105 ∧ D (33 + j) 0 + 1 ≤ (jx_l w2 a2 : Int) ∧ jx_l w2 a2 ≤ 1000 ∧ E.1.heap.size ≤ a2 ∧ a2 < jx_n w2 ∧ (a2 < lo ∨ hi ≤ a2) ∧ (jx_n w ≤ a2 ∨ ∀ j2, j2 < 4 → j2 ≠ j → jx_v w (G 2 (cLk j2)) 0 ≠ .ref a2))
    (hE : ∀ i : Nat, (i : Int) < D (33 + j) 0 → jx_v w2 a2 i = .ref (G j i)) (hEn : jx_v w2 a2 (D (33 + j) 0).toNat = .ref (jx_n w)) : cR E D2 w2 G2 lo hi := by
  obtain ⟨h1, h2, h3, h4, h5, h6⟩ := h
  have hlk : cLk j = j + 1 := by rcases hj with rfl | rfl <;> rfl
  have hlc : cOk D 2 (j + 1) := .inr (.inr (.inl ⟨rfl, by rcases hj with rfl | rfl <;> decide⟩))
  have hj4 : j < 4 := by rcases hj with rfl | rfl <;> decide
  obtain ⟨a, p0, p1, p2, -, -, -, -, -⟩ := h5 j hj4
  rw [hlk] at p0
  have e33 : (j = 0 → D2 34 0 = D 34 0) ∧ (j = 1 → D2 33 0 = D 33 0) := ⟨fun z => hD 34 0 (by omega) (by omega) (by omega) (by omega), fun z => hD 33 0 (by omega) (by omega) (by omega) (by omega)⟩
  -- a cell of the new state is an old one, or the new one
  have cells : ∀ c i, cOk D2 c i → cOk D c i ∨ (c = j ∧ (i : Int) = D (33 + j) 0) := by
    intro c i hc
    rcases hj with rfl | rfl
    · have := e33.1 rfl
      have hDl : D2 33 0 = D 33 0 + 1 := hDl
      rcases hc with z | z | z | z | z
      · by_cases y : (i : Int) < D 33 0
        · exact .inl (.inl ⟨z.1, y⟩)
        · exact .inr ⟨z.1, by show (i : Int) = D 33 0; omega⟩
      · exact .inl (.inr (.inl ⟨z.1, by omega⟩))
      · exact .inl (.inr (.inr (.inl z)))
      · exact .inl (.inr (.inr (.inr (.inl z))))
      · exact .inl (.inr (.inr (.inr (.inr z))))
    · have := e33.2 rfl
      have hDl : D2 34 0 = D 34 0 + 1 := hDl
      rcases hc with z | z | z | z | z
      · exact .inl (.inl ⟨z.1, by omega⟩)
      · by_cases y : (i : Int) < D 34 0
        · exact .inl (.inr (.inl ⟨z.1, y⟩))
        · exact .inr ⟨z.1, by show (i : Int) = D 34 0; omega⟩
      · exact .inl (.inr (.inr (.inl z)))
      · exact .inl (.inr (.inr (.inr (.inl z))))
      · exact .inl (.inr (.inr (.inr (.inr z))))
  have same : ∀ c i, cOk D c i → ¬ (c = 2 ∧ i = j + 1) → jx_v w2 (G c i) = jx_v w (G c i) := by
    intro c i hc hne
    obtain ⟨q1, q2, q3, q4, q5⟩ := h1 c i hc
    refine hv _ q3 (fun z => hne (h2 _ _ _ _ hc hlc z)) (fun z => ?_)
    rw [p0] at z
    have z : a = G c i := by cases z; rfl
    rw [← z, p1] at q1
    exact (cKd_105 hc).1 q1.symm
  have newc : ∀ i : Nat, (i : Int) = D (33 + j) 0 → G2 j i = jx_n w := fun i hi => by
    rw [show i = (D (33 + j) 0).toNat by omega]
    exact hGb
  have ok2 : ∀ i, i < 14 → cOk D 2 i := fun i hi => .inr (.inr (.inl ⟨rfl, hi⟩))
  refine ⟨fun c i hc => ?_, fun c i c2 i2 hc hc2 e => ?_, fun c i s c2 i2 hp => ?_, fun f i hf => ?_, fun j2 hj2 => ?_, by omega⟩
  · rcases cells c i hc with z | ⟨z1, z2⟩
    · obtain ⟨q1, q2, q3, q4, q5⟩ := h1 c i z
      obtain ⟨r1, r2⟩ := hk _ q3
      rw [hG c i z]
      exact ⟨by rw [r1]; exact q1, q2, by omega, q4, fun z => by rw [r2]; exact q5 z⟩
    · subst z1
      rw [newc i z2]
      have ek : cKd c i = c + 3 := by rcases hj with rfl | rfl <;> rfl
      exact ⟨by rw [hkb, ek], hold, hn, .inr h6, fun z => by rw [ek] at z; omega⟩
  · rcases cells c i hc with z | ⟨z1, z2⟩
    · rcases cells c2 i2 hc2 with y | ⟨y1, y2⟩
      · rw [hG c i z, hG c2 i2 y] at e
        exact h2 c i c2 i2 z y e
      · subst y1
        rw [hG c i z, newc i2 y2] at e
        have := (h1 c i z).2.2.1
        omega
    · rcases cells c2 i2 hc2 with y | ⟨y1, y2⟩
      · subst z1
        rw [hG c2 i2 y, newc i z2] at e
        have := (h1 c2 i2 y).2.2.1
        omega
      · exact ⟨by omega, by omega⟩
  · have hci : cOk D c i := cP_ok hp
    have hci2 : cOk D c2 i2 := by
      obtain ⟨u1, u2⟩ := hp
      rcases u2 with u | u | u | u | u | u | u
      · rw [u.2.2.1]; exact ok2 _ (by omega)
      · rw [u.2.2.1]; exact ok2 _ (by omega)
      · rw [u.2.2.1]; exact ok2 _ (by omega)
      · exact .inr (.inr (.inr (.inl ⟨by omega, by omega⟩)))
      · exact .inr (.inr (.inr (.inl ⟨by omega, by omega⟩)))
      · exact .inr (.inr (.inr (.inr ⟨by omega, by omega⟩)))
      · exact .inr (.inr (.inr (.inl ⟨by omega, by omega⟩)))
    rw [hG c i hci, hG c2 i2 hci2, same c i hci (cP_no hp (by omega))]
    exact h3 c i s c2 i2 hp
  · by_cases e : f = 33 + j
    · subst e
      have ei : i = 0 := cDm_0 hf (by omega)
      subst ei
      have hl : cLoc (33 + j) 0 = (2, j + 1, 1) := by
        rcases hj with rfl | rfl <;> rfl
      rw [hl]
      show jx_v w2 (G2 2 (j + 1)) 1 = _
      rw [hG 2 (j + 1) hlc, l1, cEn_i (by omega), hDl]
    · by_cases en : cFl j f ∧ i = D (33 + j) 0
      · obtain ⟨e1, e2⟩ := en
        have hl : cLoc f i = (j, i.toNat, f - 20 * j) := by
          rcases e1 with ⟨z1, z2⟩ | ⟨z1, z2, z3⟩
          · subst z1
            unfold cLoc
            rw [if_pos z2]
            rfl
          · subst z1
            unfold cLoc
            rw [if_neg (by omega), if_pos z3]
        rw [hl]
        show jx_v w2 (G2 j i.toNat) (f - 20 * j) = _
        rw [newc _ (by omega), hvb f e1, cEn_i (by omega), e2]
      · have hf2 : cDm D f i := by
          rcases hj with rfl | rfl
          · have e34 := e33.1 rfl
            have hDl : D2 33 0 = D 33 0 + 1 := hDl
            rcases hf with z | z | z | z | z | z | z | z | z
            · by_cases y : i = D 33 0
              · exact absurd ⟨.inl ⟨rfl, z.1⟩, y⟩ en
              · exact .inl ⟨z.1, z.2.1, by omega⟩
            · exact .inr (.inl ⟨z.1, z.2.1, z.2.2.1, by omega⟩)
            · exact .inr (.inr (.inl z))
            · exact .inr (.inr (.inr (.inl z)))
            · exact .inr (.inr (.inr (.inr (.inl z))))
            · exact .inr (.inr (.inr (.inr (.inr (.inl z)))))
            · exact .inr (.inr (.inr (.inr (.inr (.inr (.inl z))))))
            · exact .inr (.inr (.inr (.inr (.inr (.inr (.inr (.inl z)))))))
            · exact .inr (.inr (.inr (.inr (.inr (.inr (.inr (.inr z)))))))
          · have e34 := e33.2 rfl
            have hDl : D2 34 0 = D 34 0 + 1 := hDl
            rcases hf with z | z | z | z | z | z | z | z | z
            · exact .inl ⟨z.1, z.2.1, by omega⟩
            · by_cases y : i = D 34 0
              · exact absurd ⟨.inr ⟨rfl, z.1, z.2.1⟩, y⟩ en
              · exact .inr (.inl ⟨z.1, z.2.1, z.2.2.1, by omega⟩)
            · exact .inr (.inr (.inl z))
            · exact .inr (.inr (.inr (.inl z)))
            · exact .inr (.inr (.inr (.inr (.inl z))))
            · exact .inr (.inr (.inr (.inr (.inr (.inl z)))))
            · exact .inr (.inr (.inr (.inr (.inr (.inr (.inl z))))))
            · exact .inr (.inr (.inr (.inr (.inr (.inr (.inr (.inl z)))))))
            · exact .inr (.inr (.inr (.inr (.inr (.inr (.inr (.inr z)))))))
        have hcell := cLoc_ok hf2
        obtain ⟨a3, b3, s3, e3, k3⟩ := cLoc_c hf2
        have hne : ¬ ((cLoc f i).1 = 2 ∧ (cLoc f i).2.1 = j + 1) := by
          rw [e3]
          show ¬ (a3 = 2 ∧ b3 = j + 1)
          rintro ⟨z1, z2⟩
          rcases k3 with k | k | ⟨k0, k | ⟨k1, k | k | k | k | k | k | k⟩ | k | k⟩ | k | k <;> omega
        rw [hG _ _ hcell, same _ _ hcell hne, hD f i e en (by have := cDm_ne hf2 (.inl rfl); omega) (by have := cDm_ne hf2 (.inr rfl); omega)]
        exact h4 f i hf2
  · by_cases e : j2 = j
    · subst e
      obtain ⟨q1, q3, q4, m1, m2, m3, m4⟩ := hL
      refine ⟨a2, by rw [hlk, hG 2 _ hlc]; exact l0, q1, by rw [hDl]; omega, by rw [hDl]; exact q3, q4, .inr ⟨by omega, m1, m2, m3, fun j3 hj3 hne => ?_⟩, by rw [hlk, hG 2 _ hlc]; exact l2, fun i hi => ?_⟩
      · have hk3 : cLk j3 < 14 ∧ cLk j3 ≠ j2 + 1 := by
          clear m3 m4 hlc
          have := cLk_c hj3
          omega
        rw [hG 2 _ (ok2 _ hk3.1), same 2 (cLk j3) (ok2 _ hk3.1) (fun z => hk3.2 z.2)]
        intro z
        obtain ⟨a4, r0, r1, _⟩ := h5 j3 hj3
        have ea : a4 = a2 := by rw [r0] at z; cases z; rfl
        rcases m4 with m4 | m4
        · have := hlt a4 (by rw [r1]; decide)
          omega
        · exact m4 j3 hj3 hne z
      · rw [hDl] at hi
        have eE : cEl G2 D2 j2 i = G2 j2 i := by unfold cEl; rcases hj with rfl | rfl <;> rfl
        rw [eE]
        by_cases y : (i : Int) = D (33 + j2) 0
        · rw [newc i y, show i = (D (33 + j2) 0).toNat by omega]
          exact hEn
        · have hok : cOk D j2 i := by
            rcases hj with rfl | rfl
            · exact .inl ⟨rfl, by have hi : (i : Int) < D 33 0 + 1 := hi; have y : ¬ (i : Int) = D 33 0 := y; omega⟩
            · exact .inr (.inl ⟨rfl, by have hi : (i : Int) < D 34 0 + 1 := hi; have y : ¬ (i : Int) = D 34 0 := y; omega⟩)
          rw [hG _ _ hok]
          exact hE i (by omega)
    · have hjk2 := cLk_c hj2
      have hk14 : ∀ x, x < 4 → cLk x < 14 ∧ (x ≠ j → cLk x ≠ j + 1) := by
        clear hL hlc e
        intro x hx
        have := cLk_c hx
        omega
      have hs := same 2 (cLk j2) (ok2 _ (hk14 j2 hj2).1) (fun z => (hk14 j2 hj2).2 e z.2)
      have hg2 : G2 2 (cLk j2) = G 2 (cLk j2) := hG 2 _ (ok2 _ (hk14 j2 hj2).1)
      obtain ⟨a3, r0, r1, r2, r3, r4, r5, ⟨mc, r6⟩, r7⟩ := h5 j2 hj2
      have ha3 := hlt a3 (by rw [r1]; decide)
      obtain ⟨s1, s2⟩ := hk a3 ha3
      have ej : D2 (33 + j2) 0 = D (33 + j2) 0 := by
        clear hL hlc hjk2
        exact hD _ 0 (by omega) (by omega) (by omega) (by omega)
      refine ⟨a3, by rw [hg2, hs]; exact r0, by rw [s1]; exact r1, by rw [ej]; exact r2, by rw [ej, s2]; exact r3, by rw [s2]; exact r4, ?_, ⟨mc, by rw [hg2, hs]; exact r6⟩, fun i hi => ?_⟩
      · rw [s2]
        rcases r5 with r5 | ⟨m0, m1, m2, m3, m4⟩
        · exact .inl r5
        · refine .inr ⟨m0, m1, by omega, m3, fun j3 hj3 hne => ?_⟩
          rw [hG 2 _ (ok2 _ (hk14 j3 hj3).1)]
          by_cases e3 : j3 = j
          · rw [e3, hlk, l0]
            intro z
            have ea : a2 = a3 := by cases z; rfl
            obtain ⟨_, _, _, _, _, _, n4⟩ := hL
            rcases n4 with n4 | n4
            · omega
            · exact n4 j2 hj2 e (by rw [ea]; exact r0)
          · rw [same 2 (cLk j3) (ok2 _ (hk14 j3 hj3).1) (fun z => (hk14 j3 hj3).2 e3 z.2)]
            exact m4 j3 hj3 hne
      · rw [ej] at hi
        have hel : cEl G2 D2 j2 i = cEl G D j2 i := by
          unfold cEl
          by_cases e2 : j2 = 0
          · rw [if_pos e2, if_pos e2]
            exact hG 0 i (.inl ⟨rfl, by rw [e2] at hi; exact hi⟩)
          · rw [if_neg e2, if_neg e2]
            by_cases e4 : j2 = 1
            · rw [if_pos e4, if_pos e4]
              exact hG 1 i (.inr (.inl ⟨rfl, by rw [e4] at hi; exact hi⟩))
            · rw [if_neg e4, if_neg e4]
              by_cases e5 : j2 = 2
              · rw [if_pos e5, if_pos e5, hD37 37 _ (.inl rfl)]
              · rw [if_neg e5, if_neg e5, hD37 38 _ (.inr rfl)]
        rw [hel]
        rcases r5 with r5 | ⟨_, _, _, _, m4⟩
        · exfalso
          rw [r5.1] at r3
          clear hL r5 hjk2 hlc hj
          omega
        · rw [hv a3 ha3 (fun z => ?_) (by have := m4 j hj4 (fun z => e z.symm); rw [hlk] at this; exact this)]
          · exact r7 i hi
          · rw [z, (h1 _ _ hlc).1] at r1
            exact (cKd_105 hlc).1 r1
