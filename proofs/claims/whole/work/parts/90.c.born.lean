/-! 90.c.born: a new object is added to the persons or the tasks -/
/-- nothing below the next address has changed -/
theorem cR.up {E : jx_E} {D : mS} {w w2 : jx_W} {G : Nat → Nat → Nat} {lo hi : Nat} (h : cR E D w G lo hi) (hlt : ∀ a, jx_k w a ≠ 0 → a < jx_n w) (hn : jx_n w ≤ jx_n w2) (hk : ∀ b, b < jx_n w → jx_k w2 b = jx_k w b ∧ jx_l w2 b = jx_l w b ∧ jx_v w2 b = jx_v w b) : cR E D w2 G lo hi := by
  obtain ⟨h1, h2, h3, h4, h5, h6⟩ := h
  have sv : ∀ c i, cOk D c i → jx_v w2 (G c i) = jx_v w (G c i) := fun c i hc => (hk _ (h1 c i hc).2.2.1).2.2
  have ok2 : ∀ i, i < 14 → cOk D 2 i := fun i hi => .inr (.inr (.inl ⟨rfl, hi⟩))
  have hk14 : ∀ x, x < 4 → cLk x < 14 := by
    intro x hx
    have := cLk_c hx
    omega
  refine ⟨fun c i hc => ?_, h2, fun c i s c2 i2 hp => ?_, fun f i hf => ?_, fun j hj => ?_, by omega⟩
  · obtain ⟨a1, a2, a3, a4, a5⟩ := h1 c i hc
    obtain ⟨r1, r2, r3⟩ := hk _ a3
    exact ⟨by rw [r1]; exact a1, a2, by omega, a4, fun z => by rw [r2]; exact a5 z⟩
  · rw [sv c i (cP_ok hp)]
    exact h3 c i s c2 i2 hp
  · rw [sv _ _ (cLoc_ok hf)]
    exact h4 f i hf
  · obtain ⟨a, l0, l1, l2, l3, l4, l5, ⟨mc, l6⟩, l7⟩ := h5 j hj
    have ha := hlt a (by rw [l1]; decide)
    obtain ⟨r1, r2, r3⟩ := hk _ ha
    have es := sv 2 (cLk j) (ok2 _ (hk14 j hj))
    refine ⟨a, by rw [es]; exact l0, by rw [r1]; exact l1, l2, by rw [r2]; exact l3, by rw [r2]; exact l4, ?_, ⟨mc, by rw [es]; exact l6⟩, fun i hi => by rw [r3]; exact l7 i hi⟩
    rw [r2]
    rcases l5 with z | ⟨z0, z1, z2, z3, z4⟩
    · exact .inl z
    · exact .inr ⟨z0, z1, by omega, z3, fun j2 hj2 hne => by rw [sv 2 (cLk j2) (ok2 _ (hk14 j2 hj2))]; exact z4 j2 hj2 hne⟩
/-- the state with one more; places of the other lists behind it move on -/
def growD (D : mS) (j : Nat) (pv : Nat → Int) : mS := fun f i => if f = 33 + j then (if i = 0 then D (33 + j) 0 + 1 else D f i) else if cFl j f ∧ i = D (33 + j) 0 then pv f else if (f = 37 ∨ f = 38) ∧ j = 1 then (if (D f i).toNat < (D (33 + j) 0).toNat then D f i else (((D f i).toNat + 1 : Nat) : Int)) else D f i
def growG (G : Nat → Nat → Nat) (j n b : Nat) : Nat → Nat → Nat := fun c k => if c = j then (if k < n then G c k else if k = n then b else G c (k - 1)) else G c k
theorem growD_n {D : mS} {j : Nat} {pv : Nat → Int} : growD D j pv (33 + j) 0 = D (33 + j) 0 + 1 := by
  unfold growD
  rw [if_pos rfl, if_pos rfl]
theorem growD_v {D : mS} {j f : Nat} {pv : Nat → Int} (hj : j = 0 ∨ j = 1) (h : cFl j f) : growD D j pv f (D (33 + j) 0) = pv f := by
  unfold growD
  rw [if_neg (by omega), if_pos ⟨h, rfl⟩]
theorem growD_o {D : mS} {j f : Nat} {i : Int} {pv : Nat → Int} (h1 : f ≠ 33 + j) (h2 : ¬ (cFl j f ∧ i = D (33 + j) 0)) (h3 : j = 0 ∨ (f ≠ 37 ∧ f ≠ 38)) : growD D j pv f i = D f i := by
  unfold growD
  rw [if_neg h1, if_neg h2, if_neg (by omega)]
theorem growD_37 {D : mS} {G : Nat → Nat → Nat} {j f b : Nat} {i : Int} {pv : Nat → Int} (hj : j = 0 ∨ j = 1) (hf : f = 37 ∨ f = 38) : growG G j (D (33 + j) 0).toNat b 1 (growD D j pv f i).toNat = G 1 (D f i).toNat := by
  have hnf : ¬ (cFl j f ∧ i = D (33 + j) 0) := by
    rintro ⟨z, -⟩
    rcases z with z | z <;> omega
  unfold growD growG
  rw [if_neg (show ¬ f = 33 + j by omega), if_neg hnf]
  rcases hj with rfl | rfl
  · rw [if_neg (by omega), if_neg (by omega)]
  · rw [if_pos (show (1 : Nat) = 1 from rfl), if_pos (show (f = 37 ∨ f = 38) ∧ 1 = 1 from ⟨hf, rfl⟩)]
    by_cases z : (D f i).toNat < (D (33 + 1) 0).toNat
    · rw [if_pos z, if_pos z]
    · rw [if_neg z, Int.toNat_natCast, if_neg (by omega), if_neg (by omega), Nat.add_sub_cancel]
theorem growG_o {D : mS} {G : Nat → Nat → Nat} {j b c i : Nat} (hj : j = 0 ∨ j = 1) (h : cOk D c i) : growG G j (D (33 + j) 0).toNat b c i = G c i := by
  unfold growG
  by_cases e : c = j
  · rw [if_pos e, if_pos]
    rcases hj with rfl | rfl
    · have : (i : Int) < D 33 0 := by rcases h with z | z | z | z | z <;> omega
      show i < (D 33 0).toNat
      omega
    · have : (i : Int) < D 34 0 := by rcases h with z | z | z | z | z <;> omega
      show i < (D 34 0).toNat
      omega
  · rw [if_neg e]
/-- what stands behind add of a new object -/
abbrev brnQ (E : jx_E) (D : mS) (G : Nat → Nat → Nat) (lo hi : Nat) (w : jx_W) (j : Nat) (pv : Nat → Int) : jx_R → jx_W → Prop := fun r w3 => r = .inr (some (.int (iI 1))) ∧ cR E (growD D j pv) w3 (growG G j (D (33 + j) 0).toNat (jx_n w)) lo hi ∧ cF lo hi 2 w w3 ∧ jx_v w3 (jx_n w) 0 = .int (iI (pv (20 * j))) ∧ jx_k w3 (jx_n w) = j + 3
theorem w_addB {E : jx_E} {l : Launch} {d : Nat} {w w2 : jx_W} {D : mS} {G : Nat → Nat → Nat} {lo hi j mi : Nat} {pv : Nat → Int} {q : vw_C} (hB : jx_B E) (hB2 : jx_B2 E mi) (hC : cR E D w G lo hi) (hj : j = 0 ∨ j = 1) (hlt : ∀ a, jx_k w a ≠ 0 → a < jx_n w) (hn : D (33 + j) 0 ≤ 50) (hold : E.1.heap.size ≤ jx_n w)
    (n2 : jx_n w2 = jx_n w + 1) (hc2 : jx_c w ≤ jx_c w2 + 1) (hs2 : jx_s w ≤ jx_s w2 + 14) (hW : 50 ≤ jx_c w + 10 ∧ 5000 ≤ jx_s w + 1000)
    (hk : ∀ x, x ≠ jx_n w → jx_k w2 x = jx_k w x ∧ jx_l w2 x = jx_l w x ∧ jx_v w2 x = jx_v w x) (hkb : jx_k w2 (jx_n w) = j + 3) (hvb : ∀ f, cFl j f → jx_v w2 (jx_n w) (f - 20 * j) = .int (iI (pv f)))
    (hq0 : E.2.2[j + 2]? = some q) (hcast : (Jvm.Cond.castable q.1 "java/lang/Object").before #[] E.1 = true) :
    jx_G E l Y_A_add (d + 6) (brnQ E D G lo hi w j pv) 0 (jx_ent [.ref (G 2 (j + 1)), .ref (jx_n w)] 2) [] w2 := by
  have hj4 : j < 4 := by rcases hj with rfl | rfl <;> decide
  have hlk : cLk j = j + 1 := by rcases hj with rfl | rfl <;> rfl
  have hlc : cOk D 2 (j + 1) := .inr (.inr (.inl ⟨rfl, by rcases hj with rfl | rfl <;> decide⟩))
  obtain ⟨q1, q2, q3, q4, q5⟩ := hC.1 2 (j + 1) hlc
  have hli := hC.li j hj4
  rw [hlk] at hli
  obtain ⟨a, p0, p1, p2, p3, p4, p5, ⟨mc, p6⟩, p7⟩ := hC.2.2.2.2.1 j hj4
  rw [hlk] at p0 p6
  have hpa := hlt a (by rw [p1]; decide)
  have hab : a ≠ G 2 (j + 1) := fun z => by
    rw [z, q1] at p1
    exact (cKd_105 hlc).1 p1
  clear hlc
  have hsz : jx_v w (G 2 (j + 1)) 1 = .int (iI (D (33 + j) 0)) := by
    have := hli.2.1
    rw [iI_nat, Int.toNat_of_nonneg p2] at this
    exact this
  have hlb : G 2 (j + 1) ≠ jx_n w := by omega
  have han : a ≠ jx_n w := by omega
  obtain ⟨kb1, kb2, kb3⟩ := hk _ hlb
  obtain ⟨ka1, ka2, ka3⟩ := hk _ han
  have hcE : ∀ i : Nat, cEl G D j i = G j i := by
    intro i
    unfold cEl
    rcases hj with rfl | rfl <;> rfl
  have hls : lsA E w2 (G 2 (j + 1)) a (D (33 + j) 0) := ⟨by rw [kb1]; exact hli.1, q2, by omega, by rw [kb3]; exact p0, by rw [kb3]; exact hsz, ⟨mc, by rw [kb3]; exact p6⟩, by rw [ka1]; exact p1, by omega, ⟨p2, by omega⟩, by rw [ka2]; exact p3, by rw [ka2]; exact p4, by omega, fun i hi => by
    have hok : cOk D j i := by
      rcases hj with rfl | rfl
      · exact .inl ⟨rfl, hi⟩
      · exact .inr (.inl ⟨rfl, hi⟩)
    obtain ⟨u1, u2, u3, u4, -⟩ := hC.1 j i hok
    have ek : cKd j i = j + 3 := by rcases hj with rfl | rfl <;> rfl
    rw [ka3, p7 i hi, hcE]
    refine .inr ⟨_, j + 2, q, rfl, by omega, by omega, hq0, ?_, hcast⟩
    rw [(hk _ (by omega)).1, u1, ek]⟩
  have hjz : (jx_l w2 a : Int) = D (33 + j) 0 → D (33 + j) 0 = 0 → jZ E a := fun e1 e2 => by
    rw [ka2] at e1
    rcases p5 with p5 | p5
    · exact p5.2
    · exact absurd (by omega) p5.1
  have hoa : (jx_l w2 a : Int) ≠ D (33 + j) 0 → E.1.heap.size ≤ a := fun hne => by
    rw [ka2] at hne
    rcases p5 with p5 | p5
    · omega
    · exact p5.2.1
  refine jx_weak (w_A_add hB hB2 hls (mc := mc) (by rw [kb3]; exact p6) hab hjz hoa (show j + 2 < 99 by omega) hq0 (e := jx_n w) (by rw [hkb]) (by omega) hcast (by omega) (by omega)) (fun r w3 hh => ?_)
  obtain ⟨e1, e2⟩ := hh
  subst e2
  obtain ⟨wp, hwp⟩ : ∃ zz, zz = jx_put w2 (G 2 (j + 1)) 2 (.int (mc + iI 1)) := ⟨_, rfl⟩
  have np : jx_n wp = jx_n w + 1 := by rw [hwp]; exact n2
  have cp : jx_c wp = jx_c w2 := by rw [hwp]; rfl
  have sp : jx_s wp = jx_s w2 := by rw [hwp]; rfl
  have kp : ∀ x, jx_k wp x = jx_k w2 x ∧ jx_l wp x = jx_l w2 x := fun x => by rw [hwp]; exact ⟨rfl, rfl⟩
  have vp : ∀ x, x ≠ G 2 (j + 1) → jx_v wp x = jx_v w2 x := fun x hx => by rw [hwp]; funext y; exact if_neg (fun z => hx z.1)
  have vb : ∀ y, y ≠ 2 → jx_v wp (G 2 (j + 1)) y = jx_v w2 (G 2 (j + 1)) y := fun y hy => by rw [hwp]; exact if_neg (fun z => hy z.2)
  have vb2 : jx_v wp (G 2 (j + 1)) 2 = .int (mc + iI 1) := by rw [hwp]; exact if_pos ⟨rfl, rfl⟩
  rw [← hwp]
  clear hwp
  obtain ⟨A, s1, s2, s3, s4, s5, s6, s7, s8, s9, s10, s11, s12, s13, s14, s15⟩ := ad_spec (w := wp) (b := G 2 (j + 1)) (a := a) (e := jx_n w) (n := D (33 + j) 0) hab (by omega) (by omega) ⟨p2, by omega⟩ (by rw [(kp a).2, ka2]; exact ⟨p3, p4⟩) (by rw [(kp a).1, ka1]; exact p1) (by rw [vb 0 (by decide), kb3]; exact p0) (by omega) (by omega)
  generalize jx_ad wp (G 2 (j + 1)) a (D (33 + j) 0) (jx_n w) = W at *
  have hhi := hC.2.2.2.2.2
  -- the array
  have hA : (jx_n w < A) ∨ (A = a ∧ jx_l w a ≠ 0 ∧ E.1.heap.size ≤ a ∧ (a < lo ∨ hi ≤ a) ∧ ∀ j2, j2 < 4 → j2 ≠ j → jx_v w (G 2 (cLk j2)) 0 ≠ .ref a) := by
    rcases s15 with z | ⟨z1, z2⟩
    · exact .inl (by omega)
    · rw [(kp a).2, ka2] at z2
      rcases p5 with p5 | p5
      · exfalso
        omega
      · exact .inr ⟨z1, p5.1, p5.2.1, p5.2.2.2.1, p5.2.2.2.2⟩
  have hAn : A ≠ jx_n w := by
    rcases hA with z | z
    · omega
    · rw [z.1]; exact han
  have vW : ∀ x, x ≠ G 2 (j + 1) → x ≠ A → x ≠ jx_n w → jx_v W x = jx_v w x := fun x h1 h2 h3 => by rw [s3 x h1 h2, vp x h1, (hk x h3).2.2]
  have kW : ∀ x, x < jx_n w → jx_k W x = jx_k w x ∧ jx_l W x = jx_l w x := fun x hx => by
    obtain ⟨u1, u2⟩ := s2 x (by omega)
    obtain ⟨u3, u4, -⟩ := hk x (by omega)
    exact ⟨by rw [u1, (kp x).1, u3], by rw [u2, (kp x).2, u4]⟩
  have vO : jx_v W (jx_n w) = jx_v w2 (jx_n w) := by rw [s3 _ (fun z => hlb z.symm) (fun z => hAn z.symm), vp _ (fun z => hlb z.symm)]
  have kO : jx_k W (jx_n w) = j + 3 := by rw [(s2 _ (by omega)).1, (kp _).1, hkb]
  refine ⟨e1, ?_, ?_, ?_, kO⟩
  · refine cR.grow (a2 := A) hC hj hlt hold (by omega) kW (fun b hb hb1 hb2 => vW b hb1 (fun z => ?_) (by omega)) kO (fun f hf => by rw [vO, hvb f hf, growD_v hj hf]) (fun c i hc => growG_o hj hc) ?_ growD_n (fun f i h1 h2 h3 h4 => growD_o h1 h2 (.inr ⟨h3, h4⟩)) (fun f i hf => growD_37 hj hf) s4 s5 ⟨_, by rw [s6]; exact vb2⟩ ⟨s7, s8, s9, ?_, s14, ?_, ?_⟩ (fun i hi => ?_) s11
    · rcases hA with y | y
      · omega
      · exact hb2 (by rw [z, y.1]; exact p0)
    · unfold growG
      rw [if_pos rfl, if_neg (by omega), if_pos rfl]
    · rcases hA with y | y
      · omega
      · rw [y.1]; exact y.2.2.1
    · rcases hA with y | y
      · exact .inr (by omega)
      · rw [y.1]; exact y.2.2.2.1
    · rcases hA with y | y
      · exact .inl (by omega)
      · exact .inr (by rw [y.1]; exact y.2.2.2.2)
    · rw [s10 i hi, vp a hab, ka3, p7 i hi, hcE]
  · refine ⟨by omega, by omega, by omega, fun b hb => ?_⟩
    obtain ⟨u1, u2⟩ := kW b (by omega)
    refine ⟨vW b ?_ ?_ (by omega), u1, u2⟩
    · omega
    · rcases hA with y | y
      · omega
      · rw [y.1]
        have := y.2.2.2.1
        omega
  · rw [vO]
    have := hvb (20 * j) (by rcases hj with rfl | rfl; exact .inl ⟨rfl, by decide⟩; exact .inr ⟨rfl, by decide, by decide⟩)
    rw [Nat.sub_self] at this
    exact this
