/-! 72.crows: rows for the class's walks -/
theorem jx_c0 {E : jx_E} (hB : jx_B E) : E.2.2[0]? = some jx_q0 := by rw [hB.1]; rfl
theorem jx_c1 {E : jx_E} (hB : jx_B E) : E.2.2[1]? = some jx_q1 := by rw [hB.1]; rfl
theorem jx_c2 {E : jx_E} (hB : jx_B E) : E.2.2[2]? = some jx_q2 := by rw [hB.1]; rfl
theorem jx_c3 {E : jx_E} (hB : jx_B E) : E.2.2[3]? = some jx_q3 := by rw [hB.1]; rfl
theorem jx_c4 {E : jx_E} (hB : jx_B E) : E.2.2[4]? = some jx_q4 := by rw [hB.1]; rfl
theorem cR.kd {E : jx_E} {D : mS} {w : jx_W} {G : Nat → Nat → Nat} {lo hi c i : Nat} (h : cR E D w G lo hi) (hc : cOk D c i) : jx_k w (G c i) = cKd c i := (h.1 c i hc).1
theorem cR.old {E : jx_E} {D : mS} {w : jx_W} {G : Nat → Nat → Nat} {lo hi c i : Nat} (h : cR E D w G lo hi) (hc : cOk D c i) : E.1.heap.size ≤ G c i := (h.1 c i hc).2.1
theorem cR.away {E : jx_E} {D : mS} {w : jx_W} {G : Nat → Nat → Nat} {lo hi c i : Nat} (h : cR E D w G lo hi) (hc : cOk D c i) : G c i < lo ∨ hi ≤ G c i := (h.1 c i hc).2.2.2.1
theorem cR.len {E : jx_E} {D : mS} {w : jx_W} {G : Nat → Nat → Nat} {lo hi c i : Nat} (h : cR E D w G lo hi) (hc : cOk D c i) (hk : 100 ≤ cKd c i) : jx_l w (G c i) = cLn c i := (h.1 c i hc).2.2.2.2 hk
theorem cR.fld {E : jx_E} {D : mS} {w : jx_W} {G : Nat → Nat → Nat} {lo hi f : Nat} {i : Int} (h : cR E D w G lo hi) (hd : cDm D f i) {c x s : Nat} (hl : cLoc f i = (c, x, s)) : jx_v w (G c x) s = cEn f (D f i) := by
  have := h.2.2.2.1 f i hd
  rw [hl] at this
  exact this
theorem cR.ptr {E : jx_E} {D : mS} {w : jx_W} {G : Nat → Nat → Nat} {lo hi c i s c2 i2 : Nat} (h : cR E D w G lo hi) (hp : cP c i s c2 i2) : jx_v w (G c i) s = .ref (G c2 i2) := h.2.2.1 c i s c2 i2 hp
theorem cEn_i {f : Nat} (h : f ≠ 44) (v : Int) : cEn f v = .int (iI v) := if_neg h
theorem cEn_l (v : Int) : cEn 44 v = .long (lI v) := if_pos rfl
theorem cLoc_P0 {k : Nat} (h : k < 14) (i : Int) : cLoc k i = (0, i.toNat, k) := by unfold cLoc; rw [if_pos h]
theorem cLoc_K {k : Nat} (h : k < 8) (i : Int) : cLoc (20 + k) i = (1, i.toNat, k) := by
  unfold cLoc
  rw [if_neg (by omega), if_pos (by omega), show 20 + k - 20 = k by omega]
theorem cR.li {E : jx_E} {D : mS} {w : jx_W} {G : Nat → Nat → Nat} {lo hi : Nat} (h : cR E D w G lo hi) (j : Nat) (hj : j < 4) : jx_Li w (G 2 (cLk j)) (D (33 + j) 0).toNat (cEl G D j) := by
  obtain ⟨a, l0, l1, l2, l3, l4, l5, l6, l7⟩ := h.2.2.2.2.1 j hj
  have hk : cLk j < 14 ∧ (cLk j = 1 ∨ cLk j = 2 ∨ cLk j = 3 ∨ cLk j = 7) := by unfold cLk; split <;> omega
  have hok : cOk D 2 (cLk j) := by omega
  refine ⟨?_, ?_, l6, a, jx_l w a, l0, l1, rfl, by omega, l4, fun i hi => l7 i (by omega)⟩
  · rw [h.kd hok]
    have : cLk j = 1 ∨ cLk j = 2 ∨ cLk j = 3 ∨ cLk j = 7 := hk.2
    rcases this with e | e | e | e <;> rw [e] <;> rfl
  · have hd : cDm D (33 + j) 0 := by omega
    have hl : cLoc (33 + j) 0 = (2, cLk j, 1) := by
      have : j = 0 ∨ j = 1 ∨ j = 2 ∨ j = 3 := by omega
      rcases this with rfl | rfl | rfl | rfl <;> rfl
    rw [h.fld hd hl, cEn_i (by omega), iI_nat, Int.toNat_of_nonneg l2]
theorem cR.size {E : jx_E} {D : mS} {w : jx_W} {G : Nat → Nat → Nat} {lo hi : Nat} (h : cR E D w G lo hi) (j : Nat) (hj : j < 4) : 0 ≤ D (33 + j) 0 ∧ D (33 + j) 0 ≤ 1000 := by
  obtain ⟨a, l0, l1, l2, l3, l4, l5, l6, l7⟩ := h.2.2.2.2.1 j hj
  omega
theorem cR.skip {E : jx_E} {D : mS} {w : jx_W} {G : Nat → Nat → Nat} {lo hi n : Nat} (h : cR E D w G lo hi) : cR E D (jx_skip w n) G lo hi := by
  obtain ⟨h1, h2, h3, h4, h5, h6⟩ := h
  refine ⟨fun c i hc => ?_, h2, h3, h4, fun j hj => ?_, Nat.le_succ_of_le h6⟩
  · obtain ⟨a1, a2, a3, a4, a5⟩ := h1 c i hc
    exact ⟨a1, a2, Nat.lt_succ_of_lt a3, a4, a5⟩
  · obtain ⟨a, l0, l1, l2, l3, l4, l5, l6, l7⟩ := h5 j hj
    refine ⟨a, l0, l1, l2, l3, l4, ?_, l6, l7⟩
    rcases l5 with z | ⟨z0, z1, z2, z3⟩
    · exact .inl z
    · exact .inr ⟨z0, z1, Nat.lt_succ_of_lt z2, z3⟩
theorem cF_skip {lo hi n : Nat} {w : jx_W} (hn : n ≤ 100) : cF lo hi 1 w (jx_skip w n) := by
  refine ⟨?_, ?_, Nat.le_succ _, fun b _ => ⟨rfl, rfl, rfl⟩⟩
  · show jx_c w ≤ jx_c w - 1 + 1
    omega
  · show jx_s w ≤ jx_s w - n + 100 * 1
    omega
/-- what a method of the class answers, with the state D behind it; a: the room that it took -/
def cpo (E : jx_E) (G : Nat → Nat → Nat) (lo hi : Nat) (w : jx_W) (a : Nat) (v : Option Value) (D : mS) : jx_R → jx_W → Prop := fun r w' => r = .inr v ∧ cR E D w' G lo hi ∧ cF lo hi a w w'
theorem iI_max (x y : Int) (hx : iR x) (hy : iR y) : (if iI x < iI y then iI y else iI x) = iI (sGr x y) := by
  unfold sGr
  by_cases h : x < y
  · rw [if_pos ((iI_lt hx hy).mpr h), if_neg (by omega)]
  · rw [if_neg (fun z => h ((iI_lt hx hy).mp z))]
    by_cases h2 : y < x
    · rw [if_pos h2]
    · rw [if_neg h2, show x = y by omega]
theorem iI_min (x y : Int) (hx : iR x) (hy : iR y) : (if iI y < iI x then iI y else iI x) = iI (if y < x then y else x) := by
  by_cases h : y < x
  · rw [if_pos ((iI_lt hy hx).mpr h), if_pos h]
  · rw [if_neg (fun z => h ((iI_lt hy hx).mp z)), if_neg h]
theorem jr_b (h : Prop) [Decidable h] {x : Int} (e : x = if h then 1 else 0) : x = 0 ∨ x = 1 := by rw [e]; split <;> omega
section CX
variable {E : jx_E} {l : Launch} {Y : jx_Y} {d : Nat} {Q : jx_R → jx_W → Prop} {pc : Nat} {L : List (Option Value)} {st : List Value} {w : jx_W} {D : mS} {G : Nat → Nat → Nat} {lo hi : Nat}
theorem cx_get {idx ci k f c x : Nat} {i : Int} (hd : decode Y.2.2.1 pc = .ok (.getfield idx, 3)) (hF : jx_F E Y.1 idx ci k) (hC : cR E D w G lo hi) (hm : cDm D f i) (hl : cLoc f i = (c, x, k)) (hk : cKd c x = ci + 1) (hf : f ≠ 44) (K : jx_G E l Y d Q (pc + 3) L (.int (iI (D f i)) :: st) w) : jx_G E l Y d Q pc L (.ref (G c x) :: st) w := by
  have ho := cLoc_ok hm
  rw [hl] at ho
  exact jx_getv hd hF (by rw [hC.kd ho, hk]) (by rw [hC.fld hm hl, cEn_i hf]) K
theorem cKd_0 (i : Nat) : cKd 0 i = 3 := rfl
theorem cKd_1 (i : Nat) : cKd 1 i = 4 := rfl
theorem cx_P {idx : Nat} {i : Int} (k : Nat) (hd : decode Y.2.2.1 pc = .ok (.getfield idx, 3)) (hF : jx_F E Y.1 idx 2 k) (hC : cR E D w G lo hi) (hk : k < 14) (hi : 0 ≤ i ∧ i < D 33 0) (K : jx_G E l Y d Q (pc + 3) L (.int (iI (D k i)) :: st) w) : jx_G E l Y d Q pc L (.ref (G 0 i.toNat) :: st) w :=
  cx_get hd hF hC (.inl ⟨hk, hi.1, hi.2⟩) (cLoc_P0 hk i) (cKd_0 _) (by omega) K
theorem cx_K {idx : Nat} {i : Int} (k : Nat) {f : Nat} (hf : f = 20 + k) (hd : decode Y.2.2.1 pc = .ok (.getfield idx, 3)) (hF : jx_F E Y.1 idx 3 k) (hC : cR E D w G lo hi) (hk : k < 8) (hi : 0 ≤ i ∧ i < D 34 0) (K : jx_G E l Y d Q (pc + 3) L (.int (iI (D f i)) :: st) w) : jx_G E l Y d Q pc L (.ref (G 1 i.toNat) :: st) w := by
  subst hf
  exact cx_get hd hF hC (.inr (.inl ⟨by omega, by omega, hi.1, hi.2⟩)) (cLoc_K hk i) (cKd_1 _) (by omega) K
theorem cx_now {idx : Nat} (hd : decode Y.2.2.1 pc = .ok (.getfield idx, 3)) (hF : jx_F E Y.1 idx 0 5) (hC : cR E D w G lo hi) (K : jx_G E l Y d Q (pc + 3) L (.int (iI (D 31 0)) :: st) w) : jx_G E l Y d Q pc L (.ref (G 2 0) :: st) w :=
  cx_get (f := 31) (i := 0) hd hF hC (by omega) rfl rfl (by decide) K
theorem cx_last {idx : Nat} (hd : decode Y.2.2.1 pc = .ok (.getfield idx, 3)) (hF : jx_F E Y.1 idx 0 6) (hC : cR E D w G lo hi) (K : jx_G E l Y d Q (pc + 3) L (.int (iI (D 32 0)) :: st) w) : jx_G E l Y d Q pc L (.ref (G 2 0) :: st) w :=
  cx_get (f := 32) (i := 0) hd hF hC (by omega) rfl rfl (by decide) K
theorem cx_sets {idx : Nat} (hd : decode Y.2.2.1 pc = .ok (.getfield idx, 3)) (hF : jx_F E Y.1 idx 1 7) (hC : cR E D w G lo hi) (K : jx_G E l Y d Q (pc + 3) L (.int (iI (D 46 0)) :: st) w) : jx_G E l Y d Q pc L (.ref (G 2 5) :: st) w :=
  cx_get (f := 46) (i := 0) hd hF hC (by omega) rfl rfl (by decide) K
theorem cx_ptr {idx ci k c x c2 x2 : Nat} (hd : decode Y.2.2.1 pc = .ok (.getfield idx, 3)) (hF : jx_F E Y.1 idx ci k) (hC : cR E D w G lo hi) (hp : cP c x k c2 x2) (ho : c = 2 ∧ x < 14) (hk : cKd c x = ci + 1) (K : jx_G E l Y d Q (pc + 3) L (.ref (G c2 x2) :: st) w) : jx_G E l Y d Q pc L (.ref (G c x) :: st) w :=
  jx_getv hd hF (by rw [hC.kd (by omega), hk]) (hC.ptr hp) K
theorem cx_put {idx ci k f c x : Nat} {i v : Int} {ty : FieldType} (hd : decode Y.2.2.1 pc = .ok (.putfield idx, 3)) (hF : jx_F E Y.1 idx ci k) (hT : jx_Ft E ci k ty false) (hC : cR E D w G lo hi) (hm : cDm D f i) (hf : (f < 33 ∨ 36 < f) ∧ f ≠ 44) (hl : cLoc f i = (c, x, k)) (hk : cKd c x = ci + 1) (hn : narrow ty (.int (iI v)) = .int (iI v)) (hfit : fits ty (.int (iI v)) = true) (K : ∀ w', cR E (sU D f i v) w' G lo hi → cF lo hi 0 w w' → jx_G E l Y d Q (pc + 3) L st w') : jx_G E l Y d Q pc L (.int (iI v) :: .ref (G c x) :: st) w := by
  have ho := cLoc_ok hm
  rw [hl] at ho
  refine jx_putf hd hF hT (by rw [hC.kd ho, hk]) (hC.old ho) hn hfit (K _ ?_ (cF_put (hC.away ho)))
  have := hC.put (v := v) hm hf.1
  rw [hl, cEn_i hf.2] at this
  exact this
theorem cx_pP {idx : Nat} {i v : Int} (k : Nat) (hd : decode Y.2.2.1 pc = .ok (.putfield idx, 3)) (hF : jx_F E Y.1 idx 2 k) (hT : jx_Ft E 2 k .int false) (hC : cR E D w G lo hi) (hk : k < 14) (hii : 0 ≤ i ∧ i < D 33 0) (K : ∀ w', cR E (sU D k i v) w' G lo hi → cF lo hi 0 w w' → jx_G E l Y d Q (pc + 3) L st w') : jx_G E l Y d Q pc L (.int (iI v) :: .ref (G 0 i.toNat) :: st) w :=
  cx_put hd hF hT hC (.inl ⟨hk, hii.1, hii.2⟩) (by omega) (cLoc_P0 hk i) (cKd_0 _) rfl rfl K
theorem cx_pZ {idx : Nat} {i v : Int} (hd : decode Y.2.2.1 pc = .ok (.putfield idx, 3)) (hF : jx_F E Y.1 idx 2 7) (hT : jx_Ft E 2 7 .boolean false) (hC : cR E D w G lo hi) (hii : 0 ≤ i ∧ i < D 33 0) (hv : v = 0 ∨ v = 1) (K : ∀ w', cR E (sU D 7 i v) w' G lo hi → cF lo hi 0 w w' → jx_G E l Y d Q (pc + 3) L st w') : jx_G E l Y d Q pc L (.int (iI v) :: .ref (G 0 i.toNat) :: st) w :=
  cx_put hd hF hT hC (.inl ⟨by decide, hii.1, hii.2⟩) (by omega) (cLoc_P0 (by decide) i) (cKd_0 _) (jI_bool hv) (by rcases hv with rfl | rfl <;> rfl) K
theorem cx_pK {idx : Nat} {i v : Int} (k : Nat) {f : Nat} (hf : f = 20 + k) (hd : decode Y.2.2.1 pc = .ok (.putfield idx, 3)) (hF : jx_F E Y.1 idx 3 k) (hT : jx_Ft E 3 k .int false) (hC : cR E D w G lo hi) (hk : k < 8) (hii : 0 ≤ i ∧ i < D 34 0) (K : ∀ w', cR E (sU D f i v) w' G lo hi → cF lo hi 0 w w' → jx_G E l Y d Q (pc + 3) L st w') : jx_G E l Y d Q pc L (.int (iI v) :: .ref (G 1 i.toNat) :: st) w := by
  subst hf
  exact cx_put hd hF hT hC (.inr (.inl ⟨by omega, by omega, hii.1, hii.2⟩)) (by omega) (cLoc_K hk i) (cKd_1 _) rfl rfl K
theorem cx_pnow {idx : Nat} {v : Int} (hd : decode Y.2.2.1 pc = .ok (.putfield idx, 3)) (hF : jx_F E Y.1 idx 0 5) (hT : jx_Ft E 0 5 .int false) (hC : cR E D w G lo hi) (K : ∀ w', cR E (sU D 31 0 v) w' G lo hi → cF lo hi 0 w w' → jx_G E l Y d Q (pc + 3) L st w') : jx_G E l Y d Q pc L (.int (iI v) :: .ref (G 2 0) :: st) w :=
  cx_put (f := 31) (i := 0) hd hF hT hC (by omega) (by omega) rfl rfl rfl rfl K
theorem cx_plast {idx : Nat} {v : Int} (hd : decode Y.2.2.1 pc = .ok (.putfield idx, 3)) (hF : jx_F E Y.1 idx 0 6) (hT : jx_Ft E 0 6 .boolean false) (hC : cR E D w G lo hi) (hv : v = 0 ∨ v = 1) (K : ∀ w', cR E (sU D 32 0 v) w' G lo hi → cF lo hi 0 w w' → jx_G E l Y d Q (pc + 3) L st w') : jx_G E l Y d Q pc L (.int (iI v) :: .ref (G 2 0) :: st) w :=
  cx_put (f := 32) (i := 0) hd hF hT hC (by omega) (by omega) rfl rfl (jI_bool hv) (by rcases hv with rfl | rfl <;> rfl) K
theorem cx_psets {idx : Nat} {v : Int} (hd : decode Y.2.2.1 pc = .ok (.putfield idx, 3)) (hF : jx_F E Y.1 idx 1 7) (hT : jx_Ft E 1 7 .int false) (hC : cR E D w G lo hi) (K : ∀ w', cR E (sU D 46 0 v) w' G lo hi → cF lo hi 0 w w' → jx_G E l Y d Q (pc + 3) L st w') : jx_G E l Y d Q pc L (.int (iI v) :: .ref (G 2 5) :: st) w :=
  cx_put (f := 46) (i := 0) hd hF hT hC (by omega) (by omega) rfl rfl rfl rfl K
/-! arrays -/
theorem cx_ld {f c x n : Nat} {i j : Int} (hd : decode Y.2.2.1 pc = .ok (.iaload, 1)) (hC : cR E D w G lo hi) (hm : cDm D f i) (hf : f ≠ 44) (hl : cLoc f i = (c, x, j.toNat)) (hk : cKd c x = 100) (hn : cLn c x = n) (hb : n ≤ 100000) (hj : 0 ≤ j ∧ j < n) (K : jx_G E l Y d Q (pc + 1) L (.int (iI (D f i)) :: st) w) : jx_G E l Y d Q pc L (.int (iI j) :: .ref (G c x) :: st) w := by
  have ho := cLoc_ok hm
  rw [hl] at ho
  exact jI_iald hd (by rw [hC.kd ho, hk]) (by rw [hC.len ho (by rw [hk]; decide), hn]) hb hj (by rw [hC.fld hm hl, cEn_i hf]) K
theorem cx_st {f c x n : Nat} {i j v : Int} (hd : decode Y.2.2.1 pc = .ok (.iastore, 1)) (hC : cR E D w G lo hi) (hm : cDm D f i) (hf : (f < 33 ∨ 36 < f) ∧ f ≠ 44) (hl : cLoc f i = (c, x, j.toNat)) (hk : cKd c x = 100) (hn : cLn c x = n) (hb : n ≤ 100000) (hj : 0 ≤ j ∧ j < n) (K : ∀ w', cR E (sU D f i v) w' G lo hi → cF lo hi 0 w w' → jx_G E l Y d Q (pc + 1) L st w') : jx_G E l Y d Q pc L (.int (iI v) :: .int (iI j) :: .ref (G c x) :: st) w := by
  have ho := cLoc_ok hm
  rw [hl] at ho
  refine jI_iast hd (by rw [hC.kd ho, hk]) (by rw [hC.len ho (by rw [hk]; decide), hn]) hb hj (hC.old ho) (K _ ?_ (cF_put (hC.away ho)))
  have := hC.put (v := v) hm hf.1
  rw [hl, cEn_i hf.2] at this
  exact this
theorem jI_lald {a m : Nat} {i : Int} {v : Value} (hd : decode Y.2.2.1 pc = .ok (.laload, 1)) (hk : jx_k w a = 101) (hl : jx_l w a = m) (hm : m ≤ 100000) (hi : 0 ≤ i ∧ i < m) (hv : jx_v w a i.toNat = v) (K : jx_G E l Y d Q (pc + 1) L (v :: st) w) : jx_G E l Y d Q pc L (.int (iI i) :: .ref a :: st) w := by
  subst hv
  refine jx_lald hd hk (by rw [hl]; exact iI_in hi (by omega)) ?_
  rw [iI_clamp (by omega)]
  exact K
theorem jI_last {a m : Nat} {i : Int} {x : Int64} (hd : decode Y.2.2.1 pc = .ok (.lastore, 1)) (hk : jx_k w a = 101) (hl : jx_l w a = m) (hm : m ≤ 100000) (hi : 0 ≤ i ∧ i < m) (ho : E.1.heap.size ≤ a) (K : jx_G E l Y d Q (pc + 1) L st (jx_put w a i.toNat (.long x))) : jx_G E l Y d Q pc L (.long x :: .int (iI i) :: .ref a :: st) w := by
  refine jx_last hd hk (by rw [hl]; exact iI_in hi (by omega)) ho ?_
  rw [iI_clamp (by omega)]
  exact K
theorem jI_aald {a k m : Nat} {i : Int} {v : Value} (hd : decode Y.2.2.1 pc = .ok (.aaload, 1)) (hk : jx_k w a = k) (hk2 : 100 ≤ k) (hr : (jx_ty k).isReference = true) (hl : jx_l w a = m) (hm : m ≤ 100000) (hi : 0 ≤ i ∧ i < m) (hv : jx_v w a i.toNat = v) (K : jx_G E l Y d Q (pc + 1) L (v :: st) w) : jx_G E l Y d Q pc L (.int (iI i) :: .ref a :: st) w := by
  subst hv
  refine jx_aald hd hk hk2 hr (by rw [hl]; exact iI_in hi (by omega)) ?_
  rw [iI_clamp (by omega)]
  exact K
theorem cx_row {x c2 n kd : Nat} {i : Int} (hd : decode Y.2.2.1 pc = .ok (.aaload, 1)) (hC : cR E D w G lo hi) (hx : x < 14) (hk : cKd 2 x = kd) (h100 : 100 ≤ kd) (hr : (jx_ty kd).isReference = true) (hn : cLn 2 x = n) (hb : n ≤ 100000) (hi : 0 ≤ i ∧ i < n) (hp : cP 2 x i.toNat c2 i.toNat) (K : jx_G E l Y d Q (pc + 1) L (.ref (G c2 i.toNat) :: st) w) : jx_G E l Y d Q pc L (.int (iI i) :: .ref (G 2 x) :: st) w := by
  have ho : cOk D 2 x := by omega
  exact jI_aald hd (by rw [hC.kd ho, hk]) h100 hr (by rw [hC.len ho (by rw [hk]; exact h100), hn]) hb hi (hC.ptr hp) K
theorem cx_ld30 {j : Int} (hd : decode Y.2.2.1 pc = .ok (.iaload, 1)) (hC : cR E D w G lo hi) (hj : 0 ≤ j ∧ j < 16) (K : jx_G E l Y d Q (pc + 1) L (.int (iI (D 30 j)) :: st) w) : jx_G E l Y d Q pc L (.int (iI j) :: .ref (G 2 6) :: st) w :=
  cx_ld (f := 30) (i := j) (n := 16) hd hC (by omega) (by decide) rfl rfl rfl (by decide) hj K
theorem cx_st30 {j v : Int} (hd : decode Y.2.2.1 pc = .ok (.iastore, 1)) (hC : cR E D w G lo hi) (hj : 0 ≤ j ∧ j < 16) (K : ∀ w', cR E (sU D 30 j v) w' G lo hi → cF lo hi 0 w w' → jx_G E l Y d Q (pc + 1) L st w') : jx_G E l Y d Q pc L (.int (iI v) :: .int (iI j) :: .ref (G 2 6) :: st) w :=
  cx_st (f := 30) (i := j) (n := 16) hd hC (by omega) (by decide) rfl rfl rfl (by decide) hj K
theorem cx_ld42 {j : Int} (hd : decode Y.2.2.1 pc = .ok (.iaload, 1)) (hC : cR E D w G lo hi) (hj : 0 ≤ j ∧ j < 5) (K : jx_G E l Y d Q (pc + 1) L (.int (iI (D 42 j)) :: st) w) : jx_G E l Y d Q pc L (.int (iI j) :: .ref (G 2 10) :: st) w :=
  cx_ld (f := 42) (i := j) (n := 5) hd hC (by omega) (by decide) rfl rfl rfl (by decide) hj K
theorem cx_st42 {j v : Int} (hd : decode Y.2.2.1 pc = .ok (.iastore, 1)) (hC : cR E D w G lo hi) (hj : 0 ≤ j ∧ j < 5) (K : ∀ w', cR E (sU D 42 j v) w' G lo hi → cF lo hi 0 w w' → jx_G E l Y d Q (pc + 1) L st w') : jx_G E l Y d Q pc L (.int (iI v) :: .int (iI j) :: .ref (G 2 10) :: st) w :=
  cx_st (f := 42) (i := j) (n := 5) hd hC (by omega) (by decide) rfl rfl rfl (by decide) hj K
theorem cx_ld43 {j : Int} (hd : decode Y.2.2.1 pc = .ok (.iaload, 1)) (hC : cR E D w G lo hi) (hj : 0 ≤ j ∧ j < 32) (K : jx_G E l Y d Q (pc + 1) L (.int (iI (D 43 j)) :: st) w) : jx_G E l Y d Q pc L (.int (iI j) :: .ref (G 2 11) :: st) w :=
  cx_ld (f := 43) (i := j) (n := 32) hd hC (by omega) (by decide) rfl rfl rfl (by decide) hj K
theorem cx_st43 {j v : Int} (hd : decode Y.2.2.1 pc = .ok (.iastore, 1)) (hC : cR E D w G lo hi) (hj : 0 ≤ j ∧ j < 32) (K : ∀ w', cR E (sU D 43 j v) w' G lo hi → cF lo hi 0 w w' → jx_G E l Y d Q (pc + 1) L st w') : jx_G E l Y d Q pc L (.int (iI v) :: .int (iI j) :: .ref (G 2 11) :: st) w :=
  cx_st (f := 43) (i := j) (n := 32) hd hC (by omega) (by decide) rfl rfl rfl (by decide) hj K
theorem cLoc_40 {p j : Int} (hj : 0 ≤ j ∧ j < 32) : cLoc 40 (32 * p + j) = (3, p.toNat, j.toNat) := by
  show (3, ((32 * p + j) / 32).toNat, ((32 * p + j) % 32).toNat) = _
  rw [show (32 * p + j) / 32 = p by omega, show (32 * p + j) % 32 = j by omega]
theorem cx_ld40 {p j : Int} (hd : decode Y.2.2.1 pc = .ok (.iaload, 1)) (hC : cR E D w G lo hi) (hp : 0 ≤ p ∧ p < 4) (hj : 0 ≤ j ∧ j < 32) (K : jx_G E l Y d Q (pc + 1) L (.int (iI (D 40 (32 * p + j))) :: st) w) : jx_G E l Y d Q pc L (.int (iI j) :: .ref (G 3 p.toNat) :: st) w :=
  cx_ld (f := 40) (i := 32 * p + j) (n := 32) hd hC (by omega) (by decide) (cLoc_40 hj) rfl rfl (by decide) hj K
theorem cx_st40 {p j v : Int} (hd : decode Y.2.2.1 pc = .ok (.iastore, 1)) (hC : cR E D w G lo hi) (hp : 0 ≤ p ∧ p < 4) (hj : 0 ≤ j ∧ j < 32) (K : ∀ w', cR E (sU D 40 (32 * p + j) v) w' G lo hi → cF lo hi 0 w w' → jx_G E l Y d Q (pc + 1) L st w') : jx_G E l Y d Q pc L (.int (iI v) :: .int (iI j) :: .ref (G 3 p.toNat) :: st) w :=
  cx_st (f := 40) (i := 32 * p + j) (n := 32) hd hC (by omega) (by decide) (cLoc_40 hj) rfl rfl (by decide) hj K
theorem cLoc_41 {p j : Int} (hj : 0 ≤ j ∧ j < 160) : cLoc 41 (160 * p + j) = (4, p.toNat, j.toNat) := by
  show (4, ((160 * p + j) / 160).toNat, ((160 * p + j) % 160).toNat) = _
  rw [show (160 * p + j) / 160 = p by omega, show (160 * p + j) % 160 = j by omega]
theorem cx_ld41 {p j : Int} (hd : decode Y.2.2.1 pc = .ok (.iaload, 1)) (hC : cR E D w G lo hi) (hp : 0 ≤ p ∧ p < 4) (hj : 0 ≤ j ∧ j < 160) (K : jx_G E l Y d Q (pc + 1) L (.int (iI (D 41 (160 * p + j))) :: st) w) : jx_G E l Y d Q pc L (.int (iI j) :: .ref (G 4 p.toNat) :: st) w :=
  cx_ld (f := 41) (i := 160 * p + j) (n := 160) hd hC (by omega) (by decide) (cLoc_41 hj) rfl rfl (by decide) hj K
theorem cx_st41 {p j v : Int} (hd : decode Y.2.2.1 pc = .ok (.iastore, 1)) (hC : cR E D w G lo hi) (hp : 0 ≤ p ∧ p < 4) (hj : 0 ≤ j ∧ j < 160) (K : ∀ w', cR E (sU D 41 (160 * p + j) v) w' G lo hi → cF lo hi 0 w w' → jx_G E l Y d Q (pc + 1) L st w') : jx_G E l Y d Q pc L (.int (iI v) :: .int (iI j) :: .ref (G 4 p.toNat) :: st) w :=
  cx_st (f := 41) (i := 160 * p + j) (n := 160) hd hC (by omega) (by decide) (cLoc_41 hj) rfl rfl (by decide) hj K
theorem cLoc_45 {p j : Int} (hj : 0 ≤ j ∧ j < 32) : cLoc 45 (32 * p + j) = (6, p.toNat, j.toNat) := by
  show (6, ((32 * p + j) / 32).toNat, ((32 * p + j) % 32).toNat) = _
  rw [show (32 * p + j) / 32 = p by omega, show (32 * p + j) % 32 = j by omega]
theorem cx_ld45 {p j : Int} (hd : decode Y.2.2.1 pc = .ok (.iaload, 1)) (hC : cR E D w G lo hi) (hp : 0 ≤ p ∧ p < 4) (hj : 0 ≤ j ∧ j < 32) (K : jx_G E l Y d Q (pc + 1) L (.int (iI (D 45 (32 * p + j))) :: st) w) : jx_G E l Y d Q pc L (.int (iI j) :: .ref (G 6 p.toNat) :: st) w :=
  cx_ld (f := 45) (i := 32 * p + j) (n := 32) hd hC (by omega) (by decide) (cLoc_45 hj) rfl rfl (by decide) hj K
theorem cx_st45 {p j v : Int} (hd : decode Y.2.2.1 pc = .ok (.iastore, 1)) (hC : cR E D w G lo hi) (hp : 0 ≤ p ∧ p < 4) (hj : 0 ≤ j ∧ j < 32) (K : ∀ w', cR E (sU D 45 (32 * p + j) v) w' G lo hi → cF lo hi 0 w w' → jx_G E l Y d Q (pc + 1) L st w') : jx_G E l Y d Q pc L (.int (iI v) :: .int (iI j) :: .ref (G 6 p.toNat) :: st) w :=
  cx_st (f := 45) (i := 32 * p + j) (n := 32) hd hC (by omega) (by decide) (cLoc_45 hj) rfl rfl (by decide) hj K
theorem cLoc_44 {p j : Int} (hj : 0 ≤ j ∧ j < 32) : cLoc 44 (32 * p + j) = (5, p.toNat, j.toNat) := by
  show (5, ((32 * p + j) / 32).toNat, ((32 * p + j) % 32).toNat) = _
  rw [show (32 * p + j) / 32 = p by omega, show (32 * p + j) % 32 = j by omega]
theorem cx_ld44 {p j : Int} (hd : decode Y.2.2.1 pc = .ok (.laload, 1)) (hC : cR E D w G lo hi) (hp : 0 ≤ p ∧ p < 5) (hj : 0 ≤ j ∧ j < 32) (K : jx_G E l Y d Q (pc + 1) L (.long (lI (D 44 (32 * p + j))) :: st) w) : jx_G E l Y d Q pc L (.int (iI j) :: .ref (G 5 p.toNat) :: st) w := by
  have hm : cDm D 44 (32 * p + j) := by omega
  have ho : cOk D 5 p.toNat := by omega
  exact jI_lald hd (by rw [hC.kd ho]; rfl) (m := 32) (by rw [hC.len ho (show 100 ≤ 101 by decide)]; rfl) (by decide) hj (by rw [hC.fld hm (cLoc_44 hj), cEn_l]) K
theorem cx_st44 {p j v : Int} (hd : decode Y.2.2.1 pc = .ok (.lastore, 1)) (hC : cR E D w G lo hi) (hp : 0 ≤ p ∧ p < 5) (hj : 0 ≤ j ∧ j < 32) (K : ∀ w', cR E (sU D 44 (32 * p + j) v) w' G lo hi → cF lo hi 0 w w' → jx_G E l Y d Q (pc + 1) L st w') : jx_G E l Y d Q pc L (.long (lI v) :: .int (iI j) :: .ref (G 5 p.toNat) :: st) w := by
  have hm : cDm D 44 (32 * p + j) := by omega
  have ho : cOk D 5 p.toNat := by omega
  refine jI_last hd (by rw [hC.kd ho]; rfl) (m := 32) (by rw [hC.len ho (show 100 ≤ 101 by decide)]; rfl) (by decide) hj (hC.old ho) (K _ ?_ (cF_put (hC.away ho)))
  have := hC.put (v := v) hm (by decide)
  rw [cLoc_44 hj, cEn_l] at this
  exact this
theorem cx_row8 {i : Int} (hd : decode Y.2.2.1 pc = .ok (.aaload, 1)) (hC : cR E D w G lo hi) (hi : 0 ≤ i ∧ i < 4) (K : jx_G E l Y d Q (pc + 1) L (.ref (G 3 i.toNat) :: st) w) : jx_G E l Y d Q pc L (.int (iI i) :: .ref (G 2 8) :: st) w :=
  cx_row (n := 4) hd hC (by decide) (kd := 103) rfl (by decide) rfl rfl (by decide) hi (by unfold cP; omega) K
theorem cx_row9 {i : Int} (hd : decode Y.2.2.1 pc = .ok (.aaload, 1)) (hC : cR E D w G lo hi) (hi : 0 ≤ i ∧ i < 4) (K : jx_G E l Y d Q (pc + 1) L (.ref (G 4 i.toNat) :: st) w) : jx_G E l Y d Q pc L (.int (iI i) :: .ref (G 2 9) :: st) w :=
  cx_row (n := 4) hd hC (by decide) (kd := 103) rfl (by decide) rfl rfl (by decide) hi (by unfold cP; omega) K
theorem cx_row12 {i : Int} (hd : decode Y.2.2.1 pc = .ok (.aaload, 1)) (hC : cR E D w G lo hi) (hi : 0 ≤ i ∧ i < 5) (K : jx_G E l Y d Q (pc + 1) L (.ref (G 5 i.toNat) :: st) w) : jx_G E l Y d Q pc L (.int (iI i) :: .ref (G 2 12) :: st) w :=
  cx_row (n := 5) hd hC (by decide) (kd := 104) rfl (by decide) rfl rfl (by decide) hi (by unfold cP; omega) K
theorem cx_row13 {i : Int} (hd : decode Y.2.2.1 pc = .ok (.aaload, 1)) (hC : cR E D w G lo hi) (hi : 0 ≤ i ∧ i < 4) (K : jx_G E l Y d Q (pc + 1) L (.ref (G 6 i.toNat) :: st) w) : jx_G E l Y d Q pc L (.int (iI i) :: .ref (G 2 13) :: st) w :=
  cx_row (n := 4) hd hC (by decide) (kd := 103) rfl (by decide) rfl rfl (by decide) hi (by unfold cP; omega) K
theorem jI_max {idx : Nat} {x y : Int} (hd : decode Y.2.2.1 pc = .ok (.invokestatic idx, 3)) (h1 : (Jvm.Cond.methodLink Y.1 idx Lib.Math.max.name).before #[] E.1 = true) (h2 : (Jvm.Cond.static Lib.Math.max.name).before #[] E.1 = true) (h3 : (Jvm.Cond.initialized "java/lang/Math").before #[] E.1 = true) (h4 : (Jvm.Cond.code Lib.Math.max.name Lib.Math.max.code 2 (some .int)).before #[] E.1 = true) (hW : (st.map fun v => v.category).sum ≤ 24) (hx : iR x) (hy : iR y) (k : jx_G E l Y (d + 1) Q (pc + 3) L (.int (iI (sGr x y)) :: st) w) : jx_G E l Y (d + 1) Q pc L (.int (iI y) :: .int (iI x) :: st) w :=
  jx_mmax hd h1 h2 h3 h4 hW (by rw [iI_max x y hx hy]; exact k)
theorem jI_min {idx : Nat} {x y : Int} (hd : decode Y.2.2.1 pc = .ok (.invokestatic idx, 3)) (h1 : (Jvm.Cond.methodLink Y.1 idx Lib.Math.min.name).before #[] E.1 = true) (h2 : (Jvm.Cond.static Lib.Math.min.name).before #[] E.1 = true) (h3 : (Jvm.Cond.initialized "java/lang/Math").before #[] E.1 = true) (h4 : (Jvm.Cond.code Lib.Math.min.name Lib.Math.min.code 2 (some .int)).before #[] E.1 = true) (hW : (st.map fun v => v.category).sum ≤ 24) (hx : iR x) (hy : iR y) (k : jx_G E l Y (d + 1) Q (pc + 3) L (.int (iI (if y < x then y else x)) :: st) w) : jx_G E l Y (d + 1) Q pc L (.int (iI y) :: .int (iI x) :: st) w :=
  jx_mmin hd h1 h2 h3 h4 hW (by rw [iI_min x y hx hy]; exact k)
/-! lists -/
theorem cx_size {idx : Nat} (j x f : Nat) (hf : f = 33 + j) (hB : jx_B E) (hd : decode Y.2.2.1 pc = .ok (.invokevirtual idx, 3)) (hV : jx_V E Y.1 idx z_A_size jx_q6.1) (hC : cR E D w G lo hi) (hj : j < 4) (hx : cLk j = x) (hW : (st.map fun v => v.category).sum ≤ 24) (K : jx_G E l Y (d + 1) Q (pc + 3) L (.int (iI (D f 0)) :: st) w) : jx_G E l Y (d + 1) Q pc L (.ref (G 2 x) :: st) w := by
  subst hf
  subst hx
  have hL := hC.li j hj
  have hs := hC.size j hj
  refine jx_callV_r (As := []) hd (m_A_size hB) hV (by decide) (jx_c6 hB) hL.1 rfl (Nat.le_of_ble_eq_true rfl) hW (w_A_size hB hL) ?_
  rw [iI_nat, Int.toNat_of_nonneg hs.1]
  exact K
theorem cx_at {idx : Nat} {i : Int} (j x : Nat) (hB : jx_B E) (hd : decode Y.2.2.1 pc = .ok (.invokevirtual idx, 3)) (hV : jx_V E Y.1 idx z_A_get jx_q6.1) (hC : cR E D w G lo hi) (hj : j < 4) (hx : cLk j = x) (hi : 0 ≤ i ∧ i < D (33 + j) 0) (hW : (st.map fun v => v.category).sum ≤ 24) (K : jx_G E l Y (d + 3) Q (pc + 3) L (.ref (cEl G D j i.toNat) :: st) w) : jx_G E l Y (d + 3) Q pc L (.int (iI i) :: .ref (G 2 x) :: st) w := by
  subst hx
  have hL := hC.li j hj
  have hs := hC.size j hj
  have e : iI i = nI i.toNat := by rw [iI_nat, Int.toNat_of_nonneg hi.1]
  rw [e]
  exact jx_callV_r (As := [.int (nI i.toNat)]) hd (m_A_get hB) hV (by decide) (jx_c6 hB) hL.1 rfl (Nat.le_of_ble_eq_true rfl) hW (w_A_get hB hL (by omega) (by omega)) K
theorem cx_at0 {idx : Nat} {i : Int} (hB : jx_B E) (hd : decode Y.2.2.1 pc = .ok (.invokevirtual idx, 3)) (hV : jx_V E Y.1 idx z_A_get jx_q6.1) (hC : cR E D w G lo hi) (hi : 0 ≤ i ∧ i < D 33 0) (hW : (st.map fun v => v.category).sum ≤ 24) (K : jx_G E l Y (d + 3) Q (pc + 3) L (.ref (G 0 i.toNat) :: st) w) : jx_G E l Y (d + 3) Q pc L (.int (iI i) :: .ref (G 2 1) :: st) w :=
  cx_at 0 1 hB hd hV hC (by decide) rfl hi hW K
theorem cx_at1 {idx : Nat} {i : Int} (hB : jx_B E) (hd : decode Y.2.2.1 pc = .ok (.invokevirtual idx, 3)) (hV : jx_V E Y.1 idx z_A_get jx_q6.1) (hC : cR E D w G lo hi) (hi : 0 ≤ i ∧ i < D 34 0) (hW : (st.map fun v => v.category).sum ≤ 24) (K : jx_G E l Y (d + 3) Q (pc + 3) L (.ref (G 1 i.toNat) :: st) w) : jx_G E l Y (d + 3) Q pc L (.int (iI i) :: .ref (G 2 2) :: st) w :=
  cx_at 1 2 hB hd hV hC (by decide) rfl hi hW K
theorem cx_at2 {idx : Nat} {i : Int} (hB : jx_B E) (hd : decode Y.2.2.1 pc = .ok (.invokevirtual idx, 3)) (hV : jx_V E Y.1 idx z_A_get jx_q6.1) (hC : cR E D w G lo hi) (hi : 0 ≤ i ∧ i < D 35 0) (hW : (st.map fun v => v.category).sum ≤ 24) (K : jx_G E l Y (d + 3) Q (pc + 3) L (.ref (G 1 (D 37 i).toNat) :: st) w) : jx_G E l Y (d + 3) Q pc L (.int (iI i) :: .ref (G 2 3) :: st) w :=
  cx_at 2 3 hB hd hV hC (by decide) rfl hi hW (by
    show jx_G E l Y (d + 3) Q (pc + 3) L (.ref (G 1 (D 37 (i.toNat : Int)).toNat) :: st) w
    rw [Int.toNat_of_nonneg hi.1]
    exact K)
theorem cx_at3 {idx : Nat} {i : Int} (hB : jx_B E) (hd : decode Y.2.2.1 pc = .ok (.invokevirtual idx, 3)) (hV : jx_V E Y.1 idx z_A_get jx_q6.1) (hC : cR E D w G lo hi) (hi : 0 ≤ i ∧ i < D 36 0) (hW : (st.map fun v => v.category).sum ≤ 24) (K : jx_G E l Y (d + 3) Q (pc + 3) L (.ref (G 1 (D 38 i).toNat) :: st) w) : jx_G E l Y (d + 3) Q pc L (.int (iI i) :: .ref (G 2 7) :: st) w :=
  cx_at 3 7 hB hd hV hC (by decide) rfl hi hW (by
    show jx_G E l Y (d + 3) Q (pc + 3) L (.ref (G 1 (D 38 (i.toNat : Int)).toNat) :: st) w
    rw [Int.toNat_of_nonneg hi.1]
    exact K)
end CX
