/-! 12.heap: fields, arrays, new cells, returns -/
theorem jx_H.lt {E : jx_E} {w : jx_W} {H : Heap} {a : Nat} (h : jx_H E w H) (hk : jx_k w a ≠ 0) : a < jx_n w := by
  obtain ⟨cell, hc, -⟩ := h.2.2 a hk
  rw [← h.1]
  exact (Array.getElem?_eq_some_iff.mp hc).1
theorem jx_pic_obj {E : jx_E} {ci n : Nat} {V : Nat → Value} {cell : Cell} {q : vw_C} (hci : ci < 99) (hq : E.2.2[ci]? = some q) (h : jx_pic E (ci + 1) n V cell) : cell.vm = .none ∧ cell.cls = E.2.1.1 ci ∧ ∀ j, j < q.2.2 → cell.slots[E.2.1.2 ci j]? = some (V j) := by
  unfold jx_pic at h
  rw [if_pos (by omega)] at h
  obtain ⟨h1, h2, q', h3, h4⟩ := h
  rw [Nat.add_sub_cancel] at h2 h3 h4
  cases hq.symm.trans h3
  exact ⟨h1, h2, h4⟩
theorem jx_pic_arr {E : jx_E} {k n : Nat} {V : Nat → Value} {cell : Cell} (hk : ¬ k < 100) (h : jx_pic E k n V cell) : jx_arr E k n V cell := by
  unfold jx_pic at h
  rwa [if_neg hk] at h
theorem jx_H.putO {E : jx_E} {w : jx_W} {H H' : Heap} {a ci k : Nat} {q : vw_C} {cell : Cell} {v : Value} (h : jx_H E w H) (hci : ci < 99) (hq : E.2.2[ci]? = some q) (hk : k < q.2.2) (hap : ∀ i j, i < q.2.2 → j < q.2.2 → i ≠ j → E.2.1.2 ci i ≠ E.2.1.2 ci j) (hka : jx_k w a = ci + 1) (ho : E.1.heap.size ≤ a) (hc : H[a]? = some cell) (hp : jx_pic E (ci + 1) (jx_l w a) (jx_v w a) cell)
    (e1 : H'[a]? = some (cell.setSlot (E.2.1.2 ci k) v)) (e2 : H'.size = H.size) (e3 : ∀ q, q ≠ a → H'[q]? = H[q]?) : jx_H E (jx_put w a k v) H' := by
  refine ⟨e2.trans h.1, ⟨by rw [e2]; exact h.2.1.1, fun b hb => by rw [e3 b (by omega)]; exact h.2.1.2 b hb⟩, fun b hb => ?_⟩
  have hb' : jx_k w b ≠ 0 := hb
  by_cases e : b = a
  · subst e
    refine ⟨_, e1, ?_⟩
    show jx_pic E (jx_k w b) (jx_l w b) (fun i => if b = b ∧ i = k then v else jx_v w b i) _
    rw [hka]
    obtain ⟨h1, h2, h3⟩ := jx_pic_obj hci hq hp
    unfold jx_pic
    rw [if_pos (by omega)]
    refine ⟨h1, by rw [Nat.add_sub_cancel]; exact h2, q, by rw [Nat.add_sub_cancel]; exact hq, fun j hj => ?_⟩
    rw [Nat.add_sub_cancel]
    by_cases ej : j = k
    · subst ej
      have hlt := k2_hasslot (h3 j hj)
      simp [Cell.setSlot, hlt]
    · rw [slot_ne cell v (hap k j hk hj (fun z => ej z.symm)), h3 j hj]
      simp [ej]
  · obtain ⟨cb, hcb, hpb⟩ := h.2.2 b hb'
    refine ⟨cb, (e3 b e).trans hcb, ?_⟩
    show jx_pic E (jx_k w b) (jx_l w b) (fun i => if b = a ∧ i = k then v else jx_v w b i) cb
    have : (fun i => if b = a ∧ i = k then v else jx_v w b i) = jx_v w b := by
      funext i
      rw [if_neg (fun z => e z.1)]
    rw [this]
    exact hpb
theorem jx_H.putA {E : jx_E} {w : jx_W} {H H' : Heap} {a j : Nat} {cell : Cell} {v : Value} (h : jx_H E w H) (hka : ¬ jx_k w a < 100) (hj : j < jx_l w a) (ho : E.1.heap.size ≤ a) (hc : H[a]? = some cell) (hp : jx_arr E (jx_k w a) (jx_l w a) (jx_v w a) cell)
    (e1 : H'[a]? = some (cell.setSlot j v)) (e2 : H'.size = H.size) (e3 : ∀ q, q ≠ a → H'[q]? = H[q]?) : jx_H E (jx_put w a j v) H' := by
  refine ⟨e2.trans h.1, ⟨by rw [e2]; exact h.2.1.1, fun b hb => by rw [e3 b (by omega)]; exact h.2.1.2 b hb⟩, fun b hb => ?_⟩
  have hb' : jx_k w b ≠ 0 := hb
  by_cases e : b = a
  · subst e
    refine ⟨_, e1, ?_⟩
    show jx_pic E (jx_k w b) (jx_l w b) (fun i => if b = b ∧ i = j then v else jx_v w b i) _
    unfold jx_pic
    rw [if_neg hka]
    obtain ⟨h0, h1, h2, h3, h4⟩ := hp
    refine ⟨h0, h1, h2, by rw [k2_slotsz]; exact h3, fun i hi => ?_⟩
    by_cases ej : i = j
    · subst ej
      have h31 := h3.1
      have hlt : i < cell.slots.size := by omega
      simp [Cell.setSlot, hlt]
    · rw [slot_ne cell v (fun z => ej z.symm), h4 i hi]
      simp [ej]
  · obtain ⟨cb, hcb, hpb⟩ := h.2.2 b hb'
    refine ⟨cb, (e3 b e).trans hcb, ?_⟩
    show jx_pic E (jx_k w b) (jx_l w b) (fun i => if b = a ∧ i = j then v else jx_v w b i) cb
    have : (fun i => if b = a ∧ i = j then v else jx_v w b i) = jx_v w b := by
      funext i
      rw [if_neg (fun z => e z.1)]
    rw [this]
    exact hpb
theorem jx_H.born {E : jx_E} {w : jx_W} {H H' : Heap} {kd len sl : Nat} {f : Nat → Value} {cell : Cell} (h : jx_H E w H) (e1 : H'[jx_n w]? = some cell) (hp : jx_pic E kd len f cell) (e2 : H'.size = jx_n w + 1) (e3 : ∀ q, q < jx_n w → H'[q]? = H[q]?) : jx_H E (jx_new w kd len sl f) H' := by
  have h1 := h.1
  have h2 := h.2.1.1
  refine ⟨e2, ⟨by omega, fun b hb => by rw [e3 b (by omega)]; exact h.2.1.2 b hb⟩, fun b hb => ?_⟩
  by_cases e : b = jx_n w
  · subst e
    refine ⟨cell, e1, ?_⟩
    simpa [jx_new, jx_k, jx_l, jx_v, jx_n] using hp
  · have hb' : jx_k w b ≠ 0 := by
      have : jx_k (jx_new w kd len sl f) b = jx_k w b := by
        show (if b = jx_n w then kd else jx_k w b) = _
        rw [if_neg e]
      rwa [this] at hb
    obtain ⟨cb, hcb, hpb⟩ := h.2.2 b hb'
    refine ⟨cb, (e3 b (h.lt hb')).trans hcb, ?_⟩
    show jx_pic E (if b = jx_n w then kd else jx_k w b) (if b = jx_n w then len else jx_l w b) (if b = jx_n w then f else jx_v w b) cb
    rw [if_neg e, if_neg e, if_neg e]
    exact hpb
theorem jx_H.skip {E : jx_E} {w : jx_W} {H H' : Heap} {sl : Nat} (h : jx_H E w H) (e2 : H'.size = jx_n w + 1) (e3 : ∀ q, q < jx_n w → H'[q]? = H[q]?) : jx_H E (jx_skip w sl) H' := by
  have h1 := h.1
  have h2 := h.2.1.1
  refine ⟨e2, ⟨by omega, fun b hb => by rw [e3 b (by omega)]; exact h.2.1.2 b hb⟩, fun b hb => ?_⟩
  have hb' : jx_k w b ≠ 0 := hb
  obtain ⟨cb, hcb, hpb⟩ := h.2.2 b hb'
  exact ⟨cb, (e3 b (h.lt hb')).trans hcb, hpb⟩
section JXH
variable {E : jx_E} {l : Launch} {Y : jx_Y} {d : Nat} {Q : jx_R → jx_W → Prop} {pc : Nat} {L : List (Option Value)} {st : List Value} {w : jx_W}
theorem jx_getf {ci k idx a : Nat} (hd : decode Y.2.2.1 pc = .ok (.getfield idx, 3)) (hF : jx_F E Y.1 idx ci k) (hk : jx_k w a = ci + 1) (K : jx_G E l Y d Q (pc + 3) L (jx_v w a k :: st) w) : jx_G E l Y d Q pc L (.ref a :: st) w := by
  intro p e R s m args below meth c H locs cells slots ls C hH hL hq hc hs
  obtain ⟨hci, q, hq1, hkN, ref, hsm, hlink⟩ := hF
  obtain ⟨cell, hcell, hpic⟩ := hH.2.2 a (by rw [hk]; omega)
  rw [hk] at hpic
  obtain ⟨hvm, hcls, hsl⟩ := jx_pic_obj hci hq1 hpic
  obtain ⟨hKn, hlay, hap⟩ := C.ok ci q hq1
  obtain ⟨hS, hfc, kC, hkC, hkind⟩ := u_Kn_moved C.warm.alike hKn
  obtain ⟨cf, kf, fi, f, hi, hfs⟩ := hS k hkN
  have hi2 : s.fieldFound? ref (q.2.1 k).2.1 (q.2.1 k).2.2.1 = some (cf, kf, fi, f) := by
    rcases hsm with rfl | h
    · exact hi
    · exact u_same (jx_mv (args := args) C.warm rfl h) _ hi
  have hst := (u_facts hfc hkC (jx_lays (args := args) C.warm (hlay k hkN)) hi).1
  have hu : cell.vm ≠ .unknown := by rw [hvm]; exact fun z => by cases z
  have hv : cell.slots[f.slot]? = some (jx_v w a k) := by rw [hfs]; exact hsl k hkN
  rcases hlink with h | ⟨host, h⟩
  · exact W.getf C.ex C.code C.own (jx_mv C.warm rfl h) hi2 hst hcell hu hv rfl rfl hd (K p e R s m args below meth c H locs cells slots ls C hH hL hq hc hs)
  · exact va_Wgetf C.ex C.code C.own (jx_mv C.warm rfl h) hi2 hst hcell hu hv rfl rfl hd (K p e R s m args below meth c H locs cells slots ls C hH hL hq hc hs)
theorem jx_locs {locs : List Loc} {b a i : Nat} (hq : ∀ q ∈ locs, b ≤ q.base) (ho : b ≤ a) : ∀ q ∈ locs ++ [(⟨a, i⟩ : Loc)], b ≤ q.base := by
  intro q hm
  rcases List.mem_append.mp hm with h | h
  · exact hq q h
  · rw [List.mem_singleton] at h
    subst h
    exact ho
theorem jx_putf {ci k idx a : Nat} {v : Value} {ty : FieldType} (hd : decode Y.2.2.1 pc = .ok (.putfield idx, 3)) (hF : jx_F E Y.1 idx ci k) (hT : jx_Ft E ci k ty false) (hk : jx_k w a = ci + 1) (ho : E.1.heap.size ≤ a) (hn : narrow ty v = v) (hfit : fits ty v = true) (K : jx_G E l Y d Q (pc + 3) L st (jx_put w a k v)) : jx_G E l Y d Q pc L (v :: .ref a :: st) w := by
  intro p e R s m args below meth c H locs cells slots ls C hH hL hq hc hs
  obtain ⟨hci, q, hq1, hkN, ref, hsm, hlink⟩ := hF
  obtain ⟨q', hq2, hty, hfin⟩ := hT
  cases hq1.symm.trans hq2
  obtain ⟨cell, hcell, hpic⟩ := hH.2.2 a (by rw [hk]; omega)
  rw [hk] at hpic
  obtain ⟨hvm, hcls, hsl⟩ := jx_pic_obj hci hq1 hpic
  obtain ⟨hKn, hlay, hap⟩ := C.ok ci q hq1
  obtain ⟨hS, hfc, kC, hkC, hkind⟩ := u_Kn_moved C.warm.alike hKn
  obtain ⟨cf, kf, fi, f, hi, hfs⟩ := hS k hkN
  have hi2 : s.fieldFound? ref (q.2.1 k).2.1 (q.2.1 k).2.2.1 = some (cf, kf, fi, f) := by
    rcases hsm with rfl | h
    · exact hi
    · exact u_same (jx_mv (args := args) C.warm rfl h) _ hi
  have hst := (u_facts hfc hkC (jx_lays (args := args) C.warm (hlay k hkN)) hi).1
  have hly := jx_mv (args := args) C.warm (jx_lay_ok q.1 q.2.1 k) (hlay k hkN)
  unfold u_lay at hly
  rw [if_neg (by rw [hfin]; decide)] at hly
  have h6 := u_store hfc hkC hkind hly hi hty hn hfit
  have hlt : f.slot < cell.slots.size := by rw [hfs]; exact k2_hasslot (hsl k hkN)
  have key : ∀ H' : Heap, H'[a]? = some (cell.setSlot f.slot v) → H'.size = H.size → (∀ q, q ≠ a → H'[q]? = H[q]?) → W p l e R s m args below meth c H' (locs ++ [⟨a, f.slot⟩]) cells slots (jx_P E R s below Q) (F0 m (pc + 3) ls st) := by
    intro H' e1 e2 e3
    rw [hfs] at e1
    exact K p e R s m args below meth c H' _ cells slots ls C (hH.putO hci hq1 hkN hap hk ho hcell hpic e1 e2 e3) hL (jx_locs hq ho) hc hs
  rcases hlink with h | ⟨host, h⟩
  · exact W.putK C.ex C.code (f := f) ⟨C.own, jx_mv C.warm rfl h, ⟨cf, kf, fi, hi2⟩, hst⟩ (by rw [hcls]; exact h6) hcell hvm hlt rfl rfl hd key
  · exact va_WputK C.ex C.code (f := f) C.own (jx_mv C.warm rfl h) hi2 hst (by rw [hcls]; exact h6) hcell hvm hlt rfl rfl hd key
/-- a final field of the method's own class, in its constructor -/
theorem jx_putF {ci k idx a : Nat} {v : Value} {ty : FieldType} (hd : decode Y.2.2.1 pc = .ok (.putfield idx, 3)) (hF : jx_F E Y.1 idx ci k) (hl : ∃ q : vw_C, E.2.2[ci]? = some q ∧ (q.2.1 k).1 = Y.1 ∧ (Jvm.Cond.fieldLink Y.1 idx (q.2.1 k).1 (q.2.1 k).2.1 (q.2.1 k).2.2.1).before #[] E.1 = true) (hT : jx_Ft E ci k ty true) (hin : Y.2.1 = "<init>") (hk : jx_k w a = ci + 1) (ho : E.1.heap.size ≤ a) (hn : narrow ty v = v) (hfit : fits ty v = true) (K : jx_G E l Y d Q (pc + 3) L st (jx_put w a k v)) : jx_G E l Y d Q pc L (v :: .ref a :: st) w := by
  intro p e R s m args below meth c H locs cells slots ls C hH hL hq hc hs
  obtain ⟨hci, q, hq1, hkN, -⟩ := hF
  obtain ⟨q', hq2, hty, hfin⟩ := hT
  cases hq1.symm.trans hq2
  obtain ⟨q', hq2, hdecl, hlink⟩ := hl
  cases hq1.symm.trans hq2
  obtain ⟨cell, hcell, hpic⟩ := hH.2.2 a (by rw [hk]; omega)
  rw [hk] at hpic
  obtain ⟨hvm, hcls, hsl⟩ := jx_pic_obj hci hq1 hpic
  obtain ⟨hKn, hlay, hap⟩ := C.ok ci q hq1
  obtain ⟨hS, hfc, kC, hkC, hkind⟩ := u_Kn_moved C.warm.alike hKn
  obtain ⟨cf, kf, fi, f, hi, hfs⟩ := hS k hkN
  have hst := (u_facts hfc hkC (jx_lays (args := args) C.warm (hlay k hkN)) hi).1
  have hly := jx_mv (args := args) C.warm (jx_lay_ok q.1 q.2.1 k) (hlay k hkN)
  unfold u_lay at hly
  rw [if_pos hfin] at hly
  have hcf : m.cls = cf := by
    obtain ⟨_, _, c', _, _, _, -, -, hf', -, -, -, hown2, -⟩ := Cond.laysFinal_spec hly
    have e1 : c' = cf := by have := hi.symm.trans hf'; simp at this; exact this.1.symm
    rw [hdecl] at hown2
    rw [← e1]; exact Option.some.inj (C.own.symm.trans hown2)
  have h6 := u_fits hfc hkC hkind (Or.inr hly) hi hty hn hfit
  have hlt : f.slot < cell.slots.size := by rw [hfs]; exact k2_hasslot (hsl k hkN)
  refine W.putFinK C.ex C.code C.own (jx_mv C.warm rfl hlink) hi hst hcf (C.name.trans hin) (by rw [hcls]; exact h6) hcell hvm hlt rfl rfl hd fun H' e1 e2 e3 => ?_
  rw [hfs] at e1
  exact K p e R s m args below meth c H' _ cells slots ls C (hH.putO hci hq1 hkN hap hk ho hcell hpic e1 e2 e3) hL (jx_locs hq ho) hc hs
theorem jx_nw {ci n idx : Nat} {f : Nat → Value} (hd : decode Y.2.2.1 pc = .ok (.new idx, 3)) (hN : jx_N E Y.1 idx ci n f) (h1 : 1 ≤ jx_c w) (h2 : n ≤ jx_s w) (K : jx_G E l Y d Q (pc + 3) L (.ref (jx_n w) :: st) (jx_new w (ci + 1) 0 n f)) : jx_G E l Y d Q pc L st w := by
  intro p e R s m args below meth c H locs cells slots ls C hH hL hq hc hs
  obtain ⟨hci, q, hq1, hqn, hcl, hins, hini, ty, hty, hdf⟩ := hN
  subst hqn
  obtain ⟨hKn, hlay, hap⟩ := C.ok ci q hq1
  have hKs := u_Kn_moved C.warm.alike hKn
  refine W.newcK C.ex C.code C.own (jx_mv C.warm rfl hcl) (jx_mv C.warm rfl hins) (jx_mv C.warm rfl hini) rfl hd (by omega) (by omega) hKs.2.1 hH.1 fun H1 kC hkC e1 z1 o1 => ?_
  have hb := u_born (ws := u_ws q.1 q.2.1 q.2.2) (s := s) (args := args) (o := jx_n w) (H := H1) ty (fun x hx => by
    obtain ⟨j, hj, rfl⟩ := List.mem_map.mp hx
    exact jx_mv C.warm (jx_lay_ok q.1 q.2.1 j) (hlay j (List.mem_range.mp hj))) (fun x hx => hx) hKs hkC e1 hty
  obtain ⟨cell, g1, g2, g3, g4⟩ := hb
  refine K p e R s m args below meth c H1 locs (cells + 1) (slots + q.2.2) ls C (hH.born g1 ?_ z1 o1) hL hq (by show cells + 1 + (jx_c w - 1) ≤ _; omega) (by show slots + q.2.2 + (jx_s w - q.2.2) ≤ _; omega)
  unfold jx_pic
  rw [if_pos (by omega)]
  exact ⟨g3, by rw [Nat.add_sub_cancel]; exact g2, q, by rw [Nat.add_sub_cancel]; exact hq1, fun j hj => by rw [Nat.add_sub_cancel, ← hdf j hj]; exact g4 j hj⟩
theorem jx_ala {a k : Nat} {n : Int32} (hd : decode Y.2.2.1 pc = .ok (.arraylength, 1)) (hk : jx_k w a = k) (hk2 : 100 ≤ k) (hn : (jx_l w a).toInt32 = n) (K : jx_G E l Y d Q (pc + 1) L (.int n :: st) w) : jx_G E l Y d Q pc L (.ref a :: st) w := by
  intro p e R s m args below meth c H locs cells slots ls C hH hL hq hc hs
  obtain ⟨cell, hcell, hpic⟩ := hH.2.2 a (by omega)
  obtain ⟨h0, h1, h2, h3, h4⟩ := jx_pic_arr (by omega) hpic
  exact W.alen C.ex C.code hcell (State.isArrayOf_alike C.warm.alike h2) (by rw [h3.2]; exact hn) rfl rfl hd (K p e R s m args below meth c H locs cells slots ls C hH hL hq hc hs)
theorem jx_iald {a : Nat} {j : Int32} (hd : decode Y.2.2.1 pc = .ok (.iaload, 1)) (hk : jx_k w a = 100) (hin : vp_in j (jx_l w a)) (K : jx_G E l Y d Q (pc + 1) L (jx_v w a j.toNatClampNeg :: st) w) : jx_G E l Y d Q pc L (.int j :: .ref a :: st) w := by
  intro p e R s m args below meth c H locs cells slots ls C hH hL hq hc hs
  obtain ⟨cell, hcell, hpic⟩ := hH.2.2 a (by rw [hk]; decide)
  obtain ⟨h0, h1, h2, h3, h4⟩ := jx_pic_arr (by rw [hk]; decide) hpic
  rw [hk] at h2
  have hin2 : ¬ (j < 0 ∨ cell.slots.size ≤ j.toNatClampNeg) := fun z => (show ¬ (j < 0 ∨ jx_l w a ≤ j.toNatClampNeg) from hin) (z.imp id (fun q => Nat.le_trans h3.1 q))
  exact W.iald C.ex C.code hcell (State.isArrayOf_alike C.warm.alike h2) h1 hin2 (h4 _ (by unfold vp_in at hin; omega)) rfl rfl hd (K p e R s m args below meth c H locs cells slots ls C hH hL hq hc hs)
theorem jx_lald {a : Nat} {j : Int32} (hd : decode Y.2.2.1 pc = .ok (.laload, 1)) (hk : jx_k w a = 101) (hin : vp_in j (jx_l w a)) (K : jx_G E l Y d Q (pc + 1) L (jx_v w a j.toNatClampNeg :: st) w) : jx_G E l Y d Q pc L (.int j :: .ref a :: st) w := by
  intro p e R s m args below meth c H locs cells slots ls C hH hL hq hc hs
  obtain ⟨cell, hcell, hpic⟩ := hH.2.2 a (by rw [hk]; decide)
  obtain ⟨h0, h1, h2, h3, h4⟩ := jx_pic_arr (by rw [hk]; decide) hpic
  rw [hk] at h2
  have hin2 : ¬ (j < 0 ∨ cell.slots.size ≤ j.toNatClampNeg) := fun z => (show ¬ (j < 0 ∨ jx_l w a ≤ j.toNatClampNeg) from hin) (z.imp id (fun q => Nat.le_trans h3.1 q))
  exact W.lald C.ex C.code hcell (State.isArrayOf_alike C.warm.alike h2) h1 hin2 (h4 _ (by unfold vp_in at hin; omega)) rfl rfl hd (K p e R s m args below meth c H locs cells slots ls C hH hL hq hc hs)
theorem jx_zald {a : Nat} {j : Int32} (hd : decode Y.2.2.1 pc = .ok (.baload, 1)) (hk : jx_k w a = 102) (hin : vp_in j (jx_l w a)) (K : jx_G E l Y d Q (pc + 1) L (jx_v w a j.toNatClampNeg :: st) w) : jx_G E l Y d Q pc L (.int j :: .ref a :: st) w := by
  intro p e R s m args below meth c H locs cells slots ls C hH hL hq hc hs
  obtain ⟨cell, hcell, hpic⟩ := hH.2.2 a (by rw [hk]; decide)
  obtain ⟨h0, h1, h2, h3, h4⟩ := jx_pic_arr (by rw [hk]; decide) hpic
  rw [hk] at h2
  have hin2 : ¬ (j < 0 ∨ cell.slots.size ≤ j.toNatClampNeg) := fun z => (show ¬ (j < 0 ∨ jx_l w a ≤ j.toNatClampNeg) from hin) (z.imp id (fun q => Nat.le_trans h3.1 q))
  exact W.zald C.ex C.code hcell (State.isArrayOf_alike C.warm.alike h2) h1 hin2 (h4 _ (by unfold vp_in at hin; omega)) rfl rfl hd (K p e R s m args below meth c H locs cells slots ls C hH hL hq hc hs)
theorem jx_aald {a k : Nat} {j : Int32} (hd : decode Y.2.2.1 pc = .ok (.aaload, 1)) (hk : jx_k w a = k) (hk2 : 100 ≤ k) (hr : (jx_ty k).isReference = true) (hin : vp_in j (jx_l w a)) (K : jx_G E l Y d Q (pc + 1) L (jx_v w a j.toNatClampNeg :: st) w) : jx_G E l Y d Q pc L (.int j :: .ref a :: st) w := by
  intro p e R s m args below meth c H locs cells slots ls C hH hL hq hc hs
  obtain ⟨cell, hcell, hpic⟩ := hH.2.2 a (by omega)
  obtain ⟨h0, h1, h2, h3, h4⟩ := jx_pic_arr (by omega) hpic
  rw [hk] at h2
  have hin2 : ¬ (j < 0 ∨ cell.slots.size ≤ j.toNatClampNeg) := fun z => (show ¬ (j < 0 ∨ jx_l w a ≤ j.toNatClampNeg) from hin) (z.imp id (fun q => Nat.le_trans h3.1 q))
  exact W.aald C.ex C.code hcell (State.isArrayOf_alike C.warm.alike h2) hr h1 hin2 (h4 _ (by unfold vp_in at hin; omega)) rfl rfl hd (K p e R s m args below meth c H locs cells slots ls C hH hL hq hc hs)
theorem jx_iast {a : Nat} {j : Int32} {x : Int32} (hd : decode Y.2.2.1 pc = .ok (.iastore, 1)) (hk : jx_k w a = 100) (hin : vp_in j (jx_l w a)) (ho : E.1.heap.size ≤ a) (K : jx_G E l Y d Q (pc + 1) L st (jx_put w a j.toNatClampNeg (.int x))) : jx_G E l Y d Q pc L (.int x :: .int j :: .ref a :: st) w := by
  intro p e R s m args below meth c H locs cells slots ls C hH hL hq hc hs
  obtain ⟨cell, hcell, hpic⟩ := hH.2.2 a (by rw [hk]; decide)
  have hpa := jx_pic_arr (by rw [hk]; decide) hpic
  obtain ⟨h0, h1, h2, h3, h4⟩ := id hpa
  rw [hk] at h2
  have hin2 : ¬ (j < 0 ∨ cell.slots.size ≤ j.toNatClampNeg) := fun z => (show ¬ (j < 0 ∨ jx_l w a ≤ j.toNatClampNeg) from hin) (z.imp id (fun q => Nat.le_trans h3.1 q))
  refine W.iast C.ex C.code hcell (State.isArrayOf_alike C.warm.alike h2) h1 hin2 rfl rfl hd fun H2 e1 e2 e3 => ?_
  exact K p e R s m args below meth c H2 _ cells slots ls C (hH.putA (by rw [hk]; decide) (by unfold vp_in at hin; omega) ho hcell hpa e1 e2 e3) hL (jx_locs hq ho) hc hs
theorem jx_last {a : Nat} {j : Int32} {x : Int64} (hd : decode Y.2.2.1 pc = .ok (.lastore, 1)) (hk : jx_k w a = 101) (hin : vp_in j (jx_l w a)) (ho : E.1.heap.size ≤ a) (K : jx_G E l Y d Q (pc + 1) L st (jx_put w a j.toNatClampNeg (.long x))) : jx_G E l Y d Q pc L (.long x :: .int j :: .ref a :: st) w := by
  intro p e R s m args below meth c H locs cells slots ls C hH hL hq hc hs
  obtain ⟨cell, hcell, hpic⟩ := hH.2.2 a (by rw [hk]; decide)
  have hpa := jx_pic_arr (by rw [hk]; decide) hpic
  obtain ⟨h0, h1, h2, h3, h4⟩ := id hpa
  rw [hk] at h2
  have hin2 : ¬ (j < 0 ∨ cell.slots.size ≤ j.toNatClampNeg) := fun z => (show ¬ (j < 0 ∨ jx_l w a ≤ j.toNatClampNeg) from hin) (z.imp id (fun q => Nat.le_trans h3.1 q))
  refine W.last C.ex C.code hcell (State.isArrayOf_alike C.warm.alike h2) h1 hin2 rfl rfl hd fun H2 e1 e2 e3 => ?_
  exact K p e R s m args below meth c H2 _ cells slots ls C (hH.putA (by rw [hk]; decide) (by unfold vp_in at hin; omega) ho hcell hpa e1 e2 e3) hL (jx_locs hq ho) hc hs
/-- a new array of numbers -/
theorem jx_newa {kd N : Nat} {n : Int32} {at0 : ArrayType} {dv : Value} (hd : decode Y.2.2.1 pc = .ok (.newarray at0, 2)) (ha : (Jvm.Cond.arrayClass (newarray.typeOf at0)).before #[] E.1 = true) (hty : newarray.typeOf at0 = jx_ty kd) (hkd : 100 ≤ kd) (hdv : defaultValue (newarray.typeOf at0) = dv) (hn : ¬ n < 0) (hN : n.toNatClampNeg = N) (hb : N * 8 ≤ 536870912) (h1 : 1 ≤ jx_c w) (h2 : N ≤ jx_s w) (K : jx_G E l Y d Q (pc + 2) L (.ref (jx_n w) :: st) (jx_new w kd N N (fun _ => dv))) : jx_G E l Y d Q pc L (.int n :: st) w := by
  intro p e R s m args below meth c H locs cells slots ls C hH hL hq hc hs
  have hby : N * componentBytes (newarray.typeOf at0) ≤ 536870912 := by
    refine Nat.le_trans (Nat.mul_le_mul_left N ?_) hb
    cases at0 <;> decide
  refine W.newaK C.ex C.code (word_at C.warm (Or.inr ⟨_, rfl⟩) ha) rfl hd rfl hn hN hby (by omega) (by omega) hH.1 fun H1 cA e1 z1 o1 hA => ?_
  subst hdv
  refine K p e R s m args below meth c H1 locs (cells + 1) (slots + N) ls C (hH.born e1 ?_ z1 o1) hL hq (by show cells + 1 + (jx_c w - 1) ≤ _; omega) (by show slots + N + (jx_s w - N) ≤ _; omega)
  unfold jx_pic
  rw [if_neg (by omega)]
  refine ⟨(fun e5 => by subst e5; cases at0 <;> simp [jx_ty, newarray.typeOf] at hty), (by intro z; cases z), ?_, (by rw [arrV_size]; exact ⟨Nat.le_refl _, rfl⟩), (fun j hj => by simp [arrV, hj])⟩
  rw [← hty]
  exact State.isArrayOf_alike C.warm.alike.symm (hA N _)
theorem jx_iret {v : Int32} (hd : decode Y.2.2.1 pc = .ok (.ireturn, 1)) (hr : Y.2.2.2.2.1 = some .int) (hQ : Q (.inr (some (.int v))) w) : jx_G E l Y d Q pc L [.int v] w := by
  intro p e R s m args below meth c H locs cells slots ls C hH hL hq hc hs
  refine jx_mono ?_ (W.iret (Qc := fun _ _ o t => o = .returned (some (.int v)) ∧ t.heap = H) (free := fun x => E.1.heap.size ≤ x) C.ex C.code (C.ret.trans hr) (fun t ht _ => ⟨rfl, ht⟩) hq hd C.locks)
  rintro t ⟨o, t1, t2, ⟨rfl, t3⟩, L2, ⟨-, t5, t6⟩, t7⟩
  exact ⟨_, _, w, L2, cells, slots, t1, t2, hQ, rfl, by rw [t3]; exact hH, t5, t6, t7, hc, hs⟩
theorem jx_lret {v : Int64} (hd : decode Y.2.2.1 pc = .ok (.lreturn, 1)) (hr : Y.2.2.2.2.1 = some .long) (hQ : Q (.inr (some (.long v))) w) : jx_G E l Y d Q pc L [.long v] w := by
  intro p e R s m args below meth c H locs cells slots ls C hH hL hq hc hs
  refine jx_mono ?_ (W.lret (Qc := fun _ _ o t => o = .returned (some (.long v)) ∧ t.heap = H) (free := fun x => E.1.heap.size ≤ x) C.ex C.code (C.ret.trans hr) (fun t ht _ => ⟨rfl, ht⟩) hq hd C.locks)
  rintro t ⟨o, t1, t2, ⟨rfl, t3⟩, L2, ⟨-, t5, t6⟩, t7⟩
  exact ⟨_, _, w, L2, cells, slots, t1, t2, hQ, rfl, by rw [t3]; exact hH, t5, t6, t7, hc, hs⟩
theorem jx_zret {v : Int32} {ty : FieldType} (hd : decode Y.2.2.1 pc = .ok (.ireturn, 1)) (hr : Y.2.2.2.2.1 = some ty) (hn : narrow ty (.int v) = .int v) (hQ : Q (.inr (some (.int v))) w) : jx_G E l Y d Q pc L [.int v] w := by
  intro p e R s m args below meth c H locs cells slots ls C hH hL hq hc hs
  refine jx_mono ?_ (W.zret (Qc := fun _ _ o t => o = .returned (some (.int v)) ∧ t.heap = H) (free := fun x => E.1.heap.size ≤ x) C.ex C.code (C.ret.trans hr) hn (fun t ht _ => ⟨rfl, ht⟩) hq hd C.locks)
  rintro t ⟨o, t1, t2, ⟨rfl, t3⟩, L2, ⟨-, t5, t6⟩, t7⟩
  exact ⟨_, _, w, L2, cells, slots, t1, t2, hQ, rfl, by rw [t3]; exact hH, t5, t6, t7, hc, hs⟩
theorem jx_vret (hd : decode Y.2.2.1 pc = .ok (.return_, 1)) (hr : Y.2.2.2.2.1 = none) (hQ : Q (.inr none) w) : jx_G E l Y d Q pc L [] w := by
  intro p e R s m args below meth c H locs cells slots ls C hH hL hq hc hs
  refine jx_mono ?_ (W.vret (Qc := fun _ _ o t => o = .returned none ∧ t.heap = H) (free := fun x => E.1.heap.size ≤ x) C.ex C.code (C.ret.trans hr) (fun t ht _ => ⟨rfl, ht⟩) hq hd C.locks)
  rintro t ⟨o, t1, t2, ⟨rfl, t3⟩, L2, ⟨-, t5, t6⟩, t7⟩
  exact ⟨_, _, w, L2, cells, slots, t1, t2, hQ, rfl, by rw [t3]; exact hH, t5, t6, t7, hc, hs⟩
theorem jx_aret {a : Nat} {rt : FieldType} (hd : decode Y.2.2.1 pc = .ok (.areturn, 1)) (hr : Y.2.2.2.2.1 = some rt) (hrt : (∃ n, rt = .object n) ∨ ∃ t, rt = .array t) (hQ : Q (.inr (some (.ref a))) w) : jx_G E l Y d Q pc L [.ref a] w := by
  intro p e R s m args below meth c H locs cells slots ls C hH hL hq hc hs
  refine jx_mono ?_ (W.aret (v := .ref a) (Qc := fun _ _ o t => o = .returned (some (.ref a)) ∧ t.heap = H) (free := fun x => E.1.heap.size ≤ x) C.ex C.code (C.ret.trans hr) hrt (Or.inr ⟨a, rfl⟩) (fun t ht _ => ⟨rfl, ht⟩) hq hd C.locks)
  rintro t ⟨o, t1, t2, ⟨rfl, t3⟩, L2, ⟨-, t5, t6⟩, t7⟩
  exact ⟨_, _, w, L2, cells, slots, t1, t2, hQ, rfl, by rw [t3]; exact hH, t5, t6, t7, hc, hs⟩
end JXH
