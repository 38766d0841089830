/-! 88.a.list: class objects; copying arrays of references -/
theorem jx_ldcM {E : jx_E} {l : Launch} {Y : jx_Y} {d : Nat} {Q : jx_R → jx_W → Prop} {pc : Nat} {L : List (Option Value)} {st : List Value} {w : jx_W} {idx mi : Nat} {nm : String} (hd : decode Y.2.2.1 pc = .ok (.ldc idx, 2)) (h1 : (Jvm.Cond.classLink Y.1 idx nm).before #[] E.1 = true) (hM : va_Mi nm mi E.1) (k : jx_G E l Y d Q (pc + 2) L (.ref mi :: st) w) : jx_G E l Y d Q pc L st w := by
  intro p e R s m args below meth c H locs cells slots ls C hH hL hq hc hs
  exact va_ldcM C.ex C.code C.own (jx_mv C.warm rfl h1) (va_Mi.moved C.warm.alike hM) hd (k p e R s m args below meth c H locs cells slots ls C hH hL hq hc hs)
theorem jx_getC {E : jx_E} {l : Launch} {Y : jx_Y} {d : Nat} {Q : jx_R → jx_W → Prop} {pc : Nat} {L : List (Option Value)} {st : List Value} {w : jx_W} {idx mi a : Nat} (hd : decode Y.2.2.1 pc = .ok (.invokevirtual idx, 3)) (h1 : (Jvm.Cond.methodLink Y.1 idx ⟨"java/lang/Object", "getClass", "()Ljava/lang/Class;"⟩).before #[] E.1 = true) (h2 : (Jvm.Cond.declares ⟨"java/lang/Object", "getClass", "()Ljava/lang/Class;"⟩).before #[] E.1 = true) (h3 : (Jvm.Cond.selects "[Ljava/lang/Object;" ⟨"java/lang/Object", "getClass", "()Ljava/lang/Class;"⟩ ⟨"java/lang/Object", "getClass", "()Ljava/lang/Class;"⟩).before #[] E.1 = true) (h4 : (Jvm.Cond.instanceMethod ⟨"java/lang/Object", "getClass", "()Ljava/lang/Class;"⟩).before #[] E.1 = true) (h5 : (Jvm.Cond.native ⟨"java/lang/Object", "getClass", "()Ljava/lang/Class;"⟩).before #[] E.1 = true) (hM : va_Mi "[Ljava/lang/Object;" mi E.1) (hk : jx_k w a = 105) (hW : (st.map fun v => v.category).sum ≤ 24) (k : jx_G E l Y (d + 1) Q (pc + 3) L (.ref mi :: st) w) : jx_G E l Y (d + 1) Q pc L (.ref a :: st) w := by
  intro p e R s m args below meth c H locs cells slots ls C hH hL hq hc hs
  have hfr := C.fr
  have hlo := C.lo
  obtain ⟨cell, hcell, hpic⟩ := hH.2.2 a (by rw [hk]; decide)
  obtain ⟨g0, g1, g2, g3, g4⟩ := jx_pic_arr (by rw [hk]; decide) hpic
  refine va_getC C.ex C.code (by rw [hL.1, C.nL]) C.own (jx_mv C.warm rfl h1) (jx_mvx C.warm rfl h2) (jx_mv C.warm rfl h3) (jx_mv C.warm rfl h4) (jx_mv C.warm rfl h5) (va_Mi.moved C.warm.alike hM) ⟨cell, hcell, ?_, by rw [C.warm.alike.findClass]; exact g0 hk⟩ (by omega) (by omega) hd (k p e R s m args below meth c H locs cells slots ls C hH hL hq hc hs)
  cases hv : cell.vm with
  | statics q => exact absurd hv (g2.1 q)
  | _ => rfl
/-- the world behind System.arraycopy(a0, sp, a, dp, n) -/
def jx_cp (w : jx_W) (a0 a sp dp n : Nat) : jx_W := (jx_n w, jx_c w, jx_s w, jx_k w, jx_l w, fun b i => if b = a ∧ dp ≤ i ∧ i < dp + n then jx_v w a0 (sp + (i - dp)) else jx_v w b i)
theorem jx_H.cp {E : jx_E} {w : jx_W} {H H2 : Heap} {a0 a sp dp n : Nat} {cs cd : Cell} (h : jx_H E w H) (hk0 : jx_k w a0 = 105) (hk : jx_k w a = 105) (ho : E.1.heap.size ≤ a) (h1 : sp + n ≤ jx_l w a0) (h2 : dp + n ≤ jx_l w a) (hps : jx_arr E 105 (jx_l w a0) (jx_v w a0) cs) (hpd : jx_arr E 105 (jx_l w a) (jx_v w a) cd)
    (e1 : H2[a]? = some (cd.storeRun dp (cs.stretch sp n))) (e2 : H2.size = H.size) (e3 : ∀ q, q ≠ a → H2[q]? = H[q]?) : jx_H E (jx_cp w a0 a sp dp n) H2 := by
  refine ⟨e2.trans h.1, ⟨by rw [e2]; exact h.2.1.1, fun b hb => by rw [e3 b (by omega)]; exact h.2.1.2 b hb⟩, fun b hb => ?_⟩
  have hb2 : jx_k w b ≠ 0 := hb
  by_cases e : b = a
  · subst e
    refine ⟨_, e1, ?_⟩
    show jx_pic E (jx_k w b) (jx_l w b) (fun i => if b = b ∧ dp ≤ i ∧ i < dp + n then jx_v w a0 (sp + (i - dp)) else jx_v w b i) _
    unfold jx_pic
    rw [if_neg (by rw [hk]; decide), hk]
    obtain ⟨d0, d1, d2, d3, d4⟩ := hpd
    obtain ⟨s0, s1, s2, s3, s4⟩ := hps
    obtain ⟨f1, f2, f3, -, -⟩ := Cell.storeRun_facts cd dp (cs.stretch sp n)
    have hlen : (cs.stretch sp n).length = n := by simp [Cell.stretch]
    refine ⟨fun z => by rw [f1]; exact d0 z, by rw [f2]; exact d1, ?_, by rw [f3]; exact d3, fun i hi => ?_⟩
    · obtain ⟨q1, q2⟩ := d2
      exact ⟨by rw [f2]; exact q1, by rw [f1]; exact q2⟩
    · show (cd.storeRun dp (cs.stretch sp n)).slots[i]? = some (if b = b ∧ dp ≤ i ∧ i < dp + n then jx_v w a0 (sp + (i - dp)) else jx_v w b i)
      rw [Cell.storeRun_get _ _ _ _ (by rw [hlen]; exact Nat.le_trans h2 d3.1), hlen]
      by_cases z : dp ≤ i ∧ i < dp + n
      · rw [if_pos z, if_pos ⟨rfl, z⟩]
        unfold Cell.stretch
        rw [List.getElem?_map, List.getElem?_range (by omega)]
        show some (cs.slots.getD (sp + (i - dp)) .null) = _
        rw [Array.getD_eq_getD_getElem?, s4 _ (by omega)]
        rfl
      · rw [if_neg z, if_neg (fun y => z y.2)]
        exact d4 i hi
  · obtain ⟨cell, c1, c2⟩ := h.2.2 b hb2
    refine ⟨cell, by rw [e3 b e]; exact c1, ?_⟩
    have ev : jx_v (jx_cp w a0 a sp dp n) b = jx_v w b := by
      funext i
      show (if b = a ∧ dp ≤ i ∧ i < dp + n then _ else jx_v w b i) = _
      rw [if_neg (fun y => e y.1)]
    rw [ev]
    exact c2
/-- what may be copied into an array of objects -/
def jx_any (E : jx_E) (w : jx_W) (v : Value) : Prop := v = .null ∨ ∃ (b ci : Nat) (q : vw_C), v = .ref b ∧ b < jx_n w ∧ ci < 99 ∧ E.2.2[ci]? = some q ∧ jx_k w b = ci + 1 ∧ (Jvm.Cond.castable q.1 "java/lang/Object").before #[] E.1 = true
theorem jx_copy {E : jx_E} {l : Launch} {Y : jx_Y} {d : Nat} {Q : jx_R → jx_W → Prop} {pc : Nat} {L : List (Option Value)} {st : List Value} {w : jx_W} {idx a0 a sp dp n : Nat} (hd : decode Y.2.2.1 pc = .ok (.invokestatic idx, 3)) (h1 : (Jvm.Cond.methodLink Y.1 idx arraycopyName).before #[] E.1 = true) (h2 : (Jvm.Cond.native arraycopyName).before #[] E.1 = true) (h3 : (Jvm.Cond.static arraycopyName).before #[] E.1 = true) (h4 : (Jvm.Cond.initialized "java/lang/System").before #[] E.1 = true) (hO : (Jvm.Cond.arrayOver (.object "java/lang/Object")).before #[] E.1 = true)
    (hk0 : jx_k w a0 = 105) (hk : jx_k w a = 105) (ho : E.1.heap.size ≤ a) (hs1 : sp + n ≤ jx_l w a0) (hs2 : dp + n ≤ jx_l w a) (hl1 : jx_l w a0 ≤ 1000) (hl2 : jx_l w a ≤ 1000) (hany : ∀ i, i < n → jx_any E w (jx_v w a0 (sp + i))) (hW : (st.map fun v => v.category).sum ≤ 24) (k : jx_G E l Y (d + 1) Q (pc + 3) L st (jx_cp w a0 a sp dp n)) : jx_G E l Y (d + 1) Q pc L (.int (nI n) :: .int (nI dp) :: .ref a :: .int (nI sp) :: .ref a0 :: st) w := by
  intro p e R s m args below meth c H locs cells slots ls C hH hL hq hc hs T hT X
  have hfr := C.fr
  have hlo := C.lo
  obtain ⟨cs, hcs, hps⟩ := hH.2.2 a0 (by rw [hk0]; decide)
  obtain ⟨cd, hcd, hpd⟩ := hH.2.2 a (by rw [hk]; decide)
  have hps := jx_pic_arr (by rw [hk0]; decide) hps
  have hpd := jx_pic_arr (by rw [hk]; decide) hpd
  rw [hk0] at hps
  rw [hk] at hpd
  obtain ⟨s0, s1, s2, s3, s4⟩ := id hps
  obtain ⟨d0, d1, d2, d3, d4⟩ := id hpd
  obtain ⟨comp, cA, kA, g1, -, g3, g4, g5⟩ := Cond.arrayOver_spec (Cond.arrayOver_alike (a' := args) C.warm.alike hO)
  have hnm : ("[" ++ (FieldType.object "java/lang/Object").toString) = "[Ljava/lang/Object;" := by decide +kernel
  rw [hnm, C.warm.alike.findClass] at g5
  have ecs : cs.cls = cA := Option.some.inj ((s0 rfl).symm.trans g5)
  have ecd : cd.cls = cA := Option.some.inj ((d0 rfl).symm.trans g5)
  obtain ⟨kE, hkE⟩ := Vm.classAt_of_findClass g1
  have nneg : ∀ j : Nat, j ≤ 1000 → ¬ nI j < 0 := fun j hj => nI_pos (by omega)
  have ncl : ∀ j : Nat, j ≤ 1000 → (nI j).toNatClampNeg = j := fun j hj => nI_clamp (by omega)
  have nto : ∀ j : Nat, j ≤ 1000 → (nI j).toInt = (j : Int) := fun j hj => by rw [iI_nat, iI_toInt (by omega)]
  obtain ⟨vm2, X2, step⟩ := X.arraycopy C.ex C.own (jx_mv C.warm rfl h1) (jx_mv C.warm rfl h2) (jx_mv C.warm rfl h3) (jx_mv C.warm rfl h4) (src := a0) (dst := a) (cs := cs) (cd := cd) (srcPos := nI sp) (destPos := nI dp) (n := nI n) (by rw [hT]; exact hcs) (by rw [hT]; exact hcd)
    s2.1 d2.1 s1 d1 (by rw [ecs]; exact g3) (by rw [ecd]; exact g3) g4 g4 rfl (nneg sp (by omega)) (nneg dp (by omega)) (nneg n (by omega))
    (by have s31 := s3.1; rw [nto sp (by omega), nto n (by omega)]; omega) (by have d31 := d3.1; rw [nto dp (by omega), nto n (by omega)]; omega)
    (fun vm1 hal i hi => by
      rw [ncl n (by omega)] at hi
      rw [ncl sp (by omega)]
      have ev : cs.slots.getD (sp + i) .null = jx_v w a0 (sp + i) := by
        rw [Array.getD_eq_getD_getElem?, s4 _ (by omega)]
        rfl
      rw [ev]
      rcases hany i hi with z | ⟨b, ci, q, z1, z0, z2, z3, z4, z5⟩
      · rw [z]
        exact ⟨rfl, trivial⟩
      · rw [z1]
        obtain ⟨cb, hcb, hpb⟩ := hH.2.2 b (by rw [z4]; omega)
        rw [z4] at hpb
        obtain ⟨hvb, hclb, -⟩ := jx_pic_obj z2 z3 hpb
        obtain ⟨c0, t0, f1, f2, f3⟩ := Cond.castable_spec (va_Nw.use (A := #[]) rfl (va_Nw.warmC C.warm z5))
        have hfb : s.vm.findClass q.1 = some cb.cls := by rw [hclb, C.warm.alike.findClass]; exact (C.ok ci q z3).1.2.1
        cases hfb.symm.trans f1
        cases f2.symm.trans g1
        obtain ⟨kv, hkv⟩ := Vm.classAt_of_findClass hfb
        obtain ⟨kv2, hkv2, -⟩ := hal.2.2 _ _ hkv
        obtain ⟨kE2, hkE2, -⟩ := hal.2.2 _ _ hkE
        refine ⟨rfl, cb, (show T.heap[b]? = some cb by rw [hT]; exact hcb), (fun k0 e0 => by rw [hvb] at e0; cases e0), ⟨kv2, hkv2⟩, ⟨kE2, hkE2⟩, ?_⟩
        show vm1.assignable _ _ = true
        rw [hal.assignable]
        exact f3)
    (g := F0 m pc ls (.int (nI n) :: .int (nI dp) :: .ref a :: .int (nI sp) :: .ref a0 :: st)) rfl (by rw [hL.1, C.nL]) (rest := st) rfl (by rw [C.code]; exact hd) (by omega) (by show 2 * 0 + _ + _ ≤ _; have hw : nativeFrameWords "java/lang/System" "arraycopy" 5 ≤ 20 := (by decide); omega)
  have hlt : a < H.size := (Array.getElem?_eq_some_iff.mp hcd).1
  have ecp : copied cs cd (nI sp) (nI dp) (nI n) = cd.storeRun dp (cs.stretch sp n) := by
    show cd.storeRun (nI dp).toNatClampNeg (cs.stretch (nI sp).toNatClampNeg (nI n).toNatClampNeg) = _
    rw [ncl sp (by omega), ncl dp (by omega), ncl n (by omega)]
  rw [ecp] at X2 step
  have hheap : ((T.setVm vm2).setCell a (cd.storeRun dp (cs.stretch sp n))).heap = H.setIfInBounds a (cd.storeRun dp (cs.stretch sp n)) := by rw [← hT]; rfl
  have hH2 : jx_H E (jx_cp w a0 a sp dp n) (H.setIfInBounds a (cd.storeRun dp (cs.stretch sp n))) := hH.cp hk0 hk ho hs1 hs2 hps hpd (by simp [Array.getElem?_setIfInBounds, hlt]) (by simp) (fun q hq => by simp [Array.getElem?_setIfInBounds, Ne.symm hq])
  obtain ⟨t, a1, b1⟩ := k p e R s m args below meth c _ _ cells slots ls C hH2 hL (fun q hq2 => by
    rcases List.mem_append.mp hq2 with z | z
    · exact hq q z
    · obtain ⟨y, -, hy⟩ := List.mem_map.mp z
      rw [← hy]
      exact ho) hc hs _ hheap X2
  exact ⟨t, step t a1, b1⟩
/-- what else the law's start knows: the class object of Object[], and its class -/
def jx_B2 (E : jx_E) (mi : Nat) : Prop := va_Mi "[Ljava/lang/Object;" mi E.1 ∧ (Jvm.Cond.arrayOver (.object "java/lang/Object")).before #[] E.1 = true
