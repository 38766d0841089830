/-! 20.more: constants, Math.max and min, casts, statics, arrays of references, booleans -/
section JXM
variable {E : jx_E} {l : Launch} {Y : jx_Y} {d : Nat} {Q : jx_R → jx_W → Prop} {pc : Nat} {L : List (Option Value)} {st : List Value} {w : jx_W}
theorem jx_ldc {idx : Nat} {v : Int32} (hd : decode Y.2.2.1 pc = .ok (.ldc idx, 2)) (hk : (Jvm.Cond.constant Y.1 idx v).before #[] E.1 = true) (k : jx_G E l Y d Q (pc + 2) L (.int v :: st) w) : jx_G E l Y d Q pc L st w := by
  intro p e R s m args below meth c H locs cells slots ls C hH hL hq hc hs
  exact lv_ldc C.ex C.code C.own (jx_mv C.warm rfl hk) hd (k p e R s m args below meth c H locs cells slots ls C hH hL hq hc hs)
theorem jx_ldc2 {idx : Nat} {v : Int64} (hd : decode Y.2.2.1 pc = .ok (.ldc2_w idx, 3)) (hk : (Jvm.Cond.constantLong Y.1 idx v).before #[] E.1 = true) (k : jx_G E l Y d Q (pc + 3) L (.long v :: st) w) : jx_G E l Y d Q pc L st w := by
  intro p e R s m args below meth c H locs cells slots ls C hH hL hq hc hs
  exact lv_ldc2 C.ex C.code C.own (jx_mv C.warm rfl hk) hd (k p e R s m args below meth c H locs cells slots ls C hH hL hq hc hs)
theorem jx_mmax {idx : Nat} {x y : Int32} (hd : decode Y.2.2.1 pc = .ok (.invokestatic idx, 3)) (h1 : (Jvm.Cond.methodLink Y.1 idx Lib.Math.max.name).before #[] E.1 = true) (h2 : (Jvm.Cond.static Lib.Math.max.name).before #[] E.1 = true) (h3 : (Jvm.Cond.initialized "java/lang/Math").before #[] E.1 = true) (h4 : (Jvm.Cond.code Lib.Math.max.name Lib.Math.max.code 2 (some .int)).before #[] E.1 = true) (hW : (st.map fun v => v.category).sum ≤ 24) (k : jx_G E l Y (d + 1) Q (pc + 3) L (.int (if x < y then y else x) :: st) w) : jx_G E l Y (d + 1) Q pc L (.int y :: .int x :: st) w := by
  intro p e R s m args below meth c H locs cells slots ls C hH hL hq hc hs
  have hfr1 := C.fr
  have hlo1 := C.lo
  exact va_mmax C.ex C.code (by rw [hL.1, C.nL]) C.own (jx_mv C.warm rfl h1) (jx_mv C.warm rfl h2) (jx_mv C.warm rfl h3) (jx_mv C.warm rfl h4) (by omega) (by omega) (by omega) (by omega) hd (k p e R s m args below meth c H locs cells slots ls C hH hL hq hc hs)
theorem jx_mmin {idx : Nat} {x y : Int32} (hd : decode Y.2.2.1 pc = .ok (.invokestatic idx, 3)) (h1 : (Jvm.Cond.methodLink Y.1 idx Lib.Math.min.name).before #[] E.1 = true) (h2 : (Jvm.Cond.static Lib.Math.min.name).before #[] E.1 = true) (h3 : (Jvm.Cond.initialized "java/lang/Math").before #[] E.1 = true) (h4 : (Jvm.Cond.code Lib.Math.min.name Lib.Math.min.code 2 (some .int)).before #[] E.1 = true) (hW : (st.map fun v => v.category).sum ≤ 24) (k : jx_G E l Y (d + 1) Q (pc + 3) L (.int (if y < x then y else x) :: st) w) : jx_G E l Y (d + 1) Q pc L (.int y :: .int x :: st) w := by
  intro p e R s m args below meth c H locs cells slots ls C hH hL hq hc hs
  have hfr1 := C.fr
  have hlo1 := C.lo
  exact va_mmin C.ex C.code (by rw [hL.1, C.nL]) C.own (jx_mv C.warm rfl h1) (jx_mv C.warm rfl h2) (jx_mv C.warm rfl h3) (jx_mv C.warm rfl h4) (by omega) (by omega) (by omega) (by omega) hd (k p e R s m args below meth c H locs cells slots ls C hH hL hq hc hs)
/-- a cast of an object of one of the classes -/
theorem jx_cast {idx a ci : Nat} {q : vw_C} {nm : String} (hd : decode Y.2.2.1 pc = .ok (.checkcast idx, 3)) (h1 : (Jvm.Cond.classLink Y.1 idx nm).before #[] E.1 = true) (h2 : (Jvm.Cond.castable q.1 nm).before #[] E.1 = true) (hci : ci < 99) (hq0 : E.2.2[ci]? = some q) (hk : jx_k w a = ci + 1) (k : jx_G E l Y d Q (pc + 3) L (.ref a :: st) w) : jx_G E l Y d Q pc L (.ref a :: st) w := by
  intro p e R s m args below meth c H locs cells slots ls C hH hL hq hc hs
  obtain ⟨cell, hcell, hpic⟩ := hH.2.2 a (by rw [hk]; omega)
  rw [hk] at hpic
  obtain ⟨hvm, hcls, -⟩ := jx_pic_obj hci hq0 hpic
  have hfc : s.vm.findClass q.1 = some cell.cls := by rw [hcls, C.warm.alike.findClass]; exact (C.ok ci q hq0).1.2.1
  exact va_castY C.ex C.code C.own (jx_mv C.warm rfl h1) (va_Nw.warmC C.warm h2) ⟨cell, hcell, by rw [hvm]; rfl, hfc⟩ hd (k p e R s m args below meth c H locs cells slots ls C hH hL hq hc hs)
theorem jx_acmpeq {x y : Nat} {off : Int} {tgt : Nat} (hd : decode Y.2.2.1 pc = .ok (.if_acmp .eq off, 3)) (ht : (pc : Int) + off = (tgt : Int)) (kt : x = y → jx_G E l Y d Q tgt L st w) (kf : ¬ x = y → jx_G E l Y d Q (pc + 3) L st w) : jx_G E l Y d Q pc L (.ref y :: .ref x :: st) w := by
  intro p e R s m args below meth c H locs cells slots ls C hH hL hq hc hs
  exact lv_acmp_eq (rx := some x) (ry := some y) C.ex C.code hd ht (fun z => kt (Option.some.inj z) p e R s m args below meth c H locs cells slots ls C hH hL hq hc hs) (fun z => kf (fun h => z (congrArg some h)) p e R s m args below meth c H locs cells slots ls C hH hL hq hc hs)
theorem jx_acmpne {x y : Nat} {off : Int} {tgt : Nat} (hd : decode Y.2.2.1 pc = .ok (.if_acmp .ne off, 3)) (ht : (pc : Int) + off = (tgt : Int)) (kt : ¬ x = y → jx_G E l Y d Q tgt L st w) (kf : x = y → jx_G E l Y d Q (pc + 3) L st w) : jx_G E l Y d Q pc L (.ref y :: .ref x :: st) w := by
  intro p e R s m args below meth c H locs cells slots ls C hH hL hq hc hs
  exact lv_acmp_ne (rx := some x) (ry := some y) C.ex C.code hd ht (fun z => kt (fun h => z (congrArg some h)) p e R s m args below meth c H locs cells slots ls C hH hL hq hc hs) (fun z => kf (Option.some.inj z) p e R s m args below meth c H locs cells slots ls C hH hL hq hc hs)
theorem jx_dup_x1 {va vb : Value} (hd : decode Y.2.2.1 pc = .ok (.dup_x1, 1)) (ha : va.category = 1) (hb : vb.category = 1) (k : jx_G E l Y d Q (pc + 1) L (va :: vb :: va :: st) w) : jx_G E l Y d Q pc L (va :: vb :: st) w := by
  intro p e R s m args below meth c H locs cells slots ls C hH hL hq hc hs
  exact lv_dup_x1 C.ex C.code hd ha hb (k p e R s m args below meth c H locs cells slots ls C hH hL hq hc hs)
theorem jx_iushr {x y v : Int32} (hd : decode Y.2.2.1 pc = .ok (.iushr, 1)) (hv : (x.toUInt32 >>> (y.toUInt32 &&& Int32.toUInt32 31)).toInt32 = v) (k : jx_G E l Y d Q (pc + 1) L (.int v :: st) w) : jx_G E l Y d Q pc L (.int y :: .int x :: st) w := by
  intro p e R s m args below meth c H locs cells slots ls C hH hL hq hc hs
  exact lv_iushr C.ex C.code hd hv (k p e R s m args below meth c H locs cells slots ls C hH hL hq hc hs)
/-- a static of one of the classes that were there at the law's start -/
theorem jx_gets {idx : Nat} {Cn n ds : String} {v : Value} (hd : decode Y.2.2.1 pc = .ok (.getstatic idx, 3)) (h1 : (Jvm.Cond.fieldLink Y.1 idx Cn n ds).before #[] E.1 = true) (hZ : va_Z Cn n ds v (fun q => E.1.heap.size ≤ q) E.1 E.1.heap) (k : jx_G E l Y d Q (pc + 3) L (v :: st) w) : jx_G E l Y d Q pc L st w := by
  intro p e R s m args below meth c H locs cells slots ls C hH hL hq hc hs
  obtain ⟨cf, kf, fi, f, a, cell, z1, z2, z3, z4, z5, z6, z7, z8⟩ := va_Z.moved C.warm.alike hZ
  exact W.gets C.ex C.code C.own (jx_mv C.warm rfl h1) z1 z2 z3 z4 (by rw [hH.2.1.2 a (Array.getElem?_eq_some_iff.mp z5).1]; exact z5) (fun e0 => by rw [e0] at z6; cases z6) z7 rfl hd (k p e R s m args below meth c H locs cells slots ls C hH hL hq hc hs)
/-- storing an object of one of the classes into an Object[] -/
theorem jx_aast {a b ci : Nat} {j : Int32} {q : vw_C} (hd : decode Y.2.2.1 pc = .ok (.aastore, 1)) (hk : jx_k w a = 105) (hin : vp_in j (jx_l w a)) (ho : E.1.heap.size ≤ a) (hci : ci < 99) (hq0 : E.2.2[ci]? = some q) (hkb : jx_k w b = ci + 1) (hO : (Jvm.Cond.arrayOver (.object "java/lang/Object")).before #[] E.1 = true) (hcast : (Jvm.Cond.castable q.1 "java/lang/Object").before #[] E.1 = true) (K : jx_G E l Y d Q (pc + 1) L st (jx_put w a j.toNatClampNeg (.ref b))) : jx_G E l Y d Q pc L (.ref b :: .int j :: .ref a :: st) w := by
  intro p e R s m args below meth c H locs cells slots ls C hH hL hq hc hs
  obtain ⟨cell, hcell, hpic⟩ := hH.2.2 a (by rw [hk]; decide)
  have hpa := jx_pic_arr (by rw [hk]; decide) hpic
  obtain ⟨h0, h1, h2, h3, h4⟩ := id hpa
  obtain ⟨cb, hcb, hpb⟩ := hH.2.2 b (by rw [hkb]; omega)
  rw [hkb] at hpb
  obtain ⟨hvb, hclb, -⟩ := jx_pic_obj hci hq0 hpb
  obtain ⟨c0, t0, f1, f2, f3⟩ := Cond.castable_spec (va_Nw.use (A := #[]) rfl (va_Nw.warmC C.warm hcast))
  have hfb : s.vm.findClass q.1 = some cb.cls := by rw [hclb, C.warm.alike.findClass]; exact (C.ok ci q hq0).1.2.1
  cases hfb.symm.trans f1
  obtain ⟨comp, cA, kA, g1, -, g3, g4, g5⟩ := Cond.arrayOver_spec (Cond.arrayOver_alike (a' := args) C.warm.alike hO)
  cases f2.symm.trans g1
  have hnm : ("[" ++ (FieldType.object "java/lang/Object").toString) = "[Ljava/lang/Object;" := by decide +kernel
  rw [hnm, C.warm.alike.findClass, h0 hk] at g5
  cases g5
  obtain ⟨kcomp, hkcomp⟩ := Vm.classAt_of_findClass g1
  obtain ⟨kv, hkv⟩ := Vm.classAt_of_findClass hfb
  have hin2 : ¬ j < 0 ∧ j.toNatClampNeg < cell.slots.size := ⟨fun z => hin (Or.inl z), Nat.lt_of_lt_of_le (Nat.not_le.mp (fun z => hin (Or.inr z))) h3.1⟩
  refine W.aast C.ex C.code hcell h2.1 h1 g3 g4 rfl hkcomp hin2 hcb (fun k0 e0 => by rw [hvb] at e0; cases e0) hkv f3 rfl rfl hd fun H2 e1 e2 e3 => ?_
  exact K p e R s m args below meth c H2 _ cells slots ls C (hH.putA (by rw [hk]; decide) (by unfold vp_in at hin; omega) ho hcell hpa e1 e2 e3) hL (jx_locs hq ho) hc hs
theorem jx_aastN {a : Nat} {j : Int32} (hd : decode Y.2.2.1 pc = .ok (.aastore, 1)) (hk : jx_k w a = 105) (hin : vp_in j (jx_l w a)) (ho : E.1.heap.size ≤ a) (K : jx_G E l Y d Q (pc + 1) L st (jx_put w a j.toNatClampNeg .null)) : jx_G E l Y d Q pc L (.null :: .int j :: .ref a :: st) w := by
  intro p e R s m args below meth c H locs cells slots ls C hH hL hq hc hs
  obtain ⟨cell, hcell, hpic⟩ := hH.2.2 a (by rw [hk]; decide)
  have hpa := jx_pic_arr (by rw [hk]; decide) hpic
  obtain ⟨h0, h1, h2, h3, h4⟩ := id hpa
  rw [hk] at h2
  have hin2 : ¬ (j < 0 ∨ cell.slots.size ≤ j.toNatClampNeg) := fun z => (show ¬ (j < 0 ∨ jx_l w a ≤ j.toNatClampNeg) from hin) (z.imp id (fun q => Nat.le_trans h3.1 q))
  refine va_WaastN (C := "java/lang/Object") C.ex C.code hcell (State.isArrayOf_alike C.warm.alike h2) h1 hin2 rfl rfl hd fun H2 e1 e2 e3 => ?_
  exact K p e R s m args below meth c H2 _ cells slots ls C (hH.putA (by rw [hk]; decide) (by unfold vp_in at hin; omega) ho hcell hpa e1 e2 e3) hL (jx_locs hq ho) hc hs
theorem jx_zast {a : Nat} {j x : Int32} (hd : decode Y.2.2.1 pc = .ok (.bastore, 1)) (hk : jx_k w a = 102) (hin : vp_in j (jx_l w a)) (ho : E.1.heap.size ≤ a) (hx : narrow .boolean (.int x) = .int x) (K : jx_G E l Y d Q (pc + 1) L st (jx_put w a j.toNatClampNeg (.int x))) : jx_G E l Y d Q pc L (.int x :: .int j :: .ref a :: st) w := by
  intro p e R s m args below meth c H locs cells slots ls C hH hL hq hc hs
  obtain ⟨cell, hcell, hpic⟩ := hH.2.2 a (by rw [hk]; decide)
  have hpa := jx_pic_arr (by rw [hk]; decide) hpic
  obtain ⟨h0, h1, h2, h3, h4⟩ := id hpa
  rw [hk] at h2
  have hin2 : ¬ (j < 0 ∨ cell.slots.size ≤ j.toNatClampNeg) := fun z => (show ¬ (j < 0 ∨ jx_l w a ≤ j.toNatClampNeg) from hin) (z.imp id (fun q => Nat.le_trans h3.1 q))
  refine W.zast C.ex C.code hcell (State.isArrayOf_alike C.warm.alike h2) h1 hin2 rfl rfl hd fun H2 e1 e2 e3 => ?_
  rw [hx] at e1
  exact K p e R s m args below meth c H2 _ cells slots ls C (hH.putA (by rw [hk]; decide) (by unfold vp_in at hin; omega) ho hcell hpa e1 e2 e3) hL (jx_locs hq ho) hc hs
/-- new Object[n] -/
theorem jx_anew {idx N : Nat} {n : Int32} (hd : decode Y.2.2.1 pc = .ok (.anewarray idx, 3)) (h1 : (Jvm.Cond.classLink Y.1 idx "java/lang/Object").before #[] E.1 = true) (hO : (Jvm.Cond.arrayOver (.object "java/lang/Object")).before #[] E.1 = true) (hn : ¬ n < 0) (hN : n.toNatClampNeg = N) (hb : N * 4 ≤ 536870912) (hc1 : 1 ≤ jx_c w) (hs1 : N ≤ jx_s w) (K : jx_G E l Y d Q (pc + 3) L (.ref (jx_n w) :: st) (jx_new w 105 N N (fun _ => .null))) : jx_G E l Y d Q pc L (.int n :: st) w := by
  intro p e R s m args below meth c H locs cells slots ls C hH hL hq hc hs
  subst hN
  refine W.anew C.ex C.code C.own (jx_mv C.warm rfl h1) (Cond.arrayOver_alike C.warm.alike hO) rfl hd rfl hn hb (by omega) (by omega) fun cA kA comp g1 g2 g3 g4 => ?_
  have hnm : ("[" ++ (FieldType.object "java/lang/Object").toString) = "[Ljava/lang/Object;" := by decide +kernel
  rw [hnm, C.warm.alike.findClass] at g1
  rw [hH.1]
  refine K p e R s m args below meth c _ locs (cells + 1) (slots + n.toNatClampNeg) ls C (hH.born (cell := { cls := cA, slots := Array.replicate n.toNatClampNeg .null, vm := .none }) ?_ ?_ ?_ ?_) hL hq (by show cells + 1 + (jx_c w - 1) ≤ _; omega) (by show slots + n.toNatClampNeg + (jx_s w - n.toNatClampNeg) ≤ _; omega)
  · rw [← hH.1]; simp
  · unfold jx_pic
    rw [if_neg (by decide)]
    refine ⟨fun _ => g1, (by intro z; cases z), ?_, ⟨by simp, by simp⟩, fun j hj => by simp [hj]⟩
    refine State.isArrayOf_alike C.warm.alike.symm ⟨(by intro k0 z; cases z), kA, g2, comp, g3⟩
  · rw [← hH.1]; simp
  · intro q hq
    rw [Array.getElem?_push, if_neg (by rw [hH.1]; omega)]
end JXM
