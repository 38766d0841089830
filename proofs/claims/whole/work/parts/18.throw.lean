/-! 18.throw: 'throw new E("text")' in a method that does not catch it -/
theorem jx_mvx {E : jx_E} {s : State} {q : Jvm.Cond} {args : Array Value} (hW : E.1.WarmedH s.vm) (hc : jx_good q = true) (h : q.before #[] E.1 = true) : q.before args s = true := by
  unfold jx_good at hc
  simp only [Bool.and_eq_true, Bool.or_eq_true] at hc
  obtain ⟨h1, h2 | h2⟩ := hc
  · exact jx_mv hW (by simp [h1, h2]) h
  · cases q <;> first | (simp at h2; done) | exact va_Nw.use rfl (va_Nw.warmC hW h) | exact va_Nw.use rfl (va_Nw.warmD hW h)
set_option maxHeartbeats 1000000 in
theorem jx_throw {E : jx_E} {l : Launch} {Y : jx_Y} {d : Nat} {Q : jx_R → jx_W → Prop} {pc : Nat} {L : List (Option Value)} {rest : List Value} {w : jx_W} {ik is ic x : Nat} {names : List String}
    (d0 : decode Y.2.2.1 pc = .ok (.new ik, 3)) (d3 : decode Y.2.2.1 (pc + 3) = .ok (.dup, 1)) (d4 : decode Y.2.2.1 (pc + 4) = .ok (.ldc is, 2)) (d6 : decode Y.2.2.1 (pc + 6) = .ok (.invokespecial ic, 3)) (d9 : decode Y.2.2.1 (pc + 9) = .ok (.athrow, 1))
    (hX : jx_X E Y.1 ik is ic x names) (hout : ∀ y ∈ Y.2.2.2.2.2, ¬ (y.1 ≤ pc + 9 ∧ pc + 9 < y.2.1)) (h1 : 1 ≤ jx_c w) (h6 : 6 ≤ jx_s w) (hd : names.length + 4 ≤ d) (hr : (rest.map fun v => v.category).sum ≤ 24)
    (hQ : Q (.inl (x, jx_n w)) (jx_skip w 6)) : jx_G E l Y d Q pc L rest w := by
  intro p e R s m args below meth c H locs cells slots ls C hH hL hq hc hs T hT X
  have htr := C.st
  have hfr := C.fr
  have hlo := C.lo
  have hb := C.code
  obtain ⟨hcls, hnames, hk, hini, ⟨text, sa, hstr⟩, hat, hU, hN⟩ := hX
  have Yx := vx_rebase X (R' := { frames := R.frames, locals := R.locals, cells := 1, slots := 6 }) (Nat.le_refl _) (Nat.le_refl _) (by show cells + 1 ≤ _; omega) (by show slots + 6 ≤ _; omega)
  obtain ⟨s', hA⟩ : ∃ z, z = (T.setVm s.vm).setFrames (.invoking m args :: below) := ⟨_, rfl⟩
  rw [← hA] at Yx
  have hvm : s'.vm = s.vm := by rw [hA]; rfl
  have hhp : s'.heap = H := by rw [hA]; exact hT
  have hWE : E.1.WarmedH s'.vm := by rw [hvm]; exact C.warm
  have hW0 : s.WarmedH s'.vm := by rw [hvm]; exact State.WarmedH.refl s
  have hat' : ∀ w ∈ vx_atS Y.1 ic (jx_xn x) names, w.before args s' = true := fun w hw => jx_mvx hWE (hat w hw).1 (hat w hw).2
  have hk' : (Jvm.Cond.classLink Y.1 ik (jx_xn x)).before args s' = true := jx_mv hWE rfl hk
  have hini' : (Jvm.Cond.initialized (jx_xn x)).before args s' = true := jx_mv hWE rfl hini
  have hold : ∀ a : Nat, a < E.1.heap.size → ¬ (fun q : Nat => E.1.heap.size ≤ q) a → H[a]? = E.1.heap[a]? := fun a ha _ => hH.2.1.2 a ha
  have hU' : vx_Zq Bundle.tN "UNASSIGNED_STACK" Bundle.steD (fun q => E.1.heap.size ≤ q) s' s'.heap := by rw [hhp]; exact vx_Zq.moved hWE.alike (hU.kept hold)
  have hN' : vx_Zq Bundle.tN "SUPPRESSED_SENTINEL" Bundle.listD (fun q => E.1.heap.size ≤ q) s' s'.heap := by rw [hhp]; exact vx_Zq.moved hWE.alike (hN.kept hold)
  have h : ∀ w ∈ Bundle.ownAtoms Y.1 ic (jx_xn x) names, w.before args s' = true := vx_own hat' (vx_isRefq hU'.1) (vx_isRefq hN'.1) hU'.2.word hN'.2.word
  have hown' : s'.vm.findClass Y.1 = some m.cls := by rw [hvm]; exact C.own
  have hins : (Jvm.Cond.instantiable (jx_xn x) 6).before args s' = true := h _ (by simp [Bundle.ownAtoms])
  have hsize : ls.size = c.maxLocals := by rw [hL.1, C.nL]
  obtain ⟨vm₁, cX, kX, hfX, hkX, -, -, X₁, st1⟩ := Yx.newCold C.ex (own := Y.1) (C := jx_xn x) (index := ik) (n := 6) hown' hk' hins hini'
    (g := F0 m pc ls rest) rfl (by rw [hb]; exact d0) (Nat.le_refl _) (Nat.le_refl _)
  generalize hT1 : (T.setVm vm₁).pushCell { cls := cX, slots := kX.instanceTypes.map defaultValue, vm := .none } = T1 at X₁ st1
  have hcat : (Value.ref T.heap.size).category = 1 := rfl
  have hcellA : T1.heap[T.heap.size]? = some (freshCell cX kX) := by rw [← hT1]; exact State.heap_pushCell_size _ _
  have d3' : decode c.code (pc + 3) = .ok (.dup, 1) := by rw [hb]; exact d3
  have d4' : decode c.code (pc + 4) = .ok (.ldc is, 2) := by rw [hb]; exact d4
  have hstr' : vk_R Y.1 is text sa s' := vk_R.warm hWE hstr
  obtain ⟨U, hsteps, hrun, hend, hW, hsame, ce, hce, hO⟩ := X₁.ctorThrowS C.ex htr (own := Y.1) (cls := jx_xn x) (names := names) (ic := ic) hown' hcls hnames h (fun x hx => nomatch hx) hfX hkX hcellA (by rw [hhp, hT]; exact Nat.le_refl _) (msg := .ref sa) rfl
    (g := { method := m, pc := pc + 6, locals := ls, stack := .ref sa :: .ref T.heap.size :: .ref T.heap.size :: rest, locked := none }) rfl hsize rfl rfl (rest := rest) rfl
    (by rw [hb]; exact d6) (by rw [hb]; exact d9) (fun y hy => by
      cases hcv : covers y (pc + 6 + 3) with
      | false => rfl
      | true => exact absurd (jx_cov.mp hcv) (hout _ (by rw [← C.tab]; exact List.mem_map.mpr ⟨y, hy, rfl⟩))) (by show names.length + 3 < R.frames; omega) (by show 2 * 0 + ((Value.ref T.heap.size :: rest).map fun v => v.category).sum + (13 * (names.length + 1) + 42) ≤ R.locals; simp only [List.map_cons, List.sum_cons, hcat]; omega) C.locks
  obtain ⟨f1, f2⟩ := vx_frame hsame
  have hup : U.heap.size ≤ s'.heap.size + (0 + 1) := hsame.2.2.1
  rw [hhp] at f1 f2 hup
  have hlt : T.heap.size < U.heap.size := (Array.getElem?_eq_some_iff.mp hce).1
  rw [hT] at hlt hce
  have hn := hH.1
  have hus : U.heap.size = jx_n w + 1 := by omega
  have hWs : s.WarmedH U.vm := State.WarmedH.trans hW0 hW
  have hcl : E.1.vm.findClass (jx_xn x) = some ce.cls := by
    have h9 := hO.cls
    rw [hWE.alike.findClass] at h9
    exact h9
  have hall : s.sameButNew ({ U with vm := s.vm } : State) locs (cells + 1) (slots + 6) := by
    subst hA
    obtain ⟨e1, e2⟩ := hsame
    rw [State.setFrames_setFrames] at e1
    have h2 : (T.setVm s.vm).sameButNew ({ U with vm := s.vm } : State) [] (0 + 1) (0 + 6) := ⟨e1, e2⟩
    have h3 := X.same.trans h2
    rw [List.append_nil] at h3
    exact h3.mono (by omega) (by omega)
  refine ⟨U, ?_, .threw H.size, .inl (x, jx_n w), jx_skip w 6, locs, cells + 1, slots + 6, hrun, by rw [← hT]; exact hend, hQ, ⟨by rw [hn], by rw [← hn]; exact hH.2.1.1, ce, by rw [← hn]; exact hce, by rw [hO.vm]; rfl, hcl⟩, hH.skip hus (fun b hb => f2 b (by omega) (fun z hz => nomatch hz)), hWs, hall, hq, by show cells + 1 + (jx_c w - 1) ≤ _; omega, by show slots + 6 + (jx_s w - 6) ≤ _; omega⟩
  refine st1 _ ?_
  show Steps p.tables e below (T1.setTop { method := m, pc := pc + 3, locals := ls, stack := .ref T.heap.size :: rest, locked := none }) _
  jvm_step X₁.here [X₁.here.top, C.ex, d3', Value.category]
  exact X₁.ldcString C.ex (own := Y.1) (text := text) (index := is) (a := sa) hown' hstr'.1 hstr'.2
    (g := { method := m, pc := pc + 4, locals := ls, stack := .ref T.heap.size :: .ref T.heap.size :: rest, locked := none }) rfl d4' _ hsteps
