/-! 16.calls: the six kinds of a call; the throw -/
section JXF
variable {E : jx_E} {l : Launch} {Y Z : jx_Y} {d n : Nat} {Q Qz : jx_R → jx_W → Prop} {pc : Nat} {L : List (Option Value)} {rest As : List Value} {w : jx_W} {z : MethodName}
theorem jx_fin {p : Program} {e : Env} {R : Room} {s : State} {m : MethodId} {args : Array Value} {below : List Frame} {meth : Method} {c : Code} {H : Heap} {locs : List Loc} {cells slots : Nat} {ls : Array Slot} {U : State} {mk : MethodId} {ig : Instr}
    (C : jx_C E Y (d + 1) p e R s m meth c) (hM : jx_M E z Z n) (hlen : (jx_fl As).length ≤ Z.2.2.2.1) (hz : jx_G E l Z d Qz 0 (jx_ent As Z.2.2.2.1) [] w)
    (kr : ∀ v w', Qz (.inr v) w' → jx_G E l Y (d + 1) Q (pc + 3) L (v.toList ++ rest) w') (kt : ∀ x a w', Qz (.inl (x, a)) w' → jx_T E l Y (d + 1) Q pc L x a w')
    (X : Stand p l e R s m args below meth c U locs cells slots) (hU : U.heap = H) (hH : jx_H E w H) (hL : jx_L ls Y.2.2.2.1 L) (hq : ∀ q ∈ locs, E.1.heap.size ≤ q.base) (hc : cells + jx_c w ≤ R.cells) (hs : slots + jx_s w ≤ R.slots) (hdg : decode c.code pc = .ok (ig, 3)) (hW : (rest.map fun v => v.category).sum ≤ 24) (hn : U.methodNamed? z = some mk) :
    ∃ t, Steps p.tables e below (doInvoke e (U.setTop (F0 m pc ls rest)) [] mk As.toArray).1 t ∧ jx_P E R s below Q t := by
  subst hU
  have hst : l.stackTraces = false := (show e.platform.stackTraces = l.stackTraces by rw [X.admits.platform]).symm.trans C.st
  have hMet := jx_met hM C.ok hlen hst hz
  obtain ⟨hpn, hcl, hnm, hcw, hini, hnl, hmh, hpar⟩ := hM
  have hWU : E.1.WarmedH U.vm := State.WarmedH.trans C.warm X.warmed
  have hcwU : (jx_cw z Z).before As.toArray U = true := jx_mv hWU (jx_cw_ok z Z) hcw
  obtain ⟨methY, cY, hmY, hcY, -, hlY, -, -, -, -⟩ := jx_cw_spec hcwU hn
  obtain ⟨kY, hkY, -⟩ := className_of_methodNamed hn
  have hinitY : kY.init = .initialized := Cond.initialized_spec (findClass_of_methodNamed hn) hkY (jx_mv (args := As.toArray) hWU rfl hini)
  have h : At U (F0 m pc ls rest).method c below := X.here
  have hfr1 := C.fr
  have hlo1 := C.lo
  have hroom : (U.calling (F0 m pc ls rest) mk As.toArray).hasRoom e.platform (jx_room d w) = true :=
    X.room_calling (g := F0 m pc ls rest) (R' := jx_room d w) (by show ls.size = _; rw [hL.1, C.nL]) hmY hcY (by show d + 1 ≤ _; omega) (by rw [hlY]; show 2 * 0 + (rest.map fun v => v.category).sum + (Z.2.2.2.1 + 11) + 80 * d ≤ _; omega) hc hs
  have happ : (headSpec [jx_cw z Z] (jx_room d w)).appliesLoose z e.platform (U.calling (F0 m pc ls rest) mk As.toArray) = true :=
    Spec.appliesLoose_calling (g := F0 m pc ls rest) h hdg hn hkY hinitY hroom (atoms_intro (ws := [jx_cw z Z]) (fun q hq => by rw [List.mem_singleton] at hq; subst hq; exact hcwU))
  obtain ⟨mid, hmid⟩ := h.above
  have hfr : (U.setTop (F0 m pc ls rest)).frames = (.java (F0 m pc ls rest) :: mid) ++ below := by rw [State.frames_setTop' _ h.top, hmid]; rfl
  obtain ⟨o, s₂, hsteps, hrun, hend, hq'⟩ := Steps.callFree hMet p X.admits X.cas X.clock (acts := []) hfr happ ⟨rfl, hWU, hH.2.1, hH⟩ trivial
  rw [State.frames_setTop' _ h.top] at hend
  obtain ⟨r, w', L', k', n', hQ, hout, hH', hWm, hsame, hfree, hk', hn'⟩ := hq'
  obtain ⟨X', hfs⟩ := jx_there X hWm hsame
  have hlocs : ∀ q ∈ locs ++ L', E.1.heap.size ≤ q.base := by
    intro q hm
    rcases List.mem_append.mp hm with h1 | h1
    · exact hq q h1
    · exact hfree q h1
  have hcc : cells + k' + jx_c w' ≤ R.cells := by omega
  have hss : slots + n' + jx_s w' ≤ R.slots := by omega
  obtain ⟨g₀, hg0⟩ := Option.isSome_iff_exists.mp X.here.top
  obtain ⟨r0, hr⟩ := State.topJava?_eq_some.mp hg0
  have hr' : (({ U with heap := s₂.heap, slotsUsed := s₂.slotsUsed } : State).setVm s₂.vm).frames = .java g₀ :: r0 := hr
  cases r with
  | inr v =>
    have ho : o = .returned v := hout
    subst ho
    obtain ⟨c₂, i₂, len₂, hc₂, hd₂, hf₂⟩ := hend
    have hce : c₂ = c := by
      have h1 : s₂.code? m = U.code? m := by
        have hWq : U.WarmedH s₂.vm := hWm
        rw [State.code?_eq, State.code?_eq, hWq.alike.method?]
      exact Option.some.inj (hc₂.symm.trans (h1.trans h.code))
    subst hce
    have hl3 : len₂ = 3 := by rw [hdg] at hd₂; cases hd₂; rfl
    subst hl3
    have ht : s₂ = (({ U with heap := s₂.heap, slotsUsed := s₂.slotsUsed } : State).setVm s₂.vm).setTop (F0 m (pc + 3) ls (v.toList ++ rest)) := by
      rw [State.setTop_of_frames _ hr']
      refine (hfs _ hf₂).trans ?_
      rw [hr]
      rfl
    obtain ⟨t, a1, b1⟩ := kr v w' hQ p e R s m args below meth _ s₂.heap (locs ++ L') (cells + k') (slots + n') ls C hH' hL hlocs hcc hss (({ U with heap := s₂.heap, slotsUsed := s₂.slotsUsed } : State).setVm s₂.vm) rfl X'
    rw [← ht] at a1
    exact ⟨t, hsteps.trans a1, b1⟩
  | inl xa =>
    obtain ⟨x, a⟩ := xa
    obtain ⟨ho, hage, cell, hcell, hobj, hxc⟩ := hout
    subst ho
    have hf₂ : s₂.frames = .throwing a :: .java (F0 m pc ls rest) :: U.frames.tail := hend
    have ht : s₂ = ((({ U with heap := s₂.heap, slotsUsed := s₂.slotsUsed } : State).setVm s₂.vm).setTop (F0 m pc ls rest)).pushFrame (.throwing a) := by
      rw [State.pushFrame, State.frames_setTop _ hr', State.setTop_of_frames _ hr', State.setFrames_setFrames]
      refine (hfs _ hf₂).trans ?_
      rw [hr]
      rfl
    rcases kt x a w' hQ with ⟨hnone, hQ2⟩ | ⟨pre, hh, tl, e1, e2, e3, kg⟩
    · obtain ⟨st, f1, f2, f3, f4⟩ := X'.leaveThrown a (g := F0 m pc ls rest) rfl rfl rfl (fun y hy => by
        cases hcv : covers y pc with
        | false => rfl
        | true => exact absurd (jx_cov.mp hcv) (hnone _ (by rw [← C.tab]; exact List.mem_map.mpr ⟨y, hy, rfl⟩))) C.locks
      rw [← ht] at st
      exact ⟨_, hsteps.trans st, .threw a, .inl (x, a), w', locs ++ L', cells + k', slots + n', f1, f2, hQ2, ⟨rfl, hage, cell, hcell, hobj, hxc⟩, hH', f3, f4, hlocs, hcc, hss⟩
    · obtain ⟨vm', X'', st⟩ := jx_caught X' (g := F0 m pc ls rest) rfl C.warm C.own hcell hobj hxc (C.tab.trans e1) e2 e3
      obtain ⟨t, a1, b1⟩ := kg p e R s m args below meth c s₂.heap (locs ++ L') (cells + k') (slots + n') ls C hH' hL hlocs hcc hss ((({ U with heap := s₂.heap, slotsUsed := s₂.slotsUsed } : State).setVm s₂.vm).setVm vm') rfl X''
      have a2 := st t a1
      rw [← ht] at a2
      exact ⟨t, hsteps.trans a2, b1⟩
theorem jx_callV {idx b ci : Nat} {q : vw_C} (hd : decode Y.2.2.1 pc = .ok (.invokevirtual idx, 3)) (hM : jx_M E z Z n) (hV : jx_V E Y.1 idx z q.1) (hci : ci < 99) (hq0 : E.2.2[ci]? = some q) (hk : jx_k w b = ci + 1) (hn : As.length = n) (hlen : (jx_fl (.ref b :: As)).length ≤ Z.2.2.2.1) (hW : (rest.map fun v => v.category).sum ≤ 24)
    (hz : jx_G E l Z d Qz 0 (jx_ent (.ref b :: As) Z.2.2.2.1) [] w) (kr : ∀ v w', Qz (.inr v) w' → jx_G E l Y (d + 1) Q (pc + 3) L (v.toList ++ rest) w') (kt : ∀ x a w', Qz (.inl (x, a)) w' → jx_T E l Y (d + 1) Q pc L x a w') : jx_G E l Y (d + 1) Q pc L (As.reverse ++ .ref b :: rest) w := by
  intro p e R s m args below meth c H locs cells slots ls C hH hL hq hc hs T hT X
  obtain ⟨hlink, hinst, hsel⟩ := hV
  obtain ⟨cell, hcell, hpic⟩ := hH.2.2 b (by rw [hk]; omega)
  rw [hk] at hpic
  obtain ⟨hvm, hcls, -⟩ := jx_pic_obj hci hq0 hpic
  have hfcE := (C.ok ci q hq0).1.2.1
  have hfc : s.vm.findClass q.1 = some cell.cls := by rw [hcls, C.warm.alike.findClass]; exact hfcE
  obtain ⟨mk, methM, hnamed, hmethM, hstM, habM⟩ := Cond.instanceMethod_spec (jx_mv (args := args) C.warm rfl hinst)
  obtain ⟨methM', cM, hmethM', -, -, -, -, -, -, hsigM⟩ := jx_cw_spec (jx_mv (args := args) C.warm (jx_cw_ok z Z) hM.2.2.2.1) hnamed
  cases hmethM.symm.trans hmethM'
  have hy := hM.2.2.2.2.2.2.1
  obtain ⟨c2, r2, m2, q1, q2, q3, q4, kP, hkP, hkPi⟩ := Cond.selects_spec (jx_mv (args := args) C.warm rfl hsel)
  cases hfc.symm.trans q1
  cases (State.methodFound?_of_named hnamed hy).symm.trans q2
  cases hnamed.symm.trans q3
  have hselP : selectMethod e.platform s.vm cell.cls mk = .method mk := by rw [Launch.admits_selectMethod X.admits]; exact q4
  have hln : As.length = methM.sig.parameters.length := by
    have h2 := hM.2.2.2.2.2.2.2
    rw [hsigM] at h2
    rw [hn]
    exact (Option.some.inj h2).symm
  have first : ∃ vm₁, Stand p l e R s m args below meth c (T.setVm vm₁) locs cells slots ∧ ∀ target, (∀ acts, Steps p.tables e below (doInvoke e ((T.setVm vm₁).setTop (F0 m pc ls rest)) acts mk (.ref b :: As).toArray).1 target) → Steps p.tables e below (T.setTop (F0 m pc ls (As.reverse ++ .ref b :: rest))) target := by
    rcases hlink with h | ⟨host, h⟩
    · exact X.invokevirtual C.ex C.own (jx_mv C.warm rfl h) hnamed hmethM hstM hkP hkPi hy (a := b) (cell := cell) (by rw [hT]; exact hcell) (fun k0 h0 => by rw [hvm] at h0; cases h0) hselP hmethM habM hkP hkPi (g := F0 m pc ls (As.reverse ++ .ref b :: rest)) rfl (argsL := As) (rest := rest) hln rfl (by rw [C.code]; exact hd)
    · exact X.invokevirtualNest C.ex C.own (jx_mv C.warm rfl h) hnamed hmethM hstM hkP hkPi hy (a := b) (cell := cell) (by rw [hT]; exact hcell) (fun k0 h0 => by rw [hvm] at h0; cases h0) hselP hmethM habM hkP hkPi (g := F0 m pc ls (As.reverse ++ .ref b :: rest)) rfl (argsL := As) (rest := rest) hln rfl (by rw [C.code]; exact hd)
  obtain ⟨vm₁, X₁, st⟩ := first
  obtain ⟨t, a1, b1⟩ := jx_fin (H := H) (U := T.setVm vm₁) (mk := mk) C hM hlen hz kr kt X₁ hT hH hL hq hc hs (by rw [C.code]; exact hd) hW (X₁.named hnamed)
  exact ⟨t, st t (fun acts => by rw [doInvoke_state]; exact a1), b1⟩
theorem jx_callS {idx : Nat} (hd : decode Y.2.2.1 pc = .ok (.invokestatic idx, 3)) (hM : jx_M E z Z n) (hV : jx_S E Y.1 idx z) (hn : As.length = n) (hlen : (jx_fl As).length ≤ Z.2.2.2.1) (hW : (rest.map fun v => v.category).sum ≤ 24)
    (hz : jx_G E l Z d Qz 0 (jx_ent As Z.2.2.2.1) [] w) (kr : ∀ v w', Qz (.inr v) w' → jx_G E l Y (d + 1) Q (pc + 3) L (v.toList ++ rest) w') (kt : ∀ x a w', Qz (.inl (x, a)) w' → jx_T E l Y (d + 1) Q pc L x a w') : jx_G E l Y (d + 1) Q pc L (As.reverse ++ rest) w := by
  intro p e R s m args below meth c H locs cells slots ls C hH hL hq hc hs T hT X
  obtain ⟨hlink, hstat⟩ := hV
  have hstat' := jx_mv (args := args) C.warm rfl hstat
  have hcw' := jx_mv (args := args) C.warm (jx_cw_ok z Z) hM.2.2.2.1
  obtain ⟨mk, hnamed⟩ : ∃ mk, s.methodNamed? z = some mk := by
    cases hm : s.methodNamed? z with
    | some mk => exact ⟨mk, rfl⟩
    | none => simp [Cond.before, Cond.holds, Cond.value, hm] at hstat'
  obtain ⟨methM, cM, hmethM, -, -, -, -, -, -, hsigM⟩ := jx_cw_spec hcw' hnamed
  have hy := hM.2.2.2.2.2.2.1
  have hstatic : methM.isStatic = true := Cond.static_spec hnamed hmethM hstat'
  obtain ⟨kP, hkP, -⟩ := className_of_methodNamed hnamed
  have hinitP : kP.init = .initialized := Cond.initialized_spec (findClass_of_methodNamed hnamed) hkP (jx_mv (args := args) C.warm rfl hM.2.2.2.2.1)
  have hln : As.length = methM.sig.parameters.length := by
    have h2 := hM.2.2.2.2.2.2.2
    rw [hsigM] at h2
    rw [hn]
    exact (Option.some.inj h2).symm
  have first : ∃ vm₁, Stand p l e R s m args below meth c (T.setVm vm₁) locs cells slots ∧ ∀ target, (∀ acts, Steps p.tables e below (doInvoke e ((T.setVm vm₁).setTop (F0 m pc ls rest)) acts mk As.toArray).1 target) → Steps p.tables e below (T.setTop (F0 m pc ls (As.reverse ++ rest))) target := by
    rcases hlink with h | ⟨host, h⟩
    · exact X.invokestatic C.ex C.own (jx_mv C.warm rfl h) hnamed hmethM hstatic hkP hinitP hy (g := F0 m pc ls (As.reverse ++ rest)) rfl (argsL := As) (rest := rest) hln rfl (by rw [C.code]; exact hd)
    · exact X.invokestaticNest C.ex C.own (jx_mv C.warm rfl h) hnamed hmethM hstatic hkP hinitP hy (g := F0 m pc ls (As.reverse ++ rest)) rfl (argsL := As) (rest := rest) hln rfl (by rw [C.code]; exact hd)
  obtain ⟨vm₁, X₁, st⟩ := first
  obtain ⟨t, a1, b1⟩ := jx_fin (H := H) (U := T.setVm vm₁) (mk := mk) C hM hlen hz kr kt X₁ hT hH hL hq hc hs (by rw [C.code]; exact hd) hW (X₁.named hnamed)
  exact ⟨t, st t (fun acts => by rw [doInvoke_state]; exact a1), b1⟩
/-- a constructor without handlers -/
theorem jx_callI {idx b : Nat} (hd : decode Y.2.2.1 pc = .ok (.invokespecial idx, 3)) (hM : jx_M E z Z n) (hV : jx_I E Y.1 idx z) (hi : z.name = "<init>") (hnone : Z.2.2.2.2 = (none, [])) (hn : As.length = n) (hlen : (jx_fl (.ref b :: As)).length ≤ Z.2.2.2.1) (hW : (rest.map fun v => v.category).sum ≤ 24)
    (hz : jx_G E l Z d Qz 0 (jx_ent (.ref b :: As) Z.2.2.2.1) [] w) (kr : ∀ v w', Qz (.inr v) w' → jx_G E l Y (d + 1) Q (pc + 3) L (v.toList ++ rest) w') (kt : ∀ x a w', Qz (.inl (x, a)) w' → jx_T E l Y (d + 1) Q pc L x a w') : jx_G E l Y (d + 1) Q pc L (As.reverse ++ .ref b :: rest) w := by
  intro p e R s m args below meth c H locs cells slots ls C hH hL hq hc hs T hT X
  obtain ⟨hlink, hinst⟩ := hV
  have hpl : e.platform.magicAccessors = ({} : Platform).magicAccessors := by rw [X.admits.platform]
  have hcode : (Jvm.Cond.code z Z.2.2.1 Z.2.2.2.1 none).before args s = true := by
    have h1 := jx_mv (args := args) C.warm (jx_cw_ok z Z) hM.2.2.2.1
    unfold jx_cw at h1
    rw [hnone] at h1
    exact h1
  have hy := hM.2.2.2.2.2.2.1
  have hln : ∀ sig, parseMethodDescriptor z.desc = some sig → As.length = sig.parameters.length := by
    intro sig hsig
    have h2 := hM.2.2.2.2.2.2.2
    rw [hsig] at h2
    rw [hn]
    exact (Option.some.inj h2).symm
  have first : ∃ (mk : MethodId) (vm₁ : Vm), s.methodNamed? z = some mk ∧ s.WarmedH vm₁ ∧ ∀ target, (∀ acts, Steps p.tables e below (doInvoke e ((T.setVm vm₁).setTop (F0 m pc ls rest)) acts mk (.ref b :: As).toArray).1 target) → Steps p.tables e below (T.setTop (F0 m pc ls (As.reverse ++ .ref b :: rest))) target := by
    rcases hlink with h | ⟨host, h⟩
    · obtain ⟨mk, _, _, _, vm₁, h1, -, -, -, -, -, -, -, h2, h3⟩ := Steps.initColdArgs (tb := p.tables) (e := e) X.here C.ex X.warmed hpl C.own hi hy (jx_mv C.warm rfl h) (jx_mv (args := args) C.warm rfl hinst) hcode (f := F0 m pc ls (As.reverse ++ .ref b :: rest)) rfl (a := b) (argsL := As) (rest := rest) hln rfl (by rw [C.code]; exact hd)
      exact ⟨mk, vm₁, h1, h2, h3⟩
    · obtain ⟨mk, _, _, _, vm₁, h1, -, -, -, -, -, -, -, h2, h3⟩ := Steps.initColdArgsNest (tb := p.tables) (e := e) X.here C.ex X.warmed hpl C.own hi hy (jx_mv C.warm rfl h) (jx_mv (args := args) C.warm rfl hinst) hcode (f := F0 m pc ls (As.reverse ++ .ref b :: rest)) rfl (a := b) (argsL := As) (rest := rest) hln rfl (by rw [C.code]; exact hd)
      exact ⟨mk, vm₁, h1, h2, h3⟩
  obtain ⟨mk, vm₁, hnamed, hW₁, st⟩ := first
  have X₁ := X.noted hW₁
  obtain ⟨t, a1, b1⟩ := jx_fin (H := H) (U := T.setVm vm₁) (mk := mk) C hM hlen hz kr kt X₁ hT hH hL hq hc hs (by rw [C.code]; exact hd) hW (X₁.named hnamed)
  exact ⟨t, st t (fun acts => by rw [doInvoke_state]; exact a1), b1⟩
theorem jx_objInit {idx b : Nat} (hd : decode Y.2.2.1 pc = .ok (.invokespecial idx, 3)) (h1 : (Jvm.Cond.methodLink Y.1 idx Lib.objectInit).before #[] E.1 = true) (h2 : (Jvm.Cond.instanceMethod Lib.objectInit).before #[] E.1 = true) (h3 : (Jvm.Cond.code Lib.objectInit ⟨#[0xb1]⟩ 1 none).before #[] E.1 = true) (hW : (rest.map fun v => v.category).sum ≤ 24) (k : jx_G E l Y (d + 1) Q (pc + 3) L rest w) : jx_G E l Y (d + 1) Q pc L (.ref b :: rest) w := by
  intro p e R s m args below meth c H locs cells slots ls C hH hL hq hc hs
  have hfr1 := C.fr
  have hlo1 := C.lo
  exact W.objInit C.ex C.code C.own (jx_mv C.warm rfl h1) (jx_mv C.warm rfl h2) (jx_mv C.warm rfl h3) rfl (by show ls.size = _; rw [hL.1, C.nL]) rfl hd (by omega) (by show 2 * 0 + _ + 12 ≤ _; omega) (k p e R s m args below meth c H locs cells slots ls C hH hL hq hc hs)
end JXF
