/-! 14.call: a call, with both its ends; a catch -/
theorem jx_cw_ok (z : MethodName) (Z : jx_Y) : ((jx_cw z Z).onTables && (jx_cw z Z).keepsH) = true := by
  unfold jx_cw
  split <;> rfl
theorem jx_cw_spec {z : MethodName} {Z : jx_Y} {args : Array Value} {s : State} {m : MethodId} (h : (jx_cw z Z).before args s = true) (hn : s.methodNamed? z = some m) :
    ∃ meth c, s.vm.method? m = some meth ∧ meth.code = some c ∧ c.code = Z.2.2.1 ∧ c.maxLocals = Z.2.2.2.1 ∧ meth.sig.returnType = Z.2.2.2.2.1 ∧ meth.locks = false ∧ c.exceptionTable.toList.map (fun h => (h.startPc, h.endPc, h.handlerPc, h.catchType)) = Z.2.2.2.2.2 ∧ parseMethodDescriptor z.desc = some meth.sig := by
  unfold jx_cw at h
  split at h
  · rename_i he
    obtain ⟨meth, c, h1, h2, h3, h4, h5, h6, h7, h8⟩ := Cond.code_spec hn h
    refine ⟨meth, c, h1, h2, h3, h4, h5, h6, ?_, h8⟩
    have e1 : Z.2.2.2.2.2 = [] := by simpa using he
    have e2 : c.exceptionTable = #[] := by simpa using h7
    rw [e1, e2]
    rfl
  · obtain ⟨m', meth, c, h0, h1, h2, h3, h4, h5, h6, h7, h8⟩ := Cond.codeWith_spec h
    cases hn.symm.trans h0
    exact ⟨meth, c, h1, h2, h3, h4, h6, h7, h5, h8⟩
def jx_room (d : Nat) (w : jx_W) : Room := { frames := d, cells := jx_c w, slots := jx_s w, locals := 80 * d }
def jx_Mq (E : jx_E) (Q : jx_R → jx_W → Prop) (w : jx_W) : Array Value → State → Outcome → State → Prop := fun _ s o t => ∃ (r : jx_R) (w' : jx_W) (L : List Loc) (k n : Nat), Q r w' ∧ jx_out E o r t.heap ∧ jx_H E w' t.heap ∧ s.WarmedH t.vm ∧ s.sameButNew ({ t with vm := s.vm } : State) L k n ∧ (∀ q ∈ L, E.1.heap.size ≤ q.base) ∧ k + jx_c w' ≤ jx_c w ∧ n + jx_s w' ≤ jx_s w
theorem jx_met {E : jx_E} {l : Launch} {z : MethodName} {Z : jx_Y} {n d : Nat} {Q : jx_R → jx_W → Prop} {w : jx_W} {As : List Value} (hM : jx_M E z Z n) (hOK : jx_OK E) (hlen : (jx_fl As).length ≤ Z.2.2.2.1) (hst : l.stackTraces = false) (hG : jx_G E l Z d Q 0 (jx_ent As Z.2.2.2.1) [] w) :
    MetFree l z (headSpec [jx_cw z Z] (jx_room d w)) (fun a s => a = As.toArray ∧ E.1.WarmedH s.vm ∧ jx_old E s.heap ∧ jx_H E w s.heap) (fun _ _ _ _ _ => True) (jx_Mq E Q w) := by
  obtain ⟨hp, hcl, hnm, -, -, -, -, -⟩ := hM
  refine MetFree.of_bodySF (code := Z.2.2.1) (maxLocals := Z.2.2.2.1) (ret := Z.2.2.2.2.1) hp ?_ ?_
  · intro args s m h hn
    obtain ⟨meth, c, h1, h2, h3, h4, h5, h6, -⟩ := jx_cw_spec (atoms_spec (ws := [jx_cw z Z]) h _ List.mem_cons_self) hn
    exact ⟨meth, c, h1, h2, h3, h4, h5, h6⟩
  · intro p e s m args below meth c s₁ B hml hP _
    obtain ⟨rfl, hW, hO, hH⟩ := hP
    have X₀ := Stand.of_body B
    obtain ⟨meth', c', h1, h2, h3, h4, h5, h6, h7, h8⟩ := jx_cw_spec (atoms_spec (ws := [jx_cw z Z]) B.pre _ List.mem_cons_self) B.named
    cases B.method.symm.trans h1
    cases X₀.code.symm.trans h2
    have htr : e.platform.stackTraces = false := (show e.platform.stackTraces = l.stackTraces by rw [X₀.admits.platform]).trans hst
    have C : jx_C E Z d p e (jx_room d w) s m meth c := ⟨B.exec, B.bytes, h4, B.returns, by rw [← hcl]; exact findClass_of_methodNamed B.named, B.notSynchronized, by rw [← hnm]; exact (name_of_methodNamed B.named B.method).1, h7, hW, hO, Nat.le_refl _, Nat.le_refl _, hOK, htr⟩
    have hh0 : s₁.heap = s.heap := by rw [B.state]; rfl
    have k := hG p e (jx_room d w) s m As.toArray below meth c s.heap [] 0 0 _ C hH (jx_entry As hlen) (fun q h => by cases h) (by show 0 + jx_c w ≤ jx_c w; omega) (by show 0 + jx_s w ≤ jx_s w; omega)
    rw [← lg_entry_eq] at k
    obtain ⟨t, a1, o, r, w', L', k', n', b1, b2, b3, b4⟩ := k s₁ hh0 X₀
    exact ⟨t, o, a1, b1, b2, r, w', L', k', n', b3, b4⟩
/-- the state behind a call, as the callee left it: the walk stands there again -/
theorem jx_there {p : Program} {l : Launch} {e : Env} {R : Room} {s : State} {m : MethodId} {args : Array Value} {below : List Frame} {meth : Method} {c : Code} {U s₂ : State} {locs L : List Loc} {cells slots k n : Nat} {g : JFrame} {mk : MethodId} {a : Array Value} (X : Stand p l e R s m args below meth c U locs cells slots)
    (hW : (U.calling g mk a).WarmedH s₂.vm) (hS : (U.calling g mk a).sameButNew ({ s₂ with vm := (U.calling g mk a).vm } : State) L k n) :
    Stand p l e R s m args below meth c (({ U with heap := s₂.heap, slotsUsed := s₂.slotsUsed } : State).setVm s₂.vm) (locs ++ L) (cells + k) (slots + n) ∧
      ∀ fs : List Frame, s₂.frames = fs → s₂ = (({ U with heap := s₂.heap, slotsUsed := s₂.slotsUsed } : State).setVm s₂.vm).setFrames fs := by
  obtain ⟨e2, q2, q3, q4, q5, q6⟩ := hS
  have hW' : U.WarmedH s₂.vm := hW
  have e3 : s₂ = ({ (U.calling g mk a).setFrames s₂.frames with heap := s₂.heap, slotsUsed := s₂.slotsUsed } : State).setVm s₂.vm := by
    have h1 : s₂ = ({ s₂ with vm := (U.calling g mk a).vm } : State).setVm s₂.vm := rfl
    rw [e2] at h1
    exact h1
  obtain ⟨g₀, hg0⟩ := Option.isSome_iff_exists.mp X.here.top
  obtain ⟨r, hr⟩ := State.topJava?_eq_some.mp hg0
  obtain ⟨t, ht, -⟩ := State.frames_cons hr
  have hsame : U.sameButNew ({ U with heap := s₂.heap, slotsUsed := s₂.slotsUsed } : State) L k n := by
    refine ⟨?_, q2, q3, q4, q5, q6⟩
    show ({ U with heap := s₂.heap, slotsUsed := s₂.slotsUsed } : State) = { U.setFrames U.frames with heap := s₂.heap, slotsUsed := s₂.slotsUsed }
    rw [State.setFrames_self ht]
  refine ⟨⟨X.admits, X.cas, X.clock, X.frames, X.room, X.hears, X.method, X.code, (X.here.setHeapUsed s₂.heap s₂.slotsUsed).setVm hW'.alike, X.tail, State.WarmedH.trans X.warmed hW', X.limits, X.bytes, X.same.trans (hsame.setVm s.vm)⟩, fun fs hfs => ?_⟩
  refine e3.trans ?_
  rw [hfs, State.calling_eq X.here.top, State.setFrames_setFrames]
  rfl
/-- a handler's row does not take the exception x at pc -/
def jx_pass (E : jx_E) (own : String) (pc x : Nat) (y : Nat × Nat × Nat × Nat) : Prop := ¬ (y.1 ≤ pc ∧ pc < y.2.1) ∨ (y.2.2.2 ≠ 0 ∧ ∃ (name : String) (cT cX : ClassId), (Jvm.Cond.classLink own y.2.2.2 name).before #[] E.1 = true ∧ E.1.vm.findClass name = some cT ∧ E.1.vm.findClass (jx_xn x) = some cX ∧ E.1.vm.assignable cX cT = false)
def jx_take (E : jx_E) (own : String) (pc x : Nat) (y : Nat × Nat × Nat × Nat) : Prop := (y.1 ≤ pc ∧ pc < y.2.1) ∧ y.2.2.2 ≠ 0 ∧ ∃ (name : String) (cT cX : ClassId), (Jvm.Cond.classLink own y.2.2.2 name).before #[] E.1 = true ∧ E.1.vm.findClass name = some cT ∧ E.1.vm.findClass (jx_xn x) = some cX ∧ E.1.vm.assignable cX cT = true
/-- what is owed where a callee has thrown x (the object a) at pc -/
def jx_T (E : jx_E) (l : Launch) (Y : jx_Y) (d : Nat) (Q : jx_R → jx_W → Prop) (pc : Nat) (L : List (Option Value)) (x a : Nat) (w : jx_W) : Prop :=
  ((∀ y ∈ Y.2.2.2.2.2, ¬ (y.1 ≤ pc ∧ pc < y.2.1)) ∧ Q (.inl (x, a)) w) ∨
  (∃ (pre : List (Nat × Nat × Nat × Nat)) (h : Nat × Nat × Nat × Nat) (rest : List (Nat × Nat × Nat × Nat)), Y.2.2.2.2.2 = pre ++ h :: rest ∧ (∀ y ∈ pre, jx_pass E Y.1 pc x y) ∧ jx_take E Y.1 pc x h ∧ jx_G E l Y d Q h.2.2.1 L [.ref a] w)
theorem jx_cov {y : ExceptionTableEntry} {pc : Nat} : covers y pc = true ↔ (y.startPc ≤ pc ∧ pc < y.endPc) := by
  simp [covers]
section JXK
variable {e : Env} {f : JFrame} {a : Addr}
/-- the search through the handlers, cold or warm -/
theorem jx_seek {E : jx_E} {s : State} {own : String} {x : Nat} {cell : Cell} (hE : E.1.WarmedH s.vm) (hown : s.vm.findClass own = some f.method.cls) (hpl : e.platform.magicAccessors = ({} : Platform).magicAccessors) (hobj : ∀ k, cell.vm ≠ .statics k) (hx : E.1.vm.findClass (jx_xn x) = some cell.cls) (y : ExceptionTableEntry) (rest : List ExceptionTableEntry) (hy : jx_take E own f.pc x (y.startPc, y.endPc, y.handlerPc, y.catchType)) :
    ∀ (pre : List ExceptionTableEntry) (S : State), s.WarmedH S.vm → S.heap[a]? = some cell → (∀ z ∈ pre, jx_pass E own f.pc x (z.startPc, z.endPc, z.handlerPc, z.catchType)) →
      ∃ vm', s.WarmedH vm' ∧ ∀ (Q : Handler → Pre) (X : CtlPost) (d : Bool) (acts : List Action), wp (findHandler.go f a (pre ++ y :: rest)) Q X e d acts S ↔ Q (.found y.handlerPc) d acts (S.setVm vm') := by
  have hEs := hE.alike
  have hxs : s.vm.findClass (jx_xn x) = some cell.cls := by rw [hEs.findClass]; exact hx
  obtain ⟨k0, hk0⟩ := Vm.classAt_of_findClass hxs
  have link : ∀ (S : State) (ct : Nat) (name : String) (cT : ClassId), s.WarmedH S.vm → (Jvm.Cond.classLink own ct name).before #[] E.1 = true → E.1.vm.findClass name = some cT →
      s.WarmedH (S.vm.noted f.method.cls ct (.cls cT)) ∧ S.vm.ClassLinks e.platform f.method.cls ct cT ∧ (∃ k, S.vm.classes[cT]? = some k) ∧ (∃ k, S.vm.classes[cell.cls]? = some k) := by
    intro S ct name cT hW hl hT
    obtain ⟨c', hc', hcl⟩ := Cond.classLink_spec hown (jx_mv (args := #[]) hE rfl hl) e.platform hpl
    have hTs : s.vm.findClass name = some cT := by rw [hEs.findClass]; exact hT
    cases hTs.symm.trans hc'
    obtain ⟨dk, _, _, kt, hd, _, _, _, _, hkt, _, hopen⟩ := hcl.here
    obtain ⟨kt', hkt', -⟩ := hW.alike.2.2 _ _ hkt
    obtain ⟨k0', hk0', -⟩ := hW.alike.2.2 _ _ hk0
    exact ⟨hW.noted hd hopen (State.rightAt_cls hcl), hW.classLinks hcl, ⟨kt', hkt'⟩, ⟨k0', hk0'⟩⟩
  intro pre
  induction pre with
  | nil =>
    intro S hW hcell _
    obtain ⟨hcv, h0, name, cT, cX, hl, hT, hX, hfit⟩ := hy
    cases hX.symm.trans hx
    obtain ⟨w1, w2, ⟨k2, hk2⟩, ⟨k1, hk1⟩⟩ := link S _ name cT hW hl hT
    refine ⟨_, w1, fun Q X d acts => ?_⟩
    have hcov : covers y f.pc = true := jx_cov.mpr hcv
    obtain ⟨ha, ht⟩ := (resolveClass_links e.toSetting w2).op (op := VmOp.resolveClass f.method.cls y.catchType) rfl
    have hal : S.vm.Alike (S.vm.noted f.method.cls y.catchType (.cls cT)) := (Vm.Alike.refl S.vm).noted _ _ _
    obtain ⟨k1', hk1', -⟩ := hal.2.2 _ _ hk1
    obtain ⟨k2', hk2', -⟩ := hal.2.2 _ _ hk2
    have hfit' : (S.vm.noted f.method.cls y.catchType (.cls cT)).assignable cell.cls cT = true := by rw [hal.assignable, hW.alike.assignable, hEs.assignable]; exact hfit
    have h0' : y.catchType ≠ 0 := h0
    simp only [covers] at hcov
    simp [findHandler.go, hcov, h0', ha, ht, hcell, hobj, hk1', hk2', hfit', VmOp.dirties, VmOp.acts]
  | cons z zs ih =>
    intro S hW hcell hpass
    have hrest : ∀ u ∈ zs, jx_pass E own f.pc x (u.startPc, u.endPc, u.handlerPc, u.catchType) := fun u hu => hpass u (List.mem_cons_of_mem _ hu)
    by_cases hcov : covers z f.pc = true
    · rcases hpass z (List.mem_cons_self ..) with h | ⟨h0, name, cT, cX, hl, hT, hX, hno⟩
      · exact absurd (jx_cov.mp hcov) h
      · cases hX.symm.trans hx
        obtain ⟨w1, w2, ⟨k2, hk2⟩, ⟨k1, hk1⟩⟩ := link S _ name cT hW hl hT
        obtain ⟨vm', hW', hq⟩ := ih (S.setVm (S.vm.noted f.method.cls z.catchType (.cls cT))) w1 hcell hrest
        refine ⟨vm', hW', fun Q X d acts => ?_⟩
        obtain ⟨ha, ht⟩ := (resolveClass_links e.toSetting w2).op (op := VmOp.resolveClass f.method.cls z.catchType) rfl
        have hal : S.vm.Alike (S.vm.noted f.method.cls z.catchType (.cls cT)) := (Vm.Alike.refl S.vm).noted _ _ _
        obtain ⟨k1', hk1', -⟩ := hal.2.2 _ _ hk1
        obtain ⟨k2', hk2', -⟩ := hal.2.2 _ _ hk2
        have hno' : (S.vm.noted f.method.cls z.catchType (.cls cT)).assignable cell.cls cT = false := by rw [hal.assignable, hW.alike.assignable, hEs.assignable]; exact hno
        have h0' : z.catchType ≠ 0 := h0
        have key : wp (findHandler.go f a (z :: (zs ++ y :: rest))) Q X e d acts S ↔ wp (findHandler.go f a (zs ++ y :: rest)) Q X e d acts (S.setVm (S.vm.noted f.method.cls z.catchType (.cls cT))) := by
          simp only [covers] at hcov
          simp [findHandler.go, hcov, h0', ha, ht, hcell, hobj, hk1', hk2', hno', VmOp.dirties, VmOp.acts]
        rw [List.cons_append, key]
        exact hq Q X d acts
    · obtain ⟨vm', hW', hq⟩ := ih S hW hcell hrest
      exact ⟨vm', hW', fun Q X d acts => by
        rw [List.cons_append, W.findHandler_go_skip (by simpa using hcov)]
        exact hq Q X d acts⟩
end JXK
/-- the exception is taken by a handler of the walked method -/
theorem jx_caught {E : jx_E} {p : Program} {l : Launch} {e : Env} {R : Room} {s : State} {m : MethodId} {args : Array Value} {below : List Frame} {meth : Method} {c : Code} {T : State} {locs : List Loc} {cells slots : Nat} (X : Stand p l e R s m args below meth c T locs cells slots) {g : JFrame} (hg : g.method = m) {own : String} {x a : Nat} {cell : Cell} (hE : E.1.WarmedH s.vm) (hown : s.vm.findClass own = some m.cls) (hcell : T.heap[a]? = some cell) (hobj : cell.vm.isStatics = false) (hx : E.1.vm.findClass (jx_xn x) = some cell.cls)
    {pre rest : List (Nat × Nat × Nat × Nat)} {h : Nat × Nat × Nat × Nat} (htab : c.exceptionTable.toList.map (fun h => (h.startPc, h.endPc, h.handlerPc, h.catchType)) = pre ++ h :: rest) (hpass : ∀ y ∈ pre, jx_pass E own g.pc x y) (htake : jx_take E own g.pc x h) :
    ∃ vm', Stand p l e R s m args below meth c (T.setVm vm') locs cells slots ∧ ∀ target, Steps p.tables e below ((T.setVm vm').setTop { g with pc := h.2.2.1, stack := [.ref a] }) target → Steps p.tables e below ((T.setTop g).pushFrame (.throwing a)) target := by
  subst hg
  have hpl : e.platform.magicAccessors = ({} : Platform).magicAccessors := by rw [X.admits.platform]
  obtain ⟨pre', tl, e1, e2, e3⟩ := List.map_eq_append_iff.mp htab
  obtain ⟨y, rest', e4, e5, e6⟩ := List.map_eq_cons_iff.mp e3
  subst e4
  have hpass' : ∀ z ∈ pre', jx_pass E own g.pc x (z.startPc, z.endPc, z.handlerPc, z.catchType) := fun z hz => hpass _ (by rw [← e2]; exact List.mem_map.mpr ⟨z, hz, rfl⟩)
  have htake' : jx_take E own g.pc x (y.startPc, y.endPc, y.handlerPc, y.catchType) := by rw [e5]; exact htake
  obtain ⟨vm', hW', hf⟩ := jx_seek (e := e) (f := g) (a := a) hE hown hpl (VmData.ne_statics_of hobj) hx y rest' htake' pre' ((T.setTop g).pushFrame (.throwing a)) (by rw [Stand.throwing_vm]; exact X.warmed) (by rw [Stand.throwing_heap]; exact hcell) hpass'
  refine ⟨vm', X.noted hW', fun target hrest => ?_⟩
  have hpc : h.2.2.1 = y.handlerPc := by rw [← e5]
  rw [hpc] at hrest
  obtain ⟨hgo, hw⟩ := X.here.throwing a
  refine Steps.head hgo hw ?_
  have hfind : ∀ (Q : Handler → Pre) (Z : CtlPost) (d : Bool) (acts : List Action), wp (findHandler g a) Q Z e d acts ((T.setTop g).pushFrame (.throwing a)) ↔ Q (.found y.handlerPc) d acts (((T.setTop g).pushFrame (.throwing a)).setVm vm') := by
    intro Q Z d acts
    rw [W.findHandler_eq (meth := meth) (code := c) (by rw [Stand.throwing_vm]; exact X.method') X.code, e1]
    exact hf Q Z d acts
  have hstep : (stepThrowing e ((T.setTop g).pushFrame (.throwing a)) a (.java g :: T.frames.tail)).1 = (((T.setTop g).pushFrame (.throwing a)).setVm vm').setFrames (.java { g with pc := y.handlerPc, stack := [.ref a] } :: T.frames.tail) := by
    simp only [stepThrowing, searchFrame, vmDo]
    generalize hr : Sem.go _ e false [] ((T.setTop g).pushFrame (.throwing a)) = res
    obtain ⟨as, rfl, ha⟩ := Sem.eq_ok_of hr (a := Handler.found y.handlerPc) (s' := ((T.setTop g).pushFrame (.throwing a)).setVm vm') (acts' := []) (by simp [hfind _ _ _ _])
    rfl
  rw [stepThread_throwing (frames_entered X.here.top _), hstep]
  obtain ⟨g₀, hg0⟩ := Option.isSome_iff_exists.mp X.here.top
  obtain ⟨r, hr⟩ := State.topJava?_eq_some.mp hg0
  have hr' : (T.setVm vm').frames = .java g₀ :: r := hr
  rw [State.setTop_of_frames _ hr'] at hrest
  have e7 : (((T.setTop g).pushFrame (.throwing a)).setVm vm').setFrames (.java { g with pc := y.handlerPc, stack := [.ref a] } :: T.frames.tail) = (T.setVm vm').setFrames (.java { g with pc := y.handlerPc, stack := [.ref a] } :: T.frames.tail) := by
    rw [State.pushFrame, State.setTop_of_frames _ hr, State.setFrames_setFrames]
    have h1 : ∀ (u : State) (F : List Frame), (u.setFrames F).setVm vm' = (u.setVm vm').setFrames F := fun u F => rfl
    rw [h1, State.setFrames_setFrames]
  rw [e7, hr, List.tail_cons]
  exact hrest
