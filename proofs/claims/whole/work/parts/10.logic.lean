/-! 10.logic: a weakest-precondition reading of the machine. A world is a bundle of functions of addresses; every method is walked over the whole world; a method's contract is the walk from its entry. -/
/-- where a walk stands: the method, the tables since the law's start, the room for d frames -/
def jx_C (E : jx_E) (Y : jx_Y) (d : Nat) (p : Program) (e : Env) (R : Room) (s : State) (m : MethodId) (meth : Method) (c : Code) : Prop :=
  p.tables.exec = Jvm.exec ∧ c.code = Y.2.2.1 ∧ c.maxLocals = Y.2.2.2.1 ∧ meth.sig.returnType = Y.2.2.2.2.1 ∧ s.vm.findClass Y.1 = some m.cls ∧ meth.locks = false ∧ meth.name = Y.2.1 ∧
  c.exceptionTable.toList.map (fun h => (h.startPc, h.endPc, h.handlerPc, h.catchType)) = Y.2.2.2.2.2 ∧ E.1.WarmedH s.vm ∧ jx_old E s.heap ∧ d ≤ R.frames ∧ 80 * d ≤ R.locals ∧ jx_OK E ∧ e.platform.stackTraces = false
section JXC
variable {E : jx_E} {Y : jx_Y} {d : Nat} {p : Program} {e : Env} {R : Room} {s : State} {m : MethodId} {meth : Method} {c : Code}
theorem jx_C.ex (C : jx_C E Y d p e R s m meth c) : p.tables.exec = Jvm.exec := C.1
theorem jx_C.code (C : jx_C E Y d p e R s m meth c) : c.code = Y.2.2.1 := C.2.1
theorem jx_C.nL (C : jx_C E Y d p e R s m meth c) : c.maxLocals = Y.2.2.2.1 := C.2.2.1
theorem jx_C.ret (C : jx_C E Y d p e R s m meth c) : meth.sig.returnType = Y.2.2.2.2.1 := C.2.2.2.1
theorem jx_C.own (C : jx_C E Y d p e R s m meth c) : s.vm.findClass Y.1 = some m.cls := C.2.2.2.2.1
theorem jx_C.locks (C : jx_C E Y d p e R s m meth c) : meth.locks = false := C.2.2.2.2.2.1
theorem jx_C.name (C : jx_C E Y d p e R s m meth c) : meth.name = Y.2.1 := C.2.2.2.2.2.2.1
theorem jx_C.tab (C : jx_C E Y d p e R s m meth c) : c.exceptionTable.toList.map (fun h => (h.startPc, h.endPc, h.handlerPc, h.catchType)) = Y.2.2.2.2.2 := C.2.2.2.2.2.2.2.1
theorem jx_C.warm (C : jx_C E Y d p e R s m meth c) : E.1.WarmedH s.vm := C.2.2.2.2.2.2.2.2.1
theorem jx_C.old (C : jx_C E Y d p e R s m meth c) : jx_old E s.heap := C.2.2.2.2.2.2.2.2.2.1
theorem jx_C.fr (C : jx_C E Y d p e R s m meth c) : d ≤ R.frames := C.2.2.2.2.2.2.2.2.2.2.1
theorem jx_C.lo (C : jx_C E Y d p e R s m meth c) : 80 * d ≤ R.locals := C.2.2.2.2.2.2.2.2.2.2.2.1
theorem jx_C.ok (C : jx_C E Y d p e R s m meth c) : jx_OK E := C.2.2.2.2.2.2.2.2.2.2.2.2.1
theorem jx_C.st (C : jx_C E Y d p e R s m meth c) : e.platform.stackTraces = false := C.2.2.2.2.2.2.2.2.2.2.2.2.2
end JXC
/-- the locals, slot by slot; none: nothing is known -/
def jx_L (ls : Array Slot) (nL : Nat) (L : List (Option Value)) : Prop := ls.size = nL ∧ lv_wf ls ∧ L.length = nL ∧ ∀ (i : Nat) (v : Value), L[i]? = some (some v) → ls[i]? = some (.val v)
def jx_out (E : jx_E) (o : Outcome) (r : jx_R) (H : Heap) : Prop := match r with
  | .inr v => o = .returned v
  | .inl (x, a) => o = .threw a ∧ E.1.heap.size ≤ a ∧ ∃ cell, H[a]? = some cell ∧ cell.vm.isStatics = false ∧ E.1.vm.findClass (jx_xn x) = some cell.cls
/-- a method's end -/
def jx_P (E : jx_E) (R : Room) (s : State) (below : List Frame) (Q : jx_R → jx_W → Prop) (t : State) : Prop := ∃ (o : Outcome) (r : jx_R) (w : jx_W) (L : List Loc) (k n : Nat), t.status = .running ∧ Ended t below o ∧ Q r w ∧ jx_out E o r t.heap ∧ jx_H E w t.heap ∧ s.WarmedH t.vm ∧ s.sameButNew ({ t with vm := s.vm } : State) L k n ∧ (∀ q ∈ L, E.1.heap.size ≤ q.base) ∧ k + jx_c w ≤ R.cells ∧ n + jx_s w ≤ R.slots
/-- from pc, with these locals, this stack and this world, the method comes to an end with Q -/
def jx_G (E : jx_E) (l : Launch) (Y : jx_Y) (d : Nat) (Q : jx_R → jx_W → Prop) (pc : Nat) (L : List (Option Value)) (st : List Value) (w : jx_W) : Prop :=
  ∀ (p : Program) (e : Env) (R : Room) (s : State) (m : MethodId) (args : Array Value) (below : List Frame) (meth : Method) (c : Code) (H : Heap) (locs : List Loc) (cells slots : Nat) (ls : Array Slot),
    jx_C E Y d p e R s m meth c → jx_H E w H → jx_L ls Y.2.2.2.1 L → (∀ q ∈ locs, E.1.heap.size ≤ q.base) → cells + jx_c w ≤ R.cells → slots + jx_s w ≤ R.slots →
    W p l e R s m args below meth c H locs cells slots (jx_P E R s below Q) (F0 m pc ls st)
/-- a word of the tables at the law's start is one of every later state -/
theorem jx_mv {E : jx_E} {s : State} {q : Jvm.Cond} {args : Array Value} (hW : E.1.WarmedH s.vm) (hc : (q.onTables && q.keepsH) = true) (h : q.before #[] E.1 = true) : q.before args s = true := by
  simp only [Bool.and_eq_true] at hc
  have h1 := Cond.onTables_warmH (T := s) (args' := args) hW hc.1 hc.2 h
  rwa [State.setVm_self] at h1
theorem jx_lay_ok (C : String) (T : u_T) (k : Nat) : ((u_lay C T k).onTables && (u_lay C T k).keepsH) = true := by
  unfold u_lay
  split <;> rfl
theorem jx_lays {E : jx_E} {s : State} {args : Array Value} {C : String} {T : u_T} {k : Nat} (hW : E.1.WarmedH s.vm) (h : (u_lay C T k).before #[] E.1 = true) :
    (Jvm.Cond.lays C (T k).1 (T k).2.1 (T k).2.2.1).before args s = true ∨ (Jvm.Cond.laysFinal C (T k).1 (T k).2.1 (T k).2.2.1).before args s = true := by
  have h1 := jx_mv (args := args) hW (jx_lay_ok C T k) h
  unfold u_lay at h1
  split at h1
  · exact Or.inr h1
  · exact Or.inl h1
/-! ## the locals -/
def jx_as (L : List (Option Value)) : List (Nat × Value) := (List.range L.length).filterMap (fun i => match L[i]? with | some (some v) => some (i, v) | _ => none)
theorem jx_mem_as {L : List (Option Value)} {i : Nat} {v : Value} : (i, v) ∈ jx_as L ↔ L[i]? = some (some v) := by
  unfold jx_as
  rw [List.mem_filterMap]
  constructor
  · rintro ⟨j, -, h⟩
    split at h
    · rename_i v' h2
      cases h
      exact h2
    · cases h
  · intro h
    refine ⟨i, List.mem_range.mpr (List.getElem?_eq_some_iff.mp h).1, ?_⟩
    rw [h]
theorem jx_L.has {ls : Array Slot} {nL : Nat} {L : List (Option Value)} (h : jx_L ls nL L) : lv_has ls nL (jx_as L) := ⟨h.1, h.2.1, fun q hq => h.2.2.2 q.1 q.2 (jx_mem_as.mp hq)⟩
/-- no value of two slots ends at i -/
def jx_free (L : List (Option Value)) (i : Nat) : Bool := match i with
  | 0 => true
  | j + 1 => match L[j]? with
    | some (some v) => v.category == 1
    | _ => true
theorem jx_st1 {ls' : Array Slot} {nL i : Nat} {L : List (Option Value)} {v : Value} (hlen : L.length = nL) (hi : i < nL) (hf : jx_free L i = true) (h : lv_has ls' nL ((i, v) :: (jx_as L).filter (fun q => !(q.1 == i) && !(q.1 + 1 == i && q.2.category == 2)))) : jx_L ls' nL (L.set i (some v)) := by
  refine ⟨h.1, h.2.1, by simp [hlen], fun j u hj => ?_⟩
  by_cases e : j = i
  · subst e
    rw [List.getElem?_set_self (by omega)] at hj
    cases hj
    exact h.2.2 _ List.mem_cons_self
  · rw [List.getElem?_set_ne (fun q => e q.symm)] at hj
    refine h.2.2 (j, u) (List.mem_cons_of_mem _ (List.mem_filter.mpr ⟨jx_mem_as.mpr hj, ?_⟩))
    by_cases e2 : j + 1 = i
    · subst e2
      unfold jx_free at hf
      simp only [hj] at hf
      have h1 : u.category = 1 := by simpa using hf
      simp [h1]
    · simp [e, e2]
theorem jx_st2 {ls' : Array Slot} {nL i : Nat} {L : List (Option Value)} {v : Value} (hlen : L.length = nL) (hi : i + 1 < nL) (hf : jx_free L i = true) (h : lv_has ls' nL ((i, v) :: (jx_as L).filter (fun q => !(q.1 == i) && (!(q.1 == i + 1) && !(q.1 + 1 == i && q.2.category == 2))))) : jx_L ls' nL ((L.set i (some v)).set (i + 1) none) := by
  refine ⟨h.1, h.2.1, by simp [hlen], fun j u hj => ?_⟩
  by_cases e0 : j = i + 1
  · subst e0
    rw [List.getElem?_set_self (by simp; omega)] at hj
    cases hj
  rw [List.getElem?_set_ne (fun q => e0 q.symm)] at hj
  by_cases e : j = i
  · subst e
    rw [List.getElem?_set_self (by omega)] at hj
    cases hj
    exact h.2.2 _ List.mem_cons_self
  · rw [List.getElem?_set_ne (fun q => e q.symm)] at hj
    refine h.2.2 (j, u) (List.mem_cons_of_mem _ (List.mem_filter.mpr ⟨jx_mem_as.mpr hj, ?_⟩))
    by_cases e2 : j + 1 = i
    · subst e2
      unfold jx_free at hf
      simp only [hj] at hf
      have h1 : u.category = 1 := by simpa using hf
      simp [h1]
      omega
    · simp [e, e2, e0]
/-- the locals at a method's entry -/
def jx_fl : List Value → List (Option Value)
  | [] => []
  | v :: t => if v.category = 2 then some v :: none :: jx_fl t else some v :: jx_fl t
def jx_ent (As : List Value) (n : Nat) : List (Option Value) := jx_fl As ++ List.replicate (n - (jx_fl As).length) none
theorem jx_fl_len : ∀ As : List Value, (jx_fl As).length = (lg_sl As).length := by
  intro As
  induction As with
  | nil => rfl
  | cons v t ih =>
    unfold lg_sl at ih ⊢
    by_cases h : v.category = 2 <;> simp [jx_fl, h, ih]
theorem jx_fl_at : ∀ (As : List Value) (i : Nat) (v : Value), (jx_fl As)[i]? = some (some v) → (lg_sl As)[i]? = some (.val v) := by
  intro As
  induction As with
  | nil => intro i v h; simp [jx_fl] at h
  | cons u t ih =>
    intro i v h
    unfold lg_sl at ih ⊢
    by_cases hc : u.category = 2
    · simp only [jx_fl, hc, if_true] at h
      simp only [List.flatMap_cons, hc, if_true]
      match i, h with
      | 0, h => simp at h; subst h; rfl
      | 1, h => simp at h
      | i + 2, h => simp at h; simpa using ih i v h
    · simp only [jx_fl, hc, if_false] at h
      simp only [List.flatMap_cons, hc, if_false]
      match i, h with
      | 0, h => simp at h; subst h; rfl
      | i + 1, h => simp at h; simpa using ih i v h
theorem jx_entry (As : List Value) {n : Nat} (h : (jx_fl As).length ≤ n) : jx_L ((lg_sl As ++ List.replicate (n - (lg_sl As).length) Slot.unset).toArray) n (jx_ent As n) := by
  have h0 : (lg_sl As).length ≤ n := by rw [← jx_fl_len]; exact h
  have h1 := lv_entry As h0
  refine ⟨h1.1, h1.2.1, by simp [jx_ent]; omega, fun i v hv => ?_⟩
  unfold jx_ent at hv
  by_cases hi : i < (jx_fl As).length
  · rw [List.getElem?_append_left hi] at hv
    have h2 := jx_fl_at As i v hv
    rw [List.getElem?_toArray, List.getElem?_append_left (by rw [← jx_fl_len]; exact hi)]
    exact h2
  · rw [List.getElem?_append_right (by omega)] at hv
    rw [List.getElem?_replicate] at hv
    split at hv <;> simp at hv
theorem jx_mono {p : Program} {l : Launch} {e : Env} {R : Room} {s : State} {m : MethodId} {args : Array Value} {below : List Frame} {meth : Method} {c : Code} {H : Heap} {locs : List Loc} {cells slots : Nat} {Q Q' : State → Prop} {g : JFrame} (h : ∀ t, Q t → Q' t) (k : W p l e R s m args below meth c H locs cells slots Q g) : W p l e R s m args below meth c H locs cells slots Q' g := by
  intro T hT X
  obtain ⟨t, a, b⟩ := k T hT X
  exact ⟨t, a, h t b⟩
/-- a weaker end -/
theorem jx_weak {E : jx_E} {l : Launch} {Y : jx_Y} {d : Nat} {Q Q' : jx_R → jx_W → Prop} {pc : Nat} {L : List (Option Value)} {st : List Value} {w : jx_W} (k : jx_G E l Y d Q pc L st w) (h : ∀ r w', Q r w' → Q' r w') : jx_G E l Y d Q' pc L st w := by
  intro p e R s m args below meth c H locs cells slots ls C hH hL hq hc hs
  refine jx_mono ?_ (k p e R s m args below meth c H locs cells slots ls C hH hL hq hc hs)
  rintro t ⟨o, r, w', L', k', n', h1, h2, h3, h4⟩
  exact ⟨o, r, w', L', k', n', h1, h2, h r w' h3, h4⟩
/-- fewer locals are known -/
theorem jx_loc {E : jx_E} {l : Launch} {Y : jx_Y} {d : Nat} {Q : jx_R → jx_W → Prop} {pc : Nat} {L : List (Option Value)} (L' : List (Option Value)) {st : List Value} {w : jx_W} (k : jx_G E l Y d Q pc L' st w) (h0 : L'.length = L.length) (h : ∀ (i : Nat) (v : Value), L'[i]? = some (some v) → L[i]? = some (some v)) : jx_G E l Y d Q pc L st w := by
  intro p e R s m args below meth c H locs cells slots ls C hH hL hq hc hs
  exact k p e R s m args below meth c H locs cells slots ls C hH ⟨hL.1, hL.2.1, h0.trans hL.2.2.1, fun i v hv => hL.2.2.2 i v (h i v hv)⟩ hq hc hs
section JXR
variable {E : jx_E} {l : Launch} {Y : jx_Y} {d : Nat} {Q : jx_R → jx_W → Prop} {pc : Nat} {L : List (Option Value)} {st : List Value} {w : jx_W}
theorem jx_deep {d2 : Nat} (k : jx_G E l Y d Q pc L st w) (h : d ≤ d2) : jx_G E l Y d2 Q pc L st w := by
  intro p e R s m args below meth c H locs cells slots ls C hH hL hq hc hs
  exact k p e R s m args below meth c H locs cells slots ls ⟨C.ex, C.code, C.nL, C.ret, C.own, C.locks, C.name, C.tab, C.warm, C.old, Nat.le_trans h C.fr, by have := C.lo; omega, C.ok, C.st⟩ hH hL hq hc hs
theorem jx_iconst {n : Int} {v : Int32} (hd : decode Y.2.2.1 pc = .ok (.iconst n, 1)) (hv : Int32.ofInt n = v) (k : jx_G E l Y d Q (pc + 1) L (.int v :: st) w) : jx_G E l Y d Q pc L (st) w := by
  intro p e R s m args below meth c H locs cells slots ls C hH hL hq hc hs
  exact lv_iconst C.ex C.code hd hv (k p e R s m args below meth c H locs cells slots ls C hH hL hq hc hs)
theorem jx_bipush {n : Int} {v : Int32} (hd : decode Y.2.2.1 pc = .ok (.bipush n, 2)) (hv : (Int8.ofInt n).toInt32 = v) (k : jx_G E l Y d Q (pc + 2) L (.int v :: st) w) : jx_G E l Y d Q pc L (st) w := by
  intro p e R s m args below meth c H locs cells slots ls C hH hL hq hc hs
  exact lv_bipush C.ex C.code hd hv (k p e R s m args below meth c H locs cells slots ls C hH hL hq hc hs)
theorem jx_sipush {n : Int} {v : Int32} (hd : decode Y.2.2.1 pc = .ok (.sipush n, 3)) (hv : (Int16.ofInt n).toInt32 = v) (k : jx_G E l Y d Q (pc + 3) L (.int v :: st) w) : jx_G E l Y d Q pc L (st) w := by
  intro p e R s m args below meth c H locs cells slots ls C hH hL hq hc hs
  exact lv_sipush C.ex C.code hd hv (k p e R s m args below meth c H locs cells slots ls C hH hL hq hc hs)
theorem jx_lconst {n : Fin 2} {v : Int64} (hd : decode Y.2.2.1 pc = .ok (.lconst n, 1)) (hv : Int64.ofNat (n : Nat) = v) (k : jx_G E l Y d Q (pc + 1) L (.long v :: st) w) : jx_G E l Y d Q pc L (st) w := by
  intro p e R s m args below meth c H locs cells slots ls C hH hL hq hc hs
  exact lv_lconst C.ex C.code hd hv (k p e R s m args below meth c H locs cells slots ls C hH hL hq hc hs)
theorem jx_null (hd : decode Y.2.2.1 pc = .ok (.aconst_null, 1)) (k : jx_G E l Y d Q (pc + 1) L (.null :: st) w) : jx_G E l Y d Q pc L (st) w := by
  intro p e R s m args below meth c H locs cells slots ls C hH hL hq hc hs
  exact lv_null C.ex C.code hd (k p e R s m args below meth c H locs cells slots ls C hH hL hq hc hs)
theorem jx_iload_n {k : Fin 4} {i : Nat} {x : Int32} (hd : decode Y.2.2.1 pc = .ok (.iload_n k, 1)) (hi : (k : Nat) = i) (hl : L[i]? = some (some (.int x))) (k : jx_G E l Y d Q (pc + 1) L (.int x :: st) w) : jx_G E l Y d Q pc L (st) w := by
  intro p e R s m args below meth c H locs cells slots ls C hH hL hq hc hs
  exact lv_iload_n C.ex C.code hd hi (hL.2.2.2 _ _ hl) (k p e R s m args below meth c H locs cells slots ls C hH hL hq hc hs)
theorem jx_iload {i : Nat} {x : Int32} (hd : decode Y.2.2.1 pc = .ok (.iload i, 2)) (hl : L[i]? = some (some (.int x))) (k : jx_G E l Y d Q (pc + 2) L (.int x :: st) w) : jx_G E l Y d Q pc L (st) w := by
  intro p e R s m args below meth c H locs cells slots ls C hH hL hq hc hs
  exact lv_iload C.ex C.code hd (hL.2.2.2 _ _ hl) (k p e R s m args below meth c H locs cells slots ls C hH hL hq hc hs)
theorem jx_lload_n {k : Fin 4} {i : Nat} {x : Int64} (hd : decode Y.2.2.1 pc = .ok (.lload_n k, 1)) (hi : (k : Nat) = i) (hl : L[i]? = some (some (.long x))) (k : jx_G E l Y d Q (pc + 1) L (.long x :: st) w) : jx_G E l Y d Q pc L (st) w := by
  intro p e R s m args below meth c H locs cells slots ls C hH hL hq hc hs
  exact lv_lload_n C.ex C.code hd hi (hL.2.2.2 _ _ hl) (k p e R s m args below meth c H locs cells slots ls C hH hL hq hc hs)
theorem jx_lload {i : Nat} {x : Int64} (hd : decode Y.2.2.1 pc = .ok (.lload i, 2)) (hl : L[i]? = some (some (.long x))) (k : jx_G E l Y d Q (pc + 2) L (.long x :: st) w) : jx_G E l Y d Q pc L (st) w := by
  intro p e R s m args below meth c H locs cells slots ls C hH hL hq hc hs
  exact lv_lload C.ex C.code hd (hL.2.2.2 _ _ hl) (k p e R s m args below meth c H locs cells slots ls C hH hL hq hc hs)
theorem jx_aload_n {k : Fin 4} {i : Nat} {x : Nat} (hd : decode Y.2.2.1 pc = .ok (.aload_n k, 1)) (hi : (k : Nat) = i) (hl : L[i]? = some (some (.ref x))) (k : jx_G E l Y d Q (pc + 1) L (.ref x :: st) w) : jx_G E l Y d Q pc L (st) w := by
  intro p e R s m args below meth c H locs cells slots ls C hH hL hq hc hs
  exact lv_aload_n C.ex C.code hd hi (hL.2.2.2 _ _ hl) (k p e R s m args below meth c H locs cells slots ls C hH hL hq hc hs)
theorem jx_aload {i : Nat} {x : Nat} (hd : decode Y.2.2.1 pc = .ok (.aload i, 2)) (hl : L[i]? = some (some (.ref x))) (k : jx_G E l Y d Q (pc + 2) L (.ref x :: st) w) : jx_G E l Y d Q pc L (st) w := by
  intro p e R s m args below meth c H locs cells slots ls C hH hL hq hc hs
  exact lv_aload C.ex C.code hd (hL.2.2.2 _ _ hl) (k p e R s m args below meth c H locs cells slots ls C hH hL hq hc hs)
theorem jx_aload_nN {k : Fin 4} {i : Nat} (hd : decode Y.2.2.1 pc = .ok (.aload_n k, 1)) (hi : (k : Nat) = i) (hl : L[i]? = some (some .null)) (k : jx_G E l Y d Q (pc + 1) L (.null :: st) w) : jx_G E l Y d Q pc L (st) w := by
  intro p e R s m args below meth c H locs cells slots ls C hH hL hq hc hs
  exact lv_aload_nN C.ex C.code hd hi (hL.2.2.2 _ _ hl) (k p e R s m args below meth c H locs cells slots ls C hH hL hq hc hs)
theorem jx_aloadN {i : Nat} (hd : decode Y.2.2.1 pc = .ok (.aload i, 2)) (hl : L[i]? = some (some .null)) (k : jx_G E l Y d Q (pc + 2) L (.null :: st) w) : jx_G E l Y d Q pc L (st) w := by
  intro p e R s m args below meth c H locs cells slots ls C hH hL hq hc hs
  exact lv_aloadN C.ex C.code hd (hL.2.2.2 _ _ hl) (k p e R s m args below meth c H locs cells slots ls C hH hL hq hc hs)
theorem jx_iadd {x y : Int32} (hd : decode Y.2.2.1 pc = .ok (.iadd, 1)) (k : jx_G E l Y d Q (pc + 1) L (.int (x + y) :: st) w) : jx_G E l Y d Q pc L (.int y :: .int x :: st) w := by
  intro p e R s m args below meth c H locs cells slots ls C hH hL hq hc hs
  exact lv_iadd C.ex C.code hd (k p e R s m args below meth c H locs cells slots ls C hH hL hq hc hs)
theorem jx_isub {x y : Int32} (hd : decode Y.2.2.1 pc = .ok (.isub, 1)) (k : jx_G E l Y d Q (pc + 1) L (.int (x - y) :: st) w) : jx_G E l Y d Q pc L (.int y :: .int x :: st) w := by
  intro p e R s m args below meth c H locs cells slots ls C hH hL hq hc hs
  exact lv_isub C.ex C.code hd (k p e R s m args below meth c H locs cells slots ls C hH hL hq hc hs)
theorem jx_imul {x y : Int32} (hd : decode Y.2.2.1 pc = .ok (.imul, 1)) (k : jx_G E l Y d Q (pc + 1) L (.int (x * y) :: st) w) : jx_G E l Y d Q pc L (.int y :: .int x :: st) w := by
  intro p e R s m args below meth c H locs cells slots ls C hH hL hq hc hs
  exact lv_imul C.ex C.code hd (k p e R s m args below meth c H locs cells slots ls C hH hL hq hc hs)
theorem jx_iand {x y : Int32} (hd : decode Y.2.2.1 pc = .ok (.iand, 1)) (k : jx_G E l Y d Q (pc + 1) L (.int (x &&& y) :: st) w) : jx_G E l Y d Q pc L (.int y :: .int x :: st) w := by
  intro p e R s m args below meth c H locs cells slots ls C hH hL hq hc hs
  exact lv_iand C.ex C.code hd (k p e R s m args below meth c H locs cells slots ls C hH hL hq hc hs)
theorem jx_ior {x y : Int32} (hd : decode Y.2.2.1 pc = .ok (.ior, 1)) (k : jx_G E l Y d Q (pc + 1) L (.int (x ||| y) :: st) w) : jx_G E l Y d Q pc L (.int y :: .int x :: st) w := by
  intro p e R s m args below meth c H locs cells slots ls C hH hL hq hc hs
  exact lv_ior C.ex C.code hd (k p e R s m args below meth c H locs cells slots ls C hH hL hq hc hs)
theorem jx_ixor {x y : Int32} (hd : decode Y.2.2.1 pc = .ok (.ixor, 1)) (k : jx_G E l Y d Q (pc + 1) L (.int (x ^^^ y) :: st) w) : jx_G E l Y d Q pc L (.int y :: .int x :: st) w := by
  intro p e R s m args below meth c H locs cells slots ls C hH hL hq hc hs
  exact lv_ixor C.ex C.code hd (k p e R s m args below meth c H locs cells slots ls C hH hL hq hc hs)
theorem jx_ladd {x y : Int64} (hd : decode Y.2.2.1 pc = .ok (.ladd, 1)) (k : jx_G E l Y d Q (pc + 1) L (.long (x + y) :: st) w) : jx_G E l Y d Q pc L (.long y :: .long x :: st) w := by
  intro p e R s m args below meth c H locs cells slots ls C hH hL hq hc hs
  exact lv_ladd C.ex C.code hd (k p e R s m args below meth c H locs cells slots ls C hH hL hq hc hs)
theorem jx_lsub {x y : Int64} (hd : decode Y.2.2.1 pc = .ok (.lsub, 1)) (k : jx_G E l Y d Q (pc + 1) L (.long (x - y) :: st) w) : jx_G E l Y d Q pc L (.long y :: .long x :: st) w := by
  intro p e R s m args below meth c H locs cells slots ls C hH hL hq hc hs
  exact lv_lsub C.ex C.code hd (k p e R s m args below meth c H locs cells slots ls C hH hL hq hc hs)
theorem jx_lmul {x y : Int64} (hd : decode Y.2.2.1 pc = .ok (.lmul, 1)) (k : jx_G E l Y d Q (pc + 1) L (.long (x * y) :: st) w) : jx_G E l Y d Q pc L (.long y :: .long x :: st) w := by
  intro p e R s m args below meth c H locs cells slots ls C hH hL hq hc hs
  exact lv_lmul C.ex C.code hd (k p e R s m args below meth c H locs cells slots ls C hH hL hq hc hs)
theorem jx_ishl {x y : Int32} (hd : decode Y.2.2.1 pc = .ok (.ishl, 1)) (k : jx_G E l Y d Q (pc + 1) L (.int (x <<< (y &&& 31)) :: st) w) : jx_G E l Y d Q pc L (.int y :: .int x :: st) w := by
  intro p e R s m args below meth c H locs cells slots ls C hH hL hq hc hs
  exact lv_ishl C.ex C.code hd (k p e R s m args below meth c H locs cells slots ls C hH hL hq hc hs)
theorem jx_ishr {x y : Int32} (hd : decode Y.2.2.1 pc = .ok (.ishr, 1)) (k : jx_G E l Y d Q (pc + 1) L (.int (x >>> (y &&& 31)) :: st) w) : jx_G E l Y d Q pc L (.int y :: .int x :: st) w := by
  intro p e R s m args below meth c H locs cells slots ls C hH hL hq hc hs
  exact lv_ishr C.ex C.code hd (k p e R s m args below meth c H locs cells slots ls C hH hL hq hc hs)
theorem jx_idiv {x y : Int32} (hd : decode Y.2.2.1 pc = .ok (.idiv, 1)) (hne : ¬ y = 0) (k : jx_G E l Y d Q (pc + 1) L (.int (x / y) :: st) w) : jx_G E l Y d Q pc L (.int y :: .int x :: st) w := by
  intro p e R s m args below meth c H locs cells slots ls C hH hL hq hc hs
  exact lv_idiv C.ex C.code hd hne (k p e R s m args below meth c H locs cells slots ls C hH hL hq hc hs)
theorem jx_irem {x y : Int32} (hd : decode Y.2.2.1 pc = .ok (.irem, 1)) (hne : ¬ y = 0) (k : jx_G E l Y d Q (pc + 1) L (.int (x - x / y * y) :: st) w) : jx_G E l Y d Q pc L (.int y :: .int x :: st) w := by
  intro p e R s m args below meth c H locs cells slots ls C hH hL hq hc hs
  exact lv_irem C.ex C.code hd hne (k p e R s m args below meth c H locs cells slots ls C hH hL hq hc hs)
theorem jx_lcmp {x y : Int64} (hd : decode Y.2.2.1 pc = .ok (.lcmp, 1)) (k : jx_G E l Y d Q (pc + 1) L (.int (lg_cmp x y) :: st) w) : jx_G E l Y d Q pc L (.long y :: .long x :: st) w := by
  intro p e R s m args below meth c H locs cells slots ls C hH hL hq hc hs
  exact W.lcmp C.ex C.code hd (k p e R s m args below meth c H locs cells slots ls C hH hL hq hc hs)
theorem jx_i2l {x : Int32} {v : Int64} (hd : decode Y.2.2.1 pc = .ok (.i2l, 1)) (hv : x.toInt64 = v) (k : jx_G E l Y d Q (pc + 1) L (.long v :: st) w) : jx_G E l Y d Q pc L (.int x :: st) w := by
  intro p e R s m args below meth c H locs cells slots ls C hH hL hq hc hs
  exact lv_i2l C.ex C.code hd hv (k p e R s m args below meth c H locs cells slots ls C hH hL hq hc hs)
theorem jx_l2i {x : Int64} {v : Int32} (hd : decode Y.2.2.1 pc = .ok (.l2i, 1)) (hv : x.toInt32 = v) (k : jx_G E l Y d Q (pc + 1) L (.int v :: st) w) : jx_G E l Y d Q pc L (.long x :: st) w := by
  intro p e R s m args below meth c H locs cells slots ls C hH hL hq hc hs
  exact lv_l2i C.ex C.code hd hv (k p e R s m args below meth c H locs cells slots ls C hH hL hq hc hs)
theorem jx_dup {va : Value} (hd : decode Y.2.2.1 pc = .ok (.dup, 1)) (hva : va.category = 1) (k : jx_G E l Y d Q (pc + 1) L (va :: va :: st) w) : jx_G E l Y d Q pc L (va :: st) w := by
  intro p e R s m args below meth c H locs cells slots ls C hH hL hq hc hs
  exact lv_dup C.ex C.code hd hva (k p e R s m args below meth c H locs cells slots ls C hH hL hq hc hs)
theorem jx_pop {va : Value} (hd : decode Y.2.2.1 pc = .ok (.pop, 1)) (hva : va.category = 1) (k : jx_G E l Y d Q (pc + 1) L (st) w) : jx_G E l Y d Q pc L (va :: st) w := by
  intro p e R s m args below meth c H locs cells slots ls C hH hL hq hc hs
  exact lv_pop C.ex C.code hd hva (k p e R s m args below meth c H locs cells slots ls C hH hL hq hc hs)
theorem jx_dup2 {va vb : Value} (hd : decode Y.2.2.1 pc = .ok (.dup2, 1)) (hva : va.category = 1) (hvb : vb.category = 1) (k : jx_G E l Y d Q (pc + 1) L (va :: vb :: va :: vb :: st) w) : jx_G E l Y d Q pc L (va :: vb :: st) w := by
  intro p e R s m args below meth c H locs cells slots ls C hH hL hq hc hs
  exact lv_dup2_11 C.ex C.code hd hva hvb (k p e R s m args below meth c H locs cells slots ls C hH hL hq hc hs)
theorem jx_if_eq {x : Int32} {off : Int} {tgt : Nat} (hd : decode Y.2.2.1 pc = .ok (.ifCond .eq off, 3)) (ht : (pc : Int) + off = (tgt : Int)) (kt : x = 0 → jx_G E l Y d Q tgt L st w) (kf : ¬ x = 0 → jx_G E l Y d Q (pc + 3) L st w) : jx_G E l Y d Q pc L (.int x :: st) w := by
  intro p e R s m args below meth c H locs cells slots ls C hH hL hq hc hs
  exact lv_if_eq C.ex C.code hd ht (fun z => kt z p e R s m args below meth c H locs cells slots ls C hH hL hq hc hs) (fun z => kf z p e R s m args below meth c H locs cells slots ls C hH hL hq hc hs)
theorem jx_icmp_eq {x y : Int32} {off : Int} {tgt : Nat} (hd : decode Y.2.2.1 pc = .ok (.if_icmp .eq off, 3)) (ht : (pc : Int) + off = (tgt : Int)) (kt : x = y → jx_G E l Y d Q tgt L st w) (kf : ¬ x = y → jx_G E l Y d Q (pc + 3) L st w) : jx_G E l Y d Q pc L (.int y :: .int x :: st) w := by
  intro p e R s m args below meth c H locs cells slots ls C hH hL hq hc hs
  exact lv_icmp_eq C.ex C.code hd ht (fun z => kt z p e R s m args below meth c H locs cells slots ls C hH hL hq hc hs) (fun z => kf z p e R s m args below meth c H locs cells slots ls C hH hL hq hc hs)
theorem jx_if_ne {x : Int32} {off : Int} {tgt : Nat} (hd : decode Y.2.2.1 pc = .ok (.ifCond .ne off, 3)) (ht : (pc : Int) + off = (tgt : Int)) (kt : ¬ x = 0 → jx_G E l Y d Q tgt L st w) (kf : x = 0 → jx_G E l Y d Q (pc + 3) L st w) : jx_G E l Y d Q pc L (.int x :: st) w := by
  intro p e R s m args below meth c H locs cells slots ls C hH hL hq hc hs
  exact lv_if_ne C.ex C.code hd ht (fun z => kt z p e R s m args below meth c H locs cells slots ls C hH hL hq hc hs) (fun z => kf z p e R s m args below meth c H locs cells slots ls C hH hL hq hc hs)
theorem jx_icmp_ne {x y : Int32} {off : Int} {tgt : Nat} (hd : decode Y.2.2.1 pc = .ok (.if_icmp .ne off, 3)) (ht : (pc : Int) + off = (tgt : Int)) (kt : ¬ x = y → jx_G E l Y d Q tgt L st w) (kf : x = y → jx_G E l Y d Q (pc + 3) L st w) : jx_G E l Y d Q pc L (.int y :: .int x :: st) w := by
  intro p e R s m args below meth c H locs cells slots ls C hH hL hq hc hs
  exact lv_icmp_ne C.ex C.code hd ht (fun z => kt z p e R s m args below meth c H locs cells slots ls C hH hL hq hc hs) (fun z => kf z p e R s m args below meth c H locs cells slots ls C hH hL hq hc hs)
theorem jx_if_lt {x : Int32} {off : Int} {tgt : Nat} (hd : decode Y.2.2.1 pc = .ok (.ifCond .lt off, 3)) (ht : (pc : Int) + off = (tgt : Int)) (kt : x < 0 → jx_G E l Y d Q tgt L st w) (kf : ¬ x < 0 → jx_G E l Y d Q (pc + 3) L st w) : jx_G E l Y d Q pc L (.int x :: st) w := by
  intro p e R s m args below meth c H locs cells slots ls C hH hL hq hc hs
  exact lv_if_lt C.ex C.code hd ht (fun z => kt z p e R s m args below meth c H locs cells slots ls C hH hL hq hc hs) (fun z => kf z p e R s m args below meth c H locs cells slots ls C hH hL hq hc hs)
theorem jx_icmp_lt {x y : Int32} {off : Int} {tgt : Nat} (hd : decode Y.2.2.1 pc = .ok (.if_icmp .lt off, 3)) (ht : (pc : Int) + off = (tgt : Int)) (kt : x < y → jx_G E l Y d Q tgt L st w) (kf : ¬ x < y → jx_G E l Y d Q (pc + 3) L st w) : jx_G E l Y d Q pc L (.int y :: .int x :: st) w := by
  intro p e R s m args below meth c H locs cells slots ls C hH hL hq hc hs
  exact lv_icmp_lt C.ex C.code hd ht (fun z => kt z p e R s m args below meth c H locs cells slots ls C hH hL hq hc hs) (fun z => kf z p e R s m args below meth c H locs cells slots ls C hH hL hq hc hs)
theorem jx_if_ge {x : Int32} {off : Int} {tgt : Nat} (hd : decode Y.2.2.1 pc = .ok (.ifCond .ge off, 3)) (ht : (pc : Int) + off = (tgt : Int)) (kt : 0 ≤ x → jx_G E l Y d Q tgt L st w) (kf : ¬ 0 ≤ x → jx_G E l Y d Q (pc + 3) L st w) : jx_G E l Y d Q pc L (.int x :: st) w := by
  intro p e R s m args below meth c H locs cells slots ls C hH hL hq hc hs
  exact lv_if_ge C.ex C.code hd ht (fun z => kt z p e R s m args below meth c H locs cells slots ls C hH hL hq hc hs) (fun z => kf z p e R s m args below meth c H locs cells slots ls C hH hL hq hc hs)
theorem jx_icmp_ge {x y : Int32} {off : Int} {tgt : Nat} (hd : decode Y.2.2.1 pc = .ok (.if_icmp .ge off, 3)) (ht : (pc : Int) + off = (tgt : Int)) (kt : y ≤ x → jx_G E l Y d Q tgt L st w) (kf : ¬ y ≤ x → jx_G E l Y d Q (pc + 3) L st w) : jx_G E l Y d Q pc L (.int y :: .int x :: st) w := by
  intro p e R s m args below meth c H locs cells slots ls C hH hL hq hc hs
  exact lv_icmp_ge C.ex C.code hd ht (fun z => kt z p e R s m args below meth c H locs cells slots ls C hH hL hq hc hs) (fun z => kf z p e R s m args below meth c H locs cells slots ls C hH hL hq hc hs)
theorem jx_if_gt {x : Int32} {off : Int} {tgt : Nat} (hd : decode Y.2.2.1 pc = .ok (.ifCond .gt off, 3)) (ht : (pc : Int) + off = (tgt : Int)) (kt : 0 < x → jx_G E l Y d Q tgt L st w) (kf : ¬ 0 < x → jx_G E l Y d Q (pc + 3) L st w) : jx_G E l Y d Q pc L (.int x :: st) w := by
  intro p e R s m args below meth c H locs cells slots ls C hH hL hq hc hs
  exact lv_if_gt C.ex C.code hd ht (fun z => kt z p e R s m args below meth c H locs cells slots ls C hH hL hq hc hs) (fun z => kf z p e R s m args below meth c H locs cells slots ls C hH hL hq hc hs)
theorem jx_icmp_gt {x y : Int32} {off : Int} {tgt : Nat} (hd : decode Y.2.2.1 pc = .ok (.if_icmp .gt off, 3)) (ht : (pc : Int) + off = (tgt : Int)) (kt : y < x → jx_G E l Y d Q tgt L st w) (kf : ¬ y < x → jx_G E l Y d Q (pc + 3) L st w) : jx_G E l Y d Q pc L (.int y :: .int x :: st) w := by
  intro p e R s m args below meth c H locs cells slots ls C hH hL hq hc hs
  exact lv_icmp_gt C.ex C.code hd ht (fun z => kt z p e R s m args below meth c H locs cells slots ls C hH hL hq hc hs) (fun z => kf z p e R s m args below meth c H locs cells slots ls C hH hL hq hc hs)
theorem jx_if_le {x : Int32} {off : Int} {tgt : Nat} (hd : decode Y.2.2.1 pc = .ok (.ifCond .le off, 3)) (ht : (pc : Int) + off = (tgt : Int)) (kt : x ≤ 0 → jx_G E l Y d Q tgt L st w) (kf : ¬ x ≤ 0 → jx_G E l Y d Q (pc + 3) L st w) : jx_G E l Y d Q pc L (.int x :: st) w := by
  intro p e R s m args below meth c H locs cells slots ls C hH hL hq hc hs
  exact lv_if_le C.ex C.code hd ht (fun z => kt z p e R s m args below meth c H locs cells slots ls C hH hL hq hc hs) (fun z => kf z p e R s m args below meth c H locs cells slots ls C hH hL hq hc hs)
theorem jx_icmp_le {x y : Int32} {off : Int} {tgt : Nat} (hd : decode Y.2.2.1 pc = .ok (.if_icmp .le off, 3)) (ht : (pc : Int) + off = (tgt : Int)) (kt : x ≤ y → jx_G E l Y d Q tgt L st w) (kf : ¬ x ≤ y → jx_G E l Y d Q (pc + 3) L st w) : jx_G E l Y d Q pc L (.int y :: .int x :: st) w := by
  intro p e R s m args below meth c H locs cells slots ls C hH hL hq hc hs
  exact lv_icmp_le C.ex C.code hd ht (fun z => kt z p e R s m args below meth c H locs cells slots ls C hH hL hq hc hs) (fun z => kf z p e R s m args below meth c H locs cells slots ls C hH hL hq hc hs)
theorem jx_goto {off : Int} {tgt : Nat} (hd : decode Y.2.2.1 pc = .ok (.goto off, 3)) (ht : (pc : Int) + off = (tgt : Int)) (k : jx_G E l Y d Q tgt L st w) : jx_G E l Y d Q pc L st w := by
  intro p e R s m args below meth c H locs cells slots ls C hH hL hq hc hs
  exact lv_goto C.ex C.code hd ht (k p e R s m args below meth c H locs cells slots ls C hH hL hq hc hs)
theorem jx_ifnull {x : Nat} {off : Int} (hd : decode Y.2.2.1 pc = .ok (.ifnull off, 3)) (k : jx_G E l Y d Q (pc + 3) L st w) : jx_G E l Y d Q pc L (.ref x :: st) w := by
  intro p e R s m args below meth c H locs cells slots ls C hH hL hq hc hs
  exact lv_ifnull C.ex C.code hd (k p e R s m args below meth c H locs cells slots ls C hH hL hq hc hs)
theorem jx_ifnonnull {x : Nat} {off : Int} {tgt : Nat} (hd : decode Y.2.2.1 pc = .ok (.ifnonnull off, 3)) (ht : (pc : Int) + off = (tgt : Int)) (k : jx_G E l Y d Q tgt L st w) : jx_G E l Y d Q pc L (.ref x :: st) w := by
  intro p e R s m args below meth c H locs cells slots ls C hH hL hq hc hs
  exact lv_ifnonnull C.ex C.code hd ht (k p e R s m args below meth c H locs cells slots ls C hH hL hq hc hs)
theorem jx_istore_n {k : Fin 4} {i : Nat} {x : Int32} (hd : decode Y.2.2.1 pc = .ok (.istore_n k, 1)) (hi : (k : Nat) = i) (hn : i < L.length) (hf : jx_free L i = true) (kk : jx_G E l Y d Q (pc + 1) (L.set i (some (.int x))) st w) : jx_G E l Y d Q pc L (.int x :: st) w := by
  intro p e R s m args below meth c H locs cells slots ls C hH hL hq hc hs
  refine lv_istore_n C.ex C.code hd hi hL.has (by rw [← hL.2.2.1]; exact hn) rfl (fun ls2 h2 => ?_)
  exact kk p e R s m args below meth c H locs cells slots ls2 C hH (jx_st1 hL.2.2.1 (by rw [← hL.2.2.1]; exact hn) hf h2) hq hc hs
theorem jx_istore {i : Nat} {x : Int32} (hd : decode Y.2.2.1 pc = .ok (.istore i, 2)) (hn : i < L.length) (hf : jx_free L i = true) (kk : jx_G E l Y d Q (pc + 2) (L.set i (some (.int x))) st w) : jx_G E l Y d Q pc L (.int x :: st) w := by
  intro p e R s m args below meth c H locs cells slots ls C hH hL hq hc hs
  refine lv_istore C.ex C.code hd hL.has (by rw [← hL.2.2.1]; exact hn) rfl (fun ls2 h2 => ?_)
  exact kk p e R s m args below meth c H locs cells slots ls2 C hH (jx_st1 hL.2.2.1 (by rw [← hL.2.2.1]; exact hn) hf h2) hq hc hs
theorem jx_astore_n {k : Fin 4} {i : Nat} {x : Nat} (hd : decode Y.2.2.1 pc = .ok (.astore_n k, 1)) (hi : (k : Nat) = i) (hn : i < L.length) (hf : jx_free L i = true) (kk : jx_G E l Y d Q (pc + 1) (L.set i (some (.ref x))) st w) : jx_G E l Y d Q pc L (.ref x :: st) w := by
  intro p e R s m args below meth c H locs cells slots ls C hH hL hq hc hs
  refine lv_astore_n C.ex C.code hd hi hL.has (by rw [← hL.2.2.1]; exact hn) rfl (fun ls2 h2 => ?_)
  exact kk p e R s m args below meth c H locs cells slots ls2 C hH (jx_st1 hL.2.2.1 (by rw [← hL.2.2.1]; exact hn) hf h2) hq hc hs
theorem jx_astore {i : Nat} {x : Nat} (hd : decode Y.2.2.1 pc = .ok (.astore i, 2)) (hn : i < L.length) (hf : jx_free L i = true) (kk : jx_G E l Y d Q (pc + 2) (L.set i (some (.ref x))) st w) : jx_G E l Y d Q pc L (.ref x :: st) w := by
  intro p e R s m args below meth c H locs cells slots ls C hH hL hq hc hs
  refine lv_astore C.ex C.code hd hL.has (by rw [← hL.2.2.1]; exact hn) rfl (fun ls2 h2 => ?_)
  exact kk p e R s m args below meth c H locs cells slots ls2 C hH (jx_st1 hL.2.2.1 (by rw [← hL.2.2.1]; exact hn) hf h2) hq hc hs
theorem jx_lstore_n {k : Fin 4} {i : Nat} {x : Int64} (hd : decode Y.2.2.1 pc = .ok (.lstore_n k, 1)) (hi : (k : Nat) = i) (hn : i + 1 < L.length) (hf : jx_free L i = true) (kk : jx_G E l Y d Q (pc + 1) ((L.set i (some (.long x))).set (i + 1) none) st w) : jx_G E l Y d Q pc L (.long x :: st) w := by
  intro p e R s m args below meth c H locs cells slots ls C hH hL hq hc hs
  refine lv_lstore_n C.ex C.code hd hi hL.has (by rw [← hL.2.2.1]; exact hn) rfl (fun ls2 h2 => ?_)
  exact kk p e R s m args below meth c H locs cells slots ls2 C hH (jx_st2 hL.2.2.1 (by rw [← hL.2.2.1]; exact hn) hf h2) hq hc hs
theorem jx_lstore {i : Nat} {x : Int64} (hd : decode Y.2.2.1 pc = .ok (.lstore i, 2)) (hn : i + 1 < L.length) (hf : jx_free L i = true) (kk : jx_G E l Y d Q (pc + 2) ((L.set i (some (.long x))).set (i + 1) none) st w) : jx_G E l Y d Q pc L (.long x :: st) w := by
  intro p e R s m args below meth c H locs cells slots ls C hH hL hq hc hs
  refine lv_lstore C.ex C.code hd hL.has (by rw [← hL.2.2.1]; exact hn) rfl (fun ls2 h2 => ?_)
  exact kk p e R s m args below meth c H locs cells slots ls2 C hH (jx_st2 hL.2.2.1 (by rw [← hL.2.2.1]; exact hn) hf h2) hq hc hs
theorem jx_iinc {i : Nat} {n : Int} {x v : Int32} (hd : decode Y.2.2.1 pc = .ok (.iinc i n, 3)) (hl : L[i]? = some (some (.int x))) (hv : x + Int32.ofInt n = v) (hf : jx_free L i = true) (kk : jx_G E l Y d Q (pc + 3) (L.set i (some (.int v))) st w) : jx_G E l Y d Q pc L st w := by
  intro p e R s m args below meth c H locs cells slots ls C hH hL hq hc hs
  have hn : i < L.length := (List.getElem?_eq_some_iff.mp hl).1
  obtain ⟨j, hj⟩ := List.getElem?_of_mem (jx_mem_as.mpr hl)
  refine lv_iinc C.ex C.code hd hL.has hj hv (by rw [← hL.2.2.1]; exact hn) rfl (fun ls2 h2 => ?_)
  exact kk p e R s m args below meth c H locs cells slots ls2 C hH (jx_st1 hL.2.2.1 (by rw [← hL.2.2.1]; exact hn) hf h2) hq hc hs
theorem jx_tableOut {dflt lo hi : Int} {offs : Array Int} {len : Nat} {x : Int32} {tgt : Nat} (hd : decode Y.2.2.1 pc = .ok (.tableswitch dflt lo hi offs, len)) (h : x.toInt < lo ∨ hi < x.toInt) (ht : (pc : Int) + dflt = (tgt : Int)) (k : jx_G E l Y d Q tgt L st w) : jx_G E l Y d Q pc L (.int x :: st) w := by
  intro p e R s m args below meth c H locs cells slots ls C hH hL hq hc hs
  exact lv_tableOut C.ex C.code hd h ht (k p e R s m args below meth c H locs cells slots ls C hH hL hq hc hs)
theorem jx_tableIn {dflt lo hi : Int} {offs : Array Int} {len : Nat} {x : Int32} {off : Int} {tgt : Nat} (hd : decode Y.2.2.1 pc = .ok (.tableswitch dflt lo hi offs, len)) (h1 : ¬ x.toInt < lo) (h2 : ¬ hi < x.toInt) (ho : offs[(x.toInt - lo).toNat]? = some off) (ht : (pc : Int) + off = (tgt : Int)) (k : jx_G E l Y d Q tgt L st w) : jx_G E l Y d Q pc L (.int x :: st) w := by
  intro p e R s m args below meth c H locs cells slots ls C hH hL hq hc hs
  exact lv_tableIn C.ex C.code hd h1 h2 ho ht (k p e R s m args below meth c H locs cells slots ls C hH hL hq hc hs)
end JXR
