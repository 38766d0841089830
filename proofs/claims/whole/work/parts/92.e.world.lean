/-! 92.e.world: the claim's own end, as the kit's skeleton gives it; what the law's start knows -/
/-! THE CLAIM OUT OF ONE WALK OF THE LAW'S BODY. Your part is whole_start (and what it stands on); all else here is the same for every law, but numbers. -/
def R_law : String := "TaskShareLaw"
def lw_P (b : Addr) (xs : List Int32) (args : Array Value) (s : State) : Prop := args = #[.ref b] ∧ s.IntsAt b xs ∧ xs.length ≤ 2560 ∧ (Jvm.Cond.and given_1 narrow_1).before args s = true
def lw_Q (_ : Array Value) (s : State) (o : Outcome) (t : State) : Prop := o = .returned (some (.int 1)) ∧ Framed s o t [] 601024 7293034
def lw_Z (below : List Frame) (a : Array Value) (s : State) : State → Prop := fun t => ∃ o, t.status = .running ∧ Ended t below o ∧ lw_Q a s o t
/-- the law's own end, with 1 on the stack, nothing written that was there before, its room as the claim has it -/
theorem lw_ret {p : Program} {l : Launch} {e : Env} {s : State} {m : MethodId} {below : List Frame} {meth : Method} {c : Code} {b : Nat} (hx : p.tables.exec = Jvm.exec) (hb : c.code = code) (hr : meth.sig.returnType = ret) (hlocks : meth.locks = false) {pc : Nat} {H : Heap} {ls : Array Slot} (hdg : decode code pc = .ok (.ireturn, 1)) : W p l e room_1 s m #[Value.ref b] below meth c H [] 601024 7293034 (lw_Z below #[Value.ref b] s) (F0 m pc ls [.int 1]) := by
  intro T hT X
  obtain ⟨fs, hret, hrun, hended, hW, hframe⟩ := X.leave (v := some (.int 1)) (hlocks := hlocks) (fun h => by rw [hr] at h; cases h)
  have hmeth' : T.vm.method? m = some meth := X.method'
  refine ⟨T.setFrames fs, ?_, .returned (some (.int 1)), hrun, hended, rfl, ⟨_, rfl⟩, hW, hframe⟩
  jvm_step X.here [X.here.top, hx, hb, hdg, hmeth', hr, ret, narrow_b1]
  (try refine ⟨rfl, ?_⟩); (try refine ⟨rfl, ?_⟩)
  first | (intro acts; rw [hret _ acts rfl rfl rfl]) | rw [hret _ _ rfl rfl rfl]
  exact Steps.refl _
/-- what holds at the law's entry: the machine, the code, the tables' words (any of lw_tbl by 'hts w (by decide +kernel)'), the script of L ints xs at the cell b, what the Statement gives of the start (any of its parts by flat_of_before) -/
def lw_At (p : Program) (s : State) (m : MethodId) (meth : Method) (c : Code) (b L : Nat) (xs : Nat → Int32) : Prop :=
  p.tables.exec = Jvm.exec ∧ c.code = code ∧ meth.sig.returnType = ret ∧ c.maxLocals = 7 ∧ s.vm.findClass R_law = some m.cls ∧ (∀ w ∈ lw_tbl, w.before #[Value.ref b] s = true) ∧ va_X b L xs s s.heap ∧ b < s.heap.size ∧ meth.locks = false ∧ (Jvm.Cond.and given_1 narrow_1).before #[Value.ref b] s = true ∧ True
/-! 92.e.world: what the law's start knows -/
theorem lw_t1 {q : Jvm.Cond} (i : Nat) (h : tables_1_1[i]? = some q) : q ∈ lw_tbl := List.mem_append_right _ (show q ∈ tables_1 from List.mem_append_left _ (List.mem_of_getElem? h))
theorem lw_t2 {q : Jvm.Cond} (i : Nat) (h : tables_1_2[i]? = some q) : q ∈ lw_tbl := List.mem_append_right _ (show q ∈ tables_1 from List.mem_append_right _ (List.mem_append_left _ (List.mem_of_getElem? h)))
theorem lw_t3 {q : Jvm.Cond} (i : Nat) (h : tables_1_3[i]? = some q) : q ∈ lw_tbl := List.mem_append_right _ (show q ∈ tables_1 from List.mem_append_right _ (List.mem_append_right _ (List.mem_append_left _ (List.mem_of_getElem? h))))
theorem lw_t4 {q : Jvm.Cond} (i : Nat) (h : tables_1_4[i]? = some q) : q ∈ lw_tbl := List.mem_append_right _ (show q ∈ tables_1 from List.mem_append_right _ (List.mem_append_right _ (List.mem_append_right _ (List.mem_append_left _ (List.mem_of_getElem? h)))))
theorem lw_t5 {q : Jvm.Cond} (i : Nat) (h : tables_1_5[i]? = some q) : q ∈ lw_tbl := List.mem_append_right _ (show q ∈ tables_1 from List.mem_append_right _ (List.mem_append_right _ (List.mem_append_right _ (List.mem_append_right _ (List.mem_of_getElem? h)))))
set_option maxRecDepth 100000 in
theorem lw_l0_0 : u_lay "TaskShare" jx_T0 0 ∈ lw_tbl := lw_t1 116 rfl
set_option maxRecDepth 100000 in
theorem lw_l0_1 : u_lay "TaskShare" jx_T0 1 ∈ lw_tbl := lw_t1 118 rfl
set_option maxRecDepth 100000 in
theorem lw_l0_2 : u_lay "TaskShare" jx_T0 2 ∈ lw_tbl := lw_t1 120 rfl
set_option maxRecDepth 100000 in
theorem lw_l0_3 : u_lay "TaskShare" jx_T0 3 ∈ lw_tbl := lw_t1 122 rfl
set_option maxRecDepth 100000 in
theorem lw_l0_4 : u_lay "TaskShare" jx_T0 4 ∈ lw_tbl := lw_t1 124 rfl
set_option maxRecDepth 100000 in
theorem lw_l0_5 : u_lay "TaskShare" jx_T0 5 ∈ lw_tbl := lw_t1 126 rfl
set_option maxRecDepth 100000 in
theorem lw_l0_6 : u_lay "TaskShare" jx_T0 6 ∈ lw_tbl := lw_t1 128 rfl
theorem lw_i0 : ∀ w ∈ u_ws "TaskShare" jx_T0 7, w ∈ lw_tbl := by
  intro w hw
  obtain ⟨k, hk, rfl⟩ := List.mem_map.mp hw
  have hk := List.mem_range.mp hk
  have e : k = 0 ∨ k = 1 ∨ k = 2 ∨ k = 3 ∨ k = 4 ∨ k = 5 ∨ k = 6 := by omega
  rcases e with rfl | rfl | rfl | rfl | rfl | rfl | rfl
  · exact lw_l0_0
  · exact lw_l0_1
  · exact lw_l0_2
  · exact lw_l0_3
  · exact lw_l0_4
  · exact lw_l0_5
  · exact lw_l0_6
set_option maxRecDepth 100000 in
theorem lw_n0 : Jvm.Cond.instantiable "TaskShare" 7 ∈ lw_tbl := lw_t1 25 rfl
set_option maxRecDepth 100000 in
theorem lw_l1_0 : u_lay "TaskShare$ExactPlanner" jx_T1 0 ∈ lw_tbl := lw_t1 91 rfl
set_option maxRecDepth 100000 in
theorem lw_l1_1 : u_lay "TaskShare$ExactPlanner" jx_T1 1 ∈ lw_tbl := lw_t1 93 rfl
set_option maxRecDepth 100000 in
theorem lw_l1_2 : u_lay "TaskShare$ExactPlanner" jx_T1 2 ∈ lw_tbl := lw_t1 95 rfl
set_option maxRecDepth 100000 in
theorem lw_l1_3 : u_lay "TaskShare$ExactPlanner" jx_T1 3 ∈ lw_tbl := lw_t1 97 rfl
set_option maxRecDepth 100000 in
theorem lw_l1_4 : u_lay "TaskShare$ExactPlanner" jx_T1 4 ∈ lw_tbl := lw_t1 99 rfl
set_option maxRecDepth 100000 in
theorem lw_l1_5 : u_lay "TaskShare$ExactPlanner" jx_T1 5 ∈ lw_tbl := lw_t1 101 rfl
set_option maxRecDepth 100000 in
theorem lw_l1_6 : u_lay "TaskShare$ExactPlanner" jx_T1 6 ∈ lw_tbl := lw_t1 103 rfl
set_option maxRecDepth 100000 in
theorem lw_l1_7 : u_lay "TaskShare$ExactPlanner" jx_T1 7 ∈ lw_tbl := lw_t1 105 rfl
theorem lw_i1 : ∀ w ∈ u_ws "TaskShare$ExactPlanner" jx_T1 8, w ∈ lw_tbl := by
  intro w hw
  obtain ⟨k, hk, rfl⟩ := List.mem_map.mp hw
  have hk := List.mem_range.mp hk
  have e : k = 0 ∨ k = 1 ∨ k = 2 ∨ k = 3 ∨ k = 4 ∨ k = 5 ∨ k = 6 ∨ k = 7 := by omega
  rcases e with rfl | rfl | rfl | rfl | rfl | rfl | rfl | rfl
  · exact lw_l1_0
  · exact lw_l1_1
  · exact lw_l1_2
  · exact lw_l1_3
  · exact lw_l1_4
  · exact lw_l1_5
  · exact lw_l1_6
  · exact lw_l1_7
set_option maxRecDepth 100000 in
theorem lw_n1 : Jvm.Cond.instantiable "TaskShare$ExactPlanner" 8 ∈ lw_tbl := lw_t1 70 rfl
set_option maxRecDepth 100000 in
theorem lw_l2_0 : u_lay "TaskShare$Person" jx_T2 0 ∈ lw_tbl := lw_t2 121 rfl
set_option maxRecDepth 100000 in
theorem lw_l2_1 : u_lay "TaskShare$Person" jx_T2 1 ∈ lw_tbl := lw_t2 123 rfl
set_option maxRecDepth 100000 in
theorem lw_l2_2 : u_lay "TaskShare$Person" jx_T2 2 ∈ lw_tbl := lw_t2 125 rfl
set_option maxRecDepth 100000 in
theorem lw_l2_3 : u_lay "TaskShare$Person" jx_T2 3 ∈ lw_tbl := lw_t2 127 rfl
set_option maxRecDepth 100000 in
theorem lw_l2_4 : u_lay "TaskShare$Person" jx_T2 4 ∈ lw_tbl := lw_t2 129 rfl
set_option maxRecDepth 100000 in
theorem lw_l2_5 : u_lay "TaskShare$Person" jx_T2 5 ∈ lw_tbl := lw_t2 131 rfl
set_option maxRecDepth 100000 in
theorem lw_l2_6 : u_lay "TaskShare$Person" jx_T2 6 ∈ lw_tbl := lw_t2 133 rfl
set_option maxRecDepth 100000 in
theorem lw_l2_7 : u_lay "TaskShare$Person" jx_T2 7 ∈ lw_tbl := lw_t2 135 rfl
set_option maxRecDepth 100000 in
theorem lw_l2_8 : u_lay "TaskShare$Person" jx_T2 8 ∈ lw_tbl := lw_t2 137 rfl
set_option maxRecDepth 100000 in
theorem lw_l2_9 : u_lay "TaskShare$Person" jx_T2 9 ∈ lw_tbl := lw_t2 139 rfl
set_option maxRecDepth 100000 in
theorem lw_l2_10 : u_lay "TaskShare$Person" jx_T2 10 ∈ lw_tbl := lw_t2 141 rfl
set_option maxRecDepth 100000 in
theorem lw_l2_11 : u_lay "TaskShare$Person" jx_T2 11 ∈ lw_tbl := lw_t2 143 rfl
set_option maxRecDepth 100000 in
theorem lw_l2_12 : u_lay "TaskShare$Person" jx_T2 12 ∈ lw_tbl := lw_t2 145 rfl
set_option maxRecDepth 100000 in
theorem lw_l2_13 : u_lay "TaskShare$Person" jx_T2 13 ∈ lw_tbl := lw_t2 147 rfl
theorem lw_i2 : ∀ w ∈ u_ws "TaskShare$Person" jx_T2 14, w ∈ lw_tbl := by
  intro w hw
  obtain ⟨k, hk, rfl⟩ := List.mem_map.mp hw
  have hk := List.mem_range.mp hk
  have e : k = 0 ∨ k = 1 ∨ k = 2 ∨ k = 3 ∨ k = 4 ∨ k = 5 ∨ k = 6 ∨ k = 7 ∨ k = 8 ∨ k = 9 ∨ k = 10 ∨ k = 11 ∨ k = 12 ∨ k = 13 := by omega
  rcases e with rfl | rfl | rfl | rfl | rfl | rfl | rfl | rfl | rfl | rfl | rfl | rfl | rfl | rfl
  · exact lw_l2_0
  · exact lw_l2_1
  · exact lw_l2_2
  · exact lw_l2_3
  · exact lw_l2_4
  · exact lw_l2_5
  · exact lw_l2_6
  · exact lw_l2_7
  · exact lw_l2_8
  · exact lw_l2_9
  · exact lw_l2_10
  · exact lw_l2_11
  · exact lw_l2_12
  · exact lw_l2_13
set_option maxRecDepth 100000 in
theorem lw_n2 : Jvm.Cond.instantiable "TaskShare$Person" 14 ∈ lw_tbl := lw_t1 167 rfl
set_option maxRecDepth 100000 in
theorem lw_l3_0 : u_lay "TaskShare$Task" jx_T3 0 ∈ lw_tbl := lw_t3 58 rfl
set_option maxRecDepth 100000 in
theorem lw_l3_1 : u_lay "TaskShare$Task" jx_T3 1 ∈ lw_tbl := lw_t3 60 rfl
set_option maxRecDepth 100000 in
theorem lw_l3_2 : u_lay "TaskShare$Task" jx_T3 2 ∈ lw_tbl := lw_t3 62 rfl
set_option maxRecDepth 100000 in
theorem lw_l3_3 : u_lay "TaskShare$Task" jx_T3 3 ∈ lw_tbl := lw_t3 64 rfl
set_option maxRecDepth 100000 in
theorem lw_l3_4 : u_lay "TaskShare$Task" jx_T3 4 ∈ lw_tbl := lw_t3 66 rfl
set_option maxRecDepth 100000 in
theorem lw_l3_5 : u_lay "TaskShare$Task" jx_T3 5 ∈ lw_tbl := lw_t3 68 rfl
set_option maxRecDepth 100000 in
theorem lw_l3_6 : u_lay "TaskShare$Task" jx_T3 6 ∈ lw_tbl := lw_t3 70 rfl
set_option maxRecDepth 100000 in
theorem lw_l3_7 : u_lay "TaskShare$Task" jx_T3 7 ∈ lw_tbl := lw_t3 72 rfl
theorem lw_i3 : ∀ w ∈ u_ws "TaskShare$Task" jx_T3 8, w ∈ lw_tbl := by
  intro w hw
  obtain ⟨k, hk, rfl⟩ := List.mem_map.mp hw
  have hk := List.mem_range.mp hk
  have e : k = 0 ∨ k = 1 ∨ k = 2 ∨ k = 3 ∨ k = 4 ∨ k = 5 ∨ k = 6 ∨ k = 7 := by omega
  rcases e with rfl | rfl | rfl | rfl | rfl | rfl | rfl | rfl
  · exact lw_l3_0
  · exact lw_l3_1
  · exact lw_l3_2
  · exact lw_l3_3
  · exact lw_l3_4
  · exact lw_l3_5
  · exact lw_l3_6
  · exact lw_l3_7
set_option maxRecDepth 100000 in
theorem lw_n3 : Jvm.Cond.instantiable "TaskShare$Task" 8 ∈ lw_tbl := lw_t1 199 rfl
set_option maxRecDepth 100000 in
theorem lw_l4_0 : u_lay "TaskShare$Ways" jx_T4 0 ∈ lw_tbl := lw_t1 65 rfl
theorem lw_i4 : ∀ w ∈ u_ws "TaskShare$Ways" jx_T4 1, w ∈ lw_tbl := by
  intro w hw
  obtain ⟨k, hk, rfl⟩ := List.mem_map.mp hw
  have hk := List.mem_range.mp hk
  have e : k = 0 := by omega
  subst e
  exact lw_l4_0
set_option maxRecDepth 100000 in
theorem lw_n4 : Jvm.Cond.instantiable "TaskShare$Ways" 1 ∈ lw_tbl := lw_t1 59 rfl
set_option maxRecDepth 100000 in
theorem lw_l5_0 : u_lay "TaskShareModel" jx_T5 0 ∈ lw_tbl := lw_t4 82 rfl
set_option maxRecDepth 100000 in
theorem lw_l5_1 : u_lay "TaskShareModel" jx_T5 1 ∈ lw_tbl := lw_t4 84 rfl
set_option maxRecDepth 100000 in
theorem lw_l5_2 : u_lay "TaskShareModel" jx_T5 2 ∈ lw_tbl := lw_t4 86 rfl
set_option maxRecDepth 100000 in
theorem lw_l5_3 : u_lay "TaskShareModel" jx_T5 3 ∈ lw_tbl := lw_t4 88 rfl
set_option maxRecDepth 100000 in
theorem lw_l5_4 : u_lay "TaskShareModel" jx_T5 4 ∈ lw_tbl := lw_t4 90 rfl
set_option maxRecDepth 100000 in
theorem lw_l5_5 : u_lay "TaskShareModel" jx_T5 5 ∈ lw_tbl := lw_t4 92 rfl
set_option maxRecDepth 100000 in
theorem lw_l5_6 : u_lay "TaskShareModel" jx_T5 6 ∈ lw_tbl := lw_t4 94 rfl
set_option maxRecDepth 100000 in
theorem lw_l5_7 : u_lay "TaskShareModel" jx_T5 7 ∈ lw_tbl := lw_t4 96 rfl
set_option maxRecDepth 100000 in
theorem lw_l5_8 : u_lay "TaskShareModel" jx_T5 8 ∈ lw_tbl := lw_t4 98 rfl
set_option maxRecDepth 100000 in
theorem lw_l5_9 : u_lay "TaskShareModel" jx_T5 9 ∈ lw_tbl := lw_t4 100 rfl
set_option maxRecDepth 100000 in
theorem lw_l5_10 : u_lay "TaskShareModel" jx_T5 10 ∈ lw_tbl := lw_t4 102 rfl
set_option maxRecDepth 100000 in
theorem lw_l5_11 : u_lay "TaskShareModel" jx_T5 11 ∈ lw_tbl := lw_t4 104 rfl
set_option maxRecDepth 100000 in
theorem lw_l5_12 : u_lay "TaskShareModel" jx_T5 12 ∈ lw_tbl := lw_t4 106 rfl
set_option maxRecDepth 100000 in
theorem lw_l5_13 : u_lay "TaskShareModel" jx_T5 13 ∈ lw_tbl := lw_t4 108 rfl
set_option maxRecDepth 100000 in
theorem lw_l5_14 : u_lay "TaskShareModel" jx_T5 14 ∈ lw_tbl := lw_t4 110 rfl
set_option maxRecDepth 100000 in
theorem lw_l5_15 : u_lay "TaskShareModel" jx_T5 15 ∈ lw_tbl := lw_t4 112 rfl
set_option maxRecDepth 100000 in
theorem lw_l5_16 : u_lay "TaskShareModel" jx_T5 16 ∈ lw_tbl := lw_t4 114 rfl
set_option maxRecDepth 100000 in
theorem lw_l5_17 : u_lay "TaskShareModel" jx_T5 17 ∈ lw_tbl := lw_t4 116 rfl
set_option maxRecDepth 100000 in
theorem lw_l5_18 : u_lay "TaskShareModel" jx_T5 18 ∈ lw_tbl := lw_t4 118 rfl
set_option maxRecDepth 100000 in
theorem lw_l5_19 : u_lay "TaskShareModel" jx_T5 19 ∈ lw_tbl := lw_t4 120 rfl
set_option maxRecDepth 100000 in
theorem lw_l5_20 : u_lay "TaskShareModel" jx_T5 20 ∈ lw_tbl := lw_t4 122 rfl
set_option maxRecDepth 100000 in
theorem lw_l5_21 : u_lay "TaskShareModel" jx_T5 21 ∈ lw_tbl := lw_t4 124 rfl
set_option maxRecDepth 100000 in
theorem lw_l5_22 : u_lay "TaskShareModel" jx_T5 22 ∈ lw_tbl := lw_t4 126 rfl
set_option maxRecDepth 100000 in
theorem lw_l5_23 : u_lay "TaskShareModel" jx_T5 23 ∈ lw_tbl := lw_t4 128 rfl
set_option maxRecDepth 100000 in
theorem lw_l5_24 : u_lay "TaskShareModel" jx_T5 24 ∈ lw_tbl := lw_t4 130 rfl
set_option maxRecDepth 100000 in
theorem lw_l5_25 : u_lay "TaskShareModel" jx_T5 25 ∈ lw_tbl := lw_t4 132 rfl
set_option maxRecDepth 100000 in
theorem lw_l5_26 : u_lay "TaskShareModel" jx_T5 26 ∈ lw_tbl := lw_t4 134 rfl
set_option maxRecDepth 100000 in
theorem lw_l5_27 : u_lay "TaskShareModel" jx_T5 27 ∈ lw_tbl := lw_t4 136 rfl
set_option maxRecDepth 100000 in
theorem lw_l5_28 : u_lay "TaskShareModel" jx_T5 28 ∈ lw_tbl := lw_t4 138 rfl
set_option maxRecDepth 100000 in
theorem lw_l5_29 : u_lay "TaskShareModel" jx_T5 29 ∈ lw_tbl := lw_t4 140 rfl
theorem lw_i5 : ∀ w ∈ u_ws "TaskShareModel" jx_T5 30, w ∈ lw_tbl := by
  intro w hw
  obtain ⟨k, hk, rfl⟩ := List.mem_map.mp hw
  have hk := List.mem_range.mp hk
  have e : k = 0 ∨ k = 1 ∨ k = 2 ∨ k = 3 ∨ k = 4 ∨ k = 5 ∨ k = 6 ∨ k = 7 ∨ k = 8 ∨ k = 9 ∨ k = 10 ∨ k = 11 ∨ k = 12 ∨ k = 13 ∨ k = 14 ∨ k = 15 ∨ k = 16 ∨ k = 17 ∨ k = 18 ∨ k = 19 ∨ k = 20 ∨ k = 21 ∨ k = 22 ∨ k = 23 ∨ k = 24 ∨ k = 25 ∨ k = 26 ∨ k = 27 ∨ k = 28 ∨ k = 29 := by omega
  rcases e with rfl | rfl | rfl | rfl | rfl | rfl | rfl | rfl | rfl | rfl | rfl | rfl | rfl | rfl | rfl | rfl | rfl | rfl | rfl | rfl | rfl | rfl | rfl | rfl | rfl | rfl | rfl | rfl | rfl | rfl
  · exact lw_l5_0
  · exact lw_l5_1
  · exact lw_l5_2
  · exact lw_l5_3
  · exact lw_l5_4
  · exact lw_l5_5
  · exact lw_l5_6
  · exact lw_l5_7
  · exact lw_l5_8
  · exact lw_l5_9
  · exact lw_l5_10
  · exact lw_l5_11
  · exact lw_l5_12
  · exact lw_l5_13
  · exact lw_l5_14
  · exact lw_l5_15
  · exact lw_l5_16
  · exact lw_l5_17
  · exact lw_l5_18
  · exact lw_l5_19
  · exact lw_l5_20
  · exact lw_l5_21
  · exact lw_l5_22
  · exact lw_l5_23
  · exact lw_l5_24
  · exact lw_l5_25
  · exact lw_l5_26
  · exact lw_l5_27
  · exact lw_l5_28
  · exact lw_l5_29
set_option maxRecDepth 100000 in
theorem lw_n5 : Jvm.Cond.instantiable "TaskShareModel" 30 ∈ lw_tbl := lw_t4 47 rfl
set_option maxRecDepth 100000 in
theorem lw_l6_0 : u_lay "java/util/ArrayList" jx_T6 0 ∈ lw_tbl := lw_t1 51 rfl
set_option maxRecDepth 100000 in
theorem lw_l6_1 : u_lay "java/util/ArrayList" jx_T6 1 ∈ lw_tbl := lw_t1 53 rfl
set_option maxRecDepth 100000 in
theorem lw_l6_2 : u_lay "java/util/ArrayList" jx_T6 2 ∈ lw_tbl := lw_t1 55 rfl
theorem lw_i6 : ∀ w ∈ u_ws "java/util/ArrayList" jx_T6 3, w ∈ lw_tbl := by
  intro w hw
  obtain ⟨k, hk, rfl⟩ := List.mem_map.mp hw
  have hk := List.mem_range.mp hk
  have e : k = 0 ∨ k = 1 ∨ k = 2 := by omega
  rcases e with rfl | rfl | rfl
  · exact lw_l6_0
  · exact lw_l6_1
  · exact lw_l6_2
set_option maxRecDepth 100000 in
theorem lw_n6 : Jvm.Cond.instantiable "java/util/ArrayList" 3 ∈ lw_tbl := lw_t1 33 rfl
theorem lw_apart {args : Array Value} {s : State} {C : String} {T : u_T} {N : Nat} {cC : ClassId} {iS : Nat → Nat} {Ts : List Cond} (hts : ∀ w ∈ Ts, w.before args s = true) (hin : ∀ w ∈ u_ws C T N, w ∈ Ts) (ty : Nat → FieldType) (hty : ∀ k, k < N → parseFieldDescriptor (T k).2.2.1 = some (ty k)) (hnm : ∀ a, a < N → ∀ b, b < N → a ≠ b → (T a).2.1 ≠ (T b).2.1) (hK : u_Kn s C T N cC iS) : ∀ x y, x < N → y < N → x ≠ y → iS x ≠ iS y := by
  intro x y hx hy hne
  obtain ⟨hS, -⟩ := hK
  obtain ⟨_, _, _, fa, hia, ea⟩ := hS x hx
  obtain ⟨_, _, _, fb, hib, eb⟩ := hS y hy
  rw [← ea, ← eb]
  refine u_apart (u_lays hts hin hx) (u_lays hts hin hy) hia hib ?_
  rw [(State.fieldFound?_type hia (hty x hx)).1, (State.fieldFound?_type hib (hty y hy)).1]
  exact hnm x hx y hy hne
theorem lw_lay {args : Array Value} {s : State} {C : String} {T : u_T} {N : Nat} {Ts : List Cond} (hts : ∀ w ∈ Ts, w.before args s = true) (hin : ∀ w ∈ u_ws C T N, w ∈ Ts) : ∀ k, k < N → (u_lay C T k).before #[] s = true := by
  intro k hk
  have h := jx_lay_ok C T k
  simp only [Bool.and_eq_true] at h
  exact va_tabs h.1 rfl (hts _ (hin _ (List.mem_map.mpr ⟨k, List.mem_range.mpr hk, rfl⟩)))
theorem lw_oks {args : Array Value} {s : State} (hts : ∀ w ∈ lw_tbl, w.before args s = true) : ∃ G : va_G, jx_OK (s, G, jx_cl) := by
  obtain ⟨c0, i0, h0⟩ := u_known (C := "TaskShare") (T := jx_T0) (N := 7) (n := 7) hts lw_i0 (hts _ lw_n0)
  obtain ⟨c1, i1, h1⟩ := u_known (C := "TaskShare$ExactPlanner") (T := jx_T1) (N := 8) (n := 8) hts lw_i1 (hts _ lw_n1)
  obtain ⟨c2, i2, h2⟩ := u_known (C := "TaskShare$Person") (T := jx_T2) (N := 14) (n := 14) hts lw_i2 (hts _ lw_n2)
  obtain ⟨c3, i3, h3⟩ := u_known (C := "TaskShare$Task") (T := jx_T3) (N := 8) (n := 8) hts lw_i3 (hts _ lw_n3)
  obtain ⟨c4, i4, h4⟩ := u_known (C := "TaskShare$Ways") (T := jx_T4) (N := 1) (n := 1) hts lw_i4 (hts _ lw_n4)
  obtain ⟨c5, i5, h5⟩ := u_known (C := "TaskShareModel") (T := jx_T5) (N := 30) (n := 30) hts lw_i5 (hts _ lw_n5)
  obtain ⟨c6, i6, h6⟩ := u_known (C := "java/util/ArrayList") (T := jx_T6) (N := 3) (n := 3) hts lw_i6 (hts _ lw_n6)
  refine ⟨(fun k => if k = 0 then c0 else if k = 1 then c1 else if k = 2 then c2 else if k = 3 then c3 else if k = 4 then c4 else if k = 5 then c5 else c6, fun k => if k = 0 then i0 else if k = 1 then i1 else if k = 2 then i2 else if k = 3 then i3 else if k = 4 then i4 else if k = 5 then i5 else i6), fun c q hq => ?_⟩
  match c, hq with
  | 0, hq => cases hq; exact ⟨h0, lw_lay hts lw_i0, lw_apart hts lw_i0 jx_t0 jx_t0_ok jx_n0_ok h0⟩
  | 1, hq => cases hq; exact ⟨h1, lw_lay hts lw_i1, lw_apart hts lw_i1 jx_t1 jx_t1_ok jx_n1_ok h1⟩
  | 2, hq => cases hq; exact ⟨h2, lw_lay hts lw_i2, lw_apart hts lw_i2 jx_t2 jx_t2_ok jx_n2_ok h2⟩
  | 3, hq => cases hq; exact ⟨h3, lw_lay hts lw_i3, lw_apart hts lw_i3 jx_t3 jx_t3_ok jx_n3_ok h3⟩
  | 4, hq => cases hq; exact ⟨h4, lw_lay hts lw_i4, lw_apart hts lw_i4 jx_t4 jx_t4_ok jx_n4_ok h4⟩
  | 5, hq => cases hq; exact ⟨h5, lw_lay hts lw_i5, lw_apart hts lw_i5 jx_t5 jx_t5_ok jx_n5_ok h5⟩
  | 6, hq => cases hq; exact ⟨h6, lw_lay hts lw_i6, lw_apart hts lw_i6 jx_t6 jx_t6_ok jx_n6_ok h6⟩
  | k + 7, hq => simp [jx_cl] at hq
set_option maxRecDepth 100000 in
theorem lw_s224 : Jvm.Cond.exactly (.string "TaskShare" 224) "java/lang/String" ∈ flatC (Jvm.Cond.and given_1 narrow_1) := List.mem_of_getElem? (i := 59) rfl
set_option maxRecDepth 100000 in
theorem lw_s228 : Jvm.Cond.exactly (.string "TaskShare" 228) "java/lang/String" ∈ flatC (Jvm.Cond.and given_1 narrow_1) := List.mem_of_getElem? (i := 89) rfl
set_option maxRecDepth 100000 in
theorem lw_s219 : Jvm.Cond.exactly (.string "TaskShare" 219) "java/lang/String" ∈ flatC (Jvm.Cond.and given_1 narrow_1) := List.mem_of_getElem? (i := 101) rfl
set_option maxRecDepth 100000 in
theorem lw_s84 : Jvm.Cond.exactly (.string "TaskShare" 84) "java/lang/String" ∈ flatC (Jvm.Cond.and given_1 narrow_1) := List.mem_of_getElem? (i := 121) rfl
set_option maxRecDepth 100000 in
theorem lw_s104 : Jvm.Cond.exactly (.string "TaskShare" 104) "java/lang/String" ∈ flatC (Jvm.Cond.and given_1 narrow_1) := List.mem_of_getElem? (i := 147) rfl
set_option maxRecDepth 100000 in
theorem lw_s222 : Jvm.Cond.exactly (.string "TaskShare" 222) "java/lang/String" ∈ flatC (Jvm.Cond.and given_1 narrow_1) := List.mem_of_getElem? (i := 174) rfl
set_option maxRecDepth 100000 in
theorem lw_s231 : Jvm.Cond.exactly (.string "TaskShare" 231) "java/lang/String" ∈ flatC (Jvm.Cond.and given_1 narrow_1) := List.mem_of_getElem? (i := 195) rfl
set_option maxRecDepth 100000 in
theorem lw_s122 : Jvm.Cond.exactly (.string "TaskShare" 122) "java/lang/String" ∈ flatC (Jvm.Cond.and given_1 narrow_1) := List.mem_of_getElem? (i := 225) rfl
set_option maxRecDepth 100000 in
theorem lw_s233 : Jvm.Cond.exactly (.string "TaskShare" 233) "java/lang/String" ∈ flatC (Jvm.Cond.and given_1 narrow_1) := List.mem_of_getElem? (i := 251) rfl
set_option maxRecDepth 100000 in
theorem lw_s235 : Jvm.Cond.exactly (.string "TaskShare" 235) "java/lang/String" ∈ flatC (Jvm.Cond.and given_1 narrow_1) := List.mem_of_getElem? (i := 297) rfl
set_option maxRecDepth 100000 in
theorem lw_s201 : Jvm.Cond.exactly (.string "TaskShare" 201) "java/lang/String" ∈ flatC (Jvm.Cond.and given_1 narrow_1) := List.mem_of_getElem? (i := 330) rfl
set_option maxRecDepth 100000 in
theorem lw_s206 : Jvm.Cond.exactly (.string "TaskShare" 206) "java/lang/String" ∈ flatC (Jvm.Cond.and given_1 narrow_1) := List.mem_of_getElem? (i := 383) rfl
set_option maxRecDepth 100000 in
theorem lw_s208 : Jvm.Cond.exactly (.string "TaskShare" 208) "java/lang/String" ∈ flatC (Jvm.Cond.and given_1 narrow_1) := List.mem_of_getElem? (i := 411) rfl
set_option maxRecDepth 100000 in
theorem lw_s213 : Jvm.Cond.exactly (.string "TaskShare" 213) "java/lang/String" ∈ flatC (Jvm.Cond.and given_1 narrow_1) := List.mem_of_getElem? (i := 439) rfl
set_option maxRecDepth 100000 in
theorem lw_s215 : Jvm.Cond.exactly (.string "TaskShare" 215) "java/lang/String" ∈ flatC (Jvm.Cond.and given_1 narrow_1) := List.mem_of_getElem? (i := 478) rfl
set_option maxRecDepth 100000 in
theorem lw_z1 : Jvm.Cond.arrayOf (.static "java/util/ArrayList" "DEFAULTCAPACITY_EMPTY_ELEMENTDATA" "[Ljava/lang/Object;") (.object "java/lang/Object") ∈ flatC (Jvm.Cond.and given_1 narrow_1) := List.mem_of_getElem? (i := 5) rfl
set_option maxRecDepth 100000 in
theorem lw_z2 : Jvm.Cond.exactly (.static "java/util/ArrayList" "DEFAULTCAPACITY_EMPTY_ELEMENTDATA" "[Ljava/lang/Object;") "[Ljava/lang/Object;" ∈ flatC (Jvm.Cond.and given_1 narrow_1) := List.mem_of_getElem? (i := 6) rfl
set_option maxRecDepth 100000 in
theorem lw_z3 : Jvm.Cond.eq (.length (.static "java/util/ArrayList" "DEFAULTCAPACITY_EMPTY_ELEMENTDATA" "[Ljava/lang/Object;")) (.int 0) ∈ flatC (Jvm.Cond.and given_1 narrow_1) := List.mem_of_getElem? (i := 7) rfl
set_option maxRecDepth 100000 in
theorem lw_v1 : Jvm.Cond.arrayOf (.static "TaskShare$ExactPlanner" "PLACE_VALUES" "[I") .int ∈ flatC (Jvm.Cond.and given_1 narrow_1) := List.mem_of_getElem? (i := 9) rfl
set_option maxRecDepth 100000 in
theorem lw_v2 : Jvm.Cond.eq (.length (.static "TaskShare$ExactPlanner" "PLACE_VALUES" "[I")) (.int 5) ∈ flatC (Jvm.Cond.and given_1 narrow_1) := List.mem_of_getElem? (i := 10) rfl
set_option maxRecDepth 100000 in
theorem lw_e0 : Jvm.Cond.eq (.elem (.static "TaskShare$ExactPlanner" "PLACE_VALUES" "[I") (.int 0)) (.int 625) ∈ flatC (Jvm.Cond.and given_1 narrow_1) := List.mem_of_getElem? (i := 11) rfl
set_option maxRecDepth 100000 in
theorem lw_e1 : Jvm.Cond.eq (.elem (.static "TaskShare$ExactPlanner" "PLACE_VALUES" "[I") (.int 1)) (.int 125) ∈ flatC (Jvm.Cond.and given_1 narrow_1) := List.mem_of_getElem? (i := 12) rfl
set_option maxRecDepth 100000 in
theorem lw_e2 : Jvm.Cond.eq (.elem (.static "TaskShare$ExactPlanner" "PLACE_VALUES" "[I") (.int 2)) (.int 25) ∈ flatC (Jvm.Cond.and given_1 narrow_1) := List.mem_of_getElem? (i := 13) rfl
set_option maxRecDepth 100000 in
theorem lw_e3 : Jvm.Cond.eq (.elem (.static "TaskShare$ExactPlanner" "PLACE_VALUES" "[I") (.int 3)) (.int 5) ∈ flatC (Jvm.Cond.and given_1 narrow_1) := List.mem_of_getElem? (i := 14) rfl
set_option maxRecDepth 100000 in
theorem lw_e4 : Jvm.Cond.eq (.elem (.static "TaskShare$ExactPlanner" "PLACE_VALUES" "[I") (.int 4)) (.int 1) ∈ flatC (Jvm.Cond.and given_1 narrow_1) := List.mem_of_getElem? (i := 15) rfl
set_option maxRecDepth 100000 in
theorem lw_u1 : Jvm.Cond.isRef (.static Bundle.tN "UNASSIGNED_STACK" Bundle.steD) ∈ flatC (Jvm.Cond.and given_1 narrow_1) := List.mem_of_getElem? (i := 16) rfl
set_option maxRecDepth 100000 in
theorem lw_u2 : Jvm.Cond.isRef (.static Bundle.tN "SUPPRESSED_SENTINEL" Bundle.listD) ∈ flatC (Jvm.Cond.and given_1 narrow_1) := List.mem_of_getElem? (i := 17) rfl
set_option maxRecDepth 100000 in
theorem lw_m1 : Jvm.Cond.isRef (.mirror "[Ljava/lang/Object;") ∈ flatC (Jvm.Cond.and given_1 narrow_1) := List.mem_of_getElem? (i := 58) rfl
set_option maxRecDepth 100000 in
theorem lw_c31 : Jvm.Cond.not (.castable (jx_xn 3) (jx_xn 1)) ∈ flatC (Jvm.Cond.and given_1 narrow_1) := List.mem_of_getElem? (i := 23) rfl
set_option maxRecDepth 100000 in
theorem lw_c10 : Jvm.Cond.not (.castable (jx_xn 1) (jx_xn 0)) ∈ flatC (Jvm.Cond.and given_1 narrow_1) := List.mem_of_getElem? (i := 43) rfl
set_option maxRecDepth 100000 in
theorem lw_c20 : Jvm.Cond.not (.castable (jx_xn 2) (jx_xn 0)) ∈ flatC (Jvm.Cond.and given_1 narrow_1) := List.mem_of_getElem? (i := 46) rfl
set_option maxRecDepth 100000 in
theorem lw_c21 : Jvm.Cond.not (.castable (jx_xn 2) (jx_xn 1)) ∈ flatC (Jvm.Cond.and given_1 narrow_1) := List.mem_of_getElem? (i := 26) rfl
set_option maxRecDepth 100000 in
theorem lw_strs {args : Array Value} {s : State} (hts : ∀ w ∈ lw_tbl, w.before args s = true) (hs : ∀ c ∈ flatC (Jvm.Cond.and given_1 narrow_1), c.before args s = true) : ∀ q ∈ jx_strs, ∃ sa, vk_R q.1 q.2.1 q.2.2 sa s := by
  have key : ∀ (k : Nat) (tx : String), Jvm.Cond.stringRef "TaskShare" k tx ∈ lw_tbl → Jvm.Cond.exactly (.string "TaskShare" k) "java/lang/String" ∈ flatC (Jvm.Cond.and given_1 narrow_1) → ∃ sa, vk_R "TaskShare" k tx sa s := by
    intro k tx h1 h2
    obtain ⟨a, _, _, _, ha, -⟩ := Cond.exactly_spec (hs _ h2)
    exact ⟨a, vk_R.of (hts _ h1) ha⟩
  intro q hq
  unfold jx_strs at hq
  simp only [List.mem_cons, List.not_mem_nil, or_false] at hq
  rcases hq with rfl | rfl | rfl | rfl | rfl | rfl | rfl | rfl | rfl | rfl | rfl | rfl | rfl | rfl | rfl
  · exact key 224 "a number outside its range" (lw_t2 39 rfl) lw_s224
  · exact key 228 "no room" (lw_t2 78 rfl) lw_s228
  · exact key 219 "no such person" (lw_t2 225 rfl) lw_s219
  · exact key 84 "they have the skill" (lw_t3 10 rfl) lw_s84
  · exact key 104 "a way within a zone" (lw_t3 82 rfl) lw_s104
  · exact key 222 "no such task" (lw_t3 98 rfl) lw_s222
  · exact key 231 "the task is not open" (lw_t3 102 rfl) lw_s231
  · exact key 122 "they refused it" (lw_t3 104 rfl) lw_s122
  · exact key 233 "they are gone or have begun a task" (lw_t3 222 rfl) lw_s233
  · exact key 235 "they do not work now" (lw_t3 223 rfl) lw_s235
  · exact key 201 "none begun, or its seconds are not over" (lw_t3 239 rfl) lw_s201
  · exact key 206 "they are gone" (lw_t4 7 rfl) lw_s206
  · exact key 208 "i is below 0" (lw_t4 29 rfl) lw_s208
  · exact key 213 "what is outside 0 .. 6" (lw_t4 37 rfl) lw_s213
  · exact key 215 "what is outside 0 .. 5" (lw_t4 45 rfl) lw_s215
theorem lw_world {p : Program} {s : State} {m : MethodId} {meth : Method} {c : Code} {b L : Nat} {xs : Nat → Int32} (C0 : lw_At p s m meth c b L xs) : ∃ (G : va_G) (mi z pa : Nat), jx_B (s, G, jx_cl) ∧ jx_B2 (s, G, jx_cl) mi ∧ jx_B3 (s, G, jx_cl) z pa := by
  obtain ⟨-, -, -, -, -, hts, -, -, -, hgv, -⟩ := id C0
  have hs := flat_of_before _ hgv
  obtain ⟨G, hOK⟩ := lw_oks hts
  have hA : ∀ a : Nat, a < s.heap.size → ¬ (fun q : Nat => s.heap.size ≤ q) a := fun a h => Nat.not_le.mpr h
  obtain ⟨mi, hmi⟩ := va_Mi.of (hs _ lw_m1)
  obtain ⟨z, cz, cell, kz, hz, hfc, hcell, hkz, hst, hcls, -⟩ := Cond.exactly_spec (hs _ lw_z2)
  obtain ⟨z2, hz2, cell2, g1, g2, g3, g4, g5, g6, g7⟩ := va_Tof (tm := (.static "java/util/ArrayList" "DEFAULTCAPACITY_EMPTY_ELEMENTDATA" "[Ljava/lang/Object;")) (ty := .object "java/lang/Object") (N := 0) (f := fun _ => .null) (A := fun q : Nat => s.heap.size ≤ q) (by decide) (hs _ lw_z1) (va_eqt (hs _ lw_z3)) (fun j hj => absurd hj (Nat.not_lt_zero j)) hA
  cases hz.symm.trans hz2
  cases hcell.symm.trans g1
  obtain ⟨pa, hpa, celp, q1, q2, q3, q4, q5, q6, q7⟩ := va_Tof (tm := (.static "TaskShare$ExactPlanner" "PLACE_VALUES" "[I")) (ty := .int) (N := 5) (f := fun i => .int (iI (pv (i : Nat)))) (A := fun q : Nat => s.heap.size ≤ q) (by decide) (hs _ lw_v1) (va_eqt (hs _ lw_v2)) (fun j hj => by
    have e : j = 0 ∨ j = 1 ∨ j = 2 ∨ j = 3 ∨ j = 4 := by omega
    rcases e with rfl | rfl | rfl | rfl | rfl
    · exact va_eqt (hs _ lw_e0)
    · exact va_eqt (hs _ lw_e1)
    · exact va_eqt (hs _ lw_e2)
    · exact va_eqt (hs _ lw_e3)
    · exact va_eqt (hs _ lw_e4)) hA
  refine ⟨G, mi, z, pa, ⟨rfl, hOK, fun q hq h => ?_, lw_strs hts hs, vx_Zqof (hts _ (lw_t2 24 rfl)) (hts _ (lw_t1 8 rfl)) (hs _ lw_u1) hA, vx_Zqof (hts _ (lw_t2 26 rfl)) (hts _ (lw_t1 8 rfl)) (hs _ lw_u2) hA⟩, ⟨hmi, Cond.arrayOver_alike (Vm.Alike.refl _) (hts _ (lw_t2 196 rfl))⟩, va_Zref (hts _ (lw_t1 45 rfl)) (hts _ (lw_t1 4 rfl)) hz hA, va_Zref (hts _ (lw_t1 82 rfl)) (hts _ (lw_t1 6 rfl)) hpa hA, arrayOver_alikeB (Vm.Alike.refl _) (hts _ (lw_t1 78 rfl)), arrayOver_alikeB (Vm.Alike.refl _) (hts _ (lw_t1 80 rfl)), ⟨cell, hcell, ?_⟩, ⟨celp, q1, ?_⟩, va_Nc.of (hs _ lw_c31), va_Nc.of (hs _ lw_c10), va_Nc.of (hs _ lw_c20), va_Nc.of (hs _ lw_c21)⟩
  · rcases h with h | ⟨ty, rfl⟩
    · exact va_tabs h rfl (hts q hq)
    · exact word_at (State.WarmedH.refl s) (Or.inr ⟨_, rfl⟩) (hts _ hq)
  · unfold jx_pic
    rw [if_neg (by decide)]
    exact ⟨fun _ => by rw [hcls]; exact hfc, g3, g2, ⟨g4, g5⟩, fun j hj => absurd hj (Nat.not_lt_zero j)⟩
  · unfold jx_pic
    rw [if_neg (by decide)]
    exact ⟨fun h => absurd h (by decide), q3, q2, ⟨q4, q5⟩, q6⟩
