/-! 05.defs: the words of the logic -/
/-- next address, cells left, slots left, kind of an address, length of an array, values of fields and elements -/
abbrev jx_W : Type := Nat × Nat × Nat × (Nat → Nat) × (Nat → Nat) × (Nat → Nat → Value)
def jx_n (w : jx_W) : Nat := w.1
def jx_c (w : jx_W) : Nat := w.2.1
def jx_s (w : jx_W) : Nat := w.2.2.1
def jx_k (w : jx_W) : Nat → Nat := w.2.2.2.1
def jx_l (w : jx_W) : Nat → Nat := w.2.2.2.2.1
def jx_v (w : jx_W) : Nat → Nat → Value := w.2.2.2.2.2
def jx_put (w : jx_W) (a j : Nat) (v : Value) : jx_W := (jx_n w, jx_c w, jx_s w, jx_k w, jx_l w, fun b i => if b = a ∧ i = j then v else jx_v w b i)
def jx_new (w : jx_W) (kd len sl : Nat) (f : Nat → Value) : jx_W := (jx_n w + 1, jx_c w - 1, jx_s w - sl, fun b => if b = jx_n w then kd else jx_k w b, fun b => if b = jx_n w then len else jx_l w b, fun b => if b = jx_n w then f else jx_v w b)
def jx_skip (w : jx_W) (sl : Nat) : jx_W := (jx_n w + 1, jx_c w - 1, jx_s w - sl, jx_k w, jx_l w, jx_v w)
/-- the law's own start, the classes' numbers and slots, the classes -/
abbrev jx_E : Type := State × va_G × List vw_C
/-- the type of the elements of an array of kind 100 and on -/
def jx_ty (k : Nat) : FieldType := if k = 100 then .int else if k = 101 then .long else if k = 102 then .boolean else if k = 103 then .array .int else if k = 104 then .array .long else .object "java/lang/Object"
def jx_obj (E : jx_E) (k : Nat) (V : Nat → Value) (cell : Cell) : Prop := cell.vm = .none ∧ cell.cls = E.2.1.1 (k - 1) ∧ ∃ q : vw_C, E.2.2[k - 1]? = some q ∧ ∀ j, j < q.2.2 → cell.slots[E.2.1.2 (k - 1) j]? = some (V j)
def jx_arr (E : jx_E) (k n : Nat) (V : Nat → Value) (cell : Cell) : Prop := (k = 105 → E.1.vm.findClass "[Ljava/lang/Object;" = some cell.cls) ∧ cell.vm ≠ .unknown ∧ E.1.isArrayOf cell (jx_ty k) ∧ (n ≤ cell.slots.size ∧ cell.slots.size.toInt32 = n.toInt32) ∧ ∀ j, j < n → cell.slots[j]? = some (V j)
def jx_pic (E : jx_E) (k n : Nat) (V : Nat → Value) (cell : Cell) : Prop := if k < 100 then jx_obj E k V cell else jx_arr E k n V cell
def jx_old (E : jx_E) (H : Heap) : Prop := E.1.heap.size ≤ H.size ∧ ∀ q : Nat, q < E.1.heap.size → H[q]? = E.1.heap[q]?
/-- the heap holds the world -/
def jx_H (E : jx_E) (w : jx_W) (H : Heap) : Prop := H.size = jx_n w ∧ jx_old E H ∧ ∀ a : Nat, jx_k w a ≠ 0 → ∃ cell, H[a]? = some cell ∧ jx_pic E (jx_k w a) (jx_l w a) (jx_v w a) cell
/-- what the tables say of the classes at the law's start -/
def jx_OK (E : jx_E) : Prop := ∀ (c : Nat) (q : vw_C), E.2.2[c]? = some q → u_Kn E.1 q.1 q.2.1 q.2.2 (E.2.1.1 c) (E.2.1.2 c) ∧ (∀ k, k < q.2.2 → (u_lay q.1 q.2.1 k).before #[] E.1 = true) ∧ ∀ i j, i < q.2.2 → j < q.2.2 → i ≠ j → E.2.1.2 c i ≠ E.2.1.2 c j
/-- a method: its class, its name, its code, its locals, what it returns, its handlers -/
abbrev jx_Y : Type := String × String × ByteArray × Nat × Option FieldType × List (Nat × Nat × Nat × Nat)
/-- an exception's class, or what is returned -/
abbrev jx_R : Type := (Nat × Nat) ⊕ Option Value
def jx_xn (x : Nat) : String := if x = 0 then "java/util/NoSuchElementException" else if x = 1 then "java/lang/IllegalArgumentException" else if x = 2 then "java/lang/IllegalStateException" else "java/lang/UnsupportedOperationException"
/-- the entry idx of own's pool is the field k of the class ci -/
def jx_F (E : jx_E) (own : String) (idx ci k : Nat) : Prop := ci < 99 ∧ ∃ q : vw_C, E.2.2[ci]? = some q ∧ k < q.2.2 ∧ ∃ ref : String, (ref = (q.2.1 k).1 ∨ (Jvm.Cond.sameField ref (q.2.1 k).1 (q.2.1 k).2.1 (q.2.1 k).2.2.1).before #[] E.1 = true) ∧ ((Jvm.Cond.fieldLink own idx ref (q.2.1 k).2.1 (q.2.1 k).2.2.1).before #[] E.1 = true ∨ ∃ host : String, (Jvm.Cond.fieldLinkNest own idx ref (q.2.1 k).2.1 (q.2.1 k).2.2.1 host).before #[] E.1 = true)
/-- its type; whether it is final -/
def jx_Ft (E : jx_E) (ci k : Nat) (ty : FieldType) (fin : Bool) : Prop := ∃ q : vw_C, E.2.2[ci]? = some q ∧ parseFieldDescriptor (q.2.1 k).2.2.1 = some ty ∧ (q.2.1 k).2.2.2 = fin
/-- the entry idx of own's pool is the class ci, of n fields; a new one holds f -/
def jx_N (E : jx_E) (own : String) (idx ci n : Nat) (f : Nat → Value) : Prop := ci < 99 ∧ ∃ q : vw_C, E.2.2[ci]? = some q ∧ q.2.2 = n ∧ (Jvm.Cond.classLink own idx q.1).before #[] E.1 = true ∧ (Jvm.Cond.instantiable q.1 n).before #[] E.1 = true ∧ (Jvm.Cond.initialized q.1).before #[] E.1 = true ∧ ∃ ty : Nat → FieldType, (∀ k, k < n → parseFieldDescriptor (q.2.1 k).2.2.1 = some (ty k)) ∧ ∀ k, k < n → defaultValue (ty k) = f k
/-- the word of a method's code -/
def jx_cw (z : MethodName) (Z : jx_Y) : Jvm.Cond := if Z.2.2.2.2.2.isEmpty = true then .code z Z.2.2.1 Z.2.2.2.1 Z.2.2.2.2.1 else .codeWith z Z.2.2.1 Z.2.2.2.1 Z.2.2.2.2.1 Z.2.2.2.2.2
/-- z is the method Z, of n parameters -/
def jx_M (E : jx_E) (z : MethodName) (Z : jx_Y) (n : Nat) : Prop := plainFor z = true ∧ z.cls = Z.1 ∧ z.name = Z.2.1 ∧ (jx_cw z Z).before #[] E.1 = true ∧ (Jvm.Cond.initialized z.cls).before #[] E.1 = true ∧ Z.2.2.2.1 ≤ 40 ∧ (z.cls ≠ "java/lang/invoke/MethodHandle" ∧ z.cls ≠ "java/lang/invoke/VarHandle") ∧ (parseMethodDescriptor z.desc).map (fun d => d.parameters.length) = some n
/-- the entry idx of own's pool is the method z, called on an object of the class C -/
def jx_V (E : jx_E) (own : String) (idx : Nat) (z : MethodName) (C : String) : Prop := ((Jvm.Cond.methodLink own idx z).before #[] E.1 = true ∨ ∃ host : String, (Jvm.Cond.methodLinkNest own idx z host).before #[] E.1 = true) ∧ (Jvm.Cond.instanceMethod z).before #[] E.1 = true ∧ (Jvm.Cond.selects C z z).before #[] E.1 = true
def jx_S (E : jx_E) (own : String) (idx : Nat) (z : MethodName) : Prop := ((Jvm.Cond.methodLink own idx z).before #[] E.1 = true ∨ ∃ host : String, (Jvm.Cond.methodLinkNest own idx z host).before #[] E.1 = true) ∧ (Jvm.Cond.static z).before #[] E.1 = true
def jx_I (E : jx_E) (own : String) (idx : Nat) (z : MethodName) : Prop := ((Jvm.Cond.methodLink own idx z).before #[] E.1 = true ∨ ∃ host : String, (Jvm.Cond.methodLinkNest own idx z host).before #[] E.1 = true) ∧ (Jvm.Cond.instanceMethod z).before #[] E.1 = true
def jx_good (q : Jvm.Cond) : Bool := q.onTables && (q.keepsH || (match q with | .castable .. => true | .declares .. => true | _ => false))
/-- what the tables say of 'throw new E("text")': the class x by the entry ik, the text by the entry is, the constructor by the entry ic -/
def jx_X (E : jx_E) (own : String) (ik is ic x : Nat) (names : List String) : Prop :=
  Bundle.fit (jx_xn x) = true ∧ (∀ n ∈ names, Bundle.fit n = true) ∧ (Jvm.Cond.classLink own ik (jx_xn x)).before #[] E.1 = true ∧ (Jvm.Cond.initialized (jx_xn x)).before #[] E.1 = true ∧ (∃ (text : String) (sa : Nat), vk_R own is text sa E.1) ∧
  (∀ q ∈ vx_atS own ic (jx_xn x) names, jx_good q = true ∧ q.before #[] E.1 = true) ∧ vx_Zq Bundle.tN "UNASSIGNED_STACK" Bundle.steD (fun q => E.1.heap.size ≤ q) E.1 E.1.heap ∧ vx_Zq Bundle.tN "SUPPRESSED_SENTINEL" Bundle.listD (fun q => E.1.heap.size ≤ q) E.1 E.1.heap
