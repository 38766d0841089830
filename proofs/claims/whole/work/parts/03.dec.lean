/-! 03.dec: an instruction out of a method's table -/
theorem jx_dec {b : ByteArray} {T : List (Nat × Instr × Nat)} (h : T.all (fun q => decide (decode b q.1 = .ok q.2)) = true) (i : Nat) {pc : Nat} {r : Instr × Nat} (hi : T[i]? = some (pc, r)) : decode b pc = .ok r := by
  have h1 := List.all_eq_true.mp h _ (List.mem_of_getElem? hi)
  exact of_decide_eq_true h1
