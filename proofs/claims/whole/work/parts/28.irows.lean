/-! 28.irows: the rows over whole numbers -/
section JXI
variable {E : jx_E} {l : Launch} {Y : jx_Y} {d : Nat} {Q : jx_R → jx_W → Prop} {pc : Nat} {L : List (Option Value)} {st : List Value} {w : jx_W}
theorem jI_const {n : Int} (hd : decode Y.2.2.1 pc = .ok (.iconst n, 1)) (k : jx_G E l Y d Q (pc + 1) L (.int (iI n) :: st) w) : jx_G E l Y d Q pc L st w := jx_iconst hd rfl k
theorem jI_bipush {n : Int} (hd : decode Y.2.2.1 pc = .ok (.bipush n, 2)) (hn : (Int8.ofInt n).toInt32 = iI n) (k : jx_G E l Y d Q (pc + 2) L (.int (iI n) :: st) w) : jx_G E l Y d Q pc L st w := jx_bipush hd hn k
theorem jI_sipush {n : Int} (hd : decode Y.2.2.1 pc = .ok (.sipush n, 3)) (hn : (Int16.ofInt n).toInt32 = iI n) (k : jx_G E l Y d Q (pc + 3) L (.int (iI n) :: st) w) : jx_G E l Y d Q pc L st w := jx_sipush hd hn k
theorem jI_ldc {idx : Nat} {v : Int32} {n : Int} (hd : decode Y.2.2.1 pc = .ok (.ldc idx, 2)) (hk : (Jvm.Cond.constant Y.1 idx v).before #[] E.1 = true) (hv : v = iI n) (k : jx_G E l Y d Q (pc + 2) L (.int (iI n) :: st) w) : jx_G E l Y d Q pc L st w := by
  subst hv
  exact jx_ldc hd hk k
theorem jI_add {x y : Int} (hd : decode Y.2.2.1 pc = .ok (.iadd, 1)) (k : jx_G E l Y d Q (pc + 1) L (.int (iI (x + y)) :: st) w) : jx_G E l Y d Q pc L (.int (iI y) :: .int (iI x) :: st) w := by
  refine jx_iadd hd ?_
  rw [iI_add]
  exact k
theorem jI_sub {x y : Int} (hd : decode Y.2.2.1 pc = .ok (.isub, 1)) (k : jx_G E l Y d Q (pc + 1) L (.int (iI (x - y)) :: st) w) : jx_G E l Y d Q pc L (.int (iI y) :: .int (iI x) :: st) w := by
  refine jx_isub hd ?_
  rw [iI_sub]
  exact k
theorem jI_mul {x y : Int} (hd : decode Y.2.2.1 pc = .ok (.imul, 1)) (k : jx_G E l Y d Q (pc + 1) L (.int (iI (x * y)) :: st) w) : jx_G E l Y d Q pc L (.int (iI y) :: .int (iI x) :: st) w := by
  refine jx_imul hd ?_
  rw [iI_mul]
  exact k
theorem jI_div {x y : Int} (hd : decode Y.2.2.1 pc = .ok (.idiv, 1)) (hx : 0 ≤ x ∧ x ≤ 1000000000) (hy : 0 < y ∧ y ≤ 1000000000) (k : jx_G E l Y d Q (pc + 1) L (.int (iI (x / y)) :: st) w) : jx_G E l Y d Q pc L (.int (iI y) :: .int (iI x) :: st) w := by
  refine jx_idiv hd (fun z => ?_) ?_
  · have := (iI_eq (x := y) (y := 0) (by omega) (by omega)).mp z
    omega
  · rw [iI_div hx hy]
    exact k
theorem jI_rem {x y : Int} (hd : decode Y.2.2.1 pc = .ok (.irem, 1)) (hx : 0 ≤ x ∧ x ≤ 1000000000) (hy : 0 < y ∧ y ≤ 1000000000) (k : jx_G E l Y d Q (pc + 1) L (.int (iI (x % y)) :: st) w) : jx_G E l Y d Q pc L (.int (iI y) :: .int (iI x) :: st) w := by
  refine jx_irem hd (fun z => ?_) ?_
  · have := (iI_eq (x := y) (y := 0) (by omega) (by omega)).mp z
    omega
  · rw [iI_rem hx hy]
    exact k
theorem jI_inc {i : Nat} {n x : Int} (hd : decode Y.2.2.1 pc = .ok (.iinc i n, 3)) (hl : L[i]? = some (some (.int (iI x)))) (hf : jx_free L i = true) (k : jx_G E l Y d Q (pc + 3) (L.set i (some (.int (iI (x + n))))) st w) : jx_G E l Y d Q pc L st w := jx_iinc hd hl (iI_add x n) hf k
theorem jI_icmp_eq {x y : Int} {off : Int} {tgt : Nat} (hd : decode Y.2.2.1 pc = .ok (.if_icmp .eq off, 3)) (ht : (pc : Int) + off = (tgt : Int)) (hx : iR x) (hy : iR y) (kt : x = y → jx_G E l Y d Q tgt L st w) (kf : ¬ x = y → jx_G E l Y d Q (pc + 3) L st w) : jx_G E l Y d Q pc L (.int (iI y) :: .int (iI x) :: st) w := jx_icmp_eq hd ht (fun z => kt ((iI_eq hx hy).mp z)) (fun z => kf (fun h => z ((iI_eq hx hy).mpr h)))
theorem jI_if_eq {x : Int} {off : Int} {tgt : Nat} (hd : decode Y.2.2.1 pc = .ok (.ifCond .eq off, 3)) (ht : (pc : Int) + off = (tgt : Int)) (hx : iR x) (kt : x = 0 → jx_G E l Y d Q tgt L st w) (kf : ¬ x = 0 → jx_G E l Y d Q (pc + 3) L st w) : jx_G E l Y d Q pc L (.int (iI x) :: st) w := jx_if_eq hd ht (fun z => kt ((iI_eq (y := 0) hx (by omega)).mp z)) (fun z => kf (fun h => z ((iI_eq (y := 0) hx (by omega)).mpr h)))
theorem jI_icmp_ne {x y : Int} {off : Int} {tgt : Nat} (hd : decode Y.2.2.1 pc = .ok (.if_icmp .ne off, 3)) (ht : (pc : Int) + off = (tgt : Int)) (hx : iR x) (hy : iR y) (kt : ¬ x = y → jx_G E l Y d Q tgt L st w) (kf : x = y → jx_G E l Y d Q (pc + 3) L st w) : jx_G E l Y d Q pc L (.int (iI y) :: .int (iI x) :: st) w := jx_icmp_ne hd ht (fun z => kt (fun h => z ((iI_eq hx hy).mpr h))) (fun z => kf ((iI_eq hx hy).mp z))
theorem jI_if_ne {x : Int} {off : Int} {tgt : Nat} (hd : decode Y.2.2.1 pc = .ok (.ifCond .ne off, 3)) (ht : (pc : Int) + off = (tgt : Int)) (hx : iR x) (kt : ¬ x = 0 → jx_G E l Y d Q tgt L st w) (kf : x = 0 → jx_G E l Y d Q (pc + 3) L st w) : jx_G E l Y d Q pc L (.int (iI x) :: st) w := jx_if_ne hd ht (fun z => kt (fun h => z ((iI_eq (y := 0) hx (by omega)).mpr h))) (fun z => kf ((iI_eq (y := 0) hx (by omega)).mp z))
theorem jI_icmp_lt {x y : Int} {off : Int} {tgt : Nat} (hd : decode Y.2.2.1 pc = .ok (.if_icmp .lt off, 3)) (ht : (pc : Int) + off = (tgt : Int)) (hx : iR x) (hy : iR y) (kt : x < y → jx_G E l Y d Q tgt L st w) (kf : ¬ x < y → jx_G E l Y d Q (pc + 3) L st w) : jx_G E l Y d Q pc L (.int (iI y) :: .int (iI x) :: st) w := jx_icmp_lt hd ht (fun z => kt ((iI_lt hx hy).mp z)) (fun z => kf (fun h => z ((iI_lt hx hy).mpr h)))
theorem jI_if_lt {x : Int} {off : Int} {tgt : Nat} (hd : decode Y.2.2.1 pc = .ok (.ifCond .lt off, 3)) (ht : (pc : Int) + off = (tgt : Int)) (hx : iR x) (kt : x < 0 → jx_G E l Y d Q tgt L st w) (kf : ¬ x < 0 → jx_G E l Y d Q (pc + 3) L st w) : jx_G E l Y d Q pc L (.int (iI x) :: st) w := jx_if_lt hd ht (fun z => kt ((iI_lt (y := 0) hx (by omega)).mp z)) (fun z => kf (fun h => z ((iI_lt (y := 0) hx (by omega)).mpr h)))
theorem jI_icmp_ge {x y : Int} {off : Int} {tgt : Nat} (hd : decode Y.2.2.1 pc = .ok (.if_icmp .ge off, 3)) (ht : (pc : Int) + off = (tgt : Int)) (hx : iR x) (hy : iR y) (kt : y ≤ x → jx_G E l Y d Q tgt L st w) (kf : ¬ y ≤ x → jx_G E l Y d Q (pc + 3) L st w) : jx_G E l Y d Q pc L (.int (iI y) :: .int (iI x) :: st) w := jx_icmp_ge hd ht (fun z => kt ((iI_le hy hx).mp z)) (fun z => kf (fun h => z ((iI_le hy hx).mpr h)))
theorem jI_if_ge {x : Int} {off : Int} {tgt : Nat} (hd : decode Y.2.2.1 pc = .ok (.ifCond .ge off, 3)) (ht : (pc : Int) + off = (tgt : Int)) (hx : iR x) (kt : 0 ≤ x → jx_G E l Y d Q tgt L st w) (kf : ¬ 0 ≤ x → jx_G E l Y d Q (pc + 3) L st w) : jx_G E l Y d Q pc L (.int (iI x) :: st) w := jx_if_ge hd ht (fun z => kt ((iI_le (x := 0) (by omega) hx).mp z)) (fun z => kf (fun h => z ((iI_le (x := 0) (by omega) hx).mpr h)))
theorem jI_icmp_gt {x y : Int} {off : Int} {tgt : Nat} (hd : decode Y.2.2.1 pc = .ok (.if_icmp .gt off, 3)) (ht : (pc : Int) + off = (tgt : Int)) (hx : iR x) (hy : iR y) (kt : y < x → jx_G E l Y d Q tgt L st w) (kf : ¬ y < x → jx_G E l Y d Q (pc + 3) L st w) : jx_G E l Y d Q pc L (.int (iI y) :: .int (iI x) :: st) w := jx_icmp_gt hd ht (fun z => kt ((iI_lt hy hx).mp z)) (fun z => kf (fun h => z ((iI_lt hy hx).mpr h)))
theorem jI_if_gt {x : Int} {off : Int} {tgt : Nat} (hd : decode Y.2.2.1 pc = .ok (.ifCond .gt off, 3)) (ht : (pc : Int) + off = (tgt : Int)) (hx : iR x) (kt : 0 < x → jx_G E l Y d Q tgt L st w) (kf : ¬ 0 < x → jx_G E l Y d Q (pc + 3) L st w) : jx_G E l Y d Q pc L (.int (iI x) :: st) w := jx_if_gt hd ht (fun z => kt ((iI_lt (x := 0) (by omega) hx).mp z)) (fun z => kf (fun h => z ((iI_lt (x := 0) (by omega) hx).mpr h)))
theorem jI_icmp_le {x y : Int} {off : Int} {tgt : Nat} (hd : decode Y.2.2.1 pc = .ok (.if_icmp .le off, 3)) (ht : (pc : Int) + off = (tgt : Int)) (hx : iR x) (hy : iR y) (kt : x ≤ y → jx_G E l Y d Q tgt L st w) (kf : ¬ x ≤ y → jx_G E l Y d Q (pc + 3) L st w) : jx_G E l Y d Q pc L (.int (iI y) :: .int (iI x) :: st) w := jx_icmp_le hd ht (fun z => kt ((iI_le hx hy).mp z)) (fun z => kf (fun h => z ((iI_le hx hy).mpr h)))
theorem jI_if_le {x : Int} {off : Int} {tgt : Nat} (hd : decode Y.2.2.1 pc = .ok (.ifCond .le off, 3)) (ht : (pc : Int) + off = (tgt : Int)) (hx : iR x) (kt : x ≤ 0 → jx_G E l Y d Q tgt L st w) (kf : ¬ x ≤ 0 → jx_G E l Y d Q (pc + 3) L st w) : jx_G E l Y d Q pc L (.int (iI x) :: st) w := jx_if_le hd ht (fun z => kt ((iI_le (y := 0) hx (by omega)).mp z)) (fun z => kf (fun h => z ((iI_le (y := 0) hx (by omega)).mpr h)))
theorem jI_iald {a m : Nat} {i : Int} {v : Value} (hd : decode Y.2.2.1 pc = .ok (.iaload, 1)) (hk : jx_k w a = 100) (hl : jx_l w a = m) (hm : m ≤ 100000) (hi : 0 ≤ i ∧ i < m) (hv : jx_v w a i.toNat = v) (K : jx_G E l Y d Q (pc + 1) L (v :: st) w) : jx_G E l Y d Q pc L (.int (iI i) :: .ref a :: st) w := by
  subst hv
  refine jx_iald hd hk (by rw [hl]; exact iI_in hi (by omega)) ?_
  rw [iI_clamp (by omega)]
  exact K
theorem jI_zald {a m : Nat} {i : Int} {v : Value} (hd : decode Y.2.2.1 pc = .ok (.baload, 1)) (hk : jx_k w a = 102) (hl : jx_l w a = m) (hm : m ≤ 100000) (hi : 0 ≤ i ∧ i < m) (hv : jx_v w a i.toNat = v) (K : jx_G E l Y d Q (pc + 1) L (v :: st) w) : jx_G E l Y d Q pc L (.int (iI i) :: .ref a :: st) w := by
  subst hv
  refine jx_zald hd hk (by rw [hl]; exact iI_in hi (by omega)) ?_
  rw [iI_clamp (by omega)]
  exact K
theorem jI_iast {a m : Nat} {i : Int} {x : Int32} (hd : decode Y.2.2.1 pc = .ok (.iastore, 1)) (hk : jx_k w a = 100) (hl : jx_l w a = m) (hm : m ≤ 100000) (hi : 0 ≤ i ∧ i < m) (ho : E.1.heap.size ≤ a) (K : jx_G E l Y d Q (pc + 1) L st (jx_put w a i.toNat (.int x))) : jx_G E l Y d Q pc L (.int x :: .int (iI i) :: .ref a :: st) w := by
  refine jx_iast hd hk (by rw [hl]; exact iI_in hi (by omega)) ho ?_
  rw [iI_clamp (by omega)]
  exact K
theorem jI_zast {a m : Nat} {i : Int} {x : Int32} (hd : decode Y.2.2.1 pc = .ok (.bastore, 1)) (hk : jx_k w a = 102) (hl : jx_l w a = m) (hm : m ≤ 100000) (hi : 0 ≤ i ∧ i < m) (ho : E.1.heap.size ≤ a) (hx : narrow .boolean (.int x) = .int x) (K : jx_G E l Y d Q (pc + 1) L st (jx_put w a i.toNat (.int x))) : jx_G E l Y d Q pc L (.int x :: .int (iI i) :: .ref a :: st) w := by
  refine jx_zast hd hk (by rw [hl]; exact iI_in hi (by omega)) ho hx ?_
  rw [iI_clamp (by omega)]
  exact K
theorem jI_bool {x : Int} (h : x = 0 ∨ x = 1) : narrow .boolean (.int (iI x)) = .int (iI x) := by
  rcases h with rfl | rfl <;> rfl
end JXI
