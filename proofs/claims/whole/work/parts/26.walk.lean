/-! 26.walk: rows for walks: values by name, calls whose end is known -/
def jx_eq (r : jx_R) (w : jx_W) : jx_R → jx_W → Prop := fun r' w' => r' = r ∧ w' = w
section JXW
variable {E : jx_E} {l : Launch} {Y Z : jx_Y} {d n : Nat} {Q : jx_R → jx_W → Prop} {pc : Nat} {L : List (Option Value)} {st rest As : List Value} {w w2 : jx_W} {z : MethodName}
theorem jx_getv {ci k idx a : Nat} {v : Value} (hd : decode Y.2.2.1 pc = .ok (.getfield idx, 3)) (hF : jx_F E Y.1 idx ci k) (hk : jx_k w a = ci + 1) (hv : jx_v w a k = v) (K : jx_G E l Y d Q (pc + 3) L (v :: st) w) : jx_G E l Y d Q pc L (.ref a :: st) w := by
  subst hv
  exact jx_getf hd hF hk K
theorem jx_ialn {a i m : Nat} {v : Value} (hd : decode Y.2.2.1 pc = .ok (.iaload, 1)) (hk : jx_k w a = 100) (hl : jx_l w a = m) (hi : i < m) (hm : m < 2 ^ 31) (hv : jx_v w a i = v) (K : jx_G E l Y d Q (pc + 1) L (v :: st) w) : jx_G E l Y d Q pc L (.int (nI i) :: .ref a :: st) w := by
  subst hv
  refine jx_iald hd hk (by rw [hl]; exact vp_in_nI hi hm) ?_
  rw [nI_clamp (by omega)]
  exact K
theorem jx_laln {a i m : Nat} {v : Value} (hd : decode Y.2.2.1 pc = .ok (.laload, 1)) (hk : jx_k w a = 101) (hl : jx_l w a = m) (hi : i < m) (hm : m < 2 ^ 31) (hv : jx_v w a i = v) (K : jx_G E l Y d Q (pc + 1) L (v :: st) w) : jx_G E l Y d Q pc L (.int (nI i) :: .ref a :: st) w := by
  subst hv
  refine jx_lald hd hk (by rw [hl]; exact vp_in_nI hi hm) ?_
  rw [nI_clamp (by omega)]
  exact K
theorem jx_zaln {a i m : Nat} {v : Value} (hd : decode Y.2.2.1 pc = .ok (.baload, 1)) (hk : jx_k w a = 102) (hl : jx_l w a = m) (hi : i < m) (hm : m < 2 ^ 31) (hv : jx_v w a i = v) (K : jx_G E l Y d Q (pc + 1) L (v :: st) w) : jx_G E l Y d Q pc L (.int (nI i) :: .ref a :: st) w := by
  subst hv
  refine jx_zald hd hk (by rw [hl]; exact vp_in_nI hi hm) ?_
  rw [nI_clamp (by omega)]
  exact K
theorem jx_aaln {a k i m : Nat} {v : Value} (hd : decode Y.2.2.1 pc = .ok (.aaload, 1)) (hk : jx_k w a = k) (hk2 : 100 ≤ k) (hr : (jx_ty k).isReference = true) (hl : jx_l w a = m) (hi : i < m) (hm : m < 2 ^ 31) (hv : jx_v w a i = v) (K : jx_G E l Y d Q (pc + 1) L (v :: st) w) : jx_G E l Y d Q pc L (.int (nI i) :: .ref a :: st) w := by
  subst hv
  refine jx_aald hd hk hk2 hr (by rw [hl]; exact vp_in_nI hi hm) ?_
  rw [nI_clamp (by omega)]
  exact K
theorem jx_iasn {a i m : Nat} {x : Int32} (hd : decode Y.2.2.1 pc = .ok (.iastore, 1)) (hk : jx_k w a = 100) (hl : jx_l w a = m) (hi : i < m) (hm : m < 2 ^ 31) (ho : E.1.heap.size ≤ a) (K : jx_G E l Y d Q (pc + 1) L st (jx_put w a i (.int x))) : jx_G E l Y d Q pc L (.int x :: .int (nI i) :: .ref a :: st) w := by
  refine jx_iast hd hk (by rw [hl]; exact vp_in_nI hi hm) ho ?_
  rw [nI_clamp (by omega)]
  exact K
theorem jx_lasn {a i m : Nat} {x : Int64} (hd : decode Y.2.2.1 pc = .ok (.lastore, 1)) (hk : jx_k w a = 101) (hl : jx_l w a = m) (hi : i < m) (hm : m < 2 ^ 31) (ho : E.1.heap.size ≤ a) (K : jx_G E l Y d Q (pc + 1) L st (jx_put w a i (.long x))) : jx_G E l Y d Q pc L (.long x :: .int (nI i) :: .ref a :: st) w := by
  refine jx_last hd hk (by rw [hl]; exact vp_in_nI hi hm) ho ?_
  rw [nI_clamp (by omega)]
  exact K
theorem jx_callV_r {idx b ci : Nat} {q : vw_C} {v : Option Value} (hd : decode Y.2.2.1 pc = .ok (.invokevirtual idx, 3)) (hM : jx_M E z Z n) (hV : jx_V E Y.1 idx z q.1) (hci : ci < 99) (hq0 : E.2.2[ci]? = some q) (hk : jx_k w b = ci + 1) (hn : As.length = n) (hlen : (jx_fl (.ref b :: As)).length ≤ Z.2.2.2.1) (hW : (rest.map fun v => v.category).sum ≤ 24)
    (hz : jx_G E l Z d (jx_eq (.inr v) w2) 0 (jx_ent (.ref b :: As) Z.2.2.2.1) [] w) (kr : jx_G E l Y (d + 1) Q (pc + 3) L (v.toList ++ rest) w2) : jx_G E l Y (d + 1) Q pc L (As.reverse ++ .ref b :: rest) w :=
  jx_callV hd hM hV hci hq0 hk hn hlen hW hz (fun v' w' h => by obtain ⟨h1, rfl⟩ := h; cases h1; exact kr) (fun x a w' h => by obtain ⟨h1, -⟩ := h; cases h1)
theorem jx_callS_r {idx : Nat} {v : Option Value} (hd : decode Y.2.2.1 pc = .ok (.invokestatic idx, 3)) (hM : jx_M E z Z n) (hV : jx_S E Y.1 idx z) (hn : As.length = n) (hlen : (jx_fl As).length ≤ Z.2.2.2.1) (hW : (rest.map fun v => v.category).sum ≤ 24)
    (hz : jx_G E l Z d (jx_eq (.inr v) w2) 0 (jx_ent As Z.2.2.2.1) [] w) (kr : jx_G E l Y (d + 1) Q (pc + 3) L (v.toList ++ rest) w2) : jx_G E l Y (d + 1) Q pc L (As.reverse ++ rest) w :=
  jx_callS hd hM hV hn hlen hW hz (fun v' w' h => by obtain ⟨h1, rfl⟩ := h; cases h1; exact kr) (fun x a w' h => by obtain ⟨h1, -⟩ := h; cases h1)
theorem jx_callI_r {idx b : Nat} {v : Option Value} (hd : decode Y.2.2.1 pc = .ok (.invokespecial idx, 3)) (hM : jx_M E z Z n) (hV : jx_I E Y.1 idx z) (hi : z.name = "<init>") (hnone : Z.2.2.2.2 = (none, [])) (hn : As.length = n) (hlen : (jx_fl (.ref b :: As)).length ≤ Z.2.2.2.1) (hW : (rest.map fun v => v.category).sum ≤ 24)
    (hz : jx_G E l Z d (jx_eq (.inr v) w2) 0 (jx_ent (.ref b :: As) Z.2.2.2.1) [] w) (kr : jx_G E l Y (d + 1) Q (pc + 3) L (v.toList ++ rest) w2) : jx_G E l Y (d + 1) Q pc L (As.reverse ++ .ref b :: rest) w :=
  jx_callI hd hM hV hi hnone hn hlen hW hz (fun v' w' h => by obtain ⟨h1, rfl⟩ := h; cases h1; exact kr) (fun x a w' h => by obtain ⟨h1, -⟩ := h; cases h1)
/-- a callee that throws: nothing here catches -/
theorem jx_callV_t {idx b ci x a : Nat} {q : vw_C} (hd : decode Y.2.2.1 pc = .ok (.invokevirtual idx, 3)) (hM : jx_M E z Z n) (hV : jx_V E Y.1 idx z q.1) (hci : ci < 99) (hq0 : E.2.2[ci]? = some q) (hk : jx_k w b = ci + 1) (hn : As.length = n) (hlen : (jx_fl (.ref b :: As)).length ≤ Z.2.2.2.1) (hW : (rest.map fun v => v.category).sum ≤ 24)
    (hz : jx_G E l Z d (jx_eq (.inl (x, a)) w2) 0 (jx_ent (.ref b :: As) Z.2.2.2.1) [] w) (kt : jx_T E l Y (d + 1) Q pc L x a w2) : jx_G E l Y (d + 1) Q pc L (As.reverse ++ .ref b :: rest) w :=
  jx_callV hd hM hV hci hq0 hk hn hlen hW hz (fun v' w' h => by obtain ⟨h1, -⟩ := h; cases h1) (fun x a w' h => by obtain ⟨h1, rfl⟩ := h; cases h1; exact kt)
theorem jx_callS_t {idx x a : Nat} (hd : decode Y.2.2.1 pc = .ok (.invokestatic idx, 3)) (hM : jx_M E z Z n) (hV : jx_S E Y.1 idx z) (hn : As.length = n) (hlen : (jx_fl As).length ≤ Z.2.2.2.1) (hW : (rest.map fun v => v.category).sum ≤ 24)
    (hz : jx_G E l Z d (jx_eq (.inl (x, a)) w2) 0 (jx_ent As Z.2.2.2.1) [] w) (kt : jx_T E l Y (d + 1) Q pc L x a w2) : jx_G E l Y (d + 1) Q pc L (As.reverse ++ rest) w :=
  jx_callS hd hM hV hn hlen hW hz (fun v' w' h => by obtain ⟨h1, -⟩ := h; cases h1) (fun x a w' h => by obtain ⟨h1, rfl⟩ := h; cases h1; exact kt)
end JXW
