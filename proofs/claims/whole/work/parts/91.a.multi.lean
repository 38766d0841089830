/-! 91.a.multi: an array of arrays in one step -/
/-- the outer array at the next address, the N inner ones of length M behind it -/
def jx_mu (w : jx_W) (ko ki N M : Nat) (dv : Value) : jx_W := (jx_n w + 1 + N, jx_c w - (1 + N), jx_s w - (N + N * M), fun b => if b = jx_n w then ko else if jx_n w < b ∧ b < jx_n w + 1 + N then ki else jx_k w b, fun b => if b = jx_n w then N else if jx_n w < b ∧ b < jx_n w + 1 + N then M else jx_l w b, fun b => if b = jx_n w then (fun i => if i < N then .ref (jx_n w + 1 + i) else .null) else if jx_n w < b ∧ b < jx_n w + 1 + N then (fun _ => dv) else jx_v w b)
theorem mu_k {w : jx_W} {ko ki N M : Nat} {dv : Value} {b : Nat} : jx_k (jx_mu w ko ki N M dv) b = if b = jx_n w then ko else if jx_n w < b ∧ b < jx_n w + 1 + N then ki else jx_k w b := rfl
theorem mu_l {w : jx_W} {ko ki N M : Nat} {dv : Value} {b : Nat} : jx_l (jx_mu w ko ki N M dv) b = if b = jx_n w then N else if jx_n w < b ∧ b < jx_n w + 1 + N then M else jx_l w b := rfl
theorem mu_v {w : jx_W} {ko ki N M : Nat} {dv : Value} {b : Nat} : jx_v (jx_mu w ko ki N M dv) b = if b = jx_n w then (fun i => if i < N then .ref (jx_n w + 1 + i) else .null) else if jx_n w < b ∧ b < jx_n w + 1 + N then (fun _ => dv) else jx_v w b := rfl
theorem jx_H.bornM {E : jx_E} {w : jx_W} {H H' : Heap} {ko ki N M : Nat} {dv : Value} {co ci : Cell} (h : jx_H E w H) (e1 : H'[jx_n w]? = some co) (hp : jx_pic E ko N (fun i => if i < N then .ref (jx_n w + 1 + i) else .null) co) (e4 : ∀ j : Nat, j < N → H'[jx_n w + 1 + j]? = some ci) (hp2 : jx_pic E ki M (fun _ => dv) ci) (e2 : H'.size = jx_n w + 1 + N) (e3 : ∀ q : Nat, q < jx_n w → H'[q]? = H[q]?) : jx_H E (jx_mu w ko ki N M dv) H' := by
  have h1 := h.1
  have h2 := h.2.1.1
  refine ⟨e2, ⟨by omega, fun b hb => by rw [e3 b (by omega)]; exact h.2.1.2 b hb⟩, fun b hb => ?_⟩
  rw [mu_k, mu_l, mu_v]
  rw [mu_k] at hb
  by_cases e : b = jx_n w
  · subst e
    rw [if_pos rfl, if_pos rfl, if_pos rfl]
    exact ⟨co, e1, hp⟩
  · rw [if_neg e] at hb
    rw [if_neg e, if_neg e, if_neg e]
    by_cases e5 : jx_n w < b ∧ b < jx_n w + 1 + N
    · rw [if_pos e5, if_pos e5, if_pos e5]
      have e6 := e4 (b - jx_n w - 1) (by omega)
      rw [show jx_n w + 1 + (b - jx_n w - 1) = b by omega] at e6
      exact ⟨ci, e6, hp2⟩
    · rw [if_neg e5] at hb
      rw [if_neg e5, if_neg e5, if_neg e5]
      obtain ⟨cb, hcb, hpb⟩ := h.2.2 b hb
      exact ⟨cb, (e3 b (h.lt hb)).trans hcb, hpb⟩
theorem jx_multi {E : jx_E} {l : Launch} {Y : jx_Y} {d : Nat} {Q : jx_R → jx_W → Prop} {pc : Nat} {L : List (Option Value)} {st : List Value} {w : jx_W} {idx N M ko ki : Nat} {n k : Int32} {ty : FieldType} {dv : Value} (hd : decode Y.2.2.1 pc = .ok (.multianewarray idx 2, 4)) (h1 : (Jvm.Cond.classLink Y.1 idx ("[" ++ (FieldType.array ty).toString)).before #[] E.1 = true) (h2 : (Jvm.Cond.arrayOver (.array ty)).before #[] E.1 = true) (h3 : (Jvm.Cond.arrayClass ty).before #[] E.1 = true) (hko : jx_ty ko = .array ty) (hki : jx_ty ki = ty) (hko2 : 100 ≤ ko ∧ ko ≠ 105) (hki2 : 100 ≤ ki ∧ ki ≠ 105) (hdv : defaultValue ty = dv) (hdf : fits ty (defaultValue ty) = true) (hdd : (defaultValue ty).isDefault = true) (hcb : componentBytes ty ≤ 8) (hn : ¬ n < 0) (hk : ¬ k < 0) (hN : n.toNatClampNeg = N) (hM : k.toNatClampNeg = M) (hb : N ≤ 1000 ∧ M ≤ 1000) (hc1 : 1 + N ≤ jx_c w) (hs1 : N + N * M ≤ jx_s w)
    (K : jx_G E l Y d Q (pc + 4) L (.ref (jx_n w) :: st) (jx_mu w ko ki N M dv)) : jx_G E l Y d Q pc L (.int k :: .int n :: st) w := by
  intro p e R s m args below meth c H locs cells slots ls C hH hL hq hc hs T hT X
  subst hN hM hdv
  have kb : k.toNatClampNeg * componentBytes ty ≤ 536870912 := Nat.le_trans (Nat.mul_le_mul hb.2 hcb) (by decide)
  have hd' : decode c.code pc = .ok (.multianewarray idx 2, 4) := by rw [C.code]; exact hd
  obtain ⟨vm₁, cA, comp, hW, hfA, hfC, hO, hI, X1, step⟩ := X.multianewarray2F C.ex C.own (jx_mv C.warm rfl h1) (arrayOver_alikeB C.warm.alike h2) (word_at C.warm (Or.inr ⟨_, rfl⟩) h3) (g := F0 m pc ls (.int k :: .int n :: st)) rfl hd' rfl hn hk (by omega) kb (by omega) hdf hdd (by omega) (by omega)
  obtain ⟨f1, f2, f3, f4⟩ := Jvm.Free.Multi.fill_facts (T.setVm vm₁) cA comp n.toNatClampNeg k.toNatClampNeg (defaultValue ty) n.toNatClampNeg
  have fo := fun (a : Nat) (ha : a < T.heap.size) => Jvm.Free.Multi.fill_old (T.setVm vm₁) cA comp n.toNatClampNeg k.toNatClampNeg (defaultValue ty) (a := a) ha n.toNatClampNeg
  have fi := fun (j : Nat) (hj : j < n.toNatClampNeg) => Jvm.Free.Multi.fill_inner (T.setVm vm₁) cA comp n.toNatClampNeg k.toNatClampNeg (defaultValue ty) n.toNatClampNeg j hj
  obtain ⟨o1, o2, o3⟩ := Jvm.Free.Multi.outerC_facts cA n.toNatClampNeg T.heap.size n.toNatClampNeg
  have os := fun (j : Nat) (hj : j < n.toNatClampNeg) => Jvm.Free.Multi.outerC_slot cA n.toNatClampNeg T.heap.size n.toNatClampNeg j hj
  have hTs : T.heap.size = jx_n w := by rw [hT]; exact hH.1
  have f1 : (Jvm.Free.Multi.fill (T.setVm vm₁) cA comp n.toNatClampNeg k.toNatClampNeg (defaultValue ty) n.toNatClampNeg).heap.size = jx_n w + 1 + n.toNatClampNeg := by rw [f1]; show T.heap.size + 1 + _ = _; rw [hTs]
  have f2 : (Jvm.Free.Multi.fill (T.setVm vm₁) cA comp n.toNatClampNeg k.toNatClampNeg (defaultValue ty) n.toNatClampNeg).heap[jx_n w]? = some (Jvm.Free.Multi.outerC cA n.toNatClampNeg T.heap.size n.toNatClampNeg) := by rw [← hTs]; exact f2
  have hH2 : jx_H E (jx_mu w ko ki n.toNatClampNeg k.toNatClampNeg (defaultValue ty)) (Jvm.Free.Multi.fill (T.setVm vm₁) cA comp n.toNatClampNeg k.toNatClampNeg (defaultValue ty) n.toNatClampNeg).heap := by
    refine hH.bornM (ci := Jvm.Free.Multi.innerC comp k.toNatClampNeg (defaultValue ty)) f2 ?_ (fun j hj => by have := fi j hj; rw [← hTs]; exact this) ?_ f1 (fun q hq => by have := fo q (by omega); rw [this]; show T.heap[q]? = _; rw [hT])
    · unfold jx_pic
      rw [if_neg (by omega)]
      refine ⟨fun e5 => absurd e5 hko2.2, (hO _ _ _).2, ?_, ⟨Nat.le_of_eq o3.symm, by rw [o3]⟩, fun j hj => ?_⟩
      · rw [hko]
        exact State.isArrayOf_alike C.warm.alike.symm (hO _ _ _).1
      · rw [os j hj, if_pos hj, hTs]
        show _ = some (if j < n.toNatClampNeg then Value.ref (jx_n w + 1 + j) else .null)
        rw [if_pos hj]
    · unfold jx_pic
      rw [if_neg (by omega)]
      refine ⟨fun e5 => absurd e5 hki2.2, (hI _ _).2, ?_, ⟨by simp [Jvm.Free.Multi.innerC], by simp [Jvm.Free.Multi.innerC]⟩, fun j hj => by simp [Jvm.Free.Multi.innerC, hj]⟩
      rw [hki]
      exact State.isArrayOf_alike C.warm.alike.symm (hI _ _).1
  obtain ⟨t, a1, b1⟩ := K p e R s m args below meth c _ locs (cells + 1 + n.toNatClampNeg) (slots + n.toNatClampNeg + n.toNatClampNeg * k.toNatClampNeg) ls C hH2 hL hq (by show cells + 1 + n.toNatClampNeg + (jx_c w - (1 + n.toNatClampNeg)) ≤ _; omega) (by show slots + n.toNatClampNeg + n.toNatClampNeg * k.toNatClampNeg + (jx_s w - (n.toNatClampNeg + n.toNatClampNeg * k.toNatClampNeg)) ≤ _; omega) _ rfl X1
  have step2 := step t
  rw [hTs] at step2
  exact ⟨t, step2 a1, b1⟩
