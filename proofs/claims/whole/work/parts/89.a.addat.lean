/-! 89.a.addat: ArrayList: adding at a place -/
theorem w_A_rangeCheckForAdd {E : jx_E} {l : Launch} {d : Nat} {w : jx_W} {b : Nat} {n p : Int} (hB : jx_B E) (hk : jx_k w b = 7) (hv : jx_v w b 1 = .int (iI n)) (hn : 0 ≤ n ∧ n ≤ 1000) (hp : 0 ≤ p ∧ p ≤ n) : jx_G E l Y_A_rangeCheckForAdd d (jx_eq (.inr none) w) 0 (jx_ent [.ref b, .int (iI p)] 2) [] w := by
  show jx_G E l Y_A_rangeCheckForAdd d _ 0 [some (.ref b), some (.int (iI p))] [] w
  refine jx_iload_n d_A_rangeCheckForAdd_0 rfl rfl ?_
  refine jx_aload_n d_A_rangeCheckForAdd_1 rfl rfl ?_
  refine jx_getv d_A_rangeCheckForAdd_2 (f_A_48 hB) hk hv ?_
  refine jI_icmp_gt (tgt := 12) d_A_rangeCheckForAdd_5 (by decide) (by omega) (by omega) (fun hc => absurd hc (by omega)) (fun _ => ?_)
  refine jx_iload_n d_A_rangeCheckForAdd_8 rfl rfl ?_
  refine jI_if_ge (tgt := 25) d_A_rangeCheckForAdd_9 (by decide) (by omega) (fun _ => ?_) (fun hc => absurd hc (by omega))
  exact jx_vret d_A_rangeCheckForAdd_25 rfl ⟨rfl, rfl⟩
/-- the world behind: room is made at p, e lies there -/
def jx_ia (w : jx_W) (b a : Nat) (n p : Int) (e : Nat) : jx_W := jx_put (jx_put (jx_cp w a a p.toNat (p + 1).toNat (n - p).toNat) a p.toNat (.ref e)) b 1 (.int (iI (n + 1)))
theorem g_A_addAt {E : jx_E} {l : Launch} {d : Nat} {w : jx_W} {a b e ci mi : Nat} {n p : Int} {q : vw_C} (hB : jx_B E) (hB2 : jx_B2 E mi) (hkb : jx_k w b = 7) (hob : E.1.heap.size ≤ b) (hka : jx_k w a = 105) (hoa : E.1.heap.size ≤ a) (hn : 0 ≤ n ∧ n ≤ 60) (hl : n < (jx_l w a : Int) ∧ jx_l w a ≤ 1000) (hp : 0 ≤ p ∧ p ≤ n) (hany : ∀ i : Nat, (i : Int) < n → jx_any E w (jx_v w a i)) (hci : ci < 99) (hq0 : E.2.2[ci]? = some q) (hke : jx_k w e = ci + 1) (hcast : (Jvm.Cond.castable q.1 "java/lang/Object").before #[] E.1 = true) :
    jx_G E l Y_A_addAt (d + 1) (jx_eq (.inr none) (jx_ia w b a n p e)) 38 [some (.ref b), some (.int (iI p)), some (.ref e), some (.int (iI n)), some (.ref a)] [] w := by
  refine jx_aload d_A_addAt_38 rfl ?_
  refine jx_iload_n d_A_addAt_40 rfl rfl ?_
  refine jx_aload d_A_addAt_41 rfl ?_
  refine jx_iload_n d_A_addAt_43 rfl rfl ?_
  refine jI_const d_A_addAt_44 ?_
  refine jI_add d_A_addAt_45 ?_
  refine jx_iload_n d_A_addAt_46 rfl rfl ?_
  refine jx_iload_n d_A_addAt_47 rfl rfl ?_
  refine jI_sub d_A_addAt_48 ?_
  have e1 : iI p = nI p.toNat := by rw [iI_nat, Int.toNat_of_nonneg hp.1]
  have e2 : iI (p + 1) = nI (p + 1).toNat := by rw [iI_nat, Int.toNat_of_nonneg (by omega)]
  have e3 : iI (n - p) = nI (n - p).toNat := by rw [iI_nat, Int.toNat_of_nonneg (by omega)]
  have key : ∀ (u v x : Int32), iI (n - p) = u → iI (p + 1) = v → iI p = x → jx_G E l Y_A_addAt (d + 1) (jx_eq (.inr none) (jx_ia w b a n p e)) 49 [some (.ref b), some (.int (iI p)), some (.ref e), some (.int (iI n)), some (.ref a)] [.int u, .int v, .ref a, .int x, .ref a] w → jx_G E l Y_A_addAt (d + 1) (jx_eq (.inr none) (jx_ia w b a n p e)) 49 [some (.ref b), some (.int (iI p)), some (.ref e), some (.int (iI n)), some (.ref a)] [.int (iI (n - p)), .int (iI (p + 1)), .ref a, .int (iI p), .ref a] w := by
    intro u v x h1 h2 h3 h
    subst h1 h2 h3
    exact h
  refine key _ _ _ e3 e2 e1 ?_
  refine jx_copy d_A_addAt_49 (y_ac2 hB) (y_ac3 hB) (y_ac4 hB) (y_ac5 hB) hB2.2 hka hka hoa (by omega) (by omega) (by omega) (by omega) (fun i hi => hany _ (by omega)) (Nat.le_of_ble_eq_true rfl) ?_
  refine jx_aload d_A_addAt_52 rfl ?_
  refine jx_iload_n d_A_addAt_54 rfl rfl ?_
  refine jx_aload_n d_A_addAt_55 rfl rfl ?_
  refine jx_aast d_A_addAt_56 hka (iI_in (by (have h9 : jx_l (jx_cp w a a p.toNat (p + 1).toNat (n - p).toNat) a = jx_l w a := rfl); omega) (by (have h9 : jx_l (jx_cp w a a p.toNat (p + 1).toNat (n - p).toNat) a = jx_l w a := rfl); omega)) hoa hci hq0 hke hB2.2 hcast ?_
  rw [iI_clamp (by omega)]
  refine jx_aload_n d_A_addAt_57 rfl rfl ?_
  refine jx_iload_n d_A_addAt_58 rfl rfl ?_
  refine jI_const d_A_addAt_59 ?_
  refine jI_add d_A_addAt_60 ?_
  refine jx_putf d_A_addAt_61 (f_A_48 hB) (t_6_1 hB) hkb hob rfl rfl ?_
  exact jx_vret d_A_addAt_64 rfl ⟨rfl, rfl⟩
def jx_iw (w : jx_W) (b a : Nat) (n p : Int) (e : Nat) : jx_W := if (jx_l w a : Int) = n then jx_ia (jx_put (jx_gr w a n.toNat (gC n).toNat) b 0 (.ref (jx_n w))) b (jx_n w) n p e else jx_ia w b a n p e
theorem w_A_addAt {E : jx_E} {l : Launch} {d : Nat} {w : jx_W} {a b e ci mi : Nat} {n p : Int} {q : vw_C} {mc : Int32} (hB : jx_B E) (hB2 : jx_B2 E mi) (h : lsA E w b a n) (hp : 0 ≤ p ∧ p ≤ n) (hmc : jx_v w b 2 = .int mc) (hab : a ≠ b) (hz : (jx_l w a : Int) = n → n = 0 → jZ E a) (ho : (jx_l w a : Int) ≠ n → E.1.heap.size ≤ a) (hci : ci < 99) (hq0 : E.2.2[ci]? = some q) (hke : jx_k w e = ci + 1) (hen : e < jx_n w) (hcast : (Jvm.Cond.castable q.1 "java/lang/Object").before #[] E.1 = true) (h1 : 1 ≤ jx_c w) (h2 : 100 ≤ jx_s w) :
    jx_G E l Y_A_addAt (d + 6) (jx_eq (.inr none) (jx_iw (jx_put w b 2 (.int (mc + iI 1))) b a n p e)) 0 (jx_ent [.ref b, .int (iI p), .ref e] 5) [] w := by
  obtain ⟨k1, k2, k3, k4, k5, k6, k7, k8, k9, k10, k11, k12, k13⟩ := id h
  have hg := gC_rg k9
  have ev : ∀ x i, ¬ (x = b ∧ i = 2) → jx_v (jx_put w b 2 (.int (mc + iI 1))) x i = jx_v w x i := fun x i hx => if_neg hx
  have h' : lsA E (jx_put w b 2 (.int (mc + iI 1))) b a n := ⟨k1, k2, k3, by rw [ev b 0 (by omega)]; exact k4, by rw [ev b 1 (by omega)]; exact k5, ⟨_, if_pos ⟨rfl, rfl⟩⟩, k7, k8, k9, k10, k11, k12, fun i hi => by rw [ev a i (fun z => hab z.1)]; exact k13 i hi⟩
  show jx_G E l Y_A_addAt (d + 6) _ 0 [some (.ref b), some (.int (iI p)), some (.ref e), none, none] [] w
  refine jx_aload_n d_A_addAt_0 rfl rfl ?_
  refine jx_iload_n d_A_addAt_1 rfl rfl ?_
  refine jx_callV_r (As := [.int (iI p)]) (rest := []) (v := none) d_A_addAt_2 (m_A_rangeCheckForAdd hB) (v_A_135 hB) (by decide) (jx_c6 hB) k1 rfl (Nat.le_of_ble_eq_true rfl) (Nat.le_of_ble_eq_true rfl) (w_A_rangeCheckForAdd hB k1 k5 (by omega) hp) ?_
  refine jx_aload_n d_A_addAt_5 rfl rfl ?_
  refine jx_dup d_A_addAt_6 rfl ?_
  refine jx_getv d_A_addAt_7 (f_A_63 hB) k1 hmc ?_
  refine jI_const d_A_addAt_10 ?_
  refine jx_iadd d_A_addAt_11 ?_
  refine jx_putf d_A_addAt_12 (f_A_63 hB) (t_6_2 hB) k1 k2 rfl rfl ?_
  refine jx_aload_n d_A_addAt_15 rfl rfl ?_
  refine jx_getv d_A_addAt_16 (f_A_48 hB) h'.1 h'.2.2.2.2.1 ?_
  refine jx_dup d_A_addAt_19 rfl ?_
  refine jx_istore_n d_A_addAt_20 rfl (Nat.le_of_ble_eq_true rfl) rfl ?_
  try dsimp only [List.set]
  refine jx_aload_n d_A_addAt_21 rfl rfl ?_
  refine jx_getv d_A_addAt_22 (f_A_9 hB) h'.1 h'.2.2.2.1 ?_
  refine jx_dup d_A_addAt_25 rfl ?_
  refine jx_astore d_A_addAt_26 (Nat.le_of_ble_eq_true rfl) rfl ?_
  try dsimp only [List.set]
  refine jx_ala (n := iI (jx_l w a)) d_A_addAt_28 k7 (by decide) (jI_len (by omega)) ?_
  refine jI_icmp_ne (tgt := 38) d_A_addAt_29 (by decide) (by omega) (by omega) (fun hc => ?_) (fun hc => ?_)
  · have hne : ¬ (jx_l w a : Int) = n := by omega
    have ew : jx_iw (jx_put w b 2 (.int (mc + iI 1))) b a n p e = jx_ia (jx_put w b 2 (.int (mc + iI 1))) b a n p e := if_neg hne
    rw [ew]
    exact jx_deep (g_A_addAt (d := 0) hB hB2 k1 k2 k7 (ho hne) k9 ⟨by show n < (jx_l w a : Int); omega, k11⟩ hp h'.2.2.2.2.2.2.2.2.2.2.2.2 hci hq0 hke hcast) (by omega)
  · have hfull : (jx_l w a : Int) = n := by omega
    have ew : jx_iw (jx_put w b 2 (.int (mc + iI 1))) b a n p e = jx_ia (jx_put (jx_gr (jx_put w b 2 (.int (mc + iI 1))) a n.toNat (gC n).toNat) b 0 (.ref (jx_n w))) b (jx_n w) n p e := if_pos hfull
    rw [ew]
    refine jx_aload_n d_A_addAt_32 rfl rfl ?_
    refine jx_callV_r (As := []) (rest := []) d_A_addAt_33 (m_A_grow hB) (v_A_129 hB) (by decide) (jx_c6 hB) k1 rfl (Nat.le_of_ble_eq_true rfl) (Nat.le_of_ble_eq_true rfl) (w_A_grow hB hB2 h' hfull (hz hfull) h1 h2) ?_
    refine jx_astore d_A_addAt_36 (Nat.le_of_ble_eq_true rfl) rfl ?_
    try dsimp only [List.set]
    obtain ⟨W, hW⟩ : ∃ zz, zz = jx_put (jx_gr (jx_put w b 2 (.int (mc + iI 1))) a n.toNat (gC n).toNat) b 0 (.ref (jx_n w)) := ⟨_, rfl⟩
    have hkw : ∀ x, jx_k W x = if x = jx_n w then 105 else jx_k w x := fun x => by rw [hW]; rfl
    have hlw : jx_l W (jx_n w) = (gC n).toNat := by rw [hW]; exact if_pos rfl
    have hnw : jx_n W = jx_n w + 1 := by rw [hW]; rfl
    have hvw : ∀ i, i < n.toNat → jx_v W (jx_n w) i = jx_v w a i := fun i hi => by
      rw [hW]
      show (if jx_n w = b ∧ i = 0 then _ else if jx_n w = jx_n w then (if i < n.toNat then (if a = b ∧ i = 2 then _ else jx_v w a i) else _) else _) = _
      rw [if_neg (by omega), if_pos rfl, if_pos hi, if_neg (fun z => hab z.1)]
    have ecc : jx_put (jx_gr (jx_put w b 2 (.int (mc + iI 1))) a n.toNat (gC n).toNat) b 0 (.ref (jx_n (jx_put w b 2 (.int (mc + iI 1))))) = W := hW.symm
    rw [ecc, ← hW]
    refine jx_deep (g_A_addAt (d := 0) hB hB2 (by rw [hkw, if_neg (by omega)]; exact k1) k2 (by rw [hkw, if_pos rfl]) k12 k9 ⟨by rw [hlw]; omega, by rw [hlw]; omega⟩ hp (fun i hi => ?_) hci hq0 (by rw [hkw, if_neg (by omega)]; exact hke) hcast) (by omega)
    rw [hvw i (by omega)]
    rcases k13 i hi with z | ⟨b2, ci2, q2, z1, z0, z2, z3, z4, z5⟩
    · exact .inl z
    · exact .inr ⟨b2, ci2, q2, z1, by omega, z2, z3, by rw [hkw, if_neg (by omega)]; exact z4, z5⟩
