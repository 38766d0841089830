/-! 78.cpub: methods that throw; public methods that make no object -/
/-- what a public method of the class comes to: S2 is the reference's state behind it -/
def pubQ (E : jx_E) (G : Nat → Nat → Nat) (lo hi : Nat) (w : jx_W) (ex : Int → Nat) (v : Option Value) (S2 : mS) : jx_R → jx_W → Prop := fun r w' => (∃ (D2 : mS) (G2 : Nat → Nat → Nat), cR E D2 w' G2 lo hi ∧ rl S2 D2 ∧ cF lo hi 50 w w' ∧ G2 2 0 = G 2 0) ∧ ((S2 3 0 = 0 ∧ r = .inr v) ∨ (S2 3 0 ≠ 0 ∧ ∃ ad, r = .inl (ex (S2 3 0), ad)))
def exA (k : Int) : Nat := if k = 1 then 1 else 3
def exB (k : Int) : Nat := if k = 1 then 0 else 1
def exC (k : Int) : Nat := if k = 1 then 0 else if k = 2 then 1 else 2
def exD (k : Int) : Nat := if k = 1 then 0 else 2
def exE (_ : Int) : Nat := 1
section PUB
variable {E : jx_E} {S S2 D : mS} {w w0 : jx_W} {G : Nat → Nat → Nat} {lo hi a x : Nat} {ex : Int → Nat} {v : Option Value}
theorem pub_thr (hC : cR E D w G lo hi) (hR : rl S D) (hF : cF lo hi a w0 w) (ha : a ≤ 40) (k : Int) (hk : k ≠ 0) (hS : S2 = sU S 3 0 k) (hx : ex k = x) : pubQ E G lo hi w0 ex v S2 (.inl (x, jx_n w)) (jx_skip w 6) := by
  subst hS hx
  exact ⟨⟨D, G, hC.skip, hR.s3 k, hF.tr (cF_skip (by decide)) (by omega), rfl⟩, .inr ⟨hk, jx_n w, rfl⟩⟩
theorem pub_ret (hC : cR E D w G lo hi) (hR : rl S2 D) (hF : cF lo hi a w0 w) (ha : a ≤ 40) (h3 : S2 3 0 = 0) : pubQ E G lo hi w0 ex v S2 (.inr v) w :=
  ⟨⟨D, G, hC, hR, hF.tr cF.rf (by omega), rfl⟩, .inl ⟨h3, rfl⟩⟩
theorem pub_int {y z : Int} (hC : cR E D w G lo hi) (hR : rl S2 D) (hF : cF lo hi a w0 w) (ha : a ≤ 40) (h3 : S2 3 0 = 0) (h : z = y) : pubQ E G lo hi w0 ex (some (.int (iI y))) S2 (.inr (some (.int (iI z)))) w := by
  rw [h]
  exact pub_ret hC hR hF ha h3
theorem room_c (hF : cF lo hi a w0 w) (h : 50 ≤ jx_c w0) (ha : a ≤ 40) : 1 ≤ jx_c w := by
  have := hF.1
  omega
theorem room_s (hF : cF lo hi a w0 w) (h : 5000 ≤ jx_s w0) (ha : a ≤ 40) : 6 ≤ jx_s w := by
  have := hF.2.1
  omega
end PUB
theorem done_sOf (S : mS) (p : Int) (hp : p ≠ -1) : sDone S p = sOf S p 2 := by
  unfold sDone sOf
  refine sCnt_congr (fun i _ => ?_)
  rw [decide_eq_decide]
  constructor
  · rintro ⟨h1, h2⟩
    rcases h2 with h2 | h2
    · exact absurd h2 hp
    · exact ⟨h2, h1⟩
  · rintro ⟨h1, h2⟩
    exact ⟨h2, .inr h1⟩
theorem done_all (S : mS) : sDone S (-1) = sInS S 2 := by
  unfold sDone sInS
  refine sCnt_congr (fun i _ => ?_)
  rw [decide_eq_decide]
  exact ⟨fun h => h.1, fun h => ⟨h, .inl rfl⟩⟩
theorem pO_sOf (S : mS) (p : Int) : sCnt (pO S p) (S 1 0) = sOf S p 0 := by
  unfold sOf pO
  refine sCnt_congr (fun i _ => ?_)
  rw [decide_eq_decide]
  exact ⟨fun h => ⟨h.2, h.1⟩, fun h => ⟨h.2, h.1⟩⟩
theorem free_sOf (S : mS) : sFreeCnt S = sOf S (-1) 0 := pO_sOf S (-1)
theorem w_T_needWithin_ok {E : jx_E} {l : Launch} {d : Nat} {w : jx_W} {D S : mS} {G : Nat → Nat → Nat} {lo hi : Nat} {x a b : Int} (hB : jx_B E) (hx : iR x) (ha : iR a) (hb : iR b) (hq : a ≤ x ∧ x ≤ b) : jx_G E l Y_T_needWithin (d) (jx_eq (.inr none) w) 0 (jx_ent [.int (iI (x)), .int (iI (a)), .int (iI (b))] 3) [] w := by
  show jx_G E l Y_T_needWithin (d) _ 0 [some (.int (iI (x))), some (.int (iI (a))), some (.int (iI (b)))] [] w
  refine jx_iload_n d_T_needWithin_0 rfl rfl ?_
  refine jx_iload_n d_T_needWithin_1 rfl rfl ?_
  refine jI_icmp_lt (tgt := 10) d_T_needWithin_2 (by decide) (by omega) (by omega) (fun hc1 => ?_) (fun hc1 => ?_)
  · exfalso; omega
  · refine jx_iload_n d_T_needWithin_5 rfl rfl ?_
    refine jx_iload_n d_T_needWithin_6 rfl rfl ?_
    refine jI_icmp_le (tgt := 20) d_T_needWithin_7 (by decide) (by omega) (by omega) (fun hc2 => ?_) (fun hc2 => ?_)
    · exact jx_vret d_T_needWithin_20 rfl ⟨rfl, rfl⟩
    · exfalso; omega
theorem w_T_needWithin_no {E : jx_E} {l : Launch} {d : Nat} {w : jx_W} {D S : mS} {G : Nat → Nat → Nat} {lo hi : Nat} {x a b : Int} (hB : jx_B E) (hx : iR x) (ha : iR a) (hb : iR b) (hq : ¬ (a ≤ x ∧ x ≤ b)) (h1 : 1 ≤ jx_c w) (h6 : 6 ≤ jx_s w) : jx_G E l Y_T_needWithin (d + 6) (jx_eq (.inl (1, jx_n w)) (jx_skip w 6)) 0 (jx_ent [.int (iI (x)), .int (iI (a)), .int (iI (b))] 3) [] w := by
  show jx_G E l Y_T_needWithin (d + 6) _ 0 [some (.int (iI (x))), some (.int (iI (a))), some (.int (iI (b)))] [] w
  refine jx_iload_n d_T_needWithin_0 rfl rfl ?_
  refine jx_iload_n d_T_needWithin_1 rfl rfl ?_
  refine jI_icmp_lt (tgt := 10) d_T_needWithin_2 (by decide) (by omega) (by omega) (fun hc1 => ?_) (fun hc1 => ?_)
  · refine jx_throw d_T_needWithin_10 d_T_needWithin_13 d_T_needWithin_14 d_T_needWithin_16 d_T_needWithin_19 (x_T_needWithin_10 hB) (by intro y hy; exact absurd hy (List.not_mem_nil)) (by omega) (by omega) (by show 6 ≤ _; omega) (Nat.le_of_ble_eq_true rfl) ?_
    exact ⟨rfl, rfl⟩
  · refine jx_iload_n d_T_needWithin_5 rfl rfl ?_
    refine jx_iload_n d_T_needWithin_6 rfl rfl ?_
    refine jI_icmp_le (tgt := 20) d_T_needWithin_7 (by decide) (by omega) (by omega) (fun hc2 => ?_) (fun hc2 => ?_)
    · exfalso; omega
    · refine jx_throw d_T_needWithin_10 d_T_needWithin_13 d_T_needWithin_14 d_T_needWithin_16 d_T_needWithin_19 (x_T_needWithin_10 hB) (by intro y hy; exact absurd hy (List.not_mem_nil)) (by omega) (by omega) (by show 6 ≤ _; omega) (Nat.le_of_ble_eq_true rfl) ?_
      exact ⟨rfl, rfl⟩
theorem w_T_needRoom_ok {E : jx_E} {l : Launch} {d : Nat} {w : jx_W} {D S : mS} {G : Nat → Nat → Nat} {lo hi : Nat} {x a : Int} (hB : jx_B E) (hx : iR x) (ha : iR a) (hq : x < a) : jx_G E l Y_T_needRoom (d) (jx_eq (.inr none) w) 0 (jx_ent [.int (iI (x)), .int (iI (a))] 2) [] w := by
  show jx_G E l Y_T_needRoom (d) _ 0 [some (.int (iI (x))), some (.int (iI (a)))] [] w
  refine jx_iload_n d_T_needRoom_0 rfl rfl ?_
  refine jx_iload_n d_T_needRoom_1 rfl rfl ?_
  refine jI_icmp_lt (tgt := 15) d_T_needRoom_2 (by decide) (by omega) (by omega) (fun hc1 => ?_) (fun hc1 => ?_)
  · exact jx_vret d_T_needRoom_15 rfl ⟨rfl, rfl⟩
  · exfalso; omega
theorem w_T_needRoom_no {E : jx_E} {l : Launch} {d : Nat} {w : jx_W} {D S : mS} {G : Nat → Nat → Nat} {lo hi : Nat} {x a : Int} (hB : jx_B E) (hx : iR x) (ha : iR a) (hq : ¬ (x < a)) (h1 : 1 ≤ jx_c w) (h6 : 6 ≤ jx_s w) : jx_G E l Y_T_needRoom (d + 6) (jx_eq (.inl (3, jx_n w)) (jx_skip w 6)) 0 (jx_ent [.int (iI (x)), .int (iI (a))] 2) [] w := by
  show jx_G E l Y_T_needRoom (d + 6) _ 0 [some (.int (iI (x))), some (.int (iI (a)))] [] w
  refine jx_iload_n d_T_needRoom_0 rfl rfl ?_
  refine jx_iload_n d_T_needRoom_1 rfl rfl ?_
  refine jI_icmp_lt (tgt := 15) d_T_needRoom_2 (by decide) (by omega) (by omega) (fun hc1 => ?_) (fun hc1 => ?_)
  · exfalso; omega
  · refine jx_throw d_T_needRoom_5 d_T_needRoom_8 d_T_needRoom_9 d_T_needRoom_11 d_T_needRoom_14 (x_T_needRoom_5 hB) (by intro y hy; exact absurd hy (List.not_mem_nil)) (by omega) (by omega) (by show 6 ≤ _; omega) (Nat.le_of_ble_eq_true rfl) ?_
    exact ⟨rfl, rfl⟩
theorem w_T_needOpen_ok {E : jx_E} {l : Launch} {d : Nat} {w : jx_W} {D S : mS} {G : Nat → Nat → Nat} {lo hi : Nat} {t : Int} (hB : jx_B E) (hC : cR E D w G lo hi) (hR : rl S D) (ht : 0 ≤ t ∧ t < S 1 0) (hq : S 13 t = 0) : jx_G E l Y_T_needOpen (d) (jx_eq (.inr none) w) 0 (jx_ent [.ref (G 1 (t).toNat)] 1) [] w := by
  show jx_G E l Y_T_needOpen (d) _ 0 [some (.ref (G 1 (t).toNat))] [] w
  have hN := hR.N
  refine jx_aload_n d_T_needOpen_0 rfl rfl ?_
  refine cx_K 5 (f := 25) rfl d_T_needOpen_1 (f_T_170 hB) hC (by decide) (by omega) ?_
  have a1 : D 25 t = S 13 t := (hR.K (t := t) (by omega)).1.2.2.2.2.2.1
  have a2 : 0 ≤ D 25 t ∧ D 25 t ≤ 2 := (hR.Kr (t := t) (by omega)).2.2.2.2.2.1
  refine jI_if_eq (tgt := 17) d_T_needOpen_4 (by decide) (by omega) (fun hc3 => ?_) (fun hc3 => ?_)
  · exact jx_vret d_T_needOpen_17 rfl ⟨rfl, rfl⟩
  · exfalso; omega
theorem w_T_needOpen_no {E : jx_E} {l : Launch} {d : Nat} {w : jx_W} {D S : mS} {G : Nat → Nat → Nat} {lo hi : Nat} {t : Int} (hB : jx_B E) (hC : cR E D w G lo hi) (hR : rl S D) (ht : 0 ≤ t ∧ t < S 1 0) (hq : ¬ (S 13 t = 0)) (h1 : 1 ≤ jx_c w) (h6 : 6 ≤ jx_s w) : jx_G E l Y_T_needOpen (d + 6) (jx_eq (.inl (2, jx_n w)) (jx_skip w 6)) 0 (jx_ent [.ref (G 1 (t).toNat)] 1) [] w := by
  show jx_G E l Y_T_needOpen (d + 6) _ 0 [some (.ref (G 1 (t).toNat))] [] w
  have hN := hR.N
  refine jx_aload_n d_T_needOpen_0 rfl rfl ?_
  refine cx_K 5 (f := 25) rfl d_T_needOpen_1 (f_T_170 hB) hC (by decide) (by omega) ?_
  have a1 : D 25 t = S 13 t := (hR.K (t := t) (by omega)).1.2.2.2.2.2.1
  have a2 : 0 ≤ D 25 t ∧ D 25 t ≤ 2 := (hR.Kr (t := t) (by omega)).2.2.2.2.2.1
  refine jI_if_eq (tgt := 17) d_T_needOpen_4 (by decide) (by omega) (fun hc3 => ?_) (fun hc3 => ?_)
  · exfalso; omega
  · refine jx_throw d_T_needOpen_7 d_T_needOpen_10 d_T_needOpen_11 d_T_needOpen_13 d_T_needOpen_16 (x_T_needOpen_7 hB) (by intro y hy; exact absurd hy (List.not_mem_nil)) (by omega) (by omega) (by show 6 ≤ _; omega) (Nat.le_of_ble_eq_true rfl) ?_
    exact ⟨rfl, rfl⟩
theorem w_T_personOf_ok {E : jx_E} {l : Launch} {d : Nat} {w : jx_W} {D S : mS} {G : Nat → Nat → Nat} {lo hi : Nat} {q : Int} (hB : jx_B E) (hC : cR E D w G lo hi) (hR : rl S D) (hr : iR q) (hq : 0 ≤ q ∧ q < S 0 0) : jx_G E l Y_T_personOf (d + 3) (jx_eq (.inr (some (.ref (G 0 q.toNat)))) w) 0 (jx_ent [.ref (G 2 0), .int (iI (q))] 2) [] w := by
  show jx_G E l Y_T_personOf (d + 3) _ 0 [some (.ref (G 2 0)), some (.int (iI (q)))] [] w
  have hN := hR.N
  refine jx_iload_n d_T_personOf_0 rfl rfl ?_
  refine jI_if_lt (tgt := 15) d_T_personOf_1 (by decide) (by omega) (fun hc1 => ?_) (fun hc1 => ?_)
  · exfalso; omega
  · refine jx_iload_n d_T_personOf_4 rfl rfl ?_
    refine jx_aload_n d_T_personOf_5 rfl rfl ?_
    refine cx_ptr (c2 := 2) (x2 := 1) d_T_personOf_6 (f_T_10 hB) hC (by decide) (by decide) rfl ?_
    refine cx_size 0 1 33 rfl hB d_T_personOf_9 (v_T_41 hB) hC (by decide) rfl (Nat.le_of_ble_eq_true rfl) ?_
    refine jI_icmp_lt (tgt := 25) d_T_personOf_12 (by decide) (by omega) (by omega) (fun hc2 => ?_) (fun hc2 => ?_)
    · refine jx_aload_n d_T_personOf_25 rfl rfl ?_
      refine cx_ptr (c2 := 2) (x2 := 1) d_T_personOf_26 (f_T_10 hB) hC (by decide) (by decide) rfl ?_
      refine jx_iload_n d_T_personOf_29 rfl rfl ?_
      refine cx_at0 hB d_T_personOf_30 (v_T_166 hB) hC (by omega) (Nat.le_of_ble_eq_true rfl) ?_
      refine jx_cast d_T_personOf_33 (h_T_49 hB) (h_cast2 hB) (by decide) (jx_c2 hB) (by rw [hC.kd (.inl ⟨rfl, by omega⟩)]; rfl) ?_
      exact jx_aret d_T_personOf_36 rfl (Or.inl ⟨_, rfl⟩) ⟨rfl, rfl⟩
    · exfalso; omega
theorem w_T_personOf_no {E : jx_E} {l : Launch} {d : Nat} {w : jx_W} {D S : mS} {G : Nat → Nat → Nat} {lo hi : Nat} {q : Int} (hB : jx_B E) (hC : cR E D w G lo hi) (hR : rl S D) (hr : iR q) (hq : ¬ (0 ≤ q ∧ q < S 0 0)) (h1 : 1 ≤ jx_c w) (h6 : 6 ≤ jx_s w) : jx_G E l Y_T_personOf (d + 6) (jx_eq (.inl (0, jx_n w)) (jx_skip w 6)) 0 (jx_ent [.ref (G 2 0), .int (iI (q))] 2) [] w := by
  show jx_G E l Y_T_personOf (d + 6) _ 0 [some (.ref (G 2 0)), some (.int (iI (q)))] [] w
  have hN := hR.N
  refine jx_iload_n d_T_personOf_0 rfl rfl ?_
  refine jI_if_lt (tgt := 15) d_T_personOf_1 (by decide) (by omega) (fun hc1 => ?_) (fun hc1 => ?_)
  · refine jx_throwX d_T_personOf_15 d_T_personOf_18 d_T_personOf_19 d_T_personOf_21 d_T_personOf_24 xd_0 xd_1 xd_2 xd_5 (x_T_personOf_15 hB) (by intro y hy; exact absurd hy (List.not_mem_nil)) (by omega) (by omega) (by show 6 ≤ _; omega) (Nat.le_of_ble_eq_true rfl) ?_
    exact ⟨rfl, rfl⟩
  · refine jx_iload_n d_T_personOf_4 rfl rfl ?_
    refine jx_aload_n d_T_personOf_5 rfl rfl ?_
    refine cx_ptr (c2 := 2) (x2 := 1) d_T_personOf_6 (f_T_10 hB) hC (by decide) (by decide) rfl ?_
    refine cx_size 0 1 33 rfl hB d_T_personOf_9 (v_T_41 hB) hC (by decide) rfl (Nat.le_of_ble_eq_true rfl) ?_
    refine jI_icmp_lt (tgt := 25) d_T_personOf_12 (by decide) (by omega) (by omega) (fun hc2 => ?_) (fun hc2 => ?_)
    · refine jx_aload_n d_T_personOf_25 rfl rfl ?_
      refine cx_ptr (c2 := 2) (x2 := 1) d_T_personOf_26 (f_T_10 hB) hC (by decide) (by decide) rfl ?_
      refine jx_iload_n d_T_personOf_29 rfl rfl ?_
      refine cx_at0 hB d_T_personOf_30 (v_T_166 hB) hC (by omega) (Nat.le_of_ble_eq_true rfl) ?_
      refine jx_cast d_T_personOf_33 (h_T_49 hB) (h_cast2 hB) (by decide) (jx_c2 hB) (by rw [hC.kd (.inl ⟨rfl, by omega⟩)]; rfl) ?_
      exfalso; omega
    · refine jx_throwX d_T_personOf_15 d_T_personOf_18 d_T_personOf_19 d_T_personOf_21 d_T_personOf_24 xd_0 xd_1 xd_2 xd_5 (x_T_personOf_15 hB) (by intro y hy; exact absurd hy (List.not_mem_nil)) (by omega) (by omega) (by show 6 ≤ _; omega) (Nat.le_of_ble_eq_true rfl) ?_
      exact ⟨rfl, rfl⟩
theorem w_T_taskOf_ok {E : jx_E} {l : Launch} {d : Nat} {w : jx_W} {D S : mS} {G : Nat → Nat → Nat} {lo hi : Nat} {q : Int} (hB : jx_B E) (hC : cR E D w G lo hi) (hR : rl S D) (hr : iR q) (hq : 0 ≤ q ∧ q < S 1 0) : jx_G E l Y_T_taskOf (d + 3) (jx_eq (.inr (some (.ref (G 1 q.toNat)))) w) 0 (jx_ent [.ref (G 2 0), .int (iI (q))] 2) [] w := by
  show jx_G E l Y_T_taskOf (d + 3) _ 0 [some (.ref (G 2 0)), some (.int (iI (q)))] [] w
  have hN := hR.N
  refine jx_iload_n d_T_taskOf_0 rfl rfl ?_
  refine jI_if_lt (tgt := 15) d_T_taskOf_1 (by decide) (by omega) (fun hc1 => ?_) (fun hc1 => ?_)
  · exfalso; omega
  · refine jx_iload_n d_T_taskOf_4 rfl rfl ?_
    refine jx_aload_n d_T_taskOf_5 rfl rfl ?_
    refine cx_ptr (c2 := 2) (x2 := 2) d_T_taskOf_6 (f_T_16 hB) hC (by decide) (by decide) rfl ?_
    refine cx_size 1 2 34 rfl hB d_T_taskOf_9 (v_T_41 hB) hC (by decide) rfl (Nat.le_of_ble_eq_true rfl) ?_
    refine jI_icmp_lt (tgt := 25) d_T_taskOf_12 (by decide) (by omega) (by omega) (fun hc2 => ?_) (fun hc2 => ?_)
    · refine jx_aload_n d_T_taskOf_25 rfl rfl ?_
      refine cx_ptr (c2 := 2) (x2 := 2) d_T_taskOf_26 (f_T_16 hB) hC (by decide) (by decide) rfl ?_
      refine jx_iload_n d_T_taskOf_29 rfl rfl ?_
      refine cx_at1 hB d_T_taskOf_30 (v_T_166 hB) hC (by omega) (Nat.le_of_ble_eq_true rfl) ?_
      refine jx_cast d_T_taskOf_33 (h_T_98 hB) (h_cast3 hB) (by decide) (jx_c3 hB) (by rw [hC.kd (.inr (.inl ⟨rfl, by omega⟩))]; rfl) ?_
      exact jx_aret d_T_taskOf_36 rfl (Or.inl ⟨_, rfl⟩) ⟨rfl, rfl⟩
    · exfalso; omega
theorem w_T_taskOf_no {E : jx_E} {l : Launch} {d : Nat} {w : jx_W} {D S : mS} {G : Nat → Nat → Nat} {lo hi : Nat} {q : Int} (hB : jx_B E) (hC : cR E D w G lo hi) (hR : rl S D) (hr : iR q) (hq : ¬ (0 ≤ q ∧ q < S 1 0)) (h1 : 1 ≤ jx_c w) (h6 : 6 ≤ jx_s w) : jx_G E l Y_T_taskOf (d + 6) (jx_eq (.inl (0, jx_n w)) (jx_skip w 6)) 0 (jx_ent [.ref (G 2 0), .int (iI (q))] 2) [] w := by
  show jx_G E l Y_T_taskOf (d + 6) _ 0 [some (.ref (G 2 0)), some (.int (iI (q)))] [] w
  have hN := hR.N
  refine jx_iload_n d_T_taskOf_0 rfl rfl ?_
  refine jI_if_lt (tgt := 15) d_T_taskOf_1 (by decide) (by omega) (fun hc1 => ?_) (fun hc1 => ?_)
  · refine jx_throwX d_T_taskOf_15 d_T_taskOf_18 d_T_taskOf_19 d_T_taskOf_21 d_T_taskOf_24 xd_0 xd_1 xd_2 xd_5 (x_T_taskOf_15 hB) (by intro y hy; exact absurd hy (List.not_mem_nil)) (by omega) (by omega) (by show 6 ≤ _; omega) (Nat.le_of_ble_eq_true rfl) ?_
    exact ⟨rfl, rfl⟩
  · refine jx_iload_n d_T_taskOf_4 rfl rfl ?_
    refine jx_aload_n d_T_taskOf_5 rfl rfl ?_
    refine cx_ptr (c2 := 2) (x2 := 2) d_T_taskOf_6 (f_T_16 hB) hC (by decide) (by decide) rfl ?_
    refine cx_size 1 2 34 rfl hB d_T_taskOf_9 (v_T_41 hB) hC (by decide) rfl (Nat.le_of_ble_eq_true rfl) ?_
    refine jI_icmp_lt (tgt := 25) d_T_taskOf_12 (by decide) (by omega) (by omega) (fun hc2 => ?_) (fun hc2 => ?_)
    · refine jx_aload_n d_T_taskOf_25 rfl rfl ?_
      refine cx_ptr (c2 := 2) (x2 := 2) d_T_taskOf_26 (f_T_16 hB) hC (by decide) (by decide) rfl ?_
      refine jx_iload_n d_T_taskOf_29 rfl rfl ?_
      refine cx_at1 hB d_T_taskOf_30 (v_T_166 hB) hC (by omega) (Nat.le_of_ble_eq_true rfl) ?_
      refine jx_cast d_T_taskOf_33 (h_T_98 hB) (h_cast3 hB) (by decide) (jx_c3 hB) (by rw [hC.kd (.inr (.inl ⟨rfl, by omega⟩))]; rfl) ?_
      exfalso; omega
    · refine jx_throwX d_T_taskOf_15 d_T_taskOf_18 d_T_taskOf_19 d_T_taskOf_21 d_T_taskOf_24 xd_0 xd_1 xd_2 xd_5 (x_T_taskOf_15 hB) (by intro y hy; exact absurd hy (List.not_mem_nil)) (by omega) (by omega) (by show 6 ≤ _; omega) (Nat.le_of_ble_eq_true rfl) ?_
      exact ⟨rfl, rfl⟩
theorem w_T_needAtWork_ok {E : jx_E} {l : Launch} {d : Nat} {w : jx_W} {D S : mS} {G : Nat → Nat → Nat} {lo hi : Nat} {p : Int} (hB : jx_B E) (hC : cR E D w G lo hi) (hR : rl S D) (hp : 0 ≤ p ∧ p < S 0 0) (hq : D 7 p ≠ 0 ∧ D 8 p = -1 ∧ D 1 p ≤ D 31 0 ∧ D 31 0 < D 2 p ∧ ¬ (D 5 p ≤ D 31 0 ∧ D 31 0 < D 6 p)) : jx_G E l Y_T_needAtWork (d) (jx_eq (.inr none) w) 0 (jx_ent [.ref (G 2 0), .ref (G 0 (p).toNat)] 4) [] w := by
  show jx_G E l Y_T_needAtWork (d) _ 0 [some (.ref (G 2 0)), some (.ref (G 0 (p).toNat)), none, none] [] w
  have hN := hR.N
  refine jx_aload_n d_T_needAtWork_0 rfl rfl ?_
  refine cx_P 7 d_T_needAtWork_1 (f_T_133 hB) hC (by decide) (by omega) ?_
  have a1 : 0 ≤ D 7 p ∧ D 7 p ≤ 1 := (hR.Pr (p := p) (by omega)).2.2.2.2.2.2.1
  have a2 : D 7 p = S 10 p := (hR.P (p := p) (by omega)).1.2.2.2.2.2.1
  refine jI_if_eq (tgt := 15) d_T_needAtWork_4 (by decide) (by omega) (fun hc3 => ?_) (fun hc3 => ?_)
  · exfalso; omega
  · refine jx_aload_n d_T_needAtWork_7 rfl rfl ?_
    refine cx_P 8 d_T_needAtWork_8 (f_T_188 hB) hC (by decide) (by omega) ?_
    have a4 : -1 ≤ D 8 p ∧ D 8 p ≤ 15 := (hR.Pr (p := p) (by omega)).2.2.2.2.2.2.2.1
    have a5 : D 8 p = S 11 p := (hR.P (p := p) (by omega)).1.2.2.2.2.2.2
    refine jI_const d_T_needAtWork_11 ?_
    refine jI_icmp_eq (tgt := 25) d_T_needAtWork_12 (by decide) (by omega) (by omega) (fun hc6 => ?_) (fun hc6 => ?_)
    · refine jx_aload_n d_T_needAtWork_25 rfl rfl ?_
      refine cx_now d_T_needAtWork_26 (f_T_153 hB) hC ?_
      refine jx_aload_n d_T_needAtWork_29 rfl rfl ?_
      refine cx_P 1 d_T_needAtWork_30 (f_T_66 hB) hC (by decide) (by omega) ?_
      have a7 : 0 ≤ D 1 p ∧ D 1 p ≤ 100000 := (hR.Pr (p := p) (by omega)).1
      have a8 : D 1 p = S 5 p := (hR.P (p := p) (by omega)).1.2.1
      refine jI_icmp_lt (tgt := 47) d_T_needAtWork_33 (by decide) (by omega) (by omega) (fun hc9 => ?_) (fun hc9 => ?_)
      · refine jI_const d_T_needAtWork_47 ?_
        refine jx_goto (tgt := 52) d_T_needAtWork_48 (by decide) ?_
        refine jx_istore_n d_T_needAtWork_52 rfl (Nat.le_of_ble_eq_true rfl) rfl ?_
        try dsimp only [List.set]
        refine jx_aload_n d_T_needAtWork_53 rfl rfl ?_
        refine cx_now d_T_needAtWork_54 (f_T_153 hB) hC ?_
        refine jx_aload_n d_T_needAtWork_57 rfl rfl ?_
        refine cx_P 5 d_T_needAtWork_58 (f_T_72 hB) hC (by decide) (by omega) ?_
        have a10 : 0 ≤ D 5 p ∧ D 5 p ≤ 100000 := (hR.Pr (p := p) (by omega)).2.2.2.2.1
        refine jI_icmp_lt (tgt := 79) d_T_needAtWork_61 (by decide) (by omega) (by omega) (fun hc11 => ?_) (fun hc11 => ?_)
        · refine jI_const d_T_needAtWork_79 ?_
          refine jx_istore_n d_T_needAtWork_80 rfl (Nat.le_of_ble_eq_true rfl) rfl ?_
          try dsimp only [List.set]
          refine jx_iload_n d_T_needAtWork_81 rfl rfl ?_
          refine jI_if_ne (tgt := 89) d_T_needAtWork_82 (by decide) (by omega) (fun _ => ?_) (fun z => absurd z (by omega))
          exfalso; omega
        · refine jx_aload_n d_T_needAtWork_64 rfl rfl ?_
          refine cx_now d_T_needAtWork_65 (f_T_153 hB) hC ?_
          refine jx_aload_n d_T_needAtWork_68 rfl rfl ?_
          refine cx_P 6 d_T_needAtWork_69 (f_T_75 hB) hC (by decide) (by omega) ?_
          have a13 : 0 ≤ D 6 p ∧ D 6 p ≤ 100000 := (hR.Pr (p := p) (by omega)).2.2.2.2.2.1
          refine jI_icmp_ge (tgt := 79) d_T_needAtWork_72 (by decide) (by omega) (by omega) (fun hc14 => ?_) (fun hc14 => ?_)
          · refine jI_const d_T_needAtWork_79 ?_
            refine jx_istore_n d_T_needAtWork_80 rfl (Nat.le_of_ble_eq_true rfl) rfl ?_
            try dsimp only [List.set]
            refine jx_iload_n d_T_needAtWork_81 rfl rfl ?_
            refine jI_if_ne (tgt := 89) d_T_needAtWork_82 (by decide) (by omega) (fun _ => ?_) (fun z => absurd z (by omega))
            exfalso; omega
          · refine jI_const d_T_needAtWork_75 ?_
            refine jx_goto (tgt := 80) d_T_needAtWork_76 (by decide) ?_
            refine jx_istore_n d_T_needAtWork_80 rfl (Nat.le_of_ble_eq_true rfl) rfl ?_
            try dsimp only [List.set]
            refine jx_iload_n d_T_needAtWork_81 rfl rfl ?_
            refine jI_if_ne (tgt := 89) d_T_needAtWork_82 (by decide) (by omega) (fun _ => ?_) (fun z => absurd z (by omega))
            exfalso; omega
      · refine jx_aload_n d_T_needAtWork_36 rfl rfl ?_
        refine cx_now d_T_needAtWork_37 (f_T_153 hB) hC ?_
        refine jx_aload_n d_T_needAtWork_40 rfl rfl ?_
        refine cx_P 2 d_T_needAtWork_41 (f_T_69 hB) hC (by decide) (by omega) ?_
        have a17 : 0 ≤ D 2 p ∧ D 2 p ≤ 100000 := (hR.Pr (p := p) (by omega)).2.1
        have a18 : D 2 p = S 6 p := (hR.P (p := p) (by omega)).1.2.2.1
        refine jI_icmp_lt (tgt := 51) d_T_needAtWork_44 (by decide) (by omega) (by omega) (fun hc19 => ?_) (fun hc19 => ?_)
        · refine jI_const d_T_needAtWork_51 ?_
          refine jx_istore_n d_T_needAtWork_52 rfl (Nat.le_of_ble_eq_true rfl) rfl ?_
          try dsimp only [List.set]
          refine jx_aload_n d_T_needAtWork_53 rfl rfl ?_
          refine cx_now d_T_needAtWork_54 (f_T_153 hB) hC ?_
          refine jx_aload_n d_T_needAtWork_57 rfl rfl ?_
          refine cx_P 5 d_T_needAtWork_58 (f_T_72 hB) hC (by decide) (by omega) ?_
          have a20 : 0 ≤ D 5 p ∧ D 5 p ≤ 100000 := (hR.Pr (p := p) (by omega)).2.2.2.2.1
          refine jI_icmp_lt (tgt := 79) d_T_needAtWork_61 (by decide) (by omega) (by omega) (fun hc21 => ?_) (fun hc21 => ?_)
          · refine jI_const d_T_needAtWork_79 ?_
            refine jx_istore_n d_T_needAtWork_80 rfl (Nat.le_of_ble_eq_true rfl) rfl ?_
            try dsimp only [List.set]
            refine jx_iload_n d_T_needAtWork_81 rfl rfl ?_
            refine jI_if_ne (tgt := 89) d_T_needAtWork_82 (by decide) (by omega) (fun z => absurd z (by omega)) (fun _ => ?_)
            refine jx_iload_n d_T_needAtWork_85 rfl rfl ?_
            refine jI_if_eq (tgt := 99) d_T_needAtWork_86 (by decide) (by omega) (fun _ => ?_) (fun z => absurd z (by omega))
            exact jx_vret d_T_needAtWork_99 rfl ⟨rfl, rfl⟩
          · refine jx_aload_n d_T_needAtWork_64 rfl rfl ?_
            refine cx_now d_T_needAtWork_65 (f_T_153 hB) hC ?_
            refine jx_aload_n d_T_needAtWork_68 rfl rfl ?_
            refine cx_P 6 d_T_needAtWork_69 (f_T_75 hB) hC (by decide) (by omega) ?_
            have a24 : 0 ≤ D 6 p ∧ D 6 p ≤ 100000 := (hR.Pr (p := p) (by omega)).2.2.2.2.2.1
            refine jI_icmp_ge (tgt := 79) d_T_needAtWork_72 (by decide) (by omega) (by omega) (fun hc25 => ?_) (fun hc25 => ?_)
            · refine jI_const d_T_needAtWork_79 ?_
              refine jx_istore_n d_T_needAtWork_80 rfl (Nat.le_of_ble_eq_true rfl) rfl ?_
              try dsimp only [List.set]
              refine jx_iload_n d_T_needAtWork_81 rfl rfl ?_
              refine jI_if_ne (tgt := 89) d_T_needAtWork_82 (by decide) (by omega) (fun z => absurd z (by omega)) (fun _ => ?_)
              refine jx_iload_n d_T_needAtWork_85 rfl rfl ?_
              refine jI_if_eq (tgt := 99) d_T_needAtWork_86 (by decide) (by omega) (fun _ => ?_) (fun z => absurd z (by omega))
              exact jx_vret d_T_needAtWork_99 rfl ⟨rfl, rfl⟩
            · refine jI_const d_T_needAtWork_75 ?_
              refine jx_goto (tgt := 80) d_T_needAtWork_76 (by decide) ?_
              refine jx_istore_n d_T_needAtWork_80 rfl (Nat.le_of_ble_eq_true rfl) rfl ?_
              try dsimp only [List.set]
              refine jx_iload_n d_T_needAtWork_81 rfl rfl ?_
              refine jI_if_ne (tgt := 89) d_T_needAtWork_82 (by decide) (by omega) (fun z => absurd z (by omega)) (fun _ => ?_)
              refine jx_iload_n d_T_needAtWork_85 rfl rfl ?_
              refine jI_if_eq (tgt := 99) d_T_needAtWork_86 (by decide) (by omega) (fun z => absurd z (by omega)) (fun _ => ?_)
              exfalso; omega
        · refine jI_const d_T_needAtWork_47 ?_
          refine jx_goto (tgt := 52) d_T_needAtWork_48 (by decide) ?_
          refine jx_istore_n d_T_needAtWork_52 rfl (Nat.le_of_ble_eq_true rfl) rfl ?_
          try dsimp only [List.set]
          refine jx_aload_n d_T_needAtWork_53 rfl rfl ?_
          refine cx_now d_T_needAtWork_54 (f_T_153 hB) hC ?_
          refine jx_aload_n d_T_needAtWork_57 rfl rfl ?_
          refine cx_P 5 d_T_needAtWork_58 (f_T_72 hB) hC (by decide) (by omega) ?_
          have a30 : 0 ≤ D 5 p ∧ D 5 p ≤ 100000 := (hR.Pr (p := p) (by omega)).2.2.2.2.1
          refine jI_icmp_lt (tgt := 79) d_T_needAtWork_61 (by decide) (by omega) (by omega) (fun hc31 => ?_) (fun hc31 => ?_)
          · refine jI_const d_T_needAtWork_79 ?_
            refine jx_istore_n d_T_needAtWork_80 rfl (Nat.le_of_ble_eq_true rfl) rfl ?_
            try dsimp only [List.set]
            refine jx_iload_n d_T_needAtWork_81 rfl rfl ?_
            refine jI_if_ne (tgt := 89) d_T_needAtWork_82 (by decide) (by omega) (fun _ => ?_) (fun z => absurd z (by omega))
            exfalso; omega
          · refine jx_aload_n d_T_needAtWork_64 rfl rfl ?_
            refine cx_now d_T_needAtWork_65 (f_T_153 hB) hC ?_
            refine jx_aload_n d_T_needAtWork_68 rfl rfl ?_
            refine cx_P 6 d_T_needAtWork_69 (f_T_75 hB) hC (by decide) (by omega) ?_
            have a33 : 0 ≤ D 6 p ∧ D 6 p ≤ 100000 := (hR.Pr (p := p) (by omega)).2.2.2.2.2.1
            refine jI_icmp_ge (tgt := 79) d_T_needAtWork_72 (by decide) (by omega) (by omega) (fun hc34 => ?_) (fun hc34 => ?_)
            · refine jI_const d_T_needAtWork_79 ?_
              refine jx_istore_n d_T_needAtWork_80 rfl (Nat.le_of_ble_eq_true rfl) rfl ?_
              try dsimp only [List.set]
              refine jx_iload_n d_T_needAtWork_81 rfl rfl ?_
              refine jI_if_ne (tgt := 89) d_T_needAtWork_82 (by decide) (by omega) (fun _ => ?_) (fun z => absurd z (by omega))
              exfalso; omega
            · refine jI_const d_T_needAtWork_75 ?_
              refine jx_goto (tgt := 80) d_T_needAtWork_76 (by decide) ?_
              refine jx_istore_n d_T_needAtWork_80 rfl (Nat.le_of_ble_eq_true rfl) rfl ?_
              try dsimp only [List.set]
              refine jx_iload_n d_T_needAtWork_81 rfl rfl ?_
              refine jI_if_ne (tgt := 89) d_T_needAtWork_82 (by decide) (by omega) (fun _ => ?_) (fun z => absurd z (by omega))
              exfalso; omega
    · exfalso; omega
theorem w_T_needAtWork_no {E : jx_E} {l : Launch} {d : Nat} {w : jx_W} {D S : mS} {G : Nat → Nat → Nat} {lo hi : Nat} {p : Int} (hB : jx_B E) (hC : cR E D w G lo hi) (hR : rl S D) (hp : 0 ≤ p ∧ p < S 0 0) (hq : ¬ (D 7 p ≠ 0 ∧ D 8 p = -1 ∧ D 1 p ≤ D 31 0 ∧ D 31 0 < D 2 p ∧ ¬ (D 5 p ≤ D 31 0 ∧ D 31 0 < D 6 p))) (h1 : 1 ≤ jx_c w) (h6 : 6 ≤ jx_s w) : jx_G E l Y_T_needAtWork (d + 6) (jx_eq (.inl (2, jx_n w)) (jx_skip w 6)) 0 (jx_ent [.ref (G 2 0), .ref (G 0 (p).toNat)] 4) [] w := by
  show jx_G E l Y_T_needAtWork (d + 6) _ 0 [some (.ref (G 2 0)), some (.ref (G 0 (p).toNat)), none, none] [] w
  have hN := hR.N
  refine jx_aload_n d_T_needAtWork_0 rfl rfl ?_
  refine cx_P 7 d_T_needAtWork_1 (f_T_133 hB) hC (by decide) (by omega) ?_
  have a1 : 0 ≤ D 7 p ∧ D 7 p ≤ 1 := (hR.Pr (p := p) (by omega)).2.2.2.2.2.2.1
  have a2 : D 7 p = S 10 p := (hR.P (p := p) (by omega)).1.2.2.2.2.2.1
  refine jI_if_eq (tgt := 15) d_T_needAtWork_4 (by decide) (by omega) (fun hc3 => ?_) (fun hc3 => ?_)
  · refine jx_throw d_T_needAtWork_15 d_T_needAtWork_18 d_T_needAtWork_19 d_T_needAtWork_21 d_T_needAtWork_24 (x_T_needAtWork_15 hB) (by intro y hy; exact absurd hy (List.not_mem_nil)) (by omega) (by omega) (by show 6 ≤ _; omega) (Nat.le_of_ble_eq_true rfl) ?_
    exact ⟨rfl, rfl⟩
  · refine jx_aload_n d_T_needAtWork_7 rfl rfl ?_
    refine cx_P 8 d_T_needAtWork_8 (f_T_188 hB) hC (by decide) (by omega) ?_
    have a4 : -1 ≤ D 8 p ∧ D 8 p ≤ 15 := (hR.Pr (p := p) (by omega)).2.2.2.2.2.2.2.1
    have a5 : D 8 p = S 11 p := (hR.P (p := p) (by omega)).1.2.2.2.2.2.2
    refine jI_const d_T_needAtWork_11 ?_
    refine jI_icmp_eq (tgt := 25) d_T_needAtWork_12 (by decide) (by omega) (by omega) (fun hc6 => ?_) (fun hc6 => ?_)
    · refine jx_aload_n d_T_needAtWork_25 rfl rfl ?_
      refine cx_now d_T_needAtWork_26 (f_T_153 hB) hC ?_
      refine jx_aload_n d_T_needAtWork_29 rfl rfl ?_
      refine cx_P 1 d_T_needAtWork_30 (f_T_66 hB) hC (by decide) (by omega) ?_
      have a7 : 0 ≤ D 1 p ∧ D 1 p ≤ 100000 := (hR.Pr (p := p) (by omega)).1
      have a8 : D 1 p = S 5 p := (hR.P (p := p) (by omega)).1.2.1
      refine jI_icmp_lt (tgt := 47) d_T_needAtWork_33 (by decide) (by omega) (by omega) (fun hc9 => ?_) (fun hc9 => ?_)
      · refine jI_const d_T_needAtWork_47 ?_
        refine jx_goto (tgt := 52) d_T_needAtWork_48 (by decide) ?_
        refine jx_istore_n d_T_needAtWork_52 rfl (Nat.le_of_ble_eq_true rfl) rfl ?_
        try dsimp only [List.set]
        refine jx_aload_n d_T_needAtWork_53 rfl rfl ?_
        refine cx_now d_T_needAtWork_54 (f_T_153 hB) hC ?_
        refine jx_aload_n d_T_needAtWork_57 rfl rfl ?_
        refine cx_P 5 d_T_needAtWork_58 (f_T_72 hB) hC (by decide) (by omega) ?_
        have a10 : 0 ≤ D 5 p ∧ D 5 p ≤ 100000 := (hR.Pr (p := p) (by omega)).2.2.2.2.1
        refine jI_icmp_lt (tgt := 79) d_T_needAtWork_61 (by decide) (by omega) (by omega) (fun hc11 => ?_) (fun hc11 => ?_)
        · refine jI_const d_T_needAtWork_79 ?_
          refine jx_istore_n d_T_needAtWork_80 rfl (Nat.le_of_ble_eq_true rfl) rfl ?_
          try dsimp only [List.set]
          refine jx_iload_n d_T_needAtWork_81 rfl rfl ?_
          refine jI_if_ne (tgt := 89) d_T_needAtWork_82 (by decide) (by omega) (fun _ => ?_) (fun z => absurd z (by omega))
          refine jx_throw d_T_needAtWork_89 d_T_needAtWork_92 d_T_needAtWork_93 d_T_needAtWork_95 d_T_needAtWork_98 (x_T_needAtWork_89 hB) (by intro y hy; exact absurd hy (List.not_mem_nil)) (by omega) (by omega) (by show 6 ≤ _; omega) (Nat.le_of_ble_eq_true rfl) ?_
          exact ⟨rfl, rfl⟩
        · refine jx_aload_n d_T_needAtWork_64 rfl rfl ?_
          refine cx_now d_T_needAtWork_65 (f_T_153 hB) hC ?_
          refine jx_aload_n d_T_needAtWork_68 rfl rfl ?_
          refine cx_P 6 d_T_needAtWork_69 (f_T_75 hB) hC (by decide) (by omega) ?_
          have a13 : 0 ≤ D 6 p ∧ D 6 p ≤ 100000 := (hR.Pr (p := p) (by omega)).2.2.2.2.2.1
          refine jI_icmp_ge (tgt := 79) d_T_needAtWork_72 (by decide) (by omega) (by omega) (fun hc14 => ?_) (fun hc14 => ?_)
          · refine jI_const d_T_needAtWork_79 ?_
            refine jx_istore_n d_T_needAtWork_80 rfl (Nat.le_of_ble_eq_true rfl) rfl ?_
            try dsimp only [List.set]
            refine jx_iload_n d_T_needAtWork_81 rfl rfl ?_
            refine jI_if_ne (tgt := 89) d_T_needAtWork_82 (by decide) (by omega) (fun _ => ?_) (fun z => absurd z (by omega))
            refine jx_throw d_T_needAtWork_89 d_T_needAtWork_92 d_T_needAtWork_93 d_T_needAtWork_95 d_T_needAtWork_98 (x_T_needAtWork_89 hB) (by intro y hy; exact absurd hy (List.not_mem_nil)) (by omega) (by omega) (by show 6 ≤ _; omega) (Nat.le_of_ble_eq_true rfl) ?_
            exact ⟨rfl, rfl⟩
          · refine jI_const d_T_needAtWork_75 ?_
            refine jx_goto (tgt := 80) d_T_needAtWork_76 (by decide) ?_
            refine jx_istore_n d_T_needAtWork_80 rfl (Nat.le_of_ble_eq_true rfl) rfl ?_
            try dsimp only [List.set]
            refine jx_iload_n d_T_needAtWork_81 rfl rfl ?_
            refine jI_if_ne (tgt := 89) d_T_needAtWork_82 (by decide) (by omega) (fun _ => ?_) (fun z => absurd z (by omega))
            refine jx_throw d_T_needAtWork_89 d_T_needAtWork_92 d_T_needAtWork_93 d_T_needAtWork_95 d_T_needAtWork_98 (x_T_needAtWork_89 hB) (by intro y hy; exact absurd hy (List.not_mem_nil)) (by omega) (by omega) (by show 6 ≤ _; omega) (Nat.le_of_ble_eq_true rfl) ?_
            exact ⟨rfl, rfl⟩
      · refine jx_aload_n d_T_needAtWork_36 rfl rfl ?_
        refine cx_now d_T_needAtWork_37 (f_T_153 hB) hC ?_
        refine jx_aload_n d_T_needAtWork_40 rfl rfl ?_
        refine cx_P 2 d_T_needAtWork_41 (f_T_69 hB) hC (by decide) (by omega) ?_
        have a17 : 0 ≤ D 2 p ∧ D 2 p ≤ 100000 := (hR.Pr (p := p) (by omega)).2.1
        have a18 : D 2 p = S 6 p := (hR.P (p := p) (by omega)).1.2.2.1
        refine jI_icmp_lt (tgt := 51) d_T_needAtWork_44 (by decide) (by omega) (by omega) (fun hc19 => ?_) (fun hc19 => ?_)
        · refine jI_const d_T_needAtWork_51 ?_
          refine jx_istore_n d_T_needAtWork_52 rfl (Nat.le_of_ble_eq_true rfl) rfl ?_
          try dsimp only [List.set]
          refine jx_aload_n d_T_needAtWork_53 rfl rfl ?_
          refine cx_now d_T_needAtWork_54 (f_T_153 hB) hC ?_
          refine jx_aload_n d_T_needAtWork_57 rfl rfl ?_
          refine cx_P 5 d_T_needAtWork_58 (f_T_72 hB) hC (by decide) (by omega) ?_
          have a20 : 0 ≤ D 5 p ∧ D 5 p ≤ 100000 := (hR.Pr (p := p) (by omega)).2.2.2.2.1
          refine jI_icmp_lt (tgt := 79) d_T_needAtWork_61 (by decide) (by omega) (by omega) (fun hc21 => ?_) (fun hc21 => ?_)
          · refine jI_const d_T_needAtWork_79 ?_
            refine jx_istore_n d_T_needAtWork_80 rfl (Nat.le_of_ble_eq_true rfl) rfl ?_
            try dsimp only [List.set]
            refine jx_iload_n d_T_needAtWork_81 rfl rfl ?_
            refine jI_if_ne (tgt := 89) d_T_needAtWork_82 (by decide) (by omega) (fun z => absurd z (by omega)) (fun _ => ?_)
            refine jx_iload_n d_T_needAtWork_85 rfl rfl ?_
            refine jI_if_eq (tgt := 99) d_T_needAtWork_86 (by decide) (by omega) (fun _ => ?_) (fun z => absurd z (by omega))
            exfalso; omega
          · refine jx_aload_n d_T_needAtWork_64 rfl rfl ?_
            refine cx_now d_T_needAtWork_65 (f_T_153 hB) hC ?_
            refine jx_aload_n d_T_needAtWork_68 rfl rfl ?_
            refine cx_P 6 d_T_needAtWork_69 (f_T_75 hB) hC (by decide) (by omega) ?_
            have a24 : 0 ≤ D 6 p ∧ D 6 p ≤ 100000 := (hR.Pr (p := p) (by omega)).2.2.2.2.2.1
            refine jI_icmp_ge (tgt := 79) d_T_needAtWork_72 (by decide) (by omega) (by omega) (fun hc25 => ?_) (fun hc25 => ?_)
            · refine jI_const d_T_needAtWork_79 ?_
              refine jx_istore_n d_T_needAtWork_80 rfl (Nat.le_of_ble_eq_true rfl) rfl ?_
              try dsimp only [List.set]
              refine jx_iload_n d_T_needAtWork_81 rfl rfl ?_
              refine jI_if_ne (tgt := 89) d_T_needAtWork_82 (by decide) (by omega) (fun z => absurd z (by omega)) (fun _ => ?_)
              refine jx_iload_n d_T_needAtWork_85 rfl rfl ?_
              refine jI_if_eq (tgt := 99) d_T_needAtWork_86 (by decide) (by omega) (fun _ => ?_) (fun z => absurd z (by omega))
              exfalso; omega
            · refine jI_const d_T_needAtWork_75 ?_
              refine jx_goto (tgt := 80) d_T_needAtWork_76 (by decide) ?_
              refine jx_istore_n d_T_needAtWork_80 rfl (Nat.le_of_ble_eq_true rfl) rfl ?_
              try dsimp only [List.set]
              refine jx_iload_n d_T_needAtWork_81 rfl rfl ?_
              refine jI_if_ne (tgt := 89) d_T_needAtWork_82 (by decide) (by omega) (fun z => absurd z (by omega)) (fun _ => ?_)
              refine jx_iload_n d_T_needAtWork_85 rfl rfl ?_
              refine jI_if_eq (tgt := 99) d_T_needAtWork_86 (by decide) (by omega) (fun z => absurd z (by omega)) (fun _ => ?_)
              refine jx_throw d_T_needAtWork_89 d_T_needAtWork_92 d_T_needAtWork_93 d_T_needAtWork_95 d_T_needAtWork_98 (x_T_needAtWork_89 hB) (by intro y hy; exact absurd hy (List.not_mem_nil)) (by omega) (by omega) (by show 6 ≤ _; omega) (Nat.le_of_ble_eq_true rfl) ?_
              exact ⟨rfl, rfl⟩
        · refine jI_const d_T_needAtWork_47 ?_
          refine jx_goto (tgt := 52) d_T_needAtWork_48 (by decide) ?_
          refine jx_istore_n d_T_needAtWork_52 rfl (Nat.le_of_ble_eq_true rfl) rfl ?_
          try dsimp only [List.set]
          refine jx_aload_n d_T_needAtWork_53 rfl rfl ?_
          refine cx_now d_T_needAtWork_54 (f_T_153 hB) hC ?_
          refine jx_aload_n d_T_needAtWork_57 rfl rfl ?_
          refine cx_P 5 d_T_needAtWork_58 (f_T_72 hB) hC (by decide) (by omega) ?_
          have a30 : 0 ≤ D 5 p ∧ D 5 p ≤ 100000 := (hR.Pr (p := p) (by omega)).2.2.2.2.1
          refine jI_icmp_lt (tgt := 79) d_T_needAtWork_61 (by decide) (by omega) (by omega) (fun hc31 => ?_) (fun hc31 => ?_)
          · refine jI_const d_T_needAtWork_79 ?_
            refine jx_istore_n d_T_needAtWork_80 rfl (Nat.le_of_ble_eq_true rfl) rfl ?_
            try dsimp only [List.set]
            refine jx_iload_n d_T_needAtWork_81 rfl rfl ?_
            refine jI_if_ne (tgt := 89) d_T_needAtWork_82 (by decide) (by omega) (fun _ => ?_) (fun z => absurd z (by omega))
            refine jx_throw d_T_needAtWork_89 d_T_needAtWork_92 d_T_needAtWork_93 d_T_needAtWork_95 d_T_needAtWork_98 (x_T_needAtWork_89 hB) (by intro y hy; exact absurd hy (List.not_mem_nil)) (by omega) (by omega) (by show 6 ≤ _; omega) (Nat.le_of_ble_eq_true rfl) ?_
            exact ⟨rfl, rfl⟩
          · refine jx_aload_n d_T_needAtWork_64 rfl rfl ?_
            refine cx_now d_T_needAtWork_65 (f_T_153 hB) hC ?_
            refine jx_aload_n d_T_needAtWork_68 rfl rfl ?_
            refine cx_P 6 d_T_needAtWork_69 (f_T_75 hB) hC (by decide) (by omega) ?_
            have a33 : 0 ≤ D 6 p ∧ D 6 p ≤ 100000 := (hR.Pr (p := p) (by omega)).2.2.2.2.2.1
            refine jI_icmp_ge (tgt := 79) d_T_needAtWork_72 (by decide) (by omega) (by omega) (fun hc34 => ?_) (fun hc34 => ?_)
            · refine jI_const d_T_needAtWork_79 ?_
              refine jx_istore_n d_T_needAtWork_80 rfl (Nat.le_of_ble_eq_true rfl) rfl ?_
              try dsimp only [List.set]
              refine jx_iload_n d_T_needAtWork_81 rfl rfl ?_
              refine jI_if_ne (tgt := 89) d_T_needAtWork_82 (by decide) (by omega) (fun _ => ?_) (fun z => absurd z (by omega))
              refine jx_throw d_T_needAtWork_89 d_T_needAtWork_92 d_T_needAtWork_93 d_T_needAtWork_95 d_T_needAtWork_98 (x_T_needAtWork_89 hB) (by intro y hy; exact absurd hy (List.not_mem_nil)) (by omega) (by omega) (by show 6 ≤ _; omega) (Nat.le_of_ble_eq_true rfl) ?_
              exact ⟨rfl, rfl⟩
            · refine jI_const d_T_needAtWork_75 ?_
              refine jx_goto (tgt := 80) d_T_needAtWork_76 (by decide) ?_
              refine jx_istore_n d_T_needAtWork_80 rfl (Nat.le_of_ble_eq_true rfl) rfl ?_
              try dsimp only [List.set]
              refine jx_iload_n d_T_needAtWork_81 rfl rfl ?_
              refine jI_if_ne (tgt := 89) d_T_needAtWork_82 (by decide) (by omega) (fun _ => ?_) (fun z => absurd z (by omega))
              refine jx_throw d_T_needAtWork_89 d_T_needAtWork_92 d_T_needAtWork_93 d_T_needAtWork_95 d_T_needAtWork_98 (x_T_needAtWork_89 hB) (by intro y hy; exact absurd hy (List.not_mem_nil)) (by omega) (by omega) (by show 6 ≤ _; omega) (Nat.le_of_ble_eq_true rfl) ?_
              exact ⟨rfl, rfl⟩
    · refine jx_throw d_T_needAtWork_15 d_T_needAtWork_18 d_T_needAtWork_19 d_T_needAtWork_21 d_T_needAtWork_24 (x_T_needAtWork_15 hB) (by intro y hy; exact absurd hy (List.not_mem_nil)) (by omega) (by omega) (by show 6 ≤ _; omega) (Nat.le_of_ble_eq_true rfl) ?_
      exact ⟨rfl, rfl⟩
