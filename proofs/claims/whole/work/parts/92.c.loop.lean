/-! 92.c.loop: the law's loop -/
abbrev Yl (nm : String) (tb : List (Nat × Nat × Nat × Nat)) : jx_Y := ("TaskShareLaw", nm, code, 7, some .boolean, tb)
def lwEnd : jx_R → jx_W → Prop := fun r _ => r = .inr (some (.int 1))
section LOOP
variable {E : jx_E} {l : Launch} {d : Nat} {nm : String} {tb : List (Nat × Nat × Nat × Nat)} {ts m out b L lo hi mi z pa : Nat} {A : Nat → Nat} {ys : Nat → Int}
def lwT (E : jx_E) (l : Launch) (d : Nat) (nm : String) (tb : List (Nat × Nat × Nat × Nat)) (ts m out b L lo hi : Nat) (A : Nat → Nat) (ys : Nat → Int) (i : Int) : Prop := ∀ (T : mS) (w : jx_W) (X5 X6 : Option Value), lwS E ts m out b L lo hi A ys T T none (10 * ((L : Int) - i)) (1000 * ((L : Int) - i)) w → jx_G E l (Yl nm tb) (d + 13) lwEnd 1214 [some (.ref b), some (.ref ts), some (.ref m), some (.ref out), some (.int (iI i)), X5, X6] [] w
theorem q_person (hB : jx_B E) (hB2 : jx_B2 E mi) (hB3 : jx_B3 E z pa) (hX : lwX E m out b lo hi A) (hscr : ∃ cell, E.1.heap[b]? = some cell ∧ jx_pic E 100 L (fun j => .int (iI (ys j))) cell) (hys : ∀ j, iR (ys j)) (hL : L ≤ 100000) {i : Int} (hij : 0 ≤ i ∧ i ≤ (L : Int) - 5) (tl : lwT E l d nm tb ts m out b L lo hi A ys i) {S : mS} {w : jx_W} {X5 X6 : Option Value} (h : lwS E ts m out b L lo hi A ys S S none (10 * ((L : Int) - i) + 50) (1000 * ((L : Int) - i) + 5000) w) : jx_G E l (Yl nm tb) (d + 13) lwEnd 128 [some (.ref b), some (.ref ts), some (.ref m), some (.ref out), some (.int (iI i)), X5, X6] [] w := by
  obtain ⟨hM, ⟨D, G, hC, hR, hG⟩, hout, ⟨hk, hl, hv⟩, -, hcc, hss⟩ := h
  have hN := hR.2.1
  have hW : 50 ≤ jx_c w ∧ 5000 ≤ jx_s w := by constructor <;> omega
  have hoo : E.1.heap.size ≤ out := by have := hX.2.2.1; have := hX.2.2.2.1; omega
  refine jx_aload_n d_L_law_128 rfl rfl ?_
  refine jx_aload_n d_L_law_129 rfl rfl ?_
  refine jx_iload d_L_law_130 rfl ?_
  refine jI_const d_L_law_132 ?_
  refine jI_add d_L_law_133 ?_
  refine jI_iald (m := L) d_L_law_134 hk hl (by omega) ⟨by omega, by omega⟩ (hv _) ?_
  refine jx_aload_n d_L_law_135 rfl rfl ?_
  refine jx_iload d_L_law_136 rfl ?_
  refine jI_const d_L_law_138 ?_
  refine jI_add d_L_law_139 ?_
  refine jI_iald (m := L) d_L_law_140 hk hl (by omega) ⟨by omega, by omega⟩ (hv _) ?_
  refine jx_aload_n d_L_law_141 rfl rfl ?_
  refine jx_iload d_L_law_142 rfl ?_
  refine jI_const d_L_law_144 ?_
  refine jI_add d_L_law_145 ?_
  refine jI_iald (m := L) d_L_law_146 hk hl (by omega) ⟨by omega, by omega⟩ (hv _) ?_
  refine jx_aload_n d_L_law_147 rfl rfl ?_
  refine jx_iload d_L_law_148 rfl ?_
  refine jI_const d_L_law_150 ?_
  refine jI_add d_L_law_151 ?_
  refine jI_iald (m := L) d_L_law_152 hk hl (by omega) ⟨by omega, by omega⟩ (hv _) ?_
  refine jx_aload_n d_L_law_153 rfl rfl ?_
  refine jx_callS (As := [.ref ts, .int (iI (ys (i + 1).toNat)), .int (iI (ys (i + 2).toNat)), .int (iI (ys (i + 3).toNat)), .int (iI (ys (i + 4).toNat)), .ref out]) (rest := []) d_L_law_154 (m_L_person hB) (s_L_75 hB) rfl (Nat.le_of_ble_eq_true rfl) (Nat.le_of_ble_eq_true rfl) (w_L_person hB hB2 hB3 hC hR hG (hys _) (hys _) (hys _) (hys _) hW hX.2.2.1 hoo hout.1 hout.2) (fun v w1 hq => ?_) (fun x a w1 hq => by obtain ⟨hq, -⟩ := hq; cases hq)
  obtain ⟨e1, hc1, hF1, hv1⟩ := hq
  cases e1
  refine lw_rec (cc2 := 10 * ((L : Int) - i)) (ss2 := 1000 * ((L : Int) - i)) hX hscr hM hout ⟨hcc, hss⟩ hc1 hF1 hv1 (by omega) (by omega) (fun w2 h2 => ?_)
  have h2a := h2
  obtain ⟨hM2, -, hout2, ⟨hk, hl, hv⟩, -, -, -⟩ := h2
  refine jx_istore d_L_law_157 (Nat.le_of_ble_eq_true rfl) rfl ?_
  refine jx_aload_n d_L_law_159 rfl rfl ?_
  refine jx_aload_n d_L_law_160 rfl rfl ?_
  refine jx_iload d_L_law_161 rfl ?_
  refine jI_const d_L_law_163 ?_
  refine jI_add d_L_law_164 ?_
  refine jI_iald (m := L) d_L_law_165 hk hl (by omega) ⟨by omega, by omega⟩ (hv _) ?_
  refine jx_aload_n d_L_law_166 rfl rfl ?_
  refine jx_iload d_L_law_167 rfl ?_
  refine jI_const d_L_law_169 ?_
  refine jI_add d_L_law_170 ?_
  refine jI_iald (m := L) d_L_law_171 hk hl (by omega) ⟨by omega, by omega⟩ (hv _) ?_
  refine jx_aload_n d_L_law_172 rfl rfl ?_
  refine jx_iload d_L_law_173 rfl ?_
  refine jI_const d_L_law_175 ?_
  refine jI_add d_L_law_176 ?_
  refine jI_iald (m := L) d_L_law_177 hk hl (by omega) ⟨by omega, by omega⟩ (hv _) ?_
  refine jx_aload_n d_L_law_178 rfl rfl ?_
  refine jx_iload d_L_law_179 rfl ?_
  refine jI_const d_L_law_181 ?_
  refine jI_add d_L_law_182 ?_
  refine jI_iald (m := L) d_L_law_183 hk hl (by omega) ⟨by omega, by omega⟩ (hv _) ?_
  refine jx_callV (As := [.int (iI (ys (i + 1).toNat)), .int (iI (ys (i + 2).toNat)), .int (iI (ys (i + 3).toNat)), .int (iI (ys (i + 4).toNat))]) (rest := []) d_L_law_184 (m_M_person hB) (v_L_80 hB) (by decide) (jx_c5 hB) hM2.1 rfl (Nat.le_of_ble_eq_true rfl) (Nat.le_of_ble_eq_true rfl) (w_M_person hB hM2 hR.I hN.1 (hys _) (hys _) (hys _) (hys _)) (fun v w3 hq => ?_) (fun x a w3 hq => by obtain ⟨hq, -⟩ := hq; cases hq)
  obtain ⟨e3, hM3, hF3⟩ := hq
  cases e3
  have h3 := h2a.mf hX hM3 hF3
  have h4 := h3.wk (fun D2 hD => hD)
  obtain ⟨-, -, hout3, -, hv3, -, -⟩ := h3
  refine jx_istore d_L_law_187 (Nat.le_of_ble_eq_true rfl) rfl ?_
  refine jx_aload_n d_L_law_189 rfl rfl ?_
  refine jx_callV_r (As := []) (rest := []) d_L_law_190 (m_M_thrown hB) (v_L_81 hB) (by decide) (jx_c5 hB) hM3.1 rfl (Nat.le_of_ble_eq_true rfl) (Nat.le_of_ble_eq_true rfl) (w_M_thrown hB hM3) ?_
  refine jx_iload d_L_law_193 rfl ?_
  refine jx_icmp_eq (tgt := 200) d_L_law_195 (by decide) (fun _ => ?_) (fun hc => absurd rfl hc)
  refine jx_iload d_L_law_200 rfl ?_
  refine jx_if_ne (tgt := 217) d_L_law_202 (by decide) (fun hc => ?_) (fun hc => ?_)
  · refine jx_goto (tgt := 1214) d_L_law_217 (by decide) ?_
    exact tl _ _ _ _ h4
  · refine jx_aload_n d_L_law_205 rfl rfl ?_
    refine jI_const d_L_law_206 ?_
    refine jI_lald (m := 1) (i := 0) d_L_law_207 hout3.1 hout3.2 (by decide) (by decide) (hv3 _ rfl hc) ?_
    refine jx_iload d_L_law_208 rfl ?_
    refine jx_i2l d_L_law_210 rfl ?_
    refine jx_lcmp d_L_law_211 ?_
    refine jx_if_eq (tgt := 217) d_L_law_212 (by decide) (fun _ => ?_) (fun hc2 => absurd (lg_self _) hc2)
    refine jx_goto (tgt := 1214) d_L_law_217 (by decide) ?_
    exact tl _ _ _ _ h4
theorem q_rest (hB : jx_B E) (hB2 : jx_B2 E mi) (hB3 : jx_B3 E z pa) (hX : lwX E m out b lo hi A) (hscr : ∃ cell, E.1.heap[b]? = some cell ∧ jx_pic E 100 L (fun j => .int (iI (ys j))) cell) (hys : ∀ j, iR (ys j)) (hL : L ≤ 100000) {i : Int} (hij : 0 ≤ i ∧ i ≤ (L : Int) - 5) (tl : lwT E l d nm tb ts m out b L lo hi A ys i) {S : mS} {w : jx_W} {X5 X6 : Option Value} (h : lwS E ts m out b L lo hi A ys S S none (10 * ((L : Int) - i) + 50) (1000 * ((L : Int) - i) + 5000) w) : jx_G E l (Yl nm tb) (d + 13) lwEnd 220 [some (.ref b), some (.ref ts), some (.ref m), some (.ref out), some (.int (iI i)), X5, X6] [] w := by
  obtain ⟨hM, ⟨D, G, hC, hR, hG⟩, hout, ⟨hk, hl, hv⟩, -, hcc, hss⟩ := h
  have hN := hR.2.1
  have hW : 50 ≤ jx_c w ∧ 5000 ≤ jx_s w := by constructor <;> omega
  have hoo : E.1.heap.size ≤ out := by have := hX.2.2.1; have := hX.2.2.2.1; omega
  refine jx_aload_n d_L_law_220 rfl rfl ?_
  refine jx_aload_n d_L_law_221 rfl rfl ?_
  refine jx_iload d_L_law_222 rfl ?_
  refine jI_const d_L_law_224 ?_
  refine jI_add d_L_law_225 ?_
  refine jI_iald (m := L) d_L_law_226 hk hl (by omega) ⟨by omega, by omega⟩ (hv _) ?_
  refine jx_aload_n d_L_law_227 rfl rfl ?_
  refine jx_iload d_L_law_228 rfl ?_
  refine jI_const d_L_law_230 ?_
  refine jI_add d_L_law_231 ?_
  refine jI_iald (m := L) d_L_law_232 hk hl (by omega) ⟨by omega, by omega⟩ (hv _) ?_
  refine jx_aload_n d_L_law_233 rfl rfl ?_
  refine jx_iload d_L_law_234 rfl ?_
  refine jI_const d_L_law_236 ?_
  refine jI_add d_L_law_237 ?_
  refine jI_iald (m := L) d_L_law_238 hk hl (by omega) ⟨by omega, by omega⟩ (hv _) ?_
  refine jx_callS (As := [.ref ts, .int (iI (ys (i + 1).toNat)), .int (iI (ys (i + 2).toNat)), .int (iI (ys (i + 3).toNat))]) (rest := []) d_L_law_239 (m_L_rest hB) (s_L_85 hB) rfl (Nat.le_of_ble_eq_true rfl) (Nat.le_of_ble_eq_true rfl) (w_L_rest hB hB2 hB3 hC hR hG (hys _) (hys _) (hys _) hW hX.2.2.1 hoo hout.1 hout.2) (fun v w1 hq => ?_) (fun x a w1 hq => by obtain ⟨hq, -⟩ := hq; cases hq)
  obtain ⟨e1, hc1, hF1, hv1⟩ := hq
  cases e1
  refine lw_rec (cc2 := 10 * ((L : Int) - i)) (ss2 := 1000 * ((L : Int) - i)) hX hscr hM hout ⟨hcc, hss⟩ hc1 hF1 hv1 (by omega) (by omega) (fun w2 h2 => ?_)
  have h2a := h2
  obtain ⟨hM2, -, hout2, ⟨hk, hl, hv⟩, -, -, -⟩ := h2
  refine jx_istore d_L_law_242 (Nat.le_of_ble_eq_true rfl) rfl ?_
  refine jx_aload_n d_L_law_244 rfl rfl ?_
  refine jx_aload_n d_L_law_245 rfl rfl ?_
  refine jx_iload d_L_law_246 rfl ?_
  refine jI_const d_L_law_248 ?_
  refine jI_add d_L_law_249 ?_
  refine jI_iald (m := L) d_L_law_250 hk hl (by omega) ⟨by omega, by omega⟩ (hv _) ?_
  refine jx_aload_n d_L_law_251 rfl rfl ?_
  refine jx_iload d_L_law_252 rfl ?_
  refine jI_const d_L_law_254 ?_
  refine jI_add d_L_law_255 ?_
  refine jI_iald (m := L) d_L_law_256 hk hl (by omega) ⟨by omega, by omega⟩ (hv _) ?_
  refine jx_aload_n d_L_law_257 rfl rfl ?_
  refine jx_iload d_L_law_258 rfl ?_
  refine jI_const d_L_law_260 ?_
  refine jI_add d_L_law_261 ?_
  refine jI_iald (m := L) d_L_law_262 hk hl (by omega) ⟨by omega, by omega⟩ (hv _) ?_
  refine jx_callV (As := [.int (iI (ys (i + 1).toNat)), .int (iI (ys (i + 2).toNat)), .int (iI (ys (i + 3).toNat))]) (rest := []) d_L_law_263 (m_M_rest hB) (v_L_88 hB) (by decide) (jx_c5 hB) hM2.1 rfl (Nat.le_of_ble_eq_true rfl) (Nat.le_of_ble_eq_true rfl) (w_M_rest hB hM2 hR.I hN.1 (hys _) (hys _) (hys _)) (fun v w3 hq => ?_) (fun x a w3 hq => by obtain ⟨hq, -⟩ := hq; cases hq)
  obtain ⟨e3, hM3, hF3⟩ := hq
  cases e3
  have h3 := h2a.mf hX hM3 hF3
  have h4 := h3.wk (fun D2 hD => hD)
  obtain ⟨-, -, hout3, -, hv3, -, -⟩ := h3
  refine jx_aload_n d_L_law_266 rfl rfl ?_
  refine jx_callV_r (As := []) (rest := []) d_L_law_267 (m_M_thrown hB) (v_L_81 hB) (by decide) (jx_c5 hB) hM3.1 rfl (Nat.le_of_ble_eq_true rfl) (Nat.le_of_ble_eq_true rfl) (w_M_thrown hB hM3) ?_
  refine jx_iload d_L_law_270 rfl ?_
  refine jx_icmp_eq (tgt := 277) d_L_law_272 (by decide) (fun _ => ?_) (fun hc => absurd rfl hc)
  refine jx_goto (tgt := 1214) d_L_law_277 (by decide) ?_
  exact tl _ _ _ _ h4
theorem q_train (hB : jx_B E) (hB2 : jx_B2 E mi) (hB3 : jx_B3 E z pa) (hX : lwX E m out b lo hi A) (hscr : ∃ cell, E.1.heap[b]? = some cell ∧ jx_pic E 100 L (fun j => .int (iI (ys j))) cell) (hys : ∀ j, iR (ys j)) (hL : L ≤ 100000) {i : Int} (hij : 0 ≤ i ∧ i ≤ (L : Int) - 5) (tl : lwT E l d nm tb ts m out b L lo hi A ys i) {S : mS} {w : jx_W} {X5 X6 : Option Value} (h : lwS E ts m out b L lo hi A ys S S none (10 * ((L : Int) - i) + 50) (1000 * ((L : Int) - i) + 5000) w) : jx_G E l (Yl nm tb) (d + 13) lwEnd 280 [some (.ref b), some (.ref ts), some (.ref m), some (.ref out), some (.int (iI i)), X5, X6] [] w := by
  obtain ⟨hM, ⟨D, G, hC, hR, hG⟩, hout, ⟨hk, hl, hv⟩, -, hcc, hss⟩ := h
  have hN := hR.2.1
  have hW : 50 ≤ jx_c w ∧ 5000 ≤ jx_s w := by constructor <;> omega
  have hoo : E.1.heap.size ≤ out := by have := hX.2.2.1; have := hX.2.2.2.1; omega
  refine jx_aload_n d_L_law_280 rfl rfl ?_
  refine jx_aload_n d_L_law_281 rfl rfl ?_
  refine jx_iload d_L_law_282 rfl ?_
  refine jI_const d_L_law_284 ?_
  refine jI_add d_L_law_285 ?_
  refine jI_iald (m := L) d_L_law_286 hk hl (by omega) ⟨by omega, by omega⟩ (hv _) ?_
  refine jx_aload_n d_L_law_287 rfl rfl ?_
  refine jx_iload d_L_law_288 rfl ?_
  refine jI_const d_L_law_290 ?_
  refine jI_add d_L_law_291 ?_
  refine jI_iald (m := L) d_L_law_292 hk hl (by omega) ⟨by omega, by omega⟩ (hv _) ?_
  refine jx_aload_n d_L_law_293 rfl rfl ?_
  refine jx_callS (As := [.ref ts, .int (iI (ys (i + 1).toNat)), .int (iI (ys (i + 2).toNat)), .ref out]) (rest := []) d_L_law_294 (m_L_train hB) (s_L_89 hB) rfl (Nat.le_of_ble_eq_true rfl) (Nat.le_of_ble_eq_true rfl) (w_L_train hB hB2 hB3 hC hR hG (hys _) (hys _) hW hX.2.2.1 hoo hout.1 hout.2) (fun v w1 hq => ?_) (fun x a w1 hq => by obtain ⟨hq, -⟩ := hq; cases hq)
  obtain ⟨e1, hc1, hF1, hv1⟩ := hq
  cases e1
  refine lw_rec (cc2 := 10 * ((L : Int) - i)) (ss2 := 1000 * ((L : Int) - i)) hX hscr hM hout ⟨hcc, hss⟩ hc1 hF1 hv1 (by omega) (by omega) (fun w2 h2 => ?_)
  have h2a := h2
  obtain ⟨hM2, -, hout2, ⟨hk, hl, hv⟩, -, -, -⟩ := h2
  refine jx_istore d_L_law_297 (Nat.le_of_ble_eq_true rfl) rfl ?_
  refine jx_aload_n d_L_law_299 rfl rfl ?_
  refine jx_aload_n d_L_law_300 rfl rfl ?_
  refine jx_iload d_L_law_301 rfl ?_
  refine jI_const d_L_law_303 ?_
  refine jI_add d_L_law_304 ?_
  refine jI_iald (m := L) d_L_law_305 hk hl (by omega) ⟨by omega, by omega⟩ (hv _) ?_
  refine jx_aload_n d_L_law_306 rfl rfl ?_
  refine jx_iload d_L_law_307 rfl ?_
  refine jI_const d_L_law_309 ?_
  refine jI_add d_L_law_310 ?_
  refine jI_iald (m := L) d_L_law_311 hk hl (by omega) ⟨by omega, by omega⟩ (hv _) ?_
  refine jx_callV (As := [.int (iI (ys (i + 1).toNat)), .int (iI (ys (i + 2).toNat))]) (rest := []) d_L_law_312 (m_M_train hB) (v_L_92 hB) (by decide) (jx_c5 hB) hM2.1 rfl (Nat.le_of_ble_eq_true rfl) (Nat.le_of_ble_eq_true rfl) (w_M_train hB hM2 hR.I hN.1 (hys _) (hys _)) (fun v w3 hq => ?_) (fun x a w3 hq => by obtain ⟨hq, -⟩ := hq; cases hq)
  obtain ⟨e3, hM3, hF3⟩ := hq
  cases e3
  have h3 := h2a.mf hX hM3 hF3
  have h4 := h3.wk (fun D2 hD => hD)
  obtain ⟨-, -, hout3, -, hv3, -, -⟩ := h3
  refine jx_istore d_L_law_315 (Nat.le_of_ble_eq_true rfl) rfl ?_
  refine jx_aload_n d_L_law_317 rfl rfl ?_
  refine jx_callV_r (As := []) (rest := []) d_L_law_318 (m_M_thrown hB) (v_L_81 hB) (by decide) (jx_c5 hB) hM3.1 rfl (Nat.le_of_ble_eq_true rfl) (Nat.le_of_ble_eq_true rfl) (w_M_thrown hB hM3) ?_
  refine jx_iload d_L_law_321 rfl ?_
  refine jx_icmp_eq (tgt := 328) d_L_law_323 (by decide) (fun _ => ?_) (fun hc => absurd rfl hc)
  refine jx_iload d_L_law_328 rfl ?_
  refine jx_if_ne (tgt := 345) d_L_law_330 (by decide) (fun hc => ?_) (fun hc => ?_)
  · refine jx_goto (tgt := 1214) d_L_law_345 (by decide) ?_
    exact tl _ _ _ _ h4
  · refine jx_aload_n d_L_law_333 rfl rfl ?_
    refine jI_const d_L_law_334 ?_
    refine jI_lald (m := 1) (i := 0) d_L_law_335 hout3.1 hout3.2 (by decide) (by decide) (hv3 _ rfl hc) ?_
    refine jx_iload d_L_law_336 rfl ?_
    refine jx_i2l d_L_law_338 rfl ?_
    refine jx_lcmp d_L_law_339 ?_
    refine jx_if_eq (tgt := 345) d_L_law_340 (by decide) (fun _ => ?_) (fun hc2 => absurd (lg_self _) hc2)
    refine jx_goto (tgt := 1214) d_L_law_345 (by decide) ?_
    exact tl _ _ _ _ h4
theorem q_task (hB : jx_B E) (hB2 : jx_B2 E mi) (hB3 : jx_B3 E z pa) (hX : lwX E m out b lo hi A) (hscr : ∃ cell, E.1.heap[b]? = some cell ∧ jx_pic E 100 L (fun j => .int (iI (ys j))) cell) (hys : ∀ j, iR (ys j)) (hL : L ≤ 100000) {i : Int} (hij : 0 ≤ i ∧ i ≤ (L : Int) - 5) (tl : lwT E l d nm tb ts m out b L lo hi A ys i) {S : mS} {w : jx_W} {X5 X6 : Option Value} (h : lwS E ts m out b L lo hi A ys S S none (10 * ((L : Int) - i) + 50) (1000 * ((L : Int) - i) + 5000) w) : jx_G E l (Yl nm tb) (d + 13) lwEnd 348 [some (.ref b), some (.ref ts), some (.ref m), some (.ref out), some (.int (iI i)), X5, X6] [] w := by
  obtain ⟨hM, ⟨D, G, hC, hR, hG⟩, hout, ⟨hk, hl, hv⟩, -, hcc, hss⟩ := h
  have hN := hR.2.1
  have hW : 50 ≤ jx_c w ∧ 5000 ≤ jx_s w := by constructor <;> omega
  have hoo : E.1.heap.size ≤ out := by have := hX.2.2.1; have := hX.2.2.2.1; omega
  refine jx_aload_n d_L_law_348 rfl rfl ?_
  refine jx_aload_n d_L_law_349 rfl rfl ?_
  refine jx_iload d_L_law_350 rfl ?_
  refine jI_const d_L_law_352 ?_
  refine jI_add d_L_law_353 ?_
  refine jI_iald (m := L) d_L_law_354 hk hl (by omega) ⟨by omega, by omega⟩ (hv _) ?_
  refine jx_aload_n d_L_law_355 rfl rfl ?_
  refine jx_iload d_L_law_356 rfl ?_
  refine jI_const d_L_law_358 ?_
  refine jI_add d_L_law_359 ?_
  refine jI_iald (m := L) d_L_law_360 hk hl (by omega) ⟨by omega, by omega⟩ (hv _) ?_
  refine jx_aload_n d_L_law_361 rfl rfl ?_
  refine jx_iload d_L_law_362 rfl ?_
  refine jI_const d_L_law_364 ?_
  refine jI_add d_L_law_365 ?_
  refine jI_iald (m := L) d_L_law_366 hk hl (by omega) ⟨by omega, by omega⟩ (hv _) ?_
  refine jx_aload_n d_L_law_367 rfl rfl ?_
  refine jx_iload d_L_law_368 rfl ?_
  refine jI_const d_L_law_370 ?_
  refine jI_add d_L_law_371 ?_
  refine jI_iald (m := L) d_L_law_372 hk hl (by omega) ⟨by omega, by omega⟩ (hv _) ?_
  refine jx_aload_n d_L_law_373 rfl rfl ?_
  refine jx_callS (As := [.ref ts, .int (iI (ys (i + 1).toNat)), .int (iI (ys (i + 2).toNat)), .int (iI (ys (i + 3).toNat)), .int (iI (ys (i + 4).toNat)), .ref out]) (rest := []) d_L_law_374 (m_L_task hB) (s_L_93 hB) rfl (Nat.le_of_ble_eq_true rfl) (Nat.le_of_ble_eq_true rfl) (w_L_task hB hB2 hB3 hC hR hG (hys _) (hys _) (hys _) (hys _) hW hX.2.2.1 hoo hout.1 hout.2) (fun v w1 hq => ?_) (fun x a w1 hq => by obtain ⟨hq, -⟩ := hq; cases hq)
  obtain ⟨e1, hc1, hF1, hv1⟩ := hq
  cases e1
  refine lw_rec (cc2 := 10 * ((L : Int) - i)) (ss2 := 1000 * ((L : Int) - i)) hX hscr hM hout ⟨hcc, hss⟩ hc1 hF1 hv1 (by omega) (by omega) (fun w2 h2 => ?_)
  have h2a := h2
  obtain ⟨hM2, -, hout2, ⟨hk, hl, hv⟩, -, -, -⟩ := h2
  refine jx_istore d_L_law_377 (Nat.le_of_ble_eq_true rfl) rfl ?_
  refine jx_aload_n d_L_law_379 rfl rfl ?_
  refine jx_aload_n d_L_law_380 rfl rfl ?_
  refine jx_iload d_L_law_381 rfl ?_
  refine jI_const d_L_law_383 ?_
  refine jI_add d_L_law_384 ?_
  refine jI_iald (m := L) d_L_law_385 hk hl (by omega) ⟨by omega, by omega⟩ (hv _) ?_
  refine jx_aload_n d_L_law_386 rfl rfl ?_
  refine jx_iload d_L_law_387 rfl ?_
  refine jI_const d_L_law_389 ?_
  refine jI_add d_L_law_390 ?_
  refine jI_iald (m := L) d_L_law_391 hk hl (by omega) ⟨by omega, by omega⟩ (hv _) ?_
  refine jx_aload_n d_L_law_392 rfl rfl ?_
  refine jx_iload d_L_law_393 rfl ?_
  refine jI_const d_L_law_395 ?_
  refine jI_add d_L_law_396 ?_
  refine jI_iald (m := L) d_L_law_397 hk hl (by omega) ⟨by omega, by omega⟩ (hv _) ?_
  refine jx_aload_n d_L_law_398 rfl rfl ?_
  refine jx_iload d_L_law_399 rfl ?_
  refine jI_const d_L_law_401 ?_
  refine jI_add d_L_law_402 ?_
  refine jI_iald (m := L) d_L_law_403 hk hl (by omega) ⟨by omega, by omega⟩ (hv _) ?_
  refine jx_callV (As := [.int (iI (ys (i + 1).toNat)), .int (iI (ys (i + 2).toNat)), .int (iI (ys (i + 3).toNat)), .int (iI (ys (i + 4).toNat))]) (rest := []) d_L_law_404 (m_M_task hB) (v_L_95 hB) (by decide) (jx_c5 hB) hM2.1 rfl (Nat.le_of_ble_eq_true rfl) (Nat.le_of_ble_eq_true rfl) (w_M_task hB hM2 hR.I hN.2.1 (hys _) (hys _) (hys _) (hys _)) (fun v w3 hq => ?_) (fun x a w3 hq => by obtain ⟨hq, -⟩ := hq; cases hq)
  obtain ⟨e3, hM3, hF3⟩ := hq
  cases e3
  have h3 := h2a.mf hX hM3 hF3
  have h4 := h3.wk (fun D2 hD => hD)
  obtain ⟨-, -, hout3, -, hv3, -, -⟩ := h3
  refine jx_istore d_L_law_407 (Nat.le_of_ble_eq_true rfl) rfl ?_
  refine jx_aload_n d_L_law_409 rfl rfl ?_
  refine jx_callV_r (As := []) (rest := []) d_L_law_410 (m_M_thrown hB) (v_L_81 hB) (by decide) (jx_c5 hB) hM3.1 rfl (Nat.le_of_ble_eq_true rfl) (Nat.le_of_ble_eq_true rfl) (w_M_thrown hB hM3) ?_
  refine jx_iload d_L_law_413 rfl ?_
  refine jx_icmp_eq (tgt := 420) d_L_law_415 (by decide) (fun _ => ?_) (fun hc => absurd rfl hc)
  refine jx_iload d_L_law_420 rfl ?_
  refine jx_if_ne (tgt := 437) d_L_law_422 (by decide) (fun hc => ?_) (fun hc => ?_)
  · refine jx_goto (tgt := 1214) d_L_law_437 (by decide) ?_
    exact tl _ _ _ _ h4
  · refine jx_aload_n d_L_law_425 rfl rfl ?_
    refine jI_const d_L_law_426 ?_
    refine jI_lald (m := 1) (i := 0) d_L_law_427 hout3.1 hout3.2 (by decide) (by decide) (hv3 _ rfl hc) ?_
    refine jx_iload d_L_law_428 rfl ?_
    refine jx_i2l d_L_law_430 rfl ?_
    refine jx_lcmp d_L_law_431 ?_
    refine jx_if_eq (tgt := 437) d_L_law_432 (by decide) (fun _ => ?_) (fun hc2 => absurd (lg_self _) hc2)
    refine jx_goto (tgt := 1214) d_L_law_437 (by decide) ?_
    exact tl _ _ _ _ h4
theorem q_way (hB : jx_B E) (hB2 : jx_B2 E mi) (hB3 : jx_B3 E z pa) (hX : lwX E m out b lo hi A) (hscr : ∃ cell, E.1.heap[b]? = some cell ∧ jx_pic E 100 L (fun j => .int (iI (ys j))) cell) (hys : ∀ j, iR (ys j)) (hL : L ≤ 100000) {i : Int} (hij : 0 ≤ i ∧ i ≤ (L : Int) - 5) (tl : lwT E l d nm tb ts m out b L lo hi A ys i) {S : mS} {w : jx_W} {X5 X6 : Option Value} (h : lwS E ts m out b L lo hi A ys S S none (10 * ((L : Int) - i) + 50) (1000 * ((L : Int) - i) + 5000) w) : jx_G E l (Yl nm tb) (d + 13) lwEnd 440 [some (.ref b), some (.ref ts), some (.ref m), some (.ref out), some (.int (iI i)), X5, X6] [] w := by
  obtain ⟨hM, ⟨D, G, hC, hR, hG⟩, hout, ⟨hk, hl, hv⟩, -, hcc, hss⟩ := h
  have hN := hR.2.1
  have hW : 50 ≤ jx_c w ∧ 5000 ≤ jx_s w := by constructor <;> omega
  have hoo : E.1.heap.size ≤ out := by have := hX.2.2.1; have := hX.2.2.2.1; omega
  refine jx_aload_n d_L_law_440 rfl rfl ?_
  refine jx_aload_n d_L_law_441 rfl rfl ?_
  refine jx_iload d_L_law_442 rfl ?_
  refine jI_const d_L_law_444 ?_
  refine jI_add d_L_law_445 ?_
  refine jI_iald (m := L) d_L_law_446 hk hl (by omega) ⟨by omega, by omega⟩ (hv _) ?_
  refine jx_aload_n d_L_law_447 rfl rfl ?_
  refine jx_iload d_L_law_448 rfl ?_
  refine jI_const d_L_law_450 ?_
  refine jI_add d_L_law_451 ?_
  refine jI_iald (m := L) d_L_law_452 hk hl (by omega) ⟨by omega, by omega⟩ (hv _) ?_
  refine jx_aload_n d_L_law_453 rfl rfl ?_
  refine jx_iload d_L_law_454 rfl ?_
  refine jI_const d_L_law_456 ?_
  refine jI_add d_L_law_457 ?_
  refine jI_iald (m := L) d_L_law_458 hk hl (by omega) ⟨by omega, by omega⟩ (hv _) ?_
  refine jx_callS (As := [.ref ts, .int (iI (ys (i + 1).toNat)), .int (iI (ys (i + 2).toNat)), .int (iI (ys (i + 3).toNat))]) (rest := []) d_L_law_459 (m_L_way hB) (s_L_96 hB) rfl (Nat.le_of_ble_eq_true rfl) (Nat.le_of_ble_eq_true rfl) (w_L_way hB hB2 hB3 hC hR hG (hys _) (hys _) (hys _) hW hX.2.2.1 hoo hout.1 hout.2) (fun v w1 hq => ?_) (fun x a w1 hq => by obtain ⟨hq, -⟩ := hq; cases hq)
  obtain ⟨e1, hc1, hF1, hv1⟩ := hq
  cases e1
  refine lw_rec (cc2 := 10 * ((L : Int) - i)) (ss2 := 1000 * ((L : Int) - i)) hX hscr hM hout ⟨hcc, hss⟩ hc1 hF1 hv1 (by omega) (by omega) (fun w2 h2 => ?_)
  have h2a := h2
  obtain ⟨hM2, -, hout2, ⟨hk, hl, hv⟩, -, -, -⟩ := h2
  refine jx_istore d_L_law_462 (Nat.le_of_ble_eq_true rfl) rfl ?_
  refine jx_aload_n d_L_law_464 rfl rfl ?_
  refine jx_aload_n d_L_law_465 rfl rfl ?_
  refine jx_iload d_L_law_466 rfl ?_
  refine jI_const d_L_law_468 ?_
  refine jI_add d_L_law_469 ?_
  refine jI_iald (m := L) d_L_law_470 hk hl (by omega) ⟨by omega, by omega⟩ (hv _) ?_
  refine jx_aload_n d_L_law_471 rfl rfl ?_
  refine jx_iload d_L_law_472 rfl ?_
  refine jI_const d_L_law_474 ?_
  refine jI_add d_L_law_475 ?_
  refine jI_iald (m := L) d_L_law_476 hk hl (by omega) ⟨by omega, by omega⟩ (hv _) ?_
  refine jx_aload_n d_L_law_477 rfl rfl ?_
  refine jx_iload d_L_law_478 rfl ?_
  refine jI_const d_L_law_480 ?_
  refine jI_add d_L_law_481 ?_
  refine jI_iald (m := L) d_L_law_482 hk hl (by omega) ⟨by omega, by omega⟩ (hv _) ?_
  refine jx_callV (As := [.int (iI (ys (i + 1).toNat)), .int (iI (ys (i + 2).toNat)), .int (iI (ys (i + 3).toNat))]) (rest := []) d_L_law_483 (m_M_way hB) (v_L_98 hB) (by decide) (jx_c5 hB) hM2.1 rfl (Nat.le_of_ble_eq_true rfl) (Nat.le_of_ble_eq_true rfl) (w_M_way hB hM2 hR.I  (hys _) (hys _) (hys _)) (fun v w3 hq => ?_) (fun x a w3 hq => by obtain ⟨hq, -⟩ := hq; cases hq)
  obtain ⟨e3, hM3, hF3⟩ := hq
  cases e3
  have h3 := h2a.mf hX hM3 hF3
  have h4 := h3.wk (fun D2 hD => hD)
  obtain ⟨-, -, hout3, -, hv3, -, -⟩ := h3
  refine jx_aload_n d_L_law_486 rfl rfl ?_
  refine jx_callV_r (As := []) (rest := []) d_L_law_487 (m_M_thrown hB) (v_L_81 hB) (by decide) (jx_c5 hB) hM3.1 rfl (Nat.le_of_ble_eq_true rfl) (Nat.le_of_ble_eq_true rfl) (w_M_thrown hB hM3) ?_
  refine jx_iload d_L_law_490 rfl ?_
  refine jx_icmp_eq (tgt := 497) d_L_law_492 (by decide) (fun _ => ?_) (fun hc => absurd rfl hc)
  refine jx_goto (tgt := 1214) d_L_law_497 (by decide) ?_
  exact tl _ _ _ _ h4
theorem q_refuse (hB : jx_B E) (hB2 : jx_B2 E mi) (hB3 : jx_B3 E z pa) (hX : lwX E m out b lo hi A) (hscr : ∃ cell, E.1.heap[b]? = some cell ∧ jx_pic E 100 L (fun j => .int (iI (ys j))) cell) (hys : ∀ j, iR (ys j)) (hL : L ≤ 100000) {i : Int} (hij : 0 ≤ i ∧ i ≤ (L : Int) - 5) (tl : lwT E l d nm tb ts m out b L lo hi A ys i) {S : mS} {w : jx_W} {X5 X6 : Option Value} (h : lwS E ts m out b L lo hi A ys S S none (10 * ((L : Int) - i) + 50) (1000 * ((L : Int) - i) + 5000) w) : jx_G E l (Yl nm tb) (d + 13) lwEnd 500 [some (.ref b), some (.ref ts), some (.ref m), some (.ref out), some (.int (iI i)), X5, X6] [] w := by
  obtain ⟨hM, ⟨D, G, hC, hR, hG⟩, hout, ⟨hk, hl, hv⟩, -, hcc, hss⟩ := h
  have hN := hR.2.1
  have hW : 50 ≤ jx_c w ∧ 5000 ≤ jx_s w := by constructor <;> omega
  have hoo : E.1.heap.size ≤ out := by have := hX.2.2.1; have := hX.2.2.2.1; omega
  refine jx_aload_n d_L_law_500 rfl rfl ?_
  refine jx_aload_n d_L_law_501 rfl rfl ?_
  refine jx_iload d_L_law_502 rfl ?_
  refine jI_const d_L_law_504 ?_
  refine jI_add d_L_law_505 ?_
  refine jI_iald (m := L) d_L_law_506 hk hl (by omega) ⟨by omega, by omega⟩ (hv _) ?_
  refine jx_aload_n d_L_law_507 rfl rfl ?_
  refine jx_iload d_L_law_508 rfl ?_
  refine jI_const d_L_law_510 ?_
  refine jI_add d_L_law_511 ?_
  refine jI_iald (m := L) d_L_law_512 hk hl (by omega) ⟨by omega, by omega⟩ (hv _) ?_
  refine jx_aload_n d_L_law_513 rfl rfl ?_
  refine jx_callS (As := [.ref ts, .int (iI (ys (i + 1).toNat)), .int (iI (ys (i + 2).toNat)), .ref out]) (rest := []) d_L_law_514 (m_L_refuse hB) (s_L_99 hB) rfl (Nat.le_of_ble_eq_true rfl) (Nat.le_of_ble_eq_true rfl) (w_L_refuse hB hB2 hB3 hC hR hG (hys _) (hys _) hW hX.2.2.1 hoo hout.1 hout.2) (fun v w1 hq => ?_) (fun x a w1 hq => by obtain ⟨hq, -⟩ := hq; cases hq)
  obtain ⟨e1, hc1, hF1, hv1⟩ := hq
  cases e1
  refine lw_rec (cc2 := 10 * ((L : Int) - i)) (ss2 := 1000 * ((L : Int) - i)) hX hscr hM hout ⟨hcc, hss⟩ hc1 hF1 hv1 (by omega) (by omega) (fun w2 h2 => ?_)
  have h2a := h2
  obtain ⟨hM2, -, hout2, ⟨hk, hl, hv⟩, -, -, -⟩ := h2
  refine jx_istore d_L_law_517 (Nat.le_of_ble_eq_true rfl) rfl ?_
  refine jx_aload_n d_L_law_519 rfl rfl ?_
  refine jx_aload_n d_L_law_520 rfl rfl ?_
  refine jx_iload d_L_law_521 rfl ?_
  refine jI_const d_L_law_523 ?_
  refine jI_add d_L_law_524 ?_
  refine jI_iald (m := L) d_L_law_525 hk hl (by omega) ⟨by omega, by omega⟩ (hv _) ?_
  refine jx_aload_n d_L_law_526 rfl rfl ?_
  refine jx_iload d_L_law_527 rfl ?_
  refine jI_const d_L_law_529 ?_
  refine jI_add d_L_law_530 ?_
  refine jI_iald (m := L) d_L_law_531 hk hl (by omega) ⟨by omega, by omega⟩ (hv _) ?_
  refine jx_callV (As := [.int (iI (ys (i + 1).toNat)), .int (iI (ys (i + 2).toNat))]) (rest := []) d_L_law_532 (m_M_refuse hB) (v_L_101 hB) (by decide) (jx_c5 hB) hM2.1 rfl (Nat.le_of_ble_eq_true rfl) (Nat.le_of_ble_eq_true rfl) (w_M_refuse hB hM2 hR.I hN.1 hN.2.1 (hys _) (hys _)) (fun v w3 hq => ?_) (fun x a w3 hq => by obtain ⟨hq, -⟩ := hq; cases hq)
  obtain ⟨e3, hM3, hF3⟩ := hq
  cases e3
  have h3 := h2a.mf hX hM3 hF3
  have h4 := h3.wk (fun D2 hD => hD)
  obtain ⟨-, -, hout3, -, hv3, -, -⟩ := h3
  refine jx_istore d_L_law_535 (Nat.le_of_ble_eq_true rfl) rfl ?_
  refine jx_aload_n d_L_law_537 rfl rfl ?_
  refine jx_callV_r (As := []) (rest := []) d_L_law_538 (m_M_thrown hB) (v_L_81 hB) (by decide) (jx_c5 hB) hM3.1 rfl (Nat.le_of_ble_eq_true rfl) (Nat.le_of_ble_eq_true rfl) (w_M_thrown hB hM3) ?_
  refine jx_iload d_L_law_541 rfl ?_
  refine jx_icmp_eq (tgt := 548) d_L_law_543 (by decide) (fun _ => ?_) (fun hc => absurd rfl hc)
  refine jx_iload d_L_law_548 rfl ?_
  refine jx_if_ne (tgt := 572) d_L_law_550 (by decide) (fun hc => ?_) (fun hc => ?_)
  · refine jx_goto (tgt := 1214) d_L_law_572 (by decide) ?_
    exact tl _ _ _ _ h4
  · refine jx_aload_n d_L_law_553 rfl rfl ?_
    refine jI_const d_L_law_554 ?_
    refine jI_lald (m := 1) (i := 0) d_L_law_555 hout3.1 hout3.2 (by decide) (by decide) (hv3 _ rfl hc) ?_
    refine jx_iload d_L_law_556 rfl ?_
    refine jx_if_eq (tgt := 565) d_L_law_558 (by decide) (fun hc3 => ?_) (fun hc3 => ?_)
    · rw [if_pos hc3]
      refine jx_lconst d_L_law_565 rfl ?_
      refine jx_lcmp d_L_law_566 ?_
      refine jx_if_eq (tgt := 572) d_L_law_567 (by decide) (fun _ => ?_) (fun hc2 => absurd (lg_self _) hc2)
      refine jx_goto (tgt := 1214) d_L_law_572 (by decide) ?_
      exact tl _ _ _ _ h4
    · rw [if_neg hc3]
      refine jx_lconst d_L_law_561 rfl ?_
      refine jx_goto (tgt := 566) d_L_law_562 (by decide) ?_
      refine jx_lcmp d_L_law_566 ?_
      refine jx_if_eq (tgt := 572) d_L_law_567 (by decide) (fun _ => ?_) (fun hc2 => absurd (lg_self _) hc2)
      refine jx_goto (tgt := 1214) d_L_law_572 (by decide) ?_
      exact tl _ _ _ _ h4
theorem q_bar (hB : jx_B E) (hB2 : jx_B2 E mi) (hB3 : jx_B3 E z pa) (hX : lwX E m out b lo hi A) (hscr : ∃ cell, E.1.heap[b]? = some cell ∧ jx_pic E 100 L (fun j => .int (iI (ys j))) cell) (hys : ∀ j, iR (ys j)) (hL : L ≤ 100000) {i : Int} (hij : 0 ≤ i ∧ i ≤ (L : Int) - 5) (tl : lwT E l d nm tb ts m out b L lo hi A ys i) {S : mS} {w : jx_W} {X5 X6 : Option Value} (h : lwS E ts m out b L lo hi A ys S S none (10 * ((L : Int) - i) + 50) (1000 * ((L : Int) - i) + 5000) w) : jx_G E l (Yl nm tb) (d + 13) lwEnd 575 [some (.ref b), some (.ref ts), some (.ref m), some (.ref out), some (.int (iI i)), X5, X6] [] w := by
  obtain ⟨hM, ⟨D, G, hC, hR, hG⟩, hout, ⟨hk, hl, hv⟩, -, hcc, hss⟩ := h
  have hN := hR.2.1
  have hW : 50 ≤ jx_c w ∧ 5000 ≤ jx_s w := by constructor <;> omega
  have hoo : E.1.heap.size ≤ out := by have := hX.2.2.1; have := hX.2.2.2.1; omega
  refine jx_aload_n d_L_law_575 rfl rfl ?_
  refine jx_aload_n d_L_law_576 rfl rfl ?_
  refine jx_iload d_L_law_577 rfl ?_
  refine jI_const d_L_law_579 ?_
  refine jI_add d_L_law_580 ?_
  refine jI_iald (m := L) d_L_law_581 hk hl (by omega) ⟨by omega, by omega⟩ (hv _) ?_
  refine jx_aload_n d_L_law_582 rfl rfl ?_
  refine jx_iload d_L_law_583 rfl ?_
  refine jI_const d_L_law_585 ?_
  refine jI_add d_L_law_586 ?_
  refine jI_iald (m := L) d_L_law_587 hk hl (by omega) ⟨by omega, by omega⟩ (hv _) ?_
  refine jx_aload_n d_L_law_588 rfl rfl ?_
  refine jx_callS (As := [.ref ts, .int (iI (ys (i + 1).toNat)), .int (iI (ys (i + 2).toNat)), .ref out]) (rest := []) d_L_law_589 (m_L_bar hB) (s_L_102 hB) rfl (Nat.le_of_ble_eq_true rfl) (Nat.le_of_ble_eq_true rfl) (w_L_bar hB hB2 hB3 hC hR hG (hys _) (hys _) hW hX.2.2.1 hoo hout.1 hout.2) (fun v w1 hq => ?_) (fun x a w1 hq => by obtain ⟨hq, -⟩ := hq; cases hq)
  obtain ⟨e1, hc1, hF1, hv1⟩ := hq
  cases e1
  refine lw_rec (cc2 := 10 * ((L : Int) - i)) (ss2 := 1000 * ((L : Int) - i)) hX hscr hM hout ⟨hcc, hss⟩ hc1 hF1 hv1 (by omega) (by omega) (fun w2 h2 => ?_)
  have h2a := h2
  obtain ⟨hM2, -, hout2, ⟨hk, hl, hv⟩, -, -, -⟩ := h2
  refine jx_istore d_L_law_592 (Nat.le_of_ble_eq_true rfl) rfl ?_
  refine jx_aload_n d_L_law_594 rfl rfl ?_
  refine jx_aload_n d_L_law_595 rfl rfl ?_
  refine jx_iload d_L_law_596 rfl ?_
  refine jI_const d_L_law_598 ?_
  refine jI_add d_L_law_599 ?_
  refine jI_iald (m := L) d_L_law_600 hk hl (by omega) ⟨by omega, by omega⟩ (hv _) ?_
  refine jx_aload_n d_L_law_601 rfl rfl ?_
  refine jx_iload d_L_law_602 rfl ?_
  refine jI_const d_L_law_604 ?_
  refine jI_add d_L_law_605 ?_
  refine jI_iald (m := L) d_L_law_606 hk hl (by omega) ⟨by omega, by omega⟩ (hv _) ?_
  refine jx_callV (As := [.int (iI (ys (i + 1).toNat)), .int (iI (ys (i + 2).toNat))]) (rest := []) d_L_law_607 (m_M_bar hB) (v_L_104 hB) (by decide) (jx_c5 hB) hM2.1 rfl (Nat.le_of_ble_eq_true rfl) (Nat.le_of_ble_eq_true rfl) (w_M_bar hB hM2 hR.I hN.1 hN.2.1 hN.2.2.1 (hys _) (hys _)) (fun v w3 hq => ?_) (fun x a w3 hq => by obtain ⟨hq, -⟩ := hq; cases hq)
  obtain ⟨e3, hM3, hF3⟩ := hq
  cases e3
  have h3 := h2a.mf hX hM3 hF3
  have h4 := h3.wk (fun D2 hD => hD)
  obtain ⟨-, -, hout3, -, hv3, -, -⟩ := h3
  refine jx_istore d_L_law_610 (Nat.le_of_ble_eq_true rfl) rfl ?_
  refine jx_aload_n d_L_law_612 rfl rfl ?_
  refine jx_callV_r (As := []) (rest := []) d_L_law_613 (m_M_thrown hB) (v_L_81 hB) (by decide) (jx_c5 hB) hM3.1 rfl (Nat.le_of_ble_eq_true rfl) (Nat.le_of_ble_eq_true rfl) (w_M_thrown hB hM3) ?_
  refine jx_iload d_L_law_616 rfl ?_
  refine jx_icmp_eq (tgt := 623) d_L_law_618 (by decide) (fun _ => ?_) (fun hc => absurd rfl hc)
  refine jx_iload d_L_law_623 rfl ?_
  refine jx_if_ne (tgt := 640) d_L_law_625 (by decide) (fun hc => ?_) (fun hc => ?_)
  · refine jx_goto (tgt := 1214) d_L_law_640 (by decide) ?_
    exact tl _ _ _ _ h4
  · refine jx_aload_n d_L_law_628 rfl rfl ?_
    refine jI_const d_L_law_629 ?_
    refine jI_lald (m := 1) (i := 0) d_L_law_630 hout3.1 hout3.2 (by decide) (by decide) (hv3 _ rfl hc) ?_
    refine jx_iload d_L_law_631 rfl ?_
    refine jx_i2l d_L_law_633 rfl ?_
    refine jx_lcmp d_L_law_634 ?_
    refine jx_if_eq (tgt := 640) d_L_law_635 (by decide) (fun _ => ?_) (fun hc2 => absurd (lg_self _) hc2)
    refine jx_goto (tgt := 1214) d_L_law_640 (by decide) ?_
    exact tl _ _ _ _ h4
theorem q_assign (hB : jx_B E) (hB2 : jx_B2 E mi) (hB3 : jx_B3 E z pa) (hX : lwX E m out b lo hi A) (hscr : ∃ cell, E.1.heap[b]? = some cell ∧ jx_pic E 100 L (fun j => .int (iI (ys j))) cell) (hys : ∀ j, iR (ys j)) (hL : L ≤ 100000) {i : Int} (hij : 0 ≤ i ∧ i ≤ (L : Int) - 5) (tl : lwT E l d nm tb ts m out b L lo hi A ys i) {S : mS} {w : jx_W} {X5 X6 : Option Value} (h : lwS E ts m out b L lo hi A ys S S none (10 * ((L : Int) - i) + 50) (1000 * ((L : Int) - i) + 5000) w) : jx_G E l (Yl nm tb) (d + 13) lwEnd 643 [some (.ref b), some (.ref ts), some (.ref m), some (.ref out), some (.int (iI i)), X5, X6] [] w := by
  obtain ⟨hM, ⟨D, G, hC, hR, hG⟩, hout, ⟨hk, hl, hv⟩, -, hcc, hss⟩ := h
  have hN := hR.2.1
  have hW : 50 ≤ jx_c w ∧ 5000 ≤ jx_s w := by constructor <;> omega
  have hoo : E.1.heap.size ≤ out := by have := hX.2.2.1; have := hX.2.2.2.1; omega
  refine jx_aload_n d_L_law_643 rfl rfl ?_
  refine jx_aload_n d_L_law_644 rfl rfl ?_
  refine jx_iload d_L_law_645 rfl ?_
  refine jI_const d_L_law_647 ?_
  refine jI_add d_L_law_648 ?_
  refine jI_iald (m := L) d_L_law_649 hk hl (by omega) ⟨by omega, by omega⟩ (hv _) ?_
  refine jx_aload_n d_L_law_650 rfl rfl ?_
  refine jx_callS (As := [.ref ts, .int (iI (ys (i + 1).toNat)), .ref out]) (rest := []) d_L_law_651 (m_L_assign hB) (s_L_105 hB) rfl (Nat.le_of_ble_eq_true rfl) (Nat.le_of_ble_eq_true rfl) (w_L_assign hB hB2 hB3 hC hR hG (hys _) hW hX.2.2.1 hoo hout.1 hout.2) (fun v w1 hq => ?_) (fun x a w1 hq => by obtain ⟨hq, -⟩ := hq; cases hq)
  obtain ⟨e1, hc1, hF1, hv1⟩ := hq
  cases e1
  refine lw_rec (cc2 := 10 * ((L : Int) - i)) (ss2 := 1000 * ((L : Int) - i)) hX hscr hM hout ⟨hcc, hss⟩ hc1 hF1 hv1 (by omega) (by omega) (fun w2 h2 => ?_)
  have h2a := h2
  obtain ⟨hM2, -, hout2, ⟨hk, hl, hv⟩, -, -, -⟩ := h2
  refine jx_istore d_L_law_654 (Nat.le_of_ble_eq_true rfl) rfl ?_
  refine jx_aload_n d_L_law_656 rfl rfl ?_
  refine jx_aload_n d_L_law_657 rfl rfl ?_
  refine jx_iload d_L_law_658 rfl ?_
  refine jI_const d_L_law_660 ?_
  refine jI_add d_L_law_661 ?_
  refine jI_iald (m := L) d_L_law_662 hk hl (by omega) ⟨by omega, by omega⟩ (hv _) ?_
  refine jx_callV (As := [.int (iI (ys (i + 1).toNat))]) (rest := []) d_L_law_663 (m_M_assign hB) (v_L_108 hB) (by decide) (jx_c5 hB) hM2.1 rfl (Nat.le_of_ble_eq_true rfl) (Nat.le_of_ble_eq_true rfl) (w_M_assign hB hM2 hR.I hN.1 hN.2.1 hN.2.2.1 (hys _)) (fun v w3 hq => ?_) (fun x a w3 hq => by obtain ⟨hq, -⟩ := hq; cases hq)
  obtain ⟨e3, T, hM3, hF3, hIT, hPT⟩ := hq
  cases e3
  have h3 := h2a.mf hX hM3 hF3
  have eT : T 3 0 = (oAssign S (ys (i + 1).toNat)).2 3 0 := by rw [hPT 3 (by decide)]
  have h4 := h3.wk (fun D2 hD => hD.cS hIT (fun f hf _ => hPT f hf))
  obtain ⟨-, -, hout3, -, hv3, -, -⟩ := h3
  refine jx_istore d_L_law_666 (Nat.le_of_ble_eq_true rfl) rfl ?_
  refine jx_aload_n d_L_law_668 rfl rfl ?_
  refine jx_callV_r (As := []) (rest := []) d_L_law_669 (m_M_thrown hB) (v_L_81 hB) (by decide) (jx_c5 hB) hM3.1 rfl (Nat.le_of_ble_eq_true rfl) (Nat.le_of_ble_eq_true rfl) (w_M_thrown hB hM3) ?_
  refine jx_iload d_L_law_672 rfl ?_
  refine jx_icmp_eq (tgt := 679) d_L_law_674 (by decide) (fun _ => ?_) (fun hc => absurd (congrArg iI eT) hc)
  refine jx_iload d_L_law_679 rfl ?_
  refine jx_if_ne (tgt := 696) d_L_law_681 (by decide) (fun hc => ?_) (fun hc => ?_)
  · refine jx_goto (tgt := 1214) d_L_law_696 (by decide) ?_
    exact tl _ _ _ _ h4
  · refine jx_aload_n d_L_law_684 rfl rfl ?_
    refine jI_const d_L_law_685 ?_
    refine jI_lald (m := 1) (i := 0) d_L_law_686 hout3.1 hout3.2 (by decide) (by decide) (hv3 _ rfl hc) ?_
    refine jx_iload d_L_law_687 rfl ?_
    refine jx_i2l d_L_law_689 rfl ?_
    refine jx_lcmp d_L_law_690 ?_
    refine jx_if_eq (tgt := 696) d_L_law_691 (by decide) (fun _ => ?_) (fun hc2 => absurd (lg_self _) hc2)
    refine jx_goto (tgt := 1214) d_L_law_696 (by decide) ?_
    exact tl _ _ _ _ h4
theorem q_exact (hB : jx_B E) (hB2 : jx_B2 E mi) (hB3 : jx_B3 E z pa) (hX : lwX E m out b lo hi A) (hscr : ∃ cell, E.1.heap[b]? = some cell ∧ jx_pic E 100 L (fun j => .int (iI (ys j))) cell) (hys : ∀ j, iR (ys j)) (hL : L ≤ 100000) {i : Int} (hij : 0 ≤ i ∧ i ≤ (L : Int) - 5) (tl : lwT E l d nm tb ts m out b L lo hi A ys i) {S : mS} {w : jx_W} {X5 X6 : Option Value} (h : lwS E ts m out b L lo hi A ys S S none (10 * ((L : Int) - i) + 50) (1000 * ((L : Int) - i) + 5000) w) : jx_G E l (Yl nm tb) (d + 13) lwEnd 699 [some (.ref b), some (.ref ts), some (.ref m), some (.ref out), some (.int (iI i)), X5, X6] [] w := by
  obtain ⟨hM, ⟨D, G, hC, hR, hG⟩, hout, ⟨hk, hl, hv⟩, -, hcc, hss⟩ := h
  have hN := hR.2.1
  have hW : 50 ≤ jx_c w ∧ 5000 ≤ jx_s w := by constructor <;> omega
  have hoo : E.1.heap.size ≤ out := by have := hX.2.2.1; have := hX.2.2.2.1; omega
  refine jx_aload_n d_L_law_699 rfl rfl ?_
  subst hG
  refine jx_callV (As := []) (rest := []) d_L_law_700 (m_T_exact hB) (v_L_109 hB) (by decide) (jx_c0 hB) (c_k0 hC) rfl (Nat.le_of_ble_eq_true rfl) (Nat.le_of_ble_eq_true rfl) (w_T_exact hB hC hR  hW) (fun v w1 hq => ?_) (fun x a w1 hq => by rcases hq with ⟨-, ⟨-, hq⟩ | ⟨hq, -⟩⟩ <;> first | (cases hq; done) | exact (hq (show sU S 3 0 0 3 0 = 0 from sU_same)).elim)
  obtain ⟨⟨D2, G2, hC2, hR2, hF2, hG2⟩, ⟨h30, e1⟩ | ⟨h30, ad, e1⟩⟩ := hq
  rotate_left
  · cases e1
  cases e1
  refine lw_rec (S2 := (oExact S).2) (x := none) (cc2 := 10 * ((L : Int) - i)) (ss2 := 1000 * ((L : Int) - i)) hX hscr hM hout ⟨hcc, hss⟩ ⟨D2, G2, hC2, hR2, hG2⟩ hF2.lw (fun y hy => by cases hy) (by omega) (by omega) (fun w2 h2 => ?_)
  have h2a := h2
  obtain ⟨hM2, -, hout2, ⟨hk, hl, hv⟩, -, -, -⟩ := h2
  refine jx_aload_n d_L_law_703 rfl rfl ?_
  refine jx_callV (As := []) (rest := [.int (iI (oExact S).1)]) d_L_law_704 (m_M_exact hB) (v_L_113 hB) (by decide) (jx_c5 hB) hM2.1 rfl (Nat.le_of_ble_eq_true rfl) (Nat.le_of_ble_eq_true rfl) (w_M_exact hB hM2 hR.I hN.2.2.2 ) (fun v w3 hq => ?_) (fun x a w3 hq => by obtain ⟨hq, -⟩ := hq; cases hq)
  obtain ⟨e3, hM3, hF3⟩ := hq
  cases e3
  have h4 := h2a.mf hX hM3 hF3
  exact jx_icmp_eq (tgt := 1214) d_L_law_707 (by decide) (fun _ => tl _ _ _ _ h4) (fun hc => absurd rfl hc)
theorem q_bound (hB : jx_B E) (hB2 : jx_B2 E mi) (hB3 : jx_B3 E z pa) (hX : lwX E m out b lo hi A) (hscr : ∃ cell, E.1.heap[b]? = some cell ∧ jx_pic E 100 L (fun j => .int (iI (ys j))) cell) (hys : ∀ j, iR (ys j)) (hL : L ≤ 100000) {i : Int} (hij : 0 ≤ i ∧ i ≤ (L : Int) - 5) (tl : lwT E l d nm tb ts m out b L lo hi A ys i) {S : mS} {w : jx_W} {X5 X6 : Option Value} (h : lwS E ts m out b L lo hi A ys S S none (10 * ((L : Int) - i) + 50) (1000 * ((L : Int) - i) + 5000) w) : jx_G E l (Yl nm tb) (d + 13) lwEnd 712 [some (.ref b), some (.ref ts), some (.ref m), some (.ref out), some (.int (iI i)), X5, X6] [] w := by
  obtain ⟨hM, ⟨D, G, hC, hR, hG⟩, hout, ⟨hk, hl, hv⟩, -, hcc, hss⟩ := h
  have hN := hR.2.1
  have hW : 50 ≤ jx_c w ∧ 5000 ≤ jx_s w := by constructor <;> omega
  have hoo : E.1.heap.size ≤ out := by have := hX.2.2.1; have := hX.2.2.2.1; omega
  refine jx_aload_n d_L_law_712 rfl rfl ?_
  subst hG
  refine jx_callV_r (As := []) (rest := []) d_L_law_713 (m_T_bound hB) (v_L_114 hB) (by decide) (jx_c0 hB) (c_k0 hC) rfl (Nat.le_of_ble_eq_true rfl) (Nat.le_of_ble_eq_true rfl) (w_T_bound hB hC hR) ?_
  have hF1 : cF lo hi 50 w w := cF.rf.tr cF.rf (by decide)
  refine lw_rec (S2 := (oBound S).2) (x := none) (cc2 := 10 * ((L : Int) - i)) (ss2 := 1000 * ((L : Int) - i)) hX hscr hM hout ⟨hcc, hss⟩ ⟨D, G, hC, hR.s3 0, rfl⟩ hF1.lw (fun y hy => by cases hy) (by omega) (by omega) (fun w2 h2 => ?_)
  have h2a := h2
  obtain ⟨hM2, -, hout2, ⟨hk, hl, hv⟩, -, -, -⟩ := h2
  refine jx_aload_n d_L_law_716 rfl rfl ?_
  refine jx_callV (As := []) (rest := [.int (iI (oBound S).1)]) d_L_law_717 (m_M_bound hB) (v_L_117 hB) (by decide) (jx_c5 hB) hM2.1 rfl (Nat.le_of_ble_eq_true rfl) (Nat.le_of_ble_eq_true rfl) (w_M_bound hB hM2 hR.I hN.1 hN.2.1 hN.2.2.1 ) (fun v w3 hq => ?_) (fun x a w3 hq => by obtain ⟨hq, -⟩ := hq; cases hq)
  obtain ⟨e3, hM3, hF3⟩ := hq
  cases e3
  have h4 := h2a.mf hX hM3 hF3
  exact jx_icmp_eq (tgt := 1214) d_L_law_720 (by decide) (fun _ => tl _ _ _ _ h4) (fun hc => absurd rfl hc)
theorem q_give (hB : jx_B E) (hB2 : jx_B2 E mi) (hB3 : jx_B3 E z pa) (hX : lwX E m out b lo hi A) (hscr : ∃ cell, E.1.heap[b]? = some cell ∧ jx_pic E 100 L (fun j => .int (iI (ys j))) cell) (hys : ∀ j, iR (ys j)) (hL : L ≤ 100000) {i : Int} (hij : 0 ≤ i ∧ i ≤ (L : Int) - 5) (tl : lwT E l d nm tb ts m out b L lo hi A ys i) {S : mS} {w : jx_W} {X5 X6 : Option Value} (h : lwS E ts m out b L lo hi A ys S S none (10 * ((L : Int) - i) + 50) (1000 * ((L : Int) - i) + 5000) w) : jx_G E l (Yl nm tb) (d + 13) lwEnd 725 [some (.ref b), some (.ref ts), some (.ref m), some (.ref out), some (.int (iI i)), X5, X6] [] w := by
  obtain ⟨hM, ⟨D, G, hC, hR, hG⟩, hout, ⟨hk, hl, hv⟩, -, hcc, hss⟩ := h
  have hN := hR.2.1
  have hW : 50 ≤ jx_c w ∧ 5000 ≤ jx_s w := by constructor <;> omega
  have hoo : E.1.heap.size ≤ out := by have := hX.2.2.1; have := hX.2.2.2.1; omega
  refine jx_aload_n d_L_law_725 rfl rfl ?_
  refine jx_aload_n d_L_law_726 rfl rfl ?_
  refine jx_iload d_L_law_727 rfl ?_
  refine jI_const d_L_law_729 ?_
  refine jI_add d_L_law_730 ?_
  refine jI_iald (m := L) d_L_law_731 hk hl (by omega) ⟨by omega, by omega⟩ (hv _) ?_
  refine jx_aload_n d_L_law_732 rfl rfl ?_
  refine jx_callS (As := [.ref ts, .int (iI (ys (i + 1).toNat)), .ref out]) (rest := []) d_L_law_733 (m_L_give hB) (s_L_118 hB) rfl (Nat.le_of_ble_eq_true rfl) (Nat.le_of_ble_eq_true rfl) (w_L_give hB hB2 hB3 hC hR hG (hys _) hW hX.2.2.1 hoo hout.1 hout.2) (fun v w1 hq => ?_) (fun x a w1 hq => by obtain ⟨hq, -⟩ := hq; cases hq)
  obtain ⟨e1, hc1, hF1, hv1⟩ := hq
  cases e1
  refine lw_rec (cc2 := 10 * ((L : Int) - i)) (ss2 := 1000 * ((L : Int) - i)) hX hscr hM hout ⟨hcc, hss⟩ hc1 hF1 hv1 (by omega) (by omega) (fun w2 h2 => ?_)
  have h2a := h2
  obtain ⟨hM2, -, hout2, ⟨hk, hl, hv⟩, -, -, -⟩ := h2
  refine jx_istore d_L_law_736 (Nat.le_of_ble_eq_true rfl) rfl ?_
  refine jx_aload_n d_L_law_738 rfl rfl ?_
  refine jx_aload_n d_L_law_739 rfl rfl ?_
  refine jx_iload d_L_law_740 rfl ?_
  refine jI_const d_L_law_742 ?_
  refine jI_add d_L_law_743 ?_
  refine jI_iald (m := L) d_L_law_744 hk hl (by omega) ⟨by omega, by omega⟩ (hv _) ?_
  refine jx_callV (As := [.int (iI (ys (i + 1).toNat))]) (rest := []) d_L_law_745 (m_M_give hB) (v_L_120 hB) (by decide) (jx_c5 hB) hM2.1 rfl (Nat.le_of_ble_eq_true rfl) (Nat.le_of_ble_eq_true rfl) (w_M_give hB hM2 hR.I hN.1 hN.2.1 hN.2.2.1 (hys _)) (fun v w3 hq => ?_) (fun x a w3 hq => by obtain ⟨hq, -⟩ := hq; cases hq)
  obtain ⟨e3, hM3, hF3⟩ := hq
  cases e3
  have h3 := h2a.mf hX hM3 hF3
  have h4 := h3.wk (fun D2 hD => hD)
  obtain ⟨-, -, hout3, -, hv3, -, -⟩ := h3
  refine jx_istore d_L_law_748 (Nat.le_of_ble_eq_true rfl) rfl ?_
  refine jx_aload_n d_L_law_750 rfl rfl ?_
  refine jx_callV_r (As := []) (rest := []) d_L_law_751 (m_M_thrown hB) (v_L_81 hB) (by decide) (jx_c5 hB) hM3.1 rfl (Nat.le_of_ble_eq_true rfl) (Nat.le_of_ble_eq_true rfl) (w_M_thrown hB hM3) ?_
  refine jx_iload d_L_law_754 rfl ?_
  refine jx_icmp_eq (tgt := 761) d_L_law_756 (by decide) (fun _ => ?_) (fun hc => absurd rfl hc)
  refine jx_iload d_L_law_761 rfl ?_
  refine jx_if_ne (tgt := 778) d_L_law_763 (by decide) (fun hc => ?_) (fun hc => ?_)
  · refine jx_goto (tgt := 1214) d_L_law_778 (by decide) ?_
    exact tl _ _ _ _ h4
  · refine jx_aload_n d_L_law_766 rfl rfl ?_
    refine jI_const d_L_law_767 ?_
    refine jI_lald (m := 1) (i := 0) d_L_law_768 hout3.1 hout3.2 (by decide) (by decide) (hv3 _ rfl hc) ?_
    refine jx_iload d_L_law_769 rfl ?_
    refine jx_i2l d_L_law_771 rfl ?_
    refine jx_lcmp d_L_law_772 ?_
    refine jx_if_eq (tgt := 778) d_L_law_773 (by decide) (fun _ => ?_) (fun hc2 => absurd (lg_self _) hc2)
    refine jx_goto (tgt := 1214) d_L_law_778 (by decide) ?_
    exact tl _ _ _ _ h4
theorem q_done (hB : jx_B E) (hB2 : jx_B2 E mi) (hB3 : jx_B3 E z pa) (hX : lwX E m out b lo hi A) (hscr : ∃ cell, E.1.heap[b]? = some cell ∧ jx_pic E 100 L (fun j => .int (iI (ys j))) cell) (hys : ∀ j, iR (ys j)) (hL : L ≤ 100000) {i : Int} (hij : 0 ≤ i ∧ i ≤ (L : Int) - 5) (tl : lwT E l d nm tb ts m out b L lo hi A ys i) {S : mS} {w : jx_W} {X5 X6 : Option Value} (h : lwS E ts m out b L lo hi A ys S S none (10 * ((L : Int) - i) + 50) (1000 * ((L : Int) - i) + 5000) w) : jx_G E l (Yl nm tb) (d + 13) lwEnd 781 [some (.ref b), some (.ref ts), some (.ref m), some (.ref out), some (.int (iI i)), X5, X6] [] w := by
  obtain ⟨hM, ⟨D, G, hC, hR, hG⟩, hout, ⟨hk, hl, hv⟩, -, hcc, hss⟩ := h
  have hN := hR.2.1
  have hW : 50 ≤ jx_c w ∧ 5000 ≤ jx_s w := by constructor <;> omega
  have hoo : E.1.heap.size ≤ out := by have := hX.2.2.1; have := hX.2.2.2.1; omega
  refine jx_aload_n d_L_law_781 rfl rfl ?_
  refine jx_aload_n d_L_law_782 rfl rfl ?_
  refine jx_iload d_L_law_783 rfl ?_
  refine jI_const d_L_law_785 ?_
  refine jI_add d_L_law_786 ?_
  refine jI_iald (m := L) d_L_law_787 hk hl (by omega) ⟨by omega, by omega⟩ (hv _) ?_
  refine jx_aload_n d_L_law_788 rfl rfl ?_
  refine jx_callS (As := [.ref ts, .int (iI (ys (i + 1).toNat)), .ref out]) (rest := []) d_L_law_789 (m_L_done hB) (s_L_121 hB) rfl (Nat.le_of_ble_eq_true rfl) (Nat.le_of_ble_eq_true rfl) (w_L_done hB hB2 hB3 hC hR hG (hys _) hW hX.2.2.1 hoo hout.1 hout.2) (fun v w1 hq => ?_) (fun x a w1 hq => by obtain ⟨hq, -⟩ := hq; cases hq)
  obtain ⟨e1, hc1, hF1, hv1⟩ := hq
  cases e1
  refine lw_rec (cc2 := 10 * ((L : Int) - i)) (ss2 := 1000 * ((L : Int) - i)) hX hscr hM hout ⟨hcc, hss⟩ hc1 hF1 hv1 (by omega) (by omega) (fun w2 h2 => ?_)
  have h2a := h2
  obtain ⟨hM2, -, hout2, ⟨hk, hl, hv⟩, -, -, -⟩ := h2
  refine jx_istore d_L_law_792 (Nat.le_of_ble_eq_true rfl) rfl ?_
  refine jx_aload_n d_L_law_794 rfl rfl ?_
  refine jx_aload_n d_L_law_795 rfl rfl ?_
  refine jx_iload d_L_law_796 rfl ?_
  refine jI_const d_L_law_798 ?_
  refine jI_add d_L_law_799 ?_
  refine jI_iald (m := L) d_L_law_800 hk hl (by omega) ⟨by omega, by omega⟩ (hv _) ?_
  refine jx_callV (As := [.int (iI (ys (i + 1).toNat))]) (rest := []) d_L_law_801 (m_M_done hB) (v_L_123 hB) (by decide) (jx_c5 hB) hM2.1 rfl (Nat.le_of_ble_eq_true rfl) (Nat.le_of_ble_eq_true rfl) (w_M_done hB hM2 hR.I hN.1 hN.2.1 hN.2.2.1 (hys _)) (fun v w3 hq => ?_) (fun x a w3 hq => by obtain ⟨hq, -⟩ := hq; cases hq)
  obtain ⟨e3, hM3, hF3⟩ := hq
  cases e3
  have h3 := h2a.mf hX hM3 hF3
  have h4 := h3.wk (fun D2 hD => hD)
  obtain ⟨-, -, hout3, -, hv3, -, -⟩ := h3
  refine jx_istore d_L_law_804 (Nat.le_of_ble_eq_true rfl) rfl ?_
  refine jx_aload_n d_L_law_806 rfl rfl ?_
  refine jx_callV_r (As := []) (rest := []) d_L_law_807 (m_M_thrown hB) (v_L_81 hB) (by decide) (jx_c5 hB) hM3.1 rfl (Nat.le_of_ble_eq_true rfl) (Nat.le_of_ble_eq_true rfl) (w_M_thrown hB hM3) ?_
  refine jx_iload d_L_law_810 rfl ?_
  refine jx_icmp_eq (tgt := 817) d_L_law_812 (by decide) (fun _ => ?_) (fun hc => absurd rfl hc)
  refine jx_iload d_L_law_817 rfl ?_
  refine jx_if_ne (tgt := 834) d_L_law_819 (by decide) (fun hc => ?_) (fun hc => ?_)
  · refine jx_goto (tgt := 1214) d_L_law_834 (by decide) ?_
    exact tl _ _ _ _ h4
  · refine jx_aload_n d_L_law_822 rfl rfl ?_
    refine jI_const d_L_law_823 ?_
    refine jI_lald (m := 1) (i := 0) d_L_law_824 hout3.1 hout3.2 (by decide) (by decide) (hv3 _ rfl hc) ?_
    refine jx_iload d_L_law_825 rfl ?_
    refine jx_i2l d_L_law_827 rfl ?_
    refine jx_lcmp d_L_law_828 ?_
    refine jx_if_eq (tgt := 834) d_L_law_829 (by decide) (fun _ => ?_) (fun hc2 => absurd (lg_self _) hc2)
    refine jx_goto (tgt := 1214) d_L_law_834 (by decide) ?_
    exact tl _ _ _ _ h4
theorem q_leaves (hB : jx_B E) (hB2 : jx_B2 E mi) (hB3 : jx_B3 E z pa) (hX : lwX E m out b lo hi A) (hscr : ∃ cell, E.1.heap[b]? = some cell ∧ jx_pic E 100 L (fun j => .int (iI (ys j))) cell) (hys : ∀ j, iR (ys j)) (hL : L ≤ 100000) {i : Int} (hij : 0 ≤ i ∧ i ≤ (L : Int) - 5) (tl : lwT E l d nm tb ts m out b L lo hi A ys i) {S : mS} {w : jx_W} {X5 X6 : Option Value} (h : lwS E ts m out b L lo hi A ys S S none (10 * ((L : Int) - i) + 50) (1000 * ((L : Int) - i) + 5000) w) : jx_G E l (Yl nm tb) (d + 13) lwEnd 837 [some (.ref b), some (.ref ts), some (.ref m), some (.ref out), some (.int (iI i)), X5, X6] [] w := by
  obtain ⟨hM, ⟨D, G, hC, hR, hG⟩, hout, ⟨hk, hl, hv⟩, -, hcc, hss⟩ := h
  have hN := hR.2.1
  have hW : 50 ≤ jx_c w ∧ 5000 ≤ jx_s w := by constructor <;> omega
  have hoo : E.1.heap.size ≤ out := by have := hX.2.2.1; have := hX.2.2.2.1; omega
  refine jx_aload_n d_L_law_837 rfl rfl ?_
  refine jx_aload_n d_L_law_838 rfl rfl ?_
  refine jx_iload d_L_law_839 rfl ?_
  refine jI_const d_L_law_841 ?_
  refine jI_add d_L_law_842 ?_
  refine jI_iald (m := L) d_L_law_843 hk hl (by omega) ⟨by omega, by omega⟩ (hv _) ?_
  refine jx_aload_n d_L_law_844 rfl rfl ?_
  refine jx_callS (As := [.ref ts, .int (iI (ys (i + 1).toNat)), .ref out]) (rest := []) d_L_law_845 (m_L_leaves hB) (s_L_124 hB) rfl (Nat.le_of_ble_eq_true rfl) (Nat.le_of_ble_eq_true rfl) (w_L_leaves hB hB2 hB3 hC hR hG (hys _) hW hX.2.2.1 hoo hout.1 hout.2) (fun v w1 hq => ?_) (fun x a w1 hq => by obtain ⟨hq, -⟩ := hq; cases hq)
  obtain ⟨e1, hc1, hF1, hv1⟩ := hq
  cases e1
  refine lw_rec (cc2 := 10 * ((L : Int) - i)) (ss2 := 1000 * ((L : Int) - i)) hX hscr hM hout ⟨hcc, hss⟩ hc1 hF1 hv1 (by omega) (by omega) (fun w2 h2 => ?_)
  have h2a := h2
  obtain ⟨hM2, -, hout2, ⟨hk, hl, hv⟩, -, -, -⟩ := h2
  refine jx_istore d_L_law_848 (Nat.le_of_ble_eq_true rfl) rfl ?_
  refine jx_aload_n d_L_law_850 rfl rfl ?_
  refine jx_aload_n d_L_law_851 rfl rfl ?_
  refine jx_iload d_L_law_852 rfl ?_
  refine jI_const d_L_law_854 ?_
  refine jI_add d_L_law_855 ?_
  refine jI_iald (m := L) d_L_law_856 hk hl (by omega) ⟨by omega, by omega⟩ (hv _) ?_
  refine jx_callV (As := [.int (iI (ys (i + 1).toNat))]) (rest := []) d_L_law_857 (m_M_leaves hB) (v_L_126 hB) (by decide) (jx_c5 hB) hM2.1 rfl (Nat.le_of_ble_eq_true rfl) (Nat.le_of_ble_eq_true rfl) (w_M_leaves hB hM2 hR.I hN.1 hN.2.1 (hys _)) (fun v w3 hq => ?_) (fun x a w3 hq => by obtain ⟨hq, -⟩ := hq; cases hq)
  obtain ⟨e3, hM3, hF3⟩ := hq
  cases e3
  have h3 := h2a.mf hX hM3 hF3
  have h4 := h3.wk (fun D2 hD => hD)
  obtain ⟨-, -, hout3, -, hv3, -, -⟩ := h3
  refine jx_istore d_L_law_860 (Nat.le_of_ble_eq_true rfl) rfl ?_
  refine jx_aload_n d_L_law_862 rfl rfl ?_
  refine jx_callV_r (As := []) (rest := []) d_L_law_863 (m_M_thrown hB) (v_L_81 hB) (by decide) (jx_c5 hB) hM3.1 rfl (Nat.le_of_ble_eq_true rfl) (Nat.le_of_ble_eq_true rfl) (w_M_thrown hB hM3) ?_
  refine jx_iload d_L_law_866 rfl ?_
  refine jx_icmp_eq (tgt := 873) d_L_law_868 (by decide) (fun _ => ?_) (fun hc => absurd rfl hc)
  refine jx_iload d_L_law_873 rfl ?_
  refine jx_if_ne (tgt := 890) d_L_law_875 (by decide) (fun hc => ?_) (fun hc => ?_)
  · refine jx_goto (tgt := 1214) d_L_law_890 (by decide) ?_
    exact tl _ _ _ _ h4
  · refine jx_aload_n d_L_law_878 rfl rfl ?_
    refine jI_const d_L_law_879 ?_
    refine jI_lald (m := 1) (i := 0) d_L_law_880 hout3.1 hout3.2 (by decide) (by decide) (hv3 _ rfl hc) ?_
    refine jx_iload d_L_law_881 rfl ?_
    refine jx_i2l d_L_law_883 rfl ?_
    refine jx_lcmp d_L_law_884 ?_
    refine jx_if_eq (tgt := 890) d_L_law_885 (by decide) (fun _ => ?_) (fun hc2 => absurd (lg_self _) hc2)
    refine jx_goto (tgt := 1214) d_L_law_890 (by decide) ?_
    exact tl _ _ _ _ h4
theorem q_fair (hB : jx_B E) (hB2 : jx_B2 E mi) (hB3 : jx_B3 E z pa) (hX : lwX E m out b lo hi A) (hscr : ∃ cell, E.1.heap[b]? = some cell ∧ jx_pic E 100 L (fun j => .int (iI (ys j))) cell) (hys : ∀ j, iR (ys j)) (hL : L ≤ 100000) {i : Int} (hij : 0 ≤ i ∧ i ≤ (L : Int) - 5) (tl : lwT E l d nm tb ts m out b L lo hi A ys i) {S : mS} {w : jx_W} {X5 X6 : Option Value} (h : lwS E ts m out b L lo hi A ys S S none (10 * ((L : Int) - i) + 50) (1000 * ((L : Int) - i) + 5000) w) : jx_G E l (Yl nm tb) (d + 13) lwEnd 893 [some (.ref b), some (.ref ts), some (.ref m), some (.ref out), some (.int (iI i)), X5, X6] [] w := by
  obtain ⟨hM, ⟨D, G, hC, hR, hG⟩, hout, ⟨hk, hl, hv⟩, -, hcc, hss⟩ := h
  have hN := hR.2.1
  have hW : 50 ≤ jx_c w ∧ 5000 ≤ jx_s w := by constructor <;> omega
  have hoo : E.1.heap.size ≤ out := by have := hX.2.2.1; have := hX.2.2.2.1; omega
  refine jx_aload_n d_L_law_893 rfl rfl ?_
  refine jx_aload_n d_L_law_894 rfl rfl ?_
  refine jx_iload d_L_law_895 rfl ?_
  refine jI_const d_L_law_897 ?_
  refine jI_add d_L_law_898 ?_
  refine jI_iald (m := L) d_L_law_899 hk hl (by omega) ⟨by omega, by omega⟩ (hv _) ?_
  refine jx_aload_n d_L_law_900 rfl rfl ?_
  refine jx_callS (As := [.ref ts, .int (iI (ys (i + 1).toNat)), .ref out]) (rest := []) d_L_law_901 (m_L_fair hB) (s_L_127 hB) rfl (Nat.le_of_ble_eq_true rfl) (Nat.le_of_ble_eq_true rfl) (w_L_fair hB hB2 hB3 hC hR hG (hys _) hW hX.2.2.1 hoo hout.1 hout.2) (fun v w1 hq => ?_) (fun x a w1 hq => by obtain ⟨hq, -⟩ := hq; cases hq)
  obtain ⟨e1, hc1, hF1, hv1⟩ := hq
  cases e1
  refine lw_rec (cc2 := 10 * ((L : Int) - i)) (ss2 := 1000 * ((L : Int) - i)) hX hscr hM hout ⟨hcc, hss⟩ hc1 hF1 hv1 (by omega) (by omega) (fun w2 h2 => ?_)
  have h2a := h2
  obtain ⟨hM2, -, hout2, ⟨hk, hl, hv⟩, -, -, -⟩ := h2
  refine jx_istore d_L_law_904 (Nat.le_of_ble_eq_true rfl) rfl ?_
  refine jx_aload_n d_L_law_906 rfl rfl ?_
  refine jx_aload_n d_L_law_907 rfl rfl ?_
  refine jx_iload d_L_law_908 rfl ?_
  refine jI_const d_L_law_910 ?_
  refine jI_add d_L_law_911 ?_
  refine jI_iald (m := L) d_L_law_912 hk hl (by omega) ⟨by omega, by omega⟩ (hv _) ?_
  refine jx_callV (As := [.int (iI (ys (i + 1).toNat))]) (rest := []) d_L_law_913 (m_M_fair hB) (v_L_129 hB) (by decide) (jx_c5 hB) hM2.1 rfl (Nat.le_of_ble_eq_true rfl) (Nat.le_of_ble_eq_true rfl) (w_M_fair hB hM2 hR.I hN.1 hN.2.1 (hys _)) (fun v w3 hq => ?_) (fun x a w3 hq => by obtain ⟨hq, -⟩ := hq; cases hq)
  obtain ⟨e3, hM3, hF3⟩ := hq
  cases e3
  have h3 := h2a.mf hX hM3 hF3
  have h4 := h3.wk (fun D2 hD => hD)
  obtain ⟨-, -, hout3, -, hv3, -, -⟩ := h3
  refine jx_istore d_L_law_916 (Nat.le_of_ble_eq_true rfl) rfl ?_
  refine jx_aload_n d_L_law_918 rfl rfl ?_
  refine jx_callV_r (As := []) (rest := []) d_L_law_919 (m_M_thrown hB) (v_L_81 hB) (by decide) (jx_c5 hB) hM3.1 rfl (Nat.le_of_ble_eq_true rfl) (Nat.le_of_ble_eq_true rfl) (w_M_thrown hB hM3) ?_
  refine jx_iload d_L_law_922 rfl ?_
  refine jx_icmp_eq (tgt := 929) d_L_law_924 (by decide) (fun _ => ?_) (fun hc => absurd rfl hc)
  refine jx_iload d_L_law_929 rfl ?_
  refine jx_if_ne (tgt := 946) d_L_law_931 (by decide) (fun hc => ?_) (fun hc => ?_)
  · refine jx_goto (tgt := 1214) d_L_law_946 (by decide) ?_
    exact tl _ _ _ _ h4
  · refine jx_aload_n d_L_law_934 rfl rfl ?_
    refine jI_const d_L_law_935 ?_
    refine jI_lald (m := 1) (i := 0) d_L_law_936 hout3.1 hout3.2 (by decide) (by decide) (hv3 _ rfl hc) ?_
    refine jx_iload d_L_law_937 rfl ?_
    refine jx_i2l d_L_law_939 rfl ?_
    refine jx_lcmp d_L_law_940 ?_
    refine jx_if_eq (tgt := 946) d_L_law_941 (by decide) (fun _ => ?_) (fun hc2 => absurd (lg_self _) hc2)
    refine jx_goto (tgt := 1214) d_L_law_946 (by decide) ?_
    exact tl _ _ _ _ h4
theorem q_pass (hB : jx_B E) (hB2 : jx_B2 E mi) (hB3 : jx_B3 E z pa) (hX : lwX E m out b lo hi A) (hscr : ∃ cell, E.1.heap[b]? = some cell ∧ jx_pic E 100 L (fun j => .int (iI (ys j))) cell) (hys : ∀ j, iR (ys j)) (hL : L ≤ 100000) {i : Int} (hij : 0 ≤ i ∧ i ≤ (L : Int) - 5) (tl : lwT E l d nm tb ts m out b L lo hi A ys i) {S : mS} {w : jx_W} {X5 X6 : Option Value} (h : lwS E ts m out b L lo hi A ys S S none (10 * ((L : Int) - i) + 50) (1000 * ((L : Int) - i) + 5000) w) : jx_G E l (Yl nm tb) (d + 13) lwEnd 949 [some (.ref b), some (.ref ts), some (.ref m), some (.ref out), some (.int (iI i)), X5, X6] [] w := by
  obtain ⟨hM, ⟨D, G, hC, hR, hG⟩, hout, ⟨hk, hl, hv⟩, -, hcc, hss⟩ := h
  have hN := hR.2.1
  have hW : 50 ≤ jx_c w ∧ 5000 ≤ jx_s w := by constructor <;> omega
  have hoo : E.1.heap.size ≤ out := by have := hX.2.2.1; have := hX.2.2.2.1; omega
  refine jx_aload_n d_L_law_949 rfl rfl ?_
  refine jx_aload_n d_L_law_950 rfl rfl ?_
  refine jx_iload d_L_law_951 rfl ?_
  refine jI_const d_L_law_953 ?_
  refine jI_add d_L_law_954 ?_
  refine jI_iald (m := L) d_L_law_955 hk hl (by omega) ⟨by omega, by omega⟩ (hv _) ?_
  refine jx_callS (As := [.ref ts, .int (iI (ys (i + 1).toNat))]) (rest := []) d_L_law_956 (m_L_pass hB) (s_L_130 hB) rfl (Nat.le_of_ble_eq_true rfl) (Nat.le_of_ble_eq_true rfl) (w_L_pass hB hB2 hB3 hC hR hG (hys _) hW hX.2.2.1 hoo hout.1 hout.2) (fun v w1 hq => ?_) (fun x a w1 hq => by obtain ⟨hq, -⟩ := hq; cases hq)
  obtain ⟨e1, hc1, hF1, hv1⟩ := hq
  cases e1
  refine lw_rec (cc2 := 10 * ((L : Int) - i)) (ss2 := 1000 * ((L : Int) - i)) hX hscr hM hout ⟨hcc, hss⟩ hc1 hF1 hv1 (by omega) (by omega) (fun w2 h2 => ?_)
  have h2a := h2
  obtain ⟨hM2, -, hout2, ⟨hk, hl, hv⟩, -, -, -⟩ := h2
  refine jx_istore d_L_law_959 (Nat.le_of_ble_eq_true rfl) rfl ?_
  refine jx_aload_n d_L_law_961 rfl rfl ?_
  refine jx_aload_n d_L_law_962 rfl rfl ?_
  refine jx_iload d_L_law_963 rfl ?_
  refine jI_const d_L_law_965 ?_
  refine jI_add d_L_law_966 ?_
  refine jI_iald (m := L) d_L_law_967 hk hl (by omega) ⟨by omega, by omega⟩ (hv _) ?_
  refine jx_callV (As := [.int (iI (ys (i + 1).toNat))]) (rest := []) d_L_law_968 (m_M_pass hB) (v_L_133 hB) (by decide) (jx_c5 hB) hM2.1 rfl (Nat.le_of_ble_eq_true rfl) (Nat.le_of_ble_eq_true rfl) (w_M_pass hB hM2 hR.I hN.2.2.1 (hys _)) (fun v w3 hq => ?_) (fun x a w3 hq => by obtain ⟨hq, -⟩ := hq; cases hq)
  obtain ⟨e3, hM3, hF3⟩ := hq
  cases e3
  have h3 := h2a.mf hX hM3 hF3
  have h4 := h3.wk (fun D2 hD => hD)
  obtain ⟨-, -, hout3, -, hv3, -, -⟩ := h3
  refine jx_aload_n d_L_law_971 rfl rfl ?_
  refine jx_callV_r (As := []) (rest := []) d_L_law_972 (m_M_thrown hB) (v_L_81 hB) (by decide) (jx_c5 hB) hM3.1 rfl (Nat.le_of_ble_eq_true rfl) (Nat.le_of_ble_eq_true rfl) (w_M_thrown hB hM3) ?_
  refine jx_iload d_L_law_975 rfl ?_
  refine jx_icmp_eq (tgt := 982) d_L_law_977 (by decide) (fun _ => ?_) (fun hc => absurd rfl hc)
  refine jx_goto (tgt := 1214) d_L_law_982 (by decide) ?_
  exact tl _ _ _ _ h4
theorem q_order (hB : jx_B E) (hB2 : jx_B2 E mi) (hB3 : jx_B3 E z pa) (hX : lwX E m out b lo hi A) (hscr : ∃ cell, E.1.heap[b]? = some cell ∧ jx_pic E 100 L (fun j => .int (iI (ys j))) cell) (hys : ∀ j, iR (ys j)) (hL : L ≤ 100000) {i : Int} (hij : 0 ≤ i ∧ i ≤ (L : Int) - 5) (tl : lwT E l d nm tb ts m out b L lo hi A ys i) {S : mS} {w : jx_W} {X5 X6 : Option Value} (h : lwS E ts m out b L lo hi A ys S S none (10 * ((L : Int) - i) + 50) (1000 * ((L : Int) - i) + 5000) w) : jx_G E l (Yl nm tb) (d + 13) lwEnd 985 [some (.ref b), some (.ref ts), some (.ref m), some (.ref out), some (.int (iI i)), X5, X6] [] w := by
  obtain ⟨hM, ⟨D, G, hC, hR, hG⟩, hout, ⟨hk, hl, hv⟩, -, hcc, hss⟩ := h
  have hN := hR.2.1
  have hW : 50 ≤ jx_c w ∧ 5000 ≤ jx_s w := by constructor <;> omega
  have hoo : E.1.heap.size ≤ out := by have := hX.2.2.1; have := hX.2.2.2.1; omega
  refine jx_aload_n d_L_law_985 rfl rfl ?_
  refine jx_aload_n d_L_law_986 rfl rfl ?_
  refine jx_iload d_L_law_987 rfl ?_
  refine jI_const d_L_law_989 ?_
  refine jI_add d_L_law_990 ?_
  refine jI_iald (m := L) d_L_law_991 hk hl (by omega) ⟨by omega, by omega⟩ (hv _) ?_
  refine jx_aload_n d_L_law_992 rfl rfl ?_
  refine jx_iload d_L_law_993 rfl ?_
  refine jI_const d_L_law_995 ?_
  refine jI_add d_L_law_996 ?_
  refine jI_iald (m := L) d_L_law_997 hk hl (by omega) ⟨by omega, by omega⟩ (hv _) ?_
  refine jx_aload_n d_L_law_998 rfl rfl ?_
  refine jx_callS (As := [.ref ts, .int (iI (ys (i + 1).toNat)), .int (iI (ys (i + 2).toNat)), .ref out]) (rest := []) d_L_law_999 (m_L_order hB) (s_L_134 hB) rfl (Nat.le_of_ble_eq_true rfl) (Nat.le_of_ble_eq_true rfl) (w_L_order hB hB2 hB3 hC hR hG (hys _) (hys _) hW hX.2.2.1 hoo hout.1 hout.2) (fun v w1 hq => ?_) (fun x a w1 hq => by obtain ⟨hq, -⟩ := hq; cases hq)
  obtain ⟨e1, hc1, hF1, hv1⟩ := hq
  cases e1
  refine lw_rec (cc2 := 10 * ((L : Int) - i)) (ss2 := 1000 * ((L : Int) - i)) hX hscr hM hout ⟨hcc, hss⟩ hc1 hF1 hv1 (by omega) (by omega) (fun w2 h2 => ?_)
  have h2a := h2
  obtain ⟨hM2, -, hout2, ⟨hk, hl, hv⟩, -, -, -⟩ := h2
  refine jx_istore d_L_law_1002 (Nat.le_of_ble_eq_true rfl) rfl ?_
  refine jx_aload_n d_L_law_1004 rfl rfl ?_
  refine jx_aload_n d_L_law_1005 rfl rfl ?_
  refine jx_iload d_L_law_1006 rfl ?_
  refine jI_const d_L_law_1008 ?_
  refine jI_add d_L_law_1009 ?_
  refine jI_iald (m := L) d_L_law_1010 hk hl (by omega) ⟨by omega, by omega⟩ (hv _) ?_
  refine jx_aload_n d_L_law_1011 rfl rfl ?_
  refine jx_iload d_L_law_1012 rfl ?_
  refine jI_const d_L_law_1014 ?_
  refine jI_add d_L_law_1015 ?_
  refine jI_iald (m := L) d_L_law_1016 hk hl (by omega) ⟨by omega, by omega⟩ (hv _) ?_
  refine jx_callV (As := [.int (iI (ys (i + 1).toNat)), .int (iI (ys (i + 2).toNat))]) (rest := []) d_L_law_1017 (m_M_order hB) (v_L_136 hB) (by decide) (jx_c5 hB) hM2.1 rfl (Nat.le_of_ble_eq_true rfl) (Nat.le_of_ble_eq_true rfl) (w_M_order hB hM2 hR.I hN.1 hN.2.1 (hys _) (hys _)) (fun v w3 hq => ?_) (fun x a w3 hq => by obtain ⟨hq, -⟩ := hq; cases hq)
  obtain ⟨e3, hM3, hF3⟩ := hq
  cases e3
  have h3 := h2a.mf hX hM3 hF3
  have h4 := h3.wk (fun D2 hD => hD)
  obtain ⟨-, -, hout3, -, hv3, -, -⟩ := h3
  refine jx_istore d_L_law_1020 (Nat.le_of_ble_eq_true rfl) rfl ?_
  refine jx_aload_n d_L_law_1022 rfl rfl ?_
  refine jx_callV_r (As := []) (rest := []) d_L_law_1023 (m_M_thrown hB) (v_L_81 hB) (by decide) (jx_c5 hB) hM3.1 rfl (Nat.le_of_ble_eq_true rfl) (Nat.le_of_ble_eq_true rfl) (w_M_thrown hB hM3) ?_
  refine jx_iload d_L_law_1026 rfl ?_
  refine jx_icmp_eq (tgt := 1033) d_L_law_1028 (by decide) (fun _ => ?_) (fun hc => absurd rfl hc)
  refine jx_iload d_L_law_1033 rfl ?_
  refine jx_if_ne (tgt := 1050) d_L_law_1035 (by decide) (fun hc => ?_) (fun hc => ?_)
  · refine jx_goto (tgt := 1214) d_L_law_1050 (by decide) ?_
    exact tl _ _ _ _ h4
  · refine jx_aload_n d_L_law_1038 rfl rfl ?_
    refine jI_const d_L_law_1039 ?_
    refine jI_lald (m := 1) (i := 0) d_L_law_1040 hout3.1 hout3.2 (by decide) (by decide) (hv3 _ rfl hc) ?_
    refine jx_iload d_L_law_1041 rfl ?_
    refine jx_i2l d_L_law_1043 rfl ?_
    refine jx_lcmp d_L_law_1044 ?_
    refine jx_if_eq (tgt := 1050) d_L_law_1045 (by decide) (fun _ => ?_) (fun hc2 => absurd (lg_self _) hc2)
    refine jx_goto (tgt := 1214) d_L_law_1050 (by decide) ?_
    exact tl _ _ _ _ h4
theorem q_told (hB : jx_B E) (hB2 : jx_B2 E mi) (hB3 : jx_B3 E z pa) (hX : lwX E m out b lo hi A) (hscr : ∃ cell, E.1.heap[b]? = some cell ∧ jx_pic E 100 L (fun j => .int (iI (ys j))) cell) (hys : ∀ j, iR (ys j)) (hL : L ≤ 100000) {i : Int} (hij : 0 ≤ i ∧ i ≤ (L : Int) - 5) (tl : lwT E l d nm tb ts m out b L lo hi A ys i) {S : mS} {w : jx_W} {X5 X6 : Option Value} (h : lwS E ts m out b L lo hi A ys S S none (10 * ((L : Int) - i) + 50) (1000 * ((L : Int) - i) + 5000) w) : jx_G E l (Yl nm tb) (d + 13) lwEnd 1053 [some (.ref b), some (.ref ts), some (.ref m), some (.ref out), some (.int (iI i)), X5, X6] [] w := by
  obtain ⟨hM, ⟨D, G, hC, hR, hG⟩, hout, ⟨hk, hl, hv⟩, -, hcc, hss⟩ := h
  have hN := hR.2.1
  have hW : 50 ≤ jx_c w ∧ 5000 ≤ jx_s w := by constructor <;> omega
  have hoo : E.1.heap.size ≤ out := by have := hX.2.2.1; have := hX.2.2.2.1; omega
  refine jx_aload_n d_L_law_1053 rfl rfl ?_
  refine jx_aload_n d_L_law_1054 rfl rfl ?_
  refine jx_iload d_L_law_1055 rfl ?_
  refine jI_const d_L_law_1057 ?_
  refine jI_add d_L_law_1058 ?_
  refine jI_iald (m := L) d_L_law_1059 hk hl (by omega) ⟨by omega, by omega⟩ (hv _) ?_
  refine jx_aload_n d_L_law_1060 rfl rfl ?_
  refine jx_iload d_L_law_1061 rfl ?_
  refine jI_const d_L_law_1063 ?_
  refine jI_add d_L_law_1064 ?_
  refine jI_iald (m := L) d_L_law_1065 hk hl (by omega) ⟨by omega, by omega⟩ (hv _) ?_
  refine jx_aload_n d_L_law_1066 rfl rfl ?_
  refine jx_callS (As := [.ref ts, .int (iI (ys (i + 1).toNat)), .int (iI (ys (i + 2).toNat)), .ref out]) (rest := []) d_L_law_1067 (m_L_told hB) (s_L_137 hB) rfl (Nat.le_of_ble_eq_true rfl) (Nat.le_of_ble_eq_true rfl) (w_L_told hB hB2 hB3 hC hR hG (hys _) (hys _) hW hX.2.2.1 hoo hout.1 hout.2) (fun v w1 hq => ?_) (fun x a w1 hq => by obtain ⟨hq, -⟩ := hq; cases hq)
  obtain ⟨e1, hc1, hF1, hv1⟩ := hq
  cases e1
  refine lw_rec (cc2 := 10 * ((L : Int) - i)) (ss2 := 1000 * ((L : Int) - i)) hX hscr hM hout ⟨hcc, hss⟩ hc1 hF1 hv1 (by omega) (by omega) (fun w2 h2 => ?_)
  have h2a := h2
  obtain ⟨hM2, -, hout2, ⟨hk, hl, hv⟩, -, -, -⟩ := h2
  refine jx_istore d_L_law_1070 (Nat.le_of_ble_eq_true rfl) rfl ?_
  refine jx_aload_n d_L_law_1072 rfl rfl ?_
  refine jx_aload_n d_L_law_1073 rfl rfl ?_
  refine jx_iload d_L_law_1074 rfl ?_
  refine jI_const d_L_law_1076 ?_
  refine jI_add d_L_law_1077 ?_
  refine jI_iald (m := L) d_L_law_1078 hk hl (by omega) ⟨by omega, by omega⟩ (hv _) ?_
  refine jx_aload_n d_L_law_1079 rfl rfl ?_
  refine jx_iload d_L_law_1080 rfl ?_
  refine jI_const d_L_law_1082 ?_
  refine jI_add d_L_law_1083 ?_
  refine jI_iald (m := L) d_L_law_1084 hk hl (by omega) ⟨by omega, by omega⟩ (hv _) ?_
  refine jx_callV (As := [.int (iI (ys (i + 1).toNat)), .int (iI (ys (i + 2).toNat))]) (rest := []) d_L_law_1085 (m_M_told hB) (v_L_139 hB) (by decide) (jx_c5 hB) hM2.1 rfl (Nat.le_of_ble_eq_true rfl) (Nat.le_of_ble_eq_true rfl) (w_M_told hB hM2 hR.I hN.2.1 (hys _) (hys _)) (fun v w3 hq => ?_) (fun x a w3 hq => by obtain ⟨hq, -⟩ := hq; cases hq)
  obtain ⟨e3, hM3, hF3⟩ := hq
  cases e3
  have h3 := h2a.mf hX hM3 hF3
  have h4 := h3.wk (fun D2 hD => hD)
  obtain ⟨-, -, hout3, -, hv3, -, -⟩ := h3
  refine jx_istore d_L_law_1088 (Nat.le_of_ble_eq_true rfl) rfl ?_
  refine jx_aload_n d_L_law_1090 rfl rfl ?_
  refine jx_callV_r (As := []) (rest := []) d_L_law_1091 (m_M_thrown hB) (v_L_81 hB) (by decide) (jx_c5 hB) hM3.1 rfl (Nat.le_of_ble_eq_true rfl) (Nat.le_of_ble_eq_true rfl) (w_M_thrown hB hM3) ?_
  refine jx_iload d_L_law_1094 rfl ?_
  refine jx_icmp_eq (tgt := 1101) d_L_law_1096 (by decide) (fun _ => ?_) (fun hc => absurd rfl hc)
  refine jx_iload d_L_law_1101 rfl ?_
  refine jx_if_ne (tgt := 1118) d_L_law_1103 (by decide) (fun hc => ?_) (fun hc => ?_)
  · refine jx_goto (tgt := 1214) d_L_law_1118 (by decide) ?_
    exact tl _ _ _ _ h4
  · refine jx_aload_n d_L_law_1106 rfl rfl ?_
    refine jI_const d_L_law_1107 ?_
    refine jI_lald (m := 1) (i := 0) d_L_law_1108 hout3.1 hout3.2 (by decide) (by decide) (hv3 _ rfl hc) ?_
    refine jx_iload d_L_law_1109 rfl ?_
    refine jx_i2l d_L_law_1111 rfl ?_
    refine jx_lcmp d_L_law_1112 ?_
    refine jx_if_eq (tgt := 1118) d_L_law_1113 (by decide) (fun _ => ?_) (fun hc2 => absurd (lg_self _) hc2)
    refine jx_goto (tgt := 1214) d_L_law_1118 (by decide) ?_
    exact tl _ _ _ _ h4
theorem q_known (hB : jx_B E) (hB2 : jx_B2 E mi) (hB3 : jx_B3 E z pa) (hX : lwX E m out b lo hi A) (hscr : ∃ cell, E.1.heap[b]? = some cell ∧ jx_pic E 100 L (fun j => .int (iI (ys j))) cell) (hys : ∀ j, iR (ys j)) (hL : L ≤ 100000) {i : Int} (hij : 0 ≤ i ∧ i ≤ (L : Int) - 5) (tl : lwT E l d nm tb ts m out b L lo hi A ys i) {S : mS} {w : jx_W} {X5 X6 : Option Value} (h : lwS E ts m out b L lo hi A ys S S none (10 * ((L : Int) - i) + 50) (1000 * ((L : Int) - i) + 5000) w) : jx_G E l (Yl nm tb) (d + 13) lwEnd 1121 [some (.ref b), some (.ref ts), some (.ref m), some (.ref out), some (.int (iI i)), X5, X6] [] w := by
  obtain ⟨hM, ⟨D, G, hC, hR, hG⟩, hout, ⟨hk, hl, hv⟩, -, hcc, hss⟩ := h
  have hN := hR.2.1
  have hW : 50 ≤ jx_c w ∧ 5000 ≤ jx_s w := by constructor <;> omega
  have hoo : E.1.heap.size ≤ out := by have := hX.2.2.1; have := hX.2.2.2.1; omega
  refine jx_aload_n d_L_law_1121 rfl rfl ?_
  refine jx_aload_n d_L_law_1122 rfl rfl ?_
  refine jx_iload d_L_law_1123 rfl ?_
  refine jI_const d_L_law_1125 ?_
  refine jI_add d_L_law_1126 ?_
  refine jI_iald (m := L) d_L_law_1127 hk hl (by omega) ⟨by omega, by omega⟩ (hv _) ?_
  refine jx_aload_n d_L_law_1128 rfl rfl ?_
  refine jx_iload d_L_law_1129 rfl ?_
  refine jI_const d_L_law_1131 ?_
  refine jI_add d_L_law_1132 ?_
  refine jI_iald (m := L) d_L_law_1133 hk hl (by omega) ⟨by omega, by omega⟩ (hv _) ?_
  refine jx_aload_n d_L_law_1134 rfl rfl ?_
  refine jx_callS (As := [.ref ts, .int (iI (ys (i + 1).toNat)), .int (iI (ys (i + 2).toNat)), .ref out]) (rest := []) d_L_law_1135 (m_L_known hB) (s_L_140 hB) rfl (Nat.le_of_ble_eq_true rfl) (Nat.le_of_ble_eq_true rfl) (w_L_known hB hB2 hB3 hC hR hG (hys _) (hys _) hW hX.2.2.1 hoo hout.1 hout.2) (fun v w1 hq => ?_) (fun x a w1 hq => by obtain ⟨hq, -⟩ := hq; cases hq)
  obtain ⟨e1, hc1, hF1, hv1⟩ := hq
  cases e1
  refine lw_rec (cc2 := 10 * ((L : Int) - i)) (ss2 := 1000 * ((L : Int) - i)) hX hscr hM hout ⟨hcc, hss⟩ hc1 hF1 hv1 (by omega) (by omega) (fun w2 h2 => ?_)
  have h2a := h2
  obtain ⟨hM2, -, hout2, ⟨hk, hl, hv⟩, -, -, -⟩ := h2
  refine jx_istore d_L_law_1138 (Nat.le_of_ble_eq_true rfl) rfl ?_
  refine jx_aload_n d_L_law_1140 rfl rfl ?_
  refine jx_aload_n d_L_law_1141 rfl rfl ?_
  refine jx_iload d_L_law_1142 rfl ?_
  refine jI_const d_L_law_1144 ?_
  refine jI_add d_L_law_1145 ?_
  refine jI_iald (m := L) d_L_law_1146 hk hl (by omega) ⟨by omega, by omega⟩ (hv _) ?_
  refine jx_aload_n d_L_law_1147 rfl rfl ?_
  refine jx_iload d_L_law_1148 rfl ?_
  refine jI_const d_L_law_1150 ?_
  refine jI_add d_L_law_1151 ?_
  refine jI_iald (m := L) d_L_law_1152 hk hl (by omega) ⟨by omega, by omega⟩ (hv _) ?_
  refine jx_callV (As := [.int (iI (ys (i + 1).toNat)), .int (iI (ys (i + 2).toNat))]) (rest := []) d_L_law_1153 (m_M_known hB) (v_L_142 hB) (by decide) (jx_c5 hB) hM2.1 rfl (Nat.le_of_ble_eq_true rfl) (Nat.le_of_ble_eq_true rfl) (w_M_known hB hM2 hR.I hN.1 hN.2.1 (hys _) (hys _)) (fun v w3 hq => ?_) (fun x a w3 hq => by obtain ⟨hq, -⟩ := hq; cases hq)
  obtain ⟨e3, hM3, hF3⟩ := hq
  cases e3
  have h3 := h2a.mf hX hM3 hF3
  have h4 := h3.wk (fun D2 hD => hD)
  obtain ⟨-, -, hout3, -, hv3, -, -⟩ := h3
  refine jx_istore d_L_law_1156 (Nat.le_of_ble_eq_true rfl) rfl ?_
  refine jx_aload_n d_L_law_1158 rfl rfl ?_
  refine jx_callV_r (As := []) (rest := []) d_L_law_1159 (m_M_thrown hB) (v_L_81 hB) (by decide) (jx_c5 hB) hM3.1 rfl (Nat.le_of_ble_eq_true rfl) (Nat.le_of_ble_eq_true rfl) (w_M_thrown hB hM3) ?_
  refine jx_iload d_L_law_1162 rfl ?_
  refine jx_icmp_eq (tgt := 1169) d_L_law_1164 (by decide) (fun _ => ?_) (fun hc => absurd rfl hc)
  refine jx_iload d_L_law_1169 rfl ?_
  refine jx_if_ne (tgt := 1186) d_L_law_1171 (by decide) (fun hc => ?_) (fun hc => ?_)
  · refine jx_goto (tgt := 1214) d_L_law_1186 (by decide) ?_
    exact tl _ _ _ _ h4
  · refine jx_aload_n d_L_law_1174 rfl rfl ?_
    refine jI_const d_L_law_1175 ?_
    refine jI_lald (m := 1) (i := 0) d_L_law_1176 hout3.1 hout3.2 (by decide) (by decide) (hv3 _ rfl hc) ?_
    refine jx_iload d_L_law_1177 rfl ?_
    refine jx_i2l d_L_law_1179 rfl ?_
    refine jx_lcmp d_L_law_1180 ?_
    refine jx_if_eq (tgt := 1186) d_L_law_1181 (by decide) (fun _ => ?_) (fun hc2 => absurd (lg_self _) hc2)
    refine jx_goto (tgt := 1214) d_L_law_1186 (by decide) ?_
    exact tl _ _ _ _ h4
theorem q_count (hB : jx_B E) (hB2 : jx_B2 E mi) (hB3 : jx_B3 E z pa) (hX : lwX E m out b lo hi A) (hscr : ∃ cell, E.1.heap[b]? = some cell ∧ jx_pic E 100 L (fun j => .int (iI (ys j))) cell) (hys : ∀ j, iR (ys j)) (hL : L ≤ 100000) {i : Int} (hij : 0 ≤ i ∧ i ≤ (L : Int) - 5) (tl : lwT E l d nm tb ts m out b L lo hi A ys i) {S : mS} {w : jx_W} {X5 X6 : Option Value} (h : lwS E ts m out b L lo hi A ys S S none (10 * ((L : Int) - i) + 50) (1000 * ((L : Int) - i) + 5000) w) : jx_G E l (Yl nm tb) (d + 13) lwEnd 1189 [some (.ref b), some (.ref ts), some (.ref m), some (.ref out), some (.int (iI i)), X5, X6] [] w := by
  obtain ⟨hM, ⟨D, G, hC, hR, hG⟩, hout, ⟨hk, hl, hv⟩, -, hcc, hss⟩ := h
  have hN := hR.2.1
  have hW : 50 ≤ jx_c w ∧ 5000 ≤ jx_s w := by constructor <;> omega
  have hoo : E.1.heap.size ≤ out := by have := hX.2.2.1; have := hX.2.2.2.1; omega
  refine jx_aload_n d_L_law_1189 rfl rfl ?_
  refine jx_aload_n d_L_law_1190 rfl rfl ?_
  refine jx_iload d_L_law_1191 rfl ?_
  refine jI_const d_L_law_1193 ?_
  refine jI_add d_L_law_1194 ?_
  refine jI_iald (m := L) d_L_law_1195 hk hl (by omega) ⟨by omega, by omega⟩ (hv _) ?_
  subst hG
  refine jx_callV (As := [.int (iI (ys (i + 1).toNat))]) (rest := []) d_L_law_1196 (m_T_count hB) (v_L_143 hB) (by decide) (jx_c0 hB) (c_k0 hC) rfl (Nat.le_of_ble_eq_true rfl) (Nat.le_of_ble_eq_true rfl) (w_T_count hB hC hR (hys _) hW) (fun v w1 hq => ?_) (fun x a w1 hq => by rcases hq with ⟨-, ⟨-, hq⟩ | ⟨hq, -⟩⟩ <;> first | (cases hq; done) | exact (hq (show sU S 3 0 0 3 0 = 0 from sU_same)).elim)
  obtain ⟨⟨D2, G2, hC2, hR2, hF2, hG2⟩, ⟨h30, e1⟩ | ⟨h30, ad, e1⟩⟩ := hq
  rotate_left
  · cases e1
  cases e1
  refine lw_rec (S2 := (oCount S (ys (i + 1).toNat)).2) (x := none) (cc2 := 10 * ((L : Int) - i)) (ss2 := 1000 * ((L : Int) - i)) hX hscr hM hout ⟨hcc, hss⟩ ⟨D2, G2, hC2, hR2, hG2⟩ hF2.lw (fun y hy => by cases hy) (by omega) (by omega) (fun w2 h2 => ?_)
  have h2a := h2
  obtain ⟨hM2, -, hout2, ⟨hk, hl, hv⟩, -, -, -⟩ := h2
  refine jx_aload_n d_L_law_1199 rfl rfl ?_
  refine jx_aload_n d_L_law_1200 rfl rfl ?_
  refine jx_iload d_L_law_1201 rfl ?_
  refine jI_const d_L_law_1203 ?_
  refine jI_add d_L_law_1204 ?_
  refine jI_iald (m := L) d_L_law_1205 hk hl (by omega) ⟨by omega, by omega⟩ (hv _) ?_
  refine jx_callV (As := [.int (iI (ys (i + 1).toNat))]) (rest := [.int (iI (oCount S (ys (i + 1).toNat)).1)]) d_L_law_1206 (m_M_count hB) (v_L_146 hB) (by decide) (jx_c5 hB) hM2.1 rfl (Nat.le_of_ble_eq_true rfl) (Nat.le_of_ble_eq_true rfl) (w_M_count hB hM2 hR.I hN.1 hN.2.1 hN.2.2.1 (hys _)) (fun v w3 hq => ?_) (fun x a w3 hq => by obtain ⟨hq, -⟩ := hq; cases hq)
  obtain ⟨e3, hM3, hF3⟩ := hq
  cases e3
  have h4 := h2a.mf hX hM3 hF3
  exact jx_icmp_eq (tgt := 1214) d_L_law_1209 (by decide) (fun _ => tl _ _ _ _ h4) (fun hc => absurd rfl hc)
theorem l_law (hB : jx_B E) (hB2 : jx_B2 E mi) (hB3 : jx_B3 E z pa) (hX : lwX E m out b lo hi A) (hscr : ∃ cell, E.1.heap[b]? = some cell ∧ jx_pic E 100 L (fun j => .int (iI (ys j))) cell) (hys : ∀ j, iR (ys j)) (hL : L ≤ 100000) : ∀ (j : Nat) (i : Int) (S : mS) (w : jx_W) (X5 X6 : Option Value), lwS E ts m out b L lo hi A ys S S none (10 * ((L : Int) - i) + 50) (1000 * ((L : Int) - i) + 5000) w → 0 ≤ i → i ≤ (L : Int) + 5 → (L : Int) + 6 - i ≤ (j : Int) → jx_G E l (Yl nm tb) (d + 13) lwEnd 23 [some (.ref b), some (.ref ts), some (.ref m), some (.ref out), some (.int (iI i)), X5, X6] [] w := by
  intro j
  induction j with
  | zero =>
    intro i S w X5 X6 h h0 h1 h2
    omega
  | succ j ih =>
    intro i S w X5 X6 h h0 h1 h2
    have h' := h
    obtain ⟨-, -, -, ⟨hk, hl, hv⟩, -, -, -⟩ := h'
    refine jx_iload d_L_law_23 rfl ?_
    refine jx_aload_n d_L_law_25 rfl rfl ?_
    refine jx_ala (n := iI (L : Int)) d_L_law_26 hk (by decide) (by rw [hl]; rfl) ?_
    refine jI_const d_L_law_27 ?_
    refine jI_sub d_L_law_28 ?_
    refine jI_icmp_gt (tgt := 1220) d_L_law_29 (by decide) (by omega) (by omega) (fun hc => ?_) (fun hc => ?_)
    · refine jI_const d_L_law_1220 ?_
      exact jx_zret d_L_law_1221 rfl (by decide) rfl
    · have hij : 0 ≤ i ∧ i ≤ (L : Int) - 5 := ⟨h0, by omega⟩
      have tl : lwT E l d nm tb ts m out b L lo hi A ys i := by
        intro T w2 Y5 Y6 h2
        refine jI_inc d_L_law_1214 rfl rfl ?_
        refine jx_goto (tgt := 23) d_L_law_1217 (by decide) ?_
        refine ih (i + 5) T w2 Y5 Y6 ?_ (by omega) (by omega) (by omega)
        rw [show 10 * ((L : Int) - (i + 5)) + 50 = 10 * ((L : Int) - i) by omega, show 1000 * ((L : Int) - (i + 5)) + 5000 = 1000 * ((L : Int) - i) by omega]
        exact h2
      refine jx_aload_n d_L_law_32 rfl rfl ?_
      refine jx_iload d_L_law_33 rfl ?_
      refine jI_iald (m := L) d_L_law_35 hk hl hL ⟨by omega, by omega⟩ (hv _) ?_
      refine jI_bipush d_L_law_36 rfl ?_
      refine jx_iand d_L_law_38 ?_
      obtain ⟨n, hn, en⟩ := and31 (iI (ys i.toNat))
      have en : iI (ys i.toNat) &&& iI 31 = iI (n : Int) := en
      rw [en]
      have ti : (iI (n : Int)).toInt = (n : Int) := iI_toInt (by omega)
      by_cases hbig : 18 < n
      · refine jx_tableOut (tgt := 1214) d_L_law_39 (.inr (by rw [ti]; omega)) (by decide) ?_
        refine tl S w X5 X6 ?_
        obtain ⟨g1, g2, g3, g4, g5, g6, g7⟩ := h
        exact ⟨g1, g2, g3, g4, g5, by omega, by omega⟩
      · have hcase : n = 0 ∨ n = 1 ∨ n = 2 ∨ n = 3 ∨ n = 4 ∨ n = 5 ∨ n = 6 ∨ n = 7 ∨ n = 8 ∨ n = 9 ∨ n = 10 ∨ n = 11 ∨ n = 12 ∨ n = 13 ∨ n = 14 ∨ n = 15 ∨ n = 16 ∨ n = 17 ∨ n = 18 := by omega
        rcases hcase with rfl | rfl | rfl | rfl | rfl | rfl | rfl | rfl | rfl | rfl | rfl | rfl | rfl | rfl | rfl | rfl | rfl | rfl | rfl
        · refine jx_tableIn (tgt := 128) (off := 89) d_L_law_39 (by rw [ti]; decide) (by rw [ti]; decide) (by rw [ti]; rfl) (by decide) ?_
          exact q_person hB hB2 hB3 hX hscr hys hL hij tl h
        · refine jx_tableIn (tgt := 220) (off := 181) d_L_law_39 (by rw [ti]; decide) (by rw [ti]; decide) (by rw [ti]; rfl) (by decide) ?_
          exact q_rest hB hB2 hB3 hX hscr hys hL hij tl h
        · refine jx_tableIn (tgt := 280) (off := 241) d_L_law_39 (by rw [ti]; decide) (by rw [ti]; decide) (by rw [ti]; rfl) (by decide) ?_
          exact q_train hB hB2 hB3 hX hscr hys hL hij tl h
        · refine jx_tableIn (tgt := 348) (off := 309) d_L_law_39 (by rw [ti]; decide) (by rw [ti]; decide) (by rw [ti]; rfl) (by decide) ?_
          exact q_task hB hB2 hB3 hX hscr hys hL hij tl h
        · refine jx_tableIn (tgt := 440) (off := 401) d_L_law_39 (by rw [ti]; decide) (by rw [ti]; decide) (by rw [ti]; rfl) (by decide) ?_
          exact q_way hB hB2 hB3 hX hscr hys hL hij tl h
        · refine jx_tableIn (tgt := 500) (off := 461) d_L_law_39 (by rw [ti]; decide) (by rw [ti]; decide) (by rw [ti]; rfl) (by decide) ?_
          exact q_refuse hB hB2 hB3 hX hscr hys hL hij tl h
        · refine jx_tableIn (tgt := 575) (off := 536) d_L_law_39 (by rw [ti]; decide) (by rw [ti]; decide) (by rw [ti]; rfl) (by decide) ?_
          exact q_bar hB hB2 hB3 hX hscr hys hL hij tl h
        · refine jx_tableIn (tgt := 643) (off := 604) d_L_law_39 (by rw [ti]; decide) (by rw [ti]; decide) (by rw [ti]; rfl) (by decide) ?_
          exact q_assign hB hB2 hB3 hX hscr hys hL hij tl h
        · refine jx_tableIn (tgt := 699) (off := 660) d_L_law_39 (by rw [ti]; decide) (by rw [ti]; decide) (by rw [ti]; rfl) (by decide) ?_
          exact q_exact hB hB2 hB3 hX hscr hys hL hij tl h
        · refine jx_tableIn (tgt := 712) (off := 673) d_L_law_39 (by rw [ti]; decide) (by rw [ti]; decide) (by rw [ti]; rfl) (by decide) ?_
          exact q_bound hB hB2 hB3 hX hscr hys hL hij tl h
        · refine jx_tableIn (tgt := 725) (off := 686) d_L_law_39 (by rw [ti]; decide) (by rw [ti]; decide) (by rw [ti]; rfl) (by decide) ?_
          exact q_give hB hB2 hB3 hX hscr hys hL hij tl h
        · refine jx_tableIn (tgt := 781) (off := 742) d_L_law_39 (by rw [ti]; decide) (by rw [ti]; decide) (by rw [ti]; rfl) (by decide) ?_
          exact q_done hB hB2 hB3 hX hscr hys hL hij tl h
        · refine jx_tableIn (tgt := 837) (off := 798) d_L_law_39 (by rw [ti]; decide) (by rw [ti]; decide) (by rw [ti]; rfl) (by decide) ?_
          exact q_leaves hB hB2 hB3 hX hscr hys hL hij tl h
        · refine jx_tableIn (tgt := 893) (off := 854) d_L_law_39 (by rw [ti]; decide) (by rw [ti]; decide) (by rw [ti]; rfl) (by decide) ?_
          exact q_fair hB hB2 hB3 hX hscr hys hL hij tl h
        · refine jx_tableIn (tgt := 949) (off := 910) d_L_law_39 (by rw [ti]; decide) (by rw [ti]; decide) (by rw [ti]; rfl) (by decide) ?_
          exact q_pass hB hB2 hB3 hX hscr hys hL hij tl h
        · refine jx_tableIn (tgt := 985) (off := 946) d_L_law_39 (by rw [ti]; decide) (by rw [ti]; decide) (by rw [ti]; rfl) (by decide) ?_
          exact q_order hB hB2 hB3 hX hscr hys hL hij tl h
        · refine jx_tableIn (tgt := 1053) (off := 1014) d_L_law_39 (by rw [ti]; decide) (by rw [ti]; decide) (by rw [ti]; rfl) (by decide) ?_
          exact q_told hB hB2 hB3 hX hscr hys hL hij tl h
        · refine jx_tableIn (tgt := 1121) (off := 1082) d_L_law_39 (by rw [ti]; decide) (by rw [ti]; decide) (by rw [ti]; rfl) (by decide) ?_
          exact q_known hB hB2 hB3 hX hscr hys hL hij tl h
        · refine jx_tableIn (tgt := 1189) (off := 1150) d_L_law_39 (by rw [ti]; decide) (by rw [ti]; decide) (by rw [ti]; rfl) (by decide) ?_
          exact q_count hB hB2 hB3 hX hscr hys hL hij tl h
end LOOP
