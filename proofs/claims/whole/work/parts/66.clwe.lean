/-! the cases, one by one -/
section CASEs
variable {D : va_G} {cI cZ cO cJ : ClassId} {σ τ : St} {t0 mi o x9 m9 : Nat} {A : Nat → Prop} {f : Nat → Int64}
variable {p : Program} {l : Launch} {e : Env} {R : Room} {s : State} {m : MethodId} {args : Array Value} {below : List Frame} {meth : Method} {c : Code} {H : Heap} {locs : List Loc} {cells slots : Nat} {Q : State → Prop} {ls : Array Slot} {b N n : Nat} {xs : Nat → Int32} {Rel : St → St → Prop}

set_option maxRecDepth 100000 in
set_option maxHeartbeats 4000000 in
theorem o_program (hop : OP_program D cI cZ cO t0 mi l Rel) (X : CallFix p m c cL_law 7 s args TB RL) (hK : KJ D cI cZ cO cJ s) (hE : EE t0 mi A s s.heap) (hX9 : EX A s s.heap) (hN : NC s) (hAn : ∀ q, s.heap.size ≤ q → A q) (hXs : va_X b N xs s s.heap) (hbl : b < s.heap.size) (hbA : ¬ A b) (hn : n + 6 ≤ N) (hN2 : N ≤ 3072) (hRel : Rel σ τ) (hW : Wd D cI cZ cO cJ t0 A x9 m9 o f σ τ H) (hS : va_S A s.heap H locs) (hl : lv_has ls 7 [(4, .int (nI n)), (0, .ref b), (1, .ref x9), (2, .ref m9), (3, .ref o)]) (hRf : 16 ≤ R.frames ∧ 632 ≤ R.locals) (hc : cells + 16 ≤ R.cells ∧ slots + 1000 ≤ R.slots)
    (kk : ∀ (f : Nat → Int64) (σ τ : St) (H : Heap) (locs : List Loc) (ls : Array Slot), Wd D cI cZ cO cJ t0 A x9 m9 o f σ τ H → Rel σ τ → va_S A s.heap H locs → lv_has ls 7 [(4, .int (nI n)), (0, .ref b), (1, .ref x9), (2, .ref m9), (3, .ref o)] → W p l e R s m args below meth c H locs (cells + 16) (slots + 1000) Q (F0 m 1820 ls [])) : W p l e R s m args below meth c H locs cells slots Q (F0 m 164 ls []) := by
  have hx := X.1
  have hb := X.2.1
  obtain ⟨e9, r, σ', r', τ', hY, hM, he, hth, hag, hR9⟩ := hop σ τ hRel 
  refine lv_aload_n hx hb dL_law_164 rfl (lv_at hl 2 rfl) ?_
  refine lv_aload_n hx hb dL_law_165 rfl (lv_at hl 4 rfl) ?_
  refine l_wrap (As := [.ref x9, .ref o]) (rest := []) X hK hE hX9 hN hAn hW hS yl_program ml_L_95 (fun L ow h => by rw [← h]; exact w_program l L σ ow o  (hY L ow) he) rfl hl.1 rfl (Nat.le_of_ble_eq_true rfl) ⟨Nat.le_trans (by decide) hRf.1, Nat.le_trans (by decide) hRf.2⟩ ⟨by have := hc.1; show cells + 4 ≤ _; omega, by have := hc.2; show slots + 200 ≤ _; omega⟩ dL_law_166 (fun f H locs hW hf hS => ?_)
  refine lv_istore (lv' := [(5, .int (nI (wk [3] e9))), (4, .int (nI n)), (0, .ref b), (1, .ref x9), (2, .ref m9), (3, .ref o)]) hx hb dL_law_169 hl (by decide) rfl (fun ls hl => ?_)
  refine lv_aload_n hx hb dL_law_171 rfl (lv_at hl 4 rfl) ?_
  refine l_ref (As := []) (rest := []) X hK hAn hW hS yvX9_program ml_L_100 (fun L ow => hM L ow) rfl hl.1 rfl (Nat.le_of_ble_eq_true rfl) ⟨Nat.le_trans (by decide) hRf.1, Nat.le_trans (by decide) hRf.2⟩ ⟨by have := hc.1; show cells + 4 ≤ _; omega, by have := hc.2; show slots + 200 ≤ _; omega⟩ dL_law_172 (fun H locs hW hS => ?_)
  refine lv_istore (lv' := [(6, .int r'), (5, .int (nI (wk [3] e9))), (4, .int (nI n)), (0, .ref b), (1, .ref x9), (2, .ref m9), (3, .ref o)]) hx hb dL_law_175 hl (by decide) rfl (fun ls hl => ?_)
  refine lv_aload_n hx hb dL_law_177 rfl (lv_at hl 5 rfl) ?_
  refine l_ref (As := []) (rest := []) X hK hAn hW hS yvX9_thrown ml_L_101 (fun L ow => c_X9_thrown l L τ' ow) rfl hl.1 rfl (Nat.le_of_ble_eq_true rfl) ⟨Nat.le_trans (by decide) hRf.1, Nat.le_trans (by decide) hRf.2⟩ ⟨by have := hc.1; show cells + 4 ≤ _; omega, by have := hc.2; show slots + 200 ≤ _; omega⟩ dL_law_178 (fun H locs hW hS => ?_)
  refine lv_iload hx hb dL_law_181 (lv_at hl 1 rfl) ?_
  refine lv_icmp_eq (tgt := 188) hx hb dL_law_183 (by decide) (fun _ => ?_) (fun z => absurd hth z)
  refine lv_iload hx hb dL_law_188 (lv_at hl 1 rfl) ?_
  refine lv_if_ne (tgt := 205) hx hb dL_law_190 (by decide) (fun _ => ?_) (fun z0 => ?_)
  · refine lv_goto (tgt := 1820) hx hb dL_law_205 (by decide) ?_
    refine W.widen (k := cells + 16) (n := slots + 1000) (by omega) (by omega) ?_
    exact kk f _ _ H locs ls hW hR9 hS (lv_sub hl [2, 3, 4, 5, 6] rfl)
  · have h0 : e9 = 0 := by
      rcases he with rfl | rfl
      · rfl
      · exact absurd z0 (by decide)
    refine lv_aload_n hx hb dL_law_193 rfl (lv_at hl 6 rfl) ?_
    refine lv_iconst (v := nI 0) hx hb dL_law_194 (by decide) ?_
    refine l_lald X hK hW dL_law_195 ?_
    refine lv_iload hx hb dL_law_196 (lv_at hl 0 rfl) ?_
    refine lv_i2l (v := r'.toInt64) hx hb dL_law_198 rfl ?_
    refine l_lcmp hx hb (by rw [hf h0, hag h0]) dL_law_199 ?_
    refine lv_if_eq (tgt := 205) hx hb dL_law_200 (by decide) (fun _ => ?_) (fun z => absurd rfl z)
    refine lv_goto (tgt := 1820) hx hb dL_law_205 (by decide) ?_
    refine W.widen (k := cells + 16) (n := slots + 1000) (by omega) (by omega) ?_
    exact kk f _ _ H locs ls hW hR9 hS (lv_sub hl [2, 3, 4, 5, 6] rfl)
set_option maxRecDepth 100000 in
set_option maxHeartbeats 4000000 in
theorem o_block (hop : OP_block D cI cZ cO t0 mi l Rel) (X : CallFix p m c cL_law 7 s args TB RL) (hK : KJ D cI cZ cO cJ s) (hE : EE t0 mi A s s.heap) (hX9 : EX A s s.heap) (hN : NC s) (hAn : ∀ q, s.heap.size ≤ q → A q) (hXs : va_X b N xs s s.heap) (hbl : b < s.heap.size) (hbA : ¬ A b) (hn : n + 6 ≤ N) (hN2 : N ≤ 3072) (hRel : Rel σ τ) (hW : Wd D cI cZ cO cJ t0 A x9 m9 o f σ τ H) (hS : va_S A s.heap H locs) (hl : lv_has ls 7 [(4, .int (nI n)), (0, .ref b), (1, .ref x9), (2, .ref m9), (3, .ref o)]) (hRf : 16 ≤ R.frames ∧ 632 ≤ R.locals) (hc : cells + 16 ≤ R.cells ∧ slots + 1000 ≤ R.slots)
    (kk : ∀ (f : Nat → Int64) (σ τ : St) (H : Heap) (locs : List Loc) (ls : Array Slot), Wd D cI cZ cO cJ t0 A x9 m9 o f σ τ H → Rel σ τ → va_S A s.heap H locs → lv_has ls 7 [(4, .int (nI n)), (0, .ref b), (1, .ref x9), (2, .ref m9), (3, .ref o)] → W p l e R s m args below meth c H locs (cells + 16) (slots + 1000) Q (F0 m 1820 ls [])) : W p l e R s m args below meth c H locs cells slots Q (F0 m 208 ls []) := by
  have hx := X.1
  have hb := X.2.1
  obtain ⟨e9, r, σ', r', τ', hY, hM, he, hth, hag, hR9⟩ := hop σ τ hRel (xs (n + 1)) (xs (n + 2)) (xs (n + 3))
  refine lv_aload_n hx hb dL_law_208 rfl (lv_at hl 2 rfl) ?_
  refine lv_aload_n hx hb dL_law_209 rfl (lv_at hl 1 rfl) ?_
  refine lv_iload hx hb dL_law_210 (lv_at hl 0 rfl) ?_
  refine lv_iconst (v := nI 1) hx hb dL_law_212 (by decide) ?_
  refine r_addN hx hb dL_law_213 ?_
  refine pn_sld X hXs hbl hbA hS (k := n + 1) (by omega) (by omega) dL_law_214 ?_
  refine lv_aload_n hx hb dL_law_215 rfl (lv_at hl 1 rfl) ?_
  refine lv_iload hx hb dL_law_216 (lv_at hl 0 rfl) ?_
  refine lv_iconst (v := nI 2) hx hb dL_law_218 (by decide) ?_
  refine r_addN hx hb dL_law_219 ?_
  refine pn_sld X hXs hbl hbA hS (k := n + 2) (by omega) (by omega) dL_law_220 ?_
  refine lv_aload_n hx hb dL_law_221 rfl (lv_at hl 1 rfl) ?_
  refine lv_iload hx hb dL_law_222 (lv_at hl 0 rfl) ?_
  refine lv_iconst (v := nI 3) hx hb dL_law_224 (by decide) ?_
  refine r_addN hx hb dL_law_225 ?_
  refine pn_sld X hXs hbl hbA hS (k := n + 3) (by omega) (by omega) dL_law_226 ?_
  refine lv_aload_n hx hb dL_law_227 rfl (lv_at hl 4 rfl) ?_
  refine l_wrap (As := [.ref x9, .int (xs (n + 1)), .int (xs (n + 2)), .int (xs (n + 3)), .ref o]) (rest := []) X hK hE hX9 hN hAn hW hS yl_block ml_L_104 (fun L ow h => by rw [← h]; exact w_block l L σ ow o ((xs (n + 1))) ((xs (n + 2))) ((xs (n + 3))) (hY L ow) he) rfl hl.1 rfl (Nat.le_of_ble_eq_true rfl) ⟨Nat.le_trans (by decide) hRf.1, Nat.le_trans (by decide) hRf.2⟩ ⟨by have := hc.1; show cells + 2 ≤ _; omega, by have := hc.2; show slots + 12 ≤ _; omega⟩ dL_law_228 (fun f H locs hW hf hS => ?_)
  refine lv_istore (lv' := [(5, .int (nI (wk [1, 2, 3] e9))), (4, .int (nI n)), (0, .ref b), (1, .ref x9), (2, .ref m9), (3, .ref o)]) hx hb dL_law_231 hl (by decide) rfl (fun ls hl => ?_)
  refine lv_aload_n hx hb dL_law_233 rfl (lv_at hl 4 rfl) ?_
  refine lv_aload_n hx hb dL_law_234 rfl (lv_at hl 2 rfl) ?_
  refine lv_iload hx hb dL_law_235 (lv_at hl 1 rfl) ?_
  refine lv_iconst (v := nI 1) hx hb dL_law_237 (by decide) ?_
  refine r_addN hx hb dL_law_238 ?_
  refine pn_sld X hXs hbl hbA hS (k := n + 1) (by omega) (by omega) dL_law_239 ?_
  refine lv_aload_n hx hb dL_law_240 rfl (lv_at hl 2 rfl) ?_
  refine lv_iload hx hb dL_law_241 (lv_at hl 1 rfl) ?_
  refine lv_iconst (v := nI 2) hx hb dL_law_243 (by decide) ?_
  refine r_addN hx hb dL_law_244 ?_
  refine pn_sld X hXs hbl hbA hS (k := n + 2) (by omega) (by omega) dL_law_245 ?_
  refine lv_aload_n hx hb dL_law_246 rfl (lv_at hl 2 rfl) ?_
  refine lv_iload hx hb dL_law_247 (lv_at hl 1 rfl) ?_
  refine lv_iconst (v := nI 3) hx hb dL_law_249 (by decide) ?_
  refine r_addN hx hb dL_law_250 ?_
  refine pn_sld X hXs hbl hbA hS (k := n + 3) (by omega) (by omega) dL_law_251 ?_
  refine l_ref (As := [.int (xs (n + 1)), .int (xs (n + 2)), .int (xs (n + 3))]) (rest := []) X hK hAn hW hS yvX9_block ml_L_107 (fun L ow => hM L ow) rfl hl.1 rfl (Nat.le_of_ble_eq_true rfl) ⟨Nat.le_trans (by decide) hRf.1, Nat.le_trans (by decide) hRf.2⟩ ⟨by have := hc.1; show cells + 2 ≤ _; omega, by have := hc.2; show slots + 12 ≤ _; omega⟩ dL_law_252 (fun H locs hW hS => ?_)
  refine lv_istore (lv' := [(6, .int r'), (5, .int (nI (wk [1, 2, 3] e9))), (4, .int (nI n)), (0, .ref b), (1, .ref x9), (2, .ref m9), (3, .ref o)]) hx hb dL_law_255 hl (by decide) rfl (fun ls hl => ?_)
  refine lv_aload_n hx hb dL_law_257 rfl (lv_at hl 5 rfl) ?_
  refine l_ref (As := []) (rest := []) X hK hAn hW hS yvX9_thrown ml_L_101 (fun L ow => c_X9_thrown l L τ' ow) rfl hl.1 rfl (Nat.le_of_ble_eq_true rfl) ⟨Nat.le_trans (by decide) hRf.1, Nat.le_trans (by decide) hRf.2⟩ ⟨by have := hc.1; show cells + 2 ≤ _; omega, by have := hc.2; show slots + 12 ≤ _; omega⟩ dL_law_258 (fun H locs hW hS => ?_)
  refine lv_iload hx hb dL_law_261 (lv_at hl 1 rfl) ?_
  refine lv_icmp_eq (tgt := 268) hx hb dL_law_263 (by decide) (fun _ => ?_) (fun z => absurd hth z)
  refine lv_iload hx hb dL_law_268 (lv_at hl 1 rfl) ?_
  refine lv_if_ne (tgt := 285) hx hb dL_law_270 (by decide) (fun _ => ?_) (fun z0 => ?_)
  · refine lv_goto (tgt := 1820) hx hb dL_law_285 (by decide) ?_
    refine W.widen (k := cells + 16) (n := slots + 1000) (by omega) (by omega) ?_
    exact kk f _ _ H locs ls hW hR9 hS (lv_sub hl [2, 3, 4, 5, 6] rfl)
  · have h0 : e9 = 0 := by
      rcases he with rfl | rfl | rfl | rfl
      · rfl
      · exact absurd z0 (by decide)
      · exact absurd z0 (by decide)
      · exact absurd z0 (by decide)
    refine lv_aload_n hx hb dL_law_273 rfl (lv_at hl 6 rfl) ?_
    refine lv_iconst (v := nI 0) hx hb dL_law_274 (by decide) ?_
    refine l_lald X hK hW dL_law_275 ?_
    refine lv_iload hx hb dL_law_276 (lv_at hl 0 rfl) ?_
    refine lv_i2l (v := r'.toInt64) hx hb dL_law_278 rfl ?_
    refine l_lcmp hx hb (by rw [hf h0, hag h0]) dL_law_279 ?_
    refine lv_if_eq (tgt := 285) hx hb dL_law_280 (by decide) (fun _ => ?_) (fun z => absurd rfl z)
    refine lv_goto (tgt := 1820) hx hb dL_law_285 (by decide) ?_
    refine W.widen (k := cells + 16) (n := slots + 1000) (by omega) (by omega) ?_
    exact kk f _ _ H locs ls hW hR9 hS (lv_sub hl [2, 3, 4, 5, 6] rfl)
set_option maxRecDepth 100000 in
set_option maxHeartbeats 4000000 in
theorem o_map (hop : OP_map D cI cZ cO t0 mi l Rel) (X : CallFix p m c cL_law 7 s args TB RL) (hK : KJ D cI cZ cO cJ s) (hE : EE t0 mi A s s.heap) (hX9 : EX A s s.heap) (hN : NC s) (hAn : ∀ q, s.heap.size ≤ q → A q) (hXs : va_X b N xs s s.heap) (hbl : b < s.heap.size) (hbA : ¬ A b) (hn : n + 6 ≤ N) (hN2 : N ≤ 3072) (hRel : Rel σ τ) (hW : Wd D cI cZ cO cJ t0 A x9 m9 o f σ τ H) (hS : va_S A s.heap H locs) (hl : lv_has ls 7 [(4, .int (nI n)), (0, .ref b), (1, .ref x9), (2, .ref m9), (3, .ref o)]) (hRf : 16 ≤ R.frames ∧ 632 ≤ R.locals) (hc : cells + 16 ≤ R.cells ∧ slots + 1000 ≤ R.slots)
    (kk : ∀ (f : Nat → Int64) (σ τ : St) (H : Heap) (locs : List Loc) (ls : Array Slot), Wd D cI cZ cO cJ t0 A x9 m9 o f σ τ H → Rel σ τ → va_S A s.heap H locs → lv_has ls 7 [(4, .int (nI n)), (0, .ref b), (1, .ref x9), (2, .ref m9), (3, .ref o)] → W p l e R s m args below meth c H locs (cells + 16) (slots + 1000) Q (F0 m 1820 ls [])) : W p l e R s m args below meth c H locs cells slots Q (F0 m 288 ls []) := by
  have hx := X.1
  have hb := X.2.1
  obtain ⟨e9, r, σ', r', τ', hY, hM, he, hth, hag, hR9⟩ := hop σ τ hRel (xs (n + 1)) (xs (n + 2))
  refine lv_aload_n hx hb dL_law_288 rfl (lv_at hl 2 rfl) ?_
  refine lv_aload_n hx hb dL_law_289 rfl (lv_at hl 1 rfl) ?_
  refine lv_iload hx hb dL_law_290 (lv_at hl 0 rfl) ?_
  refine lv_iconst (v := nI 1) hx hb dL_law_292 (by decide) ?_
  refine r_addN hx hb dL_law_293 ?_
  refine pn_sld X hXs hbl hbA hS (k := n + 1) (by omega) (by omega) dL_law_294 ?_
  refine lv_aload_n hx hb dL_law_295 rfl (lv_at hl 1 rfl) ?_
  refine lv_iload hx hb dL_law_296 (lv_at hl 0 rfl) ?_
  refine lv_iconst (v := nI 2) hx hb dL_law_298 (by decide) ?_
  refine r_addN hx hb dL_law_299 ?_
  refine pn_sld X hXs hbl hbA hS (k := n + 2) (by omega) (by omega) dL_law_300 ?_
  refine lv_aload_n hx hb dL_law_301 rfl (lv_at hl 4 rfl) ?_
  refine l_wrap (As := [.ref x9, .int (xs (n + 1)), .int (xs (n + 2)), .ref o]) (rest := []) X hK hE hX9 hN hAn hW hS yl_map ml_L_108 (fun L ow h => by rw [← h]; exact w_map l L σ ow o ((xs (n + 1))) ((xs (n + 2))) (hY L ow) he) rfl hl.1 rfl (Nat.le_of_ble_eq_true rfl) ⟨Nat.le_trans (by decide) hRf.1, Nat.le_trans (by decide) hRf.2⟩ ⟨by have := hc.1; show cells + 1 ≤ _; omega, by have := hc.2; show slots + 6 ≤ _; omega⟩ dL_law_302 (fun f H locs hW hf hS => ?_)
  refine lv_istore (lv' := [(5, .int (nI (wk [2] e9))), (4, .int (nI n)), (0, .ref b), (1, .ref x9), (2, .ref m9), (3, .ref o)]) hx hb dL_law_305 hl (by decide) rfl (fun ls hl => ?_)
  refine lv_aload_n hx hb dL_law_307 rfl (lv_at hl 4 rfl) ?_
  refine lv_aload_n hx hb dL_law_308 rfl (lv_at hl 2 rfl) ?_
  refine lv_iload hx hb dL_law_309 (lv_at hl 1 rfl) ?_
  refine lv_iconst (v := nI 1) hx hb dL_law_311 (by decide) ?_
  refine r_addN hx hb dL_law_312 ?_
  refine pn_sld X hXs hbl hbA hS (k := n + 1) (by omega) (by omega) dL_law_313 ?_
  refine lv_aload_n hx hb dL_law_314 rfl (lv_at hl 2 rfl) ?_
  refine lv_iload hx hb dL_law_315 (lv_at hl 1 rfl) ?_
  refine lv_iconst (v := nI 2) hx hb dL_law_317 (by decide) ?_
  refine r_addN hx hb dL_law_318 ?_
  refine pn_sld X hXs hbl hbA hS (k := n + 2) (by omega) (by omega) dL_law_319 ?_
  refine l_ref (As := [.int (xs (n + 1)), .int (xs (n + 2))]) (rest := []) X hK hAn hW hS yvX9_map ml_L_111 (fun L ow => hM L ow) rfl hl.1 rfl (Nat.le_of_ble_eq_true rfl) ⟨Nat.le_trans (by decide) hRf.1, Nat.le_trans (by decide) hRf.2⟩ ⟨by have := hc.1; show cells + 1 ≤ _; omega, by have := hc.2; show slots + 6 ≤ _; omega⟩ dL_law_320 (fun H locs hW hS => ?_)
  refine lv_istore (lv' := [(6, .int r'), (5, .int (nI (wk [2] e9))), (4, .int (nI n)), (0, .ref b), (1, .ref x9), (2, .ref m9), (3, .ref o)]) hx hb dL_law_323 hl (by decide) rfl (fun ls hl => ?_)
  refine lv_aload_n hx hb dL_law_325 rfl (lv_at hl 5 rfl) ?_
  refine l_ref (As := []) (rest := []) X hK hAn hW hS yvX9_thrown ml_L_101 (fun L ow => c_X9_thrown l L τ' ow) rfl hl.1 rfl (Nat.le_of_ble_eq_true rfl) ⟨Nat.le_trans (by decide) hRf.1, Nat.le_trans (by decide) hRf.2⟩ ⟨by have := hc.1; show cells + 1 ≤ _; omega, by have := hc.2; show slots + 6 ≤ _; omega⟩ dL_law_326 (fun H locs hW hS => ?_)
  refine lv_iload hx hb dL_law_329 (lv_at hl 1 rfl) ?_
  refine lv_icmp_eq (tgt := 336) hx hb dL_law_331 (by decide) (fun _ => ?_) (fun z => absurd hth z)
  refine lv_iload hx hb dL_law_336 (lv_at hl 1 rfl) ?_
  refine lv_if_ne (tgt := 353) hx hb dL_law_338 (by decide) (fun _ => ?_) (fun z0 => ?_)
  · refine lv_goto (tgt := 1820) hx hb dL_law_353 (by decide) ?_
    refine W.widen (k := cells + 16) (n := slots + 1000) (by omega) (by omega) ?_
    exact kk f _ _ H locs ls hW hR9 hS (lv_sub hl [2, 3, 4, 5, 6] rfl)
  · have h0 : e9 = 0 := by
      rcases he with rfl | rfl
      · rfl
      · exact absurd z0 (by decide)
    refine lv_aload_n hx hb dL_law_341 rfl (lv_at hl 6 rfl) ?_
    refine lv_iconst (v := nI 0) hx hb dL_law_342 (by decide) ?_
    refine l_lald X hK hW dL_law_343 ?_
    refine lv_iload hx hb dL_law_344 (lv_at hl 0 rfl) ?_
    refine lv_i2l (v := r'.toInt64) hx hb dL_law_346 rfl ?_
    refine l_lcmp hx hb (by rw [hf h0, hag h0]) dL_law_347 ?_
    refine lv_if_eq (tgt := 353) hx hb dL_law_348 (by decide) (fun _ => ?_) (fun z => absurd rfl z)
    refine lv_goto (tgt := 1820) hx hb dL_law_353 (by decide) ?_
    refine W.widen (k := cells + 16) (n := slots + 1000) (by omega) (by omega) ?_
    exact kk f _ _ H locs ls hW hR9 hS (lv_sub hl [2, 3, 4, 5, 6] rfl)
set_option maxRecDepth 100000 in
set_option maxHeartbeats 4000000 in
theorem o_tool (hop : OP_tool D cI cZ cO t0 mi l Rel) (X : CallFix p m c cL_law 7 s args TB RL) (hK : KJ D cI cZ cO cJ s) (hE : EE t0 mi A s s.heap) (hX9 : EX A s s.heap) (hN : NC s) (hAn : ∀ q, s.heap.size ≤ q → A q) (hXs : va_X b N xs s s.heap) (hbl : b < s.heap.size) (hbA : ¬ A b) (hn : n + 6 ≤ N) (hN2 : N ≤ 3072) (hRel : Rel σ τ) (hW : Wd D cI cZ cO cJ t0 A x9 m9 o f σ τ H) (hS : va_S A s.heap H locs) (hl : lv_has ls 7 [(4, .int (nI n)), (0, .ref b), (1, .ref x9), (2, .ref m9), (3, .ref o)]) (hRf : 16 ≤ R.frames ∧ 632 ≤ R.locals) (hc : cells + 16 ≤ R.cells ∧ slots + 1000 ≤ R.slots)
    (kk : ∀ (f : Nat → Int64) (σ τ : St) (H : Heap) (locs : List Loc) (ls : Array Slot), Wd D cI cZ cO cJ t0 A x9 m9 o f σ τ H → Rel σ τ → va_S A s.heap H locs → lv_has ls 7 [(4, .int (nI n)), (0, .ref b), (1, .ref x9), (2, .ref m9), (3, .ref o)] → W p l e R s m args below meth c H locs (cells + 16) (slots + 1000) Q (F0 m 1820 ls [])) : W p l e R s m args below meth c H locs cells slots Q (F0 m 356 ls []) := by
  have hx := X.1
  have hb := X.2.1
  obtain ⟨e9, r, σ', r', τ', hY, hM, he, hth, hag, hR9⟩ := hop σ τ hRel (xs (n + 1)) (xs (n + 2))
  refine lv_aload_n hx hb dL_law_356 rfl (lv_at hl 2 rfl) ?_
  refine lv_aload_n hx hb dL_law_357 rfl (lv_at hl 1 rfl) ?_
  refine lv_iload hx hb dL_law_358 (lv_at hl 0 rfl) ?_
  refine lv_iconst (v := nI 1) hx hb dL_law_360 (by decide) ?_
  refine r_addN hx hb dL_law_361 ?_
  refine pn_sld X hXs hbl hbA hS (k := n + 1) (by omega) (by omega) dL_law_362 ?_
  refine lv_aload_n hx hb dL_law_363 rfl (lv_at hl 1 rfl) ?_
  refine lv_iload hx hb dL_law_364 (lv_at hl 0 rfl) ?_
  refine lv_iconst (v := nI 2) hx hb dL_law_366 (by decide) ?_
  refine r_addN hx hb dL_law_367 ?_
  refine pn_sld X hXs hbl hbA hS (k := n + 2) (by omega) (by omega) dL_law_368 ?_
  refine lv_aload_n hx hb dL_law_369 rfl (lv_at hl 4 rfl) ?_
  refine l_wrap (As := [.ref x9, .int (xs (n + 1)), .int (xs (n + 2)), .ref o]) (rest := []) X hK hE hX9 hN hAn hW hS yl_tool ml_L_112 (fun L ow h => by rw [← h]; exact w_tool l L σ ow o ((xs (n + 1))) ((xs (n + 2))) (hY L ow) he) rfl hl.1 rfl (Nat.le_of_ble_eq_true rfl) ⟨Nat.le_trans (by decide) hRf.1, Nat.le_trans (by decide) hRf.2⟩ ⟨by have := hc.1; show cells + 4 ≤ _; omega, by have := hc.2; show slots + 200 ≤ _; omega⟩ dL_law_370 (fun f H locs hW hf hS => ?_)
  refine lv_istore (lv' := [(5, .int (nI (wk [2, 3] e9))), (4, .int (nI n)), (0, .ref b), (1, .ref x9), (2, .ref m9), (3, .ref o)]) hx hb dL_law_373 hl (by decide) rfl (fun ls hl => ?_)
  refine lv_aload_n hx hb dL_law_375 rfl (lv_at hl 4 rfl) ?_
  refine lv_aload_n hx hb dL_law_376 rfl (lv_at hl 2 rfl) ?_
  refine lv_iload hx hb dL_law_377 (lv_at hl 1 rfl) ?_
  refine lv_iconst (v := nI 1) hx hb dL_law_379 (by decide) ?_
  refine r_addN hx hb dL_law_380 ?_
  refine pn_sld X hXs hbl hbA hS (k := n + 1) (by omega) (by omega) dL_law_381 ?_
  refine lv_aload_n hx hb dL_law_382 rfl (lv_at hl 2 rfl) ?_
  refine lv_iload hx hb dL_law_383 (lv_at hl 1 rfl) ?_
  refine lv_iconst (v := nI 2) hx hb dL_law_385 (by decide) ?_
  refine r_addN hx hb dL_law_386 ?_
  refine pn_sld X hXs hbl hbA hS (k := n + 2) (by omega) (by omega) dL_law_387 ?_
  refine l_ref (As := [.int (xs (n + 1)), .int (xs (n + 2))]) (rest := []) X hK hAn hW hS yvX9_tool ml_L_114 (fun L ow => hM L ow) rfl hl.1 rfl (Nat.le_of_ble_eq_true rfl) ⟨Nat.le_trans (by decide) hRf.1, Nat.le_trans (by decide) hRf.2⟩ ⟨by have := hc.1; show cells + 4 ≤ _; omega, by have := hc.2; show slots + 200 ≤ _; omega⟩ dL_law_388 (fun H locs hW hS => ?_)
  refine lv_istore (lv' := [(6, .int r'), (5, .int (nI (wk [2, 3] e9))), (4, .int (nI n)), (0, .ref b), (1, .ref x9), (2, .ref m9), (3, .ref o)]) hx hb dL_law_391 hl (by decide) rfl (fun ls hl => ?_)
  refine lv_aload_n hx hb dL_law_393 rfl (lv_at hl 5 rfl) ?_
  refine l_ref (As := []) (rest := []) X hK hAn hW hS yvX9_thrown ml_L_101 (fun L ow => c_X9_thrown l L τ' ow) rfl hl.1 rfl (Nat.le_of_ble_eq_true rfl) ⟨Nat.le_trans (by decide) hRf.1, Nat.le_trans (by decide) hRf.2⟩ ⟨by have := hc.1; show cells + 4 ≤ _; omega, by have := hc.2; show slots + 200 ≤ _; omega⟩ dL_law_394 (fun H locs hW hS => ?_)
  refine lv_iload hx hb dL_law_397 (lv_at hl 1 rfl) ?_
  refine lv_icmp_eq (tgt := 404) hx hb dL_law_399 (by decide) (fun _ => ?_) (fun z => absurd hth z)
  refine lv_iload hx hb dL_law_404 (lv_at hl 1 rfl) ?_
  refine lv_if_ne (tgt := 421) hx hb dL_law_406 (by decide) (fun _ => ?_) (fun z0 => ?_)
  · refine lv_goto (tgt := 1820) hx hb dL_law_421 (by decide) ?_
    refine W.widen (k := cells + 16) (n := slots + 1000) (by omega) (by omega) ?_
    exact kk f _ _ H locs ls hW hR9 hS (lv_sub hl [2, 3, 4, 5, 6] rfl)
  · have h0 : e9 = 0 := by
      rcases he with rfl | rfl | rfl
      · rfl
      · exact absurd z0 (by decide)
      · exact absurd z0 (by decide)
    refine lv_aload_n hx hb dL_law_409 rfl (lv_at hl 6 rfl) ?_
    refine lv_iconst (v := nI 0) hx hb dL_law_410 (by decide) ?_
    refine l_lald X hK hW dL_law_411 ?_
    refine lv_iload hx hb dL_law_412 (lv_at hl 0 rfl) ?_
    refine lv_i2l (v := r'.toInt64) hx hb dL_law_414 rfl ?_
    refine l_lcmp hx hb (by rw [hf h0, hag h0]) dL_law_415 ?_
    refine lv_if_eq (tgt := 421) hx hb dL_law_416 (by decide) (fun _ => ?_) (fun z => absurd rfl z)
    refine lv_goto (tgt := 1820) hx hb dL_law_421 (by decide) ?_
    refine W.widen (k := cells + 16) (n := slots + 1000) (by omega) (by omega) ?_
    exact kk f _ _ H locs ls hW hR9 hS (lv_sub hl [2, 3, 4, 5, 6] rfl)
set_option maxRecDepth 100000 in
set_option maxHeartbeats 4000000 in
theorem o_load (hop : OP_load D cI cZ cO t0 mi l Rel) (X : CallFix p m c cL_law 7 s args TB RL) (hK : KJ D cI cZ cO cJ s) (hE : EE t0 mi A s s.heap) (hX9 : EX A s s.heap) (hN : NC s) (hAn : ∀ q, s.heap.size ≤ q → A q) (hXs : va_X b N xs s s.heap) (hbl : b < s.heap.size) (hbA : ¬ A b) (hn : n + 6 ≤ N) (hN2 : N ≤ 3072) (hRel : Rel σ τ) (hW : Wd D cI cZ cO cJ t0 A x9 m9 o f σ τ H) (hS : va_S A s.heap H locs) (hl : lv_has ls 7 [(4, .int (nI n)), (0, .ref b), (1, .ref x9), (2, .ref m9), (3, .ref o)]) (hRf : 16 ≤ R.frames ∧ 632 ≤ R.locals) (hc : cells + 16 ≤ R.cells ∧ slots + 1000 ≤ R.slots)
    (kk : ∀ (f : Nat → Int64) (σ τ : St) (H : Heap) (locs : List Loc) (ls : Array Slot), Wd D cI cZ cO cJ t0 A x9 m9 o f σ τ H → Rel σ τ → va_S A s.heap H locs → lv_has ls 7 [(4, .int (nI n)), (0, .ref b), (1, .ref x9), (2, .ref m9), (3, .ref o)] → W p l e R s m args below meth c H locs (cells + 16) (slots + 1000) Q (F0 m 1820 ls [])) : W p l e R s m args below meth c H locs cells slots Q (F0 m 424 ls []) := by
  have hx := X.1
  have hb := X.2.1
  by_cases h02 : xs (n + 2) = 0
  · obtain ⟨e9, r, σ', r', τ', hY, hM, he, hth, hag, hR9⟩ := hop σ τ hRel (xs (n + 1)) (nI 0) (Or.inl rfl)
    refine lv_aload_n hx hb dL_law_424 rfl (lv_at hl 2 rfl) ?_
    refine lv_aload_n hx hb dL_law_425 rfl (lv_at hl 1 rfl) ?_
    refine lv_iload hx hb dL_law_426 (lv_at hl 0 rfl) ?_
    refine lv_iconst (v := nI 1) hx hb dL_law_428 (by decide) ?_
    refine r_addN hx hb dL_law_429 ?_
    refine pn_sld X hXs hbl hbA hS (k := n + 1) (by omega) (by omega) dL_law_430 ?_
    refine lv_aload_n hx hb dL_law_431 rfl (lv_at hl 1 rfl) ?_
    refine lv_iload hx hb dL_law_432 (lv_at hl 0 rfl) ?_
    refine lv_iconst (v := nI 2) hx hb dL_law_434 (by decide) ?_
    refine r_addN hx hb dL_law_435 ?_
    refine pn_sld X hXs hbl hbA hS (k := n + 2) (by omega) (by omega) dL_law_436 ?_
    refine lv_if_eq (tgt := 444) hx hb dL_law_437 (by decide) (fun _ => ?_) (fun z => absurd h02 z)
    refine lv_iconst (v := nI 0) hx hb dL_law_444 (by decide) ?_
    refine lv_aload_n hx hb dL_law_445 rfl (lv_at hl 4 rfl) ?_
    refine l_wrap (As := [.ref x9, .int (xs (n + 1)), .int (nI 0), .ref o]) (rest := []) X hK hE hX9 hN hAn hW hS yl_load ml_L_115 (fun L ow h => by rw [← h]; exact w_load l L σ ow o ((xs (n + 1))) ((nI 0)) (hY L ow) he) rfl hl.1 rfl (Nat.le_of_ble_eq_true rfl) ⟨Nat.le_trans (by decide) hRf.1, Nat.le_trans (by decide) hRf.2⟩ ⟨by have := hc.1; show cells + 2 ≤ _; omega, by have := hc.2; show slots + 12 ≤ _; omega⟩ dL_law_446 (fun f H locs hW hf hS => ?_)
    refine lv_istore (lv' := [(5, .int (nI (wk [1, 3] e9))), (4, .int (nI n)), (0, .ref b), (1, .ref x9), (2, .ref m9), (3, .ref o)]) hx hb dL_law_449 hl (by decide) rfl (fun ls hl => ?_)
    refine lv_aload_n hx hb dL_law_451 rfl (lv_at hl 4 rfl) ?_
    refine lv_aload_n hx hb dL_law_452 rfl (lv_at hl 2 rfl) ?_
    refine lv_iload hx hb dL_law_453 (lv_at hl 1 rfl) ?_
    refine lv_iconst (v := nI 1) hx hb dL_law_455 (by decide) ?_
    refine r_addN hx hb dL_law_456 ?_
    refine pn_sld X hXs hbl hbA hS (k := n + 1) (by omega) (by omega) dL_law_457 ?_
    refine lv_aload_n hx hb dL_law_458 rfl (lv_at hl 2 rfl) ?_
    refine lv_iload hx hb dL_law_459 (lv_at hl 1 rfl) ?_
    refine lv_iconst (v := nI 2) hx hb dL_law_461 (by decide) ?_
    refine r_addN hx hb dL_law_462 ?_
    refine pn_sld X hXs hbl hbA hS (k := n + 2) (by omega) (by omega) dL_law_463 ?_
    refine lv_if_eq (tgt := 471) hx hb dL_law_464 (by decide) (fun _ => ?_) (fun z => absurd h02 z)
    refine lv_iconst (v := nI 0) hx hb dL_law_471 (by decide) ?_
    refine l_ref (As := [.int (xs (n + 1)), .int (nI 0)]) (rest := []) X hK hAn hW hS yvX9_load ml_L_118 (fun L ow => hM L ow) rfl hl.1 rfl (Nat.le_of_ble_eq_true rfl) ⟨Nat.le_trans (by decide) hRf.1, Nat.le_trans (by decide) hRf.2⟩ ⟨by have := hc.1; show cells + 2 ≤ _; omega, by have := hc.2; show slots + 12 ≤ _; omega⟩ dL_law_472 (fun H locs hW hS => ?_)
    refine lv_istore (lv' := [(6, .int r'), (5, .int (nI (wk [1, 3] e9))), (4, .int (nI n)), (0, .ref b), (1, .ref x9), (2, .ref m9), (3, .ref o)]) hx hb dL_law_475 hl (by decide) rfl (fun ls hl => ?_)
    refine lv_aload_n hx hb dL_law_477 rfl (lv_at hl 5 rfl) ?_
    refine l_ref (As := []) (rest := []) X hK hAn hW hS yvX9_thrown ml_L_101 (fun L ow => c_X9_thrown l L τ' ow) rfl hl.1 rfl (Nat.le_of_ble_eq_true rfl) ⟨Nat.le_trans (by decide) hRf.1, Nat.le_trans (by decide) hRf.2⟩ ⟨by have := hc.1; show cells + 2 ≤ _; omega, by have := hc.2; show slots + 12 ≤ _; omega⟩ dL_law_478 (fun H locs hW hS => ?_)
    refine lv_iload hx hb dL_law_481 (lv_at hl 1 rfl) ?_
    refine lv_icmp_eq (tgt := 488) hx hb dL_law_483 (by decide) (fun _ => ?_) (fun z => absurd hth z)
    refine lv_iload hx hb dL_law_488 (lv_at hl 1 rfl) ?_
    refine lv_if_ne (tgt := 505) hx hb dL_law_490 (by decide) (fun _ => ?_) (fun z0 => ?_)
    · refine lv_goto (tgt := 1820) hx hb dL_law_505 (by decide) ?_
      refine W.widen (k := cells + 16) (n := slots + 1000) (by omega) (by omega) ?_
      exact kk f _ _ H locs ls hW hR9 hS (lv_sub hl [2, 3, 4, 5, 6] rfl)
    · have h0 : e9 = 0 := by
        rcases he with rfl | rfl | rfl
        · rfl
        · exact absurd z0 (by decide)
        · exact absurd z0 (by decide)
      refine lv_aload_n hx hb dL_law_493 rfl (lv_at hl 6 rfl) ?_
      refine lv_iconst (v := nI 0) hx hb dL_law_494 (by decide) ?_
      refine l_lald X hK hW dL_law_495 ?_
      refine lv_iload hx hb dL_law_496 (lv_at hl 0 rfl) ?_
      refine lv_i2l (v := r'.toInt64) hx hb dL_law_498 rfl ?_
      refine l_lcmp hx hb (by rw [hf h0, hag h0]) dL_law_499 ?_
      refine lv_if_eq (tgt := 505) hx hb dL_law_500 (by decide) (fun _ => ?_) (fun z => absurd rfl z)
      refine lv_goto (tgt := 1820) hx hb dL_law_505 (by decide) ?_
      refine W.widen (k := cells + 16) (n := slots + 1000) (by omega) (by omega) ?_
      exact kk f _ _ H locs ls hW hR9 hS (lv_sub hl [2, 3, 4, 5, 6] rfl)
  · obtain ⟨e9, r, σ', r', τ', hY, hM, he, hth, hag, hR9⟩ := hop σ τ hRel (xs (n + 1)) (nI 1) (Or.inr rfl)
    refine lv_aload_n hx hb dL_law_424 rfl (lv_at hl 2 rfl) ?_
    refine lv_aload_n hx hb dL_law_425 rfl (lv_at hl 1 rfl) ?_
    refine lv_iload hx hb dL_law_426 (lv_at hl 0 rfl) ?_
    refine lv_iconst (v := nI 1) hx hb dL_law_428 (by decide) ?_
    refine r_addN hx hb dL_law_429 ?_
    refine pn_sld X hXs hbl hbA hS (k := n + 1) (by omega) (by omega) dL_law_430 ?_
    refine lv_aload_n hx hb dL_law_431 rfl (lv_at hl 1 rfl) ?_
    refine lv_iload hx hb dL_law_432 (lv_at hl 0 rfl) ?_
    refine lv_iconst (v := nI 2) hx hb dL_law_434 (by decide) ?_
    refine r_addN hx hb dL_law_435 ?_
    refine pn_sld X hXs hbl hbA hS (k := n + 2) (by omega) (by omega) dL_law_436 ?_
    refine lv_if_eq (tgt := 444) hx hb dL_law_437 (by decide) (fun z => absurd z h02) (fun _ => ?_)
    refine lv_iconst (v := nI 1) hx hb dL_law_440 (by decide) ?_
    refine lv_goto (tgt := 445) hx hb dL_law_441 (by decide) ?_
    refine lv_aload_n hx hb dL_law_445 rfl (lv_at hl 4 rfl) ?_
    refine l_wrap (As := [.ref x9, .int (xs (n + 1)), .int (nI 1), .ref o]) (rest := []) X hK hE hX9 hN hAn hW hS yl_load ml_L_115 (fun L ow h => by rw [← h]; exact w_load l L σ ow o ((xs (n + 1))) ((nI 1)) (hY L ow) he) rfl hl.1 rfl (Nat.le_of_ble_eq_true rfl) ⟨Nat.le_trans (by decide) hRf.1, Nat.le_trans (by decide) hRf.2⟩ ⟨by have := hc.1; show cells + 2 ≤ _; omega, by have := hc.2; show slots + 12 ≤ _; omega⟩ dL_law_446 (fun f H locs hW hf hS => ?_)
    refine lv_istore (lv' := [(5, .int (nI (wk [1, 3] e9))), (4, .int (nI n)), (0, .ref b), (1, .ref x9), (2, .ref m9), (3, .ref o)]) hx hb dL_law_449 hl (by decide) rfl (fun ls hl => ?_)
    refine lv_aload_n hx hb dL_law_451 rfl (lv_at hl 4 rfl) ?_
    refine lv_aload_n hx hb dL_law_452 rfl (lv_at hl 2 rfl) ?_
    refine lv_iload hx hb dL_law_453 (lv_at hl 1 rfl) ?_
    refine lv_iconst (v := nI 1) hx hb dL_law_455 (by decide) ?_
    refine r_addN hx hb dL_law_456 ?_
    refine pn_sld X hXs hbl hbA hS (k := n + 1) (by omega) (by omega) dL_law_457 ?_
    refine lv_aload_n hx hb dL_law_458 rfl (lv_at hl 2 rfl) ?_
    refine lv_iload hx hb dL_law_459 (lv_at hl 1 rfl) ?_
    refine lv_iconst (v := nI 2) hx hb dL_law_461 (by decide) ?_
    refine r_addN hx hb dL_law_462 ?_
    refine pn_sld X hXs hbl hbA hS (k := n + 2) (by omega) (by omega) dL_law_463 ?_
    refine lv_if_eq (tgt := 471) hx hb dL_law_464 (by decide) (fun z => absurd z h02) (fun _ => ?_)
    refine lv_iconst (v := nI 1) hx hb dL_law_467 (by decide) ?_
    refine lv_goto (tgt := 472) hx hb dL_law_468 (by decide) ?_
    refine l_ref (As := [.int (xs (n + 1)), .int (nI 1)]) (rest := []) X hK hAn hW hS yvX9_load ml_L_118 (fun L ow => hM L ow) rfl hl.1 rfl (Nat.le_of_ble_eq_true rfl) ⟨Nat.le_trans (by decide) hRf.1, Nat.le_trans (by decide) hRf.2⟩ ⟨by have := hc.1; show cells + 2 ≤ _; omega, by have := hc.2; show slots + 12 ≤ _; omega⟩ dL_law_472 (fun H locs hW hS => ?_)
    refine lv_istore (lv' := [(6, .int r'), (5, .int (nI (wk [1, 3] e9))), (4, .int (nI n)), (0, .ref b), (1, .ref x9), (2, .ref m9), (3, .ref o)]) hx hb dL_law_475 hl (by decide) rfl (fun ls hl => ?_)
    refine lv_aload_n hx hb dL_law_477 rfl (lv_at hl 5 rfl) ?_
    refine l_ref (As := []) (rest := []) X hK hAn hW hS yvX9_thrown ml_L_101 (fun L ow => c_X9_thrown l L τ' ow) rfl hl.1 rfl (Nat.le_of_ble_eq_true rfl) ⟨Nat.le_trans (by decide) hRf.1, Nat.le_trans (by decide) hRf.2⟩ ⟨by have := hc.1; show cells + 2 ≤ _; omega, by have := hc.2; show slots + 12 ≤ _; omega⟩ dL_law_478 (fun H locs hW hS => ?_)
    refine lv_iload hx hb dL_law_481 (lv_at hl 1 rfl) ?_
    refine lv_icmp_eq (tgt := 488) hx hb dL_law_483 (by decide) (fun _ => ?_) (fun z => absurd hth z)
    refine lv_iload hx hb dL_law_488 (lv_at hl 1 rfl) ?_
    refine lv_if_ne (tgt := 505) hx hb dL_law_490 (by decide) (fun _ => ?_) (fun z0 => ?_)
    · refine lv_goto (tgt := 1820) hx hb dL_law_505 (by decide) ?_
      refine W.widen (k := cells + 16) (n := slots + 1000) (by omega) (by omega) ?_
      exact kk f _ _ H locs ls hW hR9 hS (lv_sub hl [2, 3, 4, 5, 6] rfl)
    · have h0 : e9 = 0 := by
        rcases he with rfl | rfl | rfl
        · rfl
        · exact absurd z0 (by decide)
        · exact absurd z0 (by decide)
      refine lv_aload_n hx hb dL_law_493 rfl (lv_at hl 6 rfl) ?_
      refine lv_iconst (v := nI 0) hx hb dL_law_494 (by decide) ?_
      refine l_lald X hK hW dL_law_495 ?_
      refine lv_iload hx hb dL_law_496 (lv_at hl 0 rfl) ?_
      refine lv_i2l (v := r'.toInt64) hx hb dL_law_498 rfl ?_
      refine l_lcmp hx hb (by rw [hf h0, hag h0]) dL_law_499 ?_
      refine lv_if_eq (tgt := 505) hx hb dL_law_500 (by decide) (fun _ => ?_) (fun z => absurd rfl z)
      refine lv_goto (tgt := 1820) hx hb dL_law_505 (by decide) ?_
      refine W.widen (k := cells + 16) (n := slots + 1000) (by omega) (by omega) ?_
      exact kk f _ _ H locs ls hW hR9 hS (lv_sub hl [2, 3, 4, 5, 6] rfl)
set_option maxRecDepth 100000 in
set_option maxHeartbeats 4000000 in
theorem o_pallet (hop : OP_pallet D cI cZ cO t0 mi l Rel) (X : CallFix p m c cL_law 7 s args TB RL) (hK : KJ D cI cZ cO cJ s) (hE : EE t0 mi A s s.heap) (hX9 : EX A s s.heap) (hN : NC s) (hAn : ∀ q, s.heap.size ≤ q → A q) (hXs : va_X b N xs s s.heap) (hbl : b < s.heap.size) (hbA : ¬ A b) (hn : n + 6 ≤ N) (hN2 : N ≤ 3072) (hRel : Rel σ τ) (hW : Wd D cI cZ cO cJ t0 A x9 m9 o f σ τ H) (hS : va_S A s.heap H locs) (hl : lv_has ls 7 [(4, .int (nI n)), (0, .ref b), (1, .ref x9), (2, .ref m9), (3, .ref o)]) (hRf : 16 ≤ R.frames ∧ 632 ≤ R.locals) (hc : cells + 16 ≤ R.cells ∧ slots + 1000 ≤ R.slots)
    (kk : ∀ (f : Nat → Int64) (σ τ : St) (H : Heap) (locs : List Loc) (ls : Array Slot), Wd D cI cZ cO cJ t0 A x9 m9 o f σ τ H → Rel σ τ → va_S A s.heap H locs → lv_has ls 7 [(4, .int (nI n)), (0, .ref b), (1, .ref x9), (2, .ref m9), (3, .ref o)] → W p l e R s m args below meth c H locs (cells + 16) (slots + 1000) Q (F0 m 1820 ls [])) : W p l e R s m args below meth c H locs cells slots Q (F0 m 508 ls []) := by
  have hx := X.1
  have hb := X.2.1
  obtain ⟨e9, r, σ', r', τ', hY, hM, he, hth, hag, hR9⟩ := hop σ τ hRel (xs (n + 1))
  refine lv_aload_n hx hb dL_law_508 rfl (lv_at hl 2 rfl) ?_
  refine lv_aload_n hx hb dL_law_509 rfl (lv_at hl 1 rfl) ?_
  refine lv_iload hx hb dL_law_510 (lv_at hl 0 rfl) ?_
  refine lv_iconst (v := nI 1) hx hb dL_law_512 (by decide) ?_
  refine r_addN hx hb dL_law_513 ?_
  refine pn_sld X hXs hbl hbA hS (k := n + 1) (by omega) (by omega) dL_law_514 ?_
  refine lv_aload_n hx hb dL_law_515 rfl (lv_at hl 4 rfl) ?_
  refine l_wrap (As := [.ref x9, .int (xs (n + 1)), .ref o]) (rest := []) X hK hE hX9 hN hAn hW hS yl_pallet ml_L_119 (fun L ow h => by rw [← h]; exact w_pallet l L σ ow o ((xs (n + 1))) (hY L ow) he) rfl hl.1 rfl (Nat.le_of_ble_eq_true rfl) ⟨Nat.le_trans (by decide) hRf.1, Nat.le_trans (by decide) hRf.2⟩ ⟨by have := hc.1; show cells + 8 ≤ _; omega, by have := hc.2; show slots + 800 ≤ _; omega⟩ dL_law_516 (fun f H locs hW hf hS => ?_)
  refine lv_istore (lv' := [(5, .int (nI (wk [2, 3] e9))), (4, .int (nI n)), (0, .ref b), (1, .ref x9), (2, .ref m9), (3, .ref o)]) hx hb dL_law_519 hl (by decide) rfl (fun ls hl => ?_)
  refine lv_aload_n hx hb dL_law_521 rfl (lv_at hl 4 rfl) ?_
  refine lv_aload_n hx hb dL_law_522 rfl (lv_at hl 2 rfl) ?_
  refine lv_iload hx hb dL_law_523 (lv_at hl 1 rfl) ?_
  refine lv_iconst (v := nI 1) hx hb dL_law_525 (by decide) ?_
  refine r_addN hx hb dL_law_526 ?_
  refine pn_sld X hXs hbl hbA hS (k := n + 1) (by omega) (by omega) dL_law_527 ?_
  refine l_ref (As := [.int (xs (n + 1))]) (rest := []) X hK hAn hW hS yvX9_pallet ml_L_122 (fun L ow => hM L ow) rfl hl.1 rfl (Nat.le_of_ble_eq_true rfl) ⟨Nat.le_trans (by decide) hRf.1, Nat.le_trans (by decide) hRf.2⟩ ⟨by have := hc.1; show cells + 8 ≤ _; omega, by have := hc.2; show slots + 800 ≤ _; omega⟩ dL_law_528 (fun H locs hW hS => ?_)
  refine lv_istore (lv' := [(6, .int r'), (5, .int (nI (wk [2, 3] e9))), (4, .int (nI n)), (0, .ref b), (1, .ref x9), (2, .ref m9), (3, .ref o)]) hx hb dL_law_531 hl (by decide) rfl (fun ls hl => ?_)
  refine lv_aload_n hx hb dL_law_533 rfl (lv_at hl 5 rfl) ?_
  refine l_ref (As := []) (rest := []) X hK hAn hW hS yvX9_thrown ml_L_101 (fun L ow => c_X9_thrown l L τ' ow) rfl hl.1 rfl (Nat.le_of_ble_eq_true rfl) ⟨Nat.le_trans (by decide) hRf.1, Nat.le_trans (by decide) hRf.2⟩ ⟨by have := hc.1; show cells + 8 ≤ _; omega, by have := hc.2; show slots + 800 ≤ _; omega⟩ dL_law_534 (fun H locs hW hS => ?_)
  refine lv_iload hx hb dL_law_537 (lv_at hl 1 rfl) ?_
  refine lv_icmp_eq (tgt := 544) hx hb dL_law_539 (by decide) (fun _ => ?_) (fun z => absurd hth z)
  refine lv_iload hx hb dL_law_544 (lv_at hl 1 rfl) ?_
  refine lv_if_ne (tgt := 561) hx hb dL_law_546 (by decide) (fun _ => ?_) (fun z0 => ?_)
  · refine lv_goto (tgt := 1820) hx hb dL_law_561 (by decide) ?_
    refine W.widen (k := cells + 16) (n := slots + 1000) (by omega) (by omega) ?_
    exact kk f _ _ H locs ls hW hR9 hS (lv_sub hl [2, 3, 4, 5, 6] rfl)
  · have h0 : e9 = 0 := by
      rcases he with rfl | rfl | rfl
      · rfl
      · exact absurd z0 (by decide)
      · exact absurd z0 (by decide)
    refine lv_aload_n hx hb dL_law_549 rfl (lv_at hl 6 rfl) ?_
    refine lv_iconst (v := nI 0) hx hb dL_law_550 (by decide) ?_
    refine l_lald X hK hW dL_law_551 ?_
    refine lv_iload hx hb dL_law_552 (lv_at hl 0 rfl) ?_
    refine lv_i2l (v := r'.toInt64) hx hb dL_law_554 rfl ?_
    refine l_lcmp hx hb (by rw [hf h0, hag h0]) dL_law_555 ?_
    refine lv_if_eq (tgt := 561) hx hb dL_law_556 (by decide) (fun _ => ?_) (fun z => absurd rfl z)
    refine lv_goto (tgt := 1820) hx hb dL_law_561 (by decide) ?_
    refine W.widen (k := cells + 16) (n := slots + 1000) (by omega) (by omega) ?_
    exact kk f _ _ H locs ls hW hR9 hS (lv_sub hl [2, 3, 4, 5, 6] rfl)
set_option maxRecDepth 100000 in
set_option maxHeartbeats 4000000 in
theorem o_clamp (hop : OP_clamp D cI cZ cO t0 mi l Rel) (X : CallFix p m c cL_law 7 s args TB RL) (hK : KJ D cI cZ cO cJ s) (hE : EE t0 mi A s s.heap) (hX9 : EX A s s.heap) (hN : NC s) (hAn : ∀ q, s.heap.size ≤ q → A q) (hXs : va_X b N xs s s.heap) (hbl : b < s.heap.size) (hbA : ¬ A b) (hn : n + 6 ≤ N) (hN2 : N ≤ 3072) (hRel : Rel σ τ) (hW : Wd D cI cZ cO cJ t0 A x9 m9 o f σ τ H) (hS : va_S A s.heap H locs) (hl : lv_has ls 7 [(4, .int (nI n)), (0, .ref b), (1, .ref x9), (2, .ref m9), (3, .ref o)]) (hRf : 16 ≤ R.frames ∧ 632 ≤ R.locals) (hc : cells + 16 ≤ R.cells ∧ slots + 1000 ≤ R.slots)
    (kk : ∀ (f : Nat → Int64) (σ τ : St) (H : Heap) (locs : List Loc) (ls : Array Slot), Wd D cI cZ cO cJ t0 A x9 m9 o f σ τ H → Rel σ τ → va_S A s.heap H locs → lv_has ls 7 [(4, .int (nI n)), (0, .ref b), (1, .ref x9), (2, .ref m9), (3, .ref o)] → W p l e R s m args below meth c H locs (cells + 16) (slots + 1000) Q (F0 m 1820 ls [])) : W p l e R s m args below meth c H locs cells slots Q (F0 m 564 ls []) := by
  have hx := X.1
  have hb := X.2.1
  obtain ⟨e9, r, σ', r', τ', hY, hM, he, hth, hag, hR9⟩ := hop σ τ hRel (xs (n + 1)) (xs (n + 2)) (xs (n + 3)) (xs (n + 4))
  refine lv_aload_n hx hb dL_law_564 rfl (lv_at hl 2 rfl) ?_
  refine lv_aload_n hx hb dL_law_565 rfl (lv_at hl 1 rfl) ?_
  refine lv_iload hx hb dL_law_566 (lv_at hl 0 rfl) ?_
  refine lv_iconst (v := nI 1) hx hb dL_law_568 (by decide) ?_
  refine r_addN hx hb dL_law_569 ?_
  refine pn_sld X hXs hbl hbA hS (k := n + 1) (by omega) (by omega) dL_law_570 ?_
  refine lv_aload_n hx hb dL_law_571 rfl (lv_at hl 1 rfl) ?_
  refine lv_iload hx hb dL_law_572 (lv_at hl 0 rfl) ?_
  refine lv_iconst (v := nI 2) hx hb dL_law_574 (by decide) ?_
  refine r_addN hx hb dL_law_575 ?_
  refine pn_sld X hXs hbl hbA hS (k := n + 2) (by omega) (by omega) dL_law_576 ?_
  refine lv_aload_n hx hb dL_law_577 rfl (lv_at hl 1 rfl) ?_
  refine lv_iload hx hb dL_law_578 (lv_at hl 0 rfl) ?_
  refine lv_iconst (v := nI 3) hx hb dL_law_580 (by decide) ?_
  refine r_addN hx hb dL_law_581 ?_
  refine pn_sld X hXs hbl hbA hS (k := n + 3) (by omega) (by omega) dL_law_582 ?_
  refine lv_aload_n hx hb dL_law_583 rfl (lv_at hl 1 rfl) ?_
  refine lv_iload hx hb dL_law_584 (lv_at hl 0 rfl) ?_
  refine lv_iconst (v := nI 4) hx hb dL_law_586 (by decide) ?_
  refine r_addN hx hb dL_law_587 ?_
  refine pn_sld X hXs hbl hbA hS (k := n + 4) (by omega) (by omega) dL_law_588 ?_
  refine lv_aload_n hx hb dL_law_589 rfl (lv_at hl 4 rfl) ?_
  refine l_wrap (As := [.ref x9, .int (xs (n + 1)), .int (xs (n + 2)), .int (xs (n + 3)), .int (xs (n + 4)), .ref o]) (rest := []) X hK hE hX9 hN hAn hW hS yl_clamp ml_L_123 (fun L ow h => by rw [← h]; exact w_clamp l L σ ow o ((xs (n + 1))) ((xs (n + 2))) ((xs (n + 3))) ((xs (n + 4))) (hY L ow) he) rfl hl.1 rfl (Nat.le_of_ble_eq_true rfl) ⟨Nat.le_trans (by decide) hRf.1, Nat.le_trans (by decide) hRf.2⟩ ⟨by have := hc.1; show cells + 3 ≤ _; omega, by have := hc.2; show slots + 18 ≤ _; omega⟩ dL_law_590 (fun f H locs hW hf hS => ?_)
  refine lv_istore (lv' := [(5, .int (nI (wk [1, 2, 3] e9))), (4, .int (nI n)), (0, .ref b), (1, .ref x9), (2, .ref m9), (3, .ref o)]) hx hb dL_law_593 hl (by decide) rfl (fun ls hl => ?_)
  refine lv_aload_n hx hb dL_law_595 rfl (lv_at hl 4 rfl) ?_
  refine lv_aload_n hx hb dL_law_596 rfl (lv_at hl 2 rfl) ?_
  refine lv_iload hx hb dL_law_597 (lv_at hl 1 rfl) ?_
  refine lv_iconst (v := nI 1) hx hb dL_law_599 (by decide) ?_
  refine r_addN hx hb dL_law_600 ?_
  refine pn_sld X hXs hbl hbA hS (k := n + 1) (by omega) (by omega) dL_law_601 ?_
  refine lv_aload_n hx hb dL_law_602 rfl (lv_at hl 2 rfl) ?_
  refine lv_iload hx hb dL_law_603 (lv_at hl 1 rfl) ?_
  refine lv_iconst (v := nI 2) hx hb dL_law_605 (by decide) ?_
  refine r_addN hx hb dL_law_606 ?_
  refine pn_sld X hXs hbl hbA hS (k := n + 2) (by omega) (by omega) dL_law_607 ?_
  refine lv_aload_n hx hb dL_law_608 rfl (lv_at hl 2 rfl) ?_
  refine lv_iload hx hb dL_law_609 (lv_at hl 1 rfl) ?_
  refine lv_iconst (v := nI 3) hx hb dL_law_611 (by decide) ?_
  refine r_addN hx hb dL_law_612 ?_
  refine pn_sld X hXs hbl hbA hS (k := n + 3) (by omega) (by omega) dL_law_613 ?_
  refine lv_aload_n hx hb dL_law_614 rfl (lv_at hl 2 rfl) ?_
  refine lv_iload hx hb dL_law_615 (lv_at hl 1 rfl) ?_
  refine lv_iconst (v := nI 4) hx hb dL_law_617 (by decide) ?_
  refine r_addN hx hb dL_law_618 ?_
  refine pn_sld X hXs hbl hbA hS (k := n + 4) (by omega) (by omega) dL_law_619 ?_
  refine l_ref (As := [.int (xs (n + 1)), .int (xs (n + 2)), .int (xs (n + 3)), .int (xs (n + 4))]) (rest := []) X hK hAn hW hS yvX9_clamp ml_L_126 (fun L ow => hM L ow) rfl hl.1 rfl (Nat.le_of_ble_eq_true rfl) ⟨Nat.le_trans (by decide) hRf.1, Nat.le_trans (by decide) hRf.2⟩ ⟨by have := hc.1; show cells + 3 ≤ _; omega, by have := hc.2; show slots + 18 ≤ _; omega⟩ dL_law_620 (fun H locs hW hS => ?_)
  refine lv_istore (lv' := [(6, .int r'), (5, .int (nI (wk [1, 2, 3] e9))), (4, .int (nI n)), (0, .ref b), (1, .ref x9), (2, .ref m9), (3, .ref o)]) hx hb dL_law_623 hl (by decide) rfl (fun ls hl => ?_)
  refine lv_aload_n hx hb dL_law_625 rfl (lv_at hl 5 rfl) ?_
  refine l_ref (As := []) (rest := []) X hK hAn hW hS yvX9_thrown ml_L_101 (fun L ow => c_X9_thrown l L τ' ow) rfl hl.1 rfl (Nat.le_of_ble_eq_true rfl) ⟨Nat.le_trans (by decide) hRf.1, Nat.le_trans (by decide) hRf.2⟩ ⟨by have := hc.1; show cells + 3 ≤ _; omega, by have := hc.2; show slots + 18 ≤ _; omega⟩ dL_law_626 (fun H locs hW hS => ?_)
  refine lv_iload hx hb dL_law_629 (lv_at hl 1 rfl) ?_
  refine lv_icmp_eq (tgt := 636) hx hb dL_law_631 (by decide) (fun _ => ?_) (fun z => absurd hth z)
  refine lv_iload hx hb dL_law_636 (lv_at hl 1 rfl) ?_
  refine lv_if_ne (tgt := 653) hx hb dL_law_638 (by decide) (fun _ => ?_) (fun z0 => ?_)
  · refine lv_goto (tgt := 1820) hx hb dL_law_653 (by decide) ?_
    refine W.widen (k := cells + 16) (n := slots + 1000) (by omega) (by omega) ?_
    exact kk f _ _ H locs ls hW hR9 hS (lv_sub hl [2, 3, 4, 5, 6] rfl)
  · have h0 : e9 = 0 := by
      rcases he with rfl | rfl | rfl | rfl
      · rfl
      · exact absurd z0 (by decide)
      · exact absurd z0 (by decide)
      · exact absurd z0 (by decide)
    refine lv_aload_n hx hb dL_law_641 rfl (lv_at hl 6 rfl) ?_
    refine lv_iconst (v := nI 0) hx hb dL_law_642 (by decide) ?_
    refine l_lald X hK hW dL_law_643 ?_
    refine lv_iload hx hb dL_law_644 (lv_at hl 0 rfl) ?_
    refine lv_i2l (v := r'.toInt64) hx hb dL_law_646 rfl ?_
    refine l_lcmp hx hb (by rw [hf h0, hag h0]) dL_law_647 ?_
    refine lv_if_eq (tgt := 653) hx hb dL_law_648 (by decide) (fun _ => ?_) (fun z => absurd rfl z)
    refine lv_goto (tgt := 1820) hx hb dL_law_653 (by decide) ?_
    refine W.widen (k := cells + 16) (n := slots + 1000) (by omega) (by omega) ?_
    exact kk f _ _ H locs ls hW hR9 hS (lv_sub hl [2, 3, 4, 5, 6] rfl)
set_option maxRecDepth 100000 in
set_option maxHeartbeats 4000000 in
theorem o_prove (hop : OP_prove D cI cZ cO t0 mi l Rel) (X : CallFix p m c cL_law 7 s args TB RL) (hK : KJ D cI cZ cO cJ s) (hE : EE t0 mi A s s.heap) (hX9 : EX A s s.heap) (hN : NC s) (hAn : ∀ q, s.heap.size ≤ q → A q) (hXs : va_X b N xs s s.heap) (hbl : b < s.heap.size) (hbA : ¬ A b) (hn : n + 6 ≤ N) (hN2 : N ≤ 3072) (hRel : Rel σ τ) (hW : Wd D cI cZ cO cJ t0 A x9 m9 o f σ τ H) (hS : va_S A s.heap H locs) (hl : lv_has ls 7 [(4, .int (nI n)), (0, .ref b), (1, .ref x9), (2, .ref m9), (3, .ref o)]) (hRf : 16 ≤ R.frames ∧ 632 ≤ R.locals) (hc : cells + 16 ≤ R.cells ∧ slots + 1000 ≤ R.slots)
    (kk : ∀ (f : Nat → Int64) (σ τ : St) (H : Heap) (locs : List Loc) (ls : Array Slot), Wd D cI cZ cO cJ t0 A x9 m9 o f σ τ H → Rel σ τ → va_S A s.heap H locs → lv_has ls 7 [(4, .int (nI n)), (0, .ref b), (1, .ref x9), (2, .ref m9), (3, .ref o)] → W p l e R s m args below meth c H locs (cells + 16) (slots + 1000) Q (F0 m 1820 ls [])) : W p l e R s m args below meth c H locs cells slots Q (F0 m 656 ls []) := by
  have hx := X.1
  have hb := X.2.1
  obtain ⟨e9, r, σ', r', τ', hY, hM, he, hth, hag, hR9⟩ := hop σ τ hRel (xs (n + 1)) (xs (n + 2))
  refine lv_aload_n hx hb dL_law_656 rfl (lv_at hl 2 rfl) ?_
  refine lv_aload_n hx hb dL_law_657 rfl (lv_at hl 1 rfl) ?_
  refine lv_iload hx hb dL_law_658 (lv_at hl 0 rfl) ?_
  refine lv_iconst (v := nI 1) hx hb dL_law_660 (by decide) ?_
  refine r_addN hx hb dL_law_661 ?_
  refine pn_sld X hXs hbl hbA hS (k := n + 1) (by omega) (by omega) dL_law_662 ?_
  refine lv_aload_n hx hb dL_law_663 rfl (lv_at hl 1 rfl) ?_
  refine lv_iload hx hb dL_law_664 (lv_at hl 0 rfl) ?_
  refine lv_iconst (v := nI 2) hx hb dL_law_666 (by decide) ?_
  refine r_addN hx hb dL_law_667 ?_
  refine pn_sld X hXs hbl hbA hS (k := n + 2) (by omega) (by omega) dL_law_668 ?_
  refine lv_aload_n hx hb dL_law_669 rfl (lv_at hl 4 rfl) ?_
  refine l_wrap (As := [.ref x9, .int (xs (n + 1)), .int (xs (n + 2)), .ref o]) (rest := []) X hK hE hX9 hN hAn hW hS yl_prove ml_L_127 (fun L ow h => by rw [← h]; exact w_prove l L σ ow o ((xs (n + 1))) ((xs (n + 2))) (hY L ow) he) rfl hl.1 rfl (Nat.le_of_ble_eq_true rfl) ⟨Nat.le_trans (by decide) hRf.1, Nat.le_trans (by decide) hRf.2⟩ ⟨by have := hc.1; show cells + 3 ≤ _; omega, by have := hc.2; show slots + 22 ≤ _; omega⟩ dL_law_670 (fun f H locs hW hf hS => ?_)
  refine lv_istore (lv' := [(5, .int (nI (wk [1] e9))), (4, .int (nI n)), (0, .ref b), (1, .ref x9), (2, .ref m9), (3, .ref o)]) hx hb dL_law_673 hl (by decide) rfl (fun ls hl => ?_)
  refine lv_aload_n hx hb dL_law_675 rfl (lv_at hl 4 rfl) ?_
  refine lv_aload_n hx hb dL_law_676 rfl (lv_at hl 2 rfl) ?_
  refine lv_iload hx hb dL_law_677 (lv_at hl 1 rfl) ?_
  refine lv_iconst (v := nI 1) hx hb dL_law_679 (by decide) ?_
  refine r_addN hx hb dL_law_680 ?_
  refine pn_sld X hXs hbl hbA hS (k := n + 1) (by omega) (by omega) dL_law_681 ?_
  refine lv_aload_n hx hb dL_law_682 rfl (lv_at hl 2 rfl) ?_
  refine lv_iload hx hb dL_law_683 (lv_at hl 1 rfl) ?_
  refine lv_iconst (v := nI 2) hx hb dL_law_685 (by decide) ?_
  refine r_addN hx hb dL_law_686 ?_
  refine pn_sld X hXs hbl hbA hS (k := n + 2) (by omega) (by omega) dL_law_687 ?_
  refine l_ref (As := [.int (xs (n + 1)), .int (xs (n + 2))]) (rest := []) X hK hAn hW hS yvX9_prove ml_L_129 (fun L ow => hM L ow) rfl hl.1 rfl (Nat.le_of_ble_eq_true rfl) ⟨Nat.le_trans (by decide) hRf.1, Nat.le_trans (by decide) hRf.2⟩ ⟨by have := hc.1; show cells + 3 ≤ _; omega, by have := hc.2; show slots + 22 ≤ _; omega⟩ dL_law_688 (fun H locs hW hS => ?_)
  refine lv_istore (lv' := [(6, .int r'), (5, .int (nI (wk [1] e9))), (4, .int (nI n)), (0, .ref b), (1, .ref x9), (2, .ref m9), (3, .ref o)]) hx hb dL_law_691 hl (by decide) rfl (fun ls hl => ?_)
  refine lv_aload_n hx hb dL_law_693 rfl (lv_at hl 5 rfl) ?_
  refine l_ref (As := []) (rest := []) X hK hAn hW hS yvX9_thrown ml_L_101 (fun L ow => c_X9_thrown l L τ' ow) rfl hl.1 rfl (Nat.le_of_ble_eq_true rfl) ⟨Nat.le_trans (by decide) hRf.1, Nat.le_trans (by decide) hRf.2⟩ ⟨by have := hc.1; show cells + 3 ≤ _; omega, by have := hc.2; show slots + 22 ≤ _; omega⟩ dL_law_694 (fun H locs hW hS => ?_)
  refine lv_iload hx hb dL_law_697 (lv_at hl 1 rfl) ?_
  refine lv_icmp_eq (tgt := 704) hx hb dL_law_699 (by decide) (fun _ => ?_) (fun z => absurd hth z)
  refine lv_iload hx hb dL_law_704 (lv_at hl 1 rfl) ?_
  refine lv_if_ne (tgt := 721) hx hb dL_law_706 (by decide) (fun _ => ?_) (fun z0 => ?_)
  · refine lv_goto (tgt := 1820) hx hb dL_law_721 (by decide) ?_
    refine W.widen (k := cells + 16) (n := slots + 1000) (by omega) (by omega) ?_
    exact kk f _ _ H locs ls hW hR9 hS (lv_sub hl [2, 3, 4, 5, 6] rfl)
  · have h0 : e9 = 0 := by
      rcases he with rfl | rfl
      · rfl
      · exact absurd z0 (by decide)
    refine lv_aload_n hx hb dL_law_709 rfl (lv_at hl 6 rfl) ?_
    refine lv_iconst (v := nI 0) hx hb dL_law_710 (by decide) ?_
    refine l_lald X hK hW dL_law_711 ?_
    refine lv_iload hx hb dL_law_712 (lv_at hl 0 rfl) ?_
    refine lv_i2l (v := r'.toInt64) hx hb dL_law_714 rfl ?_
    refine l_lcmp hx hb (by rw [hf h0, hag h0]) dL_law_715 ?_
    refine lv_if_eq (tgt := 721) hx hb dL_law_716 (by decide) (fun _ => ?_) (fun z => absurd rfl z)
    refine lv_goto (tgt := 1820) hx hb dL_law_721 (by decide) ?_
    refine W.widen (k := cells + 16) (n := slots + 1000) (by omega) (by omega) ?_
    exact kk f _ _ H locs ls hW hR9 hS (lv_sub hl [2, 3, 4, 5, 6] rfl)
set_option maxRecDepth 100000 in
set_option maxHeartbeats 4000000 in
theorem o_takes (hop : OP_takes D cI cZ cO t0 mi l Rel) (X : CallFix p m c cL_law 7 s args TB RL) (hK : KJ D cI cZ cO cJ s) (hE : EE t0 mi A s s.heap) (hX9 : EX A s s.heap) (hN : NC s) (hAn : ∀ q, s.heap.size ≤ q → A q) (hXs : va_X b N xs s s.heap) (hbl : b < s.heap.size) (hbA : ¬ A b) (hn : n + 6 ≤ N) (hN2 : N ≤ 3072) (hRel : Rel σ τ) (hW : Wd D cI cZ cO cJ t0 A x9 m9 o f σ τ H) (hS : va_S A s.heap H locs) (hl : lv_has ls 7 [(4, .int (nI n)), (0, .ref b), (1, .ref x9), (2, .ref m9), (3, .ref o)]) (hRf : 16 ≤ R.frames ∧ 632 ≤ R.locals) (hc : cells + 16 ≤ R.cells ∧ slots + 1000 ≤ R.slots)
    (kk : ∀ (f : Nat → Int64) (σ τ : St) (H : Heap) (locs : List Loc) (ls : Array Slot), Wd D cI cZ cO cJ t0 A x9 m9 o f σ τ H → Rel σ τ → va_S A s.heap H locs → lv_has ls 7 [(4, .int (nI n)), (0, .ref b), (1, .ref x9), (2, .ref m9), (3, .ref o)] → W p l e R s m args below meth c H locs (cells + 16) (slots + 1000) Q (F0 m 1820 ls [])) : W p l e R s m args below meth c H locs cells slots Q (F0 m 724 ls []) := by
  have hx := X.1
  have hb := X.2.1
  obtain ⟨e9, r, σ', r', τ', hY, hM, he, hth, hag, hR9⟩ := hop σ τ hRel (xs (n + 1)) (xs (n + 2))
  refine lv_aload_n hx hb dL_law_724 rfl (lv_at hl 2 rfl) ?_
  refine lv_aload_n hx hb dL_law_725 rfl (lv_at hl 1 rfl) ?_
  refine lv_iload hx hb dL_law_726 (lv_at hl 0 rfl) ?_
  refine lv_iconst (v := nI 1) hx hb dL_law_728 (by decide) ?_
  refine r_addN hx hb dL_law_729 ?_
  refine pn_sld X hXs hbl hbA hS (k := n + 1) (by omega) (by omega) dL_law_730 ?_
  refine lv_aload_n hx hb dL_law_731 rfl (lv_at hl 1 rfl) ?_
  refine lv_iload hx hb dL_law_732 (lv_at hl 0 rfl) ?_
  refine lv_iconst (v := nI 2) hx hb dL_law_734 (by decide) ?_
  refine r_addN hx hb dL_law_735 ?_
  refine pn_sld X hXs hbl hbA hS (k := n + 2) (by omega) (by omega) dL_law_736 ?_
  refine lv_aload_n hx hb dL_law_737 rfl (lv_at hl 4 rfl) ?_
  refine l_wrap (As := [.ref x9, .int (xs (n + 1)), .int (xs (n + 2)), .ref o]) (rest := []) X hK hE hX9 hN hAn hW hS yl_takes ml_L_130 (fun L ow h => by rw [← h]; exact w_takes l L σ ow o ((xs (n + 1))) ((xs (n + 2))) (hY L ow) he) rfl hl.1 rfl (Nat.le_of_ble_eq_true rfl) ⟨Nat.le_trans (by decide) hRf.1, Nat.le_trans (by decide) hRf.2⟩ ⟨by have := hc.1; show cells + 3 ≤ _; omega, by have := hc.2; show slots + 22 ≤ _; omega⟩ dL_law_738 (fun f H locs hW hf hS => ?_)
  refine lv_istore (lv' := [(5, .int (nI (wk [1] e9))), (4, .int (nI n)), (0, .ref b), (1, .ref x9), (2, .ref m9), (3, .ref o)]) hx hb dL_law_741 hl (by decide) rfl (fun ls hl => ?_)
  refine lv_aload_n hx hb dL_law_743 rfl (lv_at hl 4 rfl) ?_
  refine lv_aload_n hx hb dL_law_744 rfl (lv_at hl 2 rfl) ?_
  refine lv_iload hx hb dL_law_745 (lv_at hl 1 rfl) ?_
  refine lv_iconst (v := nI 1) hx hb dL_law_747 (by decide) ?_
  refine r_addN hx hb dL_law_748 ?_
  refine pn_sld X hXs hbl hbA hS (k := n + 1) (by omega) (by omega) dL_law_749 ?_
  refine lv_aload_n hx hb dL_law_750 rfl (lv_at hl 2 rfl) ?_
  refine lv_iload hx hb dL_law_751 (lv_at hl 1 rfl) ?_
  refine lv_iconst (v := nI 2) hx hb dL_law_753 (by decide) ?_
  refine r_addN hx hb dL_law_754 ?_
  refine pn_sld X hXs hbl hbA hS (k := n + 2) (by omega) (by omega) dL_law_755 ?_
  refine l_ref (As := [.int (xs (n + 1)), .int (xs (n + 2))]) (rest := []) X hK hAn hW hS yvX9_takes ml_L_132 (fun L ow => hM L ow) rfl hl.1 rfl (Nat.le_of_ble_eq_true rfl) ⟨Nat.le_trans (by decide) hRf.1, Nat.le_trans (by decide) hRf.2⟩ ⟨by have := hc.1; show cells + 3 ≤ _; omega, by have := hc.2; show slots + 22 ≤ _; omega⟩ dL_law_756 (fun H locs hW hS => ?_)
  refine lv_istore (lv' := [(6, .int r'), (5, .int (nI (wk [1] e9))), (4, .int (nI n)), (0, .ref b), (1, .ref x9), (2, .ref m9), (3, .ref o)]) hx hb dL_law_759 hl (by decide) rfl (fun ls hl => ?_)
  refine lv_aload_n hx hb dL_law_761 rfl (lv_at hl 5 rfl) ?_
  refine l_ref (As := []) (rest := []) X hK hAn hW hS yvX9_thrown ml_L_101 (fun L ow => c_X9_thrown l L τ' ow) rfl hl.1 rfl (Nat.le_of_ble_eq_true rfl) ⟨Nat.le_trans (by decide) hRf.1, Nat.le_trans (by decide) hRf.2⟩ ⟨by have := hc.1; show cells + 3 ≤ _; omega, by have := hc.2; show slots + 22 ≤ _; omega⟩ dL_law_762 (fun H locs hW hS => ?_)
  refine lv_iload hx hb dL_law_765 (lv_at hl 1 rfl) ?_
  refine lv_icmp_eq (tgt := 772) hx hb dL_law_767 (by decide) (fun _ => ?_) (fun z => absurd hth z)
  refine lv_iload hx hb dL_law_772 (lv_at hl 1 rfl) ?_
  refine lv_if_ne (tgt := 789) hx hb dL_law_774 (by decide) (fun _ => ?_) (fun z0 => ?_)
  · refine lv_goto (tgt := 1820) hx hb dL_law_789 (by decide) ?_
    refine W.widen (k := cells + 16) (n := slots + 1000) (by omega) (by omega) ?_
    exact kk f _ _ H locs ls hW hR9 hS (lv_sub hl [2, 3, 4, 5, 6] rfl)
  · have h0 : e9 = 0 := by
      rcases he with rfl | rfl
      · rfl
      · exact absurd z0 (by decide)
    refine lv_aload_n hx hb dL_law_777 rfl (lv_at hl 6 rfl) ?_
    refine lv_iconst (v := nI 0) hx hb dL_law_778 (by decide) ?_
    refine l_lald X hK hW dL_law_779 ?_
    refine lv_iload hx hb dL_law_780 (lv_at hl 0 rfl) ?_
    refine lv_i2l (v := r'.toInt64) hx hb dL_law_782 rfl ?_
    refine l_lcmp hx hb (by rw [hf h0, hag h0]) dL_law_783 ?_
    refine lv_if_eq (tgt := 789) hx hb dL_law_784 (by decide) (fun _ => ?_) (fun z => absurd rfl z)
    refine lv_goto (tgt := 1820) hx hb dL_law_789 (by decide) ?_
    refine W.widen (k := cells + 16) (n := slots + 1000) (by omega) (by omega) ?_
    exact kk f _ _ H locs ls hW hR9 hS (lv_sub hl [2, 3, 4, 5, 6] rfl)
set_option maxRecDepth 100000 in
set_option maxHeartbeats 4000000 in
theorem o_plan (hop : OP_plan D cI cZ cO t0 mi l Rel) (X : CallFix p m c cL_law 7 s args TB RL) (hK : KJ D cI cZ cO cJ s) (hE : EE t0 mi A s s.heap) (hX9 : EX A s s.heap) (hN : NC s) (hAn : ∀ q, s.heap.size ≤ q → A q) (hXs : va_X b N xs s s.heap) (hbl : b < s.heap.size) (hbA : ¬ A b) (hn : n + 6 ≤ N) (hN2 : N ≤ 3072) (hRel : Rel σ τ) (hW : Wd D cI cZ cO cJ t0 A x9 m9 o f σ τ H) (hS : va_S A s.heap H locs) (hl : lv_has ls 7 [(4, .int (nI n)), (0, .ref b), (1, .ref x9), (2, .ref m9), (3, .ref o)]) (hRf : 16 ≤ R.frames ∧ 632 ≤ R.locals) (hc : cells + 16 ≤ R.cells ∧ slots + 1000 ≤ R.slots)
    (kk : ∀ (f : Nat → Int64) (σ τ : St) (H : Heap) (locs : List Loc) (ls : Array Slot), Wd D cI cZ cO cJ t0 A x9 m9 o f σ τ H → Rel σ τ → va_S A s.heap H locs → lv_has ls 7 [(4, .int (nI n)), (0, .ref b), (1, .ref x9), (2, .ref m9), (3, .ref o)] → W p l e R s m args below meth c H locs (cells + 16) (slots + 1000) Q (F0 m 1820 ls [])) : W p l e R s m args below meth c H locs cells slots Q (F0 m 792 ls []) := by
  have hx := X.1
  have hb := X.2.1
  obtain ⟨e9, r, σ', r', τ', hY, hM, he, hth, hag, hR9⟩ := hop σ τ hRel (xs (n + 1)) (xs (n + 2))
  refine lv_aload_n hx hb dL_law_792 rfl (lv_at hl 2 rfl) ?_
  refine lv_aload_n hx hb dL_law_793 rfl (lv_at hl 1 rfl) ?_
  refine lv_iload hx hb dL_law_794 (lv_at hl 0 rfl) ?_
  refine lv_iconst (v := nI 1) hx hb dL_law_796 (by decide) ?_
  refine r_addN hx hb dL_law_797 ?_
  refine pn_sld X hXs hbl hbA hS (k := n + 1) (by omega) (by omega) dL_law_798 ?_
  refine lv_aload_n hx hb dL_law_799 rfl (lv_at hl 1 rfl) ?_
  refine lv_iload hx hb dL_law_800 (lv_at hl 0 rfl) ?_
  refine lv_iconst (v := nI 2) hx hb dL_law_802 (by decide) ?_
  refine r_addN hx hb dL_law_803 ?_
  refine pn_sld X hXs hbl hbA hS (k := n + 2) (by omega) (by omega) dL_law_804 ?_
  refine lv_aload_n hx hb dL_law_805 rfl (lv_at hl 4 rfl) ?_
  refine l_wrap (As := [.ref x9, .int (xs (n + 1)), .int (xs (n + 2)), .ref o]) (rest := []) X hK hE hX9 hN hAn hW hS yl_plan ml_L_133 (fun L ow h => by rw [← h]; exact w_plan l L σ ow o ((xs (n + 1))) ((xs (n + 2))) (hY L ow) he) rfl hl.1 rfl (Nat.le_of_ble_eq_true rfl) ⟨Nat.le_trans (by decide) hRf.1, Nat.le_trans (by decide) hRf.2⟩ ⟨by have := hc.1; show cells + 6 ≤ _; omega, by have := hc.2; show slots + 50 ≤ _; omega⟩ dL_law_806 (fun f H locs hW hf hS => ?_)
  refine lv_istore (lv' := [(5, .int (nI (wk [1, 3] e9))), (4, .int (nI n)), (0, .ref b), (1, .ref x9), (2, .ref m9), (3, .ref o)]) hx hb dL_law_809 hl (by decide) rfl (fun ls hl => ?_)
  refine lv_aload_n hx hb dL_law_811 rfl (lv_at hl 4 rfl) ?_
  refine lv_aload_n hx hb dL_law_812 rfl (lv_at hl 2 rfl) ?_
  refine lv_iload hx hb dL_law_813 (lv_at hl 1 rfl) ?_
  refine lv_iconst (v := nI 1) hx hb dL_law_815 (by decide) ?_
  refine r_addN hx hb dL_law_816 ?_
  refine pn_sld X hXs hbl hbA hS (k := n + 1) (by omega) (by omega) dL_law_817 ?_
  refine lv_aload_n hx hb dL_law_818 rfl (lv_at hl 2 rfl) ?_
  refine lv_iload hx hb dL_law_819 (lv_at hl 1 rfl) ?_
  refine lv_iconst (v := nI 2) hx hb dL_law_821 (by decide) ?_
  refine r_addN hx hb dL_law_822 ?_
  refine pn_sld X hXs hbl hbA hS (k := n + 2) (by omega) (by omega) dL_law_823 ?_
  refine l_ref (As := [.int (xs (n + 1)), .int (xs (n + 2))]) (rest := []) X hK hAn hW hS yvX9_plan ml_L_135 (fun L ow => hM L ow) rfl hl.1 rfl (Nat.le_of_ble_eq_true rfl) ⟨Nat.le_trans (by decide) hRf.1, Nat.le_trans (by decide) hRf.2⟩ ⟨by have := hc.1; show cells + 6 ≤ _; omega, by have := hc.2; show slots + 50 ≤ _; omega⟩ dL_law_824 (fun H locs hW hS => ?_)
  refine lv_istore (lv' := [(6, .int r'), (5, .int (nI (wk [1, 3] e9))), (4, .int (nI n)), (0, .ref b), (1, .ref x9), (2, .ref m9), (3, .ref o)]) hx hb dL_law_827 hl (by decide) rfl (fun ls hl => ?_)
  refine lv_aload_n hx hb dL_law_829 rfl (lv_at hl 5 rfl) ?_
  refine l_ref (As := []) (rest := []) X hK hAn hW hS yvX9_thrown ml_L_101 (fun L ow => c_X9_thrown l L τ' ow) rfl hl.1 rfl (Nat.le_of_ble_eq_true rfl) ⟨Nat.le_trans (by decide) hRf.1, Nat.le_trans (by decide) hRf.2⟩ ⟨by have := hc.1; show cells + 6 ≤ _; omega, by have := hc.2; show slots + 50 ≤ _; omega⟩ dL_law_830 (fun H locs hW hS => ?_)
  refine lv_iload hx hb dL_law_833 (lv_at hl 1 rfl) ?_
  refine lv_icmp_eq (tgt := 840) hx hb dL_law_835 (by decide) (fun _ => ?_) (fun z => absurd hth z)
  refine lv_iload hx hb dL_law_840 (lv_at hl 1 rfl) ?_
  refine lv_if_ne (tgt := 857) hx hb dL_law_842 (by decide) (fun _ => ?_) (fun z0 => ?_)
  · refine lv_goto (tgt := 1820) hx hb dL_law_857 (by decide) ?_
    refine W.widen (k := cells + 16) (n := slots + 1000) (by omega) (by omega) ?_
    exact kk f _ _ H locs ls hW hR9 hS (lv_sub hl [2, 3, 4, 5, 6] rfl)
  · have h0 : e9 = 0 := by
      rcases he with rfl | rfl | rfl
      · rfl
      · exact absurd z0 (by decide)
      · exact absurd z0 (by decide)
    refine lv_aload_n hx hb dL_law_845 rfl (lv_at hl 6 rfl) ?_
    refine lv_iconst (v := nI 0) hx hb dL_law_846 (by decide) ?_
    refine l_lald X hK hW dL_law_847 ?_
    refine lv_iload hx hb dL_law_848 (lv_at hl 0 rfl) ?_
    refine lv_i2l (v := r'.toInt64) hx hb dL_law_850 rfl ?_
    refine l_lcmp hx hb (by rw [hf h0, hag h0]) dL_law_851 ?_
    refine lv_if_eq (tgt := 857) hx hb dL_law_852 (by decide) (fun _ => ?_) (fun z => absurd rfl z)
    refine lv_goto (tgt := 1820) hx hb dL_law_857 (by decide) ?_
    refine W.widen (k := cells + 16) (n := slots + 1000) (by omega) (by omega) ?_
    exact kk f _ _ H locs ls hW hR9 hS (lv_sub hl [2, 3, 4, 5, 6] rfl)
set_option maxRecDepth 100000 in
set_option maxHeartbeats 4000000 in
theorem o_night (hop : OP_night D cI cZ cO t0 mi l Rel) (X : CallFix p m c cL_law 7 s args TB RL) (hK : KJ D cI cZ cO cJ s) (hE : EE t0 mi A s s.heap) (hX9 : EX A s s.heap) (hN : NC s) (hAn : ∀ q, s.heap.size ≤ q → A q) (hXs : va_X b N xs s s.heap) (hbl : b < s.heap.size) (hbA : ¬ A b) (hn : n + 6 ≤ N) (hN2 : N ≤ 3072) (hRel : Rel σ τ) (hW : Wd D cI cZ cO cJ t0 A x9 m9 o f σ τ H) (hS : va_S A s.heap H locs) (hl : lv_has ls 7 [(4, .int (nI n)), (0, .ref b), (1, .ref x9), (2, .ref m9), (3, .ref o)]) (hRf : 16 ≤ R.frames ∧ 632 ≤ R.locals) (hc : cells + 16 ≤ R.cells ∧ slots + 1000 ≤ R.slots)
    (kk : ∀ (f : Nat → Int64) (σ τ : St) (H : Heap) (locs : List Loc) (ls : Array Slot), Wd D cI cZ cO cJ t0 A x9 m9 o f σ τ H → Rel σ τ → va_S A s.heap H locs → lv_has ls 7 [(4, .int (nI n)), (0, .ref b), (1, .ref x9), (2, .ref m9), (3, .ref o)] → W p l e R s m args below meth c H locs (cells + 16) (slots + 1000) Q (F0 m 1820 ls [])) : W p l e R s m args below meth c H locs cells slots Q (F0 m 860 ls []) := by
  have hx := X.1
  have hb := X.2.1
  obtain ⟨r, σ', r', τ', hY, hM, hag, hR9⟩ := hop σ τ hRel 
  refine lv_aload_n hx hb dL_law_860 rfl (lv_at hl 2 rfl) ?_
  refine l_cls (As := []) (rest := []) X hK hE hAn hW hS yvX8_night ml_L_136 (fun L ow => hY L ow) rfl hl.1 rfl (Nat.le_of_ble_eq_true rfl) ⟨Nat.le_trans (by decide) hRf.1, Nat.le_trans (by decide) hRf.2⟩ ⟨by have := hc.1; show cells + 1 ≤ _; omega, by have := hc.2; show slots + 10 ≤ _; omega⟩ dL_law_861 (fun H locs hW hS => ?_)
  refine lv_aload_n hx hb dL_law_864 rfl (lv_at hl 3 rfl) ?_
  refine l_ref (As := []) (rest := [.int r]) X hK hAn hW hS yvX9_night ml_L_139 (fun L ow => hM L ow) rfl hl.1 rfl (Nat.le_of_ble_eq_true rfl) ⟨Nat.le_trans (by decide) hRf.1, Nat.le_trans (by decide) hRf.2⟩ ⟨by have := hc.1; show cells + 1 ≤ _; omega, by have := hc.2; show slots + 10 ≤ _; omega⟩ dL_law_865 (fun H locs hW hS => ?_)
  refine lv_icmp_eq (tgt := 1820) hx hb dL_law_868 (by decide) (fun _ => ?_) (fun z => absurd hag z)
  refine W.widen (k := cells + 16) (n := slots + 1000) (by omega) (by omega) ?_
  exact kk f _ _ H locs ls hW hR9 hS (lv_sub hl [0, 1, 2, 3, 4] rfl)
set_option maxRecDepth 100000 in
set_option maxHeartbeats 4000000 in
theorem o_foresees (hop : OP_foresees D cI cZ cO t0 mi l Rel) (X : CallFix p m c cL_law 7 s args TB RL) (hK : KJ D cI cZ cO cJ s) (hE : EE t0 mi A s s.heap) (hX9 : EX A s s.heap) (hN : NC s) (hAn : ∀ q, s.heap.size ≤ q → A q) (hXs : va_X b N xs s s.heap) (hbl : b < s.heap.size) (hbA : ¬ A b) (hn : n + 6 ≤ N) (hN2 : N ≤ 3072) (hRel : Rel σ τ) (hW : Wd D cI cZ cO cJ t0 A x9 m9 o f σ τ H) (hS : va_S A s.heap H locs) (hl : lv_has ls 7 [(4, .int (nI n)), (0, .ref b), (1, .ref x9), (2, .ref m9), (3, .ref o)]) (hRf : 16 ≤ R.frames ∧ 632 ≤ R.locals) (hc : cells + 16 ≤ R.cells ∧ slots + 1000 ≤ R.slots)
    (kk : ∀ (f : Nat → Int64) (σ τ : St) (H : Heap) (locs : List Loc) (ls : Array Slot), Wd D cI cZ cO cJ t0 A x9 m9 o f σ τ H → Rel σ τ → va_S A s.heap H locs → lv_has ls 7 [(4, .int (nI n)), (0, .ref b), (1, .ref x9), (2, .ref m9), (3, .ref o)] → W p l e R s m args below meth c H locs (cells + 16) (slots + 1000) Q (F0 m 1820 ls [])) : W p l e R s m args below meth c H locs cells slots Q (F0 m 873 ls []) := by
  have hx := X.1
  have hb := X.2.1
  obtain ⟨r, σ', r', τ', hY, hM, hag, hR9⟩ := hop σ τ hRel 
  refine lv_aload_n hx hb dL_law_873 rfl (lv_at hl 2 rfl) ?_
  refine l_cls (As := []) (rest := []) X hK hE hAn hW hS yvX8_foresees ml_L_140 (fun L ow => hY L ow) rfl hl.1 rfl (Nat.le_of_ble_eq_true rfl) ⟨Nat.le_trans (by decide) hRf.1, Nat.le_trans (by decide) hRf.2⟩ ⟨by have := hc.1; show cells + 1 ≤ _; omega, by have := hc.2; show slots + 10 ≤ _; omega⟩ dL_law_874 (fun H locs hW hS => ?_)
  refine lv_aload_n hx hb dL_law_877 rfl (lv_at hl 3 rfl) ?_
  refine l_ref (As := []) (rest := [.int r]) X hK hAn hW hS yvX9_foresees ml_L_143 (fun L ow => hM L ow) rfl hl.1 rfl (Nat.le_of_ble_eq_true rfl) ⟨Nat.le_trans (by decide) hRf.1, Nat.le_trans (by decide) hRf.2⟩ ⟨by have := hc.1; show cells + 1 ≤ _; omega, by have := hc.2; show slots + 10 ≤ _; omega⟩ dL_law_878 (fun H locs hW hS => ?_)
  refine lv_icmp_eq (tgt := 1820) hx hb dL_law_881 (by decide) (fun _ => ?_) (fun z => absurd hag z)
  refine W.widen (k := cells + 16) (n := slots + 1000) (by omega) (by omega) ?_
  exact kk f _ _ H locs ls hW hR9 hS (lv_sub hl [0, 1, 2, 3, 4] rfl)
set_option maxRecDepth 100000 in
set_option maxHeartbeats 4000000 in
theorem o_lacks (hop : OP_lacks D cI cZ cO t0 mi l Rel) (X : CallFix p m c cL_law 7 s args TB RL) (hK : KJ D cI cZ cO cJ s) (hE : EE t0 mi A s s.heap) (hX9 : EX A s s.heap) (hN : NC s) (hAn : ∀ q, s.heap.size ≤ q → A q) (hXs : va_X b N xs s s.heap) (hbl : b < s.heap.size) (hbA : ¬ A b) (hn : n + 6 ≤ N) (hN2 : N ≤ 3072) (hRel : Rel σ τ) (hW : Wd D cI cZ cO cJ t0 A x9 m9 o f σ τ H) (hS : va_S A s.heap H locs) (hl : lv_has ls 7 [(4, .int (nI n)), (0, .ref b), (1, .ref x9), (2, .ref m9), (3, .ref o)]) (hRf : 16 ≤ R.frames ∧ 632 ≤ R.locals) (hc : cells + 16 ≤ R.cells ∧ slots + 1000 ≤ R.slots)
    (kk : ∀ (f : Nat → Int64) (σ τ : St) (H : Heap) (locs : List Loc) (ls : Array Slot), Wd D cI cZ cO cJ t0 A x9 m9 o f σ τ H → Rel σ τ → va_S A s.heap H locs → lv_has ls 7 [(4, .int (nI n)), (0, .ref b), (1, .ref x9), (2, .ref m9), (3, .ref o)] → W p l e R s m args below meth c H locs (cells + 16) (slots + 1000) Q (F0 m 1820 ls [])) : W p l e R s m args below meth c H locs cells slots Q (F0 m 886 ls []) := by
  have hx := X.1
  have hb := X.2.1
  obtain ⟨e9, r, σ', r', τ', hY, hM, he, hth, hag, hR9⟩ := hop σ τ hRel (xs (n + 1))
  refine lv_aload_n hx hb dL_law_886 rfl (lv_at hl 2 rfl) ?_
  refine lv_aload_n hx hb dL_law_887 rfl (lv_at hl 1 rfl) ?_
  refine lv_iload hx hb dL_law_888 (lv_at hl 0 rfl) ?_
  refine lv_iconst (v := nI 1) hx hb dL_law_890 (by decide) ?_
  refine r_addN hx hb dL_law_891 ?_
  refine pn_sld X hXs hbl hbA hS (k := n + 1) (by omega) (by omega) dL_law_892 ?_
  refine lv_aload_n hx hb dL_law_893 rfl (lv_at hl 4 rfl) ?_
  refine l_wrap (As := [.ref x9, .int (xs (n + 1)), .ref o]) (rest := []) X hK hE hX9 hN hAn hW hS yl_lacks ml_L_144 (fun L ow h => by rw [← h]; exact w_lacks l L σ ow o ((xs (n + 1))) (hY L ow) he) rfl hl.1 rfl (Nat.le_of_ble_eq_true rfl) ⟨Nat.le_trans (by decide) hRf.1, Nat.le_trans (by decide) hRf.2⟩ ⟨by have := hc.1; show cells + 2 ≤ _; omega, by have := hc.2; show slots + 20 ≤ _; omega⟩ dL_law_894 (fun f H locs hW hf hS => ?_)
  refine lv_istore (lv' := [(5, .int (nI (wk [2] e9))), (4, .int (nI n)), (0, .ref b), (1, .ref x9), (2, .ref m9), (3, .ref o)]) hx hb dL_law_897 hl (by decide) rfl (fun ls hl => ?_)
  refine lv_aload_n hx hb dL_law_899 rfl (lv_at hl 4 rfl) ?_
  refine lv_aload_n hx hb dL_law_900 rfl (lv_at hl 2 rfl) ?_
  refine lv_iload hx hb dL_law_901 (lv_at hl 1 rfl) ?_
  refine lv_iconst (v := nI 1) hx hb dL_law_903 (by decide) ?_
  refine r_addN hx hb dL_law_904 ?_
  refine pn_sld X hXs hbl hbA hS (k := n + 1) (by omega) (by omega) dL_law_905 ?_
  refine l_ref (As := [.int (xs (n + 1))]) (rest := []) X hK hAn hW hS yvX9_lacks ml_L_146 (fun L ow => hM L ow) rfl hl.1 rfl (Nat.le_of_ble_eq_true rfl) ⟨Nat.le_trans (by decide) hRf.1, Nat.le_trans (by decide) hRf.2⟩ ⟨by have := hc.1; show cells + 2 ≤ _; omega, by have := hc.2; show slots + 20 ≤ _; omega⟩ dL_law_906 (fun H locs hW hS => ?_)
  refine lv_istore (lv' := [(6, .int r'), (5, .int (nI (wk [2] e9))), (4, .int (nI n)), (0, .ref b), (1, .ref x9), (2, .ref m9), (3, .ref o)]) hx hb dL_law_909 hl (by decide) rfl (fun ls hl => ?_)
  refine lv_aload_n hx hb dL_law_911 rfl (lv_at hl 5 rfl) ?_
  refine l_ref (As := []) (rest := []) X hK hAn hW hS yvX9_thrown ml_L_101 (fun L ow => c_X9_thrown l L τ' ow) rfl hl.1 rfl (Nat.le_of_ble_eq_true rfl) ⟨Nat.le_trans (by decide) hRf.1, Nat.le_trans (by decide) hRf.2⟩ ⟨by have := hc.1; show cells + 2 ≤ _; omega, by have := hc.2; show slots + 20 ≤ _; omega⟩ dL_law_912 (fun H locs hW hS => ?_)
  refine lv_iload hx hb dL_law_915 (lv_at hl 1 rfl) ?_
  refine lv_icmp_eq (tgt := 922) hx hb dL_law_917 (by decide) (fun _ => ?_) (fun z => absurd hth z)
  refine lv_iload hx hb dL_law_922 (lv_at hl 1 rfl) ?_
  refine lv_if_ne (tgt := 939) hx hb dL_law_924 (by decide) (fun _ => ?_) (fun z0 => ?_)
  · refine lv_goto (tgt := 1820) hx hb dL_law_939 (by decide) ?_
    refine W.widen (k := cells + 16) (n := slots + 1000) (by omega) (by omega) ?_
    exact kk f _ _ H locs ls hW hR9 hS (lv_sub hl [2, 3, 4, 5, 6] rfl)
  · have h0 : e9 = 0 := by
      rcases he with rfl | rfl
      · rfl
      · exact absurd z0 (by decide)
    refine lv_aload_n hx hb dL_law_927 rfl (lv_at hl 6 rfl) ?_
    refine lv_iconst (v := nI 0) hx hb dL_law_928 (by decide) ?_
    refine l_lald X hK hW dL_law_929 ?_
    refine lv_iload hx hb dL_law_930 (lv_at hl 0 rfl) ?_
    refine lv_i2l (v := r'.toInt64) hx hb dL_law_932 rfl ?_
    refine l_lcmp hx hb (by rw [hf h0, hag h0]) dL_law_933 ?_
    refine lv_if_eq (tgt := 939) hx hb dL_law_934 (by decide) (fun _ => ?_) (fun z => absurd rfl z)
    refine lv_goto (tgt := 1820) hx hb dL_law_939 (by decide) ?_
    refine W.widen (k := cells + 16) (n := slots + 1000) (by omega) (by omega) ?_
    exact kk f _ _ H locs ls hW hR9 hS (lv_sub hl [2, 3, 4, 5, 6] rfl)
set_option maxRecDepth 100000 in
set_option maxHeartbeats 4000000 in
theorem o_idle (hop : OP_idle D cI cZ cO t0 mi l Rel) (X : CallFix p m c cL_law 7 s args TB RL) (hK : KJ D cI cZ cO cJ s) (hE : EE t0 mi A s s.heap) (hX9 : EX A s s.heap) (hN : NC s) (hAn : ∀ q, s.heap.size ≤ q → A q) (hXs : va_X b N xs s s.heap) (hbl : b < s.heap.size) (hbA : ¬ A b) (hn : n + 6 ≤ N) (hN2 : N ≤ 3072) (hRel : Rel σ τ) (hW : Wd D cI cZ cO cJ t0 A x9 m9 o f σ τ H) (hS : va_S A s.heap H locs) (hl : lv_has ls 7 [(4, .int (nI n)), (0, .ref b), (1, .ref x9), (2, .ref m9), (3, .ref o)]) (hRf : 16 ≤ R.frames ∧ 632 ≤ R.locals) (hc : cells + 16 ≤ R.cells ∧ slots + 1000 ≤ R.slots)
    (kk : ∀ (f : Nat → Int64) (σ τ : St) (H : Heap) (locs : List Loc) (ls : Array Slot), Wd D cI cZ cO cJ t0 A x9 m9 o f σ τ H → Rel σ τ → va_S A s.heap H locs → lv_has ls 7 [(4, .int (nI n)), (0, .ref b), (1, .ref x9), (2, .ref m9), (3, .ref o)] → W p l e R s m args below meth c H locs (cells + 16) (slots + 1000) Q (F0 m 1820 ls [])) : W p l e R s m args below meth c H locs cells slots Q (F0 m 942 ls []) := by
  have hx := X.1
  have hb := X.2.1
  obtain ⟨e9, r, σ', r', τ', hY, hM, he, hth, hag, hR9⟩ := hop σ τ hRel (xs (n + 1))
  refine lv_aload_n hx hb dL_law_942 rfl (lv_at hl 2 rfl) ?_
  refine lv_aload_n hx hb dL_law_943 rfl (lv_at hl 1 rfl) ?_
  refine lv_iload hx hb dL_law_944 (lv_at hl 0 rfl) ?_
  refine lv_iconst (v := nI 1) hx hb dL_law_946 (by decide) ?_
  refine r_addN hx hb dL_law_947 ?_
  refine pn_sld X hXs hbl hbA hS (k := n + 1) (by omega) (by omega) dL_law_948 ?_
  refine lv_aload_n hx hb dL_law_949 rfl (lv_at hl 4 rfl) ?_
  refine l_wrap (As := [.ref x9, .int (xs (n + 1)), .ref o]) (rest := []) X hK hE hX9 hN hAn hW hS yl_idle ml_L_147 (fun L ow h => by rw [← h]; exact w_idle l L σ ow o ((xs (n + 1))) (hY L ow) he) rfl hl.1 rfl (Nat.le_of_ble_eq_true rfl) ⟨Nat.le_trans (by decide) hRf.1, Nat.le_trans (by decide) hRf.2⟩ ⟨by have := hc.1; show cells + 1 ≤ _; omega, by have := hc.2; show slots + 6 ≤ _; omega⟩ dL_law_950 (fun f H locs hW hf hS => ?_)
  refine lv_istore (lv' := [(5, .int (nI (wk [2, 3] e9))), (4, .int (nI n)), (0, .ref b), (1, .ref x9), (2, .ref m9), (3, .ref o)]) hx hb dL_law_953 hl (by decide) rfl (fun ls hl => ?_)
  refine lv_aload_n hx hb dL_law_955 rfl (lv_at hl 4 rfl) ?_
  refine lv_aload_n hx hb dL_law_956 rfl (lv_at hl 2 rfl) ?_
  refine lv_iload hx hb dL_law_957 (lv_at hl 1 rfl) ?_
  refine lv_iconst (v := nI 1) hx hb dL_law_959 (by decide) ?_
  refine r_addN hx hb dL_law_960 ?_
  refine pn_sld X hXs hbl hbA hS (k := n + 1) (by omega) (by omega) dL_law_961 ?_
  refine l_ref (As := [.int (xs (n + 1))]) (rest := []) X hK hAn hW hS yvX9_idle ml_L_149 (fun L ow => hM L ow) rfl hl.1 rfl (Nat.le_of_ble_eq_true rfl) ⟨Nat.le_trans (by decide) hRf.1, Nat.le_trans (by decide) hRf.2⟩ ⟨by have := hc.1; show cells + 1 ≤ _; omega, by have := hc.2; show slots + 6 ≤ _; omega⟩ dL_law_962 (fun H locs hW hS => ?_)
  refine lv_istore (lv' := [(6, .int r'), (5, .int (nI (wk [2, 3] e9))), (4, .int (nI n)), (0, .ref b), (1, .ref x9), (2, .ref m9), (3, .ref o)]) hx hb dL_law_965 hl (by decide) rfl (fun ls hl => ?_)
  refine lv_aload_n hx hb dL_law_967 rfl (lv_at hl 5 rfl) ?_
  refine l_ref (As := []) (rest := []) X hK hAn hW hS yvX9_thrown ml_L_101 (fun L ow => c_X9_thrown l L τ' ow) rfl hl.1 rfl (Nat.le_of_ble_eq_true rfl) ⟨Nat.le_trans (by decide) hRf.1, Nat.le_trans (by decide) hRf.2⟩ ⟨by have := hc.1; show cells + 1 ≤ _; omega, by have := hc.2; show slots + 6 ≤ _; omega⟩ dL_law_968 (fun H locs hW hS => ?_)
  refine lv_iload hx hb dL_law_971 (lv_at hl 1 rfl) ?_
  refine lv_icmp_eq (tgt := 978) hx hb dL_law_973 (by decide) (fun _ => ?_) (fun z => absurd hth z)
  refine lv_iload hx hb dL_law_978 (lv_at hl 1 rfl) ?_
  refine lv_if_ne (tgt := 995) hx hb dL_law_980 (by decide) (fun _ => ?_) (fun z0 => ?_)
  · refine lv_goto (tgt := 1820) hx hb dL_law_995 (by decide) ?_
    refine W.widen (k := cells + 16) (n := slots + 1000) (by omega) (by omega) ?_
    exact kk f _ _ H locs ls hW hR9 hS (lv_sub hl [2, 3, 4, 5, 6] rfl)
  · have h0 : e9 = 0 := by
      rcases he with rfl | rfl | rfl
      · rfl
      · exact absurd z0 (by decide)
      · exact absurd z0 (by decide)
    refine lv_aload_n hx hb dL_law_983 rfl (lv_at hl 6 rfl) ?_
    refine lv_iconst (v := nI 0) hx hb dL_law_984 (by decide) ?_
    refine l_lald X hK hW dL_law_985 ?_
    refine lv_iload hx hb dL_law_986 (lv_at hl 0 rfl) ?_
    refine lv_i2l (v := r'.toInt64) hx hb dL_law_988 rfl ?_
    refine l_lcmp hx hb (by rw [hf h0, hag h0]) dL_law_989 ?_
    refine lv_if_eq (tgt := 995) hx hb dL_law_990 (by decide) (fun _ => ?_) (fun z => absurd rfl z)
    refine lv_goto (tgt := 1820) hx hb dL_law_995 (by decide) ?_
    refine W.widen (k := cells + 16) (n := slots + 1000) (by omega) (by omega) ?_
    exact kk f _ _ H locs ls hW hR9 hS (lv_sub hl [2, 3, 4, 5, 6] rfl)
set_option maxRecDepth 100000 in
set_option maxHeartbeats 4000000 in
theorem o_calibrate (hop : OP_calibrate D cI cZ cO t0 mi l Rel) (X : CallFix p m c cL_law 7 s args TB RL) (hK : KJ D cI cZ cO cJ s) (hE : EE t0 mi A s s.heap) (hX9 : EX A s s.heap) (hN : NC s) (hAn : ∀ q, s.heap.size ≤ q → A q) (hXs : va_X b N xs s s.heap) (hbl : b < s.heap.size) (hbA : ¬ A b) (hn : n + 6 ≤ N) (hN2 : N ≤ 3072) (hRel : Rel σ τ) (hW : Wd D cI cZ cO cJ t0 A x9 m9 o f σ τ H) (hS : va_S A s.heap H locs) (hl : lv_has ls 7 [(4, .int (nI n)), (0, .ref b), (1, .ref x9), (2, .ref m9), (3, .ref o)]) (hRf : 16 ≤ R.frames ∧ 632 ≤ R.locals) (hc : cells + 16 ≤ R.cells ∧ slots + 1000 ≤ R.slots)
    (kk : ∀ (f : Nat → Int64) (σ τ : St) (H : Heap) (locs : List Loc) (ls : Array Slot), Wd D cI cZ cO cJ t0 A x9 m9 o f σ τ H → Rel σ τ → va_S A s.heap H locs → lv_has ls 7 [(4, .int (nI n)), (0, .ref b), (1, .ref x9), (2, .ref m9), (3, .ref o)] → W p l e R s m args below meth c H locs (cells + 16) (slots + 1000) Q (F0 m 1820 ls [])) : W p l e R s m args below meth c H locs cells slots Q (F0 m 998 ls []) := by
  have hx := X.1
  have hb := X.2.1
  obtain ⟨e9, r, σ', r', τ', hY, hM, he, hth, hag, hR9⟩ := hop σ τ hRel (xs (n + 1)) (xs (n + 2))
  refine lv_aload_n hx hb dL_law_998 rfl (lv_at hl 2 rfl) ?_
  refine lv_aload_n hx hb dL_law_999 rfl (lv_at hl 1 rfl) ?_
  refine lv_iload hx hb dL_law_1000 (lv_at hl 0 rfl) ?_
  refine lv_iconst (v := nI 1) hx hb dL_law_1002 (by decide) ?_
  refine r_addN hx hb dL_law_1003 ?_
  refine pn_sld X hXs hbl hbA hS (k := n + 1) (by omega) (by omega) dL_law_1004 ?_
  refine lv_aload_n hx hb dL_law_1005 rfl (lv_at hl 1 rfl) ?_
  refine lv_iload hx hb dL_law_1006 (lv_at hl 0 rfl) ?_
  refine lv_iconst (v := nI 2) hx hb dL_law_1008 (by decide) ?_
  refine r_addN hx hb dL_law_1009 ?_
  refine pn_sld X hXs hbl hbA hS (k := n + 2) (by omega) (by omega) dL_law_1010 ?_
  refine lv_aload_n hx hb dL_law_1011 rfl (lv_at hl 4 rfl) ?_
  refine l_wrap (As := [.ref x9, .int (xs (n + 1)), .int (xs (n + 2)), .ref o]) (rest := []) X hK hE hX9 hN hAn hW hS yl_calibrate ml_L_150 (fun L ow h => by rw [← h]; exact w_calibrate l L σ ow o ((xs (n + 1))) ((xs (n + 2))) (hY L ow) he) rfl hl.1 rfl (Nat.le_of_ble_eq_true rfl) ⟨Nat.le_trans (by decide) hRf.1, Nat.le_trans (by decide) hRf.2⟩ ⟨by have := hc.1; show cells + 2 ≤ _; omega, by have := hc.2; show slots + 12 ≤ _; omega⟩ dL_law_1012 (fun f H locs hW hf hS => ?_)
  refine lv_istore (lv' := [(5, .int (nI (wk [1, 2] e9))), (4, .int (nI n)), (0, .ref b), (1, .ref x9), (2, .ref m9), (3, .ref o)]) hx hb dL_law_1015 hl (by decide) rfl (fun ls hl => ?_)
  refine lv_aload_n hx hb dL_law_1017 rfl (lv_at hl 4 rfl) ?_
  refine lv_aload_n hx hb dL_law_1018 rfl (lv_at hl 2 rfl) ?_
  refine lv_iload hx hb dL_law_1019 (lv_at hl 1 rfl) ?_
  refine lv_iconst (v := nI 1) hx hb dL_law_1021 (by decide) ?_
  refine r_addN hx hb dL_law_1022 ?_
  refine pn_sld X hXs hbl hbA hS (k := n + 1) (by omega) (by omega) dL_law_1023 ?_
  refine lv_aload_n hx hb dL_law_1024 rfl (lv_at hl 2 rfl) ?_
  refine lv_iload hx hb dL_law_1025 (lv_at hl 1 rfl) ?_
  refine lv_iconst (v := nI 2) hx hb dL_law_1027 (by decide) ?_
  refine r_addN hx hb dL_law_1028 ?_
  refine pn_sld X hXs hbl hbA hS (k := n + 2) (by omega) (by omega) dL_law_1029 ?_
  refine l_ref (As := [.int (xs (n + 1)), .int (xs (n + 2))]) (rest := []) X hK hAn hW hS yvX9_calibrate ml_L_152 (fun L ow => hM L ow) rfl hl.1 rfl (Nat.le_of_ble_eq_true rfl) ⟨Nat.le_trans (by decide) hRf.1, Nat.le_trans (by decide) hRf.2⟩ ⟨by have := hc.1; show cells + 2 ≤ _; omega, by have := hc.2; show slots + 12 ≤ _; omega⟩ dL_law_1030 (fun H locs hW hS => ?_)
  refine lv_istore (lv' := [(6, .int r'), (5, .int (nI (wk [1, 2] e9))), (4, .int (nI n)), (0, .ref b), (1, .ref x9), (2, .ref m9), (3, .ref o)]) hx hb dL_law_1033 hl (by decide) rfl (fun ls hl => ?_)
  refine lv_aload_n hx hb dL_law_1035 rfl (lv_at hl 5 rfl) ?_
  refine l_ref (As := []) (rest := []) X hK hAn hW hS yvX9_thrown ml_L_101 (fun L ow => c_X9_thrown l L τ' ow) rfl hl.1 rfl (Nat.le_of_ble_eq_true rfl) ⟨Nat.le_trans (by decide) hRf.1, Nat.le_trans (by decide) hRf.2⟩ ⟨by have := hc.1; show cells + 2 ≤ _; omega, by have := hc.2; show slots + 12 ≤ _; omega⟩ dL_law_1036 (fun H locs hW hS => ?_)
  refine lv_iload hx hb dL_law_1039 (lv_at hl 1 rfl) ?_
  refine lv_icmp_eq (tgt := 1046) hx hb dL_law_1041 (by decide) (fun _ => ?_) (fun z => absurd hth z)
  refine lv_iload hx hb dL_law_1046 (lv_at hl 1 rfl) ?_
  refine lv_if_ne (tgt := 1063) hx hb dL_law_1048 (by decide) (fun _ => ?_) (fun z0 => ?_)
  · refine lv_goto (tgt := 1820) hx hb dL_law_1063 (by decide) ?_
    refine W.widen (k := cells + 16) (n := slots + 1000) (by omega) (by omega) ?_
    exact kk f _ _ H locs ls hW hR9 hS (lv_sub hl [2, 3, 4, 5, 6] rfl)
  · have h0 : e9 = 0 := by
      rcases he with rfl | rfl | rfl
      · rfl
      · exact absurd z0 (by decide)
      · exact absurd z0 (by decide)
    refine lv_aload_n hx hb dL_law_1051 rfl (lv_at hl 6 rfl) ?_
    refine lv_iconst (v := nI 0) hx hb dL_law_1052 (by decide) ?_
    refine l_lald X hK hW dL_law_1053 ?_
    refine lv_iload hx hb dL_law_1054 (lv_at hl 0 rfl) ?_
    refine lv_i2l (v := r'.toInt64) hx hb dL_law_1056 rfl ?_
    refine l_lcmp hx hb (by rw [hf h0, hag h0]) dL_law_1057 ?_
    refine lv_if_eq (tgt := 1063) hx hb dL_law_1058 (by decide) (fun _ => ?_) (fun z => absurd rfl z)
    refine lv_goto (tgt := 1820) hx hb dL_law_1063 (by decide) ?_
    refine W.widen (k := cells + 16) (n := slots + 1000) (by omega) (by omega) ?_
    exact kk f _ _ H locs ls hW hR9 hS (lv_sub hl [2, 3, 4, 5, 6] rfl)
set_option maxRecDepth 100000 in
set_option maxHeartbeats 4000000 in
theorem o_drawing (hop : OP_drawing D cI cZ cO t0 mi l Rel) (X : CallFix p m c cL_law 7 s args TB RL) (hK : KJ D cI cZ cO cJ s) (hE : EE t0 mi A s s.heap) (hX9 : EX A s s.heap) (hN : NC s) (hAn : ∀ q, s.heap.size ≤ q → A q) (hXs : va_X b N xs s s.heap) (hbl : b < s.heap.size) (hbA : ¬ A b) (hn : n + 6 ≤ N) (hN2 : N ≤ 3072) (hRel : Rel σ τ) (hW : Wd D cI cZ cO cJ t0 A x9 m9 o f σ τ H) (hS : va_S A s.heap H locs) (hl : lv_has ls 7 [(4, .int (nI n)), (0, .ref b), (1, .ref x9), (2, .ref m9), (3, .ref o)]) (hRf : 16 ≤ R.frames ∧ 632 ≤ R.locals) (hc : cells + 16 ≤ R.cells ∧ slots + 1000 ≤ R.slots)
    (kk : ∀ (f : Nat → Int64) (σ τ : St) (H : Heap) (locs : List Loc) (ls : Array Slot), Wd D cI cZ cO cJ t0 A x9 m9 o f σ τ H → Rel σ τ → va_S A s.heap H locs → lv_has ls 7 [(4, .int (nI n)), (0, .ref b), (1, .ref x9), (2, .ref m9), (3, .ref o)] → W p l e R s m args below meth c H locs (cells + 16) (slots + 1000) Q (F0 m 1820 ls [])) : W p l e R s m args below meth c H locs cells slots Q (F0 m 1066 ls []) := by
  have hx := X.1
  have hb := X.2.1
  obtain ⟨e9, r, σ', r', τ', hY, hM, he, hth, hag, hR9⟩ := hop σ τ hRel 
  refine lv_aload_n hx hb dL_law_1066 rfl (lv_at hl 2 rfl) ?_
  refine lv_aload_n hx hb dL_law_1067 rfl (lv_at hl 4 rfl) ?_
  refine l_wrap (As := [.ref x9, .ref o]) (rest := []) X hK hE hX9 hN hAn hW hS yl_drawing ml_L_153 (fun L ow h => by rw [← h]; exact w_drawing l L σ ow o  (hY L ow) he) rfl hl.1 rfl (Nat.le_of_ble_eq_true rfl) ⟨Nat.le_trans (by decide) hRf.1, Nat.le_trans (by decide) hRf.2⟩ ⟨by have := hc.1; show cells + 8 ≤ _; omega, by have := hc.2; show slots + 200 ≤ _; omega⟩ dL_law_1068 (fun f H locs hW hf hS => ?_)
  refine lv_istore (lv' := [(5, .int (nI (wk [3] e9))), (4, .int (nI n)), (0, .ref b), (1, .ref x9), (2, .ref m9), (3, .ref o)]) hx hb dL_law_1071 hl (by decide) rfl (fun ls hl => ?_)
  refine lv_aload_n hx hb dL_law_1073 rfl (lv_at hl 4 rfl) ?_
  refine l_ref (As := []) (rest := []) X hK hAn hW hS yvX9_drawing ml_L_155 (fun L ow => hM L ow) rfl hl.1 rfl (Nat.le_of_ble_eq_true rfl) ⟨Nat.le_trans (by decide) hRf.1, Nat.le_trans (by decide) hRf.2⟩ ⟨by have := hc.1; show cells + 8 ≤ _; omega, by have := hc.2; show slots + 200 ≤ _; omega⟩ dL_law_1074 (fun H locs hW hS => ?_)
  refine lv_istore (lv' := [(6, .int r'), (5, .int (nI (wk [3] e9))), (4, .int (nI n)), (0, .ref b), (1, .ref x9), (2, .ref m9), (3, .ref o)]) hx hb dL_law_1077 hl (by decide) rfl (fun ls hl => ?_)
  refine lv_aload_n hx hb dL_law_1079 rfl (lv_at hl 5 rfl) ?_
  refine l_ref (As := []) (rest := []) X hK hAn hW hS yvX9_thrown ml_L_101 (fun L ow => c_X9_thrown l L τ' ow) rfl hl.1 rfl (Nat.le_of_ble_eq_true rfl) ⟨Nat.le_trans (by decide) hRf.1, Nat.le_trans (by decide) hRf.2⟩ ⟨by have := hc.1; show cells + 8 ≤ _; omega, by have := hc.2; show slots + 200 ≤ _; omega⟩ dL_law_1080 (fun H locs hW hS => ?_)
  refine lv_iload hx hb dL_law_1083 (lv_at hl 1 rfl) ?_
  refine lv_icmp_eq (tgt := 1090) hx hb dL_law_1085 (by decide) (fun _ => ?_) (fun z => absurd hth z)
  refine lv_iload hx hb dL_law_1090 (lv_at hl 1 rfl) ?_
  refine lv_if_ne (tgt := 1107) hx hb dL_law_1092 (by decide) (fun _ => ?_) (fun z0 => ?_)
  · refine lv_goto (tgt := 1820) hx hb dL_law_1107 (by decide) ?_
    refine W.widen (k := cells + 16) (n := slots + 1000) (by omega) (by omega) ?_
    exact kk f _ _ H locs ls hW hR9 hS (lv_sub hl [2, 3, 4, 5, 6] rfl)
  · have h0 : e9 = 0 := by
      rcases he with rfl | rfl
      · rfl
      · exact absurd z0 (by decide)
    refine lv_aload_n hx hb dL_law_1095 rfl (lv_at hl 6 rfl) ?_
    refine lv_iconst (v := nI 0) hx hb dL_law_1096 (by decide) ?_
    refine l_lald X hK hW dL_law_1097 ?_
    refine lv_iload hx hb dL_law_1098 (lv_at hl 0 rfl) ?_
    refine lv_i2l (v := r'.toInt64) hx hb dL_law_1100 rfl ?_
    refine l_lcmp hx hb (by rw [hf h0, hag h0]) dL_law_1101 ?_
    refine lv_if_eq (tgt := 1107) hx hb dL_law_1102 (by decide) (fun _ => ?_) (fun z => absurd rfl z)
    refine lv_goto (tgt := 1820) hx hb dL_law_1107 (by decide) ?_
    refine W.widen (k := cells + 16) (n := slots + 1000) (by omega) (by omega) ?_
    exact kk f _ _ H locs ls hW hR9 hS (lv_sub hl [2, 3, 4, 5, 6] rfl)
set_option maxRecDepth 100000 in
set_option maxHeartbeats 4000000 in
theorem o_feature (hop : OP_feature D cI cZ cO t0 mi l Rel) (X : CallFix p m c cL_law 7 s args TB RL) (hK : KJ D cI cZ cO cJ s) (hE : EE t0 mi A s s.heap) (hX9 : EX A s s.heap) (hN : NC s) (hAn : ∀ q, s.heap.size ≤ q → A q) (hXs : va_X b N xs s s.heap) (hbl : b < s.heap.size) (hbA : ¬ A b) (hn : n + 6 ≤ N) (hN2 : N ≤ 3072) (hRel : Rel σ τ) (hW : Wd D cI cZ cO cJ t0 A x9 m9 o f σ τ H) (hS : va_S A s.heap H locs) (hl : lv_has ls 7 [(4, .int (nI n)), (0, .ref b), (1, .ref x9), (2, .ref m9), (3, .ref o)]) (hRf : 16 ≤ R.frames ∧ 632 ≤ R.locals) (hc : cells + 16 ≤ R.cells ∧ slots + 1000 ≤ R.slots)
    (kk : ∀ (f : Nat → Int64) (σ τ : St) (H : Heap) (locs : List Loc) (ls : Array Slot), Wd D cI cZ cO cJ t0 A x9 m9 o f σ τ H → Rel σ τ → va_S A s.heap H locs → lv_has ls 7 [(4, .int (nI n)), (0, .ref b), (1, .ref x9), (2, .ref m9), (3, .ref o)] → W p l e R s m args below meth c H locs (cells + 16) (slots + 1000) Q (F0 m 1820 ls [])) : W p l e R s m args below meth c H locs cells slots Q (F0 m 1110 ls []) := by
  have hx := X.1
  have hb := X.2.1
  obtain ⟨e9, r, σ', r', τ', hY, hM, he, hth, hag, hR9⟩ := hop σ τ hRel (xs (n + 1)) (xs (n + 2)) (xs (n + 3)) (xs (n + 4)) (xs (n + 5))
  refine lv_aload_n hx hb dL_law_1110 rfl (lv_at hl 2 rfl) ?_
  refine lv_aload_n hx hb dL_law_1111 rfl (lv_at hl 1 rfl) ?_
  refine lv_iload hx hb dL_law_1112 (lv_at hl 0 rfl) ?_
  refine lv_iconst (v := nI 1) hx hb dL_law_1114 (by decide) ?_
  refine r_addN hx hb dL_law_1115 ?_
  refine pn_sld X hXs hbl hbA hS (k := n + 1) (by omega) (by omega) dL_law_1116 ?_
  refine lv_aload_n hx hb dL_law_1117 rfl (lv_at hl 1 rfl) ?_
  refine lv_iload hx hb dL_law_1118 (lv_at hl 0 rfl) ?_
  refine lv_iconst (v := nI 2) hx hb dL_law_1120 (by decide) ?_
  refine r_addN hx hb dL_law_1121 ?_
  refine pn_sld X hXs hbl hbA hS (k := n + 2) (by omega) (by omega) dL_law_1122 ?_
  refine lv_aload_n hx hb dL_law_1123 rfl (lv_at hl 1 rfl) ?_
  refine lv_iload hx hb dL_law_1124 (lv_at hl 0 rfl) ?_
  refine lv_iconst (v := nI 3) hx hb dL_law_1126 (by decide) ?_
  refine r_addN hx hb dL_law_1127 ?_
  refine pn_sld X hXs hbl hbA hS (k := n + 3) (by omega) (by omega) dL_law_1128 ?_
  refine lv_aload_n hx hb dL_law_1129 rfl (lv_at hl 1 rfl) ?_
  refine lv_iload hx hb dL_law_1130 (lv_at hl 0 rfl) ?_
  refine lv_iconst (v := nI 4) hx hb dL_law_1132 (by decide) ?_
  refine r_addN hx hb dL_law_1133 ?_
  refine pn_sld X hXs hbl hbA hS (k := n + 4) (by omega) (by omega) dL_law_1134 ?_
  refine lv_aload_n hx hb dL_law_1135 rfl (lv_at hl 1 rfl) ?_
  refine lv_iload hx hb dL_law_1136 (lv_at hl 0 rfl) ?_
  refine lv_iconst (v := nI 5) hx hb dL_law_1138 (by decide) ?_
  refine r_addN hx hb dL_law_1139 ?_
  refine pn_sld X hXs hbl hbA hS (k := n + 5) (by omega) (by omega) dL_law_1140 ?_
  refine lv_aload_n hx hb dL_law_1141 rfl (lv_at hl 4 rfl) ?_
  refine l_wrap (As := [.ref x9, .int (xs (n + 1)), .int (xs (n + 2)), .int (xs (n + 3)), .int (xs (n + 4)), .int (xs (n + 5)), .ref o]) (rest := []) X hK hE hX9 hN hAn hW hS yl_feature ml_L_156 (fun L ow h => by rw [← h]; exact w_feature l L σ ow o ((xs (n + 1))) ((xs (n + 2))) ((xs (n + 3))) ((xs (n + 4))) ((xs (n + 5))) (hY L ow) he) rfl hl.1 rfl (Nat.le_of_ble_eq_true rfl) ⟨Nat.le_trans (by decide) hRf.1, Nat.le_trans (by decide) hRf.2⟩ ⟨by have := hc.1; show cells + 3 ≤ _; omega, by have := hc.2; show slots + 18 ≤ _; omega⟩ dL_law_1142 (fun f H locs hW hf hS => ?_)
  refine lv_istore (lv' := [(5, .int (nI (wk [1, 2, 3] e9))), (4, .int (nI n)), (0, .ref b), (1, .ref x9), (2, .ref m9), (3, .ref o)]) hx hb dL_law_1145 hl (by decide) rfl (fun ls hl => ?_)
  refine lv_aload_n hx hb dL_law_1147 rfl (lv_at hl 4 rfl) ?_
  refine lv_aload_n hx hb dL_law_1148 rfl (lv_at hl 2 rfl) ?_
  refine lv_iload hx hb dL_law_1149 (lv_at hl 1 rfl) ?_
  refine lv_iconst (v := nI 1) hx hb dL_law_1151 (by decide) ?_
  refine r_addN hx hb dL_law_1152 ?_
  refine pn_sld X hXs hbl hbA hS (k := n + 1) (by omega) (by omega) dL_law_1153 ?_
  refine lv_aload_n hx hb dL_law_1154 rfl (lv_at hl 2 rfl) ?_
  refine lv_iload hx hb dL_law_1155 (lv_at hl 1 rfl) ?_
  refine lv_iconst (v := nI 2) hx hb dL_law_1157 (by decide) ?_
  refine r_addN hx hb dL_law_1158 ?_
  refine pn_sld X hXs hbl hbA hS (k := n + 2) (by omega) (by omega) dL_law_1159 ?_
  refine lv_aload_n hx hb dL_law_1160 rfl (lv_at hl 2 rfl) ?_
  refine lv_iload hx hb dL_law_1161 (lv_at hl 1 rfl) ?_
  refine lv_iconst (v := nI 3) hx hb dL_law_1163 (by decide) ?_
  refine r_addN hx hb dL_law_1164 ?_
  refine pn_sld X hXs hbl hbA hS (k := n + 3) (by omega) (by omega) dL_law_1165 ?_
  refine lv_aload_n hx hb dL_law_1166 rfl (lv_at hl 2 rfl) ?_
  refine lv_iload hx hb dL_law_1167 (lv_at hl 1 rfl) ?_
  refine lv_iconst (v := nI 4) hx hb dL_law_1169 (by decide) ?_
  refine r_addN hx hb dL_law_1170 ?_
  refine pn_sld X hXs hbl hbA hS (k := n + 4) (by omega) (by omega) dL_law_1171 ?_
  refine lv_aload_n hx hb dL_law_1172 rfl (lv_at hl 2 rfl) ?_
  refine lv_iload hx hb dL_law_1173 (lv_at hl 1 rfl) ?_
  refine lv_iconst (v := nI 5) hx hb dL_law_1175 (by decide) ?_
  refine r_addN hx hb dL_law_1176 ?_
  refine pn_sld X hXs hbl hbA hS (k := n + 5) (by omega) (by omega) dL_law_1177 ?_
  refine l_ref (As := [.int (xs (n + 1)), .int (xs (n + 2)), .int (xs (n + 3)), .int (xs (n + 4)), .int (xs (n + 5))]) (rest := []) X hK hAn hW hS yvX9_feature ml_L_159 (fun L ow => hM L ow) rfl hl.1 rfl (Nat.le_of_ble_eq_true rfl) ⟨Nat.le_trans (by decide) hRf.1, Nat.le_trans (by decide) hRf.2⟩ ⟨by have := hc.1; show cells + 3 ≤ _; omega, by have := hc.2; show slots + 18 ≤ _; omega⟩ dL_law_1178 (fun H locs hW hS => ?_)
  refine lv_istore (lv' := [(6, .int r'), (5, .int (nI (wk [1, 2, 3] e9))), (4, .int (nI n)), (0, .ref b), (1, .ref x9), (2, .ref m9), (3, .ref o)]) hx hb dL_law_1181 hl (by decide) rfl (fun ls hl => ?_)
  refine lv_aload_n hx hb dL_law_1183 rfl (lv_at hl 5 rfl) ?_
  refine l_ref (As := []) (rest := []) X hK hAn hW hS yvX9_thrown ml_L_101 (fun L ow => c_X9_thrown l L τ' ow) rfl hl.1 rfl (Nat.le_of_ble_eq_true rfl) ⟨Nat.le_trans (by decide) hRf.1, Nat.le_trans (by decide) hRf.2⟩ ⟨by have := hc.1; show cells + 3 ≤ _; omega, by have := hc.2; show slots + 18 ≤ _; omega⟩ dL_law_1184 (fun H locs hW hS => ?_)
  refine lv_iload hx hb dL_law_1187 (lv_at hl 1 rfl) ?_
  refine lv_icmp_eq (tgt := 1194) hx hb dL_law_1189 (by decide) (fun _ => ?_) (fun z => absurd hth z)
  refine lv_iload hx hb dL_law_1194 (lv_at hl 1 rfl) ?_
  refine lv_if_ne (tgt := 1211) hx hb dL_law_1196 (by decide) (fun _ => ?_) (fun z0 => ?_)
  · refine lv_goto (tgt := 1820) hx hb dL_law_1211 (by decide) ?_
    refine W.widen (k := cells + 16) (n := slots + 1000) (by omega) (by omega) ?_
    exact kk f _ _ H locs ls hW hR9 hS (lv_sub hl [2, 3, 4, 5, 6] rfl)
  · have h0 : e9 = 0 := by
      rcases he with rfl | rfl | rfl | rfl
      · rfl
      · exact absurd z0 (by decide)
      · exact absurd z0 (by decide)
      · exact absurd z0 (by decide)
    refine lv_aload_n hx hb dL_law_1199 rfl (lv_at hl 6 rfl) ?_
    refine lv_iconst (v := nI 0) hx hb dL_law_1200 (by decide) ?_
    refine l_lald X hK hW dL_law_1201 ?_
    refine lv_iload hx hb dL_law_1202 (lv_at hl 0 rfl) ?_
    refine lv_i2l (v := r'.toInt64) hx hb dL_law_1204 rfl ?_
    refine l_lcmp hx hb (by rw [hf h0, hag h0]) dL_law_1205 ?_
    refine lv_if_eq (tgt := 1211) hx hb dL_law_1206 (by decide) (fun _ => ?_) (fun z => absurd rfl z)
    refine lv_goto (tgt := 1820) hx hb dL_law_1211 (by decide) ?_
    refine W.widen (k := cells + 16) (n := slots + 1000) (by omega) (by omega) ?_
    exact kk f _ _ H locs ls hW hR9 hS (lv_sub hl [2, 3, 4, 5, 6] rfl)
set_option maxRecDepth 100000 in
set_option maxHeartbeats 4000000 in
theorem o_allow (hop : OP_allow D cI cZ cO t0 mi l Rel) (X : CallFix p m c cL_law 7 s args TB RL) (hK : KJ D cI cZ cO cJ s) (hE : EE t0 mi A s s.heap) (hX9 : EX A s s.heap) (hN : NC s) (hAn : ∀ q, s.heap.size ≤ q → A q) (hXs : va_X b N xs s s.heap) (hbl : b < s.heap.size) (hbA : ¬ A b) (hn : n + 6 ≤ N) (hN2 : N ≤ 3072) (hRel : Rel σ τ) (hW : Wd D cI cZ cO cJ t0 A x9 m9 o f σ τ H) (hS : va_S A s.heap H locs) (hl : lv_has ls 7 [(4, .int (nI n)), (0, .ref b), (1, .ref x9), (2, .ref m9), (3, .ref o)]) (hRf : 16 ≤ R.frames ∧ 632 ≤ R.locals) (hc : cells + 16 ≤ R.cells ∧ slots + 1000 ≤ R.slots)
    (kk : ∀ (f : Nat → Int64) (σ τ : St) (H : Heap) (locs : List Loc) (ls : Array Slot), Wd D cI cZ cO cJ t0 A x9 m9 o f σ τ H → Rel σ τ → va_S A s.heap H locs → lv_has ls 7 [(4, .int (nI n)), (0, .ref b), (1, .ref x9), (2, .ref m9), (3, .ref o)] → W p l e R s m args below meth c H locs (cells + 16) (slots + 1000) Q (F0 m 1820 ls [])) : W p l e R s m args below meth c H locs cells slots Q (F0 m 1214 ls []) := by
  have hx := X.1
  have hb := X.2.1
  obtain ⟨e9, r, σ', r', τ', hY, hM, he, hth, hag, hR9⟩ := hop σ τ hRel (xs (n + 1)) (xs (n + 2)) (xs (n + 3)) (xs (n + 4))
  refine lv_aload_n hx hb dL_law_1214 rfl (lv_at hl 2 rfl) ?_
  refine lv_aload_n hx hb dL_law_1215 rfl (lv_at hl 1 rfl) ?_
  refine lv_iload hx hb dL_law_1216 (lv_at hl 0 rfl) ?_
  refine lv_iconst (v := nI 1) hx hb dL_law_1218 (by decide) ?_
  refine r_addN hx hb dL_law_1219 ?_
  refine pn_sld X hXs hbl hbA hS (k := n + 1) (by omega) (by omega) dL_law_1220 ?_
  refine lv_aload_n hx hb dL_law_1221 rfl (lv_at hl 1 rfl) ?_
  refine lv_iload hx hb dL_law_1222 (lv_at hl 0 rfl) ?_
  refine lv_iconst (v := nI 2) hx hb dL_law_1224 (by decide) ?_
  refine r_addN hx hb dL_law_1225 ?_
  refine pn_sld X hXs hbl hbA hS (k := n + 2) (by omega) (by omega) dL_law_1226 ?_
  refine lv_aload_n hx hb dL_law_1227 rfl (lv_at hl 1 rfl) ?_
  refine lv_iload hx hb dL_law_1228 (lv_at hl 0 rfl) ?_
  refine lv_iconst (v := nI 3) hx hb dL_law_1230 (by decide) ?_
  refine r_addN hx hb dL_law_1231 ?_
  refine pn_sld X hXs hbl hbA hS (k := n + 3) (by omega) (by omega) dL_law_1232 ?_
  refine lv_aload_n hx hb dL_law_1233 rfl (lv_at hl 1 rfl) ?_
  refine lv_iload hx hb dL_law_1234 (lv_at hl 0 rfl) ?_
  refine lv_iconst (v := nI 4) hx hb dL_law_1236 (by decide) ?_
  refine r_addN hx hb dL_law_1237 ?_
  refine pn_sld X hXs hbl hbA hS (k := n + 4) (by omega) (by omega) dL_law_1238 ?_
  refine lv_aload_n hx hb dL_law_1239 rfl (lv_at hl 4 rfl) ?_
  refine l_wrap (As := [.ref x9, .int (xs (n + 1)), .int (xs (n + 2)), .int (xs (n + 3)), .int (xs (n + 4)), .ref o]) (rest := []) X hK hE hX9 hN hAn hW hS yl_allow ml_L_160 (fun L ow h => by rw [← h]; exact w_allow l L σ ow o ((xs (n + 1))) ((xs (n + 2))) ((xs (n + 3))) ((xs (n + 4))) (hY L ow) he) rfl hl.1 rfl (Nat.le_of_ble_eq_true rfl) ⟨Nat.le_trans (by decide) hRf.1, Nat.le_trans (by decide) hRf.2⟩ ⟨by have := hc.1; show cells + 2 ≤ _; omega, by have := hc.2; show slots + 12 ≤ _; omega⟩ dL_law_1240 (fun f H locs hW hf hS => ?_)
  refine lv_istore (lv' := [(5, .int (nI (wk [1, 2] e9))), (4, .int (nI n)), (0, .ref b), (1, .ref x9), (2, .ref m9), (3, .ref o)]) hx hb dL_law_1243 hl (by decide) rfl (fun ls hl => ?_)
  refine lv_aload_n hx hb dL_law_1245 rfl (lv_at hl 4 rfl) ?_
  refine lv_aload_n hx hb dL_law_1246 rfl (lv_at hl 2 rfl) ?_
  refine lv_iload hx hb dL_law_1247 (lv_at hl 1 rfl) ?_
  refine lv_iconst (v := nI 1) hx hb dL_law_1249 (by decide) ?_
  refine r_addN hx hb dL_law_1250 ?_
  refine pn_sld X hXs hbl hbA hS (k := n + 1) (by omega) (by omega) dL_law_1251 ?_
  refine lv_aload_n hx hb dL_law_1252 rfl (lv_at hl 2 rfl) ?_
  refine lv_iload hx hb dL_law_1253 (lv_at hl 1 rfl) ?_
  refine lv_iconst (v := nI 2) hx hb dL_law_1255 (by decide) ?_
  refine r_addN hx hb dL_law_1256 ?_
  refine pn_sld X hXs hbl hbA hS (k := n + 2) (by omega) (by omega) dL_law_1257 ?_
  refine lv_aload_n hx hb dL_law_1258 rfl (lv_at hl 2 rfl) ?_
  refine lv_iload hx hb dL_law_1259 (lv_at hl 1 rfl) ?_
  refine lv_iconst (v := nI 3) hx hb dL_law_1261 (by decide) ?_
  refine r_addN hx hb dL_law_1262 ?_
  refine pn_sld X hXs hbl hbA hS (k := n + 3) (by omega) (by omega) dL_law_1263 ?_
  refine lv_aload_n hx hb dL_law_1264 rfl (lv_at hl 2 rfl) ?_
  refine lv_iload hx hb dL_law_1265 (lv_at hl 1 rfl) ?_
  refine lv_iconst (v := nI 4) hx hb dL_law_1267 (by decide) ?_
  refine r_addN hx hb dL_law_1268 ?_
  refine pn_sld X hXs hbl hbA hS (k := n + 4) (by omega) (by omega) dL_law_1269 ?_
  refine l_ref (As := [.int (xs (n + 1)), .int (xs (n + 2)), .int (xs (n + 3)), .int (xs (n + 4))]) (rest := []) X hK hAn hW hS yvX9_allow ml_L_162 (fun L ow => hM L ow) rfl hl.1 rfl (Nat.le_of_ble_eq_true rfl) ⟨Nat.le_trans (by decide) hRf.1, Nat.le_trans (by decide) hRf.2⟩ ⟨by have := hc.1; show cells + 2 ≤ _; omega, by have := hc.2; show slots + 12 ≤ _; omega⟩ dL_law_1270 (fun H locs hW hS => ?_)
  refine lv_istore (lv' := [(6, .int r'), (5, .int (nI (wk [1, 2] e9))), (4, .int (nI n)), (0, .ref b), (1, .ref x9), (2, .ref m9), (3, .ref o)]) hx hb dL_law_1273 hl (by decide) rfl (fun ls hl => ?_)
  refine lv_aload_n hx hb dL_law_1275 rfl (lv_at hl 5 rfl) ?_
  refine l_ref (As := []) (rest := []) X hK hAn hW hS yvX9_thrown ml_L_101 (fun L ow => c_X9_thrown l L τ' ow) rfl hl.1 rfl (Nat.le_of_ble_eq_true rfl) ⟨Nat.le_trans (by decide) hRf.1, Nat.le_trans (by decide) hRf.2⟩ ⟨by have := hc.1; show cells + 2 ≤ _; omega, by have := hc.2; show slots + 12 ≤ _; omega⟩ dL_law_1276 (fun H locs hW hS => ?_)
  refine lv_iload hx hb dL_law_1279 (lv_at hl 1 rfl) ?_
  refine lv_icmp_eq (tgt := 1286) hx hb dL_law_1281 (by decide) (fun _ => ?_) (fun z => absurd hth z)
  refine lv_iload hx hb dL_law_1286 (lv_at hl 1 rfl) ?_
  refine lv_if_ne (tgt := 1303) hx hb dL_law_1288 (by decide) (fun _ => ?_) (fun z0 => ?_)
  · refine lv_goto (tgt := 1820) hx hb dL_law_1303 (by decide) ?_
    refine W.widen (k := cells + 16) (n := slots + 1000) (by omega) (by omega) ?_
    exact kk f _ _ H locs ls hW hR9 hS (lv_sub hl [2, 3, 4, 5, 6] rfl)
  · have h0 : e9 = 0 := by
      rcases he with rfl | rfl | rfl
      · rfl
      · exact absurd z0 (by decide)
      · exact absurd z0 (by decide)
    refine lv_aload_n hx hb dL_law_1291 rfl (lv_at hl 6 rfl) ?_
    refine lv_iconst (v := nI 0) hx hb dL_law_1292 (by decide) ?_
    refine l_lald X hK hW dL_law_1293 ?_
    refine lv_iload hx hb dL_law_1294 (lv_at hl 0 rfl) ?_
    refine lv_i2l (v := r'.toInt64) hx hb dL_law_1296 rfl ?_
    refine l_lcmp hx hb (by rw [hf h0, hag h0]) dL_law_1297 ?_
    refine lv_if_eq (tgt := 1303) hx hb dL_law_1298 (by decide) (fun _ => ?_) (fun z => absurd rfl z)
    refine lv_goto (tgt := 1820) hx hb dL_law_1303 (by decide) ?_
    refine W.widen (k := cells + 16) (n := slots + 1000) (by omega) (by omega) ?_
    exact kk f _ _ H locs ls hW hR9 hS (lv_sub hl [2, 3, 4, 5, 6] rfl)
set_option maxRecDepth 100000 in
set_option maxHeartbeats 4000000 in
theorem o_judge (hop : OP_judge D cI cZ cO t0 mi l Rel) (X : CallFix p m c cL_law 7 s args TB RL) (hK : KJ D cI cZ cO cJ s) (hE : EE t0 mi A s s.heap) (hX9 : EX A s s.heap) (hN : NC s) (hAn : ∀ q, s.heap.size ≤ q → A q) (hXs : va_X b N xs s s.heap) (hbl : b < s.heap.size) (hbA : ¬ A b) (hn : n + 6 ≤ N) (hN2 : N ≤ 3072) (hRel : Rel σ τ) (hW : Wd D cI cZ cO cJ t0 A x9 m9 o f σ τ H) (hS : va_S A s.heap H locs) (hl : lv_has ls 7 [(4, .int (nI n)), (0, .ref b), (1, .ref x9), (2, .ref m9), (3, .ref o)]) (hRf : 16 ≤ R.frames ∧ 632 ≤ R.locals) (hc : cells + 16 ≤ R.cells ∧ slots + 1000 ≤ R.slots)
    (kk : ∀ (f : Nat → Int64) (σ τ : St) (H : Heap) (locs : List Loc) (ls : Array Slot), Wd D cI cZ cO cJ t0 A x9 m9 o f σ τ H → Rel σ τ → va_S A s.heap H locs → lv_has ls 7 [(4, .int (nI n)), (0, .ref b), (1, .ref x9), (2, .ref m9), (3, .ref o)] → W p l e R s m args below meth c H locs (cells + 16) (slots + 1000) Q (F0 m 1820 ls [])) : W p l e R s m args below meth c H locs cells slots Q (F0 m 1306 ls []) := by
  have hx := X.1
  have hb := X.2.1
  obtain ⟨e9, r, σ', r', τ', hY, hM, he, hth, hag, hR9⟩ := hop σ τ hRel (xs (n + 1)) (xs (n + 2)) (xs (n + 3))
  refine lv_aload_n hx hb dL_law_1306 rfl (lv_at hl 2 rfl) ?_
  refine lv_aload_n hx hb dL_law_1307 rfl (lv_at hl 1 rfl) ?_
  refine lv_iload hx hb dL_law_1308 (lv_at hl 0 rfl) ?_
  refine lv_iconst (v := nI 1) hx hb dL_law_1310 (by decide) ?_
  refine r_addN hx hb dL_law_1311 ?_
  refine pn_sld X hXs hbl hbA hS (k := n + 1) (by omega) (by omega) dL_law_1312 ?_
  refine lv_aload_n hx hb dL_law_1313 rfl (lv_at hl 1 rfl) ?_
  refine lv_iload hx hb dL_law_1314 (lv_at hl 0 rfl) ?_
  refine lv_iconst (v := nI 2) hx hb dL_law_1316 (by decide) ?_
  refine r_addN hx hb dL_law_1317 ?_
  refine pn_sld X hXs hbl hbA hS (k := n + 2) (by omega) (by omega) dL_law_1318 ?_
  refine lv_aload_n hx hb dL_law_1319 rfl (lv_at hl 1 rfl) ?_
  refine lv_iload hx hb dL_law_1320 (lv_at hl 0 rfl) ?_
  refine lv_iconst (v := nI 3) hx hb dL_law_1322 (by decide) ?_
  refine r_addN hx hb dL_law_1323 ?_
  refine pn_sld X hXs hbl hbA hS (k := n + 3) (by omega) (by omega) dL_law_1324 ?_
  refine lv_aload_n hx hb dL_law_1325 rfl (lv_at hl 4 rfl) ?_
  refine l_wrap (As := [.ref x9, .int (xs (n + 1)), .int (xs (n + 2)), .int (xs (n + 3)), .ref o]) (rest := []) X hK hE hX9 hN hAn hW hS yl_judge ml_L_163 (fun L ow h => by rw [← h]; exact w_judge l L σ ow o ((xs (n + 1))) ((xs (n + 2))) ((xs (n + 3))) (hY L ow) he) rfl hl.1 rfl (Nat.le_of_ble_eq_true rfl) ⟨Nat.le_trans (by decide) hRf.1, Nat.le_trans (by decide) hRf.2⟩ ⟨by have := hc.1; show cells + 10 ≤ _; omega, by have := hc.2; show slots + 200 ≤ _; omega⟩ dL_law_1326 (fun f H locs hW hf hS => ?_)
  refine lv_istore (lv' := [(5, .int (nI (wk [1, 3] e9))), (4, .int (nI n)), (0, .ref b), (1, .ref x9), (2, .ref m9), (3, .ref o)]) hx hb dL_law_1329 hl (by decide) rfl (fun ls hl => ?_)
  refine lv_aload_n hx hb dL_law_1331 rfl (lv_at hl 4 rfl) ?_
  refine lv_aload_n hx hb dL_law_1332 rfl (lv_at hl 2 rfl) ?_
  refine lv_iload hx hb dL_law_1333 (lv_at hl 1 rfl) ?_
  refine lv_iconst (v := nI 1) hx hb dL_law_1335 (by decide) ?_
  refine r_addN hx hb dL_law_1336 ?_
  refine pn_sld X hXs hbl hbA hS (k := n + 1) (by omega) (by omega) dL_law_1337 ?_
  refine lv_aload_n hx hb dL_law_1338 rfl (lv_at hl 2 rfl) ?_
  refine lv_iload hx hb dL_law_1339 (lv_at hl 1 rfl) ?_
  refine lv_iconst (v := nI 2) hx hb dL_law_1341 (by decide) ?_
  refine r_addN hx hb dL_law_1342 ?_
  refine pn_sld X hXs hbl hbA hS (k := n + 2) (by omega) (by omega) dL_law_1343 ?_
  refine lv_aload_n hx hb dL_law_1344 rfl (lv_at hl 2 rfl) ?_
  refine lv_iload hx hb dL_law_1345 (lv_at hl 1 rfl) ?_
  refine lv_iconst (v := nI 3) hx hb dL_law_1347 (by decide) ?_
  refine r_addN hx hb dL_law_1348 ?_
  refine pn_sld X hXs hbl hbA hS (k := n + 3) (by omega) (by omega) dL_law_1349 ?_
  refine l_ref (As := [.int (xs (n + 1)), .int (xs (n + 2)), .int (xs (n + 3))]) (rest := []) X hK hAn hW hS yvX9_judge ml_L_165 (fun L ow => hM L ow) rfl hl.1 rfl (Nat.le_of_ble_eq_true rfl) ⟨Nat.le_trans (by decide) hRf.1, Nat.le_trans (by decide) hRf.2⟩ ⟨by have := hc.1; show cells + 10 ≤ _; omega, by have := hc.2; show slots + 200 ≤ _; omega⟩ dL_law_1350 (fun H locs hW hS => ?_)
  refine lv_istore (lv' := [(6, .int r'), (5, .int (nI (wk [1, 3] e9))), (4, .int (nI n)), (0, .ref b), (1, .ref x9), (2, .ref m9), (3, .ref o)]) hx hb dL_law_1353 hl (by decide) rfl (fun ls hl => ?_)
  refine lv_aload_n hx hb dL_law_1355 rfl (lv_at hl 5 rfl) ?_
  refine l_ref (As := []) (rest := []) X hK hAn hW hS yvX9_thrown ml_L_101 (fun L ow => c_X9_thrown l L τ' ow) rfl hl.1 rfl (Nat.le_of_ble_eq_true rfl) ⟨Nat.le_trans (by decide) hRf.1, Nat.le_trans (by decide) hRf.2⟩ ⟨by have := hc.1; show cells + 10 ≤ _; omega, by have := hc.2; show slots + 200 ≤ _; omega⟩ dL_law_1356 (fun H locs hW hS => ?_)
  refine lv_iload hx hb dL_law_1359 (lv_at hl 1 rfl) ?_
  refine lv_icmp_eq (tgt := 1366) hx hb dL_law_1361 (by decide) (fun _ => ?_) (fun z => absurd hth z)
  refine lv_iload hx hb dL_law_1366 (lv_at hl 1 rfl) ?_
  refine lv_if_ne (tgt := 1383) hx hb dL_law_1368 (by decide) (fun _ => ?_) (fun z0 => ?_)
  · refine lv_goto (tgt := 1820) hx hb dL_law_1383 (by decide) ?_
    refine W.widen (k := cells + 16) (n := slots + 1000) (by omega) (by omega) ?_
    exact kk f _ _ H locs ls hW hR9 hS (lv_sub hl [2, 3, 4, 5, 6] rfl)
  · have h0 : e9 = 0 := by
      rcases he with rfl | rfl | rfl
      · rfl
      · exact absurd z0 (by decide)
      · exact absurd z0 (by decide)
    refine lv_aload_n hx hb dL_law_1371 rfl (lv_at hl 6 rfl) ?_
    refine lv_iconst (v := nI 0) hx hb dL_law_1372 (by decide) ?_
    refine l_lald X hK hW dL_law_1373 ?_
    refine lv_iload hx hb dL_law_1374 (lv_at hl 0 rfl) ?_
    refine lv_i2l (v := r'.toInt64) hx hb dL_law_1376 rfl ?_
    refine l_lcmp hx hb (by rw [hf h0, hag h0]) dL_law_1377 ?_
    refine lv_if_eq (tgt := 1383) hx hb dL_law_1378 (by decide) (fun _ => ?_) (fun z => absurd rfl z)
    refine lv_goto (tgt := 1820) hx hb dL_law_1383 (by decide) ?_
    refine W.widen (k := cells + 16) (n := slots + 1000) (by omega) (by omega) ?_
    exact kk f _ _ H locs ls hW hR9 hS (lv_sub hl [2, 3, 4, 5, 6] rfl)
set_option maxRecDepth 100000 in
set_option maxHeartbeats 4000000 in
theorem o_correct (hop : OP_correct D cI cZ cO t0 mi l Rel) (X : CallFix p m c cL_law 7 s args TB RL) (hK : KJ D cI cZ cO cJ s) (hE : EE t0 mi A s s.heap) (hX9 : EX A s s.heap) (hN : NC s) (hAn : ∀ q, s.heap.size ≤ q → A q) (hXs : va_X b N xs s s.heap) (hbl : b < s.heap.size) (hbA : ¬ A b) (hn : n + 6 ≤ N) (hN2 : N ≤ 3072) (hRel : Rel σ τ) (hW : Wd D cI cZ cO cJ t0 A x9 m9 o f σ τ H) (hS : va_S A s.heap H locs) (hl : lv_has ls 7 [(4, .int (nI n)), (0, .ref b), (1, .ref x9), (2, .ref m9), (3, .ref o)]) (hRf : 16 ≤ R.frames ∧ 632 ≤ R.locals) (hc : cells + 16 ≤ R.cells ∧ slots + 1000 ≤ R.slots)
    (kk : ∀ (f : Nat → Int64) (σ τ : St) (H : Heap) (locs : List Loc) (ls : Array Slot), Wd D cI cZ cO cJ t0 A x9 m9 o f σ τ H → Rel σ τ → va_S A s.heap H locs → lv_has ls 7 [(4, .int (nI n)), (0, .ref b), (1, .ref x9), (2, .ref m9), (3, .ref o)] → W p l e R s m args below meth c H locs (cells + 16) (slots + 1000) Q (F0 m 1820 ls [])) : W p l e R s m args below meth c H locs cells slots Q (F0 m 1386 ls []) := by
  have hx := X.1
  have hb := X.2.1
  obtain ⟨e9, r, σ', r', τ', hY, hM, he, hth, hag, hR9⟩ := hop σ τ hRel (xs (n + 1))
  refine lv_aload_n hx hb dL_law_1386 rfl (lv_at hl 2 rfl) ?_
  refine lv_aload_n hx hb dL_law_1387 rfl (lv_at hl 1 rfl) ?_
  refine lv_iload hx hb dL_law_1388 (lv_at hl 0 rfl) ?_
  refine lv_iconst (v := nI 1) hx hb dL_law_1390 (by decide) ?_
  refine r_addN hx hb dL_law_1391 ?_
  refine pn_sld X hXs hbl hbA hS (k := n + 1) (by omega) (by omega) dL_law_1392 ?_
  refine lv_aload_n hx hb dL_law_1393 rfl (lv_at hl 4 rfl) ?_
  refine l_wrap (As := [.ref x9, .int (xs (n + 1)), .ref o]) (rest := []) X hK hE hX9 hN hAn hW hS yl_correct ml_L_166 (fun L ow h => by rw [← h]; exact w_correct l L σ ow o ((xs (n + 1))) (hY L ow) he) rfl hl.1 rfl (Nat.le_of_ble_eq_true rfl) ⟨Nat.le_trans (by decide) hRf.1, Nat.le_trans (by decide) hRf.2⟩ ⟨by have := hc.1; show cells + 1 ≤ _; omega, by have := hc.2; show slots + 6 ≤ _; omega⟩ dL_law_1394 (fun f H locs hW hf hS => ?_)
  refine lv_istore (lv' := [(5, .int (nI (wk [1] e9))), (4, .int (nI n)), (0, .ref b), (1, .ref x9), (2, .ref m9), (3, .ref o)]) hx hb dL_law_1397 hl (by decide) rfl (fun ls hl => ?_)
  refine lv_aload_n hx hb dL_law_1399 rfl (lv_at hl 4 rfl) ?_
  refine lv_aload_n hx hb dL_law_1400 rfl (lv_at hl 2 rfl) ?_
  refine lv_iload hx hb dL_law_1401 (lv_at hl 1 rfl) ?_
  refine lv_iconst (v := nI 1) hx hb dL_law_1403 (by decide) ?_
  refine r_addN hx hb dL_law_1404 ?_
  refine pn_sld X hXs hbl hbA hS (k := n + 1) (by omega) (by omega) dL_law_1405 ?_
  refine l_ref (As := [.int (xs (n + 1))]) (rest := []) X hK hAn hW hS yvX9_correct ml_L_168 (fun L ow => hM L ow) rfl hl.1 rfl (Nat.le_of_ble_eq_true rfl) ⟨Nat.le_trans (by decide) hRf.1, Nat.le_trans (by decide) hRf.2⟩ ⟨by have := hc.1; show cells + 1 ≤ _; omega, by have := hc.2; show slots + 6 ≤ _; omega⟩ dL_law_1406 (fun H locs hW hS => ?_)
  refine lv_istore (lv' := [(6, .int r'), (5, .int (nI (wk [1] e9))), (4, .int (nI n)), (0, .ref b), (1, .ref x9), (2, .ref m9), (3, .ref o)]) hx hb dL_law_1409 hl (by decide) rfl (fun ls hl => ?_)
  refine lv_aload_n hx hb dL_law_1411 rfl (lv_at hl 5 rfl) ?_
  refine l_ref (As := []) (rest := []) X hK hAn hW hS yvX9_thrown ml_L_101 (fun L ow => c_X9_thrown l L τ' ow) rfl hl.1 rfl (Nat.le_of_ble_eq_true rfl) ⟨Nat.le_trans (by decide) hRf.1, Nat.le_trans (by decide) hRf.2⟩ ⟨by have := hc.1; show cells + 1 ≤ _; omega, by have := hc.2; show slots + 6 ≤ _; omega⟩ dL_law_1412 (fun H locs hW hS => ?_)
  refine lv_iload hx hb dL_law_1415 (lv_at hl 1 rfl) ?_
  refine lv_icmp_eq (tgt := 1422) hx hb dL_law_1417 (by decide) (fun _ => ?_) (fun z => absurd hth z)
  refine lv_iload hx hb dL_law_1422 (lv_at hl 1 rfl) ?_
  refine lv_if_ne (tgt := 1439) hx hb dL_law_1424 (by decide) (fun _ => ?_) (fun z0 => ?_)
  · refine lv_goto (tgt := 1820) hx hb dL_law_1439 (by decide) ?_
    refine W.widen (k := cells + 16) (n := slots + 1000) (by omega) (by omega) ?_
    exact kk f _ _ H locs ls hW hR9 hS (lv_sub hl [2, 3, 4, 5, 6] rfl)
  · have h0 : e9 = 0 := by
      rcases he with rfl | rfl
      · rfl
      · exact absurd z0 (by decide)
    refine lv_aload_n hx hb dL_law_1427 rfl (lv_at hl 6 rfl) ?_
    refine lv_iconst (v := nI 0) hx hb dL_law_1428 (by decide) ?_
    refine l_lald X hK hW dL_law_1429 ?_
    refine lv_iload hx hb dL_law_1430 (lv_at hl 0 rfl) ?_
    refine lv_i2l (v := r'.toInt64) hx hb dL_law_1432 rfl ?_
    refine l_lcmp hx hb (by rw [hf h0, hag h0]) dL_law_1433 ?_
    refine lv_if_eq (tgt := 1439) hx hb dL_law_1434 (by decide) (fun _ => ?_) (fun z => absurd rfl z)
    refine lv_goto (tgt := 1820) hx hb dL_law_1439 (by decide) ?_
    refine W.widen (k := cells + 16) (n := slots + 1000) (by omega) (by omega) ?_
    exact kk f _ _ H locs ls hW hR9 hS (lv_sub hl [2, 3, 4, 5, 6] rfl)
set_option maxRecDepth 100000 in
set_option maxHeartbeats 4000000 in
theorem o_minute (hop : OP_minute D cI cZ cO t0 mi l Rel) (X : CallFix p m c cL_law 7 s args TB RL) (hK : KJ D cI cZ cO cJ s) (hE : EE t0 mi A s s.heap) (hX9 : EX A s s.heap) (hN : NC s) (hAn : ∀ q, s.heap.size ≤ q → A q) (hXs : va_X b N xs s s.heap) (hbl : b < s.heap.size) (hbA : ¬ A b) (hn : n + 6 ≤ N) (hN2 : N ≤ 3072) (hRel : Rel σ τ) (hW : Wd D cI cZ cO cJ t0 A x9 m9 o f σ τ H) (hS : va_S A s.heap H locs) (hl : lv_has ls 7 [(4, .int (nI n)), (0, .ref b), (1, .ref x9), (2, .ref m9), (3, .ref o)]) (hRf : 16 ≤ R.frames ∧ 632 ≤ R.locals) (hc : cells + 16 ≤ R.cells ∧ slots + 1000 ≤ R.slots)
    (kk : ∀ (f : Nat → Int64) (σ τ : St) (H : Heap) (locs : List Loc) (ls : Array Slot), Wd D cI cZ cO cJ t0 A x9 m9 o f σ τ H → Rel σ τ → va_S A s.heap H locs → lv_has ls 7 [(4, .int (nI n)), (0, .ref b), (1, .ref x9), (2, .ref m9), (3, .ref o)] → W p l e R s m args below meth c H locs (cells + 16) (slots + 1000) Q (F0 m 1820 ls [])) : W p l e R s m args below meth c H locs cells slots Q (F0 m 1442 ls []) := by
  have hx := X.1
  have hb := X.2.1
  obtain ⟨r, σ', r', τ', hY, hM, hag, hR9⟩ := hop σ τ hRel 
  refine lv_aload_n hx hb dL_law_1442 rfl (lv_at hl 2 rfl) ?_
  refine l_cls (As := []) (rest := []) X hK hE hAn hW hS yvX8_minute ml_L_169 (fun L ow => hY L ow) rfl hl.1 rfl (Nat.le_of_ble_eq_true rfl) ⟨Nat.le_trans (by decide) hRf.1, Nat.le_trans (by decide) hRf.2⟩ ⟨by have := hc.1; show cells + 0 ≤ _; omega, by have := hc.2; show slots + 0 ≤ _; omega⟩ dL_law_1443 (fun H locs hW hS => ?_)
  refine lv_aload_n hx hb dL_law_1446 rfl (lv_at hl 3 rfl) ?_
  refine l_ref (As := []) (rest := [.int r]) X hK hAn hW hS yvX9_minute ml_L_172 (fun L ow => hM L ow) rfl hl.1 rfl (Nat.le_of_ble_eq_true rfl) ⟨Nat.le_trans (by decide) hRf.1, Nat.le_trans (by decide) hRf.2⟩ ⟨by have := hc.1; show cells + 0 ≤ _; omega, by have := hc.2; show slots + 0 ≤ _; omega⟩ dL_law_1447 (fun H locs hW hS => ?_)
  refine lv_icmp_eq (tgt := 1820) hx hb dL_law_1450 (by decide) (fun _ => ?_) (fun z => absurd hag z)
  refine W.widen (k := cells + 16) (n := slots + 1000) (by omega) (by omega) ?_
  exact kk f _ _ H locs ls hW hR9 hS (lv_sub hl [0, 1, 2, 3, 4] rfl)
set_option maxRecDepth 100000 in
set_option maxHeartbeats 4000000 in
theorem o_warmth (hop : OP_warmth D cI cZ cO t0 mi l Rel) (X : CallFix p m c cL_law 7 s args TB RL) (hK : KJ D cI cZ cO cJ s) (hE : EE t0 mi A s s.heap) (hX9 : EX A s s.heap) (hN : NC s) (hAn : ∀ q, s.heap.size ≤ q → A q) (hXs : va_X b N xs s s.heap) (hbl : b < s.heap.size) (hbA : ¬ A b) (hn : n + 6 ≤ N) (hN2 : N ≤ 3072) (hRel : Rel σ τ) (hW : Wd D cI cZ cO cJ t0 A x9 m9 o f σ τ H) (hS : va_S A s.heap H locs) (hl : lv_has ls 7 [(4, .int (nI n)), (0, .ref b), (1, .ref x9), (2, .ref m9), (3, .ref o)]) (hRf : 16 ≤ R.frames ∧ 632 ≤ R.locals) (hc : cells + 16 ≤ R.cells ∧ slots + 1000 ≤ R.slots)
    (kk : ∀ (f : Nat → Int64) (σ τ : St) (H : Heap) (locs : List Loc) (ls : Array Slot), Wd D cI cZ cO cJ t0 A x9 m9 o f σ τ H → Rel σ τ → va_S A s.heap H locs → lv_has ls 7 [(4, .int (nI n)), (0, .ref b), (1, .ref x9), (2, .ref m9), (3, .ref o)] → W p l e R s m args below meth c H locs (cells + 16) (slots + 1000) Q (F0 m 1820 ls [])) : W p l e R s m args below meth c H locs cells slots Q (F0 m 1455 ls []) := by
  have hx := X.1
  have hb := X.2.1
  obtain ⟨r, σ', r', τ', hY, hM, hag, hR9⟩ := hop σ τ hRel 
  refine lv_aload_n hx hb dL_law_1455 rfl (lv_at hl 2 rfl) ?_
  refine l_cls (As := []) (rest := []) X hK hE hAn hW hS yvX8_warmth ml_L_173 (fun L ow => hY L ow) rfl hl.1 rfl (Nat.le_of_ble_eq_true rfl) ⟨Nat.le_trans (by decide) hRf.1, Nat.le_trans (by decide) hRf.2⟩ ⟨by have := hc.1; show cells + 0 ≤ _; omega, by have := hc.2; show slots + 0 ≤ _; omega⟩ dL_law_1456 (fun H locs hW hS => ?_)
  refine lv_aload_n hx hb dL_law_1459 rfl (lv_at hl 3 rfl) ?_
  refine l_ref (As := []) (rest := [.int r]) X hK hAn hW hS yvX9_warmth ml_L_176 (fun L ow => hM L ow) rfl hl.1 rfl (Nat.le_of_ble_eq_true rfl) ⟨Nat.le_trans (by decide) hRf.1, Nat.le_trans (by decide) hRf.2⟩ ⟨by have := hc.1; show cells + 0 ≤ _; omega, by have := hc.2; show slots + 0 ≤ _; omega⟩ dL_law_1460 (fun H locs hW hS => ?_)
  refine lv_icmp_eq (tgt := 1820) hx hb dL_law_1463 (by decide) (fun _ => ?_) (fun z => absurd hag z)
  refine W.widen (k := cells + 16) (n := slots + 1000) (by omega) (by omega) ?_
  exact kk f _ _ H locs ls hW hR9 hS (lv_sub hl [0, 1, 2, 3, 4] rfl)
set_option maxRecDepth 100000 in
set_option maxHeartbeats 4000000 in
theorem o_ofTool (hop : OP_ofTool D cI cZ cO t0 mi l Rel) (X : CallFix p m c cL_law 7 s args TB RL) (hK : KJ D cI cZ cO cJ s) (hE : EE t0 mi A s s.heap) (hX9 : EX A s s.heap) (hN : NC s) (hAn : ∀ q, s.heap.size ≤ q → A q) (hXs : va_X b N xs s s.heap) (hbl : b < s.heap.size) (hbA : ¬ A b) (hn : n + 6 ≤ N) (hN2 : N ≤ 3072) (hRel : Rel σ τ) (hW : Wd D cI cZ cO cJ t0 A x9 m9 o f σ τ H) (hS : va_S A s.heap H locs) (hl : lv_has ls 7 [(4, .int (nI n)), (0, .ref b), (1, .ref x9), (2, .ref m9), (3, .ref o)]) (hRf : 16 ≤ R.frames ∧ 632 ≤ R.locals) (hc : cells + 16 ≤ R.cells ∧ slots + 1000 ≤ R.slots)
    (kk : ∀ (f : Nat → Int64) (σ τ : St) (H : Heap) (locs : List Loc) (ls : Array Slot), Wd D cI cZ cO cJ t0 A x9 m9 o f σ τ H → Rel σ τ → va_S A s.heap H locs → lv_has ls 7 [(4, .int (nI n)), (0, .ref b), (1, .ref x9), (2, .ref m9), (3, .ref o)] → W p l e R s m args below meth c H locs (cells + 16) (slots + 1000) Q (F0 m 1820 ls [])) : W p l e R s m args below meth c H locs cells slots Q (F0 m 1468 ls []) := by
  have hx := X.1
  have hb := X.2.1
  obtain ⟨e9, r, σ', r', τ', hY, hM, he, hth, hag, hR9⟩ := hop σ τ hRel (xs (n + 1)) (xs (n + 2))
  refine lv_aload_n hx hb dL_law_1468 rfl (lv_at hl 2 rfl) ?_
  refine lv_aload_n hx hb dL_law_1469 rfl (lv_at hl 1 rfl) ?_
  refine lv_iload hx hb dL_law_1470 (lv_at hl 0 rfl) ?_
  refine lv_iconst (v := nI 1) hx hb dL_law_1472 (by decide) ?_
  refine r_addN hx hb dL_law_1473 ?_
  refine pn_sld X hXs hbl hbA hS (k := n + 1) (by omega) (by omega) dL_law_1474 ?_
  refine lv_aload_n hx hb dL_law_1475 rfl (lv_at hl 1 rfl) ?_
  refine lv_iload hx hb dL_law_1476 (lv_at hl 0 rfl) ?_
  refine lv_iconst (v := nI 2) hx hb dL_law_1478 (by decide) ?_
  refine r_addN hx hb dL_law_1479 ?_
  refine pn_sld X hXs hbl hbA hS (k := n + 2) (by omega) (by omega) dL_law_1480 ?_
  refine lv_aload_n hx hb dL_law_1481 rfl (lv_at hl 4 rfl) ?_
  refine l_wrap (As := [.ref x9, .int (xs (n + 1)), .int (xs (n + 2)), .ref o]) (rest := []) X hK hE hX9 hN hAn hW hS yl_ofTool ml_L_177 (fun L ow h => by rw [← h]; exact w_ofTool l L σ ow o ((xs (n + 1))) ((xs (n + 2))) (hY L ow) he) rfl hl.1 rfl (Nat.le_of_ble_eq_true rfl) ⟨Nat.le_trans (by decide) hRf.1, Nat.le_trans (by decide) hRf.2⟩ ⟨by have := hc.1; show cells + 2 ≤ _; omega, by have := hc.2; show slots + 12 ≤ _; omega⟩ dL_law_1482 (fun f H locs hW hf hS => ?_)
  refine lv_istore (lv' := [(5, .int (nI (wk [1, 2] e9))), (4, .int (nI n)), (0, .ref b), (1, .ref x9), (2, .ref m9), (3, .ref o)]) hx hb dL_law_1485 hl (by decide) rfl (fun ls hl => ?_)
  refine lv_aload_n hx hb dL_law_1487 rfl (lv_at hl 4 rfl) ?_
  refine lv_aload_n hx hb dL_law_1488 rfl (lv_at hl 2 rfl) ?_
  refine lv_iload hx hb dL_law_1489 (lv_at hl 1 rfl) ?_
  refine lv_iconst (v := nI 1) hx hb dL_law_1491 (by decide) ?_
  refine r_addN hx hb dL_law_1492 ?_
  refine pn_sld X hXs hbl hbA hS (k := n + 1) (by omega) (by omega) dL_law_1493 ?_
  refine lv_aload_n hx hb dL_law_1494 rfl (lv_at hl 2 rfl) ?_
  refine lv_iload hx hb dL_law_1495 (lv_at hl 1 rfl) ?_
  refine lv_iconst (v := nI 2) hx hb dL_law_1497 (by decide) ?_
  refine r_addN hx hb dL_law_1498 ?_
  refine pn_sld X hXs hbl hbA hS (k := n + 2) (by omega) (by omega) dL_law_1499 ?_
  refine l_ref (As := [.int (xs (n + 1)), .int (xs (n + 2))]) (rest := []) X hK hAn hW hS yvX9_ofTool ml_L_179 (fun L ow => hM L ow) rfl hl.1 rfl (Nat.le_of_ble_eq_true rfl) ⟨Nat.le_trans (by decide) hRf.1, Nat.le_trans (by decide) hRf.2⟩ ⟨by have := hc.1; show cells + 2 ≤ _; omega, by have := hc.2; show slots + 12 ≤ _; omega⟩ dL_law_1500 (fun H locs hW hS => ?_)
  refine lv_istore (lv' := [(6, .int r'), (5, .int (nI (wk [1, 2] e9))), (4, .int (nI n)), (0, .ref b), (1, .ref x9), (2, .ref m9), (3, .ref o)]) hx hb dL_law_1503 hl (by decide) rfl (fun ls hl => ?_)
  refine lv_aload_n hx hb dL_law_1505 rfl (lv_at hl 5 rfl) ?_
  refine l_ref (As := []) (rest := []) X hK hAn hW hS yvX9_thrown ml_L_101 (fun L ow => c_X9_thrown l L τ' ow) rfl hl.1 rfl (Nat.le_of_ble_eq_true rfl) ⟨Nat.le_trans (by decide) hRf.1, Nat.le_trans (by decide) hRf.2⟩ ⟨by have := hc.1; show cells + 2 ≤ _; omega, by have := hc.2; show slots + 12 ≤ _; omega⟩ dL_law_1506 (fun H locs hW hS => ?_)
  refine lv_iload hx hb dL_law_1509 (lv_at hl 1 rfl) ?_
  refine lv_icmp_eq (tgt := 1516) hx hb dL_law_1511 (by decide) (fun _ => ?_) (fun z => absurd hth z)
  refine lv_iload hx hb dL_law_1516 (lv_at hl 1 rfl) ?_
  refine lv_if_ne (tgt := 1533) hx hb dL_law_1518 (by decide) (fun _ => ?_) (fun z0 => ?_)
  · refine lv_goto (tgt := 1820) hx hb dL_law_1533 (by decide) ?_
    refine W.widen (k := cells + 16) (n := slots + 1000) (by omega) (by omega) ?_
    exact kk f _ _ H locs ls hW hR9 hS (lv_sub hl [2, 3, 4, 5, 6] rfl)
  · have h0 : e9 = 0 := by
      rcases he with rfl | rfl | rfl
      · rfl
      · exact absurd z0 (by decide)
      · exact absurd z0 (by decide)
    refine lv_aload_n hx hb dL_law_1521 rfl (lv_at hl 6 rfl) ?_
    refine lv_iconst (v := nI 0) hx hb dL_law_1522 (by decide) ?_
    refine l_lald X hK hW dL_law_1523 ?_
    refine lv_iload hx hb dL_law_1524 (lv_at hl 0 rfl) ?_
    refine lv_i2l (v := r'.toInt64) hx hb dL_law_1526 rfl ?_
    refine l_lcmp hx hb (by rw [hf h0, hag h0]) dL_law_1527 ?_
    refine lv_if_eq (tgt := 1533) hx hb dL_law_1528 (by decide) (fun _ => ?_) (fun z => absurd rfl z)
    refine lv_goto (tgt := 1820) hx hb dL_law_1533 (by decide) ?_
    refine W.widen (k := cells + 16) (n := slots + 1000) (by omega) (by omega) ?_
    exact kk f _ _ H locs ls hW hR9 hS (lv_sub hl [2, 3, 4, 5, 6] rfl)
set_option maxRecDepth 100000 in
set_option maxHeartbeats 4000000 in
theorem o_ofCell (hop : OP_ofCell D cI cZ cO t0 mi l Rel) (X : CallFix p m c cL_law 7 s args TB RL) (hK : KJ D cI cZ cO cJ s) (hE : EE t0 mi A s s.heap) (hX9 : EX A s s.heap) (hN : NC s) (hAn : ∀ q, s.heap.size ≤ q → A q) (hXs : va_X b N xs s s.heap) (hbl : b < s.heap.size) (hbA : ¬ A b) (hn : n + 6 ≤ N) (hN2 : N ≤ 3072) (hRel : Rel σ τ) (hW : Wd D cI cZ cO cJ t0 A x9 m9 o f σ τ H) (hS : va_S A s.heap H locs) (hl : lv_has ls 7 [(4, .int (nI n)), (0, .ref b), (1, .ref x9), (2, .ref m9), (3, .ref o)]) (hRf : 16 ≤ R.frames ∧ 632 ≤ R.locals) (hc : cells + 16 ≤ R.cells ∧ slots + 1000 ≤ R.slots)
    (kk : ∀ (f : Nat → Int64) (σ τ : St) (H : Heap) (locs : List Loc) (ls : Array Slot), Wd D cI cZ cO cJ t0 A x9 m9 o f σ τ H → Rel σ τ → va_S A s.heap H locs → lv_has ls 7 [(4, .int (nI n)), (0, .ref b), (1, .ref x9), (2, .ref m9), (3, .ref o)] → W p l e R s m args below meth c H locs (cells + 16) (slots + 1000) Q (F0 m 1820 ls [])) : W p l e R s m args below meth c H locs cells slots Q (F0 m 1536 ls []) := by
  have hx := X.1
  have hb := X.2.1
  obtain ⟨e9, r, σ', r', τ', hY, hM, he, hth, hag, hR9⟩ := hop σ τ hRel (xs (n + 1)) (xs (n + 2)) (xs (n + 3)) (xs (n + 4))
  refine lv_aload_n hx hb dL_law_1536 rfl (lv_at hl 2 rfl) ?_
  refine lv_aload_n hx hb dL_law_1537 rfl (lv_at hl 1 rfl) ?_
  refine lv_iload hx hb dL_law_1538 (lv_at hl 0 rfl) ?_
  refine lv_iconst (v := nI 1) hx hb dL_law_1540 (by decide) ?_
  refine r_addN hx hb dL_law_1541 ?_
  refine pn_sld X hXs hbl hbA hS (k := n + 1) (by omega) (by omega) dL_law_1542 ?_
  refine lv_aload_n hx hb dL_law_1543 rfl (lv_at hl 1 rfl) ?_
  refine lv_iload hx hb dL_law_1544 (lv_at hl 0 rfl) ?_
  refine lv_iconst (v := nI 2) hx hb dL_law_1546 (by decide) ?_
  refine r_addN hx hb dL_law_1547 ?_
  refine pn_sld X hXs hbl hbA hS (k := n + 2) (by omega) (by omega) dL_law_1548 ?_
  refine lv_aload_n hx hb dL_law_1549 rfl (lv_at hl 1 rfl) ?_
  refine lv_iload hx hb dL_law_1550 (lv_at hl 0 rfl) ?_
  refine lv_iconst (v := nI 3) hx hb dL_law_1552 (by decide) ?_
  refine r_addN hx hb dL_law_1553 ?_
  refine pn_sld X hXs hbl hbA hS (k := n + 3) (by omega) (by omega) dL_law_1554 ?_
  refine lv_aload_n hx hb dL_law_1555 rfl (lv_at hl 1 rfl) ?_
  refine lv_iload hx hb dL_law_1556 (lv_at hl 0 rfl) ?_
  refine lv_iconst (v := nI 4) hx hb dL_law_1558 (by decide) ?_
  refine r_addN hx hb dL_law_1559 ?_
  refine pn_sld X hXs hbl hbA hS (k := n + 4) (by omega) (by omega) dL_law_1560 ?_
  refine lv_aload_n hx hb dL_law_1561 rfl (lv_at hl 4 rfl) ?_
  refine l_wrap (As := [.ref x9, .int (xs (n + 1)), .int (xs (n + 2)), .int (xs (n + 3)), .int (xs (n + 4)), .ref o]) (rest := []) X hK hE hX9 hN hAn hW hS yl_ofCell ml_L_180 (fun L ow h => by rw [← h]; exact w_ofCell l L σ ow o ((xs (n + 1))) ((xs (n + 2))) ((xs (n + 3))) ((xs (n + 4))) (hY L ow) he) rfl hl.1 rfl (Nat.le_of_ble_eq_true rfl) ⟨Nat.le_trans (by decide) hRf.1, Nat.le_trans (by decide) hRf.2⟩ ⟨by have := hc.1; show cells + 3 ≤ _; omega, by have := hc.2; show slots + 18 ≤ _; omega⟩ dL_law_1562 (fun f H locs hW hf hS => ?_)
  refine lv_istore (lv' := [(5, .int (nI (wk [1, 2] e9))), (4, .int (nI n)), (0, .ref b), (1, .ref x9), (2, .ref m9), (3, .ref o)]) hx hb dL_law_1565 hl (by decide) rfl (fun ls hl => ?_)
  refine lv_aload_n hx hb dL_law_1567 rfl (lv_at hl 4 rfl) ?_
  refine lv_aload_n hx hb dL_law_1568 rfl (lv_at hl 2 rfl) ?_
  refine lv_iload hx hb dL_law_1569 (lv_at hl 1 rfl) ?_
  refine lv_iconst (v := nI 1) hx hb dL_law_1571 (by decide) ?_
  refine r_addN hx hb dL_law_1572 ?_
  refine pn_sld X hXs hbl hbA hS (k := n + 1) (by omega) (by omega) dL_law_1573 ?_
  refine lv_aload_n hx hb dL_law_1574 rfl (lv_at hl 2 rfl) ?_
  refine lv_iload hx hb dL_law_1575 (lv_at hl 1 rfl) ?_
  refine lv_iconst (v := nI 2) hx hb dL_law_1577 (by decide) ?_
  refine r_addN hx hb dL_law_1578 ?_
  refine pn_sld X hXs hbl hbA hS (k := n + 2) (by omega) (by omega) dL_law_1579 ?_
  refine lv_aload_n hx hb dL_law_1580 rfl (lv_at hl 2 rfl) ?_
  refine lv_iload hx hb dL_law_1581 (lv_at hl 1 rfl) ?_
  refine lv_iconst (v := nI 3) hx hb dL_law_1583 (by decide) ?_
  refine r_addN hx hb dL_law_1584 ?_
  refine pn_sld X hXs hbl hbA hS (k := n + 3) (by omega) (by omega) dL_law_1585 ?_
  refine lv_aload_n hx hb dL_law_1586 rfl (lv_at hl 2 rfl) ?_
  refine lv_iload hx hb dL_law_1587 (lv_at hl 1 rfl) ?_
  refine lv_iconst (v := nI 4) hx hb dL_law_1589 (by decide) ?_
  refine r_addN hx hb dL_law_1590 ?_
  refine pn_sld X hXs hbl hbA hS (k := n + 4) (by omega) (by omega) dL_law_1591 ?_
  refine l_ref (As := [.int (xs (n + 1)), .int (xs (n + 2)), .int (xs (n + 3)), .int (xs (n + 4))]) (rest := []) X hK hAn hW hS yvX9_ofCell ml_L_182 (fun L ow => hM L ow) rfl hl.1 rfl (Nat.le_of_ble_eq_true rfl) ⟨Nat.le_trans (by decide) hRf.1, Nat.le_trans (by decide) hRf.2⟩ ⟨by have := hc.1; show cells + 3 ≤ _; omega, by have := hc.2; show slots + 18 ≤ _; omega⟩ dL_law_1592 (fun H locs hW hS => ?_)
  refine lv_istore (lv' := [(6, .int r'), (5, .int (nI (wk [1, 2] e9))), (4, .int (nI n)), (0, .ref b), (1, .ref x9), (2, .ref m9), (3, .ref o)]) hx hb dL_law_1595 hl (by decide) rfl (fun ls hl => ?_)
  refine lv_aload_n hx hb dL_law_1597 rfl (lv_at hl 5 rfl) ?_
  refine l_ref (As := []) (rest := []) X hK hAn hW hS yvX9_thrown ml_L_101 (fun L ow => c_X9_thrown l L τ' ow) rfl hl.1 rfl (Nat.le_of_ble_eq_true rfl) ⟨Nat.le_trans (by decide) hRf.1, Nat.le_trans (by decide) hRf.2⟩ ⟨by have := hc.1; show cells + 3 ≤ _; omega, by have := hc.2; show slots + 18 ≤ _; omega⟩ dL_law_1598 (fun H locs hW hS => ?_)
  refine lv_iload hx hb dL_law_1601 (lv_at hl 1 rfl) ?_
  refine lv_icmp_eq (tgt := 1608) hx hb dL_law_1603 (by decide) (fun _ => ?_) (fun z => absurd hth z)
  refine lv_iload hx hb dL_law_1608 (lv_at hl 1 rfl) ?_
  refine lv_if_ne (tgt := 1625) hx hb dL_law_1610 (by decide) (fun _ => ?_) (fun z0 => ?_)
  · refine lv_goto (tgt := 1820) hx hb dL_law_1625 (by decide) ?_
    refine W.widen (k := cells + 16) (n := slots + 1000) (by omega) (by omega) ?_
    exact kk f _ _ H locs ls hW hR9 hS (lv_sub hl [2, 3, 4, 5, 6] rfl)
  · have h0 : e9 = 0 := by
      rcases he with rfl | rfl | rfl
      · rfl
      · exact absurd z0 (by decide)
      · exact absurd z0 (by decide)
    refine lv_aload_n hx hb dL_law_1613 rfl (lv_at hl 6 rfl) ?_
    refine lv_iconst (v := nI 0) hx hb dL_law_1614 (by decide) ?_
    refine l_lald X hK hW dL_law_1615 ?_
    refine lv_iload hx hb dL_law_1616 (lv_at hl 0 rfl) ?_
    refine lv_i2l (v := r'.toInt64) hx hb dL_law_1618 rfl ?_
    refine l_lcmp hx hb (by rw [hf h0, hag h0]) dL_law_1619 ?_
    refine lv_if_eq (tgt := 1625) hx hb dL_law_1620 (by decide) (fun _ => ?_) (fun z => absurd rfl z)
    refine lv_goto (tgt := 1820) hx hb dL_law_1625 (by decide) ?_
    refine W.widen (k := cells + 16) (n := slots + 1000) (by omega) (by omega) ?_
    exact kk f _ _ H locs ls hW hR9 hS (lv_sub hl [2, 3, 4, 5, 6] rfl)
set_option maxRecDepth 100000 in
set_option maxHeartbeats 4000000 in
theorem o_ofPallet (hop : OP_ofPallet D cI cZ cO t0 mi l Rel) (X : CallFix p m c cL_law 7 s args TB RL) (hK : KJ D cI cZ cO cJ s) (hE : EE t0 mi A s s.heap) (hX9 : EX A s s.heap) (hN : NC s) (hAn : ∀ q, s.heap.size ≤ q → A q) (hXs : va_X b N xs s s.heap) (hbl : b < s.heap.size) (hbA : ¬ A b) (hn : n + 6 ≤ N) (hN2 : N ≤ 3072) (hRel : Rel σ τ) (hW : Wd D cI cZ cO cJ t0 A x9 m9 o f σ τ H) (hS : va_S A s.heap H locs) (hl : lv_has ls 7 [(4, .int (nI n)), (0, .ref b), (1, .ref x9), (2, .ref m9), (3, .ref o)]) (hRf : 16 ≤ R.frames ∧ 632 ≤ R.locals) (hc : cells + 16 ≤ R.cells ∧ slots + 1000 ≤ R.slots)
    (kk : ∀ (f : Nat → Int64) (σ τ : St) (H : Heap) (locs : List Loc) (ls : Array Slot), Wd D cI cZ cO cJ t0 A x9 m9 o f σ τ H → Rel σ τ → va_S A s.heap H locs → lv_has ls 7 [(4, .int (nI n)), (0, .ref b), (1, .ref x9), (2, .ref m9), (3, .ref o)] → W p l e R s m args below meth c H locs (cells + 16) (slots + 1000) Q (F0 m 1820 ls [])) : W p l e R s m args below meth c H locs cells slots Q (F0 m 1628 ls []) := by
  have hx := X.1
  have hb := X.2.1
  obtain ⟨e9, r, σ', r', τ', hY, hM, he, hth, hag, hR9⟩ := hop σ τ hRel (xs (n + 1)) (xs (n + 2))
  refine lv_aload_n hx hb dL_law_1628 rfl (lv_at hl 2 rfl) ?_
  refine lv_aload_n hx hb dL_law_1629 rfl (lv_at hl 1 rfl) ?_
  refine lv_iload hx hb dL_law_1630 (lv_at hl 0 rfl) ?_
  refine lv_iconst (v := nI 1) hx hb dL_law_1632 (by decide) ?_
  refine r_addN hx hb dL_law_1633 ?_
  refine pn_sld X hXs hbl hbA hS (k := n + 1) (by omega) (by omega) dL_law_1634 ?_
  refine lv_aload_n hx hb dL_law_1635 rfl (lv_at hl 1 rfl) ?_
  refine lv_iload hx hb dL_law_1636 (lv_at hl 0 rfl) ?_
  refine lv_iconst (v := nI 2) hx hb dL_law_1638 (by decide) ?_
  refine r_addN hx hb dL_law_1639 ?_
  refine pn_sld X hXs hbl hbA hS (k := n + 2) (by omega) (by omega) dL_law_1640 ?_
  refine lv_aload_n hx hb dL_law_1641 rfl (lv_at hl 4 rfl) ?_
  refine l_wrap (As := [.ref x9, .int (xs (n + 1)), .int (xs (n + 2)), .ref o]) (rest := []) X hK hE hX9 hN hAn hW hS yl_ofPallet ml_L_183 (fun L ow h => by rw [← h]; exact w_ofPallet l L σ ow o ((xs (n + 1))) ((xs (n + 2))) (hY L ow) he) rfl hl.1 rfl (Nat.le_of_ble_eq_true rfl) ⟨Nat.le_trans (by decide) hRf.1, Nat.le_trans (by decide) hRf.2⟩ ⟨by have := hc.1; show cells + 2 ≤ _; omega, by have := hc.2; show slots + 12 ≤ _; omega⟩ dL_law_1642 (fun f H locs hW hf hS => ?_)
  refine lv_istore (lv' := [(5, .int (nI (wk [1, 2] e9))), (4, .int (nI n)), (0, .ref b), (1, .ref x9), (2, .ref m9), (3, .ref o)]) hx hb dL_law_1645 hl (by decide) rfl (fun ls hl => ?_)
  refine lv_aload_n hx hb dL_law_1647 rfl (lv_at hl 4 rfl) ?_
  refine lv_aload_n hx hb dL_law_1648 rfl (lv_at hl 2 rfl) ?_
  refine lv_iload hx hb dL_law_1649 (lv_at hl 1 rfl) ?_
  refine lv_iconst (v := nI 1) hx hb dL_law_1651 (by decide) ?_
  refine r_addN hx hb dL_law_1652 ?_
  refine pn_sld X hXs hbl hbA hS (k := n + 1) (by omega) (by omega) dL_law_1653 ?_
  refine lv_aload_n hx hb dL_law_1654 rfl (lv_at hl 2 rfl) ?_
  refine lv_iload hx hb dL_law_1655 (lv_at hl 1 rfl) ?_
  refine lv_iconst (v := nI 2) hx hb dL_law_1657 (by decide) ?_
  refine r_addN hx hb dL_law_1658 ?_
  refine pn_sld X hXs hbl hbA hS (k := n + 2) (by omega) (by omega) dL_law_1659 ?_
  refine l_ref (As := [.int (xs (n + 1)), .int (xs (n + 2))]) (rest := []) X hK hAn hW hS yvX9_ofPallet ml_L_185 (fun L ow => hM L ow) rfl hl.1 rfl (Nat.le_of_ble_eq_true rfl) ⟨Nat.le_trans (by decide) hRf.1, Nat.le_trans (by decide) hRf.2⟩ ⟨by have := hc.1; show cells + 2 ≤ _; omega, by have := hc.2; show slots + 12 ≤ _; omega⟩ dL_law_1660 (fun H locs hW hS => ?_)
  refine lv_istore (lv' := [(6, .int r'), (5, .int (nI (wk [1, 2] e9))), (4, .int (nI n)), (0, .ref b), (1, .ref x9), (2, .ref m9), (3, .ref o)]) hx hb dL_law_1663 hl (by decide) rfl (fun ls hl => ?_)
  refine lv_aload_n hx hb dL_law_1665 rfl (lv_at hl 5 rfl) ?_
  refine l_ref (As := []) (rest := []) X hK hAn hW hS yvX9_thrown ml_L_101 (fun L ow => c_X9_thrown l L τ' ow) rfl hl.1 rfl (Nat.le_of_ble_eq_true rfl) ⟨Nat.le_trans (by decide) hRf.1, Nat.le_trans (by decide) hRf.2⟩ ⟨by have := hc.1; show cells + 2 ≤ _; omega, by have := hc.2; show slots + 12 ≤ _; omega⟩ dL_law_1666 (fun H locs hW hS => ?_)
  refine lv_iload hx hb dL_law_1669 (lv_at hl 1 rfl) ?_
  refine lv_icmp_eq (tgt := 1676) hx hb dL_law_1671 (by decide) (fun _ => ?_) (fun z => absurd hth z)
  refine lv_iload hx hb dL_law_1676 (lv_at hl 1 rfl) ?_
  refine lv_if_ne (tgt := 1693) hx hb dL_law_1678 (by decide) (fun _ => ?_) (fun z0 => ?_)
  · refine lv_goto (tgt := 1820) hx hb dL_law_1693 (by decide) ?_
    refine W.widen (k := cells + 16) (n := slots + 1000) (by omega) (by omega) ?_
    exact kk f _ _ H locs ls hW hR9 hS (lv_sub hl [2, 3, 4, 5, 6] rfl)
  · have h0 : e9 = 0 := by
      rcases he with rfl | rfl | rfl
      · rfl
      · exact absurd z0 (by decide)
      · exact absurd z0 (by decide)
    refine lv_aload_n hx hb dL_law_1681 rfl (lv_at hl 6 rfl) ?_
    refine lv_iconst (v := nI 0) hx hb dL_law_1682 (by decide) ?_
    refine l_lald X hK hW dL_law_1683 ?_
    refine lv_iload hx hb dL_law_1684 (lv_at hl 0 rfl) ?_
    refine lv_i2l (v := r'.toInt64) hx hb dL_law_1686 rfl ?_
    refine l_lcmp hx hb (by rw [hf h0, hag h0]) dL_law_1687 ?_
    refine lv_if_eq (tgt := 1693) hx hb dL_law_1688 (by decide) (fun _ => ?_) (fun z => absurd rfl z)
    refine lv_goto (tgt := 1820) hx hb dL_law_1693 (by decide) ?_
    refine W.widen (k := cells + 16) (n := slots + 1000) (by omega) (by omega) ?_
    exact kk f _ _ H locs ls hW hR9 hS (lv_sub hl [2, 3, 4, 5, 6] rfl)
set_option maxRecDepth 100000 in
set_option maxHeartbeats 4000000 in
theorem o_ofPaper (hop : OP_ofPaper D cI cZ cO t0 mi l Rel) (X : CallFix p m c cL_law 7 s args TB RL) (hK : KJ D cI cZ cO cJ s) (hE : EE t0 mi A s s.heap) (hX9 : EX A s s.heap) (hN : NC s) (hAn : ∀ q, s.heap.size ≤ q → A q) (hXs : va_X b N xs s s.heap) (hbl : b < s.heap.size) (hbA : ¬ A b) (hn : n + 6 ≤ N) (hN2 : N ≤ 3072) (hRel : Rel σ τ) (hW : Wd D cI cZ cO cJ t0 A x9 m9 o f σ τ H) (hS : va_S A s.heap H locs) (hl : lv_has ls 7 [(4, .int (nI n)), (0, .ref b), (1, .ref x9), (2, .ref m9), (3, .ref o)]) (hRf : 16 ≤ R.frames ∧ 632 ≤ R.locals) (hc : cells + 16 ≤ R.cells ∧ slots + 1000 ≤ R.slots)
    (kk : ∀ (f : Nat → Int64) (σ τ : St) (H : Heap) (locs : List Loc) (ls : Array Slot), Wd D cI cZ cO cJ t0 A x9 m9 o f σ τ H → Rel σ τ → va_S A s.heap H locs → lv_has ls 7 [(4, .int (nI n)), (0, .ref b), (1, .ref x9), (2, .ref m9), (3, .ref o)] → W p l e R s m args below meth c H locs (cells + 16) (slots + 1000) Q (F0 m 1820 ls [])) : W p l e R s m args below meth c H locs cells slots Q (F0 m 1696 ls []) := by
  have hx := X.1
  have hb := X.2.1
  obtain ⟨e9, r, σ', r', τ', hY, hM, he, hth, hag, hR9⟩ := hop σ τ hRel (xs (n + 1)) (xs (n + 2))
  refine lv_aload_n hx hb dL_law_1696 rfl (lv_at hl 2 rfl) ?_
  refine lv_aload_n hx hb dL_law_1697 rfl (lv_at hl 1 rfl) ?_
  refine lv_iload hx hb dL_law_1698 (lv_at hl 0 rfl) ?_
  refine lv_iconst (v := nI 1) hx hb dL_law_1700 (by decide) ?_
  refine r_addN hx hb dL_law_1701 ?_
  refine pn_sld X hXs hbl hbA hS (k := n + 1) (by omega) (by omega) dL_law_1702 ?_
  refine lv_aload_n hx hb dL_law_1703 rfl (lv_at hl 1 rfl) ?_
  refine lv_iload hx hb dL_law_1704 (lv_at hl 0 rfl) ?_
  refine lv_iconst (v := nI 2) hx hb dL_law_1706 (by decide) ?_
  refine r_addN hx hb dL_law_1707 ?_
  refine pn_sld X hXs hbl hbA hS (k := n + 2) (by omega) (by omega) dL_law_1708 ?_
  refine lv_aload_n hx hb dL_law_1709 rfl (lv_at hl 4 rfl) ?_
  refine l_wrap (As := [.ref x9, .int (xs (n + 1)), .int (xs (n + 2)), .ref o]) (rest := []) X hK hE hX9 hN hAn hW hS yl_ofPaper ml_L_186 (fun L ow h => by rw [← h]; exact w_ofPaper l L σ ow o ((xs (n + 1))) ((xs (n + 2))) (hY L ow) he) rfl hl.1 rfl (Nat.le_of_ble_eq_true rfl) ⟨Nat.le_trans (by decide) hRf.1, Nat.le_trans (by decide) hRf.2⟩ ⟨by have := hc.1; show cells + 2 ≤ _; omega, by have := hc.2; show slots + 12 ≤ _; omega⟩ dL_law_1710 (fun f H locs hW hf hS => ?_)
  refine lv_istore (lv' := [(5, .int (nI (wk [1, 2] e9))), (4, .int (nI n)), (0, .ref b), (1, .ref x9), (2, .ref m9), (3, .ref o)]) hx hb dL_law_1713 hl (by decide) rfl (fun ls hl => ?_)
  refine lv_aload_n hx hb dL_law_1715 rfl (lv_at hl 4 rfl) ?_
  refine lv_aload_n hx hb dL_law_1716 rfl (lv_at hl 2 rfl) ?_
  refine lv_iload hx hb dL_law_1717 (lv_at hl 1 rfl) ?_
  refine lv_iconst (v := nI 1) hx hb dL_law_1719 (by decide) ?_
  refine r_addN hx hb dL_law_1720 ?_
  refine pn_sld X hXs hbl hbA hS (k := n + 1) (by omega) (by omega) dL_law_1721 ?_
  refine lv_aload_n hx hb dL_law_1722 rfl (lv_at hl 2 rfl) ?_
  refine lv_iload hx hb dL_law_1723 (lv_at hl 1 rfl) ?_
  refine lv_iconst (v := nI 2) hx hb dL_law_1725 (by decide) ?_
  refine r_addN hx hb dL_law_1726 ?_
  refine pn_sld X hXs hbl hbA hS (k := n + 2) (by omega) (by omega) dL_law_1727 ?_
  refine l_ref (As := [.int (xs (n + 1)), .int (xs (n + 2))]) (rest := []) X hK hAn hW hS yvX9_ofPaper ml_L_188 (fun L ow => hM L ow) rfl hl.1 rfl (Nat.le_of_ble_eq_true rfl) ⟨Nat.le_trans (by decide) hRf.1, Nat.le_trans (by decide) hRf.2⟩ ⟨by have := hc.1; show cells + 2 ≤ _; omega, by have := hc.2; show slots + 12 ≤ _; omega⟩ dL_law_1728 (fun H locs hW hS => ?_)
  refine lv_istore (lv' := [(6, .int r'), (5, .int (nI (wk [1, 2] e9))), (4, .int (nI n)), (0, .ref b), (1, .ref x9), (2, .ref m9), (3, .ref o)]) hx hb dL_law_1731 hl (by decide) rfl (fun ls hl => ?_)
  refine lv_aload_n hx hb dL_law_1733 rfl (lv_at hl 5 rfl) ?_
  refine l_ref (As := []) (rest := []) X hK hAn hW hS yvX9_thrown ml_L_101 (fun L ow => c_X9_thrown l L τ' ow) rfl hl.1 rfl (Nat.le_of_ble_eq_true rfl) ⟨Nat.le_trans (by decide) hRf.1, Nat.le_trans (by decide) hRf.2⟩ ⟨by have := hc.1; show cells + 2 ≤ _; omega, by have := hc.2; show slots + 12 ≤ _; omega⟩ dL_law_1734 (fun H locs hW hS => ?_)
  refine lv_iload hx hb dL_law_1737 (lv_at hl 1 rfl) ?_
  refine lv_icmp_eq (tgt := 1744) hx hb dL_law_1739 (by decide) (fun _ => ?_) (fun z => absurd hth z)
  refine lv_iload hx hb dL_law_1744 (lv_at hl 1 rfl) ?_
  refine lv_if_ne (tgt := 1761) hx hb dL_law_1746 (by decide) (fun _ => ?_) (fun z0 => ?_)
  · refine lv_goto (tgt := 1820) hx hb dL_law_1761 (by decide) ?_
    refine W.widen (k := cells + 16) (n := slots + 1000) (by omega) (by omega) ?_
    exact kk f _ _ H locs ls hW hR9 hS (lv_sub hl [2, 3, 4, 5, 6] rfl)
  · have h0 : e9 = 0 := by
      rcases he with rfl | rfl | rfl
      · rfl
      · exact absurd z0 (by decide)
      · exact absurd z0 (by decide)
    refine lv_aload_n hx hb dL_law_1749 rfl (lv_at hl 6 rfl) ?_
    refine lv_iconst (v := nI 0) hx hb dL_law_1750 (by decide) ?_
    refine l_lald X hK hW dL_law_1751 ?_
    refine lv_iload hx hb dL_law_1752 (lv_at hl 0 rfl) ?_
    refine lv_i2l (v := r'.toInt64) hx hb dL_law_1754 rfl ?_
    refine l_lcmp hx hb (by rw [hf h0, hag h0]) dL_law_1755 ?_
    refine lv_if_eq (tgt := 1761) hx hb dL_law_1756 (by decide) (fun _ => ?_) (fun z => absurd rfl z)
    refine lv_goto (tgt := 1820) hx hb dL_law_1761 (by decide) ?_
    refine W.widen (k := cells + 16) (n := slots + 1000) (by omega) (by omega) ?_
    exact kk f _ _ H locs ls hW hR9 hS (lv_sub hl [2, 3, 4, 5, 6] rfl)
set_option maxRecDepth 100000 in
set_option maxHeartbeats 4000000 in
theorem o_judgeAnew (hop : OP_judgeAnew D cI cZ cO t0 mi l Rel) (X : CallFix p m c cL_law 7 s args TB RL) (hK : KJ D cI cZ cO cJ s) (hE : EE t0 mi A s s.heap) (hX9 : EX A s s.heap) (hN : NC s) (hAn : ∀ q, s.heap.size ≤ q → A q) (hXs : va_X b N xs s s.heap) (hbl : b < s.heap.size) (hbA : ¬ A b) (hn : n + 6 ≤ N) (hN2 : N ≤ 3072) (hRel : Rel σ τ) (hW : Wd D cI cZ cO cJ t0 A x9 m9 o f σ τ H) (hS : va_S A s.heap H locs) (hl : lv_has ls 7 [(4, .int (nI n)), (0, .ref b), (1, .ref x9), (2, .ref m9), (3, .ref o)]) (hRf : 16 ≤ R.frames ∧ 632 ≤ R.locals) (hc : cells + 16 ≤ R.cells ∧ slots + 1000 ≤ R.slots)
    (kk : ∀ (f : Nat → Int64) (σ τ : St) (H : Heap) (locs : List Loc) (ls : Array Slot), Wd D cI cZ cO cJ t0 A x9 m9 o f σ τ H → Rel σ τ → va_S A s.heap H locs → lv_has ls 7 [(4, .int (nI n)), (0, .ref b), (1, .ref x9), (2, .ref m9), (3, .ref o)] → W p l e R s m args below meth c H locs (cells + 16) (slots + 1000) Q (F0 m 1820 ls [])) : W p l e R s m args below meth c H locs cells slots Q (F0 m 1764 ls []) := by
  have hx := X.1
  have hb := X.2.1
  obtain ⟨e9, r, σ', r', τ', hY, hM, he, hth, hag, hR9⟩ := hop σ τ hRel (xs (n + 1))
  refine lv_aload_n hx hb dL_law_1764 rfl (lv_at hl 2 rfl) ?_
  refine lv_aload_n hx hb dL_law_1765 rfl (lv_at hl 1 rfl) ?_
  refine lv_iload hx hb dL_law_1766 (lv_at hl 0 rfl) ?_
  refine lv_iconst (v := nI 1) hx hb dL_law_1768 (by decide) ?_
  refine r_addN hx hb dL_law_1769 ?_
  refine pn_sld X hXs hbl hbA hS (k := n + 1) (by omega) (by omega) dL_law_1770 ?_
  refine lv_aload_n hx hb dL_law_1771 rfl (lv_at hl 4 rfl) ?_
  refine l_wrap (As := [.ref x9, .int (xs (n + 1)), .ref o]) (rest := []) X hK hE hX9 hN hAn hW hS yl_judgeAnew ml_L_189 (fun L ow h => by rw [← h]; exact w_judgeAnew l L σ ow o ((xs (n + 1))) (hY L ow) he) rfl hl.1 rfl (Nat.le_of_ble_eq_true rfl) ⟨Nat.le_trans (by decide) hRf.1, Nat.le_trans (by decide) hRf.2⟩ ⟨by have := hc.1; show cells + 1 ≤ _; omega, by have := hc.2; show slots + 6 ≤ _; omega⟩ dL_law_1772 (fun f H locs hW hf hS => ?_)
  refine lv_istore (lv' := [(5, .int (nI (wk [1] e9))), (4, .int (nI n)), (0, .ref b), (1, .ref x9), (2, .ref m9), (3, .ref o)]) hx hb dL_law_1775 hl (by decide) rfl (fun ls hl => ?_)
  refine lv_aload_n hx hb dL_law_1777 rfl (lv_at hl 4 rfl) ?_
  refine lv_aload_n hx hb dL_law_1778 rfl (lv_at hl 2 rfl) ?_
  refine lv_iload hx hb dL_law_1779 (lv_at hl 1 rfl) ?_
  refine lv_iconst (v := nI 1) hx hb dL_law_1781 (by decide) ?_
  refine r_addN hx hb dL_law_1782 ?_
  refine pn_sld X hXs hbl hbA hS (k := n + 1) (by omega) (by omega) dL_law_1783 ?_
  refine l_ref (As := [.int (xs (n + 1))]) (rest := []) X hK hAn hW hS yvX9_judgeAnew ml_L_191 (fun L ow => hM L ow) rfl hl.1 rfl (Nat.le_of_ble_eq_true rfl) ⟨Nat.le_trans (by decide) hRf.1, Nat.le_trans (by decide) hRf.2⟩ ⟨by have := hc.1; show cells + 1 ≤ _; omega, by have := hc.2; show slots + 6 ≤ _; omega⟩ dL_law_1784 (fun H locs hW hS => ?_)
  refine lv_istore (lv' := [(6, .int r'), (5, .int (nI (wk [1] e9))), (4, .int (nI n)), (0, .ref b), (1, .ref x9), (2, .ref m9), (3, .ref o)]) hx hb dL_law_1787 hl (by decide) rfl (fun ls hl => ?_)
  refine lv_aload_n hx hb dL_law_1789 rfl (lv_at hl 5 rfl) ?_
  refine l_ref (As := []) (rest := []) X hK hAn hW hS yvX9_thrown ml_L_101 (fun L ow => c_X9_thrown l L τ' ow) rfl hl.1 rfl (Nat.le_of_ble_eq_true rfl) ⟨Nat.le_trans (by decide) hRf.1, Nat.le_trans (by decide) hRf.2⟩ ⟨by have := hc.1; show cells + 1 ≤ _; omega, by have := hc.2; show slots + 6 ≤ _; omega⟩ dL_law_1790 (fun H locs hW hS => ?_)
  refine lv_iload hx hb dL_law_1793 (lv_at hl 1 rfl) ?_
  refine lv_icmp_eq (tgt := 1800) hx hb dL_law_1795 (by decide) (fun _ => ?_) (fun z => absurd hth z)
  refine lv_iload hx hb dL_law_1800 (lv_at hl 1 rfl) ?_
  refine lv_if_ne (tgt := 1817) hx hb dL_law_1802 (by decide) (fun _ => ?_) (fun z0 => ?_)
  · refine lv_goto (tgt := 1820) hx hb dL_law_1817 (by decide) ?_
    refine W.widen (k := cells + 16) (n := slots + 1000) (by omega) (by omega) ?_
    exact kk f _ _ H locs ls hW hR9 hS (lv_sub hl [2, 3, 4, 5, 6] rfl)
  · have h0 : e9 = 0 := by
      rcases he with rfl | rfl
      · rfl
      · exact absurd z0 (by decide)
    refine lv_aload_n hx hb dL_law_1805 rfl (lv_at hl 6 rfl) ?_
    refine lv_iconst (v := nI 0) hx hb dL_law_1806 (by decide) ?_
    refine l_lald X hK hW dL_law_1807 ?_
    refine lv_iload hx hb dL_law_1808 (lv_at hl 0 rfl) ?_
    refine lv_i2l (v := r'.toInt64) hx hb dL_law_1810 rfl ?_
    refine l_lcmp hx hb (by rw [hf h0, hag h0]) dL_law_1811 ?_
    refine lv_if_eq (tgt := 1817) hx hb dL_law_1812 (by decide) (fun _ => ?_) (fun z => absurd rfl z)
    refine lv_goto (tgt := 1820) hx hb dL_law_1817 (by decide) ?_
    refine W.widen (k := cells + 16) (n := slots + 1000) (by omega) (by omega) ?_
    exact kk f _ _ H locs ls hW hR9 hS (lv_sub hl [2, 3, 4, 5, 6] rfl)
end CASEs
