/-! THE LAW'S LOOP -/
def OPS (D : va_G) (cI cZ cO : ClassId) (t0 mi : Nat) (l : Launch) (Rel : St → St → Prop) : Prop := OP_program D cI cZ cO t0 mi l Rel ∧ OP_block D cI cZ cO t0 mi l Rel ∧ OP_map D cI cZ cO t0 mi l Rel ∧ OP_tool D cI cZ cO t0 mi l Rel ∧ OP_load D cI cZ cO t0 mi l Rel ∧ OP_pallet D cI cZ cO t0 mi l Rel ∧ OP_clamp D cI cZ cO t0 mi l Rel ∧ OP_prove D cI cZ cO t0 mi l Rel ∧ OP_takes D cI cZ cO t0 mi l Rel ∧ OP_plan D cI cZ cO t0 mi l Rel ∧ OP_night D cI cZ cO t0 mi l Rel ∧ OP_foresees D cI cZ cO t0 mi l Rel ∧ OP_lacks D cI cZ cO t0 mi l Rel ∧ OP_idle D cI cZ cO t0 mi l Rel ∧ OP_calibrate D cI cZ cO t0 mi l Rel ∧ OP_drawing D cI cZ cO t0 mi l Rel ∧ OP_feature D cI cZ cO t0 mi l Rel ∧ OP_allow D cI cZ cO t0 mi l Rel ∧ OP_judge D cI cZ cO t0 mi l Rel ∧ OP_correct D cI cZ cO t0 mi l Rel ∧ OP_minute D cI cZ cO t0 mi l Rel ∧ OP_warmth D cI cZ cO t0 mi l Rel ∧ OP_ofTool D cI cZ cO t0 mi l Rel ∧ OP_ofCell D cI cZ cO t0 mi l Rel ∧ OP_ofPallet D cI cZ cO t0 mi l Rel ∧ OP_ofPaper D cI cZ cO t0 mi l Rel ∧ OP_judgeAnew D cI cZ cO t0 mi l Rel
theorem t31_0 : ¬ (nI 0).toInt < 0 ∧ ¬ 26 < (nI 0).toInt ∧ (#[124, 168, 248, 316, 384, 468, 524, 616, 684, 752, 820, 833, 846, 902, 958, 1026, 1070, 1174, 1266, 1346, 1402, 1415, 1428, 1496, 1588, 1656, 1724] : Array Int)[((nI 0).toInt - 0).toNat]? = some 124 := by decide +kernel
theorem t31_1 : ¬ (nI 1).toInt < 0 ∧ ¬ 26 < (nI 1).toInt ∧ (#[124, 168, 248, 316, 384, 468, 524, 616, 684, 752, 820, 833, 846, 902, 958, 1026, 1070, 1174, 1266, 1346, 1402, 1415, 1428, 1496, 1588, 1656, 1724] : Array Int)[((nI 1).toInt - 0).toNat]? = some 168 := by decide +kernel
theorem t31_2 : ¬ (nI 2).toInt < 0 ∧ ¬ 26 < (nI 2).toInt ∧ (#[124, 168, 248, 316, 384, 468, 524, 616, 684, 752, 820, 833, 846, 902, 958, 1026, 1070, 1174, 1266, 1346, 1402, 1415, 1428, 1496, 1588, 1656, 1724] : Array Int)[((nI 2).toInt - 0).toNat]? = some 248 := by decide +kernel
theorem t31_3 : ¬ (nI 3).toInt < 0 ∧ ¬ 26 < (nI 3).toInt ∧ (#[124, 168, 248, 316, 384, 468, 524, 616, 684, 752, 820, 833, 846, 902, 958, 1026, 1070, 1174, 1266, 1346, 1402, 1415, 1428, 1496, 1588, 1656, 1724] : Array Int)[((nI 3).toInt - 0).toNat]? = some 316 := by decide +kernel
theorem t31_4 : ¬ (nI 4).toInt < 0 ∧ ¬ 26 < (nI 4).toInt ∧ (#[124, 168, 248, 316, 384, 468, 524, 616, 684, 752, 820, 833, 846, 902, 958, 1026, 1070, 1174, 1266, 1346, 1402, 1415, 1428, 1496, 1588, 1656, 1724] : Array Int)[((nI 4).toInt - 0).toNat]? = some 384 := by decide +kernel
theorem t31_5 : ¬ (nI 5).toInt < 0 ∧ ¬ 26 < (nI 5).toInt ∧ (#[124, 168, 248, 316, 384, 468, 524, 616, 684, 752, 820, 833, 846, 902, 958, 1026, 1070, 1174, 1266, 1346, 1402, 1415, 1428, 1496, 1588, 1656, 1724] : Array Int)[((nI 5).toInt - 0).toNat]? = some 468 := by decide +kernel
theorem t31_6 : ¬ (nI 6).toInt < 0 ∧ ¬ 26 < (nI 6).toInt ∧ (#[124, 168, 248, 316, 384, 468, 524, 616, 684, 752, 820, 833, 846, 902, 958, 1026, 1070, 1174, 1266, 1346, 1402, 1415, 1428, 1496, 1588, 1656, 1724] : Array Int)[((nI 6).toInt - 0).toNat]? = some 524 := by decide +kernel
theorem t31_7 : ¬ (nI 7).toInt < 0 ∧ ¬ 26 < (nI 7).toInt ∧ (#[124, 168, 248, 316, 384, 468, 524, 616, 684, 752, 820, 833, 846, 902, 958, 1026, 1070, 1174, 1266, 1346, 1402, 1415, 1428, 1496, 1588, 1656, 1724] : Array Int)[((nI 7).toInt - 0).toNat]? = some 616 := by decide +kernel
theorem t31_8 : ¬ (nI 8).toInt < 0 ∧ ¬ 26 < (nI 8).toInt ∧ (#[124, 168, 248, 316, 384, 468, 524, 616, 684, 752, 820, 833, 846, 902, 958, 1026, 1070, 1174, 1266, 1346, 1402, 1415, 1428, 1496, 1588, 1656, 1724] : Array Int)[((nI 8).toInt - 0).toNat]? = some 684 := by decide +kernel
theorem t31_9 : ¬ (nI 9).toInt < 0 ∧ ¬ 26 < (nI 9).toInt ∧ (#[124, 168, 248, 316, 384, 468, 524, 616, 684, 752, 820, 833, 846, 902, 958, 1026, 1070, 1174, 1266, 1346, 1402, 1415, 1428, 1496, 1588, 1656, 1724] : Array Int)[((nI 9).toInt - 0).toNat]? = some 752 := by decide +kernel
theorem t31_10 : ¬ (nI 10).toInt < 0 ∧ ¬ 26 < (nI 10).toInt ∧ (#[124, 168, 248, 316, 384, 468, 524, 616, 684, 752, 820, 833, 846, 902, 958, 1026, 1070, 1174, 1266, 1346, 1402, 1415, 1428, 1496, 1588, 1656, 1724] : Array Int)[((nI 10).toInt - 0).toNat]? = some 820 := by decide +kernel
theorem t31_11 : ¬ (nI 11).toInt < 0 ∧ ¬ 26 < (nI 11).toInt ∧ (#[124, 168, 248, 316, 384, 468, 524, 616, 684, 752, 820, 833, 846, 902, 958, 1026, 1070, 1174, 1266, 1346, 1402, 1415, 1428, 1496, 1588, 1656, 1724] : Array Int)[((nI 11).toInt - 0).toNat]? = some 833 := by decide +kernel
theorem t31_12 : ¬ (nI 12).toInt < 0 ∧ ¬ 26 < (nI 12).toInt ∧ (#[124, 168, 248, 316, 384, 468, 524, 616, 684, 752, 820, 833, 846, 902, 958, 1026, 1070, 1174, 1266, 1346, 1402, 1415, 1428, 1496, 1588, 1656, 1724] : Array Int)[((nI 12).toInt - 0).toNat]? = some 846 := by decide +kernel
theorem t31_13 : ¬ (nI 13).toInt < 0 ∧ ¬ 26 < (nI 13).toInt ∧ (#[124, 168, 248, 316, 384, 468, 524, 616, 684, 752, 820, 833, 846, 902, 958, 1026, 1070, 1174, 1266, 1346, 1402, 1415, 1428, 1496, 1588, 1656, 1724] : Array Int)[((nI 13).toInt - 0).toNat]? = some 902 := by decide +kernel
theorem t31_14 : ¬ (nI 14).toInt < 0 ∧ ¬ 26 < (nI 14).toInt ∧ (#[124, 168, 248, 316, 384, 468, 524, 616, 684, 752, 820, 833, 846, 902, 958, 1026, 1070, 1174, 1266, 1346, 1402, 1415, 1428, 1496, 1588, 1656, 1724] : Array Int)[((nI 14).toInt - 0).toNat]? = some 958 := by decide +kernel
theorem t31_15 : ¬ (nI 15).toInt < 0 ∧ ¬ 26 < (nI 15).toInt ∧ (#[124, 168, 248, 316, 384, 468, 524, 616, 684, 752, 820, 833, 846, 902, 958, 1026, 1070, 1174, 1266, 1346, 1402, 1415, 1428, 1496, 1588, 1656, 1724] : Array Int)[((nI 15).toInt - 0).toNat]? = some 1026 := by decide +kernel
theorem t31_16 : ¬ (nI 16).toInt < 0 ∧ ¬ 26 < (nI 16).toInt ∧ (#[124, 168, 248, 316, 384, 468, 524, 616, 684, 752, 820, 833, 846, 902, 958, 1026, 1070, 1174, 1266, 1346, 1402, 1415, 1428, 1496, 1588, 1656, 1724] : Array Int)[((nI 16).toInt - 0).toNat]? = some 1070 := by decide +kernel
theorem t31_17 : ¬ (nI 17).toInt < 0 ∧ ¬ 26 < (nI 17).toInt ∧ (#[124, 168, 248, 316, 384, 468, 524, 616, 684, 752, 820, 833, 846, 902, 958, 1026, 1070, 1174, 1266, 1346, 1402, 1415, 1428, 1496, 1588, 1656, 1724] : Array Int)[((nI 17).toInt - 0).toNat]? = some 1174 := by decide +kernel
theorem t31_18 : ¬ (nI 18).toInt < 0 ∧ ¬ 26 < (nI 18).toInt ∧ (#[124, 168, 248, 316, 384, 468, 524, 616, 684, 752, 820, 833, 846, 902, 958, 1026, 1070, 1174, 1266, 1346, 1402, 1415, 1428, 1496, 1588, 1656, 1724] : Array Int)[((nI 18).toInt - 0).toNat]? = some 1266 := by decide +kernel
theorem t31_19 : ¬ (nI 19).toInt < 0 ∧ ¬ 26 < (nI 19).toInt ∧ (#[124, 168, 248, 316, 384, 468, 524, 616, 684, 752, 820, 833, 846, 902, 958, 1026, 1070, 1174, 1266, 1346, 1402, 1415, 1428, 1496, 1588, 1656, 1724] : Array Int)[((nI 19).toInt - 0).toNat]? = some 1346 := by decide +kernel
theorem t31_20 : ¬ (nI 20).toInt < 0 ∧ ¬ 26 < (nI 20).toInt ∧ (#[124, 168, 248, 316, 384, 468, 524, 616, 684, 752, 820, 833, 846, 902, 958, 1026, 1070, 1174, 1266, 1346, 1402, 1415, 1428, 1496, 1588, 1656, 1724] : Array Int)[((nI 20).toInt - 0).toNat]? = some 1402 := by decide +kernel
theorem t31_21 : ¬ (nI 21).toInt < 0 ∧ ¬ 26 < (nI 21).toInt ∧ (#[124, 168, 248, 316, 384, 468, 524, 616, 684, 752, 820, 833, 846, 902, 958, 1026, 1070, 1174, 1266, 1346, 1402, 1415, 1428, 1496, 1588, 1656, 1724] : Array Int)[((nI 21).toInt - 0).toNat]? = some 1415 := by decide +kernel
theorem t31_22 : ¬ (nI 22).toInt < 0 ∧ ¬ 26 < (nI 22).toInt ∧ (#[124, 168, 248, 316, 384, 468, 524, 616, 684, 752, 820, 833, 846, 902, 958, 1026, 1070, 1174, 1266, 1346, 1402, 1415, 1428, 1496, 1588, 1656, 1724] : Array Int)[((nI 22).toInt - 0).toNat]? = some 1428 := by decide +kernel
theorem t31_23 : ¬ (nI 23).toInt < 0 ∧ ¬ 26 < (nI 23).toInt ∧ (#[124, 168, 248, 316, 384, 468, 524, 616, 684, 752, 820, 833, 846, 902, 958, 1026, 1070, 1174, 1266, 1346, 1402, 1415, 1428, 1496, 1588, 1656, 1724] : Array Int)[((nI 23).toInt - 0).toNat]? = some 1496 := by decide +kernel
theorem t31_24 : ¬ (nI 24).toInt < 0 ∧ ¬ 26 < (nI 24).toInt ∧ (#[124, 168, 248, 316, 384, 468, 524, 616, 684, 752, 820, 833, 846, 902, 958, 1026, 1070, 1174, 1266, 1346, 1402, 1415, 1428, 1496, 1588, 1656, 1724] : Array Int)[((nI 24).toInt - 0).toNat]? = some 1588 := by decide +kernel
theorem t31_25 : ¬ (nI 25).toInt < 0 ∧ ¬ 26 < (nI 25).toInt ∧ (#[124, 168, 248, 316, 384, 468, 524, 616, 684, 752, 820, 833, 846, 902, 958, 1026, 1070, 1174, 1266, 1346, 1402, 1415, 1428, 1496, 1588, 1656, 1724] : Array Int)[((nI 25).toInt - 0).toNat]? = some 1656 := by decide +kernel
theorem t31_26 : ¬ (nI 26).toInt < 0 ∧ ¬ 26 < (nI 26).toInt ∧ (#[124, 168, 248, 316, 384, 468, 524, 616, 684, 752, 820, 833, 846, 902, 958, 1026, 1070, 1174, 1266, 1346, 1402, 1415, 1428, 1496, 1588, 1656, 1724] : Array Int)[((nI 26).toInt - 0).toNat]? = some 1724 := by decide +kernel
theorem k27 : ∀ k, k < 32 → (k = 0 ∨ k = 1 ∨ k = 2 ∨ k = 3 ∨ k = 4 ∨ k = 5 ∨ k = 6 ∨ k = 7 ∨ k = 8 ∨ k = 9 ∨ k = 10 ∨ k = 11 ∨ k = 12 ∨ k = 13 ∨ k = 14 ∨ k = 15 ∨ k = 16 ∨ k = 17 ∨ k = 18 ∨ k = 19 ∨ k = 20 ∨ k = 21 ∨ k = 22 ∨ k = 23 ∨ k = 24 ∨ k = 25 ∨ k = 26 ∨ 26 < k) := by decide +kernel
theorem k27b : ∀ k, k < 32 → 26 < k → 26 < (nI k).toInt := by decide +kernel
theorem and31 (a : Int32) : ∃ k, k < 32 ∧ a &&& nI 31 = nI k := by
  refine ⟨(a &&& nI 31).toBitVec.toNat, ?_, ?_⟩
  · have h1 : (a &&& nI 31).toBitVec.toNat = a.toBitVec.toNat &&& 31 := by
      show (a.toBitVec &&& (nI 31).toBitVec).toNat = _
      rw [BitVec.toNat_and]
      rfl
    rw [h1]
    exact Nat.lt_succ_of_le Nat.and_le_right
  · generalize a &&& nI 31 = y
    show y = Int32.ofNat y.toBitVec.toNat
    apply Int32.toBitVec.inj
    show y.toBitVec = BitVec.ofNat 32 y.toBitVec.toNat
    exact BitVec.eq_of_toNat_eq (by rw [BitVec.toNat_ofNat, Nat.mod_eq_of_lt y.toBitVec.isLt])
section LOOPs
variable {D : va_G} {cI cZ cO cJ : ClassId} {t0 mi o x9 m9 : Nat} {A : Nat → Prop}
variable {p : Program} {l : Launch} {e : Env} {R : Room} {s : State} {m : MethodId} {args : Array Value} {below : List Frame} {meth : Method} {c : Code} {Q : State → Prop} {b N c0 s0 : Nat} {xs : Nat → Int32} {Rel : St → St → Prop}
set_option maxRecDepth 100000 in
set_option maxHeartbeats 4000000 in
theorem l_round (hop : OPS D cI cZ cO t0 mi l Rel) (X : CallFix p m c cL_law 7 s args TB RL) (hK : KJ D cI cZ cO cJ s) (hE : EE t0 mi A s s.heap) (hX9 : EX A s s.heap) (hN : NC s) (hAn : ∀ q, s.heap.size ≤ q → A q) (hXs : va_X b N xs s s.heap) (hbl : b < s.heap.size) (hbA : ¬ A b) {n : Nat} (hn : n + 6 ≤ N) (hN2 : N ≤ 3072) {σ τ : St} {f : Nat → Int64} {H : Heap} {locs : List Loc} {ls : Array Slot} {cells slots : Nat} (hRel : Rel σ τ) (hW : Wd D cI cZ cO cJ t0 A x9 m9 o f σ τ H) (hS : va_S A s.heap H locs) (hl : lv_has ls 7 [(4, .int (nI n)), (0, .ref b), (1, .ref x9), (2, .ref m9), (3, .ref o)]) (hRf : 16 ≤ R.frames ∧ 632 ≤ R.locals) (hc : cells + 16 ≤ R.cells ∧ slots + 1000 ≤ R.slots)
    (kk : ∀ (f : Nat → Int64) (σ τ : St) (H : Heap) (locs : List Loc) (ls : Array Slot), Wd D cI cZ cO cJ t0 A x9 m9 o f σ τ H → Rel σ τ → va_S A s.heap H locs → lv_has ls 7 [(4, .int (nI n)), (0, .ref b), (1, .ref x9), (2, .ref m9), (3, .ref o)] → W p l e R s m args below meth c H locs (cells + 16) (slots + 1000) Q (F0 m 1820 ls [])) : W p l e R s m args below meth c H locs cells slots Q (F0 m 33 ls []) := by
  have hx := X.1
  have hb := X.2.1
  refine lv_aload_n hx hb dL_law_33 rfl (lv_at hl 1 rfl) ?_
  refine lv_iload hx hb dL_law_34 (lv_at hl 0 rfl) ?_
  refine pn_sld X hXs hbl hbA hS (k := n) (by omega) (by omega) dL_law_36 ?_
  refine lv_bipush (v := nI 31) hx hb dL_law_37 (by decide) ?_
  refine lv_iand hx hb dL_law_39 ?_
  obtain ⟨k, hk, he⟩ := and31 (xs n)
  rw [he]
  obtain ⟨h0, h1, h2, h3, h4, h5, h6, h7, h8, h9, h10, h11, h12, h13, h14, h15, h16, h17, h18, h19, h20, h21, h22, h23, h24, h25, h26⟩ := hop
  have hk0 := hk
  rcases k27 k hk with rfl | rfl | rfl | rfl | rfl | rfl | rfl | rfl | rfl | rfl | rfl | rfl | rfl | rfl | rfl | rfl | rfl | rfl | rfl | rfl | rfl | rfl | rfl | rfl | rfl | rfl | rfl | hk
  · refine lv_tableIn (x := nI 0) (off := 124) (tgt := 164) hx hb dL_law_40 t31_0.1 t31_0.2.1 t31_0.2.2 (by decide) ?_
    exact o_program h0 X hK hE hX9 hN hAn hXs hbl hbA hn hN2 hRel hW hS hl hRf hc kk
  · refine lv_tableIn (x := nI 1) (off := 168) (tgt := 208) hx hb dL_law_40 t31_1.1 t31_1.2.1 t31_1.2.2 (by decide) ?_
    exact o_block h1 X hK hE hX9 hN hAn hXs hbl hbA hn hN2 hRel hW hS hl hRf hc kk
  · refine lv_tableIn (x := nI 2) (off := 248) (tgt := 288) hx hb dL_law_40 t31_2.1 t31_2.2.1 t31_2.2.2 (by decide) ?_
    exact o_map h2 X hK hE hX9 hN hAn hXs hbl hbA hn hN2 hRel hW hS hl hRf hc kk
  · refine lv_tableIn (x := nI 3) (off := 316) (tgt := 356) hx hb dL_law_40 t31_3.1 t31_3.2.1 t31_3.2.2 (by decide) ?_
    exact o_tool h3 X hK hE hX9 hN hAn hXs hbl hbA hn hN2 hRel hW hS hl hRf hc kk
  · refine lv_tableIn (x := nI 4) (off := 384) (tgt := 424) hx hb dL_law_40 t31_4.1 t31_4.2.1 t31_4.2.2 (by decide) ?_
    exact o_load h4 X hK hE hX9 hN hAn hXs hbl hbA hn hN2 hRel hW hS hl hRf hc kk
  · refine lv_tableIn (x := nI 5) (off := 468) (tgt := 508) hx hb dL_law_40 t31_5.1 t31_5.2.1 t31_5.2.2 (by decide) ?_
    exact o_pallet h5 X hK hE hX9 hN hAn hXs hbl hbA hn hN2 hRel hW hS hl hRf hc kk
  · refine lv_tableIn (x := nI 6) (off := 524) (tgt := 564) hx hb dL_law_40 t31_6.1 t31_6.2.1 t31_6.2.2 (by decide) ?_
    exact o_clamp h6 X hK hE hX9 hN hAn hXs hbl hbA hn hN2 hRel hW hS hl hRf hc kk
  · refine lv_tableIn (x := nI 7) (off := 616) (tgt := 656) hx hb dL_law_40 t31_7.1 t31_7.2.1 t31_7.2.2 (by decide) ?_
    exact o_prove h7 X hK hE hX9 hN hAn hXs hbl hbA hn hN2 hRel hW hS hl hRf hc kk
  · refine lv_tableIn (x := nI 8) (off := 684) (tgt := 724) hx hb dL_law_40 t31_8.1 t31_8.2.1 t31_8.2.2 (by decide) ?_
    exact o_takes h8 X hK hE hX9 hN hAn hXs hbl hbA hn hN2 hRel hW hS hl hRf hc kk
  · refine lv_tableIn (x := nI 9) (off := 752) (tgt := 792) hx hb dL_law_40 t31_9.1 t31_9.2.1 t31_9.2.2 (by decide) ?_
    exact o_plan h9 X hK hE hX9 hN hAn hXs hbl hbA hn hN2 hRel hW hS hl hRf hc kk
  · refine lv_tableIn (x := nI 10) (off := 820) (tgt := 860) hx hb dL_law_40 t31_10.1 t31_10.2.1 t31_10.2.2 (by decide) ?_
    exact o_night h10 X hK hE hX9 hN hAn hXs hbl hbA hn hN2 hRel hW hS hl hRf hc kk
  · refine lv_tableIn (x := nI 11) (off := 833) (tgt := 873) hx hb dL_law_40 t31_11.1 t31_11.2.1 t31_11.2.2 (by decide) ?_
    exact o_foresees h11 X hK hE hX9 hN hAn hXs hbl hbA hn hN2 hRel hW hS hl hRf hc kk
  · refine lv_tableIn (x := nI 12) (off := 846) (tgt := 886) hx hb dL_law_40 t31_12.1 t31_12.2.1 t31_12.2.2 (by decide) ?_
    exact o_lacks h12 X hK hE hX9 hN hAn hXs hbl hbA hn hN2 hRel hW hS hl hRf hc kk
  · refine lv_tableIn (x := nI 13) (off := 902) (tgt := 942) hx hb dL_law_40 t31_13.1 t31_13.2.1 t31_13.2.2 (by decide) ?_
    exact o_idle h13 X hK hE hX9 hN hAn hXs hbl hbA hn hN2 hRel hW hS hl hRf hc kk
  · refine lv_tableIn (x := nI 14) (off := 958) (tgt := 998) hx hb dL_law_40 t31_14.1 t31_14.2.1 t31_14.2.2 (by decide) ?_
    exact o_calibrate h14 X hK hE hX9 hN hAn hXs hbl hbA hn hN2 hRel hW hS hl hRf hc kk
  · refine lv_tableIn (x := nI 15) (off := 1026) (tgt := 1066) hx hb dL_law_40 t31_15.1 t31_15.2.1 t31_15.2.2 (by decide) ?_
    exact o_drawing h15 X hK hE hX9 hN hAn hXs hbl hbA hn hN2 hRel hW hS hl hRf hc kk
  · refine lv_tableIn (x := nI 16) (off := 1070) (tgt := 1110) hx hb dL_law_40 t31_16.1 t31_16.2.1 t31_16.2.2 (by decide) ?_
    exact o_feature h16 X hK hE hX9 hN hAn hXs hbl hbA hn hN2 hRel hW hS hl hRf hc kk
  · refine lv_tableIn (x := nI 17) (off := 1174) (tgt := 1214) hx hb dL_law_40 t31_17.1 t31_17.2.1 t31_17.2.2 (by decide) ?_
    exact o_allow h17 X hK hE hX9 hN hAn hXs hbl hbA hn hN2 hRel hW hS hl hRf hc kk
  · refine lv_tableIn (x := nI 18) (off := 1266) (tgt := 1306) hx hb dL_law_40 t31_18.1 t31_18.2.1 t31_18.2.2 (by decide) ?_
    exact o_judge h18 X hK hE hX9 hN hAn hXs hbl hbA hn hN2 hRel hW hS hl hRf hc kk
  · refine lv_tableIn (x := nI 19) (off := 1346) (tgt := 1386) hx hb dL_law_40 t31_19.1 t31_19.2.1 t31_19.2.2 (by decide) ?_
    exact o_correct h19 X hK hE hX9 hN hAn hXs hbl hbA hn hN2 hRel hW hS hl hRf hc kk
  · refine lv_tableIn (x := nI 20) (off := 1402) (tgt := 1442) hx hb dL_law_40 t31_20.1 t31_20.2.1 t31_20.2.2 (by decide) ?_
    exact o_minute h20 X hK hE hX9 hN hAn hXs hbl hbA hn hN2 hRel hW hS hl hRf hc kk
  · refine lv_tableIn (x := nI 21) (off := 1415) (tgt := 1455) hx hb dL_law_40 t31_21.1 t31_21.2.1 t31_21.2.2 (by decide) ?_
    exact o_warmth h21 X hK hE hX9 hN hAn hXs hbl hbA hn hN2 hRel hW hS hl hRf hc kk
  · refine lv_tableIn (x := nI 22) (off := 1428) (tgt := 1468) hx hb dL_law_40 t31_22.1 t31_22.2.1 t31_22.2.2 (by decide) ?_
    exact o_ofTool h22 X hK hE hX9 hN hAn hXs hbl hbA hn hN2 hRel hW hS hl hRf hc kk
  · refine lv_tableIn (x := nI 23) (off := 1496) (tgt := 1536) hx hb dL_law_40 t31_23.1 t31_23.2.1 t31_23.2.2 (by decide) ?_
    exact o_ofCell h23 X hK hE hX9 hN hAn hXs hbl hbA hn hN2 hRel hW hS hl hRf hc kk
  · refine lv_tableIn (x := nI 24) (off := 1588) (tgt := 1628) hx hb dL_law_40 t31_24.1 t31_24.2.1 t31_24.2.2 (by decide) ?_
    exact o_ofPallet h24 X hK hE hX9 hN hAn hXs hbl hbA hn hN2 hRel hW hS hl hRf hc kk
  · refine lv_tableIn (x := nI 25) (off := 1656) (tgt := 1696) hx hb dL_law_40 t31_25.1 t31_25.2.1 t31_25.2.2 (by decide) ?_
    exact o_ofPaper h25 X hK hE hX9 hN hAn hXs hbl hbA hn hN2 hRel hW hS hl hRf hc kk
  · refine lv_tableIn (x := nI 26) (off := 1724) (tgt := 1764) hx hb dL_law_40 t31_26.1 t31_26.2.1 t31_26.2.2 (by decide) ?_
    exact o_judgeAnew h26 X hK hE hX9 hN hAn hXs hbl hbA hn hN2 hRel hW hS hl hRf hc kk
  · refine lv_tableOut (x := nI k) (tgt := 1820) hx hb dL_law_40 (Or.inr ?_) (by decide) ?_
    · exact k27b k hk0 hk
    · refine W.widen (k := cells + 16) (n := slots + 1000) (by omega) (by omega) ?_
      exact kk f σ τ H locs ls hW hRel hS hl
theorem l_loop (hop : OPS D cI cZ cO t0 mi l Rel) (X : CallFix p m c cL_law 7 s args TB RL) (hK : KJ D cI cZ cO cJ s) (hE : EE t0 mi A s s.heap) (hX9 : EX A s s.heap) (hN : NC s) (hAn : ∀ q, s.heap.size ≤ q → A q) (hXs : va_X b N xs s s.heap) (hbl : b < s.heap.size) (hbA : ¬ A b) (hN2 : N ≤ 3072) (hRf : 16 ≤ R.frames ∧ 632 ≤ R.locals) (hc : c0 + 16 * 512 ≤ R.cells ∧ s0 + 1000 * 512 ≤ R.slots)
    (kend : ∀ (j : Nat) (H : Heap) (locs : List Loc) (ls : Array Slot), j ≤ 512 → va_S A s.heap H locs → W p l e R s m args below meth c H locs (c0 + 16 * j) (s0 + 1000 * j) Q (F0 m 1826 ls [])) :
    ∀ (k j : Nat), N ≤ 6 * j + k → 6 * j ≤ N → ∀ (f : Nat → Int64) (σ τ : St) (H : Heap) (locs : List Loc) (ls : Array Slot), Wd D cI cZ cO cJ t0 A x9 m9 o f σ τ H → Rel σ τ → va_S A s.heap H locs → lv_has ls 7 [(4, .int (nI (6 * j))), (0, .ref b), (1, .ref x9), (2, .ref m9), (3, .ref o)] → W p l e R s m args below meth c H locs (c0 + 16 * j) (s0 + 1000 * j) Q (F0 m 23 ls []) := by
  have hx := X.1
  have hb := X.2.1
  intro k
  induction k with
  | zero =>
    intro j hj1 hj2 f σ τ H locs ls hW hRel hS hl
    have hjN : N = 6 * j := by omega
    refine lv_iload hx hb dL_law_23 (lv_at hl 0 rfl) ?_
    refine lv_aload_n hx hb dL_law_25 rfl (lv_at hl 1 rfl) ?_
    refine va_slen hx hb hXs hbl hbA hS dL_law_26 ?_
    refine lv_bipush (v := nI 6) hx hb dL_law_27 (by decide) ?_
    by_cases h6 : 6 ≤ N
    · refine r_subN (a := N) hx hb h6 dL_law_29 ?_
      refine r_icmp_gtN (tgt := 1826) hx hb dL_law_30 (by decide) (by omega) (by omega) (fun _ => kend j H locs ls (by omega) hS) (fun c9 => absurd c9 (by omega))
    · have hj0 : j = 0 := by omega
      have hN0 : N = 0 := by omega
      subst hj0
      subst hN0
      refine lv_isub hx hb dL_law_29 ?_
      exact lv_icmp_gt (tgt := 1826) hx hb dL_law_30 (by decide) (fun _ => kend 0 H locs ls (by omega) hS) (fun z => absurd (by decide +kernel : Int32.ofNat 0 - nI 6 < nI 0) z)
  | succ k ih =>
    intro j hj1 hj2 f σ τ H locs ls hW hRel hS hl
    refine lv_iload hx hb dL_law_23 (lv_at hl 0 rfl) ?_
    refine lv_aload_n hx hb dL_law_25 rfl (lv_at hl 1 rfl) ?_
    refine va_slen hx hb hXs hbl hbA hS dL_law_26 ?_
    refine lv_bipush (v := nI 6) hx hb dL_law_27 (by decide) ?_
    by_cases h6 : 6 ≤ N
    · refine r_subN (a := N) hx hb h6 dL_law_29 ?_
      refine r_icmp_gtN (tgt := 1826) hx hb dL_law_30 (by decide) (by omega) (by omega) (fun _ => kend j H locs ls (by omega) hS) (fun c9 => ?_)
      have hn : 6 * j + 6 ≤ N := by omega
      refine l_round hop X hK hE hX9 hN hAn hXs hbl hbA hn hN2 hRel hW hS hl hRf ⟨by omega, by omega⟩ (fun f σ τ H locs ls hW hRel hS hl => ?_)
      refine r_iincN (b := 6) (lv' := [(4, .int (nI (6 * j + 6))), (0, .ref b), (1, .ref x9), (2, .ref m9), (3, .ref o)]) hx hb dL_law_1820 hl (k := 0) rfl (by decide) (by decide) rfl (fun ls hl => ?_)
      refine lv_goto (tgt := 23) hx hb dL_law_1823 (by decide) ?_
      have e1 : c0 + 16 * j + 16 = c0 + 16 * (j + 1) := by omega
      have e2 : s0 + 1000 * j + 1000 = s0 + 1000 * (j + 1) := by omega
      rw [e1, e2]
      exact ih (j + 1) (by omega) (by omega) f σ τ H locs ls hW hRel hS hl
    · have hj0 : j = 0 := by omega
      subst hj0
      refine lv_isub hx hb dL_law_29 ?_
      refine lv_icmp_gt (tgt := 1826) hx hb dL_law_30 (by decide) (fun _ => kend 0 H locs ls (by omega) hS) (fun z => absurd ?_ z)
      rcases (by omega : N = 0 ∨ N = 1 ∨ N = 2 ∨ N = 3 ∨ N = 4 ∨ N = 5) with rfl | rfl | rfl | rfl | rfl | rfl <;> decide +kernel
end LOOPs
