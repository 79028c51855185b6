def k_block (v1 v2 v3 : Int32) (σ : St) : Nat × Int32 × St := if ix v1 (σ.1 1002 6) then (if isB v1 v2 v3 then (if 30 ≤ (σ.1 402 (σ.2.2.1 1001 6 (tn v1))) then ((3, 0, σ)) else (if σ.1 1002 2 = 0 then ((0, nI ((σ.1 402 (σ.2.2.1 1001 6 (tn v1))) + 1), (wN (wB (wB σ 400 (σ.2.2.1 1001 6 (tn v1)) (σ.1 402 (σ.2.2.1 1001 6 (tn v1))) v2) 401 (σ.2.2.1 1001 6 (tn v1)) (σ.1 402 (σ.2.2.1 1001 6 (tn v1))) v3) 402 (σ.2.2.1 1001 6 (tn v1)) ((σ.1 402 (σ.2.2.1 1001 6 (tn v1))) + 1)))) else ((3, 0, σ)))) else ((2, 0, σ))) else ((1, 0, σ))
set_option maxRecDepth 100000 in
set_option maxHeartbeats 4000000 in
theorem z_X8_block {D : va_G} {cI cZ cO : ClassId} (l : Launch) (hl9 : l.stackTraces = false) (L : Lay) (σ : St) (ow : Nat → Prop) (v1 v2 v3 : Int32) (h4 : ∀ k, σ.1 402 k ≤ 30) (hI : CI σ) : ZI D cI cZ cO (cdom σ) l yX8_block cX8_block 5 ((some FieldType.int)) 7 142 2 12 [.ref (L 899 0), .int v1, .int v2, .int v3] L σ ow (k_block v1 v2 v3 σ).1 (k_block v1 v2 v3 σ).2.1 (k_block v1 v2 v3 σ).2.2 := by
  refine z_of (Qc := fun sz => YQi (k_block v1 v2 v3 σ).1 (k_block v1 v2 v3 σ).2.1 (PW D cI cZ cO (cdom σ) L (k_block v1 v2 v3 σ).2.2 ow) (AA ow sz)) (XC := fun sz => YX (k_block v1 v2 v3 σ).1 (PW D cI cZ cO (cdom σ) L (k_block v1 v2 v3 σ).2.2 ow) (AA ow sz)) rfl (Nat.le_of_ble_eq_true rfl) ?_
  intro p e s m args below meth c ls X hex hK hG hX9 hr hlocks hl
  have X : CallFix p m c cX8_block 5 s _ TB RX8 := X
  have hx := X.1
  have hb := X.2.1
  have hS : va_S (AA ow s.heap.size) s.heap s.heap [] := va_S.rf
  have hA : ∀ q, ow q → AA ow s.heap.size q := fun _ h => Or.inl h
  have hA2 : ∀ q, AA ow s.heap.size q → AA ow s.heap.size q := fun _ h => h
  have hl : lv_has ls 5 [(0, .ref (L 899 0)), (1, .int v1), (2, .int v2), (3, .int v3)] := hl
  refine lv_aload_n hx hb dX8_block_0 rfl (lv_at hl 0 rfl) ?_
  refine lv_iload_n hx hb dX8_block_1 rfl (lv_at hl 1 rfl) ?_
  refine z_callqP (P := ix v1 (σ.1 1002 6)) X hK hG hS hA2 hX9 yvX8_programAt ml_X8_79 kX8 rfl (cd_fix (by decide)) [.int v1] [] (z_X8_programAt l hl9 L σ ow v1 hI) rfl hl.1 rfl (Nat.le_of_ble_eq_true rfl) ⟨Nat.le_of_ble_eq_true rfl, Nat.le_of_ble_eq_true rfl⟩ ⟨Nat.le_of_ble_eq_true rfl, Nat.le_of_ble_eq_true rfl⟩ dX8_block_2 (fun hz_2 H locs q ce hG hS hq hv hcl => ?_) (fun hz_2 H locs hG hS => ?_)
  · rw [show k_block v1 v2 v3 σ = (1, 0, σ) from by unfold k_block; first | (rw [if_neg hz_2] <;> rfl) | simp only [if_neg hz_2]]
    exact y_out hex hlocks hG hS hq hv hcl (by decide) rfl (Nat.le_of_ble_eq_true rfl) (Nat.le_of_ble_eq_true rfl)
  refine lv_astore (lv' := [(4, .ref (L 499 (σ.2.2.1 1001 6 (tn v1)))), (0, .ref (L 899 0)), (1, .int v1), (2, .int v2), (3, .int v3)]) hx hb dX8_block_5 hl (by decide) rfl (fun ls hl => ?_)
  refine lv_iload_n hx hb dX8_block_7 rfl (lv_at hl 2 rfl) ?_
  refine lv_iload_n hx hb dX8_block_8 rfl (lv_at hl 3 rfl) ?_
  refine lv_iload_n hx hb dX8_block_9 rfl (lv_at hl 4 rfl) ?_
  refine rm_callSg X hK hG hS hA2 ysX8_isBlock ml_X8_83 [.int v1, .int v2, .int v3] [] (c_X8_isBlock l L σ ow v1 v2 v3) rfl hl.1 rfl (Nat.le_of_ble_eq_true rfl) ⟨Nat.le_of_ble_eq_true rfl, Nat.le_of_ble_eq_true rfl⟩ ⟨Nat.le_of_ble_eq_true rfl, Nat.le_of_ble_eq_true rfl⟩ dX8_block_10 (fun H locs hG hS => ?_)
  refine r_if_neB (tgt := 26) hx hb dX8_block_13 (by decide) (fun c_13 => ?_) (fun c_13 => ?_)
  · refine lv_aload hx hb dX8_block_26 (lv_at hl 0 rfl) ?_
    refine gt_X8_92 X hK hG (cd_obj (by decide) (Or.inl (by decide)) (hI.2 6 (by decide) _ (ix_lt hz_2))) (x := σ.1 402 (σ.2.2.1 1001 6 (tn v1))) rfl dX8_block_28 ?_
    refine lv_bipush (v := nI 30) hx hb dX8_block_31 (by decide) ?_
    refine r_icmp_geN (tgt := 46) hx hb dX8_block_33 (by decide) (by have := h4 (σ.2.2.1 1001 6 (tn v1)); omega) (by decide) (fun c_33 => ?_) (fun c_33 => ?_)
    · rw [show k_block v1 v2 v3 σ = (3, 0, σ) from by unfold k_block; first | (rw [if_pos hz_2, if_pos c_13, if_pos c_33] <;> rfl) | simp only [if_pos hz_2, if_pos c_13, if_pos c_33]]
      exact y_throw (e8 := 3) (tx := "full, or a pallet is planned") hx X hl9 xw_3 hX9 (List.mem_of_getElem? (i := 3) rfl) hex hlocks hl.1 hS (pw_ext hG) (by decide) rfl dX8_block_46 dX8_block_49 dX8_block_50 dX8_block_52 dX8_block_55 (Nat.le_of_ble_eq_true rfl) (Nat.le_of_ble_eq_true rfl) (Nat.le_of_ble_eq_true rfl) (Nat.le_of_ble_eq_true rfl) (Nat.le_of_ble_eq_true rfl) (Nat.le_of_ble_eq_true rfl)
    · refine lv_aload_n hx hb dX8_block_36 rfl (lv_at hl 1 rfl) ?_
      refine gt_X8_19 X hK hG (cd_fix (by decide)) dX8_block_37 ?_
      refine x_empty X hK hG hS hA2 (cd_list (by decide)) (by have := hI.1 2 (by decide); omega) ml_X8_95 hl.1 (Nat.le_of_ble_eq_true rfl) ⟨Nat.le_of_ble_eq_true rfl, Nat.le_of_ble_eq_true rfl⟩ ⟨Nat.le_of_ble_eq_true rfl, Nat.le_of_ble_eq_true rfl⟩ dX8_block_40 (fun H locs hG hS => ?_)
      refine r_if_neB (tgt := 56) hx hb dX8_block_43 (by decide) (fun c_43 => ?_) (fun c_43 => ?_)
      · refine lv_aload hx hb dX8_block_56 (lv_at hl 0 rfl) ?_
        refine lv_iload_n hx hb dX8_block_58 rfl (lv_at hl 3 rfl) ?_
        refine lv_iload_n hx hb dX8_block_59 rfl (lv_at hl 4 rfl) ?_
        refine rv_callVg X hK hG hS hA2 yvX4_append ml_X8_101 kX4 rfl (cd_obj (by decide) (Or.inl (by decide)) (hI.2 6 (by decide) _ (ix_lt hz_2))) [.int v2, .int v3] [] (c_X4_append l L σ ow (σ.2.2.1 1001 6 (tn v1)) (cd_objs (C := 4) (by decide) (hI.2 6 (by decide) _ (ix_lt hz_2))) v2 v3 (by have := h4 (σ.2.2.1 1001 6 (tn v1)); omega)) rfl hl.1 rfl (Nat.le_of_ble_eq_true rfl) ⟨Nat.le_of_ble_eq_true rfl, Nat.le_of_ble_eq_true rfl⟩ ⟨Nat.le_of_ble_eq_true rfl, Nat.le_of_ble_eq_true rfl⟩ dX8_block_60 (fun H locs hG hS => ?_)
        rw [show k_papp (σ.2.2.1 1001 6 (tn v1)) v2 v3 σ = (wN (wB (wB σ 400 (σ.2.2.1 1001 6 (tn v1)) (σ.1 402 (σ.2.2.1 1001 6 (tn v1))) v2) 401 (σ.2.2.1 1001 6 (tn v1)) (σ.1 402 (σ.2.2.1 1001 6 (tn v1))) v3) 402 (σ.2.2.1 1001 6 (tn v1)) ((σ.1 402 (σ.2.2.1 1001 6 (tn v1))) + 1)) from if_neg (Nat.not_le.mpr c_33)] at hG
        refine lv_aload hx hb dX8_block_63 (lv_at hl 0 rfl) ?_
        refine gt_X8_92 X hK hG (cd_obj (by decide) (Or.inl (by decide)) (hI.2 6 (by decide) _ (ix_lt hz_2))) (x := (σ.1 402 (σ.2.2.1 1001 6 (tn v1))) + 1) (by simp [wN, wI, wA, wB, up2, up1]) dX8_block_65 ?_
        rw [show k_block v1 v2 v3 σ = (0, nI ((σ.1 402 (σ.2.2.1 1001 6 (tn v1))) + 1), (wN (wB (wB σ 400 (σ.2.2.1 1001 6 (tn v1)) (σ.1 402 (σ.2.2.1 1001 6 (tn v1))) v2) 401 (σ.2.2.1 1001 6 (tn v1)) (σ.1 402 (σ.2.2.1 1001 6 (tn v1))) v3) 402 (σ.2.2.1 1001 6 (tn v1)) ((σ.1 402 (σ.2.2.1 1001 6 (tn v1))) + 1))) from by unfold k_block; first | (rw [if_pos hz_2, if_pos c_13, if_neg (Nat.not_le.mpr c_33), if_pos c_43] <;> rfl) | simp only [if_pos hz_2, if_pos c_13, if_neg (Nat.not_le.mpr c_33), if_pos c_43]]
        exact y_reti hx hb hr hlocks hG hS rfl rfl rfl (Nat.le_of_ble_eq_true rfl) (Nat.le_of_ble_eq_true rfl) dX8_block_68
      · rw [show k_block v1 v2 v3 σ = (3, 0, σ) from by unfold k_block; first | (rw [if_pos hz_2, if_pos c_13, if_neg (Nat.not_le.mpr c_33), if_neg c_43] <;> rfl) | simp only [if_pos hz_2, if_pos c_13, if_neg (Nat.not_le.mpr c_33), if_neg c_43]]
        exact y_throw (e8 := 3) (tx := "full, or a pallet is planned") hx X hl9 xw_3 hX9 (List.mem_of_getElem? (i := 3) rfl) hex hlocks hl.1 hS (pw_ext hG) (by decide) rfl dX8_block_46 dX8_block_49 dX8_block_50 dX8_block_52 dX8_block_55 (Nat.le_of_ble_eq_true rfl) (Nat.le_of_ble_eq_true rfl) (Nat.le_of_ble_eq_true rfl) (Nat.le_of_ble_eq_true rfl) (Nat.le_of_ble_eq_true rfl) (Nat.le_of_ble_eq_true rfl)
  · rw [show k_block v1 v2 v3 σ = (2, 0, σ) from by unfold k_block; first | (rw [if_pos hz_2, if_neg c_13] <;> rfl) | simp only [if_pos hz_2, if_neg c_13]]
    exact y_throw (e8 := 2) (tx := "word or value") hx X hl9 xw_2 hX9 (List.mem_of_getElem? (i := 2) rfl) hex hlocks hl.1 hS (pw_ext hG) (by decide) rfl dX8_block_16 dX8_block_19 dX8_block_20 dX8_block_22 dX8_block_25 (Nat.le_of_ble_eq_true rfl) (Nat.le_of_ble_eq_true rfl) (Nat.le_of_ble_eq_true rfl) (Nat.le_of_ble_eq_true rfl) (Nat.le_of_ble_eq_true rfl) (Nat.le_of_ble_eq_true rfl)
def k_map (v1 v2 : Int32) (σ : St) : Nat × Int32 × St := if ¬ (ix v1 12) then ((2, 0, σ)) else (if -50 ≤ v2.toInt ∧ v2.toInt ≤ 50 then ((0, σ.2.2.2 806 0 (tn v1), (wB σ 806 0 (tn v1) v2))) else ((2, 0, σ)))
set_option maxRecDepth 100000 in
set_option maxHeartbeats 4000000 in
theorem z_X8_map {D : va_G} {cI cZ cO : ClassId} (l : Launch) (hl9 : l.stackTraces = false) (L : Lay) (σ : St) (ow : Nat → Prop) (v1 v2 : Int32) (hI : CI σ) : ZI D cI cZ cO (cdom σ) l yX8_map cX8_map 4 ((some FieldType.int)) 6 90 1 6 [.ref (L 899 0), .int v1, .int v2] L σ ow (k_map v1 v2 σ).1 (k_map v1 v2 σ).2.1 (k_map v1 v2 σ).2.2 := by
  refine z_of (Qc := fun sz => YQi (k_map v1 v2 σ).1 (k_map v1 v2 σ).2.1 (PW D cI cZ cO (cdom σ) L (k_map v1 v2 σ).2.2 ow) (AA ow sz)) (XC := fun sz => YX (k_map v1 v2 σ).1 (PW D cI cZ cO (cdom σ) L (k_map v1 v2 σ).2.2 ow) (AA ow sz)) rfl (Nat.le_of_ble_eq_true rfl) ?_
  intro p e s m args below meth c ls X hex hK hG hX9 hr hlocks hl
  have X : CallFix p m c cX8_map 4 s _ TB RX8 := X
  have hx := X.1
  have hb := X.2.1
  have hS : va_S (AA ow s.heap.size) s.heap s.heap [] := va_S.rf
  have hA : ∀ q, ow q → AA ow s.heap.size q := fun _ h => Or.inl h
  have hA2 : ∀ q, AA ow s.heap.size q → AA ow s.heap.size q := fun _ h => h
  have hl : lv_has ls 4 [(0, .ref (L 899 0)), (1, .int v1), (2, .int v2)] := hl
  refine lv_iload_n hx hb dX8_map_0 rfl (lv_at hl 1 rfl) ?_
  refine lv_iconst (v := nI 0) hx hb dX8_map_1 (by decide) ?_
  refine lv_bipush (v := nI 11) hx hb dX8_map_2 (by decide) ?_
  refine rm_callSg X hK hG hS hA2 ysX8_isWithin ml_X8_105 [.int v1, .int (nI 0), .int (nI 11)] [] (c_X8_isWithin l L σ ow v1 (nI 0) (nI 11)) rfl hl.1 rfl (Nat.le_of_ble_eq_true rfl) ⟨Nat.le_of_ble_eq_true rfl, Nat.le_of_ble_eq_true rfl⟩ ⟨Nat.le_of_ble_eq_true rfl, Nat.le_of_ble_eq_true rfl⟩ dX8_map_4 (fun H locs hG hS => ?_)
  refine r_top (y := b2i (ix v1 12)) (b2i_c (rg_z 11 (by decide))) ?_
  refine r_if_eqB (tgt := 21) hx hb dX8_map_7 (by decide) (fun c_7 => ?_) (fun c_7 => ?_)
  · rw [show k_map v1 v2 σ = (2, 0, σ) from by unfold k_map; first | (rw [if_pos c_7] <;> rfl) | simp only [if_pos c_7]]
    exact y_throw (e8 := 2) (tx := "x or error") hx X hl9 xw_2 hX9 (List.mem_of_getElem? (i := 4) rfl) hex hlocks hl.1 hS (pw_ext hG) (by decide) rfl dX8_map_21 dX8_map_24 dX8_map_25 dX8_map_27 dX8_map_30 (Nat.le_of_ble_eq_true rfl) (Nat.le_of_ble_eq_true rfl) (Nat.le_of_ble_eq_true rfl) (Nat.le_of_ble_eq_true rfl) (Nat.le_of_ble_eq_true rfl) (Nat.le_of_ble_eq_true rfl)
  · refine lv_iload_n hx hb dX8_map_10 rfl (lv_at hl 2 rfl) ?_
    refine lv_bipush (v := (-50)) hx hb dX8_map_11 (by decide) ?_
    refine lv_bipush (v := nI 50) hx hb dX8_map_13 (by decide) ?_
    refine rm_callSg X hK hG hS hA2 ysX8_isWithin ml_X8_105 [.int v2, .int (-50), .int (nI 50)] [] (c_X8_isWithin l L σ ow v2 (-50) (nI 50)) rfl hl.1 rfl (Nat.le_of_ble_eq_true rfl) ⟨Nat.le_of_ble_eq_true rfl, Nat.le_of_ble_eq_true rfl⟩ ⟨Nat.le_of_ble_eq_true rfl, Nat.le_of_ble_eq_true rfl⟩ dX8_map_15 (fun H locs hG hS => ?_)
    refine r_top (y := b2i (-50 ≤ v2.toInt ∧ v2.toInt ≤ 50)) (b2i_c (rg_i (-50) 50 rfl rfl)) ?_
    refine r_if_neB (tgt := 31) hx hb dX8_map_18 (by decide) (fun c_18 => ?_) (fun c_18 => ?_)
    · refine lv_aload_n hx hb dX8_map_31 rfl (lv_at hl 0 rfl) ?_
      refine gt_X8_31 X hK hG (cd_fix (by decide)) dX8_map_32 ?_
      refine lv_iload_n hx hb dX8_map_35 rfl (lv_at hl 1 rfl) ?_
      refine r_top (y := nI (tn v1)) (ix_eq c_7) ?_
      refine al_806 X hK hG (cd_fix (by decide)) (i := tn v1) (x := σ.2.2.2 806 0 (tn v1)) (ix_lt c_7) rfl dX8_map_36 ?_
      refine lv_istore_n (lv' := [(3, .int (σ.2.2.2 806 0 (tn v1))), (0, .ref (L 899 0)), (1, .int v1), (2, .int v2)]) hx hb dX8_map_37 rfl hl (by decide) rfl (fun ls hl => ?_)
      refine lv_aload_n hx hb dX8_map_38 rfl (lv_at hl 1 rfl) ?_
      refine gt_X8_31 X hK hG (cd_fix (by decide)) dX8_map_39 ?_
      refine lv_iload_n hx hb dX8_map_42 rfl (lv_at hl 2 rfl) ?_
      refine r_top (y := nI (tn v1)) (ix_eq c_7) ?_
      refine lv_iload_n hx hb dX8_map_43 rfl (lv_at hl 3 rfl) ?_
      refine as_806 X hK hG hS hA (cd_fix (by decide)) (i := tn v1) (ix_lt c_7) dX8_map_44 (fun H locs hG hS => ?_)
      refine lv_iload_n hx hb dX8_map_45 rfl (lv_at hl 0 rfl) ?_
      rw [show k_map v1 v2 σ = (0, σ.2.2.2 806 0 (tn v1), (wB σ 806 0 (tn v1) v2)) from by unfold k_map; first | (rw [if_neg (not_not_intro9 c_7), if_pos c_18] <;> rfl) | simp only [if_neg (not_not_intro9 c_7), if_pos c_18]]
      exact y_reti hx hb hr hlocks hG hS rfl rfl rfl (Nat.le_of_ble_eq_true rfl) (Nat.le_of_ble_eq_true rfl) dX8_map_46
    · rw [show k_map v1 v2 σ = (2, 0, σ) from by unfold k_map; first | (rw [if_neg (not_not_intro9 c_7), if_neg c_18] <;> rfl) | simp only [if_neg (not_not_intro9 c_7), if_neg c_18]]
      exact y_throw (e8 := 2) (tx := "x or error") hx X hl9 xw_2 hX9 (List.mem_of_getElem? (i := 4) rfl) hex hlocks hl.1 hS (pw_ext hG) (by decide) rfl dX8_map_21 dX8_map_24 dX8_map_25 dX8_map_27 dX8_map_30 (Nat.le_of_ble_eq_true rfl) (Nat.le_of_ble_eq_true rfl) (Nat.le_of_ble_eq_true rfl) (Nat.le_of_ble_eq_true rfl) (Nat.le_of_ble_eq_true rfl) (Nat.le_of_ble_eq_true rfl)
def k_load (v1 v2 : Int32) (σ : St) : Nat × Int32 × St := if ix v1 (σ.1 1002 0) then (if v2 = 0 then ((0, nI (cntZ (fun i => (wI σ 507 (σ.2.2.1 1001 0 (tn v1)) v2).2.1 507 ((wI σ 507 (σ.2.2.1 1001 0 (tn v1)) v2).2.2.1 1001 0 i)) ((wI σ 507 (σ.2.2.1 1001 0 (tn v1)) v2).1 1002 0)), (wI σ 507 (σ.2.2.1 1001 0 (tn v1)) v2))) else (if ¬ (σ.2.1 507 (σ.2.2.1 1001 0 (tn v1))) = 0 then ((0, nI (cntZ (fun i => (wI σ 507 (σ.2.2.1 1001 0 (tn v1)) v2).2.1 507 ((wI σ 507 (σ.2.2.1 1001 0 (tn v1)) v2).2.2.1 1001 0 i)) ((wI σ 507 (σ.2.2.1 1001 0 (tn v1)) v2).1 1002 0)), (wI σ 507 (σ.2.2.1 1001 0 (tn v1)) v2))) else (if (cntZ (fun i => σ.2.1 507 (σ.2.2.1 1001 0 i)) (σ.1 1002 0)) < 6 then ((0, nI (cntZ (fun i => (wI σ 507 (σ.2.2.1 1001 0 (tn v1)) v2).2.1 507 ((wI σ 507 (σ.2.2.1 1001 0 (tn v1)) v2).2.2.1 1001 0 i)) ((wI σ 507 (σ.2.2.1 1001 0 (tn v1)) v2).1 1002 0)), (wI σ 507 (σ.2.2.1 1001 0 (tn v1)) v2))) else ((3, 0, σ))))) else ((1, 0, σ))
set_option maxRecDepth 100000 in
set_option maxHeartbeats 4000000 in
theorem z_X8_load {D : va_G} {cI cZ cO : ClassId} (l : Launch) (hl9 : l.stackTraces = false) (L : Lay) (σ : St) (ow : Nat → Prop) (v1 v2 : Int32) (h01 : v2 = 0 ∨ v2 = 1) (hI : CI σ) : ZI D cI cZ cO (cdom σ) l yX8_load cX8_load 4 ((some FieldType.int)) 7 143 2 12 [.ref (L 899 0), .int v1, .int v2] L σ ow (k_load v1 v2 σ).1 (k_load v1 v2 σ).2.1 (k_load v1 v2 σ).2.2 := by
  refine z_of (Qc := fun sz => YQi (k_load v1 v2 σ).1 (k_load v1 v2 σ).2.1 (PW D cI cZ cO (cdom σ) L (k_load v1 v2 σ).2.2 ow) (AA ow sz)) (XC := fun sz => YX (k_load v1 v2 σ).1 (PW D cI cZ cO (cdom σ) L (k_load v1 v2 σ).2.2 ow) (AA ow sz)) rfl (Nat.le_of_ble_eq_true rfl) ?_
  intro p e s m args below meth c ls X hex hK hG hX9 hr hlocks hl
  have X : CallFix p m c cX8_load 4 s _ TB RX8 := X
  have hx := X.1
  have hb := X.2.1
  have hS : va_S (AA ow s.heap.size) s.heap s.heap [] := va_S.rf
  have hA : ∀ q, ow q → AA ow s.heap.size q := fun _ h => Or.inl h
  have hA2 : ∀ q, AA ow s.heap.size q → AA ow s.heap.size q := fun _ h => h
  have hl : lv_has ls 4 [(0, .ref (L 899 0)), (1, .int v1), (2, .int v2)] := hl
  have h16 := hI.1 0 (by decide)
  refine lv_aload_n hx hb dX8_load_0 rfl (lv_at hl 0 rfl) ?_
  refine lv_iload_n hx hb dX8_load_1 rfl (lv_at hl 1 rfl) ?_
  refine z_callqP (P := ix v1 (σ.1 1002 0)) X hK hG hS hA2 hX9 yvX8_toolAt ml_X8_119 kX8 rfl (cd_fix (by decide)) [.int v1] [] (z_X8_toolAt l hl9 L σ ow v1 hI) rfl hl.1 rfl (Nat.le_of_ble_eq_true rfl) ⟨Nat.le_of_ble_eq_true rfl, Nat.le_of_ble_eq_true rfl⟩ ⟨Nat.le_of_ble_eq_true rfl, Nat.le_of_ble_eq_true rfl⟩ dX8_load_2 (fun hz_2 H locs q ce hG hS hq hv hcl => ?_) (fun hz_2 H locs hG hS => ?_)
  · rw [show k_load v1 v2 σ = (1, 0, σ) from by unfold k_load; first | (rw [if_neg hz_2] <;> rfl) | simp only [if_neg hz_2]]
    exact y_out hex hlocks hG hS hq hv hcl (by decide) rfl (Nat.le_of_ble_eq_true rfl) (Nat.le_of_ble_eq_true rfl)
  refine lv_astore_n (lv' := [(3, .ref (L 599 (σ.2.2.1 1001 0 (tn v1)))), (0, .ref (L 899 0)), (1, .int v1), (2, .int v2)]) hx hb dX8_load_5 rfl hl (by decide) rfl (fun ls hl => ?_)
  refine lv_iload_n hx hb dX8_load_6 rfl (lv_at hl 3 rfl) ?_
  refine lv_if_eq (tgt := 36) hx hb dX8_load_7 (by decide) (fun c_7 => ?_) (fun c_7 => ?_)
  · refine lv_aload_n hx hb dX8_load_36 rfl (lv_at hl 0 rfl) ?_
    refine lv_iload_n hx hb dX8_load_37 rfl (lv_at hl 3 rfl) ?_
    refine pt_X8_123 X hK hG hS hA (cd_obj (by decide) (Or.inl (by decide)) (hI.2 0 (by decide) _ (ix_lt hz_2))) h01 dX8_load_38 (fun H locs hG hS => ?_)
    refine lv_aload_n hx hb dX8_load_41 rfl (lv_at hl 1 rfl) ?_
    refine rm_callVg X hK hG hS hA2 yvX8_countLoaded ml_X8_127 kX8 rfl (cd_fix (by decide)) [] [] (c_X8_countLoaded l L (wI σ 507 (σ.2.2.1 1001 0 (tn v1)) v2) ow hI) rfl hl.1 rfl (Nat.le_of_ble_eq_true rfl) ⟨Nat.le_of_ble_eq_true rfl, Nat.le_of_ble_eq_true rfl⟩ ⟨Nat.le_of_ble_eq_true rfl, Nat.le_of_ble_eq_true rfl⟩ dX8_load_42 (fun H locs hG hS => ?_)
    rw [show k_load v1 v2 σ = (0, nI (cntZ (fun i => (wI σ 507 (σ.2.2.1 1001 0 (tn v1)) v2).2.1 507 ((wI σ 507 (σ.2.2.1 1001 0 (tn v1)) v2).2.2.1 1001 0 i)) ((wI σ 507 (σ.2.2.1 1001 0 (tn v1)) v2).1 1002 0)), (wI σ 507 (σ.2.2.1 1001 0 (tn v1)) v2)) from by unfold k_load; first | (rw [if_pos hz_2, if_pos c_7] <;> rfl) | simp only [if_pos hz_2, if_pos c_7]]
    exact y_reti hx hb hr hlocks hG hS rfl rfl rfl (Nat.le_of_ble_eq_true rfl) (Nat.le_of_ble_eq_true rfl) dX8_load_45
  · refine lv_aload_n hx hb dX8_load_10 rfl (lv_at hl 0 rfl) ?_
    refine gt_X8_123 X hK hG (cd_obj (by decide) (Or.inl (by decide)) (hI.2 0 (by decide) _ (ix_lt hz_2))) (x := σ.2.1 507 (σ.2.2.1 1001 0 (tn v1))) rfl dX8_load_11 ?_
    refine lv_if_ne (tgt := 36) hx hb dX8_load_14 (by decide) (fun c_14 => ?_) (fun c_14 => ?_)
    · refine lv_aload_n hx hb dX8_load_36 rfl (lv_at hl 0 rfl) ?_
      refine lv_iload_n hx hb dX8_load_37 rfl (lv_at hl 3 rfl) ?_
      refine pt_X8_123 X hK hG hS hA (cd_obj (by decide) (Or.inl (by decide)) (hI.2 0 (by decide) _ (ix_lt hz_2))) h01 dX8_load_38 (fun H locs hG hS => ?_)
      refine lv_aload_n hx hb dX8_load_41 rfl (lv_at hl 1 rfl) ?_
      refine rm_callVg X hK hG hS hA2 yvX8_countLoaded ml_X8_127 kX8 rfl (cd_fix (by decide)) [] [] (c_X8_countLoaded l L (wI σ 507 (σ.2.2.1 1001 0 (tn v1)) v2) ow hI) rfl hl.1 rfl (Nat.le_of_ble_eq_true rfl) ⟨Nat.le_of_ble_eq_true rfl, Nat.le_of_ble_eq_true rfl⟩ ⟨Nat.le_of_ble_eq_true rfl, Nat.le_of_ble_eq_true rfl⟩ dX8_load_42 (fun H locs hG hS => ?_)
      rw [show k_load v1 v2 σ = (0, nI (cntZ (fun i => (wI σ 507 (σ.2.2.1 1001 0 (tn v1)) v2).2.1 507 ((wI σ 507 (σ.2.2.1 1001 0 (tn v1)) v2).2.2.1 1001 0 i)) ((wI σ 507 (σ.2.2.1 1001 0 (tn v1)) v2).1 1002 0)), (wI σ 507 (σ.2.2.1 1001 0 (tn v1)) v2)) from by unfold k_load; first | (rw [if_pos hz_2, if_neg c_7, if_pos c_14] <;> rfl) | simp only [if_pos hz_2, if_neg c_7, if_pos c_14]]
      exact y_reti hx hb hr hlocks hG hS rfl rfl rfl (Nat.le_of_ble_eq_true rfl) (Nat.le_of_ble_eq_true rfl) dX8_load_45
    · refine lv_aload_n hx hb dX8_load_17 rfl (lv_at hl 1 rfl) ?_
      refine rm_callVg X hK hG hS hA2 yvX8_countLoaded ml_X8_127 kX8 rfl (cd_fix (by decide)) [] [] (c_X8_countLoaded l L σ ow hI) rfl hl.1 rfl (Nat.le_of_ble_eq_true rfl) ⟨Nat.le_of_ble_eq_true rfl, Nat.le_of_ble_eq_true rfl⟩ ⟨Nat.le_of_ble_eq_true rfl, Nat.le_of_ble_eq_true rfl⟩ dX8_load_18 (fun H locs hG hS => ?_)
      refine lv_bipush (v := nI 6) hx hb dX8_load_21 (by decide) ?_
      refine r_icmp_ltN (tgt := 36) hx hb dX8_load_23 (by decide) (by have := cntZ_le (fun i => σ.2.1 507 (σ.2.2.1 1001 0 i)) (σ.1 1002 0); omega) (by decide) (fun c_23 => ?_) (fun c_23 => ?_)
      · refine lv_aload_n hx hb dX8_load_36 rfl (lv_at hl 0 rfl) ?_
        refine lv_iload_n hx hb dX8_load_37 rfl (lv_at hl 3 rfl) ?_
        refine pt_X8_123 X hK hG hS hA (cd_obj (by decide) (Or.inl (by decide)) (hI.2 0 (by decide) _ (ix_lt hz_2))) h01 dX8_load_38 (fun H locs hG hS => ?_)
        refine lv_aload_n hx hb dX8_load_41 rfl (lv_at hl 1 rfl) ?_
        refine rm_callVg X hK hG hS hA2 yvX8_countLoaded ml_X8_127 kX8 rfl (cd_fix (by decide)) [] [] (c_X8_countLoaded l L (wI σ 507 (σ.2.2.1 1001 0 (tn v1)) v2) ow hI) rfl hl.1 rfl (Nat.le_of_ble_eq_true rfl) ⟨Nat.le_of_ble_eq_true rfl, Nat.le_of_ble_eq_true rfl⟩ ⟨Nat.le_of_ble_eq_true rfl, Nat.le_of_ble_eq_true rfl⟩ dX8_load_42 (fun H locs hG hS => ?_)
        rw [show k_load v1 v2 σ = (0, nI (cntZ (fun i => (wI σ 507 (σ.2.2.1 1001 0 (tn v1)) v2).2.1 507 ((wI σ 507 (σ.2.2.1 1001 0 (tn v1)) v2).2.2.1 1001 0 i)) ((wI σ 507 (σ.2.2.1 1001 0 (tn v1)) v2).1 1002 0)), (wI σ 507 (σ.2.2.1 1001 0 (tn v1)) v2)) from by unfold k_load; first | (rw [if_pos hz_2, if_neg c_7, if_neg (not_not_intro9 c_14), if_pos c_23] <;> rfl) | simp only [if_pos hz_2, if_neg c_7, if_neg (not_not_intro9 c_14), if_pos c_23]]
        exact y_reti hx hb hr hlocks hG hS rfl rfl rfl (Nat.le_of_ble_eq_true rfl) (Nat.le_of_ble_eq_true rfl) dX8_load_45
      · rw [show k_load v1 v2 σ = (3, 0, σ) from by unfold k_load; first | (rw [if_pos hz_2, if_neg c_7, if_neg (not_not_intro9 c_14), if_neg (Nat.not_lt.mpr c_23)] <;> rfl) | simp only [if_pos hz_2, if_neg c_7, if_neg (not_not_intro9 c_14), if_neg (Nat.not_lt.mpr c_23)]]
        exact y_throw (e8 := 3) (tx := "the magazine is full") hx X hl9 xw_3 hX9 (List.mem_of_getElem? (i := 8) rfl) hex hlocks hl.1 hS (pw_ext hG) (by decide) rfl dX8_load_26 dX8_load_29 dX8_load_30 dX8_load_32 dX8_load_35 (Nat.le_of_ble_eq_true rfl) (Nat.le_of_ble_eq_true rfl) (Nat.le_of_ble_eq_true rfl) (Nat.le_of_ble_eq_true rfl) (Nat.le_of_ble_eq_true rfl) (Nat.le_of_ble_eq_true rfl)
def k_clamp (v1 v2 v3 v4 : Int32) (σ : St) : Nat × Int32 × St := if ix v1 (σ.1 1002 1) then (if ix v2 12 ∧ ix v3 12 then (if 1 ≤ v4.toInt ∧ v4.toInt ≤ 9 then (if ¬ (σ.2.1 206 (σ.2.2.1 1001 1 (tn v1))) = 0 then ((3, 0, σ)) else (if ¬ (σ.2.2.2 204 (σ.2.2.1 1001 1 (tn v1)) (tn v3 * 12 + tn v2)) = 0 then ((3, 0, σ)) else (if (σ.1 205 (σ.2.2.1 1001 1 (tn v1))) < 3 then ((0, nI ((σ.1 205 (σ.2.2.1 1001 1 (tn v1))) + 1), (wN (wB σ 204 (σ.2.2.1 1001 1 (tn v1)) (tn v3 * 12 + tn v2) v4) 205 (σ.2.2.1 1001 1 (tn v1)) ((σ.1 205 (σ.2.2.1 1001 1 (tn v1))) + 1)))) else ((3, 0, σ))))) else ((2, 0, σ))) else ((1, 0, σ))) else ((1, 0, σ))
set_option maxRecDepth 100000 in
set_option maxHeartbeats 4000000 in
theorem z_X8_clamp {D : va_G} {cI cZ cO : ClassId} (l : Launch) (hl9 : l.stackTraces = false) (L : Lay) (σ : St) (ow : Nat → Prop) (v1 v2 v3 v4 : Int32) (hcl : ∀ k, σ.1 205 k ≤ 3) (hI : CI σ) : ZI D cI cZ cO (cdom σ) l yX8_clamp cX8_clamp 7 ((some FieldType.int)) 7 142 3 18 [.ref (L 899 0), .int v1, .int v2, .int v3, .int v4] L σ ow (k_clamp v1 v2 v3 v4 σ).1 (k_clamp v1 v2 v3 v4 σ).2.1 (k_clamp v1 v2 v3 v4 σ).2.2 := by
  refine z_of (Qc := fun sz => YQi (k_clamp v1 v2 v3 v4 σ).1 (k_clamp v1 v2 v3 v4 σ).2.1 (PW D cI cZ cO (cdom σ) L (k_clamp v1 v2 v3 v4 σ).2.2 ow) (AA ow sz)) (XC := fun sz => YX (k_clamp v1 v2 v3 v4 σ).1 (PW D cI cZ cO (cdom σ) L (k_clamp v1 v2 v3 v4 σ).2.2 ow) (AA ow sz)) rfl (Nat.le_of_ble_eq_true rfl) ?_
  intro p e s m args below meth c ls X hex hK hG hX9 hr hlocks hl
  have X : CallFix p m c cX8_clamp 7 s _ TB RX8 := X
  have hx := X.1
  have hb := X.2.1
  have hS : va_S (AA ow s.heap.size) s.heap s.heap [] := va_S.rf
  have hA : ∀ q, ow q → AA ow s.heap.size q := fun _ h => Or.inl h
  have hA2 : ∀ q, AA ow s.heap.size q → AA ow s.heap.size q := fun _ h => h
  have hl : lv_has ls 7 [(0, .ref (L 899 0)), (1, .int v1), (2, .int v2), (3, .int v3), (4, .int v4)] := hl
  refine lv_aload_n hx hb dX8_clamp_0 rfl (lv_at hl 0 rfl) ?_
  refine lv_iload_n hx hb dX8_clamp_1 rfl (lv_at hl 1 rfl) ?_
  refine z_callqP (P := ix v1 (σ.1 1002 1)) X hK hG hS hA2 hX9 yvX8_palletAt ml_X8_141 kX8 rfl (cd_fix (by decide)) [.int v1] [] (z_X8_palletAt l hl9 L σ ow v1 hI) rfl hl.1 rfl (Nat.le_of_ble_eq_true rfl) ⟨Nat.le_of_ble_eq_true rfl, Nat.le_of_ble_eq_true rfl⟩ ⟨Nat.le_of_ble_eq_true rfl, Nat.le_of_ble_eq_true rfl⟩ dX8_clamp_2 (fun hz_2 H locs q ce hG hS hq hv hcl => ?_) (fun hz_2 H locs hG hS => ?_)
  · rw [show k_clamp v1 v2 v3 v4 σ = (1, 0, σ) from by unfold k_clamp; first | (rw [if_neg hz_2] <;> rfl) | simp only [if_neg hz_2]]
    exact y_out hex hlocks hG hS hq hv hcl (by decide) rfl (Nat.le_of_ble_eq_true rfl) (Nat.le_of_ble_eq_true rfl)
  refine lv_astore (lv' := [(5, .ref (L 299 (σ.2.2.1 1001 1 (tn v1)))), (0, .ref (L 899 0)), (1, .int v1), (2, .int v2), (3, .int v3), (4, .int v4)]) hx hb dX8_clamp_5 hl (by decide) rfl (fun ls hl => ?_)
  refine lv_aload_n hx hb dX8_clamp_7 rfl (lv_at hl 1 rfl) ?_
  refine lv_iload_n hx hb dX8_clamp_8 rfl (lv_at hl 3 rfl) ?_
  refine lv_iload_n hx hb dX8_clamp_9 rfl (lv_at hl 4 rfl) ?_
  refine z_calliP (P := ix v2 12 ∧ ix v3 12) X hK hG hS hA2 hX9 yvX8_cellAt ml_X8_145 kX8 rfl (cd_fix (by decide)) [.int v2, .int v3] [] (z_X8_cellAt l hl9 L σ ow v2 v3) rfl hl.1 rfl (Nat.le_of_ble_eq_true rfl) ⟨Nat.le_of_ble_eq_true rfl, Nat.le_of_ble_eq_true rfl⟩ ⟨Nat.le_of_ble_eq_true rfl, Nat.le_of_ble_eq_true rfl⟩ dX8_clamp_10 (fun hz_10 H locs q ce hG hS hq hv hcl => ?_) (fun hz_10 H locs hG hS => ?_)
  · rw [show k_clamp v1 v2 v3 v4 σ = (1, 0, σ) from by unfold k_clamp; first | (rw [if_pos hz_2, if_neg hz_10] <;> rfl) | simp only [if_pos hz_2, if_neg hz_10]]
    exact y_out hex hlocks hG hS hq hv hcl (by decide) rfl (Nat.le_of_ble_eq_true rfl) (Nat.le_of_ble_eq_true rfl)
  refine lv_istore (lv' := [(6, .int (nI (tn v3 * 12 + tn v2))), (5, .ref (L 299 (σ.2.2.1 1001 1 (tn v1)))), (0, .ref (L 899 0)), (1, .int v1), (2, .int v2), (3, .int v3), (4, .int v4)]) hx hb dX8_clamp_13 hl (by decide) rfl (fun ls hl => ?_)
  refine lv_iload hx hb dX8_clamp_15 (lv_at hl 6 rfl) ?_
  refine lv_iconst (v := nI 1) hx hb dX8_clamp_17 (by decide) ?_
  refine lv_bipush (v := nI 9) hx hb dX8_clamp_18 (by decide) ?_
  refine rm_callSg X hK hG hS hA2 ysX8_isWithin ml_X8_105 [.int v4, .int (nI 1), .int (nI 9)] [] (c_X8_isWithin l L σ ow v4 (nI 1) (nI 9)) rfl hl.1 rfl (Nat.le_of_ble_eq_true rfl) ⟨Nat.le_of_ble_eq_true rfl, Nat.le_of_ble_eq_true rfl⟩ ⟨Nat.le_of_ble_eq_true rfl, Nat.le_of_ble_eq_true rfl⟩ dX8_clamp_20 (fun H locs hG hS => ?_)
  refine r_top (y := b2i (1 ≤ v4.toInt ∧ v4.toInt ≤ 9)) (b2i_c (rg_i 1 9 rfl rfl)) ?_
  refine r_if_neB (tgt := 36) hx hb dX8_clamp_23 (by decide) (fun c_23 => ?_) (fun c_23 => ?_)
  · refine lv_aload hx hb dX8_clamp_36 (lv_at hl 1 rfl) ?_
    refine gt_X8_151 X hK hG (cd_obj (by decide) (Or.inl (by decide)) (hI.2 1 (by decide) _ (ix_lt hz_2))) (x := σ.2.1 206 (σ.2.2.1 1001 1 (tn v1))) rfl dX8_clamp_38 ?_
    refine lv_if_ne (tgt := 64) hx hb dX8_clamp_41 (by decide) (fun c_41 => ?_) (fun c_41 => ?_)
    · rw [show k_clamp v1 v2 v3 v4 σ = (3, 0, σ) from by unfold k_clamp; first | (rw [if_pos hz_2, if_pos hz_10, if_pos c_23, if_pos c_41] <;> rfl) | simp only [if_pos hz_2, if_pos hz_10, if_pos c_23, if_pos c_41]]
      exact y_throw (e8 := 3) (tx := "no clamp can be put there") hx X hl9 xw_3 hX9 (List.mem_of_getElem? (i := 14) rfl) hex hlocks hl.1 hS (pw_ext hG) (by decide) rfl dX8_clamp_64 dX8_clamp_67 dX8_clamp_68 dX8_clamp_70 dX8_clamp_73 (Nat.le_of_ble_eq_true rfl) (Nat.le_of_ble_eq_true rfl) (Nat.le_of_ble_eq_true rfl) (Nat.le_of_ble_eq_true rfl) (Nat.le_of_ble_eq_true rfl) (Nat.le_of_ble_eq_true rfl)
    · refine lv_aload hx hb dX8_clamp_44 (lv_at hl 1 rfl) ?_
      refine gt_X8_154 X hK hG (cd_obj (by decide) (Or.inl (by decide)) (hI.2 1 (by decide) _ (ix_lt hz_2))) dX8_clamp_46 ?_
      refine lv_iload hx hb dX8_clamp_49 (lv_at hl 0 rfl) ?_
      refine al_204 X hK hG (cd_obj (by decide) (Or.inr (by decide)) (hI.2 1 (by decide) _ (ix_lt hz_2))) (i := tn v3 * 12 + tn v2) (x := σ.2.2.2 204 (σ.2.2.1 1001 1 (tn v1)) (tn v3 * 12 + tn v2)) (by have := ix_lt hz_10.1; have := ix_lt hz_10.2; omega) rfl dX8_clamp_51 ?_
      refine lv_if_ne (tgt := 64) hx hb dX8_clamp_52 (by decide) (fun c_52 => ?_) (fun c_52 => ?_)
      · rw [show k_clamp v1 v2 v3 v4 σ = (3, 0, σ) from by unfold k_clamp; first | (rw [if_pos hz_2, if_pos hz_10, if_pos c_23, if_neg (not_not_intro9 c_41), if_pos c_52] <;> rfl) | simp only [if_pos hz_2, if_pos hz_10, if_pos c_23, if_neg (not_not_intro9 c_41), if_pos c_52]]
        exact y_throw (e8 := 3) (tx := "no clamp can be put there") hx X hl9 xw_3 hX9 (List.mem_of_getElem? (i := 14) rfl) hex hlocks hl.1 hS (pw_ext hG) (by decide) rfl dX8_clamp_64 dX8_clamp_67 dX8_clamp_68 dX8_clamp_70 dX8_clamp_73 (Nat.le_of_ble_eq_true rfl) (Nat.le_of_ble_eq_true rfl) (Nat.le_of_ble_eq_true rfl) (Nat.le_of_ble_eq_true rfl) (Nat.le_of_ble_eq_true rfl) (Nat.le_of_ble_eq_true rfl)
      · refine lv_aload hx hb dX8_clamp_55 (lv_at hl 1 rfl) ?_
        refine gt_X8_157 X hK hG (cd_obj (by decide) (Or.inl (by decide)) (hI.2 1 (by decide) _ (ix_lt hz_2))) (x := σ.1 205 (σ.2.2.1 1001 1 (tn v1))) rfl dX8_clamp_57 ?_
        refine lv_iconst (v := nI 3) hx hb dX8_clamp_60 (by decide) ?_
        refine r_icmp_ltN (tgt := 74) hx hb dX8_clamp_61 (by decide) (by have := hcl (σ.2.2.1 1001 1 (tn v1)); omega) (by decide) (fun c_61 => ?_) (fun c_61 => ?_)
        · refine lv_aload hx hb dX8_clamp_74 (lv_at hl 1 rfl) ?_
          refine gt_X8_154 X hK hG (cd_obj (by decide) (Or.inl (by decide)) (hI.2 1 (by decide) _ (ix_lt hz_2))) dX8_clamp_76 ?_
          refine lv_iload hx hb dX8_clamp_79 (lv_at hl 0 rfl) ?_
          refine lv_iload hx hb dX8_clamp_81 (lv_at hl 6 rfl) ?_
          refine as_204 X hK hG hS hA (cd_obj (by decide) (Or.inr (by decide)) (hI.2 1 (by decide) _ (ix_lt hz_2))) (i := tn v3 * 12 + tn v2) (by have := ix_lt hz_10.1; have := ix_lt hz_10.2; omega) dX8_clamp_83 (fun H locs hG hS => ?_)
          refine lv_aload hx hb dX8_clamp_84 (lv_at hl 1 rfl) ?_
          refine lv_dup hx hb dX8_clamp_86 rfl ?_
          refine gt_X8_157 X hK hG (cd_obj (by decide) (Or.inl (by decide)) (hI.2 1 (by decide) _ (ix_lt hz_2))) (x := σ.1 205 (σ.2.2.1 1001 1 (tn v1))) rfl dX8_clamp_87 ?_
          refine lv_iconst (v := nI 1) hx hb dX8_clamp_90 (by decide) ?_
          refine r_addN hx hb dX8_clamp_91 ?_
          refine pt_X8_157 X hK hG hS hA (cd_obj (by decide) (Or.inl (by decide)) (hI.2 1 (by decide) _ (ix_lt hz_2))) dX8_clamp_92 (fun H locs hG hS => ?_)
          refine lv_aload hx hb dX8_clamp_95 (lv_at hl 1 rfl) ?_
          refine gt_X8_157 X hK hG (cd_obj (by decide) (Or.inl (by decide)) (hI.2 1 (by decide) _ (ix_lt hz_2))) (x := (σ.1 205 (σ.2.2.1 1001 1 (tn v1))) + 1) (by simp [wN, wI, wA, wB, up2, up1]) dX8_clamp_97 ?_
          rw [show k_clamp v1 v2 v3 v4 σ = (0, nI ((σ.1 205 (σ.2.2.1 1001 1 (tn v1))) + 1), (wN (wB σ 204 (σ.2.2.1 1001 1 (tn v1)) (tn v3 * 12 + tn v2) v4) 205 (σ.2.2.1 1001 1 (tn v1)) ((σ.1 205 (σ.2.2.1 1001 1 (tn v1))) + 1))) from by unfold k_clamp; first | (rw [if_pos hz_2, if_pos hz_10, if_pos c_23, if_neg (not_not_intro9 c_41), if_neg (not_not_intro9 c_52), if_pos c_61] <;> rfl) | simp only [if_pos hz_2, if_pos hz_10, if_pos c_23, if_neg (not_not_intro9 c_41), if_neg (not_not_intro9 c_52), if_pos c_61]]
          exact y_reti hx hb hr hlocks hG hS rfl rfl rfl (Nat.le_of_ble_eq_true rfl) (Nat.le_of_ble_eq_true rfl) dX8_clamp_100
        · rw [show k_clamp v1 v2 v3 v4 σ = (3, 0, σ) from by unfold k_clamp; first | (rw [if_pos hz_2, if_pos hz_10, if_pos c_23, if_neg (not_not_intro9 c_41), if_neg (not_not_intro9 c_52), if_neg (Nat.not_lt.mpr c_61)] <;> rfl) | simp only [if_pos hz_2, if_pos hz_10, if_pos c_23, if_neg (not_not_intro9 c_41), if_neg (not_not_intro9 c_52), if_neg (Nat.not_lt.mpr c_61)]]
          exact y_throw (e8 := 3) (tx := "no clamp can be put there") hx X hl9 xw_3 hX9 (List.mem_of_getElem? (i := 14) rfl) hex hlocks hl.1 hS (pw_ext hG) (by decide) rfl dX8_clamp_64 dX8_clamp_67 dX8_clamp_68 dX8_clamp_70 dX8_clamp_73 (Nat.le_of_ble_eq_true rfl) (Nat.le_of_ble_eq_true rfl) (Nat.le_of_ble_eq_true rfl) (Nat.le_of_ble_eq_true rfl) (Nat.le_of_ble_eq_true rfl) (Nat.le_of_ble_eq_true rfl)
  · rw [show k_clamp v1 v2 v3 v4 σ = (2, 0, σ) from by unfold k_clamp; first | (rw [if_pos hz_2, if_pos hz_10, if_neg c_23] <;> rfl) | simp only [if_pos hz_2, if_pos hz_10, if_neg c_23]]
    exact y_throw (e8 := 2) (tx := "height") hx X hl9 xw_2 hX9 (List.mem_of_getElem? (i := 13) rfl) hex hlocks hl.1 hS (pw_ext hG) (by decide) rfl dX8_clamp_26 dX8_clamp_29 dX8_clamp_30 dX8_clamp_32 dX8_clamp_35 (Nat.le_of_ble_eq_true rfl) (Nat.le_of_ble_eq_true rfl) (Nat.le_of_ble_eq_true rfl) (Nat.le_of_ble_eq_true rfl) (Nat.le_of_ble_eq_true rfl) (Nat.le_of_ble_eq_true rfl)
def k_idle (v1 : Int32) (σ : St) : Nat × Int32 × St := if 1 ≤ v1.toInt ∧ v1.toInt ≤ 500 then (if ((σ.1 811 0) + (tn v1)) ≤ 1000000 then ((0, nI ((σ.1 811 0) + (tn v1)), (wN (wN σ 811 0 ((σ.1 811 0) + (tn v1))) 812 0 (σ.1 812 0 - tn v1)))) else ((3, 0, σ))) else ((2, 0, σ))
set_option maxRecDepth 100000 in
set_option maxHeartbeats 4000000 in
theorem z_X8_idle {D : va_G} {cI cZ cO : ClassId} (l : Launch) (hl9 : l.stackTraces = false) (L : Lay) (σ : St) (ow : Nat → Prop) (v1 : Int32) (hm : σ.1 811 0 ≤ 1100000) (hw : σ.1 812 0 ≤ 99) (hI : CI σ) : ZI D cI cZ cO (cdom σ) l yX8_idle cX8_idle 2 ((some FieldType.int)) 6 90 1 6 [.ref (L 899 0), .int v1] L σ ow (k_idle v1 σ).1 (k_idle v1 σ).2.1 (k_idle v1 σ).2.2 := by
  refine z_of (Qc := fun sz => YQi (k_idle v1 σ).1 (k_idle v1 σ).2.1 (PW D cI cZ cO (cdom σ) L (k_idle v1 σ).2.2 ow) (AA ow sz)) (XC := fun sz => YX (k_idle v1 σ).1 (PW D cI cZ cO (cdom σ) L (k_idle v1 σ).2.2 ow) (AA ow sz)) rfl (Nat.le_of_ble_eq_true rfl) ?_
  intro p e s m args below meth c ls X hex hK hG hX9 hr hlocks hl
  have X : CallFix p m c cX8_idle 2 s _ TB RX8 := X
  have hx := X.1
  have hb := X.2.1
  have hS : va_S (AA ow s.heap.size) s.heap s.heap [] := va_S.rf
  have hA : ∀ q, ow q → AA ow s.heap.size q := fun _ h => Or.inl h
  have hA2 : ∀ q, AA ow s.heap.size q → AA ow s.heap.size q := fun _ h => h
  have hl : lv_has ls 2 [(0, .ref (L 899 0)), (1, .int v1)] := hl
  refine lv_iload_n hx hb dX8_idle_0 rfl (lv_at hl 1 rfl) ?_
  refine lv_iconst (v := nI 1) hx hb dX8_idle_1 (by decide) ?_
  refine lv_sipush (v := nI 500) hx hb dX8_idle_2 (by decide) ?_
  refine rm_callSg X hK hG hS hA2 ysX8_isWithin ml_X8_105 [.int v1, .int (nI 1), .int (nI 500)] [] (c_X8_isWithin l L σ ow v1 (nI 1) (nI 500)) rfl hl.1 rfl (Nat.le_of_ble_eq_true rfl) ⟨Nat.le_of_ble_eq_true rfl, Nat.le_of_ble_eq_true rfl⟩ ⟨Nat.le_of_ble_eq_true rfl, Nat.le_of_ble_eq_true rfl⟩ dX8_idle_5 (fun H locs hG hS => ?_)
  refine r_top (y := b2i (1 ≤ v1.toInt ∧ v1.toInt ≤ 500)) (b2i_c (rg_i 1 500 rfl rfl)) ?_
  refine r_if_neB (tgt := 21) hx hb dX8_idle_8 (by decide) (fun c_8 => ?_) (fun c_8 => ?_)
  · refine lv_aload_n hx hb dX8_idle_21 rfl (lv_at hl 0 rfl) ?_
    refine gt_X8_216 X hK hG (cd_fix (by decide)) (x := σ.1 811 0) rfl dX8_idle_22 ?_
    refine lv_iload_n hx hb dX8_idle_25 rfl (lv_at hl 1 rfl) ?_
    refine r_top (y := nI (tn v1)) (ix_eq (n := 501) (by have := c_8; exact ⟨by omega, by omega⟩)) ?_
    refine r_addN hx hb dX8_idle_26 ?_
    refine lv_ldc (v := 1000000) hx hb X.2.2.2.1 (X.2.2.2.2 _ tw_4_59) dX8_idle_27 ?_
    refine r_top (y := nI 1000000) (by decide) ?_
    refine r_icmp_leN (tgt := 42) hx hb dX8_idle_29 (by decide) (by unfold tn; have := c_8; omega) (by decide) (fun c_29 => ?_) (fun c_29 => ?_)
    · refine lv_aload_n hx hb dX8_idle_42 rfl (lv_at hl 0 rfl) ?_
      refine lv_dup hx hb dX8_idle_43 rfl ?_
      refine gt_X8_216 X hK hG (cd_fix (by decide)) (x := σ.1 811 0) rfl dX8_idle_44 ?_
      refine lv_iload_n hx hb dX8_idle_47 rfl (lv_at hl 1 rfl) ?_
      refine r_top (y := nI (tn v1)) (ix_eq (n := 501) (by have := c_8; exact ⟨by omega, by omega⟩)) ?_
      refine r_addN hx hb dX8_idle_48 ?_
      refine pt_X8_216 X hK hG hS hA (cd_fix (by decide)) dX8_idle_49 (fun H locs hG hS => ?_)
      refine lv_aload_n hx hb dX8_idle_52 rfl (lv_at hl 0 rfl) ?_
      refine lv_iconst (v := nI 0) hx hb dX8_idle_53 (by decide) ?_
      refine lv_aload_n hx hb dX8_idle_54 rfl (lv_at hl 0 rfl) ?_
      refine gt_X8_222 X hK hG (cd_fix (by decide)) (x := σ.1 812 0) rfl dX8_idle_55 ?_
      refine lv_iload_n hx hb dX8_idle_58 rfl (lv_at hl 1 rfl) ?_
      refine r_top (y := nI (tn v1)) (ix_eq (n := 501) (by have := c_8; exact ⟨by omega, by omega⟩)) ?_
      refine lv_isub hx hb dX8_idle_59 ?_
      refine r_max X hl.1 ml_X8_209 (Nat.le_of_ble_eq_true rfl) (Nat.le_of_ble_eq_true rfl) (Nat.le_of_ble_eq_true rfl) (Nat.le_of_ble_eq_true rfl) dX8_idle_60 ?_
      refine r_top (y := nI (σ.1 812 0 - tn v1)) (max_sub (by omega) (by unfold tn; have := c_8; omega)) ?_
      refine pt_X8_222 X hK hG hS hA (cd_fix (by decide)) dX8_idle_63 (fun H locs hG hS => ?_)
      refine lv_aload_n hx hb dX8_idle_66 rfl (lv_at hl 0 rfl) ?_
      refine gt_X8_216 X hK hG (cd_fix (by decide)) (x := (σ.1 811 0) + (tn v1)) rfl dX8_idle_67 ?_
      rw [show k_idle v1 σ = (0, nI ((σ.1 811 0) + (tn v1)), (wN (wN σ 811 0 ((σ.1 811 0) + (tn v1))) 812 0 (σ.1 812 0 - tn v1))) from by unfold k_idle; first | (rw [if_pos c_8, if_pos c_29] <;> rfl) | simp only [if_pos c_8, if_pos c_29]]
      exact y_reti hx hb hr hlocks hG hS rfl rfl rfl (Nat.le_of_ble_eq_true rfl) (Nat.le_of_ble_eq_true rfl) dX8_idle_70
    · rw [show k_idle v1 σ = (3, 0, σ) from by unfold k_idle; first | (rw [if_pos c_8, if_neg (Nat.not_le.mpr c_29)] <;> rfl) | simp only [if_pos c_8, if_neg (Nat.not_le.mpr c_29)]]
      exact y_throw (e8 := 3) (tx := "too late") hx X hl9 xw_3 hX9 (List.mem_of_getElem? (i := 18) rfl) hex hlocks hl.1 hS (pw_ext hG) (by decide) rfl dX8_idle_32 dX8_idle_35 dX8_idle_36 dX8_idle_38 dX8_idle_41 (Nat.le_of_ble_eq_true rfl) (Nat.le_of_ble_eq_true rfl) (Nat.le_of_ble_eq_true rfl) (Nat.le_of_ble_eq_true rfl) (Nat.le_of_ble_eq_true rfl) (Nat.le_of_ble_eq_true rfl)
  · rw [show k_idle v1 σ = (2, 0, σ) from by unfold k_idle; first | (rw [if_neg c_8] <;> rfl) | simp only [if_neg c_8]]
    exact y_throw (e8 := 2) (tx := "minutes") hx X hl9 xw_2 hX9 (List.mem_of_getElem? (i := 17) rfl) hex hlocks hl.1 hS (pw_ext hG) (by decide) rfl dX8_idle_11 dX8_idle_14 dX8_idle_15 dX8_idle_17 dX8_idle_20 (Nat.le_of_ble_eq_true rfl) (Nat.le_of_ble_eq_true rfl) (Nat.le_of_ble_eq_true rfl) (Nat.le_of_ble_eq_true rfl) (Nat.le_of_ble_eq_true rfl) (Nat.le_of_ble_eq_true rfl)
def k_calibrate (v1 v2 : Int32) (σ : St) : Nat × Int32 × St := if ix v1 (σ.1 1002 3) then (if 0 ≤ v2.toInt ∧ v2.toInt ≤ 30 then ((0, nI (((σ.1 811 0) + 1000) - 1), (wI (wI σ 100 (σ.2.2.1 1001 3 (tn v1)) (nI (σ.1 811 0))) 101 (σ.2.2.1 1001 3 (tn v1)) v2))) else ((2, 0, σ))) else ((1, 0, σ))
set_option maxRecDepth 100000 in
set_option maxHeartbeats 4000000 in
theorem z_X8_calibrate {D : va_G} {cI cZ cO : ClassId} (l : Launch) (hl9 : l.stackTraces = false) (L : Lay) (σ : St) (ow : Nat → Prop) (v1 v2 : Int32) (hI : CI σ) : ZI D cI cZ cO (cdom σ) l yX8_calibrate cX8_calibrate 4 ((some FieldType.int)) 7 142 2 12 [.ref (L 899 0), .int v1, .int v2] L σ ow (k_calibrate v1 v2 σ).1 (k_calibrate v1 v2 σ).2.1 (k_calibrate v1 v2 σ).2.2 := by
  refine z_of (Qc := fun sz => YQi (k_calibrate v1 v2 σ).1 (k_calibrate v1 v2 σ).2.1 (PW D cI cZ cO (cdom σ) L (k_calibrate v1 v2 σ).2.2 ow) (AA ow sz)) (XC := fun sz => YX (k_calibrate v1 v2 σ).1 (PW D cI cZ cO (cdom σ) L (k_calibrate v1 v2 σ).2.2 ow) (AA ow sz)) rfl (Nat.le_of_ble_eq_true rfl) ?_
  intro p e s m args below meth c ls X hex hK hG hX9 hr hlocks hl
  have X : CallFix p m c cX8_calibrate 4 s _ TB RX8 := X
  have hx := X.1
  have hb := X.2.1
  have hS : va_S (AA ow s.heap.size) s.heap s.heap [] := va_S.rf
  have hA : ∀ q, ow q → AA ow s.heap.size q := fun _ h => Or.inl h
  have hA2 : ∀ q, AA ow s.heap.size q → AA ow s.heap.size q := fun _ h => h
  have hl : lv_has ls 4 [(0, .ref (L 899 0)), (1, .int v1), (2, .int v2)] := hl
  refine lv_aload_n hx hb dX8_calibrate_0 rfl (lv_at hl 0 rfl) ?_
  refine lv_iload_n hx hb dX8_calibrate_1 rfl (lv_at hl 1 rfl) ?_
  refine z_callqP (P := ix v1 (σ.1 1002 3)) X hK hG hS hA2 hX9 yvX8_gaugeAt ml_X8_225 kX8 rfl (cd_fix (by decide)) [.int v1] [] (z_X8_gaugeAt l hl9 L σ ow v1 hI) rfl hl.1 rfl (Nat.le_of_ble_eq_true rfl) ⟨Nat.le_of_ble_eq_true rfl, Nat.le_of_ble_eq_true rfl⟩ ⟨Nat.le_of_ble_eq_true rfl, Nat.le_of_ble_eq_true rfl⟩ dX8_calibrate_2 (fun hz_2 H locs q ce hG hS hq hv hcl => ?_) (fun hz_2 H locs hG hS => ?_)
  · rw [show k_calibrate v1 v2 σ = (1, 0, σ) from by unfold k_calibrate; first | (rw [if_neg hz_2] <;> rfl) | simp only [if_neg hz_2]]
    exact y_out hex hlocks hG hS hq hv hcl (by decide) rfl (Nat.le_of_ble_eq_true rfl) (Nat.le_of_ble_eq_true rfl)
  refine lv_astore_n (lv' := [(3, .ref (L 199 (σ.2.2.1 1001 3 (tn v1)))), (0, .ref (L 899 0)), (1, .int v1), (2, .int v2)]) hx hb dX8_calibrate_5 rfl hl (by decide) rfl (fun ls hl => ?_)
  refine lv_iload_n hx hb dX8_calibrate_6 rfl (lv_at hl 3 rfl) ?_
  refine lv_iconst (v := nI 0) hx hb dX8_calibrate_7 (by decide) ?_
  refine lv_bipush (v := nI 30) hx hb dX8_calibrate_8 (by decide) ?_
  refine rm_callSg X hK hG hS hA2 ysX8_isWithin ml_X8_105 [.int v2, .int (nI 0), .int (nI 30)] [] (c_X8_isWithin l L σ ow v2 (nI 0) (nI 30)) rfl hl.1 rfl (Nat.le_of_ble_eq_true rfl) ⟨Nat.le_of_ble_eq_true rfl, Nat.le_of_ble_eq_true rfl⟩ ⟨Nat.le_of_ble_eq_true rfl, Nat.le_of_ble_eq_true rfl⟩ dX8_calibrate_10 (fun H locs hG hS => ?_)
  refine r_top (y := b2i (0 ≤ v2.toInt ∧ v2.toInt ≤ 30)) (b2i_c (rg_i 0 30 rfl rfl)) ?_
  refine r_if_neB (tgt := 26) hx hb dX8_calibrate_13 (by decide) (fun c_13 => ?_) (fun c_13 => ?_)
  · refine lv_aload_n hx hb dX8_calibrate_26 rfl (lv_at hl 0 rfl) ?_
    refine lv_aload_n hx hb dX8_calibrate_27 rfl (lv_at hl 1 rfl) ?_
    refine gt_X8_216 X hK hG (cd_fix (by decide)) (x := σ.1 811 0) rfl dX8_calibrate_28 ?_
    refine pt_X8_231 X hK hG hS hA (cd_obj (by decide) (Or.inl (by decide)) (hI.2 3 (by decide) _ (ix_lt hz_2))) dX8_calibrate_31 (fun H locs hG hS => ?_)
    refine lv_aload_n hx hb dX8_calibrate_34 rfl (lv_at hl 0 rfl) ?_
    refine lv_iload_n hx hb dX8_calibrate_35 rfl (lv_at hl 3 rfl) ?_
    refine pt_X8_234 X hK hG hS hA (cd_obj (by decide) (Or.inl (by decide)) (hI.2 3 (by decide) _ (ix_lt hz_2))) dX8_calibrate_36 (fun H locs hG hS => ?_)
    refine lv_aload_n hx hb dX8_calibrate_39 rfl (lv_at hl 1 rfl) ?_
    refine gt_X8_216 X hK hG (cd_fix (by decide)) (x := σ.1 811 0) rfl dX8_calibrate_40 ?_
    refine lv_sipush (v := nI 1000) hx hb dX8_calibrate_43 (by decide) ?_
    refine r_addN hx hb dX8_calibrate_46 ?_
    refine lv_iconst (v := nI 1) hx hb dX8_calibrate_47 (by decide) ?_
    refine r_subN hx hb (by omega) dX8_calibrate_48 ?_
    rw [show k_calibrate v1 v2 σ = (0, nI (((σ.1 811 0) + 1000) - 1), (wI (wI σ 100 (σ.2.2.1 1001 3 (tn v1)) (nI (σ.1 811 0))) 101 (σ.2.2.1 1001 3 (tn v1)) v2)) from by unfold k_calibrate; first | (rw [if_pos hz_2, if_pos c_13] <;> rfl) | simp only [if_pos hz_2, if_pos c_13]]
    exact y_reti hx hb hr hlocks hG hS rfl rfl rfl (Nat.le_of_ble_eq_true rfl) (Nat.le_of_ble_eq_true rfl) dX8_calibrate_49
  · rw [show k_calibrate v1 v2 σ = (2, 0, σ) from by unfold k_calibrate; first | (rw [if_pos hz_2, if_neg c_13] <;> rfl) | simp only [if_pos hz_2, if_neg c_13]]
    exact y_throw (e8 := 2) (tx := "doubt") hx X hl9 xw_2 hX9 (List.mem_of_getElem? (i := 20) rfl) hex hlocks hl.1 hS (pw_ext hG) (by decide) rfl dX8_calibrate_16 dX8_calibrate_19 dX8_calibrate_20 dX8_calibrate_22 dX8_calibrate_25 (Nat.le_of_ble_eq_true rfl) (Nat.le_of_ble_eq_true rfl) (Nat.le_of_ble_eq_true rfl) (Nat.le_of_ble_eq_true rfl) (Nat.le_of_ble_eq_true rfl) (Nat.le_of_ble_eq_true rfl)
def k_feature (v1 v2 v3 v4 v5 : Int32) (σ : St) : Nat × Int32 × St := if ix v1 (σ.1 1002 4) then (if ix v2 12 ∧ ix v3 12 then (if ¬ (0 ≤ v4.toInt ∧ v4.toInt ≤ 9) then ((2, 0, σ)) else (if 1 ≤ v5.toInt ∧ v5.toInt ≤ 99 then (if (σ.1 5 (σ.2.2.1 1001 4 (tn v1))) < 6 then ((0, nI ((σ.1 5 (σ.2.2.1 1001 4 (tn v1))) + 1), (wN (wA (wA (wA σ 0 (σ.2.2.1 1001 4 (tn v1)) (σ.1 5 (σ.2.2.1 1001 4 (tn v1))) (tn v3 * 12 + tn v2)) 1 (σ.2.2.1 1001 4 (tn v1)) (σ.1 5 (σ.2.2.1 1001 4 (tn v1))) (tn v4)) 2 (σ.2.2.1 1001 4 (tn v1)) (σ.1 5 (σ.2.2.1 1001 4 (tn v1))) (tn v5)) 5 (σ.2.2.1 1001 4 (tn v1)) ((σ.1 5 (σ.2.2.1 1001 4 (tn v1))) + 1)))) else ((3, 0, σ))) else ((2, 0, σ)))) else ((1, 0, σ))) else ((1, 0, σ))
set_option maxRecDepth 100000 in
set_option maxHeartbeats 4000000 in
theorem z_X8_feature {D : va_G} {cI cZ cO : ClassId} (l : Launch) (hl9 : l.stackTraces = false) (L : Lay) (σ : St) (ow : Nat → Prop) (v1 v2 v3 v4 v5 : Int32) (h5 : ∀ k, σ.1 5 k ≤ 6) (hI : CI σ) : ZI D cI cZ cO (cdom σ) l yX8_feature cX8_feature 8 ((some FieldType.int)) 7 142 3 18 [.ref (L 899 0), .int v1, .int v2, .int v3, .int v4, .int v5] L σ ow (k_feature v1 v2 v3 v4 v5 σ).1 (k_feature v1 v2 v3 v4 v5 σ).2.1 (k_feature v1 v2 v3 v4 v5 σ).2.2 := by
  refine z_of (Qc := fun sz => YQi (k_feature v1 v2 v3 v4 v5 σ).1 (k_feature v1 v2 v3 v4 v5 σ).2.1 (PW D cI cZ cO (cdom σ) L (k_feature v1 v2 v3 v4 v5 σ).2.2 ow) (AA ow sz)) (XC := fun sz => YX (k_feature v1 v2 v3 v4 v5 σ).1 (PW D cI cZ cO (cdom σ) L (k_feature v1 v2 v3 v4 v5 σ).2.2 ow) (AA ow sz)) rfl (Nat.le_of_ble_eq_true rfl) ?_
  intro p e s m args below meth c ls X hex hK hG hX9 hr hlocks hl
  have X : CallFix p m c cX8_feature 8 s _ TB RX8 := X
  have hx := X.1
  have hb := X.2.1
  have hS : va_S (AA ow s.heap.size) s.heap s.heap [] := va_S.rf
  have hA : ∀ q, ow q → AA ow s.heap.size q := fun _ h => Or.inl h
  have hA2 : ∀ q, AA ow s.heap.size q → AA ow s.heap.size q := fun _ h => h
  have hl : lv_has ls 8 [(0, .ref (L 899 0)), (1, .int v1), (2, .int v2), (3, .int v3), (4, .int v4), (5, .int v5)] := hl
  refine lv_aload_n hx hb dX8_feature_0 rfl (lv_at hl 0 rfl) ?_
  refine lv_iload_n hx hb dX8_feature_1 rfl (lv_at hl 1 rfl) ?_
  refine z_callqP (P := ix v1 (σ.1 1002 4)) X hK hG hS hA2 hX9 yvX8_drawingAt ml_X8_241 kX8 rfl (cd_fix (by decide)) [.int v1] [] (z_X8_drawingAt l hl9 L σ ow v1 hI) rfl hl.1 rfl (Nat.le_of_ble_eq_true rfl) ⟨Nat.le_of_ble_eq_true rfl, Nat.le_of_ble_eq_true rfl⟩ ⟨Nat.le_of_ble_eq_true rfl, Nat.le_of_ble_eq_true rfl⟩ dX8_feature_2 (fun hz_2 H locs q ce hG hS hq hv hcl => ?_) (fun hz_2 H locs hG hS => ?_)
  · rw [show k_feature v1 v2 v3 v4 v5 σ = (1, 0, σ) from by unfold k_feature; first | (rw [if_neg hz_2] <;> rfl) | simp only [if_neg hz_2]]
    exact y_out hex hlocks hG hS hq hv hcl (by decide) rfl (Nat.le_of_ble_eq_true rfl) (Nat.le_of_ble_eq_true rfl)
  refine lv_astore (lv' := [(6, .ref (L 99 (σ.2.2.1 1001 4 (tn v1)))), (0, .ref (L 899 0)), (1, .int v1), (2, .int v2), (3, .int v3), (4, .int v4), (5, .int v5)]) hx hb dX8_feature_5 hl (by decide) rfl (fun ls hl => ?_)
  refine lv_aload_n hx hb dX8_feature_7 rfl (lv_at hl 1 rfl) ?_
  refine lv_iload_n hx hb dX8_feature_8 rfl (lv_at hl 3 rfl) ?_
  refine lv_iload_n hx hb dX8_feature_9 rfl (lv_at hl 4 rfl) ?_
  refine z_calliP (P := ix v2 12 ∧ ix v3 12) X hK hG hS hA2 hX9 yvX8_cellAt ml_X8_145 kX8 rfl (cd_fix (by decide)) [.int v2, .int v3] [] (z_X8_cellAt l hl9 L σ ow v2 v3) rfl hl.1 rfl (Nat.le_of_ble_eq_true rfl) ⟨Nat.le_of_ble_eq_true rfl, Nat.le_of_ble_eq_true rfl⟩ ⟨Nat.le_of_ble_eq_true rfl, Nat.le_of_ble_eq_true rfl⟩ dX8_feature_10 (fun hz_10 H locs q ce hG hS hq hv hcl => ?_) (fun hz_10 H locs hG hS => ?_)
  · rw [show k_feature v1 v2 v3 v4 v5 σ = (1, 0, σ) from by unfold k_feature; first | (rw [if_pos hz_2, if_neg hz_10] <;> rfl) | simp only [if_pos hz_2, if_neg hz_10]]
    exact y_out hex hlocks hG hS hq hv hcl (by decide) rfl (Nat.le_of_ble_eq_true rfl) (Nat.le_of_ble_eq_true rfl)
  refine lv_istore (lv' := [(7, .int (nI (tn v3 * 12 + tn v2))), (6, .ref (L 99 (σ.2.2.1 1001 4 (tn v1)))), (0, .ref (L 899 0)), (1, .int v1), (2, .int v2), (3, .int v3), (4, .int v4), (5, .int v5)]) hx hb dX8_feature_13 hl (by decide) rfl (fun ls hl => ?_)
  refine lv_iload hx hb dX8_feature_15 (lv_at hl 6 rfl) ?_
  refine lv_iconst (v := nI 0) hx hb dX8_feature_17 (by decide) ?_
  refine lv_bipush (v := nI 9) hx hb dX8_feature_18 (by decide) ?_
  refine rm_callSg X hK hG hS hA2 ysX8_isWithin ml_X8_105 [.int v4, .int (nI 0), .int (nI 9)] [] (c_X8_isWithin l L σ ow v4 (nI 0) (nI 9)) rfl hl.1 rfl (Nat.le_of_ble_eq_true rfl) ⟨Nat.le_of_ble_eq_true rfl, Nat.le_of_ble_eq_true rfl⟩ ⟨Nat.le_of_ble_eq_true rfl, Nat.le_of_ble_eq_true rfl⟩ dX8_feature_20 (fun H locs hG hS => ?_)
  refine r_top (y := b2i (0 ≤ v4.toInt ∧ v4.toInt ≤ 9)) (b2i_c (rg_i 0 9 rfl rfl)) ?_
  refine r_if_eqB (tgt := 37) hx hb dX8_feature_23 (by decide) (fun c_23 => ?_) (fun c_23 => ?_)
  · rw [show k_feature v1 v2 v3 v4 v5 σ = (2, 0, σ) from by unfold k_feature; first | (rw [if_pos hz_2, if_pos hz_10, if_pos c_23] <;> rfl) | simp only [if_pos hz_2, if_pos hz_10, if_pos c_23]]
    exact y_throw (e8 := 2) (tx := "height or tolerance") hx X hl9 xw_2 hX9 (List.mem_of_getElem? (i := 23) rfl) hex hlocks hl.1 hS (pw_ext hG) (by decide) rfl dX8_feature_37 dX8_feature_40 dX8_feature_41 dX8_feature_43 dX8_feature_46 (Nat.le_of_ble_eq_true rfl) (Nat.le_of_ble_eq_true rfl) (Nat.le_of_ble_eq_true rfl) (Nat.le_of_ble_eq_true rfl) (Nat.le_of_ble_eq_true rfl) (Nat.le_of_ble_eq_true rfl)
  · refine lv_iload hx hb dX8_feature_26 (lv_at hl 7 rfl) ?_
    refine lv_iconst (v := nI 1) hx hb dX8_feature_28 (by decide) ?_
    refine lv_bipush (v := nI 99) hx hb dX8_feature_29 (by decide) ?_
    refine rm_callSg X hK hG hS hA2 ysX8_isWithin ml_X8_105 [.int v5, .int (nI 1), .int (nI 99)] [] (c_X8_isWithin l L σ ow v5 (nI 1) (nI 99)) rfl hl.1 rfl (Nat.le_of_ble_eq_true rfl) ⟨Nat.le_of_ble_eq_true rfl, Nat.le_of_ble_eq_true rfl⟩ ⟨Nat.le_of_ble_eq_true rfl, Nat.le_of_ble_eq_true rfl⟩ dX8_feature_31 (fun H locs hG hS => ?_)
    refine r_top (y := b2i (1 ≤ v5.toInt ∧ v5.toInt ≤ 99)) (b2i_c (rg_i 1 99 rfl rfl)) ?_
    refine r_if_neB (tgt := 47) hx hb dX8_feature_34 (by decide) (fun c_34 => ?_) (fun c_34 => ?_)
    · refine lv_aload hx hb dX8_feature_47 (lv_at hl 1 rfl) ?_
      refine gt_X8_247 X hK hG (cd_obj (by decide) (Or.inl (by decide)) (hI.2 4 (by decide) _ (ix_lt hz_2))) (x := σ.1 5 (σ.2.2.1 1001 4 (tn v1))) rfl dX8_feature_49 ?_
      refine lv_bipush (v := nI 6) hx hb dX8_feature_52 (by decide) ?_
      refine r_icmp_ltN (tgt := 67) hx hb dX8_feature_54 (by decide) (by have := h5 (σ.2.2.1 1001 4 (tn v1)); omega) (by decide) (fun c_54 => ?_) (fun c_54 => ?_)
      · refine lv_aload hx hb dX8_feature_67 (lv_at hl 1 rfl) ?_
        refine lv_iload hx hb dX8_feature_69 (lv_at hl 0 rfl) ?_
        refine lv_iload hx hb dX8_feature_71 (lv_at hl 6 rfl) ?_
        refine r_top (y := nI (tn v4)) (ix_eq (n := 10) (by have := c_23; exact ⟨by omega, by omega⟩)) ?_
        refine lv_iload hx hb dX8_feature_73 (lv_at hl 7 rfl) ?_
        refine r_top (y := nI (tn v5)) (ix_eq (n := 100) (by have := c_34; exact ⟨by omega, by omega⟩)) ?_
        refine rv_callVg X hK hG hS hA2 yvX0_append ml_X8_250 kX0 rfl (cd_obj (by decide) (Or.inl (by decide)) (hI.2 4 (by decide) _ (ix_lt hz_2))) [.int (nI (tn v3 * 12 + tn v2)), .int (nI (tn v4)), .int (nI (tn v5))] [] (c_X0_append l L σ ow (σ.2.2.1 1001 4 (tn v1)) (cd_objs (C := 0) (by decide) (hI.2 4 (by decide) _ (ix_lt hz_2))) (tn v3 * 12 + tn v2) (tn v4) (tn v5) (by have := h5 (σ.2.2.1 1001 4 (tn v1)); omega)) rfl hl.1 rfl (Nat.le_of_ble_eq_true rfl) ⟨Nat.le_of_ble_eq_true rfl, Nat.le_of_ble_eq_true rfl⟩ ⟨Nat.le_of_ble_eq_true rfl, Nat.le_of_ble_eq_true rfl⟩ dX8_feature_75 (fun H locs hG hS => ?_)
        rw [show k_dapp (σ.2.2.1 1001 4 (tn v1)) (tn v3 * 12 + tn v2) (tn v4) (tn v5) σ = (wN (wA (wA (wA σ 0 (σ.2.2.1 1001 4 (tn v1)) (σ.1 5 (σ.2.2.1 1001 4 (tn v1))) (tn v3 * 12 + tn v2)) 1 (σ.2.2.1 1001 4 (tn v1)) (σ.1 5 (σ.2.2.1 1001 4 (tn v1))) (tn v4)) 2 (σ.2.2.1 1001 4 (tn v1)) (σ.1 5 (σ.2.2.1 1001 4 (tn v1))) (tn v5)) 5 (σ.2.2.1 1001 4 (tn v1)) ((σ.1 5 (σ.2.2.1 1001 4 (tn v1))) + 1)) from if_neg (Nat.not_le.mpr c_54)] at hG
        refine lv_aload hx hb dX8_feature_78 (lv_at hl 1 rfl) ?_
        refine gt_X8_247 X hK hG (cd_obj (by decide) (Or.inl (by decide)) (hI.2 4 (by decide) _ (ix_lt hz_2))) (x := (σ.1 5 (σ.2.2.1 1001 4 (tn v1))) + 1) (by simp [wN, wI, wA, wB, up2, up1]) dX8_feature_80 ?_
        rw [show k_feature v1 v2 v3 v4 v5 σ = (0, nI ((σ.1 5 (σ.2.2.1 1001 4 (tn v1))) + 1), (wN (wA (wA (wA σ 0 (σ.2.2.1 1001 4 (tn v1)) (σ.1 5 (σ.2.2.1 1001 4 (tn v1))) (tn v3 * 12 + tn v2)) 1 (σ.2.2.1 1001 4 (tn v1)) (σ.1 5 (σ.2.2.1 1001 4 (tn v1))) (tn v4)) 2 (σ.2.2.1 1001 4 (tn v1)) (σ.1 5 (σ.2.2.1 1001 4 (tn v1))) (tn v5)) 5 (σ.2.2.1 1001 4 (tn v1)) ((σ.1 5 (σ.2.2.1 1001 4 (tn v1))) + 1))) from by unfold k_feature; first | (rw [if_pos hz_2, if_pos hz_10, if_neg (not_not_intro9 c_23), if_pos c_34, if_pos c_54] <;> rfl) | simp only [if_pos hz_2, if_pos hz_10, if_neg (not_not_intro9 c_23), if_pos c_34, if_pos c_54]]
        exact y_reti hx hb hr hlocks hG hS rfl rfl rfl (Nat.le_of_ble_eq_true rfl) (Nat.le_of_ble_eq_true rfl) dX8_feature_83
      · rw [show k_feature v1 v2 v3 v4 v5 σ = (3, 0, σ) from by unfold k_feature; first | (rw [if_pos hz_2, if_pos hz_10, if_neg (not_not_intro9 c_23), if_pos c_34, if_neg (Nat.not_lt.mpr c_54)] <;> rfl) | simp only [if_pos hz_2, if_pos hz_10, if_neg (not_not_intro9 c_23), if_pos c_34, if_neg (Nat.not_lt.mpr c_54)]]
        exact y_throw (e8 := 3) (tx := "no more features") hx X hl9 xw_3 hX9 (List.mem_of_getElem? (i := 24) rfl) hex hlocks hl.1 hS (pw_ext hG) (by decide) rfl dX8_feature_57 dX8_feature_60 dX8_feature_61 dX8_feature_63 dX8_feature_66 (Nat.le_of_ble_eq_true rfl) (Nat.le_of_ble_eq_true rfl) (Nat.le_of_ble_eq_true rfl) (Nat.le_of_ble_eq_true rfl) (Nat.le_of_ble_eq_true rfl) (Nat.le_of_ble_eq_true rfl)
    · rw [show k_feature v1 v2 v3 v4 v5 σ = (2, 0, σ) from by unfold k_feature; first | (rw [if_pos hz_2, if_pos hz_10, if_neg (not_not_intro9 c_23), if_neg c_34] <;> rfl) | simp only [if_pos hz_2, if_pos hz_10, if_neg (not_not_intro9 c_23), if_neg c_34]]
      exact y_throw (e8 := 2) (tx := "height or tolerance") hx X hl9 xw_2 hX9 (List.mem_of_getElem? (i := 23) rfl) hex hlocks hl.1 hS (pw_ext hG) (by decide) rfl dX8_feature_37 dX8_feature_40 dX8_feature_41 dX8_feature_43 dX8_feature_46 (Nat.le_of_ble_eq_true rfl) (Nat.le_of_ble_eq_true rfl) (Nat.le_of_ble_eq_true rfl) (Nat.le_of_ble_eq_true rfl) (Nat.le_of_ble_eq_true rfl) (Nat.le_of_ble_eq_true rfl)
def k_allow (v1 v2 v3 v4 : Int32) (σ : St) : Nat × Int32 × St := if ix v1 (σ.1 1002 4) then (if ix v2 (σ.1 5 (σ.2.2.1 1001 4 (tn v1))) then (if ¬ (0 ≤ v3.toInt ∧ v3.toInt ≤ 99) then ((2, 0, σ)) else (if 1 ≤ v4.toInt ∧ v4.toInt ≤ 9 then ((0, nI (σ.2.2.1 2 (σ.2.2.1 1001 4 (tn v1)) (tn v2) + tn v3), (wA (wA σ 3 (σ.2.2.1 1001 4 (tn v1)) (tn v2) (tn v3)) 4 (σ.2.2.1 1001 4 (tn v1)) (tn v2) (tn v4)))) else ((2, 0, σ)))) else ((1, 0, σ))) else ((1, 0, σ))
set_option maxRecDepth 100000 in
set_option maxHeartbeats 4000000 in
theorem z_X8_allow {D : va_G} {cI cZ cO : ClassId} (l : Launch) (hl9 : l.stackTraces = false) (L : Lay) (σ : St) (ow : Nat → Prop) (v1 v2 v3 v4 : Int32) (h5 : ∀ k, σ.1 5 k ≤ 6) (hI : CI σ) : ZI D cI cZ cO (cdom σ) l yX8_allow cX8_allow 6 ((some FieldType.int)) 7 142 2 12 [.ref (L 899 0), .int v1, .int v2, .int v3, .int v4] L σ ow (k_allow v1 v2 v3 v4 σ).1 (k_allow v1 v2 v3 v4 σ).2.1 (k_allow v1 v2 v3 v4 σ).2.2 := by
  refine z_of (Qc := fun sz => YQi (k_allow v1 v2 v3 v4 σ).1 (k_allow v1 v2 v3 v4 σ).2.1 (PW D cI cZ cO (cdom σ) L (k_allow v1 v2 v3 v4 σ).2.2 ow) (AA ow sz)) (XC := fun sz => YX (k_allow v1 v2 v3 v4 σ).1 (PW D cI cZ cO (cdom σ) L (k_allow v1 v2 v3 v4 σ).2.2 ow) (AA ow sz)) rfl (Nat.le_of_ble_eq_true rfl) ?_
  intro p e s m args below meth c ls X hex hK hG hX9 hr hlocks hl
  have X : CallFix p m c cX8_allow 6 s _ TB RX8 := X
  have hx := X.1
  have hb := X.2.1
  have hS : va_S (AA ow s.heap.size) s.heap s.heap [] := va_S.rf
  have hA : ∀ q, ow q → AA ow s.heap.size q := fun _ h => Or.inl h
  have hA2 : ∀ q, AA ow s.heap.size q → AA ow s.heap.size q := fun _ h => h
  have hl : lv_has ls 6 [(0, .ref (L 899 0)), (1, .int v1), (2, .int v2), (3, .int v3), (4, .int v4)] := hl
  refine lv_aload_n hx hb dX8_allow_0 rfl (lv_at hl 0 rfl) ?_
  refine lv_iload_n hx hb dX8_allow_1 rfl (lv_at hl 1 rfl) ?_
  refine z_callqP (P := ix v1 (σ.1 1002 4)) X hK hG hS hA2 hX9 yvX8_drawingAt ml_X8_241 kX8 rfl (cd_fix (by decide)) [.int v1] [] (z_X8_drawingAt l hl9 L σ ow v1 hI) rfl hl.1 rfl (Nat.le_of_ble_eq_true rfl) ⟨Nat.le_of_ble_eq_true rfl, Nat.le_of_ble_eq_true rfl⟩ ⟨Nat.le_of_ble_eq_true rfl, Nat.le_of_ble_eq_true rfl⟩ dX8_allow_2 (fun hz_2 H locs q ce hG hS hq hv hcl => ?_) (fun hz_2 H locs hG hS => ?_)
  · rw [show k_allow v1 v2 v3 v4 σ = (1, 0, σ) from by unfold k_allow; first | (rw [if_neg hz_2] <;> rfl) | simp only [if_neg hz_2]]
    exact y_out hex hlocks hG hS hq hv hcl (by decide) rfl (Nat.le_of_ble_eq_true rfl) (Nat.le_of_ble_eq_true rfl)
  refine lv_astore (lv' := [(5, .ref (L 99 (σ.2.2.1 1001 4 (tn v1)))), (0, .ref (L 899 0)), (1, .int v1), (2, .int v2), (3, .int v3), (4, .int v4)]) hx hb dX8_allow_5 hl (by decide) rfl (fun ls hl => ?_)
  refine lv_iload_n hx hb dX8_allow_7 rfl (lv_at hl 3 rfl) ?_
  refine lv_iconst (v := nI 0) hx hb dX8_allow_8 (by decide) ?_
  refine lv_aload hx hb dX8_allow_9 (lv_at hl 0 rfl) ?_
  refine gt_X8_247 X hK hG (cd_obj (by decide) (Or.inl (by decide)) (hI.2 4 (by decide) _ (ix_lt hz_2))) (x := σ.1 5 (σ.2.2.1 1001 4 (tn v1))) rfl dX8_allow_11 ?_
  refine lv_iconst (v := nI 1) hx hb dX8_allow_14 (by decide) ?_
  refine lv_isub hx hb dX8_allow_15 ?_
  refine rm_callSg X hK hG hS hA2 ysX8_isWithin ml_X8_105 [.int v2, .int (nI 0), .int ((nI (σ.1 5 (σ.2.2.1 1001 4 (tn v1)))) - (nI 1))] [] (c_X8_isWithin l L σ ow v2 (nI 0) ((nI (σ.1 5 (σ.2.2.1 1001 4 (tn v1)))) - (nI 1))) rfl hl.1 rfl (Nat.le_of_ble_eq_true rfl) ⟨Nat.le_of_ble_eq_true rfl, Nat.le_of_ble_eq_true rfl⟩ ⟨Nat.le_of_ble_eq_true rfl, Nat.le_of_ble_eq_true rfl⟩ dX8_allow_16 (fun H locs hG hS => ?_)
  refine r_top (y := b2i (ix v2 (σ.1 5 (σ.2.2.1 1001 4 (tn v1))))) (b2i_c (rg_m (by have := h5 (σ.2.2.1 1001 4 (tn v1)); omega))) ?_
  refine r_if_neB (tgt := 32) hx hb dX8_allow_19 (by decide) (fun c_19 => ?_) (fun c_19 => ?_)
  · refine lv_iload_n hx hb dX8_allow_32 rfl (lv_at hl 4 rfl) ?_
    refine lv_iconst (v := nI 0) hx hb dX8_allow_33 (by decide) ?_
    refine lv_bipush (v := nI 99) hx hb dX8_allow_34 (by decide) ?_
    refine rm_callSg X hK hG hS hA2 ysX8_isWithin ml_X8_105 [.int v3, .int (nI 0), .int (nI 99)] [] (c_X8_isWithin l L σ ow v3 (nI 0) (nI 99)) rfl hl.1 rfl (Nat.le_of_ble_eq_true rfl) ⟨Nat.le_of_ble_eq_true rfl, Nat.le_of_ble_eq_true rfl⟩ ⟨Nat.le_of_ble_eq_true rfl, Nat.le_of_ble_eq_true rfl⟩ dX8_allow_36 (fun H locs hG hS => ?_)
    refine r_top (y := b2i (0 ≤ v3.toInt ∧ v3.toInt ≤ 99)) (b2i_c (rg_i 0 99 rfl rfl)) ?_
    refine r_if_eqB (tgt := 53) hx hb dX8_allow_39 (by decide) (fun c_39 => ?_) (fun c_39 => ?_)
    · rw [show k_allow v1 v2 v3 v4 σ = (2, 0, σ) from by unfold k_allow; first | (rw [if_pos hz_2, if_pos c_19, if_pos c_39] <;> rfl) | simp only [if_pos hz_2, if_pos c_19, if_pos c_39]]
      exact y_throwW (e8 := 2) (tx := "more or papers") hx X hl9 xw_2 hX9 (List.mem_of_getElem? (i := 26) rfl) hex hlocks hl.1 hS (pw_ext hG) (by decide) rfl dX8_allow_53 dX8_allow_56 dX8_allow_57 dX8_allow_60 dX8_allow_63 (Nat.le_of_ble_eq_true rfl) (Nat.le_of_ble_eq_true rfl) (Nat.le_of_ble_eq_true rfl) (Nat.le_of_ble_eq_true rfl) (Nat.le_of_ble_eq_true rfl) (Nat.le_of_ble_eq_true rfl)
    · refine lv_iload hx hb dX8_allow_42 (lv_at hl 5 rfl) ?_
      refine lv_iconst (v := nI 1) hx hb dX8_allow_44 (by decide) ?_
      refine lv_bipush (v := nI 9) hx hb dX8_allow_45 (by decide) ?_
      refine rm_callSg X hK hG hS hA2 ysX8_isWithin ml_X8_105 [.int v4, .int (nI 1), .int (nI 9)] [] (c_X8_isWithin l L σ ow v4 (nI 1) (nI 9)) rfl hl.1 rfl (Nat.le_of_ble_eq_true rfl) ⟨Nat.le_of_ble_eq_true rfl, Nat.le_of_ble_eq_true rfl⟩ ⟨Nat.le_of_ble_eq_true rfl, Nat.le_of_ble_eq_true rfl⟩ dX8_allow_47 (fun H locs hG hS => ?_)
      refine r_top (y := b2i (1 ≤ v4.toInt ∧ v4.toInt ≤ 9)) (b2i_c (rg_i 1 9 rfl rfl)) ?_
      refine r_if_neB (tgt := 64) hx hb dX8_allow_50 (by decide) (fun c_50 => ?_) (fun c_50 => ?_)
      · refine lv_aload hx hb dX8_allow_64 (lv_at hl 0 rfl) ?_
        refine gt_X8_259 X hK hG (cd_obj (by decide) (Or.inl (by decide)) (hI.2 4 (by decide) _ (ix_lt hz_2))) dX8_allow_66 ?_
        refine lv_iload_n hx hb dX8_allow_69 rfl (lv_at hl 3 rfl) ?_
        refine r_top (y := nI (tn v2)) (ix_eq c_19) ?_
        refine lv_iload_n hx hb dX8_allow_70 rfl (lv_at hl 4 rfl) ?_
        refine r_top (y := nI (tn v3)) (ix_eq (n := 100) (by have := c_39; exact ⟨by omega, by omega⟩)) ?_
        refine as_3 X hK hG hS hA (cd_obj (by decide) (Or.inr (by decide)) (hI.2 4 (by decide) _ (ix_lt hz_2))) (i := tn v2) (by have := ix_lt c_19; have := h5 (σ.2.2.1 1001 4 (tn v1)); omega) dX8_allow_71 (fun H locs hG hS => ?_)
        refine lv_aload hx hb dX8_allow_72 (lv_at hl 0 rfl) ?_
        refine gt_X8_262 X hK hG (cd_obj (by decide) (Or.inl (by decide)) (hI.2 4 (by decide) _ (ix_lt hz_2))) dX8_allow_74 ?_
        refine lv_iload_n hx hb dX8_allow_77 rfl (lv_at hl 3 rfl) ?_
        refine r_top (y := nI (tn v2)) (ix_eq c_19) ?_
        refine lv_iload hx hb dX8_allow_78 (lv_at hl 5 rfl) ?_
        refine r_top (y := nI (tn v4)) (ix_eq (n := 10) (by have := c_50; exact ⟨by omega, by omega⟩)) ?_
        refine as_4 X hK hG hS hA (cd_obj (by decide) (Or.inr (by decide)) (hI.2 4 (by decide) _ (ix_lt hz_2))) (i := tn v2) (by have := ix_lt c_19; have := h5 (σ.2.2.1 1001 4 (tn v1)); omega) dX8_allow_80 (fun H locs hG hS => ?_)
        refine lv_aload hx hb dX8_allow_81 (lv_at hl 0 rfl) ?_
        refine lv_iload_n hx hb dX8_allow_83 rfl (lv_at hl 3 rfl) ?_
        refine r_top (y := nI (tn v2)) (ix_eq c_19) ?_
        refine rm_callVg X hK hG hS hA2 yvX0_toleranceNow ml_X8_265 kX0 rfl (cd_obj (by decide) (Or.inl (by decide)) (hI.2 4 (by decide) _ (ix_lt hz_2))) [.int (nI (tn v2))] [] (c_X0_toleranceNow l L (wA (wA σ 3 (σ.2.2.1 1001 4 (tn v1)) (tn v2) (tn v3)) 4 (σ.2.2.1 1001 4 (tn v1)) (tn v2) (tn v4)) ow (σ.2.2.1 1001 4 (tn v1)) (cd_objs (C := 0) (by decide) (hI.2 4 (by decide) _ (ix_lt hz_2))) (tn v2) (by have := ix_lt c_19; have := h5 (σ.2.2.1 1001 4 (tn v1)); omega) (by rw [show ((wA (wA σ 3 (σ.2.2.1 1001 4 (tn v1)) (tn v2) (tn v3)) 4 (σ.2.2.1 1001 4 (tn v1)) (tn v2) (tn v4))).2.2.1 4 (σ.2.2.1 1001 4 (tn v1)) (tn v2) = tn v4 from by simp [wA, up3, up2, up1]]; have := c_50; unfold tn; omega)) rfl hl.1 rfl (Nat.le_of_ble_eq_true rfl) ⟨Nat.le_of_ble_eq_true rfl, Nat.le_of_ble_eq_true rfl⟩ ⟨Nat.le_of_ble_eq_true rfl, Nat.le_of_ble_eq_true rfl⟩ dX8_allow_84 (fun H locs hG hS => ?_)
        have h49 : ¬ tn v4 = 0 := by have := c_50; unfold tn; omega
        refine r_top (y := nI (σ.2.2.1 2 (σ.2.2.1 1001 4 (tn v1)) (tn v2) + tn v3)) (by revert h49; generalize tn v4 = t4; generalize tn v3 = t3; generalize tn v2 = t2; generalize tn v1 = t1; intro h49; simp [wA, up3, up2, up1, h49]) ?_
        rw [show k_allow v1 v2 v3 v4 σ = (0, nI (σ.2.2.1 2 (σ.2.2.1 1001 4 (tn v1)) (tn v2) + tn v3), (wA (wA σ 3 (σ.2.2.1 1001 4 (tn v1)) (tn v2) (tn v3)) 4 (σ.2.2.1 1001 4 (tn v1)) (tn v2) (tn v4))) from by unfold k_allow; first | (rw [if_pos hz_2, if_pos c_19, if_neg (not_not_intro9 c_39), if_pos c_50] <;> rfl) | simp only [if_pos hz_2, if_pos c_19, if_neg (not_not_intro9 c_39), if_pos c_50]]
        exact y_reti hx hb hr hlocks hG hS rfl rfl rfl (Nat.le_of_ble_eq_true rfl) (Nat.le_of_ble_eq_true rfl) dX8_allow_87
      · rw [show k_allow v1 v2 v3 v4 σ = (2, 0, σ) from by unfold k_allow; first | (rw [if_pos hz_2, if_pos c_19, if_neg (not_not_intro9 c_39), if_neg c_50] <;> rfl) | simp only [if_pos hz_2, if_pos c_19, if_neg (not_not_intro9 c_39), if_neg c_50]]
        exact y_throwW (e8 := 2) (tx := "more or papers") hx X hl9 xw_2 hX9 (List.mem_of_getElem? (i := 26) rfl) hex hlocks hl.1 hS (pw_ext hG) (by decide) rfl dX8_allow_53 dX8_allow_56 dX8_allow_57 dX8_allow_60 dX8_allow_63 (Nat.le_of_ble_eq_true rfl) (Nat.le_of_ble_eq_true rfl) (Nat.le_of_ble_eq_true rfl) (Nat.le_of_ble_eq_true rfl) (Nat.le_of_ble_eq_true rfl) (Nat.le_of_ble_eq_true rfl)
  · rw [show k_allow v1 v2 v3 v4 σ = (1, 0, σ) from by unfold k_allow; first | (rw [if_pos hz_2, if_neg c_19] <;> rfl) | simp only [if_pos hz_2, if_neg c_19]]
    exact y_throw (e8 := 1) (tx := "no such feature") hx X hl9 xw_1 hX9 (List.mem_of_getElem? (i := 25) rfl) hex hlocks hl.1 hS (pw_ext hG) (by decide) rfl dX8_allow_22 dX8_allow_25 dX8_allow_26 dX8_allow_28 dX8_allow_31 (Nat.le_of_ble_eq_true rfl) (Nat.le_of_ble_eq_true rfl) (Nat.le_of_ble_eq_true rfl) (Nat.le_of_ble_eq_true rfl) (Nat.le_of_ble_eq_true rfl) (Nat.le_of_ble_eq_true rfl)
def k_correct (v1 : Int32) (σ : St) : Nat × Int32 × St := if ix v1 (σ.1 1002 0) then ((0, (k_corr (σ.2.2.1 1001 0 (tn v1)) σ).1, (k_corr (σ.2.2.1 1001 0 (tn v1)) σ).2)) else ((1, 0, σ))
set_option maxRecDepth 100000 in
set_option maxHeartbeats 4000000 in
theorem z_X8_correct {D : va_G} {cI cZ cO : ClassId} (l : Launch) (hl9 : l.stackTraces = false) (L : Lay) (σ : St) (ow : Nat → Prop) (v1 : Int32) (h6 : ∀ k, σ.1 506 k < 1000000) (hI : CI σ) : ZI D cI cZ cO (cdom σ) l yX8_correct cX8_correct 2 ((some FieldType.int)) 7 142 1 6 [.ref (L 899 0), .int v1] L σ ow (k_correct v1 σ).1 (k_correct v1 σ).2.1 (k_correct v1 σ).2.2 := by
  refine z_of (Qc := fun sz => YQi (k_correct v1 σ).1 (k_correct v1 σ).2.1 (PW D cI cZ cO (cdom σ) L (k_correct v1 σ).2.2 ow) (AA ow sz)) (XC := fun sz => YX (k_correct v1 σ).1 (PW D cI cZ cO (cdom σ) L (k_correct v1 σ).2.2 ow) (AA ow sz)) rfl (Nat.le_of_ble_eq_true rfl) ?_
  intro p e s m args below meth c ls X hex hK hG hX9 hr hlocks hl
  have X : CallFix p m c cX8_correct 2 s _ TB RX8 := X
  have hx := X.1
  have hb := X.2.1
  have hS : va_S (AA ow s.heap.size) s.heap s.heap [] := va_S.rf
  have hA : ∀ q, ow q → AA ow s.heap.size q := fun _ h => Or.inl h
  have hA2 : ∀ q, AA ow s.heap.size q → AA ow s.heap.size q := fun _ h => h
  have hl : lv_has ls 2 [(0, .ref (L 899 0)), (1, .int v1)] := hl
  refine lv_aload_n hx hb dX8_correct_0 rfl (lv_at hl 0 rfl) ?_
  refine lv_iload_n hx hb dX8_correct_1 rfl (lv_at hl 1 rfl) ?_
  refine z_callqP (P := ix v1 (σ.1 1002 0)) X hK hG hS hA2 hX9 yvX8_toolAt ml_X8_119 kX8 rfl (cd_fix (by decide)) [.int v1] [] (z_X8_toolAt l hl9 L σ ow v1 hI) rfl hl.1 rfl (Nat.le_of_ble_eq_true rfl) ⟨Nat.le_of_ble_eq_true rfl, Nat.le_of_ble_eq_true rfl⟩ ⟨Nat.le_of_ble_eq_true rfl, Nat.le_of_ble_eq_true rfl⟩ dX8_correct_2 (fun hz_2 H locs q ce hG hS hq hv hcl => ?_) (fun hz_2 H locs hG hS => ?_)
  · rw [show k_correct v1 σ = (1, 0, σ) from by unfold k_correct; first | (rw [if_neg hz_2] <;> rfl) | simp only [if_neg hz_2]]
    exact y_out hex hlocks hG hS hq hv hcl (by decide) rfl (Nat.le_of_ble_eq_true rfl) (Nat.le_of_ble_eq_true rfl)
  refine rm_callVg X hK hG hS hA2 yvX5_correctOffset ml_X8_307 kX5 rfl (cd_obj (by decide) (Or.inl (by decide)) (hI.2 0 (by decide) _ (ix_lt hz_2))) [] [] (c_X5_correctOffset l L σ ow (σ.2.2.1 1001 0 (tn v1)) (cd_objs (C := 5) (by decide) (hI.2 0 (by decide) _ (ix_lt hz_2))) (h6 _)) rfl hl.1 rfl (Nat.le_of_ble_eq_true rfl) ⟨Nat.le_of_ble_eq_true rfl, Nat.le_of_ble_eq_true rfl⟩ ⟨Nat.le_of_ble_eq_true rfl, Nat.le_of_ble_eq_true rfl⟩ dX8_correct_5 (fun H locs hG hS => ?_)
  rw [show k_correct v1 σ = (0, (k_corr (σ.2.2.1 1001 0 (tn v1)) σ).1, (k_corr (σ.2.2.1 1001 0 (tn v1)) σ).2) from by unfold k_correct; first | (rw [if_pos hz_2] <;> rfl) | simp only [if_pos hz_2]]
  exact y_reti hx hb hr hlocks hG hS rfl rfl rfl (Nat.le_of_ble_eq_true rfl) (Nat.le_of_ble_eq_true rfl) dX8_correct_8
def k_ofTool (v1 v2 : Int32) (σ : St) : Nat × Int32 × St := if ix v1 (σ.1 1002 0) then (if v2 = nI 0 then ((0, σ.2.1 501 (σ.2.2.1 1001 0 (tn v1)), σ)) else (if v2 = nI 1 then ((0, nI (σ.1 502 (σ.2.2.1 1001 0 (tn v1))), σ)) else (if v2 = nI 2 then ((0, nI (σ.1 504 (σ.2.2.1 1001 0 (tn v1))), σ)) else (if v2 = nI 3 then ((0, σ.2.1 505 (σ.2.2.1 1001 0 (tn v1)), σ)) else (if v2 = nI 4 then (if (σ.2.1 507 (σ.2.2.1 1001 0 (tn v1))) = 0 then ((0, nI 0, σ)) else ((0, nI 1, σ))) else (if v2 = nI 5 then ((0, nI (σ.1 506 (σ.2.2.1 1001 0 (tn v1))), σ)) else ((2, 0, σ)))))))) else ((1, 0, σ))
set_option maxRecDepth 100000 in
set_option maxHeartbeats 4000000 in
theorem z_X8_ofTool {D : va_G} {cI cZ cO : ClassId} (l : Launch) (hl9 : l.stackTraces = false) (L : Lay) (σ : St) (ow : Nat → Prop) (v1 v2 : Int32) (hI : CI σ) : ZI D cI cZ cO (cdom σ) l yX8_ofTool cX8_ofTool 4 ((some FieldType.int)) 7 142 2 12 [.ref (L 899 0), .int v1, .int v2] L σ ow (k_ofTool v1 v2 σ).1 (k_ofTool v1 v2 σ).2.1 (k_ofTool v1 v2 σ).2.2 := by
  refine z_of (Qc := fun sz => YQi (k_ofTool v1 v2 σ).1 (k_ofTool v1 v2 σ).2.1 (PW D cI cZ cO (cdom σ) L (k_ofTool v1 v2 σ).2.2 ow) (AA ow sz)) (XC := fun sz => YX (k_ofTool v1 v2 σ).1 (PW D cI cZ cO (cdom σ) L (k_ofTool v1 v2 σ).2.2 ow) (AA ow sz)) rfl (Nat.le_of_ble_eq_true rfl) ?_
  intro p e s m args below meth c ls X hex hK hG hX9 hr hlocks hl
  have X : CallFix p m c cX8_ofTool 4 s _ TB RX8 := X
  have hx := X.1
  have hb := X.2.1
  have hS : va_S (AA ow s.heap.size) s.heap s.heap [] := va_S.rf
  have hA : ∀ q, ow q → AA ow s.heap.size q := fun _ h => Or.inl h
  have hA2 : ∀ q, AA ow s.heap.size q → AA ow s.heap.size q := fun _ h => h
  have hl : lv_has ls 4 [(0, .ref (L 899 0)), (1, .int v1), (2, .int v2)] := hl
  refine lv_aload_n hx hb dX8_ofTool_0 rfl (lv_at hl 0 rfl) ?_
  refine lv_iload_n hx hb dX8_ofTool_1 rfl (lv_at hl 1 rfl) ?_
  refine z_callqP (P := ix v1 (σ.1 1002 0)) X hK hG hS hA2 hX9 yvX8_toolAt ml_X8_119 kX8 rfl (cd_fix (by decide)) [.int v1] [] (z_X8_toolAt l hl9 L σ ow v1 hI) rfl hl.1 rfl (Nat.le_of_ble_eq_true rfl) ⟨Nat.le_of_ble_eq_true rfl, Nat.le_of_ble_eq_true rfl⟩ ⟨Nat.le_of_ble_eq_true rfl, Nat.le_of_ble_eq_true rfl⟩ dX8_ofTool_2 (fun hz_2 H locs q ce hG hS hq hv hcl => ?_) (fun hz_2 H locs hG hS => ?_)
  · rw [show k_ofTool v1 v2 σ = (1, 0, σ) from by unfold k_ofTool; first | (rw [if_neg hz_2] <;> rfl) | simp only [if_neg hz_2]]
    exact y_out hex hlocks hG hS hq hv hcl (by decide) rfl (Nat.le_of_ble_eq_true rfl) (Nat.le_of_ble_eq_true rfl)
  refine lv_astore_n (lv' := [(3, .ref (L 599 (σ.2.2.1 1001 0 (tn v1)))), (0, .ref (L 899 0)), (1, .int v1), (2, .int v2)]) hx hb dX8_ofTool_5 rfl hl (by decide) rfl (fun ls hl => ?_)
  refine lv_iload_n hx hb dX8_ofTool_6 rfl (lv_at hl 3 rfl) ?_
  rcases sw_split (v2) 5 (by decide) with h_7 | ⟨j_7, h_7, e_7⟩
  · refine lv_tableOut (tgt := 82) hx hb dX8_ofTool_7 h_7 (by decide) ?_
    rw [show k_ofTool v1 v2 σ = (2, 0, σ) from by unfold k_ofTool; first | (rw [if_pos hz_2, if_neg (sw_ne (n := 5) h_7 0 (by decide)), if_neg (sw_ne (n := 5) h_7 1 (by decide)), if_neg (sw_ne (n := 5) h_7 2 (by decide)), if_neg (sw_ne (n := 5) h_7 3 (by decide)), if_neg (sw_ne (n := 5) h_7 4 (by decide)), if_neg (sw_ne (n := 5) h_7 5 (by decide))] <;> rfl) | simp only [if_pos hz_2, if_neg (sw_ne (n := 5) h_7 0 (by decide)), if_neg (sw_ne (n := 5) h_7 1 (by decide)), if_neg (sw_ne (n := 5) h_7 2 (by decide)), if_neg (sw_ne (n := 5) h_7 3 (by decide)), if_neg (sw_ne (n := 5) h_7 4 (by decide)), if_neg (sw_ne (n := 5) h_7 5 (by decide))]]
    exact y_throwW (e8 := 2) (tx := "what") hx X hl9 xw_2 hX9 (List.mem_of_getElem? (i := 28) rfl) hex hlocks hl.1 hS (pw_ext hG) (by decide) rfl dX8_ofTool_82 dX8_ofTool_85 dX8_ofTool_86 dX8_ofTool_89 dX8_ofTool_92 (Nat.le_of_ble_eq_true rfl) (Nat.le_of_ble_eq_true rfl) (Nat.le_of_ble_eq_true rfl) (Nat.le_of_ble_eq_true rfl) (Nat.le_of_ble_eq_true rfl) (Nat.le_of_ble_eq_true rfl)
  · rcases (by omega : j_7 = 0 ∨ j_7 = 1 ∨ j_7 = 2 ∨ j_7 = 3 ∨ j_7 = 4 ∨ j_7 = 5) with rfl | rfl | rfl | rfl | rfl | rfl
    · refine r_top (y := nI 0) e_7 ?_
      refine lv_tableIn (tgt := 44) hx hb dX8_ofTool_7 (by decide) (by decide) (off := 37) (by decide) (by decide) ?_
      refine lv_aload_n hx hb dX8_ofTool_44 rfl (lv_at hl 0 rfl) ?_
      refine gt_X8_310 X hK hG (cd_obj (by decide) (Or.inl (by decide)) (hI.2 0 (by decide) _ (ix_lt hz_2))) (x := σ.2.1 501 (σ.2.2.1 1001 0 (tn v1))) rfl dX8_ofTool_45 ?_
      rw [show k_ofTool v1 v2 σ = (0, σ.2.1 501 (σ.2.2.1 1001 0 (tn v1)), σ) from by unfold k_ofTool; first | (rw [if_pos hz_2, if_pos e_7] <;> rfl) | simp only [if_pos hz_2, if_pos e_7]]
      exact y_reti hx hb hr hlocks hG hS rfl rfl rfl (Nat.le_of_ble_eq_true rfl) (Nat.le_of_ble_eq_true rfl) dX8_ofTool_48
    · refine r_top (y := nI 1) e_7 ?_
      refine lv_tableIn (tgt := 49) hx hb dX8_ofTool_7 (by decide) (by decide) (off := 42) (by decide) (by decide) ?_
      refine lv_aload_n hx hb dX8_ofTool_49 rfl (lv_at hl 0 rfl) ?_
      refine gt_X8_312 X hK hG (cd_obj (by decide) (Or.inl (by decide)) (hI.2 0 (by decide) _ (ix_lt hz_2))) (x := σ.1 502 (σ.2.2.1 1001 0 (tn v1))) rfl dX8_ofTool_50 ?_
      rw [show k_ofTool v1 v2 σ = (0, nI (σ.1 502 (σ.2.2.1 1001 0 (tn v1))), σ) from by unfold k_ofTool; first | (rw [if_pos hz_2, if_neg (show ¬ v2 = nI 0 from by rw [e_7]; decide), if_pos e_7] <;> rfl) | simp only [if_pos hz_2, if_neg (show ¬ v2 = nI 0 from by rw [e_7]; decide), if_pos e_7]]
      exact y_reti hx hb hr hlocks hG hS rfl rfl rfl (Nat.le_of_ble_eq_true rfl) (Nat.le_of_ble_eq_true rfl) dX8_ofTool_53
    · refine r_top (y := nI 2) e_7 ?_
      refine lv_tableIn (tgt := 54) hx hb dX8_ofTool_7 (by decide) (by decide) (off := 47) (by decide) (by decide) ?_
      refine lv_aload_n hx hb dX8_ofTool_54 rfl (lv_at hl 0 rfl) ?_
      refine gt_X8_315 X hK hG (cd_obj (by decide) (Or.inl (by decide)) (hI.2 0 (by decide) _ (ix_lt hz_2))) (x := σ.1 504 (σ.2.2.1 1001 0 (tn v1))) rfl dX8_ofTool_55 ?_
      rw [show k_ofTool v1 v2 σ = (0, nI (σ.1 504 (σ.2.2.1 1001 0 (tn v1))), σ) from by unfold k_ofTool; first | (rw [if_pos hz_2, if_neg (show ¬ v2 = nI 0 from by rw [e_7]; decide), if_neg (show ¬ v2 = nI 1 from by rw [e_7]; decide), if_pos e_7] <;> rfl) | simp only [if_pos hz_2, if_neg (show ¬ v2 = nI 0 from by rw [e_7]; decide), if_neg (show ¬ v2 = nI 1 from by rw [e_7]; decide), if_pos e_7]]
      exact y_reti hx hb hr hlocks hG hS rfl rfl rfl (Nat.le_of_ble_eq_true rfl) (Nat.le_of_ble_eq_true rfl) dX8_ofTool_58
    · refine r_top (y := nI 3) e_7 ?_
      refine lv_tableIn (tgt := 59) hx hb dX8_ofTool_7 (by decide) (by decide) (off := 52) (by decide) (by decide) ?_
      refine lv_aload_n hx hb dX8_ofTool_59 rfl (lv_at hl 0 rfl) ?_
      refine gt_X8_318 X hK hG (cd_obj (by decide) (Or.inl (by decide)) (hI.2 0 (by decide) _ (ix_lt hz_2))) (x := σ.2.1 505 (σ.2.2.1 1001 0 (tn v1))) rfl dX8_ofTool_60 ?_
      rw [show k_ofTool v1 v2 σ = (0, σ.2.1 505 (σ.2.2.1 1001 0 (tn v1)), σ) from by unfold k_ofTool; first | (rw [if_pos hz_2, if_neg (show ¬ v2 = nI 0 from by rw [e_7]; decide), if_neg (show ¬ v2 = nI 1 from by rw [e_7]; decide), if_neg (show ¬ v2 = nI 2 from by rw [e_7]; decide), if_pos e_7] <;> rfl) | simp only [if_pos hz_2, if_neg (show ¬ v2 = nI 0 from by rw [e_7]; decide), if_neg (show ¬ v2 = nI 1 from by rw [e_7]; decide), if_neg (show ¬ v2 = nI 2 from by rw [e_7]; decide), if_pos e_7]]
      exact y_reti hx hb hr hlocks hG hS rfl rfl rfl (Nat.le_of_ble_eq_true rfl) (Nat.le_of_ble_eq_true rfl) dX8_ofTool_63
    · refine r_top (y := nI 4) e_7 ?_
      refine lv_tableIn (tgt := 64) hx hb dX8_ofTool_7 (by decide) (by decide) (off := 57) (by decide) (by decide) ?_
      refine lv_aload_n hx hb dX8_ofTool_64 rfl (lv_at hl 0 rfl) ?_
      refine gt_X8_123 X hK hG (cd_obj (by decide) (Or.inl (by decide)) (hI.2 0 (by decide) _ (ix_lt hz_2))) (x := σ.2.1 507 (σ.2.2.1 1001 0 (tn v1))) rfl dX8_ofTool_65 ?_
      refine lv_if_eq (tgt := 75) hx hb dX8_ofTool_68 (by decide) (fun c_68 => ?_) (fun c_68 => ?_)
      · refine lv_iconst (v := nI 0) hx hb dX8_ofTool_75 (by decide) ?_
        rw [show k_ofTool v1 v2 σ = (0, nI 0, σ) from by unfold k_ofTool; first | (rw [if_pos hz_2, if_neg (show ¬ v2 = nI 0 from by rw [e_7]; decide), if_neg (show ¬ v2 = nI 1 from by rw [e_7]; decide), if_neg (show ¬ v2 = nI 2 from by rw [e_7]; decide), if_neg (show ¬ v2 = nI 3 from by rw [e_7]; decide), if_pos e_7, if_pos c_68] <;> rfl) | simp only [if_pos hz_2, if_neg (show ¬ v2 = nI 0 from by rw [e_7]; decide), if_neg (show ¬ v2 = nI 1 from by rw [e_7]; decide), if_neg (show ¬ v2 = nI 2 from by rw [e_7]; decide), if_neg (show ¬ v2 = nI 3 from by rw [e_7]; decide), if_pos e_7, if_pos c_68]]
        exact y_reti hx hb hr hlocks hG hS rfl rfl rfl (Nat.le_of_ble_eq_true rfl) (Nat.le_of_ble_eq_true rfl) dX8_ofTool_76
      · refine lv_iconst (v := nI 1) hx hb dX8_ofTool_71 (by decide) ?_
        refine lv_goto (tgt := 76) hx hb dX8_ofTool_72 (by decide) ?_
        rw [show k_ofTool v1 v2 σ = (0, nI 1, σ) from by unfold k_ofTool; first | (rw [if_pos hz_2, if_neg (show ¬ v2 = nI 0 from by rw [e_7]; decide), if_neg (show ¬ v2 = nI 1 from by rw [e_7]; decide), if_neg (show ¬ v2 = nI 2 from by rw [e_7]; decide), if_neg (show ¬ v2 = nI 3 from by rw [e_7]; decide), if_pos e_7, if_neg c_68] <;> rfl) | simp only [if_pos hz_2, if_neg (show ¬ v2 = nI 0 from by rw [e_7]; decide), if_neg (show ¬ v2 = nI 1 from by rw [e_7]; decide), if_neg (show ¬ v2 = nI 2 from by rw [e_7]; decide), if_neg (show ¬ v2 = nI 3 from by rw [e_7]; decide), if_pos e_7, if_neg c_68]]
        exact y_reti hx hb hr hlocks hG hS rfl rfl rfl (Nat.le_of_ble_eq_true rfl) (Nat.le_of_ble_eq_true rfl) dX8_ofTool_76
    · refine r_top (y := nI 5) e_7 ?_
      refine lv_tableIn (tgt := 77) hx hb dX8_ofTool_7 (by decide) (by decide) (off := 70) (by decide) (by decide) ?_
      refine lv_aload_n hx hb dX8_ofTool_77 rfl (lv_at hl 0 rfl) ?_
      refine gt_X8_321 X hK hG (cd_obj (by decide) (Or.inl (by decide)) (hI.2 0 (by decide) _ (ix_lt hz_2))) (x := σ.1 506 (σ.2.2.1 1001 0 (tn v1))) rfl dX8_ofTool_78 ?_
      rw [show k_ofTool v1 v2 σ = (0, nI (σ.1 506 (σ.2.2.1 1001 0 (tn v1))), σ) from by unfold k_ofTool; first | (rw [if_pos hz_2, if_neg (show ¬ v2 = nI 0 from by rw [e_7]; decide), if_neg (show ¬ v2 = nI 1 from by rw [e_7]; decide), if_neg (show ¬ v2 = nI 2 from by rw [e_7]; decide), if_neg (show ¬ v2 = nI 3 from by rw [e_7]; decide), if_neg (show ¬ v2 = nI 4 from by rw [e_7]; decide), if_pos e_7] <;> rfl) | simp only [if_pos hz_2, if_neg (show ¬ v2 = nI 0 from by rw [e_7]; decide), if_neg (show ¬ v2 = nI 1 from by rw [e_7]; decide), if_neg (show ¬ v2 = nI 2 from by rw [e_7]; decide), if_neg (show ¬ v2 = nI 3 from by rw [e_7]; decide), if_neg (show ¬ v2 = nI 4 from by rw [e_7]; decide), if_pos e_7]]
      exact y_reti hx hb hr hlocks hG hS rfl rfl rfl (Nat.le_of_ble_eq_true rfl) (Nat.le_of_ble_eq_true rfl) dX8_ofTool_81
def k_ofCell (v1 v2 v3 v4 : Int32) (σ : St) : Nat × Int32 × St := if ix v1 (σ.1 1002 1) then (if ix v2 12 ∧ ix v3 12 then (if v4 = nI 0 then ((0, σ.2.2.2 200 (σ.2.2.1 1001 1 (tn v1)) (tn v3 * 12 + tn v2), σ)) else (if v4 = nI 1 then ((0, σ.2.2.2 201 (σ.2.2.1 1001 1 (tn v1)) (tn v3 * 12 + tn v2), σ)) else (if v4 = nI 2 then ((0, σ.2.2.2 202 (σ.2.2.1 1001 1 (tn v1)) (tn v3 * 12 + tn v2), σ)) else (if v4 = nI 3 then ((0, σ.2.2.2 203 (σ.2.2.1 1001 1 (tn v1)) (tn v3 * 12 + tn v2), σ)) else (if v4 = nI 4 then ((0, σ.2.2.2 204 (σ.2.2.1 1001 1 (tn v1)) (tn v3 * 12 + tn v2), σ)) else ((2, 0, σ))))))) else ((1, 0, σ))) else ((1, 0, σ))
set_option maxRecDepth 100000 in
set_option maxHeartbeats 4000000 in
theorem z_X8_ofCell {D : va_G} {cI cZ cO : ClassId} (l : Launch) (hl9 : l.stackTraces = false) (L : Lay) (σ : St) (ow : Nat → Prop) (v1 v2 v3 v4 : Int32) (hI : CI σ) : ZI D cI cZ cO (cdom σ) l yX8_ofCell cX8_ofCell 7 ((some FieldType.int)) 7 142 3 18 [.ref (L 899 0), .int v1, .int v2, .int v3, .int v4] L σ ow (k_ofCell v1 v2 v3 v4 σ).1 (k_ofCell v1 v2 v3 v4 σ).2.1 (k_ofCell v1 v2 v3 v4 σ).2.2 := by
  refine z_of (Qc := fun sz => YQi (k_ofCell v1 v2 v3 v4 σ).1 (k_ofCell v1 v2 v3 v4 σ).2.1 (PW D cI cZ cO (cdom σ) L (k_ofCell v1 v2 v3 v4 σ).2.2 ow) (AA ow sz)) (XC := fun sz => YX (k_ofCell v1 v2 v3 v4 σ).1 (PW D cI cZ cO (cdom σ) L (k_ofCell v1 v2 v3 v4 σ).2.2 ow) (AA ow sz)) rfl (Nat.le_of_ble_eq_true rfl) ?_
  intro p e s m args below meth c ls X hex hK hG hX9 hr hlocks hl
  have X : CallFix p m c cX8_ofCell 7 s _ TB RX8 := X
  have hx := X.1
  have hb := X.2.1
  have hS : va_S (AA ow s.heap.size) s.heap s.heap [] := va_S.rf
  have hA : ∀ q, ow q → AA ow s.heap.size q := fun _ h => Or.inl h
  have hA2 : ∀ q, AA ow s.heap.size q → AA ow s.heap.size q := fun _ h => h
  have hl : lv_has ls 7 [(0, .ref (L 899 0)), (1, .int v1), (2, .int v2), (3, .int v3), (4, .int v4)] := hl
  refine lv_aload_n hx hb dX8_ofCell_0 rfl (lv_at hl 0 rfl) ?_
  refine lv_iload_n hx hb dX8_ofCell_1 rfl (lv_at hl 1 rfl) ?_
  refine z_callqP (P := ix v1 (σ.1 1002 1)) X hK hG hS hA2 hX9 yvX8_palletAt ml_X8_141 kX8 rfl (cd_fix (by decide)) [.int v1] [] (z_X8_palletAt l hl9 L σ ow v1 hI) rfl hl.1 rfl (Nat.le_of_ble_eq_true rfl) ⟨Nat.le_of_ble_eq_true rfl, Nat.le_of_ble_eq_true rfl⟩ ⟨Nat.le_of_ble_eq_true rfl, Nat.le_of_ble_eq_true rfl⟩ dX8_ofCell_2 (fun hz_2 H locs q ce hG hS hq hv hcl => ?_) (fun hz_2 H locs hG hS => ?_)
  · rw [show k_ofCell v1 v2 v3 v4 σ = (1, 0, σ) from by unfold k_ofCell; first | (rw [if_neg hz_2] <;> rfl) | simp only [if_neg hz_2]]
    exact y_out hex hlocks hG hS hq hv hcl (by decide) rfl (Nat.le_of_ble_eq_true rfl) (Nat.le_of_ble_eq_true rfl)
  refine lv_astore (lv' := [(5, .ref (L 299 (σ.2.2.1 1001 1 (tn v1)))), (0, .ref (L 899 0)), (1, .int v1), (2, .int v2), (3, .int v3), (4, .int v4)]) hx hb dX8_ofCell_5 hl (by decide) rfl (fun ls hl => ?_)
  refine lv_aload_n hx hb dX8_ofCell_7 rfl (lv_at hl 1 rfl) ?_
  refine lv_iload_n hx hb dX8_ofCell_8 rfl (lv_at hl 3 rfl) ?_
  refine lv_iload_n hx hb dX8_ofCell_9 rfl (lv_at hl 4 rfl) ?_
  refine z_calliP (P := ix v2 12 ∧ ix v3 12) X hK hG hS hA2 hX9 yvX8_cellAt ml_X8_145 kX8 rfl (cd_fix (by decide)) [.int v2, .int v3] [] (z_X8_cellAt l hl9 L σ ow v2 v3) rfl hl.1 rfl (Nat.le_of_ble_eq_true rfl) ⟨Nat.le_of_ble_eq_true rfl, Nat.le_of_ble_eq_true rfl⟩ ⟨Nat.le_of_ble_eq_true rfl, Nat.le_of_ble_eq_true rfl⟩ dX8_ofCell_10 (fun hz_10 H locs q ce hG hS hq hv hcl => ?_) (fun hz_10 H locs hG hS => ?_)
  · rw [show k_ofCell v1 v2 v3 v4 σ = (1, 0, σ) from by unfold k_ofCell; first | (rw [if_pos hz_2, if_neg hz_10] <;> rfl) | simp only [if_pos hz_2, if_neg hz_10]]
    exact y_out hex hlocks hG hS hq hv hcl (by decide) rfl (Nat.le_of_ble_eq_true rfl) (Nat.le_of_ble_eq_true rfl)
  refine lv_istore (lv' := [(6, .int (nI (tn v3 * 12 + tn v2))), (5, .ref (L 299 (σ.2.2.1 1001 1 (tn v1)))), (0, .ref (L 899 0)), (1, .int v1), (2, .int v2), (3, .int v3), (4, .int v4)]) hx hb dX8_ofCell_13 hl (by decide) rfl (fun ls hl => ?_)
  refine lv_iload hx hb dX8_ofCell_15 (lv_at hl 6 rfl) ?_
  rcases sw_split (v4) 4 (by decide) with h_17 | ⟨j_17, h_17, e_17⟩
  · refine lv_tableOut (tgt := 97) hx hb dX8_ofCell_17 h_17 (by decide) ?_
    rw [show k_ofCell v1 v2 v3 v4 σ = (2, 0, σ) from by unfold k_ofCell; first | (rw [if_pos hz_2, if_pos hz_10, if_neg (sw_ne (n := 4) h_17 0 (by decide)), if_neg (sw_ne (n := 4) h_17 1 (by decide)), if_neg (sw_ne (n := 4) h_17 2 (by decide)), if_neg (sw_ne (n := 4) h_17 3 (by decide)), if_neg (sw_ne (n := 4) h_17 4 (by decide))] <;> rfl) | simp only [if_pos hz_2, if_pos hz_10, if_neg (sw_ne (n := 4) h_17 0 (by decide)), if_neg (sw_ne (n := 4) h_17 1 (by decide)), if_neg (sw_ne (n := 4) h_17 2 (by decide)), if_neg (sw_ne (n := 4) h_17 3 (by decide)), if_neg (sw_ne (n := 4) h_17 4 (by decide))]]
    exact y_throwW (e8 := 2) (tx := "what") hx X hl9 xw_2 hX9 (List.mem_of_getElem? (i := 28) rfl) hex hlocks hl.1 hS (pw_ext hG) (by decide) rfl dX8_ofCell_97 dX8_ofCell_100 dX8_ofCell_101 dX8_ofCell_104 dX8_ofCell_107 (Nat.le_of_ble_eq_true rfl) (Nat.le_of_ble_eq_true rfl) (Nat.le_of_ble_eq_true rfl) (Nat.le_of_ble_eq_true rfl) (Nat.le_of_ble_eq_true rfl) (Nat.le_of_ble_eq_true rfl)
  · rcases (by omega : j_17 = 0 ∨ j_17 = 1 ∨ j_17 = 2 ∨ j_17 = 3 ∨ j_17 = 4) with rfl | rfl | rfl | rfl | rfl
    · refine r_top (y := nI 0) e_17 ?_
      refine lv_tableIn (tgt := 52) hx hb dX8_ofCell_17 (by decide) (by decide) (off := 35) (by decide) (by decide) ?_
      refine lv_aload hx hb dX8_ofCell_52 (lv_at hl 1 rfl) ?_
      refine gt_X8_326 X hK hG (cd_obj (by decide) (Or.inl (by decide)) (hI.2 1 (by decide) _ (ix_lt hz_2))) dX8_ofCell_54 ?_
      refine lv_iload hx hb dX8_ofCell_57 (lv_at hl 0 rfl) ?_
      refine al_200 X hK hG (cd_obj (by decide) (Or.inr (by decide)) (hI.2 1 (by decide) _ (ix_lt hz_2))) (i := tn v3 * 12 + tn v2) (x := σ.2.2.2 200 (σ.2.2.1 1001 1 (tn v1)) (tn v3 * 12 + tn v2)) (by have := ix_lt hz_10.1; have := ix_lt hz_10.2; omega) rfl dX8_ofCell_59 ?_
      rw [show k_ofCell v1 v2 v3 v4 σ = (0, σ.2.2.2 200 (σ.2.2.1 1001 1 (tn v1)) (tn v3 * 12 + tn v2), σ) from by unfold k_ofCell; first | (rw [if_pos hz_2, if_pos hz_10, if_pos e_17] <;> rfl) | simp only [if_pos hz_2, if_pos hz_10, if_pos e_17]]
      exact y_reti hx hb hr hlocks hG hS rfl rfl rfl (Nat.le_of_ble_eq_true rfl) (Nat.le_of_ble_eq_true rfl) dX8_ofCell_60
    · refine r_top (y := nI 1) e_17 ?_
      refine lv_tableIn (tgt := 61) hx hb dX8_ofCell_17 (by decide) (by decide) (off := 44) (by decide) (by decide) ?_
      refine lv_aload hx hb dX8_ofCell_61 (lv_at hl 1 rfl) ?_
      refine gt_X8_282 X hK hG (cd_obj (by decide) (Or.inl (by decide)) (hI.2 1 (by decide) _ (ix_lt hz_2))) dX8_ofCell_63 ?_
      refine lv_iload hx hb dX8_ofCell_66 (lv_at hl 0 rfl) ?_
      refine al_201 X hK hG (cd_obj (by decide) (Or.inr (by decide)) (hI.2 1 (by decide) _ (ix_lt hz_2))) (i := tn v3 * 12 + tn v2) (x := σ.2.2.2 201 (σ.2.2.1 1001 1 (tn v1)) (tn v3 * 12 + tn v2)) (by have := ix_lt hz_10.1; have := ix_lt hz_10.2; omega) rfl dX8_ofCell_68 ?_
      rw [show k_ofCell v1 v2 v3 v4 σ = (0, σ.2.2.2 201 (σ.2.2.1 1001 1 (tn v1)) (tn v3 * 12 + tn v2), σ) from by unfold k_ofCell; first | (rw [if_pos hz_2, if_pos hz_10, if_neg (show ¬ v4 = nI 0 from by rw [e_17]; decide), if_pos e_17] <;> rfl) | simp only [if_pos hz_2, if_pos hz_10, if_neg (show ¬ v4 = nI 0 from by rw [e_17]; decide), if_pos e_17]]
      exact y_reti hx hb hr hlocks hG hS rfl rfl rfl (Nat.le_of_ble_eq_true rfl) (Nat.le_of_ble_eq_true rfl) dX8_ofCell_69
    · refine r_top (y := nI 2) e_17 ?_
      refine lv_tableIn (tgt := 70) hx hb dX8_ofCell_17 (by decide) (by decide) (off := 53) (by decide) (by decide) ?_
      refine lv_aload hx hb dX8_ofCell_70 (lv_at hl 1 rfl) ?_
      refine gt_X8_292 X hK hG (cd_obj (by decide) (Or.inl (by decide)) (hI.2 1 (by decide) _ (ix_lt hz_2))) dX8_ofCell_72 ?_
      refine lv_iload hx hb dX8_ofCell_75 (lv_at hl 0 rfl) ?_
      refine al_202 X hK hG (cd_obj (by decide) (Or.inr (by decide)) (hI.2 1 (by decide) _ (ix_lt hz_2))) (i := tn v3 * 12 + tn v2) (x := σ.2.2.2 202 (σ.2.2.1 1001 1 (tn v1)) (tn v3 * 12 + tn v2)) (by have := ix_lt hz_10.1; have := ix_lt hz_10.2; omega) rfl dX8_ofCell_77 ?_
      rw [show k_ofCell v1 v2 v3 v4 σ = (0, σ.2.2.2 202 (σ.2.2.1 1001 1 (tn v1)) (tn v3 * 12 + tn v2), σ) from by unfold k_ofCell; first | (rw [if_pos hz_2, if_pos hz_10, if_neg (show ¬ v4 = nI 0 from by rw [e_17]; decide), if_neg (show ¬ v4 = nI 1 from by rw [e_17]; decide), if_pos e_17] <;> rfl) | simp only [if_pos hz_2, if_pos hz_10, if_neg (show ¬ v4 = nI 0 from by rw [e_17]; decide), if_neg (show ¬ v4 = nI 1 from by rw [e_17]; decide), if_pos e_17]]
      exact y_reti hx hb hr hlocks hG hS rfl rfl rfl (Nat.le_of_ble_eq_true rfl) (Nat.le_of_ble_eq_true rfl) dX8_ofCell_78
    · refine r_top (y := nI 3) e_17 ?_
      refine lv_tableIn (tgt := 79) hx hb dX8_ofCell_17 (by decide) (by decide) (off := 62) (by decide) (by decide) ?_
      refine lv_aload hx hb dX8_ofCell_79 (lv_at hl 1 rfl) ?_
      refine gt_X8_327 X hK hG (cd_obj (by decide) (Or.inl (by decide)) (hI.2 1 (by decide) _ (ix_lt hz_2))) dX8_ofCell_81 ?_
      refine lv_iload hx hb dX8_ofCell_84 (lv_at hl 0 rfl) ?_
      refine al_203 X hK hG (cd_obj (by decide) (Or.inr (by decide)) (hI.2 1 (by decide) _ (ix_lt hz_2))) (i := tn v3 * 12 + tn v2) (x := σ.2.2.2 203 (σ.2.2.1 1001 1 (tn v1)) (tn v3 * 12 + tn v2)) (by have := ix_lt hz_10.1; have := ix_lt hz_10.2; omega) rfl dX8_ofCell_86 ?_
      rw [show k_ofCell v1 v2 v3 v4 σ = (0, σ.2.2.2 203 (σ.2.2.1 1001 1 (tn v1)) (tn v3 * 12 + tn v2), σ) from by unfold k_ofCell; first | (rw [if_pos hz_2, if_pos hz_10, if_neg (show ¬ v4 = nI 0 from by rw [e_17]; decide), if_neg (show ¬ v4 = nI 1 from by rw [e_17]; decide), if_neg (show ¬ v4 = nI 2 from by rw [e_17]; decide), if_pos e_17] <;> rfl) | simp only [if_pos hz_2, if_pos hz_10, if_neg (show ¬ v4 = nI 0 from by rw [e_17]; decide), if_neg (show ¬ v4 = nI 1 from by rw [e_17]; decide), if_neg (show ¬ v4 = nI 2 from by rw [e_17]; decide), if_pos e_17]]
      exact y_reti hx hb hr hlocks hG hS rfl rfl rfl (Nat.le_of_ble_eq_true rfl) (Nat.le_of_ble_eq_true rfl) dX8_ofCell_87
    · refine r_top (y := nI 4) e_17 ?_
      refine lv_tableIn (tgt := 88) hx hb dX8_ofCell_17 (by decide) (by decide) (off := 71) (by decide) (by decide) ?_
      refine lv_aload hx hb dX8_ofCell_88 (lv_at hl 1 rfl) ?_
      refine gt_X8_154 X hK hG (cd_obj (by decide) (Or.inl (by decide)) (hI.2 1 (by decide) _ (ix_lt hz_2))) dX8_ofCell_90 ?_
      refine lv_iload hx hb dX8_ofCell_93 (lv_at hl 0 rfl) ?_
      refine al_204 X hK hG (cd_obj (by decide) (Or.inr (by decide)) (hI.2 1 (by decide) _ (ix_lt hz_2))) (i := tn v3 * 12 + tn v2) (x := σ.2.2.2 204 (σ.2.2.1 1001 1 (tn v1)) (tn v3 * 12 + tn v2)) (by have := ix_lt hz_10.1; have := ix_lt hz_10.2; omega) rfl dX8_ofCell_95 ?_
      rw [show k_ofCell v1 v2 v3 v4 σ = (0, σ.2.2.2 204 (σ.2.2.1 1001 1 (tn v1)) (tn v3 * 12 + tn v2), σ) from by unfold k_ofCell; first | (rw [if_pos hz_2, if_pos hz_10, if_neg (show ¬ v4 = nI 0 from by rw [e_17]; decide), if_neg (show ¬ v4 = nI 1 from by rw [e_17]; decide), if_neg (show ¬ v4 = nI 2 from by rw [e_17]; decide), if_neg (show ¬ v4 = nI 3 from by rw [e_17]; decide), if_pos e_17] <;> rfl) | simp only [if_pos hz_2, if_pos hz_10, if_neg (show ¬ v4 = nI 0 from by rw [e_17]; decide), if_neg (show ¬ v4 = nI 1 from by rw [e_17]; decide), if_neg (show ¬ v4 = nI 2 from by rw [e_17]; decide), if_neg (show ¬ v4 = nI 3 from by rw [e_17]; decide), if_pos e_17]]
      exact y_reti hx hb hr hlocks hG hS rfl rfl rfl (Nat.le_of_ble_eq_true rfl) (Nat.le_of_ble_eq_true rfl) dX8_ofCell_96
def k_ofPallet (v1 v2 : Int32) (σ : St) : Nat × Int32 × St := if ix v1 (σ.1 1002 1) then (if v2 = nI 0 then ((0, σ.2.1 206 (σ.2.2.1 1001 1 (tn v1)), σ)) else (if v2 = nI 1 then ((0, nI (σ.1 208 (σ.2.2.1 1001 1 (tn v1))), σ)) else (if v2 = nI 2 then ((0, k_pl (σ.2.2.1 1001 2) (σ.2.2.1 1001 1 (tn v1)) (σ.1 1002 2) 0, σ)) else (if v2 = nI 3 then ((0, σ.2.1 209 (σ.2.2.1 1001 1 (tn v1)), σ)) else ((2, 0, σ)))))) else ((1, 0, σ))
set_option maxRecDepth 100000 in
set_option maxHeartbeats 4000000 in
theorem z_X8_ofPallet {D : va_G} {cI cZ cO : ClassId} (l : Launch) (hl9 : l.stackTraces = false) (L : Lay) (σ : St) (ow : Nat → Prop) (v1 v2 : Int32) (hI : CI σ) : ZI D cI cZ cO (cdom σ) l yX8_ofPallet cX8_ofPallet 4 ((some FieldType.int)) 7 143 2 12 [.ref (L 899 0), .int v1, .int v2] L σ ow (k_ofPallet v1 v2 σ).1 (k_ofPallet v1 v2 σ).2.1 (k_ofPallet v1 v2 σ).2.2 := by
  refine z_of (Qc := fun sz => YQi (k_ofPallet v1 v2 σ).1 (k_ofPallet v1 v2 σ).2.1 (PW D cI cZ cO (cdom σ) L (k_ofPallet v1 v2 σ).2.2 ow) (AA ow sz)) (XC := fun sz => YX (k_ofPallet v1 v2 σ).1 (PW D cI cZ cO (cdom σ) L (k_ofPallet v1 v2 σ).2.2 ow) (AA ow sz)) rfl (Nat.le_of_ble_eq_true rfl) ?_
  intro p e s m args below meth c ls X hex hK hG hX9 hr hlocks hl
  have X : CallFix p m c cX8_ofPallet 4 s _ TB RX8 := X
  have hx := X.1
  have hb := X.2.1
  have hS : va_S (AA ow s.heap.size) s.heap s.heap [] := va_S.rf
  have hA : ∀ q, ow q → AA ow s.heap.size q := fun _ h => Or.inl h
  have hA2 : ∀ q, AA ow s.heap.size q → AA ow s.heap.size q := fun _ h => h
  have hl : lv_has ls 4 [(0, .ref (L 899 0)), (1, .int v1), (2, .int v2)] := hl
  refine lv_aload_n hx hb dX8_ofPallet_0 rfl (lv_at hl 0 rfl) ?_
  refine lv_iload_n hx hb dX8_ofPallet_1 rfl (lv_at hl 1 rfl) ?_
  refine z_callqP (P := ix v1 (σ.1 1002 1)) X hK hG hS hA2 hX9 yvX8_palletAt ml_X8_141 kX8 rfl (cd_fix (by decide)) [.int v1] [] (z_X8_palletAt l hl9 L σ ow v1 hI) rfl hl.1 rfl (Nat.le_of_ble_eq_true rfl) ⟨Nat.le_of_ble_eq_true rfl, Nat.le_of_ble_eq_true rfl⟩ ⟨Nat.le_of_ble_eq_true rfl, Nat.le_of_ble_eq_true rfl⟩ dX8_ofPallet_2 (fun hz_2 H locs q ce hG hS hq hv hcl => ?_) (fun hz_2 H locs hG hS => ?_)
  · rw [show k_ofPallet v1 v2 σ = (1, 0, σ) from by unfold k_ofPallet; first | (rw [if_neg hz_2] <;> rfl) | simp only [if_neg hz_2]]
    exact y_out hex hlocks hG hS hq hv hcl (by decide) rfl (Nat.le_of_ble_eq_true rfl) (Nat.le_of_ble_eq_true rfl)
  refine lv_astore_n (lv' := [(3, .ref (L 299 (σ.2.2.1 1001 1 (tn v1)))), (0, .ref (L 899 0)), (1, .int v1), (2, .int v2)]) hx hb dX8_ofPallet_5 rfl hl (by decide) rfl (fun ls hl => ?_)
  refine lv_iload_n hx hb dX8_ofPallet_6 rfl (lv_at hl 3 rfl) ?_
  rcases sw_split (v2) 3 (by decide) with h_7 | ⟨j_7, h_7, e_7⟩
  · refine lv_tableOut (tgt := 57) hx hb dX8_ofPallet_7 h_7 (by decide) ?_
    rw [show k_ofPallet v1 v2 σ = (2, 0, σ) from by unfold k_ofPallet; first | (rw [if_pos hz_2, if_neg (sw_ne (n := 3) h_7 0 (by decide)), if_neg (sw_ne (n := 3) h_7 1 (by decide)), if_neg (sw_ne (n := 3) h_7 2 (by decide)), if_neg (sw_ne (n := 3) h_7 3 (by decide))] <;> rfl) | simp only [if_pos hz_2, if_neg (sw_ne (n := 3) h_7 0 (by decide)), if_neg (sw_ne (n := 3) h_7 1 (by decide)), if_neg (sw_ne (n := 3) h_7 2 (by decide)), if_neg (sw_ne (n := 3) h_7 3 (by decide))]]
    exact y_throwW (e8 := 2) (tx := "what") hx X hl9 xw_2 hX9 (List.mem_of_getElem? (i := 28) rfl) hex hlocks hl.1 hS (pw_ext hG) (by decide) rfl dX8_ofPallet_57 dX8_ofPallet_60 dX8_ofPallet_61 dX8_ofPallet_64 dX8_ofPallet_67 (Nat.le_of_ble_eq_true rfl) (Nat.le_of_ble_eq_true rfl) (Nat.le_of_ble_eq_true rfl) (Nat.le_of_ble_eq_true rfl) (Nat.le_of_ble_eq_true rfl) (Nat.le_of_ble_eq_true rfl)
  · rcases (by omega : j_7 = 0 ∨ j_7 = 1 ∨ j_7 = 2 ∨ j_7 = 3) with rfl | rfl | rfl | rfl
    · refine r_top (y := nI 0) e_7 ?_
      refine lv_tableIn (tgt := 36) hx hb dX8_ofPallet_7 (by decide) (by decide) (off := 29) (by decide) (by decide) ?_
      refine lv_aload_n hx hb dX8_ofPallet_36 rfl (lv_at hl 0 rfl) ?_
      refine gt_X8_151 X hK hG (cd_obj (by decide) (Or.inl (by decide)) (hI.2 1 (by decide) _ (ix_lt hz_2))) (x := σ.2.1 206 (σ.2.2.1 1001 1 (tn v1))) rfl dX8_ofPallet_37 ?_
      rw [show k_ofPallet v1 v2 σ = (0, σ.2.1 206 (σ.2.2.1 1001 1 (tn v1)), σ) from by unfold k_ofPallet; first | (rw [if_pos hz_2, if_pos e_7] <;> rfl) | simp only [if_pos hz_2, if_pos e_7]]
      exact y_reti hx hb hr hlocks hG hS rfl rfl rfl (Nat.le_of_ble_eq_true rfl) (Nat.le_of_ble_eq_true rfl) dX8_ofPallet_40
    · refine r_top (y := nI 1) e_7 ?_
      refine lv_tableIn (tgt := 41) hx hb dX8_ofPallet_7 (by decide) (by decide) (off := 34) (by decide) (by decide) ?_
      refine lv_aload_n hx hb dX8_ofPallet_41 rfl (lv_at hl 0 rfl) ?_
      refine gt_X8_199 X hK hG (cd_obj (by decide) (Or.inl (by decide)) (hI.2 1 (by decide) _ (ix_lt hz_2))) (x := σ.1 208 (σ.2.2.1 1001 1 (tn v1))) rfl dX8_ofPallet_42 ?_
      rw [show k_ofPallet v1 v2 σ = (0, nI (σ.1 208 (σ.2.2.1 1001 1 (tn v1))), σ) from by unfold k_ofPallet; first | (rw [if_pos hz_2, if_neg (show ¬ v2 = nI 0 from by rw [e_7]; decide), if_pos e_7] <;> rfl) | simp only [if_pos hz_2, if_neg (show ¬ v2 = nI 0 from by rw [e_7]; decide), if_pos e_7]]
      exact y_reti hx hb hr hlocks hG hS rfl rfl rfl (Nat.le_of_ble_eq_true rfl) (Nat.le_of_ble_eq_true rfl) dX8_ofPallet_45
    · refine r_top (y := nI 2) e_7 ?_
      refine lv_tableIn (tgt := 46) hx hb dX8_ofPallet_7 (by decide) (by decide) (off := 39) (by decide) (by decide) ?_
      refine lv_aload_n hx hb dX8_ofPallet_46 rfl (lv_at hl 1 rfl) ?_
      refine lv_aload_n hx hb dX8_ofPallet_47 rfl (lv_at hl 0 rfl) ?_
      refine rm_callVg X hK hG hS hA2 yvX8_placeInQueue ml_X8_330 kX8 rfl (cd_fix (by decide)) [.ref (L 299 (σ.2.2.1 1001 1 (tn v1)))] [] (c_X8_placeInQueue l L σ ow (σ.2.2.1 1001 1 (tn v1)) (hI.2 1 (by decide) _ (ix_lt hz_2)) hI) rfl hl.1 rfl (Nat.le_of_ble_eq_true rfl) ⟨Nat.le_of_ble_eq_true rfl, Nat.le_of_ble_eq_true rfl⟩ ⟨Nat.le_of_ble_eq_true rfl, Nat.le_of_ble_eq_true rfl⟩ dX8_ofPallet_48 (fun H locs hG hS => ?_)
      rw [show k_ofPallet v1 v2 σ = (0, k_pl (σ.2.2.1 1001 2) (σ.2.2.1 1001 1 (tn v1)) (σ.1 1002 2) 0, σ) from by unfold k_ofPallet; first | (rw [if_pos hz_2, if_neg (show ¬ v2 = nI 0 from by rw [e_7]; decide), if_neg (show ¬ v2 = nI 1 from by rw [e_7]; decide), if_pos e_7] <;> rfl) | simp only [if_pos hz_2, if_neg (show ¬ v2 = nI 0 from by rw [e_7]; decide), if_neg (show ¬ v2 = nI 1 from by rw [e_7]; decide), if_pos e_7]]
      exact y_reti hx hb hr hlocks hG hS rfl rfl rfl (Nat.le_of_ble_eq_true rfl) (Nat.le_of_ble_eq_true rfl) dX8_ofPallet_51
    · refine r_top (y := nI 3) e_7 ?_
      refine lv_tableIn (tgt := 52) hx hb dX8_ofPallet_7 (by decide) (by decide) (off := 45) (by decide) (by decide) ?_
      refine lv_aload_n hx hb dX8_ofPallet_52 rfl (lv_at hl 0 rfl) ?_
      refine gt_X8_304 X hK hG (cd_obj (by decide) (Or.inl (by decide)) (hI.2 1 (by decide) _ (ix_lt hz_2))) (x := σ.2.1 209 (σ.2.2.1 1001 1 (tn v1))) rfl dX8_ofPallet_53 ?_
      rw [show k_ofPallet v1 v2 σ = (0, σ.2.1 209 (σ.2.2.1 1001 1 (tn v1)), σ) from by unfold k_ofPallet; first | (rw [if_pos hz_2, if_neg (show ¬ v2 = nI 0 from by rw [e_7]; decide), if_neg (show ¬ v2 = nI 1 from by rw [e_7]; decide), if_neg (show ¬ v2 = nI 2 from by rw [e_7]; decide), if_pos e_7] <;> rfl) | simp only [if_pos hz_2, if_neg (show ¬ v2 = nI 0 from by rw [e_7]; decide), if_neg (show ¬ v2 = nI 1 from by rw [e_7]; decide), if_neg (show ¬ v2 = nI 2 from by rw [e_7]; decide), if_pos e_7]]
      exact y_reti hx hb hr hlocks hG hS rfl rfl rfl (Nat.le_of_ble_eq_true rfl) (Nat.le_of_ble_eq_true rfl) dX8_ofPallet_56
def k_ofPaper (v1 v2 : Int32) (σ : St) : Nat × Int32 × St := if ix v1 (σ.1 1002 5) then (if ix v2 11 then (if v2 = nI 0 then ((0, σ.2.1 300 (σ.2.2.1 1001 5 (tn v1)), σ)) else (if v2 = nI 1 then ((0, σ.2.1 301 (σ.2.2.1 1001 5 (tn v1)), σ)) else (if v2 = nI 2 then ((0, k_vd (σ.2.2.1 1001 5 (tn v1)) σ (σ.1 306 (σ.2.2.1 1001 5 (tn v1))) 0 (nI 0), σ)) else (if v2 = nI 3 then ((0, σ.2.1 302 (σ.2.2.1 1001 5 (tn v1)), σ)) else (if v2 = nI 4 then ((0, σ.2.1 303 (σ.2.2.1 1001 5 (tn v1)), σ)) else ((0, σ.2.2.2 304 (σ.2.2.1 1001 5 (tn v1)) ((tn v2) - 5), σ))))))) else ((2, 0, σ))) else ((1, 0, σ))
set_option maxRecDepth 100000 in
set_option maxHeartbeats 4000000 in
theorem z_X8_ofPaper {D : va_G} {cI cZ cO : ClassId} (l : Launch) (hl9 : l.stackTraces = false) (L : Lay) (σ : St) (ow : Nat → Prop) (v1 v2 : Int32) (h36 : ∀ k, σ.1 306 k ≤ 6) (hI : CI σ) : ZI D cI cZ cO (cdom σ) l yX8_ofPaper cX8_ofPaper 4 ((some FieldType.int)) 7 142 2 12 [.ref (L 899 0), .int v1, .int v2] L σ ow (k_ofPaper v1 v2 σ).1 (k_ofPaper v1 v2 σ).2.1 (k_ofPaper v1 v2 σ).2.2 := by
  refine z_of (Qc := fun sz => YQi (k_ofPaper v1 v2 σ).1 (k_ofPaper v1 v2 σ).2.1 (PW D cI cZ cO (cdom σ) L (k_ofPaper v1 v2 σ).2.2 ow) (AA ow sz)) (XC := fun sz => YX (k_ofPaper v1 v2 σ).1 (PW D cI cZ cO (cdom σ) L (k_ofPaper v1 v2 σ).2.2 ow) (AA ow sz)) rfl (Nat.le_of_ble_eq_true rfl) ?_
  intro p e s m args below meth c ls X hex hK hG hX9 hr hlocks hl
  have X : CallFix p m c cX8_ofPaper 4 s _ TB RX8 := X
  have hx := X.1
  have hb := X.2.1
  have hS : va_S (AA ow s.heap.size) s.heap s.heap [] := va_S.rf
  have hA : ∀ q, ow q → AA ow s.heap.size q := fun _ h => Or.inl h
  have hA2 : ∀ q, AA ow s.heap.size q → AA ow s.heap.size q := fun _ h => h
  have hl : lv_has ls 4 [(0, .ref (L 899 0)), (1, .int v1), (2, .int v2)] := hl
  refine lv_aload_n hx hb dX8_ofPaper_0 rfl (lv_at hl 0 rfl) ?_
  refine lv_iload_n hx hb dX8_ofPaper_1 rfl (lv_at hl 1 rfl) ?_
  refine z_callqP (P := ix v1 (σ.1 1002 5)) X hK hG hS hA2 hX9 yvX8_paperAt ml_X8_334 kX8 rfl (cd_fix (by decide)) [.int v1] [] (z_X8_paperAt l hl9 L σ ow v1 hI) rfl hl.1 rfl (Nat.le_of_ble_eq_true rfl) ⟨Nat.le_of_ble_eq_true rfl, Nat.le_of_ble_eq_true rfl⟩ ⟨Nat.le_of_ble_eq_true rfl, Nat.le_of_ble_eq_true rfl⟩ dX8_ofPaper_2 (fun hz_2 H locs q ce hG hS hq hv hcl => ?_) (fun hz_2 H locs hG hS => ?_)
  · rw [show k_ofPaper v1 v2 σ = (1, 0, σ) from by unfold k_ofPaper; first | (rw [if_neg hz_2] <;> rfl) | simp only [if_neg hz_2]]
    exact y_out hex hlocks hG hS hq hv hcl (by decide) rfl (Nat.le_of_ble_eq_true rfl) (Nat.le_of_ble_eq_true rfl)
  refine lv_astore_n (lv' := [(3, .ref (L 399 (σ.2.2.1 1001 5 (tn v1)))), (0, .ref (L 899 0)), (1, .int v1), (2, .int v2)]) hx hb dX8_ofPaper_5 rfl hl (by decide) rfl (fun ls hl => ?_)
  refine lv_iload_n hx hb dX8_ofPaper_6 rfl (lv_at hl 3 rfl) ?_
  refine lv_iconst (v := nI 0) hx hb dX8_ofPaper_7 (by decide) ?_
  refine lv_bipush (v := nI 10) hx hb dX8_ofPaper_8 (by decide) ?_
  refine rm_callSg X hK hG hS hA2 ysX8_isWithin ml_X8_105 [.int v2, .int (nI 0), .int (nI 10)] [] (c_X8_isWithin l L σ ow v2 (nI 0) (nI 10)) rfl hl.1 rfl (Nat.le_of_ble_eq_true rfl) ⟨Nat.le_of_ble_eq_true rfl, Nat.le_of_ble_eq_true rfl⟩ ⟨Nat.le_of_ble_eq_true rfl, Nat.le_of_ble_eq_true rfl⟩ dX8_ofPaper_10 (fun H locs hG hS => ?_)
  refine r_top (y := b2i (ix v2 11)) (b2i_c (rg_z 10 (by decide))) ?_
  refine r_if_neB (tgt := 27) hx hb dX8_ofPaper_13 (by decide) (fun c_13 => ?_) (fun c_13 => ?_)
  · refine lv_iload_n hx hb dX8_ofPaper_27 rfl (lv_at hl 3 rfl) ?_
    rcases sw_split (v2) 4 (by decide) with h_28 | ⟨j_28, h_28, e_28⟩
    · refine lv_tableOut (tgt := 89) hx hb dX8_ofPaper_28 h_28 (by decide) ?_
      refine lv_aload_n hx hb dX8_ofPaper_89 rfl (lv_at hl 0 rfl) ?_
      refine gt_X8_348 X hK hG (cd_obj (by decide) (Or.inl (by decide)) (hI.2 5 (by decide) _ (ix_lt hz_2))) dX8_ofPaper_90 ?_
      refine lv_iload_n hx hb dX8_ofPaper_93 rfl (lv_at hl 3 rfl) ?_
      refine r_top (y := nI (tn v2)) (ix_eq c_13) ?_
      refine lv_iconst (v := nI 5) hx hb dX8_ofPaper_94 (by decide) ?_
      refine r_subN hx hb (by have := h_28; have := c_13.1; unfold tn; omega) dX8_ofPaper_95 ?_
      refine al_304 X hK hG (cd_obj (by decide) (Or.inr (by decide)) (hI.2 5 (by decide) _ (ix_lt hz_2))) (i := (tn v2) - 5) (x := σ.2.2.2 304 (σ.2.2.1 1001 5 (tn v1)) ((tn v2) - 5)) (by have := c_13.2; unfold tn; omega) rfl dX8_ofPaper_96 ?_
      rw [show k_ofPaper v1 v2 σ = (0, σ.2.2.2 304 (σ.2.2.1 1001 5 (tn v1)) ((tn v2) - 5), σ) from by unfold k_ofPaper; first | (rw [if_pos hz_2, if_pos c_13, if_neg (sw_ne (n := 4) h_28 0 (by decide)), if_neg (sw_ne (n := 4) h_28 1 (by decide)), if_neg (sw_ne (n := 4) h_28 2 (by decide)), if_neg (sw_ne (n := 4) h_28 3 (by decide)), if_neg (sw_ne (n := 4) h_28 4 (by decide))] <;> rfl) | simp only [if_pos hz_2, if_pos c_13, if_neg (sw_ne (n := 4) h_28 0 (by decide)), if_neg (sw_ne (n := 4) h_28 1 (by decide)), if_neg (sw_ne (n := 4) h_28 2 (by decide)), if_neg (sw_ne (n := 4) h_28 3 (by decide)), if_neg (sw_ne (n := 4) h_28 4 (by decide))]]
      exact y_reti hx hb hr hlocks hG hS rfl rfl rfl (Nat.le_of_ble_eq_true rfl) (Nat.le_of_ble_eq_true rfl) dX8_ofPaper_97
    · rcases (by omega : j_28 = 0 ∨ j_28 = 1 ∨ j_28 = 2 ∨ j_28 = 3 ∨ j_28 = 4) with rfl | rfl | rfl | rfl | rfl
      · refine r_top (y := nI 0) e_28 ?_
        refine lv_tableIn (tgt := 64) hx hb dX8_ofPaper_28 (by decide) (by decide) (off := 36) (by decide) (by decide) ?_
        refine lv_aload_n hx hb dX8_ofPaper_64 rfl (lv_at hl 0 rfl) ?_
        refine gt_X8_338 X hK hG (cd_obj (by decide) (Or.inl (by decide)) (hI.2 5 (by decide) _ (ix_lt hz_2))) (x := σ.2.1 300 (σ.2.2.1 1001 5 (tn v1))) rfl dX8_ofPaper_65 ?_
        rw [show k_ofPaper v1 v2 σ = (0, σ.2.1 300 (σ.2.2.1 1001 5 (tn v1)), σ) from by unfold k_ofPaper; first | (rw [if_pos hz_2, if_pos c_13, if_pos e_28] <;> rfl) | simp only [if_pos hz_2, if_pos c_13, if_pos e_28]]
        exact y_reti hx hb hr hlocks hG hS rfl rfl rfl (Nat.le_of_ble_eq_true rfl) (Nat.le_of_ble_eq_true rfl) dX8_ofPaper_68
      · refine r_top (y := nI 1) e_28 ?_
        refine lv_tableIn (tgt := 69) hx hb dX8_ofPaper_28 (by decide) (by decide) (off := 41) (by decide) (by decide) ?_
        refine lv_aload_n hx hb dX8_ofPaper_69 rfl (lv_at hl 0 rfl) ?_
        refine gt_X8_341 X hK hG (cd_obj (by decide) (Or.inl (by decide)) (hI.2 5 (by decide) _ (ix_lt hz_2))) (x := σ.2.1 301 (σ.2.2.1 1001 5 (tn v1))) rfl dX8_ofPaper_70 ?_
        rw [show k_ofPaper v1 v2 σ = (0, σ.2.1 301 (σ.2.2.1 1001 5 (tn v1)), σ) from by unfold k_ofPaper; first | (rw [if_pos hz_2, if_pos c_13, if_neg (show ¬ v2 = nI 0 from by rw [e_28]; decide), if_pos e_28] <;> rfl) | simp only [if_pos hz_2, if_pos c_13, if_neg (show ¬ v2 = nI 0 from by rw [e_28]; decide), if_pos e_28]]
        exact y_reti hx hb hr hlocks hG hS rfl rfl rfl (Nat.le_of_ble_eq_true rfl) (Nat.le_of_ble_eq_true rfl) dX8_ofPaper_73
      · refine r_top (y := nI 2) e_28 ?_
        refine lv_tableIn (tgt := 74) hx hb dX8_ofPaper_28 (by decide) (by decide) (off := 46) (by decide) (by decide) ?_
        refine lv_aload_n hx hb dX8_ofPaper_74 rfl (lv_at hl 0 rfl) ?_
        refine rm_callVg X hK hG hS hA2 yvX3_verdict ml_X8_301 kX3 rfl (cd_obj (by decide) (Or.inl (by decide)) (hI.2 5 (by decide) _ (ix_lt hz_2))) [] [] (c_X3_verdict l L σ ow (σ.2.2.1 1001 5 (tn v1)) (cd_objs (C := 3) (by decide) (hI.2 5 (by decide) _ (ix_lt hz_2))) (h36 _)) rfl hl.1 rfl (Nat.le_of_ble_eq_true rfl) ⟨Nat.le_of_ble_eq_true rfl, Nat.le_of_ble_eq_true rfl⟩ ⟨Nat.le_of_ble_eq_true rfl, Nat.le_of_ble_eq_true rfl⟩ dX8_ofPaper_75 (fun H locs hG hS => ?_)
        rw [show k_ofPaper v1 v2 σ = (0, k_vd (σ.2.2.1 1001 5 (tn v1)) σ (σ.1 306 (σ.2.2.1 1001 5 (tn v1))) 0 (nI 0), σ) from by unfold k_ofPaper; first | (rw [if_pos hz_2, if_pos c_13, if_neg (show ¬ v2 = nI 0 from by rw [e_28]; decide), if_neg (show ¬ v2 = nI 1 from by rw [e_28]; decide), if_pos e_28] <;> rfl) | simp only [if_pos hz_2, if_pos c_13, if_neg (show ¬ v2 = nI 0 from by rw [e_28]; decide), if_neg (show ¬ v2 = nI 1 from by rw [e_28]; decide), if_pos e_28]]
        exact y_reti hx hb hr hlocks hG hS rfl rfl rfl (Nat.le_of_ble_eq_true rfl) (Nat.le_of_ble_eq_true rfl) dX8_ofPaper_78
      · refine r_top (y := nI 3) e_28 ?_
        refine lv_tableIn (tgt := 79) hx hb dX8_ofPaper_28 (by decide) (by decide) (off := 51) (by decide) (by decide) ?_
        refine lv_aload_n hx hb dX8_ofPaper_79 rfl (lv_at hl 0 rfl) ?_
        refine gt_X8_344 X hK hG (cd_obj (by decide) (Or.inl (by decide)) (hI.2 5 (by decide) _ (ix_lt hz_2))) (x := σ.2.1 302 (σ.2.2.1 1001 5 (tn v1))) rfl dX8_ofPaper_80 ?_
        rw [show k_ofPaper v1 v2 σ = (0, σ.2.1 302 (σ.2.2.1 1001 5 (tn v1)), σ) from by unfold k_ofPaper; first | (rw [if_pos hz_2, if_pos c_13, if_neg (show ¬ v2 = nI 0 from by rw [e_28]; decide), if_neg (show ¬ v2 = nI 1 from by rw [e_28]; decide), if_neg (show ¬ v2 = nI 2 from by rw [e_28]; decide), if_pos e_28] <;> rfl) | simp only [if_pos hz_2, if_pos c_13, if_neg (show ¬ v2 = nI 0 from by rw [e_28]; decide), if_neg (show ¬ v2 = nI 1 from by rw [e_28]; decide), if_neg (show ¬ v2 = nI 2 from by rw [e_28]; decide), if_pos e_28]]
        exact y_reti hx hb hr hlocks hG hS rfl rfl rfl (Nat.le_of_ble_eq_true rfl) (Nat.le_of_ble_eq_true rfl) dX8_ofPaper_83
      · refine r_top (y := nI 4) e_28 ?_
        refine lv_tableIn (tgt := 84) hx hb dX8_ofPaper_28 (by decide) (by decide) (off := 56) (by decide) (by decide) ?_
        refine lv_aload_n hx hb dX8_ofPaper_84 rfl (lv_at hl 0 rfl) ?_
        refine gt_X8_347 X hK hG (cd_obj (by decide) (Or.inl (by decide)) (hI.2 5 (by decide) _ (ix_lt hz_2))) (x := σ.2.1 303 (σ.2.2.1 1001 5 (tn v1))) rfl dX8_ofPaper_85 ?_
        rw [show k_ofPaper v1 v2 σ = (0, σ.2.1 303 (σ.2.2.1 1001 5 (tn v1)), σ) from by unfold k_ofPaper; first | (rw [if_pos hz_2, if_pos c_13, if_neg (show ¬ v2 = nI 0 from by rw [e_28]; decide), if_neg (show ¬ v2 = nI 1 from by rw [e_28]; decide), if_neg (show ¬ v2 = nI 2 from by rw [e_28]; decide), if_neg (show ¬ v2 = nI 3 from by rw [e_28]; decide), if_pos e_28] <;> rfl) | simp only [if_pos hz_2, if_pos c_13, if_neg (show ¬ v2 = nI 0 from by rw [e_28]; decide), if_neg (show ¬ v2 = nI 1 from by rw [e_28]; decide), if_neg (show ¬ v2 = nI 2 from by rw [e_28]; decide), if_neg (show ¬ v2 = nI 3 from by rw [e_28]; decide), if_pos e_28]]
        exact y_reti hx hb hr hlocks hG hS rfl rfl rfl (Nat.le_of_ble_eq_true rfl) (Nat.le_of_ble_eq_true rfl) dX8_ofPaper_88
  · rw [show k_ofPaper v1 v2 σ = (2, 0, σ) from by unfold k_ofPaper; first | (rw [if_pos hz_2, if_neg c_13] <;> rfl) | simp only [if_pos hz_2, if_neg c_13]]
    exact y_throwW (e8 := 2) (tx := "what") hx X hl9 xw_2 hX9 (List.mem_of_getElem? (i := 28) rfl) hex hlocks hl.1 hS (pw_ext hG) (by decide) rfl dX8_ofPaper_16 dX8_ofPaper_19 dX8_ofPaper_20 dX8_ofPaper_23 dX8_ofPaper_26 (Nat.le_of_ble_eq_true rfl) (Nat.le_of_ble_eq_true rfl) (Nat.le_of_ble_eq_true rfl) (Nat.le_of_ble_eq_true rfl) (Nat.le_of_ble_eq_true rfl) (Nat.le_of_ble_eq_true rfl)
def k_judgeAnew (v1 : Int32) (σ : St) : Nat × Int32 × St := if ix v1 (σ.1 1002 5) then ((0, k_vd (σ.2.2.1 1001 5 (tn v1)) σ (σ.1 306 (σ.2.2.1 1001 5 (tn v1))) 0 (nI 0), σ)) else ((1, 0, σ))
set_option maxRecDepth 100000 in
set_option maxHeartbeats 4000000 in
theorem z_X8_judgeAnew {D : va_G} {cI cZ cO : ClassId} (l : Launch) (hl9 : l.stackTraces = false) (L : Lay) (σ : St) (ow : Nat → Prop) (v1 : Int32) (h36 : ∀ k, σ.1 306 k ≤ 6) (hI : CI σ) : ZI D cI cZ cO (cdom σ) l yX8_judgeAnew cX8_judgeAnew 2 ((some FieldType.int)) 7 142 1 6 [.ref (L 899 0), .int v1] L σ ow (k_judgeAnew v1 σ).1 (k_judgeAnew v1 σ).2.1 (k_judgeAnew v1 σ).2.2 := by
  refine z_of (Qc := fun sz => YQi (k_judgeAnew v1 σ).1 (k_judgeAnew v1 σ).2.1 (PW D cI cZ cO (cdom σ) L (k_judgeAnew v1 σ).2.2 ow) (AA ow sz)) (XC := fun sz => YX (k_judgeAnew v1 σ).1 (PW D cI cZ cO (cdom σ) L (k_judgeAnew v1 σ).2.2 ow) (AA ow sz)) rfl (Nat.le_of_ble_eq_true rfl) ?_
  intro p e s m args below meth c ls X hex hK hG hX9 hr hlocks hl
  have X : CallFix p m c cX8_judgeAnew 2 s _ TB RX8 := X
  have hx := X.1
  have hb := X.2.1
  have hS : va_S (AA ow s.heap.size) s.heap s.heap [] := va_S.rf
  have hA : ∀ q, ow q → AA ow s.heap.size q := fun _ h => Or.inl h
  have hA2 : ∀ q, AA ow s.heap.size q → AA ow s.heap.size q := fun _ h => h
  have hl : lv_has ls 2 [(0, .ref (L 899 0)), (1, .int v1)] := hl
  refine lv_aload_n hx hb dX8_judgeAnew_0 rfl (lv_at hl 0 rfl) ?_
  refine lv_iload_n hx hb dX8_judgeAnew_1 rfl (lv_at hl 1 rfl) ?_
  refine z_callqP (P := ix v1 (σ.1 1002 5)) X hK hG hS hA2 hX9 yvX8_paperAt ml_X8_334 kX8 rfl (cd_fix (by decide)) [.int v1] [] (z_X8_paperAt l hl9 L σ ow v1 hI) rfl hl.1 rfl (Nat.le_of_ble_eq_true rfl) ⟨Nat.le_of_ble_eq_true rfl, Nat.le_of_ble_eq_true rfl⟩ ⟨Nat.le_of_ble_eq_true rfl, Nat.le_of_ble_eq_true rfl⟩ dX8_judgeAnew_2 (fun hz_2 H locs q ce hG hS hq hv hcl => ?_) (fun hz_2 H locs hG hS => ?_)
  · rw [show k_judgeAnew v1 σ = (1, 0, σ) from by unfold k_judgeAnew; first | (rw [if_neg hz_2] <;> rfl) | simp only [if_neg hz_2]]
    exact y_out hex hlocks hG hS hq hv hcl (by decide) rfl (Nat.le_of_ble_eq_true rfl) (Nat.le_of_ble_eq_true rfl)
  refine rm_callVg X hK hG hS hA2 yvX3_verdict ml_X8_301 kX3 rfl (cd_obj (by decide) (Or.inl (by decide)) (hI.2 5 (by decide) _ (ix_lt hz_2))) [] [] (c_X3_verdict l L σ ow (σ.2.2.1 1001 5 (tn v1)) (cd_objs (C := 3) (by decide) (hI.2 5 (by decide) _ (ix_lt hz_2))) (h36 _)) rfl hl.1 rfl (Nat.le_of_ble_eq_true rfl) ⟨Nat.le_of_ble_eq_true rfl, Nat.le_of_ble_eq_true rfl⟩ ⟨Nat.le_of_ble_eq_true rfl, Nat.le_of_ble_eq_true rfl⟩ dX8_judgeAnew_5 (fun H locs hG hS => ?_)
  rw [show k_judgeAnew v1 σ = (0, k_vd (σ.2.2.1 1001 5 (tn v1)) σ (σ.1 306 (σ.2.2.1 1001 5 (tn v1))) 0 (nI 0), σ) from by unfold k_judgeAnew; first | (rw [if_pos hz_2] <;> rfl) | simp only [if_pos hz_2]]
  exact y_reti hx hb hr hlocks hG hS rfl rfl rfl (Nat.le_of_ble_eq_true rfl) (Nat.le_of_ble_eq_true rfl) dX8_judgeAnew_8
set_option maxRecDepth 100000 in
set_option maxHeartbeats 4000000 in
theorem c_X8_minute {D : va_G} {cI cZ cO : ClassId} (l : Launch) (L : Lay) (σ : St) (ow : Nat → Prop) (hI : CI σ) : RM D cI cZ cO (cdom σ) l yX8_minute cX8_minute 1 ((some FieldType.int)) 0 0 [.ref (L 899 0)] L σ ow (nI (σ.1 811 0)) σ := by
  refine rm_of rfl (Nat.le_of_ble_eq_true rfl) ?_
  intro p e s m below meth c ls X hK hG hr hlocks hl
  have X : CallFix p m c cX8_minute 1 s _ TB RX8 := X
  have hx := X.1
  have hb := X.2.1
  have hS : va_S (AA ow s.heap.size) s.heap s.heap [] := va_S.rf
  have hA : ∀ q, ow q → AA ow s.heap.size q := fun _ h => Or.inl h
  have hl : lv_has ls 1 [(0, .ref (L 899 0))] := hl
  have hA2 : ∀ q, AA ow s.heap.size q → AA ow s.heap.size q := fun _ h => h
  refine lv_aload_n hx hb dX8_minute_0 rfl (lv_at hl 0 rfl) ?_
  refine gt_X8_216 X hK hG (cd_fix (by decide)) (x := σ.1 811 0) rfl dX8_minute_1 ?_
  exact rm_ret hx hb hr hlocks hG hS (rfl) (rfl) rfl dX8_minute_4
set_option maxRecDepth 100000 in
set_option maxHeartbeats 4000000 in
theorem c_X8_warmth {D : va_G} {cI cZ cO : ClassId} (l : Launch) (L : Lay) (σ : St) (ow : Nat → Prop) (hI : CI σ) : RM D cI cZ cO (cdom σ) l yX8_warmth cX8_warmth 1 ((some FieldType.int)) 0 0 [.ref (L 899 0)] L σ ow (nI (σ.1 812 0)) σ := by
  refine rm_of rfl (Nat.le_of_ble_eq_true rfl) ?_
  intro p e s m below meth c ls X hK hG hr hlocks hl
  have X : CallFix p m c cX8_warmth 1 s _ TB RX8 := X
  have hx := X.1
  have hb := X.2.1
  have hS : va_S (AA ow s.heap.size) s.heap s.heap [] := va_S.rf
  have hA : ∀ q, ow q → AA ow s.heap.size q := fun _ h => Or.inl h
  have hl : lv_has ls 1 [(0, .ref (L 899 0))] := hl
  have hA2 : ∀ q, AA ow s.heap.size q → AA ow s.heap.size q := fun _ h => h
  refine lv_aload_n hx hb dX8_warmth_0 rfl (lv_at hl 0 rfl) ?_
  refine gt_X8_222 X hK hG (cd_fix (by decide)) (x := σ.1 812 0) rfl dX8_warmth_1 ?_
  exact rm_ret hx hb hr hlocks hG hS (rfl) (rfl) rfl dX8_warmth_4
