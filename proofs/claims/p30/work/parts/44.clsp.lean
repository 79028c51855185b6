set_option maxRecDepth 100000 in
set_option maxHeartbeats 4000000 in
theorem c_X8_isWithin {D : va_G} {cI cZ cO : ClassId} {dom : Nat → Nat → Prop} (l : Launch) (L : Lay) (σ : St) (ow : Nat → Prop) (v1 v2 v3 : Int32) : RM D cI cZ cO dom l yX8_isWithin cX8_isWithin 3 ((some FieldType.boolean)) 0 0 [.int v1, .int v2, .int v3] L σ ow (b2i (v2 ≤ v1 ∧ v1 ≤ v3)) σ := by
  refine rm_of rfl (Nat.le_of_ble_eq_true rfl) ?_
  intro p e s m below meth c ls X hK hG hr hlocks hl
  have X : CallFix p m c cX8_isWithin 3 s _ TB RX8 := X
  have hx := X.1
  have hb := X.2.1
  have hS : va_S (AA ow s.heap.size) s.heap s.heap [] := va_S.rf
  have hA : ∀ q, ow q → AA ow s.heap.size q := fun _ h => Or.inl h
  have hl : lv_has ls 3 [(0, .int v1), (1, .int v2), (2, .int v3)] := hl
  refine lv_iload_n hx hb dX8_isWithin_0 rfl (lv_at hl 0 rfl) ?_
  refine lv_iload_n hx hb dX8_isWithin_1 rfl (lv_at hl 1 rfl) ?_
  refine lv_icmp_lt (tgt := 14) hx hb dX8_isWithin_2 (by decide) (fun c_2 => ?_) (fun c_2 => ?_)
  · refine lv_iconst (v := nI 0) hx hb dX8_isWithin_14 (by decide) ?_
    exact rm_ret hx hb hr hlocks hG hS ((b2i_f (fun h => fa_lt_le c_2 h.1)).symm) (rfl) rfl dX8_isWithin_15
  · refine lv_iload_n hx hb dX8_isWithin_5 rfl (lv_at hl 0 rfl) ?_
    refine lv_iload_n hx hb dX8_isWithin_6 rfl (lv_at hl 2 rfl) ?_
    refine lv_icmp_gt (tgt := 14) hx hb dX8_isWithin_7 (by decide) (fun c_7 => ?_) (fun c_7 => ?_)
    · refine lv_iconst (v := nI 0) hx hb dX8_isWithin_14 (by decide) ?_
      exact rm_ret hx hb hr hlocks hG hS ((b2i_f (fun h => fa_lt_le c_7 h.2)).symm) (rfl) rfl dX8_isWithin_15
    · refine lv_iconst (v := nI 1) hx hb dX8_isWithin_10 (by decide) ?_
      refine lv_goto (tgt := 15) hx hb dX8_isWithin_11 (by decide) ?_
      exact rm_ret hx hb hr hlocks hG hS ((b2i_t ⟨fa_of_nlt c_2, fa_of_nlt c_7⟩).symm) (rfl) rfl dX8_isWithin_15
set_option maxHeartbeats 4000000 in
theorem z_X8_programAt {D : va_G} {cI cZ cO : ClassId} (l : Launch) (hl9 : l.stackTraces = false) (L : Lay) (σ : St) (ow : Nat → Prop) (v1 : Int32) (hI : CI σ) : ZR D cI cZ cO (cdom σ) l yX8_programAt cX8_programAt 2 ((some (FieldType.object "ToolCrib$Program"))) 6 121 1 6 [.ref (L 899 0), .int v1] L σ ow (if ix v1 (σ.1 1002 6) then 0 else 1) (some (L 499 (σ.2.2.1 1001 6 (tn v1)))) σ := by
  refine z_of (Qc := fun sz => YQq (if ix v1 (σ.1 1002 6) then 0 else 1) (some (L 499 (σ.2.2.1 1001 6 (tn v1)))) (PW D cI cZ cO (cdom σ) L σ ow) (AA ow sz)) (XC := fun sz => YX (if ix v1 (σ.1 1002 6) then 0 else 1) (PW D cI cZ cO (cdom σ) L σ ow) (AA ow sz)) rfl (Nat.le_of_ble_eq_true rfl) ?_
  intro p e s m args below meth c ls X hex hK hG hX9 hr hlocks hl
  have X : CallFix p m c cX8_programAt 2 s _ TB RX8 := X
  have hx := X.1
  have hb := X.2.1
  have hS : va_S (AA ow s.heap.size) s.heap s.heap [] := va_S.rf
  have hA : ∀ q, ow q → AA ow s.heap.size q := fun _ h => Or.inl h
  have hA2 : ∀ q, AA ow s.heap.size q → AA ow s.heap.size q := fun _ h => h
  have hl : lv_has ls 2 [(0, .ref (L 899 0)), (1, .int v1)] := hl
  refine lv_iload_n hx hb dX8_programAt_0 rfl (lv_at hl 1 rfl) ?_
  refine lv_if_lt (tgt := 18) hx hb dX8_programAt_1 (by decide) (fun c_1 => ?_) (fun c_1 => ?_)
  · exact y_throwW (e8 := 1) (tx := "no such program") hx X hl9 xw_1 hX9 (List.mem_of_getElem? (i := 1) rfl) hex hlocks hl.1 hS (pw_ext hG) (by decide) (if_neg (fun z => absurd z.1 (by rw [Int32.lt_iff_toInt_lt] at c_1; exact Int.not_le.mpr c_1))) dX8_programAt_18 dX8_programAt_21 dX8_programAt_22 dX8_programAt_25 dX8_programAt_28 (Nat.le_of_ble_eq_true rfl) (Nat.le_of_ble_eq_true rfl) (Nat.le_of_ble_eq_true rfl) (Nat.le_of_ble_eq_true rfl) (Nat.le_of_ble_eq_true rfl) (Nat.le_of_ble_eq_true rfl)
  · have hv1 : tn v1 < 2147483648 := by have := fb_rng v1; unfold tn; omega
    have hj1 := hI.1 6 (by decide)
    refine lv_iload_n hx hb dX8_programAt_4 rfl (lv_at hl 1 rfl) ?_
    refine r_top (y := nI (tn v1)) (tn_ge c_1) ?_
    refine lv_aload_n hx hb dX8_programAt_5 rfl (lv_at hl 0 rfl) ?_
    refine gt_X8_44 X hK hG (cd_fix (by decide)) dX8_programAt_6 ?_
    refine gt_X8_62 X hK hG (cd_fix (by decide)) dX8_programAt_9 ?_
    refine x_size X hK hG hS hA2 (cd_list (by decide)) ml_X8_65 hl.1 (Nat.le_of_ble_eq_true rfl) ⟨Nat.le_of_ble_eq_true rfl, Nat.le_of_ble_eq_true rfl⟩ ⟨Nat.le_of_ble_eq_true rfl, Nat.le_of_ble_eq_true rfl⟩ dX8_programAt_12 (fun H locs hG hS => ?_)
    refine r_icmp_ltN (tgt := 29) hx hb dX8_programAt_15 (by decide) (by omega) (by omega) (fun c_15 => ?_) (fun c_15 => ?_)
    · refine lv_aload_n hx hb dX8_programAt_29 rfl (lv_at hl 0 rfl) ?_
      refine gt_X8_44 X hK hG (cd_fix (by decide)) dX8_programAt_30 ?_
      refine gt_X8_62 X hK hG (cd_fix (by decide)) dX8_programAt_33 ?_
      refine lv_iload_n hx hb dX8_programAt_36 rfl (lv_at hl 1 rfl) ?_
      refine r_top (y := nI (tn v1)) (tn_ge c_1) ?_
      refine x_get8 X hK hG hS hA2 hI (j := 6) (i := tn v1) (by decide) (rfl) (rfl) (by omega) (O := 499) rfl (k := σ.2.2.1 1001 6 (tn v1)) (rfl) ml_X8_179 hl.1 (Nat.le_of_ble_eq_true rfl) ⟨Nat.le_of_ble_eq_true rfl, Nat.le_of_ble_eq_true rfl⟩ ⟨Nat.le_of_ble_eq_true rfl, Nat.le_of_ble_eq_true rfl⟩ dX8_programAt_37 (fun H locs hG hS => ?_)
      refine x_cast X hK hG kX4 rfl (cd_obj (by decide) (Or.inl (by decide)) (hI.2 6 (by decide) (tn v1) (by omega))) tw_3_78 dX8_programAt_40 ?_
      have hP : ix v1 (σ.1 1002 6) := by rw [tn_ge c_1]; exact (ix_nI hv1).mpr c_15
      exact y_retq (v := some (L 499 (σ.2.2.1 1001 6 (tn v1)))) hx hb hr (Or.inl ⟨_, rfl⟩) hlocks hG hS rfl (if_pos hP) (Nat.le_of_ble_eq_true rfl) (Nat.le_of_ble_eq_true rfl) dX8_programAt_43
    · exact y_throwW (e8 := 1) (tx := "no such program") hx X hl9 xw_1 hX9 (List.mem_of_getElem? (i := 1) rfl) hex hlocks hl.1 hS (pw_ext hG) (by decide) (if_neg (fun z => absurd (ix_lt z) (Nat.not_lt.mpr c_15))) dX8_programAt_18 dX8_programAt_21 dX8_programAt_22 dX8_programAt_25 dX8_programAt_28 (Nat.le_of_ble_eq_true rfl) (Nat.le_of_ble_eq_true rfl) (Nat.le_of_ble_eq_true rfl) (Nat.le_of_ble_eq_true rfl) (Nat.le_of_ble_eq_true rfl) (Nat.le_of_ble_eq_true rfl)
set_option maxHeartbeats 4000000 in
theorem z_X8_toolAt {D : va_G} {cI cZ cO : ClassId} (l : Launch) (hl9 : l.stackTraces = false) (L : Lay) (σ : St) (ow : Nat → Prop) (v1 : Int32) (hI : CI σ) : ZR D cI cZ cO (cdom σ) l yX8_toolAt cX8_toolAt 2 ((some (FieldType.object "ToolCrib$Tool"))) 6 121 1 6 [.ref (L 899 0), .int v1] L σ ow (if ix v1 (σ.1 1002 0) then 0 else 1) (some (L 599 (σ.2.2.1 1001 0 (tn v1)))) σ := by
  refine z_of (Qc := fun sz => YQq (if ix v1 (σ.1 1002 0) then 0 else 1) (some (L 599 (σ.2.2.1 1001 0 (tn v1)))) (PW D cI cZ cO (cdom σ) L σ ow) (AA ow sz)) (XC := fun sz => YX (if ix v1 (σ.1 1002 0) then 0 else 1) (PW D cI cZ cO (cdom σ) L σ ow) (AA ow sz)) rfl (Nat.le_of_ble_eq_true rfl) ?_
  intro p e s m args below meth c ls X hex hK hG hX9 hr hlocks hl
  have X : CallFix p m c cX8_toolAt 2 s _ TB RX8 := X
  have hx := X.1
  have hb := X.2.1
  have hS : va_S (AA ow s.heap.size) s.heap s.heap [] := va_S.rf
  have hA : ∀ q, ow q → AA ow s.heap.size q := fun _ h => Or.inl h
  have hA2 : ∀ q, AA ow s.heap.size q → AA ow s.heap.size q := fun _ h => h
  have hl : lv_has ls 2 [(0, .ref (L 899 0)), (1, .int v1)] := hl
  refine lv_iload_n hx hb dX8_toolAt_0 rfl (lv_at hl 1 rfl) ?_
  refine lv_if_lt (tgt := 15) hx hb dX8_toolAt_1 (by decide) (fun c_1 => ?_) (fun c_1 => ?_)
  · exact y_throwW (e8 := 1) (tx := "no such tool") hx X hl9 xw_1 hX9 (List.mem_of_getElem? (i := 7) rfl) hex hlocks hl.1 hS (pw_ext hG) (by decide) (if_neg (fun z => absurd z.1 (by rw [Int32.lt_iff_toInt_lt] at c_1; exact Int.not_le.mpr c_1))) dX8_toolAt_15 dX8_toolAt_18 dX8_toolAt_19 dX8_toolAt_22 dX8_toolAt_25 (Nat.le_of_ble_eq_true rfl) (Nat.le_of_ble_eq_true rfl) (Nat.le_of_ble_eq_true rfl) (Nat.le_of_ble_eq_true rfl) (Nat.le_of_ble_eq_true rfl) (Nat.le_of_ble_eq_true rfl)
  · have hv1 : tn v1 < 2147483648 := by have := fb_rng v1; unfold tn; omega
    have hj1 := hI.1 0 (by decide)
    refine lv_iload_n hx hb dX8_toolAt_4 rfl (lv_at hl 1 rfl) ?_
    refine r_top (y := nI (tn v1)) (tn_ge c_1) ?_
    refine lv_aload_n hx hb dX8_toolAt_5 rfl (lv_at hl 0 rfl) ?_
    refine gt_X8_12 X hK hG (cd_fix (by decide)) dX8_toolAt_6 ?_
    refine x_size X hK hG hS hA2 (cd_list (by decide)) ml_X8_65 hl.1 (Nat.le_of_ble_eq_true rfl) ⟨Nat.le_of_ble_eq_true rfl, Nat.le_of_ble_eq_true rfl⟩ ⟨Nat.le_of_ble_eq_true rfl, Nat.le_of_ble_eq_true rfl⟩ dX8_toolAt_9 (fun H locs hG hS => ?_)
    refine r_icmp_ltN (tgt := 26) hx hb dX8_toolAt_12 (by decide) (by omega) (by omega) (fun c_12 => ?_) (fun c_12 => ?_)
    · refine lv_aload_n hx hb dX8_toolAt_26 rfl (lv_at hl 0 rfl) ?_
      refine gt_X8_12 X hK hG (cd_fix (by decide)) dX8_toolAt_27 ?_
      refine lv_iload_n hx hb dX8_toolAt_30 rfl (lv_at hl 1 rfl) ?_
      refine r_top (y := nI (tn v1)) (tn_ge c_1) ?_
      refine x_get8 X hK hG hS hA2 hI (j := 0) (i := tn v1) (by decide) (rfl) (rfl) (by omega) (O := 599) rfl (k := σ.2.2.1 1001 0 (tn v1)) (rfl) ml_X8_179 hl.1 (Nat.le_of_ble_eq_true rfl) ⟨Nat.le_of_ble_eq_true rfl, Nat.le_of_ble_eq_true rfl⟩ ⟨Nat.le_of_ble_eq_true rfl, Nat.le_of_ble_eq_true rfl⟩ dX8_toolAt_31 (fun H locs hG hS => ?_)
      refine x_cast X hK hG kX5 rfl (cd_obj (by decide) (Or.inl (by decide)) (hI.2 0 (by decide) (tn v1) (by omega))) tw_3_21 dX8_toolAt_34 ?_
      have hP : ix v1 (σ.1 1002 0) := by rw [tn_ge c_1]; exact (ix_nI hv1).mpr c_12
      exact y_retq (v := some (L 599 (σ.2.2.1 1001 0 (tn v1)))) hx hb hr (Or.inl ⟨_, rfl⟩) hlocks hG hS rfl (if_pos hP) (Nat.le_of_ble_eq_true rfl) (Nat.le_of_ble_eq_true rfl) dX8_toolAt_37
    · exact y_throwW (e8 := 1) (tx := "no such tool") hx X hl9 xw_1 hX9 (List.mem_of_getElem? (i := 7) rfl) hex hlocks hl.1 hS (pw_ext hG) (by decide) (if_neg (fun z => absurd (ix_lt z) (Nat.not_lt.mpr c_12))) dX8_toolAt_15 dX8_toolAt_18 dX8_toolAt_19 dX8_toolAt_22 dX8_toolAt_25 (Nat.le_of_ble_eq_true rfl) (Nat.le_of_ble_eq_true rfl) (Nat.le_of_ble_eq_true rfl) (Nat.le_of_ble_eq_true rfl) (Nat.le_of_ble_eq_true rfl) (Nat.le_of_ble_eq_true rfl)
set_option maxHeartbeats 4000000 in
theorem z_X8_palletAt {D : va_G} {cI cZ cO : ClassId} (l : Launch) (hl9 : l.stackTraces = false) (L : Lay) (σ : St) (ow : Nat → Prop) (v1 : Int32) (hI : CI σ) : ZR D cI cZ cO (cdom σ) l yX8_palletAt cX8_palletAt 2 ((some (FieldType.object "ToolCrib$Pallet"))) 6 121 1 6 [.ref (L 899 0), .int v1] L σ ow (if ix v1 (σ.1 1002 1) then 0 else 1) (some (L 299 (σ.2.2.1 1001 1 (tn v1)))) σ := by
  refine z_of (Qc := fun sz => YQq (if ix v1 (σ.1 1002 1) then 0 else 1) (some (L 299 (σ.2.2.1 1001 1 (tn v1)))) (PW D cI cZ cO (cdom σ) L σ ow) (AA ow sz)) (XC := fun sz => YX (if ix v1 (σ.1 1002 1) then 0 else 1) (PW D cI cZ cO (cdom σ) L σ ow) (AA ow sz)) rfl (Nat.le_of_ble_eq_true rfl) ?_
  intro p e s m args below meth c ls X hex hK hG hX9 hr hlocks hl
  have X : CallFix p m c cX8_palletAt 2 s _ TB RX8 := X
  have hx := X.1
  have hb := X.2.1
  have hS : va_S (AA ow s.heap.size) s.heap s.heap [] := va_S.rf
  have hA : ∀ q, ow q → AA ow s.heap.size q := fun _ h => Or.inl h
  have hA2 : ∀ q, AA ow s.heap.size q → AA ow s.heap.size q := fun _ h => h
  have hl : lv_has ls 2 [(0, .ref (L 899 0)), (1, .int v1)] := hl
  refine lv_iload_n hx hb dX8_palletAt_0 rfl (lv_at hl 1 rfl) ?_
  refine lv_if_lt (tgt := 15) hx hb dX8_palletAt_1 (by decide) (fun c_1 => ?_) (fun c_1 => ?_)
  · exact y_throwW (e8 := 1) (tx := "no such pallet") hx X hl9 xw_1 hX9 (List.mem_of_getElem? (i := 11) rfl) hex hlocks hl.1 hS (pw_ext hG) (by decide) (if_neg (fun z => absurd z.1 (by rw [Int32.lt_iff_toInt_lt] at c_1; exact Int.not_le.mpr c_1))) dX8_palletAt_15 dX8_palletAt_18 dX8_palletAt_19 dX8_palletAt_22 dX8_palletAt_25 (Nat.le_of_ble_eq_true rfl) (Nat.le_of_ble_eq_true rfl) (Nat.le_of_ble_eq_true rfl) (Nat.le_of_ble_eq_true rfl) (Nat.le_of_ble_eq_true rfl) (Nat.le_of_ble_eq_true rfl)
  · have hv1 : tn v1 < 2147483648 := by have := fb_rng v1; unfold tn; omega
    have hj1 := hI.1 1 (by decide)
    refine lv_iload_n hx hb dX8_palletAt_4 rfl (lv_at hl 1 rfl) ?_
    refine r_top (y := nI (tn v1)) (tn_ge c_1) ?_
    refine lv_aload_n hx hb dX8_palletAt_5 rfl (lv_at hl 0 rfl) ?_
    refine gt_X8_16 X hK hG (cd_fix (by decide)) dX8_palletAt_6 ?_
    refine x_size X hK hG hS hA2 (cd_list (by decide)) ml_X8_65 hl.1 (Nat.le_of_ble_eq_true rfl) ⟨Nat.le_of_ble_eq_true rfl, Nat.le_of_ble_eq_true rfl⟩ ⟨Nat.le_of_ble_eq_true rfl, Nat.le_of_ble_eq_true rfl⟩ dX8_palletAt_9 (fun H locs hG hS => ?_)
    refine r_icmp_ltN (tgt := 26) hx hb dX8_palletAt_12 (by decide) (by omega) (by omega) (fun c_12 => ?_) (fun c_12 => ?_)
    · refine lv_aload_n hx hb dX8_palletAt_26 rfl (lv_at hl 0 rfl) ?_
      refine gt_X8_16 X hK hG (cd_fix (by decide)) dX8_palletAt_27 ?_
      refine lv_iload_n hx hb dX8_palletAt_30 rfl (lv_at hl 1 rfl) ?_
      refine r_top (y := nI (tn v1)) (tn_ge c_1) ?_
      refine x_get8 X hK hG hS hA2 hI (j := 1) (i := tn v1) (by decide) (rfl) (rfl) (by omega) (O := 299) rfl (k := σ.2.2.1 1001 1 (tn v1)) (rfl) ml_X8_179 hl.1 (Nat.le_of_ble_eq_true rfl) ⟨Nat.le_of_ble_eq_true rfl, Nat.le_of_ble_eq_true rfl⟩ ⟨Nat.le_of_ble_eq_true rfl, Nat.le_of_ble_eq_true rfl⟩ dX8_palletAt_31 (fun H locs hG hS => ?_)
      refine x_cast X hK hG kX2 rfl (cd_obj (by decide) (Or.inl (by decide)) (hI.2 1 (by decide) (tn v1) (by omega))) tw_2_156 dX8_palletAt_34 ?_
      have hP : ix v1 (σ.1 1002 1) := by rw [tn_ge c_1]; exact (ix_nI hv1).mpr c_12
      exact y_retq (v := some (L 299 (σ.2.2.1 1001 1 (tn v1)))) hx hb hr (Or.inl ⟨_, rfl⟩) hlocks hG hS rfl (if_pos hP) (Nat.le_of_ble_eq_true rfl) (Nat.le_of_ble_eq_true rfl) dX8_palletAt_37
    · exact y_throwW (e8 := 1) (tx := "no such pallet") hx X hl9 xw_1 hX9 (List.mem_of_getElem? (i := 11) rfl) hex hlocks hl.1 hS (pw_ext hG) (by decide) (if_neg (fun z => absurd (ix_lt z) (Nat.not_lt.mpr c_12))) dX8_palletAt_15 dX8_palletAt_18 dX8_palletAt_19 dX8_palletAt_22 dX8_palletAt_25 (Nat.le_of_ble_eq_true rfl) (Nat.le_of_ble_eq_true rfl) (Nat.le_of_ble_eq_true rfl) (Nat.le_of_ble_eq_true rfl) (Nat.le_of_ble_eq_true rfl) (Nat.le_of_ble_eq_true rfl)
set_option maxHeartbeats 4000000 in
theorem z_X8_gaugeAt {D : va_G} {cI cZ cO : ClassId} (l : Launch) (hl9 : l.stackTraces = false) (L : Lay) (σ : St) (ow : Nat → Prop) (v1 : Int32) (hI : CI σ) : ZR D cI cZ cO (cdom σ) l yX8_gaugeAt cX8_gaugeAt 2 ((some (FieldType.object "ToolCrib$Gauge"))) 6 121 1 6 [.ref (L 899 0), .int v1] L σ ow (if ix v1 (σ.1 1002 3) then 0 else 1) (some (L 199 (σ.2.2.1 1001 3 (tn v1)))) σ := by
  refine z_of (Qc := fun sz => YQq (if ix v1 (σ.1 1002 3) then 0 else 1) (some (L 199 (σ.2.2.1 1001 3 (tn v1)))) (PW D cI cZ cO (cdom σ) L σ ow) (AA ow sz)) (XC := fun sz => YX (if ix v1 (σ.1 1002 3) then 0 else 1) (PW D cI cZ cO (cdom σ) L σ ow) (AA ow sz)) rfl (Nat.le_of_ble_eq_true rfl) ?_
  intro p e s m args below meth c ls X hex hK hG hX9 hr hlocks hl
  have X : CallFix p m c cX8_gaugeAt 2 s _ TB RX8 := X
  have hx := X.1
  have hb := X.2.1
  have hS : va_S (AA ow s.heap.size) s.heap s.heap [] := va_S.rf
  have hA : ∀ q, ow q → AA ow s.heap.size q := fun _ h => Or.inl h
  have hA2 : ∀ q, AA ow s.heap.size q → AA ow s.heap.size q := fun _ h => h
  have hl : lv_has ls 2 [(0, .ref (L 899 0)), (1, .int v1)] := hl
  refine lv_iload_n hx hb dX8_gaugeAt_0 rfl (lv_at hl 1 rfl) ?_
  refine lv_if_lt (tgt := 15) hx hb dX8_gaugeAt_1 (by decide) (fun c_1 => ?_) (fun c_1 => ?_)
  · exact y_throwW (e8 := 1) (tx := "no such gauge") hx X hl9 xw_1 hX9 (List.mem_of_getElem? (i := 19) rfl) hex hlocks hl.1 hS (pw_ext hG) (by decide) (if_neg (fun z => absurd z.1 (by rw [Int32.lt_iff_toInt_lt] at c_1; exact Int.not_le.mpr c_1))) dX8_gaugeAt_15 dX8_gaugeAt_18 dX8_gaugeAt_19 dX8_gaugeAt_22 dX8_gaugeAt_25 (Nat.le_of_ble_eq_true rfl) (Nat.le_of_ble_eq_true rfl) (Nat.le_of_ble_eq_true rfl) (Nat.le_of_ble_eq_true rfl) (Nat.le_of_ble_eq_true rfl) (Nat.le_of_ble_eq_true rfl)
  · have hv1 : tn v1 < 2147483648 := by have := fb_rng v1; unfold tn; omega
    have hj1 := hI.1 3 (by decide)
    refine lv_iload_n hx hb dX8_gaugeAt_4 rfl (lv_at hl 1 rfl) ?_
    refine r_top (y := nI (tn v1)) (tn_ge c_1) ?_
    refine lv_aload_n hx hb dX8_gaugeAt_5 rfl (lv_at hl 0 rfl) ?_
    refine gt_X8_22 X hK hG (cd_fix (by decide)) dX8_gaugeAt_6 ?_
    refine x_size X hK hG hS hA2 (cd_list (by decide)) ml_X8_65 hl.1 (Nat.le_of_ble_eq_true rfl) ⟨Nat.le_of_ble_eq_true rfl, Nat.le_of_ble_eq_true rfl⟩ ⟨Nat.le_of_ble_eq_true rfl, Nat.le_of_ble_eq_true rfl⟩ dX8_gaugeAt_9 (fun H locs hG hS => ?_)
    refine r_icmp_ltN (tgt := 26) hx hb dX8_gaugeAt_12 (by decide) (by omega) (by omega) (fun c_12 => ?_) (fun c_12 => ?_)
    · refine lv_aload_n hx hb dX8_gaugeAt_26 rfl (lv_at hl 0 rfl) ?_
      refine gt_X8_22 X hK hG (cd_fix (by decide)) dX8_gaugeAt_27 ?_
      refine lv_iload_n hx hb dX8_gaugeAt_30 rfl (lv_at hl 1 rfl) ?_
      refine r_top (y := nI (tn v1)) (tn_ge c_1) ?_
      refine x_get8 X hK hG hS hA2 hI (j := 3) (i := tn v1) (by decide) (rfl) (rfl) (by omega) (O := 199) rfl (k := σ.2.2.1 1001 3 (tn v1)) (rfl) ml_X8_179 hl.1 (Nat.le_of_ble_eq_true rfl) ⟨Nat.le_of_ble_eq_true rfl, Nat.le_of_ble_eq_true rfl⟩ ⟨Nat.le_of_ble_eq_true rfl, Nat.le_of_ble_eq_true rfl⟩ dX8_gaugeAt_31 (fun H locs hG hS => ?_)
      refine x_cast X hK hG kX1 rfl (cd_obj (by decide) (Or.inl (by decide)) (hI.2 3 (by decide) (tn v1) (by omega))) tw_1_143 dX8_gaugeAt_34 ?_
      have hP : ix v1 (σ.1 1002 3) := by rw [tn_ge c_1]; exact (ix_nI hv1).mpr c_12
      exact y_retq (v := some (L 199 (σ.2.2.1 1001 3 (tn v1)))) hx hb hr (Or.inl ⟨_, rfl⟩) hlocks hG hS rfl (if_pos hP) (Nat.le_of_ble_eq_true rfl) (Nat.le_of_ble_eq_true rfl) dX8_gaugeAt_37
    · exact y_throwW (e8 := 1) (tx := "no such gauge") hx X hl9 xw_1 hX9 (List.mem_of_getElem? (i := 19) rfl) hex hlocks hl.1 hS (pw_ext hG) (by decide) (if_neg (fun z => absurd (ix_lt z) (Nat.not_lt.mpr c_12))) dX8_gaugeAt_15 dX8_gaugeAt_18 dX8_gaugeAt_19 dX8_gaugeAt_22 dX8_gaugeAt_25 (Nat.le_of_ble_eq_true rfl) (Nat.le_of_ble_eq_true rfl) (Nat.le_of_ble_eq_true rfl) (Nat.le_of_ble_eq_true rfl) (Nat.le_of_ble_eq_true rfl) (Nat.le_of_ble_eq_true rfl)
set_option maxHeartbeats 4000000 in
theorem z_X8_drawingAt {D : va_G} {cI cZ cO : ClassId} (l : Launch) (hl9 : l.stackTraces = false) (L : Lay) (σ : St) (ow : Nat → Prop) (v1 : Int32) (hI : CI σ) : ZR D cI cZ cO (cdom σ) l yX8_drawingAt cX8_drawingAt 2 ((some (FieldType.object "ToolCrib$Drawing"))) 6 121 1 6 [.ref (L 899 0), .int v1] L σ ow (if ix v1 (σ.1 1002 4) then 0 else 1) (some (L 99 (σ.2.2.1 1001 4 (tn v1)))) σ := by
  refine z_of (Qc := fun sz => YQq (if ix v1 (σ.1 1002 4) then 0 else 1) (some (L 99 (σ.2.2.1 1001 4 (tn v1)))) (PW D cI cZ cO (cdom σ) L σ ow) (AA ow sz)) (XC := fun sz => YX (if ix v1 (σ.1 1002 4) then 0 else 1) (PW D cI cZ cO (cdom σ) L σ ow) (AA ow sz)) rfl (Nat.le_of_ble_eq_true rfl) ?_
  intro p e s m args below meth c ls X hex hK hG hX9 hr hlocks hl
  have X : CallFix p m c cX8_drawingAt 2 s _ TB RX8 := X
  have hx := X.1
  have hb := X.2.1
  have hS : va_S (AA ow s.heap.size) s.heap s.heap [] := va_S.rf
  have hA : ∀ q, ow q → AA ow s.heap.size q := fun _ h => Or.inl h
  have hA2 : ∀ q, AA ow s.heap.size q → AA ow s.heap.size q := fun _ h => h
  have hl : lv_has ls 2 [(0, .ref (L 899 0)), (1, .int v1)] := hl
  refine lv_iload_n hx hb dX8_drawingAt_0 rfl (lv_at hl 1 rfl) ?_
  refine lv_if_lt (tgt := 15) hx hb dX8_drawingAt_1 (by decide) (fun c_1 => ?_) (fun c_1 => ?_)
  · exact y_throwW (e8 := 1) (tx := "no such drawing") hx X hl9 xw_1 hX9 (List.mem_of_getElem? (i := 22) rfl) hex hlocks hl.1 hS (pw_ext hG) (by decide) (if_neg (fun z => absurd z.1 (by rw [Int32.lt_iff_toInt_lt] at c_1; exact Int.not_le.mpr c_1))) dX8_drawingAt_15 dX8_drawingAt_18 dX8_drawingAt_19 dX8_drawingAt_22 dX8_drawingAt_25 (Nat.le_of_ble_eq_true rfl) (Nat.le_of_ble_eq_true rfl) (Nat.le_of_ble_eq_true rfl) (Nat.le_of_ble_eq_true rfl) (Nat.le_of_ble_eq_true rfl) (Nat.le_of_ble_eq_true rfl)
  · have hv1 : tn v1 < 2147483648 := by have := fb_rng v1; unfold tn; omega
    have hj1 := hI.1 4 (by decide)
    refine lv_iload_n hx hb dX8_drawingAt_4 rfl (lv_at hl 1 rfl) ?_
    refine r_top (y := nI (tn v1)) (tn_ge c_1) ?_
    refine lv_aload_n hx hb dX8_drawingAt_5 rfl (lv_at hl 0 rfl) ?_
    refine gt_X8_25 X hK hG (cd_fix (by decide)) dX8_drawingAt_6 ?_
    refine x_size X hK hG hS hA2 (cd_list (by decide)) ml_X8_65 hl.1 (Nat.le_of_ble_eq_true rfl) ⟨Nat.le_of_ble_eq_true rfl, Nat.le_of_ble_eq_true rfl⟩ ⟨Nat.le_of_ble_eq_true rfl, Nat.le_of_ble_eq_true rfl⟩ dX8_drawingAt_9 (fun H locs hG hS => ?_)
    refine r_icmp_ltN (tgt := 26) hx hb dX8_drawingAt_12 (by decide) (by omega) (by omega) (fun c_12 => ?_) (fun c_12 => ?_)
    · refine lv_aload_n hx hb dX8_drawingAt_26 rfl (lv_at hl 0 rfl) ?_
      refine gt_X8_25 X hK hG (cd_fix (by decide)) dX8_drawingAt_27 ?_
      refine lv_iload_n hx hb dX8_drawingAt_30 rfl (lv_at hl 1 rfl) ?_
      refine r_top (y := nI (tn v1)) (tn_ge c_1) ?_
      refine x_get8 X hK hG hS hA2 hI (j := 4) (i := tn v1) (by decide) (rfl) (rfl) (by omega) (O := 99) rfl (k := σ.2.2.1 1001 4 (tn v1)) (rfl) ml_X8_179 hl.1 (Nat.le_of_ble_eq_true rfl) ⟨Nat.le_of_ble_eq_true rfl, Nat.le_of_ble_eq_true rfl⟩ ⟨Nat.le_of_ble_eq_true rfl, Nat.le_of_ble_eq_true rfl⟩ dX8_drawingAt_31 (fun H locs hG hS => ?_)
      refine x_cast X hK hG kX0 rfl (cd_obj (by decide) (Or.inl (by decide)) (hI.2 4 (by decide) (tn v1) (by omega))) tw_2_97 dX8_drawingAt_34 ?_
      have hP : ix v1 (σ.1 1002 4) := by rw [tn_ge c_1]; exact (ix_nI hv1).mpr c_12
      exact y_retq (v := some (L 99 (σ.2.2.1 1001 4 (tn v1)))) hx hb hr (Or.inl ⟨_, rfl⟩) hlocks hG hS rfl (if_pos hP) (Nat.le_of_ble_eq_true rfl) (Nat.le_of_ble_eq_true rfl) dX8_drawingAt_37
    · exact y_throwW (e8 := 1) (tx := "no such drawing") hx X hl9 xw_1 hX9 (List.mem_of_getElem? (i := 22) rfl) hex hlocks hl.1 hS (pw_ext hG) (by decide) (if_neg (fun z => absurd (ix_lt z) (Nat.not_lt.mpr c_12))) dX8_drawingAt_15 dX8_drawingAt_18 dX8_drawingAt_19 dX8_drawingAt_22 dX8_drawingAt_25 (Nat.le_of_ble_eq_true rfl) (Nat.le_of_ble_eq_true rfl) (Nat.le_of_ble_eq_true rfl) (Nat.le_of_ble_eq_true rfl) (Nat.le_of_ble_eq_true rfl) (Nat.le_of_ble_eq_true rfl)
set_option maxHeartbeats 4000000 in
theorem z_X8_paperAt {D : va_G} {cI cZ cO : ClassId} (l : Launch) (hl9 : l.stackTraces = false) (L : Lay) (σ : St) (ow : Nat → Prop) (v1 : Int32) (hI : CI σ) : ZR D cI cZ cO (cdom σ) l yX8_paperAt cX8_paperAt 2 ((some (FieldType.object "ToolCrib$Paper"))) 6 121 1 6 [.ref (L 899 0), .int v1] L σ ow (if ix v1 (σ.1 1002 5) then 0 else 1) (some (L 399 (σ.2.2.1 1001 5 (tn v1)))) σ := by
  refine z_of (Qc := fun sz => YQq (if ix v1 (σ.1 1002 5) then 0 else 1) (some (L 399 (σ.2.2.1 1001 5 (tn v1)))) (PW D cI cZ cO (cdom σ) L σ ow) (AA ow sz)) (XC := fun sz => YX (if ix v1 (σ.1 1002 5) then 0 else 1) (PW D cI cZ cO (cdom σ) L σ ow) (AA ow sz)) rfl (Nat.le_of_ble_eq_true rfl) ?_
  intro p e s m args below meth c ls X hex hK hG hX9 hr hlocks hl
  have X : CallFix p m c cX8_paperAt 2 s _ TB RX8 := X
  have hx := X.1
  have hb := X.2.1
  have hS : va_S (AA ow s.heap.size) s.heap s.heap [] := va_S.rf
  have hA : ∀ q, ow q → AA ow s.heap.size q := fun _ h => Or.inl h
  have hA2 : ∀ q, AA ow s.heap.size q → AA ow s.heap.size q := fun _ h => h
  have hl : lv_has ls 2 [(0, .ref (L 899 0)), (1, .int v1)] := hl
  refine lv_iload_n hx hb dX8_paperAt_0 rfl (lv_at hl 1 rfl) ?_
  refine lv_if_lt (tgt := 15) hx hb dX8_paperAt_1 (by decide) (fun c_1 => ?_) (fun c_1 => ?_)
  · exact y_throwW (e8 := 1) (tx := "no such paper") hx X hl9 xw_1 hX9 (List.mem_of_getElem? (i := 29) rfl) hex hlocks hl.1 hS (pw_ext hG) (by decide) (if_neg (fun z => absurd z.1 (by rw [Int32.lt_iff_toInt_lt] at c_1; exact Int.not_le.mpr c_1))) dX8_paperAt_15 dX8_paperAt_18 dX8_paperAt_19 dX8_paperAt_22 dX8_paperAt_25 (Nat.le_of_ble_eq_true rfl) (Nat.le_of_ble_eq_true rfl) (Nat.le_of_ble_eq_true rfl) (Nat.le_of_ble_eq_true rfl) (Nat.le_of_ble_eq_true rfl) (Nat.le_of_ble_eq_true rfl)
  · have hv1 : tn v1 < 2147483648 := by have := fb_rng v1; unfold tn; omega
    have hj1 := hI.1 5 (by decide)
    refine lv_iload_n hx hb dX8_paperAt_4 rfl (lv_at hl 1 rfl) ?_
    refine r_top (y := nI (tn v1)) (tn_ge c_1) ?_
    refine lv_aload_n hx hb dX8_paperAt_5 rfl (lv_at hl 0 rfl) ?_
    refine gt_X8_28 X hK hG (cd_fix (by decide)) dX8_paperAt_6 ?_
    refine x_size X hK hG hS hA2 (cd_list (by decide)) ml_X8_65 hl.1 (Nat.le_of_ble_eq_true rfl) ⟨Nat.le_of_ble_eq_true rfl, Nat.le_of_ble_eq_true rfl⟩ ⟨Nat.le_of_ble_eq_true rfl, Nat.le_of_ble_eq_true rfl⟩ dX8_paperAt_9 (fun H locs hG hS => ?_)
    refine r_icmp_ltN (tgt := 26) hx hb dX8_paperAt_12 (by decide) (by omega) (by omega) (fun c_12 => ?_) (fun c_12 => ?_)
    · refine lv_aload_n hx hb dX8_paperAt_26 rfl (lv_at hl 0 rfl) ?_
      refine gt_X8_28 X hK hG (cd_fix (by decide)) dX8_paperAt_27 ?_
      refine lv_iload_n hx hb dX8_paperAt_30 rfl (lv_at hl 1 rfl) ?_
      refine r_top (y := nI (tn v1)) (tn_ge c_1) ?_
      refine x_get8 X hK hG hS hA2 hI (j := 5) (i := tn v1) (by decide) (rfl) (rfl) (by omega) (O := 399) rfl (k := σ.2.2.1 1001 5 (tn v1)) (rfl) ml_X8_179 hl.1 (Nat.le_of_ble_eq_true rfl) ⟨Nat.le_of_ble_eq_true rfl, Nat.le_of_ble_eq_true rfl⟩ ⟨Nat.le_of_ble_eq_true rfl, Nat.le_of_ble_eq_true rfl⟩ dX8_paperAt_31 (fun H locs hG hS => ?_)
      refine x_cast X hK hG kX3 rfl (cd_obj (by decide) (Or.inl (by decide)) (hI.2 5 (by decide) (tn v1) (by omega))) tw_4_86 dX8_paperAt_34 ?_
      have hP : ix v1 (σ.1 1002 5) := by rw [tn_ge c_1]; exact (ix_nI hv1).mpr c_12
      exact y_retq (v := some (L 399 (σ.2.2.1 1001 5 (tn v1)))) hx hb hr (Or.inl ⟨_, rfl⟩) hlocks hG hS rfl (if_pos hP) (Nat.le_of_ble_eq_true rfl) (Nat.le_of_ble_eq_true rfl) dX8_paperAt_37
    · exact y_throwW (e8 := 1) (tx := "no such paper") hx X hl9 xw_1 hX9 (List.mem_of_getElem? (i := 29) rfl) hex hlocks hl.1 hS (pw_ext hG) (by decide) (if_neg (fun z => absurd (ix_lt z) (Nat.not_lt.mpr c_12))) dX8_paperAt_15 dX8_paperAt_18 dX8_paperAt_19 dX8_paperAt_22 dX8_paperAt_25 (Nat.le_of_ble_eq_true rfl) (Nat.le_of_ble_eq_true rfl) (Nat.le_of_ble_eq_true rfl) (Nat.le_of_ble_eq_true rfl) (Nat.le_of_ble_eq_true rfl) (Nat.le_of_ble_eq_true rfl)
