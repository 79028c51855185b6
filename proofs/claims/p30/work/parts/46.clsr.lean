set_option maxRecDepth 100000 in
set_option maxHeartbeats 4000000 in
theorem c_X8_lowestToolFor {D : va_G} {cI cZ cO : ClassId} (l : Launch) (L : Lay) (σ : St) (ow : Nat → Prop) (v1 : Int32) (hu : ∀ k, σ.1 504 k ≤ σ.1 502 k) (hv5 : ∀ k, σ.1 502 k ≤ 500) (hI : CI σ) : RR D cI cZ cO (cdom σ) l yX8_lowestToolFor cX8_lowestToolFor 3 ((some (FieldType.object "ToolCrib$Tool"))) 4 121 [.ref (L 899 0), .int v1] L σ ow ((fnd (fun i => lf σ v1 (σ.2.2.1 1001 0 i)) (σ.1 1002 0) 0).map (fun i => L 599 (σ.2.2.1 1001 0 i))) σ := by
  refine rr_of rfl (Nat.le_of_ble_eq_true rfl) ?_
  intro p e s m below meth c ls X hK hG hr hlocks hl
  have X : CallFix p m c cX8_lowestToolFor 3 s _ TB RX8 := X
  have hx := X.1
  have hb := X.2.1
  have hS : va_S (AA ow s.heap.size) s.heap s.heap [] := va_S.rf
  have hA : ∀ q, ow q → AA ow s.heap.size q := fun _ h => Or.inl h
  have hl : lv_has ls 3 [(0, .ref (L 899 0)), (1, .int v1)] := hl
  have hA2 : ∀ q, AA ow s.heap.size q → AA ow s.heap.size q := fun _ h => h
  have h16 := hI.1 0 (by decide)
  have hlf : ∀ k, lf σ v1 k < 2147483648 := fun k => by
    have := hv5 k
    unfold lf
    repeat' split
    all_goals omega
  refine lv_iconst (v := nI 0) hx hb dX8_lowestToolFor_0 (by decide) ?_
  refine lv_istore_n (lv' := [(2, .int (nI 0)), (0, .ref (L 899 0)), (1, .int v1)]) hx hb dX8_lowestToolFor_1 rfl hl (by decide) rfl (fun ls hl => ?_)
  refine r_loop (ι := Nat) (fun (n9 : Nat) => [(0, .ref (L 899 0)), (1, .int v1), (2, .int (nI n9))]) (fun (n9 : Nat) => σ) (fun (n9 : Nat) => σ.1 1002 0 - n9) (fun (n9 : Nat) => fnd (fun i => lf σ v1 (σ.2.2.1 1001 0 i)) (σ.1 1002 0) 0 = fnd (fun i => lf σ v1 (σ.2.2.1 1001 0 i)) (σ.1 1002 0 - n9) n9 ∧ n9 ≤ σ.1 1002 0) 0 (⟨rfl, Nat.zero_le _⟩) hG hS (lv_sub hl [1, 2, 0] rfl) ?_
  rintro n9 hinv ih H locs ls hG hS hl
  have hG : PW D cI cZ cO (cdom σ) L σ ow H := hG
  have hl : lv_has ls 3 [(0, .ref (L 899 0)), (1, .int v1), (2, .int (nI n9))] := hl
  obtain ⟨hv, hk⟩ := hinv
  refine lv_iload_n hx hb dX8_lowestToolFor_2 rfl (lv_at hl 2 rfl) ?_
  refine lv_aload_n hx hb dX8_lowestToolFor_3 rfl (lv_at hl 0 rfl) ?_
  refine gt_X8_12 X hK hG (cd_fix (by decide)) dX8_lowestToolFor_4 ?_
  refine x_size X hK hG hS hA2 (cd_list (by decide)) ml_X8_65 hl.1 (Nat.le_of_ble_eq_true rfl) ⟨Nat.le_of_ble_eq_true rfl, Nat.le_of_ble_eq_true rfl⟩ ⟨Nat.le_of_ble_eq_true rfl, Nat.le_of_ble_eq_true rfl⟩ dX8_lowestToolFor_7 (fun H locs hG hS => ?_)
  refine r_icmp_geN (tgt := 49) hx hb dX8_lowestToolFor_10 (by decide) (by omega) (by omega) (fun c_10 => ?_) (fun c_10 => ?_)
  · refine lv_null hx hb dX8_lowestToolFor_49 ?_
    exact rr_ret (v := none) hx hb hr (Or.inl ⟨_, rfl⟩) hlocks hG hS (by rw [hv, show σ.1 1002 0 - n9 = 0 by omega]; rfl) rfl dX8_lowestToolFor_50
  · refine lv_aload_n hx hb dX8_lowestToolFor_13 rfl (lv_at hl 0 rfl) ?_
    refine gt_X8_12 X hK hG (cd_fix (by decide)) dX8_lowestToolFor_14 ?_
    refine lv_iload_n hx hb dX8_lowestToolFor_17 rfl (lv_at hl 2 rfl) ?_
    refine x_get8 X hK hG hS hA2 hI (j := 0) (i := n9) (by decide) (rfl) (rfl) (by omega) (O := 599) rfl (k := σ.2.2.1 1001 0 n9) (rfl) ml_X8_179 hl.1 (Nat.le_of_ble_eq_true rfl) ⟨Nat.le_of_ble_eq_true rfl, Nat.le_of_ble_eq_true rfl⟩ ⟨Nat.le_of_ble_eq_true rfl, Nat.le_of_ble_eq_true rfl⟩ dX8_lowestToolFor_18 (fun H locs hG hS => ?_)
    refine x_cast X hK hG kX5 rfl (cd_obj (by decide) (Or.inl (by decide)) (hI.2 0 (by decide) n9 (by omega))) tw_3_21 dX8_lowestToolFor_21 ?_
    refine lv_iload_n hx hb dX8_lowestToolFor_24 rfl (lv_at hl 1 rfl) ?_
    refine rm_callVg X hK hG hS hA2 yvX5_leftFor ml_X8_365 kX5 rfl (cd_obj (by decide) (Or.inl (by decide)) (hI.2 0 (by decide) n9 (by omega))) [.int v1] [] (c_X5_leftFor l L σ ow (σ.2.2.1 1001 0 n9) (cd_objs (C := 5) (by decide) (hI.2 0 (by decide) n9 (by omega))) v1 (hu _)) rfl hl.1 rfl (Nat.le_of_ble_eq_true rfl) ⟨Nat.le_of_ble_eq_true rfl, Nat.le_of_ble_eq_true rfl⟩ ⟨Nat.le_of_ble_eq_true rfl, Nat.le_of_ble_eq_true rfl⟩ dX8_lowestToolFor_25 (fun H locs hG hS => ?_)
    have hG : PW D cI cZ cO (cdom σ) L σ ow H := by rw [left_lf] at hG; exact hG
    refine r_top (y := nI (lf σ v1 (σ.2.2.1 1001 0 n9))) (by rw [left_lf]) ?_
    refine r_if_leN (tgt := 43) hx hb dX8_lowestToolFor_28 (by decide) (hlf _) (fun c_28 => ?_) (fun c_28 => ?_)
    · refine r_iincN (b := 1) (lv' := [(2, .int (nI (n9 + 1))), (0, .ref (L 899 0)), (1, .int v1)]) hx hb dX8_lowestToolFor_43 hl (k := 2) rfl (by decide) (by decide) rfl (fun ls hl => ?_)
      refine lv_goto (tgt := 2) hx hb dX8_lowestToolFor_46 (by decide) ?_
      exact ih (n9 + 1) (by show _ - (n9 + 1) < _ - n9; omega) (⟨hv.trans (by rw [show σ.1 1002 0 - n9 = (σ.1 1002 0 - (n9 + 1)) + 1 by omega]; exact if_pos c_28), by omega⟩) H locs ls hG hS (lv_sub hl [1, 2, 0] rfl)
    · refine lv_aload_n hx hb dX8_lowestToolFor_31 rfl (lv_at hl 0 rfl) ?_
      refine gt_X8_12 X hK hG (cd_fix (by decide)) dX8_lowestToolFor_32 ?_
      refine lv_iload_n hx hb dX8_lowestToolFor_35 rfl (lv_at hl 2 rfl) ?_
      refine x_get8 X hK hG hS hA2 hI (j := 0) (i := n9) (by decide) (rfl) (rfl) (by omega) (O := 599) rfl (k := σ.2.2.1 1001 0 n9) (rfl) ml_X8_179 hl.1 (Nat.le_of_ble_eq_true rfl) ⟨Nat.le_of_ble_eq_true rfl, Nat.le_of_ble_eq_true rfl⟩ ⟨Nat.le_of_ble_eq_true rfl, Nat.le_of_ble_eq_true rfl⟩ dX8_lowestToolFor_36 (fun H locs hG hS => ?_)
      refine x_cast X hK hG kX5 rfl (cd_obj (by decide) (Or.inl (by decide)) (hI.2 0 (by decide) n9 (by omega))) tw_3_21 dX8_lowestToolFor_39 ?_
      exact rr_ret (v := some (L 599 (σ.2.2.1 1001 0 n9))) hx hb hr (Or.inl ⟨_, rfl⟩) hlocks hG hS (by rw [hv, show σ.1 1002 0 - n9 = (σ.1 1002 0 - (n9 + 1)) + 1 by omega, show fnd (fun i => lf σ v1 (σ.2.2.1 1001 0 i)) ((σ.1 1002 0 - (n9 + 1)) + 1) n9 = some n9 from if_neg (Nat.pos_iff_ne_zero.mp c_28)]; rfl) rfl dX8_lowestToolFor_42
set_option maxRecDepth 100000 in
set_option maxHeartbeats 4000000 in
theorem c_X8_placeInQueue {D : va_G} {cI cZ cO : ClassId} (l : Launch) (L : Lay) (σ : St) (ow : Nat → Prop) (k9 : Nat) (hk9 : k9 < σ.1 1002 1) (hI : CI σ) : RM D cI cZ cO (cdom σ) l yX8_placeInQueue cX8_placeInQueue 3 ((some FieldType.int)) 4 121 [.ref (L 899 0), .ref (L 299 k9)] L σ ow (k_pl (σ.2.2.1 1001 2) k9 (σ.1 1002 2) 0) σ := by
  refine rm_of rfl (Nat.le_of_ble_eq_true rfl) ?_
  intro p e s m below meth c ls X hK hG hr hlocks hl
  have X : CallFix p m c cX8_placeInQueue 3 s _ TB RX8 := X
  have hx := X.1
  have hb := X.2.1
  have hS : va_S (AA ow s.heap.size) s.heap s.heap [] := va_S.rf
  have hA : ∀ q, ow q → AA ow s.heap.size q := fun _ h => Or.inl h
  have hl : lv_has ls 3 [(0, .ref (L 899 0)), (1, .ref (L 299 k9))] := hl
  have hA2 : ∀ q, AA ow s.heap.size q → AA ow s.heap.size q := fun _ h => h
  have h16 := hI.1 2 (by decide)
  refine lv_iconst (v := nI 0) hx hb dX8_placeInQueue_0 (by decide) ?_
  refine lv_istore_n (lv' := [(2, .int (nI 0)), (0, .ref (L 899 0)), (1, .ref (L 299 k9))]) hx hb dX8_placeInQueue_1 rfl hl (by decide) rfl (fun ls hl => ?_)
  refine r_loop (ι := Nat) (fun (n9 : Nat) => [(0, .ref (L 899 0)), (1, .ref (L 299 k9)), (2, .int (nI n9))]) (fun (n9 : Nat) => σ) (fun (n9 : Nat) => σ.1 1002 2 - n9) (fun (n9 : Nat) => k_pl (σ.2.2.1 1001 2) k9 (σ.1 1002 2) 0 = k_pl (σ.2.2.1 1001 2) k9 (σ.1 1002 2 - n9) n9 ∧ n9 ≤ σ.1 1002 2) 0 (⟨rfl, Nat.zero_le _⟩) hG hS (lv_sub hl [1, 2, 0] rfl) ?_
  rintro n9 hinv ih H locs ls hG hS hl
  have hG : PW D cI cZ cO (cdom σ) L σ ow H := hG
  have hl : lv_has ls 3 [(0, .ref (L 899 0)), (1, .ref (L 299 k9)), (2, .int (nI n9))] := hl
  obtain ⟨hv, hk⟩ := hinv
  refine lv_iload_n hx hb dX8_placeInQueue_2 rfl (lv_at hl 2 rfl) ?_
  refine lv_aload_n hx hb dX8_placeInQueue_3 rfl (lv_at hl 0 rfl) ?_
  refine gt_X8_19 X hK hG (cd_fix (by decide)) dX8_placeInQueue_4 ?_
  refine x_size X hK hG hS hA2 (cd_list (by decide)) ml_X8_65 hl.1 (Nat.le_of_ble_eq_true rfl) ⟨Nat.le_of_ble_eq_true rfl, Nat.le_of_ble_eq_true rfl⟩ ⟨Nat.le_of_ble_eq_true rfl, Nat.le_of_ble_eq_true rfl⟩ dX8_placeInQueue_7 (fun H locs hG hS => ?_)
  refine r_icmp_geN (tgt := 33) hx hb dX8_placeInQueue_10 (by decide) (by omega) (by omega) (fun c_10 => ?_) (fun c_10 => ?_)
  · refine lv_iconst (v := (-1)) hx hb dX8_placeInQueue_33 (by decide) ?_
    exact rm_ret hx hb hr hlocks hG hS (by rw [hv, show σ.1 1002 2 - n9 = 0 by omega]; rfl) (rfl) rfl dX8_placeInQueue_34
  · refine lv_aload_n hx hb dX8_placeInQueue_13 rfl (lv_at hl 0 rfl) ?_
    refine gt_X8_19 X hK hG (cd_fix (by decide)) dX8_placeInQueue_14 ?_
    refine lv_iload_n hx hb dX8_placeInQueue_17 rfl (lv_at hl 2 rfl) ?_
    refine x_get8 X hK hG hS hA2 hI (j := 2) (i := n9) (by decide) (rfl) (rfl) (by omega) (O := 299) rfl (k := σ.2.2.1 1001 2 n9) (rfl) ml_X8_179 hl.1 (Nat.le_of_ble_eq_true rfl) ⟨Nat.le_of_ble_eq_true rfl, Nat.le_of_ble_eq_true rfl⟩ ⟨Nat.le_of_ble_eq_true rfl, Nat.le_of_ble_eq_true rfl⟩ dX8_placeInQueue_18 (fun H locs hG hS => ?_)
    refine lv_aload_n hx hb dX8_placeInQueue_21 rfl (lv_at hl 1 rfl) ?_
    refine lv_acmp_ne (rx := some (L 299 (σ.2.2.1 1001 2 n9))) (ry := some (L 299 k9)) (tgt := 27) hx hb dX8_placeInQueue_22 (by decide) (fun c_22 => ?_) (fun c_22 => ?_)
    · have c_22 : ¬ σ.2.2.1 1001 2 n9 = k9 := fun z => c_22 (by rw [z])
      refine r_iincN (b := 1) (lv' := [(2, .int (nI (n9 + 1))), (0, .ref (L 899 0)), (1, .ref (L 299 k9))]) hx hb dX8_placeInQueue_27 hl (k := 2) rfl (by decide) (by decide) rfl (fun ls hl => ?_)
      refine lv_goto (tgt := 2) hx hb dX8_placeInQueue_30 (by decide) ?_
      exact ih (n9 + 1) (by show _ - (n9 + 1) < _ - n9; omega) (⟨hv.trans (by rw [show σ.1 1002 2 - n9 = (σ.1 1002 2 - (n9 + 1)) + 1 by omega]; exact if_neg c_22), by omega⟩) H locs ls hG hS (lv_sub hl [1, 2, 0] rfl)
    · have c_22 : σ.2.2.1 1001 2 n9 = k9 := (hG.2.1 299 _ 299 _ (cd_obj (by decide) (Or.inl (by decide)) (hI.2 2 (by decide) n9 (by omega))) (cd_obj (by decide) (Or.inl (by decide)) hk9) (Option.some.inj c_22)).2
      refine lv_iload_n hx hb dX8_placeInQueue_25 rfl (lv_at hl 2 rfl) ?_
      exact rm_ret hx hb hr hlocks hG hS (by rw [hv, show σ.1 1002 2 - n9 = (σ.1 1002 2 - (n9 + 1)) + 1 by omega]; exact (if_pos c_22).symm) (rfl) rfl dX8_placeInQueue_26
set_option maxRecDepth 100000 in
set_option maxHeartbeats 4000000 in
theorem c_X8_isBlock {D : va_G} {cI cZ cO : ClassId} {dom : Nat → Nat → Prop} (l : Launch) (L : Lay) (σ : St) (ow : Nat → Prop) (v1 v2 v3 : Int32) : RM D cI cZ cO dom l yX8_isBlock cX8_isBlock 3 ((some FieldType.boolean)) 1 22 [.int v1, .int v2, .int v3] L σ ow (b2i (isB v1 v2 v3)) σ := by
  refine rm_of rfl (Nat.le_of_ble_eq_true rfl) ?_
  intro p e s m below meth c ls X hK hG hr hlocks hl
  have X : CallFix p m c cX8_isBlock 3 s _ TB RX8 := X
  have hx := X.1
  have hb := X.2.1
  have hS : va_S (AA ow s.heap.size) s.heap s.heap [] := va_S.rf
  have hA : ∀ q, ow q → AA ow s.heap.size q := fun _ h => Or.inl h
  have hl : lv_has ls 3 [(0, .int v1), (1, .int v2), (2, .int v3)] := hl
  refine lv_iload_n hx hb dX8_isBlock_0 rfl (lv_at hl 1 rfl) ?_
  rcases sw_split (v2) 6 (by decide) with h_1 | ⟨j_1, h_1, e_1⟩
  · refine lv_tableOut (tgt := 76) hx hb dX8_isBlock_1 h_1 (by decide) ?_
    refine lv_iconst (v := nI 0) hx hb dX8_isBlock_76 (by decide) ?_
    exact rm_ret hx hb hr hlocks hG hS (((b2i_c (isB_d (by omega))).trans (b2i_f (fun h => sw_ne (n := 6) h_1 6 (by decide) h.1))).symm) (rfl) rfl dX8_isBlock_77
  · rcases (by omega : j_1 = 0 ∨ j_1 = 1 ∨ j_1 = 2 ∨ j_1 = 3 ∨ j_1 = 4 ∨ j_1 = 5 ∨ j_1 = 6) with rfl | rfl | rfl | rfl | rfl | rfl | rfl
    · refine r_top (y := nI 0) e_1 ?_
      refine lv_tableIn (tgt := 44) hx hb dX8_isBlock_1 (by decide) (by decide) (off := 43) (by decide) (by decide) ?_
      refine lv_iload_n hx hb dX8_isBlock_44 rfl (lv_at hl 2 rfl) ?_
      refine lv_iconst (v := nI 0) hx hb dX8_isBlock_45 (by decide) ?_
      refine lv_iconst (v := nI 1) hx hb dX8_isBlock_46 (by decide) ?_
      refine rm_callS X hK hG hS ysX8_isWithin ml_X8_105 [.int v3, .int (nI 0), .int (nI 1)] [] (c_X8_isWithin l L σ ow v3 (nI 0) (nI 1)) rfl hl.1 rfl (Nat.le_of_ble_eq_true rfl) ⟨Nat.le_of_ble_eq_true rfl, Nat.le_of_ble_eq_true rfl⟩ ⟨Nat.zero_le _, Nat.zero_le _⟩ dX8_isBlock_47 (fun H locs hG hS => ?_)
      exact rm_ret hx hb hr hlocks hG hS (b2i_c (by rw [e_1]; unfold isB; rw [if_pos (by decide)])) (rfl) b2i_z dX8_isBlock_50
    · refine r_top (y := nI 1) e_1 ?_
      refine lv_tableIn (tgt := 44) hx hb dX8_isBlock_1 (by decide) (by decide) (off := 43) (by decide) (by decide) ?_
      refine lv_iload_n hx hb dX8_isBlock_44 rfl (lv_at hl 2 rfl) ?_
      refine lv_iconst (v := nI 0) hx hb dX8_isBlock_45 (by decide) ?_
      refine lv_iconst (v := nI 1) hx hb dX8_isBlock_46 (by decide) ?_
      refine rm_callS X hK hG hS ysX8_isWithin ml_X8_105 [.int v3, .int (nI 0), .int (nI 1)] [] (c_X8_isWithin l L σ ow v3 (nI 0) (nI 1)) rfl hl.1 rfl (Nat.le_of_ble_eq_true rfl) ⟨Nat.le_of_ble_eq_true rfl, Nat.le_of_ble_eq_true rfl⟩ ⟨Nat.zero_le _, Nat.zero_le _⟩ dX8_isBlock_47 (fun H locs hG hS => ?_)
      exact rm_ret hx hb hr hlocks hG hS (b2i_c (by rw [e_1]; unfold isB; rw [if_pos (by decide)])) (rfl) b2i_z dX8_isBlock_50
    · refine r_top (y := nI 2) e_1 ?_
      refine lv_tableIn (tgt := 51) hx hb dX8_isBlock_1 (by decide) (by decide) (off := 50) (by decide) (by decide) ?_
      refine lv_iload_n hx hb dX8_isBlock_51 rfl (lv_at hl 2 rfl) ?_
      refine lv_bipush (v := (-11)) hx hb dX8_isBlock_52 (by decide) ?_
      refine lv_bipush (v := nI 11) hx hb dX8_isBlock_54 (by decide) ?_
      refine rm_callS X hK hG hS ysX8_isWithin ml_X8_105 [.int v3, .int (-11), .int (nI 11)] [] (c_X8_isWithin l L σ ow v3 (-11) (nI 11)) rfl hl.1 rfl (Nat.le_of_ble_eq_true rfl) ⟨Nat.le_of_ble_eq_true rfl, Nat.le_of_ble_eq_true rfl⟩ ⟨Nat.zero_le _, Nat.zero_le _⟩ dX8_isBlock_56 (fun H locs hG hS => ?_)
      exact rm_ret hx hb hr hlocks hG hS (b2i_c (by rw [e_1]; unfold isB; rw [if_neg (by decide), if_pos (by decide)])) (rfl) b2i_z dX8_isBlock_59
    · refine r_top (y := nI 3) e_1 ?_
      refine lv_tableIn (tgt := 51) hx hb dX8_isBlock_1 (by decide) (by decide) (off := 50) (by decide) (by decide) ?_
      refine lv_iload_n hx hb dX8_isBlock_51 rfl (lv_at hl 2 rfl) ?_
      refine lv_bipush (v := (-11)) hx hb dX8_isBlock_52 (by decide) ?_
      refine lv_bipush (v := nI 11) hx hb dX8_isBlock_54 (by decide) ?_
      refine rm_callS X hK hG hS ysX8_isWithin ml_X8_105 [.int v3, .int (-11), .int (nI 11)] [] (c_X8_isWithin l L σ ow v3 (-11) (nI 11)) rfl hl.1 rfl (Nat.le_of_ble_eq_true rfl) ⟨Nat.le_of_ble_eq_true rfl, Nat.le_of_ble_eq_true rfl⟩ ⟨Nat.zero_le _, Nat.zero_le _⟩ dX8_isBlock_56 (fun H locs hG hS => ?_)
      exact rm_ret hx hb hr hlocks hG hS (b2i_c (by rw [e_1]; unfold isB; rw [if_neg (by decide), if_pos (by decide)])) (rfl) b2i_z dX8_isBlock_59
    · refine r_top (y := nI 4) e_1 ?_
      refine lv_tableIn (tgt := 51) hx hb dX8_isBlock_1 (by decide) (by decide) (off := 50) (by decide) (by decide) ?_
      refine lv_iload_n hx hb dX8_isBlock_51 rfl (lv_at hl 2 rfl) ?_
      refine lv_bipush (v := (-11)) hx hb dX8_isBlock_52 (by decide) ?_
      refine lv_bipush (v := nI 11) hx hb dX8_isBlock_54 (by decide) ?_
      refine rm_callS X hK hG hS ysX8_isWithin ml_X8_105 [.int v3, .int (-11), .int (nI 11)] [] (c_X8_isWithin l L σ ow v3 (-11) (nI 11)) rfl hl.1 rfl (Nat.le_of_ble_eq_true rfl) ⟨Nat.le_of_ble_eq_true rfl, Nat.le_of_ble_eq_true rfl⟩ ⟨Nat.zero_le _, Nat.zero_le _⟩ dX8_isBlock_56 (fun H locs hG hS => ?_)
      exact rm_ret hx hb hr hlocks hG hS (b2i_c (by rw [e_1]; unfold isB; rw [if_neg (by decide), if_pos (by decide)])) (rfl) b2i_z dX8_isBlock_59
    · refine r_top (y := nI 5) e_1 ?_
      refine lv_tableIn (tgt := 60) hx hb dX8_isBlock_1 (by decide) (by decide) (off := 59) (by decide) (by decide) ?_
      refine lv_iload_n hx hb dX8_isBlock_60 rfl (lv_at hl 2 rfl) ?_
      refine lv_iconst (v := nI 0) hx hb dX8_isBlock_61 (by decide) ?_
      refine lv_iconst (v := nI 3) hx hb dX8_isBlock_62 (by decide) ?_
      refine rm_callS X hK hG hS ysX8_isWithin ml_X8_105 [.int v3, .int (nI 0), .int (nI 3)] [] (c_X8_isWithin l L σ ow v3 (nI 0) (nI 3)) rfl hl.1 rfl (Nat.le_of_ble_eq_true rfl) ⟨Nat.le_of_ble_eq_true rfl, Nat.le_of_ble_eq_true rfl⟩ ⟨Nat.zero_le _, Nat.zero_le _⟩ dX8_isBlock_63 (fun H locs hG hS => ?_)
      exact rm_ret hx hb hr hlocks hG hS (b2i_c (by rw [e_1]; unfold isB; rw [if_neg (by decide), if_neg (by decide), if_pos (by decide)])) (rfl) b2i_z dX8_isBlock_66
    · refine r_top (y := nI 6) e_1 ?_
      refine lv_tableIn (tgt := 67) hx hb dX8_isBlock_1 (by decide) (by decide) (off := 66) (by decide) (by decide) ?_
      refine lv_iload_n hx hb dX8_isBlock_67 rfl (lv_at hl 2 rfl) ?_
      refine lv_iconst (v := nI 0) hx hb dX8_isBlock_68 (by decide) ?_
      refine lv_iload_n hx hb dX8_isBlock_69 rfl (lv_at hl 0 rfl) ?_
      refine lv_iconst (v := nI 1) hx hb dX8_isBlock_70 (by decide) ?_
      refine lv_isub hx hb dX8_isBlock_71 ?_
      refine rm_callS X hK hG hS ysX8_isWithin ml_X8_105 [.int v3, .int (nI 0), .int (v1 - (nI 1))] [] (c_X8_isWithin l L σ ow v3 (nI 0) (v1 - (nI 1))) rfl hl.1 rfl (Nat.le_of_ble_eq_true rfl) ⟨Nat.le_of_ble_eq_true rfl, Nat.le_of_ble_eq_true rfl⟩ ⟨Nat.zero_le _, Nat.zero_le _⟩ dX8_isBlock_72 (fun H locs hG hS => ?_)
      exact rm_ret hx hb hr hlocks hG hS (b2i_c (by rw [e_1]; unfold isB; rw [if_neg (by decide), if_neg (by decide), if_neg (by decide)]; exact ⟨fun z => ⟨rfl, z⟩, fun z => z.2⟩)) (rfl) b2i_z dX8_isBlock_75
set_option maxHeartbeats 4000000 in
theorem z_X8_cellAt {D : va_G} {cI cZ cO : ClassId} (l : Launch) (hl9 : l.stackTraces = false) (L : Lay) (σ : St) (ow : Nat → Prop) (v1 v2 : Int32) : ZI D cI cZ cO (cdom σ) l yX8_cellAt cX8_cellAt 3 ((some FieldType.int)) 6 90 1 6 [.ref (L 899 0), .int v1, .int v2] L σ ow (if ix v1 12 ∧ ix v2 12 then 0 else 1) (nI (tn v2 * 12 + tn v1)) σ := by
  refine z_of (Qc := fun sz => YQi (if ix v1 12 ∧ ix v2 12 then 0 else 1) (nI (tn v2 * 12 + tn v1)) (PW D cI cZ cO (cdom σ) L σ ow) (AA ow sz)) (XC := fun sz => YX (if ix v1 12 ∧ ix v2 12 then 0 else 1) (PW D cI cZ cO (cdom σ) L σ ow) (AA ow sz)) rfl (Nat.le_of_ble_eq_true rfl) ?_
  intro p e s m args below meth c ls X hex hK hG hX9 hr hlocks hl
  have X : CallFix p m c cX8_cellAt 3 s _ TB RX8 := X
  have hx := X.1
  have hb := X.2.1
  have hS : va_S (AA ow s.heap.size) s.heap s.heap [] := va_S.rf
  have hA2 : ∀ q, AA ow s.heap.size q → AA ow s.heap.size q := fun _ h => h
  have hl : lv_has ls 3 [(0, .ref (L 899 0)), (1, .int v1), (2, .int v2)] := hl
  refine lv_iload_n hx hb dX8_cellAt_0 rfl (lv_at hl 1 rfl) ?_
  refine lv_iconst (v := nI 0) hx hb dX8_cellAt_1 (by decide) ?_
  refine lv_bipush (v := nI 11) hx hb dX8_cellAt_2 (by decide) ?_
  refine rm_callSg X hK hG hS hA2 ysX8_isWithin ml_X8_105 [.int v1, .int (nI 0), .int (nI 11)] [] (c_X8_isWithin l L σ ow v1 (nI 0) (nI 11)) rfl hl.1 rfl (Nat.le_of_ble_eq_true rfl) ⟨Nat.le_of_ble_eq_true rfl, Nat.le_of_ble_eq_true rfl⟩ ⟨Nat.le_of_ble_eq_true rfl, Nat.le_of_ble_eq_true rfl⟩ dX8_cellAt_4 (fun H locs hG hS => ?_)
  refine r_top (y := b2i (ix v1 12)) (b2i_c (rg_z 11 (by decide))) ?_
  refine r_if_eqB (tgt := 20) hx hb dX8_cellAt_7 (by decide) (fun c_7 => ?_) (fun c_7 => ?_)
  · exact y_throwW (e8 := 1) (tx := "no such cell") hx X hl9 xw_1 hX9 (List.mem_of_getElem? (i := 12) rfl) hex hlocks hl.1 hS (pw_ext hG) (by decide) (if_neg (fun z => c_7 z.1)) dX8_cellAt_20 dX8_cellAt_23 dX8_cellAt_24 dX8_cellAt_27 dX8_cellAt_30 (Nat.le_of_ble_eq_true rfl) (Nat.le_of_ble_eq_true rfl) (Nat.le_of_ble_eq_true rfl) (Nat.le_of_ble_eq_true rfl) (Nat.le_of_ble_eq_true rfl) (Nat.le_of_ble_eq_true rfl)
  · refine lv_iload_n hx hb dX8_cellAt_10 rfl (lv_at hl 2 rfl) ?_
    refine lv_iconst (v := nI 0) hx hb dX8_cellAt_11 (by decide) ?_
    refine lv_bipush (v := nI 11) hx hb dX8_cellAt_12 (by decide) ?_
    refine rm_callSg X hK hG hS hA2 ysX8_isWithin ml_X8_105 [.int v2, .int (nI 0), .int (nI 11)] [] (c_X8_isWithin l L σ ow v2 (nI 0) (nI 11)) rfl hl.1 rfl (Nat.le_of_ble_eq_true rfl) ⟨Nat.le_of_ble_eq_true rfl, Nat.le_of_ble_eq_true rfl⟩ ⟨Nat.le_of_ble_eq_true rfl, Nat.le_of_ble_eq_true rfl⟩ dX8_cellAt_14 (fun H locs hG hS => ?_)
    refine r_top (y := b2i (ix v2 12)) (b2i_c (rg_z 11 (by decide))) ?_
    refine r_if_neB (tgt := 31) hx hb dX8_cellAt_17 (by decide) (fun c_17 => ?_) (fun c_17 => ?_)
    · refine lv_iload_n hx hb dX8_cellAt_31 rfl (lv_at hl 2 rfl) ?_
      refine r_top (y := nI (tn v2)) (ix_eq c_17) ?_
      refine lv_bipush (v := nI 12) hx hb dX8_cellAt_32 (by decide) ?_
      refine r_mulN hx hb dX8_cellAt_34 ?_
      refine lv_iload_n hx hb dX8_cellAt_35 rfl (lv_at hl 1 rfl) ?_
      refine r_top (y := nI (tn v1)) (ix_eq c_7) ?_
      refine r_addN hx hb dX8_cellAt_36 ?_
      exact y_reti (e9 := (if ix v1 12 ∧ ix v2 12 then 0 else 1)) hx hb hr hlocks hG hS rfl (if_pos ⟨c_7, c_17⟩) rfl (Nat.le_of_ble_eq_true rfl) (Nat.le_of_ble_eq_true rfl) dX8_cellAt_37
    · exact y_throwW (e8 := 1) (tx := "no such cell") hx X hl9 xw_1 hX9 (List.mem_of_getElem? (i := 12) rfl) hex hlocks hl.1 hS (pw_ext hG) (by decide) (if_neg (fun z => c_17 z.2)) dX8_cellAt_20 dX8_cellAt_23 dX8_cellAt_24 dX8_cellAt_27 dX8_cellAt_30 (Nat.le_of_ble_eq_true rfl) (Nat.le_of_ble_eq_true rfl) (Nat.le_of_ble_eq_true rfl) (Nat.le_of_ble_eq_true rfl) (Nat.le_of_ble_eq_true rfl) (Nat.le_of_ble_eq_true rfl)
