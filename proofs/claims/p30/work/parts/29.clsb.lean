set_option maxRecDepth 100000 in
set_option maxHeartbeats 4000000 in
theorem c_X7_cellNow {D : va_G} {cI cZ cO : ClassId} {dom : Nat → Nat → Prop} (l : Launch) (L : Lay) (σ : St) (ow : Nat → Prop) (hd : ∀ F ∈ ([799, 703] : List Nat), dom F 0) : RM D cI cZ cO dom l yX7_cellNow cX7_cellNow 1 ((some FieldType.int)) 0 0 [.ref (L 799 0)] L σ ow (nI ((σ.2.2.1 703 0 1) * 12 + σ.2.2.1 703 0 0)) σ := by
  refine rm_of rfl (Nat.le_of_ble_eq_true rfl) ?_
  intro p e s m below meth c ls X hK hG hr hlocks hl
  have X : CallFix p m c cX7_cellNow 1 s _ TB RX7 := X
  have hx := X.1
  have hb := X.2.1
  have hS : va_S (AA ow s.heap.size) s.heap s.heap [] := va_S.rf
  have hA : ∀ q, ow q → AA ow s.heap.size q := fun _ h => Or.inl h
  have hl : lv_has ls 1 [(0, .ref (L 799 0))] := hl
  refine lv_aload_n hx hb dX7_cellNow_0 rfl (lv_at hl 0 rfl) ?_
  refine gt_X7_25 X hK hG (hd 799 (by decide)) dX7_cellNow_1 ?_
  refine lv_iconst (v := nI 1) hx hb dX7_cellNow_4 (by decide) ?_
  refine al_703 X hK hG (hd 703 (by decide)) (i := 1) (x := σ.2.2.1 703 0 1) (by decide) rfl dX7_cellNow_5 ?_
  refine lv_bipush (v := nI 12) hx hb dX7_cellNow_6 (by decide) ?_
  refine r_mulN hx hb dX7_cellNow_8 ?_
  refine lv_aload_n hx hb dX7_cellNow_9 rfl (lv_at hl 0 rfl) ?_
  refine gt_X7_25 X hK hG (hd 799 (by decide)) dX7_cellNow_10 ?_
  refine lv_iconst (v := nI 0) hx hb dX7_cellNow_13 (by decide) ?_
  refine al_703 X hK hG (hd 703 (by decide)) (i := 0) (x := σ.2.2.1 703 0 0) (by decide) rfl dX7_cellNow_14 ?_
  refine r_addN hx hb dX7_cellNow_15 ?_
  exact rm_ret hx hb hr hlocks hG hS (rfl) (rfl) rfl dX7_cellNow_16
set_option maxRecDepth 100000 in
set_option maxHeartbeats 4000000 in
theorem c_X7_isBelow {D : va_G} {cI cZ cO : ClassId} {dom : Nat → Nat → Prop} (l : Launch) (L : Lay) (σ : St) (ow : Nat → Prop) (hd : ∀ F ∈ ([799, 703] : List Nat), dom F 0) (F9 k9 : Nat) (hd9 : dom F9 k9) (hF : FA F9 3) (hN : flen F9 = 144) (h0 : σ.2.2.1 703 0 0 < 12) (h1 : σ.2.2.1 703 0 1 < 12) : RM D cI cZ cO dom l yX7_isBelow cX7_isBelow 2 ((some FieldType.boolean)) 1 20 [.ref (L 799 0), .ref (L F9 k9)] L σ ow (b2i (¬ σ.2.2.2 F9 k9 ((σ.2.2.1 703 0 1) * 12 + σ.2.2.1 703 0 0) ≤ nI (σ.2.2.1 703 0 2))) σ := by
  refine rm_of rfl (Nat.le_of_ble_eq_true rfl) ?_
  intro p e s m below meth c ls X hK hG hr hlocks hl
  have X : CallFix p m c cX7_isBelow 2 s _ TB RX7 := X
  have hx := X.1
  have hb := X.2.1
  have hS : va_S (AA ow s.heap.size) s.heap s.heap [] := va_S.rf
  have hA : ∀ q, ow q → AA ow s.heap.size q := fun _ h => Or.inl h
  have hl : lv_has ls 2 [(0, .ref (L 799 0)), (1, .ref (L F9 k9))] := hl
  refine lv_aload_n hx hb dX7_isBelow_0 rfl (lv_at hl 0 rfl) ?_
  refine gt_X7_25 X hK hG (hd 799 (by decide)) dX7_isBelow_1 ?_
  refine lv_iconst (v := nI 2) hx hb dX7_isBelow_4 (by decide) ?_
  refine al_703 X hK hG (hd 703 (by decide)) (i := 2) (x := σ.2.2.1 703 0 2) (by decide) rfl dX7_isBelow_5 ?_
  refine lv_aload_n hx hb dX7_isBelow_6 rfl (lv_at hl 1 rfl) ?_
  refine lv_aload_n hx hb dX7_isBelow_7 rfl (lv_at hl 0 rfl) ?_
  refine rm_callV X hK hG hS yvX7_cellNow ml_X7_72 kX7 rfl (hd 799 (by decide)) [] [.ref (L F9 k9), .int (nI (σ.2.2.1 703 0 2))] (c_X7_cellNow l L σ ow hd) rfl hl.1 rfl (Nat.le_of_ble_eq_true rfl) ⟨Nat.le_of_ble_eq_true rfl, Nat.le_of_ble_eq_true rfl⟩ ⟨Nat.zero_le _, Nat.zero_le _⟩ dX7_isBelow_8 (fun H locs hG hS => ?_)
  refine pw_aldI X hK hG F9 hF hd9 hN (i := (σ.2.2.1 703 0 1) * 12 + σ.2.2.1 703 0 0) (by omega) (by decide) (x := σ.2.2.2 F9 k9 ((σ.2.2.1 703 0 1) * 12 + σ.2.2.1 703 0 0)) rfl dX7_isBelow_11 ?_
  refine lv_icmp_ge (tgt := 19) hx hb dX7_isBelow_12 (by decide) (fun c_12 => ?_) (fun c_12 => ?_)
  · refine lv_iconst (v := nI 0) hx hb dX7_isBelow_19 (by decide) ?_
    exact rm_ret hx hb hr hlocks hG hS ((b2i_f (not_not_intro9 c_12)).symm) (rfl) rfl dX7_isBelow_20
  · refine lv_iconst (v := nI 1) hx hb dX7_isBelow_15 (by decide) ?_
    refine lv_goto (tgt := 20) hx hb dX7_isBelow_16 (by decide) ?_
    exact rm_ret hx hb hr hlocks hG hS ((b2i_t c_12).symm) (rfl) rfl dX7_isBelow_20
set_option maxRecDepth 100000 in
set_option maxHeartbeats 4000000 in
theorem c_X7_canCut {D : va_G} {cI cZ cO : ClassId} {dom : Nat → Nat → Prop} (l : Launch) (L : Lay) (σ : St) (ow : Nat → Prop) (hd : ∀ F ∈ ([799] : List Nat), dom F 0) : RM D cI cZ cO dom l yX7_canCut cX7_canCut 1 ((some FieldType.boolean)) 0 0 [.ref (L 799 0)] L σ ow (b2i (¬ σ.2.1 707 0 = 0 ∧ ¬ σ.2.1 709 0 = (-1))) σ := by
  refine rm_of rfl (Nat.le_of_ble_eq_true rfl) ?_
  intro p e s m below meth c ls X hK hG hr hlocks hl
  have X : CallFix p m c cX7_canCut 1 s _ TB RX7 := X
  have hx := X.1
  have hb := X.2.1
  have hS : va_S (AA ow s.heap.size) s.heap s.heap [] := va_S.rf
  have hA : ∀ q, ow q → AA ow s.heap.size q := fun _ h => Or.inl h
  have hl : lv_has ls 1 [(0, .ref (L 799 0))] := hl
  refine r_cutH 20 [.int (b2i (¬ σ.2.1 707 0 = 0 ∧ ¬ σ.2.1 709 0 = (-1)))] hG hS (fun H locs hG hS => ?_) (fun J_20 => ?_)
  · exact rm_ret hx hb hr hlocks hG hS (rfl) (rfl) b2i_z dX7_canCut_20
  · refine lv_aload_n hx hb dX7_canCut_0 rfl (lv_at hl 0 rfl) ?_
    refine gt_X7_41 X hK hG (hd 799 (by decide)) (x := σ.2.1 707 0) rfl dX7_canCut_1 ?_
    refine lv_if_eq (tgt := 19) hx hb dX7_canCut_4 (by decide) (fun c_4 => ?_) (fun c_4 => ?_)
    · refine lv_iconst (v := nI 0) hx hb dX7_canCut_19 (by decide) ?_
      exact r_top ((b2i_f (fun h => by have h9 := h.1; first | exact c_4 h9 | exact h9 c_4 | omega)).symm) (J_20 _ _ hG hS)
    · refine lv_aload_n hx hb dX7_canCut_7 rfl (lv_at hl 0 rfl) ?_
      refine gt_X7_48 X hK hG (hd 799 (by decide)) (x := σ.2.1 709 0) rfl dX7_canCut_8 ?_
      refine lv_iconst (v := (-1)) hx hb dX7_canCut_11 (by decide) ?_
      refine lv_icmp_eq (tgt := 19) hx hb dX7_canCut_12 (by decide) (fun c_12 => ?_) (fun c_12 => ?_)
      · refine lv_iconst (v := nI 0) hx hb dX7_canCut_19 (by decide) ?_
        exact r_top ((b2i_f (fun h => by have h9 := h.2; first | exact c_12 h9 | exact h9 c_12 | omega)).symm) (J_20 _ _ hG hS)
      · refine lv_iconst (v := nI 1) hx hb dX7_canCut_15 (by decide) ?_
        refine lv_goto (tgt := 20) hx hb dX7_canCut_16 (by decide) ?_
        exact r_top ((b2i_t (by refine ⟨?_, ?_⟩ <;> first | assumption | omega)).symm) (J_20 _ _ hG hS)
def k_chg (v1 : Int32) (σ : St) : St := if (σ.2.2.1 703 0 2) = 9 then (wI σ 709 0 v1) else (wI σ 710 0 (nI 2))
set_option maxRecDepth 100000 in
set_option maxHeartbeats 4000000 in
theorem c_X7_changeTool {D : va_G} {cI cZ cO : ClassId} {dom : Nat → Nat → Prop} (l : Launch) (L : Lay) (σ : St) (ow : Nat → Prop) (hd : ∀ F ∈ ([799, 703] : List Nat), dom F 0) (v1 : Int32) (h2 : σ.2.2.1 703 0 2 < 10) : RV D cI cZ cO dom l yX7_changeTool cX7_changeTool 2 0 0 [.ref (L 799 0), .int v1] L σ ow (k_chg v1 σ) := by
  refine rv_of rfl (Nat.le_of_ble_eq_true rfl) ?_
  intro p e s m below meth c ls X hK hG hr hlocks hl
  have X : CallFix p m c cX7_changeTool 2 s _ TB RX7 := X
  have hx := X.1
  have hb := X.2.1
  have hS : va_S (AA ow s.heap.size) s.heap s.heap [] := va_S.rf
  have hA : ∀ q, ow q → AA ow s.heap.size q := fun _ h => Or.inl h
  have hl : lv_has ls 2 [(0, .ref (L 799 0)), (1, .int v1)] := hl
  refine lv_aload_n hx hb dX7_changeTool_0 rfl (lv_at hl 0 rfl) ?_
  refine gt_X7_25 X hK hG (hd 799 (by decide)) dX7_changeTool_1 ?_
  refine lv_iconst (v := nI 2) hx hb dX7_changeTool_4 (by decide) ?_
  refine al_703 X hK hG (hd 703 (by decide)) (i := 2) (x := σ.2.2.1 703 0 2) (by decide) rfl dX7_changeTool_5 ?_
  refine lv_bipush (v := nI 9) hx hb dX7_changeTool_6 (by decide) ?_
  refine r_icmp_eqN (tgt := 19) hx hb dX7_changeTool_8 (by decide) (by omega) (by decide) (fun c_8 => ?_) (fun c_8 => ?_)
  · refine lv_aload_n hx hb dX7_changeTool_19 rfl (lv_at hl 0 rfl) ?_
    refine lv_iload_n hx hb dX7_changeTool_20 rfl (lv_at hl 1 rfl) ?_
    refine pt_X7_48 X hK hG hS hA (hd 799 (by decide)) dX7_changeTool_21 (fun H locs hG hS => ?_)
    exact rv_ret hx hb hr hlocks hG hS (by unfold k_chg; rw [if_pos c_8] <;> rfl) dX7_changeTool_24
  · refine lv_aload_n hx hb dX7_changeTool_11 rfl (lv_at hl 0 rfl) ?_
    refine lv_iconst (v := nI 2) hx hb dX7_changeTool_12 (by decide) ?_
    refine pt_X7_51 X hK hG hS hA (hd 799 (by decide)) dX7_changeTool_13 (fun H locs hG hS => ?_)
    refine lv_goto (tgt := 24) hx hb dX7_changeTool_16 (by decide) ?_
    exact rv_ret hx hb hr hlocks hG hS (by unfold k_chg; rw [if_neg c_8] <;> rfl) dX7_changeTool_24
theorem tn_ge {x : Int32} (h : ¬ x < 0) : x = nI (tn x) := by
  have hr := fb_rng x
  have h2 : ¬ x.toInt < 0 := fun z => h (by rw [Int32.lt_iff_toInt_lt]; exact z)
  unfold tn
  rw [fa_eq, nI_toInt (by omega)]
  omega
def k_aim (a9 m9 : Nat) (v1 : Int32) (σ : St) : St := if (if σ.2.1 708 0 = 0 then v1 else nI (σ.2.2.1 703 0 a9) + v1) < 0 then (wI σ 710 0 (nI 1)) else (if (if σ.2.1 708 0 = 0 then v1 else nI (σ.2.2.1 703 0 a9) + v1) ≤ (nI m9) then (wN (wN σ 704 0 a9) 705 0 (tn (if σ.2.1 708 0 = 0 then v1 else nI (σ.2.2.1 703 0 a9) + v1))) else (wI σ 710 0 (nI 1)))
set_option maxRecDepth 100000 in
set_option maxHeartbeats 4000000 in
theorem c_X7_aim {D : va_G} {cI cZ cO : ClassId} {dom : Nat → Nat → Prop} (l : Launch) (L : Lay) (σ : St) (ow : Nat → Prop) (hd : ∀ F ∈ ([799, 703] : List Nat), dom F 0) (a9 m9 : Nat) (v1 : Int32) (ha : a9 < 3) (hm : m9 < 100000) : RV D cI cZ cO dom l yX7_aim cX7_aim 5 0 0 [.ref (L 799 0), .int (nI a9), .int v1, .int (nI m9)] L σ ow (k_aim a9 m9 v1 σ) := by
  refine rv_of rfl (Nat.le_of_ble_eq_true rfl) ?_
  intro p e s m below meth c ls X hK hG hr hlocks hl
  have X : CallFix p m c cX7_aim 5 s _ TB RX7 := X
  have hx := X.1
  have hb := X.2.1
  have hS : va_S (AA ow s.heap.size) s.heap s.heap [] := va_S.rf
  have hA : ∀ q, ow q → AA ow s.heap.size q := fun _ h => Or.inl h
  have hl : lv_has ls 5 [(0, .ref (L 799 0)), (1, .int (nI a9)), (2, .int v1), (3, .int (nI m9))] := hl
  refine r_cutH 19 [.int (if σ.2.1 708 0 = 0 then v1 else nI (σ.2.2.1 703 0 a9) + v1)] hG hS (fun H locs hG hS => ?_) (fun J_19 => ?_)
  · refine lv_istore (lv' := [(4, .int (if σ.2.1 708 0 = 0 then v1 else nI (σ.2.2.1 703 0 a9) + v1)), (0, .ref (L 799 0)), (1, .int (nI a9)), (2, .int v1), (3, .int (nI m9))]) hx hb dX7_aim_19 hl (by decide) rfl (fun ls hl => ?_)
    refine lv_iload hx hb dX7_aim_21 (lv_at hl 0 rfl) ?_
    refine lv_if_lt (tgt := 32) hx hb dX7_aim_23 (by decide) (fun c_23 => ?_) (fun c_23 => ?_)
    · refine lv_aload_n hx hb dX7_aim_32 rfl (lv_at hl 1 rfl) ?_
      refine lv_iconst (v := nI 1) hx hb dX7_aim_33 (by decide) ?_
      refine pt_X7_51 X hK hG hS hA (hd 799 (by decide)) dX7_aim_34 (fun H locs hG hS => ?_)
      refine lv_goto (tgt := 51) hx hb dX7_aim_37 (by decide) ?_
      exact rv_ret hx hb hr hlocks hG hS (by unfold k_aim; rw [if_pos c_23] <;> rfl) dX7_aim_51
    · refine lv_iload hx hb dX7_aim_26 (lv_at hl 0 rfl) ?_
      refine lv_iload_n hx hb dX7_aim_28 rfl (lv_at hl 4 rfl) ?_
      refine lv_icmp_le (tgt := 40) hx hb dX7_aim_29 (by decide) (fun c_29 => ?_) (fun c_29 => ?_)
      · refine lv_aload_n hx hb dX7_aim_40 rfl (lv_at hl 1 rfl) ?_
        refine lv_iload_n hx hb dX7_aim_41 rfl (lv_at hl 2 rfl) ?_
        refine pt_X7_31 X hK hG hS hA (hd 799 (by decide)) dX7_aim_42 (fun H locs hG hS => ?_)
        refine lv_aload_n hx hb dX7_aim_45 rfl (lv_at hl 1 rfl) ?_
        refine lv_iload hx hb dX7_aim_46 (lv_at hl 0 rfl) ?_
        refine r_top (y := nI (tn (if σ.2.1 708 0 = 0 then v1 else nI (σ.2.2.1 703 0 a9) + v1))) (tn_ge c_23) ?_
        refine pt_X7_35 X hK hG hS hA (hd 799 (by decide)) dX7_aim_48 (fun H locs hG hS => ?_)
        exact rv_ret hx hb hr hlocks hG hS (by unfold k_aim; rw [if_neg c_23, if_pos c_29] <;> rfl) dX7_aim_51
      · refine lv_aload_n hx hb dX7_aim_32 rfl (lv_at hl 1 rfl) ?_
        refine lv_iconst (v := nI 1) hx hb dX7_aim_33 (by decide) ?_
        refine pt_X7_51 X hK hG hS hA (hd 799 (by decide)) dX7_aim_34 (fun H locs hG hS => ?_)
        refine lv_goto (tgt := 51) hx hb dX7_aim_37 (by decide) ?_
        exact rv_ret hx hb hr hlocks hG hS (by unfold k_aim; rw [if_neg c_23, if_neg c_29] <;> rfl) dX7_aim_51
  · refine lv_aload_n hx hb dX7_aim_0 rfl (lv_at hl 0 rfl) ?_
    refine gt_X7_45 X hK hG (hd 799 (by decide)) (x := σ.2.1 708 0) rfl dX7_aim_1 ?_
    refine lv_if_eq (tgt := 18) hx hb dX7_aim_4 (by decide) (fun c_4 => ?_) (fun c_4 => ?_)
    · refine lv_iload_n hx hb dX7_aim_18 rfl (lv_at hl 2 rfl) ?_
      exact r_top (by rw [if_pos c_4]) (J_19 _ _ hG hS)
    · refine lv_aload_n hx hb dX7_aim_7 rfl (lv_at hl 0 rfl) ?_
      refine gt_X7_25 X hK hG (hd 799 (by decide)) dX7_aim_8 ?_
      refine lv_iload_n hx hb dX7_aim_11 rfl (lv_at hl 1 rfl) ?_
      refine al_703 X hK hG (hd 703 (by decide)) (i := a9) (x := σ.2.2.1 703 0 a9) (ha) rfl dX7_aim_12 ?_
      refine lv_iload_n hx hb dX7_aim_13 rfl (lv_at hl 2 rfl) ?_
      refine lv_iadd hx hb dX7_aim_14 ?_
      refine lv_goto (tgt := 19) hx hb dX7_aim_15 (by decide) ?_
      exact r_top (by rw [if_neg c_4]) (J_19 _ _ hG hS)
