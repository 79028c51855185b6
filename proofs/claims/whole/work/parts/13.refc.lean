def msz (i : Nat) (σ : St) : Int32 := if σ.2.2.2 917 0 i = (-1) then nI 1000 * σ.2.2.2 915 0 i else nI 1000 * σ.2.2.2 915 0 i + σ.2.2.2 918 0 (4 * i + 0) + σ.2.2.2 918 0 (4 * i + 1) + σ.2.2.2 918 0 (4 * i + 2) + σ.2.2.2 918 0 (4 * i + 3)
set_option maxRecDepth 100000 in
set_option maxHeartbeats 4000000 in
theorem c_X9_sizeOf {D : va_G} {cI cZ cO : ClassId} (l : Launch) (L : Lay) (σ : St) (ow : Nat → Prop) (i9 : Nat) (hi : i9 < 864) : RM D cI cZ cO rdom l yX9_sizeOf cX9_sizeOf 4 ((some FieldType.int)) 0 0 [.ref (L 999 0), .int (nI i9)] L σ ow (msz i9 σ) σ := by
  refine rm_of rfl (Nat.le_of_ble_eq_true rfl) ?_
  intro p e s m below meth c ls X hK hG hr hlocks hl
  have X : CallFix p m c cX9_sizeOf 4 s _ TB RX9 := X
  have hx := X.1
  have hb := X.2.1
  have hS : va_S (AA ow s.heap.size) s.heap s.heap [] := va_S.rf
  have hA : ∀ q, ow q → AA ow s.heap.size q := fun _ h => Or.inl h
  have hl : lv_has ls 4 [(0, .ref (L 999 0)), (1, .int (nI i9))] := hl
  refine lv_sipush (v := nI 1000) hx hb dX9_sizeOf_0 (by decide) ?_
  refine lv_aload_n hx hb dX9_sizeOf_3 rfl (lv_at hl 0 rfl) ?_
  refine gt_X9_44 X hK hG rd_999 dX9_sizeOf_4 ?_
  refine lv_iload_n hx hb dX9_sizeOf_7 rfl (lv_at hl 1 rfl) ?_
  refine al_915 X hK hG rd_915 (i := i9) (x := σ.2.2.2 915 0 i9) (by omega) rfl dX9_sizeOf_8 ?_
  refine lv_imul hx hb dX9_sizeOf_9 ?_
  refine lv_istore_n (lv' := [(2, .int ((nI 1000) * (σ.2.2.2 915 0 i9))), (0, .ref (L 999 0)), (1, .int (nI i9))]) hx hb dX9_sizeOf_10 rfl hl (by decide) rfl (fun ls hl => ?_)
  refine lv_iconst (v := nI 0) hx hb dX9_sizeOf_11 (by decide) ?_
  refine lv_istore_n (lv' := [(3, .int (nI 0)), (2, .int ((nI 1000) * (σ.2.2.2 915 0 i9))), (0, .ref (L 999 0)), (1, .int (nI i9))]) hx hb dX9_sizeOf_12 rfl hl (by decide) rfl (fun ls hl => ?_)
  refine lv_iload_n hx hb dX9_sizeOf_13 rfl (lv_at hl 0 rfl) ?_
  refine lv_iconst (v := nI 4) hx hb dX9_sizeOf_14 (by decide) ?_
  refine r_icmp_geN (tgt := 47) hx hb dX9_sizeOf_15 (by decide) (by omega) (by omega) (fun c_15 => absurd c_15 (by decide)) (fun c_15 => ?_)
  refine lv_aload_n hx hb dX9_sizeOf_18 rfl (lv_at hl 2 rfl) ?_
  refine gt_X9_50 X hK hG rd_999 dX9_sizeOf_19 ?_
  refine lv_iload_n hx hb dX9_sizeOf_22 rfl (lv_at hl 3 rfl) ?_
  refine al_917 X hK hG rd_917 (i := i9) (x := σ.2.2.2 917 0 i9) (by omega) rfl dX9_sizeOf_23 ?_
  refine lv_iconst (v := (-1)) hx hb dX9_sizeOf_24 (by decide) ?_
  refine lv_icmp_eq (tgt := 47) hx hb dX9_sizeOf_25 (by decide) (fun c_25 => ?_) (fun c_25 => ?_)
  · refine lv_iload_n hx hb dX9_sizeOf_47 rfl (lv_at hl 1 rfl) ?_
    exact rm_ret hx hb hr hlocks hG hS (by unfold msz; rw [if_pos c_25]) (rfl) rfl dX9_sizeOf_48
  · refine lv_iload_n hx hb dX9_sizeOf_28 rfl (lv_at hl 1 rfl) ?_
    refine lv_aload_n hx hb dX9_sizeOf_29 rfl (lv_at hl 2 rfl) ?_
    refine gt_X9_53 X hK hG rd_999 dX9_sizeOf_30 ?_
    refine lv_iconst (v := nI 4) hx hb dX9_sizeOf_33 (by decide) ?_
    refine lv_iload_n hx hb dX9_sizeOf_34 rfl (lv_at hl 3 rfl) ?_
    refine r_mulN hx hb dX9_sizeOf_35 ?_
    refine lv_iload_n hx hb dX9_sizeOf_36 rfl (lv_at hl 0 rfl) ?_
    refine r_addN hx hb dX9_sizeOf_37 ?_
    refine al_918 X hK hG rd_918 (i := 4 * i9 + 0) (x := σ.2.2.2 918 0 (4 * i9 + 0)) (by omega) rfl dX9_sizeOf_38 ?_
    refine lv_iadd hx hb dX9_sizeOf_39 ?_
    refine lv_istore_n (lv' := [(2, .int (((nI 1000) * (σ.2.2.2 915 0 i9)) + (σ.2.2.2 918 0 (4 * i9 + 0)))), (3, .int (nI 0)), (0, .ref (L 999 0)), (1, .int (nI i9))]) hx hb dX9_sizeOf_40 rfl hl (by decide) rfl (fun ls hl => ?_)
    refine r_iincN (b := 1) (lv' := [(3, .int (nI 1)), (2, .int (((nI 1000) * (σ.2.2.2 915 0 i9)) + (σ.2.2.2 918 0 (4 * i9 + 0)))), (0, .ref (L 999 0)), (1, .int (nI i9))]) hx hb dX9_sizeOf_41 hl (k := 1) rfl (by decide) (by decide) rfl (fun ls hl => ?_)
    refine lv_goto (tgt := 13) hx hb dX9_sizeOf_44 (by decide) ?_
    refine lv_iload_n hx hb dX9_sizeOf_13 rfl (lv_at hl 0 rfl) ?_
    refine lv_iconst (v := nI 4) hx hb dX9_sizeOf_14 (by decide) ?_
    refine r_icmp_geN (tgt := 47) hx hb dX9_sizeOf_15 (by decide) (by omega) (by omega) (fun c_15_2 => absurd c_15_2 (by decide)) (fun c_15_2 => ?_)
    refine lv_aload_n hx hb dX9_sizeOf_18 rfl (lv_at hl 2 rfl) ?_
    refine gt_X9_50 X hK hG rd_999 dX9_sizeOf_19 ?_
    refine lv_iload_n hx hb dX9_sizeOf_22 rfl (lv_at hl 3 rfl) ?_
    refine al_917 X hK hG rd_917 (i := i9) (x := σ.2.2.2 917 0 i9) (by omega) rfl dX9_sizeOf_23 ?_
    refine lv_iconst (v := (-1)) hx hb dX9_sizeOf_24 (by decide) ?_
    refine lv_icmp_eq (tgt := 47) hx hb dX9_sizeOf_25 (by decide) (fun c_25_2 => (by first | exact absurd c_25 c_25_2 | exact absurd c_25_2 c_25 | omega)) (fun c_25_2 => ?_)
    refine lv_iload_n hx hb dX9_sizeOf_28 rfl (lv_at hl 1 rfl) ?_
    refine lv_aload_n hx hb dX9_sizeOf_29 rfl (lv_at hl 2 rfl) ?_
    refine gt_X9_53 X hK hG rd_999 dX9_sizeOf_30 ?_
    refine lv_iconst (v := nI 4) hx hb dX9_sizeOf_33 (by decide) ?_
    refine lv_iload_n hx hb dX9_sizeOf_34 rfl (lv_at hl 3 rfl) ?_
    refine r_mulN hx hb dX9_sizeOf_35 ?_
    refine lv_iload_n hx hb dX9_sizeOf_36 rfl (lv_at hl 0 rfl) ?_
    refine r_addN hx hb dX9_sizeOf_37 ?_
    refine al_918 X hK hG rd_918 (i := 4 * i9 + 1) (x := σ.2.2.2 918 0 (4 * i9 + 1)) (by omega) rfl dX9_sizeOf_38 ?_
    refine lv_iadd hx hb dX9_sizeOf_39 ?_
    refine lv_istore_n (lv' := [(2, .int ((((nI 1000) * (σ.2.2.2 915 0 i9)) + (σ.2.2.2 918 0 (4 * i9 + 0))) + (σ.2.2.2 918 0 (4 * i9 + 1)))), (3, .int (nI 1)), (0, .ref (L 999 0)), (1, .int (nI i9))]) hx hb dX9_sizeOf_40 rfl hl (by decide) rfl (fun ls hl => ?_)
    refine r_iincN (b := 1) (lv' := [(3, .int (nI 2)), (2, .int ((((nI 1000) * (σ.2.2.2 915 0 i9)) + (σ.2.2.2 918 0 (4 * i9 + 0))) + (σ.2.2.2 918 0 (4 * i9 + 1)))), (0, .ref (L 999 0)), (1, .int (nI i9))]) hx hb dX9_sizeOf_41 hl (k := 1) rfl (by decide) (by decide) rfl (fun ls hl => ?_)
    refine lv_goto (tgt := 13) hx hb dX9_sizeOf_44 (by decide) ?_
    refine lv_iload_n hx hb dX9_sizeOf_13 rfl (lv_at hl 0 rfl) ?_
    refine lv_iconst (v := nI 4) hx hb dX9_sizeOf_14 (by decide) ?_
    refine r_icmp_geN (tgt := 47) hx hb dX9_sizeOf_15 (by decide) (by omega) (by omega) (fun c_15_3 => absurd c_15_3 (by decide)) (fun c_15_3 => ?_)
    refine lv_aload_n hx hb dX9_sizeOf_18 rfl (lv_at hl 2 rfl) ?_
    refine gt_X9_50 X hK hG rd_999 dX9_sizeOf_19 ?_
    refine lv_iload_n hx hb dX9_sizeOf_22 rfl (lv_at hl 3 rfl) ?_
    refine al_917 X hK hG rd_917 (i := i9) (x := σ.2.2.2 917 0 i9) (by omega) rfl dX9_sizeOf_23 ?_
    refine lv_iconst (v := (-1)) hx hb dX9_sizeOf_24 (by decide) ?_
    refine lv_icmp_eq (tgt := 47) hx hb dX9_sizeOf_25 (by decide) (fun c_25_3 => (by first | exact absurd c_25 c_25_3 | exact absurd c_25_3 c_25 | omega)) (fun c_25_3 => ?_)
    refine lv_iload_n hx hb dX9_sizeOf_28 rfl (lv_at hl 1 rfl) ?_
    refine lv_aload_n hx hb dX9_sizeOf_29 rfl (lv_at hl 2 rfl) ?_
    refine gt_X9_53 X hK hG rd_999 dX9_sizeOf_30 ?_
    refine lv_iconst (v := nI 4) hx hb dX9_sizeOf_33 (by decide) ?_
    refine lv_iload_n hx hb dX9_sizeOf_34 rfl (lv_at hl 3 rfl) ?_
    refine r_mulN hx hb dX9_sizeOf_35 ?_
    refine lv_iload_n hx hb dX9_sizeOf_36 rfl (lv_at hl 0 rfl) ?_
    refine r_addN hx hb dX9_sizeOf_37 ?_
    refine al_918 X hK hG rd_918 (i := 4 * i9 + 2) (x := σ.2.2.2 918 0 (4 * i9 + 2)) (by omega) rfl dX9_sizeOf_38 ?_
    refine lv_iadd hx hb dX9_sizeOf_39 ?_
    refine lv_istore_n (lv' := [(2, .int (((((nI 1000) * (σ.2.2.2 915 0 i9)) + (σ.2.2.2 918 0 (4 * i9 + 0))) + (σ.2.2.2 918 0 (4 * i9 + 1))) + (σ.2.2.2 918 0 (4 * i9 + 2)))), (3, .int (nI 2)), (0, .ref (L 999 0)), (1, .int (nI i9))]) hx hb dX9_sizeOf_40 rfl hl (by decide) rfl (fun ls hl => ?_)
    refine r_iincN (b := 1) (lv' := [(3, .int (nI 3)), (2, .int (((((nI 1000) * (σ.2.2.2 915 0 i9)) + (σ.2.2.2 918 0 (4 * i9 + 0))) + (σ.2.2.2 918 0 (4 * i9 + 1))) + (σ.2.2.2 918 0 (4 * i9 + 2)))), (0, .ref (L 999 0)), (1, .int (nI i9))]) hx hb dX9_sizeOf_41 hl (k := 1) rfl (by decide) (by decide) rfl (fun ls hl => ?_)
    refine lv_goto (tgt := 13) hx hb dX9_sizeOf_44 (by decide) ?_
    refine lv_iload_n hx hb dX9_sizeOf_13 rfl (lv_at hl 0 rfl) ?_
    refine lv_iconst (v := nI 4) hx hb dX9_sizeOf_14 (by decide) ?_
    refine r_icmp_geN (tgt := 47) hx hb dX9_sizeOf_15 (by decide) (by omega) (by omega) (fun c_15_4 => absurd c_15_4 (by decide)) (fun c_15_4 => ?_)
    refine lv_aload_n hx hb dX9_sizeOf_18 rfl (lv_at hl 2 rfl) ?_
    refine gt_X9_50 X hK hG rd_999 dX9_sizeOf_19 ?_
    refine lv_iload_n hx hb dX9_sizeOf_22 rfl (lv_at hl 3 rfl) ?_
    refine al_917 X hK hG rd_917 (i := i9) (x := σ.2.2.2 917 0 i9) (by omega) rfl dX9_sizeOf_23 ?_
    refine lv_iconst (v := (-1)) hx hb dX9_sizeOf_24 (by decide) ?_
    refine lv_icmp_eq (tgt := 47) hx hb dX9_sizeOf_25 (by decide) (fun c_25_4 => (by first | exact absurd c_25 c_25_4 | exact absurd c_25_4 c_25 | omega)) (fun c_25_4 => ?_)
    refine lv_iload_n hx hb dX9_sizeOf_28 rfl (lv_at hl 1 rfl) ?_
    refine lv_aload_n hx hb dX9_sizeOf_29 rfl (lv_at hl 2 rfl) ?_
    refine gt_X9_53 X hK hG rd_999 dX9_sizeOf_30 ?_
    refine lv_iconst (v := nI 4) hx hb dX9_sizeOf_33 (by decide) ?_
    refine lv_iload_n hx hb dX9_sizeOf_34 rfl (lv_at hl 3 rfl) ?_
    refine r_mulN hx hb dX9_sizeOf_35 ?_
    refine lv_iload_n hx hb dX9_sizeOf_36 rfl (lv_at hl 0 rfl) ?_
    refine r_addN hx hb dX9_sizeOf_37 ?_
    refine al_918 X hK hG rd_918 (i := 4 * i9 + 3) (x := σ.2.2.2 918 0 (4 * i9 + 3)) (by omega) rfl dX9_sizeOf_38 ?_
    refine lv_iadd hx hb dX9_sizeOf_39 ?_
    refine lv_istore_n (lv' := [(2, .int ((((((nI 1000) * (σ.2.2.2 915 0 i9)) + (σ.2.2.2 918 0 (4 * i9 + 0))) + (σ.2.2.2 918 0 (4 * i9 + 1))) + (σ.2.2.2 918 0 (4 * i9 + 2))) + (σ.2.2.2 918 0 (4 * i9 + 3)))), (3, .int (nI 3)), (0, .ref (L 999 0)), (1, .int (nI i9))]) hx hb dX9_sizeOf_40 rfl hl (by decide) rfl (fun ls hl => ?_)
    refine r_iincN (b := 1) (lv' := [(3, .int (nI 4)), (2, .int ((((((nI 1000) * (σ.2.2.2 915 0 i9)) + (σ.2.2.2 918 0 (4 * i9 + 0))) + (σ.2.2.2 918 0 (4 * i9 + 1))) + (σ.2.2.2 918 0 (4 * i9 + 2))) + (σ.2.2.2 918 0 (4 * i9 + 3)))), (0, .ref (L 999 0)), (1, .int (nI i9))]) hx hb dX9_sizeOf_41 hl (k := 1) rfl (by decide) (by decide) rfl (fun ls hl => ?_)
    refine lv_goto (tgt := 13) hx hb dX9_sizeOf_44 (by decide) ?_
    refine lv_iload_n hx hb dX9_sizeOf_13 rfl (lv_at hl 0 rfl) ?_
    refine lv_iconst (v := nI 4) hx hb dX9_sizeOf_14 (by decide) ?_
    refine r_icmp_geN (tgt := 47) hx hb dX9_sizeOf_15 (by decide) (by omega) (by omega) (fun c_15_5 => ?_) (fun c_15_5 => absurd c_15_5 (by decide))
    refine lv_iload_n hx hb dX9_sizeOf_47 rfl (lv_at hl 1 rfl) ?_
    exact rm_ret hx hb hr hlocks hG hS (by unfold msz; rw [if_neg c_25]) (rfl) rfl dX9_sizeOf_48
def cau (f : Nat → Int32) : Nat → Int32 × Int32
  | 0 => (-1, nI 0)
  | k + 1 => if isz (f k) ≤ (cau f k).2 then cau f k else (nI k, isz (f k))
def mcau (i : Nat) (σ : St) : Int32 := if σ.2.2.2 917 0 i = (-1) then (-1) else (cau (fun j => σ.2.2.2 918 0 (4 * i + j)) 4).1
set_option maxRecDepth 100000 in
set_option maxHeartbeats 4000000 in
theorem c_X9_causeOf {D : va_G} {cI cZ cO : ClassId} (l : Launch) (L : Lay) (σ : St) (ow : Nat → Prop) (i9 : Nat) (hi : i9 < 864) : RM D cI cZ cO rdom l yX9_causeOf cX9_causeOf 5 ((some FieldType.int)) 1 20 [.ref (L 999 0), .int (nI i9)] L σ ow (mcau i9 σ) σ := by
  refine rm_of rfl (Nat.le_of_ble_eq_true rfl) ?_
  intro p e s m below meth c ls X hK hG hr hlocks hl
  have X : CallFix p m c cX9_causeOf 5 s _ TB RX9 := X
  have hx := X.1
  have hb := X.2.1
  have hS : va_S (AA ow s.heap.size) s.heap s.heap [] := va_S.rf
  have hA : ∀ q, ow q → AA ow s.heap.size q := fun _ h => Or.inl h
  have hl : lv_has ls 5 [(0, .ref (L 999 0)), (1, .int (nI i9))] := hl
  refine lv_iconst (v := (-1)) hx hb dX9_causeOf_0 (by decide) ?_
  refine lv_istore_n (lv' := [(2, .int (-1)), (0, .ref (L 999 0)), (1, .int (nI i9))]) hx hb dX9_causeOf_1 rfl hl (by decide) rfl (fun ls hl => ?_)
  refine lv_iconst (v := nI 0) hx hb dX9_causeOf_2 (by decide) ?_
  refine lv_istore_n (lv' := [(3, .int (nI 0)), (2, .int (-1)), (0, .ref (L 999 0)), (1, .int (nI i9))]) hx hb dX9_causeOf_3 rfl hl (by decide) rfl (fun ls hl => ?_)
  refine lv_iconst (v := nI 0) hx hb dX9_causeOf_4 (by decide) ?_
  refine lv_istore (lv' := [(4, .int (nI 0)), (3, .int (nI 0)), (2, .int (-1)), (0, .ref (L 999 0)), (1, .int (nI i9))]) hx hb dX9_causeOf_5 hl (by decide) rfl (fun ls hl => ?_)
  refine r_loop (ι := Int32 × Int32 × Nat) (fun (⟨t9, u9, k⟩ : Int32 × Int32 × Nat) => [(0, .ref (L 999 0)), (1, .int (nI i9)), (2, .int t9), (3, .int u9), (4, .int (nI k))]) (fun (⟨t9, u9, k⟩ : Int32 × Int32 × Nat) => σ) (fun (⟨t9, u9, k⟩ : Int32 × Int32 × Nat) => 4 - k) (fun (⟨t9, u9, k⟩ : Int32 × Int32 × Nat) => (t9, u9) = cau (fun j => σ.2.2.2 918 0 (4 * i9 + j)) k ∧ k ≤ 4 ∧ (k = 0 ∨ ¬ σ.2.2.2 917 0 i9 = (-1))) (-1, nI 0, 0) (⟨rfl, Nat.zero_le _, Or.inl rfl⟩) hG hS (lv_sub hl [3, 4, 2, 1, 0] rfl) ?_
  rintro ⟨t9, u9, k⟩ hinv ih H locs ls hG hS hl
  have hG : PW D cI cZ cO rdom L σ ow H := hG
  have hl : lv_has ls 5 [(0, .ref (L 999 0)), (1, .int (nI i9)), (2, .int t9), (3, .int u9), (4, .int (nI k))] := hl
  obtain ⟨hq, hk, hn⟩ := hinv
  refine lv_iload hx hb dX9_causeOf_7 (lv_at hl 4 rfl) ?_
  refine lv_iconst (v := nI 4) hx hb dX9_causeOf_9 (by decide) ?_
  refine r_icmp_geN (tgt := 65) hx hb dX9_causeOf_10 (by decide) (by omega) (by omega) (fun c_10 => ?_) (fun c_10 => ?_)
  · refine lv_iload_n hx hb dX9_causeOf_65 rfl (lv_at hl 2 rfl) ?_
    exact rm_ret hx hb hr hlocks hG hS (by unfold mcau; rw [if_neg (hn.resolve_left (by omega))]; have h4 : k = 4 := (by omega); subst h4; exact congrArg Prod.fst hq) (rfl) rfl dX9_causeOf_66
  · refine lv_aload_n hx hb dX9_causeOf_13 rfl (lv_at hl 0 rfl) ?_
    refine gt_X9_50 X hK hG rd_999 dX9_causeOf_14 ?_
    refine lv_iload_n hx hb dX9_causeOf_17 rfl (lv_at hl 1 rfl) ?_
    refine al_917 X hK hG rd_917 (i := i9) (x := σ.2.2.2 917 0 i9) (by omega) rfl dX9_causeOf_18 ?_
    refine lv_iconst (v := (-1)) hx hb dX9_causeOf_19 (by decide) ?_
    refine lv_icmp_eq (tgt := 65) hx hb dX9_causeOf_20 (by decide) (fun c_20 => ?_) (fun c_20 => ?_)
    · refine lv_iload_n hx hb dX9_causeOf_65 rfl (lv_at hl 2 rfl) ?_
      exact rm_ret hx hb hr hlocks hG hS (by unfold mcau; rw [if_pos c_20]; have h0 := hn.resolve_right (fun z => z c_20); subst h0; exact (congrArg Prod.fst hq)) (rfl) rfl dX9_causeOf_66
    · refine lv_aload_n hx hb dX9_causeOf_23 rfl (lv_at hl 0 rfl) ?_
      refine gt_X9_53 X hK hG rd_999 dX9_causeOf_24 ?_
      refine lv_iconst (v := nI 4) hx hb dX9_causeOf_27 (by decide) ?_
      refine lv_iload_n hx hb dX9_causeOf_28 rfl (lv_at hl 1 rfl) ?_
      refine r_mulN hx hb dX9_causeOf_29 ?_
      refine lv_iload hx hb dX9_causeOf_30 (lv_at hl 4 rfl) ?_
      refine r_addN hx hb dX9_causeOf_32 ?_
      refine al_918 X hK hG rd_918 (i := 4 * i9 + k) (x := σ.2.2.2 918 0 (4 * i9 + k)) (by omega) rfl dX9_causeOf_33 ?_
      refine rm_callS X hK hG hS ysX9_size ml_X9_204 [.int (σ.2.2.2 918 0 (4 * i9 + k))] [] (c_X9_size l L σ ow (σ.2.2.2 918 0 (4 * i9 + k))) rfl hl.1 rfl (Nat.le_of_ble_eq_true rfl) ⟨Nat.le_of_ble_eq_true rfl, Nat.le_of_ble_eq_true rfl⟩ ⟨Nat.zero_le _, Nat.zero_le _⟩ dX9_causeOf_34 (fun H locs hG hS => ?_)
      refine lv_iload_n hx hb dX9_causeOf_37 rfl (lv_at hl 3 rfl) ?_
      refine lv_icmp_le (tgt := 59) hx hb dX9_causeOf_38 (by decide) (fun c_38 => ?_) (fun c_38 => ?_)
      · refine r_iincN (b := 1) (lv' := [(4, .int (nI (k + 1))), (0, .ref (L 999 0)), (1, .int (nI i9)), (2, .int t9), (3, .int u9)]) hx hb dX9_causeOf_59 hl (k := 4) rfl (by decide) (by decide) rfl (fun ls hl => ?_)
        refine lv_goto (tgt := 7) hx hb dX9_causeOf_62 (by decide) ?_
        exact ih (t9, u9, k + 1) (by show 4 - (k + 1) < 4 - k; omega) (⟨by unfold cau; rw [← hq]; first | rw [if_pos c_38] | rw [if_neg c_38], by omega, Or.inr c_20⟩) H locs ls hG hS (lv_sub hl [1, 2, 3, 4, 0] rfl)
      · refine lv_iload hx hb dX9_causeOf_41 (lv_at hl 4 rfl) ?_
        refine lv_istore_n (lv' := [(2, .int (nI k)), (0, .ref (L 999 0)), (1, .int (nI i9)), (3, .int u9), (4, .int (nI k))]) hx hb dX9_causeOf_43 rfl hl (by decide) rfl (fun ls hl => ?_)
        refine lv_aload_n hx hb dX9_causeOf_44 rfl (lv_at hl 1 rfl) ?_
        refine gt_X9_53 X hK hG rd_999 dX9_causeOf_45 ?_
        refine lv_iconst (v := nI 4) hx hb dX9_causeOf_48 (by decide) ?_
        refine lv_iload_n hx hb dX9_causeOf_49 rfl (lv_at hl 2 rfl) ?_
        refine r_mulN hx hb dX9_causeOf_50 ?_
        refine lv_iload hx hb dX9_causeOf_51 (lv_at hl 4 rfl) ?_
        refine r_addN hx hb dX9_causeOf_53 ?_
        refine al_918 X hK hG rd_918 (i := 4 * i9 + k) (x := σ.2.2.2 918 0 (4 * i9 + k)) (by omega) rfl dX9_causeOf_54 ?_
        refine rm_callS X hK hG hS ysX9_size ml_X9_204 [.int (σ.2.2.2 918 0 (4 * i9 + k))] [] (c_X9_size l L σ ow (σ.2.2.2 918 0 (4 * i9 + k))) rfl hl.1 rfl (Nat.le_of_ble_eq_true rfl) ⟨Nat.le_of_ble_eq_true rfl, Nat.le_of_ble_eq_true rfl⟩ ⟨Nat.zero_le _, Nat.zero_le _⟩ dX9_causeOf_55 (fun H locs hG hS => ?_)
        refine lv_istore_n (lv' := [(3, .int (isz (σ.2.2.2 918 0 (4 * i9 + k)))), (2, .int (nI k)), (0, .ref (L 999 0)), (1, .int (nI i9)), (4, .int (nI k))]) hx hb dX9_causeOf_58 rfl hl (by decide) rfl (fun ls hl => ?_)
        refine r_iincN (b := 1) (lv' := [(4, .int (nI (k + 1))), (3, .int (isz (σ.2.2.2 918 0 (4 * i9 + k)))), (2, .int (nI k)), (0, .ref (L 999 0)), (1, .int (nI i9))]) hx hb dX9_causeOf_59 hl (k := 4) rfl (by decide) (by decide) rfl (fun ls hl => ?_)
        refine lv_goto (tgt := 7) hx hb dX9_causeOf_62 (by decide) ?_
        exact ih (nI k, isz (σ.2.2.2 918 0 (4 * i9 + k)), k + 1) (by show 4 - (k + 1) < 4 - k; omega) (⟨by unfold cau; rw [← hq]; first | rw [if_pos c_38] | rw [if_neg c_38], by omega, Or.inr c_20⟩) H locs ls hG hS (lv_sub hl [3, 4, 2, 1, 0] rfl)
def m_tells (t9 : Nat) (v : Int32) (σ : St) : St := (wA (wB (wB (wB σ 912 0 (3 * t9 + 2) (σ.2.2.2 912 0 (3 * t9 + 1))) 912 0 (3 * t9 + 1) ((wB σ 912 0 (3 * t9 + 2) (σ.2.2.2 912 0 (3 * t9 + 1))).2.2.2 912 0 (3 * t9))) 912 0 (3 * t9) v) 913 0 t9 ((σ.2.2.1 913 0 t9) + 1))
set_option maxRecDepth 100000 in
set_option maxHeartbeats 4000000 in
theorem c_X9_tells {D : va_G} {cI cZ cO : ClassId} (l : Launch) (L : Lay) (σ : St) (ow : Nat → Prop) (t9 : Nat) (v : Int32) (ht : t9 < 16) : RV D cI cZ cO rdom l yX9_tells cX9_tells 3 0 0 [.ref (L 999 0), .int (nI t9), .int v] L σ ow (m_tells t9 v σ) := by
  refine rv_of rfl (Nat.le_of_ble_eq_true rfl) ?_
  intro p e s m below meth c ls X hK hG hr hlocks hl
  have X : CallFix p m c cX9_tells 3 s _ TB RX9 := X
  have hx := X.1
  have hb := X.2.1
  have hS : va_S (AA ow s.heap.size) s.heap s.heap [] := va_S.rf
  have hA : ∀ q, ow q → AA ow s.heap.size q := fun _ h => Or.inl h
  have hl : lv_has ls 3 [(0, .ref (L 999 0)), (1, .int (nI t9)), (2, .int v)] := hl
  refine lv_aload_n hx hb dX9_tells_0 rfl (lv_at hl 0 rfl) ?_
  refine gt_X9_38 X hK hG rd_999 dX9_tells_1 ?_
  refine lv_iconst (v := nI 3) hx hb dX9_tells_4 (by decide) ?_
  refine lv_iload_n hx hb dX9_tells_5 rfl (lv_at hl 1 rfl) ?_
  refine r_mulN hx hb dX9_tells_6 ?_
  refine lv_iconst (v := nI 2) hx hb dX9_tells_7 (by decide) ?_
  refine r_addN hx hb dX9_tells_8 ?_
  refine lv_aload_n hx hb dX9_tells_9 rfl (lv_at hl 0 rfl) ?_
  refine gt_X9_38 X hK hG rd_999 dX9_tells_10 ?_
  refine lv_iconst (v := nI 3) hx hb dX9_tells_13 (by decide) ?_
  refine lv_iload_n hx hb dX9_tells_14 rfl (lv_at hl 1 rfl) ?_
  refine r_mulN hx hb dX9_tells_15 ?_
  refine lv_iconst (v := nI 1) hx hb dX9_tells_16 (by decide) ?_
  refine r_addN hx hb dX9_tells_17 ?_
  refine al_912 X hK hG rd_912 (i := 3 * t9 + 1) (x := σ.2.2.2 912 0 (3 * t9 + 1)) (by omega) rfl dX9_tells_18 ?_
  refine as_912 X hK hG hS hA rd_912 (i := 3 * t9 + 2) (by omega) dX9_tells_19 (fun H locs hG hS => ?_)
  refine lv_aload_n hx hb dX9_tells_20 rfl (lv_at hl 0 rfl) ?_
  refine gt_X9_38 X hK hG rd_999 dX9_tells_21 ?_
  refine lv_iconst (v := nI 3) hx hb dX9_tells_24 (by decide) ?_
  refine lv_iload_n hx hb dX9_tells_25 rfl (lv_at hl 1 rfl) ?_
  refine r_mulN hx hb dX9_tells_26 ?_
  refine lv_iconst (v := nI 1) hx hb dX9_tells_27 (by decide) ?_
  refine r_addN hx hb dX9_tells_28 ?_
  refine lv_aload_n hx hb dX9_tells_29 rfl (lv_at hl 0 rfl) ?_
  refine gt_X9_38 X hK hG rd_999 dX9_tells_30 ?_
  refine lv_iconst (v := nI 3) hx hb dX9_tells_33 (by decide) ?_
  refine lv_iload_n hx hb dX9_tells_34 rfl (lv_at hl 1 rfl) ?_
  refine r_mulN hx hb dX9_tells_35 ?_
  refine al_912 X hK hG rd_912 (i := 3 * t9) (x := (wB σ 912 0 (3 * t9 + 2) (σ.2.2.2 912 0 (3 * t9 + 1))).2.2.2 912 0 (3 * t9)) (by omega) rfl dX9_tells_36 ?_
  refine as_912 X hK hG hS hA rd_912 (i := 3 * t9 + 1) (by omega) dX9_tells_37 (fun H locs hG hS => ?_)
  refine lv_aload_n hx hb dX9_tells_38 rfl (lv_at hl 0 rfl) ?_
  refine gt_X9_38 X hK hG rd_999 dX9_tells_39 ?_
  refine lv_iconst (v := nI 3) hx hb dX9_tells_42 (by decide) ?_
  refine lv_iload_n hx hb dX9_tells_43 rfl (lv_at hl 1 rfl) ?_
  refine r_mulN hx hb dX9_tells_44 ?_
  refine lv_iload_n hx hb dX9_tells_45 rfl (lv_at hl 2 rfl) ?_
  refine as_912 X hK hG hS hA rd_912 (i := 3 * t9) (by omega) dX9_tells_46 (fun H locs hG hS => ?_)
  refine lv_aload_n hx hb dX9_tells_47 rfl (lv_at hl 0 rfl) ?_
  refine gt_X9_41 X hK hG rd_999 dX9_tells_48 ?_
  refine lv_iload_n hx hb dX9_tells_51 rfl (lv_at hl 1 rfl) ?_
  refine lv_dup2_11 hx hb dX9_tells_52 rfl rfl ?_
  refine al_913 X hK hG rd_913 (i := t9) (x := σ.2.2.1 913 0 t9) (by omega) rfl dX9_tells_53 ?_
  refine lv_iconst (v := nI 1) hx hb dX9_tells_54 (by decide) ?_
  refine r_addN hx hb dX9_tells_55 ?_
  refine as_913 X hK hG hS hA rd_913 (i := t9) (by omega) dX9_tells_56 (fun H locs hG hS => ?_)
  exact rv_ret hx hb hr hlocks hG hS (rfl) dX9_tells_57
theorem m_tells_1 (t9 : Nat) (v : Int32) (σ : St) : (m_tells t9 v σ).1 = σ.1 := rfl
theorem m_tells_2 (t9 : Nat) (v : Int32) (σ : St) : (m_tells t9 v σ).2.1 = σ.2.1 := rfl
/-- how one feature is judged: its aways, its tolerance, the doubt -/
def vd1 (w t d : Int32) : Int32 := if isz w ≤ t + d then (if t - d < isz w then nI 1 else nI 0) else nI 2
def vdl (f : Nat → Int32) : Nat → Int32
  | 0 => nI 0
  | k + 1 => if f k ≤ vdl f k then vdl f k else f k
def vdf (p : Nat) (σ : St) : Nat → Int32 := fun k => vd1 (σ.2.2.2 933 0 (18 * p + 5 + k)) (σ.2.2.2 933 0 (18 * p + 11 + k)) (σ.2.2.2 933 0 (18 * p + 4))
set_option maxRecDepth 100000 in
set_option maxHeartbeats 4000000 in
theorem c_X9_verdictOf {D : va_G} {cI cZ cO : ClassId} (l : Launch) (L : Lay) (σ : St) (ow : Nat → Prop) (p9 n9 : Nat) (hp : p9 < 30) (hn9 : n9 ≤ 6) (h17 : σ.2.2.2 933 0 (18 * p9 + 17) = nI n9) : RM D cI cZ cO rdom l yX9_verdictOf cX9_verdictOf 7 ((some FieldType.int)) 1 20 [.ref (L 999 0), .int (nI p9)] L σ ow (vdl (vdf p9 σ) n9) σ := by
  refine rm_of rfl (Nat.le_of_ble_eq_true rfl) ?_
  intro p e s m below meth c ls X hK hG hr hlocks hl
  have X : CallFix p m c cX9_verdictOf 7 s _ TB RX9 := X
  have hx := X.1
  have hb := X.2.1
  have hS : va_S (AA ow s.heap.size) s.heap s.heap [] := va_S.rf
  have hA : ∀ q, ow q → AA ow s.heap.size q := fun _ h => Or.inl h
  have hl : lv_has ls 7 [(0, .ref (L 999 0)), (1, .int (nI p9))] := hl
  refine lv_bipush (v := nI 18) hx hb dX9_verdictOf_0 (by decide) ?_
  refine lv_iload_n hx hb dX9_verdictOf_2 rfl (lv_at hl 1 rfl) ?_
  refine r_mulN hx hb dX9_verdictOf_3 ?_
  refine lv_istore_n (lv' := [(2, .int (nI (18 * p9))), (0, .ref (L 999 0)), (1, .int (nI p9))]) hx hb dX9_verdictOf_4 rfl hl (by decide) rfl (fun ls hl => ?_)
  refine lv_iconst (v := nI 0) hx hb dX9_verdictOf_5 (by decide) ?_
  refine lv_istore_n (lv' := [(3, .int (nI 0)), (2, .int (nI (18 * p9))), (0, .ref (L 999 0)), (1, .int (nI p9))]) hx hb dX9_verdictOf_6 rfl hl (by decide) rfl (fun ls hl => ?_)
  refine lv_iconst (v := nI 0) hx hb dX9_verdictOf_7 (by decide) ?_
  refine lv_istore (lv' := [(4, .int (nI 0)), (3, .int (nI 0)), (2, .int (nI (18 * p9))), (0, .ref (L 999 0)), (1, .int (nI p9))]) hx hb dX9_verdictOf_8 hl (by decide) rfl (fun ls hl => ?_)
  refine r_loop (ι := Int32 × Nat) (fun (⟨t9, k⟩ : Int32 × Nat) => [(0, .ref (L 999 0)), (1, .int (nI p9)), (2, .int (nI (18 * p9))), (3, .int t9), (4, .int (nI k))]) (fun (⟨t9, k⟩ : Int32 × Nat) => σ) (fun (⟨t9, k⟩ : Int32 × Nat) => n9 - k) (fun (⟨t9, k⟩ : Int32 × Nat) => t9 = vdl (vdf p9 σ) k ∧ k ≤ n9) (nI 0, 0) (⟨rfl, Nat.zero_le _⟩) hG hS (lv_sub hl [3, 4, 2, 1, 0] rfl) ?_
  rintro ⟨t9, k⟩ hinv ih H locs ls hG hS hl
  have hG : PW D cI cZ cO rdom L σ ow H := hG
  have hl : lv_has ls 7 [(0, .ref (L 999 0)), (1, .int (nI p9)), (2, .int (nI (18 * p9))), (3, .int t9), (4, .int (nI k))] := hl
  obtain ⟨hq, hk⟩ := hinv
  refine lv_iload hx hb dX9_verdictOf_10 (lv_at hl 4 rfl) ?_
  refine lv_aload_n hx hb dX9_verdictOf_12 rfl (lv_at hl 0 rfl) ?_
  refine gt_X9_89 X hK hG rd_999 dX9_verdictOf_13 ?_
  refine lv_iload_n hx hb dX9_verdictOf_16 rfl (lv_at hl 2 rfl) ?_
  refine lv_bipush (v := nI 17) hx hb dX9_verdictOf_17 (by decide) ?_
  refine r_addN hx hb dX9_verdictOf_19 ?_
  refine al_933 X hK hG rd_933 (i := 18 * p9 + 17) (x := σ.2.2.2 933 0 (18 * p9 + 17)) (by omega) rfl dX9_verdictOf_20 ?_
  refine r_top (y := nI n9) (h17) ?_
  refine r_icmp_geN (tgt := 122) hx hb dX9_verdictOf_21 (by decide) (by omega) (by omega) (fun c_21 => ?_) (fun c_21 => ?_)
  · refine lv_iload_n hx hb dX9_verdictOf_122 rfl (lv_at hl 3 rfl) ?_
    exact rm_ret hx hb hr hlocks hG hS (by rw [hq, show k = n9 by omega]) (rfl) rfl dX9_verdictOf_123
  · refine lv_aload_n hx hb dX9_verdictOf_24 rfl (lv_at hl 0 rfl) ?_
    refine gt_X9_89 X hK hG rd_999 dX9_verdictOf_25 ?_
    refine lv_iload_n hx hb dX9_verdictOf_28 rfl (lv_at hl 2 rfl) ?_
    refine lv_iconst (v := nI 5) hx hb dX9_verdictOf_29 (by decide) ?_
    refine r_addN hx hb dX9_verdictOf_30 ?_
    refine lv_iload hx hb dX9_verdictOf_31 (lv_at hl 4 rfl) ?_
    refine r_addN hx hb dX9_verdictOf_33 ?_
    refine al_933 X hK hG rd_933 (i := 18 * p9 + 5 + k) (x := σ.2.2.2 933 0 (18 * p9 + 5 + k)) (by omega) rfl dX9_verdictOf_34 ?_
    refine rm_callS X hK hG hS ysX9_size ml_X9_204 [.int (σ.2.2.2 933 0 (18 * p9 + 5 + k))] [] (c_X9_size l L σ ow (σ.2.2.2 933 0 (18 * p9 + 5 + k))) rfl hl.1 rfl (Nat.le_of_ble_eq_true rfl) ⟨Nat.le_of_ble_eq_true rfl, Nat.le_of_ble_eq_true rfl⟩ ⟨Nat.zero_le _, Nat.zero_le _⟩ dX9_verdictOf_35 (fun H locs hG hS => ?_)
    refine lv_istore (lv' := [(5, .int (isz (σ.2.2.2 933 0 (18 * p9 + 5 + k)))), (0, .ref (L 999 0)), (1, .int (nI p9)), (2, .int (nI (18 * p9))), (3, .int t9), (4, .int (nI k))]) hx hb dX9_verdictOf_38 hl (by decide) rfl (fun ls hl => ?_)
    refine r_cutH 101 [.int (if isz (σ.2.2.2 933 0 (18 * p9 + 5 + k)) ≤ σ.2.2.2 933 0 (18 * p9 + 11 + k) + σ.2.2.2 933 0 (18 * p9 + 4) then (if σ.2.2.2 933 0 (18 * p9 + 11 + k) - σ.2.2.2 933 0 (18 * p9 + 4) < isz (σ.2.2.2 933 0 (18 * p9 + 5 + k)) then nI 1 else nI 0) else nI 2)] hG hS (fun H locs hG hS => ?_) (fun J_101 => ?_)
    · refine lv_istore (lv' := [(6, .int (if isz (σ.2.2.2 933 0 (18 * p9 + 5 + k)) ≤ σ.2.2.2 933 0 (18 * p9 + 11 + k) + σ.2.2.2 933 0 (18 * p9 + 4) then (if σ.2.2.2 933 0 (18 * p9 + 11 + k) - σ.2.2.2 933 0 (18 * p9 + 4) < isz (σ.2.2.2 933 0 (18 * p9 + 5 + k)) then nI 1 else nI 0) else nI 2)), (5, .int (isz (σ.2.2.2 933 0 (18 * p9 + 5 + k)))), (0, .ref (L 999 0)), (1, .int (nI p9)), (2, .int (nI (18 * p9))), (3, .int t9), (4, .int (nI k))]) hx hb dX9_verdictOf_101 hl (by decide) rfl (fun ls hl => ?_)
      refine r_cutH 115 [.int (if (if isz (σ.2.2.2 933 0 (18 * p9 + 5 + k)) ≤ σ.2.2.2 933 0 (18 * p9 + 11 + k) + σ.2.2.2 933 0 (18 * p9 + 4) then (if σ.2.2.2 933 0 (18 * p9 + 11 + k) - σ.2.2.2 933 0 (18 * p9 + 4) < isz (σ.2.2.2 933 0 (18 * p9 + 5 + k)) then nI 1 else nI 0) else nI 2) ≤ t9 then t9 else (if isz (σ.2.2.2 933 0 (18 * p9 + 5 + k)) ≤ σ.2.2.2 933 0 (18 * p9 + 11 + k) + σ.2.2.2 933 0 (18 * p9 + 4) then (if σ.2.2.2 933 0 (18 * p9 + 11 + k) - σ.2.2.2 933 0 (18 * p9 + 4) < isz (σ.2.2.2 933 0 (18 * p9 + 5 + k)) then nI 1 else nI 0) else nI 2))] hG hS (fun H locs hG hS => ?_) (fun J_115 => ?_)
      · refine lv_istore_n (lv' := [(3, .int (if (if isz (σ.2.2.2 933 0 (18 * p9 + 5 + k)) ≤ σ.2.2.2 933 0 (18 * p9 + 11 + k) + σ.2.2.2 933 0 (18 * p9 + 4) then (if σ.2.2.2 933 0 (18 * p9 + 11 + k) - σ.2.2.2 933 0 (18 * p9 + 4) < isz (σ.2.2.2 933 0 (18 * p9 + 5 + k)) then nI 1 else nI 0) else nI 2) ≤ t9 then t9 else (if isz (σ.2.2.2 933 0 (18 * p9 + 5 + k)) ≤ σ.2.2.2 933 0 (18 * p9 + 11 + k) + σ.2.2.2 933 0 (18 * p9 + 4) then (if σ.2.2.2 933 0 (18 * p9 + 11 + k) - σ.2.2.2 933 0 (18 * p9 + 4) < isz (σ.2.2.2 933 0 (18 * p9 + 5 + k)) then nI 1 else nI 0) else nI 2))), (6, .int (if isz (σ.2.2.2 933 0 (18 * p9 + 5 + k)) ≤ σ.2.2.2 933 0 (18 * p9 + 11 + k) + σ.2.2.2 933 0 (18 * p9 + 4) then (if σ.2.2.2 933 0 (18 * p9 + 11 + k) - σ.2.2.2 933 0 (18 * p9 + 4) < isz (σ.2.2.2 933 0 (18 * p9 + 5 + k)) then nI 1 else nI 0) else nI 2)), (5, .int (isz (σ.2.2.2 933 0 (18 * p9 + 5 + k)))), (0, .ref (L 999 0)), (1, .int (nI p9)), (2, .int (nI (18 * p9))), (4, .int (nI k))]) hx hb dX9_verdictOf_115 rfl hl (by decide) rfl (fun ls hl => ?_)
        refine r_iincN (b := 1) (lv' := [(4, .int (nI (k + 1))), (3, .int (if (if isz (σ.2.2.2 933 0 (18 * p9 + 5 + k)) ≤ σ.2.2.2 933 0 (18 * p9 + 11 + k) + σ.2.2.2 933 0 (18 * p9 + 4) then (if σ.2.2.2 933 0 (18 * p9 + 11 + k) - σ.2.2.2 933 0 (18 * p9 + 4) < isz (σ.2.2.2 933 0 (18 * p9 + 5 + k)) then nI 1 else nI 0) else nI 2) ≤ t9 then t9 else (if isz (σ.2.2.2 933 0 (18 * p9 + 5 + k)) ≤ σ.2.2.2 933 0 (18 * p9 + 11 + k) + σ.2.2.2 933 0 (18 * p9 + 4) then (if σ.2.2.2 933 0 (18 * p9 + 11 + k) - σ.2.2.2 933 0 (18 * p9 + 4) < isz (σ.2.2.2 933 0 (18 * p9 + 5 + k)) then nI 1 else nI 0) else nI 2))), (6, .int (if isz (σ.2.2.2 933 0 (18 * p9 + 5 + k)) ≤ σ.2.2.2 933 0 (18 * p9 + 11 + k) + σ.2.2.2 933 0 (18 * p9 + 4) then (if σ.2.2.2 933 0 (18 * p9 + 11 + k) - σ.2.2.2 933 0 (18 * p9 + 4) < isz (σ.2.2.2 933 0 (18 * p9 + 5 + k)) then nI 1 else nI 0) else nI 2)), (5, .int (isz (σ.2.2.2 933 0 (18 * p9 + 5 + k)))), (0, .ref (L 999 0)), (1, .int (nI p9)), (2, .int (nI (18 * p9)))]) hx hb dX9_verdictOf_116 hl (k := 6) rfl (by decide) (by decide) rfl (fun ls hl => ?_)
        refine lv_goto (tgt := 10) hx hb dX9_verdictOf_119 (by decide) ?_
        exact ih ((if (if isz (σ.2.2.2 933 0 (18 * p9 + 5 + k)) ≤ σ.2.2.2 933 0 (18 * p9 + 11 + k) + σ.2.2.2 933 0 (18 * p9 + 4) then (if σ.2.2.2 933 0 (18 * p9 + 11 + k) - σ.2.2.2 933 0 (18 * p9 + 4) < isz (σ.2.2.2 933 0 (18 * p9 + 5 + k)) then nI 1 else nI 0) else nI 2) ≤ t9 then t9 else (if isz (σ.2.2.2 933 0 (18 * p9 + 5 + k)) ≤ σ.2.2.2 933 0 (18 * p9 + 11 + k) + σ.2.2.2 933 0 (18 * p9 + 4) then (if σ.2.2.2 933 0 (18 * p9 + 11 + k) - σ.2.2.2 933 0 (18 * p9 + 4) < isz (σ.2.2.2 933 0 (18 * p9 + 5 + k)) then nI 1 else nI 0) else nI 2)), k + 1) (by show n9 - (k + 1) < n9 - k; omega) (⟨by unfold vdl; rw [← hq]; rfl, by omega⟩) H locs ls hG hS (lv_sub hl [4, 5, 6, 1, 0] rfl)
      · refine lv_iload hx hb dX9_verdictOf_103 (lv_at hl 0 rfl) ?_
        refine lv_iload_n hx hb dX9_verdictOf_105 rfl (lv_at hl 5 rfl) ?_
        refine lv_icmp_le (tgt := 114) hx hb dX9_verdictOf_106 (by decide) (fun c_106 => ?_) (fun c_106 => ?_)
        · refine lv_iload_n hx hb dX9_verdictOf_114 rfl (lv_at hl 5 rfl) ?_
          exact r_top (by rw [if_pos c_106]) (J_115 _ _ hG hS)
        · refine lv_iload hx hb dX9_verdictOf_109 (lv_at hl 0 rfl) ?_
          refine lv_goto (tgt := 115) hx hb dX9_verdictOf_111 (by decide) ?_
          exact r_top (by rw [if_neg c_106]) (J_115 _ _ hG hS)
    · refine lv_iload hx hb dX9_verdictOf_40 (lv_at hl 0 rfl) ?_
      refine lv_aload_n hx hb dX9_verdictOf_42 rfl (lv_at hl 1 rfl) ?_
      refine gt_X9_89 X hK hG rd_999 dX9_verdictOf_43 ?_
      refine lv_iload_n hx hb dX9_verdictOf_46 rfl (lv_at hl 3 rfl) ?_
      refine lv_bipush (v := nI 11) hx hb dX9_verdictOf_47 (by decide) ?_
      refine r_addN hx hb dX9_verdictOf_49 ?_
      refine lv_iload hx hb dX9_verdictOf_50 (lv_at hl 5 rfl) ?_
      refine r_addN hx hb dX9_verdictOf_52 ?_
      refine al_933 X hK hG rd_933 (i := 18 * p9 + 11 + k) (x := σ.2.2.2 933 0 (18 * p9 + 11 + k)) (by omega) rfl dX9_verdictOf_53 ?_
      refine lv_aload_n hx hb dX9_verdictOf_54 rfl (lv_at hl 1 rfl) ?_
      refine gt_X9_89 X hK hG rd_999 dX9_verdictOf_55 ?_
      refine lv_iload_n hx hb dX9_verdictOf_58 rfl (lv_at hl 3 rfl) ?_
      refine lv_iconst (v := nI 4) hx hb dX9_verdictOf_59 (by decide) ?_
      refine r_addN hx hb dX9_verdictOf_60 ?_
      refine al_933 X hK hG rd_933 (i := 18 * p9 + 4) (x := σ.2.2.2 933 0 (18 * p9 + 4)) (by omega) rfl dX9_verdictOf_61 ?_
      refine lv_iadd hx hb dX9_verdictOf_62 ?_
      refine lv_icmp_le (tgt := 70) hx hb dX9_verdictOf_63 (by decide) (fun c_63 => ?_) (fun c_63 => ?_)
      · refine lv_iload hx hb dX9_verdictOf_70 (lv_at hl 0 rfl) ?_
        refine lv_aload_n hx hb dX9_verdictOf_72 rfl (lv_at hl 1 rfl) ?_
        refine gt_X9_89 X hK hG rd_999 dX9_verdictOf_73 ?_
        refine lv_iload_n hx hb dX9_verdictOf_76 rfl (lv_at hl 3 rfl) ?_
        refine lv_bipush (v := nI 11) hx hb dX9_verdictOf_77 (by decide) ?_
        refine r_addN hx hb dX9_verdictOf_79 ?_
        refine lv_iload hx hb dX9_verdictOf_80 (lv_at hl 5 rfl) ?_
        refine r_addN hx hb dX9_verdictOf_82 ?_
        refine al_933 X hK hG rd_933 (i := 18 * p9 + 11 + k) (x := σ.2.2.2 933 0 (18 * p9 + 11 + k)) (by omega) rfl dX9_verdictOf_83 ?_
        refine lv_aload_n hx hb dX9_verdictOf_84 rfl (lv_at hl 1 rfl) ?_
        refine gt_X9_89 X hK hG rd_999 dX9_verdictOf_85 ?_
        refine lv_iload_n hx hb dX9_verdictOf_88 rfl (lv_at hl 3 rfl) ?_
        refine lv_iconst (v := nI 4) hx hb dX9_verdictOf_89 (by decide) ?_
        refine r_addN hx hb dX9_verdictOf_90 ?_
        refine al_933 X hK hG rd_933 (i := 18 * p9 + 4) (x := σ.2.2.2 933 0 (18 * p9 + 4)) (by omega) rfl dX9_verdictOf_91 ?_
        refine lv_isub hx hb dX9_verdictOf_92 ?_
        refine lv_icmp_gt (tgt := 100) hx hb dX9_verdictOf_93 (by decide) (fun c_93 => ?_) (fun c_93 => ?_)
        · refine lv_iconst (v := nI 1) hx hb dX9_verdictOf_100 (by decide) ?_
          exact r_top (by rw [if_pos c_63, if_pos c_93]) (J_101 _ _ hG hS)
        · refine lv_iconst (v := nI 0) hx hb dX9_verdictOf_96 (by decide) ?_
          refine lv_goto (tgt := 101) hx hb dX9_verdictOf_97 (by decide) ?_
          exact r_top (by rw [if_pos c_63, if_neg c_93]) (J_101 _ _ hG hS)
      · refine lv_iconst (v := nI 2) hx hb dX9_verdictOf_66 (by decide) ?_
        refine lv_goto (tgt := 101) hx hb dX9_verdictOf_67 (by decide) ?_
        exact r_top (by rw [if_neg c_63]) (J_101 _ _ hG hS)
def m_correct (t9 : Int32) (σ : St) : Int32 × St := if (ix t9 (σ.1 914 0)) ∧ (True) ∧ (True) then (if (σ.2.2.1 913 0 (tn t9)) < 3 then (nI 0, (m_g (ix t9 (σ.1 914 0)) (True) (True) σ)) else (if ¬ σ.2.2.2 912 0 (3 * tn t9) ≤ 0 ∧ ¬ σ.2.2.2 912 0 (3 * tn t9 + 1) ≤ 0 ∧ ¬ σ.2.2.2 912 0 (3 * tn t9 + 2) ≤ 0 then (((if ((σ.2.2.2 910 0 (tn t9)) + (((((σ.2.2.2 912 0 (3 * (tn t9))) + (σ.2.2.2 912 0 ((3 * (tn t9)) + 1))) + (σ.2.2.2 912 0 ((3 * (tn t9)) + 2))) / (nI 3)) / (nI 2))) ≤ nI 200 then (if (-200) ≤ ((σ.2.2.2 910 0 (tn t9)) + (((((σ.2.2.2 912 0 (3 * (tn t9))) + (σ.2.2.2 912 0 ((3 * (tn t9)) + 1))) + (σ.2.2.2 912 0 ((3 * (tn t9)) + 2))) / (nI 3)) / (nI 2))) then ((σ.2.2.2 910 0 (tn t9)) + (((((σ.2.2.2 912 0 (3 * (tn t9))) + (σ.2.2.2 912 0 ((3 * (tn t9)) + 1))) + (σ.2.2.2 912 0 ((3 * (tn t9)) + 2))) / (nI 3)) / (nI 2))) else (-200)) else nI 200) - (σ.2.2.2 910 0 (tn t9))), (wA (wB (m_g (ix t9 (σ.1 914 0)) (True) (True) σ) 910 0 (tn t9) (if ((σ.2.2.2 910 0 (tn t9)) + (((((σ.2.2.2 912 0 (3 * (tn t9))) + (σ.2.2.2 912 0 ((3 * (tn t9)) + 1))) + (σ.2.2.2 912 0 ((3 * (tn t9)) + 2))) / (nI 3)) / (nI 2))) ≤ nI 200 then (if (-200) ≤ ((σ.2.2.2 910 0 (tn t9)) + (((((σ.2.2.2 912 0 (3 * (tn t9))) + (σ.2.2.2 912 0 ((3 * (tn t9)) + 1))) + (σ.2.2.2 912 0 ((3 * (tn t9)) + 2))) / (nI 3)) / (nI 2))) then ((σ.2.2.2 910 0 (tn t9)) + (((((σ.2.2.2 912 0 (3 * (tn t9))) + (σ.2.2.2 912 0 ((3 * (tn t9)) + 1))) + (σ.2.2.2 912 0 ((3 * (tn t9)) + 2))) / (nI 3)) / (nI 2))) else (-200)) else nI 200)) 913 0 (tn t9) 0)) else (if ¬ 0 ≤ σ.2.2.2 912 0 (3 * tn t9) ∧ ¬ 0 ≤ σ.2.2.2 912 0 (3 * tn t9 + 1) ∧ ¬ 0 ≤ σ.2.2.2 912 0 (3 * tn t9 + 2) then (((if ((σ.2.2.2 910 0 (tn t9)) + (((((σ.2.2.2 912 0 (3 * (tn t9))) + (σ.2.2.2 912 0 ((3 * (tn t9)) + 1))) + (σ.2.2.2 912 0 ((3 * (tn t9)) + 2))) / (nI 3)) / (nI 2))) ≤ nI 200 then (if (-200) ≤ ((σ.2.2.2 910 0 (tn t9)) + (((((σ.2.2.2 912 0 (3 * (tn t9))) + (σ.2.2.2 912 0 ((3 * (tn t9)) + 1))) + (σ.2.2.2 912 0 ((3 * (tn t9)) + 2))) / (nI 3)) / (nI 2))) then ((σ.2.2.2 910 0 (tn t9)) + (((((σ.2.2.2 912 0 (3 * (tn t9))) + (σ.2.2.2 912 0 ((3 * (tn t9)) + 1))) + (σ.2.2.2 912 0 ((3 * (tn t9)) + 2))) / (nI 3)) / (nI 2))) else (-200)) else nI 200) - (σ.2.2.2 910 0 (tn t9))), (wA (wB (m_g (ix t9 (σ.1 914 0)) (True) (True) σ) 910 0 (tn t9) (if ((σ.2.2.2 910 0 (tn t9)) + (((((σ.2.2.2 912 0 (3 * (tn t9))) + (σ.2.2.2 912 0 ((3 * (tn t9)) + 1))) + (σ.2.2.2 912 0 ((3 * (tn t9)) + 2))) / (nI 3)) / (nI 2))) ≤ nI 200 then (if (-200) ≤ ((σ.2.2.2 910 0 (tn t9)) + (((((σ.2.2.2 912 0 (3 * (tn t9))) + (σ.2.2.2 912 0 ((3 * (tn t9)) + 1))) + (σ.2.2.2 912 0 ((3 * (tn t9)) + 2))) / (nI 3)) / (nI 2))) then ((σ.2.2.2 910 0 (tn t9)) + (((((σ.2.2.2 912 0 (3 * (tn t9))) + (σ.2.2.2 912 0 ((3 * (tn t9)) + 1))) + (σ.2.2.2 912 0 ((3 * (tn t9)) + 2))) / (nI 3)) / (nI 2))) else (-200)) else nI 200)) 913 0 (tn t9) 0)) else (nI 0, (m_g (ix t9 (σ.1 914 0)) (True) (True) σ))))) else (nI 0, (m_g (ix t9 (σ.1 914 0)) (True) (True) σ))
set_option maxRecDepth 100000 in
set_option maxHeartbeats 4000000 in
theorem c_X9_correct {D : va_G} {cI cZ cO : ClassId} (l : Launch) (L : Lay) (σ : St) (ow : Nat → Prop) (t9 : Int32) (hT : σ.1 914 0 ≤ 16) (hm : ∀ k, σ.2.2.1 913 0 k < 1000000) : RM D cI cZ cO rdom l yX9_correct cX9_correct 9 ((some FieldType.int)) 2 43 [.ref (L 999 0), .int t9] L σ ow ((m_correct t9 σ).1) ((m_correct t9 σ).2) := by
  refine rm_of rfl (Nat.le_of_ble_eq_true rfl) ?_
  intro p e s m below meth c ls X hK hG hr hlocks hl
  have X : CallFix p m c cX9_correct 9 s _ TB RX9 := X
  have hx := X.1
  have hb := X.2.1
  have hS : va_S (AA ow s.heap.size) s.heap s.heap [] := va_S.rf
  have hA : ∀ q, ow q → AA ow s.heap.size q := fun _ h => Or.inl h
  have hl : lv_has ls 9 [(0, .ref (L 999 0)), (1, .int t9)] := hl
  refine lv_aload_n hx hb dX9_correct_0 rfl (lv_at hl 0 rfl) ?_
  refine lv_aload_n hx hb dX9_correct_1 rfl (lv_at hl 0 rfl) ?_
  refine lv_iload_n hx hb dX9_correct_2 rfl (lv_at hl 1 rfl) ?_
  refine rm_callV X hK hG hS yvX9_isTool ml_X9_141 kX9 rfl rd_999 [.int t9] [.ref (L 999 0)] (c_X9_isTool l L σ ow t9 (by omega)) rfl hl.1 rfl (Nat.le_of_ble_eq_true rfl) ⟨Nat.le_of_ble_eq_true rfl, Nat.le_of_ble_eq_true rfl⟩ ⟨Nat.zero_le _, Nat.zero_le _⟩ dX9_correct_3 (fun H locs hG hS => ?_)
  refine lv_iconst (v := nI 1) hx hb dX9_correct_6 (by decide) ?_
  refine lv_iconst (v := nI 1) hx hb dX9_correct_7 (by decide) ?_
  refine rm_callV X hK hG hS yvX9_goes ml_X9_127 kX9 rfl rd_999 [.int (b2i (ix t9 (σ.1 914 0))), .int (nI 1), .int (nI 1)] [] (c_X9_goes l L σ ow (ix t9 (σ.1 914 0)) (True) (True)) rfl hl.1 rfl (Nat.le_of_ble_eq_true rfl) ⟨Nat.le_of_ble_eq_true rfl, Nat.le_of_ble_eq_true rfl⟩ ⟨Nat.zero_le _, Nat.zero_le _⟩ dX9_correct_8 (fun H locs hG hS => ?_)
  refine r_if_neB (tgt := 16) hx hb dX9_correct_11 (by decide) (fun c_11 => ?_) (fun c_11 => ?_)
  · refine lv_aload_n hx hb dX9_correct_16 rfl (lv_at hl 0 rfl) ?_
    refine gt_X9_38 X hK hG rd_999 dX9_correct_17 ?_
    refine lv_iconst (v := nI 3) hx hb dX9_correct_20 (by decide) ?_
    refine lv_iload_n hx hb dX9_correct_21 rfl (lv_at hl 1 rfl) ?_
    refine r_top (y := nI (tn t9)) (ix_eq c_11.1) ?_
    refine r_mulN hx hb dX9_correct_22 ?_
    refine al_912 X hK hG rd_912 (i := 3 * (tn t9)) (x := σ.2.2.2 912 0 (3 * (tn t9))) (by have := ix_lt c_11.1; omega) rfl dX9_correct_23 ?_
    refine lv_istore_n (lv' := [(2, .int (σ.2.2.2 912 0 (3 * (tn t9)))), (0, .ref (L 999 0)), (1, .int t9)]) hx hb dX9_correct_24 rfl hl (by decide) rfl (fun ls hl => ?_)
    refine lv_aload_n hx hb dX9_correct_25 rfl (lv_at hl 1 rfl) ?_
    refine gt_X9_38 X hK hG rd_999 dX9_correct_26 ?_
    refine lv_iconst (v := nI 3) hx hb dX9_correct_29 (by decide) ?_
    refine lv_iload_n hx hb dX9_correct_30 rfl (lv_at hl 2 rfl) ?_
    refine r_top (y := nI (tn t9)) (ix_eq c_11.1) ?_
    refine r_mulN hx hb dX9_correct_31 ?_
    refine lv_iconst (v := nI 1) hx hb dX9_correct_32 (by decide) ?_
    refine r_addN hx hb dX9_correct_33 ?_
    refine al_912 X hK hG rd_912 (i := (3 * (tn t9)) + 1) (x := σ.2.2.2 912 0 ((3 * (tn t9)) + 1)) (by have := ix_lt c_11.1; omega) rfl dX9_correct_34 ?_
    refine lv_istore_n (lv' := [(3, .int (σ.2.2.2 912 0 ((3 * (tn t9)) + 1))), (2, .int (σ.2.2.2 912 0 (3 * (tn t9)))), (0, .ref (L 999 0)), (1, .int t9)]) hx hb dX9_correct_35 rfl hl (by decide) rfl (fun ls hl => ?_)
    refine lv_aload_n hx hb dX9_correct_36 rfl (lv_at hl 2 rfl) ?_
    refine gt_X9_38 X hK hG rd_999 dX9_correct_37 ?_
    refine lv_iconst (v := nI 3) hx hb dX9_correct_40 (by decide) ?_
    refine lv_iload_n hx hb dX9_correct_41 rfl (lv_at hl 3 rfl) ?_
    refine r_top (y := nI (tn t9)) (ix_eq c_11.1) ?_
    refine r_mulN hx hb dX9_correct_42 ?_
    refine lv_iconst (v := nI 2) hx hb dX9_correct_43 (by decide) ?_
    refine r_addN hx hb dX9_correct_44 ?_
    refine al_912 X hK hG rd_912 (i := (3 * (tn t9)) + 2) (x := σ.2.2.2 912 0 ((3 * (tn t9)) + 2)) (by have := ix_lt c_11.1; omega) rfl dX9_correct_45 ?_
    refine lv_istore (lv' := [(4, .int (σ.2.2.2 912 0 ((3 * (tn t9)) + 2))), (3, .int (σ.2.2.2 912 0 ((3 * (tn t9)) + 1))), (2, .int (σ.2.2.2 912 0 (3 * (tn t9)))), (0, .ref (L 999 0)), (1, .int t9)]) hx hb dX9_correct_46 hl (by decide) rfl (fun ls hl => ?_)
    refine r_cutH 66 [.int (b2i (¬ σ.2.2.2 912 0 (3 * tn t9) ≤ 0 ∧ ¬ σ.2.2.2 912 0 (3 * tn t9 + 1) ≤ 0 ∧ ¬ σ.2.2.2 912 0 (3 * tn t9 + 2) ≤ 0))] hG hS (fun H locs hG hS => ?_) (fun J_66 => ?_)
    · refine lv_istore (lv' := [(5, .int (b2i (¬ σ.2.2.2 912 0 (3 * tn t9) ≤ 0 ∧ ¬ σ.2.2.2 912 0 (3 * tn t9 + 1) ≤ 0 ∧ ¬ σ.2.2.2 912 0 (3 * tn t9 + 2) ≤ 0))), (4, .int (σ.2.2.2 912 0 ((3 * (tn t9)) + 2))), (3, .int (σ.2.2.2 912 0 ((3 * (tn t9)) + 1))), (2, .int (σ.2.2.2 912 0 (3 * (tn t9)))), (0, .ref (L 999 0)), (1, .int t9)]) hx hb dX9_correct_66 hl (by decide) rfl (fun ls hl => ?_)
      refine r_cutH 86 [.int (b2i (¬ 0 ≤ σ.2.2.2 912 0 (3 * tn t9) ∧ ¬ 0 ≤ σ.2.2.2 912 0 (3 * tn t9 + 1) ∧ ¬ 0 ≤ σ.2.2.2 912 0 (3 * tn t9 + 2)))] hG hS (fun H locs hG hS => ?_) (fun J_86 => ?_)
      · refine lv_istore (lv' := [(6, .int (b2i (¬ 0 ≤ σ.2.2.2 912 0 (3 * tn t9) ∧ ¬ 0 ≤ σ.2.2.2 912 0 (3 * tn t9 + 1) ∧ ¬ 0 ≤ σ.2.2.2 912 0 (3 * tn t9 + 2)))), (5, .int (b2i (¬ σ.2.2.2 912 0 (3 * tn t9) ≤ 0 ∧ ¬ σ.2.2.2 912 0 (3 * tn t9 + 1) ≤ 0 ∧ ¬ σ.2.2.2 912 0 (3 * tn t9 + 2) ≤ 0))), (4, .int (σ.2.2.2 912 0 ((3 * (tn t9)) + 2))), (3, .int (σ.2.2.2 912 0 ((3 * (tn t9)) + 1))), (2, .int (σ.2.2.2 912 0 (3 * (tn t9)))), (0, .ref (L 999 0)), (1, .int t9)]) hx hb dX9_correct_86 hl (by decide) rfl (fun ls hl => ?_)
        refine lv_aload_n hx hb dX9_correct_88 rfl (lv_at hl 5 rfl) ?_
        refine gt_X9_41 X hK hG rd_999 dX9_correct_89 ?_
        refine lv_iload_n hx hb dX9_correct_92 rfl (lv_at hl 6 rfl) ?_
        refine r_top (y := nI (tn t9)) (ix_eq c_11.1) ?_
        refine al_913 X hK hG rd_913 (i := tn t9) (x := σ.2.2.1 913 0 (tn t9)) (by have := ix_lt c_11.1; omega) rfl dX9_correct_93 ?_
        refine lv_iconst (v := nI 3) hx hb dX9_correct_94 (by decide) ?_
        refine r_icmp_ltN (tgt := 108) hx hb dX9_correct_95 (by decide) (by have := hm (tn t9); omega) (by decide) (fun c_95 => ?_) (fun c_95 => ?_)
        · refine lv_iconst (v := nI 0) hx hb dX9_correct_108 (by decide) ?_
          exact rm_ret hx hb hr hlocks hG hS (by unfold m_correct; rw [if_pos c_11, if_pos c_95] <;> rfl) (by unfold m_correct; rw [if_pos c_11, if_pos c_95] <;> rfl) rfl dX9_correct_109
        · refine lv_iload hx hb dX9_correct_98 (lv_at hl 1 rfl) ?_
          refine r_if_neB (tgt := 110) hx hb dX9_correct_100 (by decide) (fun c_100 => ?_) (fun c_100 => ?_)
          · refine lv_aload_n hx hb dX9_correct_110 rfl (lv_at hl 5 rfl) ?_
            refine gt_X9_31 X hK hG rd_999 dX9_correct_111 ?_
            refine lv_iload_n hx hb dX9_correct_114 rfl (lv_at hl 6 rfl) ?_
            refine r_top (y := nI (tn t9)) (ix_eq c_11.1) ?_
            refine al_910 X hK hG rd_910 (i := tn t9) (x := σ.2.2.2 910 0 (tn t9)) (by have := ix_lt c_11.1; omega) rfl dX9_correct_115 ?_
            refine lv_istore (lv' := [(7, .int (σ.2.2.2 910 0 (tn t9))), (6, .int (b2i (¬ 0 ≤ σ.2.2.2 912 0 (3 * tn t9) ∧ ¬ 0 ≤ σ.2.2.2 912 0 (3 * tn t9 + 1) ∧ ¬ 0 ≤ σ.2.2.2 912 0 (3 * tn t9 + 2)))), (5, .int (b2i (¬ σ.2.2.2 912 0 (3 * tn t9) ≤ 0 ∧ ¬ σ.2.2.2 912 0 (3 * tn t9 + 1) ≤ 0 ∧ ¬ σ.2.2.2 912 0 (3 * tn t9 + 2) ≤ 0))), (4, .int (σ.2.2.2 912 0 ((3 * (tn t9)) + 2))), (3, .int (σ.2.2.2 912 0 ((3 * (tn t9)) + 1))), (2, .int (σ.2.2.2 912 0 (3 * (tn t9)))), (0, .ref (L 999 0)), (1, .int t9)]) hx hb dX9_correct_116 hl (by decide) rfl (fun ls hl => ?_)
            refine lv_iload hx hb dX9_correct_118 (lv_at hl 0 rfl) ?_
            refine lv_iload_n hx hb dX9_correct_120 rfl (lv_at hl 5 rfl) ?_
            refine lv_iload_n hx hb dX9_correct_121 rfl (lv_at hl 4 rfl) ?_
            refine lv_iadd hx hb dX9_correct_122 ?_
            refine lv_iload hx hb dX9_correct_123 (lv_at hl 3 rfl) ?_
            refine lv_iadd hx hb dX9_correct_125 ?_
            refine lv_iconst (v := nI 3) hx hb dX9_correct_126 (by decide) ?_
            refine lv_idiv hx hb dX9_correct_127 (by decide) ?_
            refine lv_iconst (v := nI 2) hx hb dX9_correct_128 (by decide) ?_
            refine lv_idiv hx hb dX9_correct_129 (by decide) ?_
            refine lv_iadd hx hb dX9_correct_130 ?_
            refine lv_istore (lv' := [(8, .int ((σ.2.2.2 910 0 (tn t9)) + (((((σ.2.2.2 912 0 (3 * (tn t9))) + (σ.2.2.2 912 0 ((3 * (tn t9)) + 1))) + (σ.2.2.2 912 0 ((3 * (tn t9)) + 2))) / (nI 3)) / (nI 2)))), (7, .int (σ.2.2.2 910 0 (tn t9))), (6, .int (b2i (¬ 0 ≤ σ.2.2.2 912 0 (3 * tn t9) ∧ ¬ 0 ≤ σ.2.2.2 912 0 (3 * tn t9 + 1) ∧ ¬ 0 ≤ σ.2.2.2 912 0 (3 * tn t9 + 2)))), (5, .int (b2i (¬ σ.2.2.2 912 0 (3 * tn t9) ≤ 0 ∧ ¬ σ.2.2.2 912 0 (3 * tn t9 + 1) ≤ 0 ∧ ¬ σ.2.2.2 912 0 (3 * tn t9 + 2) ≤ 0))), (4, .int (σ.2.2.2 912 0 ((3 * (tn t9)) + 2))), (3, .int (σ.2.2.2 912 0 ((3 * (tn t9)) + 1))), (2, .int (σ.2.2.2 912 0 (3 * (tn t9)))), (0, .ref (L 999 0)), (1, .int t9)]) hx hb dX9_correct_131 hl (by decide) rfl (fun ls hl => ?_)
            refine lv_aload_n hx hb dX9_correct_133 rfl (lv_at hl 7 rfl) ?_
            refine gt_X9_31 X hK hG rd_999 dX9_correct_134 ?_
            refine lv_iload_n hx hb dX9_correct_137 rfl (lv_at hl 8 rfl) ?_
            refine r_top (y := nI (tn t9)) (ix_eq c_11.1) ?_
            refine r_cutH 168 [.int (if ((σ.2.2.2 910 0 (tn t9)) + (((((σ.2.2.2 912 0 (3 * (tn t9))) + (σ.2.2.2 912 0 ((3 * (tn t9)) + 1))) + (σ.2.2.2 912 0 ((3 * (tn t9)) + 2))) / (nI 3)) / (nI 2))) ≤ nI 200 then (if (-200) ≤ ((σ.2.2.2 910 0 (tn t9)) + (((((σ.2.2.2 912 0 (3 * (tn t9))) + (σ.2.2.2 912 0 ((3 * (tn t9)) + 1))) + (σ.2.2.2 912 0 ((3 * (tn t9)) + 2))) / (nI 3)) / (nI 2))) then ((σ.2.2.2 910 0 (tn t9)) + (((((σ.2.2.2 912 0 (3 * (tn t9))) + (σ.2.2.2 912 0 ((3 * (tn t9)) + 1))) + (σ.2.2.2 912 0 ((3 * (tn t9)) + 2))) / (nI 3)) / (nI 2))) else (-200)) else nI 200), .int (nI (tn t9)), .ref (L 910 0)] hG hS (fun H locs hG hS => ?_) (fun J_168 => ?_)
            · refine as_910 X hK hG hS hA rd_910 (i := tn t9) (by have := ix_lt c_11.1; omega) dX9_correct_168 (fun H locs hG hS => ?_)
              refine lv_aload_n hx hb dX9_correct_169 rfl (lv_at hl 7 rfl) ?_
              refine gt_X9_41 X hK hG rd_999 dX9_correct_170 ?_
              refine lv_iload_n hx hb dX9_correct_173 rfl (lv_at hl 8 rfl) ?_
              refine r_top (y := nI (tn t9)) (ix_eq c_11.1) ?_
              refine lv_iconst (v := nI 0) hx hb dX9_correct_174 (by decide) ?_
              refine as_913 X hK hG hS hA rd_913 (i := tn t9) (by have := ix_lt c_11.1; omega) dX9_correct_175 (fun H locs hG hS => ?_)
              refine lv_aload_n hx hb dX9_correct_176 rfl (lv_at hl 7 rfl) ?_
              refine gt_X9_31 X hK hG rd_999 dX9_correct_177 ?_
              refine lv_iload_n hx hb dX9_correct_180 rfl (lv_at hl 8 rfl) ?_
              refine r_top (y := nI (tn t9)) (ix_eq c_11.1) ?_
              refine al_910 X hK hG rd_910 (i := tn t9) (x := (if ((σ.2.2.2 910 0 (tn t9)) + (((((σ.2.2.2 912 0 (3 * (tn t9))) + (σ.2.2.2 912 0 ((3 * (tn t9)) + 1))) + (σ.2.2.2 912 0 ((3 * (tn t9)) + 2))) / (nI 3)) / (nI 2))) ≤ nI 200 then (if (-200) ≤ ((σ.2.2.2 910 0 (tn t9)) + (((((σ.2.2.2 912 0 (3 * (tn t9))) + (σ.2.2.2 912 0 ((3 * (tn t9)) + 1))) + (σ.2.2.2 912 0 ((3 * (tn t9)) + 2))) / (nI 3)) / (nI 2))) then ((σ.2.2.2 910 0 (tn t9)) + (((((σ.2.2.2 912 0 (3 * (tn t9))) + (σ.2.2.2 912 0 ((3 * (tn t9)) + 1))) + (σ.2.2.2 912 0 ((3 * (tn t9)) + 2))) / (nI 3)) / (nI 2))) else (-200)) else nI 200)) (by have := ix_lt c_11.1; omega) (by simp [wN, wI, wA, wB, up3, up2, up1]) dX9_correct_181 ?_
              refine lv_iload hx hb dX9_correct_182 (lv_at hl 1 rfl) ?_
              refine lv_isub hx hb dX9_correct_184 ?_
              exact rm_ret hx hb hr hlocks hG hS (by unfold m_correct; rw [if_pos c_11, if_neg (Nat.not_lt.mpr c_95), if_pos c_100] <;> rfl) (by unfold m_correct; rw [if_pos c_11, if_neg (Nat.not_lt.mpr c_95), if_pos c_100] <;> rfl) rfl dX9_correct_185
            · refine lv_iload hx hb dX9_correct_138 (lv_at hl 0 rfl) ?_
              refine lv_sipush (v := nI 200) hx hb dX9_correct_140 (by decide) ?_
              refine lv_icmp_le (tgt := 152) hx hb dX9_correct_143 (by decide) (fun c_143 => ?_) (fun c_143 => ?_)
              · refine lv_iload hx hb dX9_correct_152 (lv_at hl 0 rfl) ?_
                refine lv_sipush (v := (-200)) hx hb dX9_correct_154 (by decide) ?_
                refine lv_icmp_ge (tgt := 166) hx hb dX9_correct_157 (by decide) (fun c_157 => ?_) (fun c_157 => ?_)
                · refine lv_iload hx hb dX9_correct_166 (lv_at hl 0 rfl) ?_
                  exact r_top (by rw [if_pos c_143, if_pos c_157]) (J_168 _ _ hG hS)
                · refine lv_sipush (v := (-200)) hx hb dX9_correct_160 (by decide) ?_
                  refine lv_goto (tgt := 168) hx hb dX9_correct_163 (by decide) ?_
                  exact r_top (by rw [if_pos c_143, if_neg c_157]) (J_168 _ _ hG hS)
              · refine lv_sipush (v := nI 200) hx hb dX9_correct_146 (by decide) ?_
                refine lv_goto (tgt := 168) hx hb dX9_correct_149 (by decide) ?_
                exact r_top (by rw [if_neg c_143]) (J_168 _ _ hG hS)
          · refine lv_iload hx hb dX9_correct_103 (lv_at hl 0 rfl) ?_
            refine r_if_neB (tgt := 110) hx hb dX9_correct_105 (by decide) (fun c_105 => ?_) (fun c_105 => ?_)
            · refine lv_aload_n hx hb dX9_correct_110 rfl (lv_at hl 5 rfl) ?_
              refine gt_X9_31 X hK hG rd_999 dX9_correct_111 ?_
              refine lv_iload_n hx hb dX9_correct_114 rfl (lv_at hl 6 rfl) ?_
              refine r_top (y := nI (tn t9)) (ix_eq c_11.1) ?_
              refine al_910 X hK hG rd_910 (i := tn t9) (x := σ.2.2.2 910 0 (tn t9)) (by have := ix_lt c_11.1; omega) rfl dX9_correct_115 ?_
              refine lv_istore (lv' := [(7, .int (σ.2.2.2 910 0 (tn t9))), (6, .int (b2i (¬ 0 ≤ σ.2.2.2 912 0 (3 * tn t9) ∧ ¬ 0 ≤ σ.2.2.2 912 0 (3 * tn t9 + 1) ∧ ¬ 0 ≤ σ.2.2.2 912 0 (3 * tn t9 + 2)))), (5, .int (b2i (¬ σ.2.2.2 912 0 (3 * tn t9) ≤ 0 ∧ ¬ σ.2.2.2 912 0 (3 * tn t9 + 1) ≤ 0 ∧ ¬ σ.2.2.2 912 0 (3 * tn t9 + 2) ≤ 0))), (4, .int (σ.2.2.2 912 0 ((3 * (tn t9)) + 2))), (3, .int (σ.2.2.2 912 0 ((3 * (tn t9)) + 1))), (2, .int (σ.2.2.2 912 0 (3 * (tn t9)))), (0, .ref (L 999 0)), (1, .int t9)]) hx hb dX9_correct_116 hl (by decide) rfl (fun ls hl => ?_)
              refine lv_iload hx hb dX9_correct_118 (lv_at hl 0 rfl) ?_
              refine lv_iload_n hx hb dX9_correct_120 rfl (lv_at hl 5 rfl) ?_
              refine lv_iload_n hx hb dX9_correct_121 rfl (lv_at hl 4 rfl) ?_
              refine lv_iadd hx hb dX9_correct_122 ?_
              refine lv_iload hx hb dX9_correct_123 (lv_at hl 3 rfl) ?_
              refine lv_iadd hx hb dX9_correct_125 ?_
              refine lv_iconst (v := nI 3) hx hb dX9_correct_126 (by decide) ?_
              refine lv_idiv hx hb dX9_correct_127 (by decide) ?_
              refine lv_iconst (v := nI 2) hx hb dX9_correct_128 (by decide) ?_
              refine lv_idiv hx hb dX9_correct_129 (by decide) ?_
              refine lv_iadd hx hb dX9_correct_130 ?_
              refine lv_istore (lv' := [(8, .int ((σ.2.2.2 910 0 (tn t9)) + (((((σ.2.2.2 912 0 (3 * (tn t9))) + (σ.2.2.2 912 0 ((3 * (tn t9)) + 1))) + (σ.2.2.2 912 0 ((3 * (tn t9)) + 2))) / (nI 3)) / (nI 2)))), (7, .int (σ.2.2.2 910 0 (tn t9))), (6, .int (b2i (¬ 0 ≤ σ.2.2.2 912 0 (3 * tn t9) ∧ ¬ 0 ≤ σ.2.2.2 912 0 (3 * tn t9 + 1) ∧ ¬ 0 ≤ σ.2.2.2 912 0 (3 * tn t9 + 2)))), (5, .int (b2i (¬ σ.2.2.2 912 0 (3 * tn t9) ≤ 0 ∧ ¬ σ.2.2.2 912 0 (3 * tn t9 + 1) ≤ 0 ∧ ¬ σ.2.2.2 912 0 (3 * tn t9 + 2) ≤ 0))), (4, .int (σ.2.2.2 912 0 ((3 * (tn t9)) + 2))), (3, .int (σ.2.2.2 912 0 ((3 * (tn t9)) + 1))), (2, .int (σ.2.2.2 912 0 (3 * (tn t9)))), (0, .ref (L 999 0)), (1, .int t9)]) hx hb dX9_correct_131 hl (by decide) rfl (fun ls hl => ?_)
              refine lv_aload_n hx hb dX9_correct_133 rfl (lv_at hl 7 rfl) ?_
              refine gt_X9_31 X hK hG rd_999 dX9_correct_134 ?_
              refine lv_iload_n hx hb dX9_correct_137 rfl (lv_at hl 8 rfl) ?_
              refine r_top (y := nI (tn t9)) (ix_eq c_11.1) ?_
              refine r_cutH 168 [.int (if ((σ.2.2.2 910 0 (tn t9)) + (((((σ.2.2.2 912 0 (3 * (tn t9))) + (σ.2.2.2 912 0 ((3 * (tn t9)) + 1))) + (σ.2.2.2 912 0 ((3 * (tn t9)) + 2))) / (nI 3)) / (nI 2))) ≤ nI 200 then (if (-200) ≤ ((σ.2.2.2 910 0 (tn t9)) + (((((σ.2.2.2 912 0 (3 * (tn t9))) + (σ.2.2.2 912 0 ((3 * (tn t9)) + 1))) + (σ.2.2.2 912 0 ((3 * (tn t9)) + 2))) / (nI 3)) / (nI 2))) then ((σ.2.2.2 910 0 (tn t9)) + (((((σ.2.2.2 912 0 (3 * (tn t9))) + (σ.2.2.2 912 0 ((3 * (tn t9)) + 1))) + (σ.2.2.2 912 0 ((3 * (tn t9)) + 2))) / (nI 3)) / (nI 2))) else (-200)) else nI 200), .int (nI (tn t9)), .ref (L 910 0)] hG hS (fun H locs hG hS => ?_) (fun J_168 => ?_)
              · refine as_910 X hK hG hS hA rd_910 (i := tn t9) (by have := ix_lt c_11.1; omega) dX9_correct_168 (fun H locs hG hS => ?_)
                refine lv_aload_n hx hb dX9_correct_169 rfl (lv_at hl 7 rfl) ?_
                refine gt_X9_41 X hK hG rd_999 dX9_correct_170 ?_
                refine lv_iload_n hx hb dX9_correct_173 rfl (lv_at hl 8 rfl) ?_
                refine r_top (y := nI (tn t9)) (ix_eq c_11.1) ?_
                refine lv_iconst (v := nI 0) hx hb dX9_correct_174 (by decide) ?_
                refine as_913 X hK hG hS hA rd_913 (i := tn t9) (by have := ix_lt c_11.1; omega) dX9_correct_175 (fun H locs hG hS => ?_)
                refine lv_aload_n hx hb dX9_correct_176 rfl (lv_at hl 7 rfl) ?_
                refine gt_X9_31 X hK hG rd_999 dX9_correct_177 ?_
                refine lv_iload_n hx hb dX9_correct_180 rfl (lv_at hl 8 rfl) ?_
                refine r_top (y := nI (tn t9)) (ix_eq c_11.1) ?_
                refine al_910 X hK hG rd_910 (i := tn t9) (x := (if ((σ.2.2.2 910 0 (tn t9)) + (((((σ.2.2.2 912 0 (3 * (tn t9))) + (σ.2.2.2 912 0 ((3 * (tn t9)) + 1))) + (σ.2.2.2 912 0 ((3 * (tn t9)) + 2))) / (nI 3)) / (nI 2))) ≤ nI 200 then (if (-200) ≤ ((σ.2.2.2 910 0 (tn t9)) + (((((σ.2.2.2 912 0 (3 * (tn t9))) + (σ.2.2.2 912 0 ((3 * (tn t9)) + 1))) + (σ.2.2.2 912 0 ((3 * (tn t9)) + 2))) / (nI 3)) / (nI 2))) then ((σ.2.2.2 910 0 (tn t9)) + (((((σ.2.2.2 912 0 (3 * (tn t9))) + (σ.2.2.2 912 0 ((3 * (tn t9)) + 1))) + (σ.2.2.2 912 0 ((3 * (tn t9)) + 2))) / (nI 3)) / (nI 2))) else (-200)) else nI 200)) (by have := ix_lt c_11.1; omega) (by simp [wN, wI, wA, wB, up3, up2, up1]) dX9_correct_181 ?_
                refine lv_iload hx hb dX9_correct_182 (lv_at hl 1 rfl) ?_
                refine lv_isub hx hb dX9_correct_184 ?_
                exact rm_ret hx hb hr hlocks hG hS (by unfold m_correct; rw [if_pos c_11, if_neg (Nat.not_lt.mpr c_95), if_neg c_100, if_pos c_105] <;> rfl) (by unfold m_correct; rw [if_pos c_11, if_neg (Nat.not_lt.mpr c_95), if_neg c_100, if_pos c_105] <;> rfl) rfl dX9_correct_185
              · refine lv_iload hx hb dX9_correct_138 (lv_at hl 0 rfl) ?_
                refine lv_sipush (v := nI 200) hx hb dX9_correct_140 (by decide) ?_
                refine lv_icmp_le (tgt := 152) hx hb dX9_correct_143 (by decide) (fun c_143 => ?_) (fun c_143 => ?_)
                · refine lv_iload hx hb dX9_correct_152 (lv_at hl 0 rfl) ?_
                  refine lv_sipush (v := (-200)) hx hb dX9_correct_154 (by decide) ?_
                  refine lv_icmp_ge (tgt := 166) hx hb dX9_correct_157 (by decide) (fun c_157 => ?_) (fun c_157 => ?_)
                  · refine lv_iload hx hb dX9_correct_166 (lv_at hl 0 rfl) ?_
                    exact r_top (by rw [if_pos c_143, if_pos c_157]) (J_168 _ _ hG hS)
                  · refine lv_sipush (v := (-200)) hx hb dX9_correct_160 (by decide) ?_
                    refine lv_goto (tgt := 168) hx hb dX9_correct_163 (by decide) ?_
                    exact r_top (by rw [if_pos c_143, if_neg c_157]) (J_168 _ _ hG hS)
                · refine lv_sipush (v := nI 200) hx hb dX9_correct_146 (by decide) ?_
                  refine lv_goto (tgt := 168) hx hb dX9_correct_149 (by decide) ?_
                  exact r_top (by rw [if_neg c_143]) (J_168 _ _ hG hS)
            · refine lv_iconst (v := nI 0) hx hb dX9_correct_108 (by decide) ?_
              exact rm_ret hx hb hr hlocks hG hS (by unfold m_correct; rw [if_pos c_11, if_neg (Nat.not_lt.mpr c_95), if_neg c_100, if_neg c_105] <;> rfl) (by unfold m_correct; rw [if_pos c_11, if_neg (Nat.not_lt.mpr c_95), if_neg c_100, if_neg c_105] <;> rfl) rfl dX9_correct_109
      · refine lv_iload_n hx hb dX9_correct_68 rfl (lv_at hl 3 rfl) ?_
        refine lv_if_ge (tgt := 85) hx hb dX9_correct_69 (by decide) (fun c_69 => ?_) (fun c_69 => ?_)
        · refine lv_iconst (v := nI 0) hx hb dX9_correct_85 (by decide) ?_
          exact r_top ((b2i_f (fun h => by have h9 := h.1; first | exact c_69 h9 | exact h9 c_69 | omega)).symm) (J_86 _ _ hG hS)
        · refine lv_iload_n hx hb dX9_correct_72 rfl (lv_at hl 2 rfl) ?_
          refine lv_if_ge (tgt := 85) hx hb dX9_correct_73 (by decide) (fun c_73 => ?_) (fun c_73 => ?_)
          · refine lv_iconst (v := nI 0) hx hb dX9_correct_85 (by decide) ?_
            exact r_top ((b2i_f (fun h => by have h9 := h.2.1; first | exact c_73 h9 | exact h9 c_73 | omega)).symm) (J_86 _ _ hG hS)
          · refine lv_iload hx hb dX9_correct_76 (lv_at hl 1 rfl) ?_
            refine lv_if_ge (tgt := 85) hx hb dX9_correct_78 (by decide) (fun c_78 => ?_) (fun c_78 => ?_)
            · refine lv_iconst (v := nI 0) hx hb dX9_correct_85 (by decide) ?_
              exact r_top ((b2i_f (fun h => by have h9 := h.2.2; first | exact c_78 h9 | exact h9 c_78 | omega)).symm) (J_86 _ _ hG hS)
            · refine lv_iconst (v := nI 1) hx hb dX9_correct_81 (by decide) ?_
              refine lv_goto (tgt := 86) hx hb dX9_correct_82 (by decide) ?_
              exact r_top ((b2i_t (by refine ⟨?_, ?_, ?_⟩ <;> first | assumption | omega)).symm) (J_86 _ _ hG hS)
    · refine lv_iload_n hx hb dX9_correct_48 rfl (lv_at hl 2 rfl) ?_
      refine lv_if_le (tgt := 65) hx hb dX9_correct_49 (by decide) (fun c_49 => ?_) (fun c_49 => ?_)
      · refine lv_iconst (v := nI 0) hx hb dX9_correct_65 (by decide) ?_
        exact r_top ((b2i_f (fun h => by have h9 := h.1; first | exact c_49 h9 | exact h9 c_49 | omega)).symm) (J_66 _ _ hG hS)
      · refine lv_iload_n hx hb dX9_correct_52 rfl (lv_at hl 1 rfl) ?_
        refine lv_if_le (tgt := 65) hx hb dX9_correct_53 (by decide) (fun c_53 => ?_) (fun c_53 => ?_)
        · refine lv_iconst (v := nI 0) hx hb dX9_correct_65 (by decide) ?_
          exact r_top ((b2i_f (fun h => by have h9 := h.2.1; first | exact c_53 h9 | exact h9 c_53 | omega)).symm) (J_66 _ _ hG hS)
        · refine lv_iload hx hb dX9_correct_56 (lv_at hl 0 rfl) ?_
          refine lv_if_le (tgt := 65) hx hb dX9_correct_58 (by decide) (fun c_58 => ?_) (fun c_58 => ?_)
          · refine lv_iconst (v := nI 0) hx hb dX9_correct_65 (by decide) ?_
            exact r_top ((b2i_f (fun h => by have h9 := h.2.2; first | exact c_58 h9 | exact h9 c_58 | omega)).symm) (J_66 _ _ hG hS)
          · refine lv_iconst (v := nI 1) hx hb dX9_correct_61 (by decide) ?_
            refine lv_goto (tgt := 66) hx hb dX9_correct_62 (by decide) ?_
            exact r_top ((b2i_t (by refine ⟨?_, ?_, ?_⟩ <;> first | assumption | omega)).symm) (J_66 _ _ hG hS)
  · refine lv_iconst (v := nI 0) hx hb dX9_correct_14 (by decide) ?_
    exact rm_ret hx hb hr hlocks hG hS (by unfold m_correct; rw [if_neg c_11] <;> rfl) (by unfold m_correct; rw [if_neg c_11] <;> rfl) rfl dX9_correct_15
def m_ofTool (t9 w : Int32) (σ : St) : Int32 × St := if (ix t9 (σ.1 914 0)) ∧ (ix w 6) ∧ (True) then (if w = nI 0 then ((σ.2.2.2 906 0 (tn t9), (m_g (ix t9 (σ.1 914 0)) (ix w 6) (True) σ))) else (if w = nI 1 then ((nI (σ.2.2.1 907 0 (tn t9)), (m_g (ix t9 (σ.1 914 0)) (ix w 6) (True) σ))) else (if w = nI 2 then ((nI (σ.2.2.1 908 0 (tn t9)), (m_g (ix t9 (σ.1 914 0)) (ix w 6) (True) σ))) else (if w = nI 3 then ((σ.2.2.2 910 0 (tn t9), (m_g (ix t9 (σ.1 914 0)) (ix w 6) (True) σ))) else (if w = nI 4 then ((nI (if σ.2.2.2 911 0 (tn t9) = 0 then 0 else 1), (m_g (ix t9 (σ.1 914 0)) (ix w 6) (True) σ))) else ((nI (σ.2.2.1 913 0 (tn t9)), (m_g (ix t9 (σ.1 914 0)) (ix w 6) (True) σ)))))))) else (nI 0, (m_g (ix t9 (σ.1 914 0)) (ix w 6) (True) σ))
set_option maxRecDepth 100000 in
set_option maxHeartbeats 4000000 in
theorem c_X9_ofTool {D : va_G} {cI cZ cO : ClassId} (l : Launch) (L : Lay) (σ : St) (ow : Nat → Prop) (t9 w : Int32) (hT : σ.1 914 0 ≤ 16) : RM D cI cZ cO rdom l yX9_ofTool cX9_ofTool 3 ((some FieldType.int)) 2 43 [.ref (L 999 0), .int t9, .int w] L σ ow ((m_ofTool t9 w σ).1) ((m_ofTool t9 w σ).2) := by
  refine rm_of rfl (Nat.le_of_ble_eq_true rfl) ?_
  intro p e s m below meth c ls X hK hG hr hlocks hl
  have X : CallFix p m c cX9_ofTool 3 s _ TB RX9 := X
  have hx := X.1
  have hb := X.2.1
  have hS : va_S (AA ow s.heap.size) s.heap s.heap [] := va_S.rf
  have hA : ∀ q, ow q → AA ow s.heap.size q := fun _ h => Or.inl h
  have hl : lv_has ls 3 [(0, .ref (L 999 0)), (1, .int t9), (2, .int w)] := hl
  refine lv_aload_n hx hb dX9_ofTool_0 rfl (lv_at hl 0 rfl) ?_
  refine lv_aload_n hx hb dX9_ofTool_1 rfl (lv_at hl 0 rfl) ?_
  refine lv_iload_n hx hb dX9_ofTool_2 rfl (lv_at hl 1 rfl) ?_
  refine rm_callV X hK hG hS yvX9_isTool ml_X9_141 kX9 rfl rd_999 [.int t9] [.ref (L 999 0)] (c_X9_isTool l L σ ow t9 (by omega)) rfl hl.1 rfl (Nat.le_of_ble_eq_true rfl) ⟨Nat.le_of_ble_eq_true rfl, Nat.le_of_ble_eq_true rfl⟩ ⟨Nat.zero_le _, Nat.zero_le _⟩ dX9_ofTool_3 (fun H locs hG hS => ?_)
  refine lv_iload_n hx hb dX9_ofTool_6 rfl (lv_at hl 2 rfl) ?_
  refine lv_iconst (v := nI 0) hx hb dX9_ofTool_7 (by decide) ?_
  refine lv_iconst (v := nI 5) hx hb dX9_ofTool_8 (by decide) ?_
  refine rm_callS X hK hG hS ysX9_in ml_X9_114 [.int w, .int (nI 0), .int (nI 5)] [.int (b2i (ix t9 (σ.1 914 0))), .ref (L 999 0)] (c_X9_in l L σ ow w (nI 0) (nI 5)) rfl hl.1 rfl (Nat.le_of_ble_eq_true rfl) ⟨Nat.le_of_ble_eq_true rfl, Nat.le_of_ble_eq_true rfl⟩ ⟨Nat.zero_le _, Nat.zero_le _⟩ dX9_ofTool_9 (fun H locs hG hS => ?_)
  refine r_top (y := b2i (ix w 6)) (b2i_c (rg_z 5 (by decide))) ?_
  refine lv_iconst (v := nI 1) hx hb dX9_ofTool_12 (by decide) ?_
  refine rm_callV X hK hG hS yvX9_goes ml_X9_127 kX9 rfl rd_999 [.int (b2i (ix t9 (σ.1 914 0))), .int (b2i (ix w 6)), .int (nI 1)] [] (c_X9_goes l L σ ow (ix t9 (σ.1 914 0)) (ix w 6) (True)) rfl hl.1 rfl (Nat.le_of_ble_eq_true rfl) ⟨Nat.le_of_ble_eq_true rfl, Nat.le_of_ble_eq_true rfl⟩ ⟨Nat.zero_le _, Nat.zero_le _⟩ dX9_ofTool_13 (fun H locs hG hS => ?_)
  refine r_if_neB (tgt := 21) hx hb dX9_ofTool_16 (by decide) (fun c_16 => ?_) (fun c_16 => ?_)
  · refine lv_iload_n hx hb dX9_ofTool_21 rfl (lv_at hl 2 rfl) ?_
    rcases sw_split (w) 4 (by decide) with h_22 | ⟨j_22, h_22, e_22⟩
    · refine lv_tableOut (tgt := 99) hx hb dX9_ofTool_22 h_22 (by decide) ?_
      refine lv_aload_n hx hb dX9_ofTool_99 rfl (lv_at hl 0 rfl) ?_
      refine gt_X9_41 X hK hG rd_999 dX9_ofTool_100 ?_
      refine lv_iload_n hx hb dX9_ofTool_103 rfl (lv_at hl 1 rfl) ?_
      refine r_top (y := nI (tn t9)) (ix_eq c_16.1) ?_
      refine al_913 X hK hG rd_913 (i := tn t9) (x := σ.2.2.1 913 0 (tn t9)) (by have := ix_lt c_16.1; omega) rfl dX9_ofTool_104 ?_
      exact rm_ret hx hb hr hlocks hG hS (by unfold m_ofTool; rw [if_pos c_16, if_neg (sw_ne (n := 4) h_22 0 (by decide)), if_neg (sw_ne (n := 4) h_22 1 (by decide)), if_neg (sw_ne (n := 4) h_22 2 (by decide)), if_neg (sw_ne (n := 4) h_22 3 (by decide)), if_neg (sw_ne (n := 4) h_22 4 (by decide))] <;> rfl) (by unfold m_ofTool; rw [if_pos c_16, if_neg (sw_ne (n := 4) h_22 0 (by decide)), if_neg (sw_ne (n := 4) h_22 1 (by decide)), if_neg (sw_ne (n := 4) h_22 2 (by decide)), if_neg (sw_ne (n := 4) h_22 3 (by decide)), if_neg (sw_ne (n := 4) h_22 4 (by decide))] <;> rfl) rfl dX9_ofTool_105
    · rcases (by omega : j_22 = 0 ∨ j_22 = 1 ∨ j_22 = 2 ∨ j_22 = 3 ∨ j_22 = 4) with rfl | rfl | rfl | rfl | rfl
      · refine r_top (y := nI 0) e_22 ?_
        refine lv_tableIn (tgt := 56) hx hb dX9_ofTool_22 (by decide) (by decide) (off := 34) (by decide) (by decide) ?_
        refine lv_aload_n hx hb dX9_ofTool_56 rfl (lv_at hl 0 rfl) ?_
        refine gt_X9_19 X hK hG rd_999 dX9_ofTool_57 ?_
        refine lv_iload_n hx hb dX9_ofTool_60 rfl (lv_at hl 1 rfl) ?_
        refine r_top (y := nI (tn t9)) (ix_eq c_16.1) ?_
        refine al_906 X hK hG rd_906 (i := tn t9) (x := σ.2.2.2 906 0 (tn t9)) (by have := ix_lt c_16.1; omega) rfl dX9_ofTool_61 ?_
        exact rm_ret hx hb hr hlocks hG hS (by unfold m_ofTool; rw [if_pos c_16, if_pos e_22] <;> rfl) (by unfold m_ofTool; rw [if_pos c_16, if_pos e_22] <;> rfl) rfl dX9_ofTool_62
      · refine r_top (y := nI 1) e_22 ?_
        refine lv_tableIn (tgt := 63) hx hb dX9_ofTool_22 (by decide) (by decide) (off := 41) (by decide) (by decide) ?_
        refine lv_aload_n hx hb dX9_ofTool_63 rfl (lv_at hl 0 rfl) ?_
        refine gt_X9_22 X hK hG rd_999 dX9_ofTool_64 ?_
        refine lv_iload_n hx hb dX9_ofTool_67 rfl (lv_at hl 1 rfl) ?_
        refine r_top (y := nI (tn t9)) (ix_eq c_16.1) ?_
        refine al_907 X hK hG rd_907 (i := tn t9) (x := σ.2.2.1 907 0 (tn t9)) (by have := ix_lt c_16.1; omega) rfl dX9_ofTool_68 ?_
        exact rm_ret hx hb hr hlocks hG hS (by unfold m_ofTool; rw [if_pos c_16, if_neg (show ¬ w = nI 0 from by rw [e_22]; decide), if_pos e_22] <;> rfl) (by unfold m_ofTool; rw [if_pos c_16, if_neg (show ¬ w = nI 0 from by rw [e_22]; decide), if_pos e_22] <;> rfl) rfl dX9_ofTool_69
      · refine r_top (y := nI 2) e_22 ?_
        refine lv_tableIn (tgt := 70) hx hb dX9_ofTool_22 (by decide) (by decide) (off := 48) (by decide) (by decide) ?_
        refine lv_aload_n hx hb dX9_ofTool_70 rfl (lv_at hl 0 rfl) ?_
        refine gt_X9_25 X hK hG rd_999 dX9_ofTool_71 ?_
        refine lv_iload_n hx hb dX9_ofTool_74 rfl (lv_at hl 1 rfl) ?_
        refine r_top (y := nI (tn t9)) (ix_eq c_16.1) ?_
        refine al_908 X hK hG rd_908 (i := tn t9) (x := σ.2.2.1 908 0 (tn t9)) (by have := ix_lt c_16.1; omega) rfl dX9_ofTool_75 ?_
        exact rm_ret hx hb hr hlocks hG hS (by unfold m_ofTool; rw [if_pos c_16, if_neg (show ¬ w = nI 0 from by rw [e_22]; decide), if_neg (show ¬ w = nI 1 from by rw [e_22]; decide), if_pos e_22] <;> rfl) (by unfold m_ofTool; rw [if_pos c_16, if_neg (show ¬ w = nI 0 from by rw [e_22]; decide), if_neg (show ¬ w = nI 1 from by rw [e_22]; decide), if_pos e_22] <;> rfl) rfl dX9_ofTool_76
      · refine r_top (y := nI 3) e_22 ?_
        refine lv_tableIn (tgt := 77) hx hb dX9_ofTool_22 (by decide) (by decide) (off := 55) (by decide) (by decide) ?_
        refine lv_aload_n hx hb dX9_ofTool_77 rfl (lv_at hl 0 rfl) ?_
        refine gt_X9_31 X hK hG rd_999 dX9_ofTool_78 ?_
        refine lv_iload_n hx hb dX9_ofTool_81 rfl (lv_at hl 1 rfl) ?_
        refine r_top (y := nI (tn t9)) (ix_eq c_16.1) ?_
        refine al_910 X hK hG rd_910 (i := tn t9) (x := σ.2.2.2 910 0 (tn t9)) (by have := ix_lt c_16.1; omega) rfl dX9_ofTool_82 ?_
        exact rm_ret hx hb hr hlocks hG hS (by unfold m_ofTool; rw [if_pos c_16, if_neg (show ¬ w = nI 0 from by rw [e_22]; decide), if_neg (show ¬ w = nI 1 from by rw [e_22]; decide), if_neg (show ¬ w = nI 2 from by rw [e_22]; decide), if_pos e_22] <;> rfl) (by unfold m_ofTool; rw [if_pos c_16, if_neg (show ¬ w = nI 0 from by rw [e_22]; decide), if_neg (show ¬ w = nI 1 from by rw [e_22]; decide), if_neg (show ¬ w = nI 2 from by rw [e_22]; decide), if_pos e_22] <;> rfl) rfl dX9_ofTool_83
      · refine r_top (y := nI 4) e_22 ?_
        refine lv_tableIn (tgt := 84) hx hb dX9_ofTool_22 (by decide) (by decide) (off := 62) (by decide) (by decide) ?_
        refine r_cutH 98 [.int (nI (if σ.2.2.2 911 0 (tn t9) = 0 then 0 else 1))] hG hS (fun H locs hG hS => ?_) (fun J_98 => ?_)
        · exact rm_ret hx hb hr hlocks hG hS (by unfold m_ofTool; rw [if_pos c_16, if_neg (show ¬ w = nI 0 from by rw [e_22]; decide), if_neg (show ¬ w = nI 1 from by rw [e_22]; decide), if_neg (show ¬ w = nI 2 from by rw [e_22]; decide), if_neg (show ¬ w = nI 3 from by rw [e_22]; decide), if_pos e_22] <;> rfl) (by unfold m_ofTool; rw [if_pos c_16, if_neg (show ¬ w = nI 0 from by rw [e_22]; decide), if_neg (show ¬ w = nI 1 from by rw [e_22]; decide), if_neg (show ¬ w = nI 2 from by rw [e_22]; decide), if_neg (show ¬ w = nI 3 from by rw [e_22]; decide), if_pos e_22] <;> rfl) rfl dX9_ofTool_98
        · refine lv_aload_n hx hb dX9_ofTool_84 rfl (lv_at hl 0 rfl) ?_
          refine gt_X9_34 X hK hG rd_999 dX9_ofTool_85 ?_
          refine lv_iload_n hx hb dX9_ofTool_88 rfl (lv_at hl 1 rfl) ?_
          refine r_top (y := nI (tn t9)) (ix_eq c_16.1) ?_
          refine al_911 X hK hG rd_911 (i := tn t9) (x := σ.2.2.2 911 0 (tn t9)) (by have := ix_lt c_16.1; omega) rfl dX9_ofTool_89 ?_
          refine lv_if_eq (tgt := 97) hx hb dX9_ofTool_90 (by decide) (fun c_90 => ?_) (fun c_90 => ?_)
          · refine lv_iconst (v := nI 0) hx hb dX9_ofTool_97 (by decide) ?_
            exact r_top (by rw [if_pos c_90]) (J_98 _ _ hG hS)
          · refine lv_iconst (v := nI 1) hx hb dX9_ofTool_93 (by decide) ?_
            refine lv_goto (tgt := 98) hx hb dX9_ofTool_94 (by decide) ?_
            exact r_top (by rw [if_neg c_90]) (J_98 _ _ hG hS)
  · refine lv_iconst (v := nI 0) hx hb dX9_ofTool_19 (by decide) ?_
    exact rm_ret hx hb hr hlocks hG hS (by unfold m_ofTool; rw [if_neg c_16] <;> rfl) (by unfold m_ofTool; rw [if_neg c_16] <;> rfl) rfl dX9_ofTool_20
def m_ofCell (p9 x y w : Int32) (σ : St) : Int32 × St := if (ix p9 (σ.1 924 0) ∧ (ix x 12 ∧ ix y 12)) ∧ (ix w 5) ∧ (True) then (if w = nI 0 then ((σ.2.2.2 915 0 (((144 * (tn p9)) + (12 * (tn y))) + (tn x)), (m_g (ix p9 (σ.1 924 0) ∧ (ix x 12 ∧ ix y 12)) (ix w 5) (True) σ))) else (if w = nI 1 then ((msz (((144 * (tn p9)) + (12 * (tn y))) + (tn x)) (m_g (ix p9 (σ.1 924 0) ∧ (ix x 12 ∧ ix y 12)) (ix w 5) (True) σ), (m_g (ix p9 (σ.1 924 0) ∧ (ix x 12 ∧ ix y 12)) (ix w 5) (True) σ))) else (if w = nI 2 then ((σ.2.2.2 917 0 (((144 * (tn p9)) + (12 * (tn y))) + (tn x)), (m_g (ix p9 (σ.1 924 0) ∧ (ix x 12 ∧ ix y 12)) (ix w 5) (True) σ))) else (if w = nI 3 then ((mcau (((144 * (tn p9)) + (12 * (tn y))) + (tn x)) (m_g (ix p9 (σ.1 924 0) ∧ (ix x 12 ∧ ix y 12)) (ix w 5) (True) σ), (m_g (ix p9 (σ.1 924 0) ∧ (ix x 12 ∧ ix y 12)) (ix w 5) (True) σ))) else ((σ.2.2.2 916 0 (((144 * (tn p9)) + (12 * (tn y))) + (tn x)), (m_g (ix p9 (σ.1 924 0) ∧ (ix x 12 ∧ ix y 12)) (ix w 5) (True) σ))))))) else (nI 0, (m_g (ix p9 (σ.1 924 0) ∧ (ix x 12 ∧ ix y 12)) (ix w 5) (True) σ))
set_option maxRecDepth 100000 in
set_option maxHeartbeats 4000000 in
theorem c_X9_ofCell {D : va_G} {cI cZ cO : ClassId} (l : Launch) (L : Lay) (σ : St) (ow : Nat → Prop) (p9 x y w : Int32) (hP : σ.1 924 0 ≤ 6) : RM D cI cZ cO rdom l yX9_ofCell cX9_ofCell 7 ((some FieldType.int)) 2 44 [.ref (L 999 0), .int p9, .int x, .int y, .int w] L σ ow ((m_ofCell p9 x y w σ).1) ((m_ofCell p9 x y w σ).2) := by
  refine rm_of rfl (Nat.le_of_ble_eq_true rfl) ?_
  intro p e s m below meth c ls X hK hG hr hlocks hl
  have X : CallFix p m c cX9_ofCell 7 s _ TB RX9 := X
  have hx := X.1
  have hb := X.2.1
  have hS : va_S (AA ow s.heap.size) s.heap s.heap [] := va_S.rf
  have hA : ∀ q, ow q → AA ow s.heap.size q := fun _ h => Or.inl h
  have hl : lv_has ls 7 [(0, .ref (L 999 0)), (1, .int p9), (2, .int x), (3, .int y), (4, .int w)] := hl
  refine r_cutH 21 [.int (b2i (ix p9 (σ.1 924 0) ∧ (ix x 12 ∧ ix y 12)))] hG hS (fun H locs hG hS => ?_) (fun J_21 => ?_)
  · refine lv_istore (lv' := [(5, .int (b2i (ix p9 (σ.1 924 0) ∧ (ix x 12 ∧ ix y 12)))), (0, .ref (L 999 0)), (1, .int p9), (2, .int x), (3, .int y), (4, .int w)]) hx hb dX9_ofCell_21 hl (by decide) rfl (fun ls hl => ?_)
    refine lv_aload_n hx hb dX9_ofCell_23 rfl (lv_at hl 1 rfl) ?_
    refine lv_iload hx hb dX9_ofCell_24 (lv_at hl 0 rfl) ?_
    refine lv_iload hx hb dX9_ofCell_26 (lv_at hl 5 rfl) ?_
    refine lv_iconst (v := nI 0) hx hb dX9_ofCell_28 (by decide) ?_
    refine lv_iconst (v := nI 4) hx hb dX9_ofCell_29 (by decide) ?_
    refine rm_callS X hK hG hS ysX9_in ml_X9_114 [.int w, .int (nI 0), .int (nI 4)] [.int (b2i (ix p9 (σ.1 924 0) ∧ (ix x 12 ∧ ix y 12))), .ref (L 999 0)] (c_X9_in l L σ ow w (nI 0) (nI 4)) rfl hl.1 rfl (Nat.le_of_ble_eq_true rfl) ⟨Nat.le_of_ble_eq_true rfl, Nat.le_of_ble_eq_true rfl⟩ ⟨Nat.zero_le _, Nat.zero_le _⟩ dX9_ofCell_30 (fun H locs hG hS => ?_)
    refine r_top (y := b2i (ix w 5)) (b2i_c (rg_z 4 (by decide))) ?_
    refine lv_iconst (v := nI 1) hx hb dX9_ofCell_33 (by decide) ?_
    refine rm_callV X hK hG hS yvX9_goes ml_X9_127 kX9 rfl rd_999 [.int (b2i (ix p9 (σ.1 924 0) ∧ (ix x 12 ∧ ix y 12))), .int (b2i (ix w 5)), .int (nI 1)] [] (c_X9_goes l L σ ow (ix p9 (σ.1 924 0) ∧ (ix x 12 ∧ ix y 12)) (ix w 5) (True)) rfl hl.1 rfl (Nat.le_of_ble_eq_true rfl) ⟨Nat.le_of_ble_eq_true rfl, Nat.le_of_ble_eq_true rfl⟩ ⟨Nat.zero_le _, Nat.zero_le _⟩ dX9_ofCell_34 (fun H locs hG hS => ?_)
    refine r_if_neB (tgt := 42) hx hb dX9_ofCell_37 (by decide) (fun c_37 => ?_) (fun c_37 => ?_)
    · refine lv_sipush (v := nI 144) hx hb dX9_ofCell_42 (by decide) ?_
      refine lv_iload_n hx hb dX9_ofCell_45 rfl (lv_at hl 2 rfl) ?_
      refine r_top (y := nI (tn p9)) (ix_eq c_37.1.1) ?_
      refine r_mulN hx hb dX9_ofCell_46 ?_
      refine lv_bipush (v := nI 12) hx hb dX9_ofCell_47 (by decide) ?_
      refine lv_iload_n hx hb dX9_ofCell_49 rfl (lv_at hl 4 rfl) ?_
      refine r_top (y := nI (tn y)) (ix_eq c_37.1.2.2) ?_
      refine r_mulN hx hb dX9_ofCell_50 ?_
      refine r_addN hx hb dX9_ofCell_51 ?_
      refine lv_iload_n hx hb dX9_ofCell_52 rfl (lv_at hl 3 rfl) ?_
      refine r_top (y := nI (tn x)) (ix_eq c_37.1.2.1) ?_
      refine r_addN hx hb dX9_ofCell_53 ?_
      refine lv_istore (lv' := [(6, .int (nI (((144 * (tn p9)) + (12 * (tn y))) + (tn x)))), (5, .int (b2i (ix p9 (σ.1 924 0) ∧ (ix x 12 ∧ ix y 12)))), (0, .ref (L 999 0)), (1, .int p9), (2, .int x), (3, .int y), (4, .int w)]) hx hb dX9_ofCell_54 hl (by decide) rfl (fun ls hl => ?_)
      refine lv_iload hx hb dX9_ofCell_56 (lv_at hl 6 rfl) ?_
      rcases sw_split (w) 3 (by decide) with h_58 | ⟨j_58, h_58, e_58⟩
      · refine lv_tableOut (tgt := 118) hx hb dX9_ofCell_58 h_58 (by decide) ?_
        refine lv_aload_n hx hb dX9_ofCell_118 rfl (lv_at hl 2 rfl) ?_
        refine gt_X9_47 X hK hG rd_999 dX9_ofCell_119 ?_
        refine lv_iload hx hb dX9_ofCell_122 (lv_at hl 0 rfl) ?_
        refine al_916 X hK hG rd_916 (i := ((144 * (tn p9)) + (12 * (tn y))) + (tn x)) (x := σ.2.2.2 916 0 (((144 * (tn p9)) + (12 * (tn y))) + (tn x))) (by have h1 := ix_lt c_37.1.1; have h2 := ix_lt c_37.1.2.1; have h3 := ix_lt c_37.1.2.2; omega) rfl dX9_ofCell_124 ?_
        exact rm_ret hx hb hr hlocks hG hS (by unfold m_ofCell; rw [if_pos c_37, if_neg (sw_ne (n := 3) h_58 0 (by decide)), if_neg (sw_ne (n := 3) h_58 1 (by decide)), if_neg (sw_ne (n := 3) h_58 2 (by decide)), if_neg (sw_ne (n := 3) h_58 3 (by decide))] <;> rfl) (by unfold m_ofCell; rw [if_pos c_37, if_neg (sw_ne (n := 3) h_58 0 (by decide)), if_neg (sw_ne (n := 3) h_58 1 (by decide)), if_neg (sw_ne (n := 3) h_58 2 (by decide)), if_neg (sw_ne (n := 3) h_58 3 (by decide))] <;> rfl) rfl dX9_ofCell_125
      · rcases (by omega : j_58 = 0 ∨ j_58 = 1 ∨ j_58 = 2 ∨ j_58 = 3) with rfl | rfl | rfl | rfl
        · refine r_top (y := nI 0) e_58 ?_
          refine lv_tableIn (tgt := 88) hx hb dX9_ofCell_58 (by decide) (by decide) (off := 30) (by decide) (by decide) ?_
          refine lv_aload_n hx hb dX9_ofCell_88 rfl (lv_at hl 2 rfl) ?_
          refine gt_X9_44 X hK hG rd_999 dX9_ofCell_89 ?_
          refine lv_iload hx hb dX9_ofCell_92 (lv_at hl 0 rfl) ?_
          refine al_915 X hK hG rd_915 (i := ((144 * (tn p9)) + (12 * (tn y))) + (tn x)) (x := σ.2.2.2 915 0 (((144 * (tn p9)) + (12 * (tn y))) + (tn x))) (by have h1 := ix_lt c_37.1.1; have h2 := ix_lt c_37.1.2.1; have h3 := ix_lt c_37.1.2.2; omega) rfl dX9_ofCell_94 ?_
          exact rm_ret hx hb hr hlocks hG hS (by unfold m_ofCell; rw [if_pos c_37, if_pos e_58] <;> rfl) (by unfold m_ofCell; rw [if_pos c_37, if_pos e_58] <;> rfl) rfl dX9_ofCell_95
        · refine r_top (y := nI 1) e_58 ?_
          refine lv_tableIn (tgt := 96) hx hb dX9_ofCell_58 (by decide) (by decide) (off := 38) (by decide) (by decide) ?_
          refine lv_aload_n hx hb dX9_ofCell_96 rfl (lv_at hl 2 rfl) ?_
          refine lv_iload hx hb dX9_ofCell_97 (lv_at hl 0 rfl) ?_
          refine rm_callV X hK hG hS yvX9_sizeOf ml_X9_211 kX9 rfl rd_999 [.int (nI (((144 * (tn p9)) + (12 * (tn y))) + (tn x)))] [] (c_X9_sizeOf l L (m_g (ix p9 (σ.1 924 0) ∧ (ix x 12 ∧ ix y 12)) (ix w 5) (True) σ) ow (((144 * (tn p9)) + (12 * (tn y))) + (tn x)) (by have h1 := ix_lt c_37.1.1; have h2 := ix_lt c_37.1.2.1; have h3 := ix_lt c_37.1.2.2; omega)) rfl hl.1 rfl (Nat.le_of_ble_eq_true rfl) ⟨Nat.le_of_ble_eq_true rfl, Nat.le_of_ble_eq_true rfl⟩ ⟨Nat.zero_le _, Nat.zero_le _⟩ dX9_ofCell_99 (fun H locs hG hS => ?_)
          exact rm_ret hx hb hr hlocks hG hS (by unfold m_ofCell; rw [if_pos c_37, if_neg (show ¬ w = nI 0 from by rw [e_58]; decide), if_pos e_58] <;> rfl) (by unfold m_ofCell; rw [if_pos c_37, if_neg (show ¬ w = nI 0 from by rw [e_58]; decide), if_pos e_58] <;> rfl) rfl dX9_ofCell_102
        · refine r_top (y := nI 2) e_58 ?_
          refine lv_tableIn (tgt := 103) hx hb dX9_ofCell_58 (by decide) (by decide) (off := 45) (by decide) (by decide) ?_
          refine lv_aload_n hx hb dX9_ofCell_103 rfl (lv_at hl 2 rfl) ?_
          refine gt_X9_50 X hK hG rd_999 dX9_ofCell_104 ?_
          refine lv_iload hx hb dX9_ofCell_107 (lv_at hl 0 rfl) ?_
          refine al_917 X hK hG rd_917 (i := ((144 * (tn p9)) + (12 * (tn y))) + (tn x)) (x := σ.2.2.2 917 0 (((144 * (tn p9)) + (12 * (tn y))) + (tn x))) (by have h1 := ix_lt c_37.1.1; have h2 := ix_lt c_37.1.2.1; have h3 := ix_lt c_37.1.2.2; omega) rfl dX9_ofCell_109 ?_
          exact rm_ret hx hb hr hlocks hG hS (by unfold m_ofCell; rw [if_pos c_37, if_neg (show ¬ w = nI 0 from by rw [e_58]; decide), if_neg (show ¬ w = nI 1 from by rw [e_58]; decide), if_pos e_58] <;> rfl) (by unfold m_ofCell; rw [if_pos c_37, if_neg (show ¬ w = nI 0 from by rw [e_58]; decide), if_neg (show ¬ w = nI 1 from by rw [e_58]; decide), if_pos e_58] <;> rfl) rfl dX9_ofCell_110
        · refine r_top (y := nI 3) e_58 ?_
          refine lv_tableIn (tgt := 111) hx hb dX9_ofCell_58 (by decide) (by decide) (off := 53) (by decide) (by decide) ?_
          refine lv_aload_n hx hb dX9_ofCell_111 rfl (lv_at hl 2 rfl) ?_
          refine lv_iload hx hb dX9_ofCell_112 (lv_at hl 0 rfl) ?_
          refine rm_callV X hK hG hS yvX9_causeOf ml_X9_221 kX9 rfl rd_999 [.int (nI (((144 * (tn p9)) + (12 * (tn y))) + (tn x)))] [] (c_X9_causeOf l L (m_g (ix p9 (σ.1 924 0) ∧ (ix x 12 ∧ ix y 12)) (ix w 5) (True) σ) ow (((144 * (tn p9)) + (12 * (tn y))) + (tn x)) (by have h1 := ix_lt c_37.1.1; have h2 := ix_lt c_37.1.2.1; have h3 := ix_lt c_37.1.2.2; omega)) rfl hl.1 rfl (Nat.le_of_ble_eq_true rfl) ⟨Nat.le_of_ble_eq_true rfl, Nat.le_of_ble_eq_true rfl⟩ ⟨Nat.zero_le _, Nat.zero_le _⟩ dX9_ofCell_114 (fun H locs hG hS => ?_)
          exact rm_ret hx hb hr hlocks hG hS (by unfold m_ofCell; rw [if_pos c_37, if_neg (show ¬ w = nI 0 from by rw [e_58]; decide), if_neg (show ¬ w = nI 1 from by rw [e_58]; decide), if_neg (show ¬ w = nI 2 from by rw [e_58]; decide), if_pos e_58] <;> rfl) (by unfold m_ofCell; rw [if_pos c_37, if_neg (show ¬ w = nI 0 from by rw [e_58]; decide), if_neg (show ¬ w = nI 1 from by rw [e_58]; decide), if_neg (show ¬ w = nI 2 from by rw [e_58]; decide), if_pos e_58] <;> rfl) rfl dX9_ofCell_117
    · refine lv_iconst (v := nI 0) hx hb dX9_ofCell_40 (by decide) ?_
      exact rm_ret hx hb hr hlocks hG hS (by unfold m_ofCell; rw [if_neg c_37] <;> rfl) (by unfold m_ofCell; rw [if_neg c_37] <;> rfl) rfl dX9_ofCell_41
  · refine lv_aload_n hx hb dX9_ofCell_0 rfl (lv_at hl 0 rfl) ?_
    refine lv_iload_n hx hb dX9_ofCell_1 rfl (lv_at hl 1 rfl) ?_
    refine rm_callV X hK hG hS yvX9_isPallet ml_X9_148 kX9 rfl rd_999 [.int p9] [] (c_X9_isPallet l L σ ow p9 (by omega)) rfl hl.1 rfl (Nat.le_of_ble_eq_true rfl) ⟨Nat.le_of_ble_eq_true rfl, Nat.le_of_ble_eq_true rfl⟩ ⟨Nat.zero_le _, Nat.zero_le _⟩ dX9_ofCell_2 (fun H locs hG hS => ?_)
    refine r_if_eqB (tgt := 20) hx hb dX9_ofCell_5 (by decide) (fun c_5 => ?_) (fun c_5 => ?_)
    · refine lv_iconst (v := nI 0) hx hb dX9_ofCell_20 (by decide) ?_
      exact r_top ((b2i_f (fun h => by have h9 := h.1; first | exact c_5 h9 | exact h9 c_5 | omega)).symm) (J_21 _ _ hG hS)
    · refine lv_iload_n hx hb dX9_ofCell_8 rfl (lv_at hl 2 rfl) ?_
      refine lv_iload_n hx hb dX9_ofCell_9 rfl (lv_at hl 3 rfl) ?_
      refine rm_callS X hK hG hS ysX9_isCell ml_X9_151 [.int x, .int y] [] (c_X9_isCell l L σ ow x y) rfl hl.1 rfl (Nat.le_of_ble_eq_true rfl) ⟨Nat.le_of_ble_eq_true rfl, Nat.le_of_ble_eq_true rfl⟩ ⟨Nat.zero_le _, Nat.zero_le _⟩ dX9_ofCell_10 (fun H locs hG hS => ?_)
      refine r_if_eqB (tgt := 20) hx hb dX9_ofCell_13 (by decide) (fun c_13 => ?_) (fun c_13 => ?_)
      · refine lv_iconst (v := nI 0) hx hb dX9_ofCell_20 (by decide) ?_
        exact r_top ((b2i_f (fun h => by have h9 := h.2; first | exact c_13 h9 | exact h9 c_13 | omega)).symm) (J_21 _ _ hG hS)
      · refine lv_iconst (v := nI 1) hx hb dX9_ofCell_16 (by decide) ?_
        refine lv_goto (tgt := 21) hx hb dX9_ofCell_17 (by decide) ?_
        exact r_top ((b2i_t (by refine ⟨?_, ?_⟩ <;> first | assumption | omega)).symm) (J_21 _ _ hG hS)
def plc (q : Nat → Nat) (p : Nat) : Nat → Int32
  | 0 => (-1)
  | k + 1 => if q k = p then nI k else plc q p k
def m_ofPallet (p9 w : Int32) (σ : St) : Int32 × St := if (ix p9 (σ.1 924 0)) ∧ (ix w 4) ∧ (True) then (if ¬ w = 0 then (if ¬ w = (nI 1) then (if ¬ w = (nI 2) then (σ.2.2.2 923 0 (tn p9), (m_g (ix p9 (σ.1 924 0)) (ix w 4) (True) σ)) else ((plc (σ.2.2.1 925 0) (tn p9) (σ.1 926 0)), (m_g (ix p9 (σ.1 924 0)) (ix w 4) (True) σ))) else (nI (σ.2.2.1 922 0 (tn p9)), (m_g (ix p9 (σ.1 924 0)) (ix w 4) (True) σ))) else (σ.2.2.2 920 0 (tn p9), (m_g (ix p9 (σ.1 924 0)) (ix w 4) (True) σ))) else (nI 0, (m_g (ix p9 (σ.1 924 0)) (ix w 4) (True) σ))
set_option maxRecDepth 100000 in
set_option maxHeartbeats 4000000 in
theorem c_X9_ofPallet {D : va_G} {cI cZ cO : ClassId} (l : Launch) (L : Lay) (σ : St) (ow : Nat → Prop) (p9 w : Int32) (hP : σ.1 924 0 ≤ 6) (hq6 : σ.1 926 0 ≤ 6) (hql : ∀ k, σ.2.2.1 925 0 k < 100) : RM D cI cZ cO rdom l yX9_ofPallet cX9_ofPallet 5 ((some FieldType.int)) 2 43 [.ref (L 999 0), .int p9, .int w] L σ ow ((m_ofPallet p9 w σ).1) ((m_ofPallet p9 w σ).2) := by
  refine rm_of rfl (Nat.le_of_ble_eq_true rfl) ?_
  intro p e s m below meth c ls X hK hG hr hlocks hl
  have X : CallFix p m c cX9_ofPallet 5 s _ TB RX9 := X
  have hx := X.1
  have hb := X.2.1
  have hS : va_S (AA ow s.heap.size) s.heap s.heap [] := va_S.rf
  have hA : ∀ q, ow q → AA ow s.heap.size q := fun _ h => Or.inl h
  have hl : lv_has ls 5 [(0, .ref (L 999 0)), (1, .int p9), (2, .int w)] := hl
  refine lv_aload_n hx hb dX9_ofPallet_0 rfl (lv_at hl 0 rfl) ?_
  refine lv_aload_n hx hb dX9_ofPallet_1 rfl (lv_at hl 0 rfl) ?_
  refine lv_iload_n hx hb dX9_ofPallet_2 rfl (lv_at hl 1 rfl) ?_
  refine rm_callV X hK hG hS yvX9_isPallet ml_X9_148 kX9 rfl rd_999 [.int p9] [.ref (L 999 0)] (c_X9_isPallet l L σ ow p9 (by omega)) rfl hl.1 rfl (Nat.le_of_ble_eq_true rfl) ⟨Nat.le_of_ble_eq_true rfl, Nat.le_of_ble_eq_true rfl⟩ ⟨Nat.zero_le _, Nat.zero_le _⟩ dX9_ofPallet_3 (fun H locs hG hS => ?_)
  refine lv_iload_n hx hb dX9_ofPallet_6 rfl (lv_at hl 2 rfl) ?_
  refine lv_iconst (v := nI 0) hx hb dX9_ofPallet_7 (by decide) ?_
  refine lv_iconst (v := nI 3) hx hb dX9_ofPallet_8 (by decide) ?_
  refine rm_callS X hK hG hS ysX9_in ml_X9_114 [.int w, .int (nI 0), .int (nI 3)] [.int (b2i (ix p9 (σ.1 924 0))), .ref (L 999 0)] (c_X9_in l L σ ow w (nI 0) (nI 3)) rfl hl.1 rfl (Nat.le_of_ble_eq_true rfl) ⟨Nat.le_of_ble_eq_true rfl, Nat.le_of_ble_eq_true rfl⟩ ⟨Nat.zero_le _, Nat.zero_le _⟩ dX9_ofPallet_9 (fun H locs hG hS => ?_)
  refine r_top (y := b2i (ix w 4)) (b2i_c (rg_z 3 (by decide))) ?_
  refine lv_iconst (v := nI 1) hx hb dX9_ofPallet_12 (by decide) ?_
  refine rm_callV X hK hG hS yvX9_goes ml_X9_127 kX9 rfl rd_999 [.int (b2i (ix p9 (σ.1 924 0))), .int (b2i (ix w 4)), .int (nI 1)] [] (c_X9_goes l L σ ow (ix p9 (σ.1 924 0)) (ix w 4) (True)) rfl hl.1 rfl (Nat.le_of_ble_eq_true rfl) ⟨Nat.le_of_ble_eq_true rfl, Nat.le_of_ble_eq_true rfl⟩ ⟨Nat.zero_le _, Nat.zero_le _⟩ dX9_ofPallet_13 (fun H locs hG hS => ?_)
  refine r_if_neB (tgt := 21) hx hb dX9_ofPallet_16 (by decide) (fun c_16 => ?_) (fun c_16 => ?_)
  · refine lv_iconst (v := (-1)) hx hb dX9_ofPallet_21 (by decide) ?_
    refine lv_istore_n (lv' := [(3, .int (-1)), (0, .ref (L 999 0)), (1, .int p9), (2, .int w)]) hx hb dX9_ofPallet_22 rfl hl (by decide) rfl (fun ls hl => ?_)
    refine lv_iconst (v := nI 0) hx hb dX9_ofPallet_23 (by decide) ?_
    refine lv_istore (lv' := [(4, .int (nI 0)), (3, .int (-1)), (0, .ref (L 999 0)), (1, .int p9), (2, .int w)]) hx hb dX9_ofPallet_24 hl (by decide) rfl (fun ls hl => ?_)
    refine r_loop (ι := Int32 × Nat) (fun (⟨u9, k⟩ : Int32 × Nat) => [(0, .ref (L 999 0)), (1, .int p9), (2, .int w), (3, .int u9), (4, .int (nI k))]) (fun (⟨u9, k⟩ : Int32 × Nat) => (m_g (ix p9 (σ.1 924 0)) (ix w 4) (True) σ)) (fun (⟨u9, k⟩ : Int32 × Nat) => σ.1 926 0 - k) (fun (⟨u9, k⟩ : Int32 × Nat) => u9 = plc (σ.2.2.1 925 0) (tn p9) k ∧ k ≤ σ.1 926 0) ((-1), 0) (⟨rfl, Nat.zero_le _⟩) hG hS (lv_sub hl [2, 3, 4, 1, 0] rfl) ?_
    rintro ⟨u9, k⟩ hinv ih H locs ls hG hS hl
    have hG : PW D cI cZ cO rdom L (m_g (ix p9 (σ.1 924 0)) (ix w 4) (True) σ) ow H := hG
    have hl : lv_has ls 5 [(0, .ref (L 999 0)), (1, .int p9), (2, .int w), (3, .int u9), (4, .int (nI k))] := hl
    obtain ⟨hu, hk⟩ := hinv
    refine lv_iload hx hb dX9_ofPallet_26 (lv_at hl 4 rfl) ?_
    refine lv_aload_n hx hb dX9_ofPallet_28 rfl (lv_at hl 0 rfl) ?_
    refine gt_X9_138 X hK hG rd_999 (x := σ.1 926 0) rfl dX9_ofPallet_29 ?_
    refine r_icmp_geN (tgt := 59) hx hb dX9_ofPallet_32 (by decide) (by omega) (by omega) (fun c_32 => ?_) (fun c_32 => ?_)
    · refine lv_iload_n hx hb dX9_ofPallet_59 rfl (lv_at hl 2 rfl) ?_
      refine lv_if_ne (tgt := 72) hx hb dX9_ofPallet_60 (by decide) (fun c_60 => ?_) (fun c_60 => ?_)
      · refine lv_iload_n hx hb dX9_ofPallet_72 rfl (lv_at hl 2 rfl) ?_
        refine lv_iconst (v := nI 1) hx hb dX9_ofPallet_73 (by decide) ?_
        refine lv_icmp_ne (tgt := 86) hx hb dX9_ofPallet_74 (by decide) (fun c_74 => ?_) (fun c_74 => ?_)
        · refine lv_iload_n hx hb dX9_ofPallet_86 rfl (lv_at hl 2 rfl) ?_
          refine lv_iconst (v := nI 2) hx hb dX9_ofPallet_87 (by decide) ?_
          refine lv_icmp_ne (tgt := 95) hx hb dX9_ofPallet_88 (by decide) (fun c_88 => ?_) (fun c_88 => ?_)
          · refine lv_aload_n hx hb dX9_ofPallet_95 rfl (lv_at hl 0 rfl) ?_
            refine gt_X9_68 X hK hG rd_999 dX9_ofPallet_96 ?_
            refine lv_iload_n hx hb dX9_ofPallet_99 rfl (lv_at hl 1 rfl) ?_
            refine r_top (y := nI (tn p9)) (ix_eq c_16.1) ?_
            refine al_923 X hK hG rd_923 (i := tn p9) (x := σ.2.2.2 923 0 (tn p9)) (by have := ix_lt c_16.1; omega) rfl dX9_ofPallet_100 ?_
            exact rm_ret hx hb hr hlocks hG hS (by unfold m_ofPallet; rw [if_pos c_16, if_pos c_60, if_pos c_74, if_pos c_88] <;> (try rw [hu, show k = σ.1 926 0 by omega])) (by unfold m_ofPallet; rw [if_pos c_16, if_pos c_60, if_pos c_74, if_pos c_88] <;> (try rw [hu, show k = σ.1 926 0 by omega])) rfl dX9_ofPallet_101
          · refine lv_iload_n hx hb dX9_ofPallet_91 rfl (lv_at hl 3 rfl) ?_
            refine lv_goto (tgt := 101) hx hb dX9_ofPallet_92 (by decide) ?_
            exact rm_ret hx hb hr hlocks hG hS (by unfold m_ofPallet; rw [if_pos c_16, if_pos c_60, if_pos c_74, if_neg (not_not_intro9 c_88)] <;> (try rw [hu, show k = σ.1 926 0 by omega])) (by unfold m_ofPallet; rw [if_pos c_16, if_pos c_60, if_pos c_74, if_neg (not_not_intro9 c_88)] <;> (try rw [hu, show k = σ.1 926 0 by omega])) rfl dX9_ofPallet_101
        · refine lv_aload_n hx hb dX9_ofPallet_77 rfl (lv_at hl 0 rfl) ?_
          refine gt_X9_65 X hK hG rd_999 dX9_ofPallet_78 ?_
          refine lv_iload_n hx hb dX9_ofPallet_81 rfl (lv_at hl 1 rfl) ?_
          refine r_top (y := nI (tn p9)) (ix_eq c_16.1) ?_
          refine al_922 X hK hG rd_922 (i := tn p9) (x := σ.2.2.1 922 0 (tn p9)) (by have := ix_lt c_16.1; omega) rfl dX9_ofPallet_82 ?_
          refine lv_goto (tgt := 101) hx hb dX9_ofPallet_83 (by decide) ?_
          exact rm_ret hx hb hr hlocks hG hS (by unfold m_ofPallet; rw [if_pos c_16, if_pos c_60, if_neg (not_not_intro9 c_74)] <;> (try rw [hu, show k = σ.1 926 0 by omega])) (by unfold m_ofPallet; rw [if_pos c_16, if_pos c_60, if_neg (not_not_intro9 c_74)] <;> (try rw [hu, show k = σ.1 926 0 by omega])) rfl dX9_ofPallet_101
      · refine lv_aload_n hx hb dX9_ofPallet_63 rfl (lv_at hl 0 rfl) ?_
        refine gt_X9_59 X hK hG rd_999 dX9_ofPallet_64 ?_
        refine lv_iload_n hx hb dX9_ofPallet_67 rfl (lv_at hl 1 rfl) ?_
        refine r_top (y := nI (tn p9)) (ix_eq c_16.1) ?_
        refine al_920 X hK hG rd_920 (i := tn p9) (x := σ.2.2.2 920 0 (tn p9)) (by have := ix_lt c_16.1; omega) rfl dX9_ofPallet_68 ?_
        refine lv_goto (tgt := 101) hx hb dX9_ofPallet_69 (by decide) ?_
        exact rm_ret hx hb hr hlocks hG hS (by unfold m_ofPallet; rw [if_pos c_16, if_neg (not_not_intro9 c_60)] <;> (try rw [hu, show k = σ.1 926 0 by omega])) (by unfold m_ofPallet; rw [if_pos c_16, if_neg (not_not_intro9 c_60)] <;> (try rw [hu, show k = σ.1 926 0 by omega])) rfl dX9_ofPallet_101
    · refine r_cutH 52 [.int (if σ.2.2.1 925 0 k = tn p9 then nI k else u9)] hG hS (fun H locs hG hS => ?_) (fun J_52 => ?_)
      · refine lv_istore_n (lv' := [(3, .int (if σ.2.2.1 925 0 k = tn p9 then nI k else u9)), (0, .ref (L 999 0)), (1, .int p9), (2, .int w), (4, .int (nI k))]) hx hb dX9_ofPallet_52 rfl hl (by decide) rfl (fun ls hl => ?_)
        refine r_iincN (b := 1) (lv' := [(4, .int (nI (k + 1))), (3, .int (if σ.2.2.1 925 0 k = tn p9 then nI k else u9)), (0, .ref (L 999 0)), (1, .int p9), (2, .int w)]) hx hb dX9_ofPallet_53 hl (k := 4) rfl (by decide) (by decide) rfl (fun ls hl => ?_)
        refine lv_goto (tgt := 26) hx hb dX9_ofPallet_56 (by decide) ?_
        exact ih ((if σ.2.2.1 925 0 k = tn p9 then nI k else u9), k + 1) (by show _ - (k + 1) < _ - k; omega) (⟨by unfold plc; rw [← hu], by omega⟩) H locs ls hG hS (lv_sub hl [2, 3, 4, 1, 0] rfl)
      · refine lv_aload_n hx hb dX9_ofPallet_35 rfl (lv_at hl 0 rfl) ?_
        refine gt_X9_71 X hK hG rd_999 dX9_ofPallet_36 ?_
        refine lv_iload hx hb dX9_ofPallet_39 (lv_at hl 4 rfl) ?_
        refine al_925 X hK hG rd_925 (i := k) (x := σ.2.2.1 925 0 k) (by omega) rfl dX9_ofPallet_41 ?_
        refine lv_iload_n hx hb dX9_ofPallet_42 rfl (lv_at hl 1 rfl) ?_
        refine r_top (y := nI (tn p9)) (ix_eq c_16.1) ?_
        refine r_icmp_neN (tgt := 51) hx hb dX9_ofPallet_43 (by decide) (by have := hql k; omega) (by have := ix_lt c_16.1; omega) (fun c_43 => ?_) (fun c_43 => ?_)
        · refine lv_iload_n hx hb dX9_ofPallet_51 rfl (lv_at hl 3 rfl) ?_
          exact r_top ((if_neg c_43).symm) (J_52 _ _ hG hS)
        · refine lv_iload hx hb dX9_ofPallet_46 (lv_at hl 4 rfl) ?_
          refine lv_goto (tgt := 52) hx hb dX9_ofPallet_48 (by decide) ?_
          exact r_top ((if_pos c_43).symm) (J_52 _ _ hG hS)
  · refine lv_iconst (v := nI 0) hx hb dX9_ofPallet_19 (by decide) ?_
    exact rm_ret hx hb hr hlocks hG hS (by unfold m_ofPallet; rw [if_neg c_16] <;> (try rw [hu, show k = σ.1 926 0 by omega])) (by unfold m_ofPallet; rw [if_neg c_16] <;> (try rw [hu, show k = σ.1 926 0 by omega])) rfl dX9_ofPallet_20
def m_ofPaper (p9 w : Int32) (σ : St) : Int32 × St := if ¬ ((ix p9 (σ.1 934 0)) ∧ (ix w 11) ∧ (True)) then (nI 0, (m_g (ix p9 (σ.1 934 0)) (ix w 11) (True) σ)) else (σ.2.2.2 933 0 ((18 * (tn p9)) + (tn w)), (m_g (ix p9 (σ.1 934 0)) (ix w 11) (True) σ))
set_option maxRecDepth 100000 in
set_option maxHeartbeats 4000000 in
theorem c_X9_ofPaper {D : va_G} {cI cZ cO : ClassId} (l : Launch) (L : Lay) (σ : St) (ow : Nat → Prop) (p9 w : Int32) (hQ : σ.1 934 0 ≤ 30) : RM D cI cZ cO rdom l yX9_ofPaper cX9_ofPaper 3 ((some FieldType.int)) 1 23 [.ref (L 999 0), .int p9, .int w] L σ ow ((m_ofPaper p9 w σ).1) ((m_ofPaper p9 w σ).2) := by
  refine rm_of rfl (Nat.le_of_ble_eq_true rfl) ?_
  intro p e s m below meth c ls X hK hG hr hlocks hl
  have X : CallFix p m c cX9_ofPaper 3 s _ TB RX9 := X
  have hx := X.1
  have hb := X.2.1
  have hS : va_S (AA ow s.heap.size) s.heap s.heap [] := va_S.rf
  have hA : ∀ q, ow q → AA ow s.heap.size q := fun _ h => Or.inl h
  have hl : lv_has ls 3 [(0, .ref (L 999 0)), (1, .int p9), (2, .int w)] := hl
  refine lv_aload_n hx hb dX9_ofPaper_0 rfl (lv_at hl 0 rfl) ?_
  refine lv_iload_n hx hb dX9_ofPaper_1 rfl (lv_at hl 1 rfl) ?_
  refine lv_iconst (v := nI 0) hx hb dX9_ofPaper_2 (by decide) ?_
  refine lv_aload_n hx hb dX9_ofPaper_3 rfl (lv_at hl 0 rfl) ?_
  refine gt_X9_208 X hK hG rd_999 (x := σ.1 934 0) rfl dX9_ofPaper_4 ?_
  refine lv_iconst (v := nI 1) hx hb dX9_ofPaper_7 (by decide) ?_
  refine lv_isub hx hb dX9_ofPaper_8 ?_
  refine rm_callS X hK hG hS ysX9_in ml_X9_114 [.int p9, .int (nI 0), .int ((nI (σ.1 934 0)) - (nI 1))] [.ref (L 999 0)] (c_X9_in l L σ ow p9 (nI 0) ((nI (σ.1 934 0)) - (nI 1))) rfl hl.1 rfl (Nat.le_of_ble_eq_true rfl) ⟨Nat.le_of_ble_eq_true rfl, Nat.le_of_ble_eq_true rfl⟩ ⟨Nat.zero_le _, Nat.zero_le _⟩ dX9_ofPaper_9 (fun H locs hG hS => ?_)
  refine r_top (y := b2i (ix p9 (σ.1 934 0))) (b2i_c (rg_m (by omega))) ?_
  refine lv_iload_n hx hb dX9_ofPaper_12 rfl (lv_at hl 2 rfl) ?_
  refine lv_iconst (v := nI 0) hx hb dX9_ofPaper_13 (by decide) ?_
  refine lv_bipush (v := nI 10) hx hb dX9_ofPaper_14 (by decide) ?_
  refine rm_callS X hK hG hS ysX9_in ml_X9_114 [.int w, .int (nI 0), .int (nI 10)] [.int (b2i (ix p9 (σ.1 934 0))), .ref (L 999 0)] (c_X9_in l L σ ow w (nI 0) (nI 10)) rfl hl.1 rfl (Nat.le_of_ble_eq_true rfl) ⟨Nat.le_of_ble_eq_true rfl, Nat.le_of_ble_eq_true rfl⟩ ⟨Nat.zero_le _, Nat.zero_le _⟩ dX9_ofPaper_16 (fun H locs hG hS => ?_)
  refine r_top (y := b2i (ix w 11)) (b2i_c (rg_z 10 (by decide))) ?_
  refine lv_iconst (v := nI 1) hx hb dX9_ofPaper_19 (by decide) ?_
  refine rm_callV X hK hG hS yvX9_goes ml_X9_127 kX9 rfl rd_999 [.int (b2i (ix p9 (σ.1 934 0))), .int (b2i (ix w 11)), .int (nI 1)] [] (c_X9_goes l L σ ow (ix p9 (σ.1 934 0)) (ix w 11) (True)) rfl hl.1 rfl (Nat.le_of_ble_eq_true rfl) ⟨Nat.le_of_ble_eq_true rfl, Nat.le_of_ble_eq_true rfl⟩ ⟨Nat.zero_le _, Nat.zero_le _⟩ dX9_ofPaper_20 (fun H locs hG hS => ?_)
  refine r_if_eqB (tgt := 40) hx hb dX9_ofPaper_23 (by decide) (fun c_23 => ?_) (fun c_23 => ?_)
  · refine lv_iconst (v := nI 0) hx hb dX9_ofPaper_40 (by decide) ?_
    exact rm_ret hx hb hr hlocks hG hS (by unfold m_ofPaper; rw [if_pos c_23] <;> rfl) (by unfold m_ofPaper; rw [if_pos c_23] <;> rfl) rfl dX9_ofPaper_41
  · refine lv_aload_n hx hb dX9_ofPaper_26 rfl (lv_at hl 0 rfl) ?_
    refine gt_X9_89 X hK hG rd_999 dX9_ofPaper_27 ?_
    refine lv_bipush (v := nI 18) hx hb dX9_ofPaper_30 (by decide) ?_
    refine lv_iload_n hx hb dX9_ofPaper_32 rfl (lv_at hl 1 rfl) ?_
    refine r_top (y := nI (tn p9)) (ix_eq c_23.1) ?_
    refine r_mulN hx hb dX9_ofPaper_33 ?_
    refine lv_iload_n hx hb dX9_ofPaper_34 rfl (lv_at hl 2 rfl) ?_
    refine r_top (y := nI (tn w)) (ix_eq c_23.2.1) ?_
    refine r_addN hx hb dX9_ofPaper_35 ?_
    refine al_933 X hK hG rd_933 (i := (18 * (tn p9)) + (tn w)) (x := σ.2.2.2 933 0 ((18 * (tn p9)) + (tn w))) (by have h1 := ix_lt c_23.1; have h2 := ix_lt c_23.2.1; omega) rfl dX9_ofPaper_36 ?_
    refine lv_goto (tgt := 41) hx hb dX9_ofPaper_37 (by decide) ?_
    exact rm_ret hx hb hr hlocks hG hS (by unfold m_ofPaper; rw [if_neg (not_not_intro9 c_23)] <;> rfl) (by unfold m_ofPaper; rw [if_neg (not_not_intro9 c_23)] <;> rfl) rfl dX9_ofPaper_41
def m_judgeAnew (p9 : Int32) (nf : Nat → Nat) (σ : St) : Int32 × St := if ¬ ((ix p9 (σ.1 934 0)) ∧ (True) ∧ (True)) then (nI 0, (m_g (ix p9 (σ.1 934 0)) (True) (True) σ)) else (vdl (vdf (tn p9) (m_g (ix p9 (σ.1 934 0)) (True) (True) σ)) (nf (tn p9)), (m_g (ix p9 (σ.1 934 0)) (True) (True) σ))
set_option maxRecDepth 100000 in
set_option maxHeartbeats 4000000 in
theorem c_X9_judgeAnew {D : va_G} {cI cZ cO : ClassId} (l : Launch) (L : Lay) (σ : St) (ow : Nat → Prop) (p9 : Int32) (hQ : σ.1 934 0 ≤ 30) (nf : Nat → Nat) (hnf : ∀ k, k < σ.1 934 0 → nf k ≤ 6 ∧ σ.2.2.2 933 0 (18 * k + 17) = nI (nf k)) : RM D cI cZ cO rdom l yX9_judgeAnew cX9_judgeAnew 2 ((some FieldType.int)) 2 46 [.ref (L 999 0), .int p9] L σ ow ((m_judgeAnew p9 nf σ).1) ((m_judgeAnew p9 nf σ).2) := by
  refine rm_of rfl (Nat.le_of_ble_eq_true rfl) ?_
  intro p e s m below meth c ls X hK hG hr hlocks hl
  have X : CallFix p m c cX9_judgeAnew 2 s _ TB RX9 := X
  have hx := X.1
  have hb := X.2.1
  have hS : va_S (AA ow s.heap.size) s.heap s.heap [] := va_S.rf
  have hA : ∀ q, ow q → AA ow s.heap.size q := fun _ h => Or.inl h
  have hl : lv_has ls 2 [(0, .ref (L 999 0)), (1, .int p9)] := hl
  refine lv_aload_n hx hb dX9_judgeAnew_0 rfl (lv_at hl 0 rfl) ?_
  refine lv_iload_n hx hb dX9_judgeAnew_1 rfl (lv_at hl 1 rfl) ?_
  refine lv_iconst (v := nI 0) hx hb dX9_judgeAnew_2 (by decide) ?_
  refine lv_aload_n hx hb dX9_judgeAnew_3 rfl (lv_at hl 0 rfl) ?_
  refine gt_X9_208 X hK hG rd_999 (x := σ.1 934 0) rfl dX9_judgeAnew_4 ?_
  refine lv_iconst (v := nI 1) hx hb dX9_judgeAnew_7 (by decide) ?_
  refine lv_isub hx hb dX9_judgeAnew_8 ?_
  refine rm_callS X hK hG hS ysX9_in ml_X9_114 [.int p9, .int (nI 0), .int ((nI (σ.1 934 0)) - (nI 1))] [.ref (L 999 0)] (c_X9_in l L σ ow p9 (nI 0) ((nI (σ.1 934 0)) - (nI 1))) rfl hl.1 rfl (Nat.le_of_ble_eq_true rfl) ⟨Nat.le_of_ble_eq_true rfl, Nat.le_of_ble_eq_true rfl⟩ ⟨Nat.zero_le _, Nat.zero_le _⟩ dX9_judgeAnew_9 (fun H locs hG hS => ?_)
  refine r_top (y := b2i (ix p9 (σ.1 934 0))) (b2i_c (rg_m (by omega))) ?_
  refine lv_iconst (v := nI 1) hx hb dX9_judgeAnew_12 (by decide) ?_
  refine lv_iconst (v := nI 1) hx hb dX9_judgeAnew_13 (by decide) ?_
  refine rm_callV X hK hG hS yvX9_goes ml_X9_127 kX9 rfl rd_999 [.int (b2i (ix p9 (σ.1 934 0))), .int (nI 1), .int (nI 1)] [] (c_X9_goes l L σ ow (ix p9 (σ.1 934 0)) (True) (True)) rfl hl.1 rfl (Nat.le_of_ble_eq_true rfl) ⟨Nat.le_of_ble_eq_true rfl, Nat.le_of_ble_eq_true rfl⟩ ⟨Nat.zero_le _, Nat.zero_le _⟩ dX9_judgeAnew_14 (fun H locs hG hS => ?_)
  refine r_if_eqB (tgt := 28) hx hb dX9_judgeAnew_17 (by decide) (fun c_17 => ?_) (fun c_17 => ?_)
  · refine lv_iconst (v := nI 0) hx hb dX9_judgeAnew_28 (by decide) ?_
    exact rm_ret hx hb hr hlocks hG hS (by unfold m_judgeAnew; rw [if_pos c_17] <;> rfl) (by unfold m_judgeAnew; rw [if_pos c_17] <;> rfl) rfl dX9_judgeAnew_29
  · refine lv_aload_n hx hb dX9_judgeAnew_20 rfl (lv_at hl 0 rfl) ?_
    refine lv_iload_n hx hb dX9_judgeAnew_21 rfl (lv_at hl 1 rfl) ?_
    refine r_top (y := nI (tn p9)) (ix_eq c_17.1) ?_
    refine rm_callV X hK hG hS yvX9_verdictOf ml_X9_218 kX9 rfl rd_999 [.int (nI (tn p9))] [] (c_X9_verdictOf l L (m_g (ix p9 (σ.1 934 0)) (True) (True) σ) ow (tn p9) (nf (tn p9)) (by have := ix_lt c_17.1; omega) (hnf (tn p9) (ix_lt c_17.1)).1 (hnf (tn p9) (ix_lt c_17.1)).2) rfl hl.1 rfl (Nat.le_of_ble_eq_true rfl) ⟨Nat.le_of_ble_eq_true rfl, Nat.le_of_ble_eq_true rfl⟩ ⟨Nat.zero_le _, Nat.zero_le _⟩ dX9_judgeAnew_22 (fun H locs hG hS => ?_)
    refine lv_goto (tgt := 29) hx hb dX9_judgeAnew_25 (by decide) ?_
    exact rm_ret hx hb hr hlocks hG hS (by unfold m_judgeAnew; rw [if_neg (not_not_intro9 c_17)] <;> rfl) (by unfold m_judgeAnew; rw [if_neg (not_not_intro9 c_17)] <;> rfl) rfl dX9_judgeAnew_29
