/-! tryWhole, prove, takes, plan -/
def KR (σ : St) : Prop := CI σ ∧ (∀ k, σ.1 402 k ≤ 30) ∧ (∀ k, σ.2.2.1 702 0 k ≤ 30) ∧ PK σ
theorem nd_le (σ : St) : nd σ ≤ 1 := by unfold nd; split <;> decide
theorem run_kr {σ : St} {p g : Nat} {v : Int32} (h : KR σ) (hv : ix v (σ.1 1002 6)) : KR (k_run p v g σ) ∧ FB σ (k_run p v g σ) ∧ nd (k_run p v g σ) = 0 := by
  obtain ⟨a, b⟩ := run_inv (p := p) (g := g) h.1 hv h.2.1 h.2.2.1 h.2.2.2
  exact ⟨⟨a.1, a.2.2.2.1, a.2.2.2.2, pk_ofB h.2.2.2 b⟩, b, if_neg a.2.2.1⟩
abbrev kP (v1 v2 : Int32) (σ : St) : Prop := ix v1 (σ.1 1002 1) ∧ ix v2 (σ.1 1002 6)
def k_try (v1 v2 : Int32) (σ : St) : St := if kP v1 v2 σ then k_run (σ.2.2.1 1001 1 (tn v1)) v2 0 σ else σ
set_option maxHeartbeats 4000000 in
theorem y_X8_tryWhole {D : va_G} {cI cZ cO : ClassId} {t0 mi : Nat} (l : Launch) (hl9 : l.stackTraces = false) (L : Lay) (σ : St) (ow : Nat → Prop) (v1 v2 : Int32) (hR : KR σ) : YVo D cI cZ cO t0 mi l yX8_tryWhole cX8_tryWhole 4 13 450 3 22 [.ref (L 899 0), .int v1, .int v2] L σ ow (if kP v1 v2 σ then 0 else 1) (k_try v1 v2 σ) := by
  refine y_of (Qc := fun sz => YQv (if kP v1 v2 σ then 0 else 1) (XB D cI cZ cO t0 L σ ow sz (k_try v1 v2 σ)) (AA ow sz)) (XC := fun sz => YX (if kP v1 v2 σ then 0 else 1) (XB D cI cZ cO t0 L σ ow sz (k_try v1 v2 σ)) (AA ow sz)) rfl (Nat.le_of_ble_eq_true rfl) ?_
  intro p e s m args below meth c ls X hex hK hC hE hX9 hr hlocks hl
  have X : CallFix p m c cX8_tryWhole 4 s _ TB RX8 := X
  have hx := X.1
  have hb := X.2.1
  have hS : va_S (AA ow s.heap.size) s.heap s.heap [] := va_S.rf
  have hA : ∀ q, ow q → AA ow s.heap.size q := fun _ h => Or.inl h
  have hA2 : ∀ q, AA ow s.heap.size q → AA ow s.heap.size q := fun _ h => h
  have hG := hC.1
  have hI := hR.1
  have hnd := nd_le σ
  have hl : lv_has ls 4 [(0, .ref (L 899 0)), (1, .int v1), (2, .int v2)] := hl
  refine lv_aload_n hx hb dX8_tryWhole_0 rfl (lv_at hl 0 rfl) ?_
  refine lv_iload_n hx hb dX8_tryWhole_1 rfl (lv_at hl 1 rfl) ?_
  refine z_callqP (P := ix v1 (σ.1 1002 1)) X hK hG hS hA2 hX9 yvX8_palletAt ml_X8_141 kX8 rfl (cd_fix (by decide)) [.int v1] [] (z_X8_palletAt l hl9 L σ ow v1 hI) rfl hl.1 rfl (Nat.le_of_ble_eq_true rfl) ⟨Nat.le_of_ble_eq_true rfl, Nat.le_of_ble_eq_true rfl⟩ ⟨Nat.le_of_ble_eq_true rfl, Nat.le_of_ble_eq_true rfl⟩ dX8_tryWhole_2 (fun hn H locs q ce hG hS hq hv hcl => ?_) (fun hp1 H locs hG hS => ?_)
  · have hn2 : ¬ kP v1 v2 σ := fun z => hn z.1
    rw [show k_try v1 v2 σ = σ from if_neg hn2, if_neg hn2]
    exact y_out hex hlocks (xb_rf hC hG ⟨rfl, rfl⟩) hS hq hv hcl (by decide) rfl (Nat.le_of_ble_eq_true rfl) (Nat.le_of_ble_eq_true rfl)
  have hk : σ.2.2.1 1001 1 (tn v1) < σ.1 1002 1 := hI.2 1 (by decide) _ (ix_lt hp1)
  show W p l e _ s m args below meth c H locs _ _ _ (F0 m 5 ls (.ref (L 299 (σ.2.2.1 1001 1 (tn v1))) :: []))
  refine lv_astore_n (lv' := [(3, .ref (L 299 (σ.2.2.1 1001 1 (tn v1)))), (0, .ref (L 899 0)), (1, .int v1), (2, .int v2)]) hx hb dX8_tryWhole_5 rfl hl (by decide) rfl (fun ls hl => ?_)
  refine lv_aload_n hx hb dX8_tryWhole_6 rfl (lv_at hl 1 rfl) ?_
  refine lv_iload_n hx hb dX8_tryWhole_7 rfl (lv_at hl 3 rfl) ?_
  refine z_callqP (P := ix v2 (σ.1 1002 6)) X hK hG hS hA2 hX9 yvX8_programAt ml_X8_79 kX8 rfl (cd_fix (by decide)) [.int v2] [] (z_X8_programAt l hl9 L σ ow v2 hI) rfl hl.1 rfl (Nat.le_of_ble_eq_true rfl) ⟨Nat.le_of_ble_eq_true rfl, Nat.le_of_ble_eq_true rfl⟩ ⟨Nat.le_of_ble_eq_true rfl, Nat.le_of_ble_eq_true rfl⟩ dX8_tryWhole_8 (fun hn H locs q ce hG hS hq hv hcl => ?_) (fun hp2 H locs hG hS => ?_)
  · have hn2 : ¬ kP v1 v2 σ := fun z => hn z.2
    rw [show k_try v1 v2 σ = σ from if_neg hn2, if_neg hn2]
    exact y_out hex hlocks (xb_rf hC hG ⟨rfl, rfl⟩) hS hq hv hcl (by decide) rfl (Nat.le_of_ble_eq_true rfl) (Nat.le_of_ble_eq_true rfl)
  have hP : kP v1 v2 σ := ⟨hp1, hp2⟩
  rw [show k_try v1 v2 σ = k_run (σ.2.2.1 1001 1 (tn v1)) v2 0 σ from if_pos hP, if_pos hP]
  refine lv_pop hx hb dX8_tryWhole_11 rfl ?_
  refine lv_aload_n hx hb dX8_tryWhole_12 rfl (lv_at hl 1 rfl) ?_
  refine gt_X8_51 X hK hG (cd_fix (by decide)) dX8_tryWhole_13 ?_
  refine lv_aload_n hx hb dX8_tryWhole_16 rfl (lv_at hl 1 rfl) ?_
  refine gt_X8_44 X hK hG (cd_fix (by decide)) dX8_tryWhole_17 ?_
  refine lv_aload_n hx hb dX8_tryWhole_20 rfl (lv_at hl 0 rfl) ?_
  refine lv_iload_n hx hb dX8_tryWhole_21 rfl (lv_at hl 3 rfl) ?_
  refine lv_iconst (v := nI 0) hx hb dX8_tryWhole_22 (by decide) ?_
  refine xv_callV X hK ⟨hG, hC.2⟩ hS hA (fun q h => Or.inr h) hE yvX6_run ml_X8_202 kX6 rfl (cd_fix (by decide)) [.ref (L 799 0), .ref (L 299 (σ.2.2.1 1001 1 (tn v1))), .int v2, .int (nI 0)] [] (x_X6_run l L σ ow _ 0 v2 hI hk hp2 hR.2.1 hR.2.2.1 hR.2.2.2 (by decide)) rfl hl.1 rfl (Nat.le_of_ble_eq_true rfl) ⟨Nat.le_of_ble_eq_true rfl, Nat.le_of_ble_eq_true rfl⟩ ⟨by show 0 + 1 + 1 + nd σ ≤ 3; omega, by show 0 + 6 + 6 + 10 * nd σ ≤ 22; omega⟩ dX8_tryWhole_23 (fun L' ow' H locs hLx hO' hC' hS => ?_)
  exact y_retv hx hb hr hlocks ⟨L', ow', hLx, hO', hC'⟩ hS rfl (by show 0 + 1 + 1 + nd σ ≤ 3; omega) (by show 0 + 6 + 6 + 10 * nd σ ≤ 22; omega) dX8_tryWhole_26
def k_prv (σ : St) : Int32 := if σ.2.1 604 0 = 0 then -1 else nI 10000 * σ.2.1 604 0 + nI (σ.1 602 0)
set_option maxHeartbeats 4000000 in
theorem y_X8_prove {D : va_G} {cI cZ cO : ClassId} {t0 mi : Nat} (l : Launch) (hl9 : l.stackTraces = false) (L : Lay) (σ : St) (ow : Nat → Prop) (v1 v2 : Int32) (hR : KR σ) : YI D cI cZ cO t0 mi l yX8_prove cX8_prove 3 (some FieldType.int) 14 480 3 22 [.ref (L 899 0), .int v1, .int v2] L σ ow (if kP v1 v2 σ then 0 else 1) (k_prv (k_try v1 v2 σ)) (k_try v1 v2 σ) := by
  refine y_of (Qc := fun sz => YQi (if kP v1 v2 σ then 0 else 1) (k_prv (k_try v1 v2 σ)) (XB D cI cZ cO t0 L σ ow sz (k_try v1 v2 σ)) (AA ow sz)) (XC := fun sz => YX (if kP v1 v2 σ then 0 else 1) (XB D cI cZ cO t0 L σ ow sz (k_try v1 v2 σ)) (AA ow sz)) rfl (Nat.le_of_ble_eq_true rfl) ?_
  intro p e s m args below meth c ls X hex hK hC hE hX9 hr hlocks hl
  have X : CallFix p m c cX8_prove 3 s _ TB RX8 := X
  have hx := X.1
  have hb := X.2.1
  have hS : va_S (AA ow s.heap.size) s.heap s.heap [] := va_S.rf
  have hA : ∀ q, ow q → AA ow s.heap.size q := fun _ h => Or.inl h
  have hl : lv_has ls 3 [(0, .ref (L 899 0)), (1, .int v1), (2, .int v2)] := hl
  refine lv_aload_n hx hb dX8_prove_0 rfl (lv_at hl 0 rfl) ?_
  refine lv_iload_n hx hb dX8_prove_1 rfl (lv_at hl 1 rfl) ?_
  refine lv_iload_n hx hb dX8_prove_2 rfl (lv_at hl 2 rfl) ?_
  refine y_callvV X hK hC hS hA (fun q h => Or.inr h) hE hX9 yvX8_tryWhole ml_X8_162 kX8 rfl (cd_fix (by decide)) [.int v1, .int v2] [] (y_X8_tryWhole l hl9 L σ ow v1 v2 hR) rfl hl.1 rfl (Nat.le_of_ble_eq_true rfl) ⟨Nat.le_of_ble_eq_true rfl, Nat.le_of_ble_eq_true rfl⟩ ⟨Nat.le_of_ble_eq_true rfl, Nat.le_of_ble_eq_true rfl⟩ dX8_prove_3 (fun he L' ow' H locs q ce hLx hO' hC' hS hq hv hcl => ?_) (fun he L' ow' H locs hLx hO' hC' hS => ?_)
  · exact y_out hex hlocks ⟨L', ow', hLx, hO', hC'⟩ hS hq hv hcl he rfl (Nat.le_of_ble_eq_true rfl) (Nat.le_of_ble_eq_true rfl)
  have fin : ∀ (H : Heap) (locs : List Loc) (v : Int32), CW D cI cZ cO t0 L' (k_try v1 v2 σ) ow' H → va_S (AA ow s.heap.size) s.heap H locs → v = k_prv (k_try v1 v2 σ) → W p l e { frames := 14, cells := 3, slots := 22, locals := 480 } s m args below meth c H locs (0 + 3) (0 + 22) (vx_MQ below (YQi (if kP v1 v2 σ then 0 else 1) (k_prv (k_try v1 v2 σ)) (XB D cI cZ cO t0 L σ ow s.heap.size (k_try v1 v2 σ)) (AA ow s.heap.size)) (YX (if kP v1 v2 σ then 0 else 1) (XB D cI cZ cO t0 L σ ow s.heap.size (k_try v1 v2 σ)) (AA ow s.heap.size)) args s 3 22 (AA ow s.heap.size)) (F0 m 39 ls [.int v]) := fun H locs v hC' hS hv =>
    y_reti hx hb hr hlocks ⟨L', ow', hLx, hO', hC'⟩ hS hv he rfl (Nat.le_of_ble_eq_true rfl) (Nat.le_of_ble_eq_true rfl) dX8_prove_39
  generalize k_try v1 v2 σ = σ1 at hC' fin ⊢
  have hG' := hC'.1
  rw [← hLx 899 0 (cd_fix (by decide)) (by decide)] at hl
  refine lv_aload_n hx hb dX8_prove_6 rfl (lv_at hl 0 rfl) ?_
  refine gt_X8_51 X hK hG' (cd_fix (by decide)) dX8_prove_7 ?_
  refine gt_X8_165 X hK hG' (cd_fix (by decide)) rfl dX8_prove_10 ?_
  refine lv_if_ne (tgt := 20) hx hb dX8_prove_13 (by decide) (fun c_13 => ?_) (fun c_13 => ?_)
  · refine lv_sipush (v := nI 10000) hx hb dX8_prove_20 (by decide) ?_
    refine lv_aload_n hx hb dX8_prove_23 rfl (lv_at hl 0 rfl) ?_
    refine gt_X8_51 X hK hG' (cd_fix (by decide)) dX8_prove_24 ?_
    refine gt_X8_165 X hK hG' (cd_fix (by decide)) rfl dX8_prove_27 ?_
    refine lv_imul hx hb dX8_prove_30 ?_
    refine lv_aload_n hx hb dX8_prove_31 rfl (lv_at hl 0 rfl) ?_
    refine gt_X8_51 X hK hG' (cd_fix (by decide)) dX8_prove_32 ?_
    refine gt_X8_168 X hK hG' (cd_fix (by decide)) rfl dX8_prove_35 ?_
    refine lv_iadd hx hb dX8_prove_38 ?_
    exact fin H locs _ hC' hS (if_neg c_13).symm
  · refine lv_iconst (v := (-1)) hx hb dX8_prove_16 (by decide) ?_
    refine lv_goto (tgt := 39) hx hb dX8_prove_17 (by decide) ?_
    exact fin H locs _ hC' hS (if_pos c_13).symm
def k_tks (σ : St) : Int32 := if σ.2.1 604 0 = 0 then nI (σ.1 603 0) else -1
set_option maxHeartbeats 4000000 in
theorem y_X8_takes {D : va_G} {cI cZ cO : ClassId} {t0 mi : Nat} (l : Launch) (hl9 : l.stackTraces = false) (L : Lay) (σ : St) (ow : Nat → Prop) (v1 v2 : Int32) (hR : KR σ) : YI D cI cZ cO t0 mi l yX8_takes cX8_takes 3 (some FieldType.int) 14 480 3 22 [.ref (L 899 0), .int v1, .int v2] L σ ow (if kP v1 v2 σ then 0 else 1) (k_tks (k_try v1 v2 σ)) (k_try v1 v2 σ) := by
  refine y_of (Qc := fun sz => YQi (if kP v1 v2 σ then 0 else 1) (k_tks (k_try v1 v2 σ)) (XB D cI cZ cO t0 L σ ow sz (k_try v1 v2 σ)) (AA ow sz)) (XC := fun sz => YX (if kP v1 v2 σ then 0 else 1) (XB D cI cZ cO t0 L σ ow sz (k_try v1 v2 σ)) (AA ow sz)) rfl (Nat.le_of_ble_eq_true rfl) ?_
  intro p e s m args below meth c ls X hex hK hC hE hX9 hr hlocks hl
  have X : CallFix p m c cX8_takes 3 s _ TB RX8 := X
  have hx := X.1
  have hb := X.2.1
  have hS : va_S (AA ow s.heap.size) s.heap s.heap [] := va_S.rf
  have hA : ∀ q, ow q → AA ow s.heap.size q := fun _ h => Or.inl h
  have hl : lv_has ls 3 [(0, .ref (L 899 0)), (1, .int v1), (2, .int v2)] := hl
  refine lv_aload_n hx hb dX8_takes_0 rfl (lv_at hl 0 rfl) ?_
  refine lv_iload_n hx hb dX8_takes_1 rfl (lv_at hl 1 rfl) ?_
  refine lv_iload_n hx hb dX8_takes_2 rfl (lv_at hl 2 rfl) ?_
  refine y_callvV X hK hC hS hA (fun q h => Or.inr h) hE hX9 yvX8_tryWhole ml_X8_162 kX8 rfl (cd_fix (by decide)) [.int v1, .int v2] [] (y_X8_tryWhole l hl9 L σ ow v1 v2 hR) rfl hl.1 rfl (Nat.le_of_ble_eq_true rfl) ⟨Nat.le_of_ble_eq_true rfl, Nat.le_of_ble_eq_true rfl⟩ ⟨Nat.le_of_ble_eq_true rfl, Nat.le_of_ble_eq_true rfl⟩ dX8_takes_3 (fun he L' ow' H locs q ce hLx hO' hC' hS hq hv hcl => ?_) (fun he L' ow' H locs hLx hO' hC' hS => ?_)
  · exact y_out hex hlocks ⟨L', ow', hLx, hO', hC'⟩ hS hq hv hcl he rfl (Nat.le_of_ble_eq_true rfl) (Nat.le_of_ble_eq_true rfl)
  have fin : ∀ (H : Heap) (locs : List Loc) (v : Int32), CW D cI cZ cO t0 L' (k_try v1 v2 σ) ow' H → va_S (AA ow s.heap.size) s.heap H locs → v = k_tks (k_try v1 v2 σ) → W p l e { frames := 14, cells := 3, slots := 22, locals := 480 } s m args below meth c H locs (0 + 3) (0 + 22) (vx_MQ below (YQi (if kP v1 v2 σ then 0 else 1) (k_tks (k_try v1 v2 σ)) (XB D cI cZ cO t0 L σ ow s.heap.size (k_try v1 v2 σ)) (AA ow s.heap.size)) (YX (if kP v1 v2 σ then 0 else 1) (XB D cI cZ cO t0 L σ ow s.heap.size (k_try v1 v2 σ)) (AA ow s.heap.size)) args s 3 22 (AA ow s.heap.size)) (F0 m 27 ls [.int v]) := fun H locs v hC' hS hv =>
    y_reti hx hb hr hlocks ⟨L', ow', hLx, hO', hC'⟩ hS hv he rfl (Nat.le_of_ble_eq_true rfl) (Nat.le_of_ble_eq_true rfl) dX8_takes_27
  generalize k_try v1 v2 σ = σ1 at hC' fin ⊢
  have hG' := hC'.1
  rw [← hLx 899 0 (cd_fix (by decide)) (by decide)] at hl
  refine lv_aload_n hx hb dX8_takes_6 rfl (lv_at hl 0 rfl) ?_
  refine gt_X8_51 X hK hG' (cd_fix (by decide)) dX8_takes_7 ?_
  refine gt_X8_165 X hK hG' (cd_fix (by decide)) rfl dX8_takes_10 ?_
  refine lv_if_ne (tgt := 26) hx hb dX8_takes_13 (by decide) (fun c_13 => ?_) (fun c_13 => ?_)
  · refine lv_iconst (v := (-1)) hx hb dX8_takes_26 (by decide) ?_
    exact fin H locs _ hC' hS (if_neg c_13).symm
  · refine lv_aload_n hx hb dX8_takes_16 rfl (lv_at hl 0 rfl) ?_
    refine gt_X8_51 X hK hG' (cd_fix (by decide)) dX8_takes_17 ?_
    refine gt_X8_171 X hK hG' (cd_fix (by decide)) rfl dX8_takes_20 ?_
    refine lv_goto (tgt := 27) hx hb dX8_takes_23 (by decide) ?_
    exact fin H locs _ hC' hS (if_pos c_13).symm
def k_pln (v1 v2 : Int32) (σ : St) : Nat × Int32 × St :=
  if kP v1 v2 σ then (if (k_try v1 v2 σ).2.1 206 (σ.2.2.1 1001 1 (tn v1)) = 0 ∧ (k_try v1 v2 σ).2.1 604 0 = 0 then (0, nI (σ.1 1002 2 + 1), ladd 2 (σ.2.2.1 1001 1 (tn v1)) (wI (wI (k_try v1 v2 σ) 206 (σ.2.2.1 1001 1 (tn v1)) (nI 1)) 207 (σ.2.2.1 1001 1 (tn v1)) v2)) else (3, 0, k_try v1 v2 σ)) else (1, 0, σ)
set_option maxHeartbeats 4000000 in
theorem y_X8_plan {D : va_G} {cI cZ cO : ClassId} {t0 mi : Nat} (l : Launch) (hl9 : l.stackTraces = false) (L : Lay) (σ : St) (ow : Nat → Prop) (v1 v2 : Int32) (hR : KR σ) (hq6 : σ.1 1002 2 ≤ 6) : YI D cI cZ cO t0 mi l yX8_plan cX8_plan 4 (some FieldType.int) 14 480 6 50 [.ref (L 899 0), .int v1, .int v2] L σ ow (k_pln v1 v2 σ).1 (k_pln v1 v2 σ).2.1 (k_pln v1 v2 σ).2.2 := by
  refine y_of (Qc := fun sz => YQi (k_pln v1 v2 σ).1 (k_pln v1 v2 σ).2.1 (XB D cI cZ cO t0 L σ ow sz (k_pln v1 v2 σ).2.2) (AA ow sz)) (XC := fun sz => YX (k_pln v1 v2 σ).1 (XB D cI cZ cO t0 L σ ow sz (k_pln v1 v2 σ).2.2) (AA ow sz)) rfl (Nat.le_of_ble_eq_true rfl) ?_
  intro p e s m args below meth c ls X hex hK hC hE hX9 hr hlocks hl
  have X : CallFix p m c cX8_plan 4 s _ TB RX8 := X
  have hx := X.1
  have hb := X.2.1
  have hS : va_S (AA ow s.heap.size) s.heap s.heap [] := va_S.rf
  have hA : ∀ q, ow q → AA ow s.heap.size q := fun _ h => Or.inl h
  have hA2 : ∀ q, AA ow s.heap.size q → AA ow s.heap.size q := fun _ h => h
  have hG := hC.1
  have hI := hR.1
  have hl : lv_has ls 4 [(0, .ref (L 899 0)), (1, .int v1), (2, .int v2)] := hl
  refine lv_aload_n hx hb dX8_plan_0 rfl (lv_at hl 0 rfl) ?_
  refine lv_iload_n hx hb dX8_plan_1 rfl (lv_at hl 1 rfl) ?_
  refine z_callqP (P := ix v1 (σ.1 1002 1)) X hK hG hS hA2 hX9 yvX8_palletAt ml_X8_141 kX8 rfl (cd_fix (by decide)) [.int v1] [] (z_X8_palletAt l hl9 L σ ow v1 hI) rfl hl.1 rfl (Nat.le_of_ble_eq_true rfl) ⟨Nat.le_of_ble_eq_true rfl, Nat.le_of_ble_eq_true rfl⟩ ⟨Nat.le_of_ble_eq_true rfl, Nat.le_of_ble_eq_true rfl⟩ dX8_plan_2 (fun hn H locs q ce hG hS hq hv hcl => ?_) (fun hp1 H locs hG hS => ?_)
  · have hn2 : ¬ kP v1 v2 σ := fun z => hn z.1
    rw [show k_pln v1 v2 σ = (1, 0, σ) from if_neg hn2]
    exact y_out hex hlocks (xb_rf hC hG ⟨rfl, rfl⟩) hS hq hv hcl (by decide) rfl (Nat.le_of_ble_eq_true rfl) (Nat.le_of_ble_eq_true rfl)
  have hk : σ.2.2.1 1001 1 (tn v1) < σ.1 1002 1 := hI.2 1 (by decide) _ (ix_lt hp1)
  generalize hkk : σ.2.2.1 1001 1 (tn v1) = kk at hk
  show W p l e _ s m args below meth c H locs _ _ _ (F0 m 5 ls (.ref (L 299 kk) :: []))
  refine lv_astore_n (lv' := [(3, .ref (L 299 kk)), (0, .ref (L 899 0)), (1, .int v1), (2, .int v2)]) hx hb dX8_plan_5 rfl hl (by decide) rfl (fun ls hl => ?_)
  refine lv_aload_n hx hb dX8_plan_6 rfl (lv_at hl 1 rfl) ?_
  refine lv_iload_n hx hb dX8_plan_7 rfl (lv_at hl 2 rfl) ?_
  refine lv_iload_n hx hb dX8_plan_8 rfl (lv_at hl 3 rfl) ?_
  refine y_callvV X hK ⟨hG, hC.2⟩ hS hA (fun q h => Or.inr h) hE hX9 yvX8_tryWhole ml_X8_162 kX8 rfl (cd_fix (by decide)) [.int v1, .int v2] [] (y_X8_tryWhole l hl9 L σ ow v1 v2 hR) rfl hl.1 rfl (Nat.le_of_ble_eq_true rfl) ⟨Nat.le_of_ble_eq_true rfl, Nat.le_of_ble_eq_true rfl⟩ ⟨Nat.le_of_ble_eq_true rfl, Nat.le_of_ble_eq_true rfl⟩ dX8_plan_9 (fun he L' ow' H locs q ce hLx hO' hC' hS hq hv hcl => ?_) (fun he L' ow' H locs hLx hO' hC' hS => ?_)
  · have hn2 : ¬ kP v1 v2 σ := e1_n he
    rw [if_neg hn2] at hcl
    rw [show k_try v1 v2 σ = σ from if_neg hn2] at hC'
    rw [show k_pln v1 v2 σ = (1, 0, σ) from if_neg hn2]
    exact y_out hex hlocks ⟨L', ow', hLx, hO', hC'⟩ hS hq hv hcl (by decide) rfl (Nat.le_of_ble_eq_true rfl) (Nat.le_of_ble_eq_true rfl)
  have hP : kP v1 v2 σ := e1_p he
  have hpl : k_pln v1 v2 σ = if (k_try v1 v2 σ).2.1 206 kk = 0 ∧ (k_try v1 v2 σ).2.1 604 0 = 0 then (0, nI (σ.1 1002 2 + 1), ladd 2 kk (wI (wI (k_try v1 v2 σ) 206 kk (nI 1)) 207 kk v2)) else (3, 0, k_try v1 v2 σ) := by rw [← hkk]; exact if_pos hP
  obtain ⟨hKR, hFB, hnd⟩ := run_kr (p := σ.2.2.1 1001 1 (tn v1)) (g := 0) hR hP.2
  rw [← show k_try v1 v2 σ = k_run (σ.2.2.1 1001 1 (tn v1)) v2 0 σ from if_pos hP] at hKR hFB hnd
  generalize k_try v1 v2 σ = σ1 at hC' hpl hKR hFB hnd
  have hG' := hC'.1
  have hk1 : kk < σ1.1 1002 1 := by rw [(hFB.1 1002 1 (by omega) (by omega) (by omega)).1]; exact hk
  have hq1 : σ1.1 1002 2 = σ.1 1002 2 := (hFB.1 1002 2 (by omega) (by omega) (by omega)).1
  have h299 : cdom σ1 299 kk := cd_obj (by decide) (Or.inl (by decide)) hk1
  rw [← hLx 899 0 (cd_fix (by decide)) (by decide), ← hLx 299 kk (cd_obj (by decide) (Or.inl (by decide)) hk) (by decide)] at hl
  have thr : ∀ (H : Heap) (locs : List Loc), CW D cI cZ cO t0 L' σ1 ow' H → va_S (AA ow s.heap.size) s.heap H locs → ¬ (σ1.2.1 206 kk = 0 ∧ σ1.2.1 604 0 = 0) → W p l e { frames := 14, cells := 6, slots := 50, locals := 480 } s m args below meth c H locs (0 + 1 + 3) (0 + 6 + 22) (vx_MQ below (YQi (k_pln v1 v2 σ).1 (k_pln v1 v2 σ).2.1 (XB D cI cZ cO t0 L σ ow s.heap.size (k_pln v1 v2 σ).2.2) (AA ow s.heap.size)) (YX (k_pln v1 v2 σ).1 (XB D cI cZ cO t0 L σ ow s.heap.size (k_pln v1 v2 σ).2.2) (AA ow s.heap.size)) args s 6 50 (AA ow s.heap.size)) (F0 m 29 ls []) := fun H locs hC' hS hn => by
    rw [hpl, if_neg hn]
    exact y_throw (e8 := 3) (tx := "not raw, or something is wrong") hx X hl9 xw_3 hX9 (List.mem_of_getElem? (i := 15) rfl) hex hlocks hl.1 hS (xb_ext ⟨L', ow', hLx, hO', hC'⟩) (by decide) rfl dX8_plan_29 dX8_plan_32 dX8_plan_33 dX8_plan_35 dX8_plan_38 (Nat.le_of_ble_eq_true rfl) (Nat.le_of_ble_eq_true rfl) (Nat.le_of_ble_eq_true rfl) (Nat.le_of_ble_eq_true rfl) (Nat.le_of_ble_eq_true rfl) (Nat.le_of_ble_eq_true rfl)
  refine lv_aload_n hx hb dX8_plan_12 rfl (lv_at hl 0 rfl) ?_
  refine gt_X8_151 X hK hG' h299 rfl dX8_plan_13 ?_
  refine lv_if_ne (tgt := 29) hx hb dX8_plan_16 (by decide) (fun c_16 => ?_) (fun c_16 => ?_)
  · exact thr H locs hC' hS (fun z => c_16 z.1)
  refine lv_aload_n hx hb dX8_plan_19 rfl (lv_at hl 1 rfl) ?_
  refine gt_X8_51 X hK hG' (cd_fix (by decide)) dX8_plan_20 ?_
  refine gt_X8_165 X hK hG' (cd_fix (by decide)) rfl dX8_plan_23 ?_
  refine lv_if_eq (tgt := 39) hx hb dX8_plan_26 (by decide) (fun c_26 => ?_) (fun c_26 => ?_)
  rotate_left 1
  · exact thr H locs hC' hS (fun z => c_26 z.2)
  rw [if_pos ⟨c_16, c_26⟩] at hpl
  rw [hpl]
  refine lv_aload_n hx hb dX8_plan_39 rfl (lv_at hl 0 rfl) ?_
  refine lv_iconst (v := nI 1) hx hb dX8_plan_40 (by decide) ?_
  refine pt_X8_151 X hK hG' hS hO' h299 dX8_plan_41 (fun H locs hG' hS => ?_)
  refine lv_aload_n hx hb dX8_plan_44 rfl (lv_at hl 0 rfl) ?_
  refine lv_iload_n hx hb dX8_plan_45 rfl (lv_at hl 3 rfl) ?_
  refine pt_X8_176 X hK hG' hS hO' h299 dX8_plan_46 (fun H locs hG' hS => ?_)
  refine lv_aload_n hx hb dX8_plan_49 rfl (lv_at hl 1 rfl) ?_
  refine gt_X8_19 X hK hG' (cd_fix (by decide)) dX8_plan_50 ?_
  refine lv_aload_n hx hb dX8_plan_53 rfl (lv_at hl 0 rfl) ?_
  have hI1 : CI (wI (wI σ1 206 kk (nI 1)) 207 kk v2) := hKR.1
  have hC2 : CW D cI cZ cO t0 L' (wI (wI σ1 206 kk (nI 1)) 207 kk v2) (AA ow s.heap.size) H := ⟨hG'.ow2 (fun F k hd => hO' _ (hG'.2.2 F k hd)), hC'.2⟩
  have hI2 := hKR.1.1 2 (by decide)
  refine pw_add X hK hC2.1 hS (fun q h => h.elim id Or.inr) hE (j := 2) (M := 1) (S := 10) (lok_of hC2 hI1 (by decide)) (x := kk) h299 kX2 rfl (by decide) (hel_of hI1 (j := 2) (by decide)) (fun _ => ⟨Nat.le_refl _, Nat.le_refl _⟩) (fun z => by
    have z : σ1.1 1002 2 = σ1.1 1003 2 := z
    show 1 ≤ 1 ∧ σ1.1 1003 2 + σ1.1 1003 2 / 2 ≤ 10
    omega) ml_X8_58 hl.1 (Nat.le_of_ble_eq_true rfl) ⟨Nat.le_of_ble_eq_true rfl, Nat.le_of_ble_eq_true rfl⟩ ⟨Nat.le_of_ble_eq_true rfl, Nat.le_of_ble_eq_true rfl⟩ dX8_plan_54 (fun b H locs hG3 hAb hS => ?_)
  refine lv_pop hx hb dX8_plan_57 rfl ?_
  obtain ⟨L3, ow3, hL3, hO3, hC3⟩ := xb_add (sz := s.heap.size) (σ9 := wI (wI σ1 206 kk (nI 1)) 207 kk v2) hC2 (Or.inl rfl) rfl hI2.1 hG3 (Or.inl hAb)
  have hO3' : ∀ q, ow3 q → AA ow s.heap.size q := fun q h => (hO3 q h).elim id Or.inr
  have hL3' : ∀ F k, cdom σ F k → F ≠ 1001 → L3 F k = L F k := fun F k hd h1 => (hL3 F k (hFB.dom h1 hd) h1).trans (hLx F k hd h1)
  have hN : (ladd 2 kk (wI (wI σ1 206 kk (nI 1)) 207 kk v2)).1 1002 2 = σ.1 1002 2 + 1 := by
    rw [ladd_N]
    show σ1.1 1002 2 + 1 = _
    rw [hq1]
  rw [show L' 899 0 = L3 899 0 from (hL3 899 0 (cd_fix (by decide)) (by decide)).symm] at hl
  refine lv_aload_n hx hb dX8_plan_58 rfl (lv_at hl 1 rfl) ?_
  refine gt_X8_19 X hK hC3.1 (cd_fix (by decide)) dX8_plan_59 ?_
  refine x_size X hK hC3.1 hS (fun q h => h.elim (hO3' q) Or.inr) (cd_list (by decide)) ml_X8_65 hl.1 (Nat.le_of_ble_eq_true rfl) ⟨Nat.le_of_ble_eq_true rfl, Nat.le_of_ble_eq_true rfl⟩ ⟨Nat.le_of_ble_eq_true rfl, Nat.le_of_ble_eq_true rfl⟩ dX8_plan_62 (fun H locs hG4 hS => ?_)
  rw [hN]
  exact y_reti hx hb hr hlocks ⟨L3, ow3, hL3', hO3', hG4, hC3.2⟩ hS rfl rfl rfl (Nat.le_of_ble_eq_true rfl) (Nat.le_of_ble_eq_true rfl) dX8_plan_65
