set_option maxHeartbeats 4000000 in
theorem x_X8_night {D : va_G} {cI cZ cO : ClassId} {t0 mi : Nat} (l : Launch) (L : Lay) (σ : St) (ow : Nat → Prop) (hR : KR σ) (hT : TI σ) (hQ : QP σ) (hq6 : σ.1 1002 2 ≤ 6) : XI D cI cZ cO t0 mi l yX8_night cX8_night 4 (some FieldType.int) 14 480 1 10 [.ref (L 899 0)] L σ ow (k_ni 6 0 σ).1 (k_ni 6 0 σ).2 := by
  refine x_of (Qc := fun sz => XQi D cI cZ cO t0 L σ ow sz (k_ni 6 0 σ).1 (k_ni 6 0 σ).2) rfl (Nat.le_of_ble_eq_true rfl) ?_
  intro p e s m9 args below meth c ls X hK hC hE hr hlocks hl
  have X : CallFix p m9 c cX8_night 4 s _ TB RX8 := X
  have hx := X.1
  have hb := X.2.1
  have hS : va_S (AA ow s.heap.size) s.heap s.heap [] := va_S.rf
  have hA : ∀ q, ow q → AA ow s.heap.size q := fun _ h => Or.inl h
  have hl : lv_has ls 4 [(0, .ref (L 899 0))] := hl
  refine lv_iconst (v := nI 0) hx hb dX8_night_0 (by decide) ?_
  refine lv_istore_n (lv' := [(1, .int (nI 0)), (0, .ref (L 899 0))]) hx hb dX8_night_1 rfl hl (by decide) rfl (fun ls hl => ?_)
  refine lv_iconst (v := nI 0) hx hb dX8_night_2 (by decide) ?_
  refine lv_istore_n (lv' := [(2, .int (nI 0)), (1, .int (nI 0)), (0, .ref (L 899 0))]) hx hb dX8_night_3 rfl hl (by decide) rfl (fun ls hl => ?_)
  refine r_loopX (L0 := L) (σ0 := σ) (A := AA ow s.heap.size) (ι := Nat × Nat × St) (fun i L => [(2, .int (nI i.1)), (1, .int (nI i.1)), (0, .ref (L 899 0))]) (fun i => i.2.2) (fun i => 1 - nd i.2.2) (fun i => 10 - 10 * nd i.2.2) (fun i => i.2.1) (fun i => i.1 + i.2.1 = 6 ∧ KR i.2.2 ∧ TI i.2.2 ∧ QP i.2.2 ∧ i.2.2.1 1002 2 ≤ 6 ∧ k_ni 6 0 σ = k_ni i.2.1 i.1 i.2.2 ∧ ∀ F k, F ≠ 1001 → cdom σ F k → cdom i.2.2 F k) ?_ (0, 6, σ) ⟨rfl, hR, hT, hQ, hq6, rfl, fun _ _ _ h => h⟩ hC hA (fun _ _ _ _ => rfl) hS hl (Nat.zero_le _) (Nat.zero_le _)
  rintro ⟨n, f, σ9⟩ ⟨hnf, hR9, hT9, hQ9, hN9, hv9, hD9⟩ ih L9 ow9 H locs ls hC9 hO9 hL9 hS hl
  have hnf : n + f = 6 := hnf
  have hR9 : KR σ9 := hR9
  have hT9 : TI σ9 := hT9
  have hQ9 : QP σ9 := hQ9
  have hN9 : σ9.1 1002 2 ≤ 6 := hN9
  have hv9 : k_ni 6 0 σ = k_ni f n σ9 := hv9
  have hD9 : ∀ F k, F ≠ 1001 → cdom σ F k → cdom σ9 F k := hD9
  have hC9 : CW D cI cZ cO t0 L9 σ9 ow9 H := hC9
  have hl : lv_has ls 4 [(2, .int (nI n)), (1, .int (nI n)), (0, .ref (L9 899 0))] := hl
  have hG9 := hC9.1
  have hO9' : ∀ q, AA ow9 s.heap.size q → AA ow s.heap.size q := fun q h => h.elim (hO9 q) Or.inr
  have hnd9 := nd_le σ9
  show W p l e { frames := 14, cells := 1, slots := 10, locals := 480 } s m9 args below meth c H locs (1 - nd σ9) (10 - 10 * nd σ9) _ (F0 m9 4 ls [])
  have out : ∀ (H : Heap) (locs : List Loc) (ls : Array Slot) (L' : Lay) (ow' : Nat → Prop) (σ' : St) (lv9 : List (Nat × Value)) (k9 c1 s1 : Nat), lv_has ls 4 lv9 → lv9[k9]? = some (1, .int (nI n)) → k_ni 6 0 σ = (nI n, σ') → c1 ≤ 1 → s1 ≤ 10 → CW D cI cZ cO t0 L' σ' ow' H → (∀ q, ow' q → AA ow s.heap.size q) → (∀ F k, cdom σ F k → F ≠ 1001 → L' F k = L F k) → va_S (AA ow s.heap.size) s.heap H locs → W p l e { frames := 14, cells := 1, slots := 10, locals := 480 } s m9 args below meth c H locs c1 s1 (MQ below (XQi D cI cZ cO t0 L σ ow s.heap.size (k_ni 6 0 σ).1 (k_ni 6 0 σ).2) args s 1 10 (AA ow s.heap.size)) (F0 m9 66 ls []) := fun H locs ls L' ow' σ' lv9 k9 c1 s1 hl hk he h1 h2 hC' hO' hL' hS => by
    rw [he]
    refine lv_iload_n hx hb dX8_night_66 rfl (lv_at hl k9 hk) ?_
    exact xi_ret hx hb hr hlocks ⟨L', ow', hL', hO', hC'⟩ hS rfl rfl h1 h2 dX8_night_67
  refine lv_iload_n hx hb dX8_night_4 rfl (lv_at hl 0 rfl) ?_
  refine lv_bipush (v := nI 6) hx hb dX8_night_5 (by decide) ?_
  refine r_icmp_geN (tgt := 66) hx hb dX8_night_7 (by decide) (by omega) (by decide) (fun c_7 => ?_) (fun c_7 => ?_)
  · have f0 : f = 0 := by omega
    subst f0
    exact out H locs ls L9 ow9 σ9 _ 1 _ _ hl rfl hv9 (by omega) (by omega) hC9 hO9 hL9 hS
  obtain ⟨f, rfl⟩ : ∃ k, f = k + 1 := ⟨f - 1, by omega⟩
  have hv9 : k_ni 6 0 σ = if σ9.1 1002 2 = 0 then (nI n, σ9) else if (k_ice (σ9.2.2.1 1001 2 0) σ9).1 = 0 then (nI n, (k_ice (σ9.2.2.1 1001 2 0) σ9).2) else k_ni f (n + 1) (k_nx (k_ice (σ9.2.2.1 1001 2 0) σ9).2) := hv9
  refine lv_aload_n hx hb dX8_night_10 rfl (lv_at hl 2 rfl) ?_
  refine gt_X8_19 X hK hG9 (cd_fix (by decide)) dX8_night_11 ?_
  refine x_empty X hK hG9 hS hO9' (cd_list (by decide)) (by omega) ml_X8_95 hl.1 (Nat.le_of_ble_eq_true rfl) ⟨Nat.le_of_ble_eq_true rfl, Nat.le_of_ble_eq_true rfl⟩ ⟨by show 1 - nd σ9 ≤ 1; omega, by show 10 - 10 * nd σ9 ≤ 10; omega⟩ dX8_night_14 (fun H locs hG9 hS => ?_)
  refine r_if_neB (tgt := 66) hx hb dX8_night_17 (by decide) (fun c_17 => ?_) (fun c_17 => ?_)
  · rw [if_pos c_17] at hv9
    exact out H locs ls L9 ow9 σ9 _ 1 _ _ hl rfl hv9 (by omega) (by omega) ⟨hG9, hC9.2⟩ hO9 hL9 hS
  rw [if_neg c_17] at hv9
  have h0 : 0 < σ9.1 1002 2 := Nat.pos_of_ne_zero c_17
  have hel := hR9.1.2 2 (by decide) 0 h0
  have hqp := hQ9 0 h0
  refine lv_aload_n hx hb dX8_night_20 rfl (lv_at hl 2 rfl) ?_
  refine gt_X8_19 X hK hG9 (cd_fix (by decide)) dX8_night_21 ?_
  refine lv_iconst (v := nI 0) hx hb dX8_night_24 (by decide) ?_
  refine x_get8 X hK hG9 hS hO9' hR9.1 (j := 2) (i := 0) (by decide) rfl rfl h0 (O := 299) rfl (k := σ9.2.2.1 1001 2 0) rfl ml_X8_179 hl.1 (Nat.le_of_ble_eq_true rfl) ⟨Nat.le_of_ble_eq_true rfl, Nat.le_of_ble_eq_true rfl⟩ ⟨by show 1 - nd σ9 ≤ 1; omega, by show 10 - 10 * nd σ9 ≤ 10; omega⟩ dX8_night_25 (fun H locs hG9 hS => ?_)
  refine x_cast X hK hG9 kX2 rfl (cd_obj (by decide) (Or.inl (by decide)) hel) tw_2_156 dX8_night_28 ?_
  refine lv_astore_n (lv' := [(3, .ref (L9 299 (σ9.2.2.1 1001 2 0))), (2, .int (nI n)), (1, .int (nI n)), (0, .ref (L9 899 0))]) hx hb dX8_night_31 rfl hl (by decide) rfl (fun ls hl => ?_)
  refine lv_aload_n hx hb dX8_night_32 rfl (lv_at hl 3 rfl) ?_
  refine lv_aload_n hx hb dX8_night_33 rfl (lv_at hl 0 rfl) ?_
  refine xi_callV X hK ⟨hG9, hC9.2⟩ hS hO9 (fun q h => Or.inr h) hE yvX8_isCutToEnd ml_X8_183 kX8 rfl (cd_fix (by decide)) [.ref (L9 299 (σ9.2.2.1 1001 2 0))] [] (x_X8_isCutToEnd l L9 σ9 ow9 _ hR9.1 hel hqp.1 hR9.2.1 hR9.2.2.1 hR9.2.2.2 hT9 (Nat.lt_of_le_of_lt hqp.2 (by decide))) rfl hl.1 rfl (Nat.le_of_ble_eq_true rfl) ⟨Nat.le_of_ble_eq_true rfl, Nat.le_of_ble_eq_true rfl⟩ ⟨by show 1 - nd σ9 + nd σ9 ≤ 1; omega, by show 10 - 10 * nd σ9 + 10 * nd σ9 ≤ 10; omega⟩ dX8_night_34 (fun L1 ow1 H locs hLx hO1 hC1 hS => ?_)
  obtain ⟨i1, i2, i3, i4, i5⟩ := ice_inv (q := σ9.2.2.1 1001 2 0) hR9 hT9 hqp.1 hqp.2
  have hL1 : ∀ F k, cdom σ F k → F ≠ 1001 → L1 F k = L F k := fun F k hd hF => (hLx F k (hD9 F k hF hd) hF).trans (hL9 F k hd hF)
  have hQ1 := qp_fi hQ9 i4 i3
  rw [← hLx 899 0 (cd_fix (by decide)) (by decide), ← hLx 299 _ (cd_obj (by decide) (Or.inl (by decide)) hel) (by decide)] at hl
  have hel1 : σ9.2.2.1 1001 2 0 < (k_ice (σ9.2.2.1 1001 2 0) σ9).2.1 1002 1 := by
    rw [i4.1 1002 1 (by omega) (by omega) (by omega) (by decide) (by decide) (by decide) (by omega)]
    exact hel
  have hN1 : (k_ice (σ9.2.2.1 1001 2 0) σ9).2.1 1002 2 = σ9.1 1002 2 := i4.1 1002 2 (by omega) (by omega) (by omega) (by decide) (by decide) (by decide) (by omega)
  have hA1 : (k_ice (σ9.2.2.1 1001 2 0) σ9).2.2.2.1 1001 2 = σ9.2.2.1 1001 2 := i4.2.2.1 1001 2 (by decide) (by decide) (by decide) (by omega)
  have hDx : ∀ F k, F ≠ 1001 → cdom σ9 F k → cdom (k_ice (σ9.2.2.1 1001 2 0) σ9).2 F k := fun F k hF hd => fi_dom i4 hF hd
  generalize hqq : σ9.2.2.1 1001 2 0 = q at hel hel1 hqp hl i1 i2 i5 hQ1 hC1 hv9 hN1 hA1 hDx
  generalize hgs : k_ice q σ9 = gs at hel1 i1 i2 i5 hQ1 hC1 hv9 hN1 hA1 hDx
  obtain ⟨r1, σ1⟩ := gs
  have hv9 : k_ni 6 0 σ = if r1 = 0 then (nI n, σ1) else k_ni f (n + 1) (k_nx σ1) := hv9
  have hC1 : CW D cI cZ cO t0 L1 σ1 ow1 H := hC1
  have i1 : KR σ1 := i1
  have i2 : TI σ1 := i2
  have hQ1 : QP σ1 := hQ1
  have i5 : nd σ1 = 0 := i5
  have hN1 : σ1.1 1002 2 = σ9.1 1002 2 := hN1
  have hA1 : σ1.2.2.1 1001 2 = σ9.2.2.1 1001 2 := hA1
  have hq0 : σ1.2.2.1 1001 2 0 = q := by rw [hA1]; exact hqq
  have hel1 : q < σ1.1 1002 1 := hel1
  have hG1 := hC1.1
  have hO1' : ∀ q, AA ow1 s.heap.size q → AA ow s.heap.size q := fun q h => h.elim (hO1 q) Or.inr
  refine W.widen (k := 1) (n := 10) (by omega) (by omega) ?_
  show W p l e _ s m9 args below meth c H locs 1 10 _ (F0 m9 37 ls [.int r1])
  refine lv_if_ne (tgt := 43) hx hb dX8_night_37 (by decide) (fun c_37 => ?_) (fun c_37 => ?_)
  rotate_left 1
  · refine lv_goto (tgt := 66) hx hb dX8_night_40 (by decide) ?_
    rw [if_pos c_37] at hv9
    exact out H locs ls L1 ow1 σ1 _ 2 _ _ hl rfl hv9 (by omega) (by omega) hC1 hO1 hL1 hS
  rw [if_neg c_37] at hv9
  have h299 : cdom σ1 299 q := cd_obj (by decide) (Or.inl (by decide)) hel1
  refine lv_aload_n hx hb dX8_night_43 rfl (lv_at hl 0 rfl) ?_
  refine lv_iconst (v := nI 2) hx hb dX8_night_44 (by decide) ?_
  refine pt_X8_151 X hK hG1 hS hO1 h299 dX8_night_45 (fun H locs hG1 hS => ?_)
  refine lv_aload_n hx hb dX8_night_48 rfl (lv_at hl 3 rfl) ?_
  refine gt_X8_19 X hK hG1 (cd_fix (by decide)) dX8_night_49 ?_
  refine lv_iconst (v := nI 0) hx hb dX8_night_52 (by decide) ?_
  have hIw : CI (wI σ1 206 q (nI 2)) := i1.1
  have hCw : CW D cI cZ cO t0 L1 (wI σ1 206 q (nI 2)) ow1 H := ⟨hG1, hC1.2⟩
  refine pw_rem X hK hCw.1 hS hO1' hE (j := 2) (i := 0) (lok_of hCw hIw (by decide)) kX2 rfl (by decide) (hel_of hIw (j := 2) (by decide)) (by show 0 < σ1.1 1002 2; omega) ml_X8_187 hl.1 (Nat.le_of_ble_eq_true rfl) ⟨Nat.le_of_ble_eq_true rfl, Nat.le_of_ble_eq_true rfl⟩ ⟨Nat.le_refl _, Nat.le_refl _⟩ dX8_night_53 (fun H locs hG1 hS => ?_)
  refine lv_pop hx hb dX8_night_56 rfl ?_
  have hnx : k_nx σ1 = lrem 2 0 (wI σ1 206 q (nI 2)) := by unfold k_nx; rw [hq0]
  have hG1 : PW D cI cZ cO (cdom σ1) L1 (k_nx σ1) ow1 H := by rw [hnx]; exact hG1
  obtain ⟨n1, n2, n3, n4, n5⟩ := nx_inv i1 i2 hQ1
  have e3 : ∀ j, (k_nx σ1).1 1003 j = σ1.1 1003 j := fun j => by simp [k_nx, lrem, wI, up2]
  have eN2 : (k_nx σ1).1 1002 2 = σ1.1 1002 2 - 1 := by simp [k_nx, lrem, wI, up2, up1]
  have e2 : ∀ j, j ≠ 2 → (k_nx σ1).1 1002 j = σ1.1 1002 j := fun j hj => by simp [k_nx, lrem, wI, up2, up1, hj]
  have hC2 : CW D cI cZ cO t0 L1 (k_nx σ1) ow1 H := ⟨by rw [cdom_eq2 (σ := σ1) (fun j h _ => e2 j h) e3]; exact hG1, fun k hk h => hC1.2 k hk (by rw [← e3]; exact h)⟩
  refine r_iincN (b := 1) (lv' := [(1, .int (nI (n + 1))), (3, .ref (L1 299 q)), (2, .int (nI n)), (0, .ref (L1 899 0))]) hx hb dX8_night_57 hl (k := 2) rfl (by decide) (by decide) rfl (fun ls hl => ?_)
  refine r_iincN (b := 1) (lv' := [(2, .int (nI (n + 1))), (1, .int (nI (n + 1))), (3, .ref (L1 299 q)), (0, .ref (L1 899 0))]) hx hb dX8_night_60 hl (k := 2) rfl (by decide) (by decide) rfl (fun ls hl => ?_)
  refine lv_goto (tgt := 4) hx hb dX8_night_63 (by decide) ?_
  refine W.widen (k := 1 - nd (k_nx σ1)) (n := 10 - 10 * nd (k_nx σ1)) (by omega) (by omega) ?_
  exact ih (n + 1, f, k_nx σ1) (Nat.lt_succ_self f) ⟨by show n + 1 + f = 6; omega, n1, n2, n3, by show (k_nx σ1).1 1002 2 ≤ 6; omega, hv9, fun F k hF hd => n5 F k hF (hDx F k hF (hD9 F k hF hd))⟩ L1 ow1 H locs ls hC2 hO1 hL1 hS (lv_sub hl [0, 1, 3] rfl)
def k_lks (v : Int32) (σ : St) : Nat × Int32 × St := if ix v 4 then (0, (if nI 0 < nI (k_la v (σ.1 1002 2) 0 0 σ).1 - nI (sumL (fun i => lf (k_la v (σ.1 1002 2) 0 0 σ).2 v ((k_la v (σ.1 1002 2) 0 0 σ).2.2.2.1 1001 0 i)) ((k_la v (σ.1 1002 2) 0 0 σ).2.1 1002 0)) then nI (k_la v (σ.1 1002 2) 0 0 σ).1 - nI (sumL (fun i => lf (k_la v (σ.1 1002 2) 0 0 σ).2 v ((k_la v (σ.1 1002 2) 0 0 σ).2.2.2.1 1001 0 i)) ((k_la v (σ.1 1002 2) 0 0 σ).2.1 1002 0)) else nI 0), (k_la v (σ.1 1002 2) 0 0 σ).2) else (2, 0, σ)
set_option maxHeartbeats 4000000 in
theorem y_X8_lacks {D : va_G} {cI cZ cO : ClassId} {t0 mi : Nat} (l : Launch) (hl9 : l.stackTraces = false) (L : Lay) (σ : St) (ow : Nat → Prop) (v1 : Int32) (hR : KR σ) (hT : TI σ) (hQ : QP σ) (hq6 : σ.1 1002 2 ≤ 6) : YI D cI cZ cO t0 mi l yX8_lacks cX8_lacks 5 (some FieldType.int) 14 480 2 20 [.ref (L 899 0), .int v1] L σ ow (k_lks v1 σ).1 (k_lks v1 σ).2.1 (k_lks v1 σ).2.2 := by
  refine y_of (Qc := fun sz => YQi (k_lks v1 σ).1 (k_lks v1 σ).2.1 (XB D cI cZ cO t0 L σ ow sz (k_lks v1 σ).2.2) (AA ow sz)) (XC := fun sz => YX (k_lks v1 σ).1 (XB D cI cZ cO t0 L σ ow sz (k_lks v1 σ).2.2) (AA ow sz)) rfl (Nat.le_of_ble_eq_true rfl) ?_
  intro p e s m args below meth c ls X hex hK hC hE hX9 hr hlocks hl
  have X : CallFix p m c cX8_lacks 5 s _ TB RX8 := X
  have hx := X.1
  have hb := X.2.1
  have hS : va_S (AA ow s.heap.size) s.heap s.heap [] := va_S.rf
  have hA : ∀ q, ow q → AA ow s.heap.size q := fun _ h => Or.inl h
  have hA2 : ∀ q, AA ow s.heap.size q → AA ow s.heap.size q := fun _ h => h
  have hG := hC.1
  have hl : lv_has ls 5 [(0, .ref (L 899 0)), (1, .int v1)] := hl
  refine lv_iload_n hx hb dX8_lacks_0 rfl (lv_at hl 1 rfl) ?_
  refine lv_iconst (v := nI 0) hx hb dX8_lacks_1 (by decide) ?_
  refine lv_iconst (v := nI 3) hx hb dX8_lacks_2 (by decide) ?_
  refine rm_callSg X hK hG hS hA2 ysX8_isWithin ml_X8_105 [.int v1, .int (nI 0), .int (nI 3)] [] (c_X8_isWithin l L σ ow v1 (nI 0) (nI 3)) rfl hl.1 rfl (Nat.le_of_ble_eq_true rfl) ⟨Nat.le_of_ble_eq_true rfl, Nat.le_of_ble_eq_true rfl⟩ ⟨Nat.zero_le _, Nat.zero_le _⟩ dX8_lacks_3 (fun H locs hG hS => ?_)
  refine r_top (y := b2i (ix v1 4)) (b2i_c (rg_z 3 (by decide))) ?_
  refine r_if_neB (tgt := 19) hx hb dX8_lacks_6 (by decide) (fun c_6 => ?_) (fun c_6 => ?_)
  rotate_left 1
  · rw [show k_lks v1 σ = (2, 0, σ) from if_neg c_6]
    exact y_throw (e8 := 2) (tx := "kind") hx X hl9 xw_2 hX9 (List.mem_of_getElem? (i := 16) rfl) hex hlocks hl.1 hS (xb_ext (xb_rf hC hG ⟨rfl, rfl⟩)) (by decide) rfl dX8_lacks_9 dX8_lacks_12 dX8_lacks_13 dX8_lacks_15 dX8_lacks_18 (Nat.le_of_ble_eq_true rfl) (Nat.le_of_ble_eq_true rfl) (Nat.le_of_ble_eq_true rfl) (Nat.le_of_ble_eq_true rfl) (Nat.le_of_ble_eq_true rfl) (Nat.le_of_ble_eq_true rfl)
  have hlk := show k_lks v1 σ = _ from if_pos c_6
  refine lv_iconst (v := nI 0) hx hb dX8_lacks_19 (by decide) ?_
  refine lv_istore_n (lv' := [(2, .int (nI 0)), (0, .ref (L 899 0)), (1, .int v1)]) hx hb dX8_lacks_20 rfl hl (by decide) rfl (fun ls hl => ?_)
  refine lv_iconst (v := nI 0) hx hb dX8_lacks_21 (by decide) ?_
  refine lv_istore_n (lv' := [(3, .int (nI 0)), (2, .int (nI 0)), (0, .ref (L 899 0)), (1, .int v1)]) hx hb dX8_lacks_22 rfl hl (by decide) rfl (fun ls hl => ?_)
  have hC0 : CW D cI cZ cO t0 L σ ow H := ⟨hG, hC.2⟩
  refine r_loopX (L0 := L) (σ0 := σ) (A := AA ow s.heap.size) (ι := Nat × Nat × Nat × St) (fun i L => [(3, .int (nI i.1)), (2, .int (nI i.2.2.1)), (0, .ref (L 899 0)), (1, .int v1)]) (fun i => i.2.2.2) (fun i => 1 - nd i.2.2.2) (fun i => 10 - 10 * nd i.2.2.2) (fun i => i.2.1) (fun i => i.1 + i.2.1 = σ.1 1002 2 ∧ KR i.2.2.2 ∧ TI i.2.2.2 ∧ QP i.2.2.2 ∧ FB σ i.2.2.2 ∧ k_la v1 (σ.1 1002 2) 0 0 σ = k_la v1 i.2.1 i.1 i.2.2.1 i.2.2.2) ?_ (0, σ.1 1002 2, 0, σ) ⟨Nat.zero_add _, hR, hT, hQ, FB.rf, rfl⟩ hC0 hA (fun _ _ _ _ => rfl) hS hl (Nat.zero_le _) (Nat.zero_le _)
  rintro ⟨n, f, c9, σ9⟩ ⟨hnf, hR9, hT9, hQ9, hF9, hv9⟩ ih L9 ow9 H locs ls hC9 hO9 hL9 hS hl
  have hnf : n + f = σ.1 1002 2 := hnf
  have hR9 : KR σ9 := hR9
  have hT9 : TI σ9 := hT9
  have hQ9 : QP σ9 := hQ9
  have hF9 : FB σ σ9 := hF9
  have hv9 : k_la v1 (σ.1 1002 2) 0 0 σ = k_la v1 f n c9 σ9 := hv9
  have hC9 : CW D cI cZ cO t0 L9 σ9 ow9 H := hC9
  have hl : lv_has ls 5 [(3, .int (nI n)), (2, .int (nI c9)), (0, .ref (L9 899 0)), (1, .int v1)] := hl
  have hN9 : σ9.1 1002 2 = σ.1 1002 2 := (hF9.1 1002 2 (by omega) (by omega) (by omega)).1
  have hG9 := hC9.1
  have hO9' : ∀ q, AA ow9 s.heap.size q → AA ow s.heap.size q := fun q h => h.elim (hO9 q) Or.inr
  have hnd9 := nd_le σ9
  show W p l e { frames := 14, cells := 2, slots := 20, locals := 480 } s m args below meth c H locs (1 - nd σ9) (10 - 10 * nd σ9) _ (F0 m 23 ls [])
  refine lv_iload_n hx hb dX8_lacks_23 rfl (lv_at hl 0 rfl) ?_
  refine lv_aload_n hx hb dX8_lacks_24 rfl (lv_at hl 2 rfl) ?_
  refine gt_X8_19 X hK hG9 (cd_fix (by decide)) dX8_lacks_25 ?_
  refine x_size X hK hG9 hS hO9' (cd_list (by decide)) ml_X8_65 hl.1 (Nat.le_of_ble_eq_true rfl) ⟨Nat.le_of_ble_eq_true rfl, Nat.le_of_ble_eq_true rfl⟩ ⟨by show 1 - nd σ9 ≤ 2; omega, by show 10 - 10 * nd σ9 ≤ 20; omega⟩ dX8_lacks_28 (fun H locs hG9 hS => ?_)
  refine r_icmp_geN (tgt := 88) hx hb dX8_lacks_31 (by decide) (by omega) (by omega) (fun c_31 => ?_) (fun c_31 => ?_)
  · have f0 : f = 0 := by omega
    subst f0
    have hv9 : k_la v1 (σ.1 1002 2) 0 0 σ = (c9, σ9) := hv9
    rw [hv9] at hlk
    rw [hlk]
    refine lv_iconst (v := nI 0) hx hb dX8_lacks_88 (by decide) ?_
    refine lv_iload_n hx hb dX8_lacks_89 rfl (lv_at hl 1 rfl) ?_
    refine lv_aload_n hx hb dX8_lacks_90 rfl (lv_at hl 2 rfl) ?_
    refine lv_iload_n hx hb dX8_lacks_91 rfl (lv_at hl 3 rfl) ?_
    refine rm_callVg X hK hG9 hS hO9' yvX8_countLeft ml_X8_190 kX8 rfl (cd_fix (by decide)) [.int v1] [.int (nI c9), .int (nI 0)] (c_X8_countLeft l L9 σ9 ow9 v1 hT9.1 hR9.1) rfl hl.1 rfl (Nat.le_of_ble_eq_true rfl) ⟨Nat.le_of_ble_eq_true rfl, Nat.le_of_ble_eq_true rfl⟩ ⟨by show 1 - nd σ9 ≤ 2; omega, by show 10 - 10 * nd σ9 ≤ 20; omega⟩ dX8_lacks_92 (fun H locs hG9 hS => ?_)
    refine lv_isub hx hb dX8_lacks_95 ?_
    refine r_max X hl.1 ml_X8_209 (Nat.le_of_ble_eq_true rfl) (Nat.le_of_ble_eq_true rfl) (by show 1 - nd σ9 ≤ 2; omega) (by show 10 - 10 * nd σ9 ≤ 20; omega) dX8_lacks_96 ?_
    exact y_reti hx hb hr hlocks ⟨L9, ow9, hL9, hO9, hG9, hC9.2⟩ hS rfl rfl rfl (by omega) (by omega) dX8_lacks_99
  obtain ⟨f, rfl⟩ : ∃ k, f = k + 1 := ⟨f - 1, by omega⟩
  have hel := hR9.1.2 2 (by decide) n c_31
  have hqp := hQ9 n c_31
  have hv9 : k_la v1 (σ.1 1002 2) 0 0 σ = k_la v1 f (n + 1) (c9 + (k_run (σ9.2.2.1 1001 2 n) (σ9.2.1 207 (σ9.2.2.1 1001 2 n)) (σ9.1 208 (σ9.2.2.1 1001 2 n)) σ9).2.2.1 601 0 (tn v1)) (k_run (σ9.2.2.1 1001 2 n) (σ9.2.1 207 (σ9.2.2.1 1001 2 n)) (σ9.1 208 (σ9.2.2.1 1001 2 n)) σ9) := hv9
  obtain ⟨i1, i2, i3⟩ := run_kr (p := σ9.2.2.1 1001 2 n) (g := σ9.1 208 (σ9.2.2.1 1001 2 n)) hR9 hqp.1
  refine lv_aload_n hx hb dX8_lacks_34 rfl (lv_at hl 2 rfl) ?_
  refine gt_X8_19 X hK hG9 (cd_fix (by decide)) dX8_lacks_35 ?_
  refine lv_iload_n hx hb dX8_lacks_38 rfl (lv_at hl 0 rfl) ?_
  refine x_get8 X hK hG9 hS hO9' hR9.1 (j := 2) (i := n) (by decide) rfl rfl c_31 (O := 299) rfl (k := σ9.2.2.1 1001 2 n) rfl ml_X8_179 hl.1 (Nat.le_of_ble_eq_true rfl) ⟨Nat.le_of_ble_eq_true rfl, Nat.le_of_ble_eq_true rfl⟩ ⟨by show 1 - nd σ9 ≤ 2; omega, by show 10 - 10 * nd σ9 ≤ 20; omega⟩ dX8_lacks_39 (fun H locs hG9 hS => ?_)
  generalize hqq : σ9.2.2.1 1001 2 n = q at hel hqp hv9 i1 i2 i3
  have h299 : cdom σ9 299 q := cd_obj (by decide) (Or.inl (by decide)) hel
  refine x_cast X hK hG9 kX2 rfl h299 tw_2_156 dX8_lacks_42 ?_
  refine lv_astore (lv' := [(4, .ref (L9 299 q)), (3, .int (nI n)), (2, .int (nI c9)), (0, .ref (L9 899 0)), (1, .int v1)]) hx hb dX8_lacks_45 hl (by decide) rfl (fun ls hl => ?_)
  refine lv_aload_n hx hb dX8_lacks_47 rfl (lv_at hl 3 rfl) ?_
  refine gt_X8_51 X hK hG9 (cd_fix (by decide)) dX8_lacks_48 ?_
  refine lv_aload_n hx hb dX8_lacks_51 rfl (lv_at hl 3 rfl) ?_
  refine gt_X8_44 X hK hG9 (cd_fix (by decide)) dX8_lacks_52 ?_
  refine lv_aload hx hb dX8_lacks_55 (lv_at hl 0 rfl) ?_
  refine lv_aload hx hb dX8_lacks_57 (lv_at hl 0 rfl) ?_
  refine gt_X8_176 X hK hG9 h299 rfl dX8_lacks_59 ?_
  refine lv_aload hx hb dX8_lacks_62 (lv_at hl 0 rfl) ?_
  refine gt_X8_199 X hK hG9 h299 rfl dX8_lacks_64 ?_
  refine xv_callV X hK ⟨hG9, hC9.2⟩ hS hO9 (fun q h => Or.inr h) hE yvX6_run ml_X8_202 kX6 rfl (cd_fix (by decide)) [.ref (L9 799 0), .ref (L9 299 q), .int (σ9.2.1 207 q), .int (nI (σ9.1 208 q))] [] (x_X6_run l L9 σ9 ow9 q _ _ hR9.1 hel hqp.1 hR9.2.1 hR9.2.2.1 hR9.2.2.2 (Nat.lt_of_le_of_lt hqp.2 (by decide))) rfl hl.1 rfl (Nat.le_of_ble_eq_true rfl) ⟨Nat.le_of_ble_eq_true rfl, Nat.le_of_ble_eq_true rfl⟩ ⟨by show 1 - nd σ9 + nd σ9 ≤ 2; omega, by show 10 - 10 * nd σ9 + 10 * nd σ9 ≤ 20; omega⟩ dX8_lacks_67 (fun L1 ow1 H locs hLx hO1 hC1 hS => ?_)
  have hL1 : ∀ F k, cdom σ F k → F ≠ 1001 → L1 F k = L F k := fun F k hd hF => (hLx F k (hF9.dom hF hd) hF).trans (hL9 F k hd hF)
  rw [← hLx 899 0 (cd_fix (by decide)) (by decide)] at hl
  generalize k_run q (σ9.2.1 207 q) (σ9.1 208 q) σ9 = σ1 at i1 i2 i3 hv9 hC1
  have hG1 := hC1.1
  refine W.widen (k := 1) (n := 10) (by omega) (by omega) ?_
  refine lv_iload_n hx hb dX8_lacks_70 rfl (lv_at hl 2 rfl) ?_
  refine lv_aload_n hx hb dX8_lacks_71 rfl (lv_at hl 3 rfl) ?_
  refine gt_X8_51 X hK hG1 (cd_fix (by decide)) dX8_lacks_72 ?_
  refine gt_X8_206 X hK hG1 (cd_fix (by decide)) dX8_lacks_75 ?_
  refine lv_iload_n hx hb dX8_lacks_78 rfl (lv_at hl 4 rfl) ?_
  refine r_top (y := nI (tn v1)) (ix_eq c_6) ?_
  refine al_601 X hK hG1 (cd_fix (by decide)) (i := tn v1) (ix_lt c_6) (x := σ1.2.2.1 601 0 (tn v1)) rfl dX8_lacks_79 ?_
  refine r_addN hx hb dX8_lacks_80 ?_
  refine lv_istore_n (lv' := [(2, .int (nI (c9 + σ1.2.2.1 601 0 (tn v1)))), (4, .ref (L9 299 q)), (3, .int (nI n)), (0, .ref (L1 899 0)), (1, .int v1)]) hx hb dX8_lacks_81 rfl hl (by decide) rfl (fun ls hl => ?_)
  refine r_iincN (b := 1) (lv' := [(3, .int (nI (n + 1))), (2, .int (nI (c9 + σ1.2.2.1 601 0 (tn v1)))), (4, .ref (L9 299 q)), (0, .ref (L1 899 0)), (1, .int v1)]) hx hb dX8_lacks_82 hl (k := 2) rfl (by decide) (by decide) rfl (fun ls hl => ?_)
  refine lv_goto (tgt := 23) hx hb dX8_lacks_85 (by decide) ?_
  refine W.widen (k := 1 - nd σ1) (n := 10 - 10 * nd σ1) (by omega) (by omega) ?_
  exact ih (n + 1, f, c9 + σ1.2.2.1 601 0 (tn v1), σ1) (Nat.lt_succ_self f) ⟨by show n + 1 + f = _; omega, i1, ti_fb hT9 i2, qp_fb hQ9 i2, hF9.tr i2, hv9⟩ L1 ow1 H locs ls hC1 hO1 hL1 hS (lv_sub hl [0, 1, 3, 4] rfl)
