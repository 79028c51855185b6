set_option maxHeartbeats 4000000 in
theorem x_X8_isEnoughFor {D : va_G} {cI cZ cO : ClassId} {t0 mi : Nat} (l : Launch) (L : Lay) (σ : St) (ow : Nat → Prop) (q : Nat) (hR : KR σ) (hq : q < σ.1 1002 1) (hv : ix (σ.2.1 207 q) (σ.1 1002 6)) (hg : σ.1 208 q < 100000) : XI D cI cZ cO t0 mi l yX8_isEnoughFor cX8_isEnoughFor 3 (some FieldType.boolean) 13 460 (nd σ) (10 * nd σ) [.ref (L 899 0), .ref (L 299 q)] L σ ow (k_enf q σ).1 (k_enf q σ).2 := by
  refine x_of (Qc := fun sz => XQi D cI cZ cO t0 L σ ow sz (k_enf q σ).1 (k_enf q σ).2) rfl (Nat.le_of_ble_eq_true rfl) ?_
  intro p e s m9 args below meth c ls X hK hC hE hr hlocks hl
  have X : CallFix p m9 c cX8_isEnoughFor 3 s _ TB RX8 := X
  have hx := X.1
  have hb := X.2.1
  have hS : va_S (AA ow s.heap.size) s.heap s.heap [] := va_S.rf
  have hA : ∀ q, ow q → AA ow s.heap.size q := fun _ h => Or.inl h
  have hG := hC.1
  have hl : lv_has ls 3 [(0, .ref (L 899 0)), (1, .ref (L 299 q))] := hl
  have h899 : cdom σ 899 0 := cd_fix (by decide)
  have h299 : cdom σ 299 q := cd_obj (by decide) (Or.inl (by decide)) hq
  refine lv_aload_n hx hb dX8_isEnoughFor_0 rfl (lv_at hl 0 rfl) ?_
  refine gt_X8_51 X hK hG h899 dX8_isEnoughFor_1 ?_
  refine lv_aload_n hx hb dX8_isEnoughFor_4 rfl (lv_at hl 0 rfl) ?_
  refine gt_X8_44 X hK hG h899 dX8_isEnoughFor_5 ?_
  refine lv_aload_n hx hb dX8_isEnoughFor_8 rfl (lv_at hl 1 rfl) ?_
  refine lv_aload_n hx hb dX8_isEnoughFor_9 rfl (lv_at hl 1 rfl) ?_
  refine gt_X8_176 X hK hG h299 rfl dX8_isEnoughFor_10 ?_
  refine lv_aload_n hx hb dX8_isEnoughFor_13 rfl (lv_at hl 1 rfl) ?_
  refine gt_X8_199 X hK hG h299 rfl dX8_isEnoughFor_14 ?_
  refine xv_callV X hK hC hS hA (fun q h => Or.inr h) hE yvX6_run ml_X8_202 kX6 rfl (cd_fix (by decide)) [.ref (L 799 0), .ref (L 299 q), .int (σ.2.1 207 q), .int (nI (σ.1 208 q))] [] (x_X6_run l L σ ow q _ _ hR.1 hq hv hR.2.1 hR.2.2.1 hR.2.2.2 hg) rfl hl.1 rfl (Nat.le_of_ble_eq_true rfl) ⟨Nat.le_of_ble_eq_true rfl, Nat.le_of_ble_eq_true rfl⟩ ⟨by show 0 + nd σ ≤ nd σ; omega, by show 0 + 10 * nd σ ≤ 10 * nd σ; omega⟩ dX8_isEnoughFor_17 (fun L' ow' H locs hLx hO' hC' hS => ?_)
  have hef : k_enf q σ = k_en 4 0 (k_run q (σ.2.1 207 q) (σ.1 208 q) σ) := rfl
  generalize k_run q (σ.2.1 207 q) (σ.1 208 q) σ = σ1 at hC' hef
  rw [← hLx 899 0 h899 (by decide)] at hl
  refine lv_iconst (v := nI 0) hx hb dX8_isEnoughFor_20 (by decide) ?_
  refine lv_istore_n (lv' := [(2, .int (nI 0)), (0, .ref (L' 899 0)), (1, .ref (L 299 q))]) hx hb dX8_isEnoughFor_21 rfl hl (by decide) rfl (fun ls hl => ?_)
  have hG' := hC'.1
  have h899 : cdom σ1 899 0 := cd_fix (by decide)
  have h699 : cdom σ1 699 0 := cd_fix (by decide)
  have h808 : cdom σ1 808 0 := cd_fix (by decide)
  have h601 : cdom σ1 601 0 := cd_fix (by decide)
  refine r_loop (ι := Nat × St) (fun i => [(2, .int (nI i.1)), (0, .ref (L' 899 0)), (1, .ref (L 299 q))]) (fun i => i.2) (fun i => 4 - i.1) (fun i => i.1 ≤ 4 ∧ k_enf q σ = k_en (4 - i.1) i.1 i.2 ∧ i.2.1 = σ1.1 ∧ i.2.2.2.1 = σ1.2.2.1) (0, σ1) ⟨Nat.zero_le _, hef, rfl, rfl⟩ hG' hS hl ?_
  rintro ⟨n, σ9⟩ ⟨hn, hv9, e1, e3⟩ ih H locs ls hG' hS hl
  have hG' : PW D cI cZ cO (cdom σ1) L' σ9 ow' H := hG'
  have hl : lv_has ls 3 [(2, .int (nI n)), (0, .ref (L' 899 0)), (1, .ref (L 299 q))] := hl
  have hn : n ≤ 4 := hn
  have hv9 : k_enf q σ = k_en (4 - n) n σ9 := hv9
  have e1 : σ9.1 = σ1.1 := e1
  have e3 : σ9.2.2.1 = σ1.2.2.1 := e3
  have out : ∀ (H : Heap) (locs : List Loc) (ls : Array Slot) (σ' : St) (v : Int32) (pc : Nat), (v = nI 0 ∨ v = nI 1) → decode cX8_isEnoughFor pc = .ok (.ireturn, 1) → k_enf q σ = (v, σ') → σ'.1 = σ1.1 → PW D cI cZ cO (cdom σ1) L' σ' ow' H → va_S (AA ow s.heap.size) s.heap H locs → W p l e { frames := 13, cells := nd σ, slots := 10 * nd σ, locals := 460 } s m9 args below meth c H locs (0 + nd σ) (0 + 10 * nd σ) (MQ below (XQi D cI cZ cO t0 L σ ow s.heap.size (k_enf q σ).1 (k_enf q σ).2) args s (nd σ) (10 * nd σ) (AA ow s.heap.size)) (F0 m9 pc ls [.int v]) := fun H locs ls σ' v pc h01 d he e1 hG' hS => by
    rw [he]
    exact xi_ret hx hb hr hlocks ⟨L', ow', hLx, hO', ⟨by rw [cdom_eq (σ := σ1) (σ' := σ') (fun j => by rw [e1]) (fun j => by rw [e1])]; exact hG', fun k hk h => hC'.2 k hk (by rw [← e1]; exact h)⟩⟩ hS rfl (by rcases h01 with rfl | rfl <;> rfl) (by omega) (by omega) d
  refine lv_iload_n hx hb dX8_isEnoughFor_22 rfl (lv_at hl 0 rfl) ?_
  refine lv_iconst (v := nI 4) hx hb dX8_isEnoughFor_23 (by decide) ?_
  refine r_icmp_geN (tgt := 62) hx hb dX8_isEnoughFor_24 (by decide) (by omega) (by decide) (fun c_24 => ?_) (fun c_24 => ?_)
  · have : n = 4 := by omega
    subst this
    refine lv_iconst (v := nI 1) hx hb dX8_isEnoughFor_62 (by decide) ?_
    exact out H locs ls σ9 _ 63 (Or.inr rfl) dX8_isEnoughFor_63 hv9 e1 hG' hS
  obtain ⟨f, hf⟩ : ∃ k, 4 - n = k + 1 := ⟨3 - n, by omega⟩
  rw [hf] at hv9
  have hv9 : k_enf q σ = if (σ9.2.2.2 808 0 n - nI (σ9.2.2.1 601 0 n)) < 0 then (nI 0, wB σ9 808 0 n (σ9.2.2.2 808 0 n - nI (σ9.2.2.1 601 0 n))) else k_en f (n + 1) (wB σ9 808 0 n (σ9.2.2.2 808 0 n - nI (σ9.2.2.1 601 0 n))) := hv9
  refine lv_aload_n hx hb dX8_isEnoughFor_27 rfl (lv_at hl 1 rfl) ?_
  refine gt_X8_38 X hK hG' h899 dX8_isEnoughFor_28 ?_
  refine lv_iload_n hx hb dX8_isEnoughFor_31 rfl (lv_at hl 0 rfl) ?_
  refine lv_dup2_11 hx hb dX8_isEnoughFor_32 rfl rfl ?_
  refine al_808 X hK hG' h808 (i := n) c_24 rfl dX8_isEnoughFor_33 ?_
  refine lv_aload_n hx hb dX8_isEnoughFor_34 rfl (lv_at hl 1 rfl) ?_
  refine gt_X8_51 X hK hG' h899 dX8_isEnoughFor_35 ?_
  refine gt_X8_206 X hK hG' h699 dX8_isEnoughFor_38 ?_
  refine lv_iload_n hx hb dX8_isEnoughFor_41 rfl (lv_at hl 0 rfl) ?_
  refine al_601 X hK hG' h601 (i := n) c_24 rfl dX8_isEnoughFor_42 ?_
  refine lv_isub hx hb dX8_isEnoughFor_43 ?_
  refine as_808 X hK hG' hS hO' h808 (i := n) c_24 dX8_isEnoughFor_44 (fun H locs hG' hS => ?_)
  refine lv_aload_n hx hb dX8_isEnoughFor_45 rfl (lv_at hl 1 rfl) ?_
  refine gt_X8_38 X hK hG' h899 dX8_isEnoughFor_46 ?_
  refine lv_iload_n hx hb dX8_isEnoughFor_49 rfl (lv_at hl 0 rfl) ?_
  refine al_808 X hK hG' h808 (i := n) c_24 (x := σ9.2.2.2 808 0 n - nI (σ9.2.2.1 601 0 n)) (by simp [wB, up3, up2, up1]) dX8_isEnoughFor_50 ?_
  refine lv_if_ge (tgt := 56) hx hb dX8_isEnoughFor_51 (by decide) (fun c_51 => ?_) (fun c_51 => ?_)
  · refine r_iincN (b := 1) (lv' := [(2, .int (nI (n + 1))), (0, .ref (L' 899 0)), (1, .ref (L 299 q))]) hx hb dX8_isEnoughFor_56 hl (k := 0) rfl (by decide) (by decide) rfl (fun ls hl => ?_)
    refine lv_goto (tgt := 22) hx hb dX8_isEnoughFor_59 (by decide) ?_
    rw [if_neg (Int32.not_lt.mpr c_51)] at hv9
    exact ih (n + 1, wB σ9 808 0 n (σ9.2.2.2 808 0 n - nI (σ9.2.2.1 601 0 n))) (by show 4 - (n + 1) < 4 - n; omega) ⟨by show n + 1 ≤ 4; omega, by show _ = k_en (4 - (n + 1)) (n + 1) _; rw [hv9, show 4 - (n + 1) = f by omega], e1, e3⟩ H locs ls hG' hS hl
  · refine lv_iconst (v := nI 0) hx hb dX8_isEnoughFor_54 (by decide) ?_
    rw [if_pos (Int32.not_le.mp c_51)] at hv9
    exact out H locs ls _ _ 55 (Or.inl rfl) dX8_isEnoughFor_55 hv9 e1 hG' hS
theorem en_01 : ∀ (m k : Nat) (σ : St), (k_en m k σ).1 = nI 0 ∨ (k_en m k σ).1 = nI 1 := fun m => by
  induction m with
  | zero => exact fun _ _ => Or.inr rfl
  | succ m ih =>
    intro k σ
    unfold k_en
    split
    · exact Or.inl rfl
    · exact ih _ _
set_option maxHeartbeats 4000000 in
theorem x_X8_foresees {D : va_G} {cI cZ cO : ClassId} {t0 mi : Nat} (l : Launch) (L : Lay) (σ : St) (ow : Nat → Prop) (hR : KR σ) (hT : TI σ) (hQ : QP σ) (hq6 : σ.1 1002 2 ≤ 6) : XI D cI cZ cO t0 mi l yX8_foresees cX8_foresees 2 (some FieldType.int) 14 490 1 10 [.ref (L 899 0)] L σ ow (k_fore σ).1 (k_fore σ).2 := by
  refine x_of (Qc := fun sz => XQi D cI cZ cO t0 L σ ow sz (k_fore σ).1 (k_fore σ).2) rfl (Nat.le_of_ble_eq_true rfl) ?_
  intro p e s m9 args below meth c ls X hK hC hE hr hlocks hl
  have X : CallFix p m9 c cX8_foresees 2 s _ TB RX8 := X
  have hx := X.1
  have hb := X.2.1
  have hS : va_S (AA ow s.heap.size) s.heap s.heap [] := va_S.rf
  have hA : ∀ q, ow q → AA ow s.heap.size q := fun _ h => Or.inl h
  have hA2 : ∀ q, AA ow s.heap.size q → AA ow s.heap.size q := fun _ h => h
  have hG := hC.1
  have hl : lv_has ls 2 [(0, .ref (L 899 0))] := hl
  have h899 : cdom σ 899 0 := cd_fix (by decide)
  have h808 : cdom σ 808 0 := cd_fix (by decide)
  refine lv_iconst (v := nI 0) hx hb dX8_foresees_0 (by decide) ?_
  refine lv_istore_n (lv' := [(1, .int (nI 0)), (0, .ref (L 899 0))]) hx hb dX8_foresees_1 rfl hl (by decide) rfl (fun ls hl => ?_)
  refine r_loop (ι := Nat) (fun n => [(1, .int (nI n)), (0, .ref (L 899 0))]) (fun n => k_fl n σ) (fun n => 4 - n) (fun n => n ≤ 4) 0 (Nat.zero_le _) hG hS hl ?_
  rintro n hn ih H locs ls hG hS hl
  have hG : PW D cI cZ cO (cdom σ) L (k_fl n σ) ow H := hG
  have hl : lv_has ls 2 [(1, .int (nI n)), (0, .ref (L 899 0))] := hl
  have hn : n ≤ 4 := hn
  obtain ⟨f1, f2, f3, f4⟩ := fl_st σ n
  have hIn : CI (k_fl n σ) := ci_eq hR.1 (fun _ => by rw [f1]) (fun _ => by rw [f1]) (fun _ => by rw [f3])
  refine lv_iload_n hx hb dX8_foresees_2 rfl (lv_at hl 0 rfl) ?_
  refine lv_iconst (v := nI 4) hx hb dX8_foresees_3 (by decide) ?_
  refine r_icmp_geN (tgt := 24) hx hb dX8_foresees_4 (by decide) (by omega) (by decide) (fun c_4 => ?_) (fun c_4 => ?_)
  rotate_left 1
  · refine lv_aload_n hx hb dX8_foresees_7 rfl (lv_at hl 1 rfl) ?_
    refine gt_X8_38 X hK hG h899 dX8_foresees_8 ?_
    refine lv_iload_n hx hb dX8_foresees_11 rfl (lv_at hl 0 rfl) ?_
    refine lv_aload_n hx hb dX8_foresees_12 rfl (lv_at hl 1 rfl) ?_
    refine lv_iload_n hx hb dX8_foresees_13 rfl (lv_at hl 0 rfl) ?_
    have hdm : cdom (k_fl n σ) = cdom σ := cdom_eq (fun _ => by rw [f1]) (fun _ => by rw [f1])
    have hM := c_X8_countLeft (D := D) (cI := cI) (cZ := cZ) (cO := cO) l L (k_fl n σ) ow (nI n) (fun k => by rw [f1]; exact hT.1 k) hIn
    rw [hdm] at hM
    refine rm_callVg X hK hG hS hA2 yvX8_countLeft ml_X8_190 kX8 rfl h899 [.int (nI n)] [.int (nI n), .ref (L 808 0)] hM rfl hl.1 rfl (Nat.le_of_ble_eq_true rfl) ⟨Nat.le_of_ble_eq_true rfl, Nat.le_of_ble_eq_true rfl⟩ ⟨Nat.zero_le _, Nat.zero_le _⟩ dX8_foresees_14 (fun H locs hG hS => ?_)
    refine r_top (y := nI (sumL (fun i => lf σ (nI n) (σ.2.2.1 1001 0 i)) (σ.1 1002 0))) (by unfold lf; rw [f1, f2, f3]) ?_
    refine as_808 X hK hG hS hA h808 (i := n) c_4 dX8_foresees_17 (fun H locs hG hS => ?_)
    refine r_iincN (b := 1) (lv' := [(1, .int (nI (n + 1))), (0, .ref (L 899 0))]) hx hb dX8_foresees_18 hl (k := 0) rfl (by decide) (by decide) rfl (fun ls hl => ?_)
    refine lv_goto (tgt := 2) hx hb dX8_foresees_21 (by decide) ?_
    exact ih (n + 1) (by show 4 - (n + 1) < 4 - n; omega) (by show n + 1 ≤ 4; omega) H locs ls hG hS hl
  have : n = 4 := by omega
  subst this
  clear ih
  refine lv_iconst (v := nI 0) hx hb dX8_foresees_24 (by decide) ?_
  refine lv_istore_n (lv' := [(1, .int (nI 0)), (0, .ref (L 899 0))]) hx hb dX8_foresees_25 rfl hl (by decide) rfl (fun ls hl => ?_)
  have hfo : k_fore σ = k_fs (σ.1 1002 2) 0 (k_fl 4 σ) := rfl
  generalize k_fl 4 σ = σf at hG hIn f1 f2 f3 f4 hfo
  have hRf : KR σf := kr_eq hR f1 f3 f4
  have hQf : QP σf := qp_eq hQ f1 f2 f3
  have hdf : cdom σf = cdom σ := cdom_eq (fun _ => by rw [f1]) (fun _ => by rw [f1])
  have hCf : CW D cI cZ cO t0 L σf ow H := ⟨by rw [hdf]; exact hG, fun k hk h => hC.2 k hk (by rw [← f1]; exact h)⟩
  refine r_loopX (L0 := L) (σ0 := σf) (A := AA ow s.heap.size) (ι := Nat × Nat × St) (fun i L => [(1, .int (nI i.1)), (0, .ref (L 899 0))]) (fun i => i.2.2) (fun i => 1 - nd i.2.2) (fun i => 10 - 10 * nd i.2.2) (fun i => i.2.1) (fun i => i.1 + i.2.1 = σ.1 1002 2 ∧ KR i.2.2 ∧ QP i.2.2 ∧ i.2.2.1 1002 2 = σ.1 1002 2 ∧ k_fore σ = k_fs i.2.1 i.1 i.2.2 ∧ ∀ F k, F ≠ 1001 → cdom σf F k → cdom i.2.2 F k) ?_ (0, σ.1 1002 2, σf) ⟨Nat.zero_add _, hRf, hQf, by show σf.1 1002 2 = _; rw [f1], hfo, fun _ _ _ h => h⟩ hCf hA (fun _ _ _ _ => rfl) hS hl (Nat.zero_le _) (Nat.zero_le _)
  rintro ⟨n, f, σ9⟩ ⟨hnf, hR9, hQ9, hN9, hv9, hD9⟩ ih L9 ow9 H locs ls hC9 hO9 hL9 hS hl
  have hnf : n + f = σ.1 1002 2 := hnf
  have hR9 : KR σ9 := hR9
  have hQ9 : QP σ9 := hQ9
  have hN9 : σ9.1 1002 2 = σ.1 1002 2 := hN9
  have hv9 : k_fore σ = k_fs f n σ9 := hv9
  have hD9 : ∀ F k, F ≠ 1001 → cdom σf F k → cdom σ9 F k := hD9
  have hC9 : CW D cI cZ cO t0 L9 σ9 ow9 H := hC9
  have hl : lv_has ls 2 [(1, .int (nI n)), (0, .ref (L9 899 0))] := hl
  have hG9 := hC9.1
  have hO9' : ∀ q, AA ow9 s.heap.size q → AA ow s.heap.size q := fun q h => h.elim (hO9 q) Or.inr
  have hnd9 := nd_le σ9
  show W p l e { frames := 14, cells := 1, slots := 10, locals := 490 } s m9 args below meth c H locs (1 - nd σ9) (10 - 10 * nd σ9) _ (F0 m9 26 ls [])
  have out : ∀ (H : Heap) (locs : List Loc) (ls : Array Slot) (L' : Lay) (ow' : Nat → Prop) (σ' : St) (v : Int32) (pc c1 s1 : Nat), decode cX8_foresees pc = .ok (.ireturn, 1) → k_fore σ = (v, σ') → c1 ≤ 1 → s1 ≤ 10 → CW D cI cZ cO t0 L' σ' ow' H → (∀ q, ow' q → AA ow s.heap.size q) → (∀ F k, cdom σf F k → F ≠ 1001 → L' F k = L F k) → va_S (AA ow s.heap.size) s.heap H locs → W p l e { frames := 14, cells := 1, slots := 10, locals := 490 } s m9 args below meth c H locs c1 s1 (MQ below (XQi D cI cZ cO t0 L σ ow s.heap.size (k_fore σ).1 (k_fore σ).2) args s 1 10 (AA ow s.heap.size)) (F0 m9 pc ls [.int v]) := fun H locs ls L' ow' σ' v pc c1 s1 d he h1 h2 hC' hO' hL' hS => by
    rw [he]
    exact xi_ret hx hb hr hlocks ⟨L', ow', fun F k hd hF => hL' F k (by rw [hdf]; exact hd) hF, hO', hC'⟩ hS rfl rfl h1 h2 d
  refine lv_iload_n hx hb dX8_foresees_26 rfl (lv_at hl 0 rfl) ?_
  refine lv_aload_n hx hb dX8_foresees_27 rfl (lv_at hl 1 rfl) ?_
  refine gt_X8_19 X hK hG9 (cd_fix (by decide)) dX8_foresees_28 ?_
  refine x_size X hK hG9 hS hO9' (cd_list (by decide)) ml_X8_65 hl.1 (Nat.le_of_ble_eq_true rfl) ⟨Nat.le_of_ble_eq_true rfl, Nat.le_of_ble_eq_true rfl⟩ ⟨by show 1 - nd σ9 ≤ 1; omega, by show 10 - 10 * nd σ9 ≤ 10; omega⟩ dX8_foresees_31 (fun H locs hG9 hS => ?_)
  refine r_icmp_geN (tgt := 63) hx hb dX8_foresees_34 (by decide) (by omega) (by omega) (fun c_34 => ?_) (fun c_34 => ?_)
  · have f0 : f = 0 := by omega
    subst f0
    refine lv_aload_n hx hb dX8_foresees_63 rfl (lv_at hl 1 rfl) ?_
    refine gt_X8_19 X hK hG9 (cd_fix (by decide)) dX8_foresees_64 ?_
    refine x_size X hK hG9 hS hO9' (cd_list (by decide)) ml_X8_65 hl.1 (Nat.le_of_ble_eq_true rfl) ⟨Nat.le_of_ble_eq_true rfl, Nat.le_of_ble_eq_true rfl⟩ ⟨by show 1 - nd σ9 ≤ 1; omega, by show 10 - 10 * nd σ9 ≤ 10; omega⟩ dX8_foresees_67 (fun H locs hG9 hS => ?_)
    rw [show σ9.1 1002 2 = n by omega]
    exact out H locs ls L9 ow9 σ9 _ 70 _ _ dX8_foresees_70 hv9 (by omega) (by omega) ⟨hG9, hC9.2⟩ hO9 hL9 hS
  obtain ⟨f, rfl⟩ : ∃ k, f = k + 1 := ⟨f - 1, by omega⟩
  have hv9 : k_fore σ = if (k_enf (σ9.2.2.1 1001 2 n) σ9).1 = 0 then (nI n, (k_enf (σ9.2.2.1 1001 2 n) σ9).2) else k_fs f (n + 1) (k_enf (σ9.2.2.1 1001 2 n) σ9).2 := hv9
  refine lv_aload_n hx hb dX8_foresees_37 rfl (lv_at hl 1 rfl) ?_
  refine lv_aload_n hx hb dX8_foresees_38 rfl (lv_at hl 1 rfl) ?_
  refine gt_X8_19 X hK hG9 (cd_fix (by decide)) dX8_foresees_39 ?_
  refine lv_iload_n hx hb dX8_foresees_42 rfl (lv_at hl 0 rfl) ?_
  have hel := hR9.1.2 2 (by decide) n c_34
  have hqp := hQ9 n c_34
  refine x_get8 X hK hG9 hS hO9' hR9.1 (j := 2) (i := n) (by decide) rfl rfl c_34 (O := 299) rfl (k := σ9.2.2.1 1001 2 n) rfl ml_X8_179 hl.1 (Nat.le_of_ble_eq_true rfl) ⟨Nat.le_of_ble_eq_true rfl, Nat.le_of_ble_eq_true rfl⟩ ⟨by show 1 - nd σ9 ≤ 1; omega, by show 10 - 10 * nd σ9 ≤ 10; omega⟩ dX8_foresees_43 (fun H locs hG9 hS => ?_)
  refine x_cast X hK hG9 kX2 rfl (cd_obj (by decide) (Or.inl (by decide)) hel) tw_2_156 dX8_foresees_46 ?_
  refine xi_callV X hK ⟨hG9, hC9.2⟩ hS hO9 (fun q h => Or.inr h) hE yvX8_isEnoughFor ml_X8_194 kX8 rfl (cd_fix (by decide)) [.ref (L9 299 (σ9.2.2.1 1001 2 n))] [] (x_X8_isEnoughFor l L9 σ9 ow9 _ hR9 hel hqp.1 (Nat.lt_of_le_of_lt hqp.2 (by decide))) rfl hl.1 rfl (Nat.le_of_ble_eq_true rfl) ⟨Nat.le_of_ble_eq_true rfl, Nat.le_of_ble_eq_true rfl⟩ ⟨by show 1 - nd σ9 + nd σ9 ≤ 1; omega, by show 10 - 10 * nd σ9 + 10 * nd σ9 ≤ 10; omega⟩ dX8_foresees_49 (fun L1 ow1 H locs hLx hO1 hC1 hS => ?_)
  obtain ⟨i1, i2, i3, i4, i5, i6⟩ := enf_inv (q := σ9.2.2.1 1001 2 n) hR9 hqp.1
  have h01 : (k_enf (σ9.2.2.1 1001 2 n) σ9).1 = nI 0 ∨ (k_enf (σ9.2.2.1 1001 2 n) σ9).1 = nI 1 := en_01 _ _ _
  have hL1 : ∀ F k, cdom σf F k → F ≠ 1001 → L1 F k = L F k := fun F k hd hF => (hLx F k (hD9 F k hF hd) hF).trans (hL9 F k hd hF)
  have hQ1 := i4 hQ9
  rw [← hLx 899 0 (cd_fix (by decide)) (by decide)] at hl
  generalize hgs : k_enf (σ9.2.2.1 1001 2 n) σ9 = gs at i1 i2 i3 i6 hQ1 hC1 h01 hv9
  obtain ⟨r1, σ1⟩ := gs
  have h01 : r1 = nI 0 ∨ r1 = nI 1 := h01
  have hv9 : k_fore σ = if r1 = 0 then (nI n, σ1) else k_fs f (n + 1) σ1 := hv9
  refine W.widen (k := 1) (n := 10) (by omega) (by omega) ?_
  show W p l e _ s m9 args below meth c H locs 1 10 _ (F0 m9 52 ls [.int r1])
  refine lv_if_ne (tgt := 57) hx hb dX8_foresees_52 (by decide) (fun c_52 => ?_) (fun c_52 => ?_)
  · refine r_iincN (b := 1) (lv' := [(1, .int (nI (n + 1))), (0, .ref (L1 899 0))]) hx hb dX8_foresees_57 hl (k := 0) rfl (by decide) (by decide) rfl (fun ls hl => ?_)
    refine lv_goto (tgt := 26) hx hb dX8_foresees_60 (by decide) ?_
    rw [if_neg c_52] at hv9
    have i2 : nd σ1 = 0 := i2
    refine W.widen (k := 1 - nd σ1) (n := 10 - 10 * nd σ1) (by omega) (by omega) ?_
    exact ih (n + 1, f, σ1) (Nat.lt_succ_self f) ⟨by show n + 1 + f = _; omega, i1, hQ1, by show σ1.1 1002 2 = _; exact i3.trans hN9, hv9, fun F k hF hd => i6 F k hF (hD9 F k hF hd)⟩ L1 ow1 H locs ls hC1 hO1 hL1 hS hl
  · refine lv_iload_n hx hb dX8_foresees_55 rfl (lv_at hl 0 rfl) ?_
    rw [if_pos c_52] at hv9
    exact out H locs ls L1 ow1 σ1 _ 56 _ _ dX8_foresees_56 hv9 (by omega) (by omega) hC1 hO1 hL1 hS
