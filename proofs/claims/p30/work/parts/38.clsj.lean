/-! Walk.goStep -/
def k_mv (σ : St) : St := wA σ 703 0 (σ.1 704 0) (if σ.2.2.1 703 0 (σ.1 704 0) < σ.1 705 0 then σ.2.2.1 703 0 (σ.1 704 0) + 1 else σ.2.2.1 703 0 (σ.1 704 0) - 1)
def k_gs : Nat → St → Int32 × St
  | 0, σ => (nI 0, σ)
  | f + 1, σ => if σ.2.1 710 0 = 0 then (if σ.2.2.1 703 0 (σ.1 704 0) = σ.1 705 0 then (if (k_lv (σ.1 1002 7) σ).1 1002 7 = 0 then (nI 0, k_lv (σ.1 1002 7) σ) else k_gs f (k_obey ((k_lv (σ.1 1002 7) σ).1 1002 7 - 1) (k_lv (σ.1 1002 7) σ))) else (nI 1, k_mv σ)) else (nI 0, σ)
theorem gs_w {f : Nat} {σ : St} (h : ¬ σ.2.1 710 0 = 0) : k_gs (f + 1) σ = (nI 0, σ) := if_neg h
theorem gs_s {f : Nat} {σ : St} (h : σ.2.1 710 0 = 0) (g : ¬ σ.2.2.1 703 0 (σ.1 704 0) = σ.1 705 0) : k_gs (f + 1) σ = (nI 1, k_mv σ) := (if_pos h).trans (if_neg g)
theorem gs_e {f : Nat} {σ : St} (h : σ.2.1 710 0 = 0) (g : σ.2.2.1 703 0 (σ.1 704 0) = σ.1 705 0) (c : (k_lv (σ.1 1002 7) σ).1 1002 7 = 0) : k_gs (f + 1) σ = (nI 0, k_lv (σ.1 1002 7) σ) := (if_pos h).trans ((if_pos g).trans (if_pos c))
theorem gs_r {f : Nat} {σ : St} (h : σ.2.1 710 0 = 0) (g : σ.2.2.1 703 0 (σ.1 704 0) = σ.1 705 0) (c : ¬ (k_lv (σ.1 1002 7) σ).1 1002 7 = 0) : k_gs (f + 1) σ = k_gs f (k_obey ((k_lv (σ.1 1002 7) σ).1 1002 7 - 1) (k_lv (σ.1 1002 7) σ)) := (if_pos h).trans ((if_pos g).trans (if_neg c))
theorem fw_mv {σ : St} : FW σ (k_mv σ) := fw_wA (Or.inr rfl)
theorem lv_top {σ : St} (h : WL σ) (c : ¬ (k_lv (σ.1 1002 7) σ).1 1002 7 = 0) : (k_lv (σ.1 1002 7) σ).2.2.1 702 0 ((k_lv (σ.1 1002 7) σ).1 1002 7 - 1) < 30 := by
  obtain ⟨h1, h2, h3, h4⟩ := lv_facts _ σ rfl
  rw [h3]
  exact Nat.lt_of_lt_of_le (h4 c) (h.2.2.2.1 _)
set_option maxHeartbeats 4000000 in
theorem x_X7_goStep {D : va_G} {cI cZ cO : ClassId} {t0 mi : Nat} (l : Launch) (L : Lay) (σ : St) (ow : Nat → Prop) (hWL : WL σ) (hWS : WS σ) : XI D cI cZ cO t0 mi l yX7_goStep cX7_goStep 2 (some FieldType.boolean) 11 390 0 0 [.ref (L 799 0)] L σ ow (k_gs 601 σ).1 (k_gs 601 σ).2 := by
  refine x_of (Qc := fun sz => XQi D cI cZ cO t0 L σ ow sz (k_gs 601 σ).1 (k_gs 601 σ).2) rfl (Nat.le_of_ble_eq_true rfl) ?_
  intro p e s m9 args below meth c ls X hK hC hE hr hlocks hl
  have X : CallFix p m9 c cX7_goStep 2 s _ TB RX7 := X
  have hx := X.1
  have hb := X.2.1
  have hS : va_S (AA ow s.heap.size) s.heap s.heap [] := va_S.rf
  have hl : lv_has ls 2 [(0, .ref (L 799 0))] := hl
  refine lv_iconst (v := nI 0) hx hb dX7_goStep_0 (by decide) ?_
  refine lv_istore_n (lv' := [(1, .int (nI 0)), (0, .ref (L 799 0))]) hx hb dX7_goStep_1 rfl hl (by decide) rfl (fun ls hl => ?_)
  refine r_loopX (L0 := L) (σ0 := σ) (A := AA ow s.heap.size) (ι := Nat × Nat × St) (fun i L => [(1, .int (nI i.1)), (0, .ref (L 799 0))]) (fun i => i.2.2) (fun _ => 0) (fun _ => 0) (fun i => i.2.1) (fun i => i.1 + i.2.1 = 601 ∧ WL i.2.2 ∧ WS i.2.2 ∧ k_gs 601 σ = k_gs i.2.1 i.2.2 ∧ FW σ i.2.2) ?_ (0, 601, σ) ⟨rfl, hWL, hWS, rfl, FW.rf⟩ hC (fun _ h => Or.inl h) (fun _ _ _ _ => rfl) hS hl (Nat.le_refl _) (Nat.le_refl _)
  rintro ⟨n, f, σ9⟩ ⟨hnf, hWL9, hWS9, hv, hF⟩ ih L9 ow9 H locs ls hC9 hO9 hL9 hS hl
  have hnf : n + f = 601 := hnf
  have hC9 : CW D cI cZ cO t0 L9 σ9 ow9 H := hC9
  have hWL9 : WL σ9 := hWL9
  have hWS9 : WS σ9 := hWS9
  have hv : k_gs 601 σ = k_gs f σ9 := hv
  have hF : FW σ σ9 := hF
  have hl : lv_has ls 2 [(1, .int (nI n)), (0, .ref (L9 799 0))] := hl
  have hG := hC9.1
  have h799 : cdom σ9 799 0 := cd_fix (by decide)
  have h703 : cdom σ9 703 0 := cd_fix (by decide)
  have hw4 : σ9.1 704 0 < 3 := hWS9.2.1
  have hg12 : ∀ a, gmx a ≤ 11 := fun a => by unfold gmx; split <;> decide
  have hat := hWS9.2.2.2 _ hw4
  have hg5 := hWS9.2.2.1
  have hgm := hg12 (σ9.1 704 0)
  have out : ∀ (H : Heap) (locs : List Loc) (ls : Array Slot) (L' : Lay) (ow' : Nat → Prop) (v : Int32) (pc : Nat), (v = nI 0 ∨ v = nI 1) → decode cX7_goStep pc = .ok (.ireturn, 1) → CW D cI cZ cO t0 L' (k_gs f σ9).2 ow' H → (∀ q, ow' q → AA ow s.heap.size q) → (∀ F k, cdom σ F k → F ≠ 1001 → L' F k = L F k) → va_S (AA ow s.heap.size) s.heap H locs → v = (k_gs f σ9).1 → W p l e { frames := 11, cells := 0, slots := 0, locals := 390 } s m9 args below meth c H locs 0 0 (MQ below (XQi D cI cZ cO t0 L σ ow s.heap.size (k_gs 601 σ).1 (k_gs 601 σ).2) args s 0 0 (AA ow s.heap.size)) (F0 m9 pc ls [.int v]) := fun H locs ls L' ow' v pc hv01 d hC' hO' hL' hS hvv => by
    refine xi_ret hx hb hr hlocks ⟨L', ow', hL', hO', ?_⟩ hS (by rw [hv]; exact hvv) (by rcases hv01 with rfl | rfl <;> rfl) (Nat.le_refl _) (Nat.le_refl _) d
    rw [hv]
    exact hC'
  refine lv_iload_n hx hb dX7_goStep_2 rfl (lv_at hl 0 rfl) ?_
  refine lv_sipush (v := nI 600) hx hb dX7_goStep_3 (by decide) ?_
  refine r_icmp_gtN (tgt := 102) hx hb dX7_goStep_6 (by decide) (by omega) (by decide) (fun c_6 => ?_) (fun c_6 => ?_)
  · have f0 : f = 0 := by omega
    subst f0
    refine lv_iconst (v := nI 0) hx hb dX7_goStep_102 (by decide) ?_
    exact out H locs ls L9 ow9 (nI 0) 103 (Or.inl rfl) dX7_goStep_103 hC9 hO9 hL9 hS rfl
  obtain ⟨f, rfl⟩ : ∃ k, f = k + 1 := ⟨f - 1, by omega⟩
  refine lv_aload_n hx hb dX7_goStep_9 rfl (lv_at hl 1 rfl) ?_
  refine gt_X7_51 X hK hG h799 rfl dX7_goStep_10 ?_
  refine lv_if_ne (tgt := 102) hx hb dX7_goStep_13 (by decide) (fun c_13 => ?_) (fun c_13 => ?_)
  · refine lv_iconst (v := nI 0) hx hb dX7_goStep_102 (by decide) ?_
    have hgs : k_gs (f + 1) σ9 = (nI 0, σ9) := gs_w c_13
    exact out H locs ls L9 ow9 (nI 0) 103 (Or.inl rfl) dX7_goStep_103 (by rw [hgs]; exact hC9) hO9 hL9 hS (by rw [hgs])
  have h710 : σ9.2.1 710 0 = 0 := c_13
  refine lv_aload_n hx hb dX7_goStep_16 rfl (lv_at hl 1 rfl) ?_
  refine gt_X7_25 X hK hG h799 dX7_goStep_17 ?_
  refine lv_aload_n hx hb dX7_goStep_20 rfl (lv_at hl 1 rfl) ?_
  refine gt_X7_31 X hK hG h799 rfl dX7_goStep_21 ?_
  refine al_703 X hK hG h703 (i := σ9.1 704 0) hw4 rfl dX7_goStep_24 ?_
  refine lv_aload_n hx hb dX7_goStep_25 rfl (lv_at hl 1 rfl) ?_
  refine gt_X7_35 X hK hG h799 rfl dX7_goStep_26 ?_
  refine r_icmp_eqN (tgt := 67) hx hb dX7_goStep_29 (by decide) (by omega) (by omega) (fun c_29 => ?_) (fun c_29 => ?_)
  rotate_left 1
  · have hgs : k_gs (f + 1) σ9 = (nI 1, k_mv σ9) := gs_s h710 c_29
    have fin : ∀ (H : Heap) (locs : List Loc) (v : Nat), v = (if σ9.2.2.1 703 0 (σ9.1 704 0) < σ9.1 705 0 then σ9.2.2.1 703 0 (σ9.1 704 0) + 1 else σ9.2.2.1 703 0 (σ9.1 704 0) - 1) → PW D cI cZ cO (cdom σ9) L9 (wA σ9 703 0 (σ9.1 704 0) v) ow9 H → va_S (AA ow s.heap.size) s.heap H locs → W p l e { frames := 11, cells := 0, slots := 0, locals := 390 } s m9 args below meth c H locs 0 0 (MQ below (XQi D cI cZ cO t0 L σ ow s.heap.size (k_gs 601 σ).1 (k_gs 601 σ).2) args s 0 0 (AA ow s.heap.size)) (F0 m9 65 ls []) := fun H locs v hvv hG hS => by
      subst hvv
      refine lv_iconst (v := nI 1) hx hb dX7_goStep_65 (by decide) ?_
      exact out H locs ls L9 ow9 (nI 1) 66 (Or.inr rfl) dX7_goStep_66 (by rw [hgs]; exact ⟨hG, hC9.2⟩) hO9 hL9 hS (by rw [hgs])
    refine lv_aload_n hx hb dX7_goStep_32 rfl (lv_at hl 1 rfl) ?_
    refine gt_X7_25 X hK hG h799 dX7_goStep_33 ?_
    refine lv_aload_n hx hb dX7_goStep_36 rfl (lv_at hl 1 rfl) ?_
    refine gt_X7_31 X hK hG h799 rfl dX7_goStep_37 ?_
    refine lv_dup2_11 hx hb dX7_goStep_40 rfl rfl ?_
    refine al_703 X hK hG h703 (i := σ9.1 704 0) hw4 rfl dX7_goStep_41 ?_
    refine lv_aload_n hx hb dX7_goStep_42 rfl (lv_at hl 1 rfl) ?_
    refine gt_X7_25 X hK hG h799 dX7_goStep_43 ?_
    refine lv_aload_n hx hb dX7_goStep_46 rfl (lv_at hl 1 rfl) ?_
    refine gt_X7_31 X hK hG h799 rfl dX7_goStep_47 ?_
    refine al_703 X hK hG h703 (i := σ9.1 704 0) hw4 rfl dX7_goStep_50 ?_
    refine lv_aload_n hx hb dX7_goStep_51 rfl (lv_at hl 1 rfl) ?_
    refine gt_X7_35 X hK hG h799 rfl dX7_goStep_52 ?_
    refine r_icmp_geN (tgt := 62) hx hb dX7_goStep_55 (by decide) (by omega) (by omega) (fun c_55 => ?_) (fun c_55 => ?_)
    · refine lv_iconst (v := (-1)) hx hb dX7_goStep_62 (by decide) ?_
      refine lv_iadd hx hb dX7_goStep_63 ?_
      refine r_top (y := nI (σ9.2.2.1 703 0 (σ9.1 704 0) - 1)) (by rw [← pk_sub (a := σ9.2.2.1 703 0 (σ9.1 704 0)) (b := 1) (by omega), Int32.sub_eq_add_neg]; rfl) ?_
      refine as_703 X hK hG hS hO9 h703 (i := σ9.1 704 0) hw4 dX7_goStep_64 (fun H locs hG hS => ?_)
      exact fin H locs _ (if_neg (by omega)).symm hG hS
    · refine lv_iconst (v := nI 1) hx hb dX7_goStep_58 (by decide) ?_
      refine lv_goto (tgt := 63) hx hb dX7_goStep_59 (by decide) ?_
      refine r_addN hx hb dX7_goStep_63 ?_
      refine as_703 X hK hG hS hO9 h703 (i := σ9.1 704 0) hw4 dX7_goStep_64 (fun H locs hG hS => ?_)
      exact fin H locs _ (if_pos c_55).symm hG hS
  have hWL1 := wl_lv hWL9
  have hWS1 := ws_lv (σ9.1 1002 7) hWS9
  have hF1 := hF.tr (fw_lv (σ := σ9) (σ9.1 1002 7))
  refine lv_aload_n hx hb dX7_goStep_67 rfl (lv_at hl 1 rfl) ?_
  refine xv_callV X hK hC9 hS hO9 (fun q h => Or.inr h) hE yvX7_leaveEnded ml_X7_58 kX7 rfl h799 [] [] (x_X7_leaveEnded l L9 σ9 ow9 hWL9.1 hWL9.2.1 (fun k => Nat.lt_of_le_of_lt (hWL9.2.2.2.1 k) (by decide)) (fun k => Nat.lt_of_le_of_lt (hWL9.2.2.2.2 k) (by decide))) rfl hl.1 rfl (Nat.le_of_ble_eq_true rfl) ⟨Nat.le_of_ble_eq_true rfl, Nat.le_of_ble_eq_true rfl⟩ ⟨Nat.zero_le _, Nat.zero_le _⟩ dX7_goStep_68 (fun L1 ow1 H locs hLx hO1 hC1 hS => ?_)
  have hL1 : ∀ F k, cdom σ F k → F ≠ 1001 → L1 F k = L F k := fun F k hd h1 => (hLx F k (by rw [hF.dom]; exact hd) h1).trans (hL9 F k hd h1)
  have e799 : L9 799 0 = L1 799 0 := (hLx 799 0 h799 (by decide)).symm
  rw [e799] at hl
  generalize hσ1 : k_lv (σ9.1 1002 7) σ9 = σ1 at hWL1 hWS1 hF1 hC1
  have htop : ¬ σ1.1 1002 7 = 0 → σ1.2.2.1 702 0 (σ1.1 1002 7 - 1) < 30 := by rw [← hσ1]; exact lv_top hWL9
  have hG1 := hC1.1
  have h799 : cdom σ1 799 0 := cd_fix (by decide)
  have hnd : nd σ1 = 0 := if_neg hWL1.2.2.1
  refine lv_aload_n hx hb dX7_goStep_71 rfl (lv_at hl 1 rfl) ?_
  refine gt_X7_18 X hK hG1 h799 dX7_goStep_72 ?_
  refine x_empty X hK hG1 hS (fun q h => h.elim (hO1 q) Or.inr) (cd_list (by decide)) (by have := hWL1.2.1; omega) ml_X7_61 hl.1 (Nat.le_of_ble_eq_true rfl) ⟨Nat.le_of_ble_eq_true rfl, Nat.le_of_ble_eq_true rfl⟩ ⟨Nat.zero_le _, Nat.zero_le _⟩ dX7_goStep_75 (fun H locs hG1 hS => ?_)
  have hC1 : CW D cI cZ cO t0 L1 σ1 ow1 H := ⟨hG1, hC1.2⟩
  refine r_if_eqB (tgt := 83) hx hb dX7_goStep_78 (by decide) (fun c_78 => ?_) (fun c_78 => ?_)
  rotate_left 1
  · have hgs : k_gs (f + 1) σ9 = (nI 0, σ1) := by rw [← hσ1]; exact gs_e h710 c_29 (by rw [hσ1]; exact c_78)
    refine lv_iconst (v := nI 0) hx hb dX7_goStep_81 (by decide) ?_
    exact out H locs ls L1 ow1 (nI 0) 82 (Or.inl rfl) dX7_goStep_82 (by rw [hgs]; exact hC1) hO1 hL1 hS (by rw [hgs])
  have hgs : k_gs (f + 1) σ9 = k_gs f (k_obey (σ1.1 1002 7 - 1) σ1) := by rw [← hσ1]; exact gs_r h710 c_29 (by rw [hσ1]; exact c_78)
  refine lv_aload_n hx hb dX7_goStep_83 rfl (lv_at hl 1 rfl) ?_
  refine lv_aload_n hx hb dX7_goStep_84 rfl (lv_at hl 1 rfl) ?_
  refine gt_X7_18 X hK hG1 h799 dX7_goStep_85 ?_
  refine x_size X hK hG1 hS (fun q h => h.elim (hO1 q) Or.inr) (cd_list (by decide)) ml_X7_65 hl.1 (Nat.le_of_ble_eq_true rfl) ⟨Nat.le_of_ble_eq_true rfl, Nat.le_of_ble_eq_true rfl⟩ ⟨Nat.zero_le _, Nat.zero_le _⟩ dX7_goStep_88 (fun H locs hG1 hS => ?_)
  have hC1 : CW D cI cZ cO t0 L1 σ1 ow1 H := ⟨hG1, hC1.2⟩
  refine lv_iconst (v := nI 1) hx hb dX7_goStep_91 (by decide) ?_
  refine r_subN hx hb (by omega) dX7_goStep_92 ?_
  have hM := x_X7_obeyNext (D := D) (cI := cI) (cZ := cZ) (cO := cO) (t0 := t0) (mi := mi) l L1 σ1 ow1 (σ1.1 1002 7 - 1) hWL1.1 (by omega) (by have := hWL1.2.1; omega) (htop c_78) (by have := hWS1.1; omega) (by have := hWS1.2.2.2 2 (by decide); have : gmx 2 = 9 := rfl; omega)
  rw [hnd] at hM
  refine xv_callV X hK hC1 hS hO1 (fun q h => Or.inr h) hE yvX7_obeyNext ml_X7_69 kX7 rfl h799 [.int (nI (σ1.1 1002 7 - 1))] [] hM rfl hl.1 rfl (Nat.le_of_ble_eq_true rfl) ⟨Nat.le_of_ble_eq_true rfl, Nat.le_of_ble_eq_true rfl⟩ ⟨Nat.zero_le _, Nat.zero_le _⟩ dX7_goStep_93 (fun L2 ow2 H locs hLy hO2 hC2 hS => ?_)
  have hL2 : ∀ F k, cdom σ F k → F ≠ 1001 → L2 F k = L F k := fun F k hd h1 => (hLy F k (by rw [hF1.dom]; exact hd) h1).trans (hL1 F k hd h1)
  have e799 : L1 799 0 = L2 799 0 := (hLy 799 0 h799 (by decide)).symm
  rw [e799] at hl
  refine r_iincN (b := 1) (lv' := [(1, .int (nI (n + 1))), (0, .ref (L2 799 0))]) hx hb dX7_goStep_96 hl (k := 0) rfl (by decide) (by decide) rfl (fun ls hl => ?_)
  refine lv_goto (tgt := 2) hx hb dX7_goStep_99 (by decide) ?_
  exact ih (n + 1, f, k_obey (σ1.1 1002 7 - 1) σ1) (Nat.lt_succ_self f) ⟨by show n + 1 + f = 601; omega, wl_obey hWL1 (htop c_78), ws_obey hWS1, hv.trans hgs, hF1.tr (fw_obey (wl_c7 hWL1))⟩ L2 ow2 H locs ls hC2 hO2 hL2 hS hl
