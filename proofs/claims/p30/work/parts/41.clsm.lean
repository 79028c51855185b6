theorem gs_01 : ∀ (f : Nat) (σ : St), (k_gs f σ).1 = nI 0 ∨ (k_gs f σ).1 = nI 1 := fun f => by
  induction f with
  | zero => exact fun _ => Or.inl rfl
  | succ f ih =>
    intro σ
    by_cases h : σ.2.1 710 0 = 0
    · by_cases g : σ.2.2.1 703 0 (σ.1 704 0) = σ.1 705 0
      · by_cases c : (k_lv (σ.1 1002 7) σ).1 1002 7 = 0
        · rw [gs_e h g c]; exact Or.inl rfl
        · rw [gs_r h g c]; exact ih _
      · rw [gs_s h g]; exact Or.inr rfl
    · rw [gs_w h]; exact Or.inl rfl
set_option maxHeartbeats 4000000 in
theorem x_X6_run {D : va_G} {cI cZ cO : ClassId} {t0 mi : Nat} (l : Launch) (L : Lay) (σ : St) (ow : Nat → Prop) (q g : Nat) (v : Int32) (hI : CI σ) (hq : q < σ.1 1002 1) (hv : ix v (σ.1 1002 6)) (h4 : ∀ k, σ.1 402 k ≤ 30) (h7 : ∀ k, σ.2.2.1 702 0 k ≤ 30) (hPK : PK σ) (hg : g < 100000) : XV D cI cZ cO t0 mi l yX6_run cX6_run 6 12 420 (nd σ) (10 * nd σ) [.ref (L 699 0), .ref (L 799 0), .ref (L 299 q), .int v, .int (nI g)] L σ ow (k_run q v g σ) := by
  refine x_of (Qc := fun sz => XQv D cI cZ cO t0 L σ ow sz (k_run q v g σ)) rfl (Nat.le_of_ble_eq_true rfl) ?_
  intro p e s m9 args below meth c ls X hK hC hE hr hlocks hl
  have X : CallFix p m9 c cX6_run 6 s _ TB RX6 := X
  have hx := X.1
  have hb := X.2.1
  have hS : va_S (AA ow s.heap.size) s.heap s.heap [] := va_S.rf
  have hA : ∀ q, ow q → AA ow s.heap.size q := fun _ h => Or.inl h
  have hG := hC.1
  have hl : lv_has ls 6 [(0, .ref (L 699 0)), (1, .ref (L 799 0)), (2, .ref (L 299 q)), (3, .int v), (4, .int (nI g))] := hl
  have h699 : cdom σ 699 0 := cd_fix (by decide)
  have h799 : cdom σ 799 0 := cd_fix (by decide)
  have h600 : cdom σ 600 0 := cd_fix (by decide)
  have h601 : cdom σ 601 0 := cd_fix (by decide)
  have h299 : cdom σ 299 q := cd_obj (by decide) (Or.inl (by decide)) hq
  have h200 : cdom σ 200 q := cd_obj (by decide) (Or.inr (by decide)) hq
  refine lv_aload_n hx hb dX6_run_0 rfl (lv_at hl 2 rfl) ?_
  refine gt_X6_18 X hK hG h299 dX6_run_1 ?_
  refine lv_iconst (v := nI 0) hx hb dX6_run_4 (by decide) ?_
  refine lv_aload_n hx hb dX6_run_5 rfl (lv_at hl 0 rfl) ?_
  refine gt_X6_9 X hK hG h699 dX6_run_6 ?_
  refine lv_iconst (v := nI 0) hx hb dX6_run_9 (by decide) ?_
  refine lv_sipush (v := nI 144) hx hb dX6_run_10 (by decide) ?_
  refine pw_copyI X hK hG hS hA hl.1 (F := 200) (G := 600) fa_200 fa_600 h200 h600 rfl rfl (by decide) (fun z => absurd z.1 (by decide)) tw_3_168 (Nat.le_of_ble_eq_true rfl) (Nat.le_of_ble_eq_true rfl) dX6_run_13 (fun H locs hG hS => ?_)
  refine lv_aload_n hx hb dX6_run_16 rfl (lv_at hl 0 rfl) ?_
  refine gt_X6_15 X hK hG h699 dX6_run_17 ?_
  refine lv_iconst (v := nI 0) hx hb dX6_run_20 (by decide) ?_
  refine rv_callSg X hK hG hS (fun q h => h) ysJ7_fill_53178 ml_X6_27 [.ref (L 601 0), .int (nI 0)] [] (c_fillA l L _ ow 601 0 4 0 h601 fa_601 rfl (by decide)) rfl hl.1 rfl (Nat.le_of_ble_eq_true rfl) ⟨Nat.le_of_ble_eq_true rfl, Nat.le_of_ble_eq_true rfl⟩ ⟨Nat.zero_le _, Nat.zero_le _⟩ dX6_run_21 (fun H locs hG hS => ?_)
  refine lv_aload_n hx hb dX6_run_24 rfl (lv_at hl 0 rfl) ?_
  refine lv_iconst (v := nI 0) hx hb dX6_run_25 (by decide) ?_
  refine pt_X6_33 X hK hG hS hA h699 dX6_run_26 (fun H locs hG hS => ?_)
  refine lv_aload_n hx hb dX6_run_29 rfl (lv_at hl 0 rfl) ?_
  refine lv_iconst (v := nI 0) hx hb dX6_run_30 (by decide) ?_
  refine pt_X6_37 X hK hG hS hA h699 dX6_run_31 (fun H locs hG hS => ?_)
  have hF1 := ft_rs (p := q) (σ := σ)
  have hI1 : CI (k_rs q σ) := ci_rs hI
  have hG : PW D cI cZ cO (cdom σ) L (k_rs q σ) ow H := hG
  have hC1 : CW D cI cZ cO t0 L (k_rs q σ) ow H := ⟨by rw [hF1.dom]; exact hG, fun k hk h => hC.2 k hk (by rw [← (hF1.1 1003 k (by omega) (by omega) (by omega)).1]; exact h)⟩
  have hnd : nd (k_rs q σ) = nd σ := by unfold nd; rw [(hF1.1 1003 7 (by omega) (by omega) (by omega)).1]
  have hv1 : ix v ((k_rs q σ).1 1002 6) := by rw [(hF1.1 1002 6 (by omega) (by omega) (by omega)).1]; exact hv
  obtain ⟨hWLb, hWSb, hWKb, hFb⟩ := beg_inv (v := v) hI1 hv1 (fun k => by rw [(hF1.1 402 k (by omega) (by omega) (by omega)).1]; exact h4 k) (fun k => by rw [(rs_7 (p := q) (σ := σ)).2.1]; exact h7 k) (pk_ofB hPK hF1.fb)
  have hF0 := hF1.fb.tr hFb
  refine lv_aload_n hx hb dX6_run_34 rfl (lv_at hl 1 rfl) ?_
  refine lv_iload_n hx hb dX6_run_35 rfl (lv_at hl 3 rfl) ?_
  have hM := x_X7_begin (D := D) (cI := cI) (cZ := cZ) (cO := cO) (t0 := t0) (mi := mi) l L (k_rs q σ) ow v hI1
  rw [hnd] at hM
  refine xv_callV X hK hC1 hS hA (fun q h => Or.inr h) hE yvX7_begin ml_X6_40 kX7 rfl (cd_fix (by decide)) [.int v] [] hM rfl hl.1 rfl (Nat.le_of_ble_eq_true rfl) ⟨Nat.le_of_ble_eq_true rfl, Nat.le_of_ble_eq_true rfl⟩ ⟨by show 0 + nd σ ≤ nd σ; omega, by show 0 + 10 * nd σ ≤ 10 * nd σ; omega⟩ dX6_run_36 (fun Lb owb H locs hLb hOb hCb hS => ?_)
  have hLb : ∀ F k, cdom σ F k → F ≠ 1001 → Lb F k = L F k := fun F k hd h1 => hLb F k (by rw [hF1.dom]; exact hd) h1
  refine lv_iconst (v := nI 0) hx hb dX6_run_39 (by decide) ?_
  refine lv_istore (lv' := [(5, .int (nI 0)), (0, .ref (L 699 0)), (1, .ref (L 799 0)), (2, .ref (L 299 q)), (3, .int v), (4, .int (nI g))]) hx hb dX6_run_40 hl (by decide) rfl (fun ls hl => ?_)
  rw [← hLb 699 0 h699 (by decide), ← hLb 799 0 h799 (by decide), ← hLb 299 q h299 (by decide)] at hl
  generalize hσb : k_beg v (k_rs q σ) = σb at hWLb hWSb hWKb hF0 hCb
  have hrun : k_run q v g σ = k_rl q g 6601 0 σb := by rw [← hσb]; rfl
  refine r_loopX (L0 := Lb) (σ0 := σb) (A := AA ow s.heap.size) (ι := Nat × Nat × St) (fun i L => [(5, .int (nI i.1)), (0, .ref (L 699 0)), (1, .ref (L 799 0)), (2, .ref (L 299 q)), (3, .int v), (4, .int (nI g))]) (fun i => i.2.2) (fun _ => nd σ) (fun _ => 10 * nd σ) (fun i => i.2.1) (fun i => i.1 + i.2.1 = 6601 ∧ WL i.2.2 ∧ WS i.2.2 ∧ WK i.2.2 ∧ k_run q v g σ = k_rl q g i.2.1 i.1 i.2.2 ∧ FT σb i.2.2) ?_ (0, 6601, σb) ⟨rfl, hWLb, hWSb, hWKb, hrun, FT.rf⟩ hCb hOb (fun _ _ _ _ => rfl) hS hl (by show 0 + nd σ ≤ nd σ; omega) (by show 0 + 10 * nd σ ≤ 10 * nd σ; omega)
  rintro ⟨n, f, σ9⟩ ⟨hnf, hWL9, hWS9, hWK9, hv9, hF9⟩ ih L9 ow9 H locs ls hC9 hO9 hL9 hS hl
  have hnf : n + f = 6601 := hnf
  have hC9 : CW D cI cZ cO t0 L9 σ9 ow9 H := hC9
  have hWL9 : WL σ9 := hWL9
  have hWS9 : WS σ9 := hWS9
  have hWK9 : WK σ9 := hWK9
  have hv9 : k_run q v g σ = k_rl q g f n σ9 := hv9
  have hF9 : FT σb σ9 := hF9
  have hl : lv_has ls 6 [(5, .int (nI n)), (0, .ref (L9 699 0)), (1, .ref (L9 799 0)), (2, .ref (L9 299 q)), (3, .int v), (4, .int (nI g))] := hl
  have hG := hC9.1
  have hq9 : q < σ9.1 1002 1 := by
    rw [((hF0.tr hF9.fb).1 1002 1 (by omega) (by omega) (by omega)).1]
    exact hq
  have h799 : cdom σ9 799 0 := cd_fix (by decide)
  have out : ∀ (H : Heap) (locs : List Loc) (ls : Array Slot) (L' : Lay) (ow' : Nat → Prop) (pc : Nat), decode cX6_run pc = .ok (.return_, 1) → CW D cI cZ cO t0 L' (k_rl q g f n σ9) ow' H → (∀ q, ow' q → AA ow s.heap.size q) → (∀ F k, cdom σb F k → F ≠ 1001 → L' F k = Lb F k) → va_S (AA ow s.heap.size) s.heap H locs → W p l e { frames := 12, cells := nd σ, slots := 10 * nd σ, locals := 420 } s m9 args below meth c H locs (nd σ) (10 * nd σ) (MQ below (XQv D cI cZ cO t0 L σ ow s.heap.size (k_run q v g σ)) args s (nd σ) (10 * nd σ) (AA ow s.heap.size)) (F0 m9 pc ls []) := fun H locs ls L' ow' pc d hC' hO' hL' hS => by
    refine xv_ret hx hb hr hlocks ⟨L', ow', fun F k hd h1 => (hL' F k (hF0.dom h1 hd) h1).trans (hLb F k hd h1), hO', ?_⟩ hS (Nat.le_refl _) (Nat.le_refl _) d
    rw [hv9]
    exact hC'
  have tail : ∀ (H : Heap) (locs : List Loc) (ls : Array Slot) (L' : Lay) (ow' : Nat → Prop) (σ' : St), lv_has ls 6 [(5, .int (nI n)), (0, .ref (L' 699 0)), (1, .ref (L' 799 0)), (2, .ref (L' 299 q)), (3, .int v), (4, .int (nI g))] → CW D cI cZ cO t0 L' σ' ow' H → k_rl q g f n σ9 = wI σ' 604 0 (σ'.2.1 710 0) → (∀ q, ow' q → AA ow s.heap.size q) → (∀ F k, cdom σb F k → F ≠ 1001 → L' F k = Lb F k) → va_S (AA ow s.heap.size) s.heap H locs → W p l e { frames := 12, cells := nd σ, slots := 10 * nd σ, locals := 420 } s m9 args below meth c H locs (nd σ) (10 * nd σ) (MQ below (XQv D cI cZ cO t0 L σ ow s.heap.size (k_run q v g σ)) args s (nd σ) (10 * nd σ) (AA ow s.heap.size)) (F0 m9 167 ls []) := fun H locs ls L' ow' σ' hl hC' hrl hO' hL' hS => by
    have hG' := hC'.1
    refine lv_aload_n hx hb dX6_run_167 rfl (lv_at hl 1 rfl) ?_
    refine lv_aload_n hx hb dX6_run_168 rfl (lv_at hl 2 rfl) ?_
    refine gt_X6_73 X hK hG' (cd_fix (by decide)) rfl dX6_run_169 ?_
    refine pt_X6_60 X hK hG' hS hO' (cd_fix (by decide)) dX6_run_172 (fun H locs hG' hS => ?_)
    exact out H locs ls L' ow' 175 dX6_run_175 (by rw [hrl]; exact ⟨hG', hC'.2⟩) hO' hL' hS
  refine lv_iload hx hb dX6_run_42 (lv_at hl 0 rfl) ?_
  refine lv_sipush (v := nI 6600) hx hb dX6_run_44 (by decide) ?_
  refine r_icmp_gtN (tgt := 167) hx hb dX6_run_47 (by decide) (by omega) (by decide) (fun c_47 => ?_) (fun c_47 => ?_)
  · have f0 : f = 0 := by omega
    subst f0
    exact tail H locs ls L9 ow9 σ9 hl hC9 rfl hO9 hL9 hS
  obtain ⟨f, rfl⟩ : ∃ k, f = k + 1 := ⟨f - 1, by omega⟩
  refine lv_aload_n hx hb dX6_run_50 rfl (lv_at hl 2 rfl) ?_
  refine xi_callV X hK hC9 hS hO9 (fun q h => Or.inr h) hE yvX7_goStep ml_X6_46 kX7 rfl h799 [] [] (x_X7_goStep l L9 σ9 ow9 hWL9 hWS9) rfl hl.1 rfl (Nat.le_of_ble_eq_true rfl) ⟨Nat.le_of_ble_eq_true rfl, Nat.le_of_ble_eq_true rfl⟩ ⟨Nat.le_refl _, Nat.le_refl _⟩ dX6_run_51 (fun L1 ow1 H locs hLx hO1 hC1 hS => ?_)
  obtain ⟨hWL1, hWS1, hWK1, hF1'⟩ := gs_inv 601 σ9 hWL9 hWS9 hWK9
  have h01 := gs_01 601 σ9
  have hL1 : ∀ F k, cdom σb F k → F ≠ 1001 → L1 F k = Lb F k := fun F k hd h1 => (hLx F k (by rw [hF9.dom]; exact hd) h1).trans (hL9 F k hd h1)
  rw [← hLx 699 0 (cd_fix (by decide)) (by decide), ← hLx 799 0 (cd_fix (by decide)) (by decide), ← hLx 299 q (cd_obj (by decide) (Or.inl (by decide)) hq9) (by decide)] at hl
  have hF1 := hF9.tr hF1'.ft
  have rle := rl_e (p := q) (g := g) (f := f) (n := n) (σ := σ9)
  have rlp := rl_p (p := q) (g := g) (f := f) (n := n) (σ := σ9)
  have rlc := rl_c (p := q) (g := g) (f := f) (n := n) (σ := σ9)
  have rlr := rl_r (p := q) (g := g) (f := f) (n := n) (σ := σ9)
  generalize hgs : k_gs 601 σ9 = gs at hWL1 hWS1 hWK1 hF1 hC1 h01 rle rlp rlc rlr
  obtain ⟨r1, σ1⟩ := gs
  have hWL1 : WL σ1 := hWL1
  have hWS1 : WS σ1 := hWS1
  have hWK1 : WK σ1 := hWK1
  have hF1 : FT σb σ1 := hF1
  have hC1 : CW D cI cZ cO t0 L1 σ1 ow1 H := hC1
  have h01 : r1 = nI 0 ∨ r1 = nI 1 := h01
  have hG1 := hC1.1
  show W p l e _ s m9 args below meth c H locs (nd σ + 0) (10 * nd σ + 0) _ (F0 m9 54 ls [.int r1])
  rw [Nat.add_zero, Nat.add_zero]
  have hq1 : q < σ1.1 1002 1 := by
    rw [((hF0.tr hF1.fb).1 1002 1 (by omega) (by omega) (by omega)).1]
    exact hq
  refine lv_if_eq (tgt := 167) hx hb dX6_run_54 (by decide) (fun c_54 => ?_) (fun c_54 => ?_)
  · exact tail H locs ls L1 ow1 σ1 hl hC1 (rle c_54) hO1 hL1 hS
  have back : ∀ (H : Heap) (locs : List Loc) (σ' : St), CW D cI cZ cO t0 L1 σ' ow1 H → k_rl q g (f + 1) n σ9 = k_rl q g f (n + 1) σ' → WL σ' → WS σ' → WK σ' → FT σb σ' → va_S (AA ow s.heap.size) s.heap H locs → W p l e { frames := 12, cells := nd σ, slots := 10 * nd σ, locals := 420 } s m9 args below meth c H locs (nd σ) (10 * nd σ) (MQ below (XQv D cI cZ cO t0 L σ ow s.heap.size (k_run q v g σ)) args s (nd σ) (10 * nd σ) (AA ow s.heap.size)) (F0 m9 161 ls []) := fun H locs σ' hC' hrl a b d hF' hS => by
    refine r_iincN (b := 1) (lv' := [(5, .int (nI (n + 1))), (0, .ref (L1 699 0)), (1, .ref (L1 799 0)), (2, .ref (L1 299 q)), (3, .int v), (4, .int (nI g))]) hx hb dX6_run_161 hl (k := 0) rfl (by decide) (by decide) rfl (fun ls hl => ?_)
    refine lv_goto (tgt := 42) hx hb dX6_run_164 (by decide) ?_
    exact ih (n + 1, f, σ') (Nat.lt_succ_self f) ⟨by show n + 1 + f = 6601; omega, a, b, d, hv9.trans hrl, hF'⟩ L1 ow1 H locs ls hC' hO1 hL1 hS hl
  refine lv_iload hx hb dX6_run_57 (lv_at hl 0 rfl) ?_
  refine lv_iload hx hb dX6_run_59 (lv_at hl 5 rfl) ?_
  refine r_icmp_geN (tgt := 67) hx hb dX6_run_61 (by decide) (by omega) (by omega) (fun c_61 => ?_) (fun c_61 => ?_)
  rotate_left 1
  · refine lv_goto (tgt := 161) hx hb dX6_run_64 (by decide) ?_
    exact back H locs σ1 hC1 (rlp c_54 c_61) hWL1 hWS1 hWK1 hF1 hS
  have h799 : cdom σ1 799 0 := cd_fix (by decide)
  have h703 : cdom σ1 703 0 := cd_fix (by decide)
  have h699 : cdom σ1 699 0 := cd_fix (by decide)
  have h600 : cdom σ1 600 0 := cd_fix (by decide)
  have h601 : cdom σ1 601 0 := cd_fix (by decide)
  have h299 : cdom σ1 299 q := cd_obj (by decide) (Or.inl (by decide)) hq1
  have h204 : cdom σ1 204 q := cd_obj (by decide) (Or.inr (by decide)) hq1
  have hx0 : σ1.2.2.1 703 0 0 < 12 := Nat.lt_succ_of_le (hWS1.2.2.2 0 (by decide))
  have hy0 : σ1.2.2.1 703 0 1 < 12 := Nat.lt_succ_of_le (hWS1.2.2.2 1 (by decide))
  have hcell : σ1.2.2.1 703 0 1 * 12 + σ1.2.2.1 703 0 0 < 144 := by omega
  have hO1' : ∀ q, AA ow1 s.heap.size q → AA ow s.heap.size q := fun q h => h.elim (hO1 q) Or.inr
  -- CRASH
  have crash : ∀ (H : Heap) (locs : List Loc), PW D cI cZ cO (cdom σ1) L1 σ1 ow1 H → va_S (AA ow s.heap.size) s.heap H locs → k_cr q σ1 → W p l e { frames := 12, cells := nd σ, slots := 10 * nd σ, locals := 420 } s m9 args below meth c H locs (nd σ) (10 * nd σ) (MQ below (XQv D cI cZ cO t0 L σ ow s.heap.size (k_run q v g σ)) args s (nd σ) (10 * nd σ) (AA ow s.heap.size)) (F0 m9 96 ls []) := fun H locs hG1 hS hcr => by
    refine lv_aload_n hx hb dX6_run_96 rfl (lv_at hl 1 rfl) ?_
    refine lv_iconst (v := nI 3) hx hb dX6_run_97 (by decide) ?_
    refine pt_X6_60 X hK hG1 hS hO1 h699 dX6_run_98 (fun H locs hG1 hS => ?_)
    refine out H locs ls L1 ow1 101 dX6_run_101 ?_ hO1 hL1 hS
    rw [rlc c_54 (Nat.not_lt.mpr c_61) hcr]
    exact ⟨hG1, hC1.2⟩
  -- behind the test
  have go : ∀ (H : Heap) (locs : List Loc), PW D cI cZ cO (cdom σ1) L1 σ1 ow1 H → va_S (AA ow s.heap.size) s.heap H locs → ¬ k_cr q σ1 → W p l e { frames := 12, cells := nd σ, slots := 10 * nd σ, locals := 420 } s m9 args below meth c H locs (nd σ) (10 * nd σ) (MQ below (XQv D cI cZ cO t0 L σ ow s.heap.size (k_run q v g σ)) args s (nd σ) (10 * nd σ) (AA ow s.heap.size)) (F0 m9 102 ls []) := fun H locs hG1 hS hcr => by
    have hrl := rlr c_54 (Nat.not_lt.mpr c_61) hcr
    obtain ⟨hWL2, hWS2, hWK2⟩ := ct_inv hWL1 hWS1 hWK1
    have hF2 := hF1.tr (ft_ct (σ := σ1))
    refine lv_aload_n hx hb dX6_run_102 rfl (lv_at hl 1 rfl) ?_
    refine lv_dup hx hb dX6_run_103 rfl ?_
    refine gt_X6_33 X hK hG1 h699 rfl dX6_run_104 ?_
    refine lv_iconst (v := nI 1) hx hb dX6_run_107 (by decide) ?_
    refine r_addN hx hb dX6_run_108 ?_
    refine pt_X6_33 X hK hG1 hS hO1 h699 dX6_run_109 (fun H locs hG1 hS => ?_)
    refine lv_aload_n hx hb dX6_run_112 rfl (lv_at hl 2 rfl) ?_
    refine lv_aload_n hx hb dX6_run_113 rfl (lv_at hl 1 rfl) ?_
    refine gt_X6_9 X hK hG1 h699 dX6_run_114 ?_
    refine rm_callVg X hK hG1 hS hO1' yvX7_isBelow ml_X6_53 kX7 rfl h799 [.ref (L1 600 0)] [] (c_X7_isBelow l L1 _ ow1 (cd_sub (by decide)) 600 0 h600 fa_600 rfl hx0 hy0) rfl hl.1 rfl (Nat.le_of_ble_eq_true rfl) ⟨Nat.le_of_ble_eq_true rfl, Nat.le_of_ble_eq_true rfl⟩ ⟨Nat.le_refl _, Nat.le_refl _⟩ dX6_run_117 (fun H locs hG1 hS => ?_)
    refine r_if_eqB (tgt := 161) hx hb dX6_run_120 (by decide) (fun c_120 => ?_) (fun c_120 => ?_)
    · have e : k_ct σ1 = wN σ1 602 0 (σ1.1 602 0 + 1) := if_neg c_120
      rw [e] at hrl hWL2 hWS2 hWK2 hF2
      exact back H locs (wN σ1 602 0 (σ1.1 602 0 + 1)) ⟨hG1, hC1.2⟩ hrl hWL2 hWS2 hWK2 hF2 hS
    have e : k_ct σ1 = _ := if_pos c_120
    rw [e] at hrl hWL2 hWS2 hWK2 hF2
    have hcut : ¬ σ1.2.1 707 0 = 0 ∧ ¬ σ1.2.1 709 0 = (-1) := Classical.byContradiction (fun z => hcr (Or.inr ⟨c_120, z⟩))
    have hkd : ix (σ1.2.1 709 0) 4 := hWK1.1.resolve_left hcut.2
    refine lv_aload_n hx hb dX6_run_123 rfl (lv_at hl 1 rfl) ?_
    refine lv_dup hx hb dX6_run_124 rfl ?_
    refine gt_X6_37 X hK hG1 h699 rfl dX6_run_125 ?_
    refine lv_iconst (v := nI 1) hx hb dX6_run_128 (by decide) ?_
    refine r_addN hx hb dX6_run_129 ?_
    refine pt_X6_37 X hK hG1 hS hO1 h699 dX6_run_130 (fun H locs hG1 hS => ?_)
    refine lv_aload_n hx hb dX6_run_133 rfl (lv_at hl 1 rfl) ?_
    refine gt_X6_15 X hK hG1 h699 dX6_run_134 ?_
    refine lv_aload_n hx hb dX6_run_137 rfl (lv_at hl 2 rfl) ?_
    refine gt_X6_63 X hK hG1 h799 rfl dX6_run_138 ?_
    refine r_top (y := nI (tn (σ1.2.1 709 0))) (ix_eq hkd) ?_
    refine lv_dup2_11 hx hb dX6_run_141 rfl rfl ?_
    refine al_601 X hK hG1 h601 (i := tn (σ1.2.1 709 0)) (ix_lt hkd) (x := σ1.2.2.1 601 0 (tn (σ1.2.1 709 0))) rfl dX6_run_142 ?_
    refine lv_iconst (v := nI 1) hx hb dX6_run_143 (by decide) ?_
    refine r_addN hx hb dX6_run_144 ?_
    refine as_601 X hK hG1 hS hO1 h601 (i := tn (σ1.2.1 709 0)) (ix_lt hkd) dX6_run_145 (fun H locs hG1 hS => ?_)
    refine lv_aload_n hx hb dX6_run_146 rfl (lv_at hl 1 rfl) ?_
    refine gt_X6_9 X hK hG1 h699 dX6_run_147 ?_
    refine lv_aload_n hx hb dX6_run_150 rfl (lv_at hl 2 rfl) ?_
    refine rm_callVg X hK hG1 hS hO1' yvX7_cellNow ml_X6_66 kX7 rfl h799 [] [.ref (L1 600 0)] (c_X7_cellNow l L1 _ ow1 (cd_sub (by decide))) rfl hl.1 rfl (Nat.le_of_ble_eq_true rfl) ⟨Nat.le_of_ble_eq_true rfl, Nat.le_of_ble_eq_true rfl⟩ ⟨Nat.le_refl _, Nat.le_refl _⟩ dX6_run_151 (fun H locs hG1 hS => ?_)
    refine r_top (y := nI (σ1.2.2.1 703 0 1 * 12 + σ1.2.2.1 703 0 0)) (by simp [wA, wN, up3]) ?_
    refine lv_aload_n hx hb dX6_run_154 rfl (lv_at hl 2 rfl) ?_
    refine gt_X6_70 X hK hG1 h799 dX6_run_155 ?_
    refine lv_iconst (v := nI 2) hx hb dX6_run_158 (by decide) ?_
    refine al_703 X hK hG1 h703 (i := 2) (by decide) (x := σ1.2.2.1 703 0 2) (by simp [wA, wN, up3]) dX6_run_159 ?_
    refine as_600 X hK hG1 hS hO1 h600 (i := σ1.2.2.1 703 0 1 * 12 + σ1.2.2.1 703 0 0) hcell dX6_run_160 (fun H locs hG1 hS => ?_)
    exact back H locs (wB (wA (wN (wN σ1 602 0 (σ1.1 602 0 + 1)) 603 0 (σ1.1 603 0 + 1)) 601 0 (tn (σ1.2.1 709 0)) (σ1.2.2.1 601 0 (tn (σ1.2.1 709 0)) + 1)) 600 0 (ce σ1) (nI (σ1.2.2.1 703 0 2))) ⟨hG1, hC1.2⟩ hrl hWL2 hWS2 hWK2 hF2 hS
  refine lv_aload_n hx hb dX6_run_67 rfl (lv_at hl 2 rfl) ?_
  refine lv_aload_n hx hb dX6_run_68 rfl (lv_at hl 3 rfl) ?_
  refine gt_X6_50 X hK hG1 h299 dX6_run_69 ?_
  refine rm_callVg X hK hG1 hS hO1' yvX7_isBelow ml_X6_53 kX7 rfl h799 [.ref (L1 204 q)] [] (c_X7_isBelow l L1 _ ow1 (cd_sub (by decide)) 204 q h204 fa_204 rfl hx0 hy0) rfl hl.1 rfl (Nat.le_of_ble_eq_true rfl) ⟨Nat.le_of_ble_eq_true rfl, Nat.le_of_ble_eq_true rfl⟩ ⟨Nat.le_refl _, Nat.le_refl _⟩ dX6_run_72 (fun H locs hG1 hS => ?_)
  refine r_if_neB (tgt := 96) hx hb dX6_run_75 (by decide) (fun c_75 => ?_) (fun c_75 => ?_)
  · exact crash H locs hG1 hS (Or.inl c_75)
  refine lv_aload_n hx hb dX6_run_78 rfl (lv_at hl 2 rfl) ?_
  refine lv_aload_n hx hb dX6_run_79 rfl (lv_at hl 1 rfl) ?_
  refine gt_X6_9 X hK hG1 h699 dX6_run_80 ?_
  refine rm_callVg X hK hG1 hS hO1' yvX7_isBelow ml_X6_53 kX7 rfl h799 [.ref (L1 600 0)] [] (c_X7_isBelow l L1 _ ow1 (cd_sub (by decide)) 600 0 h600 fa_600 rfl hx0 hy0) rfl hl.1 rfl (Nat.le_of_ble_eq_true rfl) ⟨Nat.le_of_ble_eq_true rfl, Nat.le_of_ble_eq_true rfl⟩ ⟨Nat.le_refl _, Nat.le_refl _⟩ dX6_run_83 (fun H locs hG1 hS => ?_)
  refine r_if_eqB (tgt := 102) hx hb dX6_run_86 (by decide) (fun c_86 => ?_) (fun c_86 => ?_)
  · exact go H locs hG1 hS (fun z => z.elim c_75 (fun y => c_86 y.1))
  refine lv_aload_n hx hb dX6_run_89 rfl (lv_at hl 2 rfl) ?_
  refine rm_callVg X hK hG1 hS hO1' yvX7_canCut ml_X6_57 kX7 rfl h799 [] [] (c_X7_canCut l L1 _ ow1 (cd_sub (by decide))) rfl hl.1 rfl (Nat.le_of_ble_eq_true rfl) ⟨Nat.le_of_ble_eq_true rfl, Nat.le_of_ble_eq_true rfl⟩ ⟨Nat.le_refl _, Nat.le_refl _⟩ dX6_run_90 (fun H locs hG1 hS => ?_)
  refine r_if_neB (tgt := 102) hx hb dX6_run_93 (by decide) (fun c_93 => ?_) (fun c_93 => ?_)
  · exact go H locs hG1 hS (fun z => z.elim c_75 (fun y => y.2 c_93))
  · exact crash H locs hG1 hS (Or.inr ⟨c_86, c_93⟩)
