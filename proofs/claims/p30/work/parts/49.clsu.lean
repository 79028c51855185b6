/-! isCutToEnd -/
def TI (σ : St) : Prop := (∀ k, σ.1 504 k ≤ σ.1 502 k) ∧ (∀ k, σ.1 502 k ≤ 500) ∧ σ.1 812 0 ≤ 99
theorem ti_fb {σ σ' : St} (h : TI σ) (hF : FB σ σ') : TI σ' := ⟨fun k => by rw [(hF.1 504 k (by omega) (by omega) (by omega)).1, (hF.1 502 k (by omega) (by omega) (by omega)).1]; exact h.1 k, fun k => by rw [(hF.1 502 k (by omega) (by omega) (by omega)).1]; exact h.2.1 k, by rw [(hF.1 812 0 (by omega) (by omega) (by omega)).1]; exact h.2.2⟩
theorem fnd_some {f : Nat → Nat} : ∀ (m i : Nat) {r : Nat}, fnd f m i = some r → i ≤ r ∧ r < i + m ∧ ¬ f r = 0 := fun m => by
  induction m with
  | zero => intro i r h; cases h
  | succ m ih =>
    intro i r h
    have e : fnd f (m + 1) i = if f i = 0 then fnd f m (i + 1) else some i := rfl
    rw [e] at h
    by_cases c : f i = 0
    · rw [if_pos c] at h
      obtain ⟨a, b, d⟩ := ih (i + 1) h
      exact ⟨by omega, by omega, d⟩
    · rw [if_neg c] at h
      cases h
      exact ⟨Nat.le_refl _, by omega, c⟩
def lowT (σ : St) : Option Nat := fnd (fun i => lf σ (σ.2.1 709 0) (σ.2.2.1 1001 0 i)) (σ.1 1002 0) 0
def k_go (q : Nat) (σ : St) : St := wN σ 208 q (σ.1 208 q + 1)
theorem cut_1 {t q : Nat} {σ : St} {F k : Nat} (h4 : F ≠ 504) (h1 : F ≠ 811) (h2 : F ≠ 812) : (k_cut t q σ).1 F k = σ.1 F k := by
  show up2 (up2 (up2 σ.1 504 t _) 811 0 _) 812 0 _ F k = _
  rw [up2_n (fun z => h2 z.1), up2_n (fun z => h1 z.1), up2_n (fun z => h4 z.1)]
theorem cut_504 {t q : Nat} {σ : St} : (k_cut t q σ).1 504 = up1 (σ.1 504) t (σ.1 504 t + 1) := by
  simp [k_cut, wN, wB, up2]
theorem cut_811 {t q : Nat} {σ : St} : (k_cut t q σ).1 811 0 = σ.1 811 0 + 1 := by
  simp [k_cut, wN, wB, up2, up1]
theorem cut_812 {t q : Nat} {σ : St} : (k_cut t q σ).1 812 0 = if 99 ≤ σ.1 812 0 then 99 else σ.1 812 0 + 1 := by
  simp [k_cut, wN, wB, up2, up1]
theorem cut_I {t q : Nat} {σ : St} : (k_cut t q σ).2.1 = σ.2.1 := by simp only [k_cut, wN, wB]
theorem cut_A {t q : Nat} {σ : St} : (k_cut t q σ).2.2.1 = σ.2.2.1 := by simp only [k_cut, wN, wB]
theorem cut_B {t q : Nat} {σ : St} {F : Nat} (h : ¬ (200 ≤ F ∧ F ≤ 203) ∧ F ≠ 807) : (k_cut t q σ).2.2.2 F = σ.2.2.2 F := by
  have h0 : F ≠ 200 := by omega
  have h1 : F ≠ 201 := by omega
  have h2 : F ≠ 202 := by omega
  have h3 : F ≠ 203 := by omega
  simp [k_cut, wN, wB, up3, h0, h1, h2, h3, h.2]
theorem cut_dom {t q : Nat} {σ : St} : cdom (k_cut t q σ) = cdom σ := cdom_eq (fun _ => cut_1 (by decide) (by decide) (by decide)) (fun _ => cut_1 (by decide) (by decide) (by decide))
theorem ci_eq {σ σ' : St} (h : CI σ) (h2 : ∀ j, σ'.1 1002 j = σ.1 1002 j) (h3 : ∀ j, σ'.1 1003 j = σ.1 1003 j) (hA : ∀ j, σ'.2.2.1 1001 j = σ.2.2.1 1001 j) : CI σ' := ⟨fun j hj => by rw [h2, h3]; exact h.1 j hj, fun j hj i hi => by rw [hA, h2]; exact h.2 j hj i (by rw [← h2]; exact hi)⟩
theorem wl_eq {σ σ' : St} (h : WL σ) (h2 : ∀ j, σ'.1 1002 j = σ.1 1002 j) (h3 : ∀ j, σ'.1 1003 j = σ.1 1003 j) (h4 : ∀ j, σ'.1 402 j = σ.1 402 j) (hA : ∀ j, σ'.2.2.1 1001 j = σ.2.2.1 1001 j) (h7 : σ'.2.2.1 702 0 = σ.2.2.1 702 0) : WL σ' := ⟨ci_eq h.1 h2 h3 hA, by rw [h2]; exact h.2.1, by rw [h3]; exact h.2.2.1, fun k => by rw [h4]; exact h.2.2.2.1 k, fun k => by rw [h7]; exact h.2.2.2.2 k⟩
theorem pk_eq9 {σ σ' : St} (h : PK σ) (h2 : σ'.1 1002 6 = σ.1 1002 6) (h4 : ∀ j, σ'.1 402 j = σ.1 402 j) (hB : σ'.2.2.2 400 = σ.2.2.2 400) (hC : σ'.2.2.2 401 = σ.2.2.2 401) : PK σ' := fun q hq i hi => by
  rw [h2] at hq
  rw [h4] at hi
  rw [hB, hC]
  exact h q hq i hi
theorem cut_inv {t q : Nat} {σ : St} (a : WL σ) (b : WS σ) (d : WK σ) (ht : TI σ) (hl : ¬ lf σ (σ.2.1 709 0) t = 0) : WL (k_cut t q σ) ∧ WS (k_cut t q σ) ∧ WK (k_cut t q σ) ∧ TI (k_cut t q σ) := by
  have hn : ∀ {F k : Nat}, F ≠ 504 → F ≠ 811 → F ≠ 812 → (k_cut t q σ).1 F k = σ.1 F k := fun h4 h1 h2 => cut_1 h4 h1 h2
  refine ⟨wl_eq a (fun _ => hn (by decide) (by decide) (by decide)) (fun _ => hn (by decide) (by decide) (by decide)) (fun _ => hn (by decide) (by decide) (by decide)) (fun _ => by rw [cut_A]) (by rw [cut_A]), ws_eq b (hn (by decide) (by decide) (by decide)) (hn (by decide) (by decide) (by decide)) (hn (by decide) (by decide) (by decide)) (by rw [cut_A]), ⟨by rw [cut_I]; exact d.1, pk_eq9 d.2 (hn (by decide) (by decide) (by decide)) (fun _ => hn (by decide) (by decide) (by decide)) (cut_B ⟨by decide, by decide⟩) (cut_B ⟨by decide, by decide⟩)⟩, fun k => ?_, fun k => ?_, ?_⟩
  · rw [cut_504, hn (F := 502) (by decide) (by decide) (by decide)]
    have h9 : σ.1 504 t < σ.1 502 t := by
      refine Classical.byContradiction (fun z => hl ?_)
      unfold lf
      repeat' split
      · rfl
      · rfl
      · omega
    unfold up1
    split
    · rename_i e
      rw [e]; omega
    · exact ht.1 k
  · rw [hn (F := 502) (by decide) (by decide) (by decide)]; exact ht.2.1 k
  · rw [cut_812]
    have := ht.2.2
    split <;> omega
theorem go_1 {q : Nat} {σ : St} {F k : Nat} (h : F ≠ 208) : (k_go q σ).1 F k = σ.1 F k := up2_n (fun z => h z.1)
theorem go_dom {q : Nat} {σ : St} : cdom (k_go q σ) = cdom σ := cdom_eq (fun _ => go_1 (by decide)) (fun _ => go_1 (by decide))
theorem go_inv {q : Nat} {σ : St} (a : WL σ) (b : WS σ) (d : WK σ) (ht : TI σ) : WL (k_go q σ) ∧ WS (k_go q σ) ∧ WK (k_go q σ) ∧ TI (k_go q σ) :=
  ⟨wl_eq a (fun _ => go_1 (by decide)) (fun _ => go_1 (by decide)) (fun _ => go_1 (by decide)) (fun _ => rfl) rfl, ws_eq b (go_1 (by decide)) (go_1 (by decide)) (go_1 (by decide)) rfl, ⟨d.1, pk_eq9 d.2 (go_1 (by decide)) (fun _ => go_1 (by decide)) rfl rfl⟩, fun k => by rw [go_1 (by decide), go_1 (by decide)]; exact ht.1 k, fun k => by rw [go_1 (by decide)]; exact ht.2.1 k, by rw [go_1 (by decide)]; exact ht.2.2⟩
def k_cl (q gb : Nat) : Nat → Nat → St → Int32 × St
  | 0, _, σ => (nI 1, σ)
  | f + 1, n, σ => if (k_gs 601 σ).1 = 0 then (nI 1, (k_gs 601 σ).2) else if n < gb then k_cl q gb f (n + 1) (k_gs 601 σ).2 else if ¬ (k_gs 601 σ).2.2.2.2 200 q (ce (k_gs 601 σ).2) ≤ nI ((k_gs 601 σ).2.2.2.1 703 0 2) then
      (match lowT (k_gs 601 σ).2 with
        | none => (nI 0, (k_gs 601 σ).2)
        | some i => k_cl q gb f (n + 1) (k_go q (k_cut ((k_gs 601 σ).2.2.2.1 1001 0 i) q (k_gs 601 σ).2)))
    else k_cl q gb f (n + 1) (k_go q (k_gs 601 σ).2)
def k_ice (q : Nat) (σ : St) : Int32 × St := k_cl q (σ.1 208 q) 6601 0 (k_beg (σ.2.1 207 q) σ)
theorem cl_e {q g f n : Nat} {σ : St} (h : (k_gs 601 σ).1 = 0) : k_cl q g (f + 1) n σ = (nI 1, (k_gs 601 σ).2) := if_pos h
theorem cl_p {q g f n : Nat} {σ : St} (h : ¬ (k_gs 601 σ).1 = 0) (h1 : n < g) : k_cl q g (f + 1) n σ = k_cl q g f (n + 1) (k_gs 601 σ).2 := (if_neg h).trans (if_pos h1)
theorem cl_n {q g f n : Nat} {σ : St} (h : ¬ (k_gs 601 σ).1 = 0) (h1 : ¬ n < g) (h2 : ¬ (k_gs 601 σ).2.2.2.2 200 q (ce (k_gs 601 σ).2) ≤ nI ((k_gs 601 σ).2.2.2.1 703 0 2)) (h3 : lowT (k_gs 601 σ).2 = none) : k_cl q g (f + 1) n σ = (nI 0, (k_gs 601 σ).2) := by
  refine (if_neg h).trans ((if_neg h1).trans ((if_pos h2).trans ?_))
  rw [h3]
theorem cl_c {q g f n i : Nat} {σ : St} (h : ¬ (k_gs 601 σ).1 = 0) (h1 : ¬ n < g) (h2 : ¬ (k_gs 601 σ).2.2.2.2 200 q (ce (k_gs 601 σ).2) ≤ nI ((k_gs 601 σ).2.2.2.1 703 0 2)) (h3 : lowT (k_gs 601 σ).2 = some i) : k_cl q g (f + 1) n σ = k_cl q g f (n + 1) (k_go q (k_cut ((k_gs 601 σ).2.2.2.1 1001 0 i) q (k_gs 601 σ).2)) := by
  refine (if_neg h).trans ((if_neg h1).trans ((if_pos h2).trans ?_))
  rw [h3]
theorem cl_g {q g f n : Nat} {σ : St} (h : ¬ (k_gs 601 σ).1 = 0) (h1 : ¬ n < g) (h2 : (k_gs 601 σ).2.2.2.2 200 q (ce (k_gs 601 σ).2) ≤ nI ((k_gs 601 σ).2.2.2.1 703 0 2)) : k_cl q g (f + 1) n σ = k_cl q g f (n + 1) (k_go q (k_gs 601 σ).2) := (if_neg h).trans ((if_neg h1).trans (if_neg (fun z => z h2)))
set_option maxHeartbeats 4000000 in
theorem x_X8_isCutToEnd {D : va_G} {cI cZ cO : ClassId} {t0 mi : Nat} (l : Launch) (L : Lay) (σ : St) (ow : Nat → Prop) (q : Nat) (hI : CI σ) (hq : q < σ.1 1002 1) (hv : ix (σ.2.1 207 q) (σ.1 1002 6)) (h4 : ∀ k, σ.1 402 k ≤ 30) (h7 : ∀ k, σ.2.2.1 702 0 k ≤ 30) (hPK : PK σ) (hT : TI σ) (hg : σ.1 208 q < 100000) : XI D cI cZ cO t0 mi l yX8_isCutToEnd cX8_isCutToEnd 5 (some FieldType.boolean) 13 430 (nd σ) (10 * nd σ) [.ref (L 899 0), .ref (L 299 q)] L σ ow (k_ice q σ).1 (k_ice q σ).2 := by
  refine x_of (Qc := fun sz => XQi D cI cZ cO t0 L σ ow sz (k_ice q σ).1 (k_ice q σ).2) rfl (Nat.le_of_ble_eq_true rfl) ?_
  intro p e s m9 args below meth c ls X hK hC hE hr hlocks hl
  have X : CallFix p m9 c cX8_isCutToEnd 5 s _ TB RX8 := X
  have hx := X.1
  have hb := X.2.1
  have hS : va_S (AA ow s.heap.size) s.heap s.heap [] := va_S.rf
  have hA : ∀ q, ow q → AA ow s.heap.size q := fun _ h => Or.inl h
  have hG := hC.1
  have hl : lv_has ls 5 [(0, .ref (L 899 0)), (1, .ref (L 299 q))] := hl
  have h899 : cdom σ 899 0 := cd_fix (by decide)
  have h299 : cdom σ 299 q := cd_obj (by decide) (Or.inl (by decide)) hq
  refine lv_aload_n hx hb dX8_isCutToEnd_0 rfl (lv_at hl 1 rfl) ?_
  refine gt_X8_199 X hK hG h299 rfl dX8_isCutToEnd_1 ?_
  refine lv_istore_n (lv' := [(2, .int (nI (σ.1 208 q))), (0, .ref (L 899 0)), (1, .ref (L 299 q))]) hx hb dX8_isCutToEnd_4 rfl hl (by decide) rfl (fun ls hl => ?_)
  refine lv_aload_n hx hb dX8_isCutToEnd_5 rfl (lv_at hl 1 rfl) ?_
  refine gt_X8_44 X hK hG h899 dX8_isCutToEnd_6 ?_
  refine lv_aload_n hx hb dX8_isCutToEnd_9 rfl (lv_at hl 2 rfl) ?_
  refine gt_X8_176 X hK hG h299 rfl dX8_isCutToEnd_10 ?_
  obtain ⟨hWLb, hWSb, hWKb, hF0⟩ := beg_inv (v := σ.2.1 207 q) hI hv h4 h7 hPK
  have hTb := ti_fb hT hF0
  refine xv_callV X hK hC hS hA (fun q h => Or.inr h) hE yvX7_begin ml_X8_371 kX7 rfl (cd_fix (by decide)) [.int (σ.2.1 207 q)] [] (x_X7_begin l L σ ow (σ.2.1 207 q) hI) rfl hl.1 rfl (Nat.le_of_ble_eq_true rfl) ⟨Nat.le_of_ble_eq_true rfl, Nat.le_of_ble_eq_true rfl⟩ ⟨by show 0 + nd σ ≤ nd σ; omega, by show 0 + 10 * nd σ ≤ 10 * nd σ; omega⟩ dX8_isCutToEnd_13 (fun Lb owb H locs hLb hOb hCb hS => ?_)
  refine lv_iconst (v := nI 0) hx hb dX8_isCutToEnd_16 (by decide) ?_
  refine lv_istore_n (lv' := [(3, .int (nI 0)), (2, .int (nI (σ.1 208 q))), (0, .ref (L 899 0)), (1, .ref (L 299 q))]) hx hb dX8_isCutToEnd_17 rfl hl (by decide) rfl (fun ls hl => ?_)
  rw [← hLb 899 0 h899 (by decide), ← hLb 299 q h299 (by decide)] at hl
  generalize hσb : k_beg (σ.2.1 207 q) σ = σb at hWLb hWSb hWKb hTb hF0 hCb
  have hrun : k_ice q σ = k_cl q (σ.1 208 q) 6601 0 σb := by rw [← hσb]; rfl
  generalize hgb : σ.1 208 q = gb at hg hrun hl
  have hqb : σb.1 1002 1 = σ.1 1002 1 := (hF0.1 1002 1 (by omega) (by omega) (by omega)).1
  refine r_loopX (L0 := Lb) (σ0 := σb) (A := AA ow s.heap.size) (ι := Nat × Nat × St) (fun i L => [(3, .int (nI i.1)), (2, .int (nI gb)), (0, .ref (L 899 0)), (1, .ref (L 299 q))]) (fun i => i.2.2) (fun _ => nd σ) (fun _ => 10 * nd σ) (fun i => i.2.1) (fun i => i.1 + i.2.1 = 6601 ∧ WL i.2.2 ∧ WS i.2.2 ∧ WK i.2.2 ∧ TI i.2.2 ∧ k_ice q σ = k_cl q gb i.2.1 i.1 i.2.2 ∧ cdom i.2.2 = cdom σb ∧ q < i.2.2.1 1002 1) ?_ (0, 6601, σb) ⟨rfl, hWLb, hWSb, hWKb, hTb, hrun, rfl, by show q < σb.1 1002 1; rw [hqb]; exact hq⟩ hCb hOb (fun _ _ _ _ => rfl) hS hl (by show 0 + nd σ ≤ nd σ; omega) (by show 0 + 10 * nd σ ≤ 10 * nd σ; omega)
  rintro ⟨n, f, σ9⟩ ⟨hnf, hWL9, hWS9, hWK9, hT9, hv9, hD9, hq9⟩ ih L9 ow9 H locs ls hC9 hO9 hL9 hS hl
  have hnf : n + f = 6601 := hnf
  have hC9 : CW D cI cZ cO t0 L9 σ9 ow9 H := hC9
  have hWL9 : WL σ9 := hWL9
  have hWS9 : WS σ9 := hWS9
  have hWK9 : WK σ9 := hWK9
  have hT9 : TI σ9 := hT9
  have hv9 : k_ice q σ = k_cl q gb f n σ9 := hv9
  have hD9 : cdom σ9 = cdom σb := hD9
  have hq9 : q < σ9.1 1002 1 := hq9
  have hl : lv_has ls 5 [(3, .int (nI n)), (2, .int (nI gb)), (0, .ref (L9 899 0)), (1, .ref (L9 299 q))] := hl
  have hG := hC9.1
  have h799 : cdom σ9 799 0 := cd_fix (by decide)
  have out : ∀ (H : Heap) (locs : List Loc) (ls : Array Slot) (L' : Lay) (ow' : Nat → Prop) (v : Int32) (pc : Nat), (v = nI 0 ∨ v = nI 1) → decode cX8_isCutToEnd pc = .ok (.ireturn, 1) → v = (k_cl q gb f n σ9).1 → CW D cI cZ cO t0 L' (k_cl q gb f n σ9).2 ow' H → (∀ q, ow' q → AA ow s.heap.size q) → (∀ F k, cdom σb F k → F ≠ 1001 → L' F k = Lb F k) → va_S (AA ow s.heap.size) s.heap H locs → W p l e { frames := 13, cells := nd σ, slots := 10 * nd σ, locals := 430 } s m9 args below meth c H locs (nd σ) (10 * nd σ) (MQ below (XQi D cI cZ cO t0 L σ ow s.heap.size (k_ice q σ).1 (k_ice q σ).2) args s (nd σ) (10 * nd σ) (AA ow s.heap.size)) (F0 m9 pc ls [.int v]) := fun H locs ls L' ow' v pc h01 d hvv hC' hO' hL' hS => by
    refine xi_ret hx hb hr hlocks ⟨L', ow', fun F k hd h1 => (hL' F k (hF0.dom h1 hd) h1).trans (hLb F k hd h1), hO', ?_⟩ hS (by rw [hv9]; exact hvv) (by rcases h01 with rfl | rfl <;> rfl) (Nat.le_refl _) (Nat.le_refl _) d
    rw [hv9]
    exact hC'
  refine lv_iload_n hx hb dX8_isCutToEnd_18 rfl (lv_at hl 0 rfl) ?_
  refine lv_sipush (v := nI 6600) hx hb dX8_isCutToEnd_19 (by decide) ?_
  refine r_icmp_gtN (tgt := 100) hx hb dX8_isCutToEnd_22 (by decide) (by omega) (by decide) (fun c_47 => ?_) (fun c_47 => ?_)
  · have f0 : f = 0 := by omega
    subst f0
    refine lv_iconst (v := nI 1) hx hb dX8_isCutToEnd_100 (by decide) ?_
    exact out H locs ls L9 ow9 _ 101 (Or.inr rfl) dX8_isCutToEnd_101 rfl hC9 hO9 hL9 hS
  obtain ⟨f, rfl⟩ : ∃ k, f = k + 1 := ⟨f - 1, by omega⟩
  refine lv_aload_n hx hb dX8_isCutToEnd_25 rfl (lv_at hl 2 rfl) ?_
  refine gt_X8_44 X hK hG (cd_fix (by decide)) dX8_isCutToEnd_26 ?_
  refine xi_callV X hK hC9 hS hO9 (fun q h => Or.inr h) hE yvX7_goStep ml_X8_374 kX7 rfl h799 [] [] (x_X7_goStep l L9 σ9 ow9 hWL9 hWS9) rfl hl.1 rfl (Nat.le_of_ble_eq_true rfl) ⟨Nat.le_of_ble_eq_true rfl, Nat.le_of_ble_eq_true rfl⟩ ⟨Nat.le_refl _, Nat.le_refl _⟩ dX8_isCutToEnd_29 (fun L1 ow1 H locs hLx hO1 hC1 hS => ?_)
  obtain ⟨hWL1, hWS1, hWK1, hF1'⟩ := gs_inv 601 σ9 hWL9 hWS9 hWK9
  have h01 := gs_01 601 σ9
  have hL1 : ∀ F k, cdom σb F k → F ≠ 1001 → L1 F k = Lb F k := fun F k hd h1 => (hLx F k (by rw [hD9]; exact hd) h1).trans (hL9 F k hd h1)
  rw [← hLx 899 0 (cd_fix (by decide)) (by decide), ← hLx 299 q (cd_obj (by decide) (Or.inl (by decide)) hq9) (by decide)] at hl
  have hT1 := ti_fb hT9 hF1'.ft.fb
  have hD1 := hF1'.dom.trans hD9
  have hq1 : q < (k_gs 601 σ9).2.1 1002 1 := by rw [(hF1'.1 1002 1 (by omega) (by omega)).1]; exact hq9
  have rle := cl_e (q := q) (g := gb) (f := f) (n := n) (σ := σ9)
  have rlp := cl_p (q := q) (g := gb) (f := f) (n := n) (σ := σ9)
  have rln := cl_n (q := q) (g := gb) (f := f) (n := n) (σ := σ9)
  have rlc := fun i => cl_c (q := q) (g := gb) (f := f) (n := n) (i := i) (σ := σ9)
  have rlg := cl_g (q := q) (g := gb) (f := f) (n := n) (σ := σ9)
  generalize hgs : k_gs 601 σ9 = gs at hWL1 hWS1 hWK1 hT1 hD1 hq1 hC1 h01 rle rlp rln rlc rlg
  obtain ⟨r1, σ1⟩ := gs
  have hWL1 : WL σ1 := hWL1
  have hWS1 : WS σ1 := hWS1
  have hWK1 : WK σ1 := hWK1
  have hT1 : TI σ1 := hT1
  have hD1 : cdom σ1 = cdom σb := hD1
  have hq1 : q < σ1.1 1002 1 := hq1
  have hC1 : CW D cI cZ cO t0 L1 σ1 ow1 H := hC1
  have h01 : r1 = nI 0 ∨ r1 = nI 1 := h01
  have hG1 := hC1.1
  show W p l e _ s m9 args below meth c H locs (nd σ + 0) (10 * nd σ + 0) _ (F0 m9 32 ls [.int r1])
  rw [Nat.add_zero, Nat.add_zero]
  refine lv_if_eq (tgt := 100) hx hb dX8_isCutToEnd_32 (by decide) (fun c_54 => ?_) (fun c_54 => ?_)
  · refine lv_iconst (v := nI 1) hx hb dX8_isCutToEnd_100 (by decide) ?_
    have hgs9 := rle c_54
    exact out H locs ls L1 ow1 _ 101 (Or.inr rfl) dX8_isCutToEnd_101 (by rw [hgs9]) (by rw [hgs9]; exact hC1) hO1 hL1 hS
  have back : ∀ (H : Heap) (locs : List Loc) (ls : Array Slot) (σ' : St) (lv9 : List (Nat × Value)) (k9 : Nat), lv_has ls 5 lv9 → lv9[k9]? = some (3, .int (nI n)) → lv9.any (fun z => decide (z.1 = 3)) = true → (∀ ls' : Array Slot, lv_has ls' 5 ((3, .int (nI (n + 1))) :: lv9.filter (fun q => !q.1 == 3 && !(q.1 + 1 == 3 && q.2.category == 2))) → lv_has ls' 5 [(3, .int (nI (n + 1))), (2, .int (nI gb)), (0, .ref (L1 899 0)), (1, .ref (L1 299 q))]) → CW D cI cZ cO t0 L1 σ' ow1 H → k_cl q gb (f + 1) n σ9 = k_cl q gb f (n + 1) σ' → WL σ' → WS σ' → WK σ' → TI σ' → cdom σ' = cdom σb → q < σ'.1 1002 1 → va_S (AA ow s.heap.size) s.heap H locs → W p l e { frames := 13, cells := nd σ, slots := 10 * nd σ, locals := 430 } s m9 args below meth c H locs (nd σ) (10 * nd σ) (MQ below (XQi D cI cZ cO t0 L σ ow s.heap.size (k_ice q σ).1 (k_ice q σ).2) args s (nd σ) (10 * nd σ) (AA ow s.heap.size)) (F0 m9 94 ls []) := fun H locs ls σ' lv9 k9 hl hk9 hany hsub hC' hrl a b d ht hD' hq' hS => by
    refine r_iincN (b := 1) (lv' := (3, .int (nI (n + 1))) :: lv9.filter (fun q => !q.1 == 3 && !(q.1 + 1 == 3 && q.2.category == 2))) hx hb dX8_isCutToEnd_94 hl (k := k9) hk9 (by decide) (by decide) rfl (fun ls hl => ?_)
    refine lv_goto (tgt := 18) hx hb dX8_isCutToEnd_97 (by decide) ?_
    exact ih (n + 1, f, σ') (Nat.lt_succ_self f) ⟨by show n + 1 + f = 6601; omega, a, b, d, ht, hv9.trans hrl, hD', hq'⟩ L1 ow1 H locs ls hC' hO1 hL1 hS (hsub ls hl)
  refine lv_iload_n hx hb dX8_isCutToEnd_35 rfl (lv_at hl 0 rfl) ?_
  refine lv_iload_n hx hb dX8_isCutToEnd_36 rfl (lv_at hl 1 rfl) ?_
  refine r_icmp_geN (tgt := 43) hx hb dX8_isCutToEnd_37 (by decide) (by omega) (by omega) (fun c_61 => ?_) (fun c_61 => ?_)
  rotate_left 1
  · refine lv_goto (tgt := 94) hx hb dX8_isCutToEnd_40 (by decide) ?_
    exact back H locs ls σ1 _ 0 hl rfl rfl (fun _ h => h) hC1 (rlp c_54 c_61) hWL1 hWS1 hWK1 hT1 hD1 hq1 hS
  have h799 : cdom σ1 799 0 := cd_fix (by decide)
  have h899 : cdom σ1 899 0 := cd_fix (by decide)
  have h299 : cdom σ1 299 q := cd_obj (by decide) (Or.inl (by decide)) hq1
  have h200 : cdom σ1 200 q := cd_obj (by decide) (Or.inr (by decide)) hq1
  have hx0 : σ1.2.2.1 703 0 0 < 12 := Nat.lt_succ_of_le (hWS1.2.2.2 0 (by decide))
  have hy0 : σ1.2.2.1 703 0 1 < 12 := Nat.lt_succ_of_le (hWS1.2.2.2 1 (by decide))
  have hO1' : ∀ q, AA ow1 s.heap.size q → AA ow s.heap.size q := fun q h => h.elim (hO1 q) Or.inr
  -- gone++
  have go : ∀ (H : Heap) (locs : List Loc) (ls : Array Slot) (σ' : St) (lv9 : List (Nat × Value)) (k9 k8 : Nat), lv_has ls 5 lv9 → lv9[k9]? = some (3, .int (nI n)) → lv9[k8]? = some (1, .ref (L1 299 q)) → lv9.any (fun z => decide (z.1 = 3)) = true → (∀ ls' : Array Slot, lv_has ls' 5 ((3, .int (nI (n + 1))) :: lv9.filter (fun q => !q.1 == 3 && !(q.1 + 1 == 3 && q.2.category == 2))) → lv_has ls' 5 [(3, .int (nI (n + 1))), (2, .int (nI gb)), (0, .ref (L1 899 0)), (1, .ref (L1 299 q))]) → CW D cI cZ cO t0 L1 σ' ow1 H → k_cl q gb (f + 1) n σ9 = k_cl q gb f (n + 1) (k_go q σ') → WL σ' → WS σ' → WK σ' → TI σ' → cdom σ' = cdom σb → q < σ'.1 1002 1 → va_S (AA ow s.heap.size) s.heap H locs → W p l e { frames := 13, cells := nd σ, slots := 10 * nd σ, locals := 430 } s m9 args below meth c H locs (nd σ) (10 * nd σ) (MQ below (XQi D cI cZ cO t0 L σ ow s.heap.size (k_ice q σ).1 (k_ice q σ).2) args s (nd σ) (10 * nd σ) (AA ow s.heap.size)) (F0 m9 84 ls []) := fun H locs ls σ' lv9 k9 k8 hl hk9 hk8 hany hsub hC' hrl a b d ht hD' hq' hS => by
    have hG' := hC'.1
    have h299' : cdom σ' 299 q := cd_obj (by decide) (Or.inl (by decide)) hq'
    refine lv_aload_n hx hb dX8_isCutToEnd_84 rfl (lv_at hl k8 hk8) ?_
    refine lv_dup hx hb dX8_isCutToEnd_85 rfl ?_
    refine gt_X8_199 X hK hG' h299' rfl dX8_isCutToEnd_86 ?_
    refine lv_iconst (v := nI 1) hx hb dX8_isCutToEnd_89 (by decide) ?_
    refine r_addN hx hb dX8_isCutToEnd_90 ?_
    refine pt_X8_199 X hK hG' hS hO1 h299' dX8_isCutToEnd_91 (fun H locs hG' hS => ?_)
    obtain ⟨a2, b2, d2, t2⟩ := go_inv (q := q) a b d ht
    have hC2 : CW D cI cZ cO t0 L1 (k_go q σ') ow1 H := ⟨by rw [go_dom]; exact hG', fun k hk h => hC'.2 k hk (by rw [← go_1 (q := q) (σ := σ') (F := 1003) (by decide)]; exact h)⟩
    exact back H locs ls (k_go q σ') lv9 k9 hl hk9 hany hsub hC2 hrl a2 b2 d2 t2 (go_dom.trans hD') (by rw [go_1 (by decide)]; exact hq') hS
  refine lv_aload_n hx hb dX8_isCutToEnd_43 rfl (lv_at hl 2 rfl) ?_
  refine gt_X8_44 X hK hG1 h899 dX8_isCutToEnd_44 ?_
  refine lv_aload_n hx hb dX8_isCutToEnd_47 rfl (lv_at hl 3 rfl) ?_
  refine gt_X8_326 X hK hG1 h299 dX8_isCutToEnd_48 ?_
  refine rm_callVg X hK hG1 hS hO1' yvX7_isBelow ml_X8_377 kX7 rfl h799 [.ref (L1 200 q)] [] (c_X7_isBelow l L1 _ ow1 (cd_sub (by decide)) 200 q h200 fa_200 rfl hx0 hy0) rfl hl.1 rfl (Nat.le_of_ble_eq_true rfl) ⟨Nat.le_of_ble_eq_true rfl, Nat.le_of_ble_eq_true rfl⟩ ⟨Nat.le_refl _, Nat.le_refl _⟩ dX8_isCutToEnd_51 (fun H locs hG1 hS => ?_)
  refine r_if_eqB (tgt := 84) hx hb dX8_isCutToEnd_54 (by decide) (fun c_75 => ?_) (fun c_75 => ?_)
  · exact go H locs ls σ1 _ 0 3 hl rfl rfl rfl (fun _ h => h) ⟨hG1, hC1.2⟩ (rlg c_54 (Nat.not_lt.mpr c_61) (Classical.not_not.mp c_75)) hWL1 hWS1 hWK1 hT1 hD1 hq1 hS
  refine lv_aload_n hx hb dX8_isCutToEnd_57 rfl (lv_at hl 2 rfl) ?_
  refine lv_aload_n hx hb dX8_isCutToEnd_58 rfl (lv_at hl 2 rfl) ?_
  refine gt_X8_44 X hK hG1 h899 dX8_isCutToEnd_59 ?_
  refine gt_X8_381 X hK hG1 h799 rfl dX8_isCutToEnd_62 ?_
  refine rr_callVg X hK hG1 hS hO1' yvX8_lowestToolFor ml_X8_382 kX8 rfl h899 [.int (σ1.2.1 709 0)] [] (c_X8_lowestToolFor l L1 σ1 ow1 (σ1.2.1 709 0) hT1.1 hT1.2.1 hWL1.1) rfl hl.1 rfl (Nat.le_of_ble_eq_true rfl) ⟨Nat.le_of_ble_eq_true rfl, Nat.le_of_ble_eq_true rfl⟩ ⟨Nat.le_refl _, Nat.le_refl _⟩ dX8_isCutToEnd_65 (fun H locs hG1 hS => ?_)
  show W p l e _ s m9 args below meth c H locs _ _ _ (F0 m9 68 ls (va_rf ((lowT σ1).map (fun i => L1 599 (σ1.2.2.1 1001 0 i))) :: []))
  cases hlow : lowT σ1 with
  | none =>
    show W p l e _ s m9 args below meth c H locs _ _ _ (F0 m9 68 ls (.null :: []))
    refine lv_astoreN (lv' := [(4, .null), (3, .int (nI n)), (2, .int (nI gb)), (0, .ref (L1 899 0)), (1, .ref (L1 299 q))]) hx hb dX8_isCutToEnd_68 hl (by decide) rfl (fun ls hl => ?_)
    refine lv_aloadN hx hb dX8_isCutToEnd_70 (lv_at hl 0 rfl) ?_
    refine lv_ifnonnullN hx hb dX8_isCutToEnd_72 ?_
    refine lv_iconst (v := nI 0) hx hb dX8_isCutToEnd_75 (by decide) ?_
    have hgs9 := rln c_54 (Nat.not_lt.mpr c_61) c_75 hlow
    exact out H locs ls L1 ow1 _ 76 (Or.inl rfl) dX8_isCutToEnd_76 (by rw [hgs9]) (by rw [hgs9]; exact ⟨hG1, hC1.2⟩) hO1 hL1 hS
  | some i =>
    show W p l e _ s m9 args below meth c H locs _ _ _ (F0 m9 68 ls (.ref (L1 599 (σ1.2.2.1 1001 0 i)) :: []))
    obtain ⟨-, hi, hlf⟩ := fnd_some _ _ hlow
    have ht9 : σ1.2.2.1 1001 0 i < σ1.1 1002 0 := hWL1.1.2 0 (by decide) i (by omega)
    refine lv_astore (lv' := [(4, .ref (L1 599 (σ1.2.2.1 1001 0 i))), (3, .int (nI n)), (2, .int (nI gb)), (0, .ref (L1 899 0)), (1, .ref (L1 299 q))]) hx hb dX8_isCutToEnd_68 hl (by decide) rfl (fun ls hl => ?_)
    refine lv_aload hx hb dX8_isCutToEnd_70 (lv_at hl 0 rfl) ?_
    refine lv_ifnonnull (tgt := 77) hx hb dX8_isCutToEnd_72 (by decide) ?_
    refine lv_aload_n hx hb dX8_isCutToEnd_77 rfl (lv_at hl 3 rfl) ?_
    refine lv_aload hx hb dX8_isCutToEnd_78 (lv_at hl 0 rfl) ?_
    refine lv_aload_n hx hb dX8_isCutToEnd_80 rfl (lv_at hl 4 rfl) ?_
    refine rv_callVg X hK hG1 hS hO1' yvX8_cutBy ml_X8_385 kX8 rfl h899 [.ref (L1 599 (σ1.2.2.1 1001 0 i)), .ref (L1 299 q)] [] (c_X8_cutBy l L1 σ1 ow1 _ q ht9 hq1 hx0 hy0 (fun k => Nat.le_trans (hT1.1 k) (hT1.2.1 k)) hT1.2.2 hWL1.1) rfl hl.1 rfl (Nat.le_of_ble_eq_true rfl) ⟨Nat.le_of_ble_eq_true rfl, Nat.le_of_ble_eq_true rfl⟩ ⟨Nat.le_refl _, Nat.le_refl _⟩ dX8_isCutToEnd_81 (fun H locs hG1 hS => ?_)
    obtain ⟨a2, b2, d2, t2⟩ := cut_inv (q := q) hWL1 hWS1 hWK1 hT1 hlf
    have hC2 : CW D cI cZ cO t0 L1 (k_cut (σ1.2.2.1 1001 0 i) q σ1) ow1 H := ⟨by rw [cut_dom]; exact hG1, fun k hk h => hC1.2 k hk (by rw [← cut_1 (t := σ1.2.2.1 1001 0 i) (q := q) (σ := σ1) (F := 1003) (by decide) (by decide) (by decide)]; exact h)⟩
    exact go H locs ls (k_cut (σ1.2.2.1 1001 0 i) q σ1) _ 1 4 hl rfl rfl rfl (fun ls' h => lv_sub h [0, 2, 3, 4] rfl) hC2 (rlc i c_54 (Nat.not_lt.mpr c_61) c_75 hlow) a2 b2 d2 t2 (cut_dom.trans hD1) (by rw [cut_1 (by decide) (by decide) (by decide)]; exact hq1) hS
