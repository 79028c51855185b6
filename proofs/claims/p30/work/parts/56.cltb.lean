/-! judge -/
theorem xb_new2 {D : va_G} {cI cZ cO : ClassId} {L L' : Lay} {σ σ9 : St} {ow ow' : Nat → Prop} {H H0 : Heap} {t0 C k j b : Nat} {nl : List Nat} {sz : Nat} (hC5 : C ≤ 5) (hj : cj C = j) (hj8 : j < 8) (hj2 : j ≠ 2 ∧ j ≠ 7) (hk : k = σ.1 1002 j) (hC : CW D cI cZ cO t0 L σ ow H0) (hI : CI σ) (hinj : ∀ F, F < 600 → cj (F / 100) = j → F / 100 = C) (hnl : ∀ f, f < 100 → isL (100 * C + f) → 100 * C + f ∈ nl) (ho2 : ∀ q, σ9.1 1002 q = σ.1 1002 q) (ho3 : ∀ q, σ9.1 1003 q = σ.1 1003 q) (hL : ∀ F q, ¬ (F / 100 = C ∧ q = k) → L' F q = L F q)
    (hG : PW D cI cZ cO (fun F q => (cdom σ F q ∨ (F, q) ∈ nl.map (fun F => (F, k))) ∨ (F = 1001 ∧ q = j)) (up2 L' 1001 j b) (ladd j k σ9) ow' H) (hO : ∀ q, ow' q → AA ow sz q) : XB D cI cZ cO t0 L σ ow sz (ladd j k σ9) H := by
  have h2 : ∀ q, q ≠ j → (ladd j k σ9).1 1002 q = σ.1 1002 q := fun q e => (((ladd_off j k b L σ9).1 1002 q (fun z => e z.2)).1).trans (ho2 q)
  have h2j : (ladd j k σ9).1 1002 j = k + 1 := by rw [ladd_N, ho2, hk]
  have h3 : ∀ q, q ≠ j → (ladd j k σ9).1 1003 q = σ.1 1003 q := fun q e => (((ladd_off j k b L σ9).1 1003 q (fun z => e z.2)).1).trans (ho3 q)
  have hnc := hI.1 j hj8
  have h3j : (ladd j k σ9).1 1003 j = lcap (σ.1 1002 j) (σ.1 1003 j) := by rw [ladd_C, ho2, ho3]
  refine ⟨up2 L' 1001 j b, ow', fun F q hd hF => ?_, hO, hG.mono (fun F q hd => ?_), fun q hq h => ?_⟩
  · rw [up2_n (fun z => hF z.1)]
    refine hL F q (fun z => ?_)
    rcases hd with ⟨-, h⟩ | ⟨h, -⟩ | ⟨h, -⟩ | ⟨h1, h2, h3⟩
    · have : 600 ≤ F := by
        have h9 : ([899, 806, 807, 808, 799, 702, 703, 699, 600, 601] : List Nat).all (fun F => decide (600 ≤ F)) = true := by decide
        exact of_decide_eq_true (List.all_eq_true.mp h9 F h)
      omega
    · omega
    · omega
    · rw [z.1, hj] at h3
      omega
  · rcases hd with h | h | ⟨h, h8, hc⟩ | ⟨h, hl, hc⟩
    · exact Or.inl (Or.inl (Or.inl h))
    · exact Or.inl (Or.inl (Or.inr (Or.inl h)))
    · by_cases e : q = j
      · exact Or.inr ⟨h, e⟩
      · rw [h3 q e] at hc
        exact Or.inl (Or.inl (Or.inr (Or.inr (Or.inl ⟨h, h8, hc⟩))))
    · by_cases e : cj (F / 100) = j
      · have hFC := hinj F h e
        rw [e, h2j] at hc
        by_cases e2 : q = k
        · subst e2
          have := hnl (F % 100) (Nat.mod_lt _ (by decide)) (by rw [← hFC, Nat.div_add_mod]; exact hl)
          rw [← hFC, Nat.div_add_mod] at this
          exact Or.inl (Or.inr (List.mem_map.mpr ⟨F, this, rfl⟩))
        · exact Or.inl (Or.inl (Or.inr (Or.inr (Or.inr ⟨h, hl, by rw [e, ← hk]; omega⟩))))
      · rw [h2 _ e] at hc
        exact Or.inl (Or.inl (Or.inr (Or.inr (Or.inr ⟨h, hl, hc⟩))))
  · by_cases e : q = j
    · subst e
      rw [h3j] at h
      exfalso
      unfold lcap at h
      by_cases c : σ.1 1002 q = σ.1 1003 q
      · rw [if_pos c] at h
        by_cases c2 : σ.1 1003 q = 0
        · rw [if_pos c2] at h
          exact absurd h (by decide)
        · rw [if_neg c2] at h
          omega
      · rw [if_neg c] at h
        omega
    · rw [up2_n (fun z => e z.2), hL 1001 q (fun z => by omega)]
      exact hC.2 q hq (by rw [← h3 q e]; exact h)
theorem lok_new2 {C k j t0 : Nat} {nl : List Nat} {L L' : Lay} {σ σ9 : St} (hC5 : C ≤ 5) (h : LOK (cdom σ) L σ t0 j) (ho2 : σ9.1 1002 j = σ.1 1002 j) (ho3 : σ9.1 1003 j = σ.1 1003 j) (hL : ∀ F q, ¬ (F / 100 = C ∧ q = k) → L' F q = L F q) (hnl : nl.all (fun F => decide (F < 600)) = true) : LOK (fun F q => cdom σ F q ∨ (F, q) ∈ nl.map (fun F => (F, k))) L' σ9 t0 j := by
  obtain ⟨a, b, c, d⟩ := h
  unfold LOK
  rw [ho2, ho3, hL 1001 j (fun z => by omega)]
  refine ⟨Or.inl a, b, c, d.elim (fun z => Or.inl ⟨z.1, z.2.1, fun y => y.elim z.2.2 (fun w => ?_)⟩) (fun z => Or.inr ⟨z.1, Or.inl z.2⟩)⟩
  obtain ⟨F, hF, he⟩ := List.mem_map.mp w
  have h1 := of_decide_eq_true (List.all_eq_true.mp hnl F hF)
  have : F = 1001 := (Prod.mk.inj he).1
  omega
def k_tell (v1 v2 : Int32) (σ : St) : St := if ix v1 (σ.1 1002 0) then k_hear (σ.2.2.1 1001 0 (tn v1)) v2 σ else σ
set_option maxHeartbeats 4000000 in
theorem d_X8_tell {D : va_G} {cI cZ cO : ClassId} {dom : Nat → Nat → Prop} (l : Launch) (L : Lay) (σ : St) (ow : Nat → Prop) (v1 v2 : Int32) (h6 : ∀ k, σ.1 506 k < 1000000) (hI : CI σ) (hdm : ∀ F q, cdom σ F q → dom F q) : RV D cI cZ cO dom l yX8_tell cX8_tell 3 4 121 [.ref (L 899 0), .int v1, .int v2] L σ ow (k_tell v1 v2 σ) := by
  refine rv_of rfl (Nat.le_of_ble_eq_true rfl) ?_
  intro p e s m below meth c ls X hK hG hr hlocks hl
  have X : CallFix p m c cX8_tell 3 s _ TB RX8 := X
  have hx := X.1
  have hb := X.2.1
  have hS : va_S (AA ow s.heap.size) s.heap s.heap [] := va_S.rf
  have hA : ∀ q, ow q → AA ow s.heap.size q := fun _ h => Or.inl h
  have hl : lv_has ls 3 [(0, .ref (L 899 0)), (1, .int v1), (2, .int v2)] := hl
  have hA2 : ∀ q, AA ow s.heap.size q → AA ow s.heap.size q := fun _ h => h
  have h16 := hI.1 0 (by decide)
  have hv1 : tn v1 < 2147483648 := by have := fb_rng v1; unfold tn; omega
  refine lv_iload_n hx hb dX8_tell_0 rfl (lv_at hl 1 rfl) ?_
  refine lv_if_lt (tgt := 30) hx hb dX8_tell_1 (by decide) (fun c_1 => ?_) (fun c_1 => ?_)
  · exact rv_ret hx hb hr hlocks hG hS ((if_neg (fun z => absurd z.1 (by rw [Int32.lt_iff_toInt_lt] at c_1; exact Int.not_le.mpr c_1))).symm) dX8_tell_30
  · refine lv_iload_n hx hb dX8_tell_4 rfl (lv_at hl 1 rfl) ?_
    refine r_top (y := nI (tn v1)) (tn_ge c_1) ?_
    refine lv_aload_n hx hb dX8_tell_5 rfl (lv_at hl 0 rfl) ?_
    refine gt_X8_12 X hK hG (hdm _ _ (cd_fix (by decide))) dX8_tell_6 ?_
    refine x_size X hK hG hS hA2 (hdm _ _ (cd_list (by decide))) ml_X8_65 hl.1 (Nat.le_of_ble_eq_true rfl) ⟨Nat.le_of_ble_eq_true rfl, Nat.le_of_ble_eq_true rfl⟩ ⟨Nat.le_of_ble_eq_true rfl, Nat.le_of_ble_eq_true rfl⟩ dX8_tell_9 (fun H locs hG hS => ?_)
    refine r_icmp_geN (tgt := 30) hx hb dX8_tell_12 (by decide) (hv1) (by omega) (fun c_12 => ?_) (fun c_12 => ?_)
    · exact rv_ret hx hb hr hlocks hG hS ((if_neg (fun z => absurd (ix_lt z) (Nat.not_lt.mpr c_12))).symm) dX8_tell_30
    · have hel := hI.2 0 (by decide) (tn v1) c_12
      have h599 : dom 599 (σ.2.2.1 1001 0 (tn v1)) := hdm _ _ (cd_obj (by decide) (Or.inl (by decide)) hel)
      refine lv_aload_n hx hb dX8_tell_15 rfl (lv_at hl 0 rfl) ?_
      refine gt_X8_12 X hK hG (hdm _ _ (cd_fix (by decide))) dX8_tell_16 ?_
      refine lv_iload_n hx hb dX8_tell_19 rfl (lv_at hl 1 rfl) ?_
      refine r_top (y := nI (tn v1)) (tn_ge c_1) ?_
      refine rr_callVg X hK hG hS hA2 yvJx4a65c_get_915e3 ml_X8_179 kJx4a65c rfl (hdm _ _ (cd_list (j := 0) (by decide))) [.int (nI (tn v1))] [] (c_Jx4a65c_get_915e3 l L σ ow 0 (tn v1) (hdm _ _ (cd_list (by decide))) (hdm _ _ ((cd_row (by decide)).mpr (by omega))) c_12 h16.1 (by omega)) rfl hl.1 rfl (Nat.le_of_ble_eq_true rfl) ⟨Nat.le_of_ble_eq_true rfl, Nat.le_of_ble_eq_true rfl⟩ ⟨Nat.le_of_ble_eq_true rfl, Nat.le_of_ble_eq_true rfl⟩ dX8_tell_20 (fun H locs hG hS => ?_)
      show W p l e _ s m _ below meth c H locs _ _ _ (F0 m 23 ls (.ref (L 599 (σ.2.2.1 1001 0 (tn v1))) :: []))
      refine x_cast X hK hG kX5 rfl h599 tw_3_21 dX8_tell_23 ?_
      refine lv_iload_n hx hb dX8_tell_26 rfl (lv_at hl 2 rfl) ?_
      refine rv_callVg X hK hG hS hA2 yvX5_hear ml_X8_368 kX5 rfl h599 [.int v2] [] (c_X5_hear l L σ ow (σ.2.2.1 1001 0 (tn v1)) (fun F h => hdm _ _ (cd_objs (C := 5) (by decide) hel F h)) v2 (h6 _)) rfl hl.1 rfl (Nat.le_of_ble_eq_true rfl) ⟨Nat.le_of_ble_eq_true rfl, Nat.le_of_ble_eq_true rfl⟩ ⟨Nat.le_of_ble_eq_true rfl, Nat.le_of_ble_eq_true rfl⟩ dX8_tell_27 (fun H locs hG hS => ?_)
      exact rv_ret hx hb hr hlocks hG hS ((if_pos (by rw [tn_ge c_1]; exact (ix_nI hv1).mpr c_12)).symm) dX8_tell_30
def ju_a (P D G n : Nat) (σ : St) : Int32 := (σ.2.2.2 201 P (σ.2.2.1 0 D n) + (nI (σ.1 811 0) - σ.2.1 100 G) / nI 100) - nI (1000 * σ.2.2.1 1 D n)
def ju_t (D n : Nat) (σ : St) : Nat := σ.2.2.1 2 D n + (if σ.2.2.1 4 D n = 0 then 0 else σ.2.2.1 3 D n)
def k_jp (P D G K n : Nat) (σ : St) : St := wN (wB (wB σ 304 K n (ju_a P D G n σ)) 305 K n (nI (ju_t D n σ))) 306 K (n + 1)
def k_js (P D G K n : Nat) (σ : St) : St := k_tell (σ.2.2.2 202 P (σ.2.2.1 0 D n)) (ju_a P D G n σ) (k_jp P D G K n σ)
def k_jl (P D G K : Nat) : Nat → Nat → St → St
  | 0, _, σ => σ
  | m + 1, n, σ => k_jl P D G K m (n + 1) (k_js P D G K n σ)
def FJ (σ σ' : St) : Prop := (∀ F k, F ≠ 306 → F ≠ 506 → σ'.1 F k = σ.1 F k) ∧ σ'.2.1 = σ.2.1 ∧ σ'.2.2.1 = σ.2.2.1 ∧ ∀ F, F ≠ 304 → F ≠ 305 → F ≠ 503 → σ'.2.2.2 F = σ.2.2.2 F
theorem FJ.rf {σ : St} : FJ σ σ := ⟨fun _ _ _ _ => rfl, rfl, rfl, fun _ _ _ _ => rfl⟩
theorem FJ.tr {σ σ1 σ2 : St} (h : FJ σ σ1) (g : FJ σ1 σ2) : FJ σ σ2 := ⟨fun F k a b => (g.1 F k a b).trans (h.1 F k a b), g.2.1.trans h.2.1, g.2.2.1.trans h.2.2.1, fun F a b d => (g.2.2.2 F a b d).trans (h.2.2.2 F a b d)⟩
theorem jp_fj {P D G K n : Nat} {σ : St} : FJ σ (k_jp P D G K n σ) := ⟨fun F k a _ => by simp [k_jp, wN, wB, up2, a], rfl, rfl, fun F a b _ => by simp [k_jp, wN, wB, up3, a, b]⟩
theorem tell_fj {v w : Int32} {σ : St} : FJ σ (k_tell v w σ) := by
  unfold k_tell
  split
  · exact ⟨fun F k _ b => by simp [k_hear, wN, wB, up2, b], rfl, rfl, fun F _ _ d => by simp [k_hear, wN, wB, up3, d]⟩
  · exact FJ.rf
theorem tell_306 {v w : Int32} {σ : St} {k : Nat} : (k_tell v w σ).1 306 k = σ.1 306 k := by
  unfold k_tell
  split
  · simp [k_hear, wN, wB, up2]
  · rfl
theorem tell_506 {v w : Int32} {σ : St} {k : Nat} : (k_tell v w σ).1 506 k ≤ σ.1 506 k + 1 := by
  unfold k_tell
  split
  · have e : (k_hear (σ.2.2.1 1001 0 (tn v)) w σ).1 506 k = up1 (σ.1 506) (σ.2.2.1 1001 0 (tn v)) (σ.1 506 (σ.2.2.1 1001 0 (tn v)) + 1) k := by simp [k_hear, wN, wB, up2]
    rw [e]
    unfold up1
    split
    · rename_i z
      rw [z]; omega
    · omega
  · omega
def k_j1 (P D G K : Nat) (v1 v2 : Int32) (σ : St) : St := k_jl P D G K (σ.1 5 D) 0 (i_3 K v1 v2 (nI (σ.1 811 0)) (σ.2.1 101 G) σ)
def k_j2 (P D G K : Nat) (v1 v2 : Int32) (σ : St) : St := k_spd D (σ.1 5 D) (k_j1 P D G K v1 v2 σ)
def k_j3 (P D G K : Nat) (v1 v2 : Int32) (σ : St) : St := wI (k_j2 P D G K v1 v2 σ) 209 P (k_vd K (k_j2 P D G K v1 v2 σ) (σ.1 5 D) 0 (nI 0))
theorem i3_fj {K : Nat} {v1 v2 v3 v4 : Int32} {σ : St} : (∀ F k, F ≠ 306 → (i_3 K v1 v2 v3 v4 σ).1 F k = σ.1 F k) ∧ (∀ F k, ¬ (300 ≤ F ∧ F ≤ 303) → (i_3 K v1 v2 v3 v4 σ).2.1 F k = σ.2.1 F k) ∧ (i_3 K v1 v2 v3 v4 σ).2.2.1 = σ.2.2.1 ∧ (∀ F, F ≠ 304 → F ≠ 305 → (i_3 K v1 v2 v3 v4 σ).2.2.2 F = σ.2.2.2 F) ∧ (i_3 K v1 v2 v3 v4 σ).1 306 K = 0 := by
  refine ⟨fun F k h => by simp [i_3, wN, wI, wR, up2, h], fun F k h => ?_, rfl, fun F h1 h2 => by simp [i_3, wN, wI, wR, up2, h1, h2], by simp [i_3, wN, wI, wR, up2, up1]⟩
  have a : F ≠ 300 := by omega
  have b : F ≠ 301 := by omega
  have c : F ≠ 302 := by omega
  have d : F ≠ 303 := by omega
  simp [i_3, wN, wI, wR, up2, a, b, c, d]
theorem spd_st (k9 : Nat) (σ : St) : ∀ n, (k_spd k9 n σ).1 = σ.1 ∧ (k_spd k9 n σ).2.1 = σ.2.1 ∧ (k_spd k9 n σ).2.2.2 = σ.2.2.2 ∧ ∀ F, F ≠ 4 → (k_spd k9 n σ).2.2.1 F = σ.2.2.1 F := fun n => by
  induction n with
  | zero => exact ⟨rfl, rfl, rfl, fun _ _ => rfl⟩
  | succ n ih => exact ⟨ih.1, ih.2.1, ih.2.2.1, fun F h => (show (wA (k_spd k9 n σ) 4 k9 n (σ.2.2.1 4 k9 n - 1)).2.2.1 F = (k_spd k9 n σ).2.2.1 F by simp [wA, up3, h]).trans (ih.2.2.2 F h)⟩
def k_judge (v1 v2 v3 : Int32) (σ : St) : Nat × Int32 × St := if ix v1 (σ.1 1002 1) then (if ix v2 (σ.1 1002 4) then (if ix v3 (σ.1 1002 3) then (if ¬ (σ.2.1 206 (σ.2.2.1 1001 1 (tn v1))) = (nI 2) then ((3, 0, σ)) else (if (σ.1 5 (σ.2.2.1 1001 4 (tn v2))) = 0 then ((3, 0, σ)) else (if ¬ (¬ σ.2.1 100 (σ.2.2.1 1001 3 (tn v3)) = (-1) ∧ ¬ nI 1000 ≤ nI (σ.1 811 0) - σ.2.1 100 (σ.2.2.1 1001 3 (tn v3))) then ((3, 0, σ)) else (if (σ.1 1002 5) < 30 then ((0, nI (σ.1 1002 5), ladd 5 (σ.1 1002 5) (k_j3 (σ.2.2.1 1001 1 (tn v1)) (σ.2.2.1 1001 4 (tn v2)) (σ.2.2.1 1001 3 (tn v3)) (σ.1 1002 5) v1 v2 σ))) else ((3, 0, σ)))))) else ((1, 0, σ))) else ((1, 0, σ))) else ((1, 0, σ))
set_option maxRecDepth 100000 in
set_option maxHeartbeats 16000000 in
theorem y_X8_judge {D : va_G} {cI cZ cO : ClassId} {t0 mi : Nat} (l : Launch) (hl9 : l.stackTraces = false) (L : Lay) (σ : St) (ow : Nat → Prop) (v1 v2 v3 : Int32) (hI : CI σ) (h5 : ∀ k, σ.1 5 k ≤ 6) (h6 : ∀ k, σ.1 506 k ≤ 999000) (hcl : ∀ k i, σ.2.2.1 0 k i < 144) (hpl : ∀ k i, σ.2.2.1 4 k i < 100000) : YI D cI cZ cO t0 mi l yX8_judge cX8_judge 11 ((some FieldType.int)) 10 300 10 200 [.ref (L 899 0), .int v1, .int v2, .int v3] L σ ow (k_judge v1 v2 v3 σ).1 (k_judge v1 v2 v3 σ).2.1 (k_judge v1 v2 v3 σ).2.2 := by
  refine y_of (Qc := fun sz => YQi (k_judge v1 v2 v3 σ).1 (k_judge v1 v2 v3 σ).2.1 (XB D cI cZ cO t0 L σ ow sz (k_judge v1 v2 v3 σ).2.2) (AA ow sz)) (XC := fun sz => YX (k_judge v1 v2 v3 σ).1 (XB D cI cZ cO t0 L σ ow sz (k_judge v1 v2 v3 σ).2.2) (AA ow sz)) rfl (Nat.le_of_ble_eq_true rfl) ?_
  intro p e s m args below meth c ls X hex hK hC hE hX9 hr hlocks hl
  have X : CallFix p m c cX8_judge 11 s _ TB RX8 := X
  have hx := X.1
  have hb := X.2.1
  have hS : va_S (AA ow s.heap.size) s.heap s.heap [] := va_S.rf
  have hA : ∀ q, ow q → AA ow s.heap.size q := fun _ h => Or.inl h
  have hA2 : ∀ q, AA ow s.heap.size q → AA ow s.heap.size q := fun _ h => h
  have hG := hC.1
  have hc16 := hI.1 5 (by decide)
  have hl : lv_has ls 11 [(0, .ref (L 899 0)), (1, .int v1), (2, .int v2), (3, .int v3)] := hl
  refine lv_aload_n hx hb dX8_judge_0 rfl (lv_at hl 0 rfl) ?_
  refine lv_iload_n hx hb dX8_judge_1 rfl (lv_at hl 1 rfl) ?_
  refine z_callqP (P := ix v1 (σ.1 1002 1)) X hK hG hS hA2 hX9 yvX8_palletAt ml_X8_141 kX8 rfl (cd_fix (by decide)) [.int v1] [] (z_X8_palletAt l hl9 L σ ow v1 hI) rfl hl.1 rfl (Nat.le_of_ble_eq_true rfl) ⟨Nat.le_of_ble_eq_true rfl, Nat.le_of_ble_eq_true rfl⟩ ⟨Nat.le_of_ble_eq_true rfl, Nat.le_of_ble_eq_true rfl⟩ dX8_judge_2 (fun hz_2 H locs q ce hG hS hq hv hcl => ?_) (fun hz_2 H locs hG hS => ?_)
  · rw [show k_judge v1 v2 v3 σ = (1, 0, σ) from by unfold k_judge; first | (rw [if_neg hz_2] <;> rfl) | simp only [if_neg hz_2]]
    exact y_out hex hlocks (xb_rf hC hG ⟨rfl, rfl⟩) hS hq hv hcl (by decide) rfl (Nat.le_of_ble_eq_true rfl) (Nat.le_of_ble_eq_true rfl)
  refine lv_astore (lv' := [(4, .ref (L 299 (σ.2.2.1 1001 1 (tn v1)))), (0, .ref (L 899 0)), (1, .int v1), (2, .int v2), (3, .int v3)]) hx hb dX8_judge_5 hl (by decide) rfl (fun ls hl => ?_)
  refine lv_aload_n hx hb dX8_judge_7 rfl (lv_at hl 1 rfl) ?_
  refine lv_iload_n hx hb dX8_judge_8 rfl (lv_at hl 3 rfl) ?_
  refine z_callqP (P := ix v2 (σ.1 1002 4)) X hK hG hS hA2 hX9 yvX8_drawingAt ml_X8_241 kX8 rfl (cd_fix (by decide)) [.int v2] [] (z_X8_drawingAt l hl9 L σ ow v2 hI) rfl hl.1 rfl (Nat.le_of_ble_eq_true rfl) ⟨Nat.le_of_ble_eq_true rfl, Nat.le_of_ble_eq_true rfl⟩ ⟨Nat.le_of_ble_eq_true rfl, Nat.le_of_ble_eq_true rfl⟩ dX8_judge_9 (fun hz_9 H locs q ce hG hS hq hv hcl => ?_) (fun hz_9 H locs hG hS => ?_)
  · rw [show k_judge v1 v2 v3 σ = (1, 0, σ) from by unfold k_judge; first | (rw [if_pos hz_2, if_neg hz_9] <;> rfl) | simp only [if_pos hz_2, if_neg hz_9]]
    exact y_out hex hlocks (xb_rf hC hG ⟨rfl, rfl⟩) hS hq hv hcl (by decide) rfl (Nat.le_of_ble_eq_true rfl) (Nat.le_of_ble_eq_true rfl)
  refine lv_astore (lv' := [(5, .ref (L 99 (σ.2.2.1 1001 4 (tn v2)))), (4, .ref (L 299 (σ.2.2.1 1001 1 (tn v1)))), (0, .ref (L 899 0)), (1, .int v1), (2, .int v2), (3, .int v3)]) hx hb dX8_judge_12 hl (by decide) rfl (fun ls hl => ?_)
  refine lv_aload_n hx hb dX8_judge_14 rfl (lv_at hl 2 rfl) ?_
  refine lv_iload_n hx hb dX8_judge_15 rfl (lv_at hl 5 rfl) ?_
  refine z_callqP (P := ix v3 (σ.1 1002 3)) X hK hG hS hA2 hX9 yvX8_gaugeAt ml_X8_225 kX8 rfl (cd_fix (by decide)) [.int v3] [] (z_X8_gaugeAt l hl9 L σ ow v3 hI) rfl hl.1 rfl (Nat.le_of_ble_eq_true rfl) ⟨Nat.le_of_ble_eq_true rfl, Nat.le_of_ble_eq_true rfl⟩ ⟨Nat.le_of_ble_eq_true rfl, Nat.le_of_ble_eq_true rfl⟩ dX8_judge_16 (fun hz_16 H locs q ce hG hS hq hv hcl => ?_) (fun hz_16 H locs hG hS => ?_)
  · rw [show k_judge v1 v2 v3 σ = (1, 0, σ) from by unfold k_judge; first | (rw [if_pos hz_2, if_pos hz_9, if_neg hz_16] <;> rfl) | simp only [if_pos hz_2, if_pos hz_9, if_neg hz_16]]
    exact y_out hex hlocks (xb_rf hC hG ⟨rfl, rfl⟩) hS hq hv hcl (by decide) rfl (Nat.le_of_ble_eq_true rfl) (Nat.le_of_ble_eq_true rfl)
  refine lv_astore (lv' := [(6, .ref (L 199 (σ.2.2.1 1001 3 (tn v3)))), (5, .ref (L 99 (σ.2.2.1 1001 4 (tn v2)))), (4, .ref (L 299 (σ.2.2.1 1001 1 (tn v1)))), (0, .ref (L 899 0)), (1, .int v1), (2, .int v2), (3, .int v3)]) hx hb dX8_judge_19 hl (by decide) rfl (fun ls hl => ?_)
  refine lv_aload hx hb dX8_judge_21 (lv_at hl 2 rfl) ?_
  refine gt_X8_151 X hK hG (cd_obj (by decide) (Or.inl (by decide)) (hI.2 1 (by decide) _ (ix_lt hz_2))) (x := σ.2.1 206 (σ.2.2.1 1001 1 (tn v1))) rfl dX8_judge_23 ?_
  refine lv_iconst (v := nI 2) hx hb dX8_judge_26 (by decide) ?_
  refine lv_icmp_ne (tgt := 62) hx hb dX8_judge_27 (by decide) (fun c_27 => ?_) (fun c_27 => ?_)
  · rw [show k_judge v1 v2 v3 σ = (3, 0, σ) from by unfold k_judge; first | (rw [if_pos hz_2, if_pos hz_9, if_pos hz_16, if_pos c_27] <;> rfl) | simp only [if_pos hz_2, if_pos hz_9, if_pos hz_16, if_pos c_27]]
    exact y_throwW (e8 := 3) (tx := "the part cannot be judged") hx X hl9 xw_3 hX9 (List.mem_of_getElem? (i := 27) rfl) hex hlocks hl.1 hS (xb_ext (xb_rf hC hG ⟨rfl, rfl⟩)) (by decide) rfl dX8_judge_62 dX8_judge_65 dX8_judge_66 dX8_judge_69 dX8_judge_72 (Nat.le_of_ble_eq_true rfl) (Nat.le_of_ble_eq_true rfl) (Nat.le_of_ble_eq_true rfl) (Nat.le_of_ble_eq_true rfl) (Nat.le_of_ble_eq_true rfl) (Nat.le_of_ble_eq_true rfl)
  · refine lv_aload hx hb dX8_judge_30 (lv_at hl 1 rfl) ?_
    refine gt_X8_247 X hK hG (cd_obj (by decide) (Or.inl (by decide)) (hI.2 4 (by decide) _ (ix_lt hz_9))) (x := σ.1 5 (σ.2.2.1 1001 4 (tn v2))) rfl dX8_judge_32 ?_
    refine r_if_eqN (tgt := 62) hx hb dX8_judge_35 (by decide) (by have := h5 (σ.2.2.1 1001 4 (tn v2)); omega) (fun c_35 => ?_) (fun c_35 => ?_)
    · rw [show k_judge v1 v2 v3 σ = (3, 0, σ) from by unfold k_judge; first | (rw [if_pos hz_2, if_pos hz_9, if_pos hz_16, if_neg (not_not_intro9 c_27), if_pos c_35] <;> rfl) | simp only [if_pos hz_2, if_pos hz_9, if_pos hz_16, if_neg (not_not_intro9 c_27), if_pos c_35]]
      exact y_throwW (e8 := 3) (tx := "the part cannot be judged") hx X hl9 xw_3 hX9 (List.mem_of_getElem? (i := 27) rfl) hex hlocks hl.1 hS (xb_ext (xb_rf hC hG ⟨rfl, rfl⟩)) (by decide) rfl dX8_judge_62 dX8_judge_65 dX8_judge_66 dX8_judge_69 dX8_judge_72 (Nat.le_of_ble_eq_true rfl) (Nat.le_of_ble_eq_true rfl) (Nat.le_of_ble_eq_true rfl) (Nat.le_of_ble_eq_true rfl) (Nat.le_of_ble_eq_true rfl) (Nat.le_of_ble_eq_true rfl)
    · refine lv_aload hx hb dX8_judge_38 (lv_at hl 0 rfl) ?_
      refine lv_aload_n hx hb dX8_judge_40 rfl (lv_at hl 3 rfl) ?_
      refine gt_X8_216 X hK hG (cd_fix (by decide)) (x := σ.1 811 0) rfl dX8_judge_41 ?_
      refine rm_callVg X hK hG hS hA2 yvX1_isGood ml_X8_268 kX1 rfl (cd_obj (by decide) (Or.inl (by decide)) (hI.2 3 (by decide) _ (ix_lt hz_16))) [.int (nI (σ.1 811 0))] [] (c_X1_isGood l L σ ow (σ.2.2.1 1001 3 (tn v3)) (cd_objs (C := 1) (by decide) (hI.2 3 (by decide) _ (ix_lt hz_16))) (nI (σ.1 811 0))) rfl hl.1 rfl (Nat.le_of_ble_eq_true rfl) ⟨Nat.le_of_ble_eq_true rfl, Nat.le_of_ble_eq_true rfl⟩ ⟨Nat.le_of_ble_eq_true rfl, Nat.le_of_ble_eq_true rfl⟩ dX8_judge_44 (fun H locs hG hS => ?_)
      refine r_if_eqB (tgt := 62) hx hb dX8_judge_47 (by decide) (fun c_47 => ?_) (fun c_47 => ?_)
      · rw [show k_judge v1 v2 v3 σ = (3, 0, σ) from by unfold k_judge; first | (rw [if_pos hz_2, if_pos hz_9, if_pos hz_16, if_neg (not_not_intro9 c_27), if_neg c_35, if_pos c_47] <;> rfl) | simp only [if_pos hz_2, if_pos hz_9, if_pos hz_16, if_neg (not_not_intro9 c_27), if_neg c_35, if_pos c_47]]
        exact y_throwW (e8 := 3) (tx := "the part cannot be judged") hx X hl9 xw_3 hX9 (List.mem_of_getElem? (i := 27) rfl) hex hlocks hl.1 hS (xb_ext (xb_rf hC hG ⟨rfl, rfl⟩)) (by decide) rfl dX8_judge_62 dX8_judge_65 dX8_judge_66 dX8_judge_69 dX8_judge_72 (Nat.le_of_ble_eq_true rfl) (Nat.le_of_ble_eq_true rfl) (Nat.le_of_ble_eq_true rfl) (Nat.le_of_ble_eq_true rfl) (Nat.le_of_ble_eq_true rfl) (Nat.le_of_ble_eq_true rfl)
      · refine lv_aload_n hx hb dX8_judge_50 rfl (lv_at hl 3 rfl) ?_
        refine gt_X8_28 X hK hG (cd_fix (by decide)) dX8_judge_51 ?_
        refine x_size X hK hG hS hA2 (cd_list (by decide)) ml_X8_65 hl.1 (Nat.le_of_ble_eq_true rfl) ⟨Nat.le_of_ble_eq_true rfl, Nat.le_of_ble_eq_true rfl⟩ ⟨Nat.le_of_ble_eq_true rfl, Nat.le_of_ble_eq_true rfl⟩ dX8_judge_54 (fun H locs hG hS => ?_)
        refine lv_bipush (v := nI 30) hx hb dX8_judge_57 (by decide) ?_
        refine r_icmp_ltN (tgt := 73) hx hb dX8_judge_59 (by decide) (by omega) (by decide) (fun c_59 => ?_) (fun c_59 => ?_)
        · rw [show k_judge v1 v2 v3 σ = (0, nI (σ.1 1002 5), ladd 5 (σ.1 1002 5) (k_j3 (σ.2.2.1 1001 1 (tn v1)) (σ.2.2.1 1001 4 (tn v2)) (σ.2.2.1 1001 3 (tn v3)) (σ.1 1002 5) v1 v2 σ)) from by unfold k_judge; first | (rw [if_pos hz_2, if_pos hz_9, if_pos hz_16, if_neg (not_not_intro9 c_27), if_neg c_35, if_neg (not_not_intro9 c_47), if_pos c_59] <;> rfl) | simp only [if_pos hz_2, if_pos hz_9, if_pos hz_16, if_neg (not_not_intro9 c_27), if_neg c_35, if_neg (not_not_intro9 c_47), if_pos c_59]]
          have hP9 : (σ.2.2.1 1001 1 (tn v1)) < σ.1 1002 1 := hI.2 1 (by decide) _ (ix_lt hz_2)
          have hD9 : (σ.2.2.1 1001 4 (tn v2)) < σ.1 1002 4 := hI.2 4 (by decide) _ (ix_lt hz_9)
          have hG9 : (σ.2.2.1 1001 3 (tn v3)) < σ.1 1002 3 := hI.2 3 (by decide) _ (ix_lt hz_16)
          have hd5 := h5 (σ.2.2.1 1001 4 (tn v2))
          generalize (σ.2.2.1 1001 1 (tn v1)) = P9 at hP9 hl ⊢
          generalize (σ.2.2.1 1001 4 (tn v2)) = D9 at hD9 hd5 hl ⊢
          generalize (σ.2.2.1 1001 3 (tn v3)) = G9 at hG9 hl ⊢
          obtain ⟨K9, hK9⟩ : ∃ K, K = σ.1 1002 5 := ⟨_, rfl⟩
          rw [← hK9] at c_59 ⊢
          obtain ⟨a, ha⟩ : ∃ a, a = H.size := ⟨_, rfl⟩
          have hS0 := hS
          refine r_new X hK kX3 tw_4_86 rfl tw_4_87 tw_1_24 hS dfs_3 (Nat.le_of_ble_eq_true rfl) (Nat.le_of_ble_eq_true rfl) dX8_judge_73 (fun H1 hat hz hq hS => ?_)
          rw [← ha] at hat hz hq ⊢
          refine lv_dup hx hb dX8_judge_76 rfl ?_
          have hltL : ∀ F q, cdom σ F q → L F q < a := fun F q hd => by rw [ha]; exact (hG.1 F q hd).lt
          have hGc : PW D cI cZ cO (cdom σ) L σ ow H1 := hG.kept2 (fun F k hd => hq _ (hltL F k hd))
          have hzc : a < H1.size := by omega
          refine lv_iload_n hx hb dX8_judge_77 rfl (lv_at hl 4 rfl) ?_
          refine lv_iload_n hx hb dX8_judge_78 rfl (lv_at hl 5 rfl) ?_
          refine lv_aload_n hx hb dX8_judge_79 rfl (lv_at hl 3 rfl) ?_
          refine gt_X8_216 X hK hGc (cd_fix (by decide)) rfl dX8_judge_80 ?_
          refine lv_aload hx hb dX8_judge_83 (lv_at hl 0 rfl) ?_
          refine gt_X8_234 X hK hGc (cd_obj (by decide) (Or.inl (by decide)) hG9) rfl dX8_judge_85 ?_
          obtain ⟨z9, hz9⟩ : ∃ z, z = H1.size := ⟨_, rfl⟩
          have haz : a < z9 := by rw [hz9]; exact hzc
          obtain ⟨L1, hL1d⟩ : ∃ L1, L1 = newL 3 K9 a z9 4 L := ⟨_, rfl⟩
          have hLo : ∀ F q, ¬ (F / 100 = 3 ∧ q = K9) → L1 F q = L F q := fun F q h => by rw [hL1d]; exact newL_o h
          have eA : L1 399 K9 = a := by rw [hL1d]; exact newL_n (C := 3) (F := 399) rfl
          have hM := nX3_init (D := D) (cI := cI) (cZ := cZ) (cO := cO) l L1 (i_3 K9 v1 v2 (nI (σ.1 811 0)) (σ.2.1 101 G9) σ) K9 z9 v1 v2 (nI (σ.1 811 0)) (σ.2.1 101 G9) (fun z hz => by
            simp only [List.mem_cons, List.not_mem_nil, or_false] at hz
            rw [hL1d]
            rcases hz with rfl | rfl <;> exact newL_n (C := 3) rfl)
            (fun F hF i => by simp only [List.mem_cons, List.not_mem_nil, or_false] at hF; rcases hF with rfl | rfl <;> simp [i_3, wN, wI, wR, wRA, up2, up1])
            (by simp [i_3, wN, wI, wR, wRA, up2, up1]) (by simp [i_3, wN, wI, wR, wRA, up2, up1]) (by simp [i_3, wN, wI, wR, wRA, up2, up1]) (by simp [i_3, wN, wI, wR, wRA, up2, up1]) (by simp [i_3, wN, wI, wR, wRA, up2, up1])
          rw [eA] at hM
          refine r_ctorI (As := [.int v1, .int v2, .int (nI (σ.1 811 0)), .int (σ.2.1 101 G9)]) (na := 4) (rest := [.ref a]) X hK hat hz9.symm hS (fun q h => h.elim (fun z => Or.inr (by rw [z, ha]; exact hS0.1)) (fun z => Or.inr (by have := hS0.1; omega))) tw_4_89 tw_1_24 tw_4_90 ml_X8_276 rfl ⟨by decide +kernel, by decide +kernel, by decide +kernel⟩ hM rfl rfl rfl hl.1 rfl (Nat.le_of_ble_eq_true rfl) ⟨Nat.le_of_ble_eq_true rfl, Nat.le_of_ble_eq_true rfl⟩ ⟨Nat.le_of_ble_eq_true rfl, Nat.le_of_ble_eq_true rfl⟩ dX8_judge_88 (fun H2 locs hGn hPz hsz2 hq2 hS => ?_)
          rw [hL1d] at hGn
          have hoff : Off 3 K9 σ (i_3 K9 v1 v2 (nI (σ.1 811 0)) (σ.2.1 101 G9) σ) := i_3_off
          have hGb := pw_beside (nl := [399, 305, 304]) (o := 4) (by decide) (show cj 3 = 5 from rfl) hK9 hI hGc hoff hltL haz hq2 (by decide) hGn
          rw [← hL1d] at hGb
          obtain ⟨f1, f2, f3, f4, f5⟩ := i3_fj (K := K9) (v1 := v1) (v2 := v2) (v3 := nI (σ.1 811 0)) (v4 := σ.2.1 101 G9) (σ := σ)
          have hj1 : k_j1 P9 D9 G9 K9 v1 v2 σ = k_jl P9 D9 G9 K9 (σ.1 5 D9) 0 (i_3 K9 v1 v2 (nI (σ.1 811 0)) (σ.2.1 101 G9) σ) := rfl
          generalize i_3 K9 v1 v2 (nI (σ.1 811 0)) (σ.2.1 101 G9) σ = σ9 at hGb hoff f1 f2 f3 f4 f5 hj1
          have hOb : ∀ q, (ow q ∨ oN a z9 q) → AA ow s.heap.size q := fun q y => y.elim Or.inl (fun y => y.elim (fun w => Or.inr (by rw [w, ha]; exact hS0.1)) (fun w => Or.inr (by have := hS0.1; omega)))
          have hOb' : ∀ q, AA (fun q => ow q ∨ oN a z9 q) s.heap.size q → AA ow s.heap.size q := fun q y => y.elim (hOb q) Or.inr
          obtain ⟨J, hJ⟩ : ∃ J : Nat → Nat → Prop, J = (fun F q => cdom σ F q ∨ (F, q) ∈ ([399, 305, 304] : List Nat).map (fun F => (F, K9))) := ⟨_, rfl⟩
          rw [← hJ] at hGb
          have hJd : ∀ F q, cdom σ F q → J F q := fun F q h => by rw [hJ]; exact Or.inl h
          have hJn : ∀ F ∈ ([399, 305, 304] : List Nat), J F K9 := fun F h => by rw [hJ]; exact Or.inr (List.mem_map.mpr ⟨F, h, rfl⟩)
          rw [← eA]
          rw [← hLo 199 G9 (by omega), ← hLo 99 D9 (by omega), ← hLo 299 P9 (by omega), ← hLo 899 0 (by omega)] at hl
          refine lv_astore (lv' := [(7, .ref (L1 399 K9)), (6, .ref (L1 199 G9)), (5, .ref (L1 99 D9)), (4, .ref (L1 299 P9)), (0, .ref (L1 899 0)), (1, .int v1), (2, .int v2), (3, .int v3)]) hx hb dX8_judge_91 hl (by decide) rfl (fun ls hl => ?_)
          refine lv_iconst (v := nI 0) hx hb dX8_judge_93 (by decide) ?_
          refine lv_istore (lv' := [(8, .int (nI 0)), (7, .ref (L1 399 K9)), (6, .ref (L1 199 G9)), (5, .ref (L1 99 D9)), (4, .ref (L1 299 P9)), (0, .ref (L1 899 0)), (1, .int v1), (2, .int v2), (3, .int v3)]) hx hb dX8_judge_94 hl (by decide) rfl (fun ls hl => ?_)
          refine r_loop (ι := Nat × Nat × St) (fun i => [(8, .int (nI i.1)), (7, .ref (L1 399 K9)), (6, .ref (L1 199 G9)), (5, .ref (L1 99 D9)), (4, .ref (L1 299 P9)), (0, .ref (L1 899 0)), (1, .int v1), (2, .int v2), (3, .int v3)]) (fun i => i.2.2) (fun i => i.2.1) (fun i => i.1 + i.2.1 = σ.1 5 D9 ∧ FJ σ9 i.2.2 ∧ i.2.2.1 306 K9 = i.1 ∧ (∀ t, i.2.2.1 506 t ≤ σ9.1 506 t + i.1) ∧ k_j1 P9 D9 G9 K9 v1 v2 σ = k_jl P9 D9 G9 K9 i.2.1 i.1 i.2.2) (0, σ.1 5 D9, σ9) ⟨Nat.zero_add _, FJ.rf, f5, fun _ => Nat.le_refl _, hj1⟩ hGb hS hl ?_
          rintro ⟨n, f, σn⟩ ⟨hnf, hFn, h306, h506, hvn⟩ ih H locs ls hG hS hl
          have hG : PW D cI cZ cO J L1 σn (fun q => ow q ∨ oN a z9 q) H := hG
          have hl : lv_has ls 11 [(8, .int (nI n)), (7, .ref (L1 399 K9)), (6, .ref (L1 199 G9)), (5, .ref (L1 99 D9)), (4, .ref (L1 299 P9)), (0, .ref (L1 899 0)), (1, .int v1), (2, .int v2), (3, .int v3)] := hl
          have hnf : n + f = σ.1 5 D9 := hnf
          have hFn : FJ σ9 σn := hFn
          have h306 : σn.1 306 K9 = n := h306
          have h506 : ∀ t, σn.1 506 t ≤ σ9.1 506 t + n := h506
          have hvn : k_j1 P9 D9 G9 K9 v1 v2 σ = k_jl P9 D9 G9 K9 f n σn := hvn
          have e5 : σn.1 5 D9 = σ.1 5 D9 := (hFn.1 5 D9 (by decide) (by decide)).trans (f1 5 D9 (by decide))
          have eNA : σn.2.2.1 = σ.2.2.1 := hFn.2.2.1.trans f3
          have e811 : σn.1 811 0 = σ.1 811 0 := (hFn.1 811 0 (by decide) (by decide)).trans (f1 811 0 (by decide))
          have eL2 : ∀ q, σn.1 1002 q = σ.1 1002 q := fun q => (hFn.1 1002 q (by decide) (by decide)).trans (f1 1002 q (by decide))
          have eL3 : ∀ q, σn.1 1003 q = σ.1 1003 q := fun q => (hFn.1 1003 q (by decide) (by decide)).trans (f1 1003 q (by decide))
          have h99 : J 99 D9 := hJd _ _ (cd_obj (by decide) (Or.inl (by decide)) hD9)
          have h00 : J 0 D9 := hJd _ _ (cd_obj (by decide) (Or.inr (by decide)) hD9)
          have h01 : J 1 D9 := hJd _ _ (cd_obj (by decide) (Or.inr (by decide)) hD9)
          have h299 : J 299 P9 := hJd _ _ (cd_obj (by decide) (Or.inl (by decide)) hP9)
          have h201 : J 201 P9 := hJd _ _ (cd_obj (by decide) (Or.inr (by decide)) hP9)
          have h202 : J 202 P9 := hJd _ _ (cd_obj (by decide) (Or.inr (by decide)) hP9)
          have h199 : J 199 G9 := hJd _ _ (cd_obj (by decide) (Or.inl (by decide)) hG9)
          have h899 : J 899 0 := hJd _ _ (cd_fix (by decide))
          have h399 : J 399 K9 := hJn _ (by decide)
          refine lv_iload hx hb dX8_judge_96 (lv_at hl 0 rfl) ?_
          refine lv_aload hx hb dX8_judge_98 (lv_at hl 3 rfl) ?_
          refine gt_X8_247 X hK hG h99 (x := σ.1 5 D9) e5 dX8_judge_100 ?_
          refine r_icmp_geN (tgt := 182) hx hb dX8_judge_103 (by decide) (by omega) (by omega) (fun c_103 => ?_) (fun c_103 => ?_)
          rotate_left 1
          · obtain ⟨f, rfl⟩ : ∃ k, f = k + 1 := ⟨f - 1, by omega⟩
            have hvn : k_j1 P9 D9 G9 K9 v1 v2 σ = k_jl P9 D9 G9 K9 f (n + 1) (k_js P9 D9 G9 K9 n σn) := hvn
            have hn6 : n < 6 := by omega
            have hce : σn.2.2.1 0 D9 n < 144 := by rw [eNA]; exact hcl D9 n
            refine lv_aload hx hb dX8_judge_106 (lv_at hl 3 rfl) ?_
            refine gt_X8_279 X hK hG h99 dX8_judge_108 ?_
            refine lv_iload hx hb dX8_judge_111 (lv_at hl 0 rfl) ?_
            refine al_0 X hK hG h00 (i := n) hn6 rfl dX8_judge_113 ?_
            refine lv_istore (lv' := [(9, .int (nI (σn.2.2.1 0 D9 n))), (8, .int (nI n)), (7, .ref (L1 399 K9)), (6, .ref (L1 199 G9)), (5, .ref (L1 99 D9)), (4, .ref (L1 299 P9)), (0, .ref (L1 899 0)), (1, .int v1), (2, .int v2), (3, .int v3)]) hx hb dX8_judge_114 hl (by decide) rfl (fun ls hl => ?_)
            refine lv_aload hx hb dX8_judge_116 (lv_at hl 3 rfl) ?_
            refine lv_aload hx hb dX8_judge_118 (lv_at hl 5 rfl) ?_
            refine gt_X8_282 X hK hG h299 dX8_judge_120 ?_
            refine lv_iload hx hb dX8_judge_123 (lv_at hl 0 rfl) ?_
            refine al_201 X hK hG h201 (i := σn.2.2.1 0 D9 n) hce rfl dX8_judge_125 ?_
            refine lv_aload_n hx hb dX8_judge_126 rfl (lv_at hl 6 rfl) ?_
            refine gt_X8_216 X hK hG h899 rfl dX8_judge_127 ?_
            refine rm_callVg X hK hG hS hOb' yvX1_reads ml_X8_285 kX1 rfl h199 [.int (σn.2.2.2 201 P9 (σn.2.2.1 0 D9 n)), .int (nI (σn.1 811 0))] [] (c_X1_reads l L1 σn _ G9 (fun F h => hJd _ _ (cd_objs (C := 1) (by decide) hG9 F h)) (σn.2.2.2 201 P9 (σn.2.2.1 0 D9 n)) (nI (σn.1 811 0))) rfl hl.1 rfl (Nat.le_of_ble_eq_true rfl) ⟨Nat.le_of_ble_eq_true rfl, Nat.le_of_ble_eq_true rfl⟩ ⟨Nat.le_of_ble_eq_true rfl, Nat.le_of_ble_eq_true rfl⟩ dX8_judge_130 (fun H locs hG hS => ?_)
            refine lv_sipush (v := nI 1000) hx hb dX8_judge_133 (by decide) ?_
            refine lv_aload hx hb dX8_judge_136 (lv_at hl 4 rfl) ?_
            refine gt_X8_288 X hK hG h99 dX8_judge_138 ?_
            refine lv_iload hx hb dX8_judge_141 (lv_at hl 1 rfl) ?_
            refine al_1 X hK hG h01 (i := n) hn6 rfl dX8_judge_143 ?_
            refine r_mulN hx hb dX8_judge_144 ?_
            refine lv_isub hx hb dX8_judge_145 ?_
            refine lv_istore (lv' := [(10, .int (ju_a P9 D9 G9 n σn)), (9, .int (nI (σn.2.2.1 0 D9 n))), (8, .int (nI n)), (7, .ref (L1 399 K9)), (6, .ref (L1 199 G9)), (5, .ref (L1 99 D9)), (4, .ref (L1 299 P9)), (0, .ref (L1 899 0)), (1, .int v1), (2, .int v2), (3, .int v3)]) hx hb dX8_judge_146 hl (by decide) rfl (fun ls hl => ?_)
            refine lv_aload hx hb dX8_judge_148 (lv_at hl 3 rfl) ?_
            refine lv_iload hx hb dX8_judge_150 (lv_at hl 0 rfl) ?_
            refine lv_aload hx hb dX8_judge_152 (lv_at hl 5 rfl) ?_
            refine lv_iload hx hb dX8_judge_154 (lv_at hl 2 rfl) ?_
            refine rm_callVg X hK hG hS hOb' yvX0_toleranceNow ml_X8_265 kX0 rfl h99 [.int (nI n)] [.int (ju_a P9 D9 G9 n σn), .ref (L1 399 K9)] (c_X0_toleranceNow l L1 σn _ D9 (fun F h => hJd _ _ (cd_objs (C := 0) (by decide) hD9 F h)) n hn6 (by rw [eNA]; exact hpl D9 n)) rfl hl.1 rfl (Nat.le_of_ble_eq_true rfl) ⟨Nat.le_of_ble_eq_true rfl, Nat.le_of_ble_eq_true rfl⟩ ⟨Nat.le_of_ble_eq_true rfl, Nat.le_of_ble_eq_true rfl⟩ dX8_judge_156 (fun H locs hG hS => ?_)
            refine rv_callVg X hK hG hS hOb' yvX3_append ml_X8_291 kX3 rfl h399 [.int (ju_a P9 D9 G9 n σn), .int (nI (ju_t D9 n σn))] [] (c_X3_append l L1 σn _ K9 (fun F h => hJn F (by revert F; decide)) (ju_a P9 D9 G9 n σn) (nI (ju_t D9 n σn)) (by rw [h306]; omega)) rfl hl.1 rfl (Nat.le_of_ble_eq_true rfl) ⟨Nat.le_of_ble_eq_true rfl, Nat.le_of_ble_eq_true rfl⟩ ⟨Nat.le_of_ble_eq_true rfl, Nat.le_of_ble_eq_true rfl⟩ dX8_judge_159 (fun H locs hG hS => ?_)
            rw [show k_wapp K9 (ju_a P9 D9 G9 n σn) (nI (ju_t D9 n σn)) σn = k_jp P9 D9 G9 K9 n σn from by unfold k_wapp k_jp; rw [h306, if_neg (by omega)]] at hG
            have hFp : FJ σn (k_jp P9 D9 G9 K9 n σn) := jp_fj
            have hFp9 := hFn.tr hFp
            have hIp : CI (k_jp P9 D9 G9 K9 n σn) := ci_eq hI (fun q => (hFp.1 1002 q (by decide) (by decide)).trans (eL2 q)) (fun q => (hFp.1 1003 q (by decide) (by decide)).trans (eL3 q)) (fun q => by rw [hFp.2.2.1, eNA])
            have hdp : cdom (k_jp P9 D9 G9 K9 n σn) = cdom σ := cdom_eq (fun q => (hFp.1 1002 q (by decide) (by decide)).trans (eL2 q)) (fun q => (hFp.1 1003 q (by decide) (by decide)).trans (eL3 q))
            have e506 : ∀ t, (k_jp P9 D9 G9 K9 n σn).1 506 t = σn.1 506 t := fun t => by simp [k_jp, wN, wB, up2]
            refine lv_aload_n hx hb dX8_judge_162 rfl (lv_at hl 7 rfl) ?_
            refine lv_aload hx hb dX8_judge_163 (lv_at hl 6 rfl) ?_
            refine gt_X8_292 X hK hG h299 dX8_judge_165 ?_
            refine lv_iload hx hb dX8_judge_168 (lv_at hl 1 rfl) ?_
            refine al_202 X hK hG h202 (i := σn.2.2.1 0 D9 n) hce (x := σn.2.2.2 202 P9 (σn.2.2.1 0 D9 n)) (by rw [hFp.2.2.2 202 (by decide) (by decide) (by decide)]) dX8_judge_170 ?_
            refine lv_iload hx hb dX8_judge_171 (lv_at hl 0 rfl) ?_
            refine rv_callVg X hK hG hS hOb' yvX8_tell ml_X8_295 kX8 rfl h899 [.int (σn.2.2.2 202 P9 (σn.2.2.1 0 D9 n)), .int (ju_a P9 D9 G9 n σn)] [] (d_X8_tell l L1 _ _ (σn.2.2.2 202 P9 (σn.2.2.1 0 D9 n)) (ju_a P9 D9 G9 n σn) (fun t => by rw [e506]; have h9 : σn.1 506 t ≤ σ9.1 506 t + n := h506 t; have := h6 t; rw [f1 506 t (by decide)] at h9; omega) hIp (fun F q h => hJd F q (by rw [← hdp]; exact h))) rfl hl.1 rfl (Nat.le_of_ble_eq_true rfl) ⟨Nat.le_of_ble_eq_true rfl, Nat.le_of_ble_eq_true rfl⟩ ⟨Nat.le_of_ble_eq_true rfl, Nat.le_of_ble_eq_true rfl⟩ dX8_judge_173 (fun H locs hG hS => ?_)
            refine r_iincN (b := 1) (lv' := [(8, .int (nI (n + 1))), (10, .int (ju_a P9 D9 G9 n σn)), (9, .int (nI (σn.2.2.1 0 D9 n))), (7, .ref (L1 399 K9)), (6, .ref (L1 199 G9)), (5, .ref (L1 99 D9)), (4, .ref (L1 299 P9)), (0, .ref (L1 899 0)), (1, .int v1), (2, .int v2), (3, .int v3)]) hx hb dX8_judge_176 hl (k := 2) rfl (by decide) (by decide) rfl (fun ls hl => ?_)
            refine lv_goto (tgt := 96) hx hb dX8_judge_179 (by decide) ?_
            exact ih (n + 1, f, k_js P9 D9 G9 K9 n σn) (Nat.lt_succ_self f) ⟨by show n + 1 + f = _; omega, hFp9.tr tell_fj, by show (k_tell _ _ _).1 306 K9 = n + 1; rw [tell_306]; simp [k_jp, wN, wB, up2, up1], fun t => by show (k_tell _ _ _).1 506 t ≤ _; have := tell_506 (v := σn.2.2.2 202 P9 (σn.2.2.1 0 D9 n)) (w := ju_a P9 D9 G9 n σn) (σ := k_jp P9 D9 G9 K9 n σn) (k := t); have h9 : σn.1 506 t ≤ σ9.1 506 t + n := h506 t; have h8 := e506 t; show (k_tell _ _ _).1 506 t ≤ σ9.1 506 t + (n + 1); omega, hvn⟩ H locs ls hG hS (lv_sub hl [0, 3, 4, 5, 6, 7, 8, 9, 10] rfl)
          have f0 : f = 0 := by omega
          subst f0
          have hvn : k_j1 P9 D9 G9 K9 v1 v2 σ = σn := hvn
          have hj2 : k_j2 P9 D9 G9 K9 v1 v2 σ = k_spd D9 (σ.1 5 D9) σn := by unfold k_j2; rw [hvn]
          have hj3 : k_j3 P9 D9 G9 K9 v1 v2 σ = wI (k_spd D9 (σ.1 5 D9) σn) 209 P9 (k_vd K9 (k_spd D9 (σ.1 5 D9) σn) (σ.1 5 D9) 0 (nI 0)) := by unfold k_j3; rw [hj2]
          rw [hj3]
          clear ih
          obtain ⟨s1, s2, s3, s4⟩ := spd_st D9 σn (σ.1 5 D9)
          refine lv_aload hx hb dX8_judge_182 (lv_at hl 3 rfl) ?_
          have hMs := c_X0_spendPaper (D := D) (cI := cI) (cZ := cZ) (cO := cO) (dom := J) l L1 σn (fun q => ow q ∨ oN a z9 q) D9 (fun F h => hJd _ _ (cd_objs (C := 0) (by decide) hD9 F h)) (by rw [e5]; exact hd5) (fun i => by rw [eNA]; exact hpl D9 i)
          rw [e5] at hMs
          refine rv_callVg X hK hG hS hOb' yvX0_spendPaper ml_X8_298 kX0 rfl h99 [] [] hMs rfl hl.1 rfl (Nat.le_of_ble_eq_true rfl) ⟨Nat.le_of_ble_eq_true rfl, Nat.le_of_ble_eq_true rfl⟩ ⟨Nat.le_of_ble_eq_true rfl, Nat.le_of_ble_eq_true rfl⟩ dX8_judge_184 (fun H locs hG hS => ?_)
          have e306 : (k_spd D9 (σ.1 5 D9) σn).1 306 K9 = σ.1 5 D9 := by rw [s1, h306]; omega
          refine lv_aload hx hb dX8_judge_187 (lv_at hl 4 rfl) ?_
          refine lv_aload hx hb dX8_judge_189 (lv_at hl 1 rfl) ?_
          have hMv := c_X3_verdict (D := D) (cI := cI) (cZ := cZ) (cO := cO) (dom := J) l L1 (k_spd D9 (σ.1 5 D9) σn) (fun q => ow q ∨ oN a z9 q) K9 (fun F h => hJn F (by revert F; decide)) (by rw [e306]; exact hd5)
          rw [e306] at hMv
          refine rm_callVg X hK hG hS hOb' yvX3_verdict ml_X8_301 kX3 rfl h399 [] [.ref (L1 299 P9)] hMv rfl hl.1 rfl (Nat.le_of_ble_eq_true rfl) ⟨Nat.le_of_ble_eq_true rfl, Nat.le_of_ble_eq_true rfl⟩ ⟨Nat.le_of_ble_eq_true rfl, Nat.le_of_ble_eq_true rfl⟩ dX8_judge_191 (fun H locs hG hS => ?_)
          refine pt_X8_304 X hK hG hS hOb h299 dX8_judge_194 (fun H locs hG hS => ?_)
          generalize k_vd K9 (k_spd D9 (σ.1 5 D9) σn) (σ.1 5 D9) 0 (nI 0) = vd at hG ⊢
          have g2 : ∀ q, (wI (k_spd D9 (σ.1 5 D9) σn) 209 P9 vd).1 1002 q = σ.1 1002 q := fun q => (congrFun (congrFun s1 1002) q).trans (eL2 q)
          have g3 : ∀ q, (wI (k_spd D9 (σ.1 5 D9) σn) 209 P9 vd).1 1003 q = σ.1 1003 q := fun q => (congrFun (congrFun s1 1003) q).trans (eL3 q)
          have gA : (wI (k_spd D9 (σ.1 5 D9) σn) 209 P9 vd).2.2.1 1001 = σ.2.2.1 1001 := (s4 1001 (by decide)).trans (by rw [eNA])
          have gc := hI.1 5 (by decide)
          refine lv_aload_n hx hb dX8_judge_197 rfl (lv_at hl 5 rfl) ?_
          refine gt_X8_28 X hK hG h899 dX8_judge_198 ?_
          refine lv_aload hx hb dX8_judge_201 (lv_at hl 1 rfl) ?_
          rw [hJ] at hG
          refine pw_add X hK hG hS hOb' hE (j := 5) (x := K9) (M := 1) (S := 60) (lok_new2 (by decide) (lok_of ⟨hGc, hC.2⟩ hI (by decide)) (g2 5) (g3 5) hLo (by decide)) (Or.inr (List.mem_map.mpr ⟨399, by decide, rfl⟩)) kX3 rfl (by decide) (fun i hi => Or.inl (by rw [gA]; exact hel_of hI (j := 5) (by decide) i (by rw [g2] at hi; exact hi))) (fun _ => ⟨Nat.le_refl _, by decide⟩) (fun z => ⟨Nat.le_refl _, by rw [g2, g3] at z; rw [g3]; omega⟩) ml_X8_58 hl.1 (Nat.le_of_ble_eq_true rfl) ⟨Nat.le_of_ble_eq_true rfl, Nat.le_of_ble_eq_true rfl⟩ ⟨Nat.le_of_ble_eq_true rfl, Nat.le_of_ble_eq_true rfl⟩ dX8_judge_203 (fun b H locs hG3 hAb hS => ?_)
          refine lv_pop hx hb dX8_judge_206 rfl ?_
          obtain ⟨L3, ow3, hL3, hO3, hC3⟩ := xb_new2 (sz := s.heap.size) (b := b) (nl := [399, 305, 304]) (by decide) (show cj 3 = 5 from rfl) (by decide) ⟨by decide, by decide⟩ hK9 ⟨hGc, hC.2⟩ hI (fun F hF h => hinj_3 F hF h) (fun f hf h => hnl_3 f hf h) g2 g3 hLo hG3 (fun q h => h.elim (hOb q) (fun z => by rw [z]; exact hAb))
          have hN : (ladd 5 K9 (wI (k_spd D9 (σ.1 5 D9) σn) 209 P9 vd)).1 1002 5 = K9 + 1 := by rw [ladd_N, g2, hK9]
          rw [show L1 899 0 = L3 899 0 from (hLo 899 0 (by omega)).trans (hL3 899 0 (cd_fix (by decide)) (by decide)).symm] at hl
          refine lv_aload_n hx hb dX8_judge_207 rfl (lv_at hl 5 rfl) ?_
          refine gt_X8_28 X hK hC3.1 (cd_fix (by decide)) dX8_judge_208 ?_
          refine x_size X hK hC3.1 hS (fun q h => h.elim (hO3 q) Or.inr) (cd_list (by decide)) ml_X8_65 hl.1 (Nat.le_of_ble_eq_true rfl) ⟨Nat.le_of_ble_eq_true rfl, Nat.le_of_ble_eq_true rfl⟩ ⟨Nat.le_of_ble_eq_true rfl, Nat.le_of_ble_eq_true rfl⟩ dX8_judge_211 (fun H locs hG4 hS => ?_)
          rw [hN]
          refine lv_iconst (v := nI 1) hx hb dX8_judge_214 (by decide) ?_
          refine r_subN hx hb (by omega) dX8_judge_215 ?_
          exact y_reti hx hb hr hlocks ⟨L3, ow3, hL3, hO3, hG4, hC3.2⟩ hS (by rw [Nat.add_sub_cancel]) rfl rfl (Nat.le_of_ble_eq_true rfl) (Nat.le_of_ble_eq_true rfl) dX8_judge_216
        · rw [show k_judge v1 v2 v3 σ = (3, 0, σ) from by unfold k_judge; first | (rw [if_pos hz_2, if_pos hz_9, if_pos hz_16, if_neg (not_not_intro9 c_27), if_neg c_35, if_neg (not_not_intro9 c_47), if_neg (Nat.not_lt.mpr c_59)] <;> rfl) | simp only [if_pos hz_2, if_pos hz_9, if_pos hz_16, if_neg (not_not_intro9 c_27), if_neg c_35, if_neg (not_not_intro9 c_47), if_neg (Nat.not_lt.mpr c_59)]]
          exact y_throwW (e8 := 3) (tx := "the part cannot be judged") hx X hl9 xw_3 hX9 (List.mem_of_getElem? (i := 27) rfl) hex hlocks hl.1 hS (xb_ext (xb_rf hC hG ⟨rfl, rfl⟩)) (by decide) rfl dX8_judge_62 dX8_judge_65 dX8_judge_66 dX8_judge_69 dX8_judge_72 (Nat.le_of_ble_eq_true rfl) (Nat.le_of_ble_eq_true rfl) (Nat.le_of_ble_eq_true rfl) (Nat.le_of_ble_eq_true rfl) (Nat.le_of_ble_eq_true rfl) (Nat.le_of_ble_eq_true rfl)
