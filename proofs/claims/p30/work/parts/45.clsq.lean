/-- how much of its life is left, for a kind -/
def lf (σ : St) (v : Int32) (k : Nat) : Nat := if σ.2.1 507 k = 0 then 0 else if ¬ σ.2.1 501 k = v then 0 else σ.1 502 k - σ.1 504 k
theorem left_lf {k : Nat} {v : Int32} {σ : St} : k_left k v σ = (nI (lf σ v k), σ) := by
  unfold k_left lf
  split
  · rfl
  · split <;> rfl
def sumL (f : Nat → Nat) : Nat → Nat
  | 0 => 0
  | n + 1 => sumL f n + f n
def fnd (f : Nat → Nat) : Nat → Nat → Option Nat
  | 0, _ => none
  | m + 1, i => if f i = 0 then fnd f m (i + 1) else some i
def k_pl (f : Nat → Nat) (k9 : Nat) : Nat → Nat → Int32
  | 0, _ => -1
  | m + 1, i => if f i = k9 then nI i else k_pl f k9 m (i + 1)
theorem max_sub {a b : Nat} (ha : a < 100000) (h2 : b < 100000) : (if nI 0 < nI a - nI b then nI a - nI b else nI 0) = nI (a - b) := by
  by_cases c : b ≤ a
  · rw [pk_sub c]
    by_cases d : a - b = 0
    · rw [d]; rfl
    · rw [if_pos (nI_lt (by omega) (by omega))]
  · have e : (nI a - nI b).toInt = (a : Int) - b := by
      rw [Int32.toInt_sub, nI_tz (by omega), nI_tz (by omega), fb_bmod (by omega) (by omega)]
    rw [if_neg (by rw [Int32.lt_iff_toInt_lt, e, nI_tz (by decide)]; omega), show a - b = 0 by omega]
set_option maxRecDepth 100000 in
set_option maxHeartbeats 4000000 in
theorem c_X8_countLoaded {D : va_G} {cI cZ cO : ClassId} (l : Launch) (L : Lay) (σ : St) (ow : Nat → Prop) (hI : CI σ) : RM D cI cZ cO (cdom σ) l yX8_countLoaded cX8_countLoaded 3 ((some FieldType.int)) 4 121 [.ref (L 899 0)] L σ ow (nI (cntZ (fun i => σ.2.1 507 (σ.2.2.1 1001 0 i)) (σ.1 1002 0))) σ := by
  refine rm_of rfl (Nat.le_of_ble_eq_true rfl) ?_
  intro p e s m below meth c ls X hK hG hr hlocks hl
  have X : CallFix p m c cX8_countLoaded 3 s _ TB RX8 := X
  have hx := X.1
  have hb := X.2.1
  have hS : va_S (AA ow s.heap.size) s.heap s.heap [] := va_S.rf
  have hA : ∀ q, ow q → AA ow s.heap.size q := fun _ h => Or.inl h
  have hl : lv_has ls 3 [(0, .ref (L 899 0))] := hl
  have hA2 : ∀ q, AA ow s.heap.size q → AA ow s.heap.size q := fun _ h => h
  have h16 := hI.1 0 (by decide)
  refine lv_iconst (v := nI 0) hx hb dX8_countLoaded_0 (by decide) ?_
  refine lv_istore_n (lv' := [(1, .int (nI 0)), (0, .ref (L 899 0))]) hx hb dX8_countLoaded_1 rfl hl (by decide) rfl (fun ls hl => ?_)
  refine lv_iconst (v := nI 0) hx hb dX8_countLoaded_2 (by decide) ?_
  refine lv_istore_n (lv' := [(2, .int (nI 0)), (1, .int (nI 0)), (0, .ref (L 899 0))]) hx hb dX8_countLoaded_3 rfl hl (by decide) rfl (fun ls hl => ?_)
  refine r_loop (ι := Nat × Nat) (fun (⟨n1, k⟩ : Nat × Nat) => [(0, .ref (L 899 0)), (1, .int (nI n1)), (2, .int (nI k))]) (fun (⟨n1, k⟩ : Nat × Nat) => σ) (fun (⟨n1, k⟩ : Nat × Nat) => σ.1 1002 0 - k) (fun (⟨n1, k⟩ : Nat × Nat) => n1 = cntZ (fun i => σ.2.1 507 (σ.2.2.1 1001 0 i)) k ∧ k ≤ σ.1 1002 0) (0, 0) (⟨rfl, Nat.zero_le _⟩) hG hS (lv_sub hl [2, 1, 0] rfl) ?_
  rintro ⟨n1, k⟩ hinv ih H locs ls hG hS hl
  have hG : PW D cI cZ cO (cdom σ) L σ ow H := hG
  have hl : lv_has ls 3 [(0, .ref (L 899 0)), (1, .int (nI n1)), (2, .int (nI k))] := hl
  obtain ⟨hn, hk⟩ := hinv
  refine lv_iload_n hx hb dX8_countLoaded_4 rfl (lv_at hl 2 rfl) ?_
  refine lv_aload_n hx hb dX8_countLoaded_5 rfl (lv_at hl 0 rfl) ?_
  refine gt_X8_12 X hK hG (cd_fix (by decide)) dX8_countLoaded_6 ?_
  refine x_size X hK hG hS hA2 (cd_list (by decide)) ml_X8_65 hl.1 (Nat.le_of_ble_eq_true rfl) ⟨Nat.le_of_ble_eq_true rfl, Nat.le_of_ble_eq_true rfl⟩ ⟨Nat.le_of_ble_eq_true rfl, Nat.le_of_ble_eq_true rfl⟩ dX8_countLoaded_9 (fun H locs hG hS => ?_)
  refine r_icmp_geN (tgt := 46) hx hb dX8_countLoaded_12 (by decide) (by omega) (by omega) (fun c_12 => ?_) (fun c_12 => ?_)
  · refine lv_iload_n hx hb dX8_countLoaded_46 rfl (lv_at hl 1 rfl) ?_
    exact rm_ret hx hb hr hlocks hG hS (by rw [hn, show k = σ.1 1002 0 by omega]) (rfl) rfl dX8_countLoaded_47
  · refine lv_iload_n hx hb dX8_countLoaded_15 rfl (lv_at hl 1 rfl) ?_
    refine lv_aload_n hx hb dX8_countLoaded_16 rfl (lv_at hl 0 rfl) ?_
    refine gt_X8_12 X hK hG (cd_fix (by decide)) dX8_countLoaded_17 ?_
    refine lv_iload_n hx hb dX8_countLoaded_20 rfl (lv_at hl 2 rfl) ?_
    refine x_get8 X hK hG hS hA2 hI (j := 0) (i := k) (by decide) (rfl) (rfl) (by omega) (O := 599) rfl (k := σ.2.2.1 1001 0 k) (rfl) ml_X8_179 hl.1 (Nat.le_of_ble_eq_true rfl) ⟨Nat.le_of_ble_eq_true rfl, Nat.le_of_ble_eq_true rfl⟩ ⟨Nat.le_of_ble_eq_true rfl, Nat.le_of_ble_eq_true rfl⟩ dX8_countLoaded_21 (fun H locs hG hS => ?_)
    refine x_cast X hK hG kX5 rfl (cd_obj (by decide) (Or.inl (by decide)) (hI.2 0 (by decide) k (by omega))) tw_3_21 dX8_countLoaded_24 ?_
    refine gt_X8_123 X hK hG (cd_obj (by decide) (Or.inl (by decide)) (hI.2 0 (by decide) k (by omega))) (x := σ.2.1 507 (σ.2.2.1 1001 0 k)) rfl dX8_countLoaded_27 ?_
    refine lv_if_eq (tgt := 37) hx hb dX8_countLoaded_30 (by decide) (fun c_30 => ?_) (fun c_30 => ?_)
    · refine lv_iconst (v := nI 0) hx hb dX8_countLoaded_37 (by decide) ?_
      refine r_addN hx hb dX8_countLoaded_38 ?_
      refine lv_istore_n (lv' := [(1, .int (nI n1)), (0, .ref (L 899 0)), (2, .int (nI k))]) hx hb dX8_countLoaded_39 rfl hl (by decide) rfl (fun ls hl => ?_)
      refine r_iincN (b := 1) (lv' := [(2, .int (nI (k + 1))), (1, .int (nI n1)), (0, .ref (L 899 0))]) hx hb dX8_countLoaded_40 hl (k := 2) rfl (by decide) (by decide) rfl (fun ls hl => ?_)
      refine lv_goto (tgt := 4) hx hb dX8_countLoaded_43 (by decide) ?_
      exact ih (n1, k + 1) (by show _ - (k + 1) < _ - k; omega) (⟨by simp [cntZ, c_30, hn], by omega⟩) H locs ls hG hS (lv_sub hl [2, 1, 0] rfl)
    · refine lv_iconst (v := nI 1) hx hb dX8_countLoaded_33 (by decide) ?_
      refine lv_goto (tgt := 38) hx hb dX8_countLoaded_34 (by decide) ?_
      refine r_addN hx hb dX8_countLoaded_38 ?_
      refine lv_istore_n (lv' := [(1, .int (nI (n1 + 1))), (0, .ref (L 899 0)), (2, .int (nI k))]) hx hb dX8_countLoaded_39 rfl hl (by decide) rfl (fun ls hl => ?_)
      refine r_iincN (b := 1) (lv' := [(2, .int (nI (k + 1))), (1, .int (nI (n1 + 1))), (0, .ref (L 899 0))]) hx hb dX8_countLoaded_40 hl (k := 2) rfl (by decide) (by decide) rfl (fun ls hl => ?_)
      refine lv_goto (tgt := 4) hx hb dX8_countLoaded_43 (by decide) ?_
      exact ih (n1 + 1, k + 1) (by show _ - (k + 1) < _ - k; omega) (⟨by simp [cntZ, c_30, hn], by omega⟩) H locs ls hG hS (lv_sub hl [2, 1, 0] rfl)
set_option maxRecDepth 100000 in
set_option maxHeartbeats 4000000 in
theorem c_X8_countLeft {D : va_G} {cI cZ cO : ClassId} (l : Launch) (L : Lay) (σ : St) (ow : Nat → Prop) (v1 : Int32) (hu : ∀ k, σ.1 504 k ≤ σ.1 502 k) (hI : CI σ) : RM D cI cZ cO (cdom σ) l yX8_countLeft cX8_countLeft 4 ((some FieldType.int)) 4 121 [.ref (L 899 0), .int v1] L σ ow (nI (sumL (fun i => lf σ v1 (σ.2.2.1 1001 0 i)) (σ.1 1002 0))) σ := by
  refine rm_of rfl (Nat.le_of_ble_eq_true rfl) ?_
  intro p e s m below meth c ls X hK hG hr hlocks hl
  have X : CallFix p m c cX8_countLeft 4 s _ TB RX8 := X
  have hx := X.1
  have hb := X.2.1
  have hS : va_S (AA ow s.heap.size) s.heap s.heap [] := va_S.rf
  have hA : ∀ q, ow q → AA ow s.heap.size q := fun _ h => Or.inl h
  have hl : lv_has ls 4 [(0, .ref (L 899 0)), (1, .int v1)] := hl
  have hA2 : ∀ q, AA ow s.heap.size q → AA ow s.heap.size q := fun _ h => h
  have h16 := hI.1 0 (by decide)
  refine lv_iconst (v := nI 0) hx hb dX8_countLeft_0 (by decide) ?_
  refine lv_istore_n (lv' := [(2, .int (nI 0)), (0, .ref (L 899 0)), (1, .int v1)]) hx hb dX8_countLeft_1 rfl hl (by decide) rfl (fun ls hl => ?_)
  refine lv_iconst (v := nI 0) hx hb dX8_countLeft_2 (by decide) ?_
  refine lv_istore_n (lv' := [(3, .int (nI 0)), (2, .int (nI 0)), (0, .ref (L 899 0)), (1, .int v1)]) hx hb dX8_countLeft_3 rfl hl (by decide) rfl (fun ls hl => ?_)
  refine r_loop (ι := Nat × Nat) (fun (⟨n1, k⟩ : Nat × Nat) => [(0, .ref (L 899 0)), (1, .int v1), (2, .int (nI n1)), (3, .int (nI k))]) (fun (⟨n1, k⟩ : Nat × Nat) => σ) (fun (⟨n1, k⟩ : Nat × Nat) => σ.1 1002 0 - k) (fun (⟨n1, k⟩ : Nat × Nat) => n1 = sumL (fun i => lf σ v1 (σ.2.2.1 1001 0 i)) k ∧ k ≤ σ.1 1002 0) (0, 0) (⟨rfl, Nat.zero_le _⟩) hG hS (lv_sub hl [2, 3, 1, 0] rfl) ?_
  rintro ⟨n1, k⟩ hinv ih H locs ls hG hS hl
  have hG : PW D cI cZ cO (cdom σ) L σ ow H := hG
  have hl : lv_has ls 4 [(0, .ref (L 899 0)), (1, .int v1), (2, .int (nI n1)), (3, .int (nI k))] := hl
  obtain ⟨hn, hk⟩ := hinv
  refine lv_iload_n hx hb dX8_countLeft_4 rfl (lv_at hl 3 rfl) ?_
  refine lv_aload_n hx hb dX8_countLeft_5 rfl (lv_at hl 0 rfl) ?_
  refine gt_X8_12 X hK hG (cd_fix (by decide)) dX8_countLeft_6 ?_
  refine x_size X hK hG hS hA2 (cd_list (by decide)) ml_X8_65 hl.1 (Nat.le_of_ble_eq_true rfl) ⟨Nat.le_of_ble_eq_true rfl, Nat.le_of_ble_eq_true rfl⟩ ⟨Nat.le_of_ble_eq_true rfl, Nat.le_of_ble_eq_true rfl⟩ dX8_countLeft_9 (fun H locs hG hS => ?_)
  refine r_icmp_geN (tgt := 39) hx hb dX8_countLeft_12 (by decide) (by omega) (by omega) (fun c_12 => ?_) (fun c_12 => ?_)
  · refine lv_iload_n hx hb dX8_countLeft_39 rfl (lv_at hl 2 rfl) ?_
    exact rm_ret hx hb hr hlocks hG hS (by rw [hn, show k = σ.1 1002 0 by omega]) (rfl) rfl dX8_countLeft_40
  · refine lv_iload_n hx hb dX8_countLeft_15 rfl (lv_at hl 2 rfl) ?_
    refine lv_aload_n hx hb dX8_countLeft_16 rfl (lv_at hl 0 rfl) ?_
    refine gt_X8_12 X hK hG (cd_fix (by decide)) dX8_countLeft_17 ?_
    refine lv_iload_n hx hb dX8_countLeft_20 rfl (lv_at hl 3 rfl) ?_
    refine x_get8 X hK hG hS hA2 hI (j := 0) (i := k) (by decide) (rfl) (rfl) (by omega) (O := 599) rfl (k := σ.2.2.1 1001 0 k) (rfl) ml_X8_179 hl.1 (Nat.le_of_ble_eq_true rfl) ⟨Nat.le_of_ble_eq_true rfl, Nat.le_of_ble_eq_true rfl⟩ ⟨Nat.le_of_ble_eq_true rfl, Nat.le_of_ble_eq_true rfl⟩ dX8_countLeft_21 (fun H locs hG hS => ?_)
    refine x_cast X hK hG kX5 rfl (cd_obj (by decide) (Or.inl (by decide)) (hI.2 0 (by decide) k (by omega))) tw_3_21 dX8_countLeft_24 ?_
    refine lv_iload_n hx hb dX8_countLeft_27 rfl (lv_at hl 1 rfl) ?_
    refine rm_callVg X hK hG hS hA2 yvX5_leftFor ml_X8_365 kX5 rfl (cd_obj (by decide) (Or.inl (by decide)) (hI.2 0 (by decide) k (by omega))) [.int v1] [.int (nI n1)] (c_X5_leftFor l L σ ow (σ.2.2.1 1001 0 k) (cd_objs (C := 5) (by decide) (hI.2 0 (by decide) k (by omega))) v1 (hu _)) rfl hl.1 rfl (Nat.le_of_ble_eq_true rfl) ⟨Nat.le_of_ble_eq_true rfl, Nat.le_of_ble_eq_true rfl⟩ ⟨Nat.le_of_ble_eq_true rfl, Nat.le_of_ble_eq_true rfl⟩ dX8_countLeft_28 (fun H locs hG hS => ?_)
    have hG : PW D cI cZ cO (cdom σ) L σ ow H := by rw [left_lf] at hG; exact hG
    refine r_top (y := nI (lf σ v1 (σ.2.2.1 1001 0 k))) (by rw [left_lf]) ?_
    refine r_addN hx hb dX8_countLeft_31 ?_
    refine lv_istore_n (lv' := [(2, .int (nI (n1 + (lf σ v1 (σ.2.2.1 1001 0 k))))), (0, .ref (L 899 0)), (1, .int v1), (3, .int (nI k))]) hx hb dX8_countLeft_32 rfl hl (by decide) rfl (fun ls hl => ?_)
    refine r_iincN (b := 1) (lv' := [(3, .int (nI (k + 1))), (2, .int (nI (n1 + (lf σ v1 (σ.2.2.1 1001 0 k))))), (0, .ref (L 899 0)), (1, .int v1)]) hx hb dX8_countLeft_33 hl (k := 3) rfl (by decide) (by decide) rfl (fun ls hl => ?_)
    refine lv_goto (tgt := 4) hx hb dX8_countLeft_36 (by decide) ?_
    exact ih (n1 + (lf σ v1 (σ.2.2.1 1001 0 k)), k + 1) (by show _ - (k + 1) < _ - k; omega) (⟨by rw [hn]; rfl, by omega⟩) H locs ls hG hS (lv_sub hl [2, 3, 1, 0] rfl)
set_option maxRecDepth 100000 in
set_option maxHeartbeats 4000000 in
theorem c_X8_tell {D : va_G} {cI cZ cO : ClassId} (l : Launch) (L : Lay) (σ : St) (ow : Nat → Prop) (v1 v2 : Int32) (h6 : ∀ k, σ.1 506 k < 1000000) (hI : CI σ) : RV D cI cZ cO (cdom σ) l yX8_tell cX8_tell 3 4 121 [.ref (L 899 0), .int v1, .int v2] L σ ow (if ix v1 (σ.1 1002 0) then k_hear (σ.2.2.1 1001 0 (tn v1)) v2 σ else σ) := by
  refine rv_of rfl (Nat.le_of_ble_eq_true rfl) ?_
  intro p e s m below meth c ls X hK hG hr hlocks hl
  have X : CallFix p m c cX8_tell 3 s _ TB RX8 := X
  have hx := X.1
  have hb := X.2.1
  have hS : va_S (AA ow s.heap.size) s.heap s.heap [] := va_S.rf
  have hA : ∀ q, ow q → AA ow s.heap.size q := fun _ h => Or.inl h
  have hl : lv_has ls 3 [(0, .ref (L 899 0)), (1, .int v1), (2, .int v2)] := hl
  have hA2 : ∀ q, AA ow s.heap.size q → AA ow s.heap.size q := fun _ h => h
  have h16 := hI.1 0 (by decide)
  have hv1 : tn v1 < 2147483648 := by have := fb_rng v1; unfold tn; omega
  refine lv_iload_n hx hb dX8_tell_0 rfl (lv_at hl 1 rfl) ?_
  refine lv_if_lt (tgt := 30) hx hb dX8_tell_1 (by decide) (fun c_1 => ?_) (fun c_1 => ?_)
  · exact rv_ret hx hb hr hlocks hG hS ((if_neg (fun z => absurd z.1 (by rw [Int32.lt_iff_toInt_lt] at c_1; exact Int.not_le.mpr c_1))).symm) dX8_tell_30
  · refine lv_iload_n hx hb dX8_tell_4 rfl (lv_at hl 1 rfl) ?_
    refine r_top (y := nI (tn v1)) (tn_ge c_1) ?_
    refine lv_aload_n hx hb dX8_tell_5 rfl (lv_at hl 0 rfl) ?_
    refine gt_X8_12 X hK hG (cd_fix (by decide)) dX8_tell_6 ?_
    refine x_size X hK hG hS hA2 (cd_list (by decide)) ml_X8_65 hl.1 (Nat.le_of_ble_eq_true rfl) ⟨Nat.le_of_ble_eq_true rfl, Nat.le_of_ble_eq_true rfl⟩ ⟨Nat.le_of_ble_eq_true rfl, Nat.le_of_ble_eq_true rfl⟩ dX8_tell_9 (fun H locs hG hS => ?_)
    refine r_icmp_geN (tgt := 30) hx hb dX8_tell_12 (by decide) (hv1) (by omega) (fun c_12 => ?_) (fun c_12 => ?_)
    · exact rv_ret hx hb hr hlocks hG hS ((if_neg (fun z => absurd (ix_lt z) (Nat.not_lt.mpr c_12))).symm) dX8_tell_30
    · refine lv_aload_n hx hb dX8_tell_15 rfl (lv_at hl 0 rfl) ?_
      refine gt_X8_12 X hK hG (cd_fix (by decide)) dX8_tell_16 ?_
      refine lv_iload_n hx hb dX8_tell_19 rfl (lv_at hl 1 rfl) ?_
      refine r_top (y := nI (tn v1)) (tn_ge c_1) ?_
      refine x_get8 X hK hG hS hA2 hI (j := 0) (i := tn v1) (by decide) (rfl) (rfl) (c_12) (O := 599) rfl (k := σ.2.2.1 1001 0 (tn v1)) (rfl) ml_X8_179 hl.1 (Nat.le_of_ble_eq_true rfl) ⟨Nat.le_of_ble_eq_true rfl, Nat.le_of_ble_eq_true rfl⟩ ⟨Nat.le_of_ble_eq_true rfl, Nat.le_of_ble_eq_true rfl⟩ dX8_tell_20 (fun H locs hG hS => ?_)
      refine x_cast X hK hG kX5 rfl (cd_obj (by decide) (Or.inl (by decide)) (hI.2 0 (by decide) (tn v1) (c_12))) tw_3_21 dX8_tell_23 ?_
      refine lv_iload_n hx hb dX8_tell_26 rfl (lv_at hl 2 rfl) ?_
      refine rv_callVg X hK hG hS hA2 yvX5_hear ml_X8_368 kX5 rfl (cd_obj (by decide) (Or.inl (by decide)) (hI.2 0 (by decide) (tn v1) (c_12))) [.int v2] [] (c_X5_hear l L σ ow (σ.2.2.1 1001 0 (tn v1)) (cd_objs (C := 5) (by decide) (hI.2 0 (by decide) (tn v1) (c_12))) v2 (h6 _)) rfl hl.1 rfl (Nat.le_of_ble_eq_true rfl) ⟨Nat.le_of_ble_eq_true rfl, Nat.le_of_ble_eq_true rfl⟩ ⟨Nat.le_of_ble_eq_true rfl, Nat.le_of_ble_eq_true rfl⟩ dX8_tell_27 (fun H locs hG hS => ?_)
      exact rv_ret hx hb hr hlocks hG hS ((if_pos (by rw [tn_ge c_1]; exact (ix_nI hv1).mpr c_12)).symm) dX8_tell_30
def k_gp (f : Nat → Int32) : Nat → Nat → Int32 → Int32 → Int32
  | 0, _, g, _ => g
  | m + 1, i, g, w => if aB (f i) ≤ w then k_gp f m (i + 1) g w else k_gp f m (i + 1) (nI i) (aB (f i))
theorem gp_y {f : Nat → Int32} {m i : Nat} {g w : Int32} (h : (if 0 ≤ f i then f i else 0 - f i) ≤ w) : k_gp f (m + 1) i g w = k_gp f m (i + 1) g w := if_pos h
theorem gp_n {f : Nat → Int32} {m i : Nat} {g w : Int32} (h : ¬ (if 0 ≤ f i then f i else 0 - f i) ≤ w) : k_gp f (m + 1) i g w = k_gp f m (i + 1) (nI i) (if 0 ≤ f i then f i else 0 - f i) := if_neg h
set_option maxRecDepth 100000 in
set_option maxHeartbeats 4000000 in
theorem c_X8_greatestPart {D : va_G} {cI cZ cO : ClassId} (l : Launch) (L : Lay) (σ : St) (ow : Nat → Prop) (hI : CI σ) : RM D cI cZ cO (cdom σ) l yX8_greatestPart cX8_greatestPart 4 ((some FieldType.int)) 1 22 [.ref (L 899 0)] L σ ow (k_gp (σ.2.2.2 807 0) 4 0 (-1) (nI 0)) σ := by
  refine rm_of rfl (Nat.le_of_ble_eq_true rfl) ?_
  intro p e s m below meth c ls X hK hG hr hlocks hl
  have X : CallFix p m c cX8_greatestPart 4 s _ TB RX8 := X
  have hx := X.1
  have hb := X.2.1
  have hS : va_S (AA ow s.heap.size) s.heap s.heap [] := va_S.rf
  have hA : ∀ q, ow q → AA ow s.heap.size q := fun _ h => Or.inl h
  have hl : lv_has ls 4 [(0, .ref (L 899 0))] := hl
  have hA2 : ∀ q, AA ow s.heap.size q → AA ow s.heap.size q := fun _ h => h
  refine lv_iconst (v := (-1)) hx hb dX8_greatestPart_0 (by decide) ?_
  refine lv_istore_n (lv' := [(1, .int (-1)), (0, .ref (L 899 0))]) hx hb dX8_greatestPart_1 rfl hl (by decide) rfl (fun ls hl => ?_)
  refine lv_iconst (v := nI 0) hx hb dX8_greatestPart_2 (by decide) ?_
  refine lv_istore_n (lv' := [(2, .int (nI 0)), (1, .int (-1)), (0, .ref (L 899 0))]) hx hb dX8_greatestPart_3 rfl hl (by decide) rfl (fun ls hl => ?_)
  refine lv_iconst (v := nI 0) hx hb dX8_greatestPart_4 (by decide) ?_
  refine lv_istore_n (lv' := [(3, .int (nI 0)), (2, .int (nI 0)), (1, .int (-1)), (0, .ref (L 899 0))]) hx hb dX8_greatestPart_5 rfl hl (by decide) rfl (fun ls hl => ?_)
  refine r_loop (ι := Int32 × Int32 × Nat) (fun (⟨g9, w9, n9⟩ : Int32 × Int32 × Nat) => [(0, .ref (L 899 0)), (1, .int g9), (2, .int w9), (3, .int (nI n9))]) (fun (⟨g9, w9, n9⟩ : Int32 × Int32 × Nat) => σ) (fun (⟨g9, w9, n9⟩ : Int32 × Int32 × Nat) => 4 - n9) (fun (⟨g9, w9, n9⟩ : Int32 × Int32 × Nat) => k_gp (σ.2.2.2 807 0) 4 0 (-1) (nI 0) = k_gp (σ.2.2.2 807 0) (4 - n9) n9 g9 w9 ∧ n9 ≤ 4) ((-1), nI 0, 0) (⟨rfl, Nat.zero_le _⟩) hG hS (lv_sub hl [3, 2, 1, 0] rfl) ?_
  rintro ⟨g9, w9, n9⟩ hinv ih H locs ls hG hS hl
  have hG : PW D cI cZ cO (cdom σ) L σ ow H := hG
  have hl : lv_has ls 4 [(0, .ref (L 899 0)), (1, .int g9), (2, .int w9), (3, .int (nI n9))] := hl
  obtain ⟨hv, hk⟩ := hinv
  refine lv_iload_n hx hb dX8_greatestPart_6 rfl (lv_at hl 3 rfl) ?_
  refine lv_aload_n hx hb dX8_greatestPart_7 rfl (lv_at hl 0 rfl) ?_
  refine gt_X8_35 X hK hG (cd_fix (by decide)) dX8_greatestPart_8 ?_
  refine pw_alen X hK hG 807 (Or.inr fa_807) (cd_fix (by decide)) (N := 4) rfl dX8_greatestPart_11 ?_
  refine r_icmp_geN (tgt := 46) hx hb dX8_greatestPart_12 (by decide) (by omega) (by decide) (fun c_12 => ?_) (fun c_12 => ?_)
  · refine lv_iload_n hx hb dX8_greatestPart_46 rfl (lv_at hl 1 rfl) ?_
    exact rm_ret hx hb hr hlocks hG hS (by rw [hv, show 4 - n9 = 0 by omega]; rfl) (rfl) rfl dX8_greatestPart_47
  · refine lv_aload_n hx hb dX8_greatestPart_15 rfl (lv_at hl 0 rfl) ?_
    refine gt_X8_35 X hK hG (cd_fix (by decide)) dX8_greatestPart_16 ?_
    refine lv_iload_n hx hb dX8_greatestPart_19 rfl (lv_at hl 3 rfl) ?_
    refine al_807 X hK hG (cd_fix (by decide)) (i := n9) (x := σ.2.2.2 807 0 n9) (by omega) rfl dX8_greatestPart_20 ?_
    refine r_abs X hl.1 ml_X8_404 (Nat.le_of_ble_eq_true rfl) (Nat.le_of_ble_eq_true rfl) (Nat.le_of_ble_eq_true rfl) (Nat.le_of_ble_eq_true rfl) dX8_greatestPart_21 ?_
    refine lv_iload_n hx hb dX8_greatestPart_24 rfl (lv_at hl 2 rfl) ?_
    refine lv_icmp_le (tgt := 40) hx hb dX8_greatestPart_25 (by decide) (fun c_25 => ?_) (fun c_25 => ?_)
    · refine r_iincN (b := 1) (lv' := [(3, .int (nI (n9 + 1))), (0, .ref (L 899 0)), (1, .int g9), (2, .int w9)]) hx hb dX8_greatestPart_40 hl (k := 3) rfl (by decide) (by decide) rfl (fun ls hl => ?_)
      refine lv_goto (tgt := 6) hx hb dX8_greatestPart_43 (by decide) ?_
      exact ih (g9, w9, n9 + 1) (by show 4 - (n9 + 1) < 4 - n9; omega) (⟨hv.trans (by rw [show 4 - n9 = (4 - (n9 + 1)) + 1 by omega]; exact gp_y c_25), by omega⟩) H locs ls hG hS (lv_sub hl [1, 2, 3, 0] rfl)
    · refine lv_aload_n hx hb dX8_greatestPart_28 rfl (lv_at hl 0 rfl) ?_
      refine gt_X8_35 X hK hG (cd_fix (by decide)) dX8_greatestPart_29 ?_
      refine lv_iload_n hx hb dX8_greatestPart_32 rfl (lv_at hl 3 rfl) ?_
      refine al_807 X hK hG (cd_fix (by decide)) (i := n9) (x := σ.2.2.2 807 0 n9) (by omega) rfl dX8_greatestPart_33 ?_
      refine r_abs X hl.1 ml_X8_404 (Nat.le_of_ble_eq_true rfl) (Nat.le_of_ble_eq_true rfl) (Nat.le_of_ble_eq_true rfl) (Nat.le_of_ble_eq_true rfl) dX8_greatestPart_34 ?_
      refine lv_istore_n (lv' := [(2, .int (if 0 ≤ σ.2.2.2 807 0 n9 then σ.2.2.2 807 0 n9 else 0 - (σ.2.2.2 807 0 n9))), (0, .ref (L 899 0)), (1, .int g9), (3, .int (nI n9))]) hx hb dX8_greatestPart_37 rfl hl (by decide) rfl (fun ls hl => ?_)
      refine lv_iload_n hx hb dX8_greatestPart_38 rfl (lv_at hl 3 rfl) ?_
      refine lv_istore_n (lv' := [(1, .int (nI n9)), (2, .int (if 0 ≤ σ.2.2.2 807 0 n9 then σ.2.2.2 807 0 n9 else 0 - (σ.2.2.2 807 0 n9))), (0, .ref (L 899 0)), (3, .int (nI n9))]) hx hb dX8_greatestPart_39 rfl hl (by decide) rfl (fun ls hl => ?_)
      refine r_iincN (b := 1) (lv' := [(3, .int (nI (n9 + 1))), (1, .int (nI n9)), (2, .int (if 0 ≤ σ.2.2.2 807 0 n9 then σ.2.2.2 807 0 n9 else 0 - (σ.2.2.2 807 0 n9))), (0, .ref (L 899 0))]) hx hb dX8_greatestPart_40 hl (k := 3) rfl (by decide) (by decide) rfl (fun ls hl => ?_)
      refine lv_goto (tgt := 6) hx hb dX8_greatestPart_43 (by decide) ?_
      exact ih (nI n9, (if 0 ≤ σ.2.2.2 807 0 n9 then σ.2.2.2 807 0 n9 else 0 - (σ.2.2.2 807 0 n9)), n9 + 1) (by show 4 - (n9 + 1) < 4 - n9; omega) (⟨hv.trans (by rw [show 4 - n9 = (4 - (n9 + 1)) + 1 by omega]; exact gp_n c_25), by omega⟩) H locs ls hG hS (lv_sub hl [3, 1, 2, 0] rfl)
