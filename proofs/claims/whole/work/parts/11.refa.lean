/-! plain facts on ints (fa_, fb_: begun from the pasted families NUMBERS, COUNTS) -/
theorem fa_lt (a b : Int32) : a < b ↔ a.toInt < b.toInt := Int32.lt_iff_toInt_lt
theorem fa_le (a b : Int32) : a ≤ b ↔ a.toInt ≤ b.toInt := Int32.le_iff_toInt_le
theorem fa_eq (a b : Int32) : a = b ↔ a.toInt = b.toInt := Int32.toInt_inj.symm
theorem fa_of_nlt {a b : Int32} (h : ¬ a < b) : b ≤ a := by
  rw [fa_lt] at h
  rw [fa_le]
  omega
theorem fa_of_nle {a b : Int32} (h : ¬ a ≤ b) : b < a := by
  rw [fa_le] at h
  rw [fa_lt]
  omega
theorem fa_lt_le {a b : Int32} (h : a < b) (h2 : b ≤ a) : False := by
  rw [fa_lt] at h
  rw [fa_le] at h2
  omega
theorem fb_rng (x : Int32) : -2147483648 ≤ x.toInt ∧ x.toInt < 2147483648 := by
  have h1 := Int32.le_toInt x
  have h2 := Int32.toInt_lt x
  omega
theorem fb_bmod {z : Int} (h1 : -2147483648 ≤ z) (h2 : z < 2147483648) : z.bmod (2 ^ 32) = z := by
  rw [Int.bmod_def]
  omega
theorem fb_addI {x y : Int32} (h1 : -2147483648 ≤ x.toInt + y.toInt) (h2 : x.toInt + y.toInt < 2147483648) : (x + y).toInt = x.toInt + y.toInt := by
  rw [Int32.toInt_add, fb_bmod h1 h2]
theorem fb_subI {x y : Int32} (h1 : -2147483648 ≤ x.toInt - y.toInt) (h2 : x.toInt - y.toInt < 2147483648) : (x - y).toInt = x.toInt - y.toInt := by
  rw [Int32.toInt_sub, fb_bmod h1 h2]
theorem fb_mulI {x y : Int32} (h1 : -2147483648 ≤ x.toInt * y.toInt) (h2 : x.toInt * y.toInt < 2147483648) : (x * y).toInt = x.toInt * y.toInt := by
  rw [Int32.toInt_mul, fb_bmod h1 h2]
theorem fb_negI {x : Int32} (h : x.toInt ≠ -2147483648) : (-x).toInt = -x.toInt := by
  have := fb_rng x
  rw [Int32.toInt_neg, fb_bmod (by omega) (by omega)]
/-- an int that is one of 0 .. n - 1, and which -/
abbrev ix (x : Int32) (n : Nat) : Prop := 0 ≤ x.toInt ∧ x.toInt < (n : Int)
abbrev tn (x : Int32) : Nat := x.toInt.toNat
theorem ix_eq {x : Int32} {n : Nat} (h : ix x n) : x = nI (tn x) := by
  have hr := fb_rng x
  have h1 := h.1
  unfold tn
  rw [fa_eq, nI_toInt (by omega)]
  omega
theorem ix_lt {x : Int32} {n : Nat} (h : ix x n) : tn x < n := by
  have h1 := h.1
  have h2 := h.2
  unfold tn
  omega
theorem ix_nI {k n : Nat} (hk : k < 2147483648) : ix (nI k) n ↔ k < n := by
  unfold ix
  rw [nI_toInt hk]
  omega
theorem tn_nI {k : Nat} (hk : k < 2147483648) : tn (nI k) = k := by
  unfold tn
  rw [nI_toInt hk]
  omega
theorem nI_tz {k : Nat} (hk : k < 2147483648) : (nI k).toInt = (k : Int) := nI_toInt hk
/-- 'in' from 0 to n - 1 -/
theorem rg_z {v : Int32} (n : Nat) (hn : n < 2147483647) : (nI 0 ≤ v ∧ v ≤ nI n) ↔ ix v (n + 1) := by
  rw [fa_le, fa_le, nI_tz (by omega), nI_tz (by omega)]
  unfold ix
  omega
theorem rg_m {v : Int32} {n : Nat} (hn : n < 2147483648) : (nI 0 ≤ v ∧ v ≤ nI n - nI 1) ↔ ix v n := by
  have h1 : (nI n - nI 1).toInt = (n : Int) - 1 := by
    rw [fb_subI] <;> rw [nI_tz hn, nI_tz (by decide)] <;> omega
  rw [fa_le, fa_le, h1, nI_tz (by omega)]
  unfold ix
  omega
theorem rg_i {v : Int32} {a b : Int32} (A B : Int) (ha : a.toInt = A) (hb : b.toInt = B) : (a ≤ v ∧ v ≤ b) ↔ (A ≤ v.toInt ∧ v.toInt ≤ B) := by
  rw [fa_le, fa_le, ha, hb]
theorem not_not_intro9 {P : Prop} (h : P) : ¬ ¬ P := fun z => z h
/-- what 'goes' notes: 0, or which of three is wrong -/
def gcode (P1 P2 P3 : Prop) [Decidable P1] [Decidable P2] [Decidable P3] : Int32 := if P1 then (if P2 then (if P3 then nI 0 else nI 3) else nI 2) else nI 1
def m_g (P1 P2 P3 : Prop) [Decidable P1] [Decidable P2] [Decidable P3] (σ : St) : St := wI σ 944 0 (gcode P1 P2 P3)
set_option maxRecDepth 100000 in
set_option maxHeartbeats 4000000 in
theorem c_X9_in {D : va_G} {cI cZ cO : ClassId} (l : Launch) (L : Lay) (σ : St) (ow : Nat → Prop) (v a b : Int32) : RM D cI cZ cO rdom l yX9_in cX9_in 3 ((some FieldType.boolean)) 0 0 [.int v, .int a, .int b] L σ ow (b2i (a ≤ v ∧ v ≤ b)) σ := by
  refine rm_of rfl (Nat.le_of_ble_eq_true rfl) ?_
  intro p e s m below meth c ls X hK hG hr hlocks hl
  have X : CallFix p m c cX9_in 3 s _ TB RX9 := X
  have hx := X.1
  have hb := X.2.1
  have hS : va_S (AA ow s.heap.size) s.heap s.heap [] := va_S.rf
  have hA : ∀ q, ow q → AA ow s.heap.size q := fun _ h => Or.inl h
  have hl : lv_has ls 3 [(0, .int v), (1, .int a), (2, .int b)] := hl
  refine lv_iload_n hx hb dX9_in_0 rfl (lv_at hl 0 rfl) ?_
  refine lv_iload_n hx hb dX9_in_1 rfl (lv_at hl 1 rfl) ?_
  refine lv_icmp_lt (tgt := 14) hx hb dX9_in_2 (by decide) (fun c_2 => ?_) (fun c_2 => ?_)
  · refine lv_iconst (v := nI 0) hx hb dX9_in_14 (by decide) ?_
    exact rm_ret hx hb hr hlocks hG hS ((b2i_f (fun h => fa_lt_le c_2 h.1)).symm) (rfl) rfl dX9_in_15
  · refine lv_iload_n hx hb dX9_in_5 rfl (lv_at hl 0 rfl) ?_
    refine lv_iload_n hx hb dX9_in_6 rfl (lv_at hl 2 rfl) ?_
    refine lv_icmp_gt (tgt := 14) hx hb dX9_in_7 (by decide) (fun c_7 => ?_) (fun c_7 => ?_)
    · refine lv_iconst (v := nI 0) hx hb dX9_in_14 (by decide) ?_
      exact rm_ret hx hb hr hlocks hG hS ((b2i_f (fun h => fa_lt_le c_7 h.2)).symm) (rfl) rfl dX9_in_15
    · refine lv_iconst (v := nI 1) hx hb dX9_in_10 (by decide) ?_
      refine lv_goto (tgt := 15) hx hb dX9_in_11 (by decide) ?_
      exact rm_ret hx hb hr hlocks hG hS ((b2i_t ⟨fa_of_nlt c_2, fa_of_nlt c_7⟩).symm) (rfl) rfl dX9_in_15
set_option maxRecDepth 100000 in
set_option maxHeartbeats 4000000 in
theorem c_X9_goes {D : va_G} {cI cZ cO : ClassId} (l : Launch) (L : Lay) (σ : St) (ow : Nat → Prop) (P1 P2 P3 : Prop) [Decidable P1] [Decidable P2] [Decidable P3] : RM D cI cZ cO rdom l yX9_goes cX9_goes 4 ((some FieldType.boolean)) 0 0 [.ref (L 999 0), .int (b2i (P1)), .int (b2i (P2)), .int (b2i (P3))] L σ ow (b2i ((P1) ∧ (P2) ∧ (P3))) (m_g (P1) (P2) (P3) σ) := by
  refine rm_of rfl (Nat.le_of_ble_eq_true rfl) ?_
  intro p e s m below meth c ls X hK hG hr hlocks hl
  have X : CallFix p m c cX9_goes 4 s _ TB RX9 := X
  have hx := X.1
  have hb := X.2.1
  have hS : va_S (AA ow s.heap.size) s.heap s.heap [] := va_S.rf
  have hA : ∀ q, ow q → AA ow s.heap.size q := fun _ h => Or.inl h
  have hl : lv_has ls 4 [(0, .ref (L 999 0)), (1, .int (b2i (P1))), (2, .int (b2i (P2))), (3, .int (b2i (P3)))] := hl
  refine lv_aload_n hx hb dX9_goes_0 rfl (lv_at hl 0 rfl) ?_
  refine lv_iload_n hx hb dX9_goes_1 rfl (lv_at hl 1 rfl) ?_
  refine r_if_neB (tgt := 9) hx hb dX9_goes_2 (by decide) (fun c_2 => ?_) (fun c_2 => ?_)
  · refine lv_iload_n hx hb dX9_goes_9 rfl (lv_at hl 2 rfl) ?_
    refine r_if_neB (tgt := 17) hx hb dX9_goes_10 (by decide) (fun c_10 => ?_) (fun c_10 => ?_)
    · refine lv_iload_n hx hb dX9_goes_17 rfl (lv_at hl 3 rfl) ?_
      refine r_if_eqB (tgt := 25) hx hb dX9_goes_18 (by decide) (fun c_18 => ?_) (fun c_18 => ?_)
      · refine lv_iconst (v := nI 3) hx hb dX9_goes_25 (by decide) ?_
        refine pt_X9_107 X hK hG hS hA rd_999 dX9_goes_26 (fun H locs hG hS => ?_)
        refine lv_aload_n hx hb dX9_goes_29 rfl (lv_at hl 0 rfl) ?_
        refine gt_X9_107 X hK hG rd_999 (x := nI 3) rfl dX9_goes_30 ?_
        refine r_if_neN (tgt := 40) hx hb dX9_goes_33 (by decide) (by omega) (fun c_33 => ?_) (fun c_33 => absurd c_33 (by decide))
        refine lv_iconst (v := nI 0) hx hb dX9_goes_40 (by decide) ?_
        exact rm_ret hx hb hr hlocks hG hS ((b2i_f (fun h => c_18 h.2.2)).symm) (by unfold m_g gcode; rw [if_pos c_2, if_pos c_10, if_neg c_18]) rfl dX9_goes_41
      · refine lv_iconst (v := nI 0) hx hb dX9_goes_21 (by decide) ?_
        refine lv_goto (tgt := 26) hx hb dX9_goes_22 (by decide) ?_
        refine pt_X9_107 X hK hG hS hA rd_999 dX9_goes_26 (fun H locs hG hS => ?_)
        refine lv_aload_n hx hb dX9_goes_29 rfl (lv_at hl 0 rfl) ?_
        refine gt_X9_107 X hK hG rd_999 (x := nI 0) rfl dX9_goes_30 ?_
        refine r_if_neN (tgt := 40) hx hb dX9_goes_33 (by decide) (by omega) (fun c_33 => absurd c_33 (by decide)) (fun c_33 => ?_)
        refine lv_iconst (v := nI 1) hx hb dX9_goes_36 (by decide) ?_
        refine lv_goto (tgt := 41) hx hb dX9_goes_37 (by decide) ?_
        exact rm_ret hx hb hr hlocks hG hS ((b2i_t ⟨c_2, c_10, c_18⟩).symm) (by unfold m_g gcode; rw [if_pos c_2, if_pos c_10, if_pos c_18]) rfl dX9_goes_41
    · refine lv_iconst (v := nI 2) hx hb dX9_goes_13 (by decide) ?_
      refine lv_goto (tgt := 26) hx hb dX9_goes_14 (by decide) ?_
      refine pt_X9_107 X hK hG hS hA rd_999 dX9_goes_26 (fun H locs hG hS => ?_)
      refine lv_aload_n hx hb dX9_goes_29 rfl (lv_at hl 0 rfl) ?_
      refine gt_X9_107 X hK hG rd_999 (x := nI 2) rfl dX9_goes_30 ?_
      refine r_if_neN (tgt := 40) hx hb dX9_goes_33 (by decide) (by omega) (fun c_33 => ?_) (fun c_33 => absurd c_33 (by decide))
      refine lv_iconst (v := nI 0) hx hb dX9_goes_40 (by decide) ?_
      exact rm_ret hx hb hr hlocks hG hS ((b2i_f (fun h => c_10 h.2.1)).symm) (by unfold m_g gcode; rw [if_pos c_2, if_neg c_10]) rfl dX9_goes_41
  · refine lv_iconst (v := nI 1) hx hb dX9_goes_5 (by decide) ?_
    refine lv_goto (tgt := 26) hx hb dX9_goes_6 (by decide) ?_
    refine pt_X9_107 X hK hG hS hA rd_999 dX9_goes_26 (fun H locs hG hS => ?_)
    refine lv_aload_n hx hb dX9_goes_29 rfl (lv_at hl 0 rfl) ?_
    refine gt_X9_107 X hK hG rd_999 (x := nI 1) rfl dX9_goes_30 ?_
    refine r_if_neN (tgt := 40) hx hb dX9_goes_33 (by decide) (by omega) (fun c_33 => ?_) (fun c_33 => absurd c_33 (by decide))
    refine lv_iconst (v := nI 0) hx hb dX9_goes_40 (by decide) ?_
    exact rm_ret hx hb hr hlocks hG hS ((b2i_f (fun h => c_2 h.1)).symm) (by unfold m_g gcode; rw [if_neg c_2]) rfl dX9_goes_41
set_option maxRecDepth 100000 in
set_option maxHeartbeats 4000000 in
theorem c_X9_isProgram {D : va_G} {cI cZ cO : ClassId} (l : Launch) (L : Lay) (σ : St) (ow : Nat → Prop) (x : Int32) (hn : σ.1 904 0 < 2147483648) : RM D cI cZ cO rdom l yX9_isProgram cX9_isProgram 2 ((some FieldType.boolean)) 1 22 [.ref (L 999 0), .int x] L σ ow (b2i (ix x (σ.1 904 0))) σ := by
  refine rm_of rfl (Nat.le_of_ble_eq_true rfl) ?_
  intro p e s m below meth c ls X hK hG hr hlocks hl
  have X : CallFix p m c cX9_isProgram 2 s _ TB RX9 := X
  have hx := X.1
  have hb := X.2.1
  have hS : va_S (AA ow s.heap.size) s.heap s.heap [] := va_S.rf
  have hA : ∀ q, ow q → AA ow s.heap.size q := fun _ h => Or.inl h
  have hl : lv_has ls 2 [(0, .ref (L 999 0)), (1, .int x)] := hl
  refine lv_iload_n hx hb dX9_isProgram_0 rfl (lv_at hl 1 rfl) ?_
  refine lv_iconst (v := nI 0) hx hb dX9_isProgram_1 (by decide) ?_
  refine lv_aload_n hx hb dX9_isProgram_2 rfl (lv_at hl 0 rfl) ?_
  refine gt_X9_111 X hK hG rd_999 (x := σ.1 904 0) rfl dX9_isProgram_3 ?_
  refine lv_iconst (v := nI 1) hx hb dX9_isProgram_6 (by decide) ?_
  refine lv_isub hx hb dX9_isProgram_7 ?_
  refine rm_callS X hK hG hS ysX9_in ml_X9_114 [.int x, .int (nI 0), .int ((nI (σ.1 904 0)) - (nI 1))] [] (c_X9_in l L σ ow x (nI 0) ((nI (σ.1 904 0)) - (nI 1))) rfl hl.1 rfl (Nat.le_of_ble_eq_true rfl) ⟨Nat.le_of_ble_eq_true rfl, Nat.le_of_ble_eq_true rfl⟩ ⟨Nat.zero_le _, Nat.zero_le _⟩ dX9_isProgram_8 (fun H locs hG hS => ?_)
  refine r_top (y := b2i (ix x (σ.1 904 0))) (b2i_c (rg_m hn)) ?_
  exact rm_ret hx hb hr hlocks hG hS (rfl) (rfl) b2i_z dX9_isProgram_11
set_option maxRecDepth 100000 in
set_option maxHeartbeats 4000000 in
theorem c_X9_isTool {D : va_G} {cI cZ cO : ClassId} (l : Launch) (L : Lay) (σ : St) (ow : Nat → Prop) (x : Int32) (hn : σ.1 914 0 < 2147483648) : RM D cI cZ cO rdom l yX9_isTool cX9_isTool 2 ((some FieldType.boolean)) 1 22 [.ref (L 999 0), .int x] L σ ow (b2i (ix x (σ.1 914 0))) σ := by
  refine rm_of rfl (Nat.le_of_ble_eq_true rfl) ?_
  intro p e s m below meth c ls X hK hG hr hlocks hl
  have X : CallFix p m c cX9_isTool 2 s _ TB RX9 := X
  have hx := X.1
  have hb := X.2.1
  have hS : va_S (AA ow s.heap.size) s.heap s.heap [] := va_S.rf
  have hA : ∀ q, ow q → AA ow s.heap.size q := fun _ h => Or.inl h
  have hl : lv_has ls 2 [(0, .ref (L 999 0)), (1, .int x)] := hl
  refine lv_iload_n hx hb dX9_isTool_0 rfl (lv_at hl 1 rfl) ?_
  refine lv_iconst (v := nI 0) hx hb dX9_isTool_1 (by decide) ?_
  refine lv_aload_n hx hb dX9_isTool_2 rfl (lv_at hl 0 rfl) ?_
  refine gt_X9_118 X hK hG rd_999 (x := σ.1 914 0) rfl dX9_isTool_3 ?_
  refine lv_iconst (v := nI 1) hx hb dX9_isTool_6 (by decide) ?_
  refine lv_isub hx hb dX9_isTool_7 ?_
  refine rm_callS X hK hG hS ysX9_in ml_X9_114 [.int x, .int (nI 0), .int ((nI (σ.1 914 0)) - (nI 1))] [] (c_X9_in l L σ ow x (nI 0) ((nI (σ.1 914 0)) - (nI 1))) rfl hl.1 rfl (Nat.le_of_ble_eq_true rfl) ⟨Nat.le_of_ble_eq_true rfl, Nat.le_of_ble_eq_true rfl⟩ ⟨Nat.zero_le _, Nat.zero_le _⟩ dX9_isTool_8 (fun H locs hG hS => ?_)
  refine r_top (y := b2i (ix x (σ.1 914 0))) (b2i_c (rg_m hn)) ?_
  exact rm_ret hx hb hr hlocks hG hS (rfl) (rfl) b2i_z dX9_isTool_11
set_option maxRecDepth 100000 in
set_option maxHeartbeats 4000000 in
theorem c_X9_isPallet {D : va_G} {cI cZ cO : ClassId} (l : Launch) (L : Lay) (σ : St) (ow : Nat → Prop) (x : Int32) (hn : σ.1 924 0 < 2147483648) : RM D cI cZ cO rdom l yX9_isPallet cX9_isPallet 2 ((some FieldType.boolean)) 1 22 [.ref (L 999 0), .int x] L σ ow (b2i (ix x (σ.1 924 0))) σ := by
  refine rm_of rfl (Nat.le_of_ble_eq_true rfl) ?_
  intro p e s m below meth c ls X hK hG hr hlocks hl
  have X : CallFix p m c cX9_isPallet 2 s _ TB RX9 := X
  have hx := X.1
  have hb := X.2.1
  have hS : va_S (AA ow s.heap.size) s.heap s.heap [] := va_S.rf
  have hA : ∀ q, ow q → AA ow s.heap.size q := fun _ h => Or.inl h
  have hl : lv_has ls 2 [(0, .ref (L 999 0)), (1, .int x)] := hl
  refine lv_iload_n hx hb dX9_isPallet_0 rfl (lv_at hl 1 rfl) ?_
  refine lv_iconst (v := nI 0) hx hb dX9_isPallet_1 (by decide) ?_
  refine lv_aload_n hx hb dX9_isPallet_2 rfl (lv_at hl 0 rfl) ?_
  refine gt_X9_121 X hK hG rd_999 (x := σ.1 924 0) rfl dX9_isPallet_3 ?_
  refine lv_iconst (v := nI 1) hx hb dX9_isPallet_6 (by decide) ?_
  refine lv_isub hx hb dX9_isPallet_7 ?_
  refine rm_callS X hK hG hS ysX9_in ml_X9_114 [.int x, .int (nI 0), .int ((nI (σ.1 924 0)) - (nI 1))] [] (c_X9_in l L σ ow x (nI 0) ((nI (σ.1 924 0)) - (nI 1))) rfl hl.1 rfl (Nat.le_of_ble_eq_true rfl) ⟨Nat.le_of_ble_eq_true rfl, Nat.le_of_ble_eq_true rfl⟩ ⟨Nat.zero_le _, Nat.zero_le _⟩ dX9_isPallet_8 (fun H locs hG hS => ?_)
  refine r_top (y := b2i (ix x (σ.1 924 0))) (b2i_c (rg_m hn)) ?_
  exact rm_ret hx hb hr hlocks hG hS (rfl) (rfl) b2i_z dX9_isPallet_11
set_option maxRecDepth 100000 in
set_option maxHeartbeats 4000000 in
theorem c_X9_isDrawing {D : va_G} {cI cZ cO : ClassId} (l : Launch) (L : Lay) (σ : St) (ow : Nat → Prop) (x : Int32) (hn : σ.1 932 0 < 2147483648) : RM D cI cZ cO rdom l yX9_isDrawing cX9_isDrawing 2 ((some FieldType.boolean)) 1 22 [.ref (L 999 0), .int x] L σ ow (b2i (ix x (σ.1 932 0))) σ := by
  refine rm_of rfl (Nat.le_of_ble_eq_true rfl) ?_
  intro p e s m below meth c ls X hK hG hr hlocks hl
  have X : CallFix p m c cX9_isDrawing 2 s _ TB RX9 := X
  have hx := X.1
  have hb := X.2.1
  have hS : va_S (AA ow s.heap.size) s.heap s.heap [] := va_S.rf
  have hA : ∀ q, ow q → AA ow s.heap.size q := fun _ h => Or.inl h
  have hl : lv_has ls 2 [(0, .ref (L 999 0)), (1, .int x)] := hl
  refine lv_iload_n hx hb dX9_isDrawing_0 rfl (lv_at hl 1 rfl) ?_
  refine lv_iconst (v := nI 0) hx hb dX9_isDrawing_1 (by decide) ?_
  refine lv_aload_n hx hb dX9_isDrawing_2 rfl (lv_at hl 0 rfl) ?_
  refine gt_X9_124 X hK hG rd_999 (x := σ.1 932 0) rfl dX9_isDrawing_3 ?_
  refine lv_iconst (v := nI 1) hx hb dX9_isDrawing_6 (by decide) ?_
  refine lv_isub hx hb dX9_isDrawing_7 ?_
  refine rm_callS X hK hG hS ysX9_in ml_X9_114 [.int x, .int (nI 0), .int ((nI (σ.1 932 0)) - (nI 1))] [] (c_X9_in l L σ ow x (nI 0) ((nI (σ.1 932 0)) - (nI 1))) rfl hl.1 rfl (Nat.le_of_ble_eq_true rfl) ⟨Nat.le_of_ble_eq_true rfl, Nat.le_of_ble_eq_true rfl⟩ ⟨Nat.zero_le _, Nat.zero_le _⟩ dX9_isDrawing_8 (fun H locs hG hS => ?_)
  refine r_top (y := b2i (ix x (σ.1 932 0))) (b2i_c (rg_m hn)) ?_
  exact rm_ret hx hb hr hlocks hG hS (rfl) (rfl) b2i_z dX9_isDrawing_11
set_option maxRecDepth 100000 in
set_option maxHeartbeats 4000000 in
theorem c_X9_isGauge {D : va_G} {cI cZ cO : ClassId} (l : Launch) (L : Lay) (σ : St) (ow : Nat → Prop) (x : Int32) : RM D cI cZ cO rdom l yX9_isGauge cX9_isGauge 1 ((some FieldType.boolean)) 1 22 [.int x] L σ ow (b2i (ix x 4)) σ := by
  refine rm_of rfl (Nat.le_of_ble_eq_true rfl) ?_
  intro p e s m below meth c ls X hK hG hr hlocks hl
  have X : CallFix p m c cX9_isGauge 1 s _ TB RX9 := X
  have hx := X.1
  have hb := X.2.1
  have hS : va_S (AA ow s.heap.size) s.heap s.heap [] := va_S.rf
  have hA : ∀ q, ow q → AA ow s.heap.size q := fun _ h => Or.inl h
  have hl : lv_has ls 1 [(0, .int x)] := hl
  refine lv_iload_n hx hb dX9_isGauge_0 rfl (lv_at hl 0 rfl) ?_
  refine lv_iconst (v := nI 0) hx hb dX9_isGauge_1 (by decide) ?_
  refine lv_iconst (v := nI 3) hx hb dX9_isGauge_2 (by decide) ?_
  refine rm_callS X hK hG hS ysX9_in ml_X9_114 [.int x, .int (nI 0), .int (nI 3)] [] (c_X9_in l L σ ow x (nI 0) (nI 3)) rfl hl.1 rfl (Nat.le_of_ble_eq_true rfl) ⟨Nat.le_of_ble_eq_true rfl, Nat.le_of_ble_eq_true rfl⟩ ⟨Nat.zero_le _, Nat.zero_le _⟩ dX9_isGauge_3 (fun H locs hG hS => ?_)
  refine r_top (y := b2i (ix x 4)) (b2i_c (rg_z 3 (by decide))) ?_
  exact rm_ret hx hb hr hlocks hG hS (rfl) (rfl) b2i_z dX9_isGauge_6
set_option maxRecDepth 100000 in
set_option maxHeartbeats 4000000 in
theorem c_X9_isCell {D : va_G} {cI cZ cO : ClassId} (l : Launch) (L : Lay) (σ : St) (ow : Nat → Prop) (x y : Int32) : RM D cI cZ cO rdom l yX9_isCell cX9_isCell 2 ((some FieldType.boolean)) 1 22 [.int x, .int y] L σ ow (b2i (ix x 12 ∧ ix y 12)) σ := by
  refine rm_of rfl (Nat.le_of_ble_eq_true rfl) ?_
  intro p e s m below meth c ls X hK hG hr hlocks hl
  have X : CallFix p m c cX9_isCell 2 s _ TB RX9 := X
  have hx := X.1
  have hb := X.2.1
  have hS : va_S (AA ow s.heap.size) s.heap s.heap [] := va_S.rf
  have hA : ∀ q, ow q → AA ow s.heap.size q := fun _ h => Or.inl h
  have hl : lv_has ls 2 [(0, .int x), (1, .int y)] := hl
  refine lv_iload_n hx hb dX9_isCell_0 rfl (lv_at hl 0 rfl) ?_
  refine lv_iconst (v := nI 0) hx hb dX9_isCell_1 (by decide) ?_
  refine lv_bipush (v := nI 11) hx hb dX9_isCell_2 (by decide) ?_
  refine rm_callS X hK hG hS ysX9_in ml_X9_114 [.int x, .int (nI 0), .int (nI 11)] [] (c_X9_in l L σ ow x (nI 0) (nI 11)) rfl hl.1 rfl (Nat.le_of_ble_eq_true rfl) ⟨Nat.le_of_ble_eq_true rfl, Nat.le_of_ble_eq_true rfl⟩ ⟨Nat.zero_le _, Nat.zero_le _⟩ dX9_isCell_4 (fun H locs hG hS => ?_)
  refine r_top (y := b2i (ix x 12)) (b2i_c (rg_z 11 (by decide))) ?_
  refine r_if_eqB (tgt := 24) hx hb dX9_isCell_7 (by decide) (fun c_7 => ?_) (fun c_7 => ?_)
  · refine lv_iconst (v := nI 0) hx hb dX9_isCell_24 (by decide) ?_
    exact rm_ret hx hb hr hlocks hG hS ((b2i_f (fun h => c_7 h.1)).symm) (rfl) rfl dX9_isCell_25
  · refine lv_iload_n hx hb dX9_isCell_10 rfl (lv_at hl 1 rfl) ?_
    refine lv_iconst (v := nI 0) hx hb dX9_isCell_11 (by decide) ?_
    refine lv_bipush (v := nI 11) hx hb dX9_isCell_12 (by decide) ?_
    refine rm_callS X hK hG hS ysX9_in ml_X9_114 [.int y, .int (nI 0), .int (nI 11)] [] (c_X9_in l L σ ow y (nI 0) (nI 11)) rfl hl.1 rfl (Nat.le_of_ble_eq_true rfl) ⟨Nat.le_of_ble_eq_true rfl, Nat.le_of_ble_eq_true rfl⟩ ⟨Nat.zero_le _, Nat.zero_le _⟩ dX9_isCell_14 (fun H locs hG hS => ?_)
    refine r_top (y := b2i (ix y 12)) (b2i_c (rg_z 11 (by decide))) ?_
    refine r_if_eqB (tgt := 24) hx hb dX9_isCell_17 (by decide) (fun c_17 => ?_) (fun c_17 => ?_)
    · refine lv_iconst (v := nI 0) hx hb dX9_isCell_24 (by decide) ?_
      exact rm_ret hx hb hr hlocks hG hS ((b2i_f (fun h => c_17 h.2)).symm) (rfl) rfl dX9_isCell_25
    · refine lv_iconst (v := nI 1) hx hb dX9_isCell_20 (by decide) ?_
      refine lv_goto (tgt := 25) hx hb dX9_isCell_21 (by decide) ?_
      exact rm_ret hx hb hr hlocks hG hS ((b2i_t ⟨c_7, c_17⟩).symm) (rfl) rfl dX9_isCell_25
def isz (v : Int32) : Int32 := if v < 0 then -v else v
set_option maxRecDepth 100000 in
set_option maxHeartbeats 4000000 in
theorem c_X9_size {D : va_G} {cI cZ cO : ClassId} (l : Launch) (L : Lay) (σ : St) (ow : Nat → Prop) (v : Int32) : RM D cI cZ cO rdom l yX9_size cX9_size 1 ((some FieldType.int)) 0 0 [.int v] L σ ow (isz v) σ := by
  refine rm_of rfl (Nat.le_of_ble_eq_true rfl) ?_
  intro p e s m below meth c ls X hK hG hr hlocks hl
  have X : CallFix p m c cX9_size 1 s _ TB RX9 := X
  have hx := X.1
  have hb := X.2.1
  have hS : va_S (AA ow s.heap.size) s.heap s.heap [] := va_S.rf
  have hA : ∀ q, ow q → AA ow s.heap.size q := fun _ h => Or.inl h
  have hl : lv_has ls 1 [(0, .int v)] := hl
  refine lv_iload_n hx hb dX9_size_0 rfl (lv_at hl 0 rfl) ?_
  refine lv_if_ge (tgt := 9) hx hb dX9_size_1 (by decide) (fun c_1 => ?_) (fun c_1 => ?_)
  · refine lv_iload_n hx hb dX9_size_9 rfl (lv_at hl 0 rfl) ?_
    exact rm_ret hx hb hr hlocks hG hS (by unfold isz; rw [if_neg (fun z => fa_lt_le z c_1)]) (rfl) rfl dX9_size_10
  · refine lv_iload_n hx hb dX9_size_4 rfl (lv_at hl 0 rfl) ?_
    refine lv_ineg hx hb dX9_size_5 ?_
    refine lv_goto (tgt := 10) hx hb dX9_size_6 (by decide) ?_
    exact rm_ret hx hb hr hlocks hG hS (by unfold isz; rw [if_pos (fa_of_nle c_1)]) (rfl) rfl dX9_size_10
set_option maxRecDepth 100000 in
set_option maxHeartbeats 4000000 in
theorem c_X9_thrown {D : va_G} {cI cZ cO : ClassId} (l : Launch) (L : Lay) (σ : St) (ow : Nat → Prop) : RM D cI cZ cO rdom l yX9_thrown cX9_thrown 1 ((some FieldType.int)) 0 0 [.ref (L 999 0)] L σ ow (σ.2.1 944 0) σ := by
  refine rm_of rfl (Nat.le_of_ble_eq_true rfl) ?_
  intro p e s m below meth c ls X hK hG hr hlocks hl
  have X : CallFix p m c cX9_thrown 1 s _ TB RX9 := X
  have hx := X.1
  have hb := X.2.1
  have hS : va_S (AA ow s.heap.size) s.heap s.heap [] := va_S.rf
  have hA : ∀ q, ow q → AA ow s.heap.size q := fun _ h => Or.inl h
  have hl : lv_has ls 1 [(0, .ref (L 999 0))] := hl
  refine lv_aload_n hx hb dX9_thrown_0 rfl (lv_at hl 0 rfl) ?_
  refine gt_X9_107 X hK hG rd_999 (x := σ.2.1 944 0) rfl dX9_thrown_1 ?_
  exact rm_ret hx hb hr hlocks hG hS (rfl) (rfl) rfl dX9_thrown_4
set_option maxRecDepth 100000 in
set_option maxHeartbeats 4000000 in
theorem c_X9_minute {D : va_G} {cI cZ cO : ClassId} (l : Launch) (L : Lay) (σ : St) (ow : Nat → Prop) : RM D cI cZ cO rdom l yX9_minute cX9_minute 1 ((some FieldType.int)) 0 0 [.ref (L 999 0)] L σ ow (nI (σ.1 900 0)) (wI σ 944 0 (nI 0)) := by
  refine rm_of rfl (Nat.le_of_ble_eq_true rfl) ?_
  intro p e s m below meth c ls X hK hG hr hlocks hl
  have X : CallFix p m c cX9_minute 1 s _ TB RX9 := X
  have hx := X.1
  have hb := X.2.1
  have hS : va_S (AA ow s.heap.size) s.heap s.heap [] := va_S.rf
  have hA : ∀ q, ow q → AA ow s.heap.size q := fun _ h => Or.inl h
  have hl : lv_has ls 1 [(0, .ref (L 999 0))] := hl
  refine lv_aload_n hx hb dX9_minute_0 rfl (lv_at hl 0 rfl) ?_
  refine lv_iconst (v := nI 0) hx hb dX9_minute_1 (by decide) ?_
  refine pt_X9_107 X hK hG hS hA rd_999 dX9_minute_2 (fun H locs hG hS => ?_)
  refine lv_aload_n hx hb dX9_minute_5 rfl (lv_at hl 0 rfl) ?_
  refine gt_X9_158 X hK hG rd_999 (x := σ.1 900 0) rfl dX9_minute_6 ?_
  exact rm_ret hx hb hr hlocks hG hS (rfl) (rfl) rfl dX9_minute_9
set_option maxRecDepth 100000 in
set_option maxHeartbeats 4000000 in
theorem c_X9_warmth {D : va_G} {cI cZ cO : ClassId} (l : Launch) (L : Lay) (σ : St) (ow : Nat → Prop) : RM D cI cZ cO rdom l yX9_warmth cX9_warmth 1 ((some FieldType.int)) 0 0 [.ref (L 999 0)] L σ ow (nI (σ.1 901 0)) (wI σ 944 0 (nI 0)) := by
  refine rm_of rfl (Nat.le_of_ble_eq_true rfl) ?_
  intro p e s m below meth c ls X hK hG hr hlocks hl
  have X : CallFix p m c cX9_warmth 1 s _ TB RX9 := X
  have hx := X.1
  have hb := X.2.1
  have hS : va_S (AA ow s.heap.size) s.heap s.heap [] := va_S.rf
  have hA : ∀ q, ow q → AA ow s.heap.size q := fun _ h => Or.inl h
  have hl : lv_has ls 1 [(0, .ref (L 999 0))] := hl
  refine lv_aload_n hx hb dX9_warmth_0 rfl (lv_at hl 0 rfl) ?_
  refine lv_iconst (v := nI 0) hx hb dX9_warmth_1 (by decide) ?_
  refine pt_X9_107 X hK hG hS hA rd_999 dX9_warmth_2 (fun H locs hG hS => ?_)
  refine lv_aload_n hx hb dX9_warmth_5 rfl (lv_at hl 0 rfl) ?_
  refine gt_X9_155 X hK hG rd_999 (x := σ.1 901 0) rfl dX9_warmth_6 ?_
  exact rm_ret hx hb hr hlocks hG hS (rfl) (rfl) rfl dX9_warmth_9
def m_program (σ : St) : Int32 × St := if (σ.1 904 0 < 6) ∧ (True) ∧ (True) then (nI (((σ.1 904 0) + 1) - 1), (wN (m_g (σ.1 904 0 < 6) (True) (True) σ) 904 0 ((σ.1 904 0) + 1))) else (nI 0, (m_g (σ.1 904 0 < 6) (True) (True) σ))
set_option maxRecDepth 100000 in
set_option maxHeartbeats 4000000 in
theorem c_X9_program {D : va_G} {cI cZ cO : ClassId} (l : Launch) (L : Lay) (σ : St) (ow : Nat → Prop) (h0 : σ.1 904 0 < 2147483648) : RM D cI cZ cO rdom l yX9_program cX9_program 1 ((some FieldType.int)) 1 23 [.ref (L 999 0)] L σ ow ((m_program σ).1) ((m_program σ).2) := by
  refine rm_of rfl (Nat.le_of_ble_eq_true rfl) ?_
  intro p e s m below meth c ls X hK hG hr hlocks hl
  have X : CallFix p m c cX9_program 1 s _ TB RX9 := X
  have hx := X.1
  have hb := X.2.1
  have hS : va_S (AA ow s.heap.size) s.heap s.heap [] := va_S.rf
  have hA : ∀ q, ow q → AA ow s.heap.size q := fun _ h => Or.inl h
  have hl : lv_has ls 1 [(0, .ref (L 999 0))] := hl
  refine lv_aload_n hx hb dX9_program_0 rfl (lv_at hl 0 rfl) ?_
  refine r_cut 15 [.int (b2i (σ.1 904 0 < 6)), .ref (L 999 0)] ?_ (fun J_15 => ?_)
  · refine lv_iconst (v := nI 1) hx hb dX9_program_15 (by decide) ?_
    refine lv_iconst (v := nI 1) hx hb dX9_program_16 (by decide) ?_
    refine rm_callV X hK hG hS yvX9_goes ml_X9_127 kX9 rfl rd_999 [.int (b2i (σ.1 904 0 < 6)), .int (nI 1), .int (nI 1)] [] (c_X9_goes l L σ ow (σ.1 904 0 < 6) (True) (True)) rfl hl.1 rfl (Nat.le_of_ble_eq_true rfl) ⟨Nat.le_of_ble_eq_true rfl, Nat.le_of_ble_eq_true rfl⟩ ⟨Nat.zero_le _, Nat.zero_le _⟩ dX9_program_17 (fun H locs hG hS => ?_)
    refine r_if_neB (tgt := 25) hx hb dX9_program_20 (by decide) (fun c_20 => ?_) (fun c_20 => ?_)
    · refine lv_aload_n hx hb dX9_program_25 rfl (lv_at hl 0 rfl) ?_
      refine lv_dup hx hb dX9_program_26 rfl ?_
      refine gt_X9_111 X hK hG rd_999 (x := σ.1 904 0) rfl dX9_program_27 ?_
      refine lv_iconst (v := nI 1) hx hb dX9_program_30 (by decide) ?_
      refine r_addN hx hb dX9_program_31 ?_
      refine pt_X9_111 X hK hG hS hA rd_999 dX9_program_32 (fun H locs hG hS => ?_)
      refine lv_aload_n hx hb dX9_program_35 rfl (lv_at hl 0 rfl) ?_
      refine gt_X9_111 X hK hG rd_999 (x := (σ.1 904 0) + 1) rfl dX9_program_36 ?_
      refine lv_iconst (v := nI 1) hx hb dX9_program_39 (by decide) ?_
      refine r_subN hx hb (Nat.le_add_left 1 _) dX9_program_40 ?_
      exact rm_ret hx hb hr hlocks hG hS (by unfold m_program; rw [if_pos c_20]) (by unfold m_program; rw [if_pos c_20]) rfl dX9_program_41
    · refine lv_iconst (v := nI 0) hx hb dX9_program_23 (by decide) ?_
      exact rm_ret hx hb hr hlocks hG hS (by unfold m_program; rw [if_neg c_20]) (by unfold m_program; rw [if_neg c_20]) rfl dX9_program_24
  · refine lv_aload_n hx hb dX9_program_1 rfl (lv_at hl 0 rfl) ?_
    refine gt_X9_111 X hK hG rd_999 (x := σ.1 904 0) rfl dX9_program_2 ?_
    refine lv_bipush (v := nI 6) hx hb dX9_program_5 (by decide) ?_
    refine r_icmp_geN (tgt := 14) hx hb dX9_program_7 (by decide) (by omega) (by omega) (fun c_7 => ?_) (fun c_7 => ?_)
    · refine lv_iconst (v := nI 0) hx hb dX9_program_14 (by decide) ?_
      exact r_top ((b2i_f (fun h => by have h9 := h; first | exact c_7 h9 | exact h9 c_7 | omega)).symm) J_15
    · refine lv_iconst (v := nI 1) hx hb dX9_program_10 (by decide) ?_
      refine lv_goto (tgt := 15) hx hb dX9_program_11 (by decide) ?_
      exact r_top ((b2i_t (by first | exact c_7 | omega)).symm) J_15
