theorem lj_ne (j : Nat) (h : j < 8) : lj j ≠ 7 := by
  rcases (by omega : j = 0 ∨ j = 1 ∨ j = 2 ∨ j = 3 ∨ j = 4 ∨ j = 5 ∨ j = 6 ∨ j = 7) with rfl | rfl | rfl | rfl | rfl | rfl | rfl | rfl <;> decide
theorem ci_clr {σ : St} (h : CI σ) : CI (lclr 7 σ) := by
  have h2 : ∀ j, j ≠ 7 → (lclr 7 σ).1 1002 j = σ.1 1002 j := fun j e => ((lclr_off 7 (fun _ _ => 0) σ).1 1002 j (fun z => e z.2)).1
  have h3 : ∀ j, (lclr 7 σ).1 1003 j = σ.1 1003 j := fun j => by
    by_cases e : j = 7
    · rw [e]; exact lclr_C 7 σ
    · exact ((lclr_off 7 (fun _ _ => 0) σ).1 1003 j (fun z => e z.2)).1
  refine ⟨fun j hj => ?_, fun j hj i hi => ?_⟩
  · obtain ⟨a, b, d⟩ := h.1 j hj
    rw [h3]
    refine ⟨?_, b, d⟩
    by_cases e : j = 7
    · rw [e, lclr_N]; exact Nat.zero_le _
    · rw [h2 j e]; exact a
  · by_cases e : j = 7
    · rw [e, lclr_N] at hi
      exact absurd hi (Nat.not_lt_zero _)
    · rw [h2 j e] at hi
      rw [h2 _ (lj_ne j hj)]
      exact h.2 j hj i hi
def k_beg (v : Int32) (σ : St) : St := k_ent v (wI (wI (wI (wI (wN (wN (wN (wA (wA (wA (lclr 7 σ) 703 0 0 0) 703 0 1 0) 703 0 2 9) 704 0 0) 705 0 0) 706 0 0) 707 0 (nI 0)) 708 0 (nI 0)) 709 0 (-1)) 710 0 (nI 0))
set_option maxHeartbeats 4000000 in
theorem x_X7_begin {D : va_G} {cI cZ cO : ClassId} {t0 mi : Nat} (l : Launch) (L : Lay) (σ : St) (ow : Nat → Prop) (v : Int32) (hI : CI σ) : XV D cI cZ cO t0 mi l yX7_begin cX7_begin 2 9 330 (nd σ) (10 * nd σ) [.ref (L 799 0), .int v] L σ ow (k_beg v σ) := by
  refine x_of (Qc := fun sz => XQv D cI cZ cO t0 L σ ow sz (k_beg v σ)) rfl (Nat.le_of_ble_eq_true rfl) ?_
  intro p e s m9 args below meth c ls X hK hC hE hr hlocks hl
  have X : CallFix p m9 c cX7_begin 2 s _ TB RX7 := X
  have hx := X.1
  have hb := X.2.1
  have hS : va_S (AA ow s.heap.size) s.heap s.heap [] := va_S.rf
  have hA : ∀ q, ow q → AA ow s.heap.size q := fun _ h => Or.inl h
  have hG := hC.1
  have hl : lv_has ls 2 [(0, .ref (L 799 0)), (1, .int v)] := hl
  have h799 : cdom σ 799 0 := cd_fix (by decide)
  have h703 : cdom σ 703 0 := cd_fix (by decide)
  refine lv_aload_n hx hb dX7_begin_0 rfl (lv_at hl 0 rfl) ?_
  refine gt_X7_18 X hK hG h799 dX7_begin_1 ?_
  refine pw_clr X hK hG hS (fun _ h => h) hE (j := 7) (lok_of hC hI (by decide)) ml_X7_28 hl.1 (Nat.le_of_ble_eq_true rfl) ⟨Nat.le_of_ble_eq_true rfl, Nat.le_of_ble_eq_true rfl⟩ ⟨Nat.zero_le _, Nat.zero_le _⟩ dX7_begin_4 (fun H locs hG hS => ?_)
  refine lv_aload_n hx hb dX7_begin_7 rfl (lv_at hl 0 rfl) ?_
  refine gt_X7_25 X hK hG h799 dX7_begin_8 ?_
  refine lv_iconst (v := nI 0) hx hb dX7_begin_11 (by decide) ?_
  refine lv_iconst (v := nI 0) hx hb dX7_begin_12 (by decide) ?_
  refine as_703 X hK hG hS hA h703 (i := 0) (by decide) dX7_begin_13 (fun H locs hG hS => ?_)
  refine lv_aload_n hx hb dX7_begin_14 rfl (lv_at hl 0 rfl) ?_
  refine gt_X7_25 X hK hG h799 dX7_begin_15 ?_
  refine lv_iconst (v := nI 1) hx hb dX7_begin_18 (by decide) ?_
  refine lv_iconst (v := nI 0) hx hb dX7_begin_19 (by decide) ?_
  refine as_703 X hK hG hS hA h703 (i := 1) (by decide) dX7_begin_20 (fun H locs hG hS => ?_)
  refine lv_aload_n hx hb dX7_begin_21 rfl (lv_at hl 0 rfl) ?_
  refine gt_X7_25 X hK hG h799 dX7_begin_22 ?_
  refine lv_iconst (v := nI 2) hx hb dX7_begin_25 (by decide) ?_
  refine lv_bipush (v := nI 9) hx hb dX7_begin_26 (by decide) ?_
  refine as_703 X hK hG hS hA h703 (i := 2) (by decide) dX7_begin_28 (fun H locs hG hS => ?_)
  refine lv_aload_n hx hb dX7_begin_29 rfl (lv_at hl 0 rfl) ?_
  refine lv_iconst (v := nI 0) hx hb dX7_begin_30 (by decide) ?_
  refine pt_X7_31 X hK hG hS hA h799 dX7_begin_31 (fun H locs hG hS => ?_)
  refine lv_aload_n hx hb dX7_begin_34 rfl (lv_at hl 0 rfl) ?_
  refine lv_iconst (v := nI 0) hx hb dX7_begin_35 (by decide) ?_
  refine pt_X7_35 X hK hG hS hA h799 dX7_begin_36 (fun H locs hG hS => ?_)
  refine lv_aload_n hx hb dX7_begin_39 rfl (lv_at hl 0 rfl) ?_
  refine lv_iconst (v := nI 0) hx hb dX7_begin_40 (by decide) ?_
  refine pt_X7_38 X hK hG hS hA h799 dX7_begin_41 (fun H locs hG hS => ?_)
  refine lv_aload_n hx hb dX7_begin_44 rfl (lv_at hl 0 rfl) ?_
  refine lv_iconst (v := nI 0) hx hb dX7_begin_45 (by decide) ?_
  refine pt_X7_41 X hK hG hS hA h799 (Or.inl rfl) dX7_begin_46 (fun H locs hG hS => ?_)
  refine lv_aload_n hx hb dX7_begin_49 rfl (lv_at hl 0 rfl) ?_
  refine lv_iconst (v := nI 0) hx hb dX7_begin_50 (by decide) ?_
  refine pt_X7_45 X hK hG hS hA h799 (Or.inl rfl) dX7_begin_51 (fun H locs hG hS => ?_)
  refine lv_aload_n hx hb dX7_begin_54 rfl (lv_at hl 0 rfl) ?_
  refine lv_iconst (v := (-1)) hx hb dX7_begin_55 (by decide) ?_
  refine pt_X7_48 X hK hG hS hA h799 dX7_begin_56 (fun H locs hG hS => ?_)
  refine lv_aload_n hx hb dX7_begin_59 rfl (lv_at hl 0 rfl) ?_
  refine lv_iconst (v := nI 0) hx hb dX7_begin_60 (by decide) ?_
  refine pt_X7_51 X hK hG hS hA h799 dX7_begin_61 (fun H locs hG hS => ?_)
  refine lv_aload_n hx hb dX7_begin_64 rfl (lv_at hl 0 rfl) ?_
  refine lv_iload_n hx hb dX7_begin_65 rfl (lv_at hl 1 rfl) ?_
  have e2 : ∀ j, j ≠ 2 → j ≠ 7 → (lclr 7 σ).1 1002 j = σ.1 1002 j := fun j _ e => ((lclr_off 7 (fun _ _ => 0) σ).1 1002 j (fun z => e z.2)).1
  have e3 : ∀ j, (lclr 7 σ).1 1003 j = σ.1 1003 j := fun j => by
    by_cases e : j = 7
    · rw [e]; exact lclr_C 7 σ
    · exact ((lclr_off 7 (fun _ _ => 0) σ).1 1003 j (fun z => e z.2)).1
  have ec : cdom (wI (wI (wI (wI (wN (wN (wN (wA (wA (wA (lclr 7 σ) 703 0 0 0) 703 0 1 0) 703 0 2 9) 704 0 0) 705 0 0) 706 0 0) 707 0 (nI 0)) 708 0 (nI 0)) 709 0 (-1)) 710 0 (nI 0)) = cdom σ := cdom_eq2 (σ := σ) e2 e3
  have hG : PW D cI cZ cO (cdom σ) L (wI (wI (wI (wI (wN (wN (wN (wA (wA (wA (lclr 7 σ) 703 0 0 0) 703 0 1 0) 703 0 2 9) 704 0 0) 705 0 0) 706 0 0) 707 0 (nI 0)) 708 0 (nI 0)) 709 0 (-1)) 710 0 (nI 0)) ow H := hG
  have hC2 : CW D cI cZ cO t0 L (wI (wI (wI (wI (wN (wN (wN (wA (wA (wA (lclr 7 σ) 703 0 0 0) 703 0 1 0) 703 0 2 9) 704 0 0) 705 0 0) 706 0 0) 707 0 (nI 0)) 708 0 (nI 0)) 709 0 (-1)) 710 0 (nI 0)) ow H := ⟨by rw [ec]; exact hG, fun k hk h => hC.2 k hk (by rw [← e3]; exact h)⟩
  have hI2 : CI (wI (wI (wI (wI (wN (wN (wN (wA (wA (wA (lclr 7 σ) 703 0 0 0) 703 0 1 0) 703 0 2 9) 704 0 0) 705 0 0) 706 0 0) 707 0 (nI 0)) 708 0 (nI 0)) 709 0 (-1)) 710 0 (nI 0)) := ci_clr hI
  refine xv_callV X hK hC2 hS hA (fun q h => Or.inr h) hE yvX7_enter ml_X7_54 kX7 rfl (cd_fix (by decide)) [.int v] [] (x_X7_enter l L _ ow v hI2) rfl hl.1 rfl (Nat.le_of_ble_eq_true rfl) ⟨Nat.le_of_ble_eq_true rfl, Nat.le_of_ble_eq_true rfl⟩ ⟨by show 0 + nd σ ≤ nd σ; omega, by show 0 + 10 * nd σ ≤ 10 * nd σ; omega⟩ dX7_begin_66 (fun L' ow' H locs hLx hO' hC' hS => ?_)
  rw [ec] at hLx
  exact xv_ret hx hb hr hlocks ⟨L', ow', hLx, hO', hC'⟩ hS (by show 0 + nd σ ≤ nd σ; omega) (by show 0 + 10 * nd σ ≤ 10 * nd σ; omega) dX7_begin_69
