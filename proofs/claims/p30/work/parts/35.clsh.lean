def k_b1 (v : Int32) : Int32 := if v = nI 1 then nI 1 else nI 0
def k_wv (w v : Int32) (σ : St) : St := if w = nI 0 then wI σ 707 0 (k_b1 v) else if w = nI 1 then wI σ 708 0 (k_b1 v) else if w = nI 2 then k_aim 0 11 v σ else if w = nI 3 then k_aim 1 11 v σ else if w = nI 4 then k_aim 2 9 v σ else if w = nI 5 then k_chg v σ else if w = nI 6 then k_ent v σ else σ
def k_obey (k : Nat) (σ : St) : St := if 600 ≤ σ.1 706 0 then wI σ 710 0 (nI 4) else k_wv (σ.2.2.2 400 (σ.2.2.1 1001 7 k) (σ.2.2.1 702 0 k)) (σ.2.2.2 401 (σ.2.2.1 1001 7 k) (σ.2.2.1 702 0 k)) (wA (wN σ 706 0 (σ.1 706 0 + 1)) 702 0 k ((σ.2.2.1 702 0 k) + 1))
theorem aim_N (a m : Nat) (v : Int32) (σ : St) : (k_aim a m v σ).1 1002 = σ.1 1002 ∧ (k_aim a m v σ).1 1003 = σ.1 1003 := by
  unfold k_aim
  repeat' split
  all_goals exact ⟨rfl, rfl⟩
theorem chg_N (v : Int32) (σ : St) : (k_chg v σ).1 1002 = σ.1 1002 ∧ (k_chg v σ).1 1003 = σ.1 1003 := by
  unfold k_chg
  repeat' split
  all_goals exact ⟨rfl, rfl⟩
set_option maxHeartbeats 4000000 in
theorem x_X7_obeyNext {D : va_G} {cI cZ cO : ClassId} {t0 mi : Nat} (l : Launch) (L : Lay) (σ : St) (ow : Nat → Prop) (k : Nat) (hI : CI σ) (hk : k < σ.1 1002 7) (hk6 : k < 6) (hb30 : σ.2.2.1 702 0 k < 30) (h706 : σ.1 706 0 < 100000) (h10 : σ.2.2.1 703 0 2 < 10) : XV D cI cZ cO t0 mi l yX7_obeyNext cX7_obeyNext 4 10 360 (nd σ) (10 * nd σ) [.ref (L 799 0), .int (nI k)] L σ ow (k_obey k σ) := by
  refine x_of (Qc := fun sz => XQv D cI cZ cO t0 L σ ow sz (k_obey k σ)) rfl (Nat.le_of_ble_eq_true rfl) ?_
  intro p e s m9 args below meth c ls X hK hC hE hr hlocks hl
  have X : CallFix p m9 c cX7_obeyNext 4 s _ TB RX7 := X
  have hx := X.1
  have hb := X.2.1
  have hS : va_S (AA ow s.heap.size) s.heap s.heap [] := va_S.rf
  have hA : ∀ q, ow q → AA ow s.heap.size q := fun _ h => Or.inl h
  have hG := hC.1
  have hl : lv_has ls 4 [(0, .ref (L 799 0)), (1, .int (nI k))] := hl
  have h799 : cdom σ 799 0 := cd_fix (by decide)
  have h702 : cdom σ 702 0 := cd_fix (by decide)
  have hpx : σ.2.2.1 1001 7 k < σ.1 1002 6 := hI.2 7 (by decide) k hk
  have hpr : cdom σ 499 (σ.2.2.1 1001 7 k) := cd_obj (by decide) (Or.inl (by decide)) hpx
  have hp400 : cdom σ 400 (σ.2.2.1 1001 7 k) := cd_obj (by decide) (Or.inr (by decide)) hpx
  have hp401 : cdom σ 401 (σ.2.2.1 1001 7 k) := cd_obj (by decide) (Or.inr (by decide)) hpx
  refine lv_aload_n hx hb dX7_obeyNext_0 rfl (lv_at hl 0 rfl) ?_
  refine gt_X7_38 X hK hG h799 rfl dX7_obeyNext_1 ?_
  refine lv_sipush (v := nI 600) hx hb dX7_obeyNext_4 (by decide) ?_
  refine r_icmp_ltN (tgt := 16) hx hb dX7_obeyNext_7 (by decide) (by omega) (by decide) (fun c_7 => ?_) (fun c_7 => ?_)
  rotate_left 1
  · refine lv_aload_n hx hb dX7_obeyNext_10 rfl (lv_at hl 0 rfl) ?_
    refine lv_iconst (v := nI 4) hx hb dX7_obeyNext_11 (by decide) ?_
    refine pt_X7_51 X hK hG hS hA h799 dX7_obeyNext_12 (fun H locs hG hS => ?_)
    refine xv_ret hx hb hr hlocks ?_ hS (Nat.zero_le _) (Nat.zero_le _) dX7_obeyNext_15
    rw [show k_obey k σ = _ from if_pos c_7]
    exact xb_rf hC hG ⟨rfl, rfl⟩
  have hob : k_obey k σ = k_wv (σ.2.2.2 400 (σ.2.2.1 1001 7 k) (σ.2.2.1 702 0 k)) (σ.2.2.2 401 (σ.2.2.1 1001 7 k) (σ.2.2.1 702 0 k)) (wA (wN σ 706 0 (σ.1 706 0 + 1)) 702 0 k ((σ.2.2.1 702 0 k) + 1)) := if_neg (Nat.not_le.mpr c_7)
  refine lv_aload_n hx hb dX7_obeyNext_16 rfl (lv_at hl 0 rfl) ?_
  refine lv_dup hx hb dX7_obeyNext_17 rfl ?_
  refine gt_X7_38 X hK hG h799 rfl dX7_obeyNext_18 ?_
  refine lv_iconst (v := nI 1) hx hb dX7_obeyNext_21 (by decide) ?_
  refine r_addN hx hb dX7_obeyNext_22 ?_
  refine pt_X7_38 X hK hG hS hA h799 dX7_obeyNext_23 (fun H locs hG hS => ?_)
  refine lv_aload_n hx hb dX7_obeyNext_26 rfl (lv_at hl 0 rfl) ?_
  refine gt_X7_21 X hK hG h799 dX7_obeyNext_27 ?_
  refine lv_iload_n hx hb dX7_obeyNext_30 rfl (lv_at hl 1 rfl) ?_
  refine al_702 X hK hG h702 (i := k) hk6 (x := (σ.2.2.1 702 0 k)) rfl dX7_obeyNext_31 ?_
  refine lv_istore_n (lv' := [(2, .int (nI (σ.2.2.1 702 0 k))), (0, .ref (L 799 0)), (1, .int (nI k))]) hx hb dX7_obeyNext_32 rfl hl (by decide) rfl (fun ls hl => ?_)
  refine lv_aload_n hx hb dX7_obeyNext_33 rfl (lv_at hl 1 rfl) ?_
  refine gt_X7_21 X hK hG h799 dX7_obeyNext_34 ?_
  refine lv_iload_n hx hb dX7_obeyNext_37 rfl (lv_at hl 2 rfl) ?_
  refine lv_dup2_11 hx hb dX7_obeyNext_38 rfl rfl ?_
  refine al_702 X hK hG h702 (i := k) hk6 (x := (σ.2.2.1 702 0 k)) rfl dX7_obeyNext_39 ?_
  refine lv_iconst (v := nI 1) hx hb dX7_obeyNext_40 (by decide) ?_
  refine r_addN hx hb dX7_obeyNext_41 ?_
  refine as_702 X hK hG hS hA h702 (i := k) hk6 dX7_obeyNext_42 (fun H locs hG hS => ?_)
  have hG : PW D cI cZ cO (cdom σ) L (wA (wN σ 706 0 (σ.1 706 0 + 1)) 702 0 k ((σ.2.2.1 702 0 k) + 1)) ow H := hG
  refine lv_aload_n hx hb dX7_obeyNext_43 rfl (lv_at hl 1 rfl) ?_
  refine gt_X7_18 X hK hG h799 dX7_obeyNext_44 ?_
  refine lv_iload_n hx hb dX7_obeyNext_47 rfl (lv_at hl 2 rfl) ?_
  refine x_get X hK hG hS (fun _ h => h) (j := 7) (lok_of hC hI (by decide)) hk (O := 499) rfl ml_X7_75 hl.1 (Nat.le_of_ble_eq_true rfl) ⟨Nat.le_of_ble_eq_true rfl, Nat.le_of_ble_eq_true rfl⟩ ⟨Nat.zero_le _, Nat.zero_le _⟩ dX7_obeyNext_48 (fun H locs hG hS => ?_)
  refine x_cast X hK hG kX4 rfl hpr tw_3_184 dX7_obeyNext_51 ?_
  refine gt_X7_86 X hK hG hpr dX7_obeyNext_54 ?_
  refine lv_iload_n hx hb dX7_obeyNext_57 rfl (lv_at hl 0 rfl) ?_
  refine al_401 X hK hG hp401 (i := (σ.2.2.1 702 0 k)) hb30 rfl dX7_obeyNext_58 ?_
  refine lv_istore_n (lv' := [(3, .int (σ.2.2.2 401 (σ.2.2.1 1001 7 k) (σ.2.2.1 702 0 k))), (2, .int (nI (σ.2.2.1 702 0 k))), (0, .ref (L 799 0)), (1, .int (nI k))]) hx hb dX7_obeyNext_59 rfl hl (by decide) rfl (fun ls hl => ?_)
  refine lv_aload_n hx hb dX7_obeyNext_60 rfl (lv_at hl 2 rfl) ?_
  refine gt_X7_18 X hK hG h799 dX7_obeyNext_61 ?_
  refine lv_iload_n hx hb dX7_obeyNext_64 rfl (lv_at hl 3 rfl) ?_
  refine x_get X hK hG hS (fun _ h => h) (j := 7) (lok_of hC hI (by decide)) hk (O := 499) rfl ml_X7_75 hl.1 (Nat.le_of_ble_eq_true rfl) ⟨Nat.le_of_ble_eq_true rfl, Nat.le_of_ble_eq_true rfl⟩ ⟨Nat.zero_le _, Nat.zero_le _⟩ dX7_obeyNext_65 (fun H locs hG hS => ?_)
  refine x_cast X hK hG kX4 rfl hpr tw_3_184 dX7_obeyNext_68 ?_
  refine gt_X7_89 X hK hG hpr dX7_obeyNext_71 ?_
  refine lv_iload_n hx hb dX7_obeyNext_74 rfl (lv_at hl 1 rfl) ?_
  refine al_400 X hK hG hp400 (i := (σ.2.2.1 702 0 k)) hb30 rfl dX7_obeyNext_75 ?_
  have hC1 : CW D cI cZ cO t0 L (wA (wN σ 706 0 (σ.1 706 0 + 1)) 702 0 k ((σ.2.2.1 702 0 k) + 1)) ow H := ⟨hG, hC.2⟩
  rcases sw_split (σ.2.2.2 400 (σ.2.2.1 1001 7 k) (σ.2.2.1 702 0 k)) 6 (by decide) with h | ⟨j9, h, e9⟩
  · refine lv_tableOut (tgt := 203) hx hb dX7_obeyNext_76 h (by decide) ?_
    refine xv_ret hx hb hr hlocks ?_ hS (Nat.zero_le _) (Nat.zero_le _) dX7_obeyNext_203
    rw [hob, show k_wv (σ.2.2.2 400 (σ.2.2.1 1001 7 k) (σ.2.2.1 702 0 k)) (σ.2.2.2 401 (σ.2.2.1 1001 7 k) (σ.2.2.1 702 0 k)) (wA (wN σ 706 0 (σ.1 706 0 + 1)) 702 0 k ((σ.2.2.1 702 0 k) + 1)) = (wA (wN σ 706 0 (σ.1 706 0 + 1)) 702 0 k ((σ.2.2.1 702 0 k) + 1)) from by unfold k_wv; rw [if_neg (sw_ne (n := 6) h 0 (by decide)), if_neg (sw_ne (n := 6) h 1 (by decide)), if_neg (sw_ne (n := 6) h 2 (by decide)), if_neg (sw_ne (n := 6) h 3 (by decide)), if_neg (sw_ne (n := 6) h 4 (by decide)), if_neg (sw_ne (n := 6) h 5 (by decide)), if_neg (sw_ne (n := 6) h 6 (by decide))]]
    exact xb_rf hC hG ⟨rfl, rfl⟩
  have hw : ∀ z : Nat, z = j9 → k_wv (σ.2.2.2 400 (σ.2.2.1 1001 7 k) (σ.2.2.1 702 0 k)) (σ.2.2.2 401 (σ.2.2.1 1001 7 k) (σ.2.2.1 702 0 k)) (wA (wN σ 706 0 (σ.1 706 0 + 1)) 702 0 k ((σ.2.2.1 702 0 k) + 1)) = k_wv (nI z) (σ.2.2.2 401 (σ.2.2.1 1001 7 k) (σ.2.2.1 702 0 k)) (wA (wN σ 706 0 (σ.1 706 0 + 1)) 702 0 k ((σ.2.2.1 702 0 k) + 1)) := fun z hz => by rw [e9, hz]
  rcases (by omega : j9 = 0 ∨ j9 = 1 ∨ j9 = 2 ∨ j9 = 3 ∨ j9 = 4 ∨ j9 = 5 ∨ j9 = 6) with rfl | rfl | rfl | rfl | rfl | rfl | rfl
  · refine r_top (y := nI 0) e9 ?_
    refine lv_tableIn (tgt := 120) hx hb dX7_obeyNext_76 (by decide) (by decide) (off := 44) (by decide) (by decide) ?_
    rw [hob, hw 0 rfl]
    refine lv_aload_n hx hb dX7_obeyNext_120 rfl (lv_at hl 2 rfl) ?_
    refine lv_iload_n hx hb dX7_obeyNext_121 rfl (lv_at hl 0 rfl) ?_
    refine lv_iconst (v := nI 1) hx hb dX7_obeyNext_122 (by decide) ?_
    refine lv_icmp_ne (tgt := 130) hx hb dX7_obeyNext_123 (by decide) (fun cv => ?_) (fun cv => ?_)
    · refine lv_iconst (v := nI 0) hx hb dX7_obeyNext_130 (by decide) ?_
      refine pt_X7_41 X hK hG hS hA h799 (Or.inl rfl) dX7_obeyNext_131 (fun H locs hG hS => ?_)
      refine lv_goto (tgt := 203) hx hb dX7_obeyNext_134 (by decide) ?_
      refine xv_ret hx hb hr hlocks ?_ hS (Nat.zero_le _) (Nat.zero_le _) dX7_obeyNext_203
      rw [show k_wv (nI 0) (σ.2.2.2 401 (σ.2.2.1 1001 7 k) (σ.2.2.1 702 0 k)) (wA (wN σ 706 0 (σ.1 706 0 + 1)) 702 0 k ((σ.2.2.1 702 0 k) + 1)) = wI (wA (wN σ 706 0 (σ.1 706 0 + 1)) 702 0 k ((σ.2.2.1 702 0 k) + 1)) 707 0 (nI 0) from by unfold k_wv k_b1; rw [if_pos rfl, if_neg cv]]
      exact xb_rf hC hG ⟨rfl, rfl⟩
    · refine lv_iconst (v := nI 1) hx hb dX7_obeyNext_126 (by decide) ?_
      refine lv_goto (tgt := 131) hx hb dX7_obeyNext_127 (by decide) ?_
      refine pt_X7_41 X hK hG hS hA h799 (Or.inr rfl) dX7_obeyNext_131 (fun H locs hG hS => ?_)
      refine lv_goto (tgt := 203) hx hb dX7_obeyNext_134 (by decide) ?_
      refine xv_ret hx hb hr hlocks ?_ hS (Nat.zero_le _) (Nat.zero_le _) dX7_obeyNext_203
      rw [show k_wv (nI 0) (σ.2.2.2 401 (σ.2.2.1 1001 7 k) (σ.2.2.1 702 0 k)) (wA (wN σ 706 0 (σ.1 706 0 + 1)) 702 0 k ((σ.2.2.1 702 0 k) + 1)) = wI (wA (wN σ 706 0 (σ.1 706 0 + 1)) 702 0 k ((σ.2.2.1 702 0 k) + 1)) 707 0 (nI 1) from by unfold k_wv k_b1; rw [if_pos rfl, if_pos cv]]
      exact xb_rf hC hG ⟨rfl, rfl⟩
  · refine r_top (y := nI 1) e9 ?_
    refine lv_tableIn (tgt := 137) hx hb dX7_obeyNext_76 (by decide) (by decide) (off := 61) (by decide) (by decide) ?_
    rw [hob, hw 1 rfl]
    refine lv_aload_n hx hb dX7_obeyNext_137 rfl (lv_at hl 2 rfl) ?_
    refine lv_iload_n hx hb dX7_obeyNext_138 rfl (lv_at hl 0 rfl) ?_
    refine lv_iconst (v := nI 1) hx hb dX7_obeyNext_139 (by decide) ?_
    refine lv_icmp_ne (tgt := 147) hx hb dX7_obeyNext_140 (by decide) (fun cv => ?_) (fun cv => ?_)
    · refine lv_iconst (v := nI 0) hx hb dX7_obeyNext_147 (by decide) ?_
      refine pt_X7_45 X hK hG hS hA h799 (Or.inl rfl) dX7_obeyNext_148 (fun H locs hG hS => ?_)
      refine lv_goto (tgt := 203) hx hb dX7_obeyNext_151 (by decide) ?_
      refine xv_ret hx hb hr hlocks ?_ hS (Nat.zero_le _) (Nat.zero_le _) dX7_obeyNext_203
      rw [show k_wv (nI 1) (σ.2.2.2 401 (σ.2.2.1 1001 7 k) (σ.2.2.1 702 0 k)) (wA (wN σ 706 0 (σ.1 706 0 + 1)) 702 0 k ((σ.2.2.1 702 0 k) + 1)) = wI (wA (wN σ 706 0 (σ.1 706 0 + 1)) 702 0 k ((σ.2.2.1 702 0 k) + 1)) 708 0 (nI 0) from by unfold k_wv k_b1; rw [if_neg (by decide), if_pos rfl, if_neg cv]]
      exact xb_rf hC hG ⟨rfl, rfl⟩
    · refine lv_iconst (v := nI 1) hx hb dX7_obeyNext_143 (by decide) ?_
      refine lv_goto (tgt := 148) hx hb dX7_obeyNext_144 (by decide) ?_
      refine pt_X7_45 X hK hG hS hA h799 (Or.inr rfl) dX7_obeyNext_148 (fun H locs hG hS => ?_)
      refine lv_goto (tgt := 203) hx hb dX7_obeyNext_151 (by decide) ?_
      refine xv_ret hx hb hr hlocks ?_ hS (Nat.zero_le _) (Nat.zero_le _) dX7_obeyNext_203
      rw [show k_wv (nI 1) (σ.2.2.2 401 (σ.2.2.1 1001 7 k) (σ.2.2.1 702 0 k)) (wA (wN σ 706 0 (σ.1 706 0 + 1)) 702 0 k ((σ.2.2.1 702 0 k) + 1)) = wI (wA (wN σ 706 0 (σ.1 706 0 + 1)) 702 0 k ((σ.2.2.1 702 0 k) + 1)) 708 0 (nI 1) from by unfold k_wv k_b1; rw [if_neg (by decide), if_pos rfl, if_pos cv]]
      exact xb_rf hC hG ⟨rfl, rfl⟩
  · refine r_top (y := nI 2) e9 ?_
    refine lv_tableIn (tgt := 154) hx hb dX7_obeyNext_76 (by decide) (by decide) (off := 78) (by decide) (by decide) ?_
    rw [hob, hw 2 rfl]
    refine lv_aload_n hx hb dX7_obeyNext_154 rfl (lv_at hl 2 rfl) ?_
    refine lv_iconst (v := nI 0) hx hb dX7_obeyNext_155 (by decide) ?_
    refine lv_iload_n hx hb dX7_obeyNext_156 rfl (lv_at hl 0 rfl) ?_
    refine lv_bipush (v := nI 11) hx hb dX7_obeyNext_157 (by decide) ?_
    refine rv_callVg X hK hG hS (fun q h => h) yvX7_aim ml_X7_92 kX7 rfl h799 [.int (nI 0), .int (σ.2.2.2 401 (σ.2.2.1 1001 7 k) (σ.2.2.1 702 0 k)), .int (nI 11)] [] (c_X7_aim l L (wA (wN σ 706 0 (σ.1 706 0 + 1)) 702 0 k ((σ.2.2.1 702 0 k) + 1)) ow (cd_sub (by decide)) 0 11 (σ.2.2.2 401 (σ.2.2.1 1001 7 k) (σ.2.2.1 702 0 k)) (by decide) (by decide)) rfl hl.1 rfl (Nat.le_of_ble_eq_true rfl) ⟨Nat.le_of_ble_eq_true rfl, Nat.le_of_ble_eq_true rfl⟩ ⟨Nat.zero_le _, Nat.zero_le _⟩ dX7_obeyNext_159 (fun H locs hG hS => ?_)
    refine lv_goto (tgt := 203) hx hb dX7_obeyNext_162 (by decide) ?_
    refine xv_ret hx hb hr hlocks ?_ hS (Nat.zero_le _) (Nat.zero_le _) dX7_obeyNext_203
    rw [show k_wv (nI 2) (σ.2.2.2 401 (σ.2.2.1 1001 7 k) (σ.2.2.1 702 0 k)) (wA (wN σ 706 0 (σ.1 706 0 + 1)) 702 0 k ((σ.2.2.1 702 0 k) + 1)) = k_aim 0 11 (σ.2.2.2 401 (σ.2.2.1 1001 7 k) (σ.2.2.1 702 0 k)) (wA (wN σ 706 0 (σ.1 706 0 + 1)) 702 0 k ((σ.2.2.1 702 0 k) + 1)) from by unfold k_wv; rw [if_neg (by decide), if_neg (by decide), if_pos rfl]]
    exact xb_rf hC hG (aim_N _ _ _ _)
  · refine r_top (y := nI 3) e9 ?_
    refine lv_tableIn (tgt := 165) hx hb dX7_obeyNext_76 (by decide) (by decide) (off := 89) (by decide) (by decide) ?_
    rw [hob, hw 3 rfl]
    refine lv_aload_n hx hb dX7_obeyNext_165 rfl (lv_at hl 2 rfl) ?_
    refine lv_iconst (v := nI 1) hx hb dX7_obeyNext_166 (by decide) ?_
    refine lv_iload_n hx hb dX7_obeyNext_167 rfl (lv_at hl 0 rfl) ?_
    refine lv_bipush (v := nI 11) hx hb dX7_obeyNext_168 (by decide) ?_
    refine rv_callVg X hK hG hS (fun q h => h) yvX7_aim ml_X7_92 kX7 rfl h799 [.int (nI 1), .int (σ.2.2.2 401 (σ.2.2.1 1001 7 k) (σ.2.2.1 702 0 k)), .int (nI 11)] [] (c_X7_aim l L (wA (wN σ 706 0 (σ.1 706 0 + 1)) 702 0 k ((σ.2.2.1 702 0 k) + 1)) ow (cd_sub (by decide)) 1 11 (σ.2.2.2 401 (σ.2.2.1 1001 7 k) (σ.2.2.1 702 0 k)) (by decide) (by decide)) rfl hl.1 rfl (Nat.le_of_ble_eq_true rfl) ⟨Nat.le_of_ble_eq_true rfl, Nat.le_of_ble_eq_true rfl⟩ ⟨Nat.zero_le _, Nat.zero_le _⟩ dX7_obeyNext_170 (fun H locs hG hS => ?_)
    refine lv_goto (tgt := 203) hx hb dX7_obeyNext_173 (by decide) ?_
    refine xv_ret hx hb hr hlocks ?_ hS (Nat.zero_le _) (Nat.zero_le _) dX7_obeyNext_203
    rw [show k_wv (nI 3) (σ.2.2.2 401 (σ.2.2.1 1001 7 k) (σ.2.2.1 702 0 k)) (wA (wN σ 706 0 (σ.1 706 0 + 1)) 702 0 k ((σ.2.2.1 702 0 k) + 1)) = k_aim 1 11 (σ.2.2.2 401 (σ.2.2.1 1001 7 k) (σ.2.2.1 702 0 k)) (wA (wN σ 706 0 (σ.1 706 0 + 1)) 702 0 k ((σ.2.2.1 702 0 k) + 1)) from by unfold k_wv; rw [if_neg (by decide), if_neg (by decide), if_neg (by decide), if_pos rfl]]
    exact xb_rf hC hG (aim_N _ _ _ _)
  · refine r_top (y := nI 4) e9 ?_
    refine lv_tableIn (tgt := 176) hx hb dX7_obeyNext_76 (by decide) (by decide) (off := 100) (by decide) (by decide) ?_
    rw [hob, hw 4 rfl]
    refine lv_aload_n hx hb dX7_obeyNext_176 rfl (lv_at hl 2 rfl) ?_
    refine lv_iconst (v := nI 2) hx hb dX7_obeyNext_177 (by decide) ?_
    refine lv_iload_n hx hb dX7_obeyNext_178 rfl (lv_at hl 0 rfl) ?_
    refine lv_bipush (v := nI 9) hx hb dX7_obeyNext_179 (by decide) ?_
    refine rv_callVg X hK hG hS (fun q h => h) yvX7_aim ml_X7_92 kX7 rfl h799 [.int (nI 2), .int (σ.2.2.2 401 (σ.2.2.1 1001 7 k) (σ.2.2.1 702 0 k)), .int (nI 9)] [] (c_X7_aim l L (wA (wN σ 706 0 (σ.1 706 0 + 1)) 702 0 k ((σ.2.2.1 702 0 k) + 1)) ow (cd_sub (by decide)) 2 9 (σ.2.2.2 401 (σ.2.2.1 1001 7 k) (σ.2.2.1 702 0 k)) (by decide) (by decide)) rfl hl.1 rfl (Nat.le_of_ble_eq_true rfl) ⟨Nat.le_of_ble_eq_true rfl, Nat.le_of_ble_eq_true rfl⟩ ⟨Nat.zero_le _, Nat.zero_le _⟩ dX7_obeyNext_181 (fun H locs hG hS => ?_)
    refine lv_goto (tgt := 203) hx hb dX7_obeyNext_184 (by decide) ?_
    refine xv_ret hx hb hr hlocks ?_ hS (Nat.zero_le _) (Nat.zero_le _) dX7_obeyNext_203
    rw [show k_wv (nI 4) (σ.2.2.2 401 (σ.2.2.1 1001 7 k) (σ.2.2.1 702 0 k)) (wA (wN σ 706 0 (σ.1 706 0 + 1)) 702 0 k ((σ.2.2.1 702 0 k) + 1)) = k_aim 2 9 (σ.2.2.2 401 (σ.2.2.1 1001 7 k) (σ.2.2.1 702 0 k)) (wA (wN σ 706 0 (σ.1 706 0 + 1)) 702 0 k ((σ.2.2.1 702 0 k) + 1)) from by unfold k_wv; rw [if_neg (by decide), if_neg (by decide), if_neg (by decide), if_neg (by decide), if_pos rfl]]
    exact xb_rf hC hG (aim_N _ _ _ _)
  · refine r_top (y := nI 5) e9 ?_
    refine lv_tableIn (tgt := 187) hx hb dX7_obeyNext_76 (by decide) (by decide) (off := 111) (by decide) (by decide) ?_
    rw [hob, hw 5 rfl]
    refine lv_aload_n hx hb dX7_obeyNext_187 rfl (lv_at hl 2 rfl) ?_
    refine lv_iload_n hx hb dX7_obeyNext_188 rfl (lv_at hl 0 rfl) ?_
    refine rv_callVg X hK hG hS (fun q h => h) yvX7_changeTool ml_X7_96 kX7 rfl h799 [.int (σ.2.2.2 401 (σ.2.2.1 1001 7 k) (σ.2.2.1 702 0 k))] [] (c_X7_changeTool l L (wA (wN σ 706 0 (σ.1 706 0 + 1)) 702 0 k ((σ.2.2.1 702 0 k) + 1)) ow (cd_sub (by decide)) (σ.2.2.2 401 (σ.2.2.1 1001 7 k) (σ.2.2.1 702 0 k)) h10) rfl hl.1 rfl (Nat.le_of_ble_eq_true rfl) ⟨Nat.le_of_ble_eq_true rfl, Nat.le_of_ble_eq_true rfl⟩ ⟨Nat.zero_le _, Nat.zero_le _⟩ dX7_obeyNext_189 (fun H locs hG hS => ?_)
    refine lv_goto (tgt := 203) hx hb dX7_obeyNext_192 (by decide) ?_
    refine xv_ret hx hb hr hlocks ?_ hS (Nat.zero_le _) (Nat.zero_le _) dX7_obeyNext_203
    rw [show k_wv (nI 5) (σ.2.2.2 401 (σ.2.2.1 1001 7 k) (σ.2.2.1 702 0 k)) (wA (wN σ 706 0 (σ.1 706 0 + 1)) 702 0 k ((σ.2.2.1 702 0 k) + 1)) = k_chg (σ.2.2.2 401 (σ.2.2.1 1001 7 k) (σ.2.2.1 702 0 k)) (wA (wN σ 706 0 (σ.1 706 0 + 1)) 702 0 k ((σ.2.2.1 702 0 k) + 1)) from by unfold k_wv; rw [if_neg (by decide), if_neg (by decide), if_neg (by decide), if_neg (by decide), if_neg (by decide), if_pos rfl]]
    exact xb_rf hC hG (chg_N _ _)
  · refine r_top (y := nI 6) e9 ?_
    refine lv_tableIn (tgt := 195) hx hb dX7_obeyNext_76 (by decide) (by decide) (off := 119) (by decide) (by decide) ?_
    rw [hob, hw 6 rfl]
    refine lv_aload_n hx hb dX7_obeyNext_195 rfl (lv_at hl 2 rfl) ?_
    refine lv_iload_n hx hb dX7_obeyNext_196 rfl (lv_at hl 0 rfl) ?_
    refine xv_callV X hK hC1 hS hA (fun q h => Or.inr h) hE yvX7_enter ml_X7_54 kX7 rfl (cd_fix (by decide)) [.int (σ.2.2.2 401 (σ.2.2.1 1001 7 k) (σ.2.2.1 702 0 k))] [] (x_X7_enter l L (wA (wN σ 706 0 (σ.1 706 0 + 1)) 702 0 k ((σ.2.2.1 702 0 k) + 1)) ow (σ.2.2.2 401 (σ.2.2.1 1001 7 k) (σ.2.2.1 702 0 k)) hI) rfl hl.1 rfl (Nat.le_of_ble_eq_true rfl) ⟨Nat.le_of_ble_eq_true rfl, Nat.le_of_ble_eq_true rfl⟩ ⟨by show 0 + nd σ ≤ nd σ; omega, by show 0 + 10 * nd σ ≤ 10 * nd σ; omega⟩ dX7_obeyNext_197 (fun L' ow' H locs hLx hO' hC' hS => ?_)
    refine lv_goto (tgt := 203) hx hb dX7_obeyNext_200 (by decide) ?_
    refine xv_ret hx hb hr hlocks ?_ hS (by show 0 + nd σ ≤ nd σ; omega) (by show 0 + 10 * nd σ ≤ 10 * nd σ; omega) dX7_obeyNext_203
    rw [show k_wv (nI 6) (σ.2.2.2 401 (σ.2.2.1 1001 7 k) (σ.2.2.1 702 0 k)) (wA (wN σ 706 0 (σ.1 706 0 + 1)) 702 0 k ((σ.2.2.1 702 0 k) + 1)) = k_ent (σ.2.2.2 401 (σ.2.2.1 1001 7 k) (σ.2.2.1 702 0 k)) (wA (wN σ 706 0 (σ.1 706 0 + 1)) 702 0 k ((σ.2.2.1 702 0 k) + 1)) from by unfold k_wv; rw [if_neg (by decide), if_neg (by decide), if_neg (by decide), if_neg (by decide), if_neg (by decide), if_neg (by decide), if_pos rfl]]
    exact ⟨L', ow', hLx, hO', hC'⟩
