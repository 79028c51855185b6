theorem min99 {a : Nat} (ha : a ≤ 99) : (if nI (a + 1) < nI 99 then nI (a + 1) else nI 99) = nI (if 99 ≤ a then 99 else a + 1) := by
  by_cases c : 98 ≤ a
  · rw [if_neg (fun z => by rw [nI_ltI (by omega) (by decide)] at z; omega)]
    split
    · rfl
    · rw [show a = 98 by omega]
  · rw [if_pos ((nI_ltI (by omega) (by decide)).mpr (by omega)), if_neg (by omega)]
theorem ce_lt {σ : St} (h0 : σ.2.2.1 703 0 0 < 12) (h1 : σ.2.2.1 703 0 1 < 12) : ce σ < 144 := by unfold ce; omega
def k_cut (t9 p9 : Nat) (σ : St) : St := (wN (wN (wN (wB (wB (wB (wB (wB (wB (wB (wB (wB (wB (wB (wB σ 807 0 0 (σ.2.2.2 806 0 (σ.2.2.1 703 0 0))) 807 0 1 (nI (((σ.1 812 0) * (σ.2.2.1 703 0 0)) / 10))) 807 0 2 (nI ((σ.1 504 t9) / 4))) 807 0 3 (-(σ.2.1 505 t9))) 200 p9 (ce σ) (nI (σ.2.2.1 703 0 2))) 201 p9 (ce σ) (nI (1000 * (σ.2.2.1 703 0 2)))) 201 p9 (ce σ) ((nI (1000 * (σ.2.2.1 703 0 2))) + (σ.2.2.2 806 0 (σ.2.2.1 703 0 0)))) 201 p9 (ce σ) (((nI (1000 * (σ.2.2.1 703 0 2))) + (σ.2.2.2 806 0 (σ.2.2.1 703 0 0))) + (nI (((σ.1 812 0) * (σ.2.2.1 703 0 0)) / 10)))) 201 p9 (ce σ) ((((nI (1000 * (σ.2.2.1 703 0 2))) + (σ.2.2.2 806 0 (σ.2.2.1 703 0 0))) + (nI (((σ.1 812 0) * (σ.2.2.1 703 0 0)) / 10))) + (nI ((σ.1 504 t9) / 4)))) 201 p9 (ce σ) (((((nI (1000 * (σ.2.2.1 703 0 2))) + (σ.2.2.2 806 0 (σ.2.2.1 703 0 0))) + (nI (((σ.1 812 0) * (σ.2.2.1 703 0 0)) / 10))) + (nI ((σ.1 504 t9) / 4))) + (-(σ.2.1 505 t9)))) 202 p9 (ce σ) (σ.2.1 500 t9)) 203 p9 (ce σ) (k_gp ((wB (wB (wB (wB (wB (wB (wB (wB (wB (wB (wB σ 807 0 0 (σ.2.2.2 806 0 (σ.2.2.1 703 0 0))) 807 0 1 (nI (((σ.1 812 0) * (σ.2.2.1 703 0 0)) / 10))) 807 0 2 (nI ((σ.1 504 t9) / 4))) 807 0 3 (-(σ.2.1 505 t9))) 200 p9 (ce σ) (nI (σ.2.2.1 703 0 2))) 201 p9 (ce σ) (nI (1000 * (σ.2.2.1 703 0 2)))) 201 p9 (ce σ) ((nI (1000 * (σ.2.2.1 703 0 2))) + (σ.2.2.2 806 0 (σ.2.2.1 703 0 0)))) 201 p9 (ce σ) (((nI (1000 * (σ.2.2.1 703 0 2))) + (σ.2.2.2 806 0 (σ.2.2.1 703 0 0))) + (nI (((σ.1 812 0) * (σ.2.2.1 703 0 0)) / 10)))) 201 p9 (ce σ) ((((nI (1000 * (σ.2.2.1 703 0 2))) + (σ.2.2.2 806 0 (σ.2.2.1 703 0 0))) + (nI (((σ.1 812 0) * (σ.2.2.1 703 0 0)) / 10))) + (nI ((σ.1 504 t9) / 4)))) 201 p9 (ce σ) (((((nI (1000 * (σ.2.2.1 703 0 2))) + (σ.2.2.2 806 0 (σ.2.2.1 703 0 0))) + (nI (((σ.1 812 0) * (σ.2.2.1 703 0 0)) / 10))) + (nI ((σ.1 504 t9) / 4))) + (-(σ.2.1 505 t9)))) 202 p9 (ce σ) (σ.2.1 500 t9)).2.2.2 807 0) 4 0 (-1) (nI 0))) 504 t9 ((σ.1 504 t9) + 1)) 811 0 ((σ.1 811 0) + 1)) 812 0 (if 99 ≤ σ.1 812 0 then 99 else σ.1 812 0 + 1))
set_option maxRecDepth 100000 in
set_option maxHeartbeats 4000000 in
theorem c_X8_cutBy {D : va_G} {cI cZ cO : ClassId} (l : Launch) (L : Lay) (σ : St) (ow : Nat → Prop) (t9 p9 : Nat) (ht : t9 < σ.1 1002 0) (hp : p9 < σ.1 1002 1) (h0 : σ.2.2.1 703 0 0 < 12) (h1 : σ.2.2.1 703 0 1 < 12) (hu : ∀ k, σ.1 504 k ≤ 500) (hw : σ.1 812 0 ≤ 99) (hI : CI σ) : RV D cI cZ cO (cdom σ) l yX8_cutBy cX8_cutBy 6 2 45 [.ref (L 899 0), .ref (L 599 t9), .ref (L 299 p9)] L σ ow (k_cut t9 p9 σ) := by
  refine rv_of rfl (Nat.le_of_ble_eq_true rfl) ?_
  intro p e s m below meth c ls X hK hG hr hlocks hl
  have X : CallFix p m c cX8_cutBy 6 s _ TB RX8 := X
  have hx := X.1
  have hb := X.2.1
  have hS : va_S (AA ow s.heap.size) s.heap s.heap [] := va_S.rf
  have hA : ∀ q, ow q → AA ow s.heap.size q := fun _ h => Or.inl h
  have hl : lv_has ls 6 [(0, .ref (L 899 0)), (1, .ref (L 599 t9)), (2, .ref (L 299 p9))] := hl
  have hA2 : ∀ q, AA ow s.heap.size q → AA ow s.heap.size q := fun _ h => h
  refine lv_aload_n hx hb dX8_cutBy_0 rfl (lv_at hl 0 rfl) ?_
  refine gt_X8_44 X hK hG (cd_fix (by decide)) dX8_cutBy_1 ?_
  refine rm_callVg X hK hG hS hA2 yvX7_cellNow ml_X8_389 kX7 rfl (cd_fix (by decide)) [] [] (c_X7_cellNow l L σ ow (cd_sub (by decide))) rfl hl.1 rfl (Nat.le_of_ble_eq_true rfl) ⟨Nat.le_of_ble_eq_true rfl, Nat.le_of_ble_eq_true rfl⟩ ⟨Nat.le_of_ble_eq_true rfl, Nat.le_of_ble_eq_true rfl⟩ dX8_cutBy_4 (fun H locs hG hS => ?_)
  refine lv_istore_n (lv' := [(3, .int (nI (ce σ))), (0, .ref (L 899 0)), (1, .ref (L 599 t9)), (2, .ref (L 299 p9))]) hx hb dX8_cutBy_7 rfl hl (by decide) rfl (fun ls hl => ?_)
  refine lv_aload_n hx hb dX8_cutBy_8 rfl (lv_at hl 1 rfl) ?_
  refine gt_X8_44 X hK hG (cd_fix (by decide)) dX8_cutBy_9 ?_
  refine gt_X8_392 X hK hG (cd_fix (by decide)) dX8_cutBy_12 ?_
  refine lv_iconst (v := nI 0) hx hb dX8_cutBy_15 (by decide) ?_
  refine al_703 X hK hG (cd_fix (by decide)) (i := 0) (x := σ.2.2.1 703 0 0) (by decide) rfl dX8_cutBy_16 ?_
  refine lv_istore (lv' := [(4, .int (nI (σ.2.2.1 703 0 0))), (3, .int (nI (ce σ))), (0, .ref (L 899 0)), (1, .ref (L 599 t9)), (2, .ref (L 299 p9))]) hx hb dX8_cutBy_17 hl (by decide) rfl (fun ls hl => ?_)
  refine lv_aload_n hx hb dX8_cutBy_19 rfl (lv_at hl 2 rfl) ?_
  refine gt_X8_35 X hK hG (cd_fix (by decide)) dX8_cutBy_20 ?_
  refine lv_iconst (v := nI 0) hx hb dX8_cutBy_23 (by decide) ?_
  refine lv_aload_n hx hb dX8_cutBy_24 rfl (lv_at hl 2 rfl) ?_
  refine gt_X8_31 X hK hG (cd_fix (by decide)) dX8_cutBy_25 ?_
  refine lv_iload hx hb dX8_cutBy_28 (lv_at hl 0 rfl) ?_
  refine al_806 X hK hG (cd_fix (by decide)) (i := σ.2.2.1 703 0 0) (x := σ.2.2.2 806 0 (σ.2.2.1 703 0 0)) (h0) rfl dX8_cutBy_30 ?_
  refine as_807 X hK hG hS hA (cd_fix (by decide)) (i := 0) (by omega) dX8_cutBy_31 (fun H locs hG hS => ?_)
  refine lv_aload_n hx hb dX8_cutBy_32 rfl (lv_at hl 2 rfl) ?_
  refine gt_X8_35 X hK hG (cd_fix (by decide)) dX8_cutBy_33 ?_
  refine lv_iconst (v := nI 1) hx hb dX8_cutBy_36 (by decide) ?_
  refine lv_aload_n hx hb dX8_cutBy_37 rfl (lv_at hl 2 rfl) ?_
  refine gt_X8_222 X hK hG (cd_fix (by decide)) (x := σ.1 812 0) rfl dX8_cutBy_38 ?_
  refine lv_iload hx hb dX8_cutBy_41 (lv_at hl 0 rfl) ?_
  refine r_mulN hx hb dX8_cutBy_43 ?_
  refine lv_bipush (v := nI 10) hx hb dX8_cutBy_44 (by decide) ?_
  refine r_divN hx hb (by have := Nat.mul_le_mul hw (Nat.le_of_lt_succ h0); omega) (by decide) (by decide) dX8_cutBy_46 ?_
  refine as_807 X hK hG hS hA (cd_fix (by decide)) (i := 1) (by omega) dX8_cutBy_47 (fun H locs hG hS => ?_)
  refine lv_aload_n hx hb dX8_cutBy_48 rfl (lv_at hl 2 rfl) ?_
  refine gt_X8_35 X hK hG (cd_fix (by decide)) dX8_cutBy_49 ?_
  refine lv_iconst (v := nI 2) hx hb dX8_cutBy_52 (by decide) ?_
  refine lv_aload_n hx hb dX8_cutBy_53 rfl (lv_at hl 3 rfl) ?_
  refine gt_X8_315 X hK hG (cd_obj (by decide) (Or.inl (by decide)) ht) (x := σ.1 504 t9) rfl dX8_cutBy_54 ?_
  refine lv_iconst (v := nI 4) hx hb dX8_cutBy_57 (by decide) ?_
  refine r_divN hx hb (by have := hu t9; omega) (by decide) (by decide) dX8_cutBy_58 ?_
  refine as_807 X hK hG hS hA (cd_fix (by decide)) (i := 2) (by omega) dX8_cutBy_59 (fun H locs hG hS => ?_)
  refine lv_aload_n hx hb dX8_cutBy_60 rfl (lv_at hl 2 rfl) ?_
  refine gt_X8_35 X hK hG (cd_fix (by decide)) dX8_cutBy_61 ?_
  refine lv_iconst (v := nI 3) hx hb dX8_cutBy_64 (by decide) ?_
  refine lv_aload_n hx hb dX8_cutBy_65 rfl (lv_at hl 3 rfl) ?_
  refine gt_X8_318 X hK hG (cd_obj (by decide) (Or.inl (by decide)) ht) (x := σ.2.1 505 t9) rfl dX8_cutBy_66 ?_
  refine lv_ineg hx hb dX8_cutBy_69 ?_
  refine as_807 X hK hG hS hA (cd_fix (by decide)) (i := 3) (by omega) dX8_cutBy_70 (fun H locs hG hS => ?_)
  refine lv_aload_n hx hb dX8_cutBy_71 rfl (lv_at hl 4 rfl) ?_
  refine gt_X8_326 X hK hG (cd_obj (by decide) (Or.inl (by decide)) hp) dX8_cutBy_72 ?_
  refine lv_iload_n hx hb dX8_cutBy_75 rfl (lv_at hl 1 rfl) ?_
  refine lv_aload_n hx hb dX8_cutBy_76 rfl (lv_at hl 2 rfl) ?_
  refine gt_X8_44 X hK hG (cd_fix (by decide)) dX8_cutBy_77 ?_
  refine gt_X8_392 X hK hG (cd_fix (by decide)) dX8_cutBy_80 ?_
  refine lv_iconst (v := nI 2) hx hb dX8_cutBy_83 (by decide) ?_
  refine al_703 X hK hG (cd_fix (by decide)) (i := 2) (x := σ.2.2.1 703 0 2) (by omega) rfl dX8_cutBy_84 ?_
  refine as_200 X hK hG hS hA (cd_obj (by decide) (Or.inr (by decide)) hp) (i := ce σ) (ce_lt h0 h1) dX8_cutBy_85 (fun H locs hG hS => ?_)
  refine lv_aload_n hx hb dX8_cutBy_86 rfl (lv_at hl 4 rfl) ?_
  refine gt_X8_282 X hK hG (cd_obj (by decide) (Or.inl (by decide)) hp) dX8_cutBy_87 ?_
  refine lv_iload_n hx hb dX8_cutBy_90 rfl (lv_at hl 1 rfl) ?_
  refine lv_sipush (v := nI 1000) hx hb dX8_cutBy_91 (by decide) ?_
  refine lv_aload_n hx hb dX8_cutBy_94 rfl (lv_at hl 2 rfl) ?_
  refine gt_X8_44 X hK hG (cd_fix (by decide)) dX8_cutBy_95 ?_
  refine gt_X8_392 X hK hG (cd_fix (by decide)) dX8_cutBy_98 ?_
  refine lv_iconst (v := nI 2) hx hb dX8_cutBy_101 (by decide) ?_
  refine al_703 X hK hG (cd_fix (by decide)) (i := 2) (x := σ.2.2.1 703 0 2) (by omega) rfl dX8_cutBy_102 ?_
  refine r_mulN hx hb dX8_cutBy_103 ?_
  refine as_201 X hK hG hS hA (cd_obj (by decide) (Or.inr (by decide)) hp) (i := ce σ) (ce_lt h0 h1) dX8_cutBy_104 (fun H locs hG hS => ?_)
  refine lv_iconst (v := nI 0) hx hb dX8_cutBy_105 (by decide) ?_
  refine lv_istore (lv' := [(5, .int (nI 0)), (4, .int (nI (σ.2.2.1 703 0 0))), (3, .int (nI (ce σ))), (0, .ref (L 899 0)), (1, .ref (L 599 t9)), (2, .ref (L 299 p9))]) hx hb dX8_cutBy_106 hl (by decide) rfl (fun ls hl => ?_)
  refine lv_iload hx hb dX8_cutBy_108 (lv_at hl 0 rfl) ?_
  refine lv_aload_n hx hb dX8_cutBy_110 rfl (lv_at hl 3 rfl) ?_
  refine gt_X8_35 X hK hG (cd_fix (by decide)) dX8_cutBy_111 ?_
  refine pw_alen X hK hG 807 (Or.inr fa_807) (cd_fix (by decide)) (N := 4) rfl dX8_cutBy_114 ?_
  refine r_icmp_geN (tgt := 140) hx hb dX8_cutBy_115 (by decide) (by omega) (by omega) (fun c_115 => absurd c_115 (by decide)) (fun c_115 => ?_)
  refine lv_aload_n hx hb dX8_cutBy_118 rfl (lv_at hl 5 rfl) ?_
  refine gt_X8_282 X hK hG (cd_obj (by decide) (Or.inl (by decide)) hp) dX8_cutBy_119 ?_
  refine lv_iload_n hx hb dX8_cutBy_122 rfl (lv_at hl 2 rfl) ?_
  refine lv_dup2_11 hx hb dX8_cutBy_123 rfl rfl ?_
  refine al_201 X hK hG (cd_obj (by decide) (Or.inr (by decide)) hp) (i := ce σ) (x := nI (1000 * (σ.2.2.1 703 0 2))) (ce_lt h0 h1) (by simp [wN, wI, wA, wB, up3, up2, up1]) dX8_cutBy_124 ?_
  refine lv_aload_n hx hb dX8_cutBy_125 rfl (lv_at hl 3 rfl) ?_
  refine gt_X8_35 X hK hG (cd_fix (by decide)) dX8_cutBy_126 ?_
  refine lv_iload hx hb dX8_cutBy_129 (lv_at hl 0 rfl) ?_
  refine al_807 X hK hG (cd_fix (by decide)) (i := 0) (x := σ.2.2.2 806 0 (σ.2.2.1 703 0 0)) (by omega) rfl dX8_cutBy_131 ?_
  refine lv_iadd hx hb dX8_cutBy_132 ?_
  refine as_201 X hK hG hS hA (cd_obj (by decide) (Or.inr (by decide)) hp) (i := ce σ) (ce_lt h0 h1) dX8_cutBy_133 (fun H locs hG hS => ?_)
  refine r_iincN (b := 1) (lv' := [(5, .int (nI 1)), (4, .int (nI (σ.2.2.1 703 0 0))), (3, .int (nI (ce σ))), (0, .ref (L 899 0)), (1, .ref (L 599 t9)), (2, .ref (L 299 p9))]) hx hb dX8_cutBy_134 hl (k := 0) rfl (by decide) (by decide) rfl (fun ls hl => ?_)
  refine lv_goto (tgt := 108) hx hb dX8_cutBy_137 (by decide) ?_
  refine lv_iload hx hb dX8_cutBy_108 (lv_at hl 0 rfl) ?_
  refine lv_aload_n hx hb dX8_cutBy_110 rfl (lv_at hl 3 rfl) ?_
  refine gt_X8_35 X hK hG (cd_fix (by decide)) dX8_cutBy_111 ?_
  refine pw_alen X hK hG 807 (Or.inr fa_807) (cd_fix (by decide)) (N := 4) rfl dX8_cutBy_114 ?_
  refine r_icmp_geN (tgt := 140) hx hb dX8_cutBy_115 (by decide) (by omega) (by omega) (fun c_115_2 => absurd c_115_2 (by decide)) (fun c_115_2 => ?_)
  refine lv_aload_n hx hb dX8_cutBy_118 rfl (lv_at hl 5 rfl) ?_
  refine gt_X8_282 X hK hG (cd_obj (by decide) (Or.inl (by decide)) hp) dX8_cutBy_119 ?_
  refine lv_iload_n hx hb dX8_cutBy_122 rfl (lv_at hl 2 rfl) ?_
  refine lv_dup2_11 hx hb dX8_cutBy_123 rfl rfl ?_
  refine al_201 X hK hG (cd_obj (by decide) (Or.inr (by decide)) hp) (i := ce σ) (x := ((nI (1000 * (σ.2.2.1 703 0 2))) + (σ.2.2.2 806 0 (σ.2.2.1 703 0 0)))) (ce_lt h0 h1) (by simp [wN, wI, wA, wB, up3, up2, up1]) dX8_cutBy_124 ?_
  refine lv_aload_n hx hb dX8_cutBy_125 rfl (lv_at hl 3 rfl) ?_
  refine gt_X8_35 X hK hG (cd_fix (by decide)) dX8_cutBy_126 ?_
  refine lv_iload hx hb dX8_cutBy_129 (lv_at hl 0 rfl) ?_
  refine al_807 X hK hG (cd_fix (by decide)) (i := 1) (x := nI (((σ.1 812 0) * (σ.2.2.1 703 0 0)) / 10)) (by omega) rfl dX8_cutBy_131 ?_
  refine lv_iadd hx hb dX8_cutBy_132 ?_
  refine as_201 X hK hG hS hA (cd_obj (by decide) (Or.inr (by decide)) hp) (i := ce σ) (ce_lt h0 h1) dX8_cutBy_133 (fun H locs hG hS => ?_)
  refine r_iincN (b := 1) (lv' := [(5, .int (nI 2)), (4, .int (nI (σ.2.2.1 703 0 0))), (3, .int (nI (ce σ))), (0, .ref (L 899 0)), (1, .ref (L 599 t9)), (2, .ref (L 299 p9))]) hx hb dX8_cutBy_134 hl (k := 0) rfl (by decide) (by decide) rfl (fun ls hl => ?_)
  refine lv_goto (tgt := 108) hx hb dX8_cutBy_137 (by decide) ?_
  refine lv_iload hx hb dX8_cutBy_108 (lv_at hl 0 rfl) ?_
  refine lv_aload_n hx hb dX8_cutBy_110 rfl (lv_at hl 3 rfl) ?_
  refine gt_X8_35 X hK hG (cd_fix (by decide)) dX8_cutBy_111 ?_
  refine pw_alen X hK hG 807 (Or.inr fa_807) (cd_fix (by decide)) (N := 4) rfl dX8_cutBy_114 ?_
  refine r_icmp_geN (tgt := 140) hx hb dX8_cutBy_115 (by decide) (by omega) (by omega) (fun c_115_3 => absurd c_115_3 (by decide)) (fun c_115_3 => ?_)
  refine lv_aload_n hx hb dX8_cutBy_118 rfl (lv_at hl 5 rfl) ?_
  refine gt_X8_282 X hK hG (cd_obj (by decide) (Or.inl (by decide)) hp) dX8_cutBy_119 ?_
  refine lv_iload_n hx hb dX8_cutBy_122 rfl (lv_at hl 2 rfl) ?_
  refine lv_dup2_11 hx hb dX8_cutBy_123 rfl rfl ?_
  refine al_201 X hK hG (cd_obj (by decide) (Or.inr (by decide)) hp) (i := ce σ) (x := (((nI (1000 * (σ.2.2.1 703 0 2))) + (σ.2.2.2 806 0 (σ.2.2.1 703 0 0))) + (nI (((σ.1 812 0) * (σ.2.2.1 703 0 0)) / 10)))) (ce_lt h0 h1) (by simp [wN, wI, wA, wB, up3, up2, up1]) dX8_cutBy_124 ?_
  refine lv_aload_n hx hb dX8_cutBy_125 rfl (lv_at hl 3 rfl) ?_
  refine gt_X8_35 X hK hG (cd_fix (by decide)) dX8_cutBy_126 ?_
  refine lv_iload hx hb dX8_cutBy_129 (lv_at hl 0 rfl) ?_
  refine al_807 X hK hG (cd_fix (by decide)) (i := 2) (x := nI ((σ.1 504 t9) / 4)) (by omega) rfl dX8_cutBy_131 ?_
  refine lv_iadd hx hb dX8_cutBy_132 ?_
  refine as_201 X hK hG hS hA (cd_obj (by decide) (Or.inr (by decide)) hp) (i := ce σ) (ce_lt h0 h1) dX8_cutBy_133 (fun H locs hG hS => ?_)
  refine r_iincN (b := 1) (lv' := [(5, .int (nI 3)), (4, .int (nI (σ.2.2.1 703 0 0))), (3, .int (nI (ce σ))), (0, .ref (L 899 0)), (1, .ref (L 599 t9)), (2, .ref (L 299 p9))]) hx hb dX8_cutBy_134 hl (k := 0) rfl (by decide) (by decide) rfl (fun ls hl => ?_)
  refine lv_goto (tgt := 108) hx hb dX8_cutBy_137 (by decide) ?_
  refine lv_iload hx hb dX8_cutBy_108 (lv_at hl 0 rfl) ?_
  refine lv_aload_n hx hb dX8_cutBy_110 rfl (lv_at hl 3 rfl) ?_
  refine gt_X8_35 X hK hG (cd_fix (by decide)) dX8_cutBy_111 ?_
  refine pw_alen X hK hG 807 (Or.inr fa_807) (cd_fix (by decide)) (N := 4) rfl dX8_cutBy_114 ?_
  refine r_icmp_geN (tgt := 140) hx hb dX8_cutBy_115 (by decide) (by omega) (by omega) (fun c_115_4 => absurd c_115_4 (by decide)) (fun c_115_4 => ?_)
  refine lv_aload_n hx hb dX8_cutBy_118 rfl (lv_at hl 5 rfl) ?_
  refine gt_X8_282 X hK hG (cd_obj (by decide) (Or.inl (by decide)) hp) dX8_cutBy_119 ?_
  refine lv_iload_n hx hb dX8_cutBy_122 rfl (lv_at hl 2 rfl) ?_
  refine lv_dup2_11 hx hb dX8_cutBy_123 rfl rfl ?_
  refine al_201 X hK hG (cd_obj (by decide) (Or.inr (by decide)) hp) (i := ce σ) (x := ((((nI (1000 * (σ.2.2.1 703 0 2))) + (σ.2.2.2 806 0 (σ.2.2.1 703 0 0))) + (nI (((σ.1 812 0) * (σ.2.2.1 703 0 0)) / 10))) + (nI ((σ.1 504 t9) / 4)))) (ce_lt h0 h1) (by simp [wN, wI, wA, wB, up3, up2, up1]) dX8_cutBy_124 ?_
  refine lv_aload_n hx hb dX8_cutBy_125 rfl (lv_at hl 3 rfl) ?_
  refine gt_X8_35 X hK hG (cd_fix (by decide)) dX8_cutBy_126 ?_
  refine lv_iload hx hb dX8_cutBy_129 (lv_at hl 0 rfl) ?_
  refine al_807 X hK hG (cd_fix (by decide)) (i := 3) (x := (-(σ.2.1 505 t9))) (by omega) rfl dX8_cutBy_131 ?_
  refine lv_iadd hx hb dX8_cutBy_132 ?_
  refine as_201 X hK hG hS hA (cd_obj (by decide) (Or.inr (by decide)) hp) (i := ce σ) (ce_lt h0 h1) dX8_cutBy_133 (fun H locs hG hS => ?_)
  refine r_iincN (b := 1) (lv' := [(5, .int (nI 4)), (4, .int (nI (σ.2.2.1 703 0 0))), (3, .int (nI (ce σ))), (0, .ref (L 899 0)), (1, .ref (L 599 t9)), (2, .ref (L 299 p9))]) hx hb dX8_cutBy_134 hl (k := 0) rfl (by decide) (by decide) rfl (fun ls hl => ?_)
  refine lv_goto (tgt := 108) hx hb dX8_cutBy_137 (by decide) ?_
  refine lv_iload hx hb dX8_cutBy_108 (lv_at hl 0 rfl) ?_
  refine lv_aload_n hx hb dX8_cutBy_110 rfl (lv_at hl 3 rfl) ?_
  refine gt_X8_35 X hK hG (cd_fix (by decide)) dX8_cutBy_111 ?_
  refine pw_alen X hK hG 807 (Or.inr fa_807) (cd_fix (by decide)) (N := 4) rfl dX8_cutBy_114 ?_
  refine r_icmp_geN (tgt := 140) hx hb dX8_cutBy_115 (by decide) (by omega) (by omega) (fun c_115_5 => ?_) (fun c_115_5 => absurd c_115_5 (by decide))
  refine lv_aload_n hx hb dX8_cutBy_140 rfl (lv_at hl 5 rfl) ?_
  refine gt_X8_292 X hK hG (cd_obj (by decide) (Or.inl (by decide)) hp) dX8_cutBy_141 ?_
  refine lv_iload_n hx hb dX8_cutBy_144 rfl (lv_at hl 2 rfl) ?_
  refine lv_aload_n hx hb dX8_cutBy_145 rfl (lv_at hl 4 rfl) ?_
  refine gt_X8_395 X hK hG (cd_obj (by decide) (Or.inl (by decide)) ht) (x := σ.2.1 500 t9) rfl dX8_cutBy_146 ?_
  refine as_202 X hK hG hS hA (cd_obj (by decide) (Or.inr (by decide)) hp) (i := ce σ) (ce_lt h0 h1) dX8_cutBy_149 (fun H locs hG hS => ?_)
  refine lv_aload_n hx hb dX8_cutBy_150 rfl (lv_at hl 5 rfl) ?_
  refine gt_X8_327 X hK hG (cd_obj (by decide) (Or.inl (by decide)) hp) dX8_cutBy_151 ?_
  refine lv_iload_n hx hb dX8_cutBy_154 rfl (lv_at hl 2 rfl) ?_
  refine lv_aload_n hx hb dX8_cutBy_155 rfl (lv_at hl 3 rfl) ?_
  refine rm_callVg X hK hG hS hA2 yvX8_greatestPart ml_X8_398 kX8 rfl (cd_fix (by decide)) [] [.int (nI (ce σ)), .ref (L 203 p9)] (c_X8_greatestPart l L (wB (wB (wB (wB (wB (wB (wB (wB (wB (wB (wB σ 807 0 0 (σ.2.2.2 806 0 (σ.2.2.1 703 0 0))) 807 0 1 (nI (((σ.1 812 0) * (σ.2.2.1 703 0 0)) / 10))) 807 0 2 (nI ((σ.1 504 t9) / 4))) 807 0 3 (-(σ.2.1 505 t9))) 200 p9 (ce σ) (nI (σ.2.2.1 703 0 2))) 201 p9 (ce σ) (nI (1000 * (σ.2.2.1 703 0 2)))) 201 p9 (ce σ) ((nI (1000 * (σ.2.2.1 703 0 2))) + (σ.2.2.2 806 0 (σ.2.2.1 703 0 0)))) 201 p9 (ce σ) (((nI (1000 * (σ.2.2.1 703 0 2))) + (σ.2.2.2 806 0 (σ.2.2.1 703 0 0))) + (nI (((σ.1 812 0) * (σ.2.2.1 703 0 0)) / 10)))) 201 p9 (ce σ) ((((nI (1000 * (σ.2.2.1 703 0 2))) + (σ.2.2.2 806 0 (σ.2.2.1 703 0 0))) + (nI (((σ.1 812 0) * (σ.2.2.1 703 0 0)) / 10))) + (nI ((σ.1 504 t9) / 4)))) 201 p9 (ce σ) (((((nI (1000 * (σ.2.2.1 703 0 2))) + (σ.2.2.2 806 0 (σ.2.2.1 703 0 0))) + (nI (((σ.1 812 0) * (σ.2.2.1 703 0 0)) / 10))) + (nI ((σ.1 504 t9) / 4))) + (-(σ.2.1 505 t9)))) 202 p9 (ce σ) (σ.2.1 500 t9)) ow hI) rfl hl.1 rfl (Nat.le_of_ble_eq_true rfl) ⟨Nat.le_of_ble_eq_true rfl, Nat.le_of_ble_eq_true rfl⟩ ⟨Nat.le_of_ble_eq_true rfl, Nat.le_of_ble_eq_true rfl⟩ dX8_cutBy_156 (fun H locs hG hS => ?_)
  refine as_203 X hK hG hS hA (cd_obj (by decide) (Or.inr (by decide)) hp) (i := ce σ) (ce_lt h0 h1) dX8_cutBy_159 (fun H locs hG hS => ?_)
  refine lv_aload_n hx hb dX8_cutBy_160 rfl (lv_at hl 4 rfl) ?_
  refine lv_dup hx hb dX8_cutBy_161 rfl ?_
  refine gt_X8_315 X hK hG (cd_obj (by decide) (Or.inl (by decide)) ht) (x := σ.1 504 t9) rfl dX8_cutBy_162 ?_
  refine lv_iconst (v := nI 1) hx hb dX8_cutBy_165 (by decide) ?_
  refine r_addN hx hb dX8_cutBy_166 ?_
  refine pt_X8_315 X hK hG hS hA (cd_obj (by decide) (Or.inl (by decide)) ht) dX8_cutBy_167 (fun H locs hG hS => ?_)
  refine lv_aload_n hx hb dX8_cutBy_170 rfl (lv_at hl 3 rfl) ?_
  refine lv_dup hx hb dX8_cutBy_171 rfl ?_
  refine gt_X8_216 X hK hG (cd_fix (by decide)) (x := σ.1 811 0) rfl dX8_cutBy_172 ?_
  refine lv_iconst (v := nI 1) hx hb dX8_cutBy_175 (by decide) ?_
  refine r_addN hx hb dX8_cutBy_176 ?_
  refine pt_X8_216 X hK hG hS hA (cd_fix (by decide)) dX8_cutBy_177 (fun H locs hG hS => ?_)
  refine lv_aload_n hx hb dX8_cutBy_180 rfl (lv_at hl 3 rfl) ?_
  refine lv_bipush (v := nI 99) hx hb dX8_cutBy_181 (by decide) ?_
  refine lv_aload_n hx hb dX8_cutBy_183 rfl (lv_at hl 3 rfl) ?_
  refine gt_X8_222 X hK hG (cd_fix (by decide)) (x := σ.1 812 0) rfl dX8_cutBy_184 ?_
  refine lv_iconst (v := nI 1) hx hb dX8_cutBy_187 (by decide) ?_
  refine r_addN hx hb dX8_cutBy_188 ?_
  refine r_min X hl.1 ml_X8_401 (Nat.le_of_ble_eq_true rfl) (Nat.le_of_ble_eq_true rfl) (Nat.le_of_ble_eq_true rfl) (Nat.le_of_ble_eq_true rfl) dX8_cutBy_189 ?_
  refine r_top (y := nI (if 99 ≤ σ.1 812 0 then 99 else σ.1 812 0 + 1)) (min99 hw) ?_
  refine pt_X8_222 X hK hG hS hA (cd_fix (by decide)) dX8_cutBy_192 (fun H locs hG hS => ?_)
  exact rv_ret hx hb hr hlocks hG hS (rfl) dX8_cutBy_195
