set_option maxRecDepth 100000 in
set_option maxHeartbeats 4000000 in
theorem v_L_isBlock {D : va_G} {cI cZ cO : ClassId} {t0 mi z0 x9 : Nat} {L : Lay} (l : Launch) (hl9 : l.stackTraces = false) (K n q k9 w c9 : Nat) (σ : St) (hq : q < n) (hn : n ≤ 3) (hk : k9 < 12) (hw : w < 8) (hc : c9 < 32) (h36 : σ.2.2.2 901 0 (36 + q) = nI k9) (h10 : σ.2.2.2 905 0 10 = 0) (hB : isB (nI q) (nI w) (nI c9 - nI 16)) : VI D cI cZ cO t0 mi z0 l yL_isBlock cL_isBlock 5 ((some FieldType.boolean)) 8 166 2 12 [.ref x9, .ref (L 901 0), .int (nI q), .int (nI w), .int (nI c9 - nI 16)] (VB9 D cI cZ cO t0 z0 x9 L K n σ) (VB9 D cI cZ cO t0 z0 x9 L K n (h_bw q k9 w c9 σ)) (nI 1) := by
  refine vi_of rfl (Nat.le_of_ble_eq_true rfl) ?_
  intro p e s m args below meth c ls X hK hE hX hP hz hr hlocks hl
  have X : CallFix p m c cL_isBlock 5 s args TB RL := X
  have hx := X.1
  have hb := X.2.1
  have hS : va_S (vA z0) s.heap s.heap [] := va_S.rf
  have hl : lv_has ls 5 [(0, .ref x9), (1, .ref (L 901 0)), (2, .int (nI q)), (3, .int (nI w)), (4, .int (nI c9 - nI 16))] := hl
  obtain ⟨κ, τ, hW, hR, hJ⟩ := hP
  have hG : PW D cI cZ cO vdom L σ (vim L) s.heap := hW.g
  refine lv_aload_n hx hb dL_isBlock_0 rfl (lv_at hl 1 rfl) ?_
  refine lv_bipush (v := nI 36) hx hb dL_isBlock_1 (by decide) ?_
  refine lv_iload_n hx hb dL_isBlock_3 rfl (lv_at hl 2 rfl) ?_
  refine r_addN hx hb dL_isBlock_4 ?_
  refine al_901 X hK hG (vd_1 (by decide)) (i := 36 + q) (x := σ.2.2.2 901 0 (36 + q)) (by omega) rfl dL_isBlock_5 ?_
  refine r_top (y := nI k9) (h36) ?_
  refine lv_bipush (v := nI 12) hx hb dL_isBlock_6 (by decide) ?_
  refine r_icmp_neN (tgt := 13) hx hb dL_isBlock_8 (by decide) (by omega) (by omega) (fun c_8 => ?_) (fun c_8 => absurd c_8 (by omega))
  refine lv_aload_n hx hb dL_isBlock_13 rfl (lv_at hl 1 rfl) ?_
  refine lv_bipush (v := nI 12) hx hb dL_isBlock_14 (by decide) ?_
  refine lv_iload_n hx hb dL_isBlock_16 rfl (lv_at hl 2 rfl) ?_
  refine r_mulN hx hb dL_isBlock_17 ?_
  refine lv_aload_n hx hb dL_isBlock_18 rfl (lv_at hl 1 rfl) ?_
  refine lv_bipush (v := nI 36) hx hb dL_isBlock_19 (by decide) ?_
  refine lv_iload_n hx hb dL_isBlock_21 rfl (lv_at hl 2 rfl) ?_
  refine r_addN hx hb dL_isBlock_22 ?_
  refine al_901 X hK hG (vd_1 (by decide)) (i := 36 + q) (x := σ.2.2.2 901 0 (36 + q)) (by omega) rfl dL_isBlock_23 ?_
  refine r_top (y := nI k9) (h36) ?_
  refine r_addN hx hb dL_isBlock_24 ?_
  refine lv_iload_n hx hb dL_isBlock_25 rfl (lv_at hl 3 rfl) ?_
  refine lv_bipush (v := nI 8) hx hb dL_isBlock_26 (by decide) ?_
  refine lv_iload hx hb dL_isBlock_28 (lv_at hl 4 rfl) ?_
  refine lv_bipush (v := nI 16) hx hb dL_isBlock_30 (by decide) ?_
  refine lv_iadd hx hb dL_isBlock_32 ?_
  refine r_top (y := nI c9) (Int32.sub_add_cancel _ _) ?_
  refine r_mulN hx hb dL_isBlock_33 ?_
  refine r_addN hx hb dL_isBlock_34 ?_
  refine vs_I X hK hW hS 901 fa_901 (vd_1 (by decide)) (i := 12 * q + k9) (N := 39) rfl (by omega) (by decide) dL_isBlock_35 (fun H locs hW hS => ?_)
  have hG : PW D cI cZ cO vdom L (wB σ 901 0 (12 * q + k9) (nI (w + (8 * c9)))) (vim L) H := hW.g
  refine lv_aload_n hx hb dL_isBlock_36 rfl (lv_at hl 1 rfl) ?_
  refine lv_bipush (v := nI 36) hx hb dL_isBlock_37 (by decide) ?_
  refine lv_iload_n hx hb dL_isBlock_39 rfl (lv_at hl 2 rfl) ?_
  refine r_addN hx hb dL_isBlock_40 ?_
  refine lv_dup2_11 hx hb dL_isBlock_41 rfl rfl ?_
  refine al_901 X hK hG (vd_1 (by decide)) (i := 36 + q) (x := σ.2.2.2 901 0 (36 + q)) (by omega) ((show (wB σ 901 0 (12 * q + k9) (nI (w + (8 * c9)))).2.2.2 901 0 (36 + q) = _ from e_ne (σ := σ) (F := 901) (k := 0) (i := (12 * q + k9)) (j := (36 + q)) (v := (nI (w + (8 * c9)))) (by omega)).trans rfl) dL_isBlock_42 ?_
  refine r_top (y := nI k9) (h36) ?_
  refine lv_iconst (v := nI 1) hx hb dL_isBlock_43 (by decide) ?_
  refine r_addN hx hb dL_isBlock_44 ?_
  refine vs_I X hK hW hS 901 fa_901 (vd_1 (by decide)) (i := 36 + q) (N := 39) rfl (by omega) (by decide) dL_isBlock_45 (fun H locs hW hS => ?_)
  have hG : PW D cI cZ cO vdom L (wB (wB σ 901 0 (12 * q + k9) (nI (w + (8 * c9)))) 901 0 (36 + q) (nI (k9 + 1))) (vim L) H := hW.g
  refine lv_aload_n hx hb dL_isBlock_46 rfl (lv_at hl 0 rfl) ?_
  refine lv_iload_n hx hb dL_isBlock_47 rfl (lv_at hl 2 rfl) ?_
  refine lv_iload_n hx hb dL_isBlock_48 rfl (lv_at hl 3 rfl) ?_
  refine lv_iload hx hb dL_isBlock_49 (lv_at hl 4 rfl) ?_
  refine v_oq X hK hE hX hW hS yvX8_block ml_L_118 [.int (nI q), .int (nI w), .int (nI c9 - nI 16)] [] (Q_block hl9 hR hJ hq hn hk hw hc h36 h10 hB) rfl hl.1 rfl (Nat.le_of_ble_eq_true rfl) ⟨Nat.le_of_ble_eq_true rfl, Nat.le_of_ble_eq_true rfl⟩ ⟨Nat.le_of_ble_eq_true rfl, Nat.le_of_ble_eq_true rfl⟩ dL_isBlock_51 (fun κ τ H locs hW hR hJ hS => ?_)
  have hG : PW D cI cZ cO vdom L (wB (wB σ 901 0 (12 * q + k9) (nI (w + (8 * c9)))) 901 0 (36 + q) (nI (k9 + 1))) (vim L) H := hW.g
  refine lv_aload_n hx hb dL_isBlock_54 rfl (lv_at hl 1 rfl) ?_
  refine lv_bipush (v := nI 36) hx hb dL_isBlock_55 (by decide) ?_
  refine lv_iload_n hx hb dL_isBlock_57 rfl (lv_at hl 2 rfl) ?_
  refine r_addN hx hb dL_isBlock_58 ?_
  refine al_901 X hK hG (vd_1 (by decide)) (i := 36 + q) (x := nI (k9 + 1)) (by omega) (by simp [wN, wI, wA, wB, up3, up2, up1]) dL_isBlock_59 ?_
  refine r_icmp_neN (tgt := 67) hx hb dL_isBlock_60 (by decide) (by omega) (by omega) (fun c_60 => absurd rfl c_60) (fun c_60 => ?_)
  refine lv_iconst (v := nI 1) hx hb dL_isBlock_63 (by decide) ?_
  refine lv_goto (tgt := 68) hx hb dL_isBlock_64 (by decide) ?_
  exact vi_ret X hr hlocks (⟨κ, τ, hW, hR, hJ⟩) hS (rfl) (Nat.le_of_ble_eq_true rfl) (Nat.le_of_ble_eq_true rfl) rfl dL_isBlock_68
