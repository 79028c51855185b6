set_option maxRecDepth 100000 in
set_option maxHeartbeats 4000000 in
theorem v_L_isClamp {D : va_G} {cI cZ cO : ClassId} {t0 mi z0 x9 : Nat} {L : Lay} (l : Launch) (hl9 : l.stackTraces = false) (K q z : Nat) (hq : q < 2) (hz9 : z < 1000000000) : VI D cI cZ cO t0 mi z0 l yL_isClamp cL_isClamp 9 ((some FieldType.boolean)) 8 168 3 18 [.ref x9, .ref (L 900 q), .ref (L 905 0), .int (nI q), .int (nI z)] (VQ D cI cZ cO t0 z0 x9 L K) (VQ D cI cZ cO t0 z0 x9 L K) (nI 1) := by
  refine vi_of rfl (Nat.le_of_ble_eq_true rfl) ?_
  intro p e s m args below meth c ls X hK hE hX hP hz hr hlocks hl
  have X : CallFix p m c cL_isClamp 9 s args TB RL := X
  have hx := X.1
  have hb := X.2.1
  have hS : va_S (vA z0) s.heap s.heap [] := va_S.rf
  have hl : lv_has ls 9 [(0, .ref x9), (1, .ref (L 900 q)), (2, .ref (L 905 0)), (3, .int (nI q)), (4, .int (nI z))] := hl
  obtain ⟨κ, σ, τ, hW, hR, hJ⟩ := hP
  have hG : PW D cI cZ cO vdom L σ (vim L) s.heap := hW.g
  have hN2 : σ.2.2.1 902 0 0 = 36 := hJ.1.1
  have hN3 : σ.2.2.1 903 0 0 = 37 := hJ.1.2.1
  have hN5 : σ.2.2.1 905 0 0 = 11 := hJ.1.2.2
  have hC9 := hJ.c62 hq
  refine lv_iload hx hb dL_isClamp_0 (lv_at hl 4 rfl) ?_
  refine lv_bipush (v := nI 48) hx hb dL_isClamp_2 (by decide) ?_
  refine r_remN hx hb (by omega) (by decide) (by decide) dL_isClamp_4 ?_
  refine lv_istore (lv' := [(5, .int (nI (z % 48))), (0, .ref x9), (1, .ref (L 900 q)), (2, .ref (L 905 0)), (3, .int (nI q)), (4, .int (nI z))]) hx hb dL_isClamp_5 hl (by decide) rfl (fun ls hl => ?_)
  refine lv_iconst (v := nI 0) hx hb dL_isClamp_7 (by decide) ?_
  refine lv_istore (lv' := [(6, .int (nI 0)), (5, .int (nI (z % 48))), (0, .ref x9), (1, .ref (L 900 q)), (2, .ref (L 905 0)), (3, .int (nI q)), (4, .int (nI z))]) hx hb dL_isClamp_8 hl (by decide) rfl (fun ls hl => ?_)
  refine lv_iconst (v := nI 0) hx hb dL_isClamp_10 (by decide) ?_
  refine lv_istore (lv' := [(7, .int (nI 0)), (6, .int (nI 0)), (5, .int (nI (z % 48))), (0, .ref x9), (1, .ref (L 900 q)), (2, .ref (L 905 0)), (3, .int (nI q)), (4, .int (nI z))]) hx hb dL_isClamp_11 hl (by decide) rfl (fun ls hl => ?_)
  refine r_loopP (ι := Nat) (fun (k9 : Nat) => [(0, .ref x9), (1, .ref (L 900 q)), (2, .ref (L 905 0)), (3, .int (nI q)), (4, .int (nI z)), (5, .int (nI (z % 48))), (6, .int (nI (cntC (σ.2.2.1 900 q) k9))), (7, .int (nI k9))]) (fun (k9 : Nat) => (fun H => Vd D cI cZ cO t0 z0 x9 L κ σ H)) (fun (k9 : Nat) => 48 - k9) (fun (k9 : Nat) => k9 ≤ 48) (fun _ => 0) (fun _ => 0) 0 (Nat.zero_le _) hW hS (lv_sub hl [3, 4, 5, 6, 7, 2, 1, 0] rfl) rfl rfl ?_
  rintro k9 hinv ih H locs ls hW hS hl
  have hW : Vd D cI cZ cO t0 z0 x9 L κ σ H := hW
  have hG : PW D cI cZ cO vdom L σ (vim L) H := hW.g
  have hl : lv_has ls 9 [(0, .ref x9), (1, .ref (L 900 q)), (2, .ref (L 905 0)), (3, .int (nI q)), (4, .int (nI z)), (5, .int (nI (z % 48))), (6, .int (nI (cntC (σ.2.2.1 900 q) k9))), (7, .int (nI k9))] := hl
  obtain hk9 := hinv
  refine lv_iload hx hb dL_isClamp_13 (lv_at hl 7 rfl) ?_
  refine lv_bipush (v := nI 48) hx hb dL_isClamp_15 (by decide) ?_
  refine r_icmp_geN (tgt := 52) hx hb dL_isClamp_17 (by decide) (by omega) (by omega) (fun c_17 => ?_) (fun c_17 => ?_)
  · have hk48 : k9 = 48 := by omega
    have hcn := cntC_le (σ.2.2.1 900 q) k9
    refine lv_aload_n hx hb dL_isClamp_52 rfl (lv_at hl 2 rfl) ?_
    refine lv_iconst (v := nI 4) hx hb dL_isClamp_53 (by decide) ?_
    refine lv_iload_n hx hb dL_isClamp_54 rfl (lv_at hl 3 rfl) ?_
    refine r_mulN hx hb dL_isClamp_55 ?_
    refine pw_ald8 X hK hG 905 fa_905 (vd_1 (by decide)) (i := 4 * q) (N := σ.2.2.1 905 0 0) (x := σ.2.2.2 905 0 (4 * q)) rfl (by omega) (by omega) rfl dL_isClamp_56 ?_
    refine lv_if_gt (tgt := 82) hx hb dL_isClamp_57 (by decide) (fun c_57 => ?_) (fun c_57 => ?_)
    · refine lv_iconst (v := nI 1) hx hb dL_isClamp_82 (by decide) ?_
      exact vi_ret X hr hlocks (⟨κ, _, τ, hW, hR, hJ⟩) hS (rfl) (Nat.le_of_ble_eq_true rfl) (Nat.le_of_ble_eq_true rfl) rfl dL_isClamp_83
    · refine lv_iload hx hb dL_isClamp_60 (lv_at hl 6 rfl) ?_
      refine lv_iconst (v := nI 3) hx hb dL_isClamp_62 (by decide) ?_
      refine r_icmp_eqN (tgt := 82) hx hb dL_isClamp_63 (by decide) (by omega) (by decide) (fun c_63 => ?_) (fun c_63 => ?_)
      · refine lv_iconst (v := nI 1) hx hb dL_isClamp_82 (by decide) ?_
        exact vi_ret X hr hlocks (⟨κ, _, τ, hW, hR, hJ⟩) hS (rfl) (Nat.le_of_ble_eq_true rfl) (Nat.le_of_ble_eq_true rfl) rfl dL_isClamp_83
      · refine lv_aload_n hx hb dL_isClamp_66 rfl (lv_at hl 1 rfl) ?_
        refine lv_iload hx hb dL_isClamp_67 (lv_at hl 5 rfl) ?_
        refine al_900 X hK hG (vd_0 (by omega)) (i := z % 48) (x := σ.2.2.1 900 q (z % 48)) (by omega) rfl dL_isClamp_69 ?_
        refine lv_bipush (v := nI 44) hx hb dL_isClamp_70 (by decide) ?_
        refine r_lshrJ hx hb (v := (σ.2.2.1 900 q (z % 48)) / 17592186044416) (hC9 (z % 48)) (by decide) rfl dL_isClamp_72 ?_
        refine r_ldc2J X (n := 15) kl_9 (by decide) dL_isClamp_73 ?_
        refine r_landJ hx hb (v := ((σ.2.2.1 900 q (z % 48)) / 17592186044416) % 16) (and_m (k := 4) rfl rfl) dL_isClamp_76 ?_
        refine lv_lconst (v := lJ 0) hx hb dL_isClamp_77 rfl ?_
        refine r_lcmpJ hx hb (by omega) dL_isClamp_78 ?_
        refine r_if_leN (tgt := 84) hx hb dL_isClamp_79 (by decide) (by split <;> decide) (fun c_79 => ?_) (fun c_79 => ?_)
        · have hz0 : σ.2.2.1 900 q (z % 48) / 17592186044416 % 16 = 0 := z01 c_79
          have h905 := q_zero hJ hq c_57
          have hlt := hJ.c48 hq (by omega) hz0
          refine lv_iconst (v := nI 1) hx hb dL_isClamp_84 (by decide) ?_
          refine lv_iload hx hb dL_isClamp_85 (lv_at hl 4 rfl) ?_
          refine lv_bipush (v := nI 48) hx hb dL_isClamp_87 (by decide) ?_
          refine r_divN hx hb (by omega) (by decide) (by decide) dL_isClamp_89 ?_
          refine lv_bipush (v := nI 9) hx hb dL_isClamp_90 (by decide) ?_
          refine r_remN hx hb (by omega) (by decide) (by decide) dL_isClamp_92 ?_
          refine r_addN hx hb dL_isClamp_93 ?_
          refine r_i2lJ hx hb (by omega) dL_isClamp_94 ?_
          refine lv_lstore (lv' := [(7, .long (lJ (1 + ((z / 48) % 9)))), (0, .ref x9), (1, .ref (L 900 q)), (2, .ref (L 905 0)), (3, .int (nI q)), (4, .int (nI z)), (5, .int (nI (z % 48))), (6, .int (nI (cntC (σ.2.2.1 900 q) k9)))]) hx hb dL_isClamp_95 hl (by decide) rfl (fun ls hl => ?_)
          refine lv_aload_n hx hb dL_isClamp_97 rfl (lv_at hl 2 rfl) ?_
          refine lv_iload hx hb dL_isClamp_98 (lv_at hl 6 rfl) ?_
          refine lv_dup2_11 hx hb dL_isClamp_100 rfl rfl ?_
          refine al_900 X hK hG (vd_0 (by omega)) (i := z % 48) (x := σ.2.2.1 900 q (z % 48)) (by omega) rfl dL_isClamp_101 ?_
          refine lv_lload hx hb dL_isClamp_102 (lv_at hl 0 rfl) ?_
          refine lv_bipush (v := nI 44) hx hb dL_isClamp_104 (by decide) ?_
          refine r_lshlJ hx hb (v := (1 + ((z / 48) % 9)) * 17592186044416) (by decide) rfl dL_isClamp_106 ?_
          refine r_lorJ hx hb (v := clw (σ.2.2.1 900 q (z % 48)) (1 + z / 48 % 9)) (or_clw hlt) dL_isClamp_107 ?_
          refine vs_J X hK hW hS 900 fa_900 (vd_0 (by omega)) (i := z % 48) (N := 48) (x := clw (σ.2.2.1 900 q (z % 48)) (1 + z / 48 % 9)) rfl (by omega) (by decide) dL_isClamp_108 (fun H locs hW hS => ?_)
          have hG : PW D cI cZ cO vdom L (wA σ 900 q (z % 48) (clw (σ.2.2.1 900 q (z % 48)) (1 + z / 48 % 9))) (vim L) H := hW.g
          refine lv_aload_n hx hb dL_isClamp_109 rfl (lv_at hl 1 rfl) ?_
          refine lv_iload_n hx hb dL_isClamp_110 rfl (lv_at hl 4 rfl) ?_
          refine lv_iload hx hb dL_isClamp_111 (lv_at hl 6 rfl) ?_
          refine lv_bipush (v := nI 12) hx hb dL_isClamp_113 (by decide) ?_
          refine r_remN hx hb (by omega) (by decide) (by decide) dL_isClamp_115 ?_
          refine lv_iload hx hb dL_isClamp_116 (lv_at hl 6 rfl) ?_
          refine lv_bipush (v := nI 12) hx hb dL_isClamp_118 (by decide) ?_
          refine r_divN hx hb (by omega) (by decide) (by decide) dL_isClamp_120 ?_
          refine lv_lload hx hb dL_isClamp_121 (lv_at hl 0 rfl) ?_
          refine r_l2iJ hx hb dL_isClamp_123 ?_
          refine v_oq X hK hE hX hW hS yvX8_clamp ml_L_140 [.int (nI q), .int (nI ((z % 48) % 12)), .int (nI ((z % 48) / 12)), .int (nI (1 + ((z / 48) % 9)))] [] (Q_clamp hl9 hR hJ (h := 1 + z / 48 % 9) hq (by omega) h905 hz0 (fun y => c_63 (by rw [hk48]; exact y)) (by omega) (by omega)) rfl hl.1 rfl (Nat.le_of_ble_eq_true rfl) ⟨Nat.le_of_ble_eq_true rfl, Nat.le_of_ble_eq_true rfl⟩ ⟨Nat.le_of_ble_eq_true rfl, Nat.le_of_ble_eq_true rfl⟩ dL_isClamp_124 (fun κ τ H locs hW hR hJ hS => ?_)
          have hG : PW D cI cZ cO vdom L (wA σ 900 q (z % 48) (clw (σ.2.2.1 900 q (z % 48)) (1 + z / 48 % 9))) (vim L) H := hW.g
          refine r_top (y := nI (cntC (σ.2.2.1 900 q) k9 + 1)) (by rw [hk48]) ?_
          refine lv_iload hx hb dL_isClamp_127 (lv_at hl 7 rfl) ?_
          refine lv_iconst (v := nI 1) hx hb dL_isClamp_129 (by decide) ?_
          refine r_addN hx hb dL_isClamp_130 ?_
          refine r_icmp_neN (tgt := 138) hx hb dL_isClamp_131 (by decide) (by omega) (by omega) (fun c_131 => absurd rfl c_131) (fun c_131 => ?_)
          refine lv_iconst (v := nI 1) hx hb dL_isClamp_134 (by decide) ?_
          refine lv_goto (tgt := 139) hx hb dL_isClamp_135 (by decide) ?_
          exact vi_ret X hr hlocks (⟨κ, _, τ, hW, hR, hJ⟩) hS (rfl) (Nat.le_of_ble_eq_true rfl) (Nat.le_of_ble_eq_true rfl) rfl dL_isClamp_139
        · refine lv_iconst (v := nI 1) hx hb dL_isClamp_82 (by decide) ?_
          exact vi_ret X hr hlocks (⟨κ, _, τ, hW, hR, hJ⟩) hS (rfl) (Nat.le_of_ble_eq_true rfl) (Nat.le_of_ble_eq_true rfl) rfl dL_isClamp_83
  · refine lv_iload hx hb dL_isClamp_20 (lv_at hl 6 rfl) ?_
    refine r_cutV (P := fun H => Vd D cI cZ cO t0 z0 x9 L κ σ H) 43 [.int (nI (if σ.2.2.1 900 q k9 / 17592186044416 % 16 = 0 then 0 else 1)), .int (nI (cntC (σ.2.2.1 900 q) k9))] hW hS (fun H locs hW hS => ?_) (fun J_43 => ?_)
    · have hW : Vd D cI cZ cO t0 z0 x9 L κ σ H := hW
      have hG : PW D cI cZ cO vdom L σ (vim L) H := hW.g
      refine r_addN hx hb dL_isClamp_43 ?_
      refine r_top (y := nI (cntC (σ.2.2.1 900 q) (k9 + 1))) (congrArg nI (cntC_s _ _)) ?_
      refine lv_istore (lv' := [(6, .int (nI (cntC (σ.2.2.1 900 q) (k9 + 1)))), (0, .ref x9), (1, .ref (L 900 q)), (2, .ref (L 905 0)), (3, .int (nI q)), (4, .int (nI z)), (5, .int (nI (z % 48))), (7, .int (nI k9))]) hx hb dL_isClamp_44 hl (by decide) rfl (fun ls hl => ?_)
      refine r_iincN (b := 1) (lv' := [(7, .int (nI (k9 + 1))), (6, .int (nI (cntC (σ.2.2.1 900 q) (k9 + 1)))), (0, .ref x9), (1, .ref (L 900 q)), (2, .ref (L 905 0)), (3, .int (nI q)), (4, .int (nI z)), (5, .int (nI (z % 48)))]) hx hb dL_isClamp_46 hl (k := 7) rfl (by decide) (by decide) rfl (fun ls hl => ?_)
      refine lv_goto (tgt := 13) hx hb dL_isClamp_49 (by decide) ?_
      exact ih (k9 + 1) (by show 48 - (k9 + 1) < 48 - k9; omega) (by show k9 + 1 ≤ 48; omega) H locs ls (hW) hS (lv_sub hl [2, 3, 4, 5, 6, 7, 1, 0] rfl)
    · refine lv_aload_n hx hb dL_isClamp_22 rfl (lv_at hl 1 rfl) ?_
      refine lv_iload hx hb dL_isClamp_23 (lv_at hl 7 rfl) ?_
      refine al_900 X hK hG (vd_0 (by omega)) (i := k9) (x := σ.2.2.1 900 q k9) (by omega) rfl dL_isClamp_25 ?_
      refine lv_bipush (v := nI 44) hx hb dL_isClamp_26 (by decide) ?_
      refine r_lshrJ hx hb (v := (σ.2.2.1 900 q k9) / 17592186044416) (hC9 k9) (by decide) rfl dL_isClamp_28 ?_
      refine r_ldc2J X (n := 15) kl_9 (by decide) dL_isClamp_29 ?_
      refine r_landJ hx hb (v := ((σ.2.2.1 900 q k9) / 17592186044416) % 16) (and_m (k := 4) rfl rfl) dL_isClamp_32 ?_
      refine lv_lconst (v := lJ 0) hx hb dL_isClamp_33 rfl ?_
      refine r_lcmpJ hx hb (by omega) dL_isClamp_34 ?_
      refine r_if_leN (tgt := 42) hx hb dL_isClamp_35 (by decide) (by split <;> decide) (fun c_35 => ?_) (fun c_35 => ?_)
      · refine lv_iconst (v := nI 0) hx hb dL_isClamp_42 (by decide) ?_
        exact r_top (congrArg nI c_35.symm) (J_43 _ _ hW hS)
      · refine lv_iconst (v := nI 1) hx hb dL_isClamp_38 (by decide) ?_
        refine lv_goto (tgt := 43) hx hb dL_isClamp_39 (by decide) ?_
        exact r_top (congrArg nI (one01 c_35).symm) (J_43 _ _ hW hS)
set_option maxRecDepth 100000 in
set_option maxHeartbeats 4000000 in
theorem v_L_isPlanned {D : va_G} {cI cZ cO : ClassId} {t0 mi z0 x9 : Nat} {L : Lay} (l : Launch) (hl9 : l.stackTraces = false) (K q pr : Nat) (hq : q < 2) (hpr : pr < 3) : VI D cI cZ cO t0 mi z0 l yL_isPlanned cL_isPlanned 9 ((some FieldType.boolean)) 15 503 7 98 [.ref x9, .ref (L 900 q), .ref (L 901 0), .ref (L 902 0), .ref (L 903 0), .ref (L 904 0), .ref (L 905 0), .int (nI q), .int (nI pr)] (VQ D cI cZ cO t0 z0 x9 L K) (VQ D cI cZ cO t0 z0 x9 L K) (nI 1) := by
  refine vi_of rfl (Nat.le_of_ble_eq_true rfl) ?_
  intro p e s m args below meth c ls X hK hE hX hP hz hr hlocks hl
  have X : CallFix p m c cL_isPlanned 9 s args TB RL := X
  have hx := X.1
  have hb := X.2.1
  have hS : va_S (vA z0) s.heap s.heap [] := va_S.rf
  have hl : lv_has ls 9 [(0, .ref x9), (1, .ref (L 900 q)), (2, .ref (L 901 0)), (3, .ref (L 902 0)), (4, .ref (L 903 0)), (5, .ref (L 904 0)), (6, .ref (L 905 0)), (7, .int (nI q)), (8, .int (nI pr))] := hl
  obtain ⟨κ, σ, τ, hW, hR, hJ⟩ := hP
  have hG : PW D cI cZ cO vdom L σ (vim L) s.heap := hW.g
  have hN2 : σ.2.2.1 902 0 0 = 36 := hJ.1.1
  have hN3 : σ.2.2.1 903 0 0 = 37 := hJ.1.2.1
  have hN5 : σ.2.2.1 905 0 0 = 11 := hJ.1.2.2
  have hgeR : 0 ≤ (h_run 2 0 0 pr 0 0 (cpj q 2 48 σ)).1 := by rw [(cp_sim (fr := 0) hJ hq hpr).2.1]; exact runs0_ge _ _ _ _
  refine lv_aload hx hb dL_isPlanned_0 (lv_at hl 6 rfl) ?_
  refine lv_iconst (v := nI 4) hx hb dL_isPlanned_2 (by decide) ?_
  refine lv_iload hx hb dL_isPlanned_3 (lv_at hl 7 rfl) ?_
  refine r_mulN hx hb dL_isPlanned_5 ?_
  refine pw_ald8 X hK hG 905 fa_905 (vd_1 (by decide)) (i := 4 * q) (N := σ.2.2.1 905 0 0) (x := σ.2.2.2 905 0 (4 * q)) rfl (by omega) (by omega) rfl dL_isPlanned_6 ?_
  refine lv_if_gt (tgt := 30) hx hb dL_isPlanned_7 (by decide) (fun c_7 => ?_) (fun c_7 => ?_)
  · refine lv_iconst (v := nI 1) hx hb dL_isPlanned_30 (by decide) ?_
    exact vi_ret X hr hlocks (⟨κ, _, τ, hW, hR, hJ⟩) hS (rfl) (Nat.le_of_ble_eq_true rfl) (Nat.le_of_ble_eq_true rfl) rfl dL_isPlanned_31
  · refine lv_aload_n hx hb dL_isPlanned_10 rfl (lv_at hl 1 rfl) ?_
    refine x_cp X hK (VX.of hW) hS (kr := q) 2 vd_LD (vd_0 (by omega)) (nd_9 (by decide)) rfl hl.1 (Nat.le_of_ble_eq_true rfl) ⟨Nat.le_of_ble_eq_true rfl, Nat.le_of_ble_eq_true rfl⟩ ⟨Nat.le_of_ble_eq_true rfl, Nat.le_of_ble_eq_true rfl⟩ dL_isPlanned_11 (fun a9 H locs hV hS => ?_)
    refine lv_aload_n hx hb dL_isPlanned_14 rfl (lv_at hl 2 rfl) ?_
    refine lv_aload_n hx hb dL_isPlanned_15 rfl (lv_at hl 3 rfl) ?_
    refine lv_aload hx hb dL_isPlanned_16 (lv_at hl 4 rfl) ?_
    refine lv_aload hx hb dL_isPlanned_18 (lv_at hl 5 rfl) ?_
    refine lv_iload hx hb dL_isPlanned_20 (lv_at hl 8 rfl) ?_
    refine lv_iconst (v := nI 0) hx hb dL_isPlanned_22 (by decide) ?_
    refine lv_iconst (v := nI 0) hx hb dL_isPlanned_23 (by decide) ?_
    refine x_run X hK hJ (q := q) (pr := pr) (fr := 0) (a := a9) (rest := []) (by omega) (by omega) (by decide) hV hS (idx := 33) ml_L_33 rfl hl.1 (Nat.le_of_ble_eq_true rfl) ⟨Nat.le_of_ble_eq_true rfl, Nat.le_of_ble_eq_true rfl⟩ ⟨Nat.le_of_ble_eq_true rfl, Nat.le_of_ble_eq_true rfl⟩ dL_isPlanned_24 (fun σ2 H locs hσ2 hW hS => ?_)
    have hG : PW D cI cZ cO vdom L σ2 (vim L) H := hW.g
    refine lv_if_le (tgt := 32) hx hb dL_isPlanned_27 (by decide) (fun c_27 => ?_) (fun c_27 => ?_)
    · have h905 := q_zero hJ hq c_7
      have hw0 : (h_run 2 0 0 pr 0 0 (cpj q 2 48 σ)).1 = 0 := Int32.le_antisymm c_27 hgeR
      have hN5 : σ2.2.2.1 905 0 0 = 11 := by rw [hσ2]; exact hN5
      have e10 : σ2.2.2.2 905 = σ.2.2.2 905 := by rw [hσ2]; exact xS9_o (by decide)
      have hq1 := q_le1 hR hJ hq h905
      have t10 : tn (σ2.2.2.2 905 0 10) = τ.1 926 0 := by rw [e10, hq1.2, tn_nI (by omega)]
      have hq10 : σ2.2.2.2 905 0 10 = nI (tn (σ2.2.2.2 905 0 10)) := by rw [t10, e10]; exact hq1.2
      have h26 : tn (σ2.2.2.2 905 0 10) ≤ 1 := by rw [t10]; exact hq1.1
      refine lv_aload hx hb dL_isPlanned_32 (lv_at hl 6 rfl) ?_
      refine lv_iconst (v := nI 4) hx hb dL_isPlanned_34 (by decide) ?_
      refine lv_iload hx hb dL_isPlanned_35 (lv_at hl 7 rfl) ?_
      refine r_mulN hx hb dL_isPlanned_37 ?_
      refine lv_iconst (v := nI 1) hx hb dL_isPlanned_38 (by decide) ?_
      refine vs_8 X hK hW hS 905 fa_905 (vd_1 (by decide)) (i := 4 * q) (N := σ2.2.2.1 905 0 0) rfl (by omega) (by omega) dL_isPlanned_39 (fun H locs hW hS => ?_)
      have hG : PW D cI cZ cO vdom L (wB σ2 905 0 (4 * q) (nI 1)) (vim L) H := hW.g
      refine lv_aload hx hb dL_isPlanned_40 (lv_at hl 6 rfl) ?_
      refine lv_iconst (v := nI 4) hx hb dL_isPlanned_42 (by decide) ?_
      refine lv_iload hx hb dL_isPlanned_43 (lv_at hl 7 rfl) ?_
      refine r_mulN hx hb dL_isPlanned_45 ?_
      refine lv_iconst (v := nI 1) hx hb dL_isPlanned_46 (by decide) ?_
      refine r_addN hx hb dL_isPlanned_47 ?_
      refine lv_iload hx hb dL_isPlanned_48 (lv_at hl 8 rfl) ?_
      refine vs_8 X hK hW hS 905 fa_905 (vd_1 (by decide)) (i := 4 * q + 1) (N := σ2.2.2.1 905 0 0) rfl (by omega) (by omega) dL_isPlanned_50 (fun H locs hW hS => ?_)
      have hG : PW D cI cZ cO vdom L (wB (wB σ2 905 0 (4 * q) (nI 1)) 905 0 (4 * q + 1) (nI pr)) (vim L) H := hW.g
      refine lv_aload hx hb dL_isPlanned_51 (lv_at hl 6 rfl) ?_
      refine lv_bipush (v := nI 8) hx hb dL_isPlanned_53 (by decide) ?_
      refine lv_aload hx hb dL_isPlanned_55 (lv_at hl 6 rfl) ?_
      refine lv_bipush (v := nI 10) hx hb dL_isPlanned_57 (by decide) ?_
      refine pw_ald8 X hK hG 905 fa_905 (vd_1 (by decide)) (i := 10) (N := σ2.2.2.1 905 0 0) (x := σ2.2.2.2 905 0 10) rfl (by omega) (by omega) ((show (wB (wB σ2 905 0 (4 * q) (nI 1)) 905 0 (4 * q + 1) (nI pr)).2.2.2 905 0 10 = _ from e_ne (σ := (wB σ2 905 0 (4 * q) (nI 1))) (F := 905) (k := 0) (i := (4 * q + 1)) (j := 10) (v := (nI pr)) (by omega)).trans ((show (wB σ2 905 0 (4 * q) (nI 1)).2.2.2 905 0 10 = _ from e_ne (σ := σ2) (F := 905) (k := 0) (i := (4 * q)) (j := 10) (v := (nI 1)) (by omega)).trans rfl)) dL_isPlanned_59 ?_
      refine r_top (y := nI (tn (σ2.2.2.2 905 0 10))) (hq10) ?_
      refine r_addN hx hb dL_isPlanned_60 ?_
      refine lv_iload hx hb dL_isPlanned_61 (lv_at hl 7 rfl) ?_
      refine vs_8 X hK hW hS 905 fa_905 (vd_1 (by decide)) (i := 8 + (tn (σ2.2.2.2 905 0 10))) (N := σ2.2.2.1 905 0 0) rfl (by omega) (by omega) dL_isPlanned_63 (fun H locs hW hS => ?_)
      have hG : PW D cI cZ cO vdom L (wB (wB (wB σ2 905 0 (4 * q) (nI 1)) 905 0 (4 * q + 1) (nI pr)) 905 0 (8 + (tn (σ2.2.2.2 905 0 10))) (nI q)) (vim L) H := hW.g
      refine lv_aload hx hb dL_isPlanned_64 (lv_at hl 6 rfl) ?_
      refine lv_bipush (v := nI 10) hx hb dL_isPlanned_66 (by decide) ?_
      refine lv_dup2_11 hx hb dL_isPlanned_68 rfl rfl ?_
      refine pw_ald8 X hK hG 905 fa_905 (vd_1 (by decide)) (i := 10) (N := σ2.2.2.1 905 0 0) (x := σ2.2.2.2 905 0 10) rfl (by omega) (by omega) ((show (wB (wB (wB σ2 905 0 (4 * q) (nI 1)) 905 0 (4 * q + 1) (nI pr)) 905 0 (8 + (tn (σ2.2.2.2 905 0 10))) (nI q)).2.2.2 905 0 10 = _ from e_ne (σ := (wB (wB σ2 905 0 (4 * q) (nI 1)) 905 0 (4 * q + 1) (nI pr))) (F := 905) (k := 0) (i := (8 + (tn (σ2.2.2.2 905 0 10)))) (j := 10) (v := (nI q)) (by omega)).trans ((show (wB (wB σ2 905 0 (4 * q) (nI 1)) 905 0 (4 * q + 1) (nI pr)).2.2.2 905 0 10 = _ from e_ne (σ := (wB σ2 905 0 (4 * q) (nI 1))) (F := 905) (k := 0) (i := (4 * q + 1)) (j := 10) (v := (nI pr)) (by omega)).trans ((show (wB σ2 905 0 (4 * q) (nI 1)).2.2.2 905 0 10 = _ from e_ne (σ := σ2) (F := 905) (k := 0) (i := (4 * q)) (j := 10) (v := (nI 1)) (by omega)).trans rfl))) dL_isPlanned_69 ?_
      refine r_top (y := nI (tn (σ2.2.2.2 905 0 10))) (hq10) ?_
      refine lv_iconst (v := nI 1) hx hb dL_isPlanned_70 (by decide) ?_
      refine r_addN hx hb dL_isPlanned_71 ?_
      refine vs_8 X hK hW hS 905 fa_905 (vd_1 (by decide)) (i := 10) (N := σ2.2.2.1 905 0 0) rfl (by omega) (by omega) dL_isPlanned_72 (fun H locs hW hS => ?_)
      have hG : PW D cI cZ cO vdom L (wB (wB (wB (wB σ2 905 0 (4 * q) (nI 1)) 905 0 (4 * q + 1) (nI pr)) 905 0 (8 + (tn (σ2.2.2.2 905 0 10))) (nI q)) 905 0 10 (nI ((tn (σ2.2.2.2 905 0 10)) + 1))) (vim L) H := hW.g
      refine lv_aload_n hx hb dL_isPlanned_73 rfl (lv_at hl 0 rfl) ?_
      refine lv_iload hx hb dL_isPlanned_74 (lv_at hl 7 rfl) ?_
      refine lv_iload hx hb dL_isPlanned_76 (lv_at hl 8 rfl) ?_
      refine v_oq X hK hE hX hW hS yvX8_plan ml_L_143 [.int (nI q), .int (nI pr)] [] (Q_plan2 hl9 hR hJ hq hpr h905 hw0 hσ2) rfl hl.1 rfl (Nat.le_of_ble_eq_true rfl) ⟨Nat.le_of_ble_eq_true rfl, Nat.le_of_ble_eq_true rfl⟩ ⟨Nat.le_of_ble_eq_true rfl, Nat.le_of_ble_eq_true rfl⟩ dL_isPlanned_78 (fun κ τ H locs hW hR hJ hS => ?_)
      have hG : PW D cI cZ cO vdom L (wB (wB (wB (wB σ2 905 0 (4 * q) (nI 1)) 905 0 (4 * q + 1) (nI pr)) 905 0 (8 + (tn (σ2.2.2.2 905 0 10))) (nI q)) 905 0 10 (nI ((tn (σ2.2.2.2 905 0 10)) + 1))) (vim L) H := hW.g
      refine lv_aload hx hb dL_isPlanned_81 (lv_at hl 6 rfl) ?_
      refine lv_bipush (v := nI 10) hx hb dL_isPlanned_83 (by decide) ?_
      refine pw_ald8 X hK hG 905 fa_905 (vd_1 (by decide)) (i := 10) (N := σ2.2.2.1 905 0 0) (x := nI ((tn (σ2.2.2.2 905 0 10)) + 1)) rfl (by omega) (by omega) rfl dL_isPlanned_85 ?_
      refine lv_icmp_ne (tgt := 93) hx hb dL_isPlanned_86 (by decide) (fun c_86 => absurd rfl c_86) (fun c_86 => ?_)
      refine lv_iconst (v := nI 1) hx hb dL_isPlanned_89 (by decide) ?_
      refine lv_goto (tgt := 94) hx hb dL_isPlanned_90 (by decide) ?_
      exact vi_ret X hr hlocks (⟨κ, _, τ, hW, hR, hJ⟩) hS (rfl) (Nat.le_of_ble_eq_true rfl) (Nat.le_of_ble_eq_true rfl) rfl dL_isPlanned_94
    · have hJ : JJ K σ2 τ := by rw [hσ2]; exact hJ.rho e9_RS
      refine lv_iconst (v := nI 1) hx hb dL_isPlanned_30 (by decide) ?_
      exact vi_ret X hr hlocks (⟨κ, _, τ, hW, hR, hJ⟩) hS (rfl) (Nat.le_of_ble_eq_true rfl) (Nat.le_of_ble_eq_true rfl) rfl dL_isPlanned_31
