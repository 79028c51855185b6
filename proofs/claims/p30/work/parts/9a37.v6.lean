/-- a place where ways meet, each with what it has made -/
theorem r_cutW {D : va_G} {p : Program} {l : Launch} {e : Env} {R : Room} {s : State} {m : MethodId} {args : Array Value} {below : List Frame} {meth : Method} {c : Code} {locs : List Loc} {cells slots : Nat} {Q : State → Prop} {nL : Nat} {ls : Array Slot} {H0 H : Heap} {A : Nat → Prop} {st0 : List Value} {pc0 : Nat} (P : Heap → Prop) (pc2 : Nat) (lv2 : List (Nat × Value)) (c2 s2 : Nat)
    (h1 : ∀ (H : Heap) (locs : List Loc) (ls : Array Slot), P H → va_S A H0 H locs → lv_has ls nL lv2 → W p l e R s m args below meth c H locs c2 s2 Q (F0 m pc2 ls []))
    (h2 : (∀ (H : Heap) (locs : List Loc) (ls : Array Slot) (c1 s1 : Nat), P H → va_S A H0 H locs → lv_has ls nL lv2 → c1 ≤ c2 → s1 ≤ s2 → W p l e R s m args below meth c H locs c1 s1 Q (F0 m pc2 ls [])) → W p l e R s m args below meth c H locs cells slots Q (F0 m pc0 ls st0)) : W p l e R s m args below meth c H locs cells slots Q (F0 m pc0 ls st0) := h2 (fun H locs ls c1 s1 a b d h3 h4 => W.widen h3 h4 (h1 H locs ls a b d))
set_option maxRecDepth 100000 in
set_option maxHeartbeats 4000000 in
theorem v_L_isSame {D : va_G} {cI cZ cO : ClassId} {t0 mi z0 x9 : Nat} {L : Lay} (l : Launch) (hl9 : l.stackTraces = false) (K z : Nat) (hz9 : z < 1000000000) : VI D cI cZ cO t0 mi z0 l yL_isSame cL_isSame 20 ((some FieldType.boolean)) 15 511 61 648 [.ref x9, .ref (L 900 0), .ref (L 900 1), .ref (L 901 0), .ref (L 902 0), .ref (L 903 0), .ref (L 904 0), .ref (L 905 0), .int (nI z)] (VQ D cI cZ cO t0 z0 x9 L K) (VQ D cI cZ cO t0 z0 x9 L K) (nI 1) := by
  refine vi_of rfl (Nat.le_of_ble_eq_true rfl) ?_
  intro p e s m args below meth c ls X hK hE hX hP hz hr hlocks hl
  have X : CallFix p m c cL_isSame 20 s args TB RL := X
  have hx := X.1
  have hb := X.2.1
  have hS : va_S (vA z0) s.heap s.heap [] := va_S.rf
  have hl : lv_has ls 20 [(0, .ref x9), (1, .ref (L 900 0)), (2, .ref (L 900 1)), (3, .ref (L 901 0)), (4, .ref (L 902 0)), (5, .ref (L 903 0)), (6, .ref (L 904 0)), (7, .ref (L 905 0)), (8, .int (nI z))] := hl
  obtain ⟨κ, σ, τ, hW, hR, hJ⟩ := hP
  have hG : PW D cI cZ cO vdom L σ (vim L) s.heap := hW.g
  have hN2 : σ.2.2.1 902 0 0 = 36 := hJ.1.1
  have hN3 : σ.2.2.1 903 0 0 = 37 := hJ.1.2.1
  have hN5 : σ.2.2.1 905 0 0 = 11 := hJ.1.2.2
  refine lv_iload hx hb dL_isSame_0 (lv_at hl 8 rfl) ?_
  refine lv_iconst (v := nI 2) hx hb dL_isSame_2 (by decide) ?_
  refine r_remN hx hb (by omega) (by decide) (by decide) dL_isSame_3 ?_
  refine lv_istore (lv' := [(9, .int (nI (z % 2))), (0, .ref x9), (1, .ref (L 900 0)), (2, .ref (L 900 1)), (3, .ref (L 901 0)), (4, .ref (L 902 0)), (5, .ref (L 903 0)), (6, .ref (L 904 0)), (7, .ref (L 905 0)), (8, .int (nI z))]) hx hb dL_isSame_4 hl (by decide) rfl (fun ls hl => ?_)
  refine r_cutV (P := fun H => Vd D cI cZ cO t0 z0 x9 L κ σ H) 16 [.ref (L 900 (z % 2))] hW hS (fun H locs hW hS => ?_) (fun J_16 => ?_)
  · have hW : Vd D cI cZ cO t0 z0 x9 L κ σ H := hW
    have hG : PW D cI cZ cO vdom L σ (vim L) H := hW.g
    refine lv_astore (lv' := [(10, .ref (L 900 (z % 2))), (9, .int (nI (z % 2))), (0, .ref x9), (1, .ref (L 900 0)), (2, .ref (L 900 1)), (3, .ref (L 901 0)), (4, .ref (L 902 0)), (5, .ref (L 903 0)), (6, .ref (L 904 0)), (7, .ref (L 905 0)), (8, .int (nI z))]) hx hb dL_isSame_16 hl (by decide) rfl (fun ls hl => ?_)
    refine lv_iload hx hb dL_isSame_18 (lv_at hl 10 rfl) ?_
    refine lv_iconst (v := nI 2) hx hb dL_isSame_20 (by decide) ?_
    refine r_divN hx hb (by omega) (by decide) (by decide) dL_isSame_21 ?_
    refine lv_bipush (v := nI 12) hx hb dL_isSame_22 (by decide) ?_
    refine r_remN hx hb (by omega) (by decide) (by decide) dL_isSame_24 ?_
    refine lv_istore (lv' := [(11, .int (nI ((z / 2) % 12))), (10, .ref (L 900 (z % 2))), (9, .int (nI (z % 2))), (0, .ref x9), (1, .ref (L 900 0)), (2, .ref (L 900 1)), (3, .ref (L 901 0)), (4, .ref (L 902 0)), (5, .ref (L 903 0)), (6, .ref (L 904 0)), (7, .ref (L 905 0)), (8, .int (nI z))]) hx hb dL_isSame_25 hl (by decide) rfl (fun ls hl => ?_)
    refine lv_iload hx hb dL_isSame_27 (lv_at hl 11 rfl) ?_
    refine lv_bipush (v := nI 24) hx hb dL_isSame_29 (by decide) ?_
    refine r_divN hx hb (by omega) (by decide) (by decide) dL_isSame_31 ?_
    refine lv_iconst (v := nI 4) hx hb dL_isSame_32 (by decide) ?_
    refine r_remN hx hb (by omega) (by decide) (by decide) dL_isSame_33 ?_
    refine lv_istore (lv' := [(12, .int (nI ((z / 24) % 4))), (11, .int (nI ((z / 2) % 12))), (10, .ref (L 900 (z % 2))), (9, .int (nI (z % 2))), (0, .ref x9), (1, .ref (L 900 0)), (2, .ref (L 900 1)), (3, .ref (L 901 0)), (4, .ref (L 902 0)), (5, .ref (L 903 0)), (6, .ref (L 904 0)), (7, .ref (L 905 0)), (8, .int (nI z))]) hx hb dL_isSame_34 hl (by decide) rfl (fun ls hl => ?_)
    refine lv_aload hx hb dL_isSame_36 (lv_at hl 2 rfl) ?_
    refine lv_bipush (v := nI 12) hx hb dL_isSame_38 (by decide) ?_
    refine lv_iload hx hb dL_isSame_40 (lv_at hl 0 rfl) ?_
    refine r_mulN hx hb dL_isSame_42 ?_
    refine lv_iload hx hb dL_isSame_43 (lv_at hl 1 rfl) ?_
    refine r_addN hx hb dL_isSame_45 ?_
    refine al_900 X hK hG (vd_0 (by omega)) (i := (12 * ((z / 24) % 4)) + ((z / 2) % 12)) (x := σ.2.2.1 900 (z % 2) ((12 * ((z / 24) % 4)) + ((z / 2) % 12))) (by omega) rfl dL_isSame_46 ?_
    have b62 := hJ.c62 (p := z % 2) (by omega) (12 * (z / 24 % 4) + z / 2 % 12)
    obtain ⟨C9, hC9⟩ : ∃ C9, σ.2.2.1 900 (z % 2) ((12 * ((z / 24) % 4)) + ((z / 2) % 12)) = C9 := ⟨_, rfl⟩
    rw [hC9] at b62
    rw [show lJ (σ.2.2.1 900 (z % 2) ((12 * ((z / 24) % 4)) + ((z / 2) % 12))) = lJ C9 from congrArg lJ hC9]
    refine lv_lstore (lv' := [(13, .long (lJ C9)), (12, .int (nI ((z / 24) % 4))), (11, .int (nI ((z / 2) % 12))), (10, .ref (L 900 (z % 2))), (9, .int (nI (z % 2))), (0, .ref x9), (1, .ref (L 900 0)), (2, .ref (L 900 1)), (3, .ref (L 901 0)), (4, .ref (L 902 0)), (5, .ref (L 903 0)), (6, .ref (L 904 0)), (7, .ref (L 905 0)), (8, .int (nI z))]) hx hb dL_isSame_47 hl (by decide) rfl (fun ls hl => ?_)
    refine lv_aload_n hx hb dL_isSame_49 rfl (lv_at hl 5 rfl) ?_
    refine lv_iload hx hb dL_isSame_50 (lv_at hl 4 rfl) ?_
    refine lv_iload hx hb dL_isSame_52 (lv_at hl 2 rfl) ?_
    refine lv_iload hx hb dL_isSame_54 (lv_at hl 1 rfl) ?_
    refine lv_iconst (v := nI 0) hx hb dL_isSame_56 (by decide) ?_
    refine v_oq X hK hE hX hW hS yvX8_ofCell ml_L_76 [.int (nI (z % 2)), .int (nI ((z / 2) % 12)), .int (nI ((z / 24) % 4)), .int (nI 0)] [] (Q_ofCell hl9 hR hJ (p := z % 2) (x := z / 2 % 12) (y := z / 24 % 4) (k := 0) (by omega) (by omega) (by omega) (by decide)) rfl hl.1 rfl (Nat.le_of_ble_eq_true rfl) ⟨Nat.le_of_ble_eq_true rfl, Nat.le_of_ble_eq_true rfl⟩ ⟨Nat.le_of_ble_eq_true rfl, Nat.le_of_ble_eq_true rfl⟩ dL_isSame_57 (fun κ τ H locs hW hR hJ hS => ?_)
    have hG : PW D cI cZ cO vdom L σ (vim L) H := hW.g
    refine r_top (y := nI (C9 % 16)) (by rw [show σ.2.2.1 900 (z % 2) (12 * (z / 24 % 4) + z / 2 % 12) = C9 from hC9]; exact hc_0 C9) ?_
    refine lv_lload hx hb dL_isSame_60 (lv_at hl 0 rfl) ?_
    refine r_ldc2J X (n := 15) kl_9 (by decide) dL_isSame_62 ?_
    refine r_landJ hx hb (v := C9 % 16) (and_m (k := 4) rfl rfl) dL_isSame_65 ?_
    refine r_l2iJ hx hb dL_isSame_66 ?_
    refine lv_icmp_ne (tgt := 183) hx hb dL_isSame_67 (by decide) (fun c_67 => absurd rfl c_67) (fun c_67 => ?_)
    refine lv_aload_n hx hb dL_isSame_70 rfl (lv_at hl 5 rfl) ?_
    refine lv_iload hx hb dL_isSame_71 (lv_at hl 4 rfl) ?_
    refine lv_iload hx hb dL_isSame_73 (lv_at hl 2 rfl) ?_
    refine lv_iload hx hb dL_isSame_75 (lv_at hl 1 rfl) ?_
    refine lv_iconst (v := nI 1) hx hb dL_isSame_77 (by decide) ?_
    refine v_oq X hK hE hX hW hS yvX8_ofCell ml_L_76 [.int (nI (z % 2)), .int (nI ((z / 2) % 12)), .int (nI ((z / 24) % 4)), .int (nI 1)] [] (Q_ofCell hl9 hR hJ (p := z % 2) (x := z / 2 % 12) (y := z / 24 % 4) (k := 1) (by omega) (by omega) (by omega) (by decide)) rfl hl.1 rfl (Nat.le_of_ble_eq_true rfl) ⟨Nat.le_of_ble_eq_true rfl, Nat.le_of_ble_eq_true rfl⟩ ⟨Nat.le_of_ble_eq_true rfl, Nat.le_of_ble_eq_true rfl⟩ dL_isSame_78 (fun κ τ H locs hW hR hJ hS => ?_)
    have hG : PW D cI cZ cO vdom L σ (vim L) H := hW.g
    refine r_top (y := h_size C9) (by rw [show σ.2.2.1 900 (z % 2) (12 * (z / 24 % 4) + z / 2 % 12) = C9 from hC9]; exact hc_1 C9) ?_
    refine lv_lload hx hb dL_isSame_81 (lv_at hl 0 rfl) ?_
    refine v_callS X hK hW hS ysL_size ml_L_63 [.long (lJ C9)] [.int (h_size C9)] (c_L_size (D := D) (cI := cI) (cZ := cZ) (cO := cO) (dom := vdom) l L σ (vim L) C9 b62) rfl hl.1 rfl (Nat.le_of_ble_eq_true rfl) ⟨Nat.le_of_ble_eq_true rfl, Nat.le_of_ble_eq_true rfl⟩ ⟨Nat.le_of_ble_eq_true rfl, Nat.le_of_ble_eq_true rfl⟩ dL_isSame_83 (fun H locs hW hS => ?_)
    have hG : PW D cI cZ cO vdom L σ (vim L) H := hW.g
    refine lv_icmp_ne (tgt := 183) hx hb dL_isSame_86 (by decide) (fun c_86 => absurd rfl c_86) (fun c_86 => ?_)
    refine lv_aload_n hx hb dL_isSame_89 rfl (lv_at hl 5 rfl) ?_
    refine lv_iload hx hb dL_isSame_90 (lv_at hl 4 rfl) ?_
    refine lv_iload hx hb dL_isSame_92 (lv_at hl 2 rfl) ?_
    refine lv_iload hx hb dL_isSame_94 (lv_at hl 1 rfl) ?_
    refine lv_iconst (v := nI 2) hx hb dL_isSame_96 (by decide) ?_
    refine v_oq X hK hE hX hW hS yvX8_ofCell ml_L_76 [.int (nI (z % 2)), .int (nI ((z / 2) % 12)), .int (nI ((z / 24) % 4)), .int (nI 2)] [] (Q_ofCell hl9 hR hJ (p := z % 2) (x := z / 2 % 12) (y := z / 24 % 4) (k := 2) (by omega) (by omega) (by omega) (by decide)) rfl hl.1 rfl (Nat.le_of_ble_eq_true rfl) ⟨Nat.le_of_ble_eq_true rfl, Nat.le_of_ble_eq_true rfl⟩ ⟨Nat.le_of_ble_eq_true rfl, Nat.le_of_ble_eq_true rfl⟩ dL_isSame_97 (fun κ τ H locs hW hR hJ hS => ?_)
    have hG : PW D cI cZ cO vdom L σ (vim L) H := hW.g
    refine r_top (y := (nI (C9 / 16 % 64) - nI 1)) (by rw [show σ.2.2.1 900 (z % 2) (12 * (z / 24 % 4) + z / 2 % 12) = C9 from hC9]; exact hc_2 C9) ?_
    refine lv_lload hx hb dL_isSame_100 (lv_at hl 0 rfl) ?_
    refine lv_iconst (v := nI 4) hx hb dL_isSame_102 (by decide) ?_
    refine r_lshrJ hx hb (v := C9 / 16) (by omega) (by decide) rfl dL_isSame_103 ?_
    refine r_ldc2J X (n := 63) kl_49 (by decide) dL_isSame_104 ?_
    refine r_landJ hx hb (v := (C9 / 16) % 64) (and_m (k := 6) rfl rfl) dL_isSame_107 ?_
    refine r_l2iJ hx hb dL_isSame_108 ?_
    refine lv_iconst (v := nI 1) hx hb dL_isSame_109 (by decide) ?_
    refine lv_isub hx hb dL_isSame_110 ?_
    refine lv_icmp_ne (tgt := 183) hx hb dL_isSame_111 (by decide) (fun c_111 => absurd rfl c_111) (fun c_111 => ?_)
    refine lv_aload_n hx hb dL_isSame_114 rfl (lv_at hl 5 rfl) ?_
    refine lv_iload hx hb dL_isSame_115 (lv_at hl 4 rfl) ?_
    refine lv_iload hx hb dL_isSame_117 (lv_at hl 2 rfl) ?_
    refine lv_iload hx hb dL_isSame_119 (lv_at hl 1 rfl) ?_
    refine lv_iconst (v := nI 3) hx hb dL_isSame_121 (by decide) ?_
    refine v_oq X hK hE hX hW hS yvX8_ofCell ml_L_76 [.int (nI (z % 2)), .int (nI ((z / 2) % 12)), .int (nI ((z / 24) % 4)), .int (nI 3)] [] (Q_ofCell hl9 hR hJ (p := z % 2) (x := z / 2 % 12) (y := z / 24 % 4) (k := 3) (by omega) (by omega) (by omega) (by decide)) rfl hl.1 rfl (Nat.le_of_ble_eq_true rfl) ⟨Nat.le_of_ble_eq_true rfl, Nat.le_of_ble_eq_true rfl⟩ ⟨Nat.le_of_ble_eq_true rfl, Nat.le_of_ble_eq_true rfl⟩ dL_isSame_122 (fun κ τ H locs hW hR hJ hS => ?_)
    have hG : PW D cI cZ cO vdom L σ (vim L) H := hW.g
    refine r_top (y := h_cause C9) (by rw [show σ.2.2.1 900 (z % 2) (12 * (z / 24 % 4) + z / 2 % 12) = C9 from hC9]; exact hc_3 C9) ?_
    refine lv_lload hx hb dL_isSame_125 (lv_at hl 0 rfl) ?_
    refine v_callS X hK hW hS ysL_cause ml_L_80 [.long (lJ C9)] [.int (h_cause C9)] (c_L_cause (D := D) (cI := cI) (cZ := cZ) (cO := cO) (dom := vdom) l L σ (vim L) C9 b62) rfl hl.1 rfl (Nat.le_of_ble_eq_true rfl) ⟨Nat.le_of_ble_eq_true rfl, Nat.le_of_ble_eq_true rfl⟩ ⟨Nat.le_of_ble_eq_true rfl, Nat.le_of_ble_eq_true rfl⟩ dL_isSame_127 (fun H locs hW hS => ?_)
    have hG : PW D cI cZ cO vdom L σ (vim L) H := hW.g
    refine lv_icmp_ne (tgt := 183) hx hb dL_isSame_130 (by decide) (fun c_130 => absurd rfl c_130) (fun c_130 => ?_)
    refine lv_aload_n hx hb dL_isSame_133 rfl (lv_at hl 5 rfl) ?_
    refine lv_iload hx hb dL_isSame_134 (lv_at hl 4 rfl) ?_
    refine lv_iload hx hb dL_isSame_136 (lv_at hl 2 rfl) ?_
    refine lv_iload hx hb dL_isSame_138 (lv_at hl 1 rfl) ?_
    refine lv_iconst (v := nI 4) hx hb dL_isSame_140 (by decide) ?_
    refine v_oq X hK hE hX hW hS yvX8_ofCell ml_L_76 [.int (nI (z % 2)), .int (nI ((z / 2) % 12)), .int (nI ((z / 24) % 4)), .int (nI 4)] [] (Q_ofCell hl9 hR hJ (p := z % 2) (x := z / 2 % 12) (y := z / 24 % 4) (k := 4) (by omega) (by omega) (by omega) (by decide)) rfl hl.1 rfl (Nat.le_of_ble_eq_true rfl) ⟨Nat.le_of_ble_eq_true rfl, Nat.le_of_ble_eq_true rfl⟩ ⟨Nat.le_of_ble_eq_true rfl, Nat.le_of_ble_eq_true rfl⟩ dL_isSame_141 (fun κ τ H locs hW hR hJ hS => ?_)
    have hG : PW D cI cZ cO vdom L σ (vim L) H := hW.g
    refine r_top (y := nI (C9 / 17592186044416 % 16)) (by rw [show σ.2.2.1 900 (z % 2) (12 * (z / 24 % 4) + z / 2 % 12) = C9 from hC9]; exact hc_4 C9) ?_
    refine lv_lload hx hb dL_isSame_144 (lv_at hl 0 rfl) ?_
    refine lv_bipush (v := nI 44) hx hb dL_isSame_146 (by decide) ?_
    refine r_lshrJ hx hb (v := C9 / 17592186044416) (by omega) (by decide) rfl dL_isSame_148 ?_
    refine r_ldc2J X (n := 15) kl_9 (by decide) dL_isSame_149 ?_
    refine r_landJ hx hb (v := (C9 / 17592186044416) % 16) (and_m (k := 4) rfl rfl) dL_isSame_152 ?_
    refine r_l2iJ hx hb dL_isSame_153 ?_
    refine lv_icmp_ne (tgt := 183) hx hb dL_isSame_154 (by decide) (fun c_154 => absurd rfl c_154) (fun c_154 => ?_)
    refine lv_aload_n hx hb dL_isSame_157 rfl (lv_at hl 5 rfl) ?_
    refine v_oqX X hK hE hW hS yvX8_minute ml_L_83 [] [] (Q_minute hR hJ) rfl hl.1 rfl (Nat.le_of_ble_eq_true rfl) ⟨Nat.le_of_ble_eq_true rfl, Nat.le_of_ble_eq_true rfl⟩ ⟨Nat.le_of_ble_eq_true rfl, Nat.le_of_ble_eq_true rfl⟩ dL_isSame_158 (fun κ τ H locs hW hR hJ hS => ?_)
    have hG : PW D cI cZ cO vdom L σ (vim L) H := hW.g
    refine lv_aload hx hb dL_isSame_161 (lv_at hl 10 rfl) ?_
    refine lv_iconst (v := nI 0) hx hb dL_isSame_163 (by decide) ?_
    refine pw_ald8 X hK hG 903 fa_903 (vd_1 (by decide)) (i := 0) (N := σ.2.2.1 903 0 0) (x := σ.2.2.2 903 0 0) rfl (by omega) (by omega) rfl dL_isSame_164 ?_
    refine lv_icmp_ne (tgt := 183) hx hb dL_isSame_165 (by decide) (fun c_165 => absurd rfl c_165) (fun c_165 => ?_)
    refine lv_aload_n hx hb dL_isSame_168 rfl (lv_at hl 5 rfl) ?_
    refine v_oqX X hK hE hW hS yvX8_warmth ml_L_87 [] [] (Q_warmth hR hJ) rfl hl.1 rfl (Nat.le_of_ble_eq_true rfl) ⟨Nat.le_of_ble_eq_true rfl, Nat.le_of_ble_eq_true rfl⟩ ⟨Nat.le_of_ble_eq_true rfl, Nat.le_of_ble_eq_true rfl⟩ dL_isSame_169 (fun κ τ H locs hW hR hJ hS => ?_)
    have hG : PW D cI cZ cO vdom L σ (vim L) H := hW.g
    refine lv_aload hx hb dL_isSame_172 (lv_at hl 10 rfl) ?_
    refine lv_iconst (v := nI 1) hx hb dL_isSame_174 (by decide) ?_
    refine pw_ald8 X hK hG 903 fa_903 (vd_1 (by decide)) (i := 1) (N := σ.2.2.1 903 0 0) (x := σ.2.2.2 903 0 1) rfl (by omega) (by omega) rfl dL_isSame_175 ?_
    refine lv_icmp_ne (tgt := 183) hx hb dL_isSame_176 (by decide) (fun c_176 => absurd rfl c_176) (fun c_176 => ?_)
    refine lv_iconst (v := nI 1) hx hb dL_isSame_179 (by decide) ?_
    refine lv_goto (tgt := 184) hx hb dL_isSame_180 (by decide) ?_
    refine lv_istore (lv' := [(15, .int (nI 1)), (13, .long (lJ C9)), (12, .int (nI ((z / 24) % 4))), (11, .int (nI ((z / 2) % 12))), (10, .ref (L 900 (z % 2))), (9, .int (nI (z % 2))), (0, .ref x9), (1, .ref (L 900 0)), (2, .ref (L 900 1)), (3, .ref (L 901 0)), (4, .ref (L 902 0)), (5, .ref (L 903 0)), (6, .ref (L 904 0)), (7, .ref (L 905 0)), (8, .int (nI z))]) hx hb dL_isSame_184 hl (by decide) rfl (fun ls hl => ?_)
    refine r_cutV (P := fun H => Vd D cI cZ cO t0 z0 x9 L κ σ H) 232 [.int (h_pl (z % 2) σ)] hW hS (fun H locs hW hS => ?_) (fun J_232 => ?_)
    · have hW : Vd D cI cZ cO t0 z0 x9 L κ σ H := hW
      have hG : PW D cI cZ cO vdom L σ (vim L) H := hW.g
      refine lv_istore (lv' := [(16, .int (h_pl (z % 2) σ)), (15, .int (nI 1)), (13, .long (lJ C9)), (12, .int (nI ((z / 24) % 4))), (11, .int (nI ((z / 2) % 12))), (10, .ref (L 900 (z % 2))), (9, .int (nI (z % 2))), (0, .ref x9), (1, .ref (L 900 0)), (2, .ref (L 900 1)), (3, .ref (L 901 0)), (4, .ref (L 902 0)), (5, .ref (L 903 0)), (6, .ref (L 904 0)), (7, .ref (L 905 0)), (8, .int (nI z))]) hx hb dL_isSame_232 hl (by decide) rfl (fun ls hl => ?_)
      refine lv_iload hx hb dL_isSame_234 (lv_at hl 1 rfl) ?_
      refine r_if_eqN (tgt := 310) hx hb dL_isSame_236 (by decide) (by omega) (fun c_236 => absurd c_236 (by decide)) (fun c_236 => ?_)
      refine lv_aload_n hx hb dL_isSame_239 rfl (lv_at hl 7 rfl) ?_
      refine lv_iload hx hb dL_isSame_240 (lv_at hl 6 rfl) ?_
      refine lv_iconst (v := nI 0) hx hb dL_isSame_242 (by decide) ?_
      refine v_oq X hK hE hX hW hS yvX8_ofPallet ml_L_90 [.int (nI (z % 2)), .int (nI 0)] [] (Q_ofPallet hl9 hR hJ (p := z % 2) (k := 0) (by omega) (by decide)) rfl hl.1 rfl (Nat.le_of_ble_eq_true rfl) ⟨Nat.le_of_ble_eq_true rfl, Nat.le_of_ble_eq_true rfl⟩ ⟨Nat.le_of_ble_eq_true rfl, Nat.le_of_ble_eq_true rfl⟩ dL_isSame_243 (fun κ τ H locs hW hR hJ hS => ?_)
      have hG : PW D cI cZ cO vdom L σ (vim L) H := hW.g
      refine r_top (y := σ.2.2.2 905 0 (4 * (z % 2))) (if_pos rfl) ?_
      refine lv_aload hx hb dL_isSame_246 (lv_at hl 14 rfl) ?_
      refine lv_iconst (v := nI 4) hx hb dL_isSame_248 (by decide) ?_
      refine lv_iload hx hb dL_isSame_249 (lv_at hl 6 rfl) ?_
      refine r_mulN hx hb dL_isSame_251 ?_
      refine pw_ald8 X hK hG 905 fa_905 (vd_1 (by decide)) (i := 4 * (z % 2)) (N := σ.2.2.1 905 0 0) (x := σ.2.2.2 905 0 (4 * (z % 2))) rfl (by omega) (by omega) rfl dL_isSame_252 ?_
      refine lv_icmp_ne (tgt := 310) hx hb dL_isSame_253 (by decide) (fun c_253 => absurd rfl c_253) (fun c_253 => ?_)
      refine lv_aload_n hx hb dL_isSame_256 rfl (lv_at hl 7 rfl) ?_
      refine lv_iload hx hb dL_isSame_257 (lv_at hl 6 rfl) ?_
      refine lv_iconst (v := nI 1) hx hb dL_isSame_259 (by decide) ?_
      refine v_oq X hK hE hX hW hS yvX8_ofPallet ml_L_90 [.int (nI (z % 2)), .int (nI 1)] [] (Q_ofPallet hl9 hR hJ (p := z % 2) (k := 1) (by omega) (by decide)) rfl hl.1 rfl (Nat.le_of_ble_eq_true rfl) ⟨Nat.le_of_ble_eq_true rfl, Nat.le_of_ble_eq_true rfl⟩ ⟨Nat.le_of_ble_eq_true rfl, Nat.le_of_ble_eq_true rfl⟩ dL_isSame_260 (fun κ τ H locs hW hR hJ hS => ?_)
      have hG : PW D cI cZ cO vdom L σ (vim L) H := hW.g
      refine r_top (y := σ.2.2.2 905 0 (4 * (z % 2) + 2)) ((if_neg (by decide)).trans (if_pos rfl)) ?_
      refine lv_aload hx hb dL_isSame_263 (lv_at hl 14 rfl) ?_
      refine lv_iconst (v := nI 4) hx hb dL_isSame_265 (by decide) ?_
      refine lv_iload hx hb dL_isSame_266 (lv_at hl 6 rfl) ?_
      refine r_mulN hx hb dL_isSame_268 ?_
      refine lv_iconst (v := nI 2) hx hb dL_isSame_269 (by decide) ?_
      refine r_addN hx hb dL_isSame_270 ?_
      refine pw_ald8 X hK hG 905 fa_905 (vd_1 (by decide)) (i := (4 * (z % 2)) + 2) (N := σ.2.2.1 905 0 0) (x := σ.2.2.2 905 0 ((4 * (z % 2)) + 2)) rfl (by omega) (by omega) rfl dL_isSame_271 ?_
      refine lv_icmp_ne (tgt := 310) hx hb dL_isSame_272 (by decide) (fun c_272 => absurd rfl c_272) (fun c_272 => ?_)
      refine lv_aload_n hx hb dL_isSame_275 rfl (lv_at hl 7 rfl) ?_
      refine lv_iload hx hb dL_isSame_276 (lv_at hl 6 rfl) ?_
      refine lv_iconst (v := nI 2) hx hb dL_isSame_278 (by decide) ?_
      refine v_oq X hK hE hX hW hS yvX8_ofPallet ml_L_90 [.int (nI (z % 2)), .int (nI 2)] [] (Q_ofPallet hl9 hR hJ (p := z % 2) (k := 2) (by omega) (by decide)) rfl hl.1 rfl (Nat.le_of_ble_eq_true rfl) ⟨Nat.le_of_ble_eq_true rfl, Nat.le_of_ble_eq_true rfl⟩ ⟨Nat.le_of_ble_eq_true rfl, Nat.le_of_ble_eq_true rfl⟩ dL_isSame_279 (fun κ τ H locs hW hR hJ hS => ?_)
      have hG : PW D cI cZ cO vdom L σ (vim L) H := hW.g
      refine r_top (y := (h_pl (z % 2) σ)) ((if_neg (by decide)).trans ((if_neg (by decide)).trans (if_pos rfl))) ?_
      refine lv_iload hx hb dL_isSame_282 (lv_at hl 0 rfl) ?_
      refine lv_icmp_ne (tgt := 310) hx hb dL_isSame_284 (by decide) (fun c_284 => absurd rfl c_284) (fun c_284 => ?_)
      refine lv_aload_n hx hb dL_isSame_287 rfl (lv_at hl 7 rfl) ?_
      refine lv_iload hx hb dL_isSame_288 (lv_at hl 6 rfl) ?_
      refine lv_iconst (v := nI 3) hx hb dL_isSame_290 (by decide) ?_
      refine v_oq X hK hE hX hW hS yvX8_ofPallet ml_L_90 [.int (nI (z % 2)), .int (nI 3)] [] (Q_ofPallet hl9 hR hJ (p := z % 2) (k := 3) (by omega) (by decide)) rfl hl.1 rfl (Nat.le_of_ble_eq_true rfl) ⟨Nat.le_of_ble_eq_true rfl, Nat.le_of_ble_eq_true rfl⟩ ⟨Nat.le_of_ble_eq_true rfl, Nat.le_of_ble_eq_true rfl⟩ dL_isSame_291 (fun κ τ H locs hW hR hJ hS => ?_)
      have hG : PW D cI cZ cO vdom L σ (vim L) H := hW.g
      refine r_top (y := σ.2.2.2 905 0 (4 * (z % 2) + 3)) ((if_neg (by decide)).trans ((if_neg (by decide)).trans (if_neg (by decide)))) ?_
      refine lv_aload hx hb dL_isSame_294 (lv_at hl 14 rfl) ?_
      refine lv_iconst (v := nI 4) hx hb dL_isSame_296 (by decide) ?_
      refine lv_iload hx hb dL_isSame_297 (lv_at hl 6 rfl) ?_
      refine r_mulN hx hb dL_isSame_299 ?_
      refine lv_iconst (v := nI 3) hx hb dL_isSame_300 (by decide) ?_
      refine r_addN hx hb dL_isSame_301 ?_
      refine pw_ald8 X hK hG 905 fa_905 (vd_1 (by decide)) (i := (4 * (z % 2)) + 3) (N := σ.2.2.1 905 0 0) (x := σ.2.2.2 905 0 ((4 * (z % 2)) + 3)) rfl (by omega) (by omega) rfl dL_isSame_302 ?_
      refine lv_icmp_ne (tgt := 310) hx hb dL_isSame_303 (by decide) (fun c_303 => absurd rfl c_303) (fun c_303 => ?_)
      refine lv_iconst (v := nI 1) hx hb dL_isSame_306 (by decide) ?_
      refine lv_goto (tgt := 311) hx hb dL_isSame_307 (by decide) ?_
      refine lv_istore (lv' := [(15, .int (nI 1)), (16, .int (h_pl (z % 2) σ)), (13, .long (lJ C9)), (12, .int (nI ((z / 24) % 4))), (11, .int (nI ((z / 2) % 12))), (10, .ref (L 900 (z % 2))), (9, .int (nI (z % 2))), (0, .ref x9), (1, .ref (L 900 0)), (2, .ref (L 900 1)), (3, .ref (L 901 0)), (4, .ref (L 902 0)), (5, .ref (L 903 0)), (6, .ref (L 904 0)), (7, .ref (L 905 0)), (8, .int (nI z))]) hx hb dL_isSame_311 hl (by decide) rfl (fun ls hl => ?_)
      refine lv_iload hx hb dL_isSame_313 (lv_at hl 15 rfl) ?_
      refine lv_bipush (v := nI 96) hx hb dL_isSame_315 (by decide) ?_
      refine r_divN hx hb (by omega) (by decide) (by decide) dL_isSame_317 ?_
      refine lv_iconst (v := nI 4) hx hb dL_isSame_318 (by decide) ?_
      refine r_remN hx hb (by omega) (by decide) (by decide) dL_isSame_319 ?_
      refine lv_istore (lv' := [(17, .int (nI ((z / 96) % 4))), (15, .int (nI 1)), (16, .int (h_pl (z % 2) σ)), (13, .long (lJ C9)), (12, .int (nI ((z / 24) % 4))), (11, .int (nI ((z / 2) % 12))), (10, .ref (L 900 (z % 2))), (9, .int (nI (z % 2))), (0, .ref x9), (1, .ref (L 900 0)), (2, .ref (L 900 1)), (3, .ref (L 901 0)), (4, .ref (L 902 0)), (5, .ref (L 903 0)), (6, .ref (L 904 0)), (7, .ref (L 905 0)), (8, .int (nI z))]) hx hb dL_isSame_320 hl (by decide) rfl (fun ls hl => ?_)
      refine lv_iconst (v := nI 0) hx hb dL_isSame_322 (by decide) ?_
      refine lv_istore (lv' := [(18, .int (nI 0)), (17, .int (nI ((z / 96) % 4))), (15, .int (nI 1)), (16, .int (h_pl (z % 2) σ)), (13, .long (lJ C9)), (12, .int (nI ((z / 24) % 4))), (11, .int (nI ((z / 2) % 12))), (10, .ref (L 900 (z % 2))), (9, .int (nI (z % 2))), (0, .ref x9), (1, .ref (L 900 0)), (2, .ref (L 900 1)), (3, .ref (L 901 0)), (4, .ref (L 902 0)), (5, .ref (L 903 0)), (6, .ref (L 904 0)), (7, .ref (L 905 0)), (8, .int (nI z))]) hx hb dL_isSame_323 hl (by decide) rfl (fun ls hl => ?_)
      refine lv_iload hx hb dL_isSame_325 (lv_at hl 0 rfl) ?_
      refine lv_bipush (v := nI 6) hx hb dL_isSame_327 (by decide) ?_
      refine r_icmp_geN (tgt := 393) hx hb dL_isSame_329 (by decide) (by omega) (by omega) (fun c_329 => absurd c_329 (by decide)) (fun c_329 => ?_)
      refine lv_iload hx hb dL_isSame_332 (lv_at hl 2 rfl) ?_
      refine r_if_eqN (tgt := 393) hx hb dL_isSame_334 (by decide) (by omega) (fun c_334 => absurd c_334 (by decide)) (fun c_334 => ?_)
      refine lv_aload_n hx hb dL_isSame_337 rfl (lv_at hl 9 rfl) ?_
      refine lv_iload hx hb dL_isSame_338 (lv_at hl 1 rfl) ?_
      refine lv_iload hx hb dL_isSame_340 (lv_at hl 0 rfl) ?_
      refine v_oq X hK hE hX hW hS yvX8_ofTool ml_L_94 [.int (nI ((z / 96) % 4)), .int (nI 0)] [] (Q_ofTool hl9 hR hJ (t := z / 96 % 4) (k := 0) (by omega) (by decide)) rfl hl.1 rfl (Nat.le_of_ble_eq_true rfl) ⟨Nat.le_of_ble_eq_true rfl, Nat.le_of_ble_eq_true rfl⟩ ⟨Nat.le_of_ble_eq_true rfl, Nat.le_of_ble_eq_true rfl⟩ dL_isSame_342 (fun κ τ H locs hW hR hJ hS => ?_)
      have hG : PW D cI cZ cO vdom L σ (vim L) H := hW.g
      refine r_top (y := σ.2.2.2 902 0 (9 * (z / 96 % 4) + 0)) (rfl) ?_
      refine lv_aload hx hb dL_isSame_345 (lv_at hl 13 rfl) ?_
      refine lv_bipush (v := nI 9) hx hb dL_isSame_347 (by decide) ?_
      refine lv_iload hx hb dL_isSame_349 (lv_at hl 1 rfl) ?_
      refine r_mulN hx hb dL_isSame_351 ?_
      refine lv_iload hx hb dL_isSame_352 (lv_at hl 0 rfl) ?_
      refine lv_iconst (v := nI 4) hx hb dL_isSame_354 (by decide) ?_
      refine r_icmp_geN (tgt := 363) hx hb dL_isSame_355 (by decide) (by omega) (by omega) (fun c_355 => absurd c_355 (by decide)) (fun c_355 => ?_)
      refine lv_iload hx hb dL_isSame_358 (lv_at hl 0 rfl) ?_
      refine lv_goto (tgt := 375) hx hb dL_isSame_360 (by decide) ?_
      refine r_addN hx hb dL_isSame_375 ?_
      refine pw_ald8 X hK hG 902 fa_902 (vd_1 (by decide)) (i := 9 * ((z / 96) % 4) + 0) (N := σ.2.2.1 902 0 0) (x := σ.2.2.2 902 0 (9 * ((z / 96) % 4) + 0)) rfl (by omega) (by omega) rfl dL_isSame_376 ?_
      refine lv_icmp_ne (tgt := 384) hx hb dL_isSame_377 (by decide) (fun c_377 => absurd rfl c_377) (fun c_377 => ?_)
      refine lv_iconst (v := nI 1) hx hb dL_isSame_380 (by decide) ?_
      refine lv_goto (tgt := 385) hx hb dL_isSame_381 (by decide) ?_
      refine lv_istore (lv' := [(15, .int (nI 1)), (18, .int (nI 0)), (17, .int (nI ((z / 96) % 4))), (16, .int (h_pl (z % 2) σ)), (13, .long (lJ C9)), (12, .int (nI ((z / 24) % 4))), (11, .int (nI ((z / 2) % 12))), (10, .ref (L 900 (z % 2))), (9, .int (nI (z % 2))), (0, .ref x9), (1, .ref (L 900 0)), (2, .ref (L 900 1)), (3, .ref (L 901 0)), (4, .ref (L 902 0)), (5, .ref (L 903 0)), (6, .ref (L 904 0)), (7, .ref (L 905 0)), (8, .int (nI z))]) hx hb dL_isSame_385 hl (by decide) rfl (fun ls hl => ?_)
      refine r_iincN (b := 1) (lv' := [(18, .int (nI 1)), (15, .int (nI 1)), (17, .int (nI ((z / 96) % 4))), (16, .int (h_pl (z % 2) σ)), (13, .long (lJ C9)), (12, .int (nI ((z / 24) % 4))), (11, .int (nI ((z / 2) % 12))), (10, .ref (L 900 (z % 2))), (9, .int (nI (z % 2))), (0, .ref x9), (1, .ref (L 900 0)), (2, .ref (L 900 1)), (3, .ref (L 901 0)), (4, .ref (L 902 0)), (5, .ref (L 903 0)), (6, .ref (L 904 0)), (7, .ref (L 905 0)), (8, .int (nI z))]) hx hb dL_isSame_387 hl (k := 1) rfl (by decide) (by decide) rfl (fun ls hl => ?_)
      refine lv_goto (tgt := 325) hx hb dL_isSame_390 (by decide) ?_
      refine lv_iload hx hb dL_isSame_325 (lv_at hl 0 rfl) ?_
      refine lv_bipush (v := nI 6) hx hb dL_isSame_327 (by decide) ?_
      refine r_icmp_geN (tgt := 393) hx hb dL_isSame_329 (by decide) (by omega) (by omega) (fun c_329_2 => absurd c_329_2 (by decide)) (fun c_329_2 => ?_)
      refine lv_iload hx hb dL_isSame_332 (lv_at hl 1 rfl) ?_
      refine r_if_eqN (tgt := 393) hx hb dL_isSame_334 (by decide) (by omega) (fun c_334_2 => absurd c_334_2 (by decide)) (fun c_334_2 => ?_)
      refine lv_aload_n hx hb dL_isSame_337 rfl (lv_at hl 9 rfl) ?_
      refine lv_iload hx hb dL_isSame_338 (lv_at hl 2 rfl) ?_
      refine lv_iload hx hb dL_isSame_340 (lv_at hl 0 rfl) ?_
      refine v_oq X hK hE hX hW hS yvX8_ofTool ml_L_94 [.int (nI ((z / 96) % 4)), .int (nI 1)] [] (Q_ofTool hl9 hR hJ (t := z / 96 % 4) (k := 1) (by omega) (by decide)) rfl hl.1 rfl (Nat.le_of_ble_eq_true rfl) ⟨Nat.le_of_ble_eq_true rfl, Nat.le_of_ble_eq_true rfl⟩ ⟨Nat.le_of_ble_eq_true rfl, Nat.le_of_ble_eq_true rfl⟩ dL_isSame_342 (fun κ τ H locs hW hR hJ hS => ?_)
      have hG : PW D cI cZ cO vdom L σ (vim L) H := hW.g
      refine r_top (y := σ.2.2.2 902 0 (9 * (z / 96 % 4) + 1)) (rfl) ?_
      refine lv_aload hx hb dL_isSame_345 (lv_at hl 13 rfl) ?_
      refine lv_bipush (v := nI 9) hx hb dL_isSame_347 (by decide) ?_
      refine lv_iload hx hb dL_isSame_349 (lv_at hl 2 rfl) ?_
      refine r_mulN hx hb dL_isSame_351 ?_
      refine lv_iload hx hb dL_isSame_352 (lv_at hl 0 rfl) ?_
      refine lv_iconst (v := nI 4) hx hb dL_isSame_354 (by decide) ?_
      refine r_icmp_geN (tgt := 363) hx hb dL_isSame_355 (by decide) (by omega) (by omega) (fun c_355_2 => absurd c_355_2 (by decide)) (fun c_355_2 => ?_)
      refine lv_iload hx hb dL_isSame_358 (lv_at hl 0 rfl) ?_
      refine lv_goto (tgt := 375) hx hb dL_isSame_360 (by decide) ?_
      refine r_addN hx hb dL_isSame_375 ?_
      refine pw_ald8 X hK hG 902 fa_902 (vd_1 (by decide)) (i := (9 * ((z / 96) % 4)) + 1) (N := σ.2.2.1 902 0 0) (x := σ.2.2.2 902 0 ((9 * ((z / 96) % 4)) + 1)) rfl (by omega) (by omega) rfl dL_isSame_376 ?_
      refine lv_icmp_ne (tgt := 384) hx hb dL_isSame_377 (by decide) (fun c_377_2 => absurd rfl c_377_2) (fun c_377_2 => ?_)
      refine lv_iconst (v := nI 1) hx hb dL_isSame_380 (by decide) ?_
      refine lv_goto (tgt := 385) hx hb dL_isSame_381 (by decide) ?_
      refine lv_istore (lv' := [(15, .int (nI 1)), (18, .int (nI 1)), (17, .int (nI ((z / 96) % 4))), (16, .int (h_pl (z % 2) σ)), (13, .long (lJ C9)), (12, .int (nI ((z / 24) % 4))), (11, .int (nI ((z / 2) % 12))), (10, .ref (L 900 (z % 2))), (9, .int (nI (z % 2))), (0, .ref x9), (1, .ref (L 900 0)), (2, .ref (L 900 1)), (3, .ref (L 901 0)), (4, .ref (L 902 0)), (5, .ref (L 903 0)), (6, .ref (L 904 0)), (7, .ref (L 905 0)), (8, .int (nI z))]) hx hb dL_isSame_385 hl (by decide) rfl (fun ls hl => ?_)
      refine r_iincN (b := 1) (lv' := [(18, .int (nI 2)), (15, .int (nI 1)), (17, .int (nI ((z / 96) % 4))), (16, .int (h_pl (z % 2) σ)), (13, .long (lJ C9)), (12, .int (nI ((z / 24) % 4))), (11, .int (nI ((z / 2) % 12))), (10, .ref (L 900 (z % 2))), (9, .int (nI (z % 2))), (0, .ref x9), (1, .ref (L 900 0)), (2, .ref (L 900 1)), (3, .ref (L 901 0)), (4, .ref (L 902 0)), (5, .ref (L 903 0)), (6, .ref (L 904 0)), (7, .ref (L 905 0)), (8, .int (nI z))]) hx hb dL_isSame_387 hl (k := 1) rfl (by decide) (by decide) rfl (fun ls hl => ?_)
      refine lv_goto (tgt := 325) hx hb dL_isSame_390 (by decide) ?_
      refine lv_iload hx hb dL_isSame_325 (lv_at hl 0 rfl) ?_
      refine lv_bipush (v := nI 6) hx hb dL_isSame_327 (by decide) ?_
      refine r_icmp_geN (tgt := 393) hx hb dL_isSame_329 (by decide) (by omega) (by omega) (fun c_329_3 => absurd c_329_3 (by decide)) (fun c_329_3 => ?_)
      refine lv_iload hx hb dL_isSame_332 (lv_at hl 1 rfl) ?_
      refine r_if_eqN (tgt := 393) hx hb dL_isSame_334 (by decide) (by omega) (fun c_334_3 => absurd c_334_3 (by decide)) (fun c_334_3 => ?_)
      refine lv_aload_n hx hb dL_isSame_337 rfl (lv_at hl 9 rfl) ?_
      refine lv_iload hx hb dL_isSame_338 (lv_at hl 2 rfl) ?_
      refine lv_iload hx hb dL_isSame_340 (lv_at hl 0 rfl) ?_
      refine v_oq X hK hE hX hW hS yvX8_ofTool ml_L_94 [.int (nI ((z / 96) % 4)), .int (nI 2)] [] (Q_ofTool hl9 hR hJ (t := z / 96 % 4) (k := 2) (by omega) (by decide)) rfl hl.1 rfl (Nat.le_of_ble_eq_true rfl) ⟨Nat.le_of_ble_eq_true rfl, Nat.le_of_ble_eq_true rfl⟩ ⟨Nat.le_of_ble_eq_true rfl, Nat.le_of_ble_eq_true rfl⟩ dL_isSame_342 (fun κ τ H locs hW hR hJ hS => ?_)
      have hG : PW D cI cZ cO vdom L σ (vim L) H := hW.g
      refine r_top (y := σ.2.2.2 902 0 (9 * (z / 96 % 4) + 2)) (rfl) ?_
      refine lv_aload hx hb dL_isSame_345 (lv_at hl 13 rfl) ?_
      refine lv_bipush (v := nI 9) hx hb dL_isSame_347 (by decide) ?_
      refine lv_iload hx hb dL_isSame_349 (lv_at hl 2 rfl) ?_
      refine r_mulN hx hb dL_isSame_351 ?_
      refine lv_iload hx hb dL_isSame_352 (lv_at hl 0 rfl) ?_
      refine lv_iconst (v := nI 4) hx hb dL_isSame_354 (by decide) ?_
      refine r_icmp_geN (tgt := 363) hx hb dL_isSame_355 (by decide) (by omega) (by omega) (fun c_355_3 => absurd c_355_3 (by decide)) (fun c_355_3 => ?_)
      refine lv_iload hx hb dL_isSame_358 (lv_at hl 0 rfl) ?_
      refine lv_goto (tgt := 375) hx hb dL_isSame_360 (by decide) ?_
      refine r_addN hx hb dL_isSame_375 ?_
      refine pw_ald8 X hK hG 902 fa_902 (vd_1 (by decide)) (i := (9 * ((z / 96) % 4)) + 2) (N := σ.2.2.1 902 0 0) (x := σ.2.2.2 902 0 ((9 * ((z / 96) % 4)) + 2)) rfl (by omega) (by omega) rfl dL_isSame_376 ?_
      refine lv_icmp_ne (tgt := 384) hx hb dL_isSame_377 (by decide) (fun c_377_3 => absurd rfl c_377_3) (fun c_377_3 => ?_)
      refine lv_iconst (v := nI 1) hx hb dL_isSame_380 (by decide) ?_
      refine lv_goto (tgt := 385) hx hb dL_isSame_381 (by decide) ?_
      refine lv_istore (lv' := [(15, .int (nI 1)), (18, .int (nI 2)), (17, .int (nI ((z / 96) % 4))), (16, .int (h_pl (z % 2) σ)), (13, .long (lJ C9)), (12, .int (nI ((z / 24) % 4))), (11, .int (nI ((z / 2) % 12))), (10, .ref (L 900 (z % 2))), (9, .int (nI (z % 2))), (0, .ref x9), (1, .ref (L 900 0)), (2, .ref (L 900 1)), (3, .ref (L 901 0)), (4, .ref (L 902 0)), (5, .ref (L 903 0)), (6, .ref (L 904 0)), (7, .ref (L 905 0)), (8, .int (nI z))]) hx hb dL_isSame_385 hl (by decide) rfl (fun ls hl => ?_)
      refine r_iincN (b := 1) (lv' := [(18, .int (nI 3)), (15, .int (nI 1)), (17, .int (nI ((z / 96) % 4))), (16, .int (h_pl (z % 2) σ)), (13, .long (lJ C9)), (12, .int (nI ((z / 24) % 4))), (11, .int (nI ((z / 2) % 12))), (10, .ref (L 900 (z % 2))), (9, .int (nI (z % 2))), (0, .ref x9), (1, .ref (L 900 0)), (2, .ref (L 900 1)), (3, .ref (L 901 0)), (4, .ref (L 902 0)), (5, .ref (L 903 0)), (6, .ref (L 904 0)), (7, .ref (L 905 0)), (8, .int (nI z))]) hx hb dL_isSame_387 hl (k := 1) rfl (by decide) (by decide) rfl (fun ls hl => ?_)
      refine lv_goto (tgt := 325) hx hb dL_isSame_390 (by decide) ?_
      refine lv_iload hx hb dL_isSame_325 (lv_at hl 0 rfl) ?_
      refine lv_bipush (v := nI 6) hx hb dL_isSame_327 (by decide) ?_
      refine r_icmp_geN (tgt := 393) hx hb dL_isSame_329 (by decide) (by omega) (by omega) (fun c_329_4 => absurd c_329_4 (by decide)) (fun c_329_4 => ?_)
      refine lv_iload hx hb dL_isSame_332 (lv_at hl 1 rfl) ?_
      refine r_if_eqN (tgt := 393) hx hb dL_isSame_334 (by decide) (by omega) (fun c_334_4 => absurd c_334_4 (by decide)) (fun c_334_4 => ?_)
      refine lv_aload_n hx hb dL_isSame_337 rfl (lv_at hl 9 rfl) ?_
      refine lv_iload hx hb dL_isSame_338 (lv_at hl 2 rfl) ?_
      refine lv_iload hx hb dL_isSame_340 (lv_at hl 0 rfl) ?_
      refine v_oq X hK hE hX hW hS yvX8_ofTool ml_L_94 [.int (nI ((z / 96) % 4)), .int (nI 3)] [] (Q_ofTool hl9 hR hJ (t := z / 96 % 4) (k := 3) (by omega) (by decide)) rfl hl.1 rfl (Nat.le_of_ble_eq_true rfl) ⟨Nat.le_of_ble_eq_true rfl, Nat.le_of_ble_eq_true rfl⟩ ⟨Nat.le_of_ble_eq_true rfl, Nat.le_of_ble_eq_true rfl⟩ dL_isSame_342 (fun κ τ H locs hW hR hJ hS => ?_)
      have hG : PW D cI cZ cO vdom L σ (vim L) H := hW.g
      refine r_top (y := σ.2.2.2 902 0 (9 * (z / 96 % 4) + 3)) (rfl) ?_
      refine lv_aload hx hb dL_isSame_345 (lv_at hl 13 rfl) ?_
      refine lv_bipush (v := nI 9) hx hb dL_isSame_347 (by decide) ?_
      refine lv_iload hx hb dL_isSame_349 (lv_at hl 2 rfl) ?_
      refine r_mulN hx hb dL_isSame_351 ?_
      refine lv_iload hx hb dL_isSame_352 (lv_at hl 0 rfl) ?_
      refine lv_iconst (v := nI 4) hx hb dL_isSame_354 (by decide) ?_
      refine r_icmp_geN (tgt := 363) hx hb dL_isSame_355 (by decide) (by omega) (by omega) (fun c_355_4 => absurd c_355_4 (by decide)) (fun c_355_4 => ?_)
      refine lv_iload hx hb dL_isSame_358 (lv_at hl 0 rfl) ?_
      refine lv_goto (tgt := 375) hx hb dL_isSame_360 (by decide) ?_
      refine r_addN hx hb dL_isSame_375 ?_
      refine pw_ald8 X hK hG 902 fa_902 (vd_1 (by decide)) (i := (9 * ((z / 96) % 4)) + 3) (N := σ.2.2.1 902 0 0) (x := σ.2.2.2 902 0 ((9 * ((z / 96) % 4)) + 3)) rfl (by omega) (by omega) rfl dL_isSame_376 ?_
      refine lv_icmp_ne (tgt := 384) hx hb dL_isSame_377 (by decide) (fun c_377_4 => absurd rfl c_377_4) (fun c_377_4 => ?_)
      refine lv_iconst (v := nI 1) hx hb dL_isSame_380 (by decide) ?_
      refine lv_goto (tgt := 385) hx hb dL_isSame_381 (by decide) ?_
      refine lv_istore (lv' := [(15, .int (nI 1)), (18, .int (nI 3)), (17, .int (nI ((z / 96) % 4))), (16, .int (h_pl (z % 2) σ)), (13, .long (lJ C9)), (12, .int (nI ((z / 24) % 4))), (11, .int (nI ((z / 2) % 12))), (10, .ref (L 900 (z % 2))), (9, .int (nI (z % 2))), (0, .ref x9), (1, .ref (L 900 0)), (2, .ref (L 900 1)), (3, .ref (L 901 0)), (4, .ref (L 902 0)), (5, .ref (L 903 0)), (6, .ref (L 904 0)), (7, .ref (L 905 0)), (8, .int (nI z))]) hx hb dL_isSame_385 hl (by decide) rfl (fun ls hl => ?_)
      refine r_iincN (b := 1) (lv' := [(18, .int (nI 4)), (15, .int (nI 1)), (17, .int (nI ((z / 96) % 4))), (16, .int (h_pl (z % 2) σ)), (13, .long (lJ C9)), (12, .int (nI ((z / 24) % 4))), (11, .int (nI ((z / 2) % 12))), (10, .ref (L 900 (z % 2))), (9, .int (nI (z % 2))), (0, .ref x9), (1, .ref (L 900 0)), (2, .ref (L 900 1)), (3, .ref (L 901 0)), (4, .ref (L 902 0)), (5, .ref (L 903 0)), (6, .ref (L 904 0)), (7, .ref (L 905 0)), (8, .int (nI z))]) hx hb dL_isSame_387 hl (k := 1) rfl (by decide) (by decide) rfl (fun ls hl => ?_)
      refine lv_goto (tgt := 325) hx hb dL_isSame_390 (by decide) ?_
      refine lv_iload hx hb dL_isSame_325 (lv_at hl 0 rfl) ?_
      refine lv_bipush (v := nI 6) hx hb dL_isSame_327 (by decide) ?_
      refine r_icmp_geN (tgt := 393) hx hb dL_isSame_329 (by decide) (by omega) (by omega) (fun c_329_5 => absurd c_329_5 (by decide)) (fun c_329_5 => ?_)
      refine lv_iload hx hb dL_isSame_332 (lv_at hl 1 rfl) ?_
      refine r_if_eqN (tgt := 393) hx hb dL_isSame_334 (by decide) (by omega) (fun c_334_5 => absurd c_334_5 (by decide)) (fun c_334_5 => ?_)
      refine lv_aload_n hx hb dL_isSame_337 rfl (lv_at hl 9 rfl) ?_
      refine lv_iload hx hb dL_isSame_338 (lv_at hl 2 rfl) ?_
      refine lv_iload hx hb dL_isSame_340 (lv_at hl 0 rfl) ?_
      refine v_oq X hK hE hX hW hS yvX8_ofTool ml_L_94 [.int (nI ((z / 96) % 4)), .int (nI 4)] [] (Q_ofTool hl9 hR hJ (t := z / 96 % 4) (k := 4) (by omega) (by decide)) rfl hl.1 rfl (Nat.le_of_ble_eq_true rfl) ⟨Nat.le_of_ble_eq_true rfl, Nat.le_of_ble_eq_true rfl⟩ ⟨Nat.le_of_ble_eq_true rfl, Nat.le_of_ble_eq_true rfl⟩ dL_isSame_342 (fun κ τ H locs hW hR hJ hS => ?_)
      have hG : PW D cI cZ cO vdom L σ (vim L) H := hW.g
      refine r_top (y := σ.2.2.2 902 0 (9 * (z / 96 % 4) + 4)) (rfl) ?_
      refine lv_aload hx hb dL_isSame_345 (lv_at hl 13 rfl) ?_
      refine lv_bipush (v := nI 9) hx hb dL_isSame_347 (by decide) ?_
      refine lv_iload hx hb dL_isSame_349 (lv_at hl 2 rfl) ?_
      refine r_mulN hx hb dL_isSame_351 ?_
      refine lv_iload hx hb dL_isSame_352 (lv_at hl 0 rfl) ?_
      refine lv_iconst (v := nI 4) hx hb dL_isSame_354 (by decide) ?_
      refine r_icmp_geN (tgt := 363) hx hb dL_isSame_355 (by decide) (by omega) (by omega) (fun c_355_5 => ?_) (fun c_355_5 => absurd c_355_5 (by decide))
      refine lv_iload hx hb dL_isSame_363 (lv_at hl 0 rfl) ?_
      refine lv_iconst (v := nI 4) hx hb dL_isSame_365 (by decide) ?_
      refine r_icmp_neN (tgt := 373) hx hb dL_isSame_366 (by decide) (by omega) (by omega) (fun c_366 => absurd c_366 (by decide)) (fun c_366 => ?_)
      refine lv_iconst (v := nI 4) hx hb dL_isSame_369 (by decide) ?_
      refine lv_goto (tgt := 375) hx hb dL_isSame_370 (by decide) ?_
      refine r_addN hx hb dL_isSame_375 ?_
      refine pw_ald8 X hK hG 902 fa_902 (vd_1 (by decide)) (i := (9 * ((z / 96) % 4)) + 4) (N := σ.2.2.1 902 0 0) (x := σ.2.2.2 902 0 ((9 * ((z / 96) % 4)) + 4)) rfl (by omega) (by omega) rfl dL_isSame_376 ?_
      refine lv_icmp_ne (tgt := 384) hx hb dL_isSame_377 (by decide) (fun c_377_5 => absurd rfl c_377_5) (fun c_377_5 => ?_)
      refine lv_iconst (v := nI 1) hx hb dL_isSame_380 (by decide) ?_
      refine lv_goto (tgt := 385) hx hb dL_isSame_381 (by decide) ?_
      refine lv_istore (lv' := [(15, .int (nI 1)), (18, .int (nI 4)), (17, .int (nI ((z / 96) % 4))), (16, .int (h_pl (z % 2) σ)), (13, .long (lJ C9)), (12, .int (nI ((z / 24) % 4))), (11, .int (nI ((z / 2) % 12))), (10, .ref (L 900 (z % 2))), (9, .int (nI (z % 2))), (0, .ref x9), (1, .ref (L 900 0)), (2, .ref (L 900 1)), (3, .ref (L 901 0)), (4, .ref (L 902 0)), (5, .ref (L 903 0)), (6, .ref (L 904 0)), (7, .ref (L 905 0)), (8, .int (nI z))]) hx hb dL_isSame_385 hl (by decide) rfl (fun ls hl => ?_)
      refine r_iincN (b := 1) (lv' := [(18, .int (nI 5)), (15, .int (nI 1)), (17, .int (nI ((z / 96) % 4))), (16, .int (h_pl (z % 2) σ)), (13, .long (lJ C9)), (12, .int (nI ((z / 24) % 4))), (11, .int (nI ((z / 2) % 12))), (10, .ref (L 900 (z % 2))), (9, .int (nI (z % 2))), (0, .ref x9), (1, .ref (L 900 0)), (2, .ref (L 900 1)), (3, .ref (L 901 0)), (4, .ref (L 902 0)), (5, .ref (L 903 0)), (6, .ref (L 904 0)), (7, .ref (L 905 0)), (8, .int (nI z))]) hx hb dL_isSame_387 hl (k := 1) rfl (by decide) (by decide) rfl (fun ls hl => ?_)
      refine lv_goto (tgt := 325) hx hb dL_isSame_390 (by decide) ?_
      refine lv_iload hx hb dL_isSame_325 (lv_at hl 0 rfl) ?_
      refine lv_bipush (v := nI 6) hx hb dL_isSame_327 (by decide) ?_
      refine r_icmp_geN (tgt := 393) hx hb dL_isSame_329 (by decide) (by omega) (by omega) (fun c_329_6 => absurd c_329_6 (by decide)) (fun c_329_6 => ?_)
      refine lv_iload hx hb dL_isSame_332 (lv_at hl 1 rfl) ?_
      refine r_if_eqN (tgt := 393) hx hb dL_isSame_334 (by decide) (by omega) (fun c_334_6 => absurd c_334_6 (by decide)) (fun c_334_6 => ?_)
      refine lv_aload_n hx hb dL_isSame_337 rfl (lv_at hl 9 rfl) ?_
      refine lv_iload hx hb dL_isSame_338 (lv_at hl 2 rfl) ?_
      refine lv_iload hx hb dL_isSame_340 (lv_at hl 0 rfl) ?_
      refine v_oq X hK hE hX hW hS yvX8_ofTool ml_L_94 [.int (nI ((z / 96) % 4)), .int (nI 5)] [] (Q_ofTool hl9 hR hJ (t := z / 96 % 4) (k := 5) (by omega) (by decide)) rfl hl.1 rfl (Nat.le_of_ble_eq_true rfl) ⟨Nat.le_of_ble_eq_true rfl, Nat.le_of_ble_eq_true rfl⟩ ⟨Nat.le_of_ble_eq_true rfl, Nat.le_of_ble_eq_true rfl⟩ dL_isSame_342 (fun κ τ H locs hW hR hJ hS => ?_)
      have hG : PW D cI cZ cO vdom L σ (vim L) H := hW.g
      refine r_top (y := σ.2.2.2 902 0 (9 * (z / 96 % 4) + 8)) (rfl) ?_
      refine lv_aload hx hb dL_isSame_345 (lv_at hl 13 rfl) ?_
      refine lv_bipush (v := nI 9) hx hb dL_isSame_347 (by decide) ?_
      refine lv_iload hx hb dL_isSame_349 (lv_at hl 2 rfl) ?_
      refine r_mulN hx hb dL_isSame_351 ?_
      refine lv_iload hx hb dL_isSame_352 (lv_at hl 0 rfl) ?_
      refine lv_iconst (v := nI 4) hx hb dL_isSame_354 (by decide) ?_
      refine r_icmp_geN (tgt := 363) hx hb dL_isSame_355 (by decide) (by omega) (by omega) (fun c_355_6 => ?_) (fun c_355_6 => absurd c_355_6 (by decide))
      refine lv_iload hx hb dL_isSame_363 (lv_at hl 0 rfl) ?_
      refine lv_iconst (v := nI 4) hx hb dL_isSame_365 (by decide) ?_
      refine r_icmp_neN (tgt := 373) hx hb dL_isSame_366 (by decide) (by omega) (by omega) (fun c_366_2 => ?_) (fun c_366_2 => absurd c_366_2 (by decide))
      refine lv_bipush (v := nI 8) hx hb dL_isSame_373 (by decide) ?_
      refine r_addN hx hb dL_isSame_375 ?_
      refine pw_ald8 X hK hG 902 fa_902 (vd_1 (by decide)) (i := (9 * ((z / 96) % 4)) + 8) (N := σ.2.2.1 902 0 0) (x := σ.2.2.2 902 0 ((9 * ((z / 96) % 4)) + 8)) rfl (by omega) (by omega) rfl dL_isSame_376 ?_
      refine lv_icmp_ne (tgt := 384) hx hb dL_isSame_377 (by decide) (fun c_377_6 => absurd rfl c_377_6) (fun c_377_6 => ?_)
      refine lv_iconst (v := nI 1) hx hb dL_isSame_380 (by decide) ?_
      refine lv_goto (tgt := 385) hx hb dL_isSame_381 (by decide) ?_
      refine lv_istore (lv' := [(15, .int (nI 1)), (18, .int (nI 5)), (17, .int (nI ((z / 96) % 4))), (16, .int (h_pl (z % 2) σ)), (13, .long (lJ C9)), (12, .int (nI ((z / 24) % 4))), (11, .int (nI ((z / 2) % 12))), (10, .ref (L 900 (z % 2))), (9, .int (nI (z % 2))), (0, .ref x9), (1, .ref (L 900 0)), (2, .ref (L 900 1)), (3, .ref (L 901 0)), (4, .ref (L 902 0)), (5, .ref (L 903 0)), (6, .ref (L 904 0)), (7, .ref (L 905 0)), (8, .int (nI z))]) hx hb dL_isSame_385 hl (by decide) rfl (fun ls hl => ?_)
      refine r_iincN (b := 1) (lv' := [(18, .int (nI 6)), (15, .int (nI 1)), (17, .int (nI ((z / 96) % 4))), (16, .int (h_pl (z % 2) σ)), (13, .long (lJ C9)), (12, .int (nI ((z / 24) % 4))), (11, .int (nI ((z / 2) % 12))), (10, .ref (L 900 (z % 2))), (9, .int (nI (z % 2))), (0, .ref x9), (1, .ref (L 900 0)), (2, .ref (L 900 1)), (3, .ref (L 901 0)), (4, .ref (L 902 0)), (5, .ref (L 903 0)), (6, .ref (L 904 0)), (7, .ref (L 905 0)), (8, .int (nI z))]) hx hb dL_isSame_387 hl (k := 1) rfl (by decide) (by decide) rfl (fun ls hl => ?_)
      refine lv_goto (tgt := 325) hx hb dL_isSame_390 (by decide) ?_
      refine lv_iload hx hb dL_isSame_325 (lv_at hl 0 rfl) ?_
      refine lv_bipush (v := nI 6) hx hb dL_isSame_327 (by decide) ?_
      refine r_icmp_geN (tgt := 393) hx hb dL_isSame_329 (by decide) (by omega) (by omega) (fun c_329_7 => ?_) (fun c_329_7 => absurd c_329_7 (by decide))
      refine r_cutW (D := D) (A := vA z0) (H0 := s.heap) (nL := 20) (VQ D cI cZ cO t0 z0 x9 L K) 604 [(0, .ref x9), (1, .ref (L 900 0)), (2, .ref (L 900 1)), (3, .ref (L 901 0)), (4, .ref (L 902 0)), (5, .ref (L 903 0)), (6, .ref (L 904 0)), (7, .ref (L 905 0)), (8, .int (nI z)), (9, .int (nI (z % 2))), (15, .int (nI 1))] 45 552 (fun H locs ls hP hS hl => ?_) (fun J_604 => ?_)
      · have hl : lv_has ls 20 [(0, .ref x9), (1, .ref (L 900 0)), (2, .ref (L 900 1)), (3, .ref (L 901 0)), (4, .ref (L 902 0)), (5, .ref (L 903 0)), (6, .ref (L 904 0)), (7, .ref (L 905 0)), (8, .int (nI z)), (9, .int (nI (z % 2))), (15, .int (nI 1))] := hl
        obtain ⟨κ, σ, τ, hW, hR, hJ⟩ := hP
        have hG : PW D cI cZ cO vdom L σ (vim L) H := hW.g
        have hN2 : σ.2.2.1 902 0 0 = 36 := hJ.1.1
        have hN3 : σ.2.2.1 903 0 0 = 37 := hJ.1.2.1
        have hN5 : σ.2.2.1 905 0 0 = 11 := hJ.1.2.2
        refine lv_aload hx hb dL_isSame_604 (lv_at hl 5 rfl) ?_
        refine lv_bipush (v := nI 28) hx hb dL_isSame_606 (by decide) ?_
        refine pw_ald8 X hK hG 903 fa_903 (vd_1 (by decide)) (i := 28) (N := σ.2.2.1 903 0 0) (x := σ.2.2.2 903 0 28) rfl (by omega) (by omega) rfl dL_isSame_608 ?_
        refine lv_if_le (tgt := 745) hx hb dL_isSame_609 (by decide) (fun c_609 => ?_) (fun c_609 => ?_)
        · refine lv_iload hx hb dL_isSame_745 (lv_at hl 10 rfl) ?_
          exact vi_ret X hr hlocks (⟨κ, σ, τ, hW, hR, hJ⟩) hS (rfl) (Nat.le_of_ble_eq_true rfl) (Nat.le_of_ble_eq_true rfl) rfl dL_isSame_747
        · refine lv_iload hx hb dL_isSame_612 (lv_at hl 10 rfl) ?_
          refine r_if_eqN (tgt := 745) hx hb dL_isSame_614 (by decide) (by omega) (fun c_614 => absurd c_614 (by decide)) (fun c_614 => ?_)
          have h28 : ¬ σ.2.2.2 903 0 28 = 0 := fun y => by rw [y] at c_609; exact c_609 (by decide)
          refine lv_aload hx hb dL_isSame_617 (lv_at hl 5 rfl) ?_
          refine lv_bipush (v := nI 28) hx hb dL_isSame_619 (by decide) ?_
          refine pw_ald8 X hK hG 903 fa_903 (vd_1 (by decide)) (i := 28) (N := σ.2.2.1 903 0 0) (x := σ.2.2.2 903 0 28) rfl (by omega) (by omega) rfl dL_isSame_621 ?_
          refine lv_iconst (v := nI 1) hx hb dL_isSame_622 (by decide) ?_
          refine lv_isub hx hb dL_isSame_623 ?_
          refine lv_istore (lv' := [(18, .int ((σ.2.2.2 903 0 28) - (nI 1))), (0, .ref x9), (1, .ref (L 900 0)), (2, .ref (L 900 1)), (3, .ref (L 901 0)), (4, .ref (L 902 0)), (5, .ref (L 903 0)), (6, .ref (L 904 0)), (7, .ref (L 905 0)), (8, .int (nI z)), (9, .int (nI (z % 2))), (15, .int (nI 1))]) hx hb dL_isSame_624 hl (by decide) rfl (fun ls hl => ?_)
          refine lv_aload_n hx hb dL_isSame_626 rfl (lv_at hl 1 rfl) ?_
          refine lv_iload hx hb dL_isSame_627 (lv_at hl 0 rfl) ?_
          refine lv_iconst (v := nI 0) hx hb dL_isSame_629 (by decide) ?_
          refine v_oq X hK hE hX hW hS yvX8_ofPaper ml_L_115 [.int ((σ.2.2.2 903 0 28) - (nI 1)), .int (nI 0)] [] (Q_ofPaper hl9 hR hJ (k := 0) h28 (by decide)) rfl hl.1 rfl (Nat.le_of_ble_eq_true rfl) ⟨Nat.le_of_ble_eq_true rfl, Nat.le_of_ble_eq_true rfl⟩ ⟨Nat.le_of_ble_eq_true rfl, Nat.le_of_ble_eq_true rfl⟩ dL_isSame_630 (fun κ τ H locs hW hR hJ hS => ?_)
          have hG : PW D cI cZ cO vdom L σ (vim L) H := hW.g
          refine r_top (y := σ.2.2.2 903 0 29) (rfl) ?_
          refine lv_aload hx hb dL_isSame_633 (lv_at hl 6 rfl) ?_
          refine lv_bipush (v := nI 29) hx hb dL_isSame_635 (by decide) ?_
          refine pw_ald8 X hK hG 903 fa_903 (vd_1 (by decide)) (i := 29) (N := σ.2.2.1 903 0 0) (x := σ.2.2.2 903 0 29) rfl (by omega) (by omega) rfl dL_isSame_637 ?_
          refine lv_icmp_ne (tgt := 742) hx hb dL_isSame_638 (by decide) (fun c_638 => absurd rfl c_638) (fun c_638 => ?_)
          refine lv_aload_n hx hb dL_isSame_641 rfl (lv_at hl 1 rfl) ?_
          refine lv_iload hx hb dL_isSame_642 (lv_at hl 0 rfl) ?_
          refine lv_iconst (v := nI 1) hx hb dL_isSame_644 (by decide) ?_
          refine v_oq X hK hE hX hW hS yvX8_ofPaper ml_L_115 [.int ((σ.2.2.2 903 0 28) - (nI 1)), .int (nI 1)] [] (Q_ofPaper hl9 hR hJ (k := 1) h28 (by decide)) rfl hl.1 rfl (Nat.le_of_ble_eq_true rfl) ⟨Nat.le_of_ble_eq_true rfl, Nat.le_of_ble_eq_true rfl⟩ ⟨Nat.le_of_ble_eq_true rfl, Nat.le_of_ble_eq_true rfl⟩ dL_isSame_645 (fun κ τ H locs hW hR hJ hS => ?_)
          have hG : PW D cI cZ cO vdom L σ (vim L) H := hW.g
          refine r_top (y := nI 0) (rfl) ?_
          refine r_if_neN (tgt := 742) hx hb dL_isSame_648 (by decide) (by omega) (fun c_648 => absurd c_648 (by decide)) (fun c_648 => ?_)
          refine lv_aload_n hx hb dL_isSame_651 rfl (lv_at hl 1 rfl) ?_
          refine lv_iload hx hb dL_isSame_652 (lv_at hl 0 rfl) ?_
          refine lv_iconst (v := nI 2) hx hb dL_isSame_654 (by decide) ?_
          refine v_oq X hK hE hX hW hS yvX8_ofPaper ml_L_115 [.int ((σ.2.2.2 903 0 28) - (nI 1)), .int (nI 2)] [] (Q_ofPaper hl9 hR hJ (k := 2) h28 (by decide)) rfl hl.1 rfl (Nat.le_of_ble_eq_true rfl) ⟨Nat.le_of_ble_eq_true rfl, Nat.le_of_ble_eq_true rfl⟩ ⟨Nat.le_of_ble_eq_true rfl, Nat.le_of_ble_eq_true rfl⟩ dL_isSame_655 (fun κ τ H locs hW hR hJ hS => ?_)
          have hG : PW D cI cZ cO vdom L σ (vim L) H := hW.g
          refine r_top (y := σ.2.2.2 903 0 30) (rfl) ?_
          refine lv_aload hx hb dL_isSame_658 (lv_at hl 6 rfl) ?_
          refine lv_bipush (v := nI 30) hx hb dL_isSame_660 (by decide) ?_
          refine pw_ald8 X hK hG 903 fa_903 (vd_1 (by decide)) (i := 30) (N := σ.2.2.1 903 0 0) (x := σ.2.2.2 903 0 30) rfl (by omega) (by omega) rfl dL_isSame_662 ?_
          refine lv_icmp_ne (tgt := 742) hx hb dL_isSame_663 (by decide) (fun c_663 => absurd rfl c_663) (fun c_663 => ?_)
          refine lv_aload_n hx hb dL_isSame_666 rfl (lv_at hl 1 rfl) ?_
          refine lv_iload hx hb dL_isSame_667 (lv_at hl 0 rfl) ?_
          refine lv_iconst (v := nI 3) hx hb dL_isSame_669 (by decide) ?_
          refine v_oq X hK hE hX hW hS yvX8_ofPaper ml_L_115 [.int ((σ.2.2.2 903 0 28) - (nI 1)), .int (nI 3)] [] (Q_ofPaper hl9 hR hJ (k := 3) h28 (by decide)) rfl hl.1 rfl (Nat.le_of_ble_eq_true rfl) ⟨Nat.le_of_ble_eq_true rfl, Nat.le_of_ble_eq_true rfl⟩ ⟨Nat.le_of_ble_eq_true rfl, Nat.le_of_ble_eq_true rfl⟩ dL_isSame_670 (fun κ τ H locs hW hR hJ hS => ?_)
          have hG : PW D cI cZ cO vdom L σ (vim L) H := hW.g
          refine r_top (y := σ.2.2.2 903 0 31) (rfl) ?_
          refine lv_aload hx hb dL_isSame_673 (lv_at hl 6 rfl) ?_
          refine lv_bipush (v := nI 31) hx hb dL_isSame_675 (by decide) ?_
          refine pw_ald8 X hK hG 903 fa_903 (vd_1 (by decide)) (i := 31) (N := σ.2.2.1 903 0 0) (x := σ.2.2.2 903 0 31) rfl (by omega) (by omega) rfl dL_isSame_677 ?_
          refine lv_icmp_ne (tgt := 742) hx hb dL_isSame_678 (by decide) (fun c_678 => absurd rfl c_678) (fun c_678 => ?_)
          refine lv_aload_n hx hb dL_isSame_681 rfl (lv_at hl 1 rfl) ?_
          refine lv_iload hx hb dL_isSame_682 (lv_at hl 0 rfl) ?_
          refine lv_iconst (v := nI 4) hx hb dL_isSame_684 (by decide) ?_
          refine v_oq X hK hE hX hW hS yvX8_ofPaper ml_L_115 [.int ((σ.2.2.2 903 0 28) - (nI 1)), .int (nI 4)] [] (Q_ofPaper hl9 hR hJ (k := 4) h28 (by decide)) rfl hl.1 rfl (Nat.le_of_ble_eq_true rfl) ⟨Nat.le_of_ble_eq_true rfl, Nat.le_of_ble_eq_true rfl⟩ ⟨Nat.le_of_ble_eq_true rfl, Nat.le_of_ble_eq_true rfl⟩ dL_isSame_685 (fun κ τ H locs hW hR hJ hS => ?_)
          have hG : PW D cI cZ cO vdom L σ (vim L) H := hW.g
          refine r_top (y := σ.2.2.2 903 0 32) (rfl) ?_
          refine lv_aload hx hb dL_isSame_688 (lv_at hl 6 rfl) ?_
          refine lv_bipush (v := nI 32) hx hb dL_isSame_690 (by decide) ?_
          refine pw_ald8 X hK hG 903 fa_903 (vd_1 (by decide)) (i := 32) (N := σ.2.2.1 903 0 0) (x := σ.2.2.2 903 0 32) rfl (by omega) (by omega) rfl dL_isSame_692 ?_
          refine lv_icmp_ne (tgt := 742) hx hb dL_isSame_693 (by decide) (fun c_693 => absurd rfl c_693) (fun c_693 => ?_)
          refine lv_aload_n hx hb dL_isSame_696 rfl (lv_at hl 1 rfl) ?_
          refine lv_iload hx hb dL_isSame_697 (lv_at hl 0 rfl) ?_
          refine lv_iconst (v := nI 5) hx hb dL_isSame_699 (by decide) ?_
          refine v_oq X hK hE hX hW hS yvX8_ofPaper ml_L_115 [.int ((σ.2.2.2 903 0 28) - (nI 1)), .int (nI 5)] [] (Q_ofPaper hl9 hR hJ (k := 5) h28 (by decide)) rfl hl.1 rfl (Nat.le_of_ble_eq_true rfl) ⟨Nat.le_of_ble_eq_true rfl, Nat.le_of_ble_eq_true rfl⟩ ⟨Nat.le_of_ble_eq_true rfl, Nat.le_of_ble_eq_true rfl⟩ dL_isSame_700 (fun κ τ H locs hW hR hJ hS => ?_)
          have hG : PW D cI cZ cO vdom L σ (vim L) H := hW.g
          refine r_top (y := σ.2.2.2 903 0 33) (rfl) ?_
          refine lv_aload hx hb dL_isSame_703 (lv_at hl 6 rfl) ?_
          refine lv_bipush (v := nI 33) hx hb dL_isSame_705 (by decide) ?_
          refine pw_ald8 X hK hG 903 fa_903 (vd_1 (by decide)) (i := 33) (N := σ.2.2.1 903 0 0) (x := σ.2.2.2 903 0 33) rfl (by omega) (by omega) rfl dL_isSame_707 ?_
          refine lv_icmp_ne (tgt := 742) hx hb dL_isSame_708 (by decide) (fun c_708 => absurd rfl c_708) (fun c_708 => ?_)
          refine lv_aload_n hx hb dL_isSame_711 rfl (lv_at hl 1 rfl) ?_
          refine lv_iload hx hb dL_isSame_712 (lv_at hl 0 rfl) ?_
          refine lv_bipush (v := nI 6) hx hb dL_isSame_714 (by decide) ?_
          refine v_oq X hK hE hX hW hS yvX8_ofPaper ml_L_115 [.int ((σ.2.2.2 903 0 28) - (nI 1)), .int (nI 6)] [] (Q_ofPaper hl9 hR hJ (k := 6) h28 (by decide)) rfl hl.1 rfl (Nat.le_of_ble_eq_true rfl) ⟨Nat.le_of_ble_eq_true rfl, Nat.le_of_ble_eq_true rfl⟩ ⟨Nat.le_of_ble_eq_true rfl, Nat.le_of_ble_eq_true rfl⟩ dL_isSame_716 (fun κ τ H locs hW hR hJ hS => ?_)
          have hG : PW D cI cZ cO vdom L σ (vim L) H := hW.g
          refine r_top (y := σ.2.2.2 903 0 34) (rfl) ?_
          refine lv_aload hx hb dL_isSame_719 (lv_at hl 6 rfl) ?_
          refine lv_bipush (v := nI 34) hx hb dL_isSame_721 (by decide) ?_
          refine pw_ald8 X hK hG 903 fa_903 (vd_1 (by decide)) (i := 34) (N := σ.2.2.1 903 0 0) (x := σ.2.2.2 903 0 34) rfl (by omega) (by omega) rfl dL_isSame_723 ?_
          refine lv_icmp_ne (tgt := 742) hx hb dL_isSame_724 (by decide) (fun c_724 => absurd rfl c_724) (fun c_724 => ?_)
          refine lv_aload_n hx hb dL_isSame_727 rfl (lv_at hl 1 rfl) ?_
          refine lv_iload hx hb dL_isSame_728 (lv_at hl 0 rfl) ?_
          refine lv_bipush (v := nI 7) hx hb dL_isSame_730 (by decide) ?_
          refine v_oq X hK hE hX hW hS yvX8_ofPaper ml_L_115 [.int ((σ.2.2.2 903 0 28) - (nI 1)), .int (nI 7)] [] (Q_ofPaper hl9 hR hJ (k := 7) h28 (by decide)) rfl hl.1 rfl (Nat.le_of_ble_eq_true rfl) ⟨Nat.le_of_ble_eq_true rfl, Nat.le_of_ble_eq_true rfl⟩ ⟨Nat.le_of_ble_eq_true rfl, Nat.le_of_ble_eq_true rfl⟩ dL_isSame_732 (fun κ τ H locs hW hR hJ hS => ?_)
          have hG : PW D cI cZ cO vdom L σ (vim L) H := hW.g
          refine r_top (y := nI 0) (rfl) ?_
          refine r_if_neN (tgt := 742) hx hb dL_isSame_735 (by decide) (by omega) (fun c_735 => absurd c_735 (by decide)) (fun c_735 => ?_)
          refine lv_iconst (v := nI 1) hx hb dL_isSame_738 (by decide) ?_
          refine lv_goto (tgt := 743) hx hb dL_isSame_739 (by decide) ?_
          refine lv_istore (lv' := [(15, .int (nI 1)), (18, .int ((σ.2.2.2 903 0 28) - (nI 1))), (0, .ref x9), (1, .ref (L 900 0)), (2, .ref (L 900 1)), (3, .ref (L 901 0)), (4, .ref (L 902 0)), (5, .ref (L 903 0)), (6, .ref (L 904 0)), (7, .ref (L 905 0)), (8, .int (nI z)), (9, .int (nI (z % 2)))]) hx hb dL_isSame_743 hl (by decide) rfl (fun ls hl => ?_)
          refine lv_iload hx hb dL_isSame_745 (lv_at hl 0 rfl) ?_
          exact vi_ret X hr hlocks (⟨κ, σ, τ, hW, hR, hJ⟩) hS (rfl) (Nat.le_of_ble_eq_true rfl) (Nat.le_of_ble_eq_true rfl) rfl dL_isSame_747
      · refine lv_iload hx hb dL_isSame_393 (lv_at hl 17 rfl) ?_
        refine lv_sipush (v := nI 384) hx hb dL_isSame_395 (by decide) ?_
        refine r_divN hx hb (by omega) (by decide) (by decide) dL_isSame_398 ?_
        refine lv_iconst (v := nI 4) hx hb dL_isSame_399 (by decide) ?_
        refine r_remN hx hb (by omega) (by decide) (by decide) dL_isSame_400 ?_
        refine r_if_neN (tgt := 522) hx hb dL_isSame_401 (by decide) (by omega) (fun c_401 => ?_) (fun c_401 => ?_)
        · refine lv_iload hx hb dL_isSame_522 (lv_at hl 17 rfl) ?_
          refine lv_sipush (v := nI 384) hx hb dL_isSame_524 (by decide) ?_
          refine r_divN hx hb (by omega) (by decide) (by decide) dL_isSame_527 ?_
          refine lv_iconst (v := nI 4) hx hb dL_isSame_528 (by decide) ?_
          refine r_remN hx hb (by omega) (by decide) (by decide) dL_isSame_529 ?_
          refine lv_iconst (v := nI 1) hx hb dL_isSame_530 (by decide) ?_
          refine r_icmp_neN (tgt := 604) hx hb dL_isSame_531 (by decide) (by omega) (by omega) (fun c_531 => ?_) (fun c_531 => ?_)
          · exact J_604 H locs ls _ _ (⟨κ, σ, τ, hW, hR, hJ⟩) hS (lv_sub hl [9, 10, 11, 12, 13, 14, 15, 16, 17, 8, 1] rfl) (Nat.le_of_ble_eq_true rfl) (Nat.le_of_ble_eq_true rfl)
          · refine lv_iload hx hb dL_isSame_534 (lv_at hl 1 rfl) ?_
            refine r_if_eqN (tgt := 604) hx hb dL_isSame_536 (by decide) (by omega) (fun c_536 => absurd c_536 (by decide)) (fun c_536 => ?_)
            refine lv_aload_n hx hb dL_isSame_539 rfl (lv_at hl 9 rfl) ?_
            have hq9 := Q_foresees (D := D) (cI := cI) (cZ := cZ) (cO := cO) (t0 := t0) (mi := mi) (l := l) hR hJ
            have hM9 := fun (κ9 : St) => v_L_foreseen (D := D) (cI := cI) (cZ := cZ) (cO := cO) (t0 := t0) (mi := mi) (z0 := z0) (x9 := x9) (L := L) l κ9 σ hJ.1 (fore_sim hJ).2.1
            generalize (h_night 2 3 1 1 1 (fcp σ)).1 = n9 at hq9 hM9
            refine v_oqX X hK hE hW hS yvX8_foresees ml_L_103 [] [] (hq9) rfl hl.1 rfl (Nat.le_of_ble_eq_true rfl) ⟨Nat.le_of_ble_eq_true rfl, Nat.le_of_ble_eq_true rfl⟩ ⟨Nat.le_of_ble_eq_true rfl, Nat.le_of_ble_eq_true rfl⟩ dL_isSame_540 (fun κ τ H locs hW hR hJ hS => ?_)
            have hG : PW D cI cZ cO vdom L σ (vim L) H := hW.g
            refine lv_aload_n hx hb dL_isSame_543 rfl (lv_at hl 10 rfl) ?_
            refine lv_aload_n hx hb dL_isSame_544 rfl (lv_at hl 11 rfl) ?_
            refine lv_aload_n hx hb dL_isSame_545 rfl (lv_at hl 12 rfl) ?_
            refine lv_aload hx hb dL_isSame_546 (lv_at hl 13 rfl) ?_
            refine lv_aload hx hb dL_isSame_548 (lv_at hl 14 rfl) ?_
            refine lv_aload hx hb dL_isSame_550 (lv_at hl 15 rfl) ?_
            refine lv_aload hx hb dL_isSame_552 (lv_at hl 16 rfl) ?_
            refine vi_call X hK hE hX (P := Vd D cI cZ cO t0 z0 x9 L κ σ) (P' := VE9 D cI cZ cO t0 z0 x9 L κ σ) (hW) (hW.choose_spec.choose_spec.2.2.2.2.2) hS ysL_foreseen ml_L_106 [.ref (L 900 0), .ref (L 900 1), .ref (L 901 0), .ref (L 902 0), .ref (L 903 0), .ref (L 904 0), .ref (L 905 0)] [.int (nI n9)] (hM9 κ) rfl hl.1 rfl (Nat.le_of_ble_eq_true rfl) ⟨Nat.le_of_ble_eq_true rfl, Nat.le_of_ble_eq_true rfl⟩ ⟨Nat.le_of_ble_eq_true rfl, Nat.le_of_ble_eq_true rfl⟩ dL_isSame_554 (fun H locs hP hS => ?_)
            obtain ⟨σ2, r2, hW⟩ := hP
            have hG : PW D cI cZ cO vdom L σ2 (vim L) H := hW.g
            refine lv_icmp_ne (tgt := 601) hx hb dL_isSame_557 (by decide) (fun c_557 => absurd rfl c_557) (fun c_557 => ?_)
            refine lv_aload_n hx hb dL_isSame_560 rfl (lv_at hl 9 rfl) ?_
            refine lv_iload hx hb dL_isSame_561 (lv_at hl 17 rfl) ?_
            refine lv_sipush (v := nI 1536) hx hb dL_isSame_563 (by decide) ?_
            refine r_divN hx hb (by omega) (by decide) (by decide) dL_isSame_566 ?_
            refine lv_iconst (v := nI 4) hx hb dL_isSame_567 (by decide) ?_
            refine r_remN hx hb (by omega) (by decide) (by decide) dL_isSame_568 ?_
            have hJ := hJ.rho r2
            have hq8 := Q_lacks (D := D) (cI := cI) (cZ := cZ) (cO := cO) (t0 := t0) (mi := mi) (l := l) hl9 hR hJ (kd := z / 1536 % 4) (by omega)
            have hM8 := fun (κ9 τ9 : St) (h1 : JJ K σ2 τ9) (h2 : GW wr0 τ9) => v_L_lacks (D := D) (cI := cI) (cZ := cZ) (cO := cO) (t0 := t0) (mi := mi) (z0 := z0) (x9 := x9) (L := L) l K (z / 1536 % 4) κ9 σ2 τ9 (by omega) h1 h2
            generalize (h_lacks (z / 1536 % 4) σ2).1 = m9 at hq8 hM8
            refine v_oq X hK hE hX hW hS yvX8_lacks ml_L_109 [.int (nI ((z / 1536) % 4))] [] (hq8) rfl hl.1 rfl (Nat.le_of_ble_eq_true rfl) ⟨Nat.le_of_ble_eq_true rfl, Nat.le_of_ble_eq_true rfl⟩ ⟨Nat.le_of_ble_eq_true rfl, Nat.le_of_ble_eq_true rfl⟩ dL_isSame_569 (fun κ τ H locs hW hR hJ hS => ?_)
            have hG : PW D cI cZ cO vdom L σ2 (vim L) H := hW.g
            refine lv_aload_n hx hb dL_isSame_572 rfl (lv_at hl 10 rfl) ?_
            refine lv_aload_n hx hb dL_isSame_573 rfl (lv_at hl 11 rfl) ?_
            refine lv_aload_n hx hb dL_isSame_574 rfl (lv_at hl 12 rfl) ?_
            refine lv_aload hx hb dL_isSame_575 (lv_at hl 13 rfl) ?_
            refine lv_aload hx hb dL_isSame_577 (lv_at hl 14 rfl) ?_
            refine lv_aload hx hb dL_isSame_579 (lv_at hl 15 rfl) ?_
            refine lv_aload hx hb dL_isSame_581 (lv_at hl 16 rfl) ?_
            refine lv_iload hx hb dL_isSame_583 (lv_at hl 17 rfl) ?_
            refine lv_sipush (v := nI 1536) hx hb dL_isSame_585 (by decide) ?_
            refine r_divN hx hb (by omega) (by decide) (by decide) dL_isSame_588 ?_
            refine lv_iconst (v := nI 4) hx hb dL_isSame_589 (by decide) ?_
            refine r_remN hx hb (by omega) (by decide) (by decide) dL_isSame_590 ?_
            refine vi_call X hK hE hX (P := Vd D cI cZ cO t0 z0 x9 L κ σ2) (P' := VE9 D cI cZ cO t0 z0 x9 L κ σ2) (hW) (hW.choose_spec.choose_spec.2.2.2.2.2) hS ysL_lacks ml_L_112 [.ref (L 900 0), .ref (L 900 1), .ref (L 901 0), .ref (L 902 0), .ref (L 903 0), .ref (L 904 0), .ref (L 905 0), .int (nI ((z / 1536) % 4))] [.int m9] (hM8 κ τ hJ hR.2.2.2.2.2.2.2.2.2.2.2.2.2.2.2.2) rfl hl.1 rfl (Nat.le_of_ble_eq_true rfl) ⟨Nat.le_of_ble_eq_true rfl, Nat.le_of_ble_eq_true rfl⟩ ⟨Nat.le_of_ble_eq_true rfl, Nat.le_of_ble_eq_true rfl⟩ dL_isSame_591 (fun H locs hP hS => ?_)
            obtain ⟨σ3, r3, hW⟩ := hP
            have hG : PW D cI cZ cO vdom L σ3 (vim L) H := hW.g
            refine lv_icmp_ne (tgt := 601) hx hb dL_isSame_594 (by decide) (fun c_594 => absurd rfl c_594) (fun c_594 => ?_)
            refine lv_iconst (v := nI 1) hx hb dL_isSame_597 (by decide) ?_
            refine lv_goto (tgt := 602) hx hb dL_isSame_598 (by decide) ?_
            refine lv_istore (lv' := [(15, .int (nI 1)), (18, .int (nI 6)), (17, .int (nI ((z / 96) % 4))), (16, .int (h_pl (z % 2) σ)), (13, .long (lJ C9)), (12, .int (nI ((z / 24) % 4))), (11, .int (nI ((z / 2) % 12))), (10, .ref (L 900 (z % 2))), (9, .int (nI (z % 2))), (0, .ref x9), (1, .ref (L 900 0)), (2, .ref (L 900 1)), (3, .ref (L 901 0)), (4, .ref (L 902 0)), (5, .ref (L 903 0)), (6, .ref (L 904 0)), (7, .ref (L 905 0)), (8, .int (nI z))]) hx hb dL_isSame_602 hl (by decide) rfl (fun ls hl => ?_)
            exact J_604 H locs ls _ _ (⟨κ, σ3, τ, hW, hR, hJ.rho r3⟩) hS (lv_sub hl [9, 10, 11, 12, 13, 14, 15, 16, 17, 8, 0] rfl) (Nat.le_of_ble_eq_true rfl) (Nat.le_of_ble_eq_true rfl)
        · refine lv_iload hx hb dL_isSame_404 (lv_at hl 1 rfl) ?_
          refine r_if_eqN (tgt := 522) hx hb dL_isSame_406 (by decide) (by omega) (fun c_406 => absurd c_406 (by decide)) (fun c_406 => ?_)
          refine lv_iload hx hb dL_isSame_409 (lv_at hl 17 rfl) ?_
          refine lv_sipush (v := nI 1536) hx hb dL_isSame_411 (by decide) ?_
          refine r_divN hx hb (by omega) (by decide) (by decide) dL_isSame_414 ?_
          refine lv_iconst (v := nI 3) hx hb dL_isSame_415 (by decide) ?_
          refine r_remN hx hb (by omega) (by decide) (by decide) dL_isSame_416 ?_
          refine lv_istore (lv' := [(18, .int (nI ((z / 1536) % 3))), (15, .int (nI 1)), (17, .int (nI ((z / 96) % 4))), (16, .int (h_pl (z % 2) σ)), (13, .long (lJ C9)), (12, .int (nI ((z / 24) % 4))), (11, .int (nI ((z / 2) % 12))), (10, .ref (L 900 (z % 2))), (9, .int (nI (z % 2))), (0, .ref x9), (1, .ref (L 900 0)), (2, .ref (L 900 1)), (3, .ref (L 901 0)), (4, .ref (L 902 0)), (5, .ref (L 903 0)), (6, .ref (L 904 0)), (7, .ref (L 905 0)), (8, .int (nI z))]) hx hb dL_isSame_417 hl (by decide) rfl (fun ls hl => ?_)
          refine lv_aload hx hb dL_isSame_419 (lv_at hl 7 rfl) ?_
          refine x_cp X hK (VX.of hW) hS (kr := z % 2) 2 vd_LD (vd_0 (by omega)) (nd_9 (by decide)) rfl hl.1 (Nat.le_of_ble_eq_true rfl) ⟨Nat.le_of_ble_eq_true rfl, Nat.le_of_ble_eq_true rfl⟩ ⟨Nat.le_of_ble_eq_true rfl, Nat.le_of_ble_eq_true rfl⟩ dL_isSame_421 (fun a9 H locs hV hS => ?_)
          refine lv_aload_n hx hb dL_isSame_424 rfl (lv_at hl 12 rfl) ?_
          refine lv_aload hx hb dL_isSame_425 (lv_at hl 13 rfl) ?_
          refine lv_aload hx hb dL_isSame_427 (lv_at hl 14 rfl) ?_
          refine lv_aload hx hb dL_isSame_429 (lv_at hl 15 rfl) ?_
          refine lv_iload hx hb dL_isSame_431 (lv_at hl 0 rfl) ?_
          refine lv_iconst (v := nI 0) hx hb dL_isSame_433 (by decide) ?_
          refine lv_iconst (v := nI 0) hx hb dL_isSame_434 (by decide) ?_
          refine x_run X hK hJ (q := z % 2) (pr := z / 1536 % 3) (fr := 0) (a := a9) (rest := []) (by omega) (by omega) (by decide) hV hS (idx := 33) ml_L_33 rfl hl.1 (Nat.le_of_ble_eq_true rfl) ⟨Nat.le_of_ble_eq_true rfl, Nat.le_of_ble_eq_true rfl⟩ ⟨Nat.le_of_ble_eq_true rfl, Nat.le_of_ble_eq_true rfl⟩ dL_isSame_435 (fun σ2 H locs hσ2 hW hS => ?_)
          have hq1 := fun (κ9 τ9 : St) (h1 : Rl wr0 κ9 τ9) (h2 : JJ K σ τ9) => Q_prove (D := D) (cI := cI) (cZ := cZ) (cO := cO) (t0 := t0) (mi := mi) (l := l) hl9 h1 h2 (p := z % 2) (pr := z / 1536 % 3) (by omega) (by omega)
          have hq2 := fun (κ9 τ9 : St) (h1 : Rl wr0 κ9 τ9) (h2 : JJ K σ τ9) => Q_takes (D := D) (cI := cI) (cZ := cZ) (cO := cO) (t0 := t0) (mi := mi) (l := l) hl9 h1 h2 (p := z % 2) (pr := z / 1536 % 3) (by omega) (by omega)
          generalize (h_run 2 0 0 (z / 1536 % 3) 0 0 (cpj (z % 2) 2 48 σ)) = Z9 at hq1 hq2 hσ2 ⊢
          have hG : PW D cI cZ cO vdom L σ2 (vim L) H := hW.g
          refine lv_istore (lv' := [(19, .int Z9.1), (18, .int (nI ((z / 1536) % 3))), (15, .int (nI 1)), (17, .int (nI ((z / 96) % 4))), (16, .int (h_pl (z % 2) σ)), (13, .long (lJ C9)), (12, .int (nI ((z / 24) % 4))), (11, .int (nI ((z / 2) % 12))), (10, .ref (L 900 (z % 2))), (9, .int (nI (z % 2))), (0, .ref x9), (1, .ref (L 900 0)), (2, .ref (L 900 1)), (3, .ref (L 901 0)), (4, .ref (L 902 0)), (5, .ref (L 903 0)), (6, .ref (L 904 0)), (7, .ref (L 905 0)), (8, .int (nI z))]) hx hb dL_isSame_438 hl (by decide) rfl (fun ls hl => ?_)
          refine lv_aload_n hx hb dL_isSame_440 rfl (lv_at hl 10 rfl) ?_
          refine lv_iload hx hb dL_isSame_441 (lv_at hl 9 rfl) ?_
          refine lv_iload hx hb dL_isSame_443 (lv_at hl 1 rfl) ?_
          refine v_oq X hK hE hX hW hS yvX8_prove ml_L_97 [.int (nI (z % 2)), .int (nI ((z / 1536) % 3))] [] (hq1 κ τ hR hJ) rfl hl.1 rfl (Nat.le_of_ble_eq_true rfl) ⟨Nat.le_of_ble_eq_true rfl, Nat.le_of_ble_eq_true rfl⟩ ⟨Nat.le_of_ble_eq_true rfl, Nat.le_of_ble_eq_true rfl⟩ dL_isSame_445 (fun κ τ H locs hW hR hJ hS => ?_)
          have hG : PW D cI cZ cO vdom L σ2 (vim L) H := hW.g
          refine r_cutV (P := fun H => Vd D cI cZ cO t0 z0 x9 L κ σ2 H) 469 [.int (if Z9.1 = 0 then (-1) else nI 10000 * Z9.1 + Z9.2.2.2.2 904 0 6), .int (if Z9.1 = 0 then (-1) else nI 10000 * Z9.1 + Z9.2.2.2.2 904 0 6)] hW hS (fun H locs hW hS => ?_) (fun J_469 => ?_)
          · have hW : Vd D cI cZ cO t0 z0 x9 L κ σ2 H := hW
            have hG : PW D cI cZ cO vdom L σ2 (vim L) H := hW.g
            refine lv_icmp_ne (tgt := 519) hx hb dL_isSame_469 (by decide) (fun c_469 => absurd rfl c_469) (fun c_469 => ?_)
            refine lv_aload_n hx hb dL_isSame_472 rfl (lv_at hl 10 rfl) ?_
            refine lv_iload hx hb dL_isSame_473 (lv_at hl 9 rfl) ?_
            refine lv_iload hx hb dL_isSame_475 (lv_at hl 1 rfl) ?_
            refine v_oq X hK hE hX hW hS yvX8_takes ml_L_100 [.int (nI (z % 2)), .int (nI ((z / 1536) % 3))] [] (hq2 κ τ hR hJ) rfl hl.1 rfl (Nat.le_of_ble_eq_true rfl) ⟨Nat.le_of_ble_eq_true rfl, Nat.le_of_ble_eq_true rfl⟩ ⟨Nat.le_of_ble_eq_true rfl, Nat.le_of_ble_eq_true rfl⟩ dL_isSame_477 (fun κ τ H locs hW hR hJ hS => ?_)
            have hG : PW D cI cZ cO vdom L σ2 (vim L) H := hW.g
            refine r_cutV (P := fun H => Vd D cI cZ cO t0 z0 x9 L κ σ2 H) 512 [.int (if Z9.1 = 0 then ((Z9.2.2.2.2 904 0 8 + Z9.2.2.2.2 904 0 9) + Z9.2.2.2.2 904 0 10) + Z9.2.2.2.2 904 0 11 else (-1)), .int (if Z9.1 = 0 then ((Z9.2.2.2.2 904 0 8 + Z9.2.2.2.2 904 0 9) + Z9.2.2.2.2 904 0 10) + Z9.2.2.2.2 904 0 11 else (-1))] hW hS (fun H locs hW hS => ?_) (fun J_512 => ?_)
            · have hW : Vd D cI cZ cO t0 z0 x9 L κ σ2 H := hW
              have hG : PW D cI cZ cO vdom L σ2 (vim L) H := hW.g
              refine lv_icmp_ne (tgt := 519) hx hb dL_isSame_512 (by decide) (fun c_512 => absurd rfl c_512) (fun c_512 => ?_)
              refine lv_iconst (v := nI 1) hx hb dL_isSame_515 (by decide) ?_
              refine lv_goto (tgt := 520) hx hb dL_isSame_516 (by decide) ?_
              refine lv_istore (lv' := [(15, .int (nI 1)), (19, .int Z9.1), (18, .int (nI ((z / 1536) % 3))), (17, .int (nI ((z / 96) % 4))), (16, .int (h_pl (z % 2) σ)), (13, .long (lJ C9)), (12, .int (nI ((z / 24) % 4))), (11, .int (nI ((z / 2) % 12))), (10, .ref (L 900 (z % 2))), (9, .int (nI (z % 2))), (0, .ref x9), (1, .ref (L 900 0)), (2, .ref (L 900 1)), (3, .ref (L 901 0)), (4, .ref (L 902 0)), (5, .ref (L 903 0)), (6, .ref (L 904 0)), (7, .ref (L 905 0)), (8, .int (nI z))]) hx hb dL_isSame_520 hl (by decide) rfl (fun ls hl => ?_)
              refine lv_iload hx hb dL_isSame_522 (lv_at hl 18 rfl) ?_
              refine lv_sipush (v := nI 384) hx hb dL_isSame_524 (by decide) ?_
              refine r_divN hx hb (by omega) (by decide) (by decide) dL_isSame_527 ?_
              refine lv_iconst (v := nI 4) hx hb dL_isSame_528 (by decide) ?_
              refine r_remN hx hb (by omega) (by decide) (by decide) dL_isSame_529 ?_
              refine lv_iconst (v := nI 1) hx hb dL_isSame_530 (by decide) ?_
              refine r_icmp_neN (tgt := 604) hx hb dL_isSame_531 (by decide) (by omega) (by omega) (fun c_531 => ?_) (fun c_531 => absurd c_531 (by omega))
              exact J_604 H locs ls _ _ (⟨κ, σ2, τ, hW, hR, by rw [hσ2]; exact hJ.rho e9_RS⟩) hS (lv_sub hl [10, 11, 12, 13, 14, 15, 16, 17, 18, 9, 0] rfl) (Nat.le_of_ble_eq_true rfl) (Nat.le_of_ble_eq_true rfl)
            · refine lv_iload hx hb dL_isSame_480 (lv_at hl 0 rfl) ?_
              refine lv_if_ne (tgt := 511) hx hb dL_isSame_482 (by decide) (fun c_482 => ?_) (fun c_482 => ?_)
              · refine lv_iconst (v := (-1)) hx hb dL_isSame_511 (by decide) ?_
                exact r_top ((if_neg c_482).symm) (J_512 _ _ hW hS)
              · refine lv_aload hx hb dL_isSame_485 (lv_at hl 16 rfl) ?_
                refine lv_bipush (v := nI 8) hx hb dL_isSame_487 (by decide) ?_
                refine al_904 X hK hG (vd_1 (by decide)) (i := 8) (x := σ2.2.2.2 904 0 8) (by omega) rfl dL_isSame_489 ?_
                refine lv_aload hx hb dL_isSame_490 (lv_at hl 16 rfl) ?_
                refine lv_bipush (v := nI 9) hx hb dL_isSame_492 (by decide) ?_
                refine al_904 X hK hG (vd_1 (by decide)) (i := 9) (x := σ2.2.2.2 904 0 9) (by omega) rfl dL_isSame_494 ?_
                refine lv_iadd hx hb dL_isSame_495 ?_
                refine lv_aload hx hb dL_isSame_496 (lv_at hl 16 rfl) ?_
                refine lv_bipush (v := nI 10) hx hb dL_isSame_498 (by decide) ?_
                refine al_904 X hK hG (vd_1 (by decide)) (i := 10) (x := σ2.2.2.2 904 0 10) (by omega) rfl dL_isSame_500 ?_
                refine lv_iadd hx hb dL_isSame_501 ?_
                refine lv_aload hx hb dL_isSame_502 (lv_at hl 16 rfl) ?_
                refine lv_bipush (v := nI 11) hx hb dL_isSame_504 (by decide) ?_
                refine al_904 X hK hG (vd_1 (by decide)) (i := 11) (x := σ2.2.2.2 904 0 11) (by omega) rfl dL_isSame_506 ?_
                refine lv_iadd hx hb dL_isSame_507 ?_
                refine lv_goto (tgt := 512) hx hb dL_isSame_508 (by decide) ?_
                exact r_top (by rw [if_pos c_482, hσ2, e9_v]) (J_512 _ _ hW hS)
          · refine lv_iload hx hb dL_isSame_448 (lv_at hl 0 rfl) ?_
            refine lv_if_ne (tgt := 457) hx hb dL_isSame_450 (by decide) (fun c_450 => ?_) (fun c_450 => ?_)
            · refine lv_sipush (v := nI 10000) hx hb dL_isSame_457 (by decide) ?_
              refine lv_iload hx hb dL_isSame_460 (lv_at hl 0 rfl) ?_
              refine lv_imul hx hb dL_isSame_462 ?_
              refine lv_aload hx hb dL_isSame_463 (lv_at hl 16 rfl) ?_
              refine lv_bipush (v := nI 6) hx hb dL_isSame_465 (by decide) ?_
              refine al_904 X hK hG (vd_1 (by decide)) (i := 6) (x := σ2.2.2.2 904 0 6) (by omega) rfl dL_isSame_467 ?_
              refine lv_iadd hx hb dL_isSame_468 ?_
              exact r_top (by rw [if_neg c_450, hσ2, e9_v]) (J_469 _ _ hW hS)
            · refine lv_iconst (v := (-1)) hx hb dL_isSame_453 (by decide) ?_
              refine lv_goto (tgt := 469) hx hb dL_isSame_454 (by decide) ?_
              exact r_top ((if_pos c_450).symm) (J_469 _ _ hW hS)
    · refine lv_aload hx hb dL_isSame_186 (lv_at hl 13 rfl) ?_
      refine lv_bipush (v := nI 10) hx hb dL_isSame_188 (by decide) ?_
      refine pw_ald8 X hK hG 905 fa_905 (vd_1 (by decide)) (i := 10) (N := σ.2.2.1 905 0 0) (x := σ.2.2.2 905 0 10) rfl (by omega) (by omega) rfl dL_isSame_190 ?_
      refine lv_if_le (tgt := 208) hx hb dL_isSame_191 (by decide) (fun c_191 => ?_) (fun c_191 => ?_)
      · refine lv_aload hx hb dL_isSame_208 (lv_at hl 13 rfl) ?_
        refine lv_bipush (v := nI 10) hx hb dL_isSame_210 (by decide) ?_
        refine pw_ald8 X hK hG 905 fa_905 (vd_1 (by decide)) (i := 10) (N := σ.2.2.1 905 0 0) (x := σ.2.2.2 905 0 10) rfl (by omega) (by omega) rfl dL_isSame_212 ?_
        refine lv_iconst (v := nI 1) hx hb dL_isSame_213 (by decide) ?_
        refine lv_icmp_le (tgt := 231) hx hb dL_isSame_214 (by decide) (fun c_214 => ?_) (fun c_214 => ?_)
        · refine lv_iconst (v := (-1)) hx hb dL_isSame_231 (by decide) ?_
          exact r_top (by unfold h_pl; exact ((if_neg (fun h => absurd h.1 (Int32.not_lt.mpr c_191))).trans (if_neg (fun h => absurd h.1 (Int32.not_lt.mpr c_214)))).symm) (J_232 _ _ hW hS)
        · refine lv_aload hx hb dL_isSame_217 (lv_at hl 13 rfl) ?_
          refine lv_bipush (v := nI 9) hx hb dL_isSame_219 (by decide) ?_
          refine pw_ald8 X hK hG 905 fa_905 (vd_1 (by decide)) (i := 9) (N := σ.2.2.1 905 0 0) (x := σ.2.2.2 905 0 9) rfl (by omega) (by omega) rfl dL_isSame_221 ?_
          refine lv_iload hx hb dL_isSame_222 (lv_at hl 5 rfl) ?_
          refine lv_icmp_ne (tgt := 231) hx hb dL_isSame_224 (by decide) (fun c_224 => ?_) (fun c_224 => ?_)
          · refine lv_iconst (v := (-1)) hx hb dL_isSame_231 (by decide) ?_
            exact r_top (by unfold h_pl; exact ((if_neg (fun h => absurd h.1 (Int32.not_lt.mpr c_191))).trans (if_neg (fun h => c_224 h.2))).symm) (J_232 _ _ hW hS)
          · refine lv_iconst (v := nI 1) hx hb dL_isSame_227 (by decide) ?_
            refine lv_goto (tgt := 232) hx hb dL_isSame_228 (by decide) ?_
            exact r_top (by unfold h_pl; exact ((if_neg (fun h => absurd h.1 (Int32.not_lt.mpr c_191))).trans (if_pos ⟨Int32.not_le.mp c_214, c_224⟩)).symm) (J_232 _ _ hW hS)
      · refine lv_aload hx hb dL_isSame_194 (lv_at hl 13 rfl) ?_
        refine lv_bipush (v := nI 8) hx hb dL_isSame_196 (by decide) ?_
        refine pw_ald8 X hK hG 905 fa_905 (vd_1 (by decide)) (i := 8) (N := σ.2.2.1 905 0 0) (x := σ.2.2.2 905 0 8) rfl (by omega) (by omega) rfl dL_isSame_198 ?_
        refine lv_iload hx hb dL_isSame_199 (lv_at hl 5 rfl) ?_
        refine lv_icmp_ne (tgt := 208) hx hb dL_isSame_201 (by decide) (fun c_201 => ?_) (fun c_201 => ?_)
        · refine lv_aload hx hb dL_isSame_208 (lv_at hl 13 rfl) ?_
          refine lv_bipush (v := nI 10) hx hb dL_isSame_210 (by decide) ?_
          refine pw_ald8 X hK hG 905 fa_905 (vd_1 (by decide)) (i := 10) (N := σ.2.2.1 905 0 0) (x := σ.2.2.2 905 0 10) rfl (by omega) (by omega) rfl dL_isSame_212 ?_
          refine lv_iconst (v := nI 1) hx hb dL_isSame_213 (by decide) ?_
          refine lv_icmp_le (tgt := 231) hx hb dL_isSame_214 (by decide) (fun c_214 => ?_) (fun c_214 => ?_)
          · refine lv_iconst (v := (-1)) hx hb dL_isSame_231 (by decide) ?_
            exact r_top (by unfold h_pl; exact ((if_neg (fun h => c_201 h.2)).trans (if_neg (fun h => absurd h.1 (Int32.not_lt.mpr c_214)))).symm) (J_232 _ _ hW hS)
          · refine lv_aload hx hb dL_isSame_217 (lv_at hl 13 rfl) ?_
            refine lv_bipush (v := nI 9) hx hb dL_isSame_219 (by decide) ?_
            refine pw_ald8 X hK hG 905 fa_905 (vd_1 (by decide)) (i := 9) (N := σ.2.2.1 905 0 0) (x := σ.2.2.2 905 0 9) rfl (by omega) (by omega) rfl dL_isSame_221 ?_
            refine lv_iload hx hb dL_isSame_222 (lv_at hl 5 rfl) ?_
            refine lv_icmp_ne (tgt := 231) hx hb dL_isSame_224 (by decide) (fun c_224 => ?_) (fun c_224 => ?_)
            · refine lv_iconst (v := (-1)) hx hb dL_isSame_231 (by decide) ?_
              exact r_top (by unfold h_pl; exact ((if_neg (fun h => c_201 h.2)).trans (if_neg (fun h => c_224 h.2))).symm) (J_232 _ _ hW hS)
            · refine lv_iconst (v := nI 1) hx hb dL_isSame_227 (by decide) ?_
              refine lv_goto (tgt := 232) hx hb dL_isSame_228 (by decide) ?_
              exact r_top (by unfold h_pl; exact ((if_neg (fun h => c_201 h.2)).trans (if_pos ⟨Int32.not_le.mp c_214, c_224⟩)).symm) (J_232 _ _ hW hS)
        · refine lv_iconst (v := nI 0) hx hb dL_isSame_204 (by decide) ?_
          refine lv_goto (tgt := 232) hx hb dL_isSame_205 (by decide) ?_
          exact r_top (by unfold h_pl; exact (if_pos ⟨Int32.not_le.mp c_191, c_201⟩).symm) (J_232 _ _ hW hS)
  · refine lv_iload hx hb dL_isSame_6 (lv_at hl 0 rfl) ?_
    refine r_if_neN (tgt := 15) hx hb dL_isSame_8 (by decide) (by omega) (fun c_8 => ?_) (fun c_8 => ?_)
    · refine lv_aload_n hx hb dL_isSame_15 rfl (lv_at hl 3 rfl) ?_
      exact r_topR (congrArg (L 900) (by omega)) (J_16 _ _ hW hS)
    · refine lv_aload_n hx hb dL_isSame_11 rfl (lv_at hl 2 rfl) ?_
      refine lv_goto (tgt := 16) hx hb dL_isSame_12 (by decide) ?_
      exact r_topR (congrArg (L 900) (by omega)) (J_16 _ _ hW hS)
