def h_f0 (st : Nat) : Nat → St → St
  | 0, σ => σ
  | n + 1, σ => wA (wA (h_f0 st n σ) 900 0 n st) 900 1 n st
def h_f1 (st : Nat) : Nat → St → St
  | 0, σ => σ
  | n + 1, σ => wA (wA (h_f1 st n σ) 900 0 n ((h_f1 st n σ).2.2.1 900 0 n)) 900 1 n st
theorem h_f0_s (st n : Nat) (σ : St) : h_f0 st (n + 1) σ = wA (wA (h_f0 st n σ) 900 0 n st) 900 1 n st := rfl
theorem h_f1_s (st n : Nat) (σ : St) : h_f1 st (n + 1) σ = wA (wA (h_f1 st n σ) 900 0 n ((h_f1 st n σ).2.2.1 900 0 n)) 900 1 n st := rfl
theorem h_f0_v (st : Nat) (σ : St) : ∀ n, (∀ i, (h_f0 st n σ).2.2.1 900 0 i = if i < n then st else σ.2.2.1 900 0 i) ∧ (∀ i, (h_f0 st n σ).2.2.1 900 1 i = if i < n then st else σ.2.2.1 900 1 i) ∧ (∀ F, F ≠ 900 → (h_f0 st n σ).2.2.1 F = σ.2.2.1 F) ∧ (h_f0 st n σ).2.2.2 = σ.2.2.2
  | 0 => ⟨fun i => (if_neg (Nat.not_lt_zero i)).symm, fun i => (if_neg (Nat.not_lt_zero i)).symm, fun _ _ => rfl, rfl⟩
  | n + 1 => by
    obtain ⟨h1, h2, h3, h4⟩ := h_f0_v st σ n
    rw [h_f0_s]
    generalize h_f0 st n σ = X at *
    refine ⟨fun i => ?_, fun i => ?_, fun F z => by rw [wA_o z, wA_o z]; exact h3 F z, h4⟩
    · show up3 (wA X 900 0 n st).2.2.1 900 1 n st 900 0 i = _
      rw [up3_n (fun z => absurd z.2 (by decide)), wA_3, up1_app, h1]
      by_cases z : i = n
      · rw [if_pos z, if_pos (by omega)]
      · rw [if_neg z]
        by_cases y : i < n
        · rw [if_pos y, if_pos (by omega)]
        · rw [if_neg y, if_neg (by omega)]
    · rw [wA_3, up1_app]
      show (if i = n then st else up3 X.2.2.1 900 0 n st 900 1 i) = _
      rw [up3_n (fun z => absurd z.2 (by decide)), h2]
      by_cases z : i = n
      · rw [if_pos z, if_pos (by omega)]
      · rw [if_neg z]
        by_cases y : i < n
        · rw [if_pos y, if_pos (by omega)]
        · rw [if_neg y, if_neg (by omega)]
theorem h_f1_v (st : Nat) (σ : St) : ∀ n, (∀ i, (h_f1 st n σ).2.2.1 900 0 i = σ.2.2.1 900 0 i) ∧ (∀ i, (h_f1 st n σ).2.2.1 900 1 i = if i < n then st else σ.2.2.1 900 1 i) ∧ (∀ F, F ≠ 900 → (h_f1 st n σ).2.2.1 F = σ.2.2.1 F) ∧ (h_f1 st n σ).2.2.2 = σ.2.2.2
  | 0 => ⟨fun i => rfl, fun i => (if_neg (Nat.not_lt_zero i)).symm, fun _ _ => rfl, rfl⟩
  | n + 1 => by
    obtain ⟨h1, h2, h3, h4⟩ := h_f1_v st σ n
    rw [h_f1_s]
    generalize h_f1 st n σ = X at *
    refine ⟨fun i => ?_, fun i => ?_, fun F z => by rw [wA_o z, wA_o z]; exact h3 F z, h4⟩
    · show up3 (wA X 900 0 n (X.2.2.1 900 0 n)).2.2.1 900 1 n st 900 0 i = _
      rw [up3_n (fun z => absurd z.2 (by decide)), wA_3, up1_app]
      by_cases z : i = n
      · rw [if_pos z, z]; exact h1 n
      · rw [if_neg z]; exact h1 i
    · rw [wA_3, up1_app]
      show (if i = n then st else up3 X.2.2.1 900 0 n (X.2.2.1 900 0 n) 900 1 i) = _
      rw [up3_n (fun z => absurd z.2 (by decide)), h2]
      by_cases z : i = n
      · rw [if_pos z, if_pos (by omega)]
      · rw [if_neg z]
        by_cases y : i < n
        · rw [if_pos y, if_pos (by omega)]
        · rw [if_neg y, if_neg (by omega)]
theorem h_f0_B {st : Nat} {σ : St} (hst : st ≤ 9) (h : ∀ p, p < 2 → ∀ i, σ.2.2.1 900 p i ≤ 9) : (∀ p, p < 2 → ∀ i, (h_f0 st 48 σ).2.2.1 900 p i ≤ 9) ∧ (∀ c, c < 48 → (h_f0 st 48 σ).2.2.1 900 0 c = st) ∧ (∀ p, p < 0 → ∀ c, (h_f0 st 48 σ).2.2.1 900 p c = σ.2.2.1 900 p c) ∧ (∀ F, F ≠ 900 → (h_f0 st 48 σ).2.2.1 F = σ.2.2.1 F) ∧ (h_f0 st 48 σ).2.2.2 = σ.2.2.2 := by
  obtain ⟨h1, h2, h3, h4⟩ := h_f0_v st σ 48
  generalize h_f0 st 48 σ = X at *
  refine ⟨fun p hp i => ?_, fun c hc => by rw [h1, if_pos hc], fun p hp => absurd hp (Nat.not_lt_zero _), h3, h4⟩
  rcases (by omega : p = 0 ∨ p = 1) with rfl | rfl
  · rw [h1]; split
    · exact hst
    · exact h 0 hp i
  · rw [h2]; split
    · exact hst
    · exact h 1 hp i
theorem h_f1_B {st : Nat} {σ : St} (hst : st ≤ 9) (h : ∀ p, p < 2 → ∀ i, σ.2.2.1 900 p i ≤ 9) : (∀ p, p < 2 → ∀ i, (h_f1 st 48 σ).2.2.1 900 p i ≤ 9) ∧ (∀ c, c < 48 → (h_f1 st 48 σ).2.2.1 900 1 c = st) ∧ (∀ p, p < 1 → ∀ c, (h_f1 st 48 σ).2.2.1 900 p c = σ.2.2.1 900 p c) ∧ (∀ F, F ≠ 900 → (h_f1 st 48 σ).2.2.1 F = σ.2.2.1 F) ∧ (h_f1 st 48 σ).2.2.2 = σ.2.2.2 := by
  obtain ⟨h1, h2, h3, h4⟩ := h_f1_v st σ 48
  generalize h_f1 st 48 σ = X at *
  refine ⟨fun p hp i => ?_, fun c hc => by rw [h2, if_pos hc], fun p hp c => ?_, h3, h4⟩
  · rcases (by omega : p = 0 ∨ p = 1) with rfl | rfl
    · rw [h1]; exact h 0 hp i
    · rw [h2]; split
      · exact hst
      · exact h 1 hp i
  · obtain rfl : p = 0 := by omega
    exact h1 c
/-- the class new, the law's rows all 0 -/
def V09 (D : va_G) (cI cZ cO : ClassId) (t0 z0 x9 : Nat) (L : Lay) (σ : St) (H : Heap) : Prop := ∃ κ, Vd D cI cZ cO t0 z0 x9 L κ σ H ∧ Rl wr0 κ σz
set_option maxRecDepth 100000 in
set_option maxHeartbeats 4000000 in
theorem v_L_isBegun {D : va_G} {cI cZ cO : ClassId} {t0 mi z0 x9 : Nat} {L : Lay} (l : Launch) {b : Nat} (hl9 : l.stackTraces = false) (N : Nat) (xs : Nat → Int32) (σ : St) (hbz : b < z0) (hN : N ≤ 3072) (hJN : JN σ) (h1 : ∀ p, σ.2.2.1 900 p = fun _ => 0) (h2 : ∀ F, σ.2.2.2 F 0 = fun _ => 0) : VSI D cI cZ cO t0 mi z0 l yL_isBegun cL_isBegun 12 ((some FieldType.boolean)) 11 322 132 3680 [.ref x9, .ref b, .ref (L 900 0), .ref (L 900 1), .ref (L 901 0), .ref (L 902 0), .ref (L 903 0), .ref (L 905 0)] b N xs (V09 D cI cZ cO t0 z0 x9 L σ) (VQ D cI cZ cO t0 z0 x9 L 0) (nI 1) := by
  refine vsi_of rfl (Nat.le_of_ble_eq_true rfl) ?_
  intro p e s m args below meth c ls X hK hE hX hP hXs hz hr hlocks hl
  have X : CallFix p m c cL_isBegun 12 s args TB RL := X
  have hx := X.1
  have hb := X.2.1
  have hS : va_S (vA z0) s.heap s.heap [] := va_S.rf
  have hl : lv_has ls 12 [(0, .ref x9), (1, .ref b), (2, .ref (L 900 0)), (3, .ref (L 900 1)), (4, .ref (L 901 0)), (5, .ref (L 902 0)), (6, .ref (L 903 0)), (7, .ref (L 905 0))] := hl
  obtain ⟨κ, hW, hR⟩ := hP
  have hW : Vd D cI cZ cO t0 z0 x9 L κ σ s.heap := hW
  have hG : PW D cI cZ cO vdom L σ (vim L) s.heap := hW.g
  refine lv_aload_n hx hb dL_isBegun_0 rfl (lv_at hl 0 rfl) ?_
  refine v_oq X hK hE hX hW hS yvX8_drawing ml_L_146 [] [] (Q_drawing hl9 hR rfl) rfl hl.1 rfl (Nat.le_of_ble_eq_true rfl) ⟨Nat.le_of_ble_eq_true rfl, Nat.le_of_ble_eq_true rfl⟩ ⟨Nat.le_of_ble_eq_true rfl, Nat.le_of_ble_eq_true rfl⟩ dL_isBegun_1 (fun κ τ H locs hW hR hJ hS => ?_)
  have hG : PW D cI cZ cO vdom L σ (vim L) H := hW.g
  have hJ : BJ 0 0 σ τ := BJ_0 hJN hJ h1 h2
  refine r_if_neN (tgt := 11) hx hb dL_isBegun_4 (by decide) (by omega) (fun c_4 => absurd c_4 (by decide)) (fun c_4 => ?_)
  refine lv_iconst (v := nI 1) hx hb dL_isBegun_7 (by decide) ?_
  refine lv_goto (tgt := 12) hx hb dL_isBegun_8 (by decide) ?_
  refine lv_istore (lv' := [(8, .int (nI 1)), (0, .ref x9), (1, .ref b), (2, .ref (L 900 0)), (3, .ref (L 900 1)), (4, .ref (L 901 0)), (5, .ref (L 902 0)), (6, .ref (L 903 0)), (7, .ref (L 905 0))]) hx hb dL_isBegun_12 hl (by decide) rfl (fun ls hl => ?_)
  refine lv_iconst (v := nI 0) hx hb dL_isBegun_14 (by decide) ?_
  refine lv_istore (lv' := [(9, .int (nI 0)), (8, .int (nI 1)), (0, .ref x9), (1, .ref b), (2, .ref (L 900 0)), (3, .ref (L 900 1)), (4, .ref (L 901 0)), (5, .ref (L 902 0)), (6, .ref (L 903 0)), (7, .ref (L 905 0))]) hx hb dL_isBegun_15 hl (by decide) rfl (fun ls hl => ?_)
  obtain ⟨κ, σ, τ, hW, hR, hJ⟩ : ∃ κ σ τ, Vd D cI cZ cO t0 z0 x9 L κ σ H ∧ Rl wr0 κ τ ∧ BJ 0 0 σ τ := ⟨κ, _, τ, hW, hR, hJ⟩
  have hN2 : σ.2.2.1 902 0 0 = 36 := hJ.1.1
  have hN3 : σ.2.2.1 903 0 0 = 37 := hJ.1.2.1
  have hN5 : σ.2.2.1 905 0 0 = 11 := hJ.1.2.2
  have hG : PW D cI cZ cO vdom L σ (vim L) H := hW.g
  refine lv_iload hx hb dL_isBegun_17 (lv_at hl 0 rfl) ?_
  refine lv_iconst (v := nI 2) hx hb dL_isBegun_19 (by decide) ?_
  refine r_icmp_geN (tgt := 243) hx hb dL_isBegun_20 (by decide) (by omega) (by omega) (fun c_20 => absurd c_20 (by decide)) (fun c_20 => ?_)
  refine lv_iload hx hb dL_isBegun_23 (lv_at hl 1 rfl) ?_
  refine r_if_eqN (tgt := 243) hx hb dL_isBegun_25 (by decide) (by omega) (fun c_25 => absurd c_25 (by decide)) (fun c_25 => ?_)
  refine lv_iconst (v := nI 3) hx hb dL_isBegun_28 (by decide) ?_
  refine lv_aload_n hx hb dL_isBegun_29 rfl (lv_at hl 3 rfl) ?_
  refine lv_sipush (v := nI 300) hx hb dL_isBegun_30 (by decide) ?_
  refine lv_iload hx hb dL_isBegun_33 (lv_at hl 0 rfl) ?_
  refine r_addN hx hb dL_isBegun_35 ?_
  refine lv_bipush (v := nI 7) hx hb dL_isBegun_36 (by decide) ?_
  refine vs_call X hK hE hX hXs hbz hz (P := Vd D cI cZ cO t0 z0 x9 L κ σ) (P' := Vd D cI cZ cO t0 z0 x9 L κ σ) (hW) hS ysL_from ml_L_149 [.ref b, .int (nI 300), .int (nI 7)] [.int (nI 3)] (v_L_from (D := D) (cI := cI) (cZ := cZ) (cO := cO) (t0 := t0) (mi := mi) (z0 := z0) (x9 := x9) (L := L) (b := b) l N 300 7 xs (Vd D cI cZ cO t0 z0 x9 L κ σ) hbz hN (by omega) (by omega) (by omega)) rfl hl.1 rfl (Nat.le_of_ble_eq_true rfl) ⟨Nat.le_of_ble_eq_true rfl, Nat.le_of_ble_eq_true rfl⟩ ⟨Nat.le_of_ble_eq_true rfl, Nat.le_of_ble_eq_true rfl⟩ dL_isBegun_38 (fun H locs hP hS => ?_)
  have hW : Vd D cI cZ cO t0 z0 x9 L κ σ H := hP
  have hG : PW D cI cZ cO vdom L σ (vim L) H := hW.g
  obtain ⟨v1, hv1, bv1⟩ : ∃ v, v = h_from xs N 300 7 ∧ v < 7 := ⟨_, rfl, from_lt (by decide)⟩
  refine r_top (y := nI v1) (congrArg nI hv1.symm) ?_
  refine r_addN hx hb dL_isBegun_41 ?_
  refine lv_istore (lv' := [(10, .int (nI (3 + v1))), (9, .int (nI 0)), (8, .int (nI 1)), (0, .ref x9), (1, .ref b), (2, .ref (L 900 0)), (3, .ref (L 900 1)), (4, .ref (L 901 0)), (5, .ref (L 902 0)), (6, .ref (L 903 0)), (7, .ref (L 905 0))]) hx hb dL_isBegun_42 hl (by decide) rfl (fun ls hl => ?_)
  refine lv_iconst (v := nI 0) hx hb dL_isBegun_44 (by decide) ?_
  refine lv_istore (lv' := [(11, .int (nI 0)), (10, .int (nI (3 + v1))), (9, .int (nI 0)), (8, .int (nI 1)), (0, .ref x9), (1, .ref b), (2, .ref (L 900 0)), (3, .ref (L 900 1)), (4, .ref (L 901 0)), (5, .ref (L 902 0)), (6, .ref (L 903 0)), (7, .ref (L 905 0))]) hx hb dL_isBegun_45 hl (by decide) rfl (fun ls hl => ?_)
  refine r_loopP (ι := Nat) (fun (j9 : Nat) => [(0, .ref x9), (1, .ref b), (2, .ref (L 900 0)), (3, .ref (L 900 1)), (4, .ref (L 901 0)), (5, .ref (L 902 0)), (6, .ref (L 903 0)), (7, .ref (L 905 0)), (8, .int (nI 1)), (9, .int (nI 0)), (10, .int (nI (3 + v1))), (11, .int (nI j9))]) (fun (j9 : Nat) => (fun H => Vd D cI cZ cO t0 z0 x9 L κ (h_f0 (3 + v1) j9 σ) H)) (fun (j9 : Nat) => 48 - j9) (fun (j9 : Nat) => j9 ≤ 48) (fun _ => 8) (fun _ => 200) 0 (Nat.zero_le _) hW hS (lv_sub hl [4, 5, 6, 7, 8, 9, 10, 11, 3, 2, 1, 0] rfl) rfl rfl ?_
  rintro j9 hinv ih H locs ls hW hS hl
  have hW : Vd D cI cZ cO t0 z0 x9 L κ (h_f0 (3 + v1) j9 σ) H := hW
  have hG : PW D cI cZ cO vdom L (h_f0 (3 + v1) j9 σ) (vim L) H := hW.g
  have hl : lv_has ls 12 [(0, .ref x9), (1, .ref b), (2, .ref (L 900 0)), (3, .ref (L 900 1)), (4, .ref (L 901 0)), (5, .ref (L 902 0)), (6, .ref (L 903 0)), (7, .ref (L 905 0)), (8, .int (nI 1)), (9, .int (nI 0)), (10, .int (nI (3 + v1))), (11, .int (nI j9))] := hl
  obtain hj9 := hinv
  refine lv_iload hx hb dL_isBegun_47 (lv_at hl 11 rfl) ?_
  refine lv_bipush (v := nI 48) hx hb dL_isBegun_49 (by decide) ?_
  refine r_icmp_geN (tgt := 86) hx hb dL_isBegun_51 (by decide) (by omega) (by omega) (fun c_51 => ?_) (fun c_51 => ?_)
  · have hj48 : j9 = 48 := by omega
    rw [hj48] at hW hG hl
    obtain ⟨g1, g2, g3, g4, g5⟩ := h_f0_B (st := 3 + v1) (σ := σ) (by omega) hJ.2.2.2.1.2.1
    generalize h_f0 (3 + v1) 48 σ = X9 at hW hG g1 g2 g3 g4 g5
    have hN2 : X9.2.2.1 902 0 0 = 36 := by rw [g4 902 (by decide)]; exact hJ.1.1
    have hN3 : X9.2.2.1 903 0 0 = 37 := by rw [g4 903 (by decide)]; exact hJ.1.2.1
    have hN5 : X9.2.2.1 905 0 0 = 11 := by rw [g4 905 (by decide)]; exact hJ.1.2.2
    have hB := hJ
    refine lv_aload hx hb dL_isBegun_86 (lv_at hl 7 rfl) ?_
    refine lv_iconst (v := nI 4) hx hb dL_isBegun_88 (by decide) ?_
    refine lv_iload hx hb dL_isBegun_89 (lv_at hl 9 rfl) ?_
    refine r_mulN hx hb dL_isBegun_91 ?_
    refine lv_iconst (v := nI 3) hx hb dL_isBegun_92 (by decide) ?_
    refine r_addN hx hb dL_isBegun_93 ?_
    refine lv_iconst (v := (-1)) hx hb dL_isBegun_94 (by decide) ?_
    refine vs_8 X hK hW hS 905 fa_905 (vd_1 (by decide)) (i := 3) (N := X9.2.2.1 905 0 0) rfl (by omega) (by omega) dL_isBegun_95 (fun H locs hW hS => ?_)
    have hG : PW D cI cZ cO vdom L (wB X9 905 0 3 (-1)) (vim L) H := hW.g
    refine lv_bipush (v := nI 16) hx hb dL_isBegun_96 (by decide) ?_
    refine lv_bipush (v := nI 6) hx hb dL_isBegun_98 (by decide) ?_
    refine lv_iload hx hb dL_isBegun_100 (lv_at hl 9 rfl) ?_
    refine r_mulN hx hb dL_isBegun_102 ?_
    refine r_addN hx hb dL_isBegun_103 ?_
    refine lv_istore (lv' := [(11, .int (nI 16)), (0, .ref x9), (1, .ref b), (2, .ref (L 900 0)), (3, .ref (L 900 1)), (4, .ref (L 901 0)), (5, .ref (L 902 0)), (6, .ref (L 903 0)), (7, .ref (L 905 0)), (8, .int (nI 1)), (9, .int (nI 0)), (10, .int (nI (3 + v1)))]) hx hb dL_isBegun_104 hl (by decide) rfl (fun ls hl => ?_)
    refine lv_aload hx hb dL_isBegun_106 (lv_at hl 7 rfl) ?_
    refine lv_iload hx hb dL_isBegun_108 (lv_at hl 0 rfl) ?_
    refine lv_aload_n hx hb dL_isBegun_110 rfl (lv_at hl 2 rfl) ?_
    refine lv_sipush (v := nI 302) hx hb dL_isBegun_111 (by decide) ?_
    refine lv_iload hx hb dL_isBegun_114 (lv_at hl 10 rfl) ?_
    refine r_addN hx hb dL_isBegun_116 ?_
    refine lv_bipush (v := nI 12) hx hb dL_isBegun_117 (by decide) ?_
    refine vs_call X hK hE hX hXs hbz hz (P := Vd D cI cZ cO t0 z0 x9 L κ (wB X9 905 0 3 (-1))) (P' := Vd D cI cZ cO t0 z0 x9 L κ (wB X9 905 0 3 (-1))) (hW) hS ysL_from ml_L_149 [.ref b, .int (nI 302), .int (nI 12)] [.int (nI 16), .ref (L 903 0)] (v_L_from (D := D) (cI := cI) (cZ := cZ) (cO := cO) (t0 := t0) (mi := mi) (z0 := z0) (x9 := x9) (L := L) (b := b) l N 302 12 xs (Vd D cI cZ cO t0 z0 x9 L κ (wB X9 905 0 3 (-1))) hbz hN (by omega) (by omega) (by omega)) rfl hl.1 rfl (Nat.le_of_ble_eq_true rfl) ⟨Nat.le_of_ble_eq_true rfl, Nat.le_of_ble_eq_true rfl⟩ ⟨Nat.le_of_ble_eq_true rfl, Nat.le_of_ble_eq_true rfl⟩ dL_isBegun_119 (fun H locs hP hS => ?_)
    have hW : Vd D cI cZ cO t0 z0 x9 L κ (wB X9 905 0 3 (-1)) H := hP
    have hG : PW D cI cZ cO vdom L (wB X9 905 0 3 (-1)) (vim L) H := hW.g
    obtain ⟨v2, hv2, bv2⟩ : ∃ v, v = h_from xs N 302 12 ∧ v < 12 := ⟨_, rfl, from_lt (by decide)⟩
    refine r_top (y := nI v2) (congrArg nI hv2.symm) ?_
    refine vs_8 X hK hW hS 903 fa_903 (vd_1 (by decide)) (i := 16) (N := X9.2.2.1 903 0 0) rfl (by omega) (by omega) dL_isBegun_122 (fun H locs hW hS => ?_)
    have hG : PW D cI cZ cO vdom L (wB (wB X9 905 0 3 (-1)) 903 0 16 (nI v2)) (vim L) H := hW.g
    refine lv_aload hx hb dL_isBegun_123 (lv_at hl 7 rfl) ?_
    refine lv_iload hx hb dL_isBegun_125 (lv_at hl 0 rfl) ?_
    refine lv_iconst (v := nI 1) hx hb dL_isBegun_127 (by decide) ?_
    refine r_addN hx hb dL_isBegun_128 ?_
    refine lv_aload_n hx hb dL_isBegun_129 rfl (lv_at hl 2 rfl) ?_
    refine lv_sipush (v := nI 304) hx hb dL_isBegun_130 (by decide) ?_
    refine lv_iload hx hb dL_isBegun_133 (lv_at hl 10 rfl) ?_
    refine r_addN hx hb dL_isBegun_135 ?_
    refine lv_iconst (v := nI 4) hx hb dL_isBegun_136 (by decide) ?_
    refine vs_call X hK hE hX hXs hbz hz (P := Vd D cI cZ cO t0 z0 x9 L κ (wB (wB X9 905 0 3 (-1)) 903 0 16 (nI v2))) (P' := Vd D cI cZ cO t0 z0 x9 L κ (wB (wB X9 905 0 3 (-1)) 903 0 16 (nI v2))) (hW) hS ysL_from ml_L_149 [.ref b, .int (nI 304), .int (nI 4)] [.int (nI 17), .ref (L 903 0)] (v_L_from (D := D) (cI := cI) (cZ := cZ) (cO := cO) (t0 := t0) (mi := mi) (z0 := z0) (x9 := x9) (L := L) (b := b) l N 304 4 xs (Vd D cI cZ cO t0 z0 x9 L κ (wB (wB X9 905 0 3 (-1)) 903 0 16 (nI v2))) hbz hN (by omega) (by omega) (by omega)) rfl hl.1 rfl (Nat.le_of_ble_eq_true rfl) ⟨Nat.le_of_ble_eq_true rfl, Nat.le_of_ble_eq_true rfl⟩ ⟨Nat.le_of_ble_eq_true rfl, Nat.le_of_ble_eq_true rfl⟩ dL_isBegun_137 (fun H locs hP hS => ?_)
    have hW : Vd D cI cZ cO t0 z0 x9 L κ (wB (wB X9 905 0 3 (-1)) 903 0 16 (nI v2)) H := hP
    have hG : PW D cI cZ cO vdom L (wB (wB X9 905 0 3 (-1)) 903 0 16 (nI v2)) (vim L) H := hW.g
    obtain ⟨v3, hv3, bv3⟩ : ∃ v, v = h_from xs N 304 4 ∧ v < 4 := ⟨_, rfl, from_lt (by decide)⟩
    refine r_top (y := nI v3) (congrArg nI hv3.symm) ?_
    refine vs_8 X hK hW hS 903 fa_903 (vd_1 (by decide)) (i := 17) (N := X9.2.2.1 903 0 0) rfl (by omega) (by omega) dL_isBegun_140 (fun H locs hW hS => ?_)
    have hG : PW D cI cZ cO vdom L (wB (wB (wB X9 905 0 3 (-1)) 903 0 16 (nI v2)) 903 0 17 (nI v3)) (vim L) H := hW.g
    refine lv_aload hx hb dL_isBegun_141 (lv_at hl 7 rfl) ?_
    refine lv_iload hx hb dL_isBegun_143 (lv_at hl 0 rfl) ?_
    refine lv_iconst (v := nI 2) hx hb dL_isBegun_145 (by decide) ?_
    refine r_addN hx hb dL_isBegun_146 ?_
    refine lv_aload_n hx hb dL_isBegun_147 rfl (lv_at hl 2 rfl) ?_
    refine lv_sipush (v := nI 306) hx hb dL_isBegun_148 (by decide) ?_
    refine lv_iload hx hb dL_isBegun_151 (lv_at hl 10 rfl) ?_
    refine r_addN hx hb dL_isBegun_153 ?_
    refine lv_bipush (v := nI 9) hx hb dL_isBegun_154 (by decide) ?_
    refine vs_call X hK hE hX hXs hbz hz (P := Vd D cI cZ cO t0 z0 x9 L κ (wB (wB (wB X9 905 0 3 (-1)) 903 0 16 (nI v2)) 903 0 17 (nI v3))) (P' := Vd D cI cZ cO t0 z0 x9 L κ (wB (wB (wB X9 905 0 3 (-1)) 903 0 16 (nI v2)) 903 0 17 (nI v3))) (hW) hS ysL_from ml_L_149 [.ref b, .int (nI 306), .int (nI 9)] [.int (nI 18), .ref (L 903 0)] (v_L_from (D := D) (cI := cI) (cZ := cZ) (cO := cO) (t0 := t0) (mi := mi) (z0 := z0) (x9 := x9) (L := L) (b := b) l N 306 9 xs (Vd D cI cZ cO t0 z0 x9 L κ (wB (wB (wB X9 905 0 3 (-1)) 903 0 16 (nI v2)) 903 0 17 (nI v3))) hbz hN (by omega) (by omega) (by omega)) rfl hl.1 rfl (Nat.le_of_ble_eq_true rfl) ⟨Nat.le_of_ble_eq_true rfl, Nat.le_of_ble_eq_true rfl⟩ ⟨Nat.le_of_ble_eq_true rfl, Nat.le_of_ble_eq_true rfl⟩ dL_isBegun_156 (fun H locs hP hS => ?_)
    have hW : Vd D cI cZ cO t0 z0 x9 L κ (wB (wB (wB X9 905 0 3 (-1)) 903 0 16 (nI v2)) 903 0 17 (nI v3)) H := hP
    have hG : PW D cI cZ cO vdom L (wB (wB (wB X9 905 0 3 (-1)) 903 0 16 (nI v2)) 903 0 17 (nI v3)) (vim L) H := hW.g
    obtain ⟨v4, hv4, bv4⟩ : ∃ v, v = h_from xs N 306 9 ∧ v < 9 := ⟨_, rfl, from_lt (by decide)⟩
    refine r_top (y := nI v4) (congrArg nI hv4.symm) ?_
    refine vs_8 X hK hW hS 903 fa_903 (vd_1 (by decide)) (i := 18) (N := X9.2.2.1 903 0 0) rfl (by omega) (by omega) dL_isBegun_159 (fun H locs hW hS => ?_)
    have hG : PW D cI cZ cO vdom L (wB (wB (wB (wB X9 905 0 3 (-1)) 903 0 16 (nI v2)) 903 0 17 (nI v3)) 903 0 18 (nI v4)) (vim L) H := hW.g
    refine lv_aload hx hb dL_isBegun_160 (lv_at hl 7 rfl) ?_
    refine lv_iload hx hb dL_isBegun_162 (lv_at hl 0 rfl) ?_
    refine lv_iconst (v := nI 3) hx hb dL_isBegun_164 (by decide) ?_
    refine r_addN hx hb dL_isBegun_165 ?_
    refine lv_iconst (v := nI 1) hx hb dL_isBegun_166 (by decide) ?_
    refine lv_aload_n hx hb dL_isBegun_167 rfl (lv_at hl 2 rfl) ?_
    refine lv_sipush (v := nI 308) hx hb dL_isBegun_168 (by decide) ?_
    refine lv_iload hx hb dL_isBegun_171 (lv_at hl 10 rfl) ?_
    refine r_addN hx hb dL_isBegun_173 ?_
    refine lv_bipush (v := nI 99) hx hb dL_isBegun_174 (by decide) ?_
    refine vs_call X hK hE hX hXs hbz hz (P := Vd D cI cZ cO t0 z0 x9 L κ (wB (wB (wB (wB X9 905 0 3 (-1)) 903 0 16 (nI v2)) 903 0 17 (nI v3)) 903 0 18 (nI v4))) (P' := Vd D cI cZ cO t0 z0 x9 L κ (wB (wB (wB (wB X9 905 0 3 (-1)) 903 0 16 (nI v2)) 903 0 17 (nI v3)) 903 0 18 (nI v4))) (hW) hS ysL_from ml_L_149 [.ref b, .int (nI 308), .int (nI 99)] [.int (nI 1), .int (nI 19), .ref (L 903 0)] (v_L_from (D := D) (cI := cI) (cZ := cZ) (cO := cO) (t0 := t0) (mi := mi) (z0 := z0) (x9 := x9) (L := L) (b := b) l N 308 99 xs (Vd D cI cZ cO t0 z0 x9 L κ (wB (wB (wB (wB X9 905 0 3 (-1)) 903 0 16 (nI v2)) 903 0 17 (nI v3)) 903 0 18 (nI v4))) hbz hN (by omega) (by omega) (by omega)) rfl hl.1 rfl (Nat.le_of_ble_eq_true rfl) ⟨Nat.le_of_ble_eq_true rfl, Nat.le_of_ble_eq_true rfl⟩ ⟨Nat.le_of_ble_eq_true rfl, Nat.le_of_ble_eq_true rfl⟩ dL_isBegun_176 (fun H locs hP hS => ?_)
    have hW : Vd D cI cZ cO t0 z0 x9 L κ (wB (wB (wB (wB X9 905 0 3 (-1)) 903 0 16 (nI v2)) 903 0 17 (nI v3)) 903 0 18 (nI v4)) H := hP
    have hG : PW D cI cZ cO vdom L (wB (wB (wB (wB X9 905 0 3 (-1)) 903 0 16 (nI v2)) 903 0 17 (nI v3)) 903 0 18 (nI v4)) (vim L) H := hW.g
    obtain ⟨v5, hv5, bv5⟩ : ∃ v, v = h_from xs N 308 99 ∧ v < 99 := ⟨_, rfl, from_lt (by decide)⟩
    refine r_top (y := nI v5) (congrArg nI hv5.symm) ?_
    refine r_addN hx hb dL_isBegun_179 ?_
    refine vs_8 X hK hW hS 903 fa_903 (vd_1 (by decide)) (i := 19) (N := X9.2.2.1 903 0 0) rfl (by omega) (by omega) dL_isBegun_180 (fun H locs hW hS => ?_)
    have hG : PW D cI cZ cO vdom L (wB (wB (wB (wB (wB X9 905 0 3 (-1)) 903 0 16 (nI v2)) 903 0 17 (nI v3)) 903 0 18 (nI v4)) 903 0 19 (nI (1 + v5))) (vim L) H := hW.g
    refine lv_aload_n hx hb dL_isBegun_181 rfl (lv_at hl 1 rfl) ?_
    refine lv_iload hx hb dL_isBegun_182 (lv_at hl 11 rfl) ?_
    refine v_oq X hK hE hX hW hS yvX8_pallet ml_L_153 [.int (nI (3 + v1))] [] (Q_pallet hl9 hR (P := 0) (st := 3 + v1) hJ.2.2.2.1.1 (by decide) (by omega) (by omega)) rfl hl.1 rfl (Nat.le_of_ble_eq_true rfl) ⟨Nat.le_of_ble_eq_true rfl, Nat.le_of_ble_eq_true rfl⟩ ⟨Nat.le_of_ble_eq_true rfl, Nat.le_of_ble_eq_true rfl⟩ dL_isBegun_184 (fun κ τ H locs hW hR hJ hS => ?_)
    have hG : PW D cI cZ cO vdom L (wB (wB (wB (wB (wB X9 905 0 3 (-1)) 903 0 16 (nI v2)) 903 0 17 (nI v3)) 903 0 18 (nI v4)) 903 0 19 (nI (1 + v5))) (vim L) H := hW.g
    have hP1 := hJ
    refine lv_iload hx hb dL_isBegun_187 (lv_at hl 10 rfl) ?_
    refine r_icmp_neN (tgt := 234) hx hb dL_isBegun_189 (by decide) (by omega) (by omega) (fun c_189 => absurd c_189 (by decide)) (fun c_189 => ?_)
    refine lv_aload_n hx hb dL_isBegun_192 rfl (lv_at hl 1 rfl) ?_
    refine lv_iconst (v := nI 0) hx hb dL_isBegun_193 (by decide) ?_
    refine lv_aload hx hb dL_isBegun_194 (lv_at hl 7 rfl) ?_
    refine lv_iload hx hb dL_isBegun_196 (lv_at hl 0 rfl) ?_
    refine pw_ald8 X hK hG 903 fa_903 (vd_1 (by decide)) (i := 16) (N := X9.2.2.1 903 0 0) (x := nI v2) rfl (by omega) (by omega) rfl dL_isBegun_198 ?_
    refine lv_aload hx hb dL_isBegun_199 (lv_at hl 7 rfl) ?_
    refine lv_iload hx hb dL_isBegun_201 (lv_at hl 0 rfl) ?_
    refine lv_iconst (v := nI 1) hx hb dL_isBegun_203 (by decide) ?_
    refine r_addN hx hb dL_isBegun_204 ?_
    refine pw_ald8 X hK hG 903 fa_903 (vd_1 (by decide)) (i := 17) (N := X9.2.2.1 903 0 0) (x := nI v3) rfl (by omega) (by omega) rfl dL_isBegun_205 ?_
    refine lv_aload hx hb dL_isBegun_206 (lv_at hl 7 rfl) ?_
    refine lv_iload hx hb dL_isBegun_208 (lv_at hl 0 rfl) ?_
    refine lv_iconst (v := nI 2) hx hb dL_isBegun_210 (by decide) ?_
    refine r_addN hx hb dL_isBegun_211 ?_
    refine pw_ald8 X hK hG 903 fa_903 (vd_1 (by decide)) (i := 18) (N := X9.2.2.1 903 0 0) (x := nI v4) rfl (by omega) (by omega) rfl dL_isBegun_212 ?_
    refine lv_aload hx hb dL_isBegun_213 (lv_at hl 7 rfl) ?_
    refine lv_iload hx hb dL_isBegun_215 (lv_at hl 0 rfl) ?_
    refine lv_iconst (v := nI 3) hx hb dL_isBegun_217 (by decide) ?_
    refine r_addN hx hb dL_isBegun_218 ?_
    refine pw_ald8 X hK hG 903 fa_903 (vd_1 (by decide)) (i := 19) (N := X9.2.2.1 903 0 0) (x := nI (1 + v5)) rfl (by omega) (by omega) rfl dL_isBegun_219 ?_
    refine v_oq X hK hE hX hW hS yvX8_feature ml_L_156 [.int (nI 0), .int (nI v2), .int (nI v3), .int (nI v4), .int (nI (1 + v5))] [] (Q_feature hl9 hR (F := 0) (x := v2) (y := v3) (h := v4) (v := (1 + v5)) (by rw [hP1.1.1 932 (by decide)]; exact hB.2.2.2.2.1.1) (by rw [hP1.1.2.2.1 931 (by decide)]; exact hB.2.2.2.2.1.2.1) (by decide) (by omega) (by omega) (by omega) (by omega) (by omega)) rfl hl.1 rfl (Nat.le_of_ble_eq_true rfl) ⟨Nat.le_of_ble_eq_true rfl, Nat.le_of_ble_eq_true rfl⟩ ⟨Nat.le_of_ble_eq_true rfl, Nat.le_of_ble_eq_true rfl⟩ dL_isBegun_220 (fun κ τ H locs hW hR hJ hS => ?_)
    have hG : PW D cI cZ cO vdom L (wB (wB (wB (wB (wB X9 905 0 3 (-1)) 903 0 16 (nI v2)) 903 0 17 (nI v3)) 903 0 18 (nI v4)) 903 0 19 (nI (1 + v5))) (vim L) H := hW.g
    have hJ : BJ 1 0 (wB (wB (wB (wB (wB X9 905 0 3 (-1)) 903 0 16 (nI v2)) 903 0 17 (nI v3)) 903 0 18 (nI v4)) 903 0 19 (nI (1 + v5))) τ := hB.pal (by decide) hP1 hJ (by omega) (by omega) (by omega) (by omega) (by omega) g1 g2 g3 ⟨hN2, hN3, hN5⟩ (by rw [wB_o (by decide), wB_o (by decide), wB_o (by decide), wB_o (by decide), wB_o (by decide), g5]) (by rw [wB_o (by decide), wB_o (by decide), wB_o (by decide), wB_o (by decide), wB_o (by decide), g5]) (by show (wB (wB (wB (wB (wB X9 905 0 3 (-1)) 903 0 16 (nI v2)) 903 0 17 (nI v3)) 903 0 18 (nI v4)) 903 0 19 (nI (1 + v5))).2.2.2 905 0 = up1 (σ.2.2.2 905 0) 3 (-1); rw [wB_o (by decide), wB_o (by decide), wB_o (by decide), wB_o (by decide), wB_3, g5]) (fun i => by show (wB (wB (wB (wB (wB X9 905 0 3 (-1)) 903 0 16 (nI v2)) 903 0 17 (nI v3)) 903 0 18 (nI v4)) 903 0 19 (nI (1 + v5))).2.2.2 903 0 i = if i = 19 then nI ((1 + v5)) else if i = 18 then nI (v4) else if i = 17 then nI (v3) else if i = 16 then nI (v2) else σ.2.2.2 903 0 i; rw [wB_3, wB_3, wB_3, wB_3, wB_o (by decide), g5]; rfl)
    refine lv_iload hx hb dL_isBegun_223 (lv_at hl 10 rfl) ?_
    refine lv_iconst (v := nI 1) hx hb dL_isBegun_225 (by decide) ?_
    refine r_addN hx hb dL_isBegun_226 ?_
    refine r_icmp_neN (tgt := 234) hx hb dL_isBegun_227 (by decide) (by omega) (by omega) (fun c_227 => absurd c_227 (by decide)) (fun c_227 => ?_)
    refine lv_iconst (v := nI 1) hx hb dL_isBegun_230 (by decide) ?_
    refine lv_goto (tgt := 235) hx hb dL_isBegun_231 (by decide) ?_
    refine lv_istore (lv' := [(8, .int (nI 1)), (11, .int (nI 16)), (0, .ref x9), (1, .ref b), (2, .ref (L 900 0)), (3, .ref (L 900 1)), (4, .ref (L 901 0)), (5, .ref (L 902 0)), (6, .ref (L 903 0)), (7, .ref (L 905 0)), (9, .int (nI 0)), (10, .int (nI (3 + v1)))]) hx hb dL_isBegun_235 hl (by decide) rfl (fun ls hl => ?_)
    refine r_iincN (b := 1) (lv' := [(9, .int (nI 1)), (8, .int (nI 1)), (11, .int (nI 16)), (0, .ref x9), (1, .ref b), (2, .ref (L 900 0)), (3, .ref (L 900 1)), (4, .ref (L 901 0)), (5, .ref (L 902 0)), (6, .ref (L 903 0)), (7, .ref (L 905 0)), (10, .int (nI (3 + v1)))]) hx hb dL_isBegun_237 hl (k := 10) rfl (by decide) (by decide) rfl (fun ls hl => ?_)
    refine lv_goto (tgt := 17) hx hb dL_isBegun_240 (by decide) ?_
    obtain ⟨κ, σ, τ, hW, hR, hJ⟩ : ∃ κ σ τ, Vd D cI cZ cO t0 z0 x9 L κ σ H ∧ Rl wr0 κ τ ∧ BJ 1 0 σ τ := ⟨κ, _, τ, hW, hR, hJ⟩
    have hN2 : σ.2.2.1 902 0 0 = 36 := hJ.1.1
    have hN3 : σ.2.2.1 903 0 0 = 37 := hJ.1.2.1
    have hN5 : σ.2.2.1 905 0 0 = 11 := hJ.1.2.2
    have hG : PW D cI cZ cO vdom L σ (vim L) H := hW.g
    refine lv_iload hx hb dL_isBegun_17 (lv_at hl 0 rfl) ?_
    refine lv_iconst (v := nI 2) hx hb dL_isBegun_19 (by decide) ?_
    refine r_icmp_geN (tgt := 243) hx hb dL_isBegun_20 (by decide) (by omega) (by omega) (fun c_20_2 => absurd c_20_2 (by decide)) (fun c_20_2 => ?_)
    refine lv_iload hx hb dL_isBegun_23 (lv_at hl 1 rfl) ?_
    refine r_if_eqN (tgt := 243) hx hb dL_isBegun_25 (by decide) (by omega) (fun c_25_2 => absurd c_25_2 (by decide)) (fun c_25_2 => ?_)
    refine lv_iconst (v := nI 3) hx hb dL_isBegun_28 (by decide) ?_
    refine lv_aload_n hx hb dL_isBegun_29 rfl (lv_at hl 4 rfl) ?_
    refine lv_sipush (v := nI 300) hx hb dL_isBegun_30 (by decide) ?_
    refine lv_iload hx hb dL_isBegun_33 (lv_at hl 0 rfl) ?_
    refine r_addN hx hb dL_isBegun_35 ?_
    refine lv_bipush (v := nI 7) hx hb dL_isBegun_36 (by decide) ?_
    refine vs_call X hK hE hX hXs hbz hz (P := Vd D cI cZ cO t0 z0 x9 L κ σ) (P' := Vd D cI cZ cO t0 z0 x9 L κ σ) (hW) hS ysL_from ml_L_149 [.ref b, .int (nI 301), .int (nI 7)] [.int (nI 3)] (v_L_from (D := D) (cI := cI) (cZ := cZ) (cO := cO) (t0 := t0) (mi := mi) (z0 := z0) (x9 := x9) (L := L) (b := b) l N 301 7 xs (Vd D cI cZ cO t0 z0 x9 L κ σ) hbz hN (by omega) (by omega) (by omega)) rfl hl.1 rfl (Nat.le_of_ble_eq_true rfl) ⟨Nat.le_of_ble_eq_true rfl, Nat.le_of_ble_eq_true rfl⟩ ⟨Nat.le_of_ble_eq_true rfl, Nat.le_of_ble_eq_true rfl⟩ dL_isBegun_38 (fun H locs hP hS => ?_)
    have hW : Vd D cI cZ cO t0 z0 x9 L κ σ H := hP
    have hG : PW D cI cZ cO vdom L σ (vim L) H := hW.g
    obtain ⟨v6, hv6, bv6⟩ : ∃ v, v = h_from xs N 301 7 ∧ v < 7 := ⟨_, rfl, from_lt (by decide)⟩
    refine r_top (y := nI v6) (congrArg nI hv6.symm) ?_
    refine r_addN hx hb dL_isBegun_41 ?_
    refine lv_istore (lv' := [(10, .int (nI (3 + v6))), (9, .int (nI 1)), (8, .int (nI 1)), (11, .int (nI 16)), (0, .ref x9), (1, .ref b), (2, .ref (L 900 0)), (3, .ref (L 900 1)), (4, .ref (L 901 0)), (5, .ref (L 902 0)), (6, .ref (L 903 0)), (7, .ref (L 905 0))]) hx hb dL_isBegun_42 hl (by decide) rfl (fun ls hl => ?_)
    refine lv_iconst (v := nI 0) hx hb dL_isBegun_44 (by decide) ?_
    refine lv_istore (lv' := [(11, .int (nI 0)), (10, .int (nI (3 + v6))), (9, .int (nI 1)), (8, .int (nI 1)), (0, .ref x9), (1, .ref b), (2, .ref (L 900 0)), (3, .ref (L 900 1)), (4, .ref (L 901 0)), (5, .ref (L 902 0)), (6, .ref (L 903 0)), (7, .ref (L 905 0))]) hx hb dL_isBegun_45 hl (by decide) rfl (fun ls hl => ?_)
    refine r_loopP (ι := Nat) (fun (j9 : Nat) => [(0, .ref x9), (1, .ref b), (2, .ref (L 900 0)), (3, .ref (L 900 1)), (4, .ref (L 901 0)), (5, .ref (L 902 0)), (6, .ref (L 903 0)), (7, .ref (L 905 0)), (8, .int (nI 1)), (9, .int (nI 1)), (10, .int (nI (3 + v6))), (11, .int (nI j9))]) (fun (j9 : Nat) => (fun H => Vd D cI cZ cO t0 z0 x9 L κ (h_f1 (3 + v6) j9 σ) H)) (fun (j9 : Nat) => 48 - j9) (fun (j9 : Nat) => j9 ≤ 48) (fun _ => 19) (fun _ => 1018) 0 (Nat.zero_le _) hW hS (lv_sub hl [4, 5, 6, 7, 8, 9, 10, 11, 3, 2, 1, 0] rfl) rfl rfl ?_
    rintro j9 hinv ih H locs ls hW hS hl
    have hW : Vd D cI cZ cO t0 z0 x9 L κ (h_f1 (3 + v6) j9 σ) H := hW
    have hG : PW D cI cZ cO vdom L (h_f1 (3 + v6) j9 σ) (vim L) H := hW.g
    have hl : lv_has ls 12 [(0, .ref x9), (1, .ref b), (2, .ref (L 900 0)), (3, .ref (L 900 1)), (4, .ref (L 901 0)), (5, .ref (L 902 0)), (6, .ref (L 903 0)), (7, .ref (L 905 0)), (8, .int (nI 1)), (9, .int (nI 1)), (10, .int (nI (3 + v6))), (11, .int (nI j9))] := hl
    obtain hj9 := hinv
    refine lv_iload hx hb dL_isBegun_47 (lv_at hl 11 rfl) ?_
    refine lv_bipush (v := nI 48) hx hb dL_isBegun_49 (by decide) ?_
    refine r_icmp_geN (tgt := 86) hx hb dL_isBegun_51 (by decide) (by omega) (by omega) (fun c_51 => ?_) (fun c_51 => ?_)
    · have hj48 : j9 = 48 := by omega
      rw [hj48] at hW hG hl
      obtain ⟨g1, g2, g3, g4, g5⟩ := h_f1_B (st := 3 + v6) (σ := σ) (by omega) hJ.2.2.2.1.2.1
      generalize h_f1 (3 + v6) 48 σ = X9 at hW hG g1 g2 g3 g4 g5
      have hN2 : X9.2.2.1 902 0 0 = 36 := by rw [g4 902 (by decide)]; exact hJ.1.1
      have hN3 : X9.2.2.1 903 0 0 = 37 := by rw [g4 903 (by decide)]; exact hJ.1.2.1
      have hN5 : X9.2.2.1 905 0 0 = 11 := by rw [g4 905 (by decide)]; exact hJ.1.2.2
      have hB := hJ
      refine lv_aload hx hb dL_isBegun_86 (lv_at hl 7 rfl) ?_
      refine lv_iconst (v := nI 4) hx hb dL_isBegun_88 (by decide) ?_
      refine lv_iload hx hb dL_isBegun_89 (lv_at hl 9 rfl) ?_
      refine r_mulN hx hb dL_isBegun_91 ?_
      refine lv_iconst (v := nI 3) hx hb dL_isBegun_92 (by decide) ?_
      refine r_addN hx hb dL_isBegun_93 ?_
      refine lv_iconst (v := (-1)) hx hb dL_isBegun_94 (by decide) ?_
      refine vs_8 X hK hW hS 905 fa_905 (vd_1 (by decide)) (i := 7) (N := X9.2.2.1 905 0 0) rfl (by omega) (by omega) dL_isBegun_95 (fun H locs hW hS => ?_)
      have hG : PW D cI cZ cO vdom L (wB X9 905 0 7 (-1)) (vim L) H := hW.g
      refine lv_bipush (v := nI 16) hx hb dL_isBegun_96 (by decide) ?_
      refine lv_bipush (v := nI 6) hx hb dL_isBegun_98 (by decide) ?_
      refine lv_iload hx hb dL_isBegun_100 (lv_at hl 9 rfl) ?_
      refine r_mulN hx hb dL_isBegun_102 ?_
      refine r_addN hx hb dL_isBegun_103 ?_
      refine lv_istore (lv' := [(11, .int (nI 22)), (0, .ref x9), (1, .ref b), (2, .ref (L 900 0)), (3, .ref (L 900 1)), (4, .ref (L 901 0)), (5, .ref (L 902 0)), (6, .ref (L 903 0)), (7, .ref (L 905 0)), (8, .int (nI 1)), (9, .int (nI 1)), (10, .int (nI (3 + v6)))]) hx hb dL_isBegun_104 hl (by decide) rfl (fun ls hl => ?_)
      refine lv_aload hx hb dL_isBegun_106 (lv_at hl 7 rfl) ?_
      refine lv_iload hx hb dL_isBegun_108 (lv_at hl 0 rfl) ?_
      refine lv_aload_n hx hb dL_isBegun_110 rfl (lv_at hl 2 rfl) ?_
      refine lv_sipush (v := nI 302) hx hb dL_isBegun_111 (by decide) ?_
      refine lv_iload hx hb dL_isBegun_114 (lv_at hl 10 rfl) ?_
      refine r_addN hx hb dL_isBegun_116 ?_
      refine lv_bipush (v := nI 12) hx hb dL_isBegun_117 (by decide) ?_
      refine vs_call X hK hE hX hXs hbz hz (P := Vd D cI cZ cO t0 z0 x9 L κ (wB X9 905 0 7 (-1))) (P' := Vd D cI cZ cO t0 z0 x9 L κ (wB X9 905 0 7 (-1))) (hW) hS ysL_from ml_L_149 [.ref b, .int (nI 303), .int (nI 12)] [.int (nI 22), .ref (L 903 0)] (v_L_from (D := D) (cI := cI) (cZ := cZ) (cO := cO) (t0 := t0) (mi := mi) (z0 := z0) (x9 := x9) (L := L) (b := b) l N 303 12 xs (Vd D cI cZ cO t0 z0 x9 L κ (wB X9 905 0 7 (-1))) hbz hN (by omega) (by omega) (by omega)) rfl hl.1 rfl (Nat.le_of_ble_eq_true rfl) ⟨Nat.le_of_ble_eq_true rfl, Nat.le_of_ble_eq_true rfl⟩ ⟨Nat.le_of_ble_eq_true rfl, Nat.le_of_ble_eq_true rfl⟩ dL_isBegun_119 (fun H locs hP hS => ?_)
      have hW : Vd D cI cZ cO t0 z0 x9 L κ (wB X9 905 0 7 (-1)) H := hP
      have hG : PW D cI cZ cO vdom L (wB X9 905 0 7 (-1)) (vim L) H := hW.g
      obtain ⟨v7, hv7, bv7⟩ : ∃ v, v = h_from xs N 303 12 ∧ v < 12 := ⟨_, rfl, from_lt (by decide)⟩
      refine r_top (y := nI v7) (congrArg nI hv7.symm) ?_
      refine vs_8 X hK hW hS 903 fa_903 (vd_1 (by decide)) (i := 22) (N := X9.2.2.1 903 0 0) rfl (by omega) (by omega) dL_isBegun_122 (fun H locs hW hS => ?_)
      have hG : PW D cI cZ cO vdom L (wB (wB X9 905 0 7 (-1)) 903 0 22 (nI v7)) (vim L) H := hW.g
      refine lv_aload hx hb dL_isBegun_123 (lv_at hl 7 rfl) ?_
      refine lv_iload hx hb dL_isBegun_125 (lv_at hl 0 rfl) ?_
      refine lv_iconst (v := nI 1) hx hb dL_isBegun_127 (by decide) ?_
      refine r_addN hx hb dL_isBegun_128 ?_
      refine lv_aload_n hx hb dL_isBegun_129 rfl (lv_at hl 2 rfl) ?_
      refine lv_sipush (v := nI 304) hx hb dL_isBegun_130 (by decide) ?_
      refine lv_iload hx hb dL_isBegun_133 (lv_at hl 10 rfl) ?_
      refine r_addN hx hb dL_isBegun_135 ?_
      refine lv_iconst (v := nI 4) hx hb dL_isBegun_136 (by decide) ?_
      refine vs_call X hK hE hX hXs hbz hz (P := Vd D cI cZ cO t0 z0 x9 L κ (wB (wB X9 905 0 7 (-1)) 903 0 22 (nI v7))) (P' := Vd D cI cZ cO t0 z0 x9 L κ (wB (wB X9 905 0 7 (-1)) 903 0 22 (nI v7))) (hW) hS ysL_from ml_L_149 [.ref b, .int (nI 305), .int (nI 4)] [.int (nI 23), .ref (L 903 0)] (v_L_from (D := D) (cI := cI) (cZ := cZ) (cO := cO) (t0 := t0) (mi := mi) (z0 := z0) (x9 := x9) (L := L) (b := b) l N 305 4 xs (Vd D cI cZ cO t0 z0 x9 L κ (wB (wB X9 905 0 7 (-1)) 903 0 22 (nI v7))) hbz hN (by omega) (by omega) (by omega)) rfl hl.1 rfl (Nat.le_of_ble_eq_true rfl) ⟨Nat.le_of_ble_eq_true rfl, Nat.le_of_ble_eq_true rfl⟩ ⟨Nat.le_of_ble_eq_true rfl, Nat.le_of_ble_eq_true rfl⟩ dL_isBegun_137 (fun H locs hP hS => ?_)
      have hW : Vd D cI cZ cO t0 z0 x9 L κ (wB (wB X9 905 0 7 (-1)) 903 0 22 (nI v7)) H := hP
      have hG : PW D cI cZ cO vdom L (wB (wB X9 905 0 7 (-1)) 903 0 22 (nI v7)) (vim L) H := hW.g
      obtain ⟨v8, hv8, bv8⟩ : ∃ v, v = h_from xs N 305 4 ∧ v < 4 := ⟨_, rfl, from_lt (by decide)⟩
      refine r_top (y := nI v8) (congrArg nI hv8.symm) ?_
      refine vs_8 X hK hW hS 903 fa_903 (vd_1 (by decide)) (i := 23) (N := X9.2.2.1 903 0 0) rfl (by omega) (by omega) dL_isBegun_140 (fun H locs hW hS => ?_)
      have hG : PW D cI cZ cO vdom L (wB (wB (wB X9 905 0 7 (-1)) 903 0 22 (nI v7)) 903 0 23 (nI v8)) (vim L) H := hW.g
      refine lv_aload hx hb dL_isBegun_141 (lv_at hl 7 rfl) ?_
      refine lv_iload hx hb dL_isBegun_143 (lv_at hl 0 rfl) ?_
      refine lv_iconst (v := nI 2) hx hb dL_isBegun_145 (by decide) ?_
      refine r_addN hx hb dL_isBegun_146 ?_
      refine lv_aload_n hx hb dL_isBegun_147 rfl (lv_at hl 2 rfl) ?_
      refine lv_sipush (v := nI 306) hx hb dL_isBegun_148 (by decide) ?_
      refine lv_iload hx hb dL_isBegun_151 (lv_at hl 10 rfl) ?_
      refine r_addN hx hb dL_isBegun_153 ?_
      refine lv_bipush (v := nI 9) hx hb dL_isBegun_154 (by decide) ?_
      refine vs_call X hK hE hX hXs hbz hz (P := Vd D cI cZ cO t0 z0 x9 L κ (wB (wB (wB X9 905 0 7 (-1)) 903 0 22 (nI v7)) 903 0 23 (nI v8))) (P' := Vd D cI cZ cO t0 z0 x9 L κ (wB (wB (wB X9 905 0 7 (-1)) 903 0 22 (nI v7)) 903 0 23 (nI v8))) (hW) hS ysL_from ml_L_149 [.ref b, .int (nI 307), .int (nI 9)] [.int (nI 24), .ref (L 903 0)] (v_L_from (D := D) (cI := cI) (cZ := cZ) (cO := cO) (t0 := t0) (mi := mi) (z0 := z0) (x9 := x9) (L := L) (b := b) l N 307 9 xs (Vd D cI cZ cO t0 z0 x9 L κ (wB (wB (wB X9 905 0 7 (-1)) 903 0 22 (nI v7)) 903 0 23 (nI v8))) hbz hN (by omega) (by omega) (by omega)) rfl hl.1 rfl (Nat.le_of_ble_eq_true rfl) ⟨Nat.le_of_ble_eq_true rfl, Nat.le_of_ble_eq_true rfl⟩ ⟨Nat.le_of_ble_eq_true rfl, Nat.le_of_ble_eq_true rfl⟩ dL_isBegun_156 (fun H locs hP hS => ?_)
      have hW : Vd D cI cZ cO t0 z0 x9 L κ (wB (wB (wB X9 905 0 7 (-1)) 903 0 22 (nI v7)) 903 0 23 (nI v8)) H := hP
      have hG : PW D cI cZ cO vdom L (wB (wB (wB X9 905 0 7 (-1)) 903 0 22 (nI v7)) 903 0 23 (nI v8)) (vim L) H := hW.g
      obtain ⟨v9, hv9, bv9⟩ : ∃ v, v = h_from xs N 307 9 ∧ v < 9 := ⟨_, rfl, from_lt (by decide)⟩
      refine r_top (y := nI v9) (congrArg nI hv9.symm) ?_
      refine vs_8 X hK hW hS 903 fa_903 (vd_1 (by decide)) (i := 24) (N := X9.2.2.1 903 0 0) rfl (by omega) (by omega) dL_isBegun_159 (fun H locs hW hS => ?_)
      have hG : PW D cI cZ cO vdom L (wB (wB (wB (wB X9 905 0 7 (-1)) 903 0 22 (nI v7)) 903 0 23 (nI v8)) 903 0 24 (nI v9)) (vim L) H := hW.g
      refine lv_aload hx hb dL_isBegun_160 (lv_at hl 7 rfl) ?_
      refine lv_iload hx hb dL_isBegun_162 (lv_at hl 0 rfl) ?_
      refine lv_iconst (v := nI 3) hx hb dL_isBegun_164 (by decide) ?_
      refine r_addN hx hb dL_isBegun_165 ?_
      refine lv_iconst (v := nI 1) hx hb dL_isBegun_166 (by decide) ?_
      refine lv_aload_n hx hb dL_isBegun_167 rfl (lv_at hl 2 rfl) ?_
      refine lv_sipush (v := nI 308) hx hb dL_isBegun_168 (by decide) ?_
      refine lv_iload hx hb dL_isBegun_171 (lv_at hl 10 rfl) ?_
      refine r_addN hx hb dL_isBegun_173 ?_
      refine lv_bipush (v := nI 99) hx hb dL_isBegun_174 (by decide) ?_
      refine vs_call X hK hE hX hXs hbz hz (P := Vd D cI cZ cO t0 z0 x9 L κ (wB (wB (wB (wB X9 905 0 7 (-1)) 903 0 22 (nI v7)) 903 0 23 (nI v8)) 903 0 24 (nI v9))) (P' := Vd D cI cZ cO t0 z0 x9 L κ (wB (wB (wB (wB X9 905 0 7 (-1)) 903 0 22 (nI v7)) 903 0 23 (nI v8)) 903 0 24 (nI v9))) (hW) hS ysL_from ml_L_149 [.ref b, .int (nI 309), .int (nI 99)] [.int (nI 1), .int (nI 25), .ref (L 903 0)] (v_L_from (D := D) (cI := cI) (cZ := cZ) (cO := cO) (t0 := t0) (mi := mi) (z0 := z0) (x9 := x9) (L := L) (b := b) l N 309 99 xs (Vd D cI cZ cO t0 z0 x9 L κ (wB (wB (wB (wB X9 905 0 7 (-1)) 903 0 22 (nI v7)) 903 0 23 (nI v8)) 903 0 24 (nI v9))) hbz hN (by omega) (by omega) (by omega)) rfl hl.1 rfl (Nat.le_of_ble_eq_true rfl) ⟨Nat.le_of_ble_eq_true rfl, Nat.le_of_ble_eq_true rfl⟩ ⟨Nat.le_of_ble_eq_true rfl, Nat.le_of_ble_eq_true rfl⟩ dL_isBegun_176 (fun H locs hP hS => ?_)
      have hW : Vd D cI cZ cO t0 z0 x9 L κ (wB (wB (wB (wB X9 905 0 7 (-1)) 903 0 22 (nI v7)) 903 0 23 (nI v8)) 903 0 24 (nI v9)) H := hP
      have hG : PW D cI cZ cO vdom L (wB (wB (wB (wB X9 905 0 7 (-1)) 903 0 22 (nI v7)) 903 0 23 (nI v8)) 903 0 24 (nI v9)) (vim L) H := hW.g
      obtain ⟨v10, hv10, bv10⟩ : ∃ v, v = h_from xs N 309 99 ∧ v < 99 := ⟨_, rfl, from_lt (by decide)⟩
      refine r_top (y := nI v10) (congrArg nI hv10.symm) ?_
      refine r_addN hx hb dL_isBegun_179 ?_
      refine vs_8 X hK hW hS 903 fa_903 (vd_1 (by decide)) (i := 25) (N := X9.2.2.1 903 0 0) rfl (by omega) (by omega) dL_isBegun_180 (fun H locs hW hS => ?_)
      have hG : PW D cI cZ cO vdom L (wB (wB (wB (wB (wB X9 905 0 7 (-1)) 903 0 22 (nI v7)) 903 0 23 (nI v8)) 903 0 24 (nI v9)) 903 0 25 (nI (1 + v10))) (vim L) H := hW.g
      refine lv_aload_n hx hb dL_isBegun_181 rfl (lv_at hl 1 rfl) ?_
      refine lv_iload hx hb dL_isBegun_182 (lv_at hl 11 rfl) ?_
      refine v_oq X hK hE hX hW hS yvX8_pallet ml_L_153 [.int (nI (3 + v6))] [] (Q_pallet hl9 hR (P := 1) (st := 3 + v6) hJ.2.2.2.1.1 (by decide) (by omega) (by omega)) rfl hl.1 rfl (Nat.le_of_ble_eq_true rfl) ⟨Nat.le_of_ble_eq_true rfl, Nat.le_of_ble_eq_true rfl⟩ ⟨Nat.le_of_ble_eq_true rfl, Nat.le_of_ble_eq_true rfl⟩ dL_isBegun_184 (fun κ τ H locs hW hR hJ hS => ?_)
      have hG : PW D cI cZ cO vdom L (wB (wB (wB (wB (wB X9 905 0 7 (-1)) 903 0 22 (nI v7)) 903 0 23 (nI v8)) 903 0 24 (nI v9)) 903 0 25 (nI (1 + v10))) (vim L) H := hW.g
      have hP1 := hJ
      refine lv_iload hx hb dL_isBegun_187 (lv_at hl 10 rfl) ?_
      refine r_icmp_neN (tgt := 234) hx hb dL_isBegun_189 (by decide) (by omega) (by omega) (fun c_189_2 => absurd c_189_2 (by decide)) (fun c_189_2 => ?_)
      refine lv_aload_n hx hb dL_isBegun_192 rfl (lv_at hl 1 rfl) ?_
      refine lv_iconst (v := nI 0) hx hb dL_isBegun_193 (by decide) ?_
      refine lv_aload hx hb dL_isBegun_194 (lv_at hl 7 rfl) ?_
      refine lv_iload hx hb dL_isBegun_196 (lv_at hl 0 rfl) ?_
      refine pw_ald8 X hK hG 903 fa_903 (vd_1 (by decide)) (i := 22) (N := X9.2.2.1 903 0 0) (x := nI v7) rfl (by omega) (by omega) rfl dL_isBegun_198 ?_
      refine lv_aload hx hb dL_isBegun_199 (lv_at hl 7 rfl) ?_
      refine lv_iload hx hb dL_isBegun_201 (lv_at hl 0 rfl) ?_
      refine lv_iconst (v := nI 1) hx hb dL_isBegun_203 (by decide) ?_
      refine r_addN hx hb dL_isBegun_204 ?_
      refine pw_ald8 X hK hG 903 fa_903 (vd_1 (by decide)) (i := 23) (N := X9.2.2.1 903 0 0) (x := nI v8) rfl (by omega) (by omega) rfl dL_isBegun_205 ?_
      refine lv_aload hx hb dL_isBegun_206 (lv_at hl 7 rfl) ?_
      refine lv_iload hx hb dL_isBegun_208 (lv_at hl 0 rfl) ?_
      refine lv_iconst (v := nI 2) hx hb dL_isBegun_210 (by decide) ?_
      refine r_addN hx hb dL_isBegun_211 ?_
      refine pw_ald8 X hK hG 903 fa_903 (vd_1 (by decide)) (i := 24) (N := X9.2.2.1 903 0 0) (x := nI v9) rfl (by omega) (by omega) rfl dL_isBegun_212 ?_
      refine lv_aload hx hb dL_isBegun_213 (lv_at hl 7 rfl) ?_
      refine lv_iload hx hb dL_isBegun_215 (lv_at hl 0 rfl) ?_
      refine lv_iconst (v := nI 3) hx hb dL_isBegun_217 (by decide) ?_
      refine r_addN hx hb dL_isBegun_218 ?_
      refine pw_ald8 X hK hG 903 fa_903 (vd_1 (by decide)) (i := 25) (N := X9.2.2.1 903 0 0) (x := nI (1 + v10)) rfl (by omega) (by omega) rfl dL_isBegun_219 ?_
      refine v_oq X hK hE hX hW hS yvX8_feature ml_L_156 [.int (nI 0), .int (nI v7), .int (nI v8), .int (nI v9), .int (nI (1 + v10))] [] (Q_feature hl9 hR (F := 1) (x := v7) (y := v8) (h := v9) (v := (1 + v10)) (by rw [hP1.1.1 932 (by decide)]; exact hB.2.2.2.2.1.1) (by rw [hP1.1.2.2.1 931 (by decide)]; exact hB.2.2.2.2.1.2.1) (by decide) (by omega) (by omega) (by omega) (by omega) (by omega)) rfl hl.1 rfl (Nat.le_of_ble_eq_true rfl) ⟨Nat.le_of_ble_eq_true rfl, Nat.le_of_ble_eq_true rfl⟩ ⟨Nat.le_of_ble_eq_true rfl, Nat.le_of_ble_eq_true rfl⟩ dL_isBegun_220 (fun κ τ H locs hW hR hJ hS => ?_)
      have hG : PW D cI cZ cO vdom L (wB (wB (wB (wB (wB X9 905 0 7 (-1)) 903 0 22 (nI v7)) 903 0 23 (nI v8)) 903 0 24 (nI v9)) 903 0 25 (nI (1 + v10))) (vim L) H := hW.g
      have hJ : BJ 2 0 (wB (wB (wB (wB (wB X9 905 0 7 (-1)) 903 0 22 (nI v7)) 903 0 23 (nI v8)) 903 0 24 (nI v9)) 903 0 25 (nI (1 + v10))) τ := hB.pal (by decide) hP1 hJ (by omega) (by omega) (by omega) (by omega) (by omega) g1 g2 g3 ⟨hN2, hN3, hN5⟩ (by rw [wB_o (by decide), wB_o (by decide), wB_o (by decide), wB_o (by decide), wB_o (by decide), g5]) (by rw [wB_o (by decide), wB_o (by decide), wB_o (by decide), wB_o (by decide), wB_o (by decide), g5]) (by show (wB (wB (wB (wB (wB X9 905 0 7 (-1)) 903 0 22 (nI v7)) 903 0 23 (nI v8)) 903 0 24 (nI v9)) 903 0 25 (nI (1 + v10))).2.2.2 905 0 = up1 (σ.2.2.2 905 0) 7 (-1); rw [wB_o (by decide), wB_o (by decide), wB_o (by decide), wB_o (by decide), wB_3, g5]) (fun i => by show (wB (wB (wB (wB (wB X9 905 0 7 (-1)) 903 0 22 (nI v7)) 903 0 23 (nI v8)) 903 0 24 (nI v9)) 903 0 25 (nI (1 + v10))).2.2.2 903 0 i = if i = 25 then nI ((1 + v10)) else if i = 24 then nI (v9) else if i = 23 then nI (v8) else if i = 22 then nI (v7) else σ.2.2.2 903 0 i; rw [wB_3, wB_3, wB_3, wB_3, wB_o (by decide), g5]; rfl)
      refine lv_iload hx hb dL_isBegun_223 (lv_at hl 10 rfl) ?_
      refine lv_iconst (v := nI 1) hx hb dL_isBegun_225 (by decide) ?_
      refine r_addN hx hb dL_isBegun_226 ?_
      refine r_icmp_neN (tgt := 234) hx hb dL_isBegun_227 (by decide) (by omega) (by omega) (fun c_227_2 => absurd c_227_2 (by decide)) (fun c_227_2 => ?_)
      refine lv_iconst (v := nI 1) hx hb dL_isBegun_230 (by decide) ?_
      refine lv_goto (tgt := 235) hx hb dL_isBegun_231 (by decide) ?_
      refine lv_istore (lv' := [(8, .int (nI 1)), (11, .int (nI 22)), (0, .ref x9), (1, .ref b), (2, .ref (L 900 0)), (3, .ref (L 900 1)), (4, .ref (L 901 0)), (5, .ref (L 902 0)), (6, .ref (L 903 0)), (7, .ref (L 905 0)), (9, .int (nI 1)), (10, .int (nI (3 + v6)))]) hx hb dL_isBegun_235 hl (by decide) rfl (fun ls hl => ?_)
      refine r_iincN (b := 1) (lv' := [(9, .int (nI 2)), (8, .int (nI 1)), (11, .int (nI 22)), (0, .ref x9), (1, .ref b), (2, .ref (L 900 0)), (3, .ref (L 900 1)), (4, .ref (L 901 0)), (5, .ref (L 902 0)), (6, .ref (L 903 0)), (7, .ref (L 905 0)), (10, .int (nI (3 + v6)))]) hx hb dL_isBegun_237 hl (k := 10) rfl (by decide) (by decide) rfl (fun ls hl => ?_)
      refine lv_goto (tgt := 17) hx hb dL_isBegun_240 (by decide) ?_
      obtain ⟨κ, σ, τ, hW, hR, hJ⟩ : ∃ κ σ τ, Vd D cI cZ cO t0 z0 x9 L κ σ H ∧ Rl wr0 κ τ ∧ BJ 2 0 σ τ := ⟨κ, _, τ, hW, hR, hJ⟩
      have hN2 : σ.2.2.1 902 0 0 = 36 := hJ.1.1
      have hN3 : σ.2.2.1 903 0 0 = 37 := hJ.1.2.1
      have hN5 : σ.2.2.1 905 0 0 = 11 := hJ.1.2.2
      have hG : PW D cI cZ cO vdom L σ (vim L) H := hW.g
      refine lv_iload hx hb dL_isBegun_17 (lv_at hl 0 rfl) ?_
      refine lv_iconst (v := nI 2) hx hb dL_isBegun_19 (by decide) ?_
      refine r_icmp_geN (tgt := 243) hx hb dL_isBegun_20 (by decide) (by omega) (by omega) (fun c_20_3 => ?_) (fun c_20_3 => absurd c_20_3 (by decide))
      refine lv_iconst (v := nI 0) hx hb dL_isBegun_243 (by decide) ?_
      refine lv_istore (lv' := [(9, .int (nI 0)), (8, .int (nI 1)), (11, .int (nI 22)), (0, .ref x9), (1, .ref b), (2, .ref (L 900 0)), (3, .ref (L 900 1)), (4, .ref (L 901 0)), (5, .ref (L 902 0)), (6, .ref (L 903 0)), (7, .ref (L 905 0)), (10, .int (nI (3 + v6)))]) hx hb dL_isBegun_244 hl (by decide) rfl (fun ls hl => ?_)
      obtain ⟨κ, σ, τ, hW, hR, hJ⟩ : ∃ κ σ τ, Vd D cI cZ cO t0 z0 x9 L κ σ H ∧ Rl wr0 κ τ ∧ BJ 2 0 σ τ := ⟨κ, _, τ, hW, hR, hJ⟩
      have hN2 : σ.2.2.1 902 0 0 = 36 := hJ.1.1
      have hN3 : σ.2.2.1 903 0 0 = 37 := hJ.1.2.1
      have hN5 : σ.2.2.1 905 0 0 = 11 := hJ.1.2.2
      have hB := hJ
      have hG : PW D cI cZ cO vdom L σ (vim L) H := hW.g
      refine lv_iload hx hb dL_isBegun_246 (lv_at hl 0 rfl) ?_
      refine lv_iconst (v := nI 4) hx hb dL_isBegun_248 (by decide) ?_
      refine r_icmp_geN (tgt := 400) hx hb dL_isBegun_249 (by decide) (by omega) (by omega) (fun c_249 => absurd c_249 (by decide)) (fun c_249 => ?_)
      refine lv_iload hx hb dL_isBegun_252 (lv_at hl 1 rfl) ?_
      refine r_if_eqN (tgt := 400) hx hb dL_isBegun_254 (by decide) (by omega) (fun c_254 => absurd c_254 (by decide)) (fun c_254 => ?_)
      refine lv_aload hx hb dL_isBegun_257 (lv_at hl 8 rfl) ?_
      refine lv_bipush (v := nI 9) hx hb dL_isBegun_259 (by decide) ?_
      refine lv_iload hx hb dL_isBegun_261 (lv_at hl 0 rfl) ?_
      refine r_mulN hx hb dL_isBegun_263 ?_
      refine lv_aload_n hx hb dL_isBegun_264 rfl (lv_at hl 4 rfl) ?_
      refine lv_sipush (v := nI 310) hx hb dL_isBegun_265 (by decide) ?_
      refine lv_iload hx hb dL_isBegun_268 (lv_at hl 0 rfl) ?_
      refine r_addN hx hb dL_isBegun_270 ?_
      refine lv_iconst (v := nI 3) hx hb dL_isBegun_271 (by decide) ?_
      refine lv_iload hx hb dL_isBegun_272 (lv_at hl 0 rfl) ?_
      refine r_addN hx hb dL_isBegun_274 ?_
      refine vs_call X hK hE hX hXs hbz hz (P := Vd D cI cZ cO t0 z0 x9 L κ σ) (P' := Vd D cI cZ cO t0 z0 x9 L κ σ) (hW) hS ysL_from ml_L_149 [.ref b, .int (nI 310), .int (nI 3)] [.int (nI 0), .ref (L 902 0)] (v_L_from (D := D) (cI := cI) (cZ := cZ) (cO := cO) (t0 := t0) (mi := mi) (z0 := z0) (x9 := x9) (L := L) (b := b) l N 310 3 xs (Vd D cI cZ cO t0 z0 x9 L κ σ) hbz hN (by omega) (by omega) (by omega)) rfl hl.1 rfl (Nat.le_of_ble_eq_true rfl) ⟨Nat.le_of_ble_eq_true rfl, Nat.le_of_ble_eq_true rfl⟩ ⟨Nat.le_of_ble_eq_true rfl, Nat.le_of_ble_eq_true rfl⟩ dL_isBegun_275 (fun H locs hP hS => ?_)
      have hW : Vd D cI cZ cO t0 z0 x9 L κ σ H := hP
      have hG : PW D cI cZ cO vdom L σ (vim L) H := hW.g
      obtain ⟨v11, hv11, bv11⟩ : ∃ v, v = h_from xs N 310 3 ∧ v < 3 := ⟨_, rfl, from_lt (by decide)⟩
      refine r_top (y := nI v11) (congrArg nI hv11.symm) ?_
      refine vs_8 X hK hW hS 902 fa_902 (vd_1 (by decide)) (i := 0) (N := σ.2.2.1 902 0 0) rfl (by omega) (by omega) dL_isBegun_278 (fun H locs hW hS => ?_)
      have hG : PW D cI cZ cO vdom L (wB σ 902 0 0 (nI v11)) (vim L) H := hW.g
      refine lv_aload hx hb dL_isBegun_279 (lv_at hl 8 rfl) ?_
      refine lv_bipush (v := nI 9) hx hb dL_isBegun_281 (by decide) ?_
      refine lv_iload hx hb dL_isBegun_283 (lv_at hl 0 rfl) ?_
      refine r_mulN hx hb dL_isBegun_285 ?_
      refine r_cutV (P := fun H => Vd D cI cZ cO t0 z0 x9 L κ (wB σ 902 0 0 (nI v11)) H) 310 [.int (nI (if 3 < v11 then 0 else v11)), .int (nI 0), .ref (L 902 0)] hW hS (fun H locs hW hS => ?_) (fun J_310 => ?_)
      · have hW : Vd D cI cZ cO t0 z0 x9 L κ (wB σ 902 0 0 (nI v11)) H := hW
        have hG : PW D cI cZ cO vdom L (wB σ 902 0 0 (nI v11)) (vim L) H := hW.g
        obtain ⟨kd, hkd, bkd⟩ : ∃ kd, kd = (if 3 < v11 then 0 else v11) ∧ kd < 4 := ⟨_, rfl, by split <;> omega⟩
        refine r_top (y := nI kd) (congrArg nI hkd.symm) ?_
        refine vs_8 X hK hW hS 902 fa_902 (vd_1 (by decide)) (i := 0) (N := σ.2.2.1 902 0 0) rfl (by omega) (by omega) dL_isBegun_310 (fun H locs hW hS => ?_)
        have hG : PW D cI cZ cO vdom L (wB (wB σ 902 0 0 (nI v11)) 902 0 0 (nI kd)) (vim L) H := hW.g
        refine lv_aload hx hb dL_isBegun_311 (lv_at hl 8 rfl) ?_
        refine lv_bipush (v := nI 9) hx hb dL_isBegun_313 (by decide) ?_
        refine lv_iload hx hb dL_isBegun_315 (lv_at hl 0 rfl) ?_
        refine r_mulN hx hb dL_isBegun_317 ?_
        refine lv_iconst (v := nI 1) hx hb dL_isBegun_318 (by decide) ?_
        refine r_addN hx hb dL_isBegun_319 ?_
        refine lv_iconst (v := nI 1) hx hb dL_isBegun_320 (by decide) ?_
        refine lv_aload_n hx hb dL_isBegun_321 rfl (lv_at hl 4 rfl) ?_
        refine lv_sipush (v := nI 314) hx hb dL_isBegun_322 (by decide) ?_
        refine lv_iload hx hb dL_isBegun_325 (lv_at hl 0 rfl) ?_
        refine r_addN hx hb dL_isBegun_327 ?_
        refine lv_bipush (v := nI 40) hx hb dL_isBegun_328 (by decide) ?_
        refine vs_call X hK hE hX hXs hbz hz (P := Vd D cI cZ cO t0 z0 x9 L κ (wB (wB σ 902 0 0 (nI v11)) 902 0 0 (nI kd))) (P' := Vd D cI cZ cO t0 z0 x9 L κ (wB (wB σ 902 0 0 (nI v11)) 902 0 0 (nI kd))) (hW) hS ysL_from ml_L_149 [.ref b, .int (nI 314), .int (nI 40)] [.int (nI 1), .int (nI 1), .ref (L 902 0)] (v_L_from (D := D) (cI := cI) (cZ := cZ) (cO := cO) (t0 := t0) (mi := mi) (z0 := z0) (x9 := x9) (L := L) (b := b) l N 314 40 xs (Vd D cI cZ cO t0 z0 x9 L κ (wB (wB σ 902 0 0 (nI v11)) 902 0 0 (nI kd))) hbz hN (by omega) (by omega) (by omega)) rfl hl.1 rfl (Nat.le_of_ble_eq_true rfl) ⟨Nat.le_of_ble_eq_true rfl, Nat.le_of_ble_eq_true rfl⟩ ⟨Nat.le_of_ble_eq_true rfl, Nat.le_of_ble_eq_true rfl⟩ dL_isBegun_330 (fun H locs hP hS => ?_)
        have hW : Vd D cI cZ cO t0 z0 x9 L κ (wB (wB σ 902 0 0 (nI v11)) 902 0 0 (nI kd)) H := hP
        have hG : PW D cI cZ cO vdom L (wB (wB σ 902 0 0 (nI v11)) 902 0 0 (nI kd)) (vim L) H := hW.g
        obtain ⟨v12, hv12, bv12⟩ : ∃ v, v = h_from xs N 314 40 ∧ v < 40 := ⟨_, rfl, from_lt (by decide)⟩
        refine r_top (y := nI v12) (congrArg nI hv12.symm) ?_
        refine r_addN hx hb dL_isBegun_333 ?_
        refine vs_8 X hK hW hS 902 fa_902 (vd_1 (by decide)) (i := 1) (N := σ.2.2.1 902 0 0) rfl (by omega) (by omega) dL_isBegun_334 (fun H locs hW hS => ?_)
        have hG : PW D cI cZ cO vdom L (wB (wB (wB σ 902 0 0 (nI v11)) 902 0 0 (nI kd)) 902 0 1 (nI (1 + v12))) (vim L) H := hW.g
        refine lv_aload hx hb dL_isBegun_335 (lv_at hl 8 rfl) ?_
        refine lv_bipush (v := nI 9) hx hb dL_isBegun_337 (by decide) ?_
        refine lv_iload hx hb dL_isBegun_339 (lv_at hl 0 rfl) ?_
        refine r_mulN hx hb dL_isBegun_341 ?_
        refine lv_iconst (v := nI 4) hx hb dL_isBegun_342 (by decide) ?_
        refine r_addN hx hb dL_isBegun_343 ?_
        refine lv_iconst (v := nI 1) hx hb dL_isBegun_344 (by decide) ?_
        refine vs_8 X hK hW hS 902 fa_902 (vd_1 (by decide)) (i := 4) (N := σ.2.2.1 902 0 0) rfl (by omega) (by omega) dL_isBegun_345 (fun H locs hW hS => ?_)
        have hG : PW D cI cZ cO vdom L (wB (wB (wB (wB σ 902 0 0 (nI v11)) 902 0 0 (nI kd)) 902 0 1 (nI (1 + v12))) 902 0 4 (nI 1)) (vim L) H := hW.g
        refine lv_aload_n hx hb dL_isBegun_346 rfl (lv_at hl 3 rfl) ?_
        refine lv_aload hx hb dL_isBegun_347 (lv_at hl 8 rfl) ?_
        refine lv_bipush (v := nI 9) hx hb dL_isBegun_349 (by decide) ?_
        refine lv_iload hx hb dL_isBegun_351 (lv_at hl 0 rfl) ?_
        refine r_mulN hx hb dL_isBegun_353 ?_
        refine pw_ald8 X hK hG 902 fa_902 (vd_1 (by decide)) (i := 0) (N := σ.2.2.1 902 0 0) (x := nI kd) rfl (by omega) (by omega) rfl dL_isBegun_354 ?_
        refine lv_aload hx hb dL_isBegun_355 (lv_at hl 8 rfl) ?_
        refine lv_bipush (v := nI 9) hx hb dL_isBegun_357 (by decide) ?_
        refine lv_iload hx hb dL_isBegun_359 (lv_at hl 0 rfl) ?_
        refine r_mulN hx hb dL_isBegun_361 ?_
        refine lv_iconst (v := nI 1) hx hb dL_isBegun_362 (by decide) ?_
        refine r_addN hx hb dL_isBegun_363 ?_
        refine pw_ald8 X hK hG 902 fa_902 (vd_1 (by decide)) (i := 1) (N := σ.2.2.1 902 0 0) (x := nI (1 + v12)) rfl (by omega) (by omega) rfl dL_isBegun_364 ?_
        refine v_oq X hK hE hX hW hS yvX8_tool ml_L_160 [.int (nI kd), .int (nI (1 + v12))] [] (Q_tool hl9 hR (T := 0) (kd := kd) (v := (1 + v12)) hJ.2.2.2.2.2.1 (by decide) (by omega) (by omega) (by omega)) rfl hl.1 rfl (Nat.le_of_ble_eq_true rfl) ⟨Nat.le_of_ble_eq_true rfl, Nat.le_of_ble_eq_true rfl⟩ ⟨Nat.le_of_ble_eq_true rfl, Nat.le_of_ble_eq_true rfl⟩ dL_isBegun_365 (fun κ τ H locs hW hR hJ hS => ?_)
        have hG : PW D cI cZ cO vdom L (wB (wB (wB (wB σ 902 0 0 (nI v11)) 902 0 0 (nI kd)) 902 0 1 (nI (1 + v12))) 902 0 4 (nI 1)) (vim L) H := hW.g
        have hP1 := hJ
        refine lv_iload hx hb dL_isBegun_368 (lv_at hl 0 rfl) ?_
        refine r_icmp_neN (tgt := 391) hx hb dL_isBegun_370 (by decide) (by omega) (by omega) (fun c_370 => absurd c_370 (by decide)) (fun c_370 => ?_)
        refine lv_aload_n hx hb dL_isBegun_373 rfl (lv_at hl 3 rfl) ?_
        refine lv_iload hx hb dL_isBegun_374 (lv_at hl 0 rfl) ?_
        refine lv_iconst (v := nI 1) hx hb dL_isBegun_376 (by decide) ?_
        refine v_oq X hK hE hX hW hS yvX8_load ml_L_124 [.int (nI 0), .int (nI 1)] [] (Q_loadB hl9 hR (T := 0) hP1.2.1 (by decide) (fun j hj => by rw [hP1.1.2.2.2 911 (by decide)]; exact (hB.2.2.2.2.2.2.1 j hj).2.2.2.1)) rfl hl.1 rfl (Nat.le_of_ble_eq_true rfl) ⟨Nat.le_of_ble_eq_true rfl, Nat.le_of_ble_eq_true rfl⟩ ⟨Nat.le_of_ble_eq_true rfl, Nat.le_of_ble_eq_true rfl⟩ dL_isBegun_377 (fun κ τ H locs hW hR hJ hS => ?_)
        have hG : PW D cI cZ cO vdom L (wB (wB (wB (wB σ 902 0 0 (nI v11)) 902 0 0 (nI kd)) 902 0 1 (nI (1 + v12))) 902 0 4 (nI 1)) (vim L) H := hW.g
        have hJ : BJ 2 1 (wB (wB (wB (wB σ 902 0 0 (nI v11)) 902 0 0 (nI kd)) 902 0 1 (nI (1 + v12))) 902 0 4 (nI 1)) τ := hB.tool hP1 hJ (by omega) rfl (fun F z => by rw [wB_o z, wB_o z, wB_o z, wB_o z]) (fun i => by show (wB (wB (wB (wB σ 902 0 0 (nI v11)) 902 0 0 (nI kd)) 902 0 1 (nI (1 + v12))) 902 0 4 (nI 1)).2.2.2 902 0 i = if i = 4 then nI 1 else if i = 1 then nI ((1 + v12)) else if i = 0 then nI kd else σ.2.2.2 902 0 i; rw [wB_3, wB_3, wB_3, wB_3, up1_app, up1_app, up1_app, up1_app]; by_cases z4 : i = 4; (simp only [if_pos z4]); by_cases z1 : i = 1; (simp only [if_neg z4, if_pos z1]); by_cases z0 : i = 0; (simp only [if_neg z4, if_neg z1, if_pos z0]); simp only [if_neg z4, if_neg z1, if_neg z0])
        refine lv_iload hx hb dL_isBegun_380 (lv_at hl 0 rfl) ?_
        refine lv_iconst (v := nI 1) hx hb dL_isBegun_382 (by decide) ?_
        refine r_addN hx hb dL_isBegun_383 ?_
        refine r_icmp_neN (tgt := 391) hx hb dL_isBegun_384 (by decide) (by omega) (by omega) (fun c_384 => absurd c_384 (by decide)) (fun c_384 => ?_)
        refine lv_iconst (v := nI 1) hx hb dL_isBegun_387 (by decide) ?_
        refine lv_goto (tgt := 392) hx hb dL_isBegun_388 (by decide) ?_
        refine lv_istore (lv' := [(8, .int (nI 1)), (9, .int (nI 0)), (11, .int (nI 22)), (0, .ref x9), (1, .ref b), (2, .ref (L 900 0)), (3, .ref (L 900 1)), (4, .ref (L 901 0)), (5, .ref (L 902 0)), (6, .ref (L 903 0)), (7, .ref (L 905 0)), (10, .int (nI (3 + v6)))]) hx hb dL_isBegun_392 hl (by decide) rfl (fun ls hl => ?_)
        refine r_iincN (b := 1) (lv' := [(9, .int (nI 1)), (8, .int (nI 1)), (11, .int (nI 22)), (0, .ref x9), (1, .ref b), (2, .ref (L 900 0)), (3, .ref (L 900 1)), (4, .ref (L 901 0)), (5, .ref (L 902 0)), (6, .ref (L 903 0)), (7, .ref (L 905 0)), (10, .int (nI (3 + v6)))]) hx hb dL_isBegun_394 hl (k := 1) rfl (by decide) (by decide) rfl (fun ls hl => ?_)
        refine lv_goto (tgt := 246) hx hb dL_isBegun_397 (by decide) ?_
        obtain ⟨κ, σ, τ, hW, hR, hJ⟩ : ∃ κ σ τ, Vd D cI cZ cO t0 z0 x9 L κ σ H ∧ Rl wr0 κ τ ∧ BJ 2 1 σ τ := ⟨κ, _, τ, hW, hR, hJ⟩
        have hN2 : σ.2.2.1 902 0 0 = 36 := hJ.1.1
        have hN3 : σ.2.2.1 903 0 0 = 37 := hJ.1.2.1
        have hN5 : σ.2.2.1 905 0 0 = 11 := hJ.1.2.2
        have hB := hJ
        have hG : PW D cI cZ cO vdom L σ (vim L) H := hW.g
        refine lv_iload hx hb dL_isBegun_246 (lv_at hl 0 rfl) ?_
        refine lv_iconst (v := nI 4) hx hb dL_isBegun_248 (by decide) ?_
        refine r_icmp_geN (tgt := 400) hx hb dL_isBegun_249 (by decide) (by omega) (by omega) (fun c_249_2 => absurd c_249_2 (by decide)) (fun c_249_2 => ?_)
        refine lv_iload hx hb dL_isBegun_252 (lv_at hl 1 rfl) ?_
        refine r_if_eqN (tgt := 400) hx hb dL_isBegun_254 (by decide) (by omega) (fun c_254_2 => absurd c_254_2 (by decide)) (fun c_254_2 => ?_)
        refine lv_aload hx hb dL_isBegun_257 (lv_at hl 8 rfl) ?_
        refine lv_bipush (v := nI 9) hx hb dL_isBegun_259 (by decide) ?_
        refine lv_iload hx hb dL_isBegun_261 (lv_at hl 0 rfl) ?_
        refine r_mulN hx hb dL_isBegun_263 ?_
        refine lv_aload_n hx hb dL_isBegun_264 rfl (lv_at hl 4 rfl) ?_
        refine lv_sipush (v := nI 310) hx hb dL_isBegun_265 (by decide) ?_
        refine lv_iload hx hb dL_isBegun_268 (lv_at hl 0 rfl) ?_
        refine r_addN hx hb dL_isBegun_270 ?_
        refine lv_iconst (v := nI 3) hx hb dL_isBegun_271 (by decide) ?_
        refine lv_iload hx hb dL_isBegun_272 (lv_at hl 0 rfl) ?_
        refine r_addN hx hb dL_isBegun_274 ?_
        refine vs_call X hK hE hX hXs hbz hz (P := Vd D cI cZ cO t0 z0 x9 L κ σ) (P' := Vd D cI cZ cO t0 z0 x9 L κ σ) (hW) hS ysL_from ml_L_149 [.ref b, .int (nI 311), .int (nI 4)] [.int (nI 9), .ref (L 902 0)] (v_L_from (D := D) (cI := cI) (cZ := cZ) (cO := cO) (t0 := t0) (mi := mi) (z0 := z0) (x9 := x9) (L := L) (b := b) l N 311 4 xs (Vd D cI cZ cO t0 z0 x9 L κ σ) hbz hN (by omega) (by omega) (by omega)) rfl hl.1 rfl (Nat.le_of_ble_eq_true rfl) ⟨Nat.le_of_ble_eq_true rfl, Nat.le_of_ble_eq_true rfl⟩ ⟨Nat.le_of_ble_eq_true rfl, Nat.le_of_ble_eq_true rfl⟩ dL_isBegun_275 (fun H locs hP hS => ?_)
        have hW : Vd D cI cZ cO t0 z0 x9 L κ σ H := hP
        have hG : PW D cI cZ cO vdom L σ (vim L) H := hW.g
        obtain ⟨v13, hv13, bv13⟩ : ∃ v, v = h_from xs N 311 4 ∧ v < 4 := ⟨_, rfl, from_lt (by decide)⟩
        refine r_top (y := nI v13) (congrArg nI hv13.symm) ?_
        refine vs_8 X hK hW hS 902 fa_902 (vd_1 (by decide)) (i := 9) (N := σ.2.2.1 902 0 0) rfl (by omega) (by omega) dL_isBegun_278 (fun H locs hW hS => ?_)
        have hG : PW D cI cZ cO vdom L (wB σ 902 0 9 (nI v13)) (vim L) H := hW.g
        refine lv_aload hx hb dL_isBegun_279 (lv_at hl 8 rfl) ?_
        refine lv_bipush (v := nI 9) hx hb dL_isBegun_281 (by decide) ?_
        refine lv_iload hx hb dL_isBegun_283 (lv_at hl 0 rfl) ?_
        refine r_mulN hx hb dL_isBegun_285 ?_
        refine r_cutV (P := fun H => Vd D cI cZ cO t0 z0 x9 L κ (wB σ 902 0 9 (nI v13)) H) 310 [.int (nI (if 3 < v13 then 0 else v13)), .int (nI 9), .ref (L 902 0)] hW hS (fun H locs hW hS => ?_) (fun J_310 => ?_)
        · have hW : Vd D cI cZ cO t0 z0 x9 L κ (wB σ 902 0 9 (nI v13)) H := hW
          have hG : PW D cI cZ cO vdom L (wB σ 902 0 9 (nI v13)) (vim L) H := hW.g
          obtain ⟨kd, hkd, bkd⟩ : ∃ kd, kd = (if 3 < v13 then 0 else v13) ∧ kd < 4 := ⟨_, rfl, by split <;> omega⟩
          refine r_top (y := nI kd) (congrArg nI hkd.symm) ?_
          refine vs_8 X hK hW hS 902 fa_902 (vd_1 (by decide)) (i := 9) (N := σ.2.2.1 902 0 0) rfl (by omega) (by omega) dL_isBegun_310 (fun H locs hW hS => ?_)
          have hG : PW D cI cZ cO vdom L (wB (wB σ 902 0 9 (nI v13)) 902 0 9 (nI kd)) (vim L) H := hW.g
          refine lv_aload hx hb dL_isBegun_311 (lv_at hl 8 rfl) ?_
          refine lv_bipush (v := nI 9) hx hb dL_isBegun_313 (by decide) ?_
          refine lv_iload hx hb dL_isBegun_315 (lv_at hl 0 rfl) ?_
          refine r_mulN hx hb dL_isBegun_317 ?_
          refine lv_iconst (v := nI 1) hx hb dL_isBegun_318 (by decide) ?_
          refine r_addN hx hb dL_isBegun_319 ?_
          refine lv_iconst (v := nI 1) hx hb dL_isBegun_320 (by decide) ?_
          refine lv_aload_n hx hb dL_isBegun_321 rfl (lv_at hl 4 rfl) ?_
          refine lv_sipush (v := nI 314) hx hb dL_isBegun_322 (by decide) ?_
          refine lv_iload hx hb dL_isBegun_325 (lv_at hl 0 rfl) ?_
          refine r_addN hx hb dL_isBegun_327 ?_
          refine lv_bipush (v := nI 40) hx hb dL_isBegun_328 (by decide) ?_
          refine vs_call X hK hE hX hXs hbz hz (P := Vd D cI cZ cO t0 z0 x9 L κ (wB (wB σ 902 0 9 (nI v13)) 902 0 9 (nI kd))) (P' := Vd D cI cZ cO t0 z0 x9 L κ (wB (wB σ 902 0 9 (nI v13)) 902 0 9 (nI kd))) (hW) hS ysL_from ml_L_149 [.ref b, .int (nI 315), .int (nI 40)] [.int (nI 1), .int (nI 10), .ref (L 902 0)] (v_L_from (D := D) (cI := cI) (cZ := cZ) (cO := cO) (t0 := t0) (mi := mi) (z0 := z0) (x9 := x9) (L := L) (b := b) l N 315 40 xs (Vd D cI cZ cO t0 z0 x9 L κ (wB (wB σ 902 0 9 (nI v13)) 902 0 9 (nI kd))) hbz hN (by omega) (by omega) (by omega)) rfl hl.1 rfl (Nat.le_of_ble_eq_true rfl) ⟨Nat.le_of_ble_eq_true rfl, Nat.le_of_ble_eq_true rfl⟩ ⟨Nat.le_of_ble_eq_true rfl, Nat.le_of_ble_eq_true rfl⟩ dL_isBegun_330 (fun H locs hP hS => ?_)
          have hW : Vd D cI cZ cO t0 z0 x9 L κ (wB (wB σ 902 0 9 (nI v13)) 902 0 9 (nI kd)) H := hP
          have hG : PW D cI cZ cO vdom L (wB (wB σ 902 0 9 (nI v13)) 902 0 9 (nI kd)) (vim L) H := hW.g
          obtain ⟨v14, hv14, bv14⟩ : ∃ v, v = h_from xs N 315 40 ∧ v < 40 := ⟨_, rfl, from_lt (by decide)⟩
          refine r_top (y := nI v14) (congrArg nI hv14.symm) ?_
          refine r_addN hx hb dL_isBegun_333 ?_
          refine vs_8 X hK hW hS 902 fa_902 (vd_1 (by decide)) (i := 10) (N := σ.2.2.1 902 0 0) rfl (by omega) (by omega) dL_isBegun_334 (fun H locs hW hS => ?_)
          have hG : PW D cI cZ cO vdom L (wB (wB (wB σ 902 0 9 (nI v13)) 902 0 9 (nI kd)) 902 0 10 (nI (1 + v14))) (vim L) H := hW.g
          refine lv_aload hx hb dL_isBegun_335 (lv_at hl 8 rfl) ?_
          refine lv_bipush (v := nI 9) hx hb dL_isBegun_337 (by decide) ?_
          refine lv_iload hx hb dL_isBegun_339 (lv_at hl 0 rfl) ?_
          refine r_mulN hx hb dL_isBegun_341 ?_
          refine lv_iconst (v := nI 4) hx hb dL_isBegun_342 (by decide) ?_
          refine r_addN hx hb dL_isBegun_343 ?_
          refine lv_iconst (v := nI 1) hx hb dL_isBegun_344 (by decide) ?_
          refine vs_8 X hK hW hS 902 fa_902 (vd_1 (by decide)) (i := 13) (N := σ.2.2.1 902 0 0) rfl (by omega) (by omega) dL_isBegun_345 (fun H locs hW hS => ?_)
          have hG : PW D cI cZ cO vdom L (wB (wB (wB (wB σ 902 0 9 (nI v13)) 902 0 9 (nI kd)) 902 0 10 (nI (1 + v14))) 902 0 13 (nI 1)) (vim L) H := hW.g
          refine lv_aload_n hx hb dL_isBegun_346 rfl (lv_at hl 3 rfl) ?_
          refine lv_aload hx hb dL_isBegun_347 (lv_at hl 8 rfl) ?_
          refine lv_bipush (v := nI 9) hx hb dL_isBegun_349 (by decide) ?_
          refine lv_iload hx hb dL_isBegun_351 (lv_at hl 0 rfl) ?_
          refine r_mulN hx hb dL_isBegun_353 ?_
          refine pw_ald8 X hK hG 902 fa_902 (vd_1 (by decide)) (i := 9) (N := σ.2.2.1 902 0 0) (x := nI kd) rfl (by omega) (by omega) rfl dL_isBegun_354 ?_
          refine lv_aload hx hb dL_isBegun_355 (lv_at hl 8 rfl) ?_
          refine lv_bipush (v := nI 9) hx hb dL_isBegun_357 (by decide) ?_
          refine lv_iload hx hb dL_isBegun_359 (lv_at hl 0 rfl) ?_
          refine r_mulN hx hb dL_isBegun_361 ?_
          refine lv_iconst (v := nI 1) hx hb dL_isBegun_362 (by decide) ?_
          refine r_addN hx hb dL_isBegun_363 ?_
          refine pw_ald8 X hK hG 902 fa_902 (vd_1 (by decide)) (i := 10) (N := σ.2.2.1 902 0 0) (x := nI (1 + v14)) rfl (by omega) (by omega) rfl dL_isBegun_364 ?_
          refine v_oq X hK hE hX hW hS yvX8_tool ml_L_160 [.int (nI kd), .int (nI (1 + v14))] [] (Q_tool hl9 hR (T := 1) (kd := kd) (v := (1 + v14)) hJ.2.2.2.2.2.1 (by decide) (by omega) (by omega) (by omega)) rfl hl.1 rfl (Nat.le_of_ble_eq_true rfl) ⟨Nat.le_of_ble_eq_true rfl, Nat.le_of_ble_eq_true rfl⟩ ⟨Nat.le_of_ble_eq_true rfl, Nat.le_of_ble_eq_true rfl⟩ dL_isBegun_365 (fun κ τ H locs hW hR hJ hS => ?_)
          have hG : PW D cI cZ cO vdom L (wB (wB (wB (wB σ 902 0 9 (nI v13)) 902 0 9 (nI kd)) 902 0 10 (nI (1 + v14))) 902 0 13 (nI 1)) (vim L) H := hW.g
          have hP1 := hJ
          refine lv_iload hx hb dL_isBegun_368 (lv_at hl 0 rfl) ?_
          refine r_icmp_neN (tgt := 391) hx hb dL_isBegun_370 (by decide) (by omega) (by omega) (fun c_370_2 => absurd c_370_2 (by decide)) (fun c_370_2 => ?_)
          refine lv_aload_n hx hb dL_isBegun_373 rfl (lv_at hl 3 rfl) ?_
          refine lv_iload hx hb dL_isBegun_374 (lv_at hl 0 rfl) ?_
          refine lv_iconst (v := nI 1) hx hb dL_isBegun_376 (by decide) ?_
          refine v_oq X hK hE hX hW hS yvX8_load ml_L_124 [.int (nI 1), .int (nI 1)] [] (Q_loadB hl9 hR (T := 1) hP1.2.1 (by decide) (fun j hj => by rw [hP1.1.2.2.2 911 (by decide)]; exact (hB.2.2.2.2.2.2.1 j hj).2.2.2.1)) rfl hl.1 rfl (Nat.le_of_ble_eq_true rfl) ⟨Nat.le_of_ble_eq_true rfl, Nat.le_of_ble_eq_true rfl⟩ ⟨Nat.le_of_ble_eq_true rfl, Nat.le_of_ble_eq_true rfl⟩ dL_isBegun_377 (fun κ τ H locs hW hR hJ hS => ?_)
          have hG : PW D cI cZ cO vdom L (wB (wB (wB (wB σ 902 0 9 (nI v13)) 902 0 9 (nI kd)) 902 0 10 (nI (1 + v14))) 902 0 13 (nI 1)) (vim L) H := hW.g
          have hJ : BJ 2 2 (wB (wB (wB (wB σ 902 0 9 (nI v13)) 902 0 9 (nI kd)) 902 0 10 (nI (1 + v14))) 902 0 13 (nI 1)) τ := hB.tool hP1 hJ (by omega) rfl (fun F z => by rw [wB_o z, wB_o z, wB_o z, wB_o z]) (fun i => by show (wB (wB (wB (wB σ 902 0 9 (nI v13)) 902 0 9 (nI kd)) 902 0 10 (nI (1 + v14))) 902 0 13 (nI 1)).2.2.2 902 0 i = if i = 13 then nI 1 else if i = 10 then nI ((1 + v14)) else if i = 9 then nI kd else σ.2.2.2 902 0 i; rw [wB_3, wB_3, wB_3, wB_3, up1_app, up1_app, up1_app, up1_app]; by_cases z4 : i = 13; (simp only [if_pos z4]); by_cases z1 : i = 10; (simp only [if_neg z4, if_pos z1]); by_cases z0 : i = 9; (simp only [if_neg z4, if_neg z1, if_pos z0]); simp only [if_neg z4, if_neg z1, if_neg z0])
          refine lv_iload hx hb dL_isBegun_380 (lv_at hl 0 rfl) ?_
          refine lv_iconst (v := nI 1) hx hb dL_isBegun_382 (by decide) ?_
          refine r_addN hx hb dL_isBegun_383 ?_
          refine r_icmp_neN (tgt := 391) hx hb dL_isBegun_384 (by decide) (by omega) (by omega) (fun c_384_2 => absurd c_384_2 (by decide)) (fun c_384_2 => ?_)
          refine lv_iconst (v := nI 1) hx hb dL_isBegun_387 (by decide) ?_
          refine lv_goto (tgt := 392) hx hb dL_isBegun_388 (by decide) ?_
          refine lv_istore (lv' := [(8, .int (nI 1)), (9, .int (nI 1)), (11, .int (nI 22)), (0, .ref x9), (1, .ref b), (2, .ref (L 900 0)), (3, .ref (L 900 1)), (4, .ref (L 901 0)), (5, .ref (L 902 0)), (6, .ref (L 903 0)), (7, .ref (L 905 0)), (10, .int (nI (3 + v6)))]) hx hb dL_isBegun_392 hl (by decide) rfl (fun ls hl => ?_)
          refine r_iincN (b := 1) (lv' := [(9, .int (nI 2)), (8, .int (nI 1)), (11, .int (nI 22)), (0, .ref x9), (1, .ref b), (2, .ref (L 900 0)), (3, .ref (L 900 1)), (4, .ref (L 901 0)), (5, .ref (L 902 0)), (6, .ref (L 903 0)), (7, .ref (L 905 0)), (10, .int (nI (3 + v6)))]) hx hb dL_isBegun_394 hl (k := 1) rfl (by decide) (by decide) rfl (fun ls hl => ?_)
          refine lv_goto (tgt := 246) hx hb dL_isBegun_397 (by decide) ?_
          obtain ⟨κ, σ, τ, hW, hR, hJ⟩ : ∃ κ σ τ, Vd D cI cZ cO t0 z0 x9 L κ σ H ∧ Rl wr0 κ τ ∧ BJ 2 2 σ τ := ⟨κ, _, τ, hW, hR, hJ⟩
          have hN2 : σ.2.2.1 902 0 0 = 36 := hJ.1.1
          have hN3 : σ.2.2.1 903 0 0 = 37 := hJ.1.2.1
          have hN5 : σ.2.2.1 905 0 0 = 11 := hJ.1.2.2
          have hB := hJ
          have hG : PW D cI cZ cO vdom L σ (vim L) H := hW.g
          refine lv_iload hx hb dL_isBegun_246 (lv_at hl 0 rfl) ?_
          refine lv_iconst (v := nI 4) hx hb dL_isBegun_248 (by decide) ?_
          refine r_icmp_geN (tgt := 400) hx hb dL_isBegun_249 (by decide) (by omega) (by omega) (fun c_249_3 => absurd c_249_3 (by decide)) (fun c_249_3 => ?_)
          refine lv_iload hx hb dL_isBegun_252 (lv_at hl 1 rfl) ?_
          refine r_if_eqN (tgt := 400) hx hb dL_isBegun_254 (by decide) (by omega) (fun c_254_3 => absurd c_254_3 (by decide)) (fun c_254_3 => ?_)
          refine lv_aload hx hb dL_isBegun_257 (lv_at hl 8 rfl) ?_
          refine lv_bipush (v := nI 9) hx hb dL_isBegun_259 (by decide) ?_
          refine lv_iload hx hb dL_isBegun_261 (lv_at hl 0 rfl) ?_
          refine r_mulN hx hb dL_isBegun_263 ?_
          refine lv_aload_n hx hb dL_isBegun_264 rfl (lv_at hl 4 rfl) ?_
          refine lv_sipush (v := nI 310) hx hb dL_isBegun_265 (by decide) ?_
          refine lv_iload hx hb dL_isBegun_268 (lv_at hl 0 rfl) ?_
          refine r_addN hx hb dL_isBegun_270 ?_
          refine lv_iconst (v := nI 3) hx hb dL_isBegun_271 (by decide) ?_
          refine lv_iload hx hb dL_isBegun_272 (lv_at hl 0 rfl) ?_
          refine r_addN hx hb dL_isBegun_274 ?_
          refine vs_call X hK hE hX hXs hbz hz (P := Vd D cI cZ cO t0 z0 x9 L κ σ) (P' := Vd D cI cZ cO t0 z0 x9 L κ σ) (hW) hS ysL_from ml_L_149 [.ref b, .int (nI 312), .int (nI 5)] [.int (nI 18), .ref (L 902 0)] (v_L_from (D := D) (cI := cI) (cZ := cZ) (cO := cO) (t0 := t0) (mi := mi) (z0 := z0) (x9 := x9) (L := L) (b := b) l N 312 5 xs (Vd D cI cZ cO t0 z0 x9 L κ σ) hbz hN (by omega) (by omega) (by omega)) rfl hl.1 rfl (Nat.le_of_ble_eq_true rfl) ⟨Nat.le_of_ble_eq_true rfl, Nat.le_of_ble_eq_true rfl⟩ ⟨Nat.le_of_ble_eq_true rfl, Nat.le_of_ble_eq_true rfl⟩ dL_isBegun_275 (fun H locs hP hS => ?_)
          have hW : Vd D cI cZ cO t0 z0 x9 L κ σ H := hP
          have hG : PW D cI cZ cO vdom L σ (vim L) H := hW.g
          obtain ⟨v15, hv15, bv15⟩ : ∃ v, v = h_from xs N 312 5 ∧ v < 5 := ⟨_, rfl, from_lt (by decide)⟩
          refine r_top (y := nI v15) (congrArg nI hv15.symm) ?_
          refine vs_8 X hK hW hS 902 fa_902 (vd_1 (by decide)) (i := 18) (N := σ.2.2.1 902 0 0) rfl (by omega) (by omega) dL_isBegun_278 (fun H locs hW hS => ?_)
          have hG : PW D cI cZ cO vdom L (wB σ 902 0 18 (nI v15)) (vim L) H := hW.g
          refine lv_aload hx hb dL_isBegun_279 (lv_at hl 8 rfl) ?_
          refine lv_bipush (v := nI 9) hx hb dL_isBegun_281 (by decide) ?_
          refine lv_iload hx hb dL_isBegun_283 (lv_at hl 0 rfl) ?_
          refine r_mulN hx hb dL_isBegun_285 ?_
          refine r_cutV (P := fun H => Vd D cI cZ cO t0 z0 x9 L κ (wB σ 902 0 18 (nI v15)) H) 310 [.int (nI (if 3 < v15 then 0 else v15)), .int (nI 18), .ref (L 902 0)] hW hS (fun H locs hW hS => ?_) (fun J_310 => ?_)
          · have hW : Vd D cI cZ cO t0 z0 x9 L κ (wB σ 902 0 18 (nI v15)) H := hW
            have hG : PW D cI cZ cO vdom L (wB σ 902 0 18 (nI v15)) (vim L) H := hW.g
            obtain ⟨kd, hkd, bkd⟩ : ∃ kd, kd = (if 3 < v15 then 0 else v15) ∧ kd < 4 := ⟨_, rfl, by split <;> omega⟩
            refine r_top (y := nI kd) (congrArg nI hkd.symm) ?_
            refine vs_8 X hK hW hS 902 fa_902 (vd_1 (by decide)) (i := 18) (N := σ.2.2.1 902 0 0) rfl (by omega) (by omega) dL_isBegun_310 (fun H locs hW hS => ?_)
            have hG : PW D cI cZ cO vdom L (wB (wB σ 902 0 18 (nI v15)) 902 0 18 (nI kd)) (vim L) H := hW.g
            refine lv_aload hx hb dL_isBegun_311 (lv_at hl 8 rfl) ?_
            refine lv_bipush (v := nI 9) hx hb dL_isBegun_313 (by decide) ?_
            refine lv_iload hx hb dL_isBegun_315 (lv_at hl 0 rfl) ?_
            refine r_mulN hx hb dL_isBegun_317 ?_
            refine lv_iconst (v := nI 1) hx hb dL_isBegun_318 (by decide) ?_
            refine r_addN hx hb dL_isBegun_319 ?_
            refine lv_iconst (v := nI 1) hx hb dL_isBegun_320 (by decide) ?_
            refine lv_aload_n hx hb dL_isBegun_321 rfl (lv_at hl 4 rfl) ?_
            refine lv_sipush (v := nI 314) hx hb dL_isBegun_322 (by decide) ?_
            refine lv_iload hx hb dL_isBegun_325 (lv_at hl 0 rfl) ?_
            refine r_addN hx hb dL_isBegun_327 ?_
            refine lv_bipush (v := nI 40) hx hb dL_isBegun_328 (by decide) ?_
            refine vs_call X hK hE hX hXs hbz hz (P := Vd D cI cZ cO t0 z0 x9 L κ (wB (wB σ 902 0 18 (nI v15)) 902 0 18 (nI kd))) (P' := Vd D cI cZ cO t0 z0 x9 L κ (wB (wB σ 902 0 18 (nI v15)) 902 0 18 (nI kd))) (hW) hS ysL_from ml_L_149 [.ref b, .int (nI 316), .int (nI 40)] [.int (nI 1), .int (nI 19), .ref (L 902 0)] (v_L_from (D := D) (cI := cI) (cZ := cZ) (cO := cO) (t0 := t0) (mi := mi) (z0 := z0) (x9 := x9) (L := L) (b := b) l N 316 40 xs (Vd D cI cZ cO t0 z0 x9 L κ (wB (wB σ 902 0 18 (nI v15)) 902 0 18 (nI kd))) hbz hN (by omega) (by omega) (by omega)) rfl hl.1 rfl (Nat.le_of_ble_eq_true rfl) ⟨Nat.le_of_ble_eq_true rfl, Nat.le_of_ble_eq_true rfl⟩ ⟨Nat.le_of_ble_eq_true rfl, Nat.le_of_ble_eq_true rfl⟩ dL_isBegun_330 (fun H locs hP hS => ?_)
            have hW : Vd D cI cZ cO t0 z0 x9 L κ (wB (wB σ 902 0 18 (nI v15)) 902 0 18 (nI kd)) H := hP
            have hG : PW D cI cZ cO vdom L (wB (wB σ 902 0 18 (nI v15)) 902 0 18 (nI kd)) (vim L) H := hW.g
            obtain ⟨v16, hv16, bv16⟩ : ∃ v, v = h_from xs N 316 40 ∧ v < 40 := ⟨_, rfl, from_lt (by decide)⟩
            refine r_top (y := nI v16) (congrArg nI hv16.symm) ?_
            refine r_addN hx hb dL_isBegun_333 ?_
            refine vs_8 X hK hW hS 902 fa_902 (vd_1 (by decide)) (i := 19) (N := σ.2.2.1 902 0 0) rfl (by omega) (by omega) dL_isBegun_334 (fun H locs hW hS => ?_)
            have hG : PW D cI cZ cO vdom L (wB (wB (wB σ 902 0 18 (nI v15)) 902 0 18 (nI kd)) 902 0 19 (nI (1 + v16))) (vim L) H := hW.g
            refine lv_aload hx hb dL_isBegun_335 (lv_at hl 8 rfl) ?_
            refine lv_bipush (v := nI 9) hx hb dL_isBegun_337 (by decide) ?_
            refine lv_iload hx hb dL_isBegun_339 (lv_at hl 0 rfl) ?_
            refine r_mulN hx hb dL_isBegun_341 ?_
            refine lv_iconst (v := nI 4) hx hb dL_isBegun_342 (by decide) ?_
            refine r_addN hx hb dL_isBegun_343 ?_
            refine lv_iconst (v := nI 1) hx hb dL_isBegun_344 (by decide) ?_
            refine vs_8 X hK hW hS 902 fa_902 (vd_1 (by decide)) (i := 22) (N := σ.2.2.1 902 0 0) rfl (by omega) (by omega) dL_isBegun_345 (fun H locs hW hS => ?_)
            have hG : PW D cI cZ cO vdom L (wB (wB (wB (wB σ 902 0 18 (nI v15)) 902 0 18 (nI kd)) 902 0 19 (nI (1 + v16))) 902 0 22 (nI 1)) (vim L) H := hW.g
            refine lv_aload_n hx hb dL_isBegun_346 rfl (lv_at hl 3 rfl) ?_
            refine lv_aload hx hb dL_isBegun_347 (lv_at hl 8 rfl) ?_
            refine lv_bipush (v := nI 9) hx hb dL_isBegun_349 (by decide) ?_
            refine lv_iload hx hb dL_isBegun_351 (lv_at hl 0 rfl) ?_
            refine r_mulN hx hb dL_isBegun_353 ?_
            refine pw_ald8 X hK hG 902 fa_902 (vd_1 (by decide)) (i := 18) (N := σ.2.2.1 902 0 0) (x := nI kd) rfl (by omega) (by omega) rfl dL_isBegun_354 ?_
            refine lv_aload hx hb dL_isBegun_355 (lv_at hl 8 rfl) ?_
            refine lv_bipush (v := nI 9) hx hb dL_isBegun_357 (by decide) ?_
            refine lv_iload hx hb dL_isBegun_359 (lv_at hl 0 rfl) ?_
            refine r_mulN hx hb dL_isBegun_361 ?_
            refine lv_iconst (v := nI 1) hx hb dL_isBegun_362 (by decide) ?_
            refine r_addN hx hb dL_isBegun_363 ?_
            refine pw_ald8 X hK hG 902 fa_902 (vd_1 (by decide)) (i := 19) (N := σ.2.2.1 902 0 0) (x := nI (1 + v16)) rfl (by omega) (by omega) rfl dL_isBegun_364 ?_
            refine v_oq X hK hE hX hW hS yvX8_tool ml_L_160 [.int (nI kd), .int (nI (1 + v16))] [] (Q_tool hl9 hR (T := 2) (kd := kd) (v := (1 + v16)) hJ.2.2.2.2.2.1 (by decide) (by omega) (by omega) (by omega)) rfl hl.1 rfl (Nat.le_of_ble_eq_true rfl) ⟨Nat.le_of_ble_eq_true rfl, Nat.le_of_ble_eq_true rfl⟩ ⟨Nat.le_of_ble_eq_true rfl, Nat.le_of_ble_eq_true rfl⟩ dL_isBegun_365 (fun κ τ H locs hW hR hJ hS => ?_)
            have hG : PW D cI cZ cO vdom L (wB (wB (wB (wB σ 902 0 18 (nI v15)) 902 0 18 (nI kd)) 902 0 19 (nI (1 + v16))) 902 0 22 (nI 1)) (vim L) H := hW.g
            have hP1 := hJ
            refine lv_iload hx hb dL_isBegun_368 (lv_at hl 0 rfl) ?_
            refine r_icmp_neN (tgt := 391) hx hb dL_isBegun_370 (by decide) (by omega) (by omega) (fun c_370_3 => absurd c_370_3 (by decide)) (fun c_370_3 => ?_)
            refine lv_aload_n hx hb dL_isBegun_373 rfl (lv_at hl 3 rfl) ?_
            refine lv_iload hx hb dL_isBegun_374 (lv_at hl 0 rfl) ?_
            refine lv_iconst (v := nI 1) hx hb dL_isBegun_376 (by decide) ?_
            refine v_oq X hK hE hX hW hS yvX8_load ml_L_124 [.int (nI 2), .int (nI 1)] [] (Q_loadB hl9 hR (T := 2) hP1.2.1 (by decide) (fun j hj => by rw [hP1.1.2.2.2 911 (by decide)]; exact (hB.2.2.2.2.2.2.1 j hj).2.2.2.1)) rfl hl.1 rfl (Nat.le_of_ble_eq_true rfl) ⟨Nat.le_of_ble_eq_true rfl, Nat.le_of_ble_eq_true rfl⟩ ⟨Nat.le_of_ble_eq_true rfl, Nat.le_of_ble_eq_true rfl⟩ dL_isBegun_377 (fun κ τ H locs hW hR hJ hS => ?_)
            have hG : PW D cI cZ cO vdom L (wB (wB (wB (wB σ 902 0 18 (nI v15)) 902 0 18 (nI kd)) 902 0 19 (nI (1 + v16))) 902 0 22 (nI 1)) (vim L) H := hW.g
            have hJ : BJ 2 3 (wB (wB (wB (wB σ 902 0 18 (nI v15)) 902 0 18 (nI kd)) 902 0 19 (nI (1 + v16))) 902 0 22 (nI 1)) τ := hB.tool hP1 hJ (by omega) rfl (fun F z => by rw [wB_o z, wB_o z, wB_o z, wB_o z]) (fun i => by show (wB (wB (wB (wB σ 902 0 18 (nI v15)) 902 0 18 (nI kd)) 902 0 19 (nI (1 + v16))) 902 0 22 (nI 1)).2.2.2 902 0 i = if i = 22 then nI 1 else if i = 19 then nI ((1 + v16)) else if i = 18 then nI kd else σ.2.2.2 902 0 i; rw [wB_3, wB_3, wB_3, wB_3, up1_app, up1_app, up1_app, up1_app]; by_cases z4 : i = 22; (simp only [if_pos z4]); by_cases z1 : i = 19; (simp only [if_neg z4, if_pos z1]); by_cases z0 : i = 18; (simp only [if_neg z4, if_neg z1, if_pos z0]); simp only [if_neg z4, if_neg z1, if_neg z0])
            refine lv_iload hx hb dL_isBegun_380 (lv_at hl 0 rfl) ?_
            refine lv_iconst (v := nI 1) hx hb dL_isBegun_382 (by decide) ?_
            refine r_addN hx hb dL_isBegun_383 ?_
            refine r_icmp_neN (tgt := 391) hx hb dL_isBegun_384 (by decide) (by omega) (by omega) (fun c_384_3 => absurd c_384_3 (by decide)) (fun c_384_3 => ?_)
            refine lv_iconst (v := nI 1) hx hb dL_isBegun_387 (by decide) ?_
            refine lv_goto (tgt := 392) hx hb dL_isBegun_388 (by decide) ?_
            refine lv_istore (lv' := [(8, .int (nI 1)), (9, .int (nI 2)), (11, .int (nI 22)), (0, .ref x9), (1, .ref b), (2, .ref (L 900 0)), (3, .ref (L 900 1)), (4, .ref (L 901 0)), (5, .ref (L 902 0)), (6, .ref (L 903 0)), (7, .ref (L 905 0)), (10, .int (nI (3 + v6)))]) hx hb dL_isBegun_392 hl (by decide) rfl (fun ls hl => ?_)
            refine r_iincN (b := 1) (lv' := [(9, .int (nI 3)), (8, .int (nI 1)), (11, .int (nI 22)), (0, .ref x9), (1, .ref b), (2, .ref (L 900 0)), (3, .ref (L 900 1)), (4, .ref (L 901 0)), (5, .ref (L 902 0)), (6, .ref (L 903 0)), (7, .ref (L 905 0)), (10, .int (nI (3 + v6)))]) hx hb dL_isBegun_394 hl (k := 1) rfl (by decide) (by decide) rfl (fun ls hl => ?_)
            refine lv_goto (tgt := 246) hx hb dL_isBegun_397 (by decide) ?_
            obtain ⟨κ, σ, τ, hW, hR, hJ⟩ : ∃ κ σ τ, Vd D cI cZ cO t0 z0 x9 L κ σ H ∧ Rl wr0 κ τ ∧ BJ 2 3 σ τ := ⟨κ, _, τ, hW, hR, hJ⟩
            have hN2 : σ.2.2.1 902 0 0 = 36 := hJ.1.1
            have hN3 : σ.2.2.1 903 0 0 = 37 := hJ.1.2.1
            have hN5 : σ.2.2.1 905 0 0 = 11 := hJ.1.2.2
            have hB := hJ
            have hG : PW D cI cZ cO vdom L σ (vim L) H := hW.g
            refine lv_iload hx hb dL_isBegun_246 (lv_at hl 0 rfl) ?_
            refine lv_iconst (v := nI 4) hx hb dL_isBegun_248 (by decide) ?_
            refine r_icmp_geN (tgt := 400) hx hb dL_isBegun_249 (by decide) (by omega) (by omega) (fun c_249_4 => absurd c_249_4 (by decide)) (fun c_249_4 => ?_)
            refine lv_iload hx hb dL_isBegun_252 (lv_at hl 1 rfl) ?_
            refine r_if_eqN (tgt := 400) hx hb dL_isBegun_254 (by decide) (by omega) (fun c_254_4 => absurd c_254_4 (by decide)) (fun c_254_4 => ?_)
            refine lv_aload hx hb dL_isBegun_257 (lv_at hl 8 rfl) ?_
            refine lv_bipush (v := nI 9) hx hb dL_isBegun_259 (by decide) ?_
            refine lv_iload hx hb dL_isBegun_261 (lv_at hl 0 rfl) ?_
            refine r_mulN hx hb dL_isBegun_263 ?_
            refine lv_aload_n hx hb dL_isBegun_264 rfl (lv_at hl 4 rfl) ?_
            refine lv_sipush (v := nI 310) hx hb dL_isBegun_265 (by decide) ?_
            refine lv_iload hx hb dL_isBegun_268 (lv_at hl 0 rfl) ?_
            refine r_addN hx hb dL_isBegun_270 ?_
            refine lv_iconst (v := nI 3) hx hb dL_isBegun_271 (by decide) ?_
            refine lv_iload hx hb dL_isBegun_272 (lv_at hl 0 rfl) ?_
            refine r_addN hx hb dL_isBegun_274 ?_
            refine vs_call X hK hE hX hXs hbz hz (P := Vd D cI cZ cO t0 z0 x9 L κ σ) (P' := Vd D cI cZ cO t0 z0 x9 L κ σ) (hW) hS ysL_from ml_L_149 [.ref b, .int (nI 313), .int (nI 6)] [.int (nI 27), .ref (L 902 0)] (v_L_from (D := D) (cI := cI) (cZ := cZ) (cO := cO) (t0 := t0) (mi := mi) (z0 := z0) (x9 := x9) (L := L) (b := b) l N 313 6 xs (Vd D cI cZ cO t0 z0 x9 L κ σ) hbz hN (by omega) (by omega) (by omega)) rfl hl.1 rfl (Nat.le_of_ble_eq_true rfl) ⟨Nat.le_of_ble_eq_true rfl, Nat.le_of_ble_eq_true rfl⟩ ⟨Nat.le_of_ble_eq_true rfl, Nat.le_of_ble_eq_true rfl⟩ dL_isBegun_275 (fun H locs hP hS => ?_)
            have hW : Vd D cI cZ cO t0 z0 x9 L κ σ H := hP
            have hG : PW D cI cZ cO vdom L σ (vim L) H := hW.g
            obtain ⟨v17, hv17, bv17⟩ : ∃ v, v = h_from xs N 313 6 ∧ v < 6 := ⟨_, rfl, from_lt (by decide)⟩
            refine r_top (y := nI v17) (congrArg nI hv17.symm) ?_
            refine vs_8 X hK hW hS 902 fa_902 (vd_1 (by decide)) (i := 27) (N := σ.2.2.1 902 0 0) rfl (by omega) (by omega) dL_isBegun_278 (fun H locs hW hS => ?_)
            have hG : PW D cI cZ cO vdom L (wB σ 902 0 27 (nI v17)) (vim L) H := hW.g
            refine lv_aload hx hb dL_isBegun_279 (lv_at hl 8 rfl) ?_
            refine lv_bipush (v := nI 9) hx hb dL_isBegun_281 (by decide) ?_
            refine lv_iload hx hb dL_isBegun_283 (lv_at hl 0 rfl) ?_
            refine r_mulN hx hb dL_isBegun_285 ?_
            refine r_cutV (P := fun H => Vd D cI cZ cO t0 z0 x9 L κ (wB σ 902 0 27 (nI v17)) H) 310 [.int (nI (if 3 < v17 then 0 else v17)), .int (nI 27), .ref (L 902 0)] hW hS (fun H locs hW hS => ?_) (fun J_310 => ?_)
            · have hW : Vd D cI cZ cO t0 z0 x9 L κ (wB σ 902 0 27 (nI v17)) H := hW
              have hG : PW D cI cZ cO vdom L (wB σ 902 0 27 (nI v17)) (vim L) H := hW.g
              obtain ⟨kd, hkd, bkd⟩ : ∃ kd, kd = (if 3 < v17 then 0 else v17) ∧ kd < 4 := ⟨_, rfl, by split <;> omega⟩
              refine r_top (y := nI kd) (congrArg nI hkd.symm) ?_
              refine vs_8 X hK hW hS 902 fa_902 (vd_1 (by decide)) (i := 27) (N := σ.2.2.1 902 0 0) rfl (by omega) (by omega) dL_isBegun_310 (fun H locs hW hS => ?_)
              have hG : PW D cI cZ cO vdom L (wB (wB σ 902 0 27 (nI v17)) 902 0 27 (nI kd)) (vim L) H := hW.g
              refine lv_aload hx hb dL_isBegun_311 (lv_at hl 8 rfl) ?_
              refine lv_bipush (v := nI 9) hx hb dL_isBegun_313 (by decide) ?_
              refine lv_iload hx hb dL_isBegun_315 (lv_at hl 0 rfl) ?_
              refine r_mulN hx hb dL_isBegun_317 ?_
              refine lv_iconst (v := nI 1) hx hb dL_isBegun_318 (by decide) ?_
              refine r_addN hx hb dL_isBegun_319 ?_
              refine lv_iconst (v := nI 1) hx hb dL_isBegun_320 (by decide) ?_
              refine lv_aload_n hx hb dL_isBegun_321 rfl (lv_at hl 4 rfl) ?_
              refine lv_sipush (v := nI 314) hx hb dL_isBegun_322 (by decide) ?_
              refine lv_iload hx hb dL_isBegun_325 (lv_at hl 0 rfl) ?_
              refine r_addN hx hb dL_isBegun_327 ?_
              refine lv_bipush (v := nI 40) hx hb dL_isBegun_328 (by decide) ?_
              refine vs_call X hK hE hX hXs hbz hz (P := Vd D cI cZ cO t0 z0 x9 L κ (wB (wB σ 902 0 27 (nI v17)) 902 0 27 (nI kd))) (P' := Vd D cI cZ cO t0 z0 x9 L κ (wB (wB σ 902 0 27 (nI v17)) 902 0 27 (nI kd))) (hW) hS ysL_from ml_L_149 [.ref b, .int (nI 317), .int (nI 40)] [.int (nI 1), .int (nI 28), .ref (L 902 0)] (v_L_from (D := D) (cI := cI) (cZ := cZ) (cO := cO) (t0 := t0) (mi := mi) (z0 := z0) (x9 := x9) (L := L) (b := b) l N 317 40 xs (Vd D cI cZ cO t0 z0 x9 L κ (wB (wB σ 902 0 27 (nI v17)) 902 0 27 (nI kd))) hbz hN (by omega) (by omega) (by omega)) rfl hl.1 rfl (Nat.le_of_ble_eq_true rfl) ⟨Nat.le_of_ble_eq_true rfl, Nat.le_of_ble_eq_true rfl⟩ ⟨Nat.le_of_ble_eq_true rfl, Nat.le_of_ble_eq_true rfl⟩ dL_isBegun_330 (fun H locs hP hS => ?_)
              have hW : Vd D cI cZ cO t0 z0 x9 L κ (wB (wB σ 902 0 27 (nI v17)) 902 0 27 (nI kd)) H := hP
              have hG : PW D cI cZ cO vdom L (wB (wB σ 902 0 27 (nI v17)) 902 0 27 (nI kd)) (vim L) H := hW.g
              obtain ⟨v18, hv18, bv18⟩ : ∃ v, v = h_from xs N 317 40 ∧ v < 40 := ⟨_, rfl, from_lt (by decide)⟩
              refine r_top (y := nI v18) (congrArg nI hv18.symm) ?_
              refine r_addN hx hb dL_isBegun_333 ?_
              refine vs_8 X hK hW hS 902 fa_902 (vd_1 (by decide)) (i := 28) (N := σ.2.2.1 902 0 0) rfl (by omega) (by omega) dL_isBegun_334 (fun H locs hW hS => ?_)
              have hG : PW D cI cZ cO vdom L (wB (wB (wB σ 902 0 27 (nI v17)) 902 0 27 (nI kd)) 902 0 28 (nI (1 + v18))) (vim L) H := hW.g
              refine lv_aload hx hb dL_isBegun_335 (lv_at hl 8 rfl) ?_
              refine lv_bipush (v := nI 9) hx hb dL_isBegun_337 (by decide) ?_
              refine lv_iload hx hb dL_isBegun_339 (lv_at hl 0 rfl) ?_
              refine r_mulN hx hb dL_isBegun_341 ?_
              refine lv_iconst (v := nI 4) hx hb dL_isBegun_342 (by decide) ?_
              refine r_addN hx hb dL_isBegun_343 ?_
              refine lv_iconst (v := nI 1) hx hb dL_isBegun_344 (by decide) ?_
              refine vs_8 X hK hW hS 902 fa_902 (vd_1 (by decide)) (i := 31) (N := σ.2.2.1 902 0 0) rfl (by omega) (by omega) dL_isBegun_345 (fun H locs hW hS => ?_)
              have hG : PW D cI cZ cO vdom L (wB (wB (wB (wB σ 902 0 27 (nI v17)) 902 0 27 (nI kd)) 902 0 28 (nI (1 + v18))) 902 0 31 (nI 1)) (vim L) H := hW.g
              refine lv_aload_n hx hb dL_isBegun_346 rfl (lv_at hl 3 rfl) ?_
              refine lv_aload hx hb dL_isBegun_347 (lv_at hl 8 rfl) ?_
              refine lv_bipush (v := nI 9) hx hb dL_isBegun_349 (by decide) ?_
              refine lv_iload hx hb dL_isBegun_351 (lv_at hl 0 rfl) ?_
              refine r_mulN hx hb dL_isBegun_353 ?_
              refine pw_ald8 X hK hG 902 fa_902 (vd_1 (by decide)) (i := 27) (N := σ.2.2.1 902 0 0) (x := nI kd) rfl (by omega) (by omega) rfl dL_isBegun_354 ?_
              refine lv_aload hx hb dL_isBegun_355 (lv_at hl 8 rfl) ?_
              refine lv_bipush (v := nI 9) hx hb dL_isBegun_357 (by decide) ?_
              refine lv_iload hx hb dL_isBegun_359 (lv_at hl 0 rfl) ?_
              refine r_mulN hx hb dL_isBegun_361 ?_
              refine lv_iconst (v := nI 1) hx hb dL_isBegun_362 (by decide) ?_
              refine r_addN hx hb dL_isBegun_363 ?_
              refine pw_ald8 X hK hG 902 fa_902 (vd_1 (by decide)) (i := 28) (N := σ.2.2.1 902 0 0) (x := nI (1 + v18)) rfl (by omega) (by omega) rfl dL_isBegun_364 ?_
              refine v_oq X hK hE hX hW hS yvX8_tool ml_L_160 [.int (nI kd), .int (nI (1 + v18))] [] (Q_tool hl9 hR (T := 3) (kd := kd) (v := (1 + v18)) hJ.2.2.2.2.2.1 (by decide) (by omega) (by omega) (by omega)) rfl hl.1 rfl (Nat.le_of_ble_eq_true rfl) ⟨Nat.le_of_ble_eq_true rfl, Nat.le_of_ble_eq_true rfl⟩ ⟨Nat.le_of_ble_eq_true rfl, Nat.le_of_ble_eq_true rfl⟩ dL_isBegun_365 (fun κ τ H locs hW hR hJ hS => ?_)
              have hG : PW D cI cZ cO vdom L (wB (wB (wB (wB σ 902 0 27 (nI v17)) 902 0 27 (nI kd)) 902 0 28 (nI (1 + v18))) 902 0 31 (nI 1)) (vim L) H := hW.g
              have hP1 := hJ
              refine lv_iload hx hb dL_isBegun_368 (lv_at hl 0 rfl) ?_
              refine r_icmp_neN (tgt := 391) hx hb dL_isBegun_370 (by decide) (by omega) (by omega) (fun c_370_4 => absurd c_370_4 (by decide)) (fun c_370_4 => ?_)
              refine lv_aload_n hx hb dL_isBegun_373 rfl (lv_at hl 3 rfl) ?_
              refine lv_iload hx hb dL_isBegun_374 (lv_at hl 0 rfl) ?_
              refine lv_iconst (v := nI 1) hx hb dL_isBegun_376 (by decide) ?_
              refine v_oq X hK hE hX hW hS yvX8_load ml_L_124 [.int (nI 3), .int (nI 1)] [] (Q_loadB hl9 hR (T := 3) hP1.2.1 (by decide) (fun j hj => by rw [hP1.1.2.2.2 911 (by decide)]; exact (hB.2.2.2.2.2.2.1 j hj).2.2.2.1)) rfl hl.1 rfl (Nat.le_of_ble_eq_true rfl) ⟨Nat.le_of_ble_eq_true rfl, Nat.le_of_ble_eq_true rfl⟩ ⟨Nat.le_of_ble_eq_true rfl, Nat.le_of_ble_eq_true rfl⟩ dL_isBegun_377 (fun κ τ H locs hW hR hJ hS => ?_)
              have hG : PW D cI cZ cO vdom L (wB (wB (wB (wB σ 902 0 27 (nI v17)) 902 0 27 (nI kd)) 902 0 28 (nI (1 + v18))) 902 0 31 (nI 1)) (vim L) H := hW.g
              have hJ : BJ 2 4 (wB (wB (wB (wB σ 902 0 27 (nI v17)) 902 0 27 (nI kd)) 902 0 28 (nI (1 + v18))) 902 0 31 (nI 1)) τ := hB.tool hP1 hJ (by omega) rfl (fun F z => by rw [wB_o z, wB_o z, wB_o z, wB_o z]) (fun i => by show (wB (wB (wB (wB σ 902 0 27 (nI v17)) 902 0 27 (nI kd)) 902 0 28 (nI (1 + v18))) 902 0 31 (nI 1)).2.2.2 902 0 i = if i = 31 then nI 1 else if i = 28 then nI ((1 + v18)) else if i = 27 then nI kd else σ.2.2.2 902 0 i; rw [wB_3, wB_3, wB_3, wB_3, up1_app, up1_app, up1_app, up1_app]; by_cases z4 : i = 31; (simp only [if_pos z4]); by_cases z1 : i = 28; (simp only [if_neg z4, if_pos z1]); by_cases z0 : i = 27; (simp only [if_neg z4, if_neg z1, if_pos z0]); simp only [if_neg z4, if_neg z1, if_neg z0])
              refine lv_iload hx hb dL_isBegun_380 (lv_at hl 0 rfl) ?_
              refine lv_iconst (v := nI 1) hx hb dL_isBegun_382 (by decide) ?_
              refine r_addN hx hb dL_isBegun_383 ?_
              refine r_icmp_neN (tgt := 391) hx hb dL_isBegun_384 (by decide) (by omega) (by omega) (fun c_384_4 => absurd c_384_4 (by decide)) (fun c_384_4 => ?_)
              refine lv_iconst (v := nI 1) hx hb dL_isBegun_387 (by decide) ?_
              refine lv_goto (tgt := 392) hx hb dL_isBegun_388 (by decide) ?_
              refine lv_istore (lv' := [(8, .int (nI 1)), (9, .int (nI 3)), (11, .int (nI 22)), (0, .ref x9), (1, .ref b), (2, .ref (L 900 0)), (3, .ref (L 900 1)), (4, .ref (L 901 0)), (5, .ref (L 902 0)), (6, .ref (L 903 0)), (7, .ref (L 905 0)), (10, .int (nI (3 + v6)))]) hx hb dL_isBegun_392 hl (by decide) rfl (fun ls hl => ?_)
              refine r_iincN (b := 1) (lv' := [(9, .int (nI 4)), (8, .int (nI 1)), (11, .int (nI 22)), (0, .ref x9), (1, .ref b), (2, .ref (L 900 0)), (3, .ref (L 900 1)), (4, .ref (L 901 0)), (5, .ref (L 902 0)), (6, .ref (L 903 0)), (7, .ref (L 905 0)), (10, .int (nI (3 + v6)))]) hx hb dL_isBegun_394 hl (k := 1) rfl (by decide) (by decide) rfl (fun ls hl => ?_)
              refine lv_goto (tgt := 246) hx hb dL_isBegun_397 (by decide) ?_
              obtain ⟨κ, σ, τ, hW, hR, hJ⟩ : ∃ κ σ τ, Vd D cI cZ cO t0 z0 x9 L κ σ H ∧ Rl wr0 κ τ ∧ BJ 2 4 σ τ := ⟨κ, _, τ, hW, hR, hJ⟩
              have hN2 : σ.2.2.1 902 0 0 = 36 := hJ.1.1
              have hN3 : σ.2.2.1 903 0 0 = 37 := hJ.1.2.1
              have hN5 : σ.2.2.1 905 0 0 = 11 := hJ.1.2.2
              have hB := hJ
              have hG : PW D cI cZ cO vdom L σ (vim L) H := hW.g
              refine lv_iload hx hb dL_isBegun_246 (lv_at hl 0 rfl) ?_
              refine lv_iconst (v := nI 4) hx hb dL_isBegun_248 (by decide) ?_
              refine r_icmp_geN (tgt := 400) hx hb dL_isBegun_249 (by decide) (by omega) (by omega) (fun c_249_5 => ?_) (fun c_249_5 => absurd c_249_5 (by decide))
              refine lv_iconst (v := nI 0) hx hb dL_isBegun_400 (by decide) ?_
              refine lv_istore (lv' := [(9, .int (nI 0)), (8, .int (nI 1)), (11, .int (nI 22)), (0, .ref x9), (1, .ref b), (2, .ref (L 900 0)), (3, .ref (L 900 1)), (4, .ref (L 901 0)), (5, .ref (L 902 0)), (6, .ref (L 903 0)), (7, .ref (L 905 0)), (10, .int (nI (3 + v6)))]) hx hb dL_isBegun_401 hl (by decide) rfl (fun ls hl => ?_)
              obtain ⟨κ, σ, τ, hW, hR, hJ⟩ : ∃ κ σ τ, Vd D cI cZ cO t0 z0 x9 L κ σ H ∧ Rl wr0 κ τ ∧ BJ 2 4 σ τ := ⟨κ, _, τ, hW, hR, hJ⟩
              have a36_0 : σ.2.2.2 901 0 (36 + 0) = nI 0 := hJ.2.2.1.2.2 _
              have a36_1 : σ.2.2.2 901 0 (36 + 1) = nI 0 := hJ.2.2.1.2.2 _
              have a36_2 : σ.2.2.2 901 0 (36 + 2) = nI 0 := hJ.2.2.1.2.2 _
              have h10 : σ.2.2.2 905 0 10 = 0 := hJ.2.2.2.1.2.2.2.2 10 (by decide) (by decide)
              have hJ : JX 0 0 σ τ := hJ.jx
              have hG : PW D cI cZ cO vdom L σ (vim L) H := hW.g
              refine lv_iload hx hb dL_isBegun_403 (lv_at hl 0 rfl) ?_
              refine lv_iconst (v := nI 3) hx hb dL_isBegun_405 (by decide) ?_
              refine r_icmp_geN (tgt := 459) hx hb dL_isBegun_406 (by decide) (by omega) (by omega) (fun c_406 => absurd c_406 (by decide)) (fun c_406 => ?_)
              refine lv_iload hx hb dL_isBegun_409 (lv_at hl 1 rfl) ?_
              refine r_if_eqN (tgt := 459) hx hb dL_isBegun_411 (by decide) (by omega) (fun c_411 => absurd c_411 (by decide)) (fun c_411 => ?_)
              refine lv_aload_n hx hb dL_isBegun_414 rfl (lv_at hl 3 rfl) ?_
              have hJ9 := hJ
              refine v_oq X hK hE hX hW hS yvX8_program ml_L_163 [] [] (Q_program hl9 hR (n := 0) hJ.2.1.2.1 (by decide)) rfl hl.1 rfl (Nat.le_of_ble_eq_true rfl) ⟨Nat.le_of_ble_eq_true rfl, Nat.le_of_ble_eq_true rfl⟩ ⟨Nat.le_of_ble_eq_true rfl, Nat.le_of_ble_eq_true rfl⟩ dL_isBegun_415 (fun κ τ H locs hW hR hJ hS => ?_)
              have hG : PW D cI cZ cO vdom L σ (vim L) H := hW.g
              have hJ : JX 0 1 σ τ := hJ9.prog hJ
              refine lv_iload hx hb dL_isBegun_418 (lv_at hl 0 rfl) ?_
              refine r_icmp_neN (tgt := 450) hx hb dL_isBegun_420 (by decide) (by omega) (by omega) (fun c_420 => absurd c_420 (by decide)) (fun c_420 => ?_)
              refine lv_aload_n hx hb dL_isBegun_423 rfl (lv_at hl 3 rfl) ?_
              refine lv_aload hx hb dL_isBegun_424 (lv_at hl 7 rfl) ?_
              refine lv_iload hx hb dL_isBegun_426 (lv_at hl 0 rfl) ?_
              refine lv_aload_n hx hb dL_isBegun_428 rfl (lv_at hl 4 rfl) ?_
              refine lv_sipush (v := nI 320) hx hb dL_isBegun_429 (by decide) ?_
              refine lv_iload hx hb dL_isBegun_432 (lv_at hl 0 rfl) ?_
              refine r_addN hx hb dL_isBegun_434 ?_
              refine lv_ldc (v := 1000000000) hx hb X.2.2.2.1 (X.2.2.2.2 _ tw_3_98) dL_isBegun_435 ?_
              refine r_top (y := nI 1000000000) (by decide) ?_
              refine vs_call X hK hE hX hXs hbz hz (P := Vd D cI cZ cO t0 z0 x9 L κ σ) (P' := Vd D cI cZ cO t0 z0 x9 L κ σ) (hW) hS ysL_from ml_L_149 [.ref b, .int (nI 320), .int (nI 1000000000)] [.int (nI 0), .ref (L 901 0), .ref x9] (v_L_from (D := D) (cI := cI) (cZ := cZ) (cO := cO) (t0 := t0) (mi := mi) (z0 := z0) (x9 := x9) (L := L) (b := b) l N 320 1000000000 xs (Vd D cI cZ cO t0 z0 x9 L κ σ) hbz hN (by omega) (by omega) (by omega)) rfl hl.1 rfl (Nat.le_of_ble_eq_true rfl) ⟨Nat.le_of_ble_eq_true rfl, Nat.le_of_ble_eq_true rfl⟩ ⟨Nat.le_of_ble_eq_true rfl, Nat.le_of_ble_eq_true rfl⟩ dL_isBegun_437 (fun H locs hP hS => ?_)
              have hW : Vd D cI cZ cO t0 z0 x9 L κ σ H := hP
              have hG : PW D cI cZ cO vdom L σ (vim L) H := hW.g
              obtain ⟨v19, hv19, bv19⟩ : ∃ v, v = h_from xs N 320 1000000000 ∧ v < 1000000000 := ⟨_, rfl, from_lt (by decide)⟩
              refine r_top (y := nI v19) (congrArg nI hv19.symm) ?_
              refine vi_call X hK hE hX (P := VB9 D cI cZ cO t0 z0 x9 L 0 (0 + 1) σ) (P' := VPg D cI cZ cO t0 z0 x9 L 0 σ) (⟨κ, τ, hW, hR, hJ⟩) (hW.choose_spec.choose_spec.2.2.2.2.2) hS ysL_isProgram ml_L_167 [.ref x9, .ref (L 901 0), .int (nI 0), .int (nI v19)] [] (v_L_isProgram (D := D) (cI := cI) (cZ := cZ) (cO := cO) (t0 := t0) (mi := mi) (z0 := z0) (x9 := x9) (L := L) l hl9 0 v19 σ (by decide) (by omega) a36_0 h10) rfl hl.1 rfl (Nat.le_of_ble_eq_true rfl) ⟨Nat.le_of_ble_eq_true rfl, Nat.le_of_ble_eq_true rfl⟩ ⟨Nat.le_of_ble_eq_true rfl, Nat.le_of_ble_eq_true rfl⟩ dL_isBegun_440 (fun H locs hP hS => ?_)
              obtain ⟨Y1, ⟨κ, τ, hW, hR, hJ⟩, e905, gi_0, eo⟩ := hP
              have h10 : Y1.2.2.2 905 0 10 = 0 := by rw [e905]; exact h10
              have a36_1 : Y1.2.2.2 901 0 (36 + 1) = nI 0 := (eo (36 + 1) (by omega) (by omega)).trans a36_1
              have a36_2 : Y1.2.2.2 901 0 (36 + 2) = nI 0 := (eo (36 + 2) (by omega) (by omega)).trans a36_2
              have hG : PW D cI cZ cO vdom L Y1 (vim L) H := hW.g
              refine r_if_eqN (tgt := 450) hx hb dL_isBegun_443 (by decide) (by omega) (fun c_443 => absurd c_443 (by decide)) (fun c_443 => ?_)
              refine lv_iconst (v := nI 1) hx hb dL_isBegun_446 (by decide) ?_
              refine lv_goto (tgt := 451) hx hb dL_isBegun_447 (by decide) ?_
              refine lv_istore (lv' := [(8, .int (nI 1)), (9, .int (nI 0)), (11, .int (nI 22)), (0, .ref x9), (1, .ref b), (2, .ref (L 900 0)), (3, .ref (L 900 1)), (4, .ref (L 901 0)), (5, .ref (L 902 0)), (6, .ref (L 903 0)), (7, .ref (L 905 0)), (10, .int (nI (3 + v6)))]) hx hb dL_isBegun_451 hl (by decide) rfl (fun ls hl => ?_)
              refine r_iincN (b := 1) (lv' := [(9, .int (nI 1)), (8, .int (nI 1)), (11, .int (nI 22)), (0, .ref x9), (1, .ref b), (2, .ref (L 900 0)), (3, .ref (L 900 1)), (4, .ref (L 901 0)), (5, .ref (L 902 0)), (6, .ref (L 903 0)), (7, .ref (L 905 0)), (10, .int (nI (3 + v6)))]) hx hb dL_isBegun_453 hl (k := 1) rfl (by decide) (by decide) rfl (fun ls hl => ?_)
              refine lv_goto (tgt := 403) hx hb dL_isBegun_456 (by decide) ?_
              refine lv_iload hx hb dL_isBegun_403 (lv_at hl 0 rfl) ?_
              refine lv_iconst (v := nI 3) hx hb dL_isBegun_405 (by decide) ?_
              refine r_icmp_geN (tgt := 459) hx hb dL_isBegun_406 (by decide) (by omega) (by omega) (fun c_406_2 => absurd c_406_2 (by decide)) (fun c_406_2 => ?_)
              refine lv_iload hx hb dL_isBegun_409 (lv_at hl 1 rfl) ?_
              refine r_if_eqN (tgt := 459) hx hb dL_isBegun_411 (by decide) (by omega) (fun c_411_2 => absurd c_411_2 (by decide)) (fun c_411_2 => ?_)
              refine lv_aload_n hx hb dL_isBegun_414 rfl (lv_at hl 3 rfl) ?_
              have hJ9 := hJ
              refine v_oq X hK hE hX hW hS yvX8_program ml_L_163 [] [] (Q_program hl9 hR (n := 1) hJ.2.1.2.1 (by decide)) rfl hl.1 rfl (Nat.le_of_ble_eq_true rfl) ⟨Nat.le_of_ble_eq_true rfl, Nat.le_of_ble_eq_true rfl⟩ ⟨Nat.le_of_ble_eq_true rfl, Nat.le_of_ble_eq_true rfl⟩ dL_isBegun_415 (fun κ τ H locs hW hR hJ hS => ?_)
              have hG : PW D cI cZ cO vdom L Y1 (vim L) H := hW.g
              have hJ : JX 0 2 Y1 τ := hJ9.prog hJ
              refine lv_iload hx hb dL_isBegun_418 (lv_at hl 0 rfl) ?_
              refine r_icmp_neN (tgt := 450) hx hb dL_isBegun_420 (by decide) (by omega) (by omega) (fun c_420_2 => absurd c_420_2 (by decide)) (fun c_420_2 => ?_)
              refine lv_aload_n hx hb dL_isBegun_423 rfl (lv_at hl 3 rfl) ?_
              refine lv_aload hx hb dL_isBegun_424 (lv_at hl 7 rfl) ?_
              refine lv_iload hx hb dL_isBegun_426 (lv_at hl 0 rfl) ?_
              refine lv_aload_n hx hb dL_isBegun_428 rfl (lv_at hl 4 rfl) ?_
              refine lv_sipush (v := nI 320) hx hb dL_isBegun_429 (by decide) ?_
              refine lv_iload hx hb dL_isBegun_432 (lv_at hl 0 rfl) ?_
              refine r_addN hx hb dL_isBegun_434 ?_
              refine lv_ldc (v := 1000000000) hx hb X.2.2.2.1 (X.2.2.2.2 _ tw_3_98) dL_isBegun_435 ?_
              refine r_top (y := nI 1000000000) (by decide) ?_
              refine vs_call X hK hE hX hXs hbz hz (P := Vd D cI cZ cO t0 z0 x9 L κ Y1) (P' := Vd D cI cZ cO t0 z0 x9 L κ Y1) (hW) hS ysL_from ml_L_149 [.ref b, .int (nI 321), .int (nI 1000000000)] [.int (nI 1), .ref (L 901 0), .ref x9] (v_L_from (D := D) (cI := cI) (cZ := cZ) (cO := cO) (t0 := t0) (mi := mi) (z0 := z0) (x9 := x9) (L := L) (b := b) l N 321 1000000000 xs (Vd D cI cZ cO t0 z0 x9 L κ Y1) hbz hN (by omega) (by omega) (by omega)) rfl hl.1 rfl (Nat.le_of_ble_eq_true rfl) ⟨Nat.le_of_ble_eq_true rfl, Nat.le_of_ble_eq_true rfl⟩ ⟨Nat.le_of_ble_eq_true rfl, Nat.le_of_ble_eq_true rfl⟩ dL_isBegun_437 (fun H locs hP hS => ?_)
              have hW : Vd D cI cZ cO t0 z0 x9 L κ Y1 H := hP
              have hG : PW D cI cZ cO vdom L Y1 (vim L) H := hW.g
              obtain ⟨v20, hv20, bv20⟩ : ∃ v, v = h_from xs N 321 1000000000 ∧ v < 1000000000 := ⟨_, rfl, from_lt (by decide)⟩
              refine r_top (y := nI v20) (congrArg nI hv20.symm) ?_
              refine vi_call X hK hE hX (P := VB9 D cI cZ cO t0 z0 x9 L 0 (1 + 1) Y1) (P' := VPg D cI cZ cO t0 z0 x9 L 1 Y1) (⟨κ, τ, hW, hR, hJ⟩) (hW.choose_spec.choose_spec.2.2.2.2.2) hS ysL_isProgram ml_L_167 [.ref x9, .ref (L 901 0), .int (nI 1), .int (nI v20)] [] (v_L_isProgram (D := D) (cI := cI) (cZ := cZ) (cO := cO) (t0 := t0) (mi := mi) (z0 := z0) (x9 := x9) (L := L) l hl9 1 v20 Y1 (by decide) (by omega) a36_1 h10) rfl hl.1 rfl (Nat.le_of_ble_eq_true rfl) ⟨Nat.le_of_ble_eq_true rfl, Nat.le_of_ble_eq_true rfl⟩ ⟨Nat.le_of_ble_eq_true rfl, Nat.le_of_ble_eq_true rfl⟩ dL_isBegun_440 (fun H locs hP hS => ?_)
              obtain ⟨Y2, ⟨κ, τ, hW, hR, hJ⟩, e905, gi_1, eo⟩ := hP
              have h10 : Y2.2.2.2 905 0 10 = 0 := by rw [e905]; exact h10
              have gi_0 := GIp.eq gi_0 (by decide) (eo _ (by omega) (by omega)) (fun j hj => eo _ (by omega) (by omega))
              have a36_2 : Y2.2.2.2 901 0 (36 + 2) = nI 0 := (eo (36 + 2) (by omega) (by omega)).trans a36_2
              have hG : PW D cI cZ cO vdom L Y2 (vim L) H := hW.g
              refine r_if_eqN (tgt := 450) hx hb dL_isBegun_443 (by decide) (by omega) (fun c_443_2 => absurd c_443_2 (by decide)) (fun c_443_2 => ?_)
              refine lv_iconst (v := nI 1) hx hb dL_isBegun_446 (by decide) ?_
              refine lv_goto (tgt := 451) hx hb dL_isBegun_447 (by decide) ?_
              refine lv_istore (lv' := [(8, .int (nI 1)), (9, .int (nI 1)), (11, .int (nI 22)), (0, .ref x9), (1, .ref b), (2, .ref (L 900 0)), (3, .ref (L 900 1)), (4, .ref (L 901 0)), (5, .ref (L 902 0)), (6, .ref (L 903 0)), (7, .ref (L 905 0)), (10, .int (nI (3 + v6)))]) hx hb dL_isBegun_451 hl (by decide) rfl (fun ls hl => ?_)
              refine r_iincN (b := 1) (lv' := [(9, .int (nI 2)), (8, .int (nI 1)), (11, .int (nI 22)), (0, .ref x9), (1, .ref b), (2, .ref (L 900 0)), (3, .ref (L 900 1)), (4, .ref (L 901 0)), (5, .ref (L 902 0)), (6, .ref (L 903 0)), (7, .ref (L 905 0)), (10, .int (nI (3 + v6)))]) hx hb dL_isBegun_453 hl (k := 1) rfl (by decide) (by decide) rfl (fun ls hl => ?_)
              refine lv_goto (tgt := 403) hx hb dL_isBegun_456 (by decide) ?_
              refine lv_iload hx hb dL_isBegun_403 (lv_at hl 0 rfl) ?_
              refine lv_iconst (v := nI 3) hx hb dL_isBegun_405 (by decide) ?_
              refine r_icmp_geN (tgt := 459) hx hb dL_isBegun_406 (by decide) (by omega) (by omega) (fun c_406_3 => absurd c_406_3 (by decide)) (fun c_406_3 => ?_)
              refine lv_iload hx hb dL_isBegun_409 (lv_at hl 1 rfl) ?_
              refine r_if_eqN (tgt := 459) hx hb dL_isBegun_411 (by decide) (by omega) (fun c_411_3 => absurd c_411_3 (by decide)) (fun c_411_3 => ?_)
              refine lv_aload_n hx hb dL_isBegun_414 rfl (lv_at hl 3 rfl) ?_
              have hJ9 := hJ
              refine v_oq X hK hE hX hW hS yvX8_program ml_L_163 [] [] (Q_program hl9 hR (n := 2) hJ.2.1.2.1 (by decide)) rfl hl.1 rfl (Nat.le_of_ble_eq_true rfl) ⟨Nat.le_of_ble_eq_true rfl, Nat.le_of_ble_eq_true rfl⟩ ⟨Nat.le_of_ble_eq_true rfl, Nat.le_of_ble_eq_true rfl⟩ dL_isBegun_415 (fun κ τ H locs hW hR hJ hS => ?_)
              have hG : PW D cI cZ cO vdom L Y2 (vim L) H := hW.g
              have hJ : JX 0 3 Y2 τ := hJ9.prog hJ
              refine lv_iload hx hb dL_isBegun_418 (lv_at hl 0 rfl) ?_
              refine r_icmp_neN (tgt := 450) hx hb dL_isBegun_420 (by decide) (by omega) (by omega) (fun c_420_3 => absurd c_420_3 (by decide)) (fun c_420_3 => ?_)
              refine lv_aload_n hx hb dL_isBegun_423 rfl (lv_at hl 3 rfl) ?_
              refine lv_aload hx hb dL_isBegun_424 (lv_at hl 7 rfl) ?_
              refine lv_iload hx hb dL_isBegun_426 (lv_at hl 0 rfl) ?_
              refine lv_aload_n hx hb dL_isBegun_428 rfl (lv_at hl 4 rfl) ?_
              refine lv_sipush (v := nI 320) hx hb dL_isBegun_429 (by decide) ?_
              refine lv_iload hx hb dL_isBegun_432 (lv_at hl 0 rfl) ?_
              refine r_addN hx hb dL_isBegun_434 ?_
              refine lv_ldc (v := 1000000000) hx hb X.2.2.2.1 (X.2.2.2.2 _ tw_3_98) dL_isBegun_435 ?_
              refine r_top (y := nI 1000000000) (by decide) ?_
              refine vs_call X hK hE hX hXs hbz hz (P := Vd D cI cZ cO t0 z0 x9 L κ Y2) (P' := Vd D cI cZ cO t0 z0 x9 L κ Y2) (hW) hS ysL_from ml_L_149 [.ref b, .int (nI 322), .int (nI 1000000000)] [.int (nI 2), .ref (L 901 0), .ref x9] (v_L_from (D := D) (cI := cI) (cZ := cZ) (cO := cO) (t0 := t0) (mi := mi) (z0 := z0) (x9 := x9) (L := L) (b := b) l N 322 1000000000 xs (Vd D cI cZ cO t0 z0 x9 L κ Y2) hbz hN (by omega) (by omega) (by omega)) rfl hl.1 rfl (Nat.le_of_ble_eq_true rfl) ⟨Nat.le_of_ble_eq_true rfl, Nat.le_of_ble_eq_true rfl⟩ ⟨Nat.le_of_ble_eq_true rfl, Nat.le_of_ble_eq_true rfl⟩ dL_isBegun_437 (fun H locs hP hS => ?_)
              have hW : Vd D cI cZ cO t0 z0 x9 L κ Y2 H := hP
              have hG : PW D cI cZ cO vdom L Y2 (vim L) H := hW.g
              obtain ⟨v21, hv21, bv21⟩ : ∃ v, v = h_from xs N 322 1000000000 ∧ v < 1000000000 := ⟨_, rfl, from_lt (by decide)⟩
              refine r_top (y := nI v21) (congrArg nI hv21.symm) ?_
              refine vi_call X hK hE hX (P := VB9 D cI cZ cO t0 z0 x9 L 0 (2 + 1) Y2) (P' := VPg D cI cZ cO t0 z0 x9 L 2 Y2) (⟨κ, τ, hW, hR, hJ⟩) (hW.choose_spec.choose_spec.2.2.2.2.2) hS ysL_isProgram ml_L_167 [.ref x9, .ref (L 901 0), .int (nI 2), .int (nI v21)] [] (v_L_isProgram (D := D) (cI := cI) (cZ := cZ) (cO := cO) (t0 := t0) (mi := mi) (z0 := z0) (x9 := x9) (L := L) l hl9 2 v21 Y2 (by decide) (by omega) a36_2 h10) rfl hl.1 rfl (Nat.le_of_ble_eq_true rfl) ⟨Nat.le_of_ble_eq_true rfl, Nat.le_of_ble_eq_true rfl⟩ ⟨Nat.le_of_ble_eq_true rfl, Nat.le_of_ble_eq_true rfl⟩ dL_isBegun_440 (fun H locs hP hS => ?_)
              obtain ⟨Y3, ⟨κ, τ, hW, hR, hJ⟩, e905, gi_2, eo⟩ := hP
              have h10 : Y3.2.2.2 905 0 10 = 0 := by rw [e905]; exact h10
              have gi_0 := GIp.eq gi_0 (by decide) (eo _ (by omega) (by omega)) (fun j hj => eo _ (by omega) (by omega))
              have gi_1 := GIp.eq gi_1 (by decide) (eo _ (by omega) (by omega)) (fun j hj => eo _ (by omega) (by omega))
              have hG : PW D cI cZ cO vdom L Y3 (vim L) H := hW.g
              refine r_if_eqN (tgt := 450) hx hb dL_isBegun_443 (by decide) (by omega) (fun c_443_3 => absurd c_443_3 (by decide)) (fun c_443_3 => ?_)
              refine lv_iconst (v := nI 1) hx hb dL_isBegun_446 (by decide) ?_
              refine lv_goto (tgt := 451) hx hb dL_isBegun_447 (by decide) ?_
              refine lv_istore (lv' := [(8, .int (nI 1)), (9, .int (nI 2)), (11, .int (nI 22)), (0, .ref x9), (1, .ref b), (2, .ref (L 900 0)), (3, .ref (L 900 1)), (4, .ref (L 901 0)), (5, .ref (L 902 0)), (6, .ref (L 903 0)), (7, .ref (L 905 0)), (10, .int (nI (3 + v6)))]) hx hb dL_isBegun_451 hl (by decide) rfl (fun ls hl => ?_)
              refine r_iincN (b := 1) (lv' := [(9, .int (nI 3)), (8, .int (nI 1)), (11, .int (nI 22)), (0, .ref x9), (1, .ref b), (2, .ref (L 900 0)), (3, .ref (L 900 1)), (4, .ref (L 901 0)), (5, .ref (L 902 0)), (6, .ref (L 903 0)), (7, .ref (L 905 0)), (10, .int (nI (3 + v6)))]) hx hb dL_isBegun_453 hl (k := 1) rfl (by decide) (by decide) rfl (fun ls hl => ?_)
              refine lv_goto (tgt := 403) hx hb dL_isBegun_456 (by decide) ?_
              refine lv_iload hx hb dL_isBegun_403 (lv_at hl 0 rfl) ?_
              refine lv_iconst (v := nI 3) hx hb dL_isBegun_405 (by decide) ?_
              refine r_icmp_geN (tgt := 459) hx hb dL_isBegun_406 (by decide) (by omega) (by omega) (fun c_406_4 => ?_) (fun c_406_4 => absurd c_406_4 (by decide))
              refine lv_iload hx hb dL_isBegun_459 (lv_at hl 1 rfl) ?_
              exact vi_ret X hr hlocks (⟨κ, Y3, τ, hW, hR, hJ.jj (GIp.all gi_0 gi_1 gi_2)⟩) hS (rfl) (Nat.le_of_ble_eq_true rfl) (Nat.le_of_ble_eq_true rfl) rfl dL_isBegun_461
            · refine lv_aload hx hb dL_isBegun_286 (lv_at hl 8 rfl) ?_
              refine lv_bipush (v := nI 9) hx hb dL_isBegun_288 (by decide) ?_
              refine lv_iload hx hb dL_isBegun_290 (lv_at hl 0 rfl) ?_
              refine r_mulN hx hb dL_isBegun_292 ?_
              refine pw_ald8 X hK hG 902 fa_902 (vd_1 (by decide)) (i := 27) (N := σ.2.2.1 902 0 0) (x := nI v17) rfl (by omega) (by omega) rfl dL_isBegun_293 ?_
              refine lv_iconst (v := nI 3) hx hb dL_isBegun_294 (by decide) ?_
              refine r_icmp_leN (tgt := 302) hx hb dL_isBegun_295 (by decide) (by omega) (by omega) (fun c_295 => ?_) (fun c_295 => ?_)
              · refine lv_aload hx hb dL_isBegun_302 (lv_at hl 8 rfl) ?_
                refine lv_bipush (v := nI 9) hx hb dL_isBegun_304 (by decide) ?_
                refine lv_iload hx hb dL_isBegun_306 (lv_at hl 0 rfl) ?_
                refine r_mulN hx hb dL_isBegun_308 ?_
                refine pw_ald8 X hK hG 902 fa_902 (vd_1 (by decide)) (i := 27) (N := σ.2.2.1 902 0 0) (x := nI v17) rfl (by omega) (by omega) rfl dL_isBegun_309 ?_
                exact r_top (congrArg nI (by split <;> omega)) (J_310 _ _ hW hS)
              · refine lv_iconst (v := nI 0) hx hb dL_isBegun_298 (by decide) ?_
                refine lv_goto (tgt := 310) hx hb dL_isBegun_299 (by decide) ?_
                exact r_top (congrArg nI (by split <;> omega)) (J_310 _ _ hW hS)
          · refine lv_aload hx hb dL_isBegun_286 (lv_at hl 8 rfl) ?_
            refine lv_bipush (v := nI 9) hx hb dL_isBegun_288 (by decide) ?_
            refine lv_iload hx hb dL_isBegun_290 (lv_at hl 0 rfl) ?_
            refine r_mulN hx hb dL_isBegun_292 ?_
            refine pw_ald8 X hK hG 902 fa_902 (vd_1 (by decide)) (i := 18) (N := σ.2.2.1 902 0 0) (x := nI v15) rfl (by omega) (by omega) rfl dL_isBegun_293 ?_
            refine lv_iconst (v := nI 3) hx hb dL_isBegun_294 (by decide) ?_
            refine r_icmp_leN (tgt := 302) hx hb dL_isBegun_295 (by decide) (by omega) (by omega) (fun c_295 => ?_) (fun c_295 => ?_)
            · refine lv_aload hx hb dL_isBegun_302 (lv_at hl 8 rfl) ?_
              refine lv_bipush (v := nI 9) hx hb dL_isBegun_304 (by decide) ?_
              refine lv_iload hx hb dL_isBegun_306 (lv_at hl 0 rfl) ?_
              refine r_mulN hx hb dL_isBegun_308 ?_
              refine pw_ald8 X hK hG 902 fa_902 (vd_1 (by decide)) (i := 18) (N := σ.2.2.1 902 0 0) (x := nI v15) rfl (by omega) (by omega) rfl dL_isBegun_309 ?_
              exact r_top (congrArg nI (by split <;> omega)) (J_310 _ _ hW hS)
            · refine lv_iconst (v := nI 0) hx hb dL_isBegun_298 (by decide) ?_
              refine lv_goto (tgt := 310) hx hb dL_isBegun_299 (by decide) ?_
              exact r_top (congrArg nI (by split <;> omega)) (J_310 _ _ hW hS)
        · refine lv_aload hx hb dL_isBegun_286 (lv_at hl 8 rfl) ?_
          refine lv_bipush (v := nI 9) hx hb dL_isBegun_288 (by decide) ?_
          refine lv_iload hx hb dL_isBegun_290 (lv_at hl 0 rfl) ?_
          refine r_mulN hx hb dL_isBegun_292 ?_
          refine pw_ald8 X hK hG 902 fa_902 (vd_1 (by decide)) (i := 9) (N := σ.2.2.1 902 0 0) (x := nI v13) rfl (by omega) (by omega) rfl dL_isBegun_293 ?_
          refine lv_iconst (v := nI 3) hx hb dL_isBegun_294 (by decide) ?_
          refine r_icmp_leN (tgt := 302) hx hb dL_isBegun_295 (by decide) (by omega) (by omega) (fun c_295 => ?_) (fun c_295 => ?_)
          · refine lv_aload hx hb dL_isBegun_302 (lv_at hl 8 rfl) ?_
            refine lv_bipush (v := nI 9) hx hb dL_isBegun_304 (by decide) ?_
            refine lv_iload hx hb dL_isBegun_306 (lv_at hl 0 rfl) ?_
            refine r_mulN hx hb dL_isBegun_308 ?_
            refine pw_ald8 X hK hG 902 fa_902 (vd_1 (by decide)) (i := 9) (N := σ.2.2.1 902 0 0) (x := nI v13) rfl (by omega) (by omega) rfl dL_isBegun_309 ?_
            exact r_top (congrArg nI (by split <;> omega)) (J_310 _ _ hW hS)
          · refine lv_iconst (v := nI 0) hx hb dL_isBegun_298 (by decide) ?_
            refine lv_goto (tgt := 310) hx hb dL_isBegun_299 (by decide) ?_
            exact r_top (congrArg nI (by split <;> omega)) (J_310 _ _ hW hS)
      · refine lv_aload hx hb dL_isBegun_286 (lv_at hl 8 rfl) ?_
        refine lv_bipush (v := nI 9) hx hb dL_isBegun_288 (by decide) ?_
        refine lv_iload hx hb dL_isBegun_290 (lv_at hl 0 rfl) ?_
        refine r_mulN hx hb dL_isBegun_292 ?_
        refine pw_ald8 X hK hG 902 fa_902 (vd_1 (by decide)) (i := 0) (N := σ.2.2.1 902 0 0) (x := nI v11) rfl (by omega) (by omega) rfl dL_isBegun_293 ?_
        refine lv_iconst (v := nI 3) hx hb dL_isBegun_294 (by decide) ?_
        refine r_icmp_leN (tgt := 302) hx hb dL_isBegun_295 (by decide) (by omega) (by omega) (fun c_295 => ?_) (fun c_295 => ?_)
        · refine lv_aload hx hb dL_isBegun_302 (lv_at hl 8 rfl) ?_
          refine lv_bipush (v := nI 9) hx hb dL_isBegun_304 (by decide) ?_
          refine lv_iload hx hb dL_isBegun_306 (lv_at hl 0 rfl) ?_
          refine r_mulN hx hb dL_isBegun_308 ?_
          refine pw_ald8 X hK hG 902 fa_902 (vd_1 (by decide)) (i := 0) (N := σ.2.2.1 902 0 0) (x := nI v11) rfl (by omega) (by omega) rfl dL_isBegun_309 ?_
          exact r_top (congrArg nI (by split <;> omega)) (J_310 _ _ hW hS)
        · refine lv_iconst (v := nI 0) hx hb dL_isBegun_298 (by decide) ?_
          refine lv_goto (tgt := 310) hx hb dL_isBegun_299 (by decide) ?_
          exact r_top (congrArg nI (by split <;> omega)) (J_310 _ _ hW hS)
    · refine lv_aload_n hx hb dL_isBegun_54 rfl (lv_at hl 2 rfl) ?_
      refine lv_iload hx hb dL_isBegun_55 (lv_at hl 11 rfl) ?_
      refine lv_iload hx hb dL_isBegun_57 (lv_at hl 9 rfl) ?_
      refine r_if_neN (tgt := 68) hx hb dL_isBegun_59 (by decide) (by omega) (fun c_59 => ?_) (fun c_59 => absurd c_59 (by decide))
      refine lv_aload_n hx hb dL_isBegun_68 rfl (lv_at hl 2 rfl) ?_
      refine lv_iload hx hb dL_isBegun_69 (lv_at hl 11 rfl) ?_
      refine al_900 X hK hG (vd_0 (by decide)) (i := j9) (x := (h_f1 (3 + v6) j9 σ).2.2.1 900 0 j9) (by omega) rfl dL_isBegun_71 ?_
      refine vs_J X hK hW hS 900 fa_900 (vd_0 (by decide)) (i := j9) (N := 48) (x := (h_f1 (3 + v6) j9 σ).2.2.1 900 0 j9) rfl (by omega) (by decide) dL_isBegun_72 (fun H locs hW hS => ?_)
      have hG : PW D cI cZ cO vdom L (wA (h_f1 (3 + v6) j9 σ) 900 0 j9 ((h_f1 (3 + v6) j9 σ).2.2.1 900 0 j9)) (vim L) H := hW.g
      refine lv_aload_n hx hb dL_isBegun_73 rfl (lv_at hl 3 rfl) ?_
      refine lv_iload hx hb dL_isBegun_74 (lv_at hl 11 rfl) ?_
      refine lv_iload hx hb dL_isBegun_76 (lv_at hl 10 rfl) ?_
      refine r_i2lJ hx hb (by omega) dL_isBegun_78 ?_
      refine vs_J X hK hW hS 900 fa_900 (vd_0 (by decide)) (i := j9) (N := 48) (x := 3 + v6) rfl (by omega) (by decide) dL_isBegun_79 (fun H locs hW hS => ?_)
      have hG : PW D cI cZ cO vdom L (wA (wA (h_f1 (3 + v6) j9 σ) 900 0 j9 ((h_f1 (3 + v6) j9 σ).2.2.1 900 0 j9)) 900 1 j9 (3 + v6)) (vim L) H := hW.g
      refine r_iincN (b := 1) (lv' := [(11, .int (nI (j9 + 1))), (0, .ref x9), (1, .ref b), (2, .ref (L 900 0)), (3, .ref (L 900 1)), (4, .ref (L 901 0)), (5, .ref (L 902 0)), (6, .ref (L 903 0)), (7, .ref (L 905 0)), (8, .int (nI 1)), (9, .int (nI 1)), (10, .int (nI (3 + v6)))]) hx hb dL_isBegun_80 hl (k := 11) rfl (by decide) (by decide) rfl (fun ls hl => ?_)
      refine lv_goto (tgt := 47) hx hb dL_isBegun_83 (by decide) ?_
      exact ih (j9 + 1) (by show 48 - (j9 + 1) < 48 - j9; omega) (by show j9 + 1 ≤ 48; omega) H locs ls (by rw [h_f1_s]; exact hW) hS (lv_sub hl [1, 2, 3, 4, 5, 6, 7, 8, 9, 10, 11, 0] rfl)
  · refine lv_aload_n hx hb dL_isBegun_54 rfl (lv_at hl 2 rfl) ?_
    refine lv_iload hx hb dL_isBegun_55 (lv_at hl 11 rfl) ?_
    refine lv_iload hx hb dL_isBegun_57 (lv_at hl 9 rfl) ?_
    refine r_if_neN (tgt := 68) hx hb dL_isBegun_59 (by decide) (by omega) (fun c_59 => absurd c_59 (by decide)) (fun c_59 => ?_)
    refine lv_iload hx hb dL_isBegun_62 (lv_at hl 10 rfl) ?_
    refine r_i2lJ hx hb (by omega) dL_isBegun_64 ?_
    refine lv_goto (tgt := 72) hx hb dL_isBegun_65 (by decide) ?_
    refine vs_J X hK hW hS 900 fa_900 (vd_0 (by decide)) (i := j9) (N := 48) (x := 3 + v1) rfl (by omega) (by decide) dL_isBegun_72 (fun H locs hW hS => ?_)
    have hG : PW D cI cZ cO vdom L (wA (h_f0 (3 + v1) j9 σ) 900 0 j9 (3 + v1)) (vim L) H := hW.g
    refine lv_aload_n hx hb dL_isBegun_73 rfl (lv_at hl 3 rfl) ?_
    refine lv_iload hx hb dL_isBegun_74 (lv_at hl 11 rfl) ?_
    refine lv_iload hx hb dL_isBegun_76 (lv_at hl 10 rfl) ?_
    refine r_i2lJ hx hb (by omega) dL_isBegun_78 ?_
    refine vs_J X hK hW hS 900 fa_900 (vd_0 (by decide)) (i := j9) (N := 48) (x := 3 + v1) rfl (by omega) (by decide) dL_isBegun_79 (fun H locs hW hS => ?_)
    have hG : PW D cI cZ cO vdom L (wA (wA (h_f0 (3 + v1) j9 σ) 900 0 j9 (3 + v1)) 900 1 j9 (3 + v1)) (vim L) H := hW.g
    refine r_iincN (b := 1) (lv' := [(11, .int (nI (j9 + 1))), (0, .ref x9), (1, .ref b), (2, .ref (L 900 0)), (3, .ref (L 900 1)), (4, .ref (L 901 0)), (5, .ref (L 902 0)), (6, .ref (L 903 0)), (7, .ref (L 905 0)), (8, .int (nI 1)), (9, .int (nI 0)), (10, .int (nI (3 + v1)))]) hx hb dL_isBegun_80 hl (k := 11) rfl (by decide) (by decide) rfl (fun ls hl => ?_)
    refine lv_goto (tgt := 47) hx hb dL_isBegun_83 (by decide) ?_
    exact ih (j9 + 1) (by show 48 - (j9 + 1) < 48 - j9; omega) (by show j9 + 1 ≤ 48; omega) H locs ls (by rw [h_f0_s]; exact hW) hS (lv_sub hl [1, 2, 3, 4, 5, 6, 7, 8, 9, 10, 11, 0] rfl)
