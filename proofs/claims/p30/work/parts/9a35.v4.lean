set_option maxRecDepth 100000 in
set_option maxHeartbeats 4000000 in
theorem v_L_isJudged {D : va_G} {cI cZ cO : ClassId} {t0 mi z0 x9 : Nat} {L : Lay} (l : Launch) (hl9 : l.stackTraces = false) (K q : Nat) (hq : q < 2) (hK9 : K ≤ 900000) : VI D cI cZ cO t0 mi z0 l yL_isJudged cL_isJudged 15 ((some FieldType.boolean)) 11 330 11 206 [.ref x9, .ref (L 900 q), .ref (L 902 0), .ref (L 903 0), .ref (L 905 0), .int (nI q)] (VQ D cI cZ cO t0 z0 x9 L K) (VQ D cI cZ cO t0 z0 x9 L K) (nI 1) := by
  refine vi_of rfl (Nat.le_of_ble_eq_true rfl) ?_
  intro p e s m args below meth c ls X hK hE hX hP hz hr hlocks hl
  have X : CallFix p m c cL_isJudged 15 s args TB RL := X
  have hx := X.1
  have hb := X.2.1
  have hS : va_S (vA z0) s.heap s.heap [] := va_S.rf
  have hl : lv_has ls 15 [(0, .ref x9), (1, .ref (L 900 q)), (2, .ref (L 902 0)), (3, .ref (L 903 0)), (4, .ref (L 905 0)), (5, .int (nI q))] := hl
  obtain ⟨κ, σ, τ, hW, hR, hJ⟩ := hP
  have hG : PW D cI cZ cO vdom L σ (vim L) s.heap := hW.g
  have hN2 : σ.2.2.1 902 0 0 = 36 := hJ.1.1
  have hN3 : σ.2.2.1 903 0 0 = 37 := hJ.1.2.1
  have hN5 : σ.2.2.1 905 0 0 = 11 := hJ.1.2.2
  refine lv_aload hx hb dL_isJudged_0 (lv_at hl 4 rfl) ?_
  refine lv_iconst (v := nI 4) hx hb dL_isJudged_2 (by decide) ?_
  refine lv_iload hx hb dL_isJudged_3 (lv_at hl 5 rfl) ?_
  refine r_mulN hx hb dL_isJudged_5 ?_
  refine pw_ald8 X hK hG 905 fa_905 (vd_1 (by decide)) (i := 4 * q) (N := σ.2.2.1 905 0 0) (x := σ.2.2.2 905 0 (4 * q)) rfl (by omega) (by omega) rfl dL_isJudged_6 ?_
  refine lv_iconst (v := nI 2) hx hb dL_isJudged_7 (by decide) ?_
  refine lv_icmp_ne (tgt := 39) hx hb dL_isJudged_8 (by decide) (fun c_8 => ?_) (fun c_8 => ?_)
  · refine lv_iconst (v := nI 1) hx hb dL_isJudged_39 (by decide) ?_
    exact vi_ret X hr hlocks (⟨κ, _, τ, hW, hR, hJ⟩) hS (rfl) (Nat.le_of_ble_eq_true rfl) (Nat.le_of_ble_eq_true rfl) rfl dL_isJudged_40
  · refine lv_aload_n hx hb dL_isJudged_11 rfl (lv_at hl 3 rfl) ?_
    refine lv_iconst (v := nI 2) hx hb dL_isJudged_12 (by decide) ?_
    refine pw_ald8 X hK hG 903 fa_903 (vd_1 (by decide)) (i := 2) (N := σ.2.2.1 903 0 0) (x := σ.2.2.2 903 0 2) rfl (by omega) (by omega) rfl dL_isJudged_13 ?_
    refine lv_if_eq (tgt := 39) hx hb dL_isJudged_14 (by decide) (fun c_14 => ?_) (fun c_14 => ?_)
    · refine lv_iconst (v := nI 1) hx hb dL_isJudged_39 (by decide) ?_
      exact vi_ret X hr hlocks (⟨κ, _, τ, hW, hR, hJ⟩) hS (rfl) (Nat.le_of_ble_eq_true rfl) (Nat.le_of_ble_eq_true rfl) rfl dL_isJudged_40
    · refine lv_aload_n hx hb dL_isJudged_17 rfl (lv_at hl 3 rfl) ?_
      refine lv_iconst (v := nI 0) hx hb dL_isJudged_18 (by decide) ?_
      refine pw_ald8 X hK hG 903 fa_903 (vd_1 (by decide)) (i := 0) (N := σ.2.2.1 903 0 0) (x := σ.2.2.2 903 0 0) rfl (by omega) (by omega) rfl dL_isJudged_19 ?_
      refine lv_aload_n hx hb dL_isJudged_20 rfl (lv_at hl 3 rfl) ?_
      refine lv_iconst (v := nI 2) hx hb dL_isJudged_21 (by decide) ?_
      refine pw_ald8 X hK hG 903 fa_903 (vd_1 (by decide)) (i := 2) (N := σ.2.2.1 903 0 0) (x := σ.2.2.2 903 0 2) rfl (by omega) (by omega) rfl dL_isJudged_22 ?_
      refine lv_sipush (v := nI 998) hx hb dL_isJudged_23 (by decide) ?_
      refine lv_iadd hx hb dL_isJudged_26 ?_
      refine lv_icmp_gt (tgt := 39) hx hb dL_isJudged_27 (by decide) (fun c_27 => ?_) (fun c_27 => ?_)
      · refine lv_iconst (v := nI 1) hx hb dL_isJudged_39 (by decide) ?_
        exact vi_ret X hr hlocks (⟨κ, _, τ, hW, hR, hJ⟩) hS (rfl) (Nat.le_of_ble_eq_true rfl) (Nat.le_of_ble_eq_true rfl) rfl dL_isJudged_40
      · refine lv_aload_n hx hb dL_isJudged_30 rfl (lv_at hl 3 rfl) ?_
        refine lv_bipush (v := nI 28) hx hb dL_isJudged_31 (by decide) ?_
        refine pw_ald8 X hK hG 903 fa_903 (vd_1 (by decide)) (i := 28) (N := σ.2.2.1 903 0 0) (x := σ.2.2.2 903 0 28) rfl (by omega) (by omega) rfl dL_isJudged_33 ?_
        refine lv_bipush (v := nI 30) hx hb dL_isJudged_34 (by decide) ?_
        refine lv_icmp_ne (tgt := 41) hx hb dL_isJudged_36 (by decide) (fun c_36 => ?_) (fun c_36 => ?_)
        · obtain ⟨hk9, hN9, hQJ⟩ := Q_judge (D := D) (cI := cI) (cZ := cZ) (cO := cO) (t0 := t0) (mi := mi) (l := l) hl9 hR hJ hq hK9 c_8 c_14 c_27 c_36
          refine lv_iconst (v := nI 0) hx hb dL_isJudged_41 (by decide) ?_
          refine lv_istore (lv' := [(6, .int (nI 0)), (0, .ref x9), (1, .ref (L 900 q)), (2, .ref (L 902 0)), (3, .ref (L 903 0)), (4, .ref (L 905 0)), (5, .int (nI q))]) hx hb dL_isJudged_42 hl (by decide) rfl (fun ls hl => ?_)
          refine lv_iconst (v := nI 0) hx hb dL_isJudged_44 (by decide) ?_
          refine lv_istore (lv' := [(7, .int (nI 0)), (6, .int (nI 0)), (0, .ref x9), (1, .ref (L 900 q)), (2, .ref (L 902 0)), (3, .ref (L 903 0)), (4, .ref (L 905 0)), (5, .int (nI q))]) hx hb dL_isJudged_45 hl (by decide) rfl (fun ls hl => ?_)
          refine r_loopP (ι := Nat) (fun (k9 : Nat) => [(0, .ref x9), (1, .ref (L 900 q)), (2, .ref (L 902 0)), (3, .ref (L 903 0)), (4, .ref (L 905 0)), (5, .int (nI q)), (6, .int ((h_jl q k9 σ).1)), (7, .int (nI k9))]) (fun (k9 : Nat) => (fun H => Vd D cI cZ cO t0 z0 x9 L κ (h_jl q k9 σ).2 H)) (fun (k9 : Nat) => 2 - k9) (fun (k9 : Nat) => k9 ≤ 2) (fun _ => 0) (fun _ => 0) 0 (Nat.zero_le _) hW hS (lv_sub hl [2, 3, 4, 5, 6, 7, 1, 0] rfl) rfl rfl ?_
          rintro k9 hinv ih H locs ls hW hS hl
          have hW : Vd D cI cZ cO t0 z0 x9 L κ (h_jl q k9 σ).2 H := hW
          have hG : PW D cI cZ cO vdom L ((h_jl q k9 σ).2) (vim L) H := hW.g
          have hl : lv_has ls 15 [(0, .ref x9), (1, .ref (L 900 q)), (2, .ref (L 902 0)), (3, .ref (L 903 0)), (4, .ref (L 905 0)), (5, .int (nI q)), (6, .int ((h_jl q k9 σ).1)), (7, .int (nI k9))] := hl
          obtain hk0 := hinv
          refine lv_iload hx hb dL_isJudged_47 (lv_at hl 7 rfl) ?_
          refine lv_iconst (v := nI 2) hx hb dL_isJudged_49 (by decide) ?_
          refine r_icmp_geN (tgt := 328) hx hb dL_isJudged_50 (by decide) (by omega) (by omega) (fun c_50 => ?_) (fun c_50 => ?_)
          · have hk2 : k9 = 2 := by omega
            have e2 : h_jl q k9 σ = h_jl q 2 σ := by rw [hk2]
            rw [e2] at hW hG hl
            generalize h_jl q 2 σ = Z9 at hQJ hN9 hW hG hl
            have hN3 : Z9.2.2.2.1 903 0 0 = 37 := hN9.2.1
            have hN5 : Z9.2.2.2.1 905 0 0 = 11 := hN9.2.2
            refine lv_aload_n hx hb dL_isJudged_328 rfl (lv_at hl 3 rfl) ?_
            refine lv_bipush (v := nI 29) hx hb dL_isJudged_329 (by decide) ?_
            refine lv_iload hx hb dL_isJudged_331 (lv_at hl 5 rfl) ?_
            refine vs_8 X hK hW hS 903 fa_903 (vd_1 (by decide)) (i := 29) (N := Z9.2.2.2.1 903 0 0) rfl (by omega) (by omega) dL_isJudged_333 (fun H locs hW hS => ?_)
            have hG : PW D cI cZ cO vdom L (wB Z9.2 903 0 29 (nI q)) (vim L) H := hW.g
            refine lv_aload_n hx hb dL_isJudged_334 rfl (lv_at hl 3 rfl) ?_
            refine lv_bipush (v := nI 30) hx hb dL_isJudged_335 (by decide) ?_
            refine lv_iload hx hb dL_isJudged_337 (lv_at hl 6 rfl) ?_
            refine vs_8 X hK hW hS 903 fa_903 (vd_1 (by decide)) (i := 30) (N := Z9.2.2.2.1 903 0 0) rfl (by omega) (by omega) dL_isJudged_339 (fun H locs hW hS => ?_)
            have hG : PW D cI cZ cO vdom L (wB (wB Z9.2 903 0 29 (nI q)) 903 0 30 Z9.1) (vim L) H := hW.g
            refine lv_aload_n hx hb dL_isJudged_340 rfl (lv_at hl 3 rfl) ?_
            refine lv_bipush (v := nI 31) hx hb dL_isJudged_341 (by decide) ?_
            refine lv_aload_n hx hb dL_isJudged_343 rfl (lv_at hl 3 rfl) ?_
            refine lv_iconst (v := nI 0) hx hb dL_isJudged_344 (by decide) ?_
            refine pw_ald8 X hK hG 903 fa_903 (vd_1 (by decide)) (i := 0) (N := Z9.2.2.2.1 903 0 0) (x := Z9.2.2.2.2 903 0 0) rfl (by omega) (by omega) rfl dL_isJudged_345 ?_
            refine vs_8 X hK hW hS 903 fa_903 (vd_1 (by decide)) (i := 31) (N := Z9.2.2.2.1 903 0 0) rfl (by omega) (by omega) dL_isJudged_346 (fun H locs hW hS => ?_)
            have hG : PW D cI cZ cO vdom L (wB (wB (wB Z9.2 903 0 29 (nI q)) 903 0 30 Z9.1) 903 0 31 (Z9.2.2.2.2 903 0 0)) (vim L) H := hW.g
            refine lv_aload_n hx hb dL_isJudged_347 rfl (lv_at hl 3 rfl) ?_
            refine lv_bipush (v := nI 32) hx hb dL_isJudged_348 (by decide) ?_
            refine lv_aload_n hx hb dL_isJudged_350 rfl (lv_at hl 3 rfl) ?_
            refine lv_iconst (v := nI 3) hx hb dL_isJudged_351 (by decide) ?_
            refine pw_ald8 X hK hG 903 fa_903 (vd_1 (by decide)) (i := 3) (N := Z9.2.2.2.1 903 0 0) (x := Z9.2.2.2.2 903 0 3) rfl (by omega) (by omega) rfl dL_isJudged_352 ?_
            refine vs_8 X hK hW hS 903 fa_903 (vd_1 (by decide)) (i := 32) (N := Z9.2.2.2.1 903 0 0) rfl (by omega) (by omega) dL_isJudged_353 (fun H locs hW hS => ?_)
            have hG : PW D cI cZ cO vdom L (wB (wB (wB (wB Z9.2 903 0 29 (nI q)) 903 0 30 Z9.1) 903 0 31 (Z9.2.2.2.2 903 0 0)) 903 0 32 (Z9.2.2.2.2 903 0 3)) (vim L) H := hW.g
            refine lv_aload_n hx hb dL_isJudged_354 rfl (lv_at hl 3 rfl) ?_
            refine lv_bipush (v := nI 28) hx hb dL_isJudged_355 (by decide) ?_
            refine lv_dup2_11 hx hb dL_isJudged_357 rfl rfl ?_
            refine pw_ald8 X hK hG 903 fa_903 (vd_1 (by decide)) (i := 28) (N := Z9.2.2.2.1 903 0 0) (x := Z9.2.2.2.2 903 0 28) rfl (by omega) (by omega) rfl dL_isJudged_358 ?_
            refine lv_iconst (v := nI 1) hx hb dL_isJudged_359 (by decide) ?_
            refine lv_iadd hx hb dL_isJudged_360 ?_
            refine vs_8 X hK hW hS 903 fa_903 (vd_1 (by decide)) (i := 28) (N := Z9.2.2.2.1 903 0 0) rfl (by omega) (by omega) dL_isJudged_361 (fun H locs hW hS => ?_)
            have hG : PW D cI cZ cO vdom L (wB (wB (wB (wB (wB Z9.2 903 0 29 (nI q)) 903 0 30 Z9.1) 903 0 31 (Z9.2.2.2.2 903 0 0)) 903 0 32 (Z9.2.2.2.2 903 0 3)) 903 0 28 ((Z9.2.2.2.2 903 0 28) + (nI 1))) (vim L) H := hW.g
            refine lv_aload hx hb dL_isJudged_362 (lv_at hl 4 rfl) ?_
            refine lv_iconst (v := nI 4) hx hb dL_isJudged_364 (by decide) ?_
            refine lv_iload hx hb dL_isJudged_365 (lv_at hl 5 rfl) ?_
            refine r_mulN hx hb dL_isJudged_367 ?_
            refine lv_iconst (v := nI 3) hx hb dL_isJudged_368 (by decide) ?_
            refine r_addN hx hb dL_isJudged_369 ?_
            refine lv_iload hx hb dL_isJudged_370 (lv_at hl 6 rfl) ?_
            refine vs_8 X hK hW hS 905 fa_905 (vd_1 (by decide)) (i := 4 * q + 3) (N := Z9.2.2.2.1 905 0 0) rfl (by omega) (by omega) dL_isJudged_372 (fun H locs hW hS => ?_)
            have hG : PW D cI cZ cO vdom L (wB (wB (wB (wB (wB (wB Z9.2 903 0 29 (nI q)) 903 0 30 Z9.1) 903 0 31 (Z9.2.2.2.2 903 0 0)) 903 0 32 (Z9.2.2.2.2 903 0 3)) 903 0 28 ((Z9.2.2.2.2 903 0 28) + (nI 1))) 905 0 (4 * q + 3) Z9.1) (vim L) H := hW.g
            refine lv_aload_n hx hb dL_isJudged_373 rfl (lv_at hl 0 rfl) ?_
            refine lv_iload hx hb dL_isJudged_374 (lv_at hl 5 rfl) ?_
            refine lv_iconst (v := nI 0) hx hb dL_isJudged_376 (by decide) ?_
            refine lv_iconst (v := nI 2) hx hb dL_isJudged_377 (by decide) ?_
            refine v_oq X hK hE hX hW hS yvX8_judge ml_L_67 [.int (nI q), .int (nI 0), .int (nI 2)] [] (hQJ) rfl hl.1 rfl (Nat.le_of_ble_eq_true rfl) ⟨Nat.le_of_ble_eq_true rfl, Nat.le_of_ble_eq_true rfl⟩ ⟨Nat.le_of_ble_eq_true rfl, Nat.le_of_ble_eq_true rfl⟩ dL_isJudged_378 (fun κ τ H locs hW hR hJ hS => ?_)
            have hG : PW D cI cZ cO vdom L (wB (wB (wB (wB (wB (wB Z9.2 903 0 29 (nI q)) 903 0 30 Z9.1) 903 0 31 (Z9.2.2.2.2 903 0 0)) 903 0 32 (Z9.2.2.2.2 903 0 3)) 903 0 28 ((Z9.2.2.2.2 903 0 28) + (nI 1))) 905 0 (4 * q + 3) Z9.1) (vim L) H := hW.g
            refine lv_aload_n hx hb dL_isJudged_381 rfl (lv_at hl 3 rfl) ?_
            refine lv_bipush (v := nI 28) hx hb dL_isJudged_382 (by decide) ?_
            refine pw_ald8 X hK hG 903 fa_903 (vd_1 (by decide)) (i := 28) (N := Z9.2.2.2.1 903 0 0) (x := ((Z9.2.2.2.2 903 0 28) + (nI 1))) rfl (by omega) (by omega) rfl dL_isJudged_384 ?_
            refine lv_iconst (v := nI 1) hx hb dL_isJudged_385 (by decide) ?_
            refine lv_isub hx hb dL_isJudged_386 ?_
            refine lv_icmp_ne (tgt := 409) hx hb dL_isJudged_387 (by decide) (fun c_387 => absurd (Int32.add_sub_cancel _ _).symm c_387) (fun c_387 => ?_)
            refine lv_aload_n hx hb dL_isJudged_390 rfl (lv_at hl 0 rfl) ?_
            refine lv_aload_n hx hb dL_isJudged_391 rfl (lv_at hl 3 rfl) ?_
            refine lv_bipush (v := nI 28) hx hb dL_isJudged_392 (by decide) ?_
            refine pw_ald8 X hK hG 903 fa_903 (vd_1 (by decide)) (i := 28) (N := Z9.2.2.2.1 903 0 0) (x := ((Z9.2.2.2.2 903 0 28) + (nI 1))) rfl (by omega) (by omega) rfl dL_isJudged_394 ?_
            refine lv_iconst (v := nI 1) hx hb dL_isJudged_395 (by decide) ?_
            refine lv_isub hx hb dL_isJudged_396 ?_
            refine v_oq X hK hE hX hW hS yvX8_judgeAnew ml_L_73 [.int (((Z9.2.2.2.2 903 0 28) + (nI 1)) - (nI 1))] [] (Q_judgeAnew2 hl9 hR hJ (hjd_28 q Z9.1 Z9.2)) rfl hl.1 rfl (Nat.le_of_ble_eq_true rfl) ⟨Nat.le_of_ble_eq_true rfl, Nat.le_of_ble_eq_true rfl⟩ ⟨Nat.le_of_ble_eq_true rfl, Nat.le_of_ble_eq_true rfl⟩ dL_isJudged_397 (fun κ τ H locs hW hR hJ hS => ?_)
            have hG : PW D cI cZ cO vdom L (wB (wB (wB (wB (wB (wB Z9.2 903 0 29 (nI q)) 903 0 30 Z9.1) 903 0 31 (Z9.2.2.2.2 903 0 0)) 903 0 32 (Z9.2.2.2.2 903 0 3)) 903 0 28 ((Z9.2.2.2.2 903 0 28) + (nI 1))) 905 0 (4 * q + 3) Z9.1) (vim L) H := hW.g
            refine lv_iload hx hb dL_isJudged_400 (lv_at hl 6 rfl) ?_
            refine lv_icmp_ne (tgt := 409) hx hb dL_isJudged_402 (by decide) (fun c_402 => absurd rfl c_402) (fun c_402 => ?_)
            refine lv_iconst (v := nI 1) hx hb dL_isJudged_405 (by decide) ?_
            refine lv_goto (tgt := 410) hx hb dL_isJudged_406 (by decide) ?_
            exact vi_ret X hr hlocks (⟨κ, _, τ, hW, hR, hJ⟩) hS (rfl) (Nat.le_of_ble_eq_true rfl) (Nat.le_of_ble_eq_true rfl) rfl dL_isJudged_410
          · have hb9 := hk9 k9 c_50
            generalize hY9 : h_jl q k9 σ = Y9 at hb9 hW hG hl
            have hN2 : Y9.2.2.2.1 902 0 0 = 36 := hb9.2.2.2.2.1
            have hN3 : Y9.2.2.2.1 903 0 0 = 37 := hb9.2.2.2.2.2.1
            have hN5 : Y9.2.2.2.1 905 0 0 = 11 := hb9.2.2.2.2.2.2
            have b0 := ix_lt hb9.2.2.1
            have b1 := ix_lt hb9.2.2.2.1
            refine lv_bipush (v := nI 16) hx hb dL_isJudged_53 (by decide) ?_
            refine lv_bipush (v := nI 6) hx hb dL_isJudged_55 (by decide) ?_
            refine lv_iload hx hb dL_isJudged_57 (lv_at hl 7 rfl) ?_
            refine r_mulN hx hb dL_isJudged_59 ?_
            refine r_addN hx hb dL_isJudged_60 ?_
            refine lv_istore (lv' := [(8, .int (nI (16 + (6 * k9)))), (0, .ref x9), (1, .ref (L 900 q)), (2, .ref (L 902 0)), (3, .ref (L 903 0)), (4, .ref (L 905 0)), (5, .int (nI q)), (6, .int Y9.1), (7, .int (nI k9))]) hx hb dL_isJudged_61 hl (by decide) rfl (fun ls hl => ?_)
            refine lv_aload_n hx hb dL_isJudged_63 rfl (lv_at hl 2 rfl) ?_
            refine lv_bipush (v := nI 12) hx hb dL_isJudged_64 (by decide) ?_
            refine lv_aload_n hx hb dL_isJudged_66 rfl (lv_at hl 4 rfl) ?_
            refine lv_iload hx hb dL_isJudged_67 (lv_at hl 0 rfl) ?_
            refine lv_iconst (v := nI 1) hx hb dL_isJudged_69 (by decide) ?_
            refine r_addN hx hb dL_isJudged_70 ?_
            refine pw_ald8 X hK hG 903 fa_903 (vd_1 (by decide)) (i := (16 + (6 * k9)) + 1) (N := Y9.2.2.2.1 903 0 0) (x := Y9.2.2.2.2 903 0 ((16 + (6 * k9)) + 1)) rfl (by omega) (by omega) rfl dL_isJudged_71 ?_
            refine r_top (y := nI (tn (Y9.2.2.2.2 903 0 (16 + 6 * k9 + 1)))) (ix_eq hb9.2.2.2.1) ?_
            refine r_mulN hx hb dL_isJudged_72 ?_
            refine lv_aload_n hx hb dL_isJudged_73 rfl (lv_at hl 4 rfl) ?_
            refine lv_iload hx hb dL_isJudged_74 (lv_at hl 0 rfl) ?_
            refine pw_ald8 X hK hG 903 fa_903 (vd_1 (by decide)) (i := 16 + (6 * k9)) (N := Y9.2.2.2.1 903 0 0) (x := Y9.2.2.2.2 903 0 (16 + (6 * k9))) rfl (by omega) (by omega) rfl dL_isJudged_76 ?_
            refine r_top (y := nI (tn (Y9.2.2.2.2 903 0 (16 + 6 * k9)))) (ix_eq hb9.2.2.1) ?_
            refine r_addN hx hb dL_isJudged_77 ?_
            refine al_900 X hK hG (vd_0 (by omega)) (i := (12 * (tn (Y9.2.2.2.2 903 0 (16 + 6 * k9 + 1)))) + (tn (Y9.2.2.2.2 903 0 (16 + 6 * k9)))) (x := Y9.2.2.2.1 900 q ((12 * (tn (Y9.2.2.2.2 903 0 (16 + 6 * k9 + 1)))) + (tn (Y9.2.2.2.2 903 0 (16 + 6 * k9))))) (by omega) rfl dL_isJudged_78 ?_
            generalize hC9 : Y9.2.2.2.1 900 q ((12 * (tn (Y9.2.2.2.2 903 0 (16 + 6 * k9 + 1)))) + (tn (Y9.2.2.2.2 903 0 (16 + 6 * k9)))) = C9
            have eC : jC q k9 Y9.2 = C9 := hC9
            rw [eC] at hb9
            refine lv_lstore (lv' := [(9, .long (lJ C9)), (8, .int (nI (16 + (6 * k9)))), (0, .ref x9), (1, .ref (L 900 q)), (2, .ref (L 902 0)), (3, .ref (L 903 0)), (4, .ref (L 905 0)), (5, .int (nI q)), (6, .int Y9.1), (7, .int (nI k9))]) hx hb dL_isJudged_79 hl (by decide) rfl (fun ls hl => ?_)
            refine lv_lload hx hb dL_isJudged_81 (lv_at hl 0 rfl) ?_
            refine v_callS X hK hW hS ysL_size ml_L_63 [.long (lJ C9)] [] (c_L_size (D := D) (cI := cI) (cZ := cZ) (cO := cO) (dom := vdom) l L Y9.2 (vim L) C9 hb9.2.1) rfl hl.1 rfl (Nat.le_of_ble_eq_true rfl) ⟨Nat.le_of_ble_eq_true rfl, Nat.le_of_ble_eq_true rfl⟩ ⟨Nat.le_of_ble_eq_true rfl, Nat.le_of_ble_eq_true rfl⟩ dL_isJudged_83 (fun H locs hW hS => ?_)
            have hG : PW D cI cZ cO vdom L Y9.2 (vim L) H := hW.g
            refine lv_aload_n hx hb dL_isJudged_86 rfl (lv_at hl 5 rfl) ?_
            refine lv_iconst (v := nI 0) hx hb dL_isJudged_87 (by decide) ?_
            refine pw_ald8 X hK hG 903 fa_903 (vd_1 (by decide)) (i := 0) (N := Y9.2.2.2.1 903 0 0) (x := Y9.2.2.2.2 903 0 0) rfl (by omega) (by omega) rfl dL_isJudged_88 ?_
            refine lv_aload_n hx hb dL_isJudged_89 rfl (lv_at hl 5 rfl) ?_
            refine lv_iconst (v := nI 2) hx hb dL_isJudged_90 (by decide) ?_
            refine pw_ald8 X hK hG 903 fa_903 (vd_1 (by decide)) (i := 2) (N := Y9.2.2.2.1 903 0 0) (x := Y9.2.2.2.2 903 0 2) rfl (by omega) (by omega) rfl dL_isJudged_91 ?_
            refine lv_isub hx hb dL_isJudged_92 ?_
            refine lv_iconst (v := nI 1) hx hb dL_isJudged_93 (by decide) ?_
            refine lv_iadd hx hb dL_isJudged_94 ?_
            refine lv_bipush (v := nI 100) hx hb dL_isJudged_95 (by decide) ?_
            refine lv_idiv hx hb dL_isJudged_97 (by decide) ?_
            refine lv_iadd hx hb dL_isJudged_98 ?_
            refine lv_sipush (v := nI 1000) hx hb dL_isJudged_99 (by decide) ?_
            refine lv_aload_n hx hb dL_isJudged_102 rfl (lv_at hl 5 rfl) ?_
            refine lv_iload hx hb dL_isJudged_103 (lv_at hl 1 rfl) ?_
            refine lv_iconst (v := nI 2) hx hb dL_isJudged_105 (by decide) ?_
            refine r_addN hx hb dL_isJudged_106 ?_
            refine pw_ald8 X hK hG 903 fa_903 (vd_1 (by decide)) (i := (16 + (6 * k9)) + 2) (N := Y9.2.2.2.1 903 0 0) (x := Y9.2.2.2.2 903 0 ((16 + (6 * k9)) + 2)) rfl (by omega) (by omega) rfl dL_isJudged_107 ?_
            refine lv_imul hx hb dL_isJudged_108 ?_
            refine lv_isub hx hb dL_isJudged_109 ?_
            refine r_top (y := (jA q k9 Y9.2)) (by unfold jA; rw [eC]) ?_
            refine lv_istore (lv' := [(11, .int (jA q k9 Y9.2)), (9, .long (lJ C9)), (8, .int (nI (16 + (6 * k9)))), (0, .ref x9), (1, .ref (L 900 q)), (2, .ref (L 902 0)), (3, .ref (L 903 0)), (4, .ref (L 905 0)), (5, .int (nI q)), (6, .int Y9.1), (7, .int (nI k9))]) hx hb dL_isJudged_110 hl (by decide) rfl (fun ls hl => ?_)
            refine lv_aload_n hx hb dL_isJudged_112 rfl (lv_at hl 6 rfl) ?_
            refine lv_iload hx hb dL_isJudged_113 (lv_at hl 2 rfl) ?_
            refine lv_iconst (v := nI 3) hx hb dL_isJudged_115 (by decide) ?_
            refine r_addN hx hb dL_isJudged_116 ?_
            refine pw_ald8 X hK hG 903 fa_903 (vd_1 (by decide)) (i := (16 + (6 * k9)) + 3) (N := Y9.2.2.2.1 903 0 0) (x := Y9.2.2.2.2 903 0 ((16 + (6 * k9)) + 3)) rfl (by omega) (by omega) rfl dL_isJudged_117 ?_
            refine r_cutV (P := fun H => Vd D cI cZ cO t0 z0 x9 L κ Y9.2 H) 137 [.int (if 0 < Y9.2.2.2.2 903 0 (16 + 6 * k9 + 5) then Y9.2.2.2.2 903 0 (16 + 6 * k9 + 4) else nI 0), .int (Y9.2.2.2.2 903 0 ((16 + (6 * k9)) + 3))] hW hS (fun H locs hW hS => ?_) (fun J_137 => ?_)
            · have hW : Vd D cI cZ cO t0 z0 x9 L κ Y9.2 H := hW
              have hG : PW D cI cZ cO vdom L Y9.2 (vim L) H := hW.g
              refine lv_iadd hx hb dL_isJudged_137 ?_
              refine r_top (y := (jB k9 Y9.2)) (rfl) ?_
              refine lv_istore (lv' := [(12, .int (jB k9 Y9.2)), (11, .int (jA q k9 Y9.2)), (9, .long (lJ C9)), (8, .int (nI (16 + (6 * k9)))), (0, .ref x9), (1, .ref (L 900 q)), (2, .ref (L 902 0)), (3, .ref (L 903 0)), (4, .ref (L 905 0)), (5, .int (nI q)), (6, .int Y9.1), (7, .int (nI k9))]) hx hb dL_isJudged_138 hl (by decide) rfl (fun ls hl => ?_)
              refine lv_aload_n hx hb dL_isJudged_140 rfl (lv_at hl 7 rfl) ?_
              refine lv_iload hx hb dL_isJudged_141 (lv_at hl 3 rfl) ?_
              refine lv_iconst (v := nI 5) hx hb dL_isJudged_143 (by decide) ?_
              refine r_addN hx hb dL_isJudged_144 ?_
              refine r_cutV (P := fun H => Vd D cI cZ cO t0 z0 x9 L κ Y9.2 H) 166 [.int (if 0 < Y9.2.2.2.2 903 0 (16 + 6 * k9 + 5) then Y9.2.2.2.2 903 0 (16 + 6 * k9 + 5) - nI 1 else nI 0), .int (nI ((16 + (6 * k9)) + 5)), .ref (L 903 0)] hW hS (fun H locs hW hS => ?_) (fun J_166 => ?_)
              · have hW : Vd D cI cZ cO t0 z0 x9 L κ Y9.2 H := hW
                have hG : PW D cI cZ cO vdom L Y9.2 (vim L) H := hW.g
                refine vs_8 X hK hW hS 903 fa_903 (vd_1 (by decide)) (i := (16 + (6 * k9)) + 5) (N := Y9.2.2.2.1 903 0 0) rfl (by omega) (by omega) dL_isJudged_166 (fun H locs hW hS => ?_)
                have hG : PW D cI cZ cO vdom L (wB Y9.2 903 0 ((16 + (6 * k9)) + 5) (if 0 < Y9.2.2.2.2 903 0 (16 + 6 * k9 + 5) then Y9.2.2.2.2 903 0 (16 + 6 * k9 + 5) - nI 1 else nI 0)) (vim L) H := hW.g
                refine lv_aload_n hx hb dL_isJudged_167 rfl (lv_at hl 7 rfl) ?_
                refine lv_bipush (v := nI 33) hx hb dL_isJudged_168 (by decide) ?_
                refine lv_iload hx hb dL_isJudged_170 (lv_at hl 11 rfl) ?_
                refine r_addN hx hb dL_isJudged_172 ?_
                refine lv_iload hx hb dL_isJudged_173 (lv_at hl 1 rfl) ?_
                refine vs_8 X hK hW hS 903 fa_903 (vd_1 (by decide)) (i := 33 + k9) (N := Y9.2.2.2.1 903 0 0) rfl (by omega) (by omega) dL_isJudged_175 (fun H locs hW hS => ?_)
                have hG : PW D cI cZ cO vdom L (wB (wB Y9.2 903 0 ((16 + (6 * k9)) + 5) (if 0 < Y9.2.2.2.2 903 0 (16 + 6 * k9 + 5) then Y9.2.2.2.2 903 0 (16 + 6 * k9 + 5) - nI 1 else nI 0)) 903 0 (33 + k9) (jA q k9 Y9.2)) (vim L) H := hW.g
                refine lv_aload_n hx hb dL_isJudged_176 rfl (lv_at hl 7 rfl) ?_
                refine lv_bipush (v := nI 35) hx hb dL_isJudged_177 (by decide) ?_
                refine lv_iload hx hb dL_isJudged_179 (lv_at hl 11 rfl) ?_
                refine r_addN hx hb dL_isJudged_181 ?_
                refine lv_iload hx hb dL_isJudged_182 (lv_at hl 0 rfl) ?_
                refine vs_8 X hK hW hS 903 fa_903 (vd_1 (by decide)) (i := 35 + k9) (N := Y9.2.2.2.1 903 0 0) rfl (by omega) (by omega) dL_isJudged_184 (fun H locs hW hS => ?_)
                have hG : PW D cI cZ cO vdom L (wB (wB (wB Y9.2 903 0 ((16 + (6 * k9)) + 5) (if 0 < Y9.2.2.2.2 903 0 (16 + 6 * k9 + 5) then Y9.2.2.2.2 903 0 (16 + 6 * k9 + 5) - nI 1 else nI 0)) 903 0 (33 + k9) (jA q k9 Y9.2)) 903 0 (35 + k9) (jB k9 Y9.2)) (vim L) H := hW.g
                refine r_cutV (P := fun H => Vd D cI cZ cO t0 z0 x9 L κ (wB (wB (wB Y9.2 903 0 ((16 + (6 * k9)) + 5) (if 0 < Y9.2.2.2.2 903 0 (16 + 6 * k9 + 5) then Y9.2.2.2.2 903 0 (16 + 6 * k9 + 5) - nI 1 else nI 0)) 903 0 (33 + k9) (jA q k9 Y9.2)) 903 0 (35 + k9) (jB k9 Y9.2)) H) 222 [.int (jO (jA q k9 Y9.2) (jB k9 Y9.2) (Y9.2.2.2.2 903 0 3))] hW hS (fun H locs hW hS => ?_) (fun J_222 => ?_)
                · have hW : Vd D cI cZ cO t0 z0 x9 L κ (wB (wB (wB Y9.2 903 0 ((16 + (6 * k9)) + 5) (if 0 < Y9.2.2.2.2 903 0 (16 + 6 * k9 + 5) then Y9.2.2.2.2 903 0 (16 + 6 * k9 + 5) - nI 1 else nI 0)) 903 0 (33 + k9) (jA q k9 Y9.2)) 903 0 (35 + k9) (jB k9 Y9.2)) H := hW
                  have hG : PW D cI cZ cO vdom L (wB (wB (wB Y9.2 903 0 ((16 + (6 * k9)) + 5) (if 0 < Y9.2.2.2.2 903 0 (16 + 6 * k9 + 5) then Y9.2.2.2.2 903 0 (16 + 6 * k9 + 5) - nI 1 else nI 0)) 903 0 (33 + k9) (jA q k9 Y9.2)) 903 0 (35 + k9) (jB k9 Y9.2)) (vim L) H := hW.g
                  refine lv_istore (lv' := [(13, .int (jO (jA q k9 Y9.2) (jB k9 Y9.2) (Y9.2.2.2.2 903 0 3))), (12, .int (jB k9 Y9.2)), (11, .int (jA q k9 Y9.2)), (9, .long (lJ C9)), (8, .int (nI (16 + (6 * k9)))), (0, .ref x9), (1, .ref (L 900 q)), (2, .ref (L 902 0)), (3, .ref (L 903 0)), (4, .ref (L 905 0)), (5, .int (nI q)), (6, .int Y9.1), (7, .int (nI k9))]) hx hb dL_isJudged_222 hl (by decide) rfl (fun ls hl => ?_)
                  refine r_cutV (P := fun H => Vd D cI cZ cO t0 z0 x9 L κ (wB (wB (wB Y9.2 903 0 ((16 + (6 * k9)) + 5) (if 0 < Y9.2.2.2.2 903 0 (16 + 6 * k9 + 5) then Y9.2.2.2.2 903 0 (16 + 6 * k9 + 5) - nI 1 else nI 0)) 903 0 (33 + k9) (jA q k9 Y9.2)) 903 0 (35 + k9) (jB k9 Y9.2)) H) 238 [.int (h_jv Y9.1 (jO (jA q k9 Y9.2) (jB k9 Y9.2) (Y9.2.2.2.2 903 0 3)))] hW hS (fun H locs hW hS => ?_) (fun J_238 => ?_)
                  · have hW : Vd D cI cZ cO t0 z0 x9 L κ (wB (wB (wB Y9.2 903 0 ((16 + (6 * k9)) + 5) (if 0 < Y9.2.2.2.2 903 0 (16 + 6 * k9 + 5) then Y9.2.2.2.2 903 0 (16 + 6 * k9 + 5) - nI 1 else nI 0)) 903 0 (33 + k9) (jA q k9 Y9.2)) 903 0 (35 + k9) (jB k9 Y9.2)) H := hW
                    have hG : PW D cI cZ cO vdom L (wB (wB (wB Y9.2 903 0 ((16 + (6 * k9)) + 5) (if 0 < Y9.2.2.2.2 903 0 (16 + 6 * k9 + 5) then Y9.2.2.2.2 903 0 (16 + 6 * k9 + 5) - nI 1 else nI 0)) 903 0 (33 + k9) (jA q k9 Y9.2)) 903 0 (35 + k9) (jB k9 Y9.2)) (vim L) H := hW.g
                    refine lv_istore (lv' := [(6, .int (h_jv Y9.1 (jO (jA q k9 Y9.2) (jB k9 Y9.2) (Y9.2.2.2.2 903 0 3)))), (13, .int (jO (jA q k9 Y9.2) (jB k9 Y9.2) (Y9.2.2.2.2 903 0 3))), (12, .int (jB k9 Y9.2)), (11, .int (jA q k9 Y9.2)), (9, .long (lJ C9)), (8, .int (nI (16 + (6 * k9)))), (0, .ref x9), (1, .ref (L 900 q)), (2, .ref (L 902 0)), (3, .ref (L 903 0)), (4, .ref (L 905 0)), (5, .int (nI q)), (7, .int (nI k9))]) hx hb dL_isJudged_238 hl (by decide) rfl (fun ls hl => ?_)
                    refine lv_lload hx hb dL_isJudged_240 (lv_at hl 4 rfl) ?_
                    refine lv_iconst (v := nI 4) hx hb dL_isJudged_242 (by decide) ?_
                    refine r_lshrJ hx hb (v := C9 / 16) (hb9.2.1) (by decide) rfl dL_isJudged_243 ?_
                    refine r_ldc2J X (n := 63) kl_49 (by decide) dL_isJudged_244 ?_
                    refine r_landJ hx hb (v := (C9 / 16) % 64) (and_m (k := 6) rfl rfl) dL_isJudged_247 ?_
                    refine r_l2iJ hx hb dL_isJudged_248 ?_
                    refine lv_iconst (v := nI 1) hx hb dL_isJudged_249 (by decide) ?_
                    by_cases ht9 : (C9 / 16) % 64 = 0
                    · refine lv_isub hx hb dL_isJudged_250 ?_
                      refine r_top (y := (-1)) (by rw [ht9]; decide) ?_
                      refine lv_istore (lv' := [(14, .int (-1)), (6, .int (h_jv Y9.1 (jO (jA q k9 Y9.2) (jB k9 Y9.2) (Y9.2.2.2.2 903 0 3)))), (13, .int (jO (jA q k9 Y9.2) (jB k9 Y9.2) (Y9.2.2.2.2 903 0 3))), (12, .int (jB k9 Y9.2)), (11, .int (jA q k9 Y9.2)), (9, .long (lJ C9)), (8, .int (nI (16 + (6 * k9)))), (0, .ref x9), (1, .ref (L 900 q)), (2, .ref (L 902 0)), (3, .ref (L 903 0)), (4, .ref (L 905 0)), (5, .int (nI q)), (7, .int (nI k9))]) hx hb dL_isJudged_251 hl (by decide) rfl (fun ls hl => ?_)
                      refine lv_iload hx hb dL_isJudged_253 (lv_at hl 0 rfl) ?_
                      refine lv_if_lt (tgt := 322) hx hb dL_isJudged_255 (by decide) (fun c_255 => ?_) (fun c_255 => absurd c_255 (by decide))
                      have e1 : (h_jv Y9.1 (jO (jA q k9 Y9.2) (jB k9 Y9.2) (Y9.2.2.2.2 903 0 3))) = (h_jl q (k9 + 1) σ).1 := by rw [hjl_s, hY9]
                      rw [e1] at hl
                      have e2 : (h_jl q (k9 + 1) σ).2 = (wB (wB (wB Y9.2 903 0 ((16 + (6 * k9)) + 5) (if 0 < Y9.2.2.2.2 903 0 (16 + 6 * k9 + 5) then Y9.2.2.2.2 903 0 (16 + 6 * k9 + 5) - nI 1 else nI 0)) 903 0 (33 + k9) (jA q k9 Y9.2)) 903 0 (35 + k9) (jB k9 Y9.2)) := by rw [hjl_s, hY9]; show h_js q k9 Y9.2 = _; unfold h_js; rw [eC, if_pos ht9]; rfl
                      refine r_iincN (b := 1) (lv' := [(7, .int (nI (k9 + 1))), (14, .int (-1)), (6, .int ((h_jl q (k9 + 1) σ).1)), (13, .int (jO (jA q k9 Y9.2) (jB k9 Y9.2) (Y9.2.2.2.2 903 0 3))), (12, .int (jB k9 Y9.2)), (11, .int (jA q k9 Y9.2)), (9, .long (lJ C9)), (8, .int (nI (16 + (6 * k9)))), (0, .ref x9), (1, .ref (L 900 q)), (2, .ref (L 902 0)), (3, .ref (L 903 0)), (4, .ref (L 905 0)), (5, .int (nI q))]) hx hb dL_isJudged_322 hl (k := 13) rfl (by decide) (by decide) rfl (fun ls hl => ?_)
                      refine lv_goto (tgt := 47) hx hb dL_isJudged_325 (by decide) ?_
                      exact ih (k9 + 1) (by show 2 - (k9 + 1) < 2 - k9; omega) (by show k9 + 1 ≤ 2; omega) H locs ls (by rw [e2]; exact hW) hS (lv_sub hl [8, 9, 10, 11, 12, 13, 2, 0] rfl)
                    · have b9 : (C9 / 16) % 64 - 1 < 4 := by have := hb9.1; omega
                      refine r_subN hx hb (by omega) dL_isJudged_250 ?_
                      refine lv_istore (lv' := [(14, .int (nI ((C9 / 16) % 64 - 1))), (6, .int (h_jv Y9.1 (jO (jA q k9 Y9.2) (jB k9 Y9.2) (Y9.2.2.2.2 903 0 3)))), (13, .int (jO (jA q k9 Y9.2) (jB k9 Y9.2) (Y9.2.2.2.2 903 0 3))), (12, .int (jB k9 Y9.2)), (11, .int (jA q k9 Y9.2)), (9, .long (lJ C9)), (8, .int (nI (16 + (6 * k9)))), (0, .ref x9), (1, .ref (L 900 q)), (2, .ref (L 902 0)), (3, .ref (L 903 0)), (4, .ref (L 905 0)), (5, .int (nI q)), (7, .int (nI k9))]) hx hb dL_isJudged_251 hl (by decide) rfl (fun ls hl => ?_)
                      refine lv_iload hx hb dL_isJudged_253 (lv_at hl 0 rfl) ?_
                      refine lv_if_lt (tgt := 322) hx hb dL_isJudged_255 (by decide) (fun c_255 => absurd c_255 (nI_pos (by omega))) (fun c_255 => ?_)
                      refine lv_aload_n hx hb dL_isJudged_258 rfl (lv_at hl 9 rfl) ?_
                      refine lv_bipush (v := nI 9) hx hb dL_isJudged_259 (by decide) ?_
                      refine lv_iload hx hb dL_isJudged_261 (lv_at hl 0 rfl) ?_
                      refine r_mulN hx hb dL_isJudged_263 ?_
                      refine lv_bipush (v := nI 7) hx hb dL_isJudged_264 (by decide) ?_
                      refine r_addN hx hb dL_isJudged_266 ?_
                      refine lv_aload_n hx hb dL_isJudged_267 rfl (lv_at hl 9 rfl) ?_
                      refine lv_bipush (v := nI 9) hx hb dL_isJudged_268 (by decide) ?_
                      refine lv_iload hx hb dL_isJudged_270 (lv_at hl 0 rfl) ?_
                      refine r_mulN hx hb dL_isJudged_272 ?_
                      refine lv_bipush (v := nI 6) hx hb dL_isJudged_273 (by decide) ?_
                      refine r_addN hx hb dL_isJudged_275 ?_
                      refine pw_ald8 X hK hG 902 fa_902 (vd_1 (by decide)) (i := (9 * ((C9 / 16) % 64 - 1)) + 6) (N := Y9.2.2.2.1 902 0 0) (x := Y9.2.2.2.2 902 0 ((9 * ((C9 / 16) % 64 - 1)) + 6)) rfl (by omega) (by omega) rfl dL_isJudged_276 ?_
                      refine vs_8 X hK hW hS 902 fa_902 (vd_1 (by decide)) (i := (9 * ((C9 / 16) % 64 - 1)) + 7) (N := Y9.2.2.2.1 902 0 0) rfl (by omega) (by omega) dL_isJudged_277 (fun H locs hW hS => ?_)
                      have hG : PW D cI cZ cO vdom L (wB (wB (wB (wB Y9.2 903 0 ((16 + (6 * k9)) + 5) (if 0 < Y9.2.2.2.2 903 0 (16 + 6 * k9 + 5) then Y9.2.2.2.2 903 0 (16 + 6 * k9 + 5) - nI 1 else nI 0)) 903 0 (33 + k9) (jA q k9 Y9.2)) 903 0 (35 + k9) (jB k9 Y9.2)) 902 0 ((9 * ((C9 / 16) % 64 - 1)) + 7) (Y9.2.2.2.2 902 0 ((9 * ((C9 / 16) % 64 - 1)) + 6))) (vim L) H := hW.g
                      refine lv_aload_n hx hb dL_isJudged_278 rfl (lv_at hl 9 rfl) ?_
                      refine lv_bipush (v := nI 9) hx hb dL_isJudged_279 (by decide) ?_
                      refine lv_iload hx hb dL_isJudged_281 (lv_at hl 0 rfl) ?_
                      refine r_mulN hx hb dL_isJudged_283 ?_
                      refine lv_bipush (v := nI 6) hx hb dL_isJudged_284 (by decide) ?_
                      refine r_addN hx hb dL_isJudged_286 ?_
                      refine lv_aload_n hx hb dL_isJudged_287 rfl (lv_at hl 9 rfl) ?_
                      refine lv_bipush (v := nI 9) hx hb dL_isJudged_288 (by decide) ?_
                      refine lv_iload hx hb dL_isJudged_290 (lv_at hl 0 rfl) ?_
                      refine r_mulN hx hb dL_isJudged_292 ?_
                      refine lv_iconst (v := nI 5) hx hb dL_isJudged_293 (by decide) ?_
                      refine r_addN hx hb dL_isJudged_294 ?_
                      refine pw_ald8 X hK hG 902 fa_902 (vd_1 (by decide)) (i := (9 * ((C9 / 16) % 64 - 1)) + 5) (N := Y9.2.2.2.1 902 0 0) (x := Y9.2.2.2.2 902 0 ((9 * ((C9 / 16) % 64 - 1)) + 5)) rfl (by omega) (by omega) ((show (wB (wB (wB (wB Y9.2 903 0 ((16 + (6 * k9)) + 5) (if 0 < Y9.2.2.2.2 903 0 (16 + 6 * k9 + 5) then Y9.2.2.2.2 903 0 (16 + 6 * k9 + 5) - nI 1 else nI 0)) 903 0 (33 + k9) (jA q k9 Y9.2)) 903 0 (35 + k9) (jB k9 Y9.2)) 902 0 ((9 * ((C9 / 16) % 64 - 1)) + 7) (Y9.2.2.2.2 902 0 ((9 * ((C9 / 16) % 64 - 1)) + 6))).2.2.2 902 0 ((9 * ((C9 / 16) % 64 - 1)) + 5) = _ from e_ne (σ := (wB (wB (wB Y9.2 903 0 ((16 + (6 * k9)) + 5) (if 0 < Y9.2.2.2.2 903 0 (16 + 6 * k9 + 5) then Y9.2.2.2.2 903 0 (16 + 6 * k9 + 5) - nI 1 else nI 0)) 903 0 (33 + k9) (jA q k9 Y9.2)) 903 0 (35 + k9) (jB k9 Y9.2))) (F := 902) (k := 0) (i := ((9 * ((C9 / 16) % 64 - 1)) + 7)) (j := ((9 * ((C9 / 16) % 64 - 1)) + 5)) (v := (Y9.2.2.2.2 902 0 ((9 * ((C9 / 16) % 64 - 1)) + 6))) (by omega)).trans rfl) dL_isJudged_295 ?_
                      refine vs_8 X hK hW hS 902 fa_902 (vd_1 (by decide)) (i := (9 * ((C9 / 16) % 64 - 1)) + 6) (N := Y9.2.2.2.1 902 0 0) rfl (by omega) (by omega) dL_isJudged_296 (fun H locs hW hS => ?_)
                      have hG : PW D cI cZ cO vdom L (wB (wB (wB (wB (wB Y9.2 903 0 ((16 + (6 * k9)) + 5) (if 0 < Y9.2.2.2.2 903 0 (16 + 6 * k9 + 5) then Y9.2.2.2.2 903 0 (16 + 6 * k9 + 5) - nI 1 else nI 0)) 903 0 (33 + k9) (jA q k9 Y9.2)) 903 0 (35 + k9) (jB k9 Y9.2)) 902 0 ((9 * ((C9 / 16) % 64 - 1)) + 7) (Y9.2.2.2.2 902 0 ((9 * ((C9 / 16) % 64 - 1)) + 6))) 902 0 ((9 * ((C9 / 16) % 64 - 1)) + 6) (Y9.2.2.2.2 902 0 ((9 * ((C9 / 16) % 64 - 1)) + 5))) (vim L) H := hW.g
                      refine lv_aload_n hx hb dL_isJudged_297 rfl (lv_at hl 9 rfl) ?_
                      refine lv_bipush (v := nI 9) hx hb dL_isJudged_298 (by decide) ?_
                      refine lv_iload hx hb dL_isJudged_300 (lv_at hl 0 rfl) ?_
                      refine r_mulN hx hb dL_isJudged_302 ?_
                      refine lv_iconst (v := nI 5) hx hb dL_isJudged_303 (by decide) ?_
                      refine r_addN hx hb dL_isJudged_304 ?_
                      refine lv_iload hx hb dL_isJudged_305 (lv_at hl 4 rfl) ?_
                      refine vs_8 X hK hW hS 902 fa_902 (vd_1 (by decide)) (i := (9 * ((C9 / 16) % 64 - 1)) + 5) (N := Y9.2.2.2.1 902 0 0) rfl (by omega) (by omega) dL_isJudged_307 (fun H locs hW hS => ?_)
                      have hG : PW D cI cZ cO vdom L (wB (wB (wB (wB (wB (wB Y9.2 903 0 ((16 + (6 * k9)) + 5) (if 0 < Y9.2.2.2.2 903 0 (16 + 6 * k9 + 5) then Y9.2.2.2.2 903 0 (16 + 6 * k9 + 5) - nI 1 else nI 0)) 903 0 (33 + k9) (jA q k9 Y9.2)) 903 0 (35 + k9) (jB k9 Y9.2)) 902 0 ((9 * ((C9 / 16) % 64 - 1)) + 7) (Y9.2.2.2.2 902 0 ((9 * ((C9 / 16) % 64 - 1)) + 6))) 902 0 ((9 * ((C9 / 16) % 64 - 1)) + 6) (Y9.2.2.2.2 902 0 ((9 * ((C9 / 16) % 64 - 1)) + 5))) 902 0 ((9 * ((C9 / 16) % 64 - 1)) + 5) (jA q k9 Y9.2)) (vim L) H := hW.g
                      refine lv_aload_n hx hb dL_isJudged_308 rfl (lv_at hl 9 rfl) ?_
                      refine lv_bipush (v := nI 9) hx hb dL_isJudged_309 (by decide) ?_
                      refine lv_iload hx hb dL_isJudged_311 (lv_at hl 0 rfl) ?_
                      refine r_mulN hx hb dL_isJudged_313 ?_
                      refine lv_bipush (v := nI 8) hx hb dL_isJudged_314 (by decide) ?_
                      refine r_addN hx hb dL_isJudged_316 ?_
                      refine lv_dup2_11 hx hb dL_isJudged_317 rfl rfl ?_
                      refine pw_ald8 X hK hG 902 fa_902 (vd_1 (by decide)) (i := (9 * ((C9 / 16) % 64 - 1)) + 8) (N := Y9.2.2.2.1 902 0 0) (x := Y9.2.2.2.2 902 0 ((9 * ((C9 / 16) % 64 - 1)) + 8)) rfl (by omega) (by omega) ((show (wB (wB (wB (wB (wB (wB Y9.2 903 0 ((16 + (6 * k9)) + 5) (if 0 < Y9.2.2.2.2 903 0 (16 + 6 * k9 + 5) then Y9.2.2.2.2 903 0 (16 + 6 * k9 + 5) - nI 1 else nI 0)) 903 0 (33 + k9) (jA q k9 Y9.2)) 903 0 (35 + k9) (jB k9 Y9.2)) 902 0 ((9 * ((C9 / 16) % 64 - 1)) + 7) (Y9.2.2.2.2 902 0 ((9 * ((C9 / 16) % 64 - 1)) + 6))) 902 0 ((9 * ((C9 / 16) % 64 - 1)) + 6) (Y9.2.2.2.2 902 0 ((9 * ((C9 / 16) % 64 - 1)) + 5))) 902 0 ((9 * ((C9 / 16) % 64 - 1)) + 5) (jA q k9 Y9.2)).2.2.2 902 0 ((9 * ((C9 / 16) % 64 - 1)) + 8) = _ from e_ne (σ := (wB (wB (wB (wB (wB Y9.2 903 0 ((16 + (6 * k9)) + 5) (if 0 < Y9.2.2.2.2 903 0 (16 + 6 * k9 + 5) then Y9.2.2.2.2 903 0 (16 + 6 * k9 + 5) - nI 1 else nI 0)) 903 0 (33 + k9) (jA q k9 Y9.2)) 903 0 (35 + k9) (jB k9 Y9.2)) 902 0 ((9 * ((C9 / 16) % 64 - 1)) + 7) (Y9.2.2.2.2 902 0 ((9 * ((C9 / 16) % 64 - 1)) + 6))) 902 0 ((9 * ((C9 / 16) % 64 - 1)) + 6) (Y9.2.2.2.2 902 0 ((9 * ((C9 / 16) % 64 - 1)) + 5)))) (F := 902) (k := 0) (i := ((9 * ((C9 / 16) % 64 - 1)) + 5)) (j := ((9 * ((C9 / 16) % 64 - 1)) + 8)) (v := (jA q k9 Y9.2)) (by omega)).trans ((show (wB (wB (wB (wB (wB Y9.2 903 0 ((16 + (6 * k9)) + 5) (if 0 < Y9.2.2.2.2 903 0 (16 + 6 * k9 + 5) then Y9.2.2.2.2 903 0 (16 + 6 * k9 + 5) - nI 1 else nI 0)) 903 0 (33 + k9) (jA q k9 Y9.2)) 903 0 (35 + k9) (jB k9 Y9.2)) 902 0 ((9 * ((C9 / 16) % 64 - 1)) + 7) (Y9.2.2.2.2 902 0 ((9 * ((C9 / 16) % 64 - 1)) + 6))) 902 0 ((9 * ((C9 / 16) % 64 - 1)) + 6) (Y9.2.2.2.2 902 0 ((9 * ((C9 / 16) % 64 - 1)) + 5))).2.2.2 902 0 ((9 * ((C9 / 16) % 64 - 1)) + 8) = _ from e_ne (σ := (wB (wB (wB (wB Y9.2 903 0 ((16 + (6 * k9)) + 5) (if 0 < Y9.2.2.2.2 903 0 (16 + 6 * k9 + 5) then Y9.2.2.2.2 903 0 (16 + 6 * k9 + 5) - nI 1 else nI 0)) 903 0 (33 + k9) (jA q k9 Y9.2)) 903 0 (35 + k9) (jB k9 Y9.2)) 902 0 ((9 * ((C9 / 16) % 64 - 1)) + 7) (Y9.2.2.2.2 902 0 ((9 * ((C9 / 16) % 64 - 1)) + 6)))) (F := 902) (k := 0) (i := ((9 * ((C9 / 16) % 64 - 1)) + 6)) (j := ((9 * ((C9 / 16) % 64 - 1)) + 8)) (v := (Y9.2.2.2.2 902 0 ((9 * ((C9 / 16) % 64 - 1)) + 5))) (by omega)).trans ((show (wB (wB (wB (wB Y9.2 903 0 ((16 + (6 * k9)) + 5) (if 0 < Y9.2.2.2.2 903 0 (16 + 6 * k9 + 5) then Y9.2.2.2.2 903 0 (16 + 6 * k9 + 5) - nI 1 else nI 0)) 903 0 (33 + k9) (jA q k9 Y9.2)) 903 0 (35 + k9) (jB k9 Y9.2)) 902 0 ((9 * ((C9 / 16) % 64 - 1)) + 7) (Y9.2.2.2.2 902 0 ((9 * ((C9 / 16) % 64 - 1)) + 6))).2.2.2 902 0 ((9 * ((C9 / 16) % 64 - 1)) + 8) = _ from e_ne (σ := (wB (wB (wB Y9.2 903 0 ((16 + (6 * k9)) + 5) (if 0 < Y9.2.2.2.2 903 0 (16 + 6 * k9 + 5) then Y9.2.2.2.2 903 0 (16 + 6 * k9 + 5) - nI 1 else nI 0)) 903 0 (33 + k9) (jA q k9 Y9.2)) 903 0 (35 + k9) (jB k9 Y9.2))) (F := 902) (k := 0) (i := ((9 * ((C9 / 16) % 64 - 1)) + 7)) (j := ((9 * ((C9 / 16) % 64 - 1)) + 8)) (v := (Y9.2.2.2.2 902 0 ((9 * ((C9 / 16) % 64 - 1)) + 6))) (by omega)).trans rfl))) dL_isJudged_318 ?_
                      refine lv_iconst (v := nI 1) hx hb dL_isJudged_319 (by decide) ?_
                      refine lv_iadd hx hb dL_isJudged_320 ?_
                      refine vs_8 X hK hW hS 902 fa_902 (vd_1 (by decide)) (i := (9 * ((C9 / 16) % 64 - 1)) + 8) (N := Y9.2.2.2.1 902 0 0) rfl (by omega) (by omega) dL_isJudged_321 (fun H locs hW hS => ?_)
                      have hG : PW D cI cZ cO vdom L (wB (wB (wB (wB (wB (wB (wB Y9.2 903 0 ((16 + (6 * k9)) + 5) (if 0 < Y9.2.2.2.2 903 0 (16 + 6 * k9 + 5) then Y9.2.2.2.2 903 0 (16 + 6 * k9 + 5) - nI 1 else nI 0)) 903 0 (33 + k9) (jA q k9 Y9.2)) 903 0 (35 + k9) (jB k9 Y9.2)) 902 0 ((9 * ((C9 / 16) % 64 - 1)) + 7) (Y9.2.2.2.2 902 0 ((9 * ((C9 / 16) % 64 - 1)) + 6))) 902 0 ((9 * ((C9 / 16) % 64 - 1)) + 6) (Y9.2.2.2.2 902 0 ((9 * ((C9 / 16) % 64 - 1)) + 5))) 902 0 ((9 * ((C9 / 16) % 64 - 1)) + 5) (jA q k9 Y9.2)) 902 0 ((9 * ((C9 / 16) % 64 - 1)) + 8) ((Y9.2.2.2.2 902 0 ((9 * ((C9 / 16) % 64 - 1)) + 8)) + (nI 1))) (vim L) H := hW.g
                      have e1 : (h_jv Y9.1 (jO (jA q k9 Y9.2) (jB k9 Y9.2) (Y9.2.2.2.2 903 0 3))) = (h_jl q (k9 + 1) σ).1 := by rw [hjl_s, hY9]
                      rw [e1] at hl
                      have e2 : (h_jl q (k9 + 1) σ).2 = (wB (wB (wB (wB (wB (wB (wB Y9.2 903 0 ((16 + (6 * k9)) + 5) (if 0 < Y9.2.2.2.2 903 0 (16 + 6 * k9 + 5) then Y9.2.2.2.2 903 0 (16 + 6 * k9 + 5) - nI 1 else nI 0)) 903 0 (33 + k9) (jA q k9 Y9.2)) 903 0 (35 + k9) (jB k9 Y9.2)) 902 0 ((9 * ((C9 / 16) % 64 - 1)) + 7) (Y9.2.2.2.2 902 0 ((9 * ((C9 / 16) % 64 - 1)) + 6))) 902 0 ((9 * ((C9 / 16) % 64 - 1)) + 6) (Y9.2.2.2.2 902 0 ((9 * ((C9 / 16) % 64 - 1)) + 5))) 902 0 ((9 * ((C9 / 16) % 64 - 1)) + 5) (jA q k9 Y9.2)) 902 0 ((9 * ((C9 / 16) % 64 - 1)) + 8) ((Y9.2.2.2.2 902 0 ((9 * ((C9 / 16) % 64 - 1)) + 8)) + (nI 1))) := by rw [hjl_s, hY9]; show h_js q k9 Y9.2 = _; unfold h_js; rw [eC, if_neg ht9]; rfl
                      refine r_iincN (b := 1) (lv' := [(7, .int (nI (k9 + 1))), (14, .int (nI ((C9 / 16) % 64 - 1))), (6, .int ((h_jl q (k9 + 1) σ).1)), (13, .int (jO (jA q k9 Y9.2) (jB k9 Y9.2) (Y9.2.2.2.2 903 0 3))), (12, .int (jB k9 Y9.2)), (11, .int (jA q k9 Y9.2)), (9, .long (lJ C9)), (8, .int (nI (16 + (6 * k9)))), (0, .ref x9), (1, .ref (L 900 q)), (2, .ref (L 902 0)), (3, .ref (L 903 0)), (4, .ref (L 905 0)), (5, .int (nI q))]) hx hb dL_isJudged_322 hl (k := 13) rfl (by decide) (by decide) rfl (fun ls hl => ?_)
                      refine lv_goto (tgt := 47) hx hb dL_isJudged_325 (by decide) ?_
                      exact ih (k9 + 1) (by show 2 - (k9 + 1) < 2 - k9; omega) (by show k9 + 1 ≤ 2; omega) H locs ls (by rw [e2]; exact hW) hS (lv_sub hl [8, 9, 10, 11, 12, 13, 2, 0] rfl)
                  · refine lv_iload hx hb dL_isJudged_224 (lv_at hl 0 rfl) ?_
                    refine lv_iload hx hb dL_isJudged_226 (lv_at hl 11 rfl) ?_
                    refine lv_icmp_le (tgt := 236) hx hb dL_isJudged_228 (by decide) (fun c_228 => ?_) (fun c_228 => ?_)
                    · refine lv_iload hx hb dL_isJudged_236 (lv_at hl 11 rfl) ?_
                      exact r_top ((if_neg (Int32.not_lt.mpr c_228)).symm) (J_238 _ _ hW hS)
                    · refine lv_iload hx hb dL_isJudged_231 (lv_at hl 0 rfl) ?_
                      refine lv_goto (tgt := 238) hx hb dL_isJudged_233 (by decide) ?_
                      exact r_top ((if_pos (Int32.not_le.mp c_228)).symm) (J_238 _ _ hW hS)
                · refine lv_iload hx hb dL_isJudged_185 (lv_at hl 1 rfl) ?_
                  refine v_callS X hK hW hS ysL_plain ml_L_59 [.int (jA q k9 Y9.2)] [] (c_L_plain (D := D) (cI := cI) (cZ := cZ) (cO := cO) (dom := vdom) l L (wB (wB (wB Y9.2 903 0 ((16 + (6 * k9)) + 5) (if 0 < Y9.2.2.2.2 903 0 (16 + 6 * k9 + 5) then Y9.2.2.2.2 903 0 (16 + 6 * k9 + 5) - nI 1 else nI 0)) 903 0 (33 + k9) (jA q k9 Y9.2)) 903 0 (35 + k9) (jB k9 Y9.2)) (vim L) (jA q k9 Y9.2)) rfl hl.1 rfl (Nat.le_of_ble_eq_true rfl) ⟨Nat.le_of_ble_eq_true rfl, Nat.le_of_ble_eq_true rfl⟩ ⟨Nat.le_of_ble_eq_true rfl, Nat.le_of_ble_eq_true rfl⟩ dL_isJudged_187 (fun H locs hW hS => ?_)
                  have hG : PW D cI cZ cO vdom L (wB (wB (wB Y9.2 903 0 ((16 + (6 * k9)) + 5) (if 0 < Y9.2.2.2.2 903 0 (16 + 6 * k9 + 5) then Y9.2.2.2.2 903 0 (16 + 6 * k9 + 5) - nI 1 else nI 0)) 903 0 (33 + k9) (jA q k9 Y9.2)) 903 0 (35 + k9) (jB k9 Y9.2)) (vim L) H := hW.g
                  refine lv_iload hx hb dL_isJudged_190 (lv_at hl 0 rfl) ?_
                  refine lv_aload_n hx hb dL_isJudged_192 rfl (lv_at hl 7 rfl) ?_
                  refine lv_iconst (v := nI 3) hx hb dL_isJudged_193 (by decide) ?_
                  refine pw_ald8 X hK hG 903 fa_903 (vd_1 (by decide)) (i := 3) (N := Y9.2.2.2.1 903 0 0) (x := Y9.2.2.2.2 903 0 3) rfl (by omega) (by omega) ((show (wB (wB (wB Y9.2 903 0 ((16 + (6 * k9)) + 5) (if 0 < Y9.2.2.2.2 903 0 (16 + 6 * k9 + 5) then Y9.2.2.2.2 903 0 (16 + 6 * k9 + 5) - nI 1 else nI 0)) 903 0 (33 + k9) (jA q k9 Y9.2)) 903 0 (35 + k9) (jB k9 Y9.2)).2.2.2 903 0 3 = _ from e_ne (σ := (wB (wB Y9.2 903 0 ((16 + (6 * k9)) + 5) (if 0 < Y9.2.2.2.2 903 0 (16 + 6 * k9 + 5) then Y9.2.2.2.2 903 0 (16 + 6 * k9 + 5) - nI 1 else nI 0)) 903 0 (33 + k9) (jA q k9 Y9.2))) (F := 903) (k := 0) (i := (35 + k9)) (j := 3) (v := (jB k9 Y9.2)) (by omega)).trans ((show (wB (wB Y9.2 903 0 ((16 + (6 * k9)) + 5) (if 0 < Y9.2.2.2.2 903 0 (16 + 6 * k9 + 5) then Y9.2.2.2.2 903 0 (16 + 6 * k9 + 5) - nI 1 else nI 0)) 903 0 (33 + k9) (jA q k9 Y9.2)).2.2.2 903 0 3 = _ from e_ne (σ := (wB Y9.2 903 0 ((16 + (6 * k9)) + 5) (if 0 < Y9.2.2.2.2 903 0 (16 + 6 * k9 + 5) then Y9.2.2.2.2 903 0 (16 + 6 * k9 + 5) - nI 1 else nI 0))) (F := 903) (k := 0) (i := (33 + k9)) (j := 3) (v := (jA q k9 Y9.2)) (by omega)).trans ((show (wB Y9.2 903 0 ((16 + (6 * k9)) + 5) (if 0 < Y9.2.2.2.2 903 0 (16 + 6 * k9 + 5) then Y9.2.2.2.2 903 0 (16 + 6 * k9 + 5) - nI 1 else nI 0)).2.2.2 903 0 3 = _ from e_ne (σ := Y9.2) (F := 903) (k := 0) (i := ((16 + (6 * k9)) + 5)) (j := 3) (v := (if 0 < Y9.2.2.2.2 903 0 (16 + 6 * k9 + 5) then Y9.2.2.2.2 903 0 (16 + 6 * k9 + 5) - nI 1 else nI 0)) (by omega)).trans rfl))) dL_isJudged_194 ?_
                  refine lv_iadd hx hb dL_isJudged_195 ?_
                  refine lv_icmp_le (tgt := 203) hx hb dL_isJudged_196 (by decide) (fun c_196 => ?_) (fun c_196 => ?_)
                  · refine lv_iload hx hb dL_isJudged_203 (lv_at hl 1 rfl) ?_
                    refine v_callS X hK hW hS ysL_plain ml_L_59 [.int (jA q k9 Y9.2)] [] (c_L_plain (D := D) (cI := cI) (cZ := cZ) (cO := cO) (dom := vdom) l L (wB (wB (wB Y9.2 903 0 ((16 + (6 * k9)) + 5) (if 0 < Y9.2.2.2.2 903 0 (16 + 6 * k9 + 5) then Y9.2.2.2.2 903 0 (16 + 6 * k9 + 5) - nI 1 else nI 0)) 903 0 (33 + k9) (jA q k9 Y9.2)) 903 0 (35 + k9) (jB k9 Y9.2)) (vim L) (jA q k9 Y9.2)) rfl hl.1 rfl (Nat.le_of_ble_eq_true rfl) ⟨Nat.le_of_ble_eq_true rfl, Nat.le_of_ble_eq_true rfl⟩ ⟨Nat.le_of_ble_eq_true rfl, Nat.le_of_ble_eq_true rfl⟩ dL_isJudged_205 (fun H locs hW hS => ?_)
                    have hG : PW D cI cZ cO vdom L (wB (wB (wB Y9.2 903 0 ((16 + (6 * k9)) + 5) (if 0 < Y9.2.2.2.2 903 0 (16 + 6 * k9 + 5) then Y9.2.2.2.2 903 0 (16 + 6 * k9 + 5) - nI 1 else nI 0)) 903 0 (33 + k9) (jA q k9 Y9.2)) 903 0 (35 + k9) (jB k9 Y9.2)) (vim L) H := hW.g
                    refine lv_aload_n hx hb dL_isJudged_208 rfl (lv_at hl 7 rfl) ?_
                    refine lv_iconst (v := nI 3) hx hb dL_isJudged_209 (by decide) ?_
                    refine pw_ald8 X hK hG 903 fa_903 (vd_1 (by decide)) (i := 3) (N := Y9.2.2.2.1 903 0 0) (x := Y9.2.2.2.2 903 0 3) rfl (by omega) (by omega) ((show (wB (wB (wB Y9.2 903 0 ((16 + (6 * k9)) + 5) (if 0 < Y9.2.2.2.2 903 0 (16 + 6 * k9 + 5) then Y9.2.2.2.2 903 0 (16 + 6 * k9 + 5) - nI 1 else nI 0)) 903 0 (33 + k9) (jA q k9 Y9.2)) 903 0 (35 + k9) (jB k9 Y9.2)).2.2.2 903 0 3 = _ from e_ne (σ := (wB (wB Y9.2 903 0 ((16 + (6 * k9)) + 5) (if 0 < Y9.2.2.2.2 903 0 (16 + 6 * k9 + 5) then Y9.2.2.2.2 903 0 (16 + 6 * k9 + 5) - nI 1 else nI 0)) 903 0 (33 + k9) (jA q k9 Y9.2))) (F := 903) (k := 0) (i := (35 + k9)) (j := 3) (v := (jB k9 Y9.2)) (by omega)).trans ((show (wB (wB Y9.2 903 0 ((16 + (6 * k9)) + 5) (if 0 < Y9.2.2.2.2 903 0 (16 + 6 * k9 + 5) then Y9.2.2.2.2 903 0 (16 + 6 * k9 + 5) - nI 1 else nI 0)) 903 0 (33 + k9) (jA q k9 Y9.2)).2.2.2 903 0 3 = _ from e_ne (σ := (wB Y9.2 903 0 ((16 + (6 * k9)) + 5) (if 0 < Y9.2.2.2.2 903 0 (16 + 6 * k9 + 5) then Y9.2.2.2.2 903 0 (16 + 6 * k9 + 5) - nI 1 else nI 0))) (F := 903) (k := 0) (i := (33 + k9)) (j := 3) (v := (jA q k9 Y9.2)) (by omega)).trans ((show (wB Y9.2 903 0 ((16 + (6 * k9)) + 5) (if 0 < Y9.2.2.2.2 903 0 (16 + 6 * k9 + 5) then Y9.2.2.2.2 903 0 (16 + 6 * k9 + 5) - nI 1 else nI 0)).2.2.2 903 0 3 = _ from e_ne (σ := Y9.2) (F := 903) (k := 0) (i := ((16 + (6 * k9)) + 5)) (j := 3) (v := (if 0 < Y9.2.2.2.2 903 0 (16 + 6 * k9 + 5) then Y9.2.2.2.2 903 0 (16 + 6 * k9 + 5) - nI 1 else nI 0)) (by omega)).trans rfl))) dL_isJudged_210 ?_
                    refine lv_iadd hx hb dL_isJudged_211 ?_
                    refine lv_iload hx hb dL_isJudged_212 (lv_at hl 0 rfl) ?_
                    refine lv_icmp_le (tgt := 221) hx hb dL_isJudged_214 (by decide) (fun c_214 => ?_) (fun c_214 => ?_)
                    · refine lv_iconst (v := nI 0) hx hb dL_isJudged_221 (by decide) ?_
                      exact r_top (((if_neg (Int32.not_lt.mpr c_196)).trans (if_neg (Int32.not_lt.mpr c_214))).symm) (J_222 _ _ hW hS)
                    · refine lv_iconst (v := nI 1) hx hb dL_isJudged_217 (by decide) ?_
                      refine lv_goto (tgt := 222) hx hb dL_isJudged_218 (by decide) ?_
                      exact r_top (((if_neg (Int32.not_lt.mpr c_196)).trans (if_pos (Int32.not_le.mp c_214))).symm) (J_222 _ _ hW hS)
                  · refine lv_iconst (v := nI 2) hx hb dL_isJudged_199 (by decide) ?_
                    refine lv_goto (tgt := 222) hx hb dL_isJudged_200 (by decide) ?_
                    exact r_top ((if_pos (Int32.not_le.mp c_196)).symm) (J_222 _ _ hW hS)
              · refine lv_aload_n hx hb dL_isJudged_145 rfl (lv_at hl 7 rfl) ?_
                refine lv_iload hx hb dL_isJudged_146 (lv_at hl 3 rfl) ?_
                refine lv_iconst (v := nI 5) hx hb dL_isJudged_148 (by decide) ?_
                refine r_addN hx hb dL_isJudged_149 ?_
                refine pw_ald8 X hK hG 903 fa_903 (vd_1 (by decide)) (i := (16 + (6 * k9)) + 5) (N := Y9.2.2.2.1 903 0 0) (x := Y9.2.2.2.2 903 0 ((16 + (6 * k9)) + 5)) rfl (by omega) (by omega) rfl dL_isJudged_150 ?_
                refine lv_if_le (tgt := 165) hx hb dL_isJudged_151 (by decide) (fun c_151 => ?_) (fun c_151 => ?_)
                · refine lv_iconst (v := nI 0) hx hb dL_isJudged_165 (by decide) ?_
                  exact r_top ((if_neg (Int32.not_lt.mpr c_151)).symm) (J_166 _ _ hW hS)
                · refine lv_aload_n hx hb dL_isJudged_154 rfl (lv_at hl 7 rfl) ?_
                  refine lv_iload hx hb dL_isJudged_155 (lv_at hl 3 rfl) ?_
                  refine lv_iconst (v := nI 5) hx hb dL_isJudged_157 (by decide) ?_
                  refine r_addN hx hb dL_isJudged_158 ?_
                  refine pw_ald8 X hK hG 903 fa_903 (vd_1 (by decide)) (i := (16 + (6 * k9)) + 5) (N := Y9.2.2.2.1 903 0 0) (x := Y9.2.2.2.2 903 0 ((16 + (6 * k9)) + 5)) rfl (by omega) (by omega) rfl dL_isJudged_159 ?_
                  refine lv_iconst (v := nI 1) hx hb dL_isJudged_160 (by decide) ?_
                  refine lv_isub hx hb dL_isJudged_161 ?_
                  refine lv_goto (tgt := 166) hx hb dL_isJudged_162 (by decide) ?_
                  exact r_top ((if_pos (Int32.not_le.mp c_151)).symm) (J_166 _ _ hW hS)
            · refine lv_aload_n hx hb dL_isJudged_118 rfl (lv_at hl 6 rfl) ?_
              refine lv_iload hx hb dL_isJudged_119 (lv_at hl 2 rfl) ?_
              refine lv_iconst (v := nI 5) hx hb dL_isJudged_121 (by decide) ?_
              refine r_addN hx hb dL_isJudged_122 ?_
              refine pw_ald8 X hK hG 903 fa_903 (vd_1 (by decide)) (i := (16 + (6 * k9)) + 5) (N := Y9.2.2.2.1 903 0 0) (x := Y9.2.2.2.2 903 0 ((16 + (6 * k9)) + 5)) rfl (by omega) (by omega) rfl dL_isJudged_123 ?_
              refine lv_if_le (tgt := 136) hx hb dL_isJudged_124 (by decide) (fun c_124 => ?_) (fun c_124 => ?_)
              · refine lv_iconst (v := nI 0) hx hb dL_isJudged_136 (by decide) ?_
                exact r_top ((if_neg (Int32.not_lt.mpr c_124)).symm) (J_137 _ _ hW hS)
              · refine lv_aload_n hx hb dL_isJudged_127 rfl (lv_at hl 6 rfl) ?_
                refine lv_iload hx hb dL_isJudged_128 (lv_at hl 2 rfl) ?_
                refine lv_iconst (v := nI 4) hx hb dL_isJudged_130 (by decide) ?_
                refine r_addN hx hb dL_isJudged_131 ?_
                refine pw_ald8 X hK hG 903 fa_903 (vd_1 (by decide)) (i := (16 + (6 * k9)) + 4) (N := Y9.2.2.2.1 903 0 0) (x := Y9.2.2.2.2 903 0 ((16 + (6 * k9)) + 4)) rfl (by omega) (by omega) rfl dL_isJudged_132 ?_
                refine lv_goto (tgt := 137) hx hb dL_isJudged_133 (by decide) ?_
                exact r_top ((if_pos (Int32.not_le.mp c_124)).symm) (J_137 _ _ hW hS)
        · refine lv_iconst (v := nI 1) hx hb dL_isJudged_39 (by decide) ?_
          exact vi_ret X hr hlocks (⟨κ, _, τ, hW, hR, hJ⟩) hS (rfl) (Nat.le_of_ble_eq_true rfl) (Nat.le_of_ble_eq_true rfl) rfl dL_isJudged_40
