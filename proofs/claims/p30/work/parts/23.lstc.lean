theorem cO_eq {D : va_G} {cI cZ cO cA : ClassId} {s : State} {tys : List (ClassId × FieldType)} (hK : KK D cI cZ cO s) (h : va_RA s cA (.object "java/lang/Object")) : cA = cO := by
  obtain ⟨_, _, _, _, _, h4⟩ := h
  obtain ⟨_, _, _, _, _, g4⟩ := (hK.2 2 (cO, .object "java/lang/Object") rfl).2
  exact Option.some.inj (h4.symm.trans g4)
theorem r_shr1 {n : Nat} (h : n < 100000) : nI n >>> (nI 1 &&& 31) = nI (n / 2) := by
  have k := pk_shrN (n := n) (by omega) (nI 1 &&& 31) 1 (by decide)
  rw [Nat.pow_one] at k
  exact k
set_option maxHeartbeats 1000000 in
theorem c_grow1f {D : va_G} {cI cZ cO : ClassId} {t0 mi : Nat} (l : Launch) (a sz : Nat) (m : Int32) : Met l yJx4a65c_grow_92f84 (wM yJx4a65c_grow_92f84 cJx4a65c_grow_92f84 4 (some (FieldType.array (FieldType.object "java/lang/Object")))) { frames := 1, cells := 1, slots := 10, locals := 22 } (LPc D cI cZ cO t0 mi (lA a a sz) sz [.ref a, .int (nI 1)] (fun H => va_P D vwCl [lwO a m t0 0] H))
      (LQr (fun b H => va_P D vwCl [lwO a m b 0, lwA cO b 10 (fun _ => none)] H ∧ sz ≤ b) (lA a a sz)) 1 10 (lA a a sz) := by
  refine lm_of rfl (Nat.le_of_ble_eq_true rfl) ?_
  intro p e s m9 below meth c ls X hK hsz hE hF hr hlocks hl
  have X : CallFix p m9 c cJx4a65c_grow_92f84 4 s _ TB RJx4a65c := X
  have hx := X.1
  have hb := X.2.1
  have hP := hF
  have hS : va_S (lA a a sz) s.heap s.heap [] := va_S.rf
  have hl : lv_has ls 4 [(0, .ref a), (1, .int (nI 1))] := hl
  have hD : va_D (lA a a sz) [lwO a m t0 0] := ld1 (Or.inl rfl)
  refine lv_aload_n hx hb dJx4a65c_grow_92f84_0 rfl (lv_at hl 0 rfl) ?_
  refine l_get X hK hP 0 rfl 1 (by decide) fw_Jx4a65c_9 (fun _ h => h) rfl dJx4a65c_grow_92f84_1 ?_
  refine va_tlen hx hb hE.2.1 hS (v := nI 0) rfl dJx4a65c_grow_92f84_4 ?_
  refine lv_istore_n (lv' := [(2, .int (nI 0)), (0, .ref a), (1, .int (nI 1))]) hx hb dJx4a65c_grow_92f84_5 rfl hl (by decide) rfl (fun ls hl => ?_)
  refine lv_iload_n hx hb dJx4a65c_grow_92f84_6 rfl (lv_at hl 0 rfl) ?_
  refine r_if_gtN (tgt := 20) hx hb dJx4a65c_grow_92f84_7 (by decide) (by decide) (fun z => absurd z (by decide)) (fun _ => ?_)
  refine lv_aload_n hx hb dJx4a65c_grow_92f84_10 rfl (lv_at hl 1 rfl) ?_
  refine l_get X hK hP 0 rfl 1 (by decide) fw_Jx4a65c_9 (fun _ h => h) rfl dJx4a65c_grow_92f84_11 ?_
  refine va_gets hx hb hE.1 hS X.2.2.2.1 (X.2.2.2.2 _ tw_1_54) (fun _ h => h) dJx4a65c_grow_92f84_14 ?_
  refine lv_acmp_eq (rx := some t0) (ry := some t0) (tgt := 45) hx hb dJx4a65c_grow_92f84_17 (by decide) (fun _ => ?_) (fun z => absurd rfl z)
  refine lv_aload_n hx hb dJx4a65c_grow_92f84_45 rfl (lv_at hl 1 rfl) ?_
  refine lv_bipush (v := nI 10) hx hb dJx4a65c_grow_92f84_46 (by decide) ?_
  refine lv_iload_n hx hb dJx4a65c_grow_92f84_48 rfl (lv_at hl 2 rfl) ?_
  refine r_max X hl.1 ml_Jx4a65c_79 (Nat.le_of_ble_eq_true rfl) (Nat.le_of_ble_eq_true rfl) (Nat.zero_le _) (Nat.zero_le _) dJx4a65c_grow_92f84_49 ?_
  refine r_top (y := nI 10) (by decide) ?_
  refine va_newq hx hb X.2.2.2.1 (X.2.2.2.2 _ tw_1_216) hE.2.2.1 hK hP hD hS (fun q h => Or.inr (Or.inr (by rw [← hsz]; exact h))) (N' := 10) (by decide) (by decide) (by decide) (Nat.le_of_ble_eq_true rfl) (Nat.le_of_ble_eq_true rfl) dJx4a65c_grow_92f84_52 (fun b cA H hK2 hP hD hS => ?_)
  have hcA : cA = cO := cO_eq (tys := []) hK (hK2.2 3 (cA, .object "java/lang/Object") rfl).2
  subst hcA
  have hbz : sz ≤ b := by
    rcases hD.2 1 _ rfl with z | z | z
    · exact absurd (hD.1 0 1 _ _ rfl rfl z.symm) (by decide)
    · exact absurd (hD.1 0 1 _ _ rfl rfl z.symm) (by decide)
    · exact z
  refine lv_dup_x1 hx hb dJx4a65c_grow_92f84_55 rfl rfl ?_
  refine l_put X hK hP hD hS 0 rfl 1 (by decide) fw_Jx4a65c_9 (fun _ h => h) rfl rfl rfl (Nat.le_of_ble_eq_true rfl) dJx4a65c_grow_92f84_56 (fun H locs hP hD hS => ?_)
  exact lr_ret hx hb hr (Or.inr ⟨_, rfl⟩) hlocks hS ⟨hP, hbz⟩ rfl rfl dJx4a65c_grow_92f84_59
set_option maxHeartbeats 1000000 in
theorem c_grow0f {D : va_G} {cI cZ cO : ClassId} {t0 mi : Nat} (l : Launch) (a sz : Nat) (m : Int32) : Met l yJx4a65c_grow_d5877 (wM yJx4a65c_grow_d5877 cJx4a65c_grow_d5877 1 (some (FieldType.array (FieldType.object "java/lang/Object")))) { frames := 2, cells := 1, slots := 10, locals := 45 } (LPc D cI cZ cO t0 mi (lA a a sz) sz [.ref a] (fun H => va_P D vwCl [lwO a m t0 0] H))
      (LQr (fun b H => va_P D vwCl [lwO a m b 0, lwA cO b 10 (fun _ => none)] H ∧ sz ≤ b) (lA a a sz)) 1 10 (lA a a sz) := by
  refine lm_of rfl (Nat.le_of_ble_eq_true rfl) ?_
  intro p e s m9 below meth c ls X hK hsz hE hF hr hlocks hl
  have X : CallFix p m9 c cJx4a65c_grow_d5877 1 s _ TB RJx4a65c := X
  have hx := X.1
  have hb := X.2.1
  have hP := hF
  have hS : va_S (lA a a sz) s.heap s.heap [] := va_S.rf
  have hl : lv_has ls 1 [(0, .ref a)] := hl
  refine lv_aload_n hx hb dJx4a65c_grow_d5877_0 rfl (lv_at hl 0 rfl) ?_
  refine lv_aload_n hx hb dJx4a65c_grow_d5877_1 rfl (lv_at hl 0 rfl) ?_
  refine l_get X hK hP 0 rfl 2 (by decide) fw_Jx4a65c_48 (fun _ h => h) rfl dJx4a65c_grow_d5877_2 ?_
  refine lv_iconst (v := nI 1) hx hb dJx4a65c_grow_d5877_5 (by decide) ?_
  refine r_addN hx hb dJx4a65c_grow_d5877_6 ?_
  have hAA : ∀ x, lA a a s.heap.size x → lA a a sz x := fun x h => by rw [hsz] at h; exact h
  refine va_callr (va_runV (As := [.int (nI 1)]) (rest := []) X (c_grow1f l a s.heap.size m) (yv_cw X.2.2.2.2 yvJx4a65c_grow_92f84 ml_Jx4a65c_69 rfl rfl ⟨Nat.le_of_ble_eq_true rfl, Nat.le_of_ble_eq_true rfl⟩) ⟨lpc_blind, va_recv hK hP kJx4a65c.1 (q0 := 0) rfl, lpc_pre hK (hE.narrow hAA) hP rfl⟩ rfl rfl hl.1 rfl (lv_room (Nat.le_of_ble_eq_true rfl)) dJx4a65c_grow_d5877_7 ⟨Nat.le_of_ble_eq_true rfl, Nat.le_of_ble_eq_true rfl⟩) hS (fun x _ h => hAA x h) (fun x h => hAA x h) ?_
  intro u b t H1 locs1 ht _ _ hB _ _ hS
  rw [ht] at hB
  exact lr_ret hx hb hr (Or.inr ⟨_, rfl⟩) hlocks hS ⟨hB.1, by rw [← hsz]; exact hB.2⟩ rfl rfl dJx4a65c_grow_d5877_10
set_option maxHeartbeats 1000000 in
theorem c_add3f {D : va_G} {cI cZ cO : ClassId} {t0 mi : Nat} (l : Launch) (a q ci sz : Nat) (m : Int32) (vs : List Value) (r : vw_C) (hc : vwCl[ci]? = some r) (hr6 : r.1 ∈ [RX0, RX1, RX2, RX3, RX4, RX5]) : Met l yJx4a65c_add_72be8 (wM yJx4a65c_add_72be8 cJx4a65c_add_72be8 4 none) { frames := 3, cells := 1, slots := 10, locals := 65 } (LPc D cI cZ cO t0 mi (lA a a sz) sz [.ref a, .ref q, .ref t0, .int (nI 0)] (fun H => va_P D vwCl [lwO a m t0 0] H ∧ q ≠ a ∧ va_at D vwCl (q, .inr (ci, vs)) H))
      (LQv (fun H => ∃ b, sz ≤ b ∧ va_P D vwCl [lwO a m b 1, lwA cO b 10 (va_up (fun _ => none) 0 (some q))] H) (lA a a sz)) 1 10 (lA a a sz) := by
  refine lm_of rfl (Nat.le_of_ble_eq_true rfl) ?_
  intro p e s m9 below meth c ls X hK hsz hE hF hr hlocks hl
  have X : CallFix p m9 c cJx4a65c_add_72be8 4 s _ TB RJx4a65c := X
  have hx := X.1
  have hb := X.2.1
  obtain ⟨hP, hqa, hel⟩ := hF
  have hS : va_S (lA a a sz) s.heap s.heap [] := va_S.rf
  have hl : lv_has ls 4 [(0, .ref a), (1, .ref q), (2, .ref t0), (3, .int (nI 0))] := hl
  have haz : a < sz := by rw [← hsz]; exact (hP 0 _ rfl).lt
  have hqz : q < sz := by rw [← hsz]; exact hel.lt
  refine lv_iload_n hx hb dJx4a65c_add_72be8_0 rfl (lv_at hl 3 rfl) ?_
  refine lv_aload_n hx hb dJx4a65c_add_72be8_1 rfl (lv_at hl 2 rfl) ?_
  refine va_tlen hx hb hE.2.1 hS (v := nI 0) rfl dJx4a65c_add_72be8_2 ?_
  refine r_icmp_neN (tgt := 11) hx hb dJx4a65c_add_72be8_3 (by decide) (by decide) (by decide) (fun c_3 => absurd rfl c_3) (fun _ => ?_)
  refine lv_aload_n hx hb dJx4a65c_add_72be8_6 rfl (lv_at hl 0 rfl) ?_
  have hAA : ∀ x, lA a a s.heap.size x → lA a a sz x := fun x h => by rw [hsz] at h; exact h
  refine va_callr (va_runV (As := []) (rest := []) X (c_grow0f l a s.heap.size m) (yv_cw X.2.2.2.2 yvJx4a65c_grow_d5877 ml_Jx4a65c_129 rfl rfl ⟨Nat.le_of_ble_eq_true rfl, Nat.le_of_ble_eq_true rfl⟩) ⟨lpc_blind, va_recv hK hP kJx4a65c.1 (q0 := 0) rfl, lpc_pre hK (hE.narrow hAA) hP rfl⟩ rfl rfl hl.1 rfl (lv_room (Nat.le_of_ble_eq_true rfl)) dJx4a65c_add_72be8_7 ⟨Nat.le_of_ble_eq_true rfl, Nat.le_of_ble_eq_true rfl⟩) hS (fun x _ h => hAA x h) (fun x h => hAA x h) ?_
  intro u b t H1 locs1 ht _ _ hB _ _ hS
  rw [ht] at hB
  obtain ⟨hP, hbz⟩ := hB
  rw [hsz] at hbz
  have hab : a ≠ b := by omega
  have hD : va_D (lA a a sz) [lwO a m b 0, lwA cO b 10 (fun _ => none)] := ld2 hab (Or.inl rfl) (Or.inr (Or.inr hbz))
  refine lv_astore_n (lv' := [(2, .ref b), (0, .ref a), (1, .ref q), (3, .int (nI 0))]) hx hb dJx4a65c_add_72be8_10 rfl hl (by decide) rfl (fun ls hl => ?_)
  refine lv_aload_n hx hb dJx4a65c_add_72be8_11 rfl (lv_at hl 0 rfl) ?_
  refine lv_iload_n hx hb dJx4a65c_add_72be8_12 rfl (lv_at hl 3 rfl) ?_
  refine lv_aload_n hx hb dJx4a65c_add_72be8_13 rfl (lv_at hl 2 rfl) ?_
  refine va_astqM hx hb hK hP hD hS 1 2 rfl rfl (el_any hK hE hc hr6 (el_at hsz hS hqa hqa hel)) (vp_in_nI (by decide) (by decide)) dJx4a65c_add_72be8_14 (fun H locs hP hD hS => ?_)
  rw [nI_clamp (by omega)] at hP hD
  refine lv_aload_n hx hb dJx4a65c_add_72be8_15 rfl (lv_at hl 1 rfl) ?_
  refine lv_iload_n hx hb dJx4a65c_add_72be8_16 rfl (lv_at hl 3 rfl) ?_
  refine lv_iconst (v := nI 1) hx hb dJx4a65c_add_72be8_17 (by decide) ?_
  refine r_addN hx hb dJx4a65c_add_72be8_18 ?_
  refine l_put X hK hP hD hS 0 rfl 2 (by decide) fw_Jx4a65c_48 (fun _ h => h) rfl rfl rfl (Nat.le_of_ble_eq_true rfl) dJx4a65c_add_72be8_19 (fun H locs hP hD hS => ?_)
  exact lv_ret hx hb hr hlocks hS ⟨b, hbz, hP⟩ rfl rfl dJx4a65c_add_72be8_22
set_option maxHeartbeats 1000000 in
theorem c_addf {D : va_G} {cI cZ cO : ClassId} {t0 mi : Nat} (l : Launch) (a q ci sz : Nat) (m : Int32) (vs : List Value) (r : vw_C) (hc : vwCl[ci]? = some r) (hr6 : r.1 ∈ [RX0, RX1, RX2, RX3, RX4, RX5]) : Met l yJx4a65c_add_9ea2d (wM yJx4a65c_add_9ea2d cJx4a65c_add_9ea2d 2 (some FieldType.boolean)) { frames := 4, cells := 1, slots := 10, locals := 90 } (LPc D cI cZ cO t0 mi (lA a a sz) sz [.ref a, .ref q] (fun H => va_P D vwCl [lwO a m t0 0] H ∧ q ≠ a ∧ va_at D vwCl (q, .inr (ci, vs)) H))
      (LQi 1 (fun H => ∃ b, sz ≤ b ∧ va_P D vwCl [lwO a (m + nI 1) b 1, lwA cO b 10 (va_up (fun _ => none) 0 (some q))] H) (lA a a sz)) 1 10 (lA a a sz) := by
  refine lm_of rfl (Nat.le_of_ble_eq_true rfl) ?_
  intro p e s m9 below meth c ls X hK hsz hE hF hr hlocks hl
  have X : CallFix p m9 c cJx4a65c_add_9ea2d 2 s _ TB RJx4a65c := X
  have hx := X.1
  have hb := X.2.1
  obtain ⟨hP, hqa, hel⟩ := hF
  have hS : va_S (lA a a sz) s.heap s.heap [] := va_S.rf
  have hl : lv_has ls 2 [(0, .ref a), (1, .ref q)] := hl
  have hD : va_D (lA a a sz) [lwO a m t0 0] := ld1 (Or.inl rfl)
  refine lv_aload_n hx hb dJx4a65c_add_9ea2d_0 rfl (lv_at hl 0 rfl) ?_
  refine lv_dup hx hb dJx4a65c_add_9ea2d_1 rfl ?_
  refine l_get X hK hP 0 rfl 0 (by decide) fw_Jx4a65c_63 (u_same (X.2.2.2.2 _ tw_1_60)) rfl dJx4a65c_add_9ea2d_2 ?_
  refine lv_iconst (v := nI 1) hx hb dJx4a65c_add_9ea2d_5 (by decide) ?_
  refine lv_iadd hx hb dJx4a65c_add_9ea2d_6 ?_
  refine l_put X hK hP hD hS 0 rfl 0 (by decide) fw_Jx4a65c_63 (u_same (X.2.2.2.2 _ tw_1_60)) rfl rfl rfl (Nat.le_of_ble_eq_true rfl) dJx4a65c_add_9ea2d_7 (fun H locs hP hD hS => ?_)
  have hP : va_P D vwCl [lwO a (m + nI 1) t0 0] H := hP
  refine lv_aload_n hx hb dJx4a65c_add_9ea2d_10 rfl (lv_at hl 0 rfl) ?_
  refine lv_aload_n hx hb dJx4a65c_add_9ea2d_11 rfl (lv_at hl 1 rfl) ?_
  refine lv_aload_n hx hb dJx4a65c_add_9ea2d_12 rfl (lv_at hl 0 rfl) ?_
  refine l_get X hK hP 0 rfl 1 (by decide) fw_Jx4a65c_9 (fun _ h => h) rfl dJx4a65c_add_9ea2d_13 ?_
  refine lv_aload_n hx hb dJx4a65c_add_9ea2d_16 rfl (lv_at hl 0 rfl) ?_
  refine l_get X hK hP 0 rfl 2 (by decide) fw_Jx4a65c_48 (fun _ h => h) rfl dJx4a65c_add_9ea2d_17 ?_
  have hle : sz ≤ H.size := by rw [← hsz]; exact hS.1
  have hAA : ∀ x, lA a a H.size x → lA a a sz x := fun x h => h.imp (fun z => z) (fun h => h.imp (fun z => z) (fun z => Nat.le_trans hle z))
  refine va_callv (va_runV (As := [.ref q, .ref t0, .int (nI 0)]) (rest := []) X (c_add3f l a q ci H.size (m + nI 1) vs r hc hr6) (yv_cw X.2.2.2.2 yvJx4a65c_add_72be8 ml_Jx4a65c_131 rfl rfl ⟨Nat.le_of_ble_eq_true rfl, Nat.le_of_ble_eq_true rfl⟩) ⟨lpc_blind, va_recv hK hP kJx4a65c.1 (q0 := 0) rfl, lpc_pre hK ((hE.at hS).narrow hAA) ⟨hP, hqa, el_at hsz hS hqa hqa hel⟩ rfl⟩ rfl rfl hl.1 rfl (lv_room (Nat.le_of_ble_eq_true rfl)) dJx4a65c_add_9ea2d_20 ⟨Nat.le_of_ble_eq_true rfl, Nat.le_of_ble_eq_true rfl⟩) hS (fun x _ h => hAA x h) (fun x h => hAA x h) ?_
  intro u t H1 locs1 ht _ _ hB _ _ hS
  rw [ht] at hB
  refine lv_iconst (v := nI 1) hx hb dJx4a65c_add_9ea2d_23 (by decide) ?_
  obtain ⟨b, hbz, hP⟩ := hB
  exact li_ret hx hb hr rfl hlocks hS rfl ⟨b, Nat.le_trans hle hbz, hP⟩ rfl rfl dJx4a65c_add_9ea2d_24
