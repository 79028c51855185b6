theorem cpy_0 {α : Type} (f g : Nat → α) (a b : Nat) : va_cpy f g a b 0 = g := funext fun k => by
  unfold va_cpy
  rw [if_neg (by omega)]
theorem yi_cw {args : Array Value} {s : State} {R : Room} {own : String} {y : MethodName} {b : ByteArray} {n na idx : Nat} {rm : Room} {mc ms : Nat} (hts : ∀ w ∈ TB, w.before args s = true) (h1 : Cond.instanceMethod y ∈ TB) (h2 : Cond.initialized y.cls ∈ TB) (h3 : Cond.code y b n none ∈ TB) (hl : Cond.methodLink own idx y ∈ TB) (hn : y.name = "<init>") (hd : y.cls ≠ "java/lang/invoke/MethodHandle" ∧ y.cls ≠ "java/lang/invoke/VarHandle" ∧ (parseMethodDescriptor y.desc).map (fun d => d.parameters.length) = some na) (hrc : rm.cells = mc) (hrs : rm.slots = ms) (hR : rm.frames + 1 ≤ R.frames ∧ 8 + (n + 11) + rm.locals ≤ R.locals) : CallB R s args own idx y b n none (wM y b n none) rm mc ms na ∧ y.name = "<init>" ∧ (Cond.instanceMethod y).before args s = true :=
  cwI na hts (wm_in h3) rfl hrc hrs (hts _ h2) (hts _ hl) (hts _ h1) hn hd hR
set_option maxHeartbeats 1000000 in
theorem c_frem {D : va_G} {cI cZ cO : ClassId} {t0 mi : Nat} (l : Launch) (a b n cap i ci sz : Nat) (m : Int32) (f : Nat → Option Nat) (r : vw_C) (hc : vwCl[ci]? = some r) (hr6 : r.1 ∈ [RX0, RX1, RX2, RX3, RX4, RX5]) (hi : i < n) (hn : n ≤ cap) (h5 : cap < 100000) : Met l yJx4a65c_fastRemove_b59b0 (wM yJx4a65c_fastRemove_b59b0 cJx4a65c_fastRemove_b59b0 4 none) { frames := 1, cells := 0, slots := 0, locals := 40 } (LPc D cI cZ cO t0 mi (lA a b sz) sz [.ref a, .ref b, .int (nI i)] (fun H => va_P D vwCl [lwO a m b n, lwA cO b cap f] H ∧ a ≠ b ∧ (∀ i, i < n → ∀ y, f i = some y → y ≠ a ∧ y ≠ b ∧ ∃ vs, va_at D vwCl (y, .inr (ci, vs)) H)))
      (LQv (fun H => va_P D vwCl [lwO a (m + nI 1) b (n - 1), lwA cO b cap (va_up (va_cpy f f (i + 1) i (n - 1 - i)) (n - 1) none)] H) (lA a b sz)) 0 0 (lA a b sz) := by
  refine lm_of rfl (Nat.le_of_ble_eq_true rfl) ?_
  intro p e s m9 below meth c ls X hK hsz hE hF hr hlocks hl
  have X : CallFix p m9 c cJx4a65c_fastRemove_b59b0 4 s _ TB RJx4a65c := X
  have hx := X.1
  have hb := X.2.1
  obtain ⟨hP, hab, hels⟩ := hF
  have hS : va_S (lA a b sz) s.heap s.heap [] := va_S.rf
  have hl : lv_has ls 4 [(0, .ref a), (1, .ref b), (2, .int (nI i))] := hl
  have hD : va_D (lA a b sz) [lwO a m b n, lwA cO b cap f] := ld2 hab (Or.inl rfl) (Or.inr (Or.inl rfl))
  refine lv_aload_n hx hb dJx4a65c_fastRemove_b59b0_0 rfl (lv_at hl 0 rfl) ?_
  refine lv_dup hx hb dJx4a65c_fastRemove_b59b0_1 rfl ?_
  refine l_get X hK hP 0 rfl 0 (by decide) fw_Jx4a65c_63 (u_same (X.2.2.2.2 _ tw_1_60)) rfl dJx4a65c_fastRemove_b59b0_2 ?_
  refine lv_iconst (v := nI 1) hx hb dJx4a65c_fastRemove_b59b0_5 (by decide) ?_
  refine lv_iadd hx hb dJx4a65c_fastRemove_b59b0_6 ?_
  refine l_put X hK hP hD hS 0 rfl 0 (by decide) fw_Jx4a65c_63 (u_same (X.2.2.2.2 _ tw_1_60)) rfl rfl rfl (Nat.le_of_ble_eq_true rfl) dJx4a65c_fastRemove_b59b0_7 (fun H locs hP hD hS => ?_)
  have hP : va_P D vwCl [lwO a (m + nI 1) b n, lwA cO b cap f] H := hP
  have hD : va_D (lA a b sz) [lwO a (m + nI 1) b n, lwA cO b cap f] := hD
  refine lv_aload_n hx hb dJx4a65c_fastRemove_b59b0_10 rfl (lv_at hl 0 rfl) ?_
  refine l_get X hK hP 0 rfl 2 (by decide) fw_Jx4a65c_48 (fun _ h => h) rfl dJx4a65c_fastRemove_b59b0_11 ?_
  refine lv_iconst (v := nI 1) hx hb dJx4a65c_fastRemove_b59b0_14 (by decide) ?_
  refine r_subN hx hb (by omega) dJx4a65c_fastRemove_b59b0_15 ?_
  refine lv_dup hx hb dJx4a65c_fastRemove_b59b0_16 rfl ?_
  refine lv_istore_n (lv' := [(3, .int (nI (n - 1))), (0, .ref a), (1, .ref b), (2, .int (nI i))]) hx hb dJx4a65c_fastRemove_b59b0_17 rfl hl (by decide) rfl (fun ls hl => ?_)
  refine lv_iload_n hx hb dJx4a65c_fastRemove_b59b0_18 rfl (lv_at hl 3 rfl) ?_
  have key : ∀ (H : Heap) (locs : List Loc), va_P D vwCl [lwO a (m + nI 1) b n, lwA cO b cap (va_cpy f f (i + 1) i (n - 1 - i))] H → va_S (lA a b sz) s.heap H locs → W p l e { frames := 1, cells := 0, slots := 0, locals := 40 } s m9 [.ref a, .ref b, .int (nI i)].toArray below meth c H locs 0 0 (MQ below (LQv (fun H => va_P D vwCl [lwO a (m + nI 1) b (n - 1), lwA cO b cap (va_up (va_cpy f f (i + 1) i (n - 1 - i)) (n - 1) none)] H) (lA a b sz)) [.ref a, .ref b, .int (nI i)].toArray s 0 0 (lA a b sz)) (F0 m9 34 ls []) := fun H locs hP hS => by
    have hD : va_D (lA a b sz) [lwO a (m + nI 1) b n, lwA cO b cap (va_cpy f f (i + 1) i (n - 1 - i))] := ld2 hab (Or.inl rfl) (Or.inr (Or.inl rfl))
    refine lv_aload_n hx hb dJx4a65c_fastRemove_b59b0_34 rfl (lv_at hl 2 rfl) ?_
    refine lv_aload_n hx hb dJx4a65c_fastRemove_b59b0_35 rfl (lv_at hl 1 rfl) ?_
    refine lv_iload_n hx hb dJx4a65c_fastRemove_b59b0_36 rfl (lv_at hl 0 rfl) ?_
    refine lv_dup_x1 hx hb dJx4a65c_fastRemove_b59b0_37 rfl rfl ?_
    refine l_put X hK hP hD hS 0 rfl 2 (by decide) fw_Jx4a65c_48 (fun _ h => h) rfl rfl rfl (Nat.le_of_ble_eq_true rfl) dJx4a65c_fastRemove_b59b0_38 (fun H locs hP hD hS => ?_)
    refine lv_null hx hb dJx4a65c_fastRemove_b59b0_41 ?_
    refine va_astqN hx hb hK hP hD hS 1 2 rfl rfl (vp_in_nI (by omega) (by omega)) dJx4a65c_fastRemove_b59b0_42 (fun H locs hP hD hS => ?_)
    rw [nI_clamp (by omega)] at hP
    exact lv_ret hx hb hr hlocks hS hP rfl rfl dJx4a65c_fastRemove_b59b0_43
  refine r_icmp_leN (tgt := 34) hx hb dJx4a65c_fastRemove_b59b0_19 (by decide) (by omega) (by omega) (fun c_19 => ?_) (fun c_19 => ?_)
  · refine key H locs ?_ hS
    rw [show n - 1 - i = 0 by omega, cpy_0]
    exact hP
  · refine lv_aload_n hx hb dJx4a65c_fastRemove_b59b0_22 rfl (lv_at hl 2 rfl) ?_
    refine lv_iload_n hx hb dJx4a65c_fastRemove_b59b0_23 rfl (lv_at hl 3 rfl) ?_
    refine lv_iconst (v := nI 1) hx hb dJx4a65c_fastRemove_b59b0_24 (by decide) ?_
    refine r_addN hx hb dJx4a65c_fastRemove_b59b0_25 ?_
    refine lv_aload_n hx hb dJx4a65c_fastRemove_b59b0_26 rfl (lv_at hl 2 rfl) ?_
    refine lv_iload_n hx hb dJx4a65c_fastRemove_b59b0_27 rfl (lv_at hl 3 rfl) ?_
    refine lv_iload_n hx hb dJx4a65c_fastRemove_b59b0_28 rfl (lv_at hl 0 rfl) ?_
    refine lv_iload_n hx hb dJx4a65c_fastRemove_b59b0_29 rfl (lv_at hl 3 rfl) ?_
    refine r_subN hx hb (by omega) dJx4a65c_fastRemove_b59b0_30 ?_
    have np : ∀ z, z < 100000 → ¬ (nI z < 0) := fun z hz => nI_pos (by omega)
    refine va_copyq hx hb (X.2.2.1.trans hl.1.symm) X.2.2.2.1 (X.2.2.2.2 _ tw_3_202) (X.2.2.2.2 _ tw_1_214) (X.2.2.2.2 _ tw_1_213) (X.2.2.2.2 _ tw_1_11) hK hP hD hS 1 1 2 2 (C := r.1) rfl rfl rfl rfl (sp := nI (i + 1)) (dp := nI i) (n := nI (n - 1 - i)) (np _ (by omega)) (np _ (by omega)) (np _ (by omega)) (by rw [nI_clamp (by omega), nI_clamp (by omega)]; omega) (by rw [nI_clamp (by omega), nI_clamp (by omega)]; omega) (fun j hj y hy => ?_) (hasg_of hE hr6) (Nat.le_of_ble_eq_true rfl) (Nat.le_of_ble_eq_true rfl) dJx4a65c_fastRemove_b59b0_31 (fun H locs hP hD hS => ?_)
    · rw [nI_clamp (by omega)] at hj hy
      obtain ⟨hya, hyb, vs, hv⟩ := hels _ (by omega) y hy
      exact va_recv hK (va_P1 (el_at hsz hS hya hyb hv)) hc (q0 := 0) rfl
    · rw [nI_clamp (by omega), nI_clamp (by omega), nI_clamp (by omega)] at hP
      exact key H locs hP hS
set_option maxHeartbeats 1000000 in
theorem c_rem {D : va_G} {cI cZ cO : ClassId} {t0 mi : Nat} (l : Launch) (a b n cap i v ci sz : Nat) (m : Int32) (f : Nat → Option Nat) (r : vw_C) (hc : vwCl[ci]? = some r) (hr6 : r.1 ∈ [RX0, RX1, RX2, RX3, RX4, RX5]) (hi : i < n) (hn : n ≤ cap) (h5 : cap < 100000) (hv : f i = some v) : Met l yJx4a65c_remove_915e3 (wM yJx4a65c_remove_915e3 cJx4a65c_remove_915e3 4 (some (FieldType.object "java/lang/Object"))) { frames := 3, cells := 0, slots := 0, locals := 100 } (LPc D cI cZ cO t0 mi (lA a b sz) sz [.ref a, .int (nI i)] (fun H => va_P D vwCl [lwO a m b n, lwA cO b cap f] H ∧ a ≠ b ∧ (∀ i, i < n → ∀ y, f i = some y → y ≠ a ∧ y ≠ b ∧ ∃ vs, va_at D vwCl (y, .inr (ci, vs)) H)))
      (LQr (fun x H => x = v ∧ va_P D vwCl [lwO a (m + nI 1) b (n - 1), lwA cO b cap (va_up (va_cpy f f (i + 1) i (n - 1 - i)) (n - 1) none)] H) (lA a b sz)) 0 0 (lA a b sz) := by
  refine lm_of rfl (Nat.le_of_ble_eq_true rfl) ?_
  intro p e s m9 below meth c ls X hK hsz hE hF hr hlocks hl
  have X : CallFix p m9 c cJx4a65c_remove_915e3 4 s _ TB RJx4a65c := X
  have hx := X.1
  have hb := X.2.1
  obtain ⟨hP, hab, hels⟩ := hF
  have hS : va_S (lA a b sz) s.heap s.heap [] := va_S.rf
  have hl : lv_has ls 4 [(0, .ref a), (1, .int (nI i))] := hl
  refine lv_iload_n hx hb dJx4a65c_remove_915e3_0 rfl (lv_at hl 1 rfl) ?_
  refine lv_aload_n hx hb dJx4a65c_remove_915e3_1 rfl (lv_at hl 0 rfl) ?_
  refine l_get X hK hP 0 rfl 2 (by decide) fw_Jx4a65c_48 (fun _ h => h) rfl dJx4a65c_remove_915e3_2 ?_
  refine r_pure X hK hS (fun q h => Or.inr (Or.inr (by rw [← hsz]; exact h))) ysJ15_checkIndex_7cf53 ml_Jx4a65c_118 [.int (nI i), .int (nI n)] [] (fun L σ ow => c_J15_checkIndex_7cf53 l L σ ow i n hi (by omega)) rfl hl.1 rfl (Nat.le_of_ble_eq_true rfl) ⟨Nat.le_of_ble_eq_true rfl, Nat.le_of_ble_eq_true rfl⟩ ⟨Nat.zero_le _, Nat.zero_le _⟩ dJx4a65c_remove_915e3_5 (fun H locs hq hS => ?_)
  have hP := hP.kept (H1 := H) (fun k x hk => hq _ (hP k x hk).lt)
  refine lv_pop hx hb dJx4a65c_remove_915e3_8 rfl ?_
  refine lv_aload_n hx hb dJx4a65c_remove_915e3_9 rfl (lv_at hl 0 rfl) ?_
  refine l_get X hK hP 0 rfl 1 (by decide) fw_Jx4a65c_9 (fun _ h => h) rfl dJx4a65c_remove_915e3_10 ?_
  refine lv_astore_n (lv' := [(2, .ref b), (0, .ref a), (1, .int (nI i))]) hx hb dJx4a65c_remove_915e3_13 rfl hl (by decide) rfl (fun ls hl => ?_)
  refine lv_aload_n hx hb dJx4a65c_remove_915e3_14 rfl (lv_at hl 0 rfl) ?_
  refine lv_iload_n hx hb dJx4a65c_remove_915e3_15 rfl (lv_at hl 2 rfl) ?_
  refine va_aldq hx hb hK hP 1 2 rfl rfl (vp_in_nI (by omega) (by omega)) dJx4a65c_remove_915e3_16 ?_
  rw [nI_clamp (by omega), hv]
  refine lv_astore_n (lv' := [(3, .ref v), (2, .ref b), (0, .ref a), (1, .int (nI i))]) hx hb dJx4a65c_remove_915e3_17 rfl hl (by decide) rfl (fun ls hl => ?_)
  refine lv_aload_n hx hb dJx4a65c_remove_915e3_18 rfl (lv_at hl 2 rfl) ?_
  refine lv_aload_n hx hb dJx4a65c_remove_915e3_19 rfl (lv_at hl 1 rfl) ?_
  refine lv_iload_n hx hb dJx4a65c_remove_915e3_20 rfl (lv_at hl 3 rfl) ?_
  have hle : sz ≤ H.size := by rw [← hsz]; exact hS.1
  have hAA : ∀ x, lA a b H.size x → lA a b sz x := fun x h => h.imp (fun z => z) (fun h => h.imp (fun z => z) (fun z => Nat.le_trans hle z))
  refine va_callv (va_runV (As := [.ref b, .int (nI i)]) (rest := []) X (c_frem l a b n cap i ci H.size m f r hc hr6 hi hn h5) (yv_cw X.2.2.2.2 yvJx4a65c_fastRemove_b59b0 ml_Jx4a65c_144 rfl rfl ⟨Nat.le_of_ble_eq_true rfl, Nat.le_of_ble_eq_true rfl⟩) ⟨lpc_blind, va_recv hK hP kJx4a65c.1 (q0 := 0) rfl, lpc_pre hK ((hE.at hS).narrow hAA) ⟨hP, hab, fun i hi y hy => ⟨(hels i hi y hy).1, (hels i hi y hy).2.1, els_at hsz hS (hels i hi y hy).1 (hels i hi y hy).2.1 (hels i hi y hy).2.2⟩⟩ rfl⟩ rfl rfl hl.1 rfl (lv_room (Nat.le_of_ble_eq_true rfl)) dJx4a65c_remove_915e3_21 ⟨Nat.le_of_ble_eq_true rfl, Nat.le_of_ble_eq_true rfl⟩) hS (fun x _ h => hAA x h) (fun x h => hAA x h) ?_
  intro u t H1 locs1 ht _ _ hB _ _ hS
  rw [ht] at hB
  refine lv_aload_n hx hb dJx4a65c_remove_915e3_24 rfl (lv_at hl 0 rfl) ?_
  exact lr_ret hx hb hr (Or.inl ⟨_, rfl⟩) hlocks hS ⟨rfl, hB⟩ rfl rfl dJx4a65c_remove_915e3_25
set_option maxHeartbeats 1000000 in
theorem c_clr0 {D : va_G} {cI cZ cO : ClassId} {t0 mi : Nat} (l : Launch) (a sz : Nat) (m : Int32) : Met l yJx4a65c_clear_da8c8 (wM yJx4a65c_clear_da8c8 cJx4a65c_clear_da8c8 4 none) { frames := 0, cells := 0, slots := 0, locals := 0 } (LPc D cI cZ cO t0 mi (lA a a sz) sz [.ref a] (fun H => va_P D vwCl [lwO a m t0 0] H))
      (LQv (fun H => va_P D vwCl [lwO a (m + nI 1) t0 0] H) (lA a a sz)) 0 0 (lA a a sz) := by
  refine lm_of rfl (Nat.le_of_ble_eq_true rfl) ?_
  intro p e s m9 below meth c ls X hK hsz hE hF hr hlocks hl
  have X : CallFix p m9 c cJx4a65c_clear_da8c8 4 s _ TB RJx4a65c := X
  have hx := X.1
  have hb := X.2.1
  have hP := hF
  have hS : va_S (lA a a sz) s.heap s.heap [] := va_S.rf
  have hl : lv_has ls 4 [(0, .ref a)] := hl
  have hD : va_D (lA a a sz) [lwO a m t0 0] := ld1 (Or.inl rfl)
  refine lv_aload_n hx hb dJx4a65c_clear_da8c8_0 rfl (lv_at hl 0 rfl) ?_
  refine lv_dup hx hb dJx4a65c_clear_da8c8_1 rfl ?_
  refine l_get X hK hP 0 rfl 0 (by decide) fw_Jx4a65c_63 (u_same (X.2.2.2.2 _ tw_1_60)) rfl dJx4a65c_clear_da8c8_2 ?_
  refine lv_iconst (v := nI 1) hx hb dJx4a65c_clear_da8c8_5 (by decide) ?_
  refine lv_iadd hx hb dJx4a65c_clear_da8c8_6 ?_
  refine l_put X hK hP hD hS 0 rfl 0 (by decide) fw_Jx4a65c_63 (u_same (X.2.2.2.2 _ tw_1_60)) rfl rfl rfl (Nat.le_of_ble_eq_true rfl) dJx4a65c_clear_da8c8_7 (fun H locs hP hD hS => ?_)
  refine lv_aload_n hx hb dJx4a65c_clear_da8c8_10 rfl (lv_at hl 0 rfl) ?_
  refine l_get X hK hP 0 rfl 1 (by decide) fw_Jx4a65c_9 (fun _ h => h) rfl dJx4a65c_clear_da8c8_11 ?_
  refine lv_astore_n (lv' := [(1, .ref t0), (0, .ref a)]) hx hb dJx4a65c_clear_da8c8_14 rfl hl (by decide) rfl (fun ls hl => ?_)
  refine lv_aload_n hx hb dJx4a65c_clear_da8c8_15 rfl (lv_at hl 1 rfl) ?_
  refine l_get X hK hP 0 rfl 2 (by decide) fw_Jx4a65c_48 (fun _ h => h) rfl dJx4a65c_clear_da8c8_16 ?_
  refine lv_istore_n (lv' := [(2, .int (nI 0)), (1, .ref t0), (0, .ref a)]) hx hb dJx4a65c_clear_da8c8_19 rfl hl (by decide) rfl (fun ls hl => ?_)
  refine lv_aload_n hx hb dJx4a65c_clear_da8c8_20 rfl (lv_at hl 2 rfl) ?_
  refine lv_iconst (v := nI 0) hx hb dJx4a65c_clear_da8c8_21 (by decide) ?_
  refine lv_dup_x1 hx hb dJx4a65c_clear_da8c8_22 rfl rfl ?_
  refine l_put X hK hP hD hS 0 rfl 2 (by decide) fw_Jx4a65c_48 (fun _ h => h) rfl rfl rfl (Nat.le_of_ble_eq_true rfl) dJx4a65c_clear_da8c8_23 (fun H locs hP hD hS => ?_)
  refine lv_istore_n (lv' := [(3, .int (nI 0)), (2, .int (nI 0)), (1, .ref t0), (0, .ref a)]) hx hb dJx4a65c_clear_da8c8_26 rfl hl (by decide) rfl (fun ls hl => ?_)
  refine lv_iload_n hx hb dJx4a65c_clear_da8c8_27 rfl (lv_at hl 0 rfl) ?_
  refine lv_iload_n hx hb dJx4a65c_clear_da8c8_28 rfl (lv_at hl 1 rfl) ?_
  refine r_icmp_geN (tgt := 42) hx hb dJx4a65c_clear_da8c8_29 (by decide) (by decide) (by decide) (fun c_29 => ?_) (fun c_29 => absurd c_29 (by decide))
  exact lv_ret hx hb hr hlocks hS hP rfl rfl dJx4a65c_clear_da8c8_42
theorem r_loopS {A : Nat → Prop} {p : Program} {l : Launch} {e : Env} {R : Room} {s : State} {m : MethodId} {args : Array Value} {below : List Frame} {meth : Method} {c : Code} {H H0 : Heap} {locs : List Loc} {cells slots : Nat} {Q : State → Prop} {pc nL : Nat} {ls : Array Slot} (Φ : Nat → Heap → Prop) (lvf : Nat → List (Nat × Value)) (N : Nat) (hΦ : Φ 0 H) (hS : va_S A H0 H locs) (hl : lv_has ls nL (lvf 0))
    (step : ∀ k, k ≤ N → (k < N → ∀ (H : Heap) (locs : List Loc) (ls : Array Slot), Φ (k + 1) H → va_S A H0 H locs → lv_has ls nL (lvf (k + 1)) → W p l e R s m args below meth c H locs cells slots Q (F0 m pc ls [])) → ∀ (H : Heap) (locs : List Loc) (ls : Array Slot), Φ k H → va_S A H0 H locs → lv_has ls nL (lvf k) → W p l e R s m args below meth c H locs cells slots Q (F0 m pc ls [])) : W p l e R s m args below meth c H locs cells slots Q (F0 m pc ls []) := by
  have key : ∀ d k, k ≤ N → N - k = d → ∀ (H : Heap) (locs : List Loc) (ls : Array Slot), Φ k H → va_S A H0 H locs → lv_has ls nL (lvf k) → W p l e R s m args below meth c H locs cells slots Q (F0 m pc ls []) := by
    intro d
    induction d with
    | zero => exact fun k hk hd => step k hk (fun h => absurd h (by omega))
    | succ d ih => exact fun k hk hd => step k hk (fun h => ih (k + 1) h (by omega))
  exact key N 0 (Nat.zero_le _) rfl H locs ls hΦ hS hl
set_option maxHeartbeats 1000000 in
theorem c_clr {D : va_G} {cI cZ cO : ClassId} {t0 mi : Nat} (l : Launch) (a b n cap sz : Nat) (m : Int32) (f : Nat → Option Nat) (hn : n ≤ cap) (h5 : cap < 100000) : Met l yJx4a65c_clear_da8c8 (wM yJx4a65c_clear_da8c8 cJx4a65c_clear_da8c8 4 none) { frames := 0, cells := 0, slots := 0, locals := 0 } (LPc D cI cZ cO t0 mi (lA a b sz) sz [.ref a] (fun H => va_P D vwCl [lwO a m b n, lwA cO b cap f] H ∧ a ≠ b))
      (LQv (fun H => va_P D vwCl [lwO a (m + nI 1) b 0, lwA cO b cap (fun j => if j < n then none else f j)] H) (lA a b sz)) 0 0 (lA a b sz) := by
  refine lm_of rfl (Nat.le_of_ble_eq_true rfl) ?_
  intro p e s m9 below meth c ls X hK hsz hE hF hr hlocks hl
  have X : CallFix p m9 c cJx4a65c_clear_da8c8 4 s _ TB RJx4a65c := X
  have hx := X.1
  have hb := X.2.1
  obtain ⟨hP, hab⟩ := hF
  have hS : va_S (lA a b sz) s.heap s.heap [] := va_S.rf
  have hl : lv_has ls 4 [(0, .ref a)] := hl
  have hD : va_D (lA a b sz) [lwO a m b n, lwA cO b cap f] := ld2 hab (Or.inl rfl) (Or.inr (Or.inl rfl))
  refine lv_aload_n hx hb dJx4a65c_clear_da8c8_0 rfl (lv_at hl 0 rfl) ?_
  refine lv_dup hx hb dJx4a65c_clear_da8c8_1 rfl ?_
  refine l_get X hK hP 0 rfl 0 (by decide) fw_Jx4a65c_63 (u_same (X.2.2.2.2 _ tw_1_60)) rfl dJx4a65c_clear_da8c8_2 ?_
  refine lv_iconst (v := nI 1) hx hb dJx4a65c_clear_da8c8_5 (by decide) ?_
  refine lv_iadd hx hb dJx4a65c_clear_da8c8_6 ?_
  refine l_put X hK hP hD hS 0 rfl 0 (by decide) fw_Jx4a65c_63 (u_same (X.2.2.2.2 _ tw_1_60)) rfl rfl rfl (Nat.le_of_ble_eq_true rfl) dJx4a65c_clear_da8c8_7 (fun H locs hP hD hS => ?_)
  refine lv_aload_n hx hb dJx4a65c_clear_da8c8_10 rfl (lv_at hl 0 rfl) ?_
  refine l_get X hK hP 0 rfl 1 (by decide) fw_Jx4a65c_9 (fun _ h => h) rfl dJx4a65c_clear_da8c8_11 ?_
  refine lv_astore_n (lv' := [(1, .ref b), (0, .ref a)]) hx hb dJx4a65c_clear_da8c8_14 rfl hl (by decide) rfl (fun ls hl => ?_)
  refine lv_aload_n hx hb dJx4a65c_clear_da8c8_15 rfl (lv_at hl 1 rfl) ?_
  refine l_get X hK hP 0 rfl 2 (by decide) fw_Jx4a65c_48 (fun _ h => h) rfl dJx4a65c_clear_da8c8_16 ?_
  refine lv_istore_n (lv' := [(2, .int (nI n)), (1, .ref b), (0, .ref a)]) hx hb dJx4a65c_clear_da8c8_19 rfl hl (by decide) rfl (fun ls hl => ?_)
  refine lv_aload_n hx hb dJx4a65c_clear_da8c8_20 rfl (lv_at hl 2 rfl) ?_
  refine lv_iconst (v := nI 0) hx hb dJx4a65c_clear_da8c8_21 (by decide) ?_
  refine lv_dup_x1 hx hb dJx4a65c_clear_da8c8_22 rfl rfl ?_
  refine l_put X hK hP hD hS 0 rfl 2 (by decide) fw_Jx4a65c_48 (fun _ h => h) rfl rfl rfl (Nat.le_of_ble_eq_true rfl) dJx4a65c_clear_da8c8_23 (fun H locs hP hD hS => ?_)
  refine lv_istore_n (lv' := [(3, .int (nI 0)), (2, .int (nI n)), (1, .ref b), (0, .ref a)]) hx hb dJx4a65c_clear_da8c8_26 rfl hl (by decide) rfl (fun ls hl => ?_)
  refine r_loopS (fun k H => va_P D vwCl [lwO a (m + nI 1) b 0, lwA cO b cap (fun j => if j < k then none else f j)] H) (fun k => [(3, .int (nI k)), (2, .int (nI n)), (1, .ref b), (0, .ref a)]) n ?_ hS hl ?_
  · have e : (fun j => if j < 0 then none else f j) = f := funext fun j => if_neg (Nat.not_lt_zero j)
    rw [e]
    exact hP
  intro k hk ih H locs ls hP hS hl
  have hl : lv_has ls 4 [(3, .int (nI k)), (2, .int (nI n)), (1, .ref b), (0, .ref a)] := hl
  refine lv_iload_n hx hb dJx4a65c_clear_da8c8_27 rfl (lv_at hl 0 rfl) ?_
  refine lv_iload_n hx hb dJx4a65c_clear_da8c8_28 rfl (lv_at hl 1 rfl) ?_
  refine r_icmp_geN (tgt := 42) hx hb dJx4a65c_clear_da8c8_29 (by decide) (by omega) (by omega) (fun c_29 => ?_) (fun c_29 => ?_)
  · have ek : k = n := by omega
    refine lv_ret hx hb hr hlocks hS ?_ rfl rfl dJx4a65c_clear_da8c8_42
    show va_P D vwCl [lwO a (m + nI 1) b 0, lwA cO b cap (fun j => if j < n then none else f j)] H
    rw [← ek]
    exact hP
  · have hD : va_D (lA a b sz) [lwO a (m + nI 1) b 0, lwA cO b cap (fun j => if j < k then none else f j)] := ld2 hab (Or.inl rfl) (Or.inr (Or.inl rfl))
    refine lv_aload_n hx hb dJx4a65c_clear_da8c8_32 rfl (lv_at hl 2 rfl) ?_
    refine lv_iload_n hx hb dJx4a65c_clear_da8c8_33 rfl (lv_at hl 0 rfl) ?_
    refine lv_null hx hb dJx4a65c_clear_da8c8_34 ?_
    refine va_astqN hx hb hK hP hD hS 1 2 rfl rfl (vp_in_nI (by omega) (by omega)) dJx4a65c_clear_da8c8_35 (fun H locs hP hD hS => ?_)
    rw [nI_clamp (by omega)] at hP
    have e : va_up (fun j => if j < k then none else f j) k none = (fun j => if j < k + 1 then none else f j) := funext fun j => by
      unfold va_up
      by_cases h : j = k
      · rw [if_pos h, if_pos (by omega)]
      · rw [if_neg h]
        show (if j < k then none else f j) = _
        by_cases h2 : j < k
        · rw [if_pos h2, if_pos (by omega)]
        · rw [if_neg h2, if_neg (by omega)]
    rw [e] at hP
    refine r_iincN (b := 1) (lv' := [(3, .int (nI (k + 1))), (2, .int (nI n)), (1, .ref b), (0, .ref a)]) hx hb dJx4a65c_clear_da8c8_36 hl (k := 0) rfl (by decide) (by decide) rfl (fun ls hl => ?_)
    refine lv_goto (tgt := 27) hx hb dJx4a65c_clear_da8c8_39 (by decide) ?_
    exact ih c_29 H locs ls hP hS hl
set_option maxHeartbeats 1000000 in
theorem c_icoll {D : va_G} {cI cZ cO : ClassId} {t0 mi : Nat} (l : Launch) (a sz : Nat) : Met l yJxa1e45_init_da8c8 (wM yJxa1e45_init_da8c8 cJxa1e45_init_da8c8 1 none) { frames := 1, cells := 0, slots := 0, locals := 12 } (LPc D cI cZ cO t0 mi (lA a a sz) sz [.ref a] (fun H => va_P D vwCl [(a, .inr (0, [.int 0, .null, .int 0]))] H))
      (LQv (fun H => va_P D vwCl [(a, .inr (0, [.int 0, .null, .int 0]))] H) (lA a a sz)) 0 0 (lA a a sz) := by
  refine lm_of rfl (Nat.le_of_ble_eq_true rfl) ?_
  intro p e s m9 below meth c ls X hK hsz hE hF hr hlocks hl
  have X : CallFix p m9 c cJxa1e45_init_da8c8 1 s _ TB RJxa1e45 := X
  have hx := X.1
  have hb := X.2.1
  have hP := hF
  have hS : va_S (lA a a sz) s.heap s.heap [] := va_S.rf
  have hl : lv_has ls 1 [(0, .ref a)] := hl
  have hD : va_D (lA a a sz) [(a, .inr (0, [.int 0, .null, .int 0]))] := ld1 (Or.inl rfl)
  refine lv_aload_n hx hb dJxa1e45_init_da8c8_0 rfl (lv_at hl 0 rfl) ?_
  refine W.objInit hx hb X.2.2.2.1 (X.2.2.2.2 _ tw_1_53) (X.2.2.2.2 _ tw_1_40) (X.2.2.2.2 _ tw_1_41) rfl (hl.1.trans X.2.2.1.symm) rfl dJxa1e45_init_da8c8_1 (Nat.le_of_ble_eq_true rfl) (Nat.le_of_ble_eq_true rfl) ?_
  refine W.eq (g2 := F0 m9 4 ls []) rfl ?_
  exact lv_ret hx hb hr hlocks hS hP rfl rfl dJxa1e45_init_da8c8_4
set_option maxHeartbeats 1000000 in
theorem c_ilist {D : va_G} {cI cZ cO : ClassId} {t0 mi : Nat} (l : Launch) (a sz : Nat) : Met l yJxc12de_init_da8c8 (wM yJxc12de_init_da8c8 cJxc12de_init_da8c8 1 none) { frames := 2, cells := 0, slots := 0, locals := 40 } (LPc D cI cZ cO t0 mi (lA a a sz) sz [.ref a] (fun H => va_P D vwCl [(a, .inr (0, [.int 0, .null, .int 0]))] H))
      (LQv (fun H => va_P D vwCl [(a, .inr (0, [.int 0, .null, .int 0]))] H) (lA a a sz)) 0 0 (lA a a sz) := by
  refine lm_of rfl (Nat.le_of_ble_eq_true rfl) ?_
  intro p e s m9 below meth c ls X hK hsz hE hF hr hlocks hl
  have X : CallFix p m9 c cJxc12de_init_da8c8 1 s _ TB RJxc12de := X
  have hx := X.1
  have hb := X.2.1
  have hP := hF
  have hS : va_S (lA a a sz) s.heap s.heap [] := va_S.rf
  have hl : lv_has ls 1 [(0, .ref a)] := hl
  have hD : va_D (lA a a sz) [(a, .inr (0, [.int 0, .null, .int 0]))] := ld1 (Or.inl rfl)
  refine lv_aload_n hx hb dJxc12de_init_da8c8_0 rfl (lv_at hl 0 rfl) ?_
  have hAA : ∀ x, lA a a s.heap.size x → lA a a sz x := fun x h => by rw [hsz] at h; exact h
  refine va_callv (va_runI (As := []) (rest := []) X (c_icoll l a s.heap.size) (yi_cw X.2.2.2.2 tw_1_51 tw_1_2 tw_1_52 tw_1_50 rfl ⟨by decide +kernel, by decide +kernel, by decide +kernel⟩ rfl rfl ⟨Nat.le_of_ble_eq_true rfl, Nat.le_of_ble_eq_true rfl⟩) ⟨lpc_blind, lpc_pre hK (hE.narrow hAA) hP rfl⟩ rfl rfl hl.1 rfl (lv_room (Nat.le_of_ble_eq_true rfl)) dJxc12de_init_da8c8_1 ⟨Nat.le_refl _, Nat.le_refl _⟩) hS (fun x _ h => hAA x h) (fun x h => hAA x h) ?_
  intro u t H1 locs1 ht _ _ hB _ _ hS
  rw [ht] at hB
  have hP := hB
  refine lv_aload_n hx hb dJxc12de_init_da8c8_4 rfl (lv_at hl 0 rfl) ?_
  refine lv_iconst (v := nI 0) hx hb dJxc12de_init_da8c8_5 (by decide) ?_
  refine va_put hx hb X.2.2.2.2 kJx4a65c.2.1 tyJx4a65c kJx4a65c.2.2.1 kJx4a65c.2.2.2 X.2.2.2.1 hK hP hD hS 0 rfl kJx4a65c.1 0 (by decide) (X.2.2.2.2 _ tw_1_58) (fun _ h => h) rfl (kJx4a65c.2.2.1 0 (by decide)) rfl rfl (Nat.le_of_ble_eq_true rfl) dJxc12de_init_da8c8_6 (fun H locs hP hD hS => ?_)
  exact lv_ret hx hb hr hlocks hS hP rfl rfl dJxc12de_init_da8c8_9
set_option maxHeartbeats 1000000 in
theorem c_iarr {D : va_G} {cI cZ cO : ClassId} {t0 mi : Nat} (l : Launch) (a sz : Nat) : Met l yJx4a65c_init_da8c8 (wM yJx4a65c_init_da8c8 cJx4a65c_init_da8c8 1 none) { frames := 3, cells := 0, slots := 0, locals := 70 } (LPc D cI cZ cO t0 mi (lA a a sz) sz [.ref a] (fun H => va_P D vwCl [(a, .inr (0, [.int 0, .null, .int 0]))] H))
      (LQv (fun H => va_P D vwCl [(a, .inr (0, [.int 0, .ref t0, .int 0]))] H) (lA a a sz)) 0 0 (lA a a sz) := by
  refine lm_of rfl (Nat.le_of_ble_eq_true rfl) ?_
  intro p e s m9 below meth c ls X hK hsz hE hF hr hlocks hl
  have X : CallFix p m9 c cJx4a65c_init_da8c8 1 s _ TB RJx4a65c := X
  have hx := X.1
  have hb := X.2.1
  have hP := hF
  have hS : va_S (lA a a sz) s.heap s.heap [] := va_S.rf
  have hl : lv_has ls 1 [(0, .ref a)] := hl
  have hD : va_D (lA a a sz) [(a, .inr (0, [.int 0, .null, .int 0]))] := ld1 (Or.inl rfl)
  refine lv_aload_n hx hb dJx4a65c_init_da8c8_0 rfl (lv_at hl 0 rfl) ?_
  have hAA : ∀ x, lA a a s.heap.size x → lA a a sz x := fun x h => by rw [hsz] at h; exact h
  refine va_callv (va_runI (As := []) (rest := []) X (c_ilist l a s.heap.size) (yi_cw X.2.2.2.2 tw_1_48 tw_1_3 tw_1_49 tw_1_47 rfl ⟨by decide +kernel, by decide +kernel, by decide +kernel⟩ rfl rfl ⟨Nat.le_of_ble_eq_true rfl, Nat.le_of_ble_eq_true rfl⟩) ⟨lpc_blind, lpc_pre hK (hE.narrow hAA) hP rfl⟩ rfl rfl hl.1 rfl (lv_room (Nat.le_of_ble_eq_true rfl)) dJx4a65c_init_da8c8_1 ⟨Nat.le_refl _, Nat.le_refl _⟩) hS (fun x _ h => hAA x h) (fun x h => hAA x h) ?_
  intro u t H1 locs1 ht _ _ hB _ _ hS
  rw [ht] at hB
  have hP := hB
  refine lv_aload_n hx hb dJx4a65c_init_da8c8_4 rfl (lv_at hl 0 rfl) ?_
  refine va_gets hx hb hE.1 hS X.2.2.2.1 (X.2.2.2.2 _ tw_1_54) (fun _ h => h) dJx4a65c_init_da8c8_5 ?_
  refine l_put X hK hP hD hS 0 rfl 1 (by decide) fw_Jx4a65c_9 (fun _ h => h) rfl rfl rfl (Nat.le_of_ble_eq_true rfl) dJx4a65c_init_da8c8_8 (fun H locs hP hD hS => ?_)
  exact lv_ret hx hb hr hlocks hS hP rfl rfl dJx4a65c_init_da8c8_11
