/-! the two constructors that make lists -/
set_option maxRecDepth 100000 in
set_option maxHeartbeats 4000000 in
theorem nX7_init {D : va_G} {cI cZ cO : ClassId} {t0 mi : Nat} (l : Launch) (a sz : Nat) (haz : a < sz) : Met l yX7_init (wM yX7_init cX7_init 1 none) { frames := 5, cells := 4, slots := 15, locals := 150 } (CPE D cI cZ cO t0 mi a 7 sz [.ref a]) (CQE (fun H => ∃ b1 b2 b3 b4, WQ D [(b1, eLst t0), (b2, eLst t0), (b3, eRow cI 6), (b4, eRow cI 3)] a sz H ∧ va_at D vwCl (a, .inr (vix 7, [.ref b1, .ref b2, .ref b3, .ref b4, .int 0, .int 0, .int 0, .int 0, .int 0, .int 0, .int 0])) H) a sz) 4 15 (oN a sz) := by
  refine ce_of (b := cX7_init) (n := 1) rfl (Nat.le_of_ble_eq_true rfl) ?_
  intro p e s m below meth c ls X hK hsz hat hE hX9 hr hlocks hin hl
  have X : CallFix p m c cX7_init 1 s _ TB RX7 := X
  have hx := X.1
  have hb := X.2.1
  have hS : va_S (oN a sz) s.heap s.heap [] := va_S.rf
  have hA : ∀ q, sz ≤ q → oN a sz q := fun _ h => Or.inr h
  have hl : lv_has ls 1 [(0, .ref a)] := hl
  have hat : va_at D vwCl (a, .inr (vix 7, [.null, .null, .null, .null, .int 0, .int 0, .int 0, .int 0, .int 0, .int 0, .int 0])) s.heap := hat
  have hW : WQ D [] a sz s.heap := ⟨fun i x h => by simp at h, List.Pairwise.nil, fun x h => absurd h List.not_mem_nil, haz, Nat.le_of_eq hsz.symm⟩
  refine lv_aload_n hx hb dX7_init_0 rfl (lv_at hl 0 rfl) ?_
  refine W.objInit hx hb X.2.2.2.1 (X.2.2.2.2 _ tw_1_73) (X.2.2.2.2 _ tw_1_40) (X.2.2.2.2 _ tw_1_41) rfl (hl.1.trans X.2.2.1.symm) rfl dX7_init_1 (Nat.le_of_ble_eq_true rfl) (Nat.le_of_ble_eq_true rfl) ?_
  refine W.eq (g2 := F0 m 4 ls []) rfl ?_
  refine lv_aload_n hx hb dX7_init_4 rfl (lv_at hl 0 rfl) ?_
  refine q_list (C := 7) (rest := [.ref a]) X hK hE hW hat hS hA (ix := 9) (ic := 11) tw_1_74 tw_1_75 hl.1 (Nat.le_of_ble_eq_true rfl) ⟨Nat.le_of_ble_eq_true rfl, Nat.le_of_ble_eq_true rfl⟩ ⟨Nat.le_of_ble_eq_true rfl, Nat.le_of_ble_eq_true rfl⟩ dX7_init_5 dX7_init_8 dX7_init_9 (fun b1 H locs hW hat hS => ?_)
  refine q_put kX7 X hK hW hat hS (Or.inl rfl) 0 (by decide) fw_X7_12 (fun _ h => h) (Or.inr ⟨rfl, hin, rfl⟩) (kX7.2.2.1 0 (by decide)) rfl rfl (Nat.le_of_ble_eq_true rfl) dX7_init_12 (fun H locs hW hat hS => ?_)
  have hat : va_at D vwCl (a, .inr (vix 7, [.ref b1, .null, .null, .null, .int 0, .int 0, .int 0, .int 0, .int 0, .int 0, .int 0])) H := hat
  have hW : WQ D [(b1, eLst t0)] a sz H := hW
  refine lv_aload_n hx hb dX7_init_15 rfl (lv_at hl 0 rfl) ?_
  refine q_list (C := 7) (rest := [.ref a]) X hK hE hW hat hS hA (ix := 9) (ic := 11) tw_1_74 tw_1_75 hl.1 (Nat.le_of_ble_eq_true rfl) ⟨Nat.le_of_ble_eq_true rfl, Nat.le_of_ble_eq_true rfl⟩ ⟨Nat.le_of_ble_eq_true rfl, Nat.le_of_ble_eq_true rfl⟩ dX7_init_16 dX7_init_19 dX7_init_20 (fun b2 H locs hW hat hS => ?_)
  refine q_put kX7 X hK hW hat hS (Or.inl rfl) 1 (by decide) fw_X7_18 (fun _ h => h) (Or.inr ⟨rfl, hin, rfl⟩) (kX7.2.2.1 1 (by decide)) rfl rfl (Nat.le_of_ble_eq_true rfl) dX7_init_23 (fun H locs hW hat hS => ?_)
  have hat : va_at D vwCl (a, .inr (vix 7, [.ref b1, .ref b2, .null, .null, .int 0, .int 0, .int 0, .int 0, .int 0, .int 0, .int 0])) H := hat
  have hW : WQ D [(b1, eLst t0), (b2, eLst t0)] a sz H := hW
  refine lv_aload_n hx hb dX7_init_26 rfl (lv_at hl 0 rfl) ?_
  refine lv_bipush (v := nI 6) hx hb dX7_init_27 (by decide) ?_
  refine q_row (C := 7) (N := 6) X hK hW hat hS (by decide) ⟨Nat.le_of_ble_eq_true rfl, Nat.le_of_ble_eq_true rfl⟩ dX7_init_29 (fun b3 H locs hW hat hS => ?_)
  refine q_put kX7 X hK hW hat hS (Or.inl rfl) 2 (by decide) fw_X7_21 (fun _ h => h) (Or.inr ⟨rfl, hin, rfl⟩) (kX7.2.2.1 2 (by decide)) rfl rfl (Nat.le_of_ble_eq_true rfl) dX7_init_31 (fun H locs hW hat hS => ?_)
  have hat : va_at D vwCl (a, .inr (vix 7, [.ref b1, .ref b2, .ref b3, .null, .int 0, .int 0, .int 0, .int 0, .int 0, .int 0, .int 0])) H := hat
  have hW : WQ D [(b1, eLst t0), (b2, eLst t0), (b3, eRow cI 6)] a sz H := hW
  refine lv_aload_n hx hb dX7_init_34 rfl (lv_at hl 0 rfl) ?_
  refine lv_iconst (v := nI 3) hx hb dX7_init_35 (by decide) ?_
  refine q_row (C := 7) (N := 3) X hK hW hat hS (by decide) ⟨Nat.le_of_ble_eq_true rfl, Nat.le_of_ble_eq_true rfl⟩ dX7_init_36 (fun b4 H locs hW hat hS => ?_)
  refine q_put kX7 X hK hW hat hS (Or.inl rfl) 3 (by decide) fw_X7_25 (fun _ h => h) (Or.inr ⟨rfl, hin, rfl⟩) (kX7.2.2.1 3 (by decide)) rfl rfl (Nat.le_of_ble_eq_true rfl) dX7_init_38 (fun H locs hW hat hS => ?_)
  have hat : va_at D vwCl (a, .inr (vix 7, [.ref b1, .ref b2, .ref b3, .ref b4, .int 0, .int 0, .int 0, .int 0, .int 0, .int 0, .int 0])) H := hat
  have hW : WQ D [(b1, eLst t0), (b2, eLst t0), (b3, eRow cI 6), (b4, eRow cI 3)] a sz H := hW
  exact ce_ret hx hb hr hlocks ⟨b1, b2, b3, b4, hW, hat⟩ hS (Nat.le_of_ble_eq_true rfl) (Nat.le_of_ble_eq_true rfl) dX7_init_41
