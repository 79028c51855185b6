theorem hasg_of {t0 mi : Nat} {A : Nat → Prop} {s : State} {H0 : Heap} {r : vw_C} (hE : EE t0 mi A s H0) (hr : r.1 ∈ [RX0, RX1, RX2, RX3, RX4, RX5]) : ∀ comp c0 : ClassId, s.vm.findClass "java/lang/Object" = some comp → s.vm.findClass r.1 = some c0 → s.vm.assignable c0 comp = true := fun comp c0 h1 h2 => by
  obtain ⟨c1, t1, f1, f2, f3⟩ := Cond.castable_spec (va_Nw.use (A := #[]) rfl (hE.2.2.2.2.2 r.1 hr))
  cases h2.symm.trans f1
  cases h1.symm.trans f2
  exact f3
theorem els_at {D : va_G} {s : State} {H : Heap} {locs : List Loc} {q ci a b sz : Nat} (hsz : s.heap.size = sz) (hS : va_S (lA a b sz) s.heap H locs) (h1 : q ≠ a) (h2 : q ≠ b) (h : ∃ vs, va_at D vwCl (q, .inr (ci, vs)) s.heap) : ∃ vs, va_at D vwCl (q, .inr (ci, vs)) H := by
  obtain ⟨vs, h⟩ := h
  exact ⟨vs, el_at hsz hS h1 h2 h⟩
section PUs
variable {D : va_G} {cI cZ cO : ClassId} {A : Nat → Prop} {p : Program} {l : Launch} {e : Env} {R : Room} {s : State} {m : MethodId} {args : Array Value} {below : List Frame} {meth : Method} {c : Code} {H H0 : Heap} {locs : List Loc} {cells slots : Nat} {Q : State → Prop}
variable {cc : ByteArray} {pc nL : Nat} {ls : Array Slot} {rest st0 : List Value} {own : String}
theorem r_pure {y : MethodName} {b : ByteArray} {n na idx fr lo : Nat} {ret : Option FieldType} {r : Int32} (X : CallFix p m c cc nL s args TB own) (hK : KK D cI cZ cO s) (hS : va_S A H0 H locs) (hA : ∀ q, H0.size ≤ q → A q) (hY : YS y b n ret na) (hl : Cond.methodLink own idx y ∈ TB) (As : List Value) (rest : List Value) (hM : ∀ (L : Lay) (σ : St) (ow : Nat → Prop), RM D cI cZ cO (dl []) l y b n ret fr lo As L σ ow r σ)
    (hst : st0 = As.reverse ++ rest) (hls : ls.size = nL) (hn : As.length = na) (hrm : (rest.map fun v => v.category).sum ≤ 8) (hR : fr + 1 ≤ R.frames ∧ 8 + (n + 11) + lo ≤ R.locals) (hc : cells ≤ R.cells ∧ slots ≤ R.slots) (d : decode cc pc = .ok (.invokestatic idx, 3))
    (kk : ∀ (H1 : Heap) (locs1 : List Loc), (∀ q, q < H.size → H1[q]? = H[q]?) → va_S A H0 H1 locs1 → W p l e R s m args below meth c H1 locs1 cells slots Q (F0 m (pc + 3) ls (.int r :: rest))) : W p l e R s m args below meth c H locs cells slots Q (F0 m pc ls st0) := by
  subst hst
  have hG : PW D cI cZ cO (dl []) (fun _ _ => 0) (fun _ _ => 0, fun _ _ => 0, fun _ _ _ => 0, fun _ _ _ => 0) (fun _ => False) H := PW.none
  have hAA : ∀ q, AA (fun _ => False) H.size q → A q := fun q h => h.elim (fun z => nomatch z) (fun z => hA q (Nat.le_trans hS.1 z))
  refine va_calli (va_runS (As := As) (rest := rest) X (hM _ _ _ H.size) (ys_cw X.2.2.2.2 hY hl rfl rfl hR) ⟨rp_blind, rp_pre hK hG rfl⟩ rfl hn hls rfl (lv_room hrm) d hc) hS (fun q _ h => hAA q h) (fun q h => hAA q h) ?_
  intro r1 u t H1 locs1 ht _ hw hB hz hk hS1
  subst hw
  exact kk H1 locs1 (fun q hq => hk q hq (fun z => z.elim (fun z => nomatch z) (fun z => absurd hq (Nat.not_lt.mpr z)))) hS1
end PUs
set_option maxHeartbeats 1000000 in
theorem c_copy3 {D : va_G} {cI cZ cO : ClassId} {t0 mi : Nat} (l : Launch) (b n c2 ci sz : Nat) (f : Nat → Option Nat) (r : vw_C) (hc : vwCl[ci]? = some r) (hr6 : r.1 ∈ [RX0, RX1, RX2, RX3, RX4, RX5]) (h1 : n ≤ c2) (h5 : c2 < 100000) : Met l yJ7_copyOf_6403c (wM yJ7_copyOf_6403c cJ7_copyOf_6403c 4 (some (FieldType.array (FieldType.object "java/lang/Object")))) { frames := 1, cells := 1, slots := c2, locals := 60 } (LPc D cI cZ cO t0 mi (lA b b sz) sz [.ref b, .int (nI c2), .ref mi] (fun H => va_P D vwCl [lwA cO b n f] H ∧ (∀ i, i < n → ∀ y, f i = some y → y ≠ b ∧ ∃ vs, va_at D vwCl (y, .inr (ci, vs)) H)))
      (LQr (fun q H => va_P D vwCl [lwA cO q c2 (va_cpy f (fun _ => none) 0 0 n)] H ∧ sz ≤ q) (lA b b sz)) 1 c2 (lA b b sz) := by
  refine lm_of rfl (Nat.le_of_ble_eq_true rfl) ?_
  intro p e s m9 below meth c ls X hK hsz hE hF hr hlocks hl
  have X : CallFix p m9 c cJ7_copyOf_6403c 4 s _ TB RJ7 := X
  have hx := X.1
  have hb := X.2.1
  obtain ⟨hP, hel⟩ := hF
  have hS : va_S (lA b b sz) s.heap s.heap [] := va_S.rf
  have hl : lv_has ls 4 [(0, .ref b), (1, .int (nI c2)), (2, .ref mi)] := hl
  have hD : va_D (lA b b sz) [lwA cO b n f] := ld1 (Or.inl rfl)
  refine lv_aload_n hx hb dJ7_copyOf_6403c_0 rfl (lv_at hl 2 rfl) ?_
  refine va_ldcM hx hb X.2.2.2.1 (X.2.2.2.2 _ tw_1_206) hE.2.2.2.1 dJ7_copyOf_6403c_1 ?_
  refine lv_acmp_ne (rx := some mi) (ry := some mi) (tgt := 13) hx hb dJ7_copyOf_6403c_3 (by decide) (fun z => absurd rfl z) (fun _ => ?_)
  refine lv_iload_n hx hb dJ7_copyOf_6403c_6 rfl (lv_at hl 1 rfl) ?_
  refine va_newq hx hb X.2.2.2.1 (X.2.2.2.2 _ tw_1_208) hE.2.2.1 hK hP hD hS (fun q h => Or.inr (Or.inr (by rw [← hsz]; exact h))) (N' := c2) (by rw [show ¬ (nI c2 < 0) ↔ True from ⟨fun _ => trivial, fun _ => nI_pos (by omega)⟩]; trivial) (nI_clamp (by omega)) (by omega) (Nat.le_of_ble_eq_true rfl) (by show 0 + c2 ≤ c2; omega) dJ7_copyOf_6403c_7 (fun q cA H hK2 hP hD hS => ?_)
  have hcA : cA = cO := cO_eq (tys := []) hK (hK2.2 3 (cA, .object "java/lang/Object") rfl).2
  subst hcA
  have hbz : sz ≤ q := by
    rcases hD.2 1 _ rfl with z | z | z
    · exact absurd (hD.1 0 1 _ _ rfl rfl z.symm) (by decide)
    · exact absurd (hD.1 0 1 _ _ rfl rfl z.symm) (by decide)
    · exact z
  refine lv_goto (tgt := 24) hx hb dJ7_copyOf_6403c_10 (by decide) ?_
  refine lv_astore_n (lv' := [(3, .ref q), (0, .ref b), (1, .int (nI c2)), (2, .ref mi)]) hx hb dJ7_copyOf_6403c_24 rfl hl (by decide) rfl (fun ls hl => ?_)
  refine lv_aload_n hx hb dJ7_copyOf_6403c_25 rfl (lv_at hl 1 rfl) ?_
  refine lv_iconst (v := nI 0) hx hb dJ7_copyOf_6403c_26 (by decide) ?_
  refine lv_aload_n hx hb dJ7_copyOf_6403c_27 rfl (lv_at hl 0 rfl) ?_
  refine lv_iconst (v := nI 0) hx hb dJ7_copyOf_6403c_28 (by decide) ?_
  refine lv_aload_n hx hb dJ7_copyOf_6403c_29 rfl (lv_at hl 1 rfl) ?_
  refine va_alen hx hb hK hP 0 2 rfl rfl (v := nI n) rfl dJ7_copyOf_6403c_30 ?_
  refine lv_iload_n hx hb dJ7_copyOf_6403c_31 rfl (lv_at hl 2 rfl) ?_
  refine r_min X hl.1 ml_J7_304 (Nat.le_of_ble_eq_true rfl) (Nat.le_of_ble_eq_true rfl) (Nat.le_of_ble_eq_true rfl) (by show 0 + c2 ≤ c2; omega) dJ7_copyOf_6403c_32 ?_
  refine r_top (y := nI n) (if_neg (nI_nlt h1 (by omega))) ?_
  refine va_copyq hx hb (X.2.2.1.trans hl.1.symm) X.2.2.2.1 (X.2.2.2.2 _ tw_1_212) (X.2.2.2.2 _ tw_1_214) (X.2.2.2.2 _ tw_1_213) (X.2.2.2.2 _ tw_1_11) hK hP hD hS 0 1 2 2 (C := r.1) rfl rfl rfl rfl (sp := nI 0) (dp := nI 0) (n := nI n) (by decide) (by decide) (by rw [show ¬ (nI n < 0) ↔ True from ⟨fun _ => trivial, fun _ => nI_pos (by omega)⟩]; trivial) (by rw [nI_clamp (by omega), nI_clamp (by omega)]; omega) (by rw [nI_clamp (by omega), nI_clamp (by omega)]; omega) (fun i hi y hy => ?_) (hasg_of hE hr6) (Nat.le_of_ble_eq_true rfl) (Nat.le_of_ble_eq_true rfl) dJ7_copyOf_6403c_35 (fun H locs hP hD hS => ?_)
  · rw [nI_clamp (by omega)] at hi
    rw [nI_clamp (by omega), Nat.zero_add] at hy
    obtain ⟨hyb, vs, hv⟩ := hel i hi y hy
    exact va_recv hK (va_P1 (el_at hsz hS hyb hyb hv)) hc (q0 := 0) rfl
  · rw [nI_clamp (by omega), nI_clamp (by omega)] at hP
    refine lv_aload_n hx hb dJ7_copyOf_6403c_38 rfl (lv_at hl 0 rfl) ?_
    exact lr_ret hx hb hr (Or.inr ⟨_, rfl⟩) hlocks hS ⟨hP.sub [1] rfl, hbz⟩ rfl (Nat.zero_add _) dJ7_copyOf_6403c_39
set_option maxHeartbeats 1000000 in
theorem c_copy2 {D : va_G} {cI cZ cO : ClassId} {t0 mi : Nat} (l : Launch) (b n c2 ci sz : Nat) (f : Nat → Option Nat) (r : vw_C) (hc : vwCl[ci]? = some r) (hr6 : r.1 ∈ [RX0, RX1, RX2, RX3, RX4, RX5]) (h1 : n ≤ c2) (h5 : c2 < 100000) : Met l yJ7_copyOf_1904c (wM yJ7_copyOf_1904c cJ7_copyOf_1904c 2 (some (FieldType.array (FieldType.object "java/lang/Object")))) { frames := 2, cells := 1, slots := c2, locals := 90 } (LPc D cI cZ cO t0 mi (lA b b sz) sz [.ref b, .int (nI c2)] (fun H => va_P D vwCl [lwA cO b n f] H ∧ (∀ i, i < n → ∀ y, f i = some y → y ≠ b ∧ ∃ vs, va_at D vwCl (y, .inr (ci, vs)) H)))
      (LQr (fun q H => va_P D vwCl [lwA cO q c2 (va_cpy f (fun _ => none) 0 0 n)] H ∧ sz ≤ q) (lA b b sz)) 1 c2 (lA b b sz) := by
  refine lm_of rfl (Nat.le_of_ble_eq_true rfl) ?_
  intro p e s m9 below meth c ls X hK hsz hE hF hr hlocks hl
  have X : CallFix p m9 c cJ7_copyOf_1904c 2 s _ TB RJ7 := X
  have hx := X.1
  have hb := X.2.1
  obtain ⟨hP, hel⟩ := hF
  have hS : va_S (lA b b sz) s.heap s.heap [] := va_S.rf
  have hl : lv_has ls 2 [(0, .ref b), (1, .int (nI c2))] := hl
  refine lv_aload_n hx hb dJ7_copyOf_1904c_0 rfl (lv_at hl 0 rfl) ?_
  refine lv_iload_n hx hb dJ7_copyOf_1904c_1 rfl (lv_at hl 1 rfl) ?_
  refine lv_aload_n hx hb dJ7_copyOf_1904c_2 rfl (lv_at hl 0 rfl) ?_
  refine va_getC (C := "[Ljava/lang/Object;") hx hb (X.2.2.1.trans hl.1.symm) X.2.2.2.1 (X.2.2.2.2 _ tw_1_186) (va_Dc.use hE.2.2.2.2.1) (X.2.2.2.2 _ tw_5_26) (X.2.2.2.2 _ tw_1_187) (X.2.2.2.2 _ tw_1_202) hE.2.2.2.1 ⟨_, hP 0 _ rfl, rfl, ?_⟩ (Nat.le_of_ble_eq_true rfl) (Nat.le_of_ble_eq_true rfl) dJ7_copyOf_1904c_3 ?_
  · obtain ⟨_, _, _, _, _, g4⟩ := (hK.2 2 (cO, .object "java/lang/Object") rfl).2
    exact g4
  have hAA : ∀ x, lA b b s.heap.size x → lA b b sz x := fun x h => by rw [hsz] at h; exact h
  refine va_callr (va_runS (As := [.ref b, .int (nI c2), .ref mi]) (rest := []) X (c_copy3 l b n c2 ci s.heap.size f r hc hr6 h1 h5) (ys_cw X.2.2.2.2 ysJ7_copyOf_6403c ml_J7_300 rfl rfl ⟨Nat.le_of_ble_eq_true rfl, Nat.le_of_ble_eq_true rfl⟩) ⟨lpc_blind, lpc_pre hK (hE.narrow hAA) ⟨hP, hel⟩ rfl⟩ rfl rfl hl.1 rfl (lv_room (Nat.le_of_ble_eq_true rfl)) dJ7_copyOf_1904c_6 ⟨Nat.le_of_ble_eq_true rfl, by show 0 + c2 ≤ c2; omega⟩) hS (fun x _ h => hAA x h) (fun x h => hAA x h) ?_
  intro u q t H1 locs1 ht _ _ hB _ _ hS
  rw [ht] at hB
  exact lr_ret hx hb hr (Or.inr ⟨_, rfl⟩) hlocks hS ⟨hB.1, by rw [← hsz]; exact hB.2⟩ rfl (Nat.zero_add _) dJ7_copyOf_1904c_9
set_option maxHeartbeats 1000000 in
theorem c_grow1g {D : va_G} {cI cZ cO : ClassId} {t0 mi : Nat} (l : Launch) (a b n ci sz : Nat) (m : Int32) (f : Nat → Option Nat) (r : vw_C) (hc : vwCl[ci]? = some r) (hr6 : r.1 ∈ [RX0, RX1, RX2, RX3, RX4, RX5]) (h10 : 4 ≤ n) (h5 : n < 50000) : Met l yJx4a65c_grow_92f84 (wM yJx4a65c_grow_92f84 cJx4a65c_grow_92f84 4 (some (FieldType.array (FieldType.object "java/lang/Object")))) { frames := 3, cells := 1, slots := n + n / 2, locals := 120 } (LPc D cI cZ cO t0 mi (lA a b sz) sz [.ref a, .int (nI (n + 1))] (fun H => va_P D vwCl [lwO a m b n, lwA cO b n f] H ∧ a ≠ b ∧ (∀ i, i < n → ∀ y, f i = some y → y ≠ a ∧ y ≠ b ∧ ∃ vs, va_at D vwCl (y, .inr (ci, vs)) H)))
      (LQr (fun q H => va_P D vwCl [lwO a m q n, lwA cO q (n + n / 2) (va_cpy f (fun _ => none) 0 0 n)] H ∧ sz ≤ q) (lA a b sz)) 1 (n + n / 2) (lA a b sz) := by
  refine lm_of rfl (Nat.le_of_ble_eq_true rfl) ?_
  intro p e s m9 below meth c ls X hK hsz hE hF hr hlocks hl
  have X : CallFix p m9 c cJx4a65c_grow_92f84 4 s _ TB RJx4a65c := X
  have hx := X.1
  have hb := X.2.1
  obtain ⟨hP, hab, hel⟩ := hF
  have hS : va_S (lA a b sz) s.heap s.heap [] := va_S.rf
  have hl : lv_has ls 4 [(0, .ref a), (1, .int (nI (n + 1)))] := hl
  have haz : a < sz := by rw [← hsz]; exact (hP 0 _ rfl).lt
  refine lv_aload_n hx hb dJx4a65c_grow_92f84_0 rfl (lv_at hl 0 rfl) ?_
  refine l_get X hK hP 0 rfl 1 (by decide) fw_Jx4a65c_9 (fun _ h => h) rfl dJx4a65c_grow_92f84_1 ?_
  refine va_alen hx hb hK hP 1 2 rfl rfl (v := nI n) rfl dJx4a65c_grow_92f84_4 ?_
  refine lv_istore_n (lv' := [(2, .int (nI n)), (0, .ref a), (1, .int (nI (n + 1)))]) hx hb dJx4a65c_grow_92f84_5 rfl hl (by decide) rfl (fun ls hl => ?_)
  refine lv_iload_n hx hb dJx4a65c_grow_92f84_6 rfl (lv_at hl 0 rfl) ?_
  refine r_if_gtN (tgt := 20) hx hb dJx4a65c_grow_92f84_7 (by decide) (by omega) (fun _ => ?_) (fun z => absurd z (by omega))
  refine lv_iload_n hx hb dJx4a65c_grow_92f84_20 rfl (lv_at hl 0 rfl) ?_
  refine lv_iload_n hx hb dJx4a65c_grow_92f84_21 rfl (lv_at hl 2 rfl) ?_
  refine lv_iload_n hx hb dJx4a65c_grow_92f84_22 rfl (lv_at hl 0 rfl) ?_
  refine r_subN hx hb (by omega) dJx4a65c_grow_92f84_23 ?_
  refine r_top (y := nI 1) (by rw [Nat.add_sub_cancel_left]) ?_
  refine lv_iload_n hx hb dJx4a65c_grow_92f84_24 rfl (lv_at hl 0 rfl) ?_
  refine lv_iconst (v := nI 1) hx hb dJx4a65c_grow_92f84_25 (by decide) ?_
  refine lv_ishr hx hb dJx4a65c_grow_92f84_26 ?_
  refine r_top (y := nI (n / 2)) (r_shr1 (by omega)) ?_
  refine r_pure X hK hS (fun q h => Or.inr (Or.inr (by rw [← hsz]; exact h))) ysJ8_newLength_cabcc ml_Jx4a65c_73 [.int (nI n), .int (nI 1), .int (nI (n / 2))] [] (fun L σ ow => c_J8_newLength_cabcc l L σ ow n (n / 2) (by omega) (by omega)) rfl hl.1 rfl (Nat.le_of_ble_eq_true rfl) ⟨Nat.le_of_ble_eq_true rfl, Nat.le_of_ble_eq_true rfl⟩ ⟨Nat.zero_le _, Nat.zero_le _⟩ dJx4a65c_grow_92f84_27 (fun H locs hq hS => ?_)
  have hP := hP.kept (H1 := H) (fun k x hk => hq _ (hP k x hk).lt)
  refine lv_istore_n (lv' := [(3, .int (nI (n + n / 2))), (2, .int (nI n)), (0, .ref a), (1, .int (nI (n + 1)))]) hx hb dJx4a65c_grow_92f84_30 rfl hl (by decide) rfl (fun ls hl => ?_)
  refine lv_aload_n hx hb dJx4a65c_grow_92f84_31 rfl (lv_at hl 2 rfl) ?_
  refine lv_aload_n hx hb dJx4a65c_grow_92f84_32 rfl (lv_at hl 2 rfl) ?_
  refine l_get X hK hP 0 rfl 1 (by decide) fw_Jx4a65c_9 (fun _ h => h) rfl dJx4a65c_grow_92f84_33 ?_
  refine lv_iload_n hx hb dJx4a65c_grow_92f84_36 rfl (lv_at hl 0 rfl) ?_
  have hle : sz ≤ H.size := by rw [← hsz]; exact hS.1
  have hAA : ∀ x, lA b b H.size x → lA a b sz x := fun x h => h.elim (fun z => Or.inr (Or.inl z)) (fun h => h.elim (fun z => Or.inr (Or.inl z)) (fun z => Or.inr (Or.inr (Nat.le_trans hle z))))
  have hP0 := hP
  refine va_callr (va_runS (As := [.ref b, .int (nI (n + n / 2))]) (rest := [.ref a]) X (c_copy2 l b n (n + n / 2) ci H.size f r hc hr6 (by omega) (by omega)) (ys_cw X.2.2.2.2 ysJ7_copyOf_1904c ml_Jx4a65c_66 rfl rfl ⟨Nat.le_of_ble_eq_true rfl, Nat.le_of_ble_eq_true rfl⟩) ⟨lpc_blind, lpc_pre hK ((hE.at hS).narrow hAA) ⟨hP.sub [1] rfl, fun i hi y hy => ⟨(hel i hi y hy).2.1, els_at hsz hS (hel i hi y hy).1 (hel i hi y hy).2.1 (hel i hi y hy).2.2⟩⟩ rfl⟩ rfl rfl hl.1 rfl (lv_room (Nat.le_of_ble_eq_true rfl)) dJx4a65c_grow_92f84_37 ⟨Nat.le_of_ble_eq_true rfl, by show 0 + (n + n / 2) ≤ n + n / 2; omega⟩) hS (fun x _ h => hAA x h) (fun x h => hAA x h) ?_
  intro u q t H1 locs1 ht _ _ hB hz1 hk1 hS
  rw [ht] at hB
  obtain ⟨hP1, hqz⟩ := hB
  have hqz2 : sz ≤ q := Nat.le_trans hle hqz
  have haq : a ≠ q := by omega
  have haH : va_at D vwCl (lwO a m b n) H1 := (hP0 0 _ rfl).kept (hk1 a (hP0 0 _ rfl).lt (fun z => z.elim hab (fun z => z.elim hab (fun z => absurd (Nat.lt_of_lt_of_le haz hle) (Nat.not_lt.mpr z)))))
  have hP : va_P D vwCl [lwO a m b n, lwA cO q (n + n / 2) (va_cpy f (fun _ => none) 0 0 n)] H1 := (va_P1 haH).app hP1
  have hD : va_D (lA a b sz) [lwO a m b n, lwA cO q (n + n / 2) (va_cpy f (fun _ => none) 0 0 n)] := ld2 haq (Or.inl rfl) (Or.inr (Or.inr hqz2))
  refine lv_dup_x1 hx hb dJx4a65c_grow_92f84_40 rfl rfl ?_
  refine l_put X hK hP hD hS 0 rfl 1 (by decide) fw_Jx4a65c_9 (fun _ h => h) rfl rfl rfl (Nat.le_of_ble_eq_true rfl) dJx4a65c_grow_92f84_41 (fun H locs hP hD hS => ?_)
  exact lr_ret hx hb hr (Or.inr ⟨_, rfl⟩) hlocks hS ⟨hP, hqz2⟩ rfl (Nat.zero_add _) dJx4a65c_grow_92f84_44
set_option maxHeartbeats 1000000 in
theorem c_grow0g {D : va_G} {cI cZ cO : ClassId} {t0 mi : Nat} (l : Launch) (a b n ci sz : Nat) (m : Int32) (f : Nat → Option Nat) (r : vw_C) (hc : vwCl[ci]? = some r) (hr6 : r.1 ∈ [RX0, RX1, RX2, RX3, RX4, RX5]) (h10 : 4 ≤ n) (h5 : n < 50000) : Met l yJx4a65c_grow_d5877 (wM yJx4a65c_grow_d5877 cJx4a65c_grow_d5877 1 (some (FieldType.array (FieldType.object "java/lang/Object")))) { frames := 4, cells := 1, slots := n + n / 2, locals := 150 } (LPc D cI cZ cO t0 mi (lA a b sz) sz [.ref a] (fun H => va_P D vwCl [lwO a m b n, lwA cO b n f] H ∧ a ≠ b ∧ (∀ i, i < n → ∀ y, f i = some y → y ≠ a ∧ y ≠ b ∧ ∃ vs, va_at D vwCl (y, .inr (ci, vs)) H)))
      (LQr (fun q H => va_P D vwCl [lwO a m q n, lwA cO q (n + n / 2) (va_cpy f (fun _ => none) 0 0 n)] H ∧ sz ≤ q) (lA a b sz)) 1 (n + n / 2) (lA a b sz) := by
  refine lm_of rfl (Nat.le_of_ble_eq_true rfl) ?_
  intro p e s m9 below meth c ls X hK hsz hE hF hr hlocks hl
  have X : CallFix p m9 c cJx4a65c_grow_d5877 1 s _ TB RJx4a65c := X
  have hx := X.1
  have hb := X.2.1
  obtain ⟨hP, hab, hel⟩ := hF
  have hS : va_S (lA a b sz) s.heap s.heap [] := va_S.rf
  have hl : lv_has ls 1 [(0, .ref a)] := hl
  refine lv_aload_n hx hb dJx4a65c_grow_d5877_0 rfl (lv_at hl 0 rfl) ?_
  refine lv_aload_n hx hb dJx4a65c_grow_d5877_1 rfl (lv_at hl 0 rfl) ?_
  refine l_get X hK hP 0 rfl 2 (by decide) fw_Jx4a65c_48 (fun _ h => h) rfl dJx4a65c_grow_d5877_2 ?_
  refine lv_iconst (v := nI 1) hx hb dJx4a65c_grow_d5877_5 (by decide) ?_
  refine r_addN hx hb dJx4a65c_grow_d5877_6 ?_
  have hAA : ∀ x, lA a b s.heap.size x → lA a b sz x := fun x h => by rw [hsz] at h; exact h
  refine va_callr (va_runV (As := [.int (nI (n + 1))]) (rest := []) X (c_grow1g l a b n ci s.heap.size m f r hc hr6 h10 h5) (yv_cw X.2.2.2.2 yvJx4a65c_grow_92f84 ml_Jx4a65c_69 rfl rfl ⟨Nat.le_of_ble_eq_true rfl, Nat.le_of_ble_eq_true rfl⟩) ⟨lpc_blind, va_recv hK hP kJx4a65c.1 (q0 := 0) rfl, lpc_pre hK (hE.narrow hAA) ⟨hP, hab, hel⟩ rfl⟩ rfl rfl hl.1 rfl (lv_room (Nat.le_of_ble_eq_true rfl)) dJx4a65c_grow_d5877_7 ⟨Nat.le_of_ble_eq_true rfl, by show 0 + (n + n / 2) ≤ n + n / 2; omega⟩) hS (fun x _ h => hAA x h) (fun x h => hAA x h) ?_
  intro u q t H1 locs1 ht _ _ hB _ _ hS
  rw [ht] at hB
  exact lr_ret hx hb hr (Or.inr ⟨_, rfl⟩) hlocks hS ⟨hB.1, by rw [← hsz]; exact hB.2⟩ rfl (Nat.zero_add _) dJx4a65c_grow_d5877_10
set_option maxHeartbeats 1000000 in
theorem c_add3g {D : va_G} {cI cZ cO : ClassId} {t0 mi : Nat} (l : Launch) (a b q n ci sz : Nat) (m : Int32) (f : Nat → Option Nat) (vs : List Value) (r : vw_C) (hc : vwCl[ci]? = some r) (hr6 : r.1 ∈ [RX0, RX1, RX2, RX3, RX4, RX5]) (h10 : 4 ≤ n) (h5 : n < 50000) : Met l yJx4a65c_add_72be8 (wM yJx4a65c_add_72be8 cJx4a65c_add_72be8 4 none) { frames := 5, cells := 1, slots := n + n / 2, locals := 175 } (LPc D cI cZ cO t0 mi (lA a b sz) sz [.ref a, .ref q, .ref b, .int (nI n)] (fun H => va_P D vwCl [lwO a m b n, lwA cO b n f] H ∧ a ≠ b ∧ (∀ i, i < n → ∀ y, f i = some y → y ≠ a ∧ y ≠ b ∧ ∃ vs, va_at D vwCl (y, .inr (ci, vs)) H) ∧ q ≠ a ∧ q ≠ b ∧ va_at D vwCl (q, .inr (ci, vs)) H))
      (LQv (fun H => ∃ b2, sz ≤ b2 ∧ va_P D vwCl [lwO a m b2 (n + 1), lwA cO b2 (n + n / 2) (va_up (va_cpy f (fun _ => none) 0 0 n) n (some q))] H) (lA a b sz)) 1 (n + n / 2) (lA a b sz) := by
  refine lm_of rfl (Nat.le_of_ble_eq_true rfl) ?_
  intro p e s m9 below meth c ls X hK hsz hE hF hr hlocks hl
  have X : CallFix p m9 c cJx4a65c_add_72be8 4 s _ TB RJx4a65c := X
  have hx := X.1
  have hb := X.2.1
  obtain ⟨hP, hab, hels, hqa, hqb, hel⟩ := hF
  have hS : va_S (lA a b sz) s.heap s.heap [] := va_S.rf
  have hl : lv_has ls 4 [(0, .ref a), (1, .ref q), (2, .ref b), (3, .int (nI n))] := hl
  have haz : a < sz := by rw [← hsz]; exact (hP 0 _ rfl).lt
  have hqz : q < sz := by rw [← hsz]; exact hel.lt
  refine lv_iload_n hx hb dJx4a65c_add_72be8_0 rfl (lv_at hl 3 rfl) ?_
  refine lv_aload_n hx hb dJx4a65c_add_72be8_1 rfl (lv_at hl 2 rfl) ?_
  refine va_alen hx hb hK hP 1 2 rfl rfl (v := nI n) rfl dJx4a65c_add_72be8_2 ?_
  refine r_icmp_neN (tgt := 11) hx hb dJx4a65c_add_72be8_3 (by decide) (by omega) (by omega) (fun c_3 => absurd rfl c_3) (fun _ => ?_)
  refine lv_aload_n hx hb dJx4a65c_add_72be8_6 rfl (lv_at hl 0 rfl) ?_
  have hAA : ∀ x, lA a b s.heap.size x → lA a b sz x := fun x h => by rw [hsz] at h; exact h
  refine va_callr (va_runV (As := []) (rest := []) X (c_grow0g l a b n ci s.heap.size m f r hc hr6 h10 h5) (yv_cw X.2.2.2.2 yvJx4a65c_grow_d5877 ml_Jx4a65c_129 rfl rfl ⟨Nat.le_of_ble_eq_true rfl, Nat.le_of_ble_eq_true rfl⟩) ⟨lpc_blind, va_recv hK hP kJx4a65c.1 (q0 := 0) rfl, lpc_pre hK (hE.narrow hAA) ⟨hP, hab, hels⟩ rfl⟩ rfl rfl hl.1 rfl (lv_room (Nat.le_of_ble_eq_true rfl)) dJx4a65c_add_72be8_7 ⟨Nat.le_of_ble_eq_true rfl, by show 0 + (n + n / 2) ≤ n + n / 2; omega⟩) hS (fun x _ h => hAA x h) (fun x h => hAA x h) ?_
  intro u b2 t H1 locs1 ht _ _ hB _ _ hS
  rw [ht] at hB
  obtain ⟨hP, hbz⟩ := hB
  rw [hsz] at hbz
  have hab2 : a ≠ b2 := by omega
  have hD : va_D (lA a b sz) [lwO a m b2 n, lwA cO b2 (n + n / 2) (va_cpy f (fun _ => none) 0 0 n)] := ld2 hab2 (Or.inl rfl) (Or.inr (Or.inr hbz))
  refine lv_astore_n (lv' := [(2, .ref b2), (0, .ref a), (1, .ref q), (3, .int (nI n))]) hx hb dJx4a65c_add_72be8_10 rfl hl (by decide) rfl (fun ls hl => ?_)
  refine lv_aload_n hx hb dJx4a65c_add_72be8_11 rfl (lv_at hl 0 rfl) ?_
  refine lv_iload_n hx hb dJx4a65c_add_72be8_12 rfl (lv_at hl 3 rfl) ?_
  refine lv_aload_n hx hb dJx4a65c_add_72be8_13 rfl (lv_at hl 2 rfl) ?_
  refine va_astqM hx hb hK hP hD hS 1 2 rfl rfl (el_any hK hE hc hr6 (el_at hsz hS hqa hqb hel)) (vp_in_nI (by omega) (by omega)) dJx4a65c_add_72be8_14 (fun H locs hP hD hS => ?_)
  rw [nI_clamp (by omega)] at hP hD
  refine lv_aload_n hx hb dJx4a65c_add_72be8_15 rfl (lv_at hl 1 rfl) ?_
  refine lv_iload_n hx hb dJx4a65c_add_72be8_16 rfl (lv_at hl 3 rfl) ?_
  refine lv_iconst (v := nI 1) hx hb dJx4a65c_add_72be8_17 (by decide) ?_
  refine r_addN hx hb dJx4a65c_add_72be8_18 ?_
  refine l_put X hK hP hD hS 0 rfl 2 (by decide) fw_Jx4a65c_48 (fun _ h => h) rfl rfl rfl (Nat.le_of_ble_eq_true rfl) dJx4a65c_add_72be8_19 (fun H locs hP hD hS => ?_)
  exact lv_ret hx hb hr hlocks hS ⟨b2, hbz, hP⟩ rfl (Nat.zero_add _) dJx4a65c_add_72be8_22
set_option maxHeartbeats 1000000 in
theorem c_addg {D : va_G} {cI cZ cO : ClassId} {t0 mi : Nat} (l : Launch) (a b q n ci sz : Nat) (m : Int32) (f : Nat → Option Nat) (vs : List Value) (r : vw_C) (hc : vwCl[ci]? = some r) (hr6 : r.1 ∈ [RX0, RX1, RX2, RX3, RX4, RX5]) (h10 : 4 ≤ n) (h5 : n < 50000) : Met l yJx4a65c_add_9ea2d (wM yJx4a65c_add_9ea2d cJx4a65c_add_9ea2d 2 (some FieldType.boolean)) { frames := 6, cells := 1, slots := n + n / 2, locals := 200 } (LPc D cI cZ cO t0 mi (lA a b sz) sz [.ref a, .ref q] (fun H => va_P D vwCl [lwO a m b n, lwA cO b n f] H ∧ a ≠ b ∧ (∀ i, i < n → ∀ y, f i = some y → y ≠ a ∧ y ≠ b ∧ ∃ vs, va_at D vwCl (y, .inr (ci, vs)) H) ∧ q ≠ a ∧ q ≠ b ∧ va_at D vwCl (q, .inr (ci, vs)) H))
      (LQi 1 (fun H => ∃ b2, sz ≤ b2 ∧ va_P D vwCl [lwO a (m + nI 1) b2 (n + 1), lwA cO b2 (n + n / 2) (va_up (va_cpy f (fun _ => none) 0 0 n) n (some q))] H) (lA a b sz)) 1 (n + n / 2) (lA a b sz) := by
  refine lm_of rfl (Nat.le_of_ble_eq_true rfl) ?_
  intro p e s m9 below meth c ls X hK hsz hE hF hr hlocks hl
  have X : CallFix p m9 c cJx4a65c_add_9ea2d 2 s _ TB RJx4a65c := X
  have hx := X.1
  have hb := X.2.1
  obtain ⟨hP, hab, hels, hqa, hqb, hel⟩ := hF
  have hS : va_S (lA a b sz) s.heap s.heap [] := va_S.rf
  have hl : lv_has ls 2 [(0, .ref a), (1, .ref q)] := hl
  have hD : va_D (lA a b sz) [lwO a m b n, lwA cO b n f] := ld2 hab (Or.inl rfl) (Or.inr (Or.inl rfl))
  refine lv_aload_n hx hb dJx4a65c_add_9ea2d_0 rfl (lv_at hl 0 rfl) ?_
  refine lv_dup hx hb dJx4a65c_add_9ea2d_1 rfl ?_
  refine l_get X hK hP 0 rfl 0 (by decide) fw_Jx4a65c_63 (u_same (X.2.2.2.2 _ tw_1_60)) rfl dJx4a65c_add_9ea2d_2 ?_
  refine lv_iconst (v := nI 1) hx hb dJx4a65c_add_9ea2d_5 (by decide) ?_
  refine lv_iadd hx hb dJx4a65c_add_9ea2d_6 ?_
  refine l_put X hK hP hD hS 0 rfl 0 (by decide) fw_Jx4a65c_63 (u_same (X.2.2.2.2 _ tw_1_60)) rfl rfl rfl (Nat.le_of_ble_eq_true rfl) dJx4a65c_add_9ea2d_7 (fun H locs hP hD hS => ?_)
  have hP : va_P D vwCl [lwO a (m + nI 1) b n, lwA cO b n f] H := hP
  refine lv_aload_n hx hb dJx4a65c_add_9ea2d_10 rfl (lv_at hl 0 rfl) ?_
  refine lv_aload_n hx hb dJx4a65c_add_9ea2d_11 rfl (lv_at hl 1 rfl) ?_
  refine lv_aload_n hx hb dJx4a65c_add_9ea2d_12 rfl (lv_at hl 0 rfl) ?_
  refine l_get X hK hP 0 rfl 1 (by decide) fw_Jx4a65c_9 (fun _ h => h) rfl dJx4a65c_add_9ea2d_13 ?_
  refine lv_aload_n hx hb dJx4a65c_add_9ea2d_16 rfl (lv_at hl 0 rfl) ?_
  refine l_get X hK hP 0 rfl 2 (by decide) fw_Jx4a65c_48 (fun _ h => h) rfl dJx4a65c_add_9ea2d_17 ?_
  have hle : sz ≤ H.size := by rw [← hsz]; exact hS.1
  have hAA : ∀ x, lA a b H.size x → lA a b sz x := fun x h => h.imp (fun z => z) (fun h => h.imp (fun z => z) (fun z => Nat.le_trans hle z))
  refine va_callv (va_runV (As := [.ref q, .ref b, .int (nI n)]) (rest := []) X (c_add3g l a b q n ci H.size (m + nI 1) f vs r hc hr6 h10 h5) (yv_cw X.2.2.2.2 yvJx4a65c_add_72be8 ml_Jx4a65c_131 rfl rfl ⟨Nat.le_of_ble_eq_true rfl, Nat.le_of_ble_eq_true rfl⟩) ⟨lpc_blind, va_recv hK hP kJx4a65c.1 (q0 := 0) rfl, lpc_pre hK ((hE.at hS).narrow hAA) ⟨hP, hab, fun i hi y hy => ⟨(hels i hi y hy).1, (hels i hi y hy).2.1, els_at hsz hS (hels i hi y hy).1 (hels i hi y hy).2.1 (hels i hi y hy).2.2⟩, hqa, hqb, el_at hsz hS hqa hqb hel⟩ rfl⟩ rfl rfl hl.1 rfl (lv_room (Nat.le_of_ble_eq_true rfl)) dJx4a65c_add_9ea2d_20 ⟨Nat.le_of_ble_eq_true rfl, by show 0 + (n + n / 2) ≤ n + n / 2; omega⟩) hS (fun x _ h => hAA x h) (fun x h => hAA x h) ?_
  intro u t H1 locs1 ht _ _ hB _ _ hS
  rw [ht] at hB
  refine lv_iconst (v := nI 1) hx hb dJx4a65c_add_9ea2d_23 (by decide) ?_
  obtain ⟨b2, hbz, hP⟩ := hB
  exact li_ret hx hb hr rfl hlocks hS rfl ⟨b2, Nat.le_trans hle hbz, hP⟩ rfl (Nat.zero_add _) dJx4a65c_add_9ea2d_24
