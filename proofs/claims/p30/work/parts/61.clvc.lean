/-! calling the constructors of Walk and Trial while the shop is being made -/
section Q7
variable {D : va_G} {cI cZ cO : ClassId} {t0 mi : Nat} {A : Nat → Prop} {H : Heap} {ws : List (Nat × va_E)} {a sz C : Nat} {fs : List Value}
variable {p : Program} {l : Launch} {e : Env} {R : Room} {s : State} {m : MethodId} {args : Array Value} {below : List Frame} {meth : Method} {c : Code} {locs : List Loc} {cells slots : Nat} {Q : State → Prop}
variable {cc : ByteArray} {pc nL : Nat} {ls : Array Slot}
theorem q_walk (X : CallFix p m c cc nL s args TB RX8) (hK : KK D cI cZ cO s) (hE : EE t0 mi A s s.heap) (hX9 : EX A s s.heap) (hW : WQ D ws a sz H) (hat : va_at D vwCl (a, .inr (vix C, fs)) H) (hS : va_S A s.heap H locs) (hA : ∀ q, sz ≤ q → A q) (hls : ls.size = nL) (hR : 6 ≤ R.frames ∧ 200 ≤ R.locals) (hc : cells + 5 ≤ R.cells ∧ slots + 26 ≤ R.slots) (d0 : decode cc pc = .ok (.new 41, 3)) (d3 : decode cc (pc + 3) = .ok (.dup, 1)) (d4 : decode cc (pc + 4) = .ok (.invokespecial 43, 3))
    (kk : ∀ (b b1 b2 b3 b4 : Nat) (H1 : Heap) (locs1 : List Loc), WQ D (ws ++ [(b, .inr (vix 7, [.ref b1, .ref b2, .ref b3, .ref b4, .int 0, .int 0, .int 0, .int 0, .int 0, .int 0, .int 0])), (b1, eLst t0), (b2, eLst t0), (b3, eRow cI 6), (b4, eRow cI 3)]) a sz H1 → va_at D vwCl (a, .inr (vix C, fs)) H1 → va_S A s.heap H1 locs1 → W p l e R s m args below meth c H1 locs1 (cells + 5) (slots + 26) Q (F0 m (pc + 7) ls (.ref b :: .ref a :: []))) : W p l e R s m args below meth c H locs cells slots Q (F0 m pc ls [.ref a]) := by
  have hsz := hW.2.2.2.2
  have hasz := hW.2.2.2.1
  refine r_new X hK kX7 tw_1_68 rfl tw_1_69 tw_1_5 hS dfs_7 (by omega) (by show slots + 11 ≤ _; omega) d0 (fun H1 hb hz hq hS => ?_)
  refine lv_dup X.1 X.2.1 d3 rfl ?_
  have hAA : ∀ x, oN H.size H1.size x → A x := fun x h => h.elim (fun z => hA x (by omega)) (fun z => hA x (by omega))
  have hlt : H.size < H1.size := by omega
  refine va_callv (va_runIN (As := []) (rest := [.ref H.size, .ref a]) X (nX7_init (D := D) (cI := cI) (cZ := cZ) (cO := cO) (t0 := t0) (mi := mi) l H.size H1.size hlt) ⟨va_cnB 0 X.2.2.2.2 (wm_in tw_1_72) rfl rfl rfl (hX9.2.2.2 _ (List.mem_of_getElem? (i := 6) rfl)) (X.2.2.2.2 _ tw_1_5) ⟨by decide +kernel, by decide +kernel, by decide +kernel⟩ ⟨by show 5 + 1 ≤ _; omega, by show 8 + (1 + 11) + 150 ≤ _; omega⟩, rfl, X.2.2.2.2 _ tw_1_71⟩ ⟨cpe_blind, cpe_pre hK hb ((hE.at hS).narrow hAA) ((hX9.at hS).narrow hAA) rfl⟩ rfl rfl hls rfl (lv_room (Nat.le_of_ble_eq_true rfl)) d4 ⟨by show cells + 1 + 4 ≤ _; omega, by show slots + 11 + 15 ≤ _; omega⟩) hS (fun x _ h => hAA x h) (fun x h => hAA x h) ?_
  intro u t H2 locs2 ht _ _ hB hz2 hk hS2
  rw [ht] at hB
  obtain ⟨b1, b2, b3, b4, hW4, hob⟩ := hB
  have hq2 : ∀ q, q < H.size → H2[q]? = H[q]? := fun q h => (hk q (by omega) (fun z => by rcases z with z | z <;> omega)).trans (hq q h)
  have hW1 := wq_keep hW (by omega) (fun q h _ => hq2 q h)
  have hWo := wq_one (a := a) (sz := sz) hob hsz hasz
  have h5 := wq_app (wq_app hW1 hWo (fun x hx y hy => by rw [List.mem_singleton.mp hy]; exact wq_lt hW x hx) (Nat.le_refl _)) hW4 (fun x hx y hy => by
    have h1 := hW4.2.2.1 y hy
    rcases List.mem_append.mp hx with z | z
    · have := wq_lt hW x z
      omega
    · rw [List.mem_singleton.mp z]
      show H.size < y.1
      omega) (by omega)
  rw [List.append_assoc] at h5
  exact kk H.size b1 b2 b3 b4 H2 locs2 h5 (hat.kept (hq2 a (by omega))) hS2
theorem q_trial (X : CallFix p m c cc nL s args TB RX8) (hK : KK D cI cZ cO s) (hX9 : EX A s s.heap) (hW : WQ D ws a sz H) (hat : va_at D vwCl (a, .inr (vix C, fs)) H) (hS : va_S A s.heap H locs) (hA : ∀ q, sz ≤ q → A q) (hls : ls.size = nL) (hR : 6 ≤ R.frames ∧ 200 ≤ R.locals) (hc : cells + 3 ≤ R.cells ∧ slots + 153 ≤ R.slots) (d0 : decode cc pc = .ok (.new 48, 3)) (d3 : decode cc (pc + 3) = .ok (.dup, 1)) (d4 : decode cc (pc + 4) = .ok (.invokespecial 50, 3))
    (kk : ∀ (b b1 b2 : Nat) (H1 : Heap) (locs1 : List Loc), WQ D (ws ++ [(b, .inr (vix 6, [.ref b1, .ref b2, .int 0, .int 0, .int 0])), (b1, eRow cI 144), (b2, eRow cI 4)]) a sz H1 → va_at D vwCl (a, .inr (vix C, fs)) H1 → va_S A s.heap H1 locs1 → W p l e R s m args below meth c H1 locs1 (cells + 3) (slots + 153) Q (F0 m (pc + 7) ls (.ref b :: .ref a :: []))) : W p l e R s m args below meth c H locs cells slots Q (F0 m pc ls [.ref a]) := by
  have hsz := hW.2.2.2.2
  have hasz := hW.2.2.2.1
  refine r_new X hK kX6 tw_1_117 rfl tw_1_118 tw_1_6 hS dfs_6 (by omega) (by show slots + 5 ≤ _; omega) d0 (fun H1 hb hz hq hS => ?_)
  refine lv_dup X.1 X.2.1 d3 rfl ?_
  obtain ⟨Lt, hLt⟩ : ∃ Lt : Lay, Lt = fun F _ => if F = 699 then H.size else H1.size + (F - 600) := ⟨_, rfl⟩
  have q0 : Lt 699 0 = H.size := by rw [hLt]; rfl
  have q1 : Lt 600 0 = H1.size := by rw [hLt]; rfl
  have q2 : Lt 601 0 = H1.size + 1 := by rw [hLt]; rfl
  have hM := nX6_init (D := D) (cI := cI) (cZ := cZ) (cO := cO) l Lt σz 0 H1.size (fun z hz => by
        simp only [List.mem_cons, List.not_mem_nil, or_false] at hz
        rcases hz with rfl | rfl
        · exact q1
        · exact q2) (fun _ _ _ => rfl) (fun _ _ _ => rfl) rfl rfl rfl
  rw [q0] at hM
  refine r_ctorN (As := []) (na := 0) (rest := [.ref H.size, .ref a]) X hK hb rfl hS (fun q h => h.elim (fun z => hA q (by omega)) (fun z => hA q (by omega))) tw_1_120 tw_1_6 tw_1_121 (hX9.2.2.2 _ (List.mem_of_getElem? (i := 7) rfl)) rfl ⟨by decide +kernel, by decide +kernel, by decide +kernel⟩ hM rfl rfl rfl hls rfl (Nat.le_of_ble_eq_true rfl) ⟨by show 1 + 1 ≤ _; omega, by show 8 + (1 + 11) + 12 ≤ _; omega⟩ ⟨by omega, by show slots + 5 + 148 ≤ _; omega⟩ d4 (fun H2 locs2 hGn hPz hsz2 hq1 hS2 => ?_)
  have hq2 : ∀ q, q < H.size → H2[q]? = H[q]? := fun q h => (hq1 q (by omega) (by omega)).trans (hq q h)
  have e0 := hGn.1 699 0 (List.mem_of_getElem? (i := 0) rfl)
  have e1 := hGn.1 600 0 (List.mem_of_getElem? (i := 2) rfl)
  have e2 := hGn.1 601 0 (List.mem_of_getElem? (i := 1) rfl)
  rw [show ent cI cZ cO Lt σz 699 0 = .inr (vix 6, [.ref H1.size, .ref (H1.size + 1), .int 0, .int 0, .int 0]) by
    rw [show (699 : Nat) = 100 * 6 + 99 from rfl, ent_o, ofl_6, q1, q2]; rfl, q0] at e0
  rw [show ent cI cZ cO Lt σz 600 0 = eRow cI 144 from ent_B0 (by decide) (by decide) rfl (fun _ => rfl), q1] at e1
  rw [show ent cI cZ cO Lt σz 601 0 = eRow cI 4 from ent_A0 (by decide) (by decide) rfl (fun _ => rfl), q2] at e2
  have hW1 := wq_keep hW (by omega) (fun q h _ => hq2 q h)
  have g0 := wq_one (a := a) (sz := sz) e0 hsz hasz
  have g1 := wq_one (a := a) (sz := sz) e1 (by omega) hasz
  have g2 := wq_one (a := a) (sz := sz) e2 (by omega) hasz
  have h5 := wq_app hW1 (wq_app g0 (wq_app g1 g2 (fun x hx y hy => by rw [List.mem_singleton.mp hx, List.mem_singleton.mp hy]; show H1.size < H1.size + 1; omega) (Nat.le_refl _)) (fun x hx y hy => by
    rw [List.mem_singleton.mp hx]
    show H.size < y.1
    rcases List.mem_append.mp hy with z | z
    · rw [List.mem_singleton.mp z]; show H.size < H1.size; omega
    · rw [List.mem_singleton.mp z]; show H.size < H1.size + 1; omega) (Nat.le_refl _)) (fun x hx y hy => by
    have h1 := wq_lt hW x hx
    rcases List.mem_append.mp hy with z | z
    · rw [List.mem_singleton.mp z]; exact h1
    · rcases List.mem_append.mp z with z | z
      · rw [List.mem_singleton.mp z]; show x.1 < H1.size; omega
      · rw [List.mem_singleton.mp z]; show x.1 < H1.size + 1; omega) (Nat.le_refl _)
  exact kk H.size H1.size (H1.size + 1) H2 locs2 h5 (hat.kept (hq2 a (by omega))) hS2
end Q7
set_option maxRecDepth 100000 in
set_option maxHeartbeats 8000000 in
theorem nX8_init {D : va_G} {cI cZ cO : ClassId} {t0 mi : Nat} (l : Launch) (a sz : Nat) (haz : a < sz) : Met l yX8_init (wM yX8_init cX8_init 2 none) { frames := 12, cells := 40, slots := 500, locals := 400 } (CPE D cI cZ cO t0 mi a 8 sz [.ref a]) (CQE (fun H => ∃ (L : Lay) (ow' : Nat → Prop), L 899 0 = a ∧ (∀ q, ow' q → oN a sz q) ∧ CW D cI cZ cO t0 L (k_gau 4) ow' H) a sz) 40 500 (oN a sz) := by
  refine ce_of (b := cX8_init) (n := 2) rfl (Nat.le_of_ble_eq_true rfl) ?_
  intro p e s m below meth c ls X hK hsz hat hE hX9 hr hlocks hin hl
  have X : CallFix p m c cX8_init 2 s _ TB RX8 := X
  have hx := X.1
  have hb := X.2.1
  have hS : va_S (oN a sz) s.heap s.heap [] := va_S.rf
  have hA : ∀ q, sz ≤ q → oN a sz q := fun _ h => Or.inr h
  have hl : lv_has ls 2 [(0, .ref a)] := hl
  have hat : va_at D vwCl (a, .inr (vix 8, [.null, .null, .null, .null, .null, .null, .null, .null, .null, .null, .null, .int 0, .int 0])) s.heap := hat
  have hW : WQ D [] a sz s.heap := ⟨fun i x h => by simp at h, List.Pairwise.nil, fun x h => absurd h List.not_mem_nil, haz, Nat.le_of_eq hsz.symm⟩
  refine lv_aload_n hx hb dX8_init_0 rfl (lv_at hl 0 rfl) ?_
  refine W.objInit hx hb X.2.2.2.1 (X.2.2.2.2 _ tw_1_39) (X.2.2.2.2 _ tw_1_40) (X.2.2.2.2 _ tw_1_41) rfl (hl.1.trans X.2.2.1.symm) rfl dX8_init_1 (Nat.le_of_ble_eq_true rfl) (Nat.le_of_ble_eq_true rfl) ?_
  refine W.eq (g2 := F0 m 4 ls []) rfl ?_
  refine lv_aload_n hx hb dX8_init_4 rfl (lv_at hl 0 rfl) ?_
  refine q_list (C := 8) (rest := [.ref a]) X hK hE hW hat hS hA (ix := 9) (ic := 11) tw_1_42 tw_1_44 hl.1 (Nat.le_of_ble_eq_true rfl) ⟨Nat.le_of_ble_eq_true rfl, Nat.le_of_ble_eq_true rfl⟩ ⟨Nat.le_of_ble_eq_true rfl, Nat.le_of_ble_eq_true rfl⟩ dX8_init_5 dX8_init_8 dX8_init_9 (fun b0 H locs hW hat hS => ?_)
  refine q_put kX8 X hK hW hat hS (Or.inl rfl) 0 (by decide) fw_X8_12 (fun _ h => h) (Or.inr ⟨rfl, hin, rfl⟩) (kX8.2.2.1 0 (by decide)) rfl rfl (Nat.le_of_ble_eq_true rfl) dX8_init_12 (fun H locs hW hat hS => ?_)
  have hat : va_at D vwCl (a, .inr (vix 8, [.ref b0, .null, .null, .null, .null, .null, .null, .null, .null, .null, .null, .int 0, .int 0])) H := hat
  have hW : WQ D [(b0, eLst t0)] a sz H := hW
  refine lv_aload_n hx hb dX8_init_15 rfl (lv_at hl 0 rfl) ?_
  refine q_list (C := 8) (rest := [.ref a]) X hK hE hW hat hS hA (ix := 9) (ic := 11) tw_1_42 tw_1_44 hl.1 (Nat.le_of_ble_eq_true rfl) ⟨Nat.le_of_ble_eq_true rfl, Nat.le_of_ble_eq_true rfl⟩ ⟨Nat.le_of_ble_eq_true rfl, Nat.le_of_ble_eq_true rfl⟩ dX8_init_16 dX8_init_19 dX8_init_20 (fun b1 H locs hW hat hS => ?_)
  refine q_put kX8 X hK hW hat hS (Or.inl rfl) 1 (by decide) fw_X8_16 (fun _ h => h) (Or.inr ⟨rfl, hin, rfl⟩) (kX8.2.2.1 1 (by decide)) rfl rfl (Nat.le_of_ble_eq_true rfl) dX8_init_23 (fun H locs hW hat hS => ?_)
  have hat : va_at D vwCl (a, .inr (vix 8, [.ref b0, .ref b1, .null, .null, .null, .null, .null, .null, .null, .null, .null, .int 0, .int 0])) H := hat
  have hW : WQ D [(b0, eLst t0), (b1, eLst t0)] a sz H := hW
  refine lv_aload_n hx hb dX8_init_26 rfl (lv_at hl 0 rfl) ?_
  refine q_list (C := 8) (rest := [.ref a]) X hK hE hW hat hS hA (ix := 9) (ic := 11) tw_1_42 tw_1_44 hl.1 (Nat.le_of_ble_eq_true rfl) ⟨Nat.le_of_ble_eq_true rfl, Nat.le_of_ble_eq_true rfl⟩ ⟨Nat.le_of_ble_eq_true rfl, Nat.le_of_ble_eq_true rfl⟩ dX8_init_27 dX8_init_30 dX8_init_31 (fun b2 H locs hW hat hS => ?_)
  refine q_put kX8 X hK hW hat hS (Or.inl rfl) 2 (by decide) fw_X8_19 (fun _ h => h) (Or.inr ⟨rfl, hin, rfl⟩) (kX8.2.2.1 2 (by decide)) rfl rfl (Nat.le_of_ble_eq_true rfl) dX8_init_34 (fun H locs hW hat hS => ?_)
  have hat : va_at D vwCl (a, .inr (vix 8, [.ref b0, .ref b1, .ref b2, .null, .null, .null, .null, .null, .null, .null, .null, .int 0, .int 0])) H := hat
  have hW : WQ D [(b0, eLst t0), (b1, eLst t0), (b2, eLst t0)] a sz H := hW
  refine lv_aload_n hx hb dX8_init_37 rfl (lv_at hl 0 rfl) ?_
  refine q_list (C := 8) (rest := [.ref a]) X hK hE hW hat hS hA (ix := 9) (ic := 11) tw_1_42 tw_1_44 hl.1 (Nat.le_of_ble_eq_true rfl) ⟨Nat.le_of_ble_eq_true rfl, Nat.le_of_ble_eq_true rfl⟩ ⟨Nat.le_of_ble_eq_true rfl, Nat.le_of_ble_eq_true rfl⟩ dX8_init_38 dX8_init_41 dX8_init_42 (fun b3 H locs hW hat hS => ?_)
  refine q_put kX8 X hK hW hat hS (Or.inl rfl) 3 (by decide) fw_X8_22 (fun _ h => h) (Or.inr ⟨rfl, hin, rfl⟩) (kX8.2.2.1 3 (by decide)) rfl rfl (Nat.le_of_ble_eq_true rfl) dX8_init_45 (fun H locs hW hat hS => ?_)
  have hat : va_at D vwCl (a, .inr (vix 8, [.ref b0, .ref b1, .ref b2, .ref b3, .null, .null, .null, .null, .null, .null, .null, .int 0, .int 0])) H := hat
  have hW : WQ D [(b0, eLst t0), (b1, eLst t0), (b2, eLst t0), (b3, eLst t0)] a sz H := hW
  refine lv_aload_n hx hb dX8_init_48 rfl (lv_at hl 0 rfl) ?_
  refine q_list (C := 8) (rest := [.ref a]) X hK hE hW hat hS hA (ix := 9) (ic := 11) tw_1_42 tw_1_44 hl.1 (Nat.le_of_ble_eq_true rfl) ⟨Nat.le_of_ble_eq_true rfl, Nat.le_of_ble_eq_true rfl⟩ ⟨Nat.le_of_ble_eq_true rfl, Nat.le_of_ble_eq_true rfl⟩ dX8_init_49 dX8_init_52 dX8_init_53 (fun b4 H locs hW hat hS => ?_)
  refine q_put kX8 X hK hW hat hS (Or.inl rfl) 4 (by decide) fw_X8_25 (fun _ h => h) (Or.inr ⟨rfl, hin, rfl⟩) (kX8.2.2.1 4 (by decide)) rfl rfl (Nat.le_of_ble_eq_true rfl) dX8_init_56 (fun H locs hW hat hS => ?_)
  have hat : va_at D vwCl (a, .inr (vix 8, [.ref b0, .ref b1, .ref b2, .ref b3, .ref b4, .null, .null, .null, .null, .null, .null, .int 0, .int 0])) H := hat
  have hW : WQ D [(b0, eLst t0), (b1, eLst t0), (b2, eLst t0), (b3, eLst t0), (b4, eLst t0)] a sz H := hW
  refine lv_aload_n hx hb dX8_init_59 rfl (lv_at hl 0 rfl) ?_
  refine q_list (C := 8) (rest := [.ref a]) X hK hE hW hat hS hA (ix := 9) (ic := 11) tw_1_42 tw_1_44 hl.1 (Nat.le_of_ble_eq_true rfl) ⟨Nat.le_of_ble_eq_true rfl, Nat.le_of_ble_eq_true rfl⟩ ⟨Nat.le_of_ble_eq_true rfl, Nat.le_of_ble_eq_true rfl⟩ dX8_init_60 dX8_init_63 dX8_init_64 (fun b5 H locs hW hat hS => ?_)
  refine q_put kX8 X hK hW hat hS (Or.inl rfl) 5 (by decide) fw_X8_28 (fun _ h => h) (Or.inr ⟨rfl, hin, rfl⟩) (kX8.2.2.1 5 (by decide)) rfl rfl (Nat.le_of_ble_eq_true rfl) dX8_init_67 (fun H locs hW hat hS => ?_)
  have hat : va_at D vwCl (a, .inr (vix 8, [.ref b0, .ref b1, .ref b2, .ref b3, .ref b4, .ref b5, .null, .null, .null, .null, .null, .int 0, .int 0])) H := hat
  have hW : WQ D [(b0, eLst t0), (b1, eLst t0), (b2, eLst t0), (b3, eLst t0), (b4, eLst t0), (b5, eLst t0)] a sz H := hW
  refine lv_aload_n hx hb dX8_init_70 rfl (lv_at hl 0 rfl) ?_
  refine lv_bipush (v := nI 12) hx hb dX8_init_71 (by decide) ?_
  refine q_row (C := 8) (N := 12) X hK hW hat hS (by decide) ⟨Nat.le_of_ble_eq_true rfl, Nat.le_of_ble_eq_true rfl⟩ dX8_init_73 (fun b6 H locs hW hat hS => ?_)
  refine q_put kX8 X hK hW hat hS (Or.inl rfl) 6 (by decide) fw_X8_31 (fun _ h => h) (Or.inr ⟨rfl, hin, rfl⟩) (kX8.2.2.1 6 (by decide)) rfl rfl (Nat.le_of_ble_eq_true rfl) dX8_init_75 (fun H locs hW hat hS => ?_)
  have hat : va_at D vwCl (a, .inr (vix 8, [.ref b0, .ref b1, .ref b2, .ref b3, .ref b4, .ref b5, .ref b6, .null, .null, .null, .null, .int 0, .int 0])) H := hat
  have hW : WQ D [(b0, eLst t0), (b1, eLst t0), (b2, eLst t0), (b3, eLst t0), (b4, eLst t0), (b5, eLst t0), (b6, eRow cI 12)] a sz H := hW
  refine lv_aload_n hx hb dX8_init_78 rfl (lv_at hl 0 rfl) ?_
  refine lv_iconst (v := nI 4) hx hb dX8_init_79 (by decide) ?_
  refine q_row (C := 8) (N := 4) X hK hW hat hS (by decide) ⟨Nat.le_of_ble_eq_true rfl, Nat.le_of_ble_eq_true rfl⟩ dX8_init_80 (fun b7 H locs hW hat hS => ?_)
  refine q_put kX8 X hK hW hat hS (Or.inl rfl) 7 (by decide) fw_X8_35 (fun _ h => h) (Or.inr ⟨rfl, hin, rfl⟩) (kX8.2.2.1 7 (by decide)) rfl rfl (Nat.le_of_ble_eq_true rfl) dX8_init_82 (fun H locs hW hat hS => ?_)
  have hat : va_at D vwCl (a, .inr (vix 8, [.ref b0, .ref b1, .ref b2, .ref b3, .ref b4, .ref b5, .ref b6, .ref b7, .null, .null, .null, .int 0, .int 0])) H := hat
  have hW : WQ D [(b0, eLst t0), (b1, eLst t0), (b2, eLst t0), (b3, eLst t0), (b4, eLst t0), (b5, eLst t0), (b6, eRow cI 12), (b7, eRow cI 4)] a sz H := hW
  refine lv_aload_n hx hb dX8_init_85 rfl (lv_at hl 0 rfl) ?_
  refine lv_iconst (v := nI 4) hx hb dX8_init_86 (by decide) ?_
  refine q_row (C := 8) (N := 4) X hK hW hat hS (by decide) ⟨Nat.le_of_ble_eq_true rfl, Nat.le_of_ble_eq_true rfl⟩ dX8_init_87 (fun b8 H locs hW hat hS => ?_)
  refine q_put kX8 X hK hW hat hS (Or.inl rfl) 8 (by decide) fw_X8_38 (fun _ h => h) (Or.inr ⟨rfl, hin, rfl⟩) (kX8.2.2.1 8 (by decide)) rfl rfl (Nat.le_of_ble_eq_true rfl) dX8_init_89 (fun H locs hW hat hS => ?_)
  have hat : va_at D vwCl (a, .inr (vix 8, [.ref b0, .ref b1, .ref b2, .ref b3, .ref b4, .ref b5, .ref b6, .ref b7, .ref b8, .null, .null, .int 0, .int 0])) H := hat
  have hW : WQ D [(b0, eLst t0), (b1, eLst t0), (b2, eLst t0), (b3, eLst t0), (b4, eLst t0), (b5, eLst t0), (b6, eRow cI 12), (b7, eRow cI 4), (b8, eRow cI 4)] a sz H := hW
  refine lv_aload_n hx hb dX8_init_92 rfl (lv_at hl 0 rfl) ?_
  refine q_walk (C := 8) X hK hE hX9 hW hat hS hA hl.1 ⟨Nat.le_of_ble_eq_true rfl, Nat.le_of_ble_eq_true rfl⟩ ⟨Nat.le_of_ble_eq_true rfl, Nat.le_of_ble_eq_true rfl⟩ dX8_init_93 dX8_init_96 dX8_init_97 (fun b9 b10 b11 b12 b13 H locs hW hat hS => ?_)
  refine q_put kX8 X hK hW hat hS (Or.inl rfl) 9 (by decide) fw_X8_44 (fun _ h => h) (Or.inr ⟨rfl, hin, rfl⟩) (kX8.2.2.1 9 (by decide)) rfl rfl (Nat.le_of_ble_eq_true rfl) dX8_init_100 (fun H locs hW hat hS => ?_)
  have hat : va_at D vwCl (a, .inr (vix 8, [.ref b0, .ref b1, .ref b2, .ref b3, .ref b4, .ref b5, .ref b6, .ref b7, .ref b8, .ref b9, .null, .int 0, .int 0])) H := hat
  have hW : WQ D [(b0, eLst t0), (b1, eLst t0), (b2, eLst t0), (b3, eLst t0), (b4, eLst t0), (b5, eLst t0), (b6, eRow cI 12), (b7, eRow cI 4), (b8, eRow cI 4), (b9, .inr (vix 7, [.ref b10, .ref b11, .ref b12, .ref b13, .int 0, .int 0, .int 0, .int 0, .int 0, .int 0, .int 0])), (b10, eLst t0), (b11, eLst t0), (b12, eRow cI 6), (b13, eRow cI 3)] a sz H := hW
  refine lv_aload_n hx hb dX8_init_103 rfl (lv_at hl 0 rfl) ?_
  refine q_trial (C := 8) X hK hX9 hW hat hS hA hl.1 ⟨Nat.le_of_ble_eq_true rfl, Nat.le_of_ble_eq_true rfl⟩ ⟨Nat.le_of_ble_eq_true rfl, Nat.le_of_ble_eq_true rfl⟩ dX8_init_104 dX8_init_107 dX8_init_108 (fun b14 b15 b16 H locs hW hat hS => ?_)
  refine q_put kX8 X hK hW hat hS (Or.inl rfl) 10 (by decide) fw_X8_51 (fun _ h => h) (Or.inr ⟨rfl, hin, rfl⟩) (kX8.2.2.1 10 (by decide)) rfl rfl (Nat.le_of_ble_eq_true rfl) dX8_init_111 (fun H locs hW hat hS => ?_)
  have hat : va_at D vwCl (a, .inr (vix 8, [.ref b0, .ref b1, .ref b2, .ref b3, .ref b4, .ref b5, .ref b6, .ref b7, .ref b8, .ref b9, .ref b14, .int 0, .int 0])) H := hat
  have hW : WQ D [(b0, eLst t0), (b1, eLst t0), (b2, eLst t0), (b3, eLst t0), (b4, eLst t0), (b5, eLst t0), (b6, eRow cI 12), (b7, eRow cI 4), (b8, eRow cI 4), (b9, .inr (vix 7, [.ref b10, .ref b11, .ref b12, .ref b13, .int 0, .int 0, .int 0, .int 0, .int 0, .int 0, .int 0])), (b10, eLst t0), (b11, eLst t0), (b12, eRow cI 6), (b13, eRow cI 3), (b14, .inr (vix 6, [.ref b15, .ref b16, .int 0, .int 0, .int 0])), (b15, eRow cI 144), (b16, eRow cI 4)] a sz H := hW
  obtain ⟨L, hLa, hC⟩ := sh_cw (cZ := cZ) (cO := cO) hW hat
  refine lv_iconst (v := nI 0) hx hb dX8_init_114 (by decide) ?_
  refine lv_istore_n (lv' := [(1, .int (nI 0)), (0, .ref a)]) hx hb dX8_init_115 rfl hl (by decide) rfl (fun ls hl => ?_)
  have hO : ∀ q, oN a sz q → oN a sz q := fun _ h => h
  have hN : ∀ q, s.heap.size ≤ q → oN a sz q := fun q h => Or.inr (by omega)
  refine W.widen (k := 20) (n := 220) (Nat.le_of_ble_eq_true rfl) (Nat.le_of_ble_eq_true rfl) ?_
  refine g_round (n := 0) X hK hE hX9 (by decide) hC hO hN hS hLa hl ⟨Nat.le_of_ble_eq_true rfl, Nat.le_of_ble_eq_true rfl⟩ ⟨Nat.le_of_ble_eq_true rfl, Nat.le_of_ble_eq_true rfl⟩ (fun L1 ow1 H locs ls hL1 hC1 hO1 hS hl => ?_)
  refine g_round (n := 1) X hK hE hX9 (by decide) hC1 hO1 hN hS hL1 hl ⟨Nat.le_of_ble_eq_true rfl, Nat.le_of_ble_eq_true rfl⟩ ⟨Nat.le_of_ble_eq_true rfl, Nat.le_of_ble_eq_true rfl⟩ (fun L2 ow2 H locs ls hL2 hC2 hO2 hS hl => ?_)
  refine g_round (n := 2) X hK hE hX9 (by decide) hC2 hO2 hN hS hL2 hl ⟨Nat.le_of_ble_eq_true rfl, Nat.le_of_ble_eq_true rfl⟩ ⟨Nat.le_of_ble_eq_true rfl, Nat.le_of_ble_eq_true rfl⟩ (fun L3 ow3 H locs ls hL3 hC3 hO3 hS hl => ?_)
  refine g_round (n := 3) X hK hE hX9 (by decide) hC3 hO3 hN hS hL3 hl ⟨Nat.le_of_ble_eq_true rfl, Nat.le_of_ble_eq_true rfl⟩ ⟨Nat.le_of_ble_eq_true rfl, Nat.le_of_ble_eq_true rfl⟩ (fun L4 ow4 H locs ls hL4 hC4 hO4 hS hl => ?_)
  refine lv_iload_n hx hb dX8_init_116 rfl (lv_at hl 0 rfl) ?_
  refine lv_iconst (v := nI 4) hx hb dX8_init_117 (by decide) ?_
  refine r_icmp_geN (tgt := 142) hx hb dX8_init_118 (by decide) (by decide) (by decide) (fun _ => ?_) (fun c9 => absurd c9 (by decide))
  exact ce_ret hx hb hr hlocks ⟨L4, ow4, hL4, hO4, hC4⟩ hS (Nat.le_of_ble_eq_true rfl) (Nat.le_of_ble_eq_true rfl) dX8_init_142
