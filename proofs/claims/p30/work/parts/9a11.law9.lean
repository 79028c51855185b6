theorem hng_n {ka kb ku km kq f n : Nat} {σ : St} (c : ¬ (h_n1 ka kb ku km kq σ).1 = 0) : h_ngl ka kb ku km kq (f + 1) n σ = (n, (h_n1 ka kb ku km kq σ).2) := if_neg c
theorem hng_1 {ka kb ku km kq f n : Nat} {σ : St} (c : (h_n1 ka kb ku km kq σ).1 = 0) (c1 : tn (σ.2.2.2 905 kq 10) = 1) : h_ngl ka kb ku km kq (f + 1) n σ = (n + 1, h_n2 kq (tn (σ.2.2.2 905 kq 8)) (h_n1 ka kb ku km kq σ).2) := (if_pos c).trans (if_pos c1)
theorem hng_2 {ka kb ku km kq f n : Nat} {σ : St} (c : (h_n1 ka kb ku km kq σ).1 = 0) (c1 : ¬ tn (σ.2.2.2 905 kq 10) = 1) : h_ngl ka kb ku km kq (f + 1) n σ = h_ngl ka kb ku km kq f (n + 1) (h_n2 kq (tn (σ.2.2.2 905 kq 8)) (h_n1 ka kb ku km kq σ).2) := (if_pos c).trans (if_neg c1)
set_option maxRecDepth 100000 in
set_option maxHeartbeats 4000000 in
theorem c_L_night {D : va_G} {cI cZ cO : ClassId} {dom : Nat → Nat → Prop} (l : Launch) (L : Lay) (σ : St) (ow : Nat → Prop) (ka kb ku km kq : Nat) (hd : ∀ z ∈ ([(900, ka), (900, kb), (901, 0), (902, ku), (903, km), (904, 0), (905, kq)] : List (Nat × Nat)), dom z.1 z.2) (hN0 : NI ka kb ku km kq σ) : RM D cI cZ cO dom l yL_night cL_night 10 ((some FieldType.int)) 5 145 [.ref (L 900 ka), .ref (L 900 kb), .ref (L 901 0), .ref (L 902 ku), .ref (L 903 km), .ref (L 904 0), .ref (L 905 kq)] L σ ow (nI (h_night ka kb ku km kq σ).1) ((h_night ka kb ku km kq σ).2) := by
  refine rm_of rfl (Nat.le_of_ble_eq_true rfl) ?_
  intro p e s m below meth c ls X hK hG hr hlocks hl
  have X : CallFix p m c cL_night 10 s _ TB RL := X
  have hx := X.1
  have hb := X.2.1
  have hS : va_S (AA ow s.heap.size) s.heap s.heap [] := va_S.rf
  have hA : ∀ q, ow q → AA ow s.heap.size q := fun _ h => Or.inl h
  have hl : lv_has ls 10 [(0, .ref (L 900 ka)), (1, .ref (L 900 kb)), (2, .ref (L 901 0)), (3, .ref (L 902 ku)), (4, .ref (L 903 km)), (5, .ref (L 904 0)), (6, .ref (L 905 kq))] := hl
  have hq0 := hN0.2.2.2.1
  have b100 := ix_lt hN0.2.2.2.2.1
  refine lv_iconst (v := nI 0) hx hb dL_night_0 (by decide) ?_
  refine lv_istore (lv' := [(7, .int (nI 0)), (0, .ref (L 900 ka)), (1, .ref (L 900 kb)), (2, .ref (L 901 0)), (3, .ref (L 902 ku)), (4, .ref (L 903 km)), (5, .ref (L 904 0)), (6, .ref (L 905 kq))]) hx hb dL_night_1 hl (by decide) rfl (fun ls hl => ?_)
  refine r_cutH 16 [.int (nI (if tn (σ.2.2.2 905 kq 10) = 0 then 0 else 1))] hG hS (fun H locs hG hS => ?_) (fun J_16 => ?_)
  · refine lv_istore (lv' := [(8, .int (nI (if tn (σ.2.2.2 905 kq 10) = 0 then 0 else 1))), (7, .int (nI 0)), (0, .ref (L 900 ka)), (1, .ref (L 900 kb)), (2, .ref (L 901 0)), (3, .ref (L 902 ku)), (4, .ref (L 903 km)), (5, .ref (L 904 0)), (6, .ref (L 905 kq))]) hx hb dL_night_16 hl (by decide) rfl (fun ls hl => ?_)
    refine r_loop (ι := Nat × Nat × Nat × St) (fun (⟨w9, n9, f9, σ9⟩ : Nat × Nat × Nat × St) => [(8, .int (nI w9)), (7, .int (nI n9)), (0, .ref (L 900 ka)), (1, .ref (L 900 kb)), (2, .ref (L 901 0)), (3, .ref (L 902 ku)), (4, .ref (L 903 km)), (5, .ref (L 904 0)), (6, .ref (L 905 kq))]) (fun (⟨w9, n9, f9, σ9⟩ : Nat × Nat × Nat × St) => σ9) (fun (⟨w9, n9, f9, σ9⟩ : Nat × Nat × Nat × St) => (if w9 = 0 then 0 else f9 + 1)) (fun (⟨w9, n9, f9, σ9⟩ : Nat × Nat × Nat × St) => h_night ka kb ku km kq σ = (if w9 = 0 then (n9, σ9) else h_ngl ka kb ku km kq f9 n9 σ9) ∧ (¬ w9 = 0 → NI ka kb ku km kq σ9 ∧ 0 < tn (σ9.2.2.2 905 kq 10) ∧ tn (σ9.2.2.2 905 kq 10) ≤ f9) ∧ w9 < 2 ∧ n9 + f9 ≤ 2) ⟨(if tn (σ.2.2.2 905 kq 10) = 0 then 0 else 1), 0, 2, σ⟩ (⟨by by_cases z : tn (σ.2.2.2 905 kq 10) = 0; (rw [if_pos z, if_pos rfl]; exact if_pos z); (rw [if_neg z, if_neg (by decide)]; exact if_neg z), fun z => ⟨hN0, by by_cases y : tn (σ.2.2.2 905 kq 10) = 0; (rw [if_pos y] at z; exact absurd rfl z); omega, by omega⟩, by split <;> decide, by decide⟩) hG hS (lv_sub hl [0, 1, 2, 3, 4, 5, 6, 7, 8] rfl) ?_
    rintro ⟨w9, n9, f9, σ9⟩ hinv ih H locs ls hG hS hl
    have hG : PW D cI cZ cO dom L σ9 ow H := hG
    have hl : lv_has ls 10 [(8, .int (nI w9)), (7, .int (nI n9)), (0, .ref (L 900 ka)), (1, .ref (L 900 kb)), (2, .ref (L 901 0)), (3, .ref (L 902 ku)), (4, .ref (L 903 km)), (5, .ref (L 904 0)), (6, .ref (L 905 kq))] := hl
    obtain ⟨hq, hkf, hw9, hnf⟩ := hinv
    refine lv_iload hx hb dL_night_18 (lv_at hl 0 rfl) ?_
    refine r_if_eqN (tgt := 150) hx hb dL_night_20 (by decide) (by omega) (fun c_20 => ?_) (fun c_20 => ?_)
    · refine lv_iload hx hb dL_night_150 (lv_at hl 1 rfl) ?_
      exact rm_ret hx hb hr hlocks hG hS (by rw [hq, if_pos c_20]) (by rw [hq, if_pos c_20]) rfl dL_night_152
    · have hkk := hkf c_20
      have hN9 := hkk.1
      have hq9 := hN9.2.2.2.1
      have hi9 := hN9.2.2.2.2.2 0 hkk.2.1
      have b8 : tn (σ9.2.2.2 905 kq 8) < 2 := ix_lt hi9.1
      obtain ⟨f1, rfl⟩ : ∃ f1, f9 = f1 + 1 := ⟨f9 - 1, by omega⟩
      refine lv_aload hx hb dL_night_23 (lv_at hl 8 rfl) ?_
      refine lv_bipush (v := nI 8) hx hb dL_night_25 (by decide) ?_
      refine pw_ald8 X hK hG 905 fa_905 (hd _ (List.mem_of_getElem? (i := 6) rfl)) (i := 8) (N := σ9.2.2.1 905 kq 0) (x := σ9.2.2.2 905 kq 8) rfl (by omega) (by omega) rfl dL_night_27 ?_
      refine r_top (y := nI (tn (σ9.2.2.2 905 kq 8))) (ix_eq hi9.1) ?_
      refine lv_istore (lv' := [(9, .int (nI (tn (σ9.2.2.2 905 kq 8)))), (8, .int (nI w9)), (7, .int (nI n9)), (0, .ref (L 900 ka)), (1, .ref (L 900 kb)), (2, .ref (L 901 0)), (3, .ref (L 902 ku)), (4, .ref (L 903 km)), (5, .ref (L 904 0)), (6, .ref (L 905 kq))]) hx hb dL_night_28 hl (by decide) rfl (fun ls hl => ?_)
      refine lv_iload hx hb dL_night_30 (lv_at hl 0 rfl) ?_
      refine r_if_neN (tgt := 39) hx hb dL_night_32 (by decide) (by omega) (fun c_32 => ?_) (fun c_32 => ?_)
      · refine lv_aload_n hx hb dL_night_39 rfl (lv_at hl 4 rfl) ?_
        refine lv_aload_n hx hb dL_night_40 rfl (lv_at hl 5 rfl) ?_
        refine lv_aload_n hx hb dL_night_41 rfl (lv_at hl 6 rfl) ?_
        refine lv_aload hx hb dL_night_42 (lv_at hl 7 rfl) ?_
        refine lv_aload hx hb dL_night_44 (lv_at hl 8 rfl) ?_
        refine lv_aload hx hb dL_night_46 (lv_at hl 9 rfl) ?_
        refine lv_iconst (v := nI 4) hx hb dL_night_48 (by decide) ?_
        refine lv_iload hx hb dL_night_49 (lv_at hl 0 rfl) ?_
        refine r_mulN hx hb dL_night_51 ?_
        refine lv_iconst (v := nI 1) hx hb dL_night_52 (by decide) ?_
        refine r_addN hx hb dL_night_53 ?_
        refine pw_ald8 X hK hG 905 fa_905 (hd _ (List.mem_of_getElem? (i := 6) rfl)) (i := (4 * (tn (σ9.2.2.2 905 kq 8))) + 1) (N := σ9.2.2.1 905 kq 0) (x := σ9.2.2.2 905 kq ((4 * (tn (σ9.2.2.2 905 kq 8))) + 1)) rfl (by omega) (by omega) rfl dL_night_54 ?_
        refine r_top (y := nI (tn (σ9.2.2.2 905 kq (4 * tn (σ9.2.2.2 905 kq 8) + 1)))) (ix_eq hi9.2.1) ?_
        refine lv_aload hx hb dL_night_55 (lv_at hl 9 rfl) ?_
        refine lv_iconst (v := nI 4) hx hb dL_night_57 (by decide) ?_
        refine lv_iload hx hb dL_night_58 (lv_at hl 0 rfl) ?_
        refine r_mulN hx hb dL_night_60 ?_
        refine lv_iconst (v := nI 2) hx hb dL_night_61 (by decide) ?_
        refine r_addN hx hb dL_night_62 ?_
        refine pw_ald8 X hK hG 905 fa_905 (hd _ (List.mem_of_getElem? (i := 6) rfl)) (i := (4 * (tn (σ9.2.2.2 905 kq 8))) + 2) (N := σ9.2.2.1 905 kq 0) (x := σ9.2.2.2 905 kq ((4 * (tn (σ9.2.2.2 905 kq 8))) + 2)) rfl (by omega) (by omega) rfl dL_night_63 ?_
        refine r_top (y := nI (tn (σ9.2.2.2 905 kq (4 * tn (σ9.2.2.2 905 kq 8) + 2)))) (ix_eq hi9.2.2) ?_
        refine lv_iconst (v := nI 1) hx hb dL_night_64 (by decide) ?_
        refine rm_callS X hK hG hS ysL_run ml_L_33 [.ref (L 900 kb), .ref (L 901 0), .ref (L 902 ku), .ref (L 903 km), .ref (L 904 0), .int (nI (tn (σ9.2.2.2 905 kq (4 * tn (σ9.2.2.2 905 kq 8) + 1)))), .int (nI (tn (σ9.2.2.2 905 kq (4 * tn (σ9.2.2.2 905 kq 8) + 2)))), .int (nI 1)] [] (c_L_run l L σ9 ow kb ku km (tn (σ9.2.2.2 905 kq (4 * tn (σ9.2.2.2 905 kq 8) + 1))) (tn (σ9.2.2.2 905 kq (4 * tn (σ9.2.2.2 905 kq 8) + 2))) (nI 1) (fun z hz => hd z (by revert hz; simp only [List.mem_cons, List.not_mem_nil, or_false]; rintro (h9 | h9 | h9 | h9 | h9) <;> simp [h9])) (ix_lt hi9.2.1) (ix_lt hi9.2.2) hN9.2.1 hN9.2.2.1) rfl hl.1 rfl (Nat.le_of_ble_eq_true rfl) ⟨Nat.le_of_ble_eq_true rfl, Nat.le_of_ble_eq_true rfl⟩ ⟨Nat.zero_le _, Nat.zero_le _⟩ dL_night_65 (fun H locs hG hS => ?_)
        have hfR := RF_run (kr := kb) (ku := ku) (km := km) (t9 := nI 1) (σ := σ9) (tn (σ9.2.2.2 905 kq (4 * tn (σ9.2.2.2 905 kq 8) + 1))) (tn (σ9.2.2.2 905 kq (4 * tn (σ9.2.2.2 905 kq 8) + 2)))
        have hk9 : h_kr ka kb (tn (σ9.2.2.2 905 kq 8)) = kb := if_neg c_32
        have hn1 : h_n1 ka kb ku km kq σ9 = ((h_run kb ku km (tn (σ9.2.2.2 905 kq (4 * tn (σ9.2.2.2 905 kq 8) + 1))) (tn (σ9.2.2.2 905 kq (4 * tn (σ9.2.2.2 905 kq 8) + 2))) (nI 1) σ9).1, wB (h_run kb ku km (tn (σ9.2.2.2 905 kq (4 * tn (σ9.2.2.2 905 kq 8) + 1))) (tn (σ9.2.2.2 905 kq (4 * tn (σ9.2.2.2 905 kq 8) + 2))) (nI 1) σ9).2 905 kq (4 * tn (σ9.2.2.2 905 kq 8) + 2) ((h_run kb ku km (tn (σ9.2.2.2 905 kq (4 * tn (σ9.2.2.2 905 kq 8) + 1))) (tn (σ9.2.2.2 905 kq (4 * tn (σ9.2.2.2 905 kq 8) + 2))) (nI 1) σ9).2.2.2.2 904 0 6)) := by unfold h_n1; rw [hk9]
        generalize hX9 : h_run kb ku km (tn (σ9.2.2.2 905 kq (4 * tn (σ9.2.2.2 905 kq 8) + 1))) (tn (σ9.2.2.2 905 kq (4 * tn (σ9.2.2.2 905 kq 8) + 2))) (nI 1) σ9 = X9 at hG hfR hn1 ⊢
        have eQ : X9.2.2.2.2 905 kq = σ9.2.2.2 905 kq := hfR.2.1 905 kq (fun z => absurd z.1 (by decide)) (fun z => absurd z.1 (by decide)) (fun z => absurd z.1 (by decide))
        have eL : X9.2.2.2.1 905 kq = σ9.2.2.1 905 kq := hfR.1 905 kq (fun z => absurd z.1 (by decide))
        have hlq : 11 ≤ X9.2.2.2.1 905 kq 0 ∧ X9.2.2.2.1 905 kq 0 < 1000 := by rw [eL]; exact hN9.2.2.2.1
        refine lv_if_ne (tgt := 75) hx hb dL_night_68 (by decide) (fun c_68 => ?_) (fun c_68 => ?_)
        · refine lv_iconst (v := nI 0) hx hb dL_night_75 (by decide) ?_
          refine lv_istore (lv' := [(8, .int (nI 0)), (9, .int (nI (tn (σ9.2.2.2 905 kq 8)))), (7, .int (nI n9)), (0, .ref (L 900 ka)), (1, .ref (L 900 kb)), (2, .ref (L 901 0)), (3, .ref (L 902 ku)), (4, .ref (L 903 km)), (5, .ref (L 904 0)), (6, .ref (L 905 kq))]) hx hb dL_night_76 hl (by decide) rfl (fun ls hl => ?_)
          refine lv_aload hx hb dL_night_78 (lv_at hl 9 rfl) ?_
          refine lv_iconst (v := nI 4) hx hb dL_night_80 (by decide) ?_
          refine lv_iload hx hb dL_night_81 (lv_at hl 1 rfl) ?_
          refine r_mulN hx hb dL_night_83 ?_
          refine lv_iconst (v := nI 2) hx hb dL_night_84 (by decide) ?_
          refine r_addN hx hb dL_night_85 ?_
          refine lv_aload hx hb dL_night_86 (lv_at hl 8 rfl) ?_
          refine lv_bipush (v := nI 6) hx hb dL_night_88 (by decide) ?_
          refine al_904 X hK hG (hd _ (List.mem_of_getElem? (i := 5) rfl)) (i := 6) (x := X9.2.2.2.2 904 0 6) (by omega) rfl dL_night_90 ?_
          refine pw_ast8 X hK hG hS hA 905 fa_905 (hd _ (List.mem_of_getElem? (i := 6) rfl)) (i := (4 * (tn (σ9.2.2.2 905 kq 8))) + 2) (N := X9.2.2.2.1 905 kq 0) rfl (by omega) (by omega) dL_night_91 (fun H locs hG hS => ?_)
          refine lv_iload hx hb dL_night_92 (lv_at hl 0 rfl) ?_
          refine r_if_eqN (tgt := 127) hx hb dL_night_94 (by decide) (by omega) (fun c_94 => ?_) (fun c_94 => absurd c_94 (by decide))
          refine lv_iload hx hb dL_night_127 (lv_at hl 0 rfl) ?_
          refine r_if_eqN (tgt := 144) hx hb dL_night_129 (by decide) (by omega) (fun c_129 => ?_) (fun c_129 => absurd c_129 (by decide))
          refine lv_iconst (v := nI 0) hx hb dL_night_144 (by decide) ?_
          refine lv_istore (lv' := [(8, .int (nI 0)), (9, .int (nI (tn (σ9.2.2.2 905 kq 8)))), (7, .int (nI n9)), (0, .ref (L 900 ka)), (1, .ref (L 900 kb)), (2, .ref (L 901 0)), (3, .ref (L 902 ku)), (4, .ref (L 903 km)), (5, .ref (L 904 0)), (6, .ref (L 905 kq))]) hx hb dL_night_145 hl (by decide) rfl (fun ls hl => ?_)
          refine lv_goto (tgt := 18) hx hb dL_night_147 (by decide) ?_
          exact ih ⟨0, n9, f1, (wB X9.2 905 kq ((4 * (tn (σ9.2.2.2 905 kq 8))) + 2) (X9.2.2.2.2 904 0 6))⟩ (by show (if 0 = 0 then 0 else f1 + 1) < (if w9 = 0 then 0 else (f1 + 1) + 1); rw [if_pos rfl, if_neg c_20]; omega) (⟨(hq.trans ((if_neg c_20).trans ((hng_n (by rw [hn1]; exact c_68)).trans (congrArg (fun z => (n9, z.2)) hn1)))).trans (if_pos rfl).symm, fun z => absurd rfl z, by decide, by omega⟩) H locs ls hG hS (lv_sub hl [0, 2, 3, 4, 5, 6, 7, 8, 9] rfl)
        · refine lv_iconst (v := nI 1) hx hb dL_night_71 (by decide) ?_
          refine lv_goto (tgt := 76) hx hb dL_night_72 (by decide) ?_
          refine lv_istore (lv' := [(8, .int (nI 1)), (9, .int (nI (tn (σ9.2.2.2 905 kq 8)))), (7, .int (nI n9)), (0, .ref (L 900 ka)), (1, .ref (L 900 kb)), (2, .ref (L 901 0)), (3, .ref (L 902 ku)), (4, .ref (L 903 km)), (5, .ref (L 904 0)), (6, .ref (L 905 kq))]) hx hb dL_night_76 hl (by decide) rfl (fun ls hl => ?_)
          refine lv_aload hx hb dL_night_78 (lv_at hl 9 rfl) ?_
          refine lv_iconst (v := nI 4) hx hb dL_night_80 (by decide) ?_
          refine lv_iload hx hb dL_night_81 (lv_at hl 1 rfl) ?_
          refine r_mulN hx hb dL_night_83 ?_
          refine lv_iconst (v := nI 2) hx hb dL_night_84 (by decide) ?_
          refine r_addN hx hb dL_night_85 ?_
          refine lv_aload hx hb dL_night_86 (lv_at hl 8 rfl) ?_
          refine lv_bipush (v := nI 6) hx hb dL_night_88 (by decide) ?_
          refine al_904 X hK hG (hd _ (List.mem_of_getElem? (i := 5) rfl)) (i := 6) (x := X9.2.2.2.2 904 0 6) (by omega) rfl dL_night_90 ?_
          refine pw_ast8 X hK hG hS hA 905 fa_905 (hd _ (List.mem_of_getElem? (i := 6) rfl)) (i := (4 * (tn (σ9.2.2.2 905 kq 8))) + 2) (N := X9.2.2.2.1 905 kq 0) rfl (by omega) (by omega) dL_night_91 (fun H locs hG hS => ?_)
          refine lv_iload hx hb dL_night_92 (lv_at hl 0 rfl) ?_
          refine r_if_eqN (tgt := 127) hx hb dL_night_94 (by decide) (by omega) (fun c_94 => absurd c_94 (by decide)) (fun c_94 => ?_)
          refine lv_aload hx hb dL_night_97 (lv_at hl 9 rfl) ?_
          refine lv_iconst (v := nI 4) hx hb dL_night_99 (by decide) ?_
          refine lv_iload hx hb dL_night_100 (lv_at hl 1 rfl) ?_
          refine r_mulN hx hb dL_night_102 ?_
          refine lv_iconst (v := nI 2) hx hb dL_night_103 (by decide) ?_
          refine pw_ast8 X hK hG hS hA 905 fa_905 (hd _ (List.mem_of_getElem? (i := 6) rfl)) (i := 4 * (tn (σ9.2.2.2 905 kq 8))) (N := X9.2.2.2.1 905 kq 0) rfl (by omega) (by omega) dL_night_104 (fun H locs hG hS => ?_)
          refine lv_aload hx hb dL_night_105 (lv_at hl 9 rfl) ?_
          refine lv_bipush (v := nI 8) hx hb dL_night_107 (by decide) ?_
          refine lv_aload hx hb dL_night_109 (lv_at hl 9 rfl) ?_
          refine lv_bipush (v := nI 9) hx hb dL_night_111 (by decide) ?_
          refine pw_ald8 X hK hG 905 fa_905 (hd _ (List.mem_of_getElem? (i := 6) rfl)) (i := 9) (N := X9.2.2.2.1 905 kq 0) (x := X9.2.2.2.2 905 kq 9) rfl (by omega) (by omega) ((show (wB (wB X9.2 905 kq ((4 * (tn (σ9.2.2.2 905 kq 8))) + 2) (X9.2.2.2.2 904 0 6)) 905 kq (4 * (tn (σ9.2.2.2 905 kq 8))) (nI 2)).2.2.2 905 kq 9 = _ from e_ne (σ := (wB X9.2 905 kq ((4 * (tn (σ9.2.2.2 905 kq 8))) + 2) (X9.2.2.2.2 904 0 6))) (F := 905) (k := kq) (i := (4 * (tn (σ9.2.2.2 905 kq 8)))) (j := 9) (v := (nI 2)) (by omega)).trans ((show (wB X9.2 905 kq ((4 * (tn (σ9.2.2.2 905 kq 8))) + 2) (X9.2.2.2.2 904 0 6)).2.2.2 905 kq 9 = _ from e_ne (σ := X9.2) (F := 905) (k := kq) (i := ((4 * (tn (σ9.2.2.2 905 kq 8))) + 2)) (j := 9) (v := (X9.2.2.2.2 904 0 6)) (by omega)).trans rfl)) dL_night_113 ?_
          refine pw_ast8 X hK hG hS hA 905 fa_905 (hd _ (List.mem_of_getElem? (i := 6) rfl)) (i := 8) (N := X9.2.2.2.1 905 kq 0) rfl (by omega) (by omega) dL_night_114 (fun H locs hG hS => ?_)
          refine lv_aload hx hb dL_night_115 (lv_at hl 9 rfl) ?_
          refine lv_bipush (v := nI 10) hx hb dL_night_117 (by decide) ?_
          refine lv_dup2_11 hx hb dL_night_119 rfl rfl ?_
          refine pw_ald8 X hK hG 905 fa_905 (hd _ (List.mem_of_getElem? (i := 6) rfl)) (i := 10) (N := X9.2.2.2.1 905 kq 0) (x := X9.2.2.2.2 905 kq 10) rfl (by omega) (by omega) ((show (wB (wB (wB X9.2 905 kq ((4 * (tn (σ9.2.2.2 905 kq 8))) + 2) (X9.2.2.2.2 904 0 6)) 905 kq (4 * (tn (σ9.2.2.2 905 kq 8))) (nI 2)) 905 kq 8 (X9.2.2.2.2 905 kq 9)).2.2.2 905 kq 10 = _ from e_ne (σ := (wB (wB X9.2 905 kq ((4 * (tn (σ9.2.2.2 905 kq 8))) + 2) (X9.2.2.2.2 904 0 6)) 905 kq (4 * (tn (σ9.2.2.2 905 kq 8))) (nI 2))) (F := 905) (k := kq) (i := 8) (j := 10) (v := (X9.2.2.2.2 905 kq 9)) (by decide)).trans ((show (wB (wB X9.2 905 kq ((4 * (tn (σ9.2.2.2 905 kq 8))) + 2) (X9.2.2.2.2 904 0 6)) 905 kq (4 * (tn (σ9.2.2.2 905 kq 8))) (nI 2)).2.2.2 905 kq 10 = _ from e_ne (σ := (wB X9.2 905 kq ((4 * (tn (σ9.2.2.2 905 kq 8))) + 2) (X9.2.2.2.2 904 0 6))) (F := 905) (k := kq) (i := (4 * (tn (σ9.2.2.2 905 kq 8)))) (j := 10) (v := (nI 2)) (by omega)).trans ((show (wB X9.2 905 kq ((4 * (tn (σ9.2.2.2 905 kq 8))) + 2) (X9.2.2.2.2 904 0 6)).2.2.2 905 kq 10 = _ from e_ne (σ := X9.2) (F := 905) (k := kq) (i := ((4 * (tn (σ9.2.2.2 905 kq 8))) + 2)) (j := 10) (v := (X9.2.2.2.2 904 0 6)) (by omega)).trans rfl))) dL_night_120 ?_
          refine r_top (y := nI (tn (σ9.2.2.2 905 kq 10))) (by rw [eQ]; exact ix_eq hN9.2.2.2.2.1) ?_
          refine lv_iconst (v := nI 1) hx hb dL_night_121 (by decide) ?_
          refine r_subN hx hb (by omega) dL_night_122 ?_
          refine pw_ast8 X hK hG hS hA 905 fa_905 (hd _ (List.mem_of_getElem? (i := 6) rfl)) (i := 10) (N := X9.2.2.2.1 905 kq 0) rfl (by omega) (by omega) dL_night_123 (fun H locs hG hS => ?_)
          refine r_iincN (b := 1) (lv' := [(7, .int (nI (n9 + 1))), (8, .int (nI 1)), (9, .int (nI (tn (σ9.2.2.2 905 kq 8)))), (0, .ref (L 900 ka)), (1, .ref (L 900 kb)), (2, .ref (L 901 0)), (3, .ref (L 902 ku)), (4, .ref (L 903 km)), (5, .ref (L 904 0)), (6, .ref (L 905 kq))]) hx hb dL_night_124 hl (k := 2) rfl (by decide) (by decide) rfl (fun ls hl => ?_)
          refine lv_iload hx hb dL_night_127 (lv_at hl 1 rfl) ?_
          refine r_if_eqN (tgt := 144) hx hb dL_night_129 (by decide) (by omega) (fun c_129 => absurd c_129 (by decide)) (fun c_129 => ?_)
          have hst9 : (wB (wB (wB (wB X9.2 905 kq ((4 * (tn (σ9.2.2.2 905 kq 8))) + 2) (X9.2.2.2.2 904 0 6)) 905 kq (4 * (tn (σ9.2.2.2 905 kq 8))) (nI 2)) 905 kq 8 (X9.2.2.2.2 905 kq 9)) 905 kq 10 (nI ((tn (σ9.2.2.2 905 kq 10)) - 1))) = h_n2 kq (tn (σ9.2.2.2 905 kq 8)) (h_n1 ka kb ku km kq σ9).2 := by unfold h_n2; rw [hn1]; show _ = wB (wB (wB _ 905 kq _ (nI 2)) 905 kq 8 ((wB X9.2 905 kq (4 * tn (σ9.2.2.2 905 kq 8) + 2) _).2.2.2 905 kq 9)) 905 kq 10 (nI (tn ((wB X9.2 905 kq (4 * tn (σ9.2.2.2 905 kq 8) + 2) _).2.2.2 905 kq 10) - 1)); rw [e_ne (show 9 ≠ 4 * tn (σ9.2.2.2 905 kq 8) + 2 by omega), e_ne (show 10 ≠ 4 * tn (σ9.2.2.2 905 kq 8) + 2 by omega), eQ]
          refine lv_aload hx hb dL_night_132 (lv_at hl 9 rfl) ?_
          refine lv_bipush (v := nI 10) hx hb dL_night_134 (by decide) ?_
          refine pw_ald8 X hK hG 905 fa_905 (hd _ (List.mem_of_getElem? (i := 6) rfl)) (i := 10) (N := X9.2.2.2.1 905 kq 0) (x := nI ((tn (σ9.2.2.2 905 kq 10)) - 1)) rfl (by omega) (by omega) (by simp [wN, wI, wA, wB, up3, up2, up1]) dL_night_136 ?_
          refine r_top (y := nI (tn (σ9.2.2.2 905 kq 10) - 1)) (rfl) ?_
          refine r_if_leN (tgt := 144) hx hb dL_night_137 (by decide) (by omega) (fun c_137 => ?_) (fun c_137 => ?_)
          · refine lv_iconst (v := nI 0) hx hb dL_night_144 (by decide) ?_
            refine lv_istore (lv' := [(8, .int (nI 0)), (7, .int (nI (n9 + 1))), (9, .int (nI (tn (σ9.2.2.2 905 kq 8)))), (0, .ref (L 900 ka)), (1, .ref (L 900 kb)), (2, .ref (L 901 0)), (3, .ref (L 902 ku)), (4, .ref (L 903 km)), (5, .ref (L 904 0)), (6, .ref (L 905 kq))]) hx hb dL_night_145 hl (by decide) rfl (fun ls hl => ?_)
            refine lv_goto (tgt := 18) hx hb dL_night_147 (by decide) ?_
            exact ih ⟨0, n9 + 1, f1, (wB (wB (wB (wB X9.2 905 kq ((4 * (tn (σ9.2.2.2 905 kq 8))) + 2) (X9.2.2.2.2 904 0 6)) 905 kq (4 * (tn (σ9.2.2.2 905 kq 8))) (nI 2)) 905 kq 8 (X9.2.2.2.2 905 kq 9)) 905 kq 10 (nI ((tn (σ9.2.2.2 905 kq 10)) - 1)))⟩ (by show (if 0 = 0 then 0 else f1 + 1) < (if w9 = 0 then 0 else (f1 + 1) + 1); rw [if_pos rfl, if_neg c_20]; omega) (⟨(hq.trans ((if_neg c_20).trans ((hng_1 (by rw [hn1]; exact c_68) (by omega)).trans (congrArg (fun z => (n9 + 1, z)) hst9.symm)))).trans (if_pos rfl).symm, fun z => absurd rfl z, by decide, by omega⟩) H locs ls hG hS (lv_sub hl [0, 1, 3, 4, 5, 6, 7, 8, 9] rfl)
          · refine lv_iconst (v := nI 1) hx hb dL_night_140 (by decide) ?_
            refine lv_goto (tgt := 145) hx hb dL_night_141 (by decide) ?_
            refine lv_istore (lv' := [(8, .int (nI 1)), (7, .int (nI (n9 + 1))), (9, .int (nI (tn (σ9.2.2.2 905 kq 8)))), (0, .ref (L 900 ka)), (1, .ref (L 900 kb)), (2, .ref (L 901 0)), (3, .ref (L 902 ku)), (4, .ref (L 903 km)), (5, .ref (L 904 0)), (6, .ref (L 905 kq))]) hx hb dL_night_145 hl (by decide) rfl (fun ls hl => ?_)
            refine lv_goto (tgt := 18) hx hb dL_night_147 (by decide) ?_
            exact ih ⟨1, n9 + 1, f1, (wB (wB (wB (wB X9.2 905 kq ((4 * (tn (σ9.2.2.2 905 kq 8))) + 2) (X9.2.2.2.2 904 0 6)) 905 kq (4 * (tn (σ9.2.2.2 905 kq 8))) (nI 2)) 905 kq 8 (X9.2.2.2.2 905 kq 9)) 905 kq 10 (nI ((tn (σ9.2.2.2 905 kq 10)) - 1)))⟩ (by show (if 1 = 0 then 0 else f1 + 1) < (if w9 = 0 then 0 else (f1 + 1) + 1); rw [if_neg (by decide), if_neg c_20]; omega) (⟨(hq.trans ((if_neg c_20).trans ((hng_2 (by rw [hn1]; exact c_68) (by omega)).trans (congrArg (fun z => h_ngl ka kb ku km kq f1 (n9 + 1) z) hst9.symm)))).trans (if_neg (by decide)).symm, fun _ => by rw [hst9]; have h8 := NI_n2 hN9 hkk.2.1; exact ⟨h8.1, by rw [h8.2]; omega, by rw [h8.2]; omega⟩, by decide, by omega⟩) H locs ls hG hS (lv_sub hl [0, 1, 3, 4, 5, 6, 7, 8, 9] rfl)
      · refine lv_aload_n hx hb dL_night_35 rfl (lv_at hl 3 rfl) ?_
        refine lv_goto (tgt := 40) hx hb dL_night_36 (by decide) ?_
        refine lv_aload_n hx hb dL_night_40 rfl (lv_at hl 5 rfl) ?_
        refine lv_aload_n hx hb dL_night_41 rfl (lv_at hl 6 rfl) ?_
        refine lv_aload hx hb dL_night_42 (lv_at hl 7 rfl) ?_
        refine lv_aload hx hb dL_night_44 (lv_at hl 8 rfl) ?_
        refine lv_aload hx hb dL_night_46 (lv_at hl 9 rfl) ?_
        refine lv_iconst (v := nI 4) hx hb dL_night_48 (by decide) ?_
        refine lv_iload hx hb dL_night_49 (lv_at hl 0 rfl) ?_
        refine r_mulN hx hb dL_night_51 ?_
        refine lv_iconst (v := nI 1) hx hb dL_night_52 (by decide) ?_
        refine r_addN hx hb dL_night_53 ?_
        refine pw_ald8 X hK hG 905 fa_905 (hd _ (List.mem_of_getElem? (i := 6) rfl)) (i := (4 * (tn (σ9.2.2.2 905 kq 8))) + 1) (N := σ9.2.2.1 905 kq 0) (x := σ9.2.2.2 905 kq ((4 * (tn (σ9.2.2.2 905 kq 8))) + 1)) rfl (by omega) (by omega) rfl dL_night_54 ?_
        refine r_top (y := nI (tn (σ9.2.2.2 905 kq (4 * tn (σ9.2.2.2 905 kq 8) + 1)))) (ix_eq hi9.2.1) ?_
        refine lv_aload hx hb dL_night_55 (lv_at hl 9 rfl) ?_
        refine lv_iconst (v := nI 4) hx hb dL_night_57 (by decide) ?_
        refine lv_iload hx hb dL_night_58 (lv_at hl 0 rfl) ?_
        refine r_mulN hx hb dL_night_60 ?_
        refine lv_iconst (v := nI 2) hx hb dL_night_61 (by decide) ?_
        refine r_addN hx hb dL_night_62 ?_
        refine pw_ald8 X hK hG 905 fa_905 (hd _ (List.mem_of_getElem? (i := 6) rfl)) (i := (4 * (tn (σ9.2.2.2 905 kq 8))) + 2) (N := σ9.2.2.1 905 kq 0) (x := σ9.2.2.2 905 kq ((4 * (tn (σ9.2.2.2 905 kq 8))) + 2)) rfl (by omega) (by omega) rfl dL_night_63 ?_
        refine r_top (y := nI (tn (σ9.2.2.2 905 kq (4 * tn (σ9.2.2.2 905 kq 8) + 2)))) (ix_eq hi9.2.2) ?_
        refine lv_iconst (v := nI 1) hx hb dL_night_64 (by decide) ?_
        refine rm_callS X hK hG hS ysL_run ml_L_33 [.ref (L 900 ka), .ref (L 901 0), .ref (L 902 ku), .ref (L 903 km), .ref (L 904 0), .int (nI (tn (σ9.2.2.2 905 kq (4 * tn (σ9.2.2.2 905 kq 8) + 1)))), .int (nI (tn (σ9.2.2.2 905 kq (4 * tn (σ9.2.2.2 905 kq 8) + 2)))), .int (nI 1)] [] (c_L_run l L σ9 ow ka ku km (tn (σ9.2.2.2 905 kq (4 * tn (σ9.2.2.2 905 kq 8) + 1))) (tn (σ9.2.2.2 905 kq (4 * tn (σ9.2.2.2 905 kq 8) + 2))) (nI 1) (fun z hz => hd z (by revert hz; simp only [List.mem_cons, List.not_mem_nil, or_false]; rintro (h9 | h9 | h9 | h9 | h9) <;> simp [h9])) (ix_lt hi9.2.1) (ix_lt hi9.2.2) hN9.1 hN9.2.2.1) rfl hl.1 rfl (Nat.le_of_ble_eq_true rfl) ⟨Nat.le_of_ble_eq_true rfl, Nat.le_of_ble_eq_true rfl⟩ ⟨Nat.zero_le _, Nat.zero_le _⟩ dL_night_65 (fun H locs hG hS => ?_)
        have hfR := RF_run (kr := ka) (ku := ku) (km := km) (t9 := nI 1) (σ := σ9) (tn (σ9.2.2.2 905 kq (4 * tn (σ9.2.2.2 905 kq 8) + 1))) (tn (σ9.2.2.2 905 kq (4 * tn (σ9.2.2.2 905 kq 8) + 2)))
        have hk9 : h_kr ka kb (tn (σ9.2.2.2 905 kq 8)) = ka := if_pos c_32
        have hn1 : h_n1 ka kb ku km kq σ9 = ((h_run ka ku km (tn (σ9.2.2.2 905 kq (4 * tn (σ9.2.2.2 905 kq 8) + 1))) (tn (σ9.2.2.2 905 kq (4 * tn (σ9.2.2.2 905 kq 8) + 2))) (nI 1) σ9).1, wB (h_run ka ku km (tn (σ9.2.2.2 905 kq (4 * tn (σ9.2.2.2 905 kq 8) + 1))) (tn (σ9.2.2.2 905 kq (4 * tn (σ9.2.2.2 905 kq 8) + 2))) (nI 1) σ9).2 905 kq (4 * tn (σ9.2.2.2 905 kq 8) + 2) ((h_run ka ku km (tn (σ9.2.2.2 905 kq (4 * tn (σ9.2.2.2 905 kq 8) + 1))) (tn (σ9.2.2.2 905 kq (4 * tn (σ9.2.2.2 905 kq 8) + 2))) (nI 1) σ9).2.2.2.2 904 0 6)) := by unfold h_n1; rw [hk9]
        generalize hX9 : h_run ka ku km (tn (σ9.2.2.2 905 kq (4 * tn (σ9.2.2.2 905 kq 8) + 1))) (tn (σ9.2.2.2 905 kq (4 * tn (σ9.2.2.2 905 kq 8) + 2))) (nI 1) σ9 = X9 at hG hfR hn1 ⊢
        have eQ : X9.2.2.2.2 905 kq = σ9.2.2.2 905 kq := hfR.2.1 905 kq (fun z => absurd z.1 (by decide)) (fun z => absurd z.1 (by decide)) (fun z => absurd z.1 (by decide))
        have eL : X9.2.2.2.1 905 kq = σ9.2.2.1 905 kq := hfR.1 905 kq (fun z => absurd z.1 (by decide))
        have hlq : 11 ≤ X9.2.2.2.1 905 kq 0 ∧ X9.2.2.2.1 905 kq 0 < 1000 := by rw [eL]; exact hN9.2.2.2.1
        refine lv_if_ne (tgt := 75) hx hb dL_night_68 (by decide) (fun c_68 => ?_) (fun c_68 => ?_)
        · refine lv_iconst (v := nI 0) hx hb dL_night_75 (by decide) ?_
          refine lv_istore (lv' := [(8, .int (nI 0)), (9, .int (nI (tn (σ9.2.2.2 905 kq 8)))), (7, .int (nI n9)), (0, .ref (L 900 ka)), (1, .ref (L 900 kb)), (2, .ref (L 901 0)), (3, .ref (L 902 ku)), (4, .ref (L 903 km)), (5, .ref (L 904 0)), (6, .ref (L 905 kq))]) hx hb dL_night_76 hl (by decide) rfl (fun ls hl => ?_)
          refine lv_aload hx hb dL_night_78 (lv_at hl 9 rfl) ?_
          refine lv_iconst (v := nI 4) hx hb dL_night_80 (by decide) ?_
          refine lv_iload hx hb dL_night_81 (lv_at hl 1 rfl) ?_
          refine r_mulN hx hb dL_night_83 ?_
          refine lv_iconst (v := nI 2) hx hb dL_night_84 (by decide) ?_
          refine r_addN hx hb dL_night_85 ?_
          refine lv_aload hx hb dL_night_86 (lv_at hl 8 rfl) ?_
          refine lv_bipush (v := nI 6) hx hb dL_night_88 (by decide) ?_
          refine al_904 X hK hG (hd _ (List.mem_of_getElem? (i := 5) rfl)) (i := 6) (x := X9.2.2.2.2 904 0 6) (by omega) rfl dL_night_90 ?_
          refine pw_ast8 X hK hG hS hA 905 fa_905 (hd _ (List.mem_of_getElem? (i := 6) rfl)) (i := (4 * (tn (σ9.2.2.2 905 kq 8))) + 2) (N := X9.2.2.2.1 905 kq 0) rfl (by omega) (by omega) dL_night_91 (fun H locs hG hS => ?_)
          refine lv_iload hx hb dL_night_92 (lv_at hl 0 rfl) ?_
          refine r_if_eqN (tgt := 127) hx hb dL_night_94 (by decide) (by omega) (fun c_94 => ?_) (fun c_94 => absurd c_94 (by decide))
          refine lv_iload hx hb dL_night_127 (lv_at hl 0 rfl) ?_
          refine r_if_eqN (tgt := 144) hx hb dL_night_129 (by decide) (by omega) (fun c_129 => ?_) (fun c_129 => absurd c_129 (by decide))
          refine lv_iconst (v := nI 0) hx hb dL_night_144 (by decide) ?_
          refine lv_istore (lv' := [(8, .int (nI 0)), (9, .int (nI (tn (σ9.2.2.2 905 kq 8)))), (7, .int (nI n9)), (0, .ref (L 900 ka)), (1, .ref (L 900 kb)), (2, .ref (L 901 0)), (3, .ref (L 902 ku)), (4, .ref (L 903 km)), (5, .ref (L 904 0)), (6, .ref (L 905 kq))]) hx hb dL_night_145 hl (by decide) rfl (fun ls hl => ?_)
          refine lv_goto (tgt := 18) hx hb dL_night_147 (by decide) ?_
          exact ih ⟨0, n9, f1, (wB X9.2 905 kq ((4 * (tn (σ9.2.2.2 905 kq 8))) + 2) (X9.2.2.2.2 904 0 6))⟩ (by show (if 0 = 0 then 0 else f1 + 1) < (if w9 = 0 then 0 else (f1 + 1) + 1); rw [if_pos rfl, if_neg c_20]; omega) (⟨(hq.trans ((if_neg c_20).trans ((hng_n (by rw [hn1]; exact c_68)).trans (congrArg (fun z => (n9, z.2)) hn1)))).trans (if_pos rfl).symm, fun z => absurd rfl z, by decide, by omega⟩) H locs ls hG hS (lv_sub hl [0, 2, 3, 4, 5, 6, 7, 8, 9] rfl)
        · refine lv_iconst (v := nI 1) hx hb dL_night_71 (by decide) ?_
          refine lv_goto (tgt := 76) hx hb dL_night_72 (by decide) ?_
          refine lv_istore (lv' := [(8, .int (nI 1)), (9, .int (nI (tn (σ9.2.2.2 905 kq 8)))), (7, .int (nI n9)), (0, .ref (L 900 ka)), (1, .ref (L 900 kb)), (2, .ref (L 901 0)), (3, .ref (L 902 ku)), (4, .ref (L 903 km)), (5, .ref (L 904 0)), (6, .ref (L 905 kq))]) hx hb dL_night_76 hl (by decide) rfl (fun ls hl => ?_)
          refine lv_aload hx hb dL_night_78 (lv_at hl 9 rfl) ?_
          refine lv_iconst (v := nI 4) hx hb dL_night_80 (by decide) ?_
          refine lv_iload hx hb dL_night_81 (lv_at hl 1 rfl) ?_
          refine r_mulN hx hb dL_night_83 ?_
          refine lv_iconst (v := nI 2) hx hb dL_night_84 (by decide) ?_
          refine r_addN hx hb dL_night_85 ?_
          refine lv_aload hx hb dL_night_86 (lv_at hl 8 rfl) ?_
          refine lv_bipush (v := nI 6) hx hb dL_night_88 (by decide) ?_
          refine al_904 X hK hG (hd _ (List.mem_of_getElem? (i := 5) rfl)) (i := 6) (x := X9.2.2.2.2 904 0 6) (by omega) rfl dL_night_90 ?_
          refine pw_ast8 X hK hG hS hA 905 fa_905 (hd _ (List.mem_of_getElem? (i := 6) rfl)) (i := (4 * (tn (σ9.2.2.2 905 kq 8))) + 2) (N := X9.2.2.2.1 905 kq 0) rfl (by omega) (by omega) dL_night_91 (fun H locs hG hS => ?_)
          refine lv_iload hx hb dL_night_92 (lv_at hl 0 rfl) ?_
          refine r_if_eqN (tgt := 127) hx hb dL_night_94 (by decide) (by omega) (fun c_94 => absurd c_94 (by decide)) (fun c_94 => ?_)
          refine lv_aload hx hb dL_night_97 (lv_at hl 9 rfl) ?_
          refine lv_iconst (v := nI 4) hx hb dL_night_99 (by decide) ?_
          refine lv_iload hx hb dL_night_100 (lv_at hl 1 rfl) ?_
          refine r_mulN hx hb dL_night_102 ?_
          refine lv_iconst (v := nI 2) hx hb dL_night_103 (by decide) ?_
          refine pw_ast8 X hK hG hS hA 905 fa_905 (hd _ (List.mem_of_getElem? (i := 6) rfl)) (i := 4 * (tn (σ9.2.2.2 905 kq 8))) (N := X9.2.2.2.1 905 kq 0) rfl (by omega) (by omega) dL_night_104 (fun H locs hG hS => ?_)
          refine lv_aload hx hb dL_night_105 (lv_at hl 9 rfl) ?_
          refine lv_bipush (v := nI 8) hx hb dL_night_107 (by decide) ?_
          refine lv_aload hx hb dL_night_109 (lv_at hl 9 rfl) ?_
          refine lv_bipush (v := nI 9) hx hb dL_night_111 (by decide) ?_
          refine pw_ald8 X hK hG 905 fa_905 (hd _ (List.mem_of_getElem? (i := 6) rfl)) (i := 9) (N := X9.2.2.2.1 905 kq 0) (x := X9.2.2.2.2 905 kq 9) rfl (by omega) (by omega) ((show (wB (wB X9.2 905 kq ((4 * (tn (σ9.2.2.2 905 kq 8))) + 2) (X9.2.2.2.2 904 0 6)) 905 kq (4 * (tn (σ9.2.2.2 905 kq 8))) (nI 2)).2.2.2 905 kq 9 = _ from e_ne (σ := (wB X9.2 905 kq ((4 * (tn (σ9.2.2.2 905 kq 8))) + 2) (X9.2.2.2.2 904 0 6))) (F := 905) (k := kq) (i := (4 * (tn (σ9.2.2.2 905 kq 8)))) (j := 9) (v := (nI 2)) (by omega)).trans ((show (wB X9.2 905 kq ((4 * (tn (σ9.2.2.2 905 kq 8))) + 2) (X9.2.2.2.2 904 0 6)).2.2.2 905 kq 9 = _ from e_ne (σ := X9.2) (F := 905) (k := kq) (i := ((4 * (tn (σ9.2.2.2 905 kq 8))) + 2)) (j := 9) (v := (X9.2.2.2.2 904 0 6)) (by omega)).trans rfl)) dL_night_113 ?_
          refine pw_ast8 X hK hG hS hA 905 fa_905 (hd _ (List.mem_of_getElem? (i := 6) rfl)) (i := 8) (N := X9.2.2.2.1 905 kq 0) rfl (by omega) (by omega) dL_night_114 (fun H locs hG hS => ?_)
          refine lv_aload hx hb dL_night_115 (lv_at hl 9 rfl) ?_
          refine lv_bipush (v := nI 10) hx hb dL_night_117 (by decide) ?_
          refine lv_dup2_11 hx hb dL_night_119 rfl rfl ?_
          refine pw_ald8 X hK hG 905 fa_905 (hd _ (List.mem_of_getElem? (i := 6) rfl)) (i := 10) (N := X9.2.2.2.1 905 kq 0) (x := X9.2.2.2.2 905 kq 10) rfl (by omega) (by omega) ((show (wB (wB (wB X9.2 905 kq ((4 * (tn (σ9.2.2.2 905 kq 8))) + 2) (X9.2.2.2.2 904 0 6)) 905 kq (4 * (tn (σ9.2.2.2 905 kq 8))) (nI 2)) 905 kq 8 (X9.2.2.2.2 905 kq 9)).2.2.2 905 kq 10 = _ from e_ne (σ := (wB (wB X9.2 905 kq ((4 * (tn (σ9.2.2.2 905 kq 8))) + 2) (X9.2.2.2.2 904 0 6)) 905 kq (4 * (tn (σ9.2.2.2 905 kq 8))) (nI 2))) (F := 905) (k := kq) (i := 8) (j := 10) (v := (X9.2.2.2.2 905 kq 9)) (by decide)).trans ((show (wB (wB X9.2 905 kq ((4 * (tn (σ9.2.2.2 905 kq 8))) + 2) (X9.2.2.2.2 904 0 6)) 905 kq (4 * (tn (σ9.2.2.2 905 kq 8))) (nI 2)).2.2.2 905 kq 10 = _ from e_ne (σ := (wB X9.2 905 kq ((4 * (tn (σ9.2.2.2 905 kq 8))) + 2) (X9.2.2.2.2 904 0 6))) (F := 905) (k := kq) (i := (4 * (tn (σ9.2.2.2 905 kq 8)))) (j := 10) (v := (nI 2)) (by omega)).trans ((show (wB X9.2 905 kq ((4 * (tn (σ9.2.2.2 905 kq 8))) + 2) (X9.2.2.2.2 904 0 6)).2.2.2 905 kq 10 = _ from e_ne (σ := X9.2) (F := 905) (k := kq) (i := ((4 * (tn (σ9.2.2.2 905 kq 8))) + 2)) (j := 10) (v := (X9.2.2.2.2 904 0 6)) (by omega)).trans rfl))) dL_night_120 ?_
          refine r_top (y := nI (tn (σ9.2.2.2 905 kq 10))) (by rw [eQ]; exact ix_eq hN9.2.2.2.2.1) ?_
          refine lv_iconst (v := nI 1) hx hb dL_night_121 (by decide) ?_
          refine r_subN hx hb (by omega) dL_night_122 ?_
          refine pw_ast8 X hK hG hS hA 905 fa_905 (hd _ (List.mem_of_getElem? (i := 6) rfl)) (i := 10) (N := X9.2.2.2.1 905 kq 0) rfl (by omega) (by omega) dL_night_123 (fun H locs hG hS => ?_)
          refine r_iincN (b := 1) (lv' := [(7, .int (nI (n9 + 1))), (8, .int (nI 1)), (9, .int (nI (tn (σ9.2.2.2 905 kq 8)))), (0, .ref (L 900 ka)), (1, .ref (L 900 kb)), (2, .ref (L 901 0)), (3, .ref (L 902 ku)), (4, .ref (L 903 km)), (5, .ref (L 904 0)), (6, .ref (L 905 kq))]) hx hb dL_night_124 hl (k := 2) rfl (by decide) (by decide) rfl (fun ls hl => ?_)
          refine lv_iload hx hb dL_night_127 (lv_at hl 1 rfl) ?_
          refine r_if_eqN (tgt := 144) hx hb dL_night_129 (by decide) (by omega) (fun c_129 => absurd c_129 (by decide)) (fun c_129 => ?_)
          have hst9 : (wB (wB (wB (wB X9.2 905 kq ((4 * (tn (σ9.2.2.2 905 kq 8))) + 2) (X9.2.2.2.2 904 0 6)) 905 kq (4 * (tn (σ9.2.2.2 905 kq 8))) (nI 2)) 905 kq 8 (X9.2.2.2.2 905 kq 9)) 905 kq 10 (nI ((tn (σ9.2.2.2 905 kq 10)) - 1))) = h_n2 kq (tn (σ9.2.2.2 905 kq 8)) (h_n1 ka kb ku km kq σ9).2 := by unfold h_n2; rw [hn1]; show _ = wB (wB (wB _ 905 kq _ (nI 2)) 905 kq 8 ((wB X9.2 905 kq (4 * tn (σ9.2.2.2 905 kq 8) + 2) _).2.2.2 905 kq 9)) 905 kq 10 (nI (tn ((wB X9.2 905 kq (4 * tn (σ9.2.2.2 905 kq 8) + 2) _).2.2.2 905 kq 10) - 1)); rw [e_ne (show 9 ≠ 4 * tn (σ9.2.2.2 905 kq 8) + 2 by omega), e_ne (show 10 ≠ 4 * tn (σ9.2.2.2 905 kq 8) + 2 by omega), eQ]
          refine lv_aload hx hb dL_night_132 (lv_at hl 9 rfl) ?_
          refine lv_bipush (v := nI 10) hx hb dL_night_134 (by decide) ?_
          refine pw_ald8 X hK hG 905 fa_905 (hd _ (List.mem_of_getElem? (i := 6) rfl)) (i := 10) (N := X9.2.2.2.1 905 kq 0) (x := nI ((tn (σ9.2.2.2 905 kq 10)) - 1)) rfl (by omega) (by omega) (by simp [wN, wI, wA, wB, up3, up2, up1]) dL_night_136 ?_
          refine r_top (y := nI (tn (σ9.2.2.2 905 kq 10) - 1)) (rfl) ?_
          refine r_if_leN (tgt := 144) hx hb dL_night_137 (by decide) (by omega) (fun c_137 => ?_) (fun c_137 => ?_)
          · refine lv_iconst (v := nI 0) hx hb dL_night_144 (by decide) ?_
            refine lv_istore (lv' := [(8, .int (nI 0)), (7, .int (nI (n9 + 1))), (9, .int (nI (tn (σ9.2.2.2 905 kq 8)))), (0, .ref (L 900 ka)), (1, .ref (L 900 kb)), (2, .ref (L 901 0)), (3, .ref (L 902 ku)), (4, .ref (L 903 km)), (5, .ref (L 904 0)), (6, .ref (L 905 kq))]) hx hb dL_night_145 hl (by decide) rfl (fun ls hl => ?_)
            refine lv_goto (tgt := 18) hx hb dL_night_147 (by decide) ?_
            exact ih ⟨0, n9 + 1, f1, (wB (wB (wB (wB X9.2 905 kq ((4 * (tn (σ9.2.2.2 905 kq 8))) + 2) (X9.2.2.2.2 904 0 6)) 905 kq (4 * (tn (σ9.2.2.2 905 kq 8))) (nI 2)) 905 kq 8 (X9.2.2.2.2 905 kq 9)) 905 kq 10 (nI ((tn (σ9.2.2.2 905 kq 10)) - 1)))⟩ (by show (if 0 = 0 then 0 else f1 + 1) < (if w9 = 0 then 0 else (f1 + 1) + 1); rw [if_pos rfl, if_neg c_20]; omega) (⟨(hq.trans ((if_neg c_20).trans ((hng_1 (by rw [hn1]; exact c_68) (by omega)).trans (congrArg (fun z => (n9 + 1, z)) hst9.symm)))).trans (if_pos rfl).symm, fun z => absurd rfl z, by decide, by omega⟩) H locs ls hG hS (lv_sub hl [0, 1, 3, 4, 5, 6, 7, 8, 9] rfl)
          · refine lv_iconst (v := nI 1) hx hb dL_night_140 (by decide) ?_
            refine lv_goto (tgt := 145) hx hb dL_night_141 (by decide) ?_
            refine lv_istore (lv' := [(8, .int (nI 1)), (7, .int (nI (n9 + 1))), (9, .int (nI (tn (σ9.2.2.2 905 kq 8)))), (0, .ref (L 900 ka)), (1, .ref (L 900 kb)), (2, .ref (L 901 0)), (3, .ref (L 902 ku)), (4, .ref (L 903 km)), (5, .ref (L 904 0)), (6, .ref (L 905 kq))]) hx hb dL_night_145 hl (by decide) rfl (fun ls hl => ?_)
            refine lv_goto (tgt := 18) hx hb dL_night_147 (by decide) ?_
            exact ih ⟨1, n9 + 1, f1, (wB (wB (wB (wB X9.2 905 kq ((4 * (tn (σ9.2.2.2 905 kq 8))) + 2) (X9.2.2.2.2 904 0 6)) 905 kq (4 * (tn (σ9.2.2.2 905 kq 8))) (nI 2)) 905 kq 8 (X9.2.2.2.2 905 kq 9)) 905 kq 10 (nI ((tn (σ9.2.2.2 905 kq 10)) - 1)))⟩ (by show (if 1 = 0 then 0 else f1 + 1) < (if w9 = 0 then 0 else (f1 + 1) + 1); rw [if_neg (by decide), if_neg c_20]; omega) (⟨(hq.trans ((if_neg c_20).trans ((hng_2 (by rw [hn1]; exact c_68) (by omega)).trans (congrArg (fun z => h_ngl ka kb ku km kq f1 (n9 + 1) z) hst9.symm)))).trans (if_neg (by decide)).symm, fun _ => by rw [hst9]; have h8 := NI_n2 hN9 hkk.2.1; exact ⟨h8.1, by rw [h8.2]; omega, by rw [h8.2]; omega⟩, by decide, by omega⟩) H locs ls hG hS (lv_sub hl [0, 1, 3, 4, 5, 6, 7, 8, 9] rfl)
  · refine lv_aload hx hb dL_night_3 (lv_at hl 7 rfl) ?_
    refine lv_bipush (v := nI 10) hx hb dL_night_5 (by decide) ?_
    refine pw_ald8 X hK hG 905 fa_905 (hd _ (List.mem_of_getElem? (i := 6) rfl)) (i := 10) (N := σ.2.2.1 905 kq 0) (x := σ.2.2.2 905 kq 10) rfl (by omega) (by omega) rfl dL_night_7 ?_
    refine r_top (y := nI (tn (σ.2.2.2 905 kq 10))) (ix_eq hN0.2.2.2.2.1) ?_
    refine r_if_leN (tgt := 15) hx hb dL_night_8 (by decide) (by omega) (fun c_8 => ?_) (fun c_8 => ?_)
    · refine lv_iconst (v := nI 0) hx hb dL_night_15 (by decide) ?_
      exact r_top (by rw [if_pos c_8]) (J_16 _ _ hG hS)
    · refine lv_iconst (v := nI 1) hx hb dL_night_11 (by decide) ?_
      refine lv_goto (tgt := 16) hx hb dL_night_12 (by decide) ?_
      exact r_top (by rw [if_neg (Nat.pos_iff_ne_zero.mp c_8)]) (J_16 _ _ hG hS)
