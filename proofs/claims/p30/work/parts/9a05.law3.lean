set_option maxRecDepth 100000 in
set_option maxHeartbeats 4000000 in
theorem c_L_move {D : va_G} {cI cZ cO : ClassId} {dom : Nat → Nat → Prop} (l : Launch) (L : Lay) (σ : St) (ow : Nat → Prop) (kr ku km ax : Nat) (v9 : Int32) (fr : Nat) (t9 : Int32) (hd : ∀ z ∈ ([(900, kr), (902, ku), (903, km), (904, 0)] : List (Nat × Nat)), dom z.1 z.2) (ha : ax < 3) (hfr : fr < 100000) (hli0 : LI kr ku km σ) (h6 : ix (σ.2.2.2 904 0 6) 90000) (hy : ix (h_tg ax v9 σ) (m_lim ax + 1) → tn (h_tg ax v9 σ) < l2 ax) : RM D cI cZ cO dom l yL_move cL_move 10 ((some FieldType.int)) 2 57 [.ref (L 900 kr), .ref (L 902 ku), .ref (L 903 km), .ref (L 904 0), .int (nI ax), .int v9, .int (nI fr), .int t9] L σ ow ((h_move kr ku km fr t9 ax v9 σ).1) ((h_move kr ku km fr t9 ax v9 σ).2) := by
  refine rm_of rfl (Nat.le_of_ble_eq_true rfl) ?_
  intro p e s m below meth c ls X hK hG hr hlocks hl
  have X : CallFix p m c cL_move 10 s _ TB RL := X
  have hx := X.1
  have hb := X.2.1
  have hS : va_S (AA ow s.heap.size) s.heap s.heap [] := va_S.rf
  have hA : ∀ q, ow q → AA ow s.heap.size q := fun _ h => Or.inl h
  have hl : lv_has ls 10 [(0, .ref (L 900 kr)), (1, .ref (L 902 ku)), (2, .ref (L 903 km)), (3, .ref (L 904 0)), (4, .int (nI ax)), (5, .int v9), (6, .int (nI fr)), (7, .int t9)] := hl
  have hx0 := LI_l2 hli0 ha
  have bx0 := ix_lt hx0
  have bl := l2_le ax
  have b6 := ix_lt h6
  refine r_cutH 18 [.int (h_by ax v9 σ)] hG hS (fun H locs hG hS => ?_) (fun J_18 => ?_)
  · refine lv_istore (lv' := [(8, .int (h_by ax v9 σ)), (0, .ref (L 900 kr)), (1, .ref (L 902 ku)), (2, .ref (L 903 km)), (3, .ref (L 904 0)), (4, .int (nI ax)), (5, .int v9), (6, .int (nI fr)), (7, .int t9)]) hx hb dL_move_18 hl (by decide) rfl (fun ls hl => ?_)
    refine lv_aload_n hx hb dL_move_20 rfl (lv_at hl 4 rfl) ?_
    refine lv_iload hx hb dL_move_21 (lv_at hl 5 rfl) ?_
    refine al_904 X hK hG (hd _ (List.mem_of_getElem? (i := 3) rfl)) (i := ax) (x := σ.2.2.2 904 0 ax) (by omega) rfl dL_move_23 ?_
    refine lv_iload hx hb dL_move_24 (lv_at hl 0 rfl) ?_
    refine lv_iadd hx hb dL_move_26 ?_
    refine lv_if_lt (tgt := 53) hx hb dL_move_27 (by decide) (fun c_27 => ?_) (fun c_27 => ?_)
    · refine lv_iconst (v := nI 1) hx hb dL_move_53 (by decide) ?_
      exact rm_ret hx hb hr hlocks hG hS (by unfold h_move; rw [if_neg (ix_no (by unfold m_lim; split <;> decide) (by first | exact Or.inl c_27 | exact Or.inr c_50))]) (by unfold h_move; rw [if_neg (ix_no (by unfold m_lim; split <;> decide) (by first | exact Or.inl c_27 | exact Or.inr c_50))]) rfl dL_move_54
    · refine lv_aload_n hx hb dL_move_30 rfl (lv_at hl 4 rfl) ?_
      refine lv_iload hx hb dL_move_31 (lv_at hl 5 rfl) ?_
      refine al_904 X hK hG (hd _ (List.mem_of_getElem? (i := 3) rfl)) (i := ax) (x := σ.2.2.2 904 0 ax) (by omega) rfl dL_move_33 ?_
      refine lv_iload hx hb dL_move_34 (lv_at hl 0 rfl) ?_
      refine lv_iadd hx hb dL_move_36 ?_
      refine r_cutH 50 [.int (nI (m_lim ax)), .int ((σ.2.2.2 904 0 ax) + (h_by ax v9 σ))] hG hS (fun H locs hG hS => ?_) (fun J_50 => ?_)
      · refine lv_icmp_le (tgt := 55) hx hb dL_move_50 (by decide) (fun c_50 => ?_) (fun c_50 => ?_)
        · refine lv_iconst (v := nI 0) hx hb dL_move_55 (by decide) ?_
          have hix : ix (h_tg ax v9 σ) (m_lim ax + 1) := ix_le (by unfold m_lim; split <;> decide) c_27 c_50
          have hto := hy hix
          have hby : h_by ax v9 σ = (if nI 0 = 0 then nI (tn (h_tg ax v9 σ)) - nI (tn (σ.2.2.2 904 0 ax)) else h_by ax v9 σ) := (by_eq (ix_eq hix) (ix_eq hx0)).trans (if_pos rfl).symm
          have hd0 : m_dist (tn (σ.2.2.2 904 0 ax)) (tn (h_tg ax v9 σ)) ≤ 11 := by unfold m_dist; omega
          refine lv_istore (lv' := [(9, .int (nI 0)), (8, .int (h_by ax v9 σ)), (0, .ref (L 900 kr)), (1, .ref (L 902 ku)), (2, .ref (L 903 km)), (3, .ref (L 904 0)), (4, .int (nI ax)), (5, .int v9), (6, .int (nI fr)), (7, .int t9)]) hx hb dL_move_56 hl (by decide) rfl (fun ls hl => ?_)
          refine r_loop (ι := Int32 × Int32 × St) (fun (⟨w9, y9, σ9⟩ : Int32 × Int32 × St) => [(0, .ref (L 900 kr)), (1, .ref (L 902 ku)), (2, .ref (L 903 km)), (3, .ref (L 904 0)), (4, .int (nI ax)), (5, .int v9), (6, .int (nI fr)), (7, .int t9), (8, .int y9), (9, .int w9)]) (fun (⟨w9, y9, σ9⟩ : Int32 × Int32 × St) => σ9) (fun (⟨w9, y9, σ9⟩ : Int32 × Int32 × St) => (if w9 = 0 then 1 + m_dist (tn (σ9.2.2.2 904 0 ax)) (tn (h_tg ax v9 σ)) else 0)) (fun (⟨w9, y9, σ9⟩ : Int32 × Int32 × St) => h_mv kr ku km fr t9 ax (tn (h_tg ax v9 σ)) (m_dist (tn (σ.2.2.2 904 0 ax)) (tn (h_tg ax v9 σ))) σ = (if w9 = 0 then h_mv kr ku km fr t9 ax (tn (h_tg ax v9 σ)) (m_dist (tn (σ9.2.2.2 904 0 ax)) (tn (h_tg ax v9 σ))) σ9 else (w9, σ9)) ∧ LI kr ku km σ9 ∧ (w9 = 0 → tn (σ9.2.2.2 904 0 6) + m_dist (tn (σ9.2.2.2 904 0 ax)) (tn (h_tg ax v9 σ)) ≤ tn (σ.2.2.2 904 0 6) + 11) ∧ ix (σ9.2.2.2 904 0 6) 99000 ∧ y9 = (if w9 = 0 then (nI (tn (h_tg ax v9 σ)) - nI (tn (σ9.2.2.2 904 0 ax))) else y9)) ⟨nI 0, h_by ax v9 σ, σ⟩ (⟨(if_pos rfl).symm, hli0, fun _ => by have := hd0; omega, ix_up h6 (by decide), hby⟩) hG hS (lv_sub hl [2, 3, 4, 5, 6, 7, 8, 9, 1, 0] rfl) ?_
          rintro ⟨w9, y9, σ9⟩ hinv ih H locs ls hG hS hl
          have hG : PW D cI cZ cO dom L σ9 ow H := hG
          have hl : lv_has ls 10 [(0, .ref (L 900 kr)), (1, .ref (L 902 ku)), (2, .ref (L 903 km)), (3, .ref (L 904 0)), (4, .int (nI ax)), (5, .int v9), (6, .int (nI fr)), (7, .int t9), (8, .int y9), (9, .int w9)] := hl
          obtain ⟨hq, hs9, hb9, h69, hy9⟩ := hinv
          have hx9 := LI_l2 hs9 ha
          have bx9 := ix_lt hx9
          have b69 := ix_lt h69
          refine lv_iload hx hb dL_move_58 (lv_at hl 8 rfl) ?_
          refine lv_if_eq (tgt := 116) hx hb dL_move_60 (by decide) (fun c_60 => ?_) (fun c_60 => ?_)
          · have hE : h_move kr ku km fr t9 ax v9 σ = (w9, σ9) := by unfold h_move; rw [if_pos hix, hq]; first | exact if_neg c_65 | (by_cases c0 : w9 = 0; (rw [if_pos c0, show m_dist (tn (σ9.2.2.2 904 0 ax)) (tn (h_tg ax v9 σ)) = 0 from by have h8 := hy9.trans (if_pos c0); have h7 := (by_z (by omega) (by omega)).mp (h8.symm.trans c_60); unfold m_dist; omega, c0]; rfl); exact if_neg c0)
            refine lv_iload hx hb dL_move_116 (lv_at hl 9 rfl) ?_
            exact rm_ret hx hb hr hlocks hG hS (by rw [hE]) (by rw [hE]) rfl dL_move_118
          · refine lv_iload hx hb dL_move_63 (lv_at hl 9 rfl) ?_
            refine lv_if_ne (tgt := 116) hx hb dL_move_65 (by decide) (fun c_65 => ?_) (fun c_65 => ?_)
            · have hE : h_move kr ku km fr t9 ax v9 σ = (w9, σ9) := by unfold h_move; rw [if_pos hix, hq]; first | exact if_neg c_65 | (by_cases c0 : w9 = 0; (rw [if_pos c0, show m_dist (tn (σ9.2.2.2 904 0 ax)) (tn (h_tg ax v9 σ)) = 0 from by have h8 := hy9.trans (if_pos c0); have h7 := (by_z (by omega) (by omega)).mp (h8.symm.trans c_60); unfold m_dist; omega, c0]; rfl); exact if_neg c0)
              refine lv_iload hx hb dL_move_116 (lv_at hl 9 rfl) ?_
              exact rm_ret hx hb hr hlocks hG hS (by rw [hE]) (by rw [hE]) rfl dL_move_118
            · have hby9 : y9 = (nI (tn (h_tg ax v9 σ)) - nI (tn (σ9.2.2.2 904 0 ax))) := hy9.trans (if_pos c_65)
              subst hby9
              have hne : ¬ tn (σ9.2.2.2 904 0 ax) = tn (h_tg ax v9 σ) := mt (by_z (by omega) (by omega)).mpr c_60
              refine lv_aload_n hx hb dL_move_68 rfl (lv_at hl 3 rfl) ?_
              refine lv_iload hx hb dL_move_69 (lv_at hl 4 rfl) ?_
              refine lv_dup2_11 hx hb dL_move_71 rfl rfl ?_
              refine al_904 X hK hG (hd _ (List.mem_of_getElem? (i := 3) rfl)) (i := ax) (x := σ9.2.2.2 904 0 ax) (by omega) rfl dL_move_72 ?_
              refine r_cutH 83 [.int (if (nI (tn (h_tg ax v9 σ)) - nI (tn (σ9.2.2.2 904 0 ax))) ≤ 0 then (-1) else nI 1), .int (σ9.2.2.2 904 0 ax), .int (nI ax), .ref (L 904 0)] hG hS (fun H locs hG hS => ?_) (fun J_83 => ?_)
              · refine lv_iadd hx hb dL_move_83 ?_
                refine r_top (y := nI (m_nx (tn (σ9.2.2.2 904 0 ax)) (tn (h_tg ax v9 σ)))) (by_nx (ix_eq hx9) (by omega) (by omega) c_60) ?_
                refine as_904 X hK hG hS hA (hd _ (List.mem_of_getElem? (i := 3) rfl)) (i := ax) (by omega) dL_move_84 (fun H locs hG hS => ?_)
                refine lv_iload hx hb dL_move_85 (lv_at hl 8 rfl) ?_
                refine r_cutH 97 [.int (if (nI (tn (h_tg ax v9 σ)) - nI (tn (σ9.2.2.2 904 0 ax))) ≤ 0 then nI 1 else (-1)), .int (nI (tn (h_tg ax v9 σ)) - nI (tn (σ9.2.2.2 904 0 ax)))] hG hS (fun H locs hG hS => ?_) (fun J_97 => ?_)
                · refine lv_iadd hx hb dL_move_97 ?_
                  refine r_top (y := nI (tn (h_tg ax v9 σ)) - nI (m_nx (tn (σ9.2.2.2 904 0 ax)) (tn (h_tg ax v9 σ)))) (by_nb (by omega) (by omega) c_60) ?_
                  refine lv_istore (lv' := [(8, .int (nI (tn (h_tg ax v9 σ)) - nI (m_nx (tn (σ9.2.2.2 904 0 ax)) (tn (h_tg ax v9 σ))))), (0, .ref (L 900 kr)), (1, .ref (L 902 ku)), (2, .ref (L 903 km)), (3, .ref (L 904 0)), (4, .int (nI ax)), (5, .int v9), (6, .int (nI fr)), (7, .int t9), (9, .int w9)]) hx hb dL_move_98 hl (by decide) rfl (fun ls hl => ?_)
                  have hli := LI_x hs9 ha (nx_lt bx9 hto hne)
                  have hb6 := h69
                  refine lv_aload_n hx hb dL_move_100 rfl (lv_at hl 1 rfl) ?_
                  refine lv_aload_n hx hb dL_move_101 rfl (lv_at hl 2 rfl) ?_
                  refine lv_aload_n hx hb dL_move_102 rfl (lv_at hl 3 rfl) ?_
                  refine lv_aload_n hx hb dL_move_103 rfl (lv_at hl 4 rfl) ?_
                  refine lv_iload hx hb dL_move_104 (lv_at hl 7 rfl) ?_
                  refine lv_iload hx hb dL_move_106 (lv_at hl 8 rfl) ?_
                  refine rm_callS X hK hG hS ysL_step ml_L_21 [.ref (L 900 kr), .ref (L 902 ku), .ref (L 903 km), .ref (L 904 0), .int (nI fr), .int t9] [] (c_L_step l L (wB σ9 904 0 ax (nI (m_nx (tn (σ9.2.2.2 904 0 ax)) (tn (h_tg ax v9 σ))))) ow kr ku km fr t9 hd (hli).1 (hli).2.1 hfr (hli).2.2.1 (hli).2.2.2.1 (hli).2.2.2.2.1 (hli).2.2.2.2.2.1 (by rw [e_ne (by omega)]; exact ix_up hb6 (by omega)) (hli).2.2.2.2.2.2.1 (hli).2.2.2.2.2.2.2.2.1 (hli).2.2.2.2.2.2.2.2.2.1 (hli).2.2.2.2.2.2.2.2.2.2.1 (hli).2.2.2.2.2.2.2.2.2.2.2) rfl hl.1 rfl (Nat.le_of_ble_eq_true rfl) ⟨Nat.le_of_ble_eq_true rfl, Nat.le_of_ble_eq_true rfl⟩ ⟨Nat.zero_le _, Nat.zero_le _⟩ dL_move_108 (fun H locs hG hS => ?_)
                  refine lv_istore (lv' := [(9, .int ((h_step kr ku km fr t9 (wB σ9 904 0 ax (nI (m_nx (tn (σ9.2.2.2 904 0 ax)) (tn (h_tg ax v9 σ)))))).1)), (8, .int (nI (tn (h_tg ax v9 σ)) - nI (m_nx (tn (σ9.2.2.2 904 0 ax)) (tn (h_tg ax v9 σ))))), (0, .ref (L 900 kr)), (1, .ref (L 902 ku)), (2, .ref (L 903 km)), (3, .ref (L 904 0)), (4, .int (nI ax)), (5, .int v9), (6, .int (nI fr)), (7, .int t9)]) hx hb dL_move_111 hl (by decide) rfl (fun ls hl => ?_)
                  have hnd := nx_dist hne
                  have hb3 := hb9 c_65
                  have hli2 := LI_step hli fr t9
                  have e4 : (h_step kr ku km fr t9 (wB σ9 904 0 ax (nI (m_nx (tn (σ9.2.2.2 904 0 ax)) (tn (h_tg ax v9 σ)))))).2.2.2.2 904 0 ax = nI (m_nx (tn (σ9.2.2.2 904 0 ax)) (tn (h_tg ax v9 σ))) := by rw [st_fr hli.2.2.2.2.2.1 fr t9 (by omega) (by omega), wB_s, up1_s]
                  have hnl := nx_lt bx9 hto hne
                  have e5 : tn ((h_step kr ku km fr t9 (wB σ9 904 0 ax (nI (m_nx (tn (σ9.2.2.2 904 0 ax)) (tn (h_tg ax v9 σ)))))).2.2.2.2 904 0 ax) = m_nx (tn (σ9.2.2.2 904 0 ax)) (tn (h_tg ax v9 σ)) := by rw [e4, tn_nI (by omega)]
                  have e60 : (wB σ9 904 0 ax (nI (m_nx (tn (σ9.2.2.2 904 0 ax)) (tn (h_tg ax v9 σ))))).2.2.2 904 0 6 = σ9.2.2.2 904 0 6 := e_ne (by omega)
                  have h63 := st_6 hli (by rw [e60]; exact ix_up h69 (by decide)) fr t9
                  rw [e60] at h63
                  have b63 := ix_lt h63
                  have hmu : (if (h_step kr ku km fr t9 (wB σ9 904 0 ax (nI (m_nx (tn (σ9.2.2.2 904 0 ax)) (tn (h_tg ax v9 σ)))))).1 = 0 then 1 + m_dist (tn ((h_step kr ku km fr t9 (wB σ9 904 0 ax (nI (m_nx (tn (σ9.2.2.2 904 0 ax)) (tn (h_tg ax v9 σ)))))).2.2.2.2 904 0 ax)) (tn (h_tg ax v9 σ)) else 0) < (if w9 = 0 then 1 + m_dist (tn (σ9.2.2.2 904 0 ax)) (tn (h_tg ax v9 σ)) else 0) := by rw [if_pos c_65, e5]; split <;> omega
                  have hq2 : h_mv kr ku km fr t9 ax (tn (h_tg ax v9 σ)) (m_dist (tn (σ.2.2.2 904 0 ax)) (tn (h_tg ax v9 σ))) σ = (if (h_step kr ku km fr t9 (wB σ9 904 0 ax (nI (m_nx (tn (σ9.2.2.2 904 0 ax)) (tn (h_tg ax v9 σ)))))).1 = 0 then h_mv kr ku km fr t9 ax (tn (h_tg ax v9 σ)) (m_dist (tn ((h_step kr ku km fr t9 (wB σ9 904 0 ax (nI (m_nx (tn (σ9.2.2.2 904 0 ax)) (tn (h_tg ax v9 σ)))))).2.2.2.2 904 0 ax)) (tn (h_tg ax v9 σ))) (h_step kr ku km fr t9 (wB σ9 904 0 ax (nI (m_nx (tn (σ9.2.2.2 904 0 ax)) (tn (h_tg ax v9 σ)))))).2 else ((h_step kr ku km fr t9 (wB σ9 904 0 ax (nI (m_nx (tn (σ9.2.2.2 904 0 ax)) (tn (h_tg ax v9 σ)))))).1, (h_step kr ku km fr t9 (wB σ9 904 0 ax (nI (m_nx (tn (σ9.2.2.2 904 0 ax)) (tn (h_tg ax v9 σ)))))).2)) := by rw [hq, if_pos c_65, e5, ← hnd]; rfl
                  have hb2 : (h_step kr ku km fr t9 (wB σ9 904 0 ax (nI (m_nx (tn (σ9.2.2.2 904 0 ax)) (tn (h_tg ax v9 σ)))))).1 = 0 → tn ((h_step kr ku km fr t9 (wB σ9 904 0 ax (nI (m_nx (tn (σ9.2.2.2 904 0 ax)) (tn (h_tg ax v9 σ)))))).2.2.2.2 904 0 6) + m_dist (tn ((h_step kr ku km fr t9 (wB σ9 904 0 ax (nI (m_nx (tn (σ9.2.2.2 904 0 ax)) (tn (h_tg ax v9 σ)))))).2.2.2.2 904 0 ax)) (tn (h_tg ax v9 σ)) ≤ tn (σ.2.2.2 904 0 6) + 11 := fun _ => by rw [e5]; omega
                  have h62 := ix_up h63 (show _ ≤ 99000 by omega)
                  have hy2 : nI (tn (h_tg ax v9 σ)) - nI (m_nx (tn (σ9.2.2.2 904 0 ax)) (tn (h_tg ax v9 σ))) = (if (h_step kr ku km fr t9 (wB σ9 904 0 ax (nI (m_nx (tn (σ9.2.2.2 904 0 ax)) (tn (h_tg ax v9 σ)))))).1 = 0 then nI (tn (h_tg ax v9 σ)) - nI (tn ((h_step kr ku km fr t9 (wB σ9 904 0 ax (nI (m_nx (tn (σ9.2.2.2 904 0 ax)) (tn (h_tg ax v9 σ)))))).2.2.2.2 904 0 ax)) else nI (tn (h_tg ax v9 σ)) - nI (m_nx (tn (σ9.2.2.2 904 0 ax)) (tn (h_tg ax v9 σ)))) := by rw [e5]; split <;> rfl
                  refine lv_goto (tgt := 58) hx hb dL_move_113 (by decide) ?_
                  exact ih ⟨(h_step kr ku km fr t9 (wB σ9 904 0 ax (nI (m_nx (tn (σ9.2.2.2 904 0 ax)) (tn (h_tg ax v9 σ)))))).1, nI (tn (h_tg ax v9 σ)) - nI (m_nx (tn (σ9.2.2.2 904 0 ax)) (tn (h_tg ax v9 σ))), (h_step kr ku km fr t9 (wB σ9 904 0 ax (nI (m_nx (tn (σ9.2.2.2 904 0 ax)) (tn (h_tg ax v9 σ)))))).2⟩ (hmu) (⟨hq2, hli2, hb2, h62, hy2⟩) H locs ls hG hS (lv_sub hl [2, 3, 4, 5, 6, 7, 8, 9, 1, 0] rfl)
                · refine lv_iload hx hb dL_move_87 (lv_at hl 8 rfl) ?_
                  refine lv_if_le (tgt := 96) hx hb dL_move_89 (by decide) (fun c_89 => ?_) (fun c_89 => ?_)
                  · refine lv_iconst (v := nI 1) hx hb dL_move_96 (by decide) ?_
                    exact r_top (by rw [if_pos c_89]) (J_97 _ _ hG hS)
                  · refine lv_iconst (v := (-1)) hx hb dL_move_92 (by decide) ?_
                    refine lv_goto (tgt := 97) hx hb dL_move_93 (by decide) ?_
                    exact r_top (by rw [if_neg c_89]) (J_97 _ _ hG hS)
              · refine lv_iload hx hb dL_move_73 (lv_at hl 8 rfl) ?_
                refine lv_if_le (tgt := 82) hx hb dL_move_75 (by decide) (fun c_75 => ?_) (fun c_75 => ?_)
                · refine lv_iconst (v := (-1)) hx hb dL_move_82 (by decide) ?_
                  exact r_top (by rw [if_pos c_75]) (J_83 _ _ hG hS)
                · refine lv_iconst (v := nI 1) hx hb dL_move_78 (by decide) ?_
                  refine lv_goto (tgt := 83) hx hb dL_move_79 (by decide) ?_
                  exact r_top (by rw [if_neg c_75]) (J_83 _ _ hG hS)
        · refine lv_iconst (v := nI 1) hx hb dL_move_53 (by decide) ?_
          exact rm_ret hx hb hr hlocks hG hS (by unfold h_move; rw [if_neg (ix_no (by unfold m_lim; split <;> decide) (by first | exact Or.inl c_27 | exact Or.inr c_50))]) (by unfold h_move; rw [if_neg (ix_no (by unfold m_lim; split <;> decide) (by first | exact Or.inl c_27 | exact Or.inr c_50))]) rfl dL_move_54
      · refine lv_iload hx hb dL_move_37 (lv_at hl 5 rfl) ?_
        refine lv_iconst (v := nI 2) hx hb dL_move_39 (by decide) ?_
        refine r_icmp_neN (tgt := 48) hx hb dL_move_40 (by decide) (by omega) (by decide) (fun c_40 => ?_) (fun c_40 => ?_)
        · refine lv_bipush (v := nI 11) hx hb dL_move_48 (by decide) ?_
          exact r_top (by unfold m_lim; rw [if_pos c_40]) (J_50 _ _ hG hS)
        · refine lv_bipush (v := nI 9) hx hb dL_move_43 (by decide) ?_
          refine lv_goto (tgt := 50) hx hb dL_move_45 (by decide) ?_
          exact r_top (by unfold m_lim; rw [if_neg (not_not_intro9 c_40)]) (J_50 _ _ hG hS)
  · refine lv_aload_n hx hb dL_move_0 rfl (lv_at hl 3 rfl) ?_
    refine lv_iconst (v := nI 4) hx hb dL_move_1 (by decide) ?_
    refine al_904 X hK hG (hd _ (List.mem_of_getElem? (i := 3) rfl)) (i := 4) (x := σ.2.2.2 904 0 4) (by omega) rfl dL_move_2 ?_
    refine lv_if_ne (tgt := 16) hx hb dL_move_3 (by decide) (fun c_3 => ?_) (fun c_3 => ?_)
    · refine lv_iload hx hb dL_move_16 (lv_at hl 5 rfl) ?_
      exact r_top (by unfold h_by; rw [if_pos c_3]) (J_18 _ _ hG hS)
    · refine lv_iload hx hb dL_move_6 (lv_at hl 5 rfl) ?_
      refine lv_aload_n hx hb dL_move_8 rfl (lv_at hl 3 rfl) ?_
      refine lv_iload hx hb dL_move_9 (lv_at hl 4 rfl) ?_
      refine al_904 X hK hG (hd _ (List.mem_of_getElem? (i := 3) rfl)) (i := ax) (x := σ.2.2.2 904 0 ax) (by omega) rfl dL_move_11 ?_
      refine lv_isub hx hb dL_move_12 ?_
      refine lv_goto (tgt := 18) hx hb dL_move_13 (by decide) ?_
      exact r_top (by unfold h_by; rw [if_neg (not_not_intro9 c_3)]) (J_18 _ _ hG hS)
