def h_ix (w : Nat) : Nat := if ¬ w = 5 then 3 + w else 5
def h_blk (kr ku km tp fr : Nat) (t9 : Int32) (σ : St) : Int32 × St := if ¬ (tn (σ.2.2.2 904 0 (16 + tp))) = (tn (σ.2.2.2 901 0 (36 + tn (σ.2.2.2 904 0 (13 + tp))))) then (if ¬ (tn (σ.2.2.2 904 0 7)) = 600 then (if ¬ ((tn (σ.2.2.2 901 0 (12 * tn (σ.2.2.2 904 0 (13 + tp)) + tn (σ.2.2.2 904 0 (16 + tp))))) % 8) = 6 then (if ¬ ((tn (σ.2.2.2 901 0 (12 * tn (σ.2.2.2 904 0 (13 + tp)) + tn (σ.2.2.2 904 0 (16 + tp))))) % 8) = 5 then (if ((tn (σ.2.2.2 901 0 (12 * tn (σ.2.2.2 904 0 (13 + tp)) + tn (σ.2.2.2 904 0 (16 + tp))))) % 8) ≤ 1 then (nI 0, (wB (wB (wB σ 904 0 7 (nI ((tn (σ.2.2.2 904 0 7)) + 1))) 904 0 (16 + tp) (nI ((tn (σ.2.2.2 904 0 (16 + tp))) + 1))) 904 0 (h_ix (tn (σ.2.2.2 901 0 (12 * tn (σ.2.2.2 904 0 (13 + tp)) + tn (σ.2.2.2 904 0 (16 + tp)))) % 8)) ((nI ((tn (σ.2.2.2 901 0 (12 * tn (σ.2.2.2 904 0 (13 + tp)) + tn (σ.2.2.2 904 0 (16 + tp))))) / 8)) - (nI 16)))) else (if 5 ≤ ((tn (σ.2.2.2 901 0 (12 * tn (σ.2.2.2 904 0 (13 + tp)) + tn (σ.2.2.2 904 0 (16 + tp))))) % 8) then (nI 0, (wB (wB (wB σ 904 0 7 (nI ((tn (σ.2.2.2 904 0 7)) + 1))) 904 0 (16 + tp) (nI ((tn (σ.2.2.2 904 0 (16 + tp))) + 1))) 904 0 (h_ix (tn (σ.2.2.2 901 0 (12 * tn (σ.2.2.2 904 0 (13 + tp)) + tn (σ.2.2.2 904 0 (16 + tp)))) % 8)) ((nI ((tn (σ.2.2.2 901 0 (12 * tn (σ.2.2.2 904 0 (13 + tp)) + tn (σ.2.2.2 904 0 (16 + tp))))) / 8)) - (nI 16)))) else ((h_move kr ku km fr t9 (((tn (σ.2.2.2 901 0 (12 * tn (σ.2.2.2 904 0 (13 + tp)) + tn (σ.2.2.2 904 0 (16 + tp))))) % 8) - 2) ((nI ((tn (σ.2.2.2 901 0 (12 * tn (σ.2.2.2 904 0 (13 + tp)) + tn (σ.2.2.2 904 0 (16 + tp))))) / 8)) - (nI 16)) (wB (wB σ 904 0 7 (nI ((tn (σ.2.2.2 904 0 7)) + 1))) 904 0 (16 + tp) (nI ((tn (σ.2.2.2 904 0 (16 + tp))) + 1)))).1, (h_move kr ku km fr t9 (((tn (σ.2.2.2 901 0 (12 * tn (σ.2.2.2 904 0 (13 + tp)) + tn (σ.2.2.2 904 0 (16 + tp))))) % 8) - 2) ((nI ((tn (σ.2.2.2 901 0 (12 * tn (σ.2.2.2 904 0 (13 + tp)) + tn (σ.2.2.2 904 0 (16 + tp))))) / 8)) - (nI 16)) (wB (wB σ 904 0 7 (nI ((tn (σ.2.2.2 904 0 7)) + 1))) 904 0 (16 + tp) (nI ((tn (σ.2.2.2 904 0 (16 + tp))) + 1)))).2))) else (if 9 ≤ (tn (σ.2.2.2 904 0 2)) then (nI 0, (wB (wB (wB σ 904 0 7 (nI ((tn (σ.2.2.2 904 0 7)) + 1))) 904 0 (16 + tp) (nI ((tn (σ.2.2.2 904 0 (16 + tp))) + 1))) 904 0 (h_ix (tn (σ.2.2.2 901 0 (12 * tn (σ.2.2.2 904 0 (13 + tp)) + tn (σ.2.2.2 904 0 (16 + tp)))) % 8)) ((nI ((tn (σ.2.2.2 901 0 (12 * tn (σ.2.2.2 904 0 (13 + tp)) + tn (σ.2.2.2 904 0 (16 + tp))))) / 8)) - (nI 16)))) else (nI 2, (wB (wB σ 904 0 7 (nI ((tn (σ.2.2.2 904 0 7)) + 1))) 904 0 (16 + tp) (nI ((tn (σ.2.2.2 904 0 (16 + tp))) + 1)))))) else (nI 0, (wB (wB (wB (wB (wB σ 904 0 7 (nI ((tn (σ.2.2.2 904 0 7)) + 1))) 904 0 (16 + tp) (nI ((tn (σ.2.2.2 904 0 (16 + tp))) + 1))) 904 0 12 (nI (tp + 1))) 904 0 (14 + tp) ((nI ((tn (σ.2.2.2 901 0 (12 * tn (σ.2.2.2 904 0 (13 + tp)) + tn (σ.2.2.2 904 0 (16 + tp))))) / 8)) - (nI 16))) 904 0 (17 + tp) (nI 0)))) else (nI 4, σ)) else (nI 0, (wB σ 904 0 12 ((nI tp) - (nI 1))))
/-- a move along y in the law's programs is to one of four places -/
theorem y_ok {kr ku km tp : Nat} {σ : St} (hg : GI σ) (hk : KI (tp + 1) σ) (hli : LI kr ku km σ) (hne : ¬ tn (σ.2.2.2 904 0 (16 + tp)) = tn (σ.2.2.2 901 0 (36 + tn (σ.2.2.2 904 0 (13 + tp))))) (h2 : 1 < tn (σ.2.2.2 901 0 (12 * tn (σ.2.2.2 904 0 (13 + tp)) + tn (σ.2.2.2 904 0 (16 + tp)))) % 8) (h5 : tn (σ.2.2.2 901 0 (12 * tn (σ.2.2.2 904 0 (13 + tp)) + tn (σ.2.2.2 904 0 (16 + tp)))) % 8 < 5) : ix (h_tg (tn (σ.2.2.2 901 0 (12 * tn (σ.2.2.2 904 0 (13 + tp)) + tn (σ.2.2.2 904 0 (16 + tp)))) % 8 - 2) (nI (tn (σ.2.2.2 901 0 (12 * tn (σ.2.2.2 904 0 (13 + tp)) + tn (σ.2.2.2 904 0 (16 + tp)))) / 8) - nI 16) (wB (wB σ 904 0 7 (nI (tn (σ.2.2.2 904 0 7) + 1))) 904 0 (16 + tp) (nI (tn (σ.2.2.2 904 0 (16 + tp)) + 1)))) (m_lim (tn (σ.2.2.2 901 0 (12 * tn (σ.2.2.2 904 0 (13 + tp)) + tn (σ.2.2.2 904 0 (16 + tp)))) % 8 - 2) + 1) → tn (h_tg (tn (σ.2.2.2 901 0 (12 * tn (σ.2.2.2 904 0 (13 + tp)) + tn (σ.2.2.2 904 0 (16 + tp)))) % 8 - 2) (nI (tn (σ.2.2.2 901 0 (12 * tn (σ.2.2.2 904 0 (13 + tp)) + tn (σ.2.2.2 904 0 (16 + tp)))) / 8) - nI 16) (wB (wB σ 904 0 7 (nI (tn (σ.2.2.2 904 0 7) + 1))) 904 0 (16 + tp) (nI (tn (σ.2.2.2 904 0 (16 + tp)) + 1)))) < l2 (tn (σ.2.2.2 901 0 (12 * tn (σ.2.2.2 904 0 (13 + tp)) + tn (σ.2.2.2 904 0 (16 + tp)))) % 8 - 2) := fun hx => by
  have htp : tp < 3 := by have := hk.1; omega
  obtain ⟨hP, hPt, hI, hIs⟩ := hk.2.2.1 tp (by omega)
  have bP := ix_lt hP
  have hlt : tn (σ.2.2.2 904 0 (16 + tp)) < gs σ (tn (σ.2.2.2 904 0 (13 + tp))) := Nat.lt_of_le_of_ne hIs hne
  obtain ⟨hJ, hW0, hW6, hW5, hW3, hW1⟩ := (hg _ bP).2 _ hlt
  have bJ := ix_lt hJ
  have bx := ix_lt hx
  by_cases c : tn (σ.2.2.2 901 0 (12 * tn (σ.2.2.2 904 0 (13 + tp)) + tn (σ.2.2.2 904 0 (16 + tp)))) % 8 = 3
  · have hn : nda σ tp = true := by
      show ndb (gi σ (tn (σ.2.2.2 904 0 (13 + tp)))) (gs σ (tn (σ.2.2.2 904 0 (13 + tp))) - tn (σ.2.2.2 904 0 (16 + tp))) (tn (σ.2.2.2 904 0 (16 + tp))) = true
      rw [show gs σ (tn (σ.2.2.2 904 0 (13 + tp))) - tn (σ.2.2.2 904 0 (16 + tp)) = (gs σ (tn (σ.2.2.2 904 0 (13 + tp))) - tn (σ.2.2.2 904 0 (16 + tp)) - 1) + 1 by omega]
      unfold ndb
      rw [if_neg (show ¬ gi σ (tn (σ.2.2.2 904 0 (13 + tp))) (tn (σ.2.2.2 904 0 (16 + tp))) % 8 = 1 by show ¬ tn (σ.2.2.2 901 0 (12 * tn (σ.2.2.2 904 0 (13 + tp)) + tn (σ.2.2.2 904 0 (16 + tp)))) % 8 = 1; omega), if_pos (show gi σ (tn (σ.2.2.2 904 0 (13 + tp))) (tn (σ.2.2.2 904 0 (16 + tp))) % 8 = 3 ∨ _ from Or.inl c)]
    have h4 := (hk.2.2.2 tp (by omega) hn).2
    have hv := hW3 c
    have hv : 16 ≤ tn (σ.2.2.2 901 0 (12 * tn (σ.2.2.2 904 0 (13 + tp)) + tn (σ.2.2.2 904 0 (16 + tp)))) / 8 ∧ tn (σ.2.2.2 901 0 (12 * tn (σ.2.2.2 904 0 (13 + tp)) + tn (σ.2.2.2 904 0 (16 + tp)))) / 8 < 20 := hv
    generalize hits : tn (σ.2.2.2 901 0 (12 * tn (σ.2.2.2 904 0 (13 + tp)) + tn (σ.2.2.2 904 0 (16 + tp)))) = its at *
    have e4 : (wB (wB σ 904 0 7 (nI (tn (σ.2.2.2 904 0 7) + 1))) 904 0 (16 + tp) (nI (tn (σ.2.2.2 904 0 (16 + tp)) + 1))).2.2.2 904 0 4 = 0 := by rw [e_ne (by omega), e_ne (by omega)]; exact h4
    have eY : (wB (wB σ 904 0 7 (nI (tn (σ.2.2.2 904 0 7) + 1))) 904 0 (16 + tp) (nI (tn (σ.2.2.2 904 0 (16 + tp)) + 1))).2.2.2 904 0 (its % 8 - 2) = nI (tn (σ.2.2.2 904 0 1)) := by
      rw [show its % 8 - 2 = 1 by omega, e_ne (by omega), e_ne (by omega)]
      exact ix_eq hli.2.2.2.1
    have e : h_tg (its % 8 - 2) (nI (its / 8) - nI 16) (wB (wB σ 904 0 7 (nI (tn (σ.2.2.2 904 0 7) + 1))) 904 0 (16 + tp) (nI (tn (σ.2.2.2 904 0 (16 + tp)) + 1))) = nI (its / 8 - 16) := by
      unfold h_tg h_by
      rw [if_neg (not_not_intro9 e4), pk_sub hv.1, Int32.add_comm, Int32.sub_add_cancel]
    rw [e, tn_nI (by omega), show its % 8 - 2 = 1 by omega]
    show _ < 4
    omega
  · have hl : m_lim (tn (σ.2.2.2 901 0 (12 * tn (σ.2.2.2 904 0 (13 + tp)) + tn (σ.2.2.2 904 0 (16 + tp)))) % 8 - 2) + 1 = l2 (tn (σ.2.2.2 901 0 (12 * tn (σ.2.2.2 904 0 (13 + tp)) + tn (σ.2.2.2 904 0 (16 + tp)))) % 8 - 2) := by
      rcases (by omega : tn (σ.2.2.2 901 0 (12 * tn (σ.2.2.2 904 0 (13 + tp)) + tn (σ.2.2.2 904 0 (16 + tp)))) % 8 - 2 = 0 ∨ tn (σ.2.2.2 901 0 (12 * tn (σ.2.2.2 904 0 (13 + tp)) + tn (σ.2.2.2 904 0 (16 + tp)))) % 8 - 2 = 2) with z | z <;> rw [z] <;> rfl
    omega
set_option maxRecDepth 100000 in
set_option maxHeartbeats 4000000 in
theorem c_L_block {D : va_G} {cI cZ cO : ClassId} {dom : Nat → Nat → Prop} (l : Launch) (L : Lay) (σ : St) (ow : Nat → Prop) (kr ku km tp fr : Nat) (t9 : Int32) (hd : ∀ z ∈ ([(900, kr), (901, 0), (902, ku), (903, km), (904, 0)] : List (Nat × Nat)), dom z.1 z.2) (hfr : fr < 100000) (hli0 : LI kr ku km σ) (hg : GI σ) (hk : KI (tp + 1) σ) (h6 : ix (σ.2.2.2 904 0 6) 80000) (h7 : ix (σ.2.2.2 904 0 7) 601) : RM D cI cZ cO dom l yL_block cL_block 12 ((some FieldType.int)) 3 86 [.ref (L 900 kr), .ref (L 901 0), .ref (L 902 ku), .ref (L 903 km), .ref (L 904 0), .int (nI fr), .int t9] L σ ow ((h_blk kr ku km tp fr t9 σ).1) ((h_blk kr ku km tp fr t9 σ).2) := by
  refine rm_of rfl (Nat.le_of_ble_eq_true rfl) ?_
  intro p e s m below meth c ls X hK hG hr hlocks hl
  have X : CallFix p m c cL_block 12 s _ TB RL := X
  have hx := X.1
  have hb := X.2.1
  have hS : va_S (AA ow s.heap.size) s.heap s.heap [] := va_S.rf
  have hA : ∀ q, ow q → AA ow s.heap.size q := fun _ h => Or.inl h
  have hl : lv_has ls 12 [(0, .ref (L 900 kr)), (1, .ref (L 901 0)), (2, .ref (L 902 ku)), (3, .ref (L 903 km)), (4, .ref (L 904 0)), (5, .int (nI fr)), (6, .int t9)] := hl
  have htp : tp < 3 := by have := hk.1; omega
  obtain ⟨hP, hPt, hI, hIs⟩ := hk.2.2.1 tp (by omega)
  have bP := ix_lt hP
  have bI := ix_lt hI
  have hS9 := (hg _ bP).1
  have bS := ix_lt hS9
  have b7 := ix_lt h7
  have b2 := ix_lt hli0.2.2.2.2.1
  refine lv_aload hx hb dL_block_0 (lv_at hl 4 rfl) ?_
  refine lv_bipush (v := nI 12) hx hb dL_block_2 (by decide) ?_
  refine al_904 X hK hG (hd _ (List.mem_of_getElem? (i := 4) rfl)) (i := 12) (x := σ.2.2.2 904 0 12) (by omega) rfl dL_block_4 ?_
  refine r_top (y := nI tp) (k12 hk) ?_
  refine lv_istore (lv' := [(7, .int (nI tp)), (0, .ref (L 900 kr)), (1, .ref (L 901 0)), (2, .ref (L 902 ku)), (3, .ref (L 903 km)), (4, .ref (L 904 0)), (5, .int (nI fr)), (6, .int t9)]) hx hb dL_block_5 hl (by decide) rfl (fun ls hl => ?_)
  refine lv_aload hx hb dL_block_7 (lv_at hl 5 rfl) ?_
  refine lv_bipush (v := nI 13) hx hb dL_block_9 (by decide) ?_
  refine lv_iload hx hb dL_block_11 (lv_at hl 0 rfl) ?_
  refine r_addN hx hb dL_block_13 ?_
  refine al_904 X hK hG (hd _ (List.mem_of_getElem? (i := 4) rfl)) (i := 13 + tp) (x := σ.2.2.2 904 0 (13 + tp)) (by omega) rfl dL_block_14 ?_
  refine r_top (y := nI (tn (σ.2.2.2 904 0 (13 + tp)))) (ix_eq hP) ?_
  refine lv_istore (lv' := [(8, .int (nI (tn (σ.2.2.2 904 0 (13 + tp))))), (7, .int (nI tp)), (0, .ref (L 900 kr)), (1, .ref (L 901 0)), (2, .ref (L 902 ku)), (3, .ref (L 903 km)), (4, .ref (L 904 0)), (5, .int (nI fr)), (6, .int t9)]) hx hb dL_block_15 hl (by decide) rfl (fun ls hl => ?_)
  refine lv_aload hx hb dL_block_17 (lv_at hl 6 rfl) ?_
  refine lv_bipush (v := nI 16) hx hb dL_block_19 (by decide) ?_
  refine lv_iload hx hb dL_block_21 (lv_at hl 1 rfl) ?_
  refine r_addN hx hb dL_block_23 ?_
  refine al_904 X hK hG (hd _ (List.mem_of_getElem? (i := 4) rfl)) (i := 16 + tp) (x := σ.2.2.2 904 0 (16 + tp)) (by omega) rfl dL_block_24 ?_
  refine r_top (y := nI (tn (σ.2.2.2 904 0 (16 + tp)))) (ix_eq hI) ?_
  refine lv_aload_n hx hb dL_block_25 rfl (lv_at hl 3 rfl) ?_
  refine lv_bipush (v := nI 36) hx hb dL_block_26 (by decide) ?_
  refine lv_iload hx hb dL_block_28 (lv_at hl 0 rfl) ?_
  refine r_addN hx hb dL_block_30 ?_
  refine al_901 X hK hG (hd _ (List.mem_of_getElem? (i := 1) rfl)) (i := 36 + (tn (σ.2.2.2 904 0 (13 + tp)))) (x := σ.2.2.2 901 0 (36 + (tn (σ.2.2.2 904 0 (13 + tp))))) (by omega) rfl dL_block_31 ?_
  refine r_top (y := nI (tn (σ.2.2.2 901 0 (36 + tn (σ.2.2.2 904 0 (13 + tp)))))) (ix_eq hS9) ?_
  refine r_icmp_neN (tgt := 46) hx hb dL_block_32 (by decide) (by omega) (by omega) (fun c_32 => ?_) (fun c_32 => ?_)
  · refine lv_aload hx hb dL_block_46 (lv_at hl 6 rfl) ?_
    refine lv_bipush (v := nI 7) hx hb dL_block_48 (by decide) ?_
    refine al_904 X hK hG (hd _ (List.mem_of_getElem? (i := 4) rfl)) (i := 7) (x := σ.2.2.2 904 0 7) (by omega) rfl dL_block_50 ?_
    refine r_top (y := nI (tn (σ.2.2.2 904 0 7))) (ix_eq h7) ?_
    refine lv_sipush (v := nI 600) hx hb dL_block_51 (by decide) ?_
    refine r_icmp_neN (tgt := 59) hx hb dL_block_54 (by decide) (by omega) (by omega) (fun c_54 => ?_) (fun c_54 => ?_)
    · refine lv_aload_n hx hb dL_block_59 rfl (lv_at hl 3 rfl) ?_
      have hJw := (hg _ bP).2 _ (show tn (σ.2.2.2 904 0 (16 + tp)) < gs σ (tn (σ.2.2.2 904 0 (13 + tp))) from Nat.lt_of_le_of_ne hIs c_32)
      have hJ := hJw.1
      have bJ := ix_lt hJ
      have hW := hJw.2.1
      change tn (σ.2.2.2 901 0 (12 * tn (σ.2.2.2 904 0 (13 + tp)) + tn (σ.2.2.2 904 0 (16 + tp)))) % 8 ≤ 6 at hW
      refine lv_bipush (v := nI 12) hx hb dL_block_60 (by decide) ?_
      refine lv_iload hx hb dL_block_62 (lv_at hl 0 rfl) ?_
      refine r_mulN hx hb dL_block_64 ?_
      refine lv_aload hx hb dL_block_65 (lv_at hl 6 rfl) ?_
      refine lv_bipush (v := nI 16) hx hb dL_block_67 (by decide) ?_
      refine lv_iload hx hb dL_block_69 (lv_at hl 1 rfl) ?_
      refine r_addN hx hb dL_block_71 ?_
      refine al_904 X hK hG (hd _ (List.mem_of_getElem? (i := 4) rfl)) (i := 16 + tp) (x := σ.2.2.2 904 0 (16 + tp)) (by omega) rfl dL_block_72 ?_
      refine r_top (y := nI (tn (σ.2.2.2 904 0 (16 + tp)))) (ix_eq hI) ?_
      refine r_addN hx hb dL_block_73 ?_
      refine al_901 X hK hG (hd _ (List.mem_of_getElem? (i := 1) rfl)) (i := (12 * (tn (σ.2.2.2 904 0 (13 + tp)))) + (tn (σ.2.2.2 904 0 (16 + tp)))) (x := σ.2.2.2 901 0 ((12 * (tn (σ.2.2.2 904 0 (13 + tp)))) + (tn (σ.2.2.2 904 0 (16 + tp))))) (by omega) rfl dL_block_74 ?_
      refine r_top (y := nI (tn (σ.2.2.2 901 0 (12 * tn (σ.2.2.2 904 0 (13 + tp)) + tn (σ.2.2.2 904 0 (16 + tp)))))) (ix_eq hJ) ?_
      refine lv_istore (lv' := [(9, .int (nI (tn (σ.2.2.2 901 0 (12 * tn (σ.2.2.2 904 0 (13 + tp)) + tn (σ.2.2.2 904 0 (16 + tp))))))), (8, .int (nI (tn (σ.2.2.2 904 0 (13 + tp))))), (7, .int (nI tp)), (0, .ref (L 900 kr)), (1, .ref (L 901 0)), (2, .ref (L 902 ku)), (3, .ref (L 903 km)), (4, .ref (L 904 0)), (5, .int (nI fr)), (6, .int t9)]) hx hb dL_block_75 hl (by decide) rfl (fun ls hl => ?_)
      refine lv_iload hx hb dL_block_77 (lv_at hl 0 rfl) ?_
      refine lv_bipush (v := nI 8) hx hb dL_block_79 (by decide) ?_
      refine r_remN hx hb (by omega) (by decide) (by decide) dL_block_81 ?_
      refine lv_istore (lv' := [(10, .int (nI ((tn (σ.2.2.2 901 0 (12 * tn (σ.2.2.2 904 0 (13 + tp)) + tn (σ.2.2.2 904 0 (16 + tp))))) % 8))), (9, .int (nI (tn (σ.2.2.2 901 0 (12 * tn (σ.2.2.2 904 0 (13 + tp)) + tn (σ.2.2.2 904 0 (16 + tp))))))), (8, .int (nI (tn (σ.2.2.2 904 0 (13 + tp))))), (7, .int (nI tp)), (0, .ref (L 900 kr)), (1, .ref (L 901 0)), (2, .ref (L 902 ku)), (3, .ref (L 903 km)), (4, .ref (L 904 0)), (5, .int (nI fr)), (6, .int t9)]) hx hb dL_block_82 hl (by decide) rfl (fun ls hl => ?_)
      refine lv_iload hx hb dL_block_84 (lv_at hl 1 rfl) ?_
      refine lv_bipush (v := nI 8) hx hb dL_block_86 (by decide) ?_
      refine r_divN hx hb (by omega) (by decide) (by decide) dL_block_88 ?_
      refine lv_bipush (v := nI 16) hx hb dL_block_89 (by decide) ?_
      refine lv_isub hx hb dL_block_91 ?_
      refine lv_istore (lv' := [(11, .int ((nI ((tn (σ.2.2.2 901 0 (12 * tn (σ.2.2.2 904 0 (13 + tp)) + tn (σ.2.2.2 904 0 (16 + tp))))) / 8)) - (nI 16))), (10, .int (nI ((tn (σ.2.2.2 901 0 (12 * tn (σ.2.2.2 904 0 (13 + tp)) + tn (σ.2.2.2 904 0 (16 + tp))))) % 8))), (9, .int (nI (tn (σ.2.2.2 901 0 (12 * tn (σ.2.2.2 904 0 (13 + tp)) + tn (σ.2.2.2 904 0 (16 + tp))))))), (8, .int (nI (tn (σ.2.2.2 904 0 (13 + tp))))), (7, .int (nI tp)), (0, .ref (L 900 kr)), (1, .ref (L 901 0)), (2, .ref (L 902 ku)), (3, .ref (L 903 km)), (4, .ref (L 904 0)), (5, .int (nI fr)), (6, .int t9)]) hx hb dL_block_92 hl (by decide) rfl (fun ls hl => ?_)
      refine lv_aload hx hb dL_block_94 (lv_at hl 9 rfl) ?_
      refine lv_bipush (v := nI 7) hx hb dL_block_96 (by decide) ?_
      refine lv_dup2_11 hx hb dL_block_98 rfl rfl ?_
      refine al_904 X hK hG (hd _ (List.mem_of_getElem? (i := 4) rfl)) (i := 7) (x := σ.2.2.2 904 0 7) (by omega) rfl dL_block_99 ?_
      refine r_top (y := nI (tn (σ.2.2.2 904 0 7))) (ix_eq h7) ?_
      refine lv_iconst (v := nI 1) hx hb dL_block_100 (by decide) ?_
      refine r_addN hx hb dL_block_101 ?_
      refine as_904 X hK hG hS hA (hd _ (List.mem_of_getElem? (i := 4) rfl)) (i := 7) (by omega) dL_block_102 (fun H locs hG hS => ?_)
      refine lv_aload hx hb dL_block_103 (lv_at hl 9 rfl) ?_
      refine lv_bipush (v := nI 16) hx hb dL_block_105 (by decide) ?_
      refine lv_iload hx hb dL_block_107 (lv_at hl 4 rfl) ?_
      refine r_addN hx hb dL_block_109 ?_
      refine lv_dup2_11 hx hb dL_block_110 rfl rfl ?_
      refine al_904 X hK hG (hd _ (List.mem_of_getElem? (i := 4) rfl)) (i := 16 + tp) (x := σ.2.2.2 904 0 (16 + tp)) (by omega) ((show (wB σ 904 0 7 (nI ((tn (σ.2.2.2 904 0 7)) + 1))).2.2.2 904 0 (16 + tp) = _ from e_ne (σ := σ) (F := 904) (k := 0) (i := 7) (j := (16 + tp)) (v := (nI ((tn (σ.2.2.2 904 0 7)) + 1))) (by omega)).trans rfl) dL_block_111 ?_
      refine r_top (y := nI (tn (σ.2.2.2 904 0 (16 + tp)))) (ix_eq hI) ?_
      refine lv_iconst (v := nI 1) hx hb dL_block_112 (by decide) ?_
      refine r_addN hx hb dL_block_113 ?_
      refine as_904 X hK hG hS hA (hd _ (List.mem_of_getElem? (i := 4) rfl)) (i := 16 + tp) (by omega) dL_block_114 (fun H locs hG hS => ?_)
      refine lv_iload hx hb dL_block_115 (lv_at hl 1 rfl) ?_
      refine lv_bipush (v := nI 6) hx hb dL_block_117 (by decide) ?_
      refine r_icmp_neN (tgt := 152) hx hb dL_block_119 (by decide) (by omega) (by omega) (fun c_119 => ?_) (fun c_119 => ?_)
      · refine lv_iload hx hb dL_block_152 (lv_at hl 1 rfl) ?_
        refine lv_iconst (v := nI 5) hx hb dL_block_154 (by decide) ?_
        refine r_icmp_neN (tgt := 169) hx hb dL_block_155 (by decide) (by omega) (by omega) (fun c_155 => ?_) (fun c_155 => ?_)
        · refine lv_iload hx hb dL_block_169 (lv_at hl 1 rfl) ?_
          refine lv_iconst (v := nI 1) hx hb dL_block_171 (by decide) ?_
          refine r_icmp_leN (tgt := 200) hx hb dL_block_172 (by decide) (by omega) (by omega) (fun c_172 => ?_) (fun c_172 => ?_)
          · refine lv_aload hx hb dL_block_200 (lv_at hl 9 rfl) ?_
            refine r_cutH 216 [.int (nI (h_ix (tn (σ.2.2.2 901 0 (12 * tn (σ.2.2.2 904 0 (13 + tp)) + tn (σ.2.2.2 904 0 (16 + tp)))) % 8))), .ref (L 904 0)] hG hS (fun H locs hG hS => ?_) (fun J_216 => ?_)
            · refine lv_iload hx hb dL_block_216 (lv_at hl 0 rfl) ?_
              refine as_904 X hK hG hS hA (hd _ (List.mem_of_getElem? (i := 4) rfl)) (i := h_ix (tn (σ.2.2.2 901 0 (12 * tn (σ.2.2.2 904 0 (13 + tp)) + tn (σ.2.2.2 904 0 (16 + tp)))) % 8)) (by unfold h_ix; split <;> omega) dL_block_218 (fun H locs hG hS => ?_)
              refine lv_iconst (v := nI 0) hx hb dL_block_219 (by decide) ?_
              exact rm_ret hx hb hr hlocks hG hS (by unfold h_blk; rw [if_pos c_32, if_pos c_54, if_pos c_119, if_pos c_155, if_pos c_172] <;> rfl) (by unfold h_blk; rw [if_pos c_32, if_pos c_54, if_pos c_119, if_pos c_155, if_pos c_172] <;> rfl) rfl dL_block_220
            · refine lv_iload hx hb dL_block_202 (lv_at hl 1 rfl) ?_
              refine lv_iconst (v := nI 5) hx hb dL_block_204 (by decide) ?_
              refine r_icmp_neN (tgt := 212) hx hb dL_block_205 (by decide) (by omega) (by omega) (fun c_205 => ?_) (fun c_205 => (by first | exact absurd c_155 c_205 | exact absurd c_205 c_155 | omega))
              refine lv_iconst (v := nI 3) hx hb dL_block_212 (by decide) ?_
              refine lv_iload hx hb dL_block_213 (lv_at hl 1 rfl) ?_
              refine r_addN hx hb dL_block_215 ?_
              exact r_top (by unfold h_ix; rw [if_pos c_205]) (J_216 _ _ hG hS)
          · refine lv_iload hx hb dL_block_175 (lv_at hl 1 rfl) ?_
            refine lv_iconst (v := nI 5) hx hb dL_block_177 (by decide) ?_
            refine r_icmp_geN (tgt := 200) hx hb dL_block_178 (by decide) (by omega) (by omega) (fun c_178 => ?_) (fun c_178 => ?_)
            · refine lv_aload hx hb dL_block_200 (lv_at hl 9 rfl) ?_
              refine r_cutH 216 [.int (nI (h_ix (tn (σ.2.2.2 901 0 (12 * tn (σ.2.2.2 904 0 (13 + tp)) + tn (σ.2.2.2 904 0 (16 + tp)))) % 8))), .ref (L 904 0)] hG hS (fun H locs hG hS => ?_) (fun J_216 => ?_)
              · refine lv_iload hx hb dL_block_216 (lv_at hl 0 rfl) ?_
                refine as_904 X hK hG hS hA (hd _ (List.mem_of_getElem? (i := 4) rfl)) (i := h_ix (tn (σ.2.2.2 901 0 (12 * tn (σ.2.2.2 904 0 (13 + tp)) + tn (σ.2.2.2 904 0 (16 + tp)))) % 8)) (by unfold h_ix; split <;> omega) dL_block_218 (fun H locs hG hS => ?_)
                refine lv_iconst (v := nI 0) hx hb dL_block_219 (by decide) ?_
                exact rm_ret hx hb hr hlocks hG hS (by unfold h_blk; rw [if_pos c_32, if_pos c_54, if_pos c_119, if_pos c_155, if_neg (Nat.not_le.mpr c_172), if_pos c_178] <;> rfl) (by unfold h_blk; rw [if_pos c_32, if_pos c_54, if_pos c_119, if_pos c_155, if_neg (Nat.not_le.mpr c_172), if_pos c_178] <;> rfl) rfl dL_block_220
              · refine lv_iload hx hb dL_block_202 (lv_at hl 1 rfl) ?_
                refine lv_iconst (v := nI 5) hx hb dL_block_204 (by decide) ?_
                refine r_icmp_neN (tgt := 212) hx hb dL_block_205 (by decide) (by omega) (by omega) (fun c_205 => ?_) (fun c_205 => (by first | exact absurd c_155 c_205 | exact absurd c_205 c_155 | omega))
                refine lv_iconst (v := nI 3) hx hb dL_block_212 (by decide) ?_
                refine lv_iload hx hb dL_block_213 (lv_at hl 1 rfl) ?_
                refine r_addN hx hb dL_block_215 ?_
                exact r_top (by unfold h_ix; rw [if_pos c_205]) (J_216 _ _ hG hS)
            · have hliA := LI_e (LI_e hli0 (i := 7) (v := nI (tn (σ.2.2.2 904 0 7) + 1)) (by omega)) (i := 16 + tp) (v := nI (tn (σ.2.2.2 904 0 (16 + tp)) + 1)) (by omega)
              have h6A : (wB (wB σ 904 0 7 (nI (tn (σ.2.2.2 904 0 7) + 1))) 904 0 (16 + tp) (nI (tn (σ.2.2.2 904 0 (16 + tp)) + 1))).2.2.2 904 0 6 = σ.2.2.2 904 0 6 := by rw [e_ne (by omega), e_ne (by omega)]
              have hyA := y_ok hg hk hli0 c_32 (by omega) (by omega)
              refine lv_aload_n hx hb dL_block_181 rfl (lv_at hl 5 rfl) ?_
              refine lv_aload_n hx hb dL_block_182 rfl (lv_at hl 7 rfl) ?_
              refine lv_aload_n hx hb dL_block_183 rfl (lv_at hl 8 rfl) ?_
              refine lv_aload hx hb dL_block_184 (lv_at hl 9 rfl) ?_
              refine lv_iload hx hb dL_block_186 (lv_at hl 1 rfl) ?_
              refine lv_iconst (v := nI 2) hx hb dL_block_188 (by decide) ?_
              refine r_subN hx hb (by omega) dL_block_189 ?_
              refine lv_iload hx hb dL_block_190 (lv_at hl 0 rfl) ?_
              refine lv_iload hx hb dL_block_192 (lv_at hl 10 rfl) ?_
              refine lv_iload hx hb dL_block_194 (lv_at hl 11 rfl) ?_
              refine rm_callS X hK hG hS ysL_move ml_L_25 [.ref (L 900 kr), .ref (L 902 ku), .ref (L 903 km), .ref (L 904 0), .int (nI (((tn (σ.2.2.2 901 0 (12 * tn (σ.2.2.2 904 0 (13 + tp)) + tn (σ.2.2.2 904 0 (16 + tp))))) % 8) - 2)), .int ((nI ((tn (σ.2.2.2 901 0 (12 * tn (σ.2.2.2 904 0 (13 + tp)) + tn (σ.2.2.2 904 0 (16 + tp))))) / 8)) - (nI 16)), .int (nI fr), .int t9] [] (c_L_move l L (wB (wB σ 904 0 7 (nI ((tn (σ.2.2.2 904 0 7)) + 1))) 904 0 (16 + tp) (nI ((tn (σ.2.2.2 904 0 (16 + tp))) + 1))) ow kr ku km (((tn (σ.2.2.2 901 0 (12 * tn (σ.2.2.2 904 0 (13 + tp)) + tn (σ.2.2.2 904 0 (16 + tp))))) % 8) - 2) ((nI ((tn (σ.2.2.2 901 0 (12 * tn (σ.2.2.2 904 0 (13 + tp)) + tn (σ.2.2.2 904 0 (16 + tp))))) / 8)) - (nI 16)) fr t9 (fun z hz => hd z (by revert hz; simp only [List.mem_cons, List.not_mem_nil, or_false]; rintro (h9 | h9 | h9 | h9) <;> simp [h9])) (by omega) hfr hliA (by rw [h6A]; exact ix_up h6 (by decide)) hyA) rfl hl.1 rfl (Nat.le_of_ble_eq_true rfl) ⟨Nat.le_of_ble_eq_true rfl, Nat.le_of_ble_eq_true rfl⟩ ⟨Nat.zero_le _, Nat.zero_le _⟩ dL_block_196 (fun H locs hG hS => ?_)
              exact rm_ret hx hb hr hlocks hG hS (by unfold h_blk; rw [if_pos c_32, if_pos c_54, if_pos c_119, if_pos c_155, if_neg (Nat.not_le.mpr c_172), if_neg (Nat.not_le.mpr c_178)] <;> rfl) (by unfold h_blk; rw [if_pos c_32, if_pos c_54, if_pos c_119, if_pos c_155, if_neg (Nat.not_le.mpr c_172), if_neg (Nat.not_le.mpr c_178)] <;> rfl) rfl dL_block_199
        · refine lv_aload hx hb dL_block_158 (lv_at hl 9 rfl) ?_
          refine lv_iconst (v := nI 2) hx hb dL_block_160 (by decide) ?_
          refine al_904 X hK hG (hd _ (List.mem_of_getElem? (i := 4) rfl)) (i := 2) (x := σ.2.2.2 904 0 2) (by omega) ((show (wB (wB σ 904 0 7 (nI ((tn (σ.2.2.2 904 0 7)) + 1))) 904 0 (16 + tp) (nI ((tn (σ.2.2.2 904 0 (16 + tp))) + 1))).2.2.2 904 0 2 = _ from e_ne (σ := (wB σ 904 0 7 (nI ((tn (σ.2.2.2 904 0 7)) + 1)))) (F := 904) (k := 0) (i := (16 + tp)) (j := 2) (v := (nI ((tn (σ.2.2.2 904 0 (16 + tp))) + 1))) (by omega)).trans rfl) dL_block_161 ?_
          refine r_top (y := nI (tn (σ.2.2.2 904 0 2))) (ix_eq hli0.2.2.2.2.1) ?_
          refine lv_bipush (v := nI 9) hx hb dL_block_162 (by decide) ?_
          refine r_icmp_geN (tgt := 169) hx hb dL_block_164 (by decide) (by omega) (by omega) (fun c_164 => ?_) (fun c_164 => ?_)
          · refine lv_iload hx hb dL_block_169 (lv_at hl 1 rfl) ?_
            refine lv_iconst (v := nI 1) hx hb dL_block_171 (by decide) ?_
            refine r_icmp_leN (tgt := 200) hx hb dL_block_172 (by decide) (by omega) (by omega) (fun c_172 => absurd c_172 (by omega)) (fun c_172 => ?_)
            refine lv_iload hx hb dL_block_175 (lv_at hl 1 rfl) ?_
            refine lv_iconst (v := nI 5) hx hb dL_block_177 (by decide) ?_
            refine r_icmp_geN (tgt := 200) hx hb dL_block_178 (by decide) (by omega) (by omega) (fun c_178 => ?_) (fun c_178 => absurd c_178 (by omega))
            refine lv_aload hx hb dL_block_200 (lv_at hl 9 rfl) ?_
            refine r_cutH 216 [.int (nI (h_ix (tn (σ.2.2.2 901 0 (12 * tn (σ.2.2.2 904 0 (13 + tp)) + tn (σ.2.2.2 904 0 (16 + tp)))) % 8))), .ref (L 904 0)] hG hS (fun H locs hG hS => ?_) (fun J_216 => ?_)
            · refine lv_iload hx hb dL_block_216 (lv_at hl 0 rfl) ?_
              refine as_904 X hK hG hS hA (hd _ (List.mem_of_getElem? (i := 4) rfl)) (i := h_ix (tn (σ.2.2.2 901 0 (12 * tn (σ.2.2.2 904 0 (13 + tp)) + tn (σ.2.2.2 904 0 (16 + tp)))) % 8)) (by unfold h_ix; split <;> omega) dL_block_218 (fun H locs hG hS => ?_)
              refine lv_iconst (v := nI 0) hx hb dL_block_219 (by decide) ?_
              exact rm_ret hx hb hr hlocks hG hS (by unfold h_blk; rw [if_pos c_32, if_pos c_54, if_pos c_119, if_neg (not_not_intro9 c_155), if_pos c_164] <;> rfl) (by unfold h_blk; rw [if_pos c_32, if_pos c_54, if_pos c_119, if_neg (not_not_intro9 c_155), if_pos c_164] <;> rfl) rfl dL_block_220
            · refine lv_iload hx hb dL_block_202 (lv_at hl 1 rfl) ?_
              refine lv_iconst (v := nI 5) hx hb dL_block_204 (by decide) ?_
              refine r_icmp_neN (tgt := 212) hx hb dL_block_205 (by decide) (by omega) (by omega) (fun c_205 => (by first | exact absurd c_155 c_205 | exact absurd c_205 c_155 | omega)) (fun c_205 => ?_)
              refine lv_iconst (v := nI 5) hx hb dL_block_208 (by decide) ?_
              refine lv_goto (tgt := 216) hx hb dL_block_209 (by decide) ?_
              exact r_top (by unfold h_ix; rw [if_neg (not_not_intro9 c_205)]) (J_216 _ _ hG hS)
          · refine lv_iconst (v := nI 2) hx hb dL_block_167 (by decide) ?_
            exact rm_ret hx hb hr hlocks hG hS (by unfold h_blk; rw [if_pos c_32, if_pos c_54, if_pos c_119, if_neg (not_not_intro9 c_155), if_neg (Nat.not_le.mpr c_164)] <;> rfl) (by unfold h_blk; rw [if_pos c_32, if_pos c_54, if_pos c_119, if_neg (not_not_intro9 c_155), if_neg (Nat.not_le.mpr c_164)] <;> rfl) rfl dL_block_168
      · refine lv_aload hx hb dL_block_122 (lv_at hl 9 rfl) ?_
        refine lv_bipush (v := nI 12) hx hb dL_block_124 (by decide) ?_
        refine lv_dup2_11 hx hb dL_block_126 rfl rfl ?_
        refine al_904 X hK hG (hd _ (List.mem_of_getElem? (i := 4) rfl)) (i := 12) (x := σ.2.2.2 904 0 12) (by omega) ((show (wB (wB σ 904 0 7 (nI ((tn (σ.2.2.2 904 0 7)) + 1))) 904 0 (16 + tp) (nI ((tn (σ.2.2.2 904 0 (16 + tp))) + 1))).2.2.2 904 0 12 = _ from e_ne (σ := (wB σ 904 0 7 (nI ((tn (σ.2.2.2 904 0 7)) + 1)))) (F := 904) (k := 0) (i := (16 + tp)) (j := 12) (v := (nI ((tn (σ.2.2.2 904 0 (16 + tp))) + 1))) (by omega)).trans rfl) dL_block_127 ?_
        refine r_top (y := nI tp) (k12 hk) ?_
        refine lv_iconst (v := nI 1) hx hb dL_block_128 (by decide) ?_
        refine r_addN hx hb dL_block_129 ?_
        refine as_904 X hK hG hS hA (hd _ (List.mem_of_getElem? (i := 4) rfl)) (i := 12) (by omega) dL_block_130 (fun H locs hG hS => ?_)
        refine lv_aload hx hb dL_block_131 (lv_at hl 9 rfl) ?_
        refine lv_bipush (v := nI 14) hx hb dL_block_133 (by decide) ?_
        refine lv_iload hx hb dL_block_135 (lv_at hl 4 rfl) ?_
        refine r_addN hx hb dL_block_137 ?_
        refine lv_iload hx hb dL_block_138 (lv_at hl 0 rfl) ?_
        refine as_904 X hK hG hS hA (hd _ (List.mem_of_getElem? (i := 4) rfl)) (i := 14 + tp) (by omega) dL_block_140 (fun H locs hG hS => ?_)
        refine lv_aload hx hb dL_block_141 (lv_at hl 9 rfl) ?_
        refine lv_bipush (v := nI 17) hx hb dL_block_143 (by decide) ?_
        refine lv_iload hx hb dL_block_145 (lv_at hl 4 rfl) ?_
        refine r_addN hx hb dL_block_147 ?_
        refine lv_iconst (v := nI 0) hx hb dL_block_148 (by decide) ?_
        refine as_904 X hK hG hS hA (hd _ (List.mem_of_getElem? (i := 4) rfl)) (i := 17 + tp) (by omega) dL_block_149 (fun H locs hG hS => ?_)
        refine lv_iconst (v := nI 0) hx hb dL_block_150 (by decide) ?_
        exact rm_ret hx hb hr hlocks hG hS (by unfold h_blk; rw [if_pos c_32, if_pos c_54, if_neg (not_not_intro9 c_119)] <;> rfl) (by unfold h_blk; rw [if_pos c_32, if_pos c_54, if_neg (not_not_intro9 c_119)] <;> rfl) rfl dL_block_151
    · refine lv_iconst (v := nI 4) hx hb dL_block_57 (by decide) ?_
      exact rm_ret hx hb hr hlocks hG hS (by unfold h_blk; rw [if_pos c_32, if_neg (not_not_intro9 c_54)] <;> rfl) (by unfold h_blk; rw [if_pos c_32, if_neg (not_not_intro9 c_54)] <;> rfl) rfl dL_block_58
  · refine lv_aload hx hb dL_block_35 (lv_at hl 6 rfl) ?_
    refine lv_bipush (v := nI 12) hx hb dL_block_37 (by decide) ?_
    refine lv_dup2_11 hx hb dL_block_39 rfl rfl ?_
    refine al_904 X hK hG (hd _ (List.mem_of_getElem? (i := 4) rfl)) (i := 12) (x := σ.2.2.2 904 0 12) (by omega) rfl dL_block_40 ?_
    refine r_top (y := nI tp) (k12 hk) ?_
    refine lv_iconst (v := nI 1) hx hb dL_block_41 (by decide) ?_
    refine lv_isub hx hb dL_block_42 ?_
    refine as_904 X hK hG hS hA (hd _ (List.mem_of_getElem? (i := 4) rfl)) (i := 12) (by omega) dL_block_43 (fun H locs hG hS => ?_)
    refine lv_iconst (v := nI 0) hx hb dL_block_44 (by decide) ?_
    exact rm_ret hx hb hr hlocks hG hS (by unfold h_blk; rw [if_neg (not_not_intro9 c_32)] <;> rfl) (by unfold h_blk; rw [if_neg (not_not_intro9 c_32)] <;> rfl) rfl dL_block_45
