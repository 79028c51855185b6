def m_load (t9 : Int32) (P2 : Prop) [Decidable P2] (σ : St) : Int32 × St := if (ix t9 (σ.1 914 0)) ∧ (ix t9 (σ.1 914 0) ∧ (¬ P2 ∨ ¬ σ.2.2.2 911 0 (tn t9) = 0 ∨ cntZ (σ.2.2.2 911 0) (σ.1 914 0) < 6)) ∧ (True) then (nI (cntZ ((wB (m_g (ix t9 (σ.1 914 0)) (ix t9 (σ.1 914 0) ∧ (¬ P2 ∨ ¬ σ.2.2.2 911 0 (tn t9) = 0 ∨ cntZ (σ.2.2.2 911 0) (σ.1 914 0) < 6)) (True) σ) 911 0 (tn t9) (b2i (P2))).2.2.2 911 0) (σ.1 914 0)), (wB (m_g (ix t9 (σ.1 914 0)) (ix t9 (σ.1 914 0) ∧ (¬ P2 ∨ ¬ σ.2.2.2 911 0 (tn t9) = 0 ∨ cntZ (σ.2.2.2 911 0) (σ.1 914 0) < 6)) (True) σ) 911 0 (tn t9) (b2i (P2)))) else (nI 0, (m_g (ix t9 (σ.1 914 0)) (ix t9 (σ.1 914 0) ∧ (¬ P2 ∨ ¬ σ.2.2.2 911 0 (tn t9) = 0 ∨ cntZ (σ.2.2.2 911 0) (σ.1 914 0) < 6)) (True) σ))
set_option maxRecDepth 100000 in
set_option maxHeartbeats 4000000 in
theorem c_X9_load {D : va_G} {cI cZ cO : ClassId} (l : Launch) (L : Lay) (σ : St) (ow : Nat → Prop) (t9 : Int32) (P2 : Prop) [Decidable P2] (hT : σ.1 914 0 ≤ 16) : RM D cI cZ cO rdom l yX9_load cX9_load 4 ((some FieldType.int)) 2 43 [.ref (L 999 0), .int t9, .int (b2i (P2))] L σ ow ((m_load t9 P2 σ).1) ((m_load t9 P2 σ).2) := by
  refine rm_of rfl (Nat.le_of_ble_eq_true rfl) ?_
  intro p e s m below meth c ls X hK hG hr hlocks hl
  have X : CallFix p m c cX9_load 4 s _ TB RX9 := X
  have hx := X.1
  have hb := X.2.1
  have hS : va_S (AA ow s.heap.size) s.heap s.heap [] := va_S.rf
  have hA : ∀ q, ow q → AA ow s.heap.size q := fun _ h => Or.inl h
  have hl : lv_has ls 4 [(0, .ref (L 999 0)), (1, .int t9), (2, .int (b2i (P2)))] := hl
  refine lv_aload_n hx hb dX9_load_0 rfl (lv_at hl 0 rfl) ?_
  refine lv_iload_n hx hb dX9_load_1 rfl (lv_at hl 1 rfl) ?_
  refine rm_callV X hK hG hS yvX9_isTool ml_X9_141 kX9 rfl rd_999 [.int t9] [] (c_X9_isTool l L σ ow t9 (by omega)) rfl hl.1 rfl (Nat.le_of_ble_eq_true rfl) ⟨Nat.le_of_ble_eq_true rfl, Nat.le_of_ble_eq_true rfl⟩ ⟨Nat.zero_le _, Nat.zero_le _⟩ dX9_load_2 (fun H locs hG hS => ?_)
  refine lv_istore_n (lv' := [(3, .int (b2i (ix t9 (σ.1 914 0)))), (0, .ref (L 999 0)), (1, .int t9), (2, .int (b2i (P2)))]) hx hb dX9_load_5 rfl hl (by decide) rfl (fun ls hl => ?_)
  refine lv_aload_n hx hb dX9_load_6 rfl (lv_at hl 1 rfl) ?_
  refine lv_iload_n hx hb dX9_load_7 rfl (lv_at hl 0 rfl) ?_
  refine r_cutH 39 [.int (b2i (ix t9 (σ.1 914 0) ∧ (¬ P2 ∨ ¬ σ.2.2.2 911 0 (tn t9) = 0 ∨ cntZ (σ.2.2.2 911 0) (σ.1 914 0) < 6))), .int (b2i (ix t9 (σ.1 914 0))), .ref (L 999 0)] hG hS (fun H locs hG hS => ?_) (fun J_39 => ?_)
  · refine lv_iconst (v := nI 1) hx hb dX9_load_39 (by decide) ?_
    refine rm_callV X hK hG hS yvX9_goes ml_X9_127 kX9 rfl rd_999 [.int (b2i (ix t9 (σ.1 914 0))), .int (b2i (ix t9 (σ.1 914 0) ∧ (¬ P2 ∨ ¬ σ.2.2.2 911 0 (tn t9) = 0 ∨ cntZ (σ.2.2.2 911 0) (σ.1 914 0) < 6))), .int (nI 1)] [] (c_X9_goes l L σ ow (ix t9 (σ.1 914 0)) (ix t9 (σ.1 914 0) ∧ (¬ P2 ∨ ¬ σ.2.2.2 911 0 (tn t9) = 0 ∨ cntZ (σ.2.2.2 911 0) (σ.1 914 0) < 6)) (True)) rfl hl.1 rfl (Nat.le_of_ble_eq_true rfl) ⟨Nat.le_of_ble_eq_true rfl, Nat.le_of_ble_eq_true rfl⟩ ⟨Nat.zero_le _, Nat.zero_le _⟩ dX9_load_40 (fun H locs hG hS => ?_)
    refine r_if_neB (tgt := 48) hx hb dX9_load_43 (by decide) (fun c_43 => ?_) (fun c_43 => ?_)
    · refine lv_aload_n hx hb dX9_load_48 rfl (lv_at hl 1 rfl) ?_
      refine gt_X9_34 X hK hG rd_999 dX9_load_49 ?_
      refine lv_iload_n hx hb dX9_load_52 rfl (lv_at hl 2 rfl) ?_
      refine r_top (y := nI (tn t9)) (ix_eq c_43.1) ?_
      refine lv_iload_n hx hb dX9_load_53 rfl (lv_at hl 3 rfl) ?_
      refine as_911 X hK hG hS hA rd_911 (i := tn t9) b2i_01 (by have := ix_lt c_43.1; omega) dX9_load_54 (fun H locs hG hS => ?_)
      refine lv_aload_n hx hb dX9_load_55 rfl (lv_at hl 1 rfl) ?_
      refine rm_callV X hK hG hS yvX9_countLoaded ml_X9_144 kX9 rfl rd_999 [] [] (c_X9_countLoaded l L (wB (m_g (ix t9 (σ.1 914 0)) (ix t9 (σ.1 914 0) ∧ (¬ P2 ∨ ¬ σ.2.2.2 911 0 (tn t9) = 0 ∨ cntZ (σ.2.2.2 911 0) (σ.1 914 0) < 6)) (True) σ) 911 0 (tn t9) (b2i (P2))) ow (hT)) rfl hl.1 rfl (Nat.le_of_ble_eq_true rfl) ⟨Nat.le_of_ble_eq_true rfl, Nat.le_of_ble_eq_true rfl⟩ ⟨Nat.zero_le _, Nat.zero_le _⟩ dX9_load_56 (fun H locs hG hS => ?_)
      exact rm_ret hx hb hr hlocks hG hS (by unfold m_load; rw [if_pos c_43] <;> rfl) (by unfold m_load; rw [if_pos c_43] <;> rfl) rfl dX9_load_59
    · refine lv_iconst (v := nI 0) hx hb dX9_load_46 (by decide) ?_
      exact rm_ret hx hb hr hlocks hG hS (by unfold m_load; rw [if_neg c_43] <;> rfl) (by unfold m_load; rw [if_neg c_43] <;> rfl) rfl dX9_load_47
  · refine lv_iload_n hx hb dX9_load_8 rfl (lv_at hl 0 rfl) ?_
    refine r_if_eqB (tgt := 38) hx hb dX9_load_9 (by decide) (fun c_9 => ?_) (fun c_9 => ?_)
    · refine lv_iconst (v := nI 0) hx hb dX9_load_38 (by decide) ?_
      exact r_top ((b2i_f (fun h => c_9 h.1)).symm) (J_39 _ _ hG hS)
    · refine lv_iload_n hx hb dX9_load_12 rfl (lv_at hl 3 rfl) ?_
      refine r_if_eqB (tgt := 34) hx hb dX9_load_13 (by decide) (fun c_13 => ?_) (fun c_13 => ?_)
      · refine lv_iconst (v := nI 1) hx hb dX9_load_34 (by decide) ?_
        refine lv_goto (tgt := 39) hx hb dX9_load_35 (by decide) ?_
        exact r_top ((b2i_t ⟨c_9, Or.inl c_13⟩).symm) (J_39 _ _ hG hS)
      · refine lv_aload_n hx hb dX9_load_16 rfl (lv_at hl 1 rfl) ?_
        refine gt_X9_34 X hK hG rd_999 dX9_load_17 ?_
        refine lv_iload_n hx hb dX9_load_20 rfl (lv_at hl 2 rfl) ?_
        refine r_top (y := nI (tn t9)) (ix_eq c_9) ?_
        refine al_911 X hK hG rd_911 (i := tn t9) (x := σ.2.2.2 911 0 (tn t9)) (by have := ix_lt c_9; omega) rfl dX9_load_21 ?_
        refine lv_if_ne (tgt := 34) hx hb dX9_load_22 (by decide) (fun c_22 => ?_) (fun c_22 => ?_)
        · refine lv_iconst (v := nI 1) hx hb dX9_load_34 (by decide) ?_
          refine lv_goto (tgt := 39) hx hb dX9_load_35 (by decide) ?_
          exact r_top ((b2i_t ⟨c_9, Or.inr (Or.inl c_22)⟩).symm) (J_39 _ _ hG hS)
        · refine lv_aload_n hx hb dX9_load_25 rfl (lv_at hl 1 rfl) ?_
          refine rm_callV X hK hG hS yvX9_countLoaded ml_X9_144 kX9 rfl rd_999 [] [.int (b2i (ix t9 (σ.1 914 0))), .ref (L 999 0)] (c_X9_countLoaded l L σ ow (hT)) rfl hl.1 rfl (Nat.le_of_ble_eq_true rfl) ⟨Nat.le_of_ble_eq_true rfl, Nat.le_of_ble_eq_true rfl⟩ ⟨Nat.zero_le _, Nat.zero_le _⟩ dX9_load_26 (fun H locs hG hS => ?_)
          refine lv_bipush (v := nI 6) hx hb dX9_load_29 (by decide) ?_
          refine r_icmp_geN (tgt := 38) hx hb dX9_load_31 (by decide) (by have := cntZ_le (σ.2.2.2 911 0) (σ.1 914 0); omega) (by decide) (fun c_31 => ?_) (fun c_31 => ?_)
          · refine lv_iconst (v := nI 0) hx hb dX9_load_38 (by decide) ?_
            exact r_top ((b2i_f (fun h => h.2.elim (fun z => z c_13) (fun z => z.elim (fun q => q c_22) (fun q => absurd q (Nat.not_lt.mpr c_31))))).symm) (J_39 _ _ hG hS)
          · refine lv_iconst (v := nI 1) hx hb dX9_load_34 (by decide) ?_
            refine lv_goto (tgt := 39) hx hb dX9_load_35 (by decide) ?_
            exact r_top ((b2i_t ⟨c_9, Or.inr (Or.inr c_31)⟩).symm) (J_39 _ _ hG hS)
def m_fil (v : Int32) (P : Nat) : Nat → St → St
  | 0, σ => σ
  | n + 1, σ => wB (wB (m_fil v P n σ) 915 0 (144 * P + n) v) 917 0 (144 * P + n) (-1)
theorem m_fil_1 (v : Int32) (P : Nat) (σ : St) : ∀ n, (m_fil v P n σ).1 = σ.1
  | 0 => rfl
  | n + 1 => m_fil_1 v P σ n
def m_pallet (v : Int32) (σ : St) : Int32 × St := if (1 ≤ v.toInt ∧ v.toInt ≤ 9) ∧ (σ.1 924 0 < 6) ∧ (True) then (nI (((σ.1 924 0) + 1) - 1), (wN (wB (m_fil v (σ.1 924 0) 144 (m_g (1 ≤ v.toInt ∧ v.toInt ≤ 9) (σ.1 924 0 < 6) True σ)) 923 0 (σ.1 924 0) (-1)) 924 0 ((σ.1 924 0) + 1))) else (nI 0, (m_g (1 ≤ v.toInt ∧ v.toInt ≤ 9) (σ.1 924 0 < 6) (True) σ))
set_option maxRecDepth 100000 in
set_option maxHeartbeats 4000000 in
theorem c_X9_pallet {D : va_G} {cI cZ cO : ClassId} (l : Launch) (L : Lay) (σ : St) (ow : Nat → Prop) (v : Int32) (hP : σ.1 924 0 ≤ 6) : RM D cI cZ cO rdom l yX9_pallet cX9_pallet 3 ((some FieldType.int)) 1 23 [.ref (L 999 0), .int v] L σ ow ((m_pallet v σ).1) ((m_pallet v σ).2) := by
  refine rm_of rfl (Nat.le_of_ble_eq_true rfl) ?_
  intro p e s m below meth c ls X hK hG hr hlocks hl
  have X : CallFix p m c cX9_pallet 3 s _ TB RX9 := X
  have hx := X.1
  have hb := X.2.1
  have hS : va_S (AA ow s.heap.size) s.heap s.heap [] := va_S.rf
  have hA : ∀ q, ow q → AA ow s.heap.size q := fun _ h => Or.inl h
  have hl : lv_has ls 3 [(0, .ref (L 999 0)), (1, .int v)] := hl
  refine lv_aload_n hx hb dX9_pallet_0 rfl (lv_at hl 0 rfl) ?_
  refine lv_iload_n hx hb dX9_pallet_1 rfl (lv_at hl 1 rfl) ?_
  refine lv_iconst (v := nI 1) hx hb dX9_pallet_2 (by decide) ?_
  refine lv_bipush (v := nI 9) hx hb dX9_pallet_3 (by decide) ?_
  refine rm_callS X hK hG hS ysX9_in ml_X9_114 [.int v, .int (nI 1), .int (nI 9)] [.ref (L 999 0)] (c_X9_in l L σ ow v (nI 1) (nI 9)) rfl hl.1 rfl (Nat.le_of_ble_eq_true rfl) ⟨Nat.le_of_ble_eq_true rfl, Nat.le_of_ble_eq_true rfl⟩ ⟨Nat.zero_le _, Nat.zero_le _⟩ dX9_pallet_5 (fun H locs hG hS => ?_)
  refine r_top (y := b2i (1 ≤ v.toInt ∧ v.toInt ≤ 9)) (b2i_c (rg_i 1 9 rfl rfl)) ?_
  refine r_cutH 22 [.int (b2i (σ.1 924 0 < 6)), .int (b2i (1 ≤ v.toInt ∧ v.toInt ≤ 9)), .ref (L 999 0)] hG hS (fun H locs hG hS => ?_) (fun J_22 => ?_)
  · refine lv_iconst (v := nI 1) hx hb dX9_pallet_22 (by decide) ?_
    refine rm_callV X hK hG hS yvX9_goes ml_X9_127 kX9 rfl rd_999 [.int (b2i (1 ≤ v.toInt ∧ v.toInt ≤ 9)), .int (b2i (σ.1 924 0 < 6)), .int (nI 1)] [] (c_X9_goes l L σ ow (1 ≤ v.toInt ∧ v.toInt ≤ 9) (σ.1 924 0 < 6) (True)) rfl hl.1 rfl (Nat.le_of_ble_eq_true rfl) ⟨Nat.le_of_ble_eq_true rfl, Nat.le_of_ble_eq_true rfl⟩ ⟨Nat.zero_le _, Nat.zero_le _⟩ dX9_pallet_23 (fun H locs hG hS => ?_)
    refine r_if_neB (tgt := 31) hx hb dX9_pallet_26 (by decide) (fun c_26 => ?_) (fun c_26 => ?_)
    · refine lv_sipush (v := nI 144) hx hb dX9_pallet_31 (by decide) ?_
      refine lv_aload_n hx hb dX9_pallet_34 rfl (lv_at hl 0 rfl) ?_
      refine gt_X9_121 X hK hG rd_999 (x := σ.1 924 0) rfl dX9_pallet_35 ?_
      refine r_mulN hx hb dX9_pallet_38 ?_
      refine lv_istore_n (lv' := [(2, .int (nI (144 * (σ.1 924 0)))), (0, .ref (L 999 0)), (1, .int v)]) hx hb dX9_pallet_39 rfl hl (by decide) rfl (fun ls hl => ?_)
      refine r_loop (ι := Nat) (fun (n9 : Nat) => [(0, .ref (L 999 0)), (1, .int v), (2, .int (nI (144 * σ.1 924 0 + n9)))]) (fun (n9 : Nat) => (m_fil v (σ.1 924 0) n9 (m_g (1 ≤ v.toInt ∧ v.toInt ≤ 9) (σ.1 924 0 < 6) True σ))) (fun (n9 : Nat) => 144 - n9) (fun (n9 : Nat) => n9 ≤ 144) 0 (Nat.zero_le _) hG hS (lv_sub hl [1, 2, 0] rfl) ?_
      rintro n9 hinv ih H locs ls hG hS hl
      have hG : PW D cI cZ cO rdom L (m_fil v (σ.1 924 0) n9 (m_g (1 ≤ v.toInt ∧ v.toInt ≤ 9) (σ.1 924 0 < 6) True σ)) ow H := hG
      have hl : lv_has ls 3 [(0, .ref (L 999 0)), (1, .int v), (2, .int (nI (144 * σ.1 924 0 + n9)))] := hl
      obtain hk := hinv
      refine lv_iload_n hx hb dX9_pallet_40 rfl (lv_at hl 2 rfl) ?_
      refine lv_sipush (v := nI 144) hx hb dX9_pallet_41 (by decide) ?_
      refine lv_aload_n hx hb dX9_pallet_44 rfl (lv_at hl 0 rfl) ?_
      refine gt_X9_121 X hK hG rd_999 (x := σ.1 924 0) ((show (m_fil v (σ.1 924 0) n9 (m_g (1 ≤ v.toInt ∧ v.toInt ≤ 9) (σ.1 924 0 < 6) True σ)).1 924 0 = _ from by rw [m_fil_1] <;> rfl).trans rfl) dX9_pallet_45 ?_
      refine r_mulN hx hb dX9_pallet_48 ?_
      refine lv_sipush (v := nI 144) hx hb dX9_pallet_49 (by decide) ?_
      refine r_addN hx hb dX9_pallet_52 ?_
      refine r_icmp_geN (tgt := 76) hx hb dX9_pallet_53 (by decide) (by omega) (by omega) (fun c_53 => ?_) (fun c_53 => ?_)
      · refine lv_aload_n hx hb dX9_pallet_76 rfl (lv_at hl 0 rfl) ?_
        refine gt_X9_68 X hK hG rd_999 dX9_pallet_77 ?_
        refine lv_aload_n hx hb dX9_pallet_80 rfl (lv_at hl 0 rfl) ?_
        refine gt_X9_121 X hK hG rd_999 (x := σ.1 924 0) ((show (m_fil v (σ.1 924 0) n9 (m_g (1 ≤ v.toInt ∧ v.toInt ≤ 9) (σ.1 924 0 < 6) True σ)).1 924 0 = _ from by rw [m_fil_1] <;> rfl).trans rfl) dX9_pallet_81 ?_
        refine lv_iconst (v := (-1)) hx hb dX9_pallet_84 (by decide) ?_
        refine as_923 X hK hG hS hA rd_923 (i := σ.1 924 0) (c_26.2.1) dX9_pallet_85 (fun H locs hG hS => ?_)
        refine lv_aload_n hx hb dX9_pallet_86 rfl (lv_at hl 0 rfl) ?_
        refine lv_dup hx hb dX9_pallet_87 rfl ?_
        refine gt_X9_121 X hK hG rd_999 (x := σ.1 924 0) ((show (m_fil v (σ.1 924 0) n9 (m_g (1 ≤ v.toInt ∧ v.toInt ≤ 9) (σ.1 924 0 < 6) True σ)).1 924 0 = _ from by rw [m_fil_1] <;> rfl).trans rfl) dX9_pallet_88 ?_
        refine lv_iconst (v := nI 1) hx hb dX9_pallet_91 (by decide) ?_
        refine r_addN hx hb dX9_pallet_92 ?_
        refine pt_X9_121 X hK hG hS hA rd_999 dX9_pallet_93 (fun H locs hG hS => ?_)
        refine lv_aload_n hx hb dX9_pallet_96 rfl (lv_at hl 0 rfl) ?_
        refine gt_X9_121 X hK hG rd_999 (x := (σ.1 924 0) + 1) rfl dX9_pallet_97 ?_
        refine lv_iconst (v := nI 1) hx hb dX9_pallet_100 (by decide) ?_
        refine r_subN hx hb (Nat.le_add_left 1 _) dX9_pallet_101 ?_
        exact rm_ret hx hb hr hlocks hG hS (by unfold m_pallet; rw [if_pos c_26]) (by unfold m_pallet; rw [if_pos c_26, show n9 = 144 by omega]) rfl dX9_pallet_102
      · refine lv_aload_n hx hb dX9_pallet_56 rfl (lv_at hl 0 rfl) ?_
        refine gt_X9_44 X hK hG rd_999 dX9_pallet_57 ?_
        refine lv_iload_n hx hb dX9_pallet_60 rfl (lv_at hl 2 rfl) ?_
        refine lv_iload_n hx hb dX9_pallet_61 rfl (lv_at hl 1 rfl) ?_
        refine as_915 X hK hG hS hA rd_915 (i := 144 * σ.1 924 0 + n9) (by have := c_26.2.1; omega) dX9_pallet_62 (fun H locs hG hS => ?_)
        refine lv_aload_n hx hb dX9_pallet_63 rfl (lv_at hl 0 rfl) ?_
        refine gt_X9_50 X hK hG rd_999 dX9_pallet_64 ?_
        refine lv_iload_n hx hb dX9_pallet_67 rfl (lv_at hl 2 rfl) ?_
        refine lv_iconst (v := (-1)) hx hb dX9_pallet_68 (by decide) ?_
        refine as_917 X hK hG hS hA rd_917 (i := 144 * σ.1 924 0 + n9) (by have := c_26.2.1; omega) dX9_pallet_69 (fun H locs hG hS => ?_)
        refine r_iincN (b := 1) (lv' := [(2, .int (nI ((144 * σ.1 924 0 + n9) + 1))), (0, .ref (L 999 0)), (1, .int v)]) hx hb dX9_pallet_70 hl (k := 2) rfl (by decide) (by decide) rfl (fun ls hl => ?_)
        refine lv_goto (tgt := 40) hx hb dX9_pallet_73 (by decide) ?_
        exact ih (n9 + 1) (by omega) (by show n9 + 1 ≤ 144; omega) H locs ls hG hS (lv_sub hl [1, 2, 0] rfl)
    · refine lv_iconst (v := nI 0) hx hb dX9_pallet_29 (by decide) ?_
      exact rm_ret hx hb hr hlocks hG hS (by unfold m_pallet; rw [if_neg c_26]) (by unfold m_pallet; rw [if_neg c_26]) rfl dX9_pallet_30
  · refine lv_aload_n hx hb dX9_pallet_8 rfl (lv_at hl 0 rfl) ?_
    refine gt_X9_121 X hK hG rd_999 (x := σ.1 924 0) rfl dX9_pallet_9 ?_
    refine lv_bipush (v := nI 6) hx hb dX9_pallet_12 (by decide) ?_
    refine r_icmp_geN (tgt := 21) hx hb dX9_pallet_14 (by decide) (by omega) (by omega) (fun c_14 => ?_) (fun c_14 => ?_)
    · refine lv_iconst (v := nI 0) hx hb dX9_pallet_21 (by decide) ?_
      exact r_top ((b2i_f (fun h => by have h9 := h; first | exact c_14 h9 | exact h9 c_14 | omega)).symm) (J_22 _ _ hG hS)
    · refine lv_iconst (v := nI 1) hx hb dX9_pallet_17 (by decide) ?_
      refine lv_goto (tgt := 22) hx hb dX9_pallet_18 (by decide) ?_
      exact r_top ((b2i_t (by first | exact c_14 | omega)).symm) (J_22 _ _ hG hS)
def m_clamp (p9 x y v : Int32) (σ : St) : Int32 × St := if (ix p9 (σ.1 924 0) ∧ (ix x 12 ∧ ix y 12)) ∧ (1 ≤ v.toInt ∧ v.toInt ≤ 9) ∧ ((ix p9 (σ.1 924 0) ∧ (ix x 12 ∧ ix y 12)) ∧ σ.2.2.2 920 0 (tn p9) = 0 ∧ σ.2.2.2 916 0 (if ¬ (ix p9 (σ.1 924 0) ∧ (ix x 12 ∧ ix y 12)) then 0 else 144 * tn p9 + 12 * tn y + tn x) = 0 ∧ σ.2.2.1 919 0 (tn p9) < 3) then (nI ((σ.2.2.1 919 0 (tn p9)) + 1), (wA (wB (m_g (ix p9 (σ.1 924 0) ∧ (ix x 12 ∧ ix y 12)) (1 ≤ v.toInt ∧ v.toInt ≤ 9) ((ix p9 (σ.1 924 0) ∧ (ix x 12 ∧ ix y 12)) ∧ σ.2.2.2 920 0 (tn p9) = 0 ∧ σ.2.2.2 916 0 (if ¬ (ix p9 (σ.1 924 0) ∧ (ix x 12 ∧ ix y 12)) then 0 else 144 * tn p9 + 12 * tn y + tn x) = 0 ∧ σ.2.2.1 919 0 (tn p9) < 3) σ) 916 0 (if ¬ (ix p9 (σ.1 924 0) ∧ (ix x 12 ∧ ix y 12)) then 0 else 144 * tn p9 + 12 * tn y + tn x) v) 919 0 (tn p9) ((σ.2.2.1 919 0 (tn p9)) + 1))) else (nI 0, (m_g (ix p9 (σ.1 924 0) ∧ (ix x 12 ∧ ix y 12)) (1 ≤ v.toInt ∧ v.toInt ≤ 9) ((ix p9 (σ.1 924 0) ∧ (ix x 12 ∧ ix y 12)) ∧ σ.2.2.2 920 0 (tn p9) = 0 ∧ σ.2.2.2 916 0 (if ¬ (ix p9 (σ.1 924 0) ∧ (ix x 12 ∧ ix y 12)) then 0 else 144 * tn p9 + 12 * tn y + tn x) = 0 ∧ σ.2.2.1 919 0 (tn p9) < 3) σ))
set_option maxRecDepth 100000 in
set_option maxHeartbeats 4000000 in
theorem c_X9_clamp {D : va_G} {cI cZ cO : ClassId} (l : Launch) (L : Lay) (σ : St) (ow : Nat → Prop) (p9 x y v : Int32) (hP : σ.1 924 0 ≤ 6) (hc : ∀ k, σ.2.2.1 919 0 k ≤ 3) : RM D cI cZ cO rdom l yX9_clamp cX9_clamp 8 ((some FieldType.int)) 2 43 [.ref (L 999 0), .int p9, .int x, .int y, .int v] L σ ow ((m_clamp p9 x y v σ).1) ((m_clamp p9 x y v σ).2) := by
  refine rm_of rfl (Nat.le_of_ble_eq_true rfl) ?_
  intro p e s m below meth c ls X hK hG hr hlocks hl
  have X : CallFix p m c cX9_clamp 8 s _ TB RX9 := X
  have hx := X.1
  have hb := X.2.1
  have hS : va_S (AA ow s.heap.size) s.heap s.heap [] := va_S.rf
  have hA : ∀ q, ow q → AA ow s.heap.size q := fun _ h => Or.inl h
  have hl : lv_has ls 8 [(0, .ref (L 999 0)), (1, .int p9), (2, .int x), (3, .int y), (4, .int v)] := hl
  refine r_cutH 21 [.int (b2i (ix p9 (σ.1 924 0) ∧ (ix x 12 ∧ ix y 12)))] hG hS (fun H locs hG hS => ?_) (fun J_21 => ?_)
  · refine lv_istore (lv' := [(5, .int (b2i (ix p9 (σ.1 924 0) ∧ (ix x 12 ∧ ix y 12)))), (0, .ref (L 999 0)), (1, .int p9), (2, .int x), (3, .int y), (4, .int v)]) hx hb dX9_clamp_21 hl (by decide) rfl (fun ls hl => ?_)
    refine r_cutH 44 [.int (nI (if ¬ (ix p9 (σ.1 924 0) ∧ (ix x 12 ∧ ix y 12)) then 0 else 144 * tn p9 + 12 * tn y + tn x))] hG hS (fun H locs hG hS => ?_) (fun J_44 => ?_)
    · refine lv_istore (lv' := [(6, .int (nI (if ¬ (ix p9 (σ.1 924 0) ∧ (ix x 12 ∧ ix y 12)) then 0 else 144 * tn p9 + 12 * tn y + tn x))), (5, .int (b2i (ix p9 (σ.1 924 0) ∧ (ix x 12 ∧ ix y 12)))), (0, .ref (L 999 0)), (1, .int p9), (2, .int x), (3, .int y), (4, .int v)]) hx hb dX9_clamp_44 hl (by decide) rfl (fun ls hl => ?_)
      refine r_cutH 85 [.int (b2i ((ix p9 (σ.1 924 0) ∧ (ix x 12 ∧ ix y 12)) ∧ σ.2.2.2 920 0 (tn p9) = 0 ∧ σ.2.2.2 916 0 (if ¬ (ix p9 (σ.1 924 0) ∧ (ix x 12 ∧ ix y 12)) then 0 else 144 * tn p9 + 12 * tn y + tn x) = 0 ∧ σ.2.2.1 919 0 (tn p9) < 3))] hG hS (fun H locs hG hS => ?_) (fun J_85 => ?_)
      · refine lv_istore (lv' := [(7, .int (b2i ((ix p9 (σ.1 924 0) ∧ (ix x 12 ∧ ix y 12)) ∧ σ.2.2.2 920 0 (tn p9) = 0 ∧ σ.2.2.2 916 0 (if ¬ (ix p9 (σ.1 924 0) ∧ (ix x 12 ∧ ix y 12)) then 0 else 144 * tn p9 + 12 * tn y + tn x) = 0 ∧ σ.2.2.1 919 0 (tn p9) < 3))), (6, .int (nI (if ¬ (ix p9 (σ.1 924 0) ∧ (ix x 12 ∧ ix y 12)) then 0 else 144 * tn p9 + 12 * tn y + tn x))), (5, .int (b2i (ix p9 (σ.1 924 0) ∧ (ix x 12 ∧ ix y 12)))), (0, .ref (L 999 0)), (1, .int p9), (2, .int x), (3, .int y), (4, .int v)]) hx hb dX9_clamp_85 hl (by decide) rfl (fun ls hl => ?_)
        refine lv_aload_n hx hb dX9_clamp_87 rfl (lv_at hl 3 rfl) ?_
        refine lv_iload hx hb dX9_clamp_88 (lv_at hl 2 rfl) ?_
        refine lv_iload hx hb dX9_clamp_90 (lv_at hl 7 rfl) ?_
        refine lv_iconst (v := nI 1) hx hb dX9_clamp_92 (by decide) ?_
        refine lv_bipush (v := nI 9) hx hb dX9_clamp_93 (by decide) ?_
        refine rm_callS X hK hG hS ysX9_in ml_X9_114 [.int v, .int (nI 1), .int (nI 9)] [.int (b2i (ix p9 (σ.1 924 0) ∧ (ix x 12 ∧ ix y 12))), .ref (L 999 0)] (c_X9_in l L σ ow v (nI 1) (nI 9)) rfl hl.1 rfl (Nat.le_of_ble_eq_true rfl) ⟨Nat.le_of_ble_eq_true rfl, Nat.le_of_ble_eq_true rfl⟩ ⟨Nat.zero_le _, Nat.zero_le _⟩ dX9_clamp_95 (fun H locs hG hS => ?_)
        refine r_top (y := b2i (1 ≤ v.toInt ∧ v.toInt ≤ 9)) (b2i_c (rg_i 1 9 rfl rfl)) ?_
        refine lv_iload hx hb dX9_clamp_98 (lv_at hl 0 rfl) ?_
        refine rm_callV X hK hG hS yvX9_goes ml_X9_127 kX9 rfl rd_999 [.int (b2i (ix p9 (σ.1 924 0) ∧ (ix x 12 ∧ ix y 12))), .int (b2i (1 ≤ v.toInt ∧ v.toInt ≤ 9)), .int (b2i ((ix p9 (σ.1 924 0) ∧ (ix x 12 ∧ ix y 12)) ∧ σ.2.2.2 920 0 (tn p9) = 0 ∧ σ.2.2.2 916 0 (if ¬ (ix p9 (σ.1 924 0) ∧ (ix x 12 ∧ ix y 12)) then 0 else 144 * tn p9 + 12 * tn y + tn x) = 0 ∧ σ.2.2.1 919 0 (tn p9) < 3))] [] (c_X9_goes l L σ ow (ix p9 (σ.1 924 0) ∧ (ix x 12 ∧ ix y 12)) (1 ≤ v.toInt ∧ v.toInt ≤ 9) ((ix p9 (σ.1 924 0) ∧ (ix x 12 ∧ ix y 12)) ∧ σ.2.2.2 920 0 (tn p9) = 0 ∧ σ.2.2.2 916 0 (if ¬ (ix p9 (σ.1 924 0) ∧ (ix x 12 ∧ ix y 12)) then 0 else 144 * tn p9 + 12 * tn y + tn x) = 0 ∧ σ.2.2.1 919 0 (tn p9) < 3)) rfl hl.1 rfl (Nat.le_of_ble_eq_true rfl) ⟨Nat.le_of_ble_eq_true rfl, Nat.le_of_ble_eq_true rfl⟩ ⟨Nat.zero_le _, Nat.zero_le _⟩ dX9_clamp_100 (fun H locs hG hS => ?_)
        refine r_if_neB (tgt := 108) hx hb dX9_clamp_103 (by decide) (fun c_103 => ?_) (fun c_103 => ?_)
        · refine lv_aload_n hx hb dX9_clamp_108 rfl (lv_at hl 3 rfl) ?_
          refine gt_X9_47 X hK hG rd_999 dX9_clamp_109 ?_
          refine lv_iload hx hb dX9_clamp_112 (lv_at hl 1 rfl) ?_
          refine lv_iload hx hb dX9_clamp_114 (lv_at hl 7 rfl) ?_
          refine as_916 X hK hG hS hA rd_916 (i := (if ¬ (ix p9 (σ.1 924 0) ∧ (ix x 12 ∧ ix y 12)) then 0 else 144 * tn p9 + 12 * tn y + tn x)) (by rw [if_neg (not_not_intro9 c_103.1)]; have h1 := ix_lt c_103.1.1; have h2 := ix_lt c_103.1.2.1; have h3 := ix_lt c_103.1.2.2; omega) dX9_clamp_116 (fun H locs hG hS => ?_)
          refine lv_aload_n hx hb dX9_clamp_117 rfl (lv_at hl 3 rfl) ?_
          refine gt_X9_56 X hK hG rd_999 dX9_clamp_118 ?_
          refine lv_iload_n hx hb dX9_clamp_121 rfl (lv_at hl 4 rfl) ?_
          refine r_top (y := nI (tn p9)) (ix_eq c_103.1.1) ?_
          refine lv_dup2_11 hx hb dX9_clamp_122 rfl rfl ?_
          refine al_919 X hK hG rd_919 (i := tn p9) (x := σ.2.2.1 919 0 (tn p9)) (by have := ix_lt c_103.1.1; omega) rfl dX9_clamp_123 ?_
          refine lv_iconst (v := nI 1) hx hb dX9_clamp_124 (by decide) ?_
          refine r_addN hx hb dX9_clamp_125 ?_
          refine as_919 X hK hG hS hA rd_919 (i := tn p9) (by have := ix_lt c_103.1.1; omega) dX9_clamp_126 (fun H locs hG hS => ?_)
          refine lv_aload_n hx hb dX9_clamp_127 rfl (lv_at hl 3 rfl) ?_
          refine gt_X9_56 X hK hG rd_999 dX9_clamp_128 ?_
          refine lv_iload_n hx hb dX9_clamp_131 rfl (lv_at hl 4 rfl) ?_
          refine r_top (y := nI (tn p9)) (ix_eq c_103.1.1) ?_
          refine al_919 X hK hG rd_919 (i := tn p9) (x := (σ.2.2.1 919 0 (tn p9)) + 1) (by have := ix_lt c_103.1.1; omega) (by simp [wN, wI, wA, wB, up3, up2, up1]) dX9_clamp_132 ?_
          exact rm_ret hx hb hr hlocks hG hS (by unfold m_clamp; rw [if_pos c_103] <;> rfl) (by unfold m_clamp; rw [if_pos c_103] <;> rfl) rfl dX9_clamp_133
        · refine lv_iconst (v := nI 0) hx hb dX9_clamp_106 (by decide) ?_
          exact rm_ret hx hb hr hlocks hG hS (by unfold m_clamp; rw [if_neg c_103] <;> rfl) (by unfold m_clamp; rw [if_neg c_103] <;> rfl) rfl dX9_clamp_107
      · refine lv_iload hx hb dX9_clamp_46 (lv_at hl 1 rfl) ?_
        refine r_if_eqB (tgt := 84) hx hb dX9_clamp_48 (by decide) (fun c_48 => ?_) (fun c_48 => ?_)
        · refine lv_iconst (v := nI 0) hx hb dX9_clamp_84 (by decide) ?_
          exact r_top ((b2i_f (fun h => by have h9 := h.1; first | exact c_48 h9 | exact h9 c_48 | omega)).symm) (J_85 _ _ hG hS)
        · refine lv_aload_n hx hb dX9_clamp_51 rfl (lv_at hl 2 rfl) ?_
          refine gt_X9_59 X hK hG rd_999 dX9_clamp_52 ?_
          refine lv_iload_n hx hb dX9_clamp_55 rfl (lv_at hl 3 rfl) ?_
          refine r_top (y := nI (tn p9)) (ix_eq c_48.1) ?_
          refine al_920 X hK hG rd_920 (i := tn p9) (x := σ.2.2.2 920 0 (tn p9)) (by have := ix_lt c_48.1; omega) rfl dX9_clamp_56 ?_
          refine lv_if_ne (tgt := 84) hx hb dX9_clamp_57 (by decide) (fun c_57 => ?_) (fun c_57 => ?_)
          · refine lv_iconst (v := nI 0) hx hb dX9_clamp_84 (by decide) ?_
            exact r_top ((b2i_f (fun h => by have h9 := h.2.1; first | exact c_57 h9 | exact h9 c_57 | omega)).symm) (J_85 _ _ hG hS)
          · refine lv_aload_n hx hb dX9_clamp_60 rfl (lv_at hl 2 rfl) ?_
            refine gt_X9_47 X hK hG rd_999 dX9_clamp_61 ?_
            refine lv_iload hx hb dX9_clamp_64 (lv_at hl 0 rfl) ?_
            refine al_916 X hK hG rd_916 (i := (if ¬ (ix p9 (σ.1 924 0) ∧ (ix x 12 ∧ ix y 12)) then 0 else 144 * tn p9 + 12 * tn y + tn x)) (x := σ.2.2.2 916 0 (if ¬ (ix p9 (σ.1 924 0) ∧ (ix x 12 ∧ ix y 12)) then 0 else 144 * tn p9 + 12 * tn y + tn x)) (by rw [if_neg (not_not_intro9 c_48)]; have h1 := ix_lt c_48.1; have h2 := ix_lt c_48.2.1; have h3 := ix_lt c_48.2.2; omega) rfl dX9_clamp_66 ?_
            refine lv_if_ne (tgt := 84) hx hb dX9_clamp_67 (by decide) (fun c_67 => ?_) (fun c_67 => ?_)
            · refine lv_iconst (v := nI 0) hx hb dX9_clamp_84 (by decide) ?_
              exact r_top ((b2i_f (fun h => by have h9 := h.2.2.1; first | exact c_67 h9 | exact h9 c_67 | omega)).symm) (J_85 _ _ hG hS)
            · refine lv_aload_n hx hb dX9_clamp_70 rfl (lv_at hl 2 rfl) ?_
              refine gt_X9_56 X hK hG rd_999 dX9_clamp_71 ?_
              refine lv_iload_n hx hb dX9_clamp_74 rfl (lv_at hl 3 rfl) ?_
              refine r_top (y := nI (tn p9)) (ix_eq c_48.1) ?_
              refine al_919 X hK hG rd_919 (i := tn p9) (x := σ.2.2.1 919 0 (tn p9)) (by have := ix_lt c_48.1; omega) rfl dX9_clamp_75 ?_
              refine lv_iconst (v := nI 3) hx hb dX9_clamp_76 (by decide) ?_
              refine r_icmp_geN (tgt := 84) hx hb dX9_clamp_77 (by decide) (by have := hc (tn p9); omega) (by decide) (fun c_77 => ?_) (fun c_77 => ?_)
              · refine lv_iconst (v := nI 0) hx hb dX9_clamp_84 (by decide) ?_
                exact r_top ((b2i_f (fun h => by have h9 := h.2.2.2; first | exact c_77 h9 | exact h9 c_77 | omega)).symm) (J_85 _ _ hG hS)
              · refine lv_iconst (v := nI 1) hx hb dX9_clamp_80 (by decide) ?_
                refine lv_goto (tgt := 85) hx hb dX9_clamp_81 (by decide) ?_
                exact r_top ((b2i_t (by refine ⟨?_, ?_, ?_, ?_⟩ <;> first | assumption | omega)).symm) (J_85 _ _ hG hS)
    · refine lv_iload hx hb dX9_clamp_23 (lv_at hl 0 rfl) ?_
      refine r_if_eqB (tgt := 43) hx hb dX9_clamp_25 (by decide) (fun c_25 => ?_) (fun c_25 => ?_)
      · refine lv_iconst (v := nI 0) hx hb dX9_clamp_43 (by decide) ?_
        exact r_top (by rw [if_pos c_25]) (J_44 _ _ hG hS)
      · refine lv_sipush (v := nI 144) hx hb dX9_clamp_28 (by decide) ?_
        refine lv_iload_n hx hb dX9_clamp_31 rfl (lv_at hl 2 rfl) ?_
        refine r_top (y := nI (tn p9)) (ix_eq c_25.1) ?_
        refine r_mulN hx hb dX9_clamp_32 ?_
        refine lv_bipush (v := nI 12) hx hb dX9_clamp_33 (by decide) ?_
        refine lv_iload_n hx hb dX9_clamp_35 rfl (lv_at hl 4 rfl) ?_
        refine r_top (y := nI (tn y)) (ix_eq c_25.2.2) ?_
        refine r_mulN hx hb dX9_clamp_36 ?_
        refine r_addN hx hb dX9_clamp_37 ?_
        refine lv_iload_n hx hb dX9_clamp_38 rfl (lv_at hl 3 rfl) ?_
        refine r_top (y := nI (tn x)) (ix_eq c_25.2.1) ?_
        refine r_addN hx hb dX9_clamp_39 ?_
        refine lv_goto (tgt := 44) hx hb dX9_clamp_40 (by decide) ?_
        exact r_top (by rw [if_neg (not_not_intro9 c_25)]) (J_44 _ _ hG hS)
  · refine lv_aload_n hx hb dX9_clamp_0 rfl (lv_at hl 0 rfl) ?_
    refine lv_iload_n hx hb dX9_clamp_1 rfl (lv_at hl 1 rfl) ?_
    refine rm_callV X hK hG hS yvX9_isPallet ml_X9_148 kX9 rfl rd_999 [.int p9] [] (c_X9_isPallet l L σ ow p9 (by omega)) rfl hl.1 rfl (Nat.le_of_ble_eq_true rfl) ⟨Nat.le_of_ble_eq_true rfl, Nat.le_of_ble_eq_true rfl⟩ ⟨Nat.zero_le _, Nat.zero_le _⟩ dX9_clamp_2 (fun H locs hG hS => ?_)
    refine r_if_eqB (tgt := 20) hx hb dX9_clamp_5 (by decide) (fun c_5 => ?_) (fun c_5 => ?_)
    · refine lv_iconst (v := nI 0) hx hb dX9_clamp_20 (by decide) ?_
      exact r_top ((b2i_f (fun h => by have h9 := h.1; first | exact c_5 h9 | exact h9 c_5 | omega)).symm) (J_21 _ _ hG hS)
    · refine lv_iload_n hx hb dX9_clamp_8 rfl (lv_at hl 2 rfl) ?_
      refine lv_iload_n hx hb dX9_clamp_9 rfl (lv_at hl 3 rfl) ?_
      refine rm_callS X hK hG hS ysX9_isCell ml_X9_151 [.int x, .int y] [] (c_X9_isCell l L σ ow x y) rfl hl.1 rfl (Nat.le_of_ble_eq_true rfl) ⟨Nat.le_of_ble_eq_true rfl, Nat.le_of_ble_eq_true rfl⟩ ⟨Nat.zero_le _, Nat.zero_le _⟩ dX9_clamp_10 (fun H locs hG hS => ?_)
      refine r_if_eqB (tgt := 20) hx hb dX9_clamp_13 (by decide) (fun c_13 => ?_) (fun c_13 => ?_)
      · refine lv_iconst (v := nI 0) hx hb dX9_clamp_20 (by decide) ?_
        exact r_top ((b2i_f (fun h => by have h9 := h.2; first | exact c_13 h9 | exact h9 c_13 | omega)).symm) (J_21 _ _ hG hS)
      · refine lv_iconst (v := nI 1) hx hb dX9_clamp_16 (by decide) ?_
        refine lv_goto (tgt := 21) hx hb dX9_clamp_17 (by decide) ?_
        exact r_top ((b2i_t (by refine ⟨?_, ?_⟩ <;> first | assumption | omega)).symm) (J_21 _ _ hG hS)
def m_idle (v : Int32) (σ : St) : Int32 × St := if (1 ≤ v.toInt ∧ v.toInt ≤ 500) ∧ ((1 ≤ v.toInt ∧ v.toInt ≤ 500) ∧ σ.1 900 0 + tn v ≤ 1000000) ∧ (True) then (nI ((σ.1 900 0) + (tn v)), (wN (wN (m_g (1 ≤ v.toInt ∧ v.toInt ≤ 500) ((1 ≤ v.toInt ∧ v.toInt ≤ 500) ∧ σ.1 900 0 + tn v ≤ 1000000) (True) σ) 900 0 ((σ.1 900 0) + (tn v))) 901 0 (if σ.1 901 0 ≤ tn v then 0 else σ.1 901 0 - tn v))) else (nI 0, (m_g (1 ≤ v.toInt ∧ v.toInt ≤ 500) ((1 ≤ v.toInt ∧ v.toInt ≤ 500) ∧ σ.1 900 0 + tn v ≤ 1000000) (True) σ))
set_option maxRecDepth 100000 in
set_option maxHeartbeats 4000000 in
theorem c_X9_idle {D : va_G} {cI cZ cO : ClassId} (l : Launch) (L : Lay) (σ : St) (ow : Nat → Prop) (v : Int32) (hm : σ.1 900 0 ≤ 1100000) (hw : σ.1 901 0 ≤ 99) : RM D cI cZ cO rdom l yX9_idle cX9_idle 3 ((some FieldType.int)) 1 23 [.ref (L 999 0), .int v] L σ ow ((m_idle v σ).1) ((m_idle v σ).2) := by
  refine rm_of rfl (Nat.le_of_ble_eq_true rfl) ?_
  intro p e s m below meth c ls X hK hG hr hlocks hl
  have X : CallFix p m c cX9_idle 3 s _ TB RX9 := X
  have hx := X.1
  have hb := X.2.1
  have hS : va_S (AA ow s.heap.size) s.heap s.heap [] := va_S.rf
  have hA : ∀ q, ow q → AA ow s.heap.size q := fun _ h => Or.inl h
  have hl : lv_has ls 3 [(0, .ref (L 999 0)), (1, .int v)] := hl
  refine lv_iload_n hx hb dX9_idle_0 rfl (lv_at hl 1 rfl) ?_
  refine lv_iconst (v := nI 1) hx hb dX9_idle_1 (by decide) ?_
  refine lv_sipush (v := nI 500) hx hb dX9_idle_2 (by decide) ?_
  refine rm_callS X hK hG hS ysX9_in ml_X9_114 [.int v, .int (nI 1), .int (nI 500)] [] (c_X9_in l L σ ow v (nI 1) (nI 500)) rfl hl.1 rfl (Nat.le_of_ble_eq_true rfl) ⟨Nat.le_of_ble_eq_true rfl, Nat.le_of_ble_eq_true rfl⟩ ⟨Nat.zero_le _, Nat.zero_le _⟩ dX9_idle_5 (fun H locs hG hS => ?_)
  refine r_top (y := b2i (1 ≤ v.toInt ∧ v.toInt ≤ 500)) (b2i_c (rg_i 1 500 rfl rfl)) ?_
  refine lv_istore_n (lv' := [(2, .int (b2i (1 ≤ v.toInt ∧ v.toInt ≤ 500))), (0, .ref (L 999 0)), (1, .int v)]) hx hb dX9_idle_8 rfl hl (by decide) rfl (fun ls hl => ?_)
  refine lv_aload_n hx hb dX9_idle_9 rfl (lv_at hl 1 rfl) ?_
  refine lv_iload_n hx hb dX9_idle_10 rfl (lv_at hl 0 rfl) ?_
  refine r_cutH 31 [.int (b2i ((1 ≤ v.toInt ∧ v.toInt ≤ 500) ∧ σ.1 900 0 + tn v ≤ 1000000)), .int (b2i (1 ≤ v.toInt ∧ v.toInt ≤ 500)), .ref (L 999 0)] hG hS (fun H locs hG hS => ?_) (fun J_31 => ?_)
  · refine lv_iconst (v := nI 1) hx hb dX9_idle_31 (by decide) ?_
    refine rm_callV X hK hG hS yvX9_goes ml_X9_127 kX9 rfl rd_999 [.int (b2i (1 ≤ v.toInt ∧ v.toInt ≤ 500)), .int (b2i ((1 ≤ v.toInt ∧ v.toInt ≤ 500) ∧ σ.1 900 0 + tn v ≤ 1000000)), .int (nI 1)] [] (c_X9_goes l L σ ow (1 ≤ v.toInt ∧ v.toInt ≤ 500) ((1 ≤ v.toInt ∧ v.toInt ≤ 500) ∧ σ.1 900 0 + tn v ≤ 1000000) (True)) rfl hl.1 rfl (Nat.le_of_ble_eq_true rfl) ⟨Nat.le_of_ble_eq_true rfl, Nat.le_of_ble_eq_true rfl⟩ ⟨Nat.zero_le _, Nat.zero_le _⟩ dX9_idle_32 (fun H locs hG hS => ?_)
    refine r_if_neB (tgt := 40) hx hb dX9_idle_35 (by decide) (fun c_35 => ?_) (fun c_35 => ?_)
    · refine lv_aload_n hx hb dX9_idle_40 rfl (lv_at hl 1 rfl) ?_
      refine lv_dup hx hb dX9_idle_41 rfl ?_
      refine gt_X9_158 X hK hG rd_999 (x := σ.1 900 0) rfl dX9_idle_42 ?_
      refine lv_iload_n hx hb dX9_idle_45 rfl (lv_at hl 2 rfl) ?_
      refine r_top (y := nI (tn v)) (ix_eq (n := 501) (by have := c_35.1; exact ⟨by omega, by omega⟩)) ?_
      refine r_addN hx hb dX9_idle_46 ?_
      refine pt_X9_158 X hK hG hS hA rd_999 dX9_idle_47 (fun H locs hG hS => ?_)
      refine lv_aload_n hx hb dX9_idle_50 rfl (lv_at hl 1 rfl) ?_
      refine r_cutH 69 [.int (nI (if σ.1 901 0 ≤ tn v then 0 else σ.1 901 0 - tn v)), .ref (L 999 0)] hG hS (fun H locs hG hS => ?_) (fun J_69 => ?_)
      · refine pt_X9_155 X hK hG hS hA rd_999 dX9_idle_69 (fun H locs hG hS => ?_)
        refine lv_aload_n hx hb dX9_idle_72 rfl (lv_at hl 1 rfl) ?_
        refine gt_X9_158 X hK hG rd_999 (x := (σ.1 900 0) + (tn v)) rfl dX9_idle_73 ?_
        exact rm_ret hx hb hr hlocks hG hS (by unfold m_idle; rw [if_pos c_35] <;> rfl) (by unfold m_idle; rw [if_pos c_35] <;> rfl) rfl dX9_idle_76
      · refine lv_aload_n hx hb dX9_idle_51 rfl (lv_at hl 1 rfl) ?_
        refine gt_X9_155 X hK hG rd_999 (x := σ.1 901 0) rfl dX9_idle_52 ?_
        refine lv_iload_n hx hb dX9_idle_55 rfl (lv_at hl 2 rfl) ?_
        refine r_top (y := nI (tn v)) (ix_eq (n := 501) (by have := c_35.1; exact ⟨by omega, by omega⟩)) ?_
        refine r_icmp_leN (tgt := 68) hx hb dX9_idle_56 (by decide) (by omega) (by have := c_35.1.2; unfold tn; omega) (fun c_56 => ?_) (fun c_56 => ?_)
        · refine lv_iconst (v := nI 0) hx hb dX9_idle_68 (by decide) ?_
          exact r_top (by rw [if_pos c_56]) (J_69 _ _ hG hS)
        · refine lv_aload_n hx hb dX9_idle_59 rfl (lv_at hl 1 rfl) ?_
          refine gt_X9_155 X hK hG rd_999 (x := σ.1 901 0) rfl dX9_idle_60 ?_
          refine lv_iload_n hx hb dX9_idle_63 rfl (lv_at hl 2 rfl) ?_
          refine r_top (y := nI (tn v)) (ix_eq (n := 501) (by have := c_35.1; exact ⟨by omega, by omega⟩)) ?_
          refine r_subN hx hb (Nat.le_of_lt c_56) dX9_idle_64 ?_
          refine lv_goto (tgt := 69) hx hb dX9_idle_65 (by decide) ?_
          exact r_top (by rw [if_neg (Nat.not_le.mpr c_56)]) (J_69 _ _ hG hS)
    · refine lv_iconst (v := nI 0) hx hb dX9_idle_38 (by decide) ?_
      exact rm_ret hx hb hr hlocks hG hS (by unfold m_idle; rw [if_neg c_35] <;> rfl) (by unfold m_idle; rw [if_neg c_35] <;> rfl) rfl dX9_idle_39
  · refine lv_iload_n hx hb dX9_idle_11 rfl (lv_at hl 0 rfl) ?_
    refine r_if_eqB (tgt := 30) hx hb dX9_idle_12 (by decide) (fun c_12 => ?_) (fun c_12 => ?_)
    · refine lv_iconst (v := nI 0) hx hb dX9_idle_30 (by decide) ?_
      exact r_top ((b2i_f (fun h => by have h9 := h.1; first | exact c_12 h9 | exact h9 c_12 | omega)).symm) (J_31 _ _ hG hS)
    · refine lv_aload_n hx hb dX9_idle_15 rfl (lv_at hl 1 rfl) ?_
      refine gt_X9_158 X hK hG rd_999 (x := σ.1 900 0) rfl dX9_idle_16 ?_
      refine lv_iload_n hx hb dX9_idle_19 rfl (lv_at hl 2 rfl) ?_
      refine r_top (y := nI (tn v)) (ix_eq (n := 501) (by have := c_12; exact ⟨by omega, by omega⟩)) ?_
      refine r_addN hx hb dX9_idle_20 ?_
      refine lv_ldc (v := 1000000) hx hb X.2.2.2.1 (X.2.2.2.2 _ tw_6_8) dX9_idle_21 ?_
      refine r_top (y := nI 1000000) (by decide) ?_
      refine r_icmp_gtN (tgt := 30) hx hb dX9_idle_23 (by decide) (by have := c_12.2; unfold tn; omega) (by decide) (fun c_23 => ?_) (fun c_23 => ?_)
      · refine lv_iconst (v := nI 0) hx hb dX9_idle_30 (by decide) ?_
        exact r_top ((b2i_f (fun h => by have h9 := h.2; first | exact c_23 h9 | exact h9 c_23 | omega)).symm) (J_31 _ _ hG hS)
      · refine lv_iconst (v := nI 1) hx hb dX9_idle_26 (by decide) ?_
        refine lv_goto (tgt := 31) hx hb dX9_idle_27 (by decide) ?_
        exact r_top ((b2i_t (by refine ⟨?_, ?_⟩ <;> first | assumption | omega)).symm) (J_31 _ _ hG hS)
def m_calibrate (x v : Int32) (σ : St) : Int32 × St := if (ix x 4) ∧ (0 ≤ v.toInt ∧ v.toInt ≤ 30) ∧ (True) then (nI (((σ.1 900 0) + 1000) - 1), (wB (wA (wB (m_g (ix x 4) (0 ≤ v.toInt ∧ v.toInt ≤ 30) (True) σ) 928 0 (tn x) (nI 1)) 927 0 (tn x) (σ.1 900 0)) 929 0 (tn x) v)) else (nI 0, (m_g (ix x 4) (0 ≤ v.toInt ∧ v.toInt ≤ 30) (True) σ))
set_option maxRecDepth 100000 in
set_option maxHeartbeats 4000000 in
theorem c_X9_calibrate {D : va_G} {cI cZ cO : ClassId} (l : Launch) (L : Lay) (σ : St) (ow : Nat → Prop) (x v : Int32) : RM D cI cZ cO rdom l yX9_calibrate cX9_calibrate 3 ((some FieldType.int)) 2 42 [.ref (L 999 0), .int x, .int v] L σ ow ((m_calibrate x v σ).1) ((m_calibrate x v σ).2) := by
  refine rm_of rfl (Nat.le_of_ble_eq_true rfl) ?_
  intro p e s m below meth c ls X hK hG hr hlocks hl
  have X : CallFix p m c cX9_calibrate 3 s _ TB RX9 := X
  have hx := X.1
  have hb := X.2.1
  have hS : va_S (AA ow s.heap.size) s.heap s.heap [] := va_S.rf
  have hA : ∀ q, ow q → AA ow s.heap.size q := fun _ h => Or.inl h
  have hl : lv_has ls 3 [(0, .ref (L 999 0)), (1, .int x), (2, .int v)] := hl
  refine lv_aload_n hx hb dX9_calibrate_0 rfl (lv_at hl 0 rfl) ?_
  refine lv_iload_n hx hb dX9_calibrate_1 rfl (lv_at hl 1 rfl) ?_
  refine rm_callS X hK hG hS ysX9_isGauge ml_X9_198 [.int x] [.ref (L 999 0)] (c_X9_isGauge l L σ ow x) rfl hl.1 rfl (Nat.le_of_ble_eq_true rfl) ⟨Nat.le_of_ble_eq_true rfl, Nat.le_of_ble_eq_true rfl⟩ ⟨Nat.zero_le _, Nat.zero_le _⟩ dX9_calibrate_2 (fun H locs hG hS => ?_)
  refine lv_iload_n hx hb dX9_calibrate_5 rfl (lv_at hl 2 rfl) ?_
  refine lv_iconst (v := nI 0) hx hb dX9_calibrate_6 (by decide) ?_
  refine lv_bipush (v := nI 30) hx hb dX9_calibrate_7 (by decide) ?_
  refine rm_callS X hK hG hS ysX9_in ml_X9_114 [.int v, .int (nI 0), .int (nI 30)] [.int (b2i (ix x 4)), .ref (L 999 0)] (c_X9_in l L σ ow v (nI 0) (nI 30)) rfl hl.1 rfl (Nat.le_of_ble_eq_true rfl) ⟨Nat.le_of_ble_eq_true rfl, Nat.le_of_ble_eq_true rfl⟩ ⟨Nat.zero_le _, Nat.zero_le _⟩ dX9_calibrate_9 (fun H locs hG hS => ?_)
  refine r_top (y := b2i (0 ≤ v.toInt ∧ v.toInt ≤ 30)) (b2i_c (rg_i 0 30 rfl rfl)) ?_
  refine lv_iconst (v := nI 1) hx hb dX9_calibrate_12 (by decide) ?_
  refine rm_callV X hK hG hS yvX9_goes ml_X9_127 kX9 rfl rd_999 [.int (b2i (ix x 4)), .int (b2i (0 ≤ v.toInt ∧ v.toInt ≤ 30)), .int (nI 1)] [] (c_X9_goes l L σ ow (ix x 4) (0 ≤ v.toInt ∧ v.toInt ≤ 30) (True)) rfl hl.1 rfl (Nat.le_of_ble_eq_true rfl) ⟨Nat.le_of_ble_eq_true rfl, Nat.le_of_ble_eq_true rfl⟩ ⟨Nat.zero_le _, Nat.zero_le _⟩ dX9_calibrate_13 (fun H locs hG hS => ?_)
  refine r_if_neB (tgt := 21) hx hb dX9_calibrate_16 (by decide) (fun c_16 => ?_) (fun c_16 => ?_)
  · refine lv_aload_n hx hb dX9_calibrate_21 rfl (lv_at hl 0 rfl) ?_
    refine gt_X9_77 X hK hG rd_999 dX9_calibrate_22 ?_
    refine lv_iload_n hx hb dX9_calibrate_25 rfl (lv_at hl 1 rfl) ?_
    refine r_top (y := nI (tn x)) (ix_eq c_16.1) ?_
    refine lv_iconst (v := nI 1) hx hb dX9_calibrate_26 (by decide) ?_
    refine as_928 X hK hG hS hA rd_928 (i := tn x) (by decide) (ix_lt c_16.1) dX9_calibrate_27 (fun H locs hG hS => ?_)
    refine lv_aload_n hx hb dX9_calibrate_28 rfl (lv_at hl 0 rfl) ?_
    refine gt_X9_74 X hK hG rd_999 dX9_calibrate_29 ?_
    refine lv_iload_n hx hb dX9_calibrate_32 rfl (lv_at hl 1 rfl) ?_
    refine r_top (y := nI (tn x)) (ix_eq c_16.1) ?_
    refine lv_aload_n hx hb dX9_calibrate_33 rfl (lv_at hl 0 rfl) ?_
    refine gt_X9_158 X hK hG rd_999 (x := σ.1 900 0) rfl dX9_calibrate_34 ?_
    refine as_927 X hK hG hS hA rd_927 (i := tn x) (ix_lt c_16.1) dX9_calibrate_37 (fun H locs hG hS => ?_)
    refine lv_aload_n hx hb dX9_calibrate_38 rfl (lv_at hl 0 rfl) ?_
    refine gt_X9_80 X hK hG rd_999 dX9_calibrate_39 ?_
    refine lv_iload_n hx hb dX9_calibrate_42 rfl (lv_at hl 1 rfl) ?_
    refine r_top (y := nI (tn x)) (ix_eq c_16.1) ?_
    refine lv_iload_n hx hb dX9_calibrate_43 rfl (lv_at hl 2 rfl) ?_
    refine as_929 X hK hG hS hA rd_929 (i := tn x) (ix_lt c_16.1) dX9_calibrate_44 (fun H locs hG hS => ?_)
    refine lv_aload_n hx hb dX9_calibrate_45 rfl (lv_at hl 0 rfl) ?_
    refine gt_X9_158 X hK hG rd_999 (x := σ.1 900 0) rfl dX9_calibrate_46 ?_
    refine lv_sipush (v := nI 1000) hx hb dX9_calibrate_49 (by decide) ?_
    refine r_addN hx hb dX9_calibrate_52 ?_
    refine lv_iconst (v := nI 1) hx hb dX9_calibrate_53 (by decide) ?_
    refine r_subN hx hb (by omega) dX9_calibrate_54 ?_
    exact rm_ret hx hb hr hlocks hG hS (by unfold m_calibrate; rw [if_pos c_16] <;> rfl) (by unfold m_calibrate; rw [if_pos c_16] <;> rfl) rfl dX9_calibrate_55
  · refine lv_iconst (v := nI 0) hx hb dX9_calibrate_19 (by decide) ?_
    exact rm_ret hx hb hr hlocks hG hS (by unfold m_calibrate; rw [if_neg c_16] <;> rfl) (by unfold m_calibrate; rw [if_neg c_16] <;> rfl) rfl dX9_calibrate_20
def m_drawing (σ : St) : Int32 × St := if (σ.1 932 0 < 4) ∧ (True) ∧ (True) then (nI (((σ.1 932 0) + 1) - 1), (wN (m_g (σ.1 932 0 < 4) (True) (True) σ) 932 0 ((σ.1 932 0) + 1))) else (nI 0, (m_g (σ.1 932 0 < 4) (True) (True) σ))
set_option maxRecDepth 100000 in
set_option maxHeartbeats 4000000 in
theorem c_X9_drawing {D : va_G} {cI cZ cO : ClassId} (l : Launch) (L : Lay) (σ : St) (ow : Nat → Prop) (h0 : σ.1 932 0 < 2147483648) : RM D cI cZ cO rdom l yX9_drawing cX9_drawing 1 ((some FieldType.int)) 1 23 [.ref (L 999 0)] L σ ow ((m_drawing σ).1) ((m_drawing σ).2) := by
  refine rm_of rfl (Nat.le_of_ble_eq_true rfl) ?_
  intro p e s m below meth c ls X hK hG hr hlocks hl
  have X : CallFix p m c cX9_drawing 1 s _ TB RX9 := X
  have hx := X.1
  have hb := X.2.1
  have hS : va_S (AA ow s.heap.size) s.heap s.heap [] := va_S.rf
  have hA : ∀ q, ow q → AA ow s.heap.size q := fun _ h => Or.inl h
  have hl : lv_has ls 1 [(0, .ref (L 999 0))] := hl
  refine lv_aload_n hx hb dX9_drawing_0 rfl (lv_at hl 0 rfl) ?_
  refine r_cutH 14 [.int (b2i (σ.1 932 0 < 4)), .ref (L 999 0)] hG hS (fun H locs hG hS => ?_) (fun J_14 => ?_)
  · refine lv_iconst (v := nI 1) hx hb dX9_drawing_14 (by decide) ?_
    refine lv_iconst (v := nI 1) hx hb dX9_drawing_15 (by decide) ?_
    refine rm_callV X hK hG hS yvX9_goes ml_X9_127 kX9 rfl rd_999 [.int (b2i (σ.1 932 0 < 4)), .int (nI 1), .int (nI 1)] [] (c_X9_goes l L σ ow (σ.1 932 0 < 4) (True) (True)) rfl hl.1 rfl (Nat.le_of_ble_eq_true rfl) ⟨Nat.le_of_ble_eq_true rfl, Nat.le_of_ble_eq_true rfl⟩ ⟨Nat.zero_le _, Nat.zero_le _⟩ dX9_drawing_16 (fun H locs hG hS => ?_)
    refine r_if_neB (tgt := 24) hx hb dX9_drawing_19 (by decide) (fun c_19 => ?_) (fun c_19 => ?_)
    · refine lv_aload_n hx hb dX9_drawing_24 rfl (lv_at hl 0 rfl) ?_
      refine lv_dup hx hb dX9_drawing_25 rfl ?_
      refine gt_X9_124 X hK hG rd_999 (x := σ.1 932 0) rfl dX9_drawing_26 ?_
      refine lv_iconst (v := nI 1) hx hb dX9_drawing_29 (by decide) ?_
      refine r_addN hx hb dX9_drawing_30 ?_
      refine pt_X9_124 X hK hG hS hA rd_999 dX9_drawing_31 (fun H locs hG hS => ?_)
      refine lv_aload_n hx hb dX9_drawing_34 rfl (lv_at hl 0 rfl) ?_
      refine gt_X9_124 X hK hG rd_999 (x := (σ.1 932 0) + 1) rfl dX9_drawing_35 ?_
      refine lv_iconst (v := nI 1) hx hb dX9_drawing_38 (by decide) ?_
      refine r_subN hx hb (Nat.le_add_left 1 _) dX9_drawing_39 ?_
      exact rm_ret hx hb hr hlocks hG hS (by unfold m_drawing; rw [if_pos c_19] <;> rfl) (by unfold m_drawing; rw [if_pos c_19] <;> rfl) rfl dX9_drawing_40
    · refine lv_iconst (v := nI 0) hx hb dX9_drawing_22 (by decide) ?_
      exact rm_ret hx hb hr hlocks hG hS (by unfold m_drawing; rw [if_neg c_19] <;> rfl) (by unfold m_drawing; rw [if_neg c_19] <;> rfl) rfl dX9_drawing_23
  · refine lv_aload_n hx hb dX9_drawing_1 rfl (lv_at hl 0 rfl) ?_
    refine gt_X9_124 X hK hG rd_999 (x := σ.1 932 0) rfl dX9_drawing_2 ?_
    refine lv_iconst (v := nI 4) hx hb dX9_drawing_5 (by decide) ?_
    refine r_icmp_geN (tgt := 13) hx hb dX9_drawing_6 (by decide) (by omega) (by omega) (fun c_6 => ?_) (fun c_6 => ?_)
    · refine lv_iconst (v := nI 0) hx hb dX9_drawing_13 (by decide) ?_
      exact r_top ((b2i_f (fun h => by have h9 := h; first | exact c_6 h9 | exact h9 c_6 | omega)).symm) (J_14 _ _ hG hS)
    · refine lv_iconst (v := nI 1) hx hb dX9_drawing_9 (by decide) ?_
      refine lv_goto (tgt := 14) hx hb dX9_drawing_10 (by decide) ?_
      exact r_top ((b2i_t (by first | exact c_6 | omega)).symm) (J_14 _ _ hG hS)
def m_feature (d9 x y h9 v : Int32) (σ : St) : Int32 × St := if (ix d9 (σ.1 932 0) ∧ (ix x 12 ∧ ix y 12)) ∧ ((0 ≤ h9.toInt ∧ h9.toInt ≤ 9) ∧ (1 ≤ v.toInt ∧ v.toInt ≤ 99)) ∧ ((ix d9 (σ.1 932 0) ∧ (ix x 12 ∧ ix y 12)) ∧ σ.2.2.1 931 0 (tn d9) < 6) then (nI ((σ.2.2.1 931 0 (tn d9)) + 1), (wA (wA (wA (wA (wA (m_g (ix d9 (σ.1 932 0) ∧ (ix x 12 ∧ ix y 12)) ((0 ≤ h9.toInt ∧ h9.toInt ≤ 9) ∧ (1 ≤ v.toInt ∧ v.toInt ≤ 99)) ((ix d9 (σ.1 932 0) ∧ (ix x 12 ∧ ix y 12)) ∧ σ.2.2.1 931 0 (tn d9) < 6) σ) 930 0 (6 * ((6 * (tn d9)) + (σ.2.2.1 931 0 (tn d9)))) (tn x)) 930 0 ((6 * ((6 * (tn d9)) + (σ.2.2.1 931 0 (tn d9)))) + 1) (tn y)) 930 0 ((6 * ((6 * (tn d9)) + (σ.2.2.1 931 0 (tn d9)))) + 2) (tn h9)) 930 0 ((6 * ((6 * (tn d9)) + (σ.2.2.1 931 0 (tn d9)))) + 3) (tn v)) 931 0 (tn d9) ((σ.2.2.1 931 0 (tn d9)) + 1))) else (nI 0, (m_g (ix d9 (σ.1 932 0) ∧ (ix x 12 ∧ ix y 12)) ((0 ≤ h9.toInt ∧ h9.toInt ≤ 9) ∧ (1 ≤ v.toInt ∧ v.toInt ≤ 99)) ((ix d9 (σ.1 932 0) ∧ (ix x 12 ∧ ix y 12)) ∧ σ.2.2.1 931 0 (tn d9) < 6) σ))
set_option maxRecDepth 100000 in
set_option maxHeartbeats 4000000 in
theorem c_X9_feature {D : va_G} {cI cZ cO : ClassId} (l : Launch) (L : Lay) (σ : St) (ow : Nat → Prop) (d9 x y h9 v : Int32) (hD : σ.1 932 0 ≤ 4) (hf : ∀ k, σ.2.2.1 931 0 k ≤ 6) : RM D cI cZ cO rdom l yX9_feature cX9_feature 8 ((some FieldType.int)) 2 43 [.ref (L 999 0), .int d9, .int x, .int y, .int h9, .int v] L σ ow ((m_feature d9 x y h9 v σ).1) ((m_feature d9 x y h9 v σ).2) := by
  refine rm_of rfl (Nat.le_of_ble_eq_true rfl) ?_
  intro p e s m below meth c ls X hK hG hr hlocks hl
  have X : CallFix p m c cX9_feature 8 s _ TB RX9 := X
  have hx := X.1
  have hb := X.2.1
  have hS : va_S (AA ow s.heap.size) s.heap s.heap [] := va_S.rf
  have hA : ∀ q, ow q → AA ow s.heap.size q := fun _ h => Or.inl h
  have hl : lv_has ls 8 [(0, .ref (L 999 0)), (1, .int d9), (2, .int x), (3, .int y), (4, .int h9), (5, .int v)] := hl
  refine r_cutH 21 [.int (b2i (ix d9 (σ.1 932 0) ∧ (ix x 12 ∧ ix y 12)))] hG hS (fun H locs hG hS => ?_) (fun J_21 => ?_)
  · refine lv_istore (lv' := [(6, .int (b2i (ix d9 (σ.1 932 0) ∧ (ix x 12 ∧ ix y 12)))), (0, .ref (L 999 0)), (1, .int d9), (2, .int x), (3, .int y), (4, .int h9), (5, .int v)]) hx hb dX9_feature_21 hl (by decide) rfl (fun ls hl => ?_)
    refine lv_aload_n hx hb dX9_feature_23 rfl (lv_at hl 1 rfl) ?_
    refine lv_iload hx hb dX9_feature_24 (lv_at hl 0 rfl) ?_
    refine r_cutH 53 [.int (b2i ((0 ≤ h9.toInt ∧ h9.toInt ≤ 9) ∧ (1 ≤ v.toInt ∧ v.toInt ≤ 99))), .int (b2i (ix d9 (σ.1 932 0) ∧ (ix x 12 ∧ ix y 12))), .ref (L 999 0)] hG hS (fun H locs hG hS => ?_) (fun J_53 => ?_)
    · refine r_cutH 74 [.int (b2i ((ix d9 (σ.1 932 0) ∧ (ix x 12 ∧ ix y 12)) ∧ σ.2.2.1 931 0 (tn d9) < 6)), .int (b2i ((0 ≤ h9.toInt ∧ h9.toInt ≤ 9) ∧ (1 ≤ v.toInt ∧ v.toInt ≤ 99))), .int (b2i (ix d9 (σ.1 932 0) ∧ (ix x 12 ∧ ix y 12))), .ref (L 999 0)] hG hS (fun H locs hG hS => ?_) (fun J_74 => ?_)
      · refine rm_callV X hK hG hS yvX9_goes ml_X9_127 kX9 rfl rd_999 [.int (b2i (ix d9 (σ.1 932 0) ∧ (ix x 12 ∧ ix y 12))), .int (b2i ((0 ≤ h9.toInt ∧ h9.toInt ≤ 9) ∧ (1 ≤ v.toInt ∧ v.toInt ≤ 99))), .int (b2i ((ix d9 (σ.1 932 0) ∧ (ix x 12 ∧ ix y 12)) ∧ σ.2.2.1 931 0 (tn d9) < 6))] [] (c_X9_goes l L σ ow (ix d9 (σ.1 932 0) ∧ (ix x 12 ∧ ix y 12)) ((0 ≤ h9.toInt ∧ h9.toInt ≤ 9) ∧ (1 ≤ v.toInt ∧ v.toInt ≤ 99)) ((ix d9 (σ.1 932 0) ∧ (ix x 12 ∧ ix y 12)) ∧ σ.2.2.1 931 0 (tn d9) < 6)) rfl hl.1 rfl (Nat.le_of_ble_eq_true rfl) ⟨Nat.le_of_ble_eq_true rfl, Nat.le_of_ble_eq_true rfl⟩ ⟨Nat.zero_le _, Nat.zero_le _⟩ dX9_feature_74 (fun H locs hG hS => ?_)
        refine r_if_neB (tgt := 82) hx hb dX9_feature_77 (by decide) (fun c_77 => ?_) (fun c_77 => ?_)
        · refine lv_bipush (v := nI 6) hx hb dX9_feature_82 (by decide) ?_
          refine lv_bipush (v := nI 6) hx hb dX9_feature_84 (by decide) ?_
          refine lv_iload_n hx hb dX9_feature_86 rfl (lv_at hl 2 rfl) ?_
          refine r_top (y := nI (tn d9)) (ix_eq c_77.1.1) ?_
          refine r_mulN hx hb dX9_feature_87 ?_
          refine lv_aload_n hx hb dX9_feature_88 rfl (lv_at hl 1 rfl) ?_
          refine gt_X9_86 X hK hG rd_999 dX9_feature_89 ?_
          refine lv_iload_n hx hb dX9_feature_92 rfl (lv_at hl 2 rfl) ?_
          refine r_top (y := nI (tn d9)) (ix_eq c_77.1.1) ?_
          refine al_931 X hK hG rd_931 (i := tn d9) (x := σ.2.2.1 931 0 (tn d9)) (by have := ix_lt c_77.1.1; omega) rfl dX9_feature_93 ?_
          refine r_addN hx hb dX9_feature_94 ?_
          refine r_mulN hx hb dX9_feature_95 ?_
          refine lv_istore (lv' := [(7, .int (nI (6 * ((6 * (tn d9)) + (σ.2.2.1 931 0 (tn d9)))))), (6, .int (b2i (ix d9 (σ.1 932 0) ∧ (ix x 12 ∧ ix y 12)))), (0, .ref (L 999 0)), (1, .int d9), (2, .int x), (3, .int y), (4, .int h9), (5, .int v)]) hx hb dX9_feature_96 hl (by decide) rfl (fun ls hl => ?_)
          refine lv_aload_n hx hb dX9_feature_98 rfl (lv_at hl 2 rfl) ?_
          refine gt_X9_83 X hK hG rd_999 dX9_feature_99 ?_
          refine lv_iload hx hb dX9_feature_102 (lv_at hl 0 rfl) ?_
          refine lv_iload_n hx hb dX9_feature_104 rfl (lv_at hl 4 rfl) ?_
          refine r_top (y := nI (tn x)) (ix_eq c_77.1.2.1) ?_
          refine as_930 X hK hG hS hA rd_930 (i := 6 * ((6 * (tn d9)) + (σ.2.2.1 931 0 (tn d9)))) (by have h1 := ix_lt c_77.1.1; have h2 := c_77.2.2.2; omega) dX9_feature_105 (fun H locs hG hS => ?_)
          refine lv_aload_n hx hb dX9_feature_106 rfl (lv_at hl 2 rfl) ?_
          refine gt_X9_83 X hK hG rd_999 dX9_feature_107 ?_
          refine lv_iload hx hb dX9_feature_110 (lv_at hl 0 rfl) ?_
          refine lv_iconst (v := nI 1) hx hb dX9_feature_112 (by decide) ?_
          refine r_addN hx hb dX9_feature_113 ?_
          refine lv_iload_n hx hb dX9_feature_114 rfl (lv_at hl 5 rfl) ?_
          refine r_top (y := nI (tn y)) (ix_eq c_77.1.2.2) ?_
          refine as_930 X hK hG hS hA rd_930 (i := (6 * ((6 * (tn d9)) + (σ.2.2.1 931 0 (tn d9)))) + 1) (by have h1 := ix_lt c_77.1.1; have h2 := c_77.2.2.2; omega) dX9_feature_115 (fun H locs hG hS => ?_)
          refine lv_aload_n hx hb dX9_feature_116 rfl (lv_at hl 2 rfl) ?_
          refine gt_X9_83 X hK hG rd_999 dX9_feature_117 ?_
          refine lv_iload hx hb dX9_feature_120 (lv_at hl 0 rfl) ?_
          refine lv_iconst (v := nI 2) hx hb dX9_feature_122 (by decide) ?_
          refine r_addN hx hb dX9_feature_123 ?_
          refine lv_iload hx hb dX9_feature_124 (lv_at hl 6 rfl) ?_
          refine r_top (y := nI (tn h9)) (ix_eq (n := 10) (by have := c_77.2.1.1; exact ⟨by omega, by omega⟩)) ?_
          refine as_930 X hK hG hS hA rd_930 (i := (6 * ((6 * (tn d9)) + (σ.2.2.1 931 0 (tn d9)))) + 2) (by have h1 := ix_lt c_77.1.1; have h2 := c_77.2.2.2; omega) dX9_feature_126 (fun H locs hG hS => ?_)
          refine lv_aload_n hx hb dX9_feature_127 rfl (lv_at hl 2 rfl) ?_
          refine gt_X9_83 X hK hG rd_999 dX9_feature_128 ?_
          refine lv_iload hx hb dX9_feature_131 (lv_at hl 0 rfl) ?_
          refine lv_iconst (v := nI 3) hx hb dX9_feature_133 (by decide) ?_
          refine r_addN hx hb dX9_feature_134 ?_
          refine lv_iload hx hb dX9_feature_135 (lv_at hl 7 rfl) ?_
          refine r_top (y := nI (tn v)) (ix_eq (n := 100) (by have := c_77.2.1.2; exact ⟨by omega, by omega⟩)) ?_
          refine as_930 X hK hG hS hA rd_930 (i := (6 * ((6 * (tn d9)) + (σ.2.2.1 931 0 (tn d9)))) + 3) (by have h1 := ix_lt c_77.1.1; have h2 := c_77.2.2.2; omega) dX9_feature_137 (fun H locs hG hS => ?_)
          refine lv_aload_n hx hb dX9_feature_138 rfl (lv_at hl 2 rfl) ?_
          refine gt_X9_86 X hK hG rd_999 dX9_feature_139 ?_
          refine lv_iload_n hx hb dX9_feature_142 rfl (lv_at hl 3 rfl) ?_
          refine r_top (y := nI (tn d9)) (ix_eq c_77.1.1) ?_
          refine lv_dup2_11 hx hb dX9_feature_143 rfl rfl ?_
          refine al_931 X hK hG rd_931 (i := tn d9) (x := σ.2.2.1 931 0 (tn d9)) (by have := ix_lt c_77.1.1; omega) rfl dX9_feature_144 ?_
          refine lv_iconst (v := nI 1) hx hb dX9_feature_145 (by decide) ?_
          refine r_addN hx hb dX9_feature_146 ?_
          refine as_931 X hK hG hS hA rd_931 (i := tn d9) (by have := ix_lt c_77.1.1; omega) dX9_feature_147 (fun H locs hG hS => ?_)
          refine lv_aload_n hx hb dX9_feature_148 rfl (lv_at hl 2 rfl) ?_
          refine gt_X9_86 X hK hG rd_999 dX9_feature_149 ?_
          refine lv_iload_n hx hb dX9_feature_152 rfl (lv_at hl 3 rfl) ?_
          refine r_top (y := nI (tn d9)) (ix_eq c_77.1.1) ?_
          refine al_931 X hK hG rd_931 (i := tn d9) (x := (σ.2.2.1 931 0 (tn d9)) + 1) (by have := ix_lt c_77.1.1; omega) (by simp [wN, wI, wA, wB, up3, up2, up1]) dX9_feature_153 ?_
          exact rm_ret hx hb hr hlocks hG hS (by unfold m_feature; rw [if_pos c_77] <;> rfl) (by unfold m_feature; rw [if_pos c_77] <;> rfl) rfl dX9_feature_154
        · refine lv_iconst (v := nI 0) hx hb dX9_feature_80 (by decide) ?_
          exact rm_ret hx hb hr hlocks hG hS (by unfold m_feature; rw [if_neg c_77] <;> rfl) (by unfold m_feature; rw [if_neg c_77] <;> rfl) rfl dX9_feature_81
      · refine lv_iload hx hb dX9_feature_53 (lv_at hl 0 rfl) ?_
        refine r_if_eqB (tgt := 73) hx hb dX9_feature_55 (by decide) (fun c_55 => ?_) (fun c_55 => ?_)
        · refine lv_iconst (v := nI 0) hx hb dX9_feature_73 (by decide) ?_
          exact r_top ((b2i_f (fun h => by have h9 := h.1; first | exact c_55 h9 | exact h9 c_55 | omega)).symm) (J_74 _ _ hG hS)
        · refine lv_aload_n hx hb dX9_feature_58 rfl (lv_at hl 1 rfl) ?_
          refine gt_X9_86 X hK hG rd_999 dX9_feature_59 ?_
          refine lv_iload_n hx hb dX9_feature_62 rfl (lv_at hl 2 rfl) ?_
          refine r_top (y := nI (tn d9)) (ix_eq c_55.1) ?_
          refine al_931 X hK hG rd_931 (i := tn d9) (x := σ.2.2.1 931 0 (tn d9)) (by have := ix_lt c_55.1; omega) rfl dX9_feature_63 ?_
          refine lv_bipush (v := nI 6) hx hb dX9_feature_64 (by decide) ?_
          refine r_icmp_geN (tgt := 73) hx hb dX9_feature_66 (by decide) (by have := hf (tn d9); omega) (by decide) (fun c_66 => ?_) (fun c_66 => ?_)
          · refine lv_iconst (v := nI 0) hx hb dX9_feature_73 (by decide) ?_
            exact r_top ((b2i_f (fun h => by have h9 := h.2; first | exact c_66 h9 | exact h9 c_66 | omega)).symm) (J_74 _ _ hG hS)
          · refine lv_iconst (v := nI 1) hx hb dX9_feature_69 (by decide) ?_
            refine lv_goto (tgt := 74) hx hb dX9_feature_70 (by decide) ?_
            exact r_top ((b2i_t (by refine ⟨?_, ?_⟩ <;> first | assumption | omega)).symm) (J_74 _ _ hG hS)
    · refine lv_iload hx hb dX9_feature_26 (lv_at hl 5 rfl) ?_
      refine lv_iconst (v := nI 0) hx hb dX9_feature_28 (by decide) ?_
      refine lv_bipush (v := nI 9) hx hb dX9_feature_29 (by decide) ?_
      refine rm_callS X hK hG hS ysX9_in ml_X9_114 [.int h9, .int (nI 0), .int (nI 9)] [.int (b2i (ix d9 (σ.1 932 0) ∧ (ix x 12 ∧ ix y 12))), .ref (L 999 0)] (c_X9_in l L σ ow h9 (nI 0) (nI 9)) rfl hl.1 rfl (Nat.le_of_ble_eq_true rfl) ⟨Nat.le_of_ble_eq_true rfl, Nat.le_of_ble_eq_true rfl⟩ ⟨Nat.zero_le _, Nat.zero_le _⟩ dX9_feature_31 (fun H locs hG hS => ?_)
      refine r_top (y := b2i (0 ≤ h9.toInt ∧ h9.toInt ≤ 9)) (b2i_c (rg_i 0 9 rfl rfl)) ?_
      refine r_if_eqB (tgt := 52) hx hb dX9_feature_34 (by decide) (fun c_34 => ?_) (fun c_34 => ?_)
      · refine lv_iconst (v := nI 0) hx hb dX9_feature_52 (by decide) ?_
        exact r_top ((b2i_f (fun h => by have h9 := h.1; first | exact c_34 h9 | exact h9 c_34 | omega)).symm) (J_53 _ _ hG hS)
      · refine lv_iload hx hb dX9_feature_37 (lv_at hl 6 rfl) ?_
        refine lv_iconst (v := nI 1) hx hb dX9_feature_39 (by decide) ?_
        refine lv_bipush (v := nI 99) hx hb dX9_feature_40 (by decide) ?_
        refine rm_callS X hK hG hS ysX9_in ml_X9_114 [.int v, .int (nI 1), .int (nI 99)] [.int (b2i (ix d9 (σ.1 932 0) ∧ (ix x 12 ∧ ix y 12))), .ref (L 999 0)] (c_X9_in l L σ ow v (nI 1) (nI 99)) rfl hl.1 rfl (Nat.le_of_ble_eq_true rfl) ⟨Nat.le_of_ble_eq_true rfl, Nat.le_of_ble_eq_true rfl⟩ ⟨Nat.zero_le _, Nat.zero_le _⟩ dX9_feature_42 (fun H locs hG hS => ?_)
        refine r_top (y := b2i (1 ≤ v.toInt ∧ v.toInt ≤ 99)) (b2i_c (rg_i 1 99 rfl rfl)) ?_
        refine r_if_eqB (tgt := 52) hx hb dX9_feature_45 (by decide) (fun c_45 => ?_) (fun c_45 => ?_)
        · refine lv_iconst (v := nI 0) hx hb dX9_feature_52 (by decide) ?_
          exact r_top ((b2i_f (fun h => by have h9 := h.2; first | exact c_45 h9 | exact h9 c_45 | omega)).symm) (J_53 _ _ hG hS)
        · refine lv_iconst (v := nI 1) hx hb dX9_feature_48 (by decide) ?_
          refine lv_goto (tgt := 53) hx hb dX9_feature_49 (by decide) ?_
          exact r_top ((b2i_t (by refine ⟨?_, ?_⟩ <;> first | assumption | omega)).symm) (J_53 _ _ hG hS)
  · refine lv_aload_n hx hb dX9_feature_0 rfl (lv_at hl 0 rfl) ?_
    refine lv_iload_n hx hb dX9_feature_1 rfl (lv_at hl 1 rfl) ?_
    refine rm_callV X hK hG hS yvX9_isDrawing ml_X9_201 kX9 rfl rd_999 [.int d9] [] (c_X9_isDrawing l L σ ow d9 (by omega)) rfl hl.1 rfl (Nat.le_of_ble_eq_true rfl) ⟨Nat.le_of_ble_eq_true rfl, Nat.le_of_ble_eq_true rfl⟩ ⟨Nat.zero_le _, Nat.zero_le _⟩ dX9_feature_2 (fun H locs hG hS => ?_)
    refine r_if_eqB (tgt := 20) hx hb dX9_feature_5 (by decide) (fun c_5 => ?_) (fun c_5 => ?_)
    · refine lv_iconst (v := nI 0) hx hb dX9_feature_20 (by decide) ?_
      exact r_top ((b2i_f (fun h => by have h9 := h.1; first | exact c_5 h9 | exact h9 c_5 | omega)).symm) (J_21 _ _ hG hS)
    · refine lv_iload_n hx hb dX9_feature_8 rfl (lv_at hl 2 rfl) ?_
      refine lv_iload_n hx hb dX9_feature_9 rfl (lv_at hl 3 rfl) ?_
      refine rm_callS X hK hG hS ysX9_isCell ml_X9_151 [.int x, .int y] [] (c_X9_isCell l L σ ow x y) rfl hl.1 rfl (Nat.le_of_ble_eq_true rfl) ⟨Nat.le_of_ble_eq_true rfl, Nat.le_of_ble_eq_true rfl⟩ ⟨Nat.zero_le _, Nat.zero_le _⟩ dX9_feature_10 (fun H locs hG hS => ?_)
      refine r_if_eqB (tgt := 20) hx hb dX9_feature_13 (by decide) (fun c_13 => ?_) (fun c_13 => ?_)
      · refine lv_iconst (v := nI 0) hx hb dX9_feature_20 (by decide) ?_
        exact r_top ((b2i_f (fun h => by have h9 := h.2; first | exact c_13 h9 | exact h9 c_13 | omega)).symm) (J_21 _ _ hG hS)
      · refine lv_iconst (v := nI 1) hx hb dX9_feature_16 (by decide) ?_
        refine lv_goto (tgt := 21) hx hb dX9_feature_17 (by decide) ?_
        exact r_top ((b2i_t (by refine ⟨?_, ?_⟩ <;> first | assumption | omega)).symm) (J_21 _ _ hG hS)
def m_allow (d9 f9 v w : Int32) (σ : St) : Int32 × St := if (ix d9 (σ.1 932 0) ∧ ix f9 (σ.2.2.1 931 0 (tn d9))) ∧ ((0 ≤ v.toInt ∧ v.toInt ≤ 99) ∧ (1 ≤ w.toInt ∧ w.toInt ≤ 9)) ∧ (True) then (nI (((wA (wA (m_g (ix d9 (σ.1 932 0) ∧ ix f9 (σ.2.2.1 931 0 (tn d9))) ((0 ≤ v.toInt ∧ v.toInt ≤ 99) ∧ (1 ≤ w.toInt ∧ w.toInt ≤ 9)) (True) σ) 930 0 ((6 * ((6 * (tn d9)) + (tn f9))) + 4) (tn v)) 930 0 ((6 * ((6 * (tn d9)) + (tn f9))) + 5) (tn w)).2.2.1 930 0 ((6 * ((6 * (tn d9)) + (tn f9))) + 3)) + (tn v)), (wA (wA (m_g (ix d9 (σ.1 932 0) ∧ ix f9 (σ.2.2.1 931 0 (tn d9))) ((0 ≤ v.toInt ∧ v.toInt ≤ 99) ∧ (1 ≤ w.toInt ∧ w.toInt ≤ 9)) (True) σ) 930 0 ((6 * ((6 * (tn d9)) + (tn f9))) + 4) (tn v)) 930 0 ((6 * ((6 * (tn d9)) + (tn f9))) + 5) (tn w))) else (nI 0, (m_g (ix d9 (σ.1 932 0) ∧ ix f9 (σ.2.2.1 931 0 (tn d9))) ((0 ≤ v.toInt ∧ v.toInt ≤ 99) ∧ (1 ≤ w.toInt ∧ w.toInt ≤ 9)) (True) σ))
set_option maxRecDepth 100000 in
set_option maxHeartbeats 4000000 in
theorem c_X9_allow {D : va_G} {cI cZ cO : ClassId} (l : Launch) (L : Lay) (σ : St) (ow : Nat → Prop) (d9 f9 v w : Int32) (hD : σ.1 932 0 ≤ 4) (hf : ∀ k, σ.2.2.1 931 0 k ≤ 6) : RM D cI cZ cO rdom l yX9_allow cX9_allow 7 ((some FieldType.int)) 2 43 [.ref (L 999 0), .int d9, .int f9, .int v, .int w] L σ ow ((m_allow d9 f9 v w σ).1) ((m_allow d9 f9 v w σ).2) := by
  refine rm_of rfl (Nat.le_of_ble_eq_true rfl) ?_
  intro p e s m below meth c ls X hK hG hr hlocks hl
  have X : CallFix p m c cX9_allow 7 s _ TB RX9 := X
  have hx := X.1
  have hb := X.2.1
  have hS : va_S (AA ow s.heap.size) s.heap s.heap [] := va_S.rf
  have hA : ∀ q, ow q → AA ow s.heap.size q := fun _ h => Or.inl h
  have hl : lv_has ls 7 [(0, .ref (L 999 0)), (1, .int d9), (2, .int f9), (3, .int v), (4, .int w)] := hl
  refine r_cutH 41 [.int (b2i (ix d9 (σ.1 932 0) ∧ ix f9 (σ.2.2.1 931 0 (tn d9))))] hG hS (fun H locs hG hS => ?_) (fun J_41 => ?_)
  · refine lv_istore (lv' := [(5, .int (b2i (ix d9 (σ.1 932 0) ∧ ix f9 (σ.2.2.1 931 0 (tn d9))))), (0, .ref (L 999 0)), (1, .int d9), (2, .int f9), (3, .int v), (4, .int w)]) hx hb dX9_allow_41 hl (by decide) rfl (fun ls hl => ?_)
    refine lv_aload_n hx hb dX9_allow_43 rfl (lv_at hl 1 rfl) ?_
    refine lv_iload hx hb dX9_allow_44 (lv_at hl 0 rfl) ?_
    refine r_cutH 72 [.int (b2i ((0 ≤ v.toInt ∧ v.toInt ≤ 99) ∧ (1 ≤ w.toInt ∧ w.toInt ≤ 9))), .int (b2i (ix d9 (σ.1 932 0) ∧ ix f9 (σ.2.2.1 931 0 (tn d9)))), .ref (L 999 0)] hG hS (fun H locs hG hS => ?_) (fun J_72 => ?_)
    · refine lv_iconst (v := nI 1) hx hb dX9_allow_72 (by decide) ?_
      refine rm_callV X hK hG hS yvX9_goes ml_X9_127 kX9 rfl rd_999 [.int (b2i (ix d9 (σ.1 932 0) ∧ ix f9 (σ.2.2.1 931 0 (tn d9)))), .int (b2i ((0 ≤ v.toInt ∧ v.toInt ≤ 99) ∧ (1 ≤ w.toInt ∧ w.toInt ≤ 9))), .int (nI 1)] [] (c_X9_goes l L σ ow (ix d9 (σ.1 932 0) ∧ ix f9 (σ.2.2.1 931 0 (tn d9))) ((0 ≤ v.toInt ∧ v.toInt ≤ 99) ∧ (1 ≤ w.toInt ∧ w.toInt ≤ 9)) (True)) rfl hl.1 rfl (Nat.le_of_ble_eq_true rfl) ⟨Nat.le_of_ble_eq_true rfl, Nat.le_of_ble_eq_true rfl⟩ ⟨Nat.zero_le _, Nat.zero_le _⟩ dX9_allow_73 (fun H locs hG hS => ?_)
      refine r_if_neB (tgt := 81) hx hb dX9_allow_76 (by decide) (fun c_76 => ?_) (fun c_76 => ?_)
      · refine lv_bipush (v := nI 6) hx hb dX9_allow_81 (by decide) ?_
        refine lv_bipush (v := nI 6) hx hb dX9_allow_83 (by decide) ?_
        refine lv_iload_n hx hb dX9_allow_85 rfl (lv_at hl 2 rfl) ?_
        refine r_top (y := nI (tn d9)) (ix_eq c_76.1.1) ?_
        refine r_mulN hx hb dX9_allow_86 ?_
        refine lv_iload_n hx hb dX9_allow_87 rfl (lv_at hl 3 rfl) ?_
        refine r_top (y := nI (tn f9)) (ix_eq c_76.1.2) ?_
        refine r_addN hx hb dX9_allow_88 ?_
        refine r_mulN hx hb dX9_allow_89 ?_
        refine lv_istore (lv' := [(6, .int (nI (6 * ((6 * (tn d9)) + (tn f9))))), (5, .int (b2i (ix d9 (σ.1 932 0) ∧ ix f9 (σ.2.2.1 931 0 (tn d9))))), (0, .ref (L 999 0)), (1, .int d9), (2, .int f9), (3, .int v), (4, .int w)]) hx hb dX9_allow_90 hl (by decide) rfl (fun ls hl => ?_)
        refine lv_aload_n hx hb dX9_allow_92 rfl (lv_at hl 2 rfl) ?_
        refine gt_X9_83 X hK hG rd_999 dX9_allow_93 ?_
        refine lv_iload hx hb dX9_allow_96 (lv_at hl 0 rfl) ?_
        refine lv_iconst (v := nI 4) hx hb dX9_allow_98 (by decide) ?_
        refine r_addN hx hb dX9_allow_99 ?_
        refine lv_iload_n hx hb dX9_allow_100 rfl (lv_at hl 5 rfl) ?_
        refine r_top (y := nI (tn v)) (ix_eq (n := 100) (by have := c_76.2.1.1; exact ⟨by omega, by omega⟩)) ?_
        refine as_930 X hK hG hS hA rd_930 (i := (6 * ((6 * (tn d9)) + (tn f9))) + 4) (by have h1 := ix_lt c_76.1.1; have h2 := ix_lt c_76.1.2; have h3 := hf (tn d9); omega) dX9_allow_101 (fun H locs hG hS => ?_)
        refine lv_aload_n hx hb dX9_allow_102 rfl (lv_at hl 2 rfl) ?_
        refine gt_X9_83 X hK hG rd_999 dX9_allow_103 ?_
        refine lv_iload hx hb dX9_allow_106 (lv_at hl 0 rfl) ?_
        refine lv_iconst (v := nI 5) hx hb dX9_allow_108 (by decide) ?_
        refine r_addN hx hb dX9_allow_109 ?_
        refine lv_iload hx hb dX9_allow_110 (lv_at hl 6 rfl) ?_
        refine r_top (y := nI (tn w)) (ix_eq (n := 10) (by have := c_76.2.1.2; exact ⟨by omega, by omega⟩)) ?_
        refine as_930 X hK hG hS hA rd_930 (i := (6 * ((6 * (tn d9)) + (tn f9))) + 5) (by have h1 := ix_lt c_76.1.1; have h2 := ix_lt c_76.1.2; have h3 := hf (tn d9); omega) dX9_allow_112 (fun H locs hG hS => ?_)
        refine lv_aload_n hx hb dX9_allow_113 rfl (lv_at hl 2 rfl) ?_
        refine gt_X9_83 X hK hG rd_999 dX9_allow_114 ?_
        refine lv_iload hx hb dX9_allow_117 (lv_at hl 0 rfl) ?_
        refine lv_iconst (v := nI 3) hx hb dX9_allow_119 (by decide) ?_
        refine r_addN hx hb dX9_allow_120 ?_
        refine al_930 X hK hG rd_930 (i := (6 * ((6 * (tn d9)) + (tn f9))) + 3) (x := (wA (wA (m_g (ix d9 (σ.1 932 0) ∧ ix f9 (σ.2.2.1 931 0 (tn d9))) ((0 ≤ v.toInt ∧ v.toInt ≤ 99) ∧ (1 ≤ w.toInt ∧ w.toInt ≤ 9)) (True) σ) 930 0 ((6 * ((6 * (tn d9)) + (tn f9))) + 4) (tn v)) 930 0 ((6 * ((6 * (tn d9)) + (tn f9))) + 5) (tn w)).2.2.1 930 0 ((6 * ((6 * (tn d9)) + (tn f9))) + 3)) (by have h1 := ix_lt c_76.1.1; have h2 := ix_lt c_76.1.2; have h3 := hf (tn d9); omega) rfl dX9_allow_121 ?_
        refine lv_iload_n hx hb dX9_allow_122 rfl (lv_at hl 5 rfl) ?_
        refine r_top (y := nI (tn v)) (ix_eq (n := 100) (by have := c_76.2.1.1; exact ⟨by omega, by omega⟩)) ?_
        refine r_addN hx hb dX9_allow_123 ?_
        exact rm_ret hx hb hr hlocks hG hS (by unfold m_allow; rw [if_pos c_76] <;> rfl) (by unfold m_allow; rw [if_pos c_76] <;> rfl) rfl dX9_allow_124
      · refine lv_iconst (v := nI 0) hx hb dX9_allow_79 (by decide) ?_
        exact rm_ret hx hb hr hlocks hG hS (by unfold m_allow; rw [if_neg c_76] <;> rfl) (by unfold m_allow; rw [if_neg c_76] <;> rfl) rfl dX9_allow_80
    · refine lv_iload_n hx hb dX9_allow_46 rfl (lv_at hl 4 rfl) ?_
      refine lv_iconst (v := nI 0) hx hb dX9_allow_47 (by decide) ?_
      refine lv_bipush (v := nI 99) hx hb dX9_allow_48 (by decide) ?_
      refine rm_callS X hK hG hS ysX9_in ml_X9_114 [.int v, .int (nI 0), .int (nI 99)] [.int (b2i (ix d9 (σ.1 932 0) ∧ ix f9 (σ.2.2.1 931 0 (tn d9)))), .ref (L 999 0)] (c_X9_in l L σ ow v (nI 0) (nI 99)) rfl hl.1 rfl (Nat.le_of_ble_eq_true rfl) ⟨Nat.le_of_ble_eq_true rfl, Nat.le_of_ble_eq_true rfl⟩ ⟨Nat.zero_le _, Nat.zero_le _⟩ dX9_allow_50 (fun H locs hG hS => ?_)
      refine r_top (y := b2i (0 ≤ v.toInt ∧ v.toInt ≤ 99)) (b2i_c (rg_i 0 99 rfl rfl)) ?_
      refine r_if_eqB (tgt := 71) hx hb dX9_allow_53 (by decide) (fun c_53 => ?_) (fun c_53 => ?_)
      · refine lv_iconst (v := nI 0) hx hb dX9_allow_71 (by decide) ?_
        exact r_top ((b2i_f (fun h => by have h9 := h.1; first | exact c_53 h9 | exact h9 c_53 | omega)).symm) (J_72 _ _ hG hS)
      · refine lv_iload hx hb dX9_allow_56 (lv_at hl 5 rfl) ?_
        refine lv_iconst (v := nI 1) hx hb dX9_allow_58 (by decide) ?_
        refine lv_bipush (v := nI 9) hx hb dX9_allow_59 (by decide) ?_
        refine rm_callS X hK hG hS ysX9_in ml_X9_114 [.int w, .int (nI 1), .int (nI 9)] [.int (b2i (ix d9 (σ.1 932 0) ∧ ix f9 (σ.2.2.1 931 0 (tn d9)))), .ref (L 999 0)] (c_X9_in l L σ ow w (nI 1) (nI 9)) rfl hl.1 rfl (Nat.le_of_ble_eq_true rfl) ⟨Nat.le_of_ble_eq_true rfl, Nat.le_of_ble_eq_true rfl⟩ ⟨Nat.zero_le _, Nat.zero_le _⟩ dX9_allow_61 (fun H locs hG hS => ?_)
        refine r_top (y := b2i (1 ≤ w.toInt ∧ w.toInt ≤ 9)) (b2i_c (rg_i 1 9 rfl rfl)) ?_
        refine r_if_eqB (tgt := 71) hx hb dX9_allow_64 (by decide) (fun c_64 => ?_) (fun c_64 => ?_)
        · refine lv_iconst (v := nI 0) hx hb dX9_allow_71 (by decide) ?_
          exact r_top ((b2i_f (fun h => by have h9 := h.2; first | exact c_64 h9 | exact h9 c_64 | omega)).symm) (J_72 _ _ hG hS)
        · refine lv_iconst (v := nI 1) hx hb dX9_allow_67 (by decide) ?_
          refine lv_goto (tgt := 72) hx hb dX9_allow_68 (by decide) ?_
          exact r_top ((b2i_t (by refine ⟨?_, ?_⟩ <;> first | assumption | omega)).symm) (J_72 _ _ hG hS)
  · refine lv_aload_n hx hb dX9_allow_0 rfl (lv_at hl 0 rfl) ?_
    refine lv_iload_n hx hb dX9_allow_1 rfl (lv_at hl 1 rfl) ?_
    refine rm_callV X hK hG hS yvX9_isDrawing ml_X9_201 kX9 rfl rd_999 [.int d9] [] (c_X9_isDrawing l L σ ow d9 (by omega)) rfl hl.1 rfl (Nat.le_of_ble_eq_true rfl) ⟨Nat.le_of_ble_eq_true rfl, Nat.le_of_ble_eq_true rfl⟩ ⟨Nat.zero_le _, Nat.zero_le _⟩ dX9_allow_2 (fun H locs hG hS => ?_)
    refine r_if_eqB (tgt := 40) hx hb dX9_allow_5 (by decide) (fun c_5 => ?_) (fun c_5 => ?_)
    · refine lv_iconst (v := nI 0) hx hb dX9_allow_40 (by decide) ?_
      exact r_top ((b2i_f (fun h => by have h9 := h.1; first | exact c_5 h9 | exact h9 c_5 | omega)).symm) (J_41 _ _ hG hS)
    · refine lv_iload_n hx hb dX9_allow_8 rfl (lv_at hl 2 rfl) ?_
      refine lv_iconst (v := nI 0) hx hb dX9_allow_9 (by decide) ?_
      refine lv_aload_n hx hb dX9_allow_10 rfl (lv_at hl 0 rfl) ?_
      refine gt_X9_86 X hK hG rd_999 dX9_allow_11 ?_
      refine r_cutH 27 [.int (nI (if ¬ (ix d9 (σ.1 932 0)) then 0 else tn d9)), .ref (L 931 0), .int (nI 0), .int f9] hG hS (fun H locs hG hS => ?_) (fun J_27 => ?_)
      · refine al_931 X hK hG rd_931 (i := (if ¬ (ix d9 (σ.1 932 0)) then 0 else tn d9)) (x := σ.2.2.1 931 0 (if ¬ (ix d9 (σ.1 932 0)) then 0 else tn d9)) (by rw [if_neg (not_not_intro9 c_5)]; have := ix_lt c_5; omega) rfl dX9_allow_27 ?_
        refine lv_iconst (v := nI 1) hx hb dX9_allow_28 (by decide) ?_
        refine lv_isub hx hb dX9_allow_29 ?_
        refine rm_callS X hK hG hS ysX9_in ml_X9_114 [.int f9, .int (nI 0), .int ((nI (σ.2.2.1 931 0 (if ¬ (ix d9 (σ.1 932 0)) then 0 else tn d9))) - (nI 1))] [] (c_X9_in l L σ ow f9 (nI 0) ((nI (σ.2.2.1 931 0 (if ¬ (ix d9 (σ.1 932 0)) then 0 else tn d9))) - (nI 1))) rfl hl.1 rfl (Nat.le_of_ble_eq_true rfl) ⟨Nat.le_of_ble_eq_true rfl, Nat.le_of_ble_eq_true rfl⟩ ⟨Nat.zero_le _, Nat.zero_le _⟩ dX9_allow_30 (fun H locs hG hS => ?_)
        refine r_top (y := b2i (ix f9 (σ.2.2.1 931 0 (tn d9)))) (b2i_c (by rw [if_neg (not_not_intro9 c_5)]; exact rg_m (by have := hf (tn d9); omega))) ?_
        refine r_if_eqB (tgt := 40) hx hb dX9_allow_33 (by decide) (fun c_33 => ?_) (fun c_33 => ?_)
        · refine lv_iconst (v := nI 0) hx hb dX9_allow_40 (by decide) ?_
          exact r_top ((b2i_f (fun h => by have h9 := h.2; first | exact c_33 h9 | exact h9 c_33 | omega)).symm) (J_41 _ _ hG hS)
        · refine lv_iconst (v := nI 1) hx hb dX9_allow_36 (by decide) ?_
          refine lv_goto (tgt := 41) hx hb dX9_allow_37 (by decide) ?_
          exact r_top ((b2i_t (by refine ⟨?_, ?_⟩ <;> first | assumption | omega)).symm) (J_41 _ _ hG hS)
      · refine lv_aload_n hx hb dX9_allow_14 rfl (lv_at hl 0 rfl) ?_
        refine lv_iload_n hx hb dX9_allow_15 rfl (lv_at hl 1 rfl) ?_
        refine rm_callV X hK hG hS yvX9_isDrawing ml_X9_201 kX9 rfl rd_999 [.int d9] [.ref (L 931 0), .int (nI 0), .int f9] (c_X9_isDrawing l L σ ow d9 (by omega)) rfl hl.1 rfl (Nat.le_of_ble_eq_true rfl) ⟨Nat.le_of_ble_eq_true rfl, Nat.le_of_ble_eq_true rfl⟩ ⟨Nat.zero_le _, Nat.zero_le _⟩ dX9_allow_16 (fun H locs hG hS => ?_)
        refine r_if_eqB (tgt := 26) hx hb dX9_allow_19 (by decide) (fun c_19 => (by first | exact absurd c_5 c_19 | exact absurd c_19 c_5 | omega)) (fun c_19 => ?_)
        refine lv_iload_n hx hb dX9_allow_22 rfl (lv_at hl 1 rfl) ?_
        refine r_top (y := nI (tn d9)) (ix_eq c_19) ?_
        refine lv_goto (tgt := 27) hx hb dX9_allow_23 (by decide) ?_
        exact r_top (by rw [if_neg (not_not_intro9 c_19)]) (J_27 _ _ hG hS)
