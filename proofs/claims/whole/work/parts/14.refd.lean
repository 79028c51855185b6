def m_cutsIn (p9 i9 t9 : Nat) (σ : St) : St := (wN (wN (wB (wB (wB (wB (wB σ 917 0 (144 * p9 + i9) (nI t9)) 918 0 (4 * (144 * p9 + i9)) (σ.2.2.2 905 0 (i9 % 12))) 918 0 ((4 * (144 * p9 + i9)) + 1) (nI (((σ.1 901 0) * (i9 % 12)) / 10))) 918 0 ((4 * (144 * p9 + i9)) + 2) (nI ((σ.2.2.1 908 0 t9) / 4))) 918 0 ((4 * (144 * p9 + i9)) + 3) (-(σ.2.2.2 910 0 t9))) 901 0 ((σ.1 901 0) + (if 99 ≤ σ.1 901 0 then 0 else 1))) 900 0 ((σ.1 900 0) + 1))
set_option maxRecDepth 100000 in
set_option maxHeartbeats 4000000 in
theorem c_X9_cutsIn {D : va_G} {cI cZ cO : ClassId} (l : Launch) (L : Lay) (σ : St) (ow : Nat → Prop) (p9 i9 t9 : Nat) (hp : p9 < 6) (hi : i9 < 144) (ht : t9 < 16) (hw : σ.1 901 0 ≤ 99) (hu : ∀ k, σ.2.2.1 908 0 k ≤ 500) : RV D cI cZ cO rdom l yX9_cutsIn cX9_cutsIn 6 0 0 [.ref (L 999 0), .int (nI p9), .int (nI i9), .int (nI t9)] L σ ow (m_cutsIn p9 i9 t9 σ) := by
  refine rv_of rfl (Nat.le_of_ble_eq_true rfl) ?_
  intro p e s m below meth c ls X hK hG hr hlocks hl
  have X : CallFix p m c cX9_cutsIn 6 s _ TB RX9 := X
  have hx := X.1
  have hb := X.2.1
  have hS : va_S (AA ow s.heap.size) s.heap s.heap [] := va_S.rf
  have hA : ∀ q, ow q → AA ow s.heap.size q := fun _ h => Or.inl h
  have hl : lv_has ls 6 [(0, .ref (L 999 0)), (1, .int (nI p9)), (2, .int (nI i9)), (3, .int (nI t9))] := hl
  refine lv_sipush (v := nI 144) hx hb dX9_cutsIn_0 (by decide) ?_
  refine lv_iload_n hx hb dX9_cutsIn_3 rfl (lv_at hl 1 rfl) ?_
  refine r_mulN hx hb dX9_cutsIn_4 ?_
  refine lv_iload_n hx hb dX9_cutsIn_5 rfl (lv_at hl 2 rfl) ?_
  refine r_addN hx hb dX9_cutsIn_6 ?_
  refine lv_istore (lv' := [(4, .int (nI (144 * p9 + i9))), (0, .ref (L 999 0)), (1, .int (nI p9)), (2, .int (nI i9)), (3, .int (nI t9))]) hx hb dX9_cutsIn_7 hl (by decide) rfl (fun ls hl => ?_)
  refine lv_iload_n hx hb dX9_cutsIn_9 rfl (lv_at hl 3 rfl) ?_
  refine lv_bipush (v := nI 12) hx hb dX9_cutsIn_10 (by decide) ?_
  refine r_remN hx hb (by omega) (by decide) (by decide) dX9_cutsIn_12 ?_
  refine lv_istore (lv' := [(5, .int (nI (i9 % 12))), (4, .int (nI (144 * p9 + i9))), (0, .ref (L 999 0)), (1, .int (nI p9)), (2, .int (nI i9)), (3, .int (nI t9))]) hx hb dX9_cutsIn_13 hl (by decide) rfl (fun ls hl => ?_)
  refine lv_aload_n hx hb dX9_cutsIn_15 rfl (lv_at hl 2 rfl) ?_
  refine gt_X9_50 X hK hG rd_999 dX9_cutsIn_16 ?_
  refine lv_iload hx hb dX9_cutsIn_19 (lv_at hl 1 rfl) ?_
  refine lv_iload_n hx hb dX9_cutsIn_21 rfl (lv_at hl 5 rfl) ?_
  refine as_917 X hK hG hS hA rd_917 (i := 144 * p9 + i9) (by omega) dX9_cutsIn_22 (fun H locs hG hS => ?_)
  refine lv_aload_n hx hb dX9_cutsIn_23 rfl (lv_at hl 2 rfl) ?_
  refine gt_X9_53 X hK hG rd_999 dX9_cutsIn_24 ?_
  refine lv_iconst (v := nI 4) hx hb dX9_cutsIn_27 (by decide) ?_
  refine lv_iload hx hb dX9_cutsIn_28 (lv_at hl 1 rfl) ?_
  refine r_mulN hx hb dX9_cutsIn_30 ?_
  refine lv_aload_n hx hb dX9_cutsIn_31 rfl (lv_at hl 2 rfl) ?_
  refine gt_X9_16 X hK hG rd_999 dX9_cutsIn_32 ?_
  refine lv_iload hx hb dX9_cutsIn_35 (lv_at hl 0 rfl) ?_
  refine al_905 X hK hG rd_905 (i := i9 % 12) (x := σ.2.2.2 905 0 (i9 % 12)) (by omega) rfl dX9_cutsIn_37 ?_
  refine as_918 X hK hG hS hA rd_918 (i := 4 * (144 * p9 + i9)) (by omega) dX9_cutsIn_38 (fun H locs hG hS => ?_)
  refine lv_aload_n hx hb dX9_cutsIn_39 rfl (lv_at hl 2 rfl) ?_
  refine gt_X9_53 X hK hG rd_999 dX9_cutsIn_40 ?_
  refine lv_iconst (v := nI 4) hx hb dX9_cutsIn_43 (by decide) ?_
  refine lv_iload hx hb dX9_cutsIn_44 (lv_at hl 1 rfl) ?_
  refine r_mulN hx hb dX9_cutsIn_46 ?_
  refine lv_iconst (v := nI 1) hx hb dX9_cutsIn_47 (by decide) ?_
  refine r_addN hx hb dX9_cutsIn_48 ?_
  refine lv_aload_n hx hb dX9_cutsIn_49 rfl (lv_at hl 2 rfl) ?_
  refine gt_X9_155 X hK hG rd_999 (x := σ.1 901 0) rfl dX9_cutsIn_50 ?_
  refine lv_iload hx hb dX9_cutsIn_53 (lv_at hl 0 rfl) ?_
  refine r_mulN hx hb dX9_cutsIn_55 ?_
  refine lv_bipush (v := nI 10) hx hb dX9_cutsIn_56 (by decide) ?_
  refine r_divN hx hb (Nat.lt_of_le_of_lt (Nat.mul_le_mul hw (Nat.le_of_lt (Nat.mod_lt _ (by decide : 0 < 12)))) (by decide)) (by decide) (by decide) dX9_cutsIn_58 ?_
  refine as_918 X hK hG hS hA rd_918 (i := (4 * (144 * p9 + i9)) + 1) (by omega) dX9_cutsIn_59 (fun H locs hG hS => ?_)
  refine lv_aload_n hx hb dX9_cutsIn_60 rfl (lv_at hl 2 rfl) ?_
  refine gt_X9_53 X hK hG rd_999 dX9_cutsIn_61 ?_
  refine lv_iconst (v := nI 4) hx hb dX9_cutsIn_64 (by decide) ?_
  refine lv_iload hx hb dX9_cutsIn_65 (lv_at hl 1 rfl) ?_
  refine r_mulN hx hb dX9_cutsIn_67 ?_
  refine lv_iconst (v := nI 2) hx hb dX9_cutsIn_68 (by decide) ?_
  refine r_addN hx hb dX9_cutsIn_69 ?_
  refine lv_aload_n hx hb dX9_cutsIn_70 rfl (lv_at hl 2 rfl) ?_
  refine gt_X9_25 X hK hG rd_999 dX9_cutsIn_71 ?_
  refine lv_iload_n hx hb dX9_cutsIn_74 rfl (lv_at hl 5 rfl) ?_
  refine al_908 X hK hG rd_908 (i := t9) (x := σ.2.2.1 908 0 t9) (by omega) rfl dX9_cutsIn_75 ?_
  refine lv_iconst (v := nI 4) hx hb dX9_cutsIn_76 (by decide) ?_
  refine r_divN hx hb (by have := hu t9; omega) (by decide) (by decide) dX9_cutsIn_77 ?_
  refine as_918 X hK hG hS hA rd_918 (i := (4 * (144 * p9 + i9)) + 2) (by omega) dX9_cutsIn_78 (fun H locs hG hS => ?_)
  refine lv_aload_n hx hb dX9_cutsIn_79 rfl (lv_at hl 2 rfl) ?_
  refine gt_X9_53 X hK hG rd_999 dX9_cutsIn_80 ?_
  refine lv_iconst (v := nI 4) hx hb dX9_cutsIn_83 (by decide) ?_
  refine lv_iload hx hb dX9_cutsIn_84 (lv_at hl 1 rfl) ?_
  refine r_mulN hx hb dX9_cutsIn_86 ?_
  refine lv_iconst (v := nI 3) hx hb dX9_cutsIn_87 (by decide) ?_
  refine r_addN hx hb dX9_cutsIn_88 ?_
  refine lv_aload_n hx hb dX9_cutsIn_89 rfl (lv_at hl 2 rfl) ?_
  refine gt_X9_31 X hK hG rd_999 dX9_cutsIn_90 ?_
  refine lv_iload_n hx hb dX9_cutsIn_93 rfl (lv_at hl 5 rfl) ?_
  refine al_910 X hK hG rd_910 (i := t9) (x := σ.2.2.2 910 0 t9) (by omega) rfl dX9_cutsIn_94 ?_
  refine lv_ineg hx hb dX9_cutsIn_95 ?_
  refine as_918 X hK hG hS hA rd_918 (i := (4 * (144 * p9 + i9)) + 3) (by omega) dX9_cutsIn_96 (fun H locs hG hS => ?_)
  refine lv_aload_n hx hb dX9_cutsIn_97 rfl (lv_at hl 2 rfl) ?_
  refine lv_dup hx hb dX9_cutsIn_98 rfl ?_
  refine gt_X9_155 X hK hG rd_999 (x := σ.1 901 0) rfl dX9_cutsIn_99 ?_
  refine r_cutH 116 [.int (nI (if 99 ≤ σ.1 901 0 then 0 else 1)), .int (nI (σ.1 901 0)), .ref (L 999 0)] hG hS (fun H locs hG hS => ?_) (fun J_116 => ?_)
  · refine r_addN hx hb dX9_cutsIn_116 ?_
    refine pt_X9_155 X hK hG hS hA rd_999 dX9_cutsIn_117 (fun H locs hG hS => ?_)
    refine lv_aload_n hx hb dX9_cutsIn_120 rfl (lv_at hl 2 rfl) ?_
    refine lv_dup hx hb dX9_cutsIn_121 rfl ?_
    refine gt_X9_158 X hK hG rd_999 (x := σ.1 900 0) rfl dX9_cutsIn_122 ?_
    refine lv_iconst (v := nI 1) hx hb dX9_cutsIn_125 (by decide) ?_
    refine r_addN hx hb dX9_cutsIn_126 ?_
    refine pt_X9_158 X hK hG hS hA rd_999 dX9_cutsIn_127 (fun H locs hG hS => ?_)
    exact rv_ret hx hb hr hlocks hG hS (rfl) dX9_cutsIn_130
  · refine lv_aload_n hx hb dX9_cutsIn_102 rfl (lv_at hl 2 rfl) ?_
    refine gt_X9_155 X hK hG rd_999 (x := σ.1 901 0) rfl dX9_cutsIn_103 ?_
    refine lv_bipush (v := nI 99) hx hb dX9_cutsIn_106 (by decide) ?_
    refine r_icmp_geN (tgt := 115) hx hb dX9_cutsIn_108 (by decide) (by omega) (by omega) (fun c_108 => ?_) (fun c_108 => ?_)
    · refine lv_iconst (v := nI 0) hx hb dX9_cutsIn_115 (by decide) ?_
      exact r_top (by rw [if_pos c_108]) (J_116 _ _ hG hS)
    · refine lv_iconst (v := nI 1) hx hb dX9_cutsIn_111 (by decide) ?_
      refine lv_goto (tgt := 116) hx hb dX9_cutsIn_112 (by decide) ?_
      exact r_top (by rw [if_neg (Nat.not_le.mpr c_108)]) (J_116 _ _ hG hS)
/-- the lowest tool from k on, of f: loaded, of the kind, with some life left by u -/
def tff (l9 kd : Nat → Int32) (u lv : Nat → Nat) (its : Int32) : Nat → Nat → Int32
  | 0, _ => (-1)
  | f + 1, k => if ¬ l9 k = 0 ∧ kd k = its ∧ u k < lv k then nI k else tff l9 kd u lv its f (k + 1)
theorem tff_ix {l9 kd : Nat → Int32} {u lv : Nat → Nat} {its : Int32} : ∀ (f k : Nat), f + k ≤ 16 → ¬ tff l9 kd u lv its f k = (-1) → ix (tff l9 kd u lv its f k) (f + k)
  | 0, k, _, h => absurd rfl h
  | f + 1, k, hb, h => by
    unfold tff at h ⊢
    by_cases c : ¬ l9 k = 0 ∧ kd k = its ∧ u k < lv k
    · rw [if_pos c]
      exact (ix_nI (by omega)).mpr (by omega)
    · rw [if_neg c] at h ⊢
      have := tff_ix f (k + 1) (by omega) h
      rw [show f + 1 + k = f + (k + 1) by omega]
      exact this
theorem tff_lt {l9 kd : Nat → Int32} {u lv : Nat → Nat} {its : Int32} : ∀ (f k : Nat), f + k ≤ 16 → ¬ tff l9 kd u lv its f k = (-1) → u (tn (tff l9 kd u lv its f k)) < lv (tn (tff l9 kd u lv its f k))
  | 0, k, _, h => absurd rfl h
  | f + 1, k, hb, h => by
    unfold tff at h ⊢
    by_cases c : ¬ l9 k = 0 ∧ kd k = its ∧ u k < lv k
    · rw [if_pos c, tn_nI (by omega)]
      exact c.2.2
    · rw [if_neg c] at h ⊢
      exact tff_lt f (k + 1) (by omega) h
def m_tf (U : Nat) (its : Int32) (σ : St) : Int32 := tff (σ.2.2.2 911 0) (σ.2.2.2 906 0) (σ.2.2.1 U 0) (σ.2.2.1 907 0) its (σ.1 914 0) 0
theorem m_tf_ix {U : Nat} {its : Int32} {σ : St} (hT : σ.1 914 0 ≤ 16) (h : ¬ m_tf U its σ = (-1)) : ix (m_tf U its σ) (σ.1 914 0) := tff_ix _ _ hT h
set_option maxRecDepth 100000 in
set_option maxHeartbeats 4000000 in
theorem c_X9_toolFor_908 {D : va_G} {cI cZ cO : ClassId} (l : Launch) (L : Lay) (σ : St) (ow : Nat → Prop) (its : Int32) (hT : σ.1 914 0 ≤ 16) (hu : ∀ k, σ.2.2.1 908 0 k ≤ 500) (hv : ∀ k, σ.2.2.1 907 0 k ≤ 500) : RM D cI cZ cO rdom l yX9_toolFor cX9_toolFor 4 ((some FieldType.int)) 0 0 [.ref (L 999 0), .int its, .ref (L 908 0)] L σ ow (m_tf 908 its σ) σ := by
  refine rm_of rfl (Nat.le_of_ble_eq_true rfl) ?_
  intro p e s m below meth c ls X hK hG hr hlocks hl
  have X : CallFix p m c cX9_toolFor 4 s _ TB RX9 := X
  have hx := X.1
  have hb := X.2.1
  have hS : va_S (AA ow s.heap.size) s.heap s.heap [] := va_S.rf
  have hA : ∀ q, ow q → AA ow s.heap.size q := fun _ h => Or.inl h
  have hl : lv_has ls 4 [(0, .ref (L 999 0)), (1, .int its), (2, .ref (L 908 0))] := hl
  refine lv_iconst (v := nI 0) hx hb dX9_toolFor_0 (by decide) ?_
  refine lv_istore_n (lv' := [(3, .int (nI 0)), (0, .ref (L 999 0)), (1, .int its), (2, .ref (L 908 0))]) hx hb dX9_toolFor_1 rfl hl (by decide) rfl (fun ls hl => ?_)
  refine r_loop (ι := Nat) (fun (k : Nat) => [(0, .ref (L 999 0)), (1, .int its), (2, .ref (L 908 0)), (3, .int (nI k))]) (fun (k : Nat) => σ) (fun (k : Nat) => σ.1 914 0 - k) (fun (k : Nat) => tff (σ.2.2.2 911 0) (σ.2.2.2 906 0) (σ.2.2.1 908 0) (σ.2.2.1 907 0) its (σ.1 914 0) 0 = tff (σ.2.2.2 911 0) (σ.2.2.2 906 0) (σ.2.2.1 908 0) (σ.2.2.1 907 0) its (σ.1 914 0 - k) k ∧ k ≤ σ.1 914 0) 0 (⟨rfl, Nat.zero_le _⟩) hG hS (lv_sub hl [1, 2, 3, 0] rfl) ?_
  rintro k hinv ih H locs ls hG hS hl
  have hG : PW D cI cZ cO rdom L σ ow H := hG
  have hl : lv_has ls 4 [(0, .ref (L 999 0)), (1, .int its), (2, .ref (L 908 0)), (3, .int (nI k))] := hl
  obtain ⟨hq, hk⟩ := hinv
  refine lv_iload_n hx hb dX9_toolFor_2 rfl (lv_at hl 3 rfl) ?_
  refine lv_aload_n hx hb dX9_toolFor_3 rfl (lv_at hl 0 rfl) ?_
  refine gt_X9_118 X hK hG rd_999 (x := σ.1 914 0) rfl dX9_toolFor_4 ?_
  refine r_icmp_geN (tgt := 49) hx hb dX9_toolFor_7 (by decide) (by omega) (by omega) (fun c_7 => ?_) (fun c_7 => ?_)
  · refine lv_iconst (v := (-1)) hx hb dX9_toolFor_49 (by decide) ?_
    exact rm_ret hx hb hr hlocks hG hS ((hq.trans (by rw [show σ.1 914 0 - k = 0 by omega]; rfl)).symm) (rfl) rfl dX9_toolFor_50
  · refine lv_aload_n hx hb dX9_toolFor_10 rfl (lv_at hl 0 rfl) ?_
    refine gt_X9_34 X hK hG rd_999 dX9_toolFor_11 ?_
    refine lv_iload_n hx hb dX9_toolFor_14 rfl (lv_at hl 3 rfl) ?_
    refine al_911 X hK hG rd_911 (i := k) (x := σ.2.2.2 911 0 k) (by omega) rfl dX9_toolFor_15 ?_
    refine lv_if_eq (tgt := 43) hx hb dX9_toolFor_16 (by decide) (fun c_16 => ?_) (fun c_16 => ?_)
    · refine r_iincN (b := 1) (lv' := [(3, .int (nI (k + 1))), (0, .ref (L 999 0)), (1, .int its), (2, .ref (L 908 0))]) hx hb dX9_toolFor_43 hl (k := 3) rfl (by decide) (by decide) rfl (fun ls hl => ?_)
      refine lv_goto (tgt := 2) hx hb dX9_toolFor_46 (by decide) ?_
      exact ih (k + 1) (by show _ - (k + 1) < _ - k; omega) (⟨hq.trans (by rw [show σ.1 914 0 - k = (σ.1 914 0 - (k + 1)) + 1 by omega]; exact if_neg (fun h => h.1 c_16)), by omega⟩) H locs ls hG hS (lv_sub hl [1, 2, 3, 0] rfl)
    · refine lv_aload_n hx hb dX9_toolFor_19 rfl (lv_at hl 0 rfl) ?_
      refine gt_X9_19 X hK hG rd_999 dX9_toolFor_20 ?_
      refine lv_iload_n hx hb dX9_toolFor_23 rfl (lv_at hl 3 rfl) ?_
      refine al_906 X hK hG rd_906 (i := k) (x := σ.2.2.2 906 0 k) (by omega) rfl dX9_toolFor_24 ?_
      refine lv_iload_n hx hb dX9_toolFor_25 rfl (lv_at hl 1 rfl) ?_
      refine lv_icmp_ne (tgt := 43) hx hb dX9_toolFor_26 (by decide) (fun c_26 => ?_) (fun c_26 => ?_)
      · refine r_iincN (b := 1) (lv' := [(3, .int (nI (k + 1))), (0, .ref (L 999 0)), (1, .int its), (2, .ref (L 908 0))]) hx hb dX9_toolFor_43 hl (k := 3) rfl (by decide) (by decide) rfl (fun ls hl => ?_)
        refine lv_goto (tgt := 2) hx hb dX9_toolFor_46 (by decide) ?_
        exact ih (k + 1) (by show _ - (k + 1) < _ - k; omega) (⟨hq.trans (by rw [show σ.1 914 0 - k = (σ.1 914 0 - (k + 1)) + 1 by omega]; exact if_neg (fun h => c_26 h.2.1)), by omega⟩) H locs ls hG hS (lv_sub hl [1, 2, 3, 0] rfl)
      · refine lv_aload_n hx hb dX9_toolFor_29 rfl (lv_at hl 2 rfl) ?_
        refine lv_iload_n hx hb dX9_toolFor_30 rfl (lv_at hl 3 rfl) ?_
        refine al_908 X hK hG rd_908 (i := k) (x := σ.2.2.1 908 0 k) (by omega) rfl dX9_toolFor_31 ?_
        refine lv_aload_n hx hb dX9_toolFor_32 rfl (lv_at hl 0 rfl) ?_
        refine gt_X9_22 X hK hG rd_999 dX9_toolFor_33 ?_
        refine lv_iload_n hx hb dX9_toolFor_36 rfl (lv_at hl 3 rfl) ?_
        refine al_907 X hK hG rd_907 (i := k) (x := σ.2.2.1 907 0 k) (by omega) rfl dX9_toolFor_37 ?_
        refine r_icmp_geN (tgt := 43) hx hb dX9_toolFor_38 (by decide) (by have := hu k; omega) (by have := hv k; omega) (fun c_38 => ?_) (fun c_38 => ?_)
        · refine r_iincN (b := 1) (lv' := [(3, .int (nI (k + 1))), (0, .ref (L 999 0)), (1, .int its), (2, .ref (L 908 0))]) hx hb dX9_toolFor_43 hl (k := 3) rfl (by decide) (by decide) rfl (fun ls hl => ?_)
          refine lv_goto (tgt := 2) hx hb dX9_toolFor_46 (by decide) ?_
          exact ih (k + 1) (by show _ - (k + 1) < _ - k; omega) (⟨hq.trans (by rw [show σ.1 914 0 - k = (σ.1 914 0 - (k + 1)) + 1 by omega]; exact if_neg (fun h => absurd h.2.2 (Nat.not_lt.mpr c_38))), by omega⟩) H locs ls hG hS (lv_sub hl [1, 2, 3, 0] rfl)
        · refine lv_iload_n hx hb dX9_toolFor_41 rfl (lv_at hl 3 rfl) ?_
          exact rm_ret hx hb hr hlocks hG hS ((hq.trans (by rw [show σ.1 914 0 - k = (σ.1 914 0 - (k + 1)) + 1 by omega]; exact if_pos ⟨c_16, c_26, c_38⟩)).symm) (rfl) rfl dX9_toolFor_42
set_option maxRecDepth 100000 in
set_option maxHeartbeats 4000000 in
theorem c_X9_toolFor_909 {D : va_G} {cI cZ cO : ClassId} (l : Launch) (L : Lay) (σ : St) (ow : Nat → Prop) (its : Int32) (hT : σ.1 914 0 ≤ 16) (hu : ∀ k, σ.2.2.1 909 0 k ≤ 500) (hv : ∀ k, σ.2.2.1 907 0 k ≤ 500) : RM D cI cZ cO rdom l yX9_toolFor cX9_toolFor 4 ((some FieldType.int)) 0 0 [.ref (L 999 0), .int its, .ref (L 909 0)] L σ ow (m_tf 909 its σ) σ := by
  refine rm_of rfl (Nat.le_of_ble_eq_true rfl) ?_
  intro p e s m below meth c ls X hK hG hr hlocks hl
  have X : CallFix p m c cX9_toolFor 4 s _ TB RX9 := X
  have hx := X.1
  have hb := X.2.1
  have hS : va_S (AA ow s.heap.size) s.heap s.heap [] := va_S.rf
  have hA : ∀ q, ow q → AA ow s.heap.size q := fun _ h => Or.inl h
  have hl : lv_has ls 4 [(0, .ref (L 999 0)), (1, .int its), (2, .ref (L 909 0))] := hl
  refine lv_iconst (v := nI 0) hx hb dX9_toolFor_0 (by decide) ?_
  refine lv_istore_n (lv' := [(3, .int (nI 0)), (0, .ref (L 999 0)), (1, .int its), (2, .ref (L 909 0))]) hx hb dX9_toolFor_1 rfl hl (by decide) rfl (fun ls hl => ?_)
  refine r_loop (ι := Nat) (fun (k : Nat) => [(0, .ref (L 999 0)), (1, .int its), (2, .ref (L 909 0)), (3, .int (nI k))]) (fun (k : Nat) => σ) (fun (k : Nat) => σ.1 914 0 - k) (fun (k : Nat) => tff (σ.2.2.2 911 0) (σ.2.2.2 906 0) (σ.2.2.1 909 0) (σ.2.2.1 907 0) its (σ.1 914 0) 0 = tff (σ.2.2.2 911 0) (σ.2.2.2 906 0) (σ.2.2.1 909 0) (σ.2.2.1 907 0) its (σ.1 914 0 - k) k ∧ k ≤ σ.1 914 0) 0 (⟨rfl, Nat.zero_le _⟩) hG hS (lv_sub hl [1, 2, 3, 0] rfl) ?_
  rintro k hinv ih H locs ls hG hS hl
  have hG : PW D cI cZ cO rdom L σ ow H := hG
  have hl : lv_has ls 4 [(0, .ref (L 999 0)), (1, .int its), (2, .ref (L 909 0)), (3, .int (nI k))] := hl
  obtain ⟨hq, hk⟩ := hinv
  refine lv_iload_n hx hb dX9_toolFor_2 rfl (lv_at hl 3 rfl) ?_
  refine lv_aload_n hx hb dX9_toolFor_3 rfl (lv_at hl 0 rfl) ?_
  refine gt_X9_118 X hK hG rd_999 (x := σ.1 914 0) rfl dX9_toolFor_4 ?_
  refine r_icmp_geN (tgt := 49) hx hb dX9_toolFor_7 (by decide) (by omega) (by omega) (fun c_7 => ?_) (fun c_7 => ?_)
  · refine lv_iconst (v := (-1)) hx hb dX9_toolFor_49 (by decide) ?_
    exact rm_ret hx hb hr hlocks hG hS ((hq.trans (by rw [show σ.1 914 0 - k = 0 by omega]; rfl)).symm) (rfl) rfl dX9_toolFor_50
  · refine lv_aload_n hx hb dX9_toolFor_10 rfl (lv_at hl 0 rfl) ?_
    refine gt_X9_34 X hK hG rd_999 dX9_toolFor_11 ?_
    refine lv_iload_n hx hb dX9_toolFor_14 rfl (lv_at hl 3 rfl) ?_
    refine al_911 X hK hG rd_911 (i := k) (x := σ.2.2.2 911 0 k) (by omega) rfl dX9_toolFor_15 ?_
    refine lv_if_eq (tgt := 43) hx hb dX9_toolFor_16 (by decide) (fun c_16 => ?_) (fun c_16 => ?_)
    · refine r_iincN (b := 1) (lv' := [(3, .int (nI (k + 1))), (0, .ref (L 999 0)), (1, .int its), (2, .ref (L 909 0))]) hx hb dX9_toolFor_43 hl (k := 3) rfl (by decide) (by decide) rfl (fun ls hl => ?_)
      refine lv_goto (tgt := 2) hx hb dX9_toolFor_46 (by decide) ?_
      exact ih (k + 1) (by show _ - (k + 1) < _ - k; omega) (⟨hq.trans (by rw [show σ.1 914 0 - k = (σ.1 914 0 - (k + 1)) + 1 by omega]; exact if_neg (fun h => h.1 c_16)), by omega⟩) H locs ls hG hS (lv_sub hl [1, 2, 3, 0] rfl)
    · refine lv_aload_n hx hb dX9_toolFor_19 rfl (lv_at hl 0 rfl) ?_
      refine gt_X9_19 X hK hG rd_999 dX9_toolFor_20 ?_
      refine lv_iload_n hx hb dX9_toolFor_23 rfl (lv_at hl 3 rfl) ?_
      refine al_906 X hK hG rd_906 (i := k) (x := σ.2.2.2 906 0 k) (by omega) rfl dX9_toolFor_24 ?_
      refine lv_iload_n hx hb dX9_toolFor_25 rfl (lv_at hl 1 rfl) ?_
      refine lv_icmp_ne (tgt := 43) hx hb dX9_toolFor_26 (by decide) (fun c_26 => ?_) (fun c_26 => ?_)
      · refine r_iincN (b := 1) (lv' := [(3, .int (nI (k + 1))), (0, .ref (L 999 0)), (1, .int its), (2, .ref (L 909 0))]) hx hb dX9_toolFor_43 hl (k := 3) rfl (by decide) (by decide) rfl (fun ls hl => ?_)
        refine lv_goto (tgt := 2) hx hb dX9_toolFor_46 (by decide) ?_
        exact ih (k + 1) (by show _ - (k + 1) < _ - k; omega) (⟨hq.trans (by rw [show σ.1 914 0 - k = (σ.1 914 0 - (k + 1)) + 1 by omega]; exact if_neg (fun h => c_26 h.2.1)), by omega⟩) H locs ls hG hS (lv_sub hl [1, 2, 3, 0] rfl)
      · refine lv_aload_n hx hb dX9_toolFor_29 rfl (lv_at hl 2 rfl) ?_
        refine lv_iload_n hx hb dX9_toolFor_30 rfl (lv_at hl 3 rfl) ?_
        refine al_909 X hK hG rd_909 (i := k) (x := σ.2.2.1 909 0 k) (by omega) rfl dX9_toolFor_31 ?_
        refine lv_aload_n hx hb dX9_toolFor_32 rfl (lv_at hl 0 rfl) ?_
        refine gt_X9_22 X hK hG rd_999 dX9_toolFor_33 ?_
        refine lv_iload_n hx hb dX9_toolFor_36 rfl (lv_at hl 3 rfl) ?_
        refine al_907 X hK hG rd_907 (i := k) (x := σ.2.2.1 907 0 k) (by omega) rfl dX9_toolFor_37 ?_
        refine r_icmp_geN (tgt := 43) hx hb dX9_toolFor_38 (by decide) (by have := hu k; omega) (by have := hv k; omega) (fun c_38 => ?_) (fun c_38 => ?_)
        · refine r_iincN (b := 1) (lv' := [(3, .int (nI (k + 1))), (0, .ref (L 999 0)), (1, .int its), (2, .ref (L 909 0))]) hx hb dX9_toolFor_43 hl (k := 3) rfl (by decide) (by decide) rfl (fun ls hl => ?_)
          refine lv_goto (tgt := 2) hx hb dX9_toolFor_46 (by decide) ?_
          exact ih (k + 1) (by show _ - (k + 1) < _ - k; omega) (⟨hq.trans (by rw [show σ.1 914 0 - k = (σ.1 914 0 - (k + 1)) + 1 by omega]; exact if_neg (fun h => absurd h.2.2 (Nat.not_lt.mpr c_38))), by omega⟩) H locs ls hG hS (lv_sub hl [1, 2, 3, 0] rfl)
        · refine lv_iload_n hx hb dX9_toolFor_41 rfl (lv_at hl 3 rfl) ?_
          exact rm_ret hx hb hr hlocks hG hS ((hq.trans (by rw [show σ.1 914 0 - k = (σ.1 914 0 - (k + 1)) + 1 by omega]; exact if_pos ⟨c_16, c_26, c_38⟩)).symm) (rfl) rfl dX9_toolFor_42
/-- what a walk's state keeps: where the spindle is, its tool's kind, the tools -/
def SI (σ : St) : Prop := σ.2.2.1 937 0 0 < 12 ∧ σ.2.2.1 937 0 1 < 12 ∧ σ.2.2.1 937 0 2 < 10 ∧ (¬ σ.2.1 942 0 = (-1) → ix (σ.2.1 942 0) 4) ∧ σ.1 914 0 ≤ 16 ∧ (∀ k, σ.2.2.1 907 0 k ≤ 500) ∧ (∀ k, σ.2.2.1 908 0 k ≤ 500) ∧ (∀ k, σ.2.2.1 909 0 k ≤ 500) ∧ σ.1 901 0 ≤ 99
def m_step0 (p9 fr : Nat) (σ : St) : Int32 × St := if fr ≤ (σ.1 943 0) then (if (nI (σ.2.2.1 937 0 2)) < (σ.2.2.2 916 0 (144 * p9 + ((12 * (σ.2.2.1 937 0 1)) + (σ.2.2.1 937 0 0)))) then (nI 3, σ) else (if ¬ (nI (σ.2.2.1 937 0 2) < σ.2.2.2 935 0 (12 * σ.2.2.1 937 0 1 + σ.2.2.1 937 0 0)) then (nI 0, (wN σ 943 0 ((σ.1 943 0) + 1))) else (if (σ.2.1 940 0) = 0 then (nI 3, σ) else (if ¬ (σ.2.1 942 0) = (-1) then (nI 0, (wN (wB (wA σ 936 0 (tn (σ.2.1 942 0)) ((σ.2.2.1 936 0 (tn (σ.2.1 942 0))) + 1)) 935 0 ((12 * (σ.2.2.1 937 0 1)) + (σ.2.2.1 937 0 0)) (nI (σ.2.2.1 937 0 2))) 943 0 ((σ.1 943 0) + 1))) else (nI 3, σ))))) else (nI 0, (wN σ 943 0 ((σ.1 943 0) + 1)))
set_option maxRecDepth 100000 in
set_option maxHeartbeats 4000000 in
theorem c_X9_step0 {D : va_G} {cI cZ cO : ClassId} (l : Launch) (L : Lay) (σ : St) (ow : Nat → Prop) (p9 fr : Nat) (hp : p9 < 6) (hfr : fr < 100000) (hst : σ.1 943 0 < 100000) (hs : SI σ) : RM D cI cZ cO rdom l yX9_step cX9_step 8 ((some FieldType.int)) 0 0 [.ref (L 999 0), .int (nI p9), .int (nI fr), .int (nI 0)] L σ ow ((m_step0 p9 fr σ).1) ((m_step0 p9 fr σ).2) := by
  refine rm_of rfl (Nat.le_of_ble_eq_true rfl) ?_
  intro p e s m below meth c ls X hK hG hr hlocks hl
  have X : CallFix p m c cX9_step 8 s _ TB RX9 := X
  have hx := X.1
  have hb := X.2.1
  have hS : va_S (AA ow s.heap.size) s.heap s.heap [] := va_S.rf
  have hA : ∀ q, ow q → AA ow s.heap.size q := fun _ h => Or.inl h
  have hl : lv_has ls 8 [(0, .ref (L 999 0)), (1, .int (nI p9)), (2, .int (nI fr)), (3, .int (nI 0))] := hl
  refine lv_aload_n hx hb dX9_step_0 rfl (lv_at hl 0 rfl) ?_
  refine gt_X9_161 X hK hG rd_999 (x := σ.1 943 0) rfl dX9_step_1 ?_
  refine lv_iload_n hx hb dX9_step_4 rfl (lv_at hl 2 rfl) ?_
  refine r_icmp_geN (tgt := 20) hx hb dX9_step_5 (by decide) (by omega) (by omega) (fun c_5 => ?_) (fun c_5 => ?_)
  · refine lv_bipush (v := nI 12) hx hb dX9_step_20 (by decide) ?_
    refine lv_aload_n hx hb dX9_step_22 rfl (lv_at hl 0 rfl) ?_
    refine gt_X9_98 X hK hG rd_999 dX9_step_23 ?_
    refine lv_iconst (v := nI 1) hx hb dX9_step_26 (by decide) ?_
    refine al_937 X hK hG rd_937 (i := 1) (x := σ.2.2.1 937 0 1) (by decide) rfl dX9_step_27 ?_
    refine r_mulN hx hb dX9_step_28 ?_
    refine lv_aload_n hx hb dX9_step_29 rfl (lv_at hl 0 rfl) ?_
    refine gt_X9_98 X hK hG rd_999 dX9_step_30 ?_
    refine lv_iconst (v := nI 0) hx hb dX9_step_33 (by decide) ?_
    refine al_937 X hK hG rd_937 (i := 0) (x := σ.2.2.1 937 0 0) (by decide) rfl dX9_step_34 ?_
    refine r_addN hx hb dX9_step_35 ?_
    refine lv_istore (lv' := [(4, .int (nI ((12 * (σ.2.2.1 937 0 1)) + (σ.2.2.1 937 0 0)))), (0, .ref (L 999 0)), (1, .int (nI p9)), (2, .int (nI fr)), (3, .int (nI 0))]) hx hb dX9_step_36 hl (by decide) rfl (fun ls hl => ?_)
    refine r_cutH 59 [.int (b2i (nI (σ.2.2.1 937 0 2) < σ.2.2.2 935 0 (12 * σ.2.2.1 937 0 1 + σ.2.2.1 937 0 0)))] hG hS (fun H locs hG hS => ?_) (fun J_59 => ?_)
    · refine lv_istore (lv' := [(5, .int (b2i (nI (σ.2.2.1 937 0 2) < σ.2.2.2 935 0 (12 * σ.2.2.1 937 0 1 + σ.2.2.1 937 0 0)))), (4, .int (nI ((12 * (σ.2.2.1 937 0 1)) + (σ.2.2.1 937 0 0)))), (0, .ref (L 999 0)), (1, .int (nI p9)), (2, .int (nI fr)), (3, .int (nI 0))]) hx hb dX9_step_59 hl (by decide) rfl (fun ls hl => ?_)
      refine lv_aload_n hx hb dX9_step_61 rfl (lv_at hl 2 rfl) ?_
      refine gt_X9_98 X hK hG rd_999 dX9_step_62 ?_
      refine lv_iconst (v := nI 2) hx hb dX9_step_65 (by decide) ?_
      refine al_937 X hK hG rd_937 (i := 2) (x := σ.2.2.1 937 0 2) (by decide) rfl dX9_step_66 ?_
      refine lv_aload_n hx hb dX9_step_67 rfl (lv_at hl 2 rfl) ?_
      refine gt_X9_47 X hK hG rd_999 dX9_step_68 ?_
      refine lv_sipush (v := nI 144) hx hb dX9_step_71 (by decide) ?_
      refine lv_iload_n hx hb dX9_step_74 rfl (lv_at hl 3 rfl) ?_
      refine r_mulN hx hb dX9_step_75 ?_
      refine lv_iload hx hb dX9_step_76 (lv_at hl 1 rfl) ?_
      refine r_addN hx hb dX9_step_78 ?_
      refine al_916 X hK hG rd_916 (i := 144 * p9 + ((12 * (σ.2.2.1 937 0 1)) + (σ.2.2.1 937 0 0))) (x := σ.2.2.2 916 0 (144 * p9 + ((12 * (σ.2.2.1 937 0 1)) + (σ.2.2.1 937 0 0)))) (by have := hs.1; have := hs.2.1; omega) rfl dX9_step_79 ?_
      refine lv_icmp_lt (tgt := 103) hx hb dX9_step_80 (by decide) (fun c_80 => ?_) (fun c_80 => ?_)
      · refine lv_iconst (v := nI 3) hx hb dX9_step_103 (by decide) ?_
        exact rm_ret hx hb hr hlocks hG hS (by unfold m_step0; rw [if_pos c_5, if_pos c_80] <;> rfl) (by unfold m_step0; rw [if_pos c_5, if_pos c_80] <;> rfl) rfl dX9_step_104
      · refine lv_iload hx hb dX9_step_83 (lv_at hl 0 rfl) ?_
        refine r_if_eqB (tgt := 105) hx hb dX9_step_85 (by decide) (fun c_85 => ?_) (fun c_85 => ?_)
        · refine lv_iload hx hb dX9_step_105 (lv_at hl 0 rfl) ?_
          refine r_if_eqB (tgt := 213) hx hb dX9_step_107 (by decide) (fun c_107 => ?_) (fun c_107 => (by first | exact absurd c_85 c_107 | exact absurd c_107 c_85 | omega))
          refine lv_aload_n hx hb dX9_step_213 rfl (lv_at hl 2 rfl) ?_
          refine lv_dup hx hb dX9_step_214 rfl ?_
          refine gt_X9_161 X hK hG rd_999 (x := σ.1 943 0) rfl dX9_step_215 ?_
          refine lv_iconst (v := nI 1) hx hb dX9_step_218 (by decide) ?_
          refine r_addN hx hb dX9_step_219 ?_
          refine pt_X9_161 X hK hG hS hA rd_999 dX9_step_220 (fun H locs hG hS => ?_)
          refine lv_iconst (v := nI 0) hx hb dX9_step_223 (by decide) ?_
          exact rm_ret hx hb hr hlocks hG hS (by unfold m_step0; rw [if_pos c_5, if_neg c_80, if_pos c_85] <;> rfl) (by unfold m_step0; rw [if_pos c_5, if_neg c_80, if_pos c_85] <;> rfl) rfl dX9_step_224
        · refine lv_aload_n hx hb dX9_step_88 rfl (lv_at hl 2 rfl) ?_
          refine gt_X9_164 X hK hG rd_999 (x := σ.2.1 940 0) rfl dX9_step_89 ?_
          refine lv_if_eq (tgt := 103) hx hb dX9_step_92 (by decide) (fun c_92 => ?_) (fun c_92 => ?_)
          · refine lv_iconst (v := nI 3) hx hb dX9_step_103 (by decide) ?_
            exact rm_ret hx hb hr hlocks hG hS (by unfold m_step0; rw [if_pos c_5, if_neg c_80, if_neg (not_not_intro9 c_85), if_pos c_92] <;> rfl) (by unfold m_step0; rw [if_pos c_5, if_neg c_80, if_neg (not_not_intro9 c_85), if_pos c_92] <;> rfl) rfl dX9_step_104
          · refine lv_aload_n hx hb dX9_step_95 rfl (lv_at hl 2 rfl) ?_
            refine gt_X9_167 X hK hG rd_999 (x := σ.2.1 942 0) rfl dX9_step_96 ?_
            refine lv_iconst (v := (-1)) hx hb dX9_step_99 (by decide) ?_
            refine lv_icmp_ne (tgt := 105) hx hb dX9_step_100 (by decide) (fun c_100 => ?_) (fun c_100 => ?_)
            · refine lv_iload hx hb dX9_step_105 (lv_at hl 0 rfl) ?_
              refine r_if_eqB (tgt := 213) hx hb dX9_step_107 (by decide) (fun c_107 => (by first | exact absurd c_85 c_107 | exact absurd c_107 c_85 | omega)) (fun c_107 => ?_)
              refine lv_iload_n hx hb dX9_step_110 rfl (lv_at hl 5 rfl) ?_
              refine lv_iconst (v := nI 2) hx hb dX9_step_111 (by decide) ?_
              refine r_icmp_neN (tgt := 122) hx hb dX9_step_112 (by decide) (by omega) (by omega) (fun c_112 => ?_) (fun c_112 => absurd c_112 (by decide))
              refine lv_aload_n hx hb dX9_step_122 rfl (lv_at hl 2 rfl) ?_
              refine gt_X9_28 X hK hG rd_999 dX9_step_123 ?_
              refine lv_astore (lv' := [(6, .ref (L 909 0)), (5, .int (b2i (nI (σ.2.2.1 937 0 2) < σ.2.2.2 935 0 (12 * σ.2.2.1 937 0 1 + σ.2.2.1 937 0 0)))), (4, .int (nI ((12 * (σ.2.2.1 937 0 1)) + (σ.2.2.1 937 0 0)))), (0, .ref (L 999 0)), (1, .int (nI p9)), (2, .int (nI fr)), (3, .int (nI 0))]) hx hb dX9_step_126 hl (by decide) rfl (fun ls hl => ?_)
              refine lv_iload_n hx hb dX9_step_128 rfl (lv_at hl 6 rfl) ?_
              refine r_if_neN (tgt := 136) hx hb dX9_step_129 (by decide) (by omega) (fun c_129 => absurd c_129 (by decide)) (fun c_129 => ?_)
              refine lv_iconst (v := (-1)) hx hb dX9_step_132 (by decide) ?_
              refine lv_goto (tgt := 146) hx hb dX9_step_133 (by decide) ?_
              refine lv_istore (lv' := [(7, .int (-1)), (6, .ref (L 909 0)), (5, .int (b2i (nI (σ.2.2.1 937 0 2) < σ.2.2.2 935 0 (12 * σ.2.2.1 937 0 1 + σ.2.2.1 937 0 0)))), (4, .int (nI ((12 * (σ.2.2.1 937 0 1)) + (σ.2.2.1 937 0 0)))), (0, .ref (L 999 0)), (1, .int (nI p9)), (2, .int (nI fr)), (3, .int (nI 0))]) hx hb dX9_step_146 hl (by decide) rfl (fun ls hl => ?_)
              refine lv_iload_n hx hb dX9_step_148 rfl (lv_at hl 7 rfl) ?_
              refine r_if_leN (tgt := 160) hx hb dX9_step_149 (by decide) (by omega) (fun c_149 => ?_) (fun c_149 => absurd c_149 (by decide))
              refine lv_iload_n hx hb dX9_step_160 rfl (lv_at hl 7 rfl) ?_
              refine lv_iconst (v := nI 2) hx hb dX9_step_161 (by decide) ?_
              refine r_icmp_neN (tgt := 174) hx hb dX9_step_162 (by decide) (by omega) (by omega) (fun c_162 => ?_) (fun c_162 => absurd c_162 (by decide))
              refine lv_iload_n hx hb dX9_step_174 rfl (lv_at hl 7 rfl) ?_
              refine r_if_leN (tgt := 187) hx hb dX9_step_175 (by decide) (by omega) (fun c_175 => ?_) (fun c_175 => absurd c_175 (by decide))
              refine lv_aload_n hx hb dX9_step_187 rfl (lv_at hl 4 rfl) ?_
              refine gt_X9_95 X hK hG rd_999 dX9_step_188 ?_
              refine lv_aload_n hx hb dX9_step_191 rfl (lv_at hl 4 rfl) ?_
              refine gt_X9_167 X hK hG rd_999 (x := σ.2.1 942 0) rfl dX9_step_192 ?_
              refine r_top (y := nI (tn (σ.2.1 942 0))) (ix_eq (hs.2.2.2.1 c_100)) ?_
              refine lv_dup2_11 hx hb dX9_step_195 rfl rfl ?_
              refine al_936 X hK hG rd_936 (i := tn (σ.2.1 942 0)) (x := σ.2.2.1 936 0 (tn (σ.2.1 942 0))) (ix_lt (hs.2.2.2.1 c_100)) rfl dX9_step_196 ?_
              refine lv_iconst (v := nI 1) hx hb dX9_step_197 (by decide) ?_
              refine r_addN hx hb dX9_step_198 ?_
              refine as_936 X hK hG hS hA rd_936 (i := tn (σ.2.1 942 0)) (ix_lt (hs.2.2.2.1 c_100)) dX9_step_199 (fun H locs hG hS => ?_)
              refine lv_aload_n hx hb dX9_step_200 rfl (lv_at hl 4 rfl) ?_
              refine gt_X9_92 X hK hG rd_999 dX9_step_201 ?_
              refine lv_iload hx hb dX9_step_204 (lv_at hl 3 rfl) ?_
              refine lv_aload_n hx hb dX9_step_206 rfl (lv_at hl 4 rfl) ?_
              refine gt_X9_98 X hK hG rd_999 dX9_step_207 ?_
              refine lv_iconst (v := nI 2) hx hb dX9_step_210 (by decide) ?_
              refine al_937 X hK hG rd_937 (i := 2) (x := σ.2.2.1 937 0 2) (by decide) rfl dX9_step_211 ?_
              refine as_935 X hK hG hS hA rd_935 (i := (12 * (σ.2.2.1 937 0 1)) + (σ.2.2.1 937 0 0)) (by have := hs.1; have := hs.2.1; omega) dX9_step_212 (fun H locs hG hS => ?_)
              refine lv_aload_n hx hb dX9_step_213 rfl (lv_at hl 4 rfl) ?_
              refine lv_dup hx hb dX9_step_214 rfl ?_
              refine gt_X9_161 X hK hG rd_999 (x := σ.1 943 0) rfl dX9_step_215 ?_
              refine lv_iconst (v := nI 1) hx hb dX9_step_218 (by decide) ?_
              refine r_addN hx hb dX9_step_219 ?_
              refine pt_X9_161 X hK hG hS hA rd_999 dX9_step_220 (fun H locs hG hS => ?_)
              refine lv_iconst (v := nI 0) hx hb dX9_step_223 (by decide) ?_
              exact rm_ret hx hb hr hlocks hG hS (by unfold m_step0; rw [if_pos c_5, if_neg c_80, if_neg (not_not_intro9 c_85), if_neg c_92, if_pos c_100] <;> rfl) (by unfold m_step0; rw [if_pos c_5, if_neg c_80, if_neg (not_not_intro9 c_85), if_neg c_92, if_pos c_100] <;> rfl) rfl dX9_step_224
            · refine lv_iconst (v := nI 3) hx hb dX9_step_103 (by decide) ?_
              exact rm_ret hx hb hr hlocks hG hS (by unfold m_step0; rw [if_pos c_5, if_neg c_80, if_neg (not_not_intro9 c_85), if_neg c_92, if_neg (not_not_intro9 c_100)] <;> rfl) (by unfold m_step0; rw [if_pos c_5, if_neg c_80, if_neg (not_not_intro9 c_85), if_neg c_92, if_neg (not_not_intro9 c_100)] <;> rfl) rfl dX9_step_104
    · refine lv_aload_n hx hb dX9_step_38 rfl (lv_at hl 1 rfl) ?_
      refine gt_X9_98 X hK hG rd_999 dX9_step_39 ?_
      refine lv_iconst (v := nI 2) hx hb dX9_step_42 (by decide) ?_
      refine al_937 X hK hG rd_937 (i := 2) (x := σ.2.2.1 937 0 2) (by decide) rfl dX9_step_43 ?_
      refine lv_aload_n hx hb dX9_step_44 rfl (lv_at hl 1 rfl) ?_
      refine gt_X9_92 X hK hG rd_999 dX9_step_45 ?_
      refine lv_iload hx hb dX9_step_48 (lv_at hl 0 rfl) ?_
      refine al_935 X hK hG rd_935 (i := (12 * (σ.2.2.1 937 0 1)) + (σ.2.2.1 937 0 0)) (x := σ.2.2.2 935 0 ((12 * (σ.2.2.1 937 0 1)) + (σ.2.2.1 937 0 0))) (by have := hs.1; have := hs.2.1; omega) rfl dX9_step_50 ?_
      refine lv_icmp_ge (tgt := 58) hx hb dX9_step_51 (by decide) (fun c_51 => ?_) (fun c_51 => ?_)
      · refine lv_iconst (v := nI 0) hx hb dX9_step_58 (by decide) ?_
        exact r_top ((b2i_f (fun h => fa_lt_le h c_51)).symm) (J_59 _ _ hG hS)
      · refine lv_iconst (v := nI 1) hx hb dX9_step_54 (by decide) ?_
        refine lv_goto (tgt := 59) hx hb dX9_step_55 (by decide) ?_
        exact r_top ((b2i_t (fa_of_nle c_51)).symm) (J_59 _ _ hG hS)
  · refine lv_aload_n hx hb dX9_step_8 rfl (lv_at hl 0 rfl) ?_
    refine lv_dup hx hb dX9_step_9 rfl ?_
    refine gt_X9_161 X hK hG rd_999 (x := σ.1 943 0) rfl dX9_step_10 ?_
    refine lv_iconst (v := nI 1) hx hb dX9_step_13 (by decide) ?_
    refine r_addN hx hb dX9_step_14 ?_
    refine pt_X9_161 X hK hG hS hA rd_999 dX9_step_15 (fun H locs hG hS => ?_)
    refine lv_iconst (v := nI 0) hx hb dX9_step_18 (by decide) ?_
    exact rm_ret hx hb hr hlocks hG hS (by unfold m_step0; rw [if_neg (Nat.not_le.mpr c_5)] <;> rfl) (by unfold m_step0; rw [if_neg (Nat.not_le.mpr c_5)] <;> rfl) rfl dX9_step_19
def m_step1 (p9 fr : Nat) (σ : St) : Int32 × St := if fr ≤ (σ.1 943 0) then (if (nI (σ.2.2.1 937 0 2)) < (σ.2.2.2 916 0 (144 * p9 + ((12 * (σ.2.2.1 937 0 1)) + (σ.2.2.1 937 0 0)))) then (nI 3, σ) else (if ¬ (nI (σ.2.2.1 937 0 2) < σ.2.2.2 935 0 (12 * σ.2.2.1 937 0 1 + σ.2.2.1 937 0 0)) then (nI 0, (wN σ 943 0 ((σ.1 943 0) + 1))) else (if (σ.2.1 940 0) = 0 then (nI 3, σ) else (if ¬ (σ.2.1 942 0) = (-1) then (if ¬ (m_tf 909 (σ.2.1 942 0) σ) = (-1) then (nI 0, (wN (wB (wA (wA σ 909 0 (tn (m_tf 909 (σ.2.1 942 0) σ)) ((σ.2.2.1 909 0 (tn (m_tf 909 (σ.2.1 942 0) σ))) + 1)) 936 0 (tn (σ.2.1 942 0)) ((σ.2.2.1 936 0 (tn (σ.2.1 942 0))) + 1)) 935 0 ((12 * (σ.2.2.1 937 0 1)) + (σ.2.2.1 937 0 0)) (nI (σ.2.2.1 937 0 2))) 943 0 ((σ.1 943 0) + 1))) else ((-1), σ)) else (nI 3, σ))))) else (nI 0, (wN σ 943 0 ((σ.1 943 0) + 1)))
set_option maxRecDepth 100000 in
set_option maxHeartbeats 4000000 in
theorem c_X9_step1 {D : va_G} {cI cZ cO : ClassId} (l : Launch) (L : Lay) (σ : St) (ow : Nat → Prop) (p9 fr : Nat) (hp : p9 < 6) (hfr : fr < 100000) (hst : σ.1 943 0 < 100000) (hs : SI σ) : RM D cI cZ cO rdom l yX9_step cX9_step 8 ((some FieldType.int)) 1 23 [.ref (L 999 0), .int (nI p9), .int (nI fr), .int (nI 1)] L σ ow ((m_step1 p9 fr σ).1) ((m_step1 p9 fr σ).2) := by
  refine rm_of rfl (Nat.le_of_ble_eq_true rfl) ?_
  intro p e s m below meth c ls X hK hG hr hlocks hl
  have X : CallFix p m c cX9_step 8 s _ TB RX9 := X
  have hx := X.1
  have hb := X.2.1
  have hS : va_S (AA ow s.heap.size) s.heap s.heap [] := va_S.rf
  have hA : ∀ q, ow q → AA ow s.heap.size q := fun _ h => Or.inl h
  have hl : lv_has ls 8 [(0, .ref (L 999 0)), (1, .int (nI p9)), (2, .int (nI fr)), (3, .int (nI 1))] := hl
  refine lv_aload_n hx hb dX9_step_0 rfl (lv_at hl 0 rfl) ?_
  refine gt_X9_161 X hK hG rd_999 (x := σ.1 943 0) rfl dX9_step_1 ?_
  refine lv_iload_n hx hb dX9_step_4 rfl (lv_at hl 2 rfl) ?_
  refine r_icmp_geN (tgt := 20) hx hb dX9_step_5 (by decide) (by omega) (by omega) (fun c_5 => ?_) (fun c_5 => ?_)
  · refine lv_bipush (v := nI 12) hx hb dX9_step_20 (by decide) ?_
    refine lv_aload_n hx hb dX9_step_22 rfl (lv_at hl 0 rfl) ?_
    refine gt_X9_98 X hK hG rd_999 dX9_step_23 ?_
    refine lv_iconst (v := nI 1) hx hb dX9_step_26 (by decide) ?_
    refine al_937 X hK hG rd_937 (i := 1) (x := σ.2.2.1 937 0 1) (by decide) rfl dX9_step_27 ?_
    refine r_mulN hx hb dX9_step_28 ?_
    refine lv_aload_n hx hb dX9_step_29 rfl (lv_at hl 0 rfl) ?_
    refine gt_X9_98 X hK hG rd_999 dX9_step_30 ?_
    refine lv_iconst (v := nI 0) hx hb dX9_step_33 (by decide) ?_
    refine al_937 X hK hG rd_937 (i := 0) (x := σ.2.2.1 937 0 0) (by decide) rfl dX9_step_34 ?_
    refine r_addN hx hb dX9_step_35 ?_
    refine lv_istore (lv' := [(4, .int (nI ((12 * (σ.2.2.1 937 0 1)) + (σ.2.2.1 937 0 0)))), (0, .ref (L 999 0)), (1, .int (nI p9)), (2, .int (nI fr)), (3, .int (nI 1))]) hx hb dX9_step_36 hl (by decide) rfl (fun ls hl => ?_)
    refine r_cutH 59 [.int (b2i (nI (σ.2.2.1 937 0 2) < σ.2.2.2 935 0 (12 * σ.2.2.1 937 0 1 + σ.2.2.1 937 0 0)))] hG hS (fun H locs hG hS => ?_) (fun J_59 => ?_)
    · refine lv_istore (lv' := [(5, .int (b2i (nI (σ.2.2.1 937 0 2) < σ.2.2.2 935 0 (12 * σ.2.2.1 937 0 1 + σ.2.2.1 937 0 0)))), (4, .int (nI ((12 * (σ.2.2.1 937 0 1)) + (σ.2.2.1 937 0 0)))), (0, .ref (L 999 0)), (1, .int (nI p9)), (2, .int (nI fr)), (3, .int (nI 1))]) hx hb dX9_step_59 hl (by decide) rfl (fun ls hl => ?_)
      refine lv_aload_n hx hb dX9_step_61 rfl (lv_at hl 2 rfl) ?_
      refine gt_X9_98 X hK hG rd_999 dX9_step_62 ?_
      refine lv_iconst (v := nI 2) hx hb dX9_step_65 (by decide) ?_
      refine al_937 X hK hG rd_937 (i := 2) (x := σ.2.2.1 937 0 2) (by decide) rfl dX9_step_66 ?_
      refine lv_aload_n hx hb dX9_step_67 rfl (lv_at hl 2 rfl) ?_
      refine gt_X9_47 X hK hG rd_999 dX9_step_68 ?_
      refine lv_sipush (v := nI 144) hx hb dX9_step_71 (by decide) ?_
      refine lv_iload_n hx hb dX9_step_74 rfl (lv_at hl 3 rfl) ?_
      refine r_mulN hx hb dX9_step_75 ?_
      refine lv_iload hx hb dX9_step_76 (lv_at hl 1 rfl) ?_
      refine r_addN hx hb dX9_step_78 ?_
      refine al_916 X hK hG rd_916 (i := 144 * p9 + ((12 * (σ.2.2.1 937 0 1)) + (σ.2.2.1 937 0 0))) (x := σ.2.2.2 916 0 (144 * p9 + ((12 * (σ.2.2.1 937 0 1)) + (σ.2.2.1 937 0 0)))) (by have := hs.1; have := hs.2.1; omega) rfl dX9_step_79 ?_
      refine lv_icmp_lt (tgt := 103) hx hb dX9_step_80 (by decide) (fun c_80 => ?_) (fun c_80 => ?_)
      · refine lv_iconst (v := nI 3) hx hb dX9_step_103 (by decide) ?_
        exact rm_ret hx hb hr hlocks hG hS (by unfold m_step1; rw [if_pos c_5, if_pos c_80] <;> rfl) (by unfold m_step1; rw [if_pos c_5, if_pos c_80] <;> rfl) rfl dX9_step_104
      · refine lv_iload hx hb dX9_step_83 (lv_at hl 0 rfl) ?_
        refine r_if_eqB (tgt := 105) hx hb dX9_step_85 (by decide) (fun c_85 => ?_) (fun c_85 => ?_)
        · refine lv_iload hx hb dX9_step_105 (lv_at hl 0 rfl) ?_
          refine r_if_eqB (tgt := 213) hx hb dX9_step_107 (by decide) (fun c_107 => ?_) (fun c_107 => (by first | exact absurd c_85 c_107 | exact absurd c_107 c_85 | omega))
          refine lv_aload_n hx hb dX9_step_213 rfl (lv_at hl 2 rfl) ?_
          refine lv_dup hx hb dX9_step_214 rfl ?_
          refine gt_X9_161 X hK hG rd_999 (x := σ.1 943 0) rfl dX9_step_215 ?_
          refine lv_iconst (v := nI 1) hx hb dX9_step_218 (by decide) ?_
          refine r_addN hx hb dX9_step_219 ?_
          refine pt_X9_161 X hK hG hS hA rd_999 dX9_step_220 (fun H locs hG hS => ?_)
          refine lv_iconst (v := nI 0) hx hb dX9_step_223 (by decide) ?_
          exact rm_ret hx hb hr hlocks hG hS (by unfold m_step1; rw [if_pos c_5, if_neg c_80, if_pos c_85] <;> rfl) (by unfold m_step1; rw [if_pos c_5, if_neg c_80, if_pos c_85] <;> rfl) rfl dX9_step_224
        · refine lv_aload_n hx hb dX9_step_88 rfl (lv_at hl 2 rfl) ?_
          refine gt_X9_164 X hK hG rd_999 (x := σ.2.1 940 0) rfl dX9_step_89 ?_
          refine lv_if_eq (tgt := 103) hx hb dX9_step_92 (by decide) (fun c_92 => ?_) (fun c_92 => ?_)
          · refine lv_iconst (v := nI 3) hx hb dX9_step_103 (by decide) ?_
            exact rm_ret hx hb hr hlocks hG hS (by unfold m_step1; rw [if_pos c_5, if_neg c_80, if_neg (not_not_intro9 c_85), if_pos c_92] <;> rfl) (by unfold m_step1; rw [if_pos c_5, if_neg c_80, if_neg (not_not_intro9 c_85), if_pos c_92] <;> rfl) rfl dX9_step_104
          · refine lv_aload_n hx hb dX9_step_95 rfl (lv_at hl 2 rfl) ?_
            refine gt_X9_167 X hK hG rd_999 (x := σ.2.1 942 0) rfl dX9_step_96 ?_
            refine lv_iconst (v := (-1)) hx hb dX9_step_99 (by decide) ?_
            refine lv_icmp_ne (tgt := 105) hx hb dX9_step_100 (by decide) (fun c_100 => ?_) (fun c_100 => ?_)
            · refine lv_iload hx hb dX9_step_105 (lv_at hl 0 rfl) ?_
              refine r_if_eqB (tgt := 213) hx hb dX9_step_107 (by decide) (fun c_107 => (by first | exact absurd c_85 c_107 | exact absurd c_107 c_85 | omega)) (fun c_107 => ?_)
              refine lv_iload_n hx hb dX9_step_110 rfl (lv_at hl 5 rfl) ?_
              refine lv_iconst (v := nI 2) hx hb dX9_step_111 (by decide) ?_
              refine r_icmp_neN (tgt := 122) hx hb dX9_step_112 (by decide) (by omega) (by omega) (fun c_112 => ?_) (fun c_112 => absurd c_112 (by decide))
              refine lv_aload_n hx hb dX9_step_122 rfl (lv_at hl 2 rfl) ?_
              refine gt_X9_28 X hK hG rd_999 dX9_step_123 ?_
              refine lv_astore (lv' := [(6, .ref (L 909 0)), (5, .int (b2i (nI (σ.2.2.1 937 0 2) < σ.2.2.2 935 0 (12 * σ.2.2.1 937 0 1 + σ.2.2.1 937 0 0)))), (4, .int (nI ((12 * (σ.2.2.1 937 0 1)) + (σ.2.2.1 937 0 0)))), (0, .ref (L 999 0)), (1, .int (nI p9)), (2, .int (nI fr)), (3, .int (nI 1))]) hx hb dX9_step_126 hl (by decide) rfl (fun ls hl => ?_)
              refine lv_iload_n hx hb dX9_step_128 rfl (lv_at hl 6 rfl) ?_
              refine r_if_neN (tgt := 136) hx hb dX9_step_129 (by decide) (by omega) (fun c_129 => ?_) (fun c_129 => absurd c_129 (by decide))
              refine lv_aload_n hx hb dX9_step_136 rfl (lv_at hl 3 rfl) ?_
              refine lv_aload_n hx hb dX9_step_137 rfl (lv_at hl 3 rfl) ?_
              refine gt_X9_167 X hK hG rd_999 (x := σ.2.1 942 0) rfl dX9_step_138 ?_
              refine lv_aload hx hb dX9_step_141 (lv_at hl 0 rfl) ?_
              refine rm_callV X hK hG hS yvX9_toolFor ml_X9_170 kX9 rfl rd_999 [.int (σ.2.1 942 0), .ref (L 909 0)] [] (c_X9_toolFor_909 l L σ ow (σ.2.1 942 0) hs.2.2.2.2.1 hs.2.2.2.2.2.2.2.1 hs.2.2.2.2.2.1) rfl hl.1 rfl (Nat.le_of_ble_eq_true rfl) ⟨Nat.le_of_ble_eq_true rfl, Nat.le_of_ble_eq_true rfl⟩ ⟨Nat.zero_le _, Nat.zero_le _⟩ dX9_step_143 (fun H locs hG hS => ?_)
              refine lv_istore (lv' := [(7, .int (m_tf 909 (σ.2.1 942 0) σ)), (6, .ref (L 909 0)), (5, .int (b2i (nI (σ.2.2.1 937 0 2) < σ.2.2.2 935 0 (12 * σ.2.2.1 937 0 1 + σ.2.2.1 937 0 0)))), (4, .int (nI ((12 * (σ.2.2.1 937 0 1)) + (σ.2.2.1 937 0 0)))), (0, .ref (L 999 0)), (1, .int (nI p9)), (2, .int (nI fr)), (3, .int (nI 1))]) hx hb dX9_step_146 hl (by decide) rfl (fun ls hl => ?_)
              refine lv_iload_n hx hb dX9_step_148 rfl (lv_at hl 7 rfl) ?_
              refine r_if_leN (tgt := 160) hx hb dX9_step_149 (by decide) (by omega) (fun c_149 => absurd c_149 (by decide)) (fun c_149 => ?_)
              refine lv_iload hx hb dX9_step_152 (lv_at hl 0 rfl) ?_
              refine lv_iconst (v := (-1)) hx hb dX9_step_154 (by decide) ?_
              refine lv_icmp_ne (tgt := 160) hx hb dX9_step_155 (by decide) (fun c_155 => ?_) (fun c_155 => ?_)
              · refine lv_iload_n hx hb dX9_step_160 rfl (lv_at hl 7 rfl) ?_
                refine lv_iconst (v := nI 2) hx hb dX9_step_161 (by decide) ?_
                refine r_icmp_neN (tgt := 174) hx hb dX9_step_162 (by decide) (by omega) (by omega) (fun c_162 => ?_) (fun c_162 => absurd c_162 (by decide))
                refine lv_iload_n hx hb dX9_step_174 rfl (lv_at hl 7 rfl) ?_
                refine r_if_leN (tgt := 187) hx hb dX9_step_175 (by decide) (by omega) (fun c_175 => absurd c_175 (by decide)) (fun c_175 => ?_)
                refine lv_aload hx hb dX9_step_178 (lv_at hl 1 rfl) ?_
                refine lv_iload hx hb dX9_step_180 (lv_at hl 0 rfl) ?_
                refine r_top (y := nI (tn (m_tf 909 (σ.2.1 942 0) σ))) (ix_eq (m_tf_ix hs.2.2.2.2.1 c_155)) ?_
                refine lv_dup2_11 hx hb dX9_step_182 rfl rfl ?_
                refine al_909 X hK hG rd_909 (i := tn (m_tf 909 (σ.2.1 942 0) σ)) (x := σ.2.2.1 909 0 (tn (m_tf 909 (σ.2.1 942 0) σ))) ((by have := ix_lt (m_tf_ix hs.2.2.2.2.1 c_155); have := hs.2.2.2.2.1; omega)) rfl dX9_step_183 ?_
                refine lv_iconst (v := nI 1) hx hb dX9_step_184 (by decide) ?_
                refine r_addN hx hb dX9_step_185 ?_
                refine as_909 X hK hG hS hA rd_909 (i := tn (m_tf 909 (σ.2.1 942 0) σ)) ((by have := ix_lt (m_tf_ix hs.2.2.2.2.1 c_155); have := hs.2.2.2.2.1; omega)) dX9_step_186 (fun H locs hG hS => ?_)
                refine lv_aload_n hx hb dX9_step_187 rfl (lv_at hl 4 rfl) ?_
                refine gt_X9_95 X hK hG rd_999 dX9_step_188 ?_
                refine lv_aload_n hx hb dX9_step_191 rfl (lv_at hl 4 rfl) ?_
                refine gt_X9_167 X hK hG rd_999 (x := σ.2.1 942 0) rfl dX9_step_192 ?_
                refine r_top (y := nI (tn (σ.2.1 942 0))) (ix_eq (hs.2.2.2.1 c_100)) ?_
                refine lv_dup2_11 hx hb dX9_step_195 rfl rfl ?_
                refine al_936 X hK hG rd_936 (i := tn (σ.2.1 942 0)) (x := σ.2.2.1 936 0 (tn (σ.2.1 942 0))) (ix_lt (hs.2.2.2.1 c_100)) rfl dX9_step_196 ?_
                refine lv_iconst (v := nI 1) hx hb dX9_step_197 (by decide) ?_
                refine r_addN hx hb dX9_step_198 ?_
                refine as_936 X hK hG hS hA rd_936 (i := tn (σ.2.1 942 0)) (ix_lt (hs.2.2.2.1 c_100)) dX9_step_199 (fun H locs hG hS => ?_)
                refine lv_aload_n hx hb dX9_step_200 rfl (lv_at hl 4 rfl) ?_
                refine gt_X9_92 X hK hG rd_999 dX9_step_201 ?_
                refine lv_iload hx hb dX9_step_204 (lv_at hl 3 rfl) ?_
                refine lv_aload_n hx hb dX9_step_206 rfl (lv_at hl 4 rfl) ?_
                refine gt_X9_98 X hK hG rd_999 dX9_step_207 ?_
                refine lv_iconst (v := nI 2) hx hb dX9_step_210 (by decide) ?_
                refine al_937 X hK hG rd_937 (i := 2) (x := σ.2.2.1 937 0 2) (by decide) rfl dX9_step_211 ?_
                refine as_935 X hK hG hS hA rd_935 (i := (12 * (σ.2.2.1 937 0 1)) + (σ.2.2.1 937 0 0)) (by have := hs.1; have := hs.2.1; omega) dX9_step_212 (fun H locs hG hS => ?_)
                refine lv_aload_n hx hb dX9_step_213 rfl (lv_at hl 4 rfl) ?_
                refine lv_dup hx hb dX9_step_214 rfl ?_
                refine gt_X9_161 X hK hG rd_999 (x := σ.1 943 0) rfl dX9_step_215 ?_
                refine lv_iconst (v := nI 1) hx hb dX9_step_218 (by decide) ?_
                refine r_addN hx hb dX9_step_219 ?_
                refine pt_X9_161 X hK hG hS hA rd_999 dX9_step_220 (fun H locs hG hS => ?_)
                refine lv_iconst (v := nI 0) hx hb dX9_step_223 (by decide) ?_
                exact rm_ret hx hb hr hlocks hG hS (by unfold m_step1; rw [if_pos c_5, if_neg c_80, if_neg (not_not_intro9 c_85), if_neg c_92, if_pos c_100, if_pos c_155] <;> rfl) (by unfold m_step1; rw [if_pos c_5, if_neg c_80, if_neg (not_not_intro9 c_85), if_neg c_92, if_pos c_100, if_pos c_155] <;> rfl) rfl dX9_step_224
              · refine lv_iconst (v := (-1)) hx hb dX9_step_158 (by decide) ?_
                exact rm_ret hx hb hr hlocks hG hS (by unfold m_step1; rw [if_pos c_5, if_neg c_80, if_neg (not_not_intro9 c_85), if_neg c_92, if_pos c_100, if_neg (not_not_intro9 c_155)] <;> rfl) (by unfold m_step1; rw [if_pos c_5, if_neg c_80, if_neg (not_not_intro9 c_85), if_neg c_92, if_pos c_100, if_neg (not_not_intro9 c_155)] <;> rfl) rfl dX9_step_159
            · refine lv_iconst (v := nI 3) hx hb dX9_step_103 (by decide) ?_
              exact rm_ret hx hb hr hlocks hG hS (by unfold m_step1; rw [if_pos c_5, if_neg c_80, if_neg (not_not_intro9 c_85), if_neg c_92, if_neg (not_not_intro9 c_100)] <;> rfl) (by unfold m_step1; rw [if_pos c_5, if_neg c_80, if_neg (not_not_intro9 c_85), if_neg c_92, if_neg (not_not_intro9 c_100)] <;> rfl) rfl dX9_step_104
    · refine lv_aload_n hx hb dX9_step_38 rfl (lv_at hl 1 rfl) ?_
      refine gt_X9_98 X hK hG rd_999 dX9_step_39 ?_
      refine lv_iconst (v := nI 2) hx hb dX9_step_42 (by decide) ?_
      refine al_937 X hK hG rd_937 (i := 2) (x := σ.2.2.1 937 0 2) (by decide) rfl dX9_step_43 ?_
      refine lv_aload_n hx hb dX9_step_44 rfl (lv_at hl 1 rfl) ?_
      refine gt_X9_92 X hK hG rd_999 dX9_step_45 ?_
      refine lv_iload hx hb dX9_step_48 (lv_at hl 0 rfl) ?_
      refine al_935 X hK hG rd_935 (i := (12 * (σ.2.2.1 937 0 1)) + (σ.2.2.1 937 0 0)) (x := σ.2.2.2 935 0 ((12 * (σ.2.2.1 937 0 1)) + (σ.2.2.1 937 0 0))) (by have := hs.1; have := hs.2.1; omega) rfl dX9_step_50 ?_
      refine lv_icmp_ge (tgt := 58) hx hb dX9_step_51 (by decide) (fun c_51 => ?_) (fun c_51 => ?_)
      · refine lv_iconst (v := nI 0) hx hb dX9_step_58 (by decide) ?_
        exact r_top ((b2i_f (fun h => fa_lt_le h c_51)).symm) (J_59 _ _ hG hS)
      · refine lv_iconst (v := nI 1) hx hb dX9_step_54 (by decide) ?_
        refine lv_goto (tgt := 59) hx hb dX9_step_55 (by decide) ?_
        exact r_top ((b2i_t (fa_of_nle c_51)).symm) (J_59 _ _ hG hS)
  · refine lv_aload_n hx hb dX9_step_8 rfl (lv_at hl 0 rfl) ?_
    refine lv_dup hx hb dX9_step_9 rfl ?_
    refine gt_X9_161 X hK hG rd_999 (x := σ.1 943 0) rfl dX9_step_10 ?_
    refine lv_iconst (v := nI 1) hx hb dX9_step_13 (by decide) ?_
    refine r_addN hx hb dX9_step_14 ?_
    refine pt_X9_161 X hK hG hS hA rd_999 dX9_step_15 (fun H locs hG hS => ?_)
    refine lv_iconst (v := nI 0) hx hb dX9_step_18 (by decide) ?_
    exact rm_ret hx hb hr hlocks hG hS (by unfold m_step1; rw [if_neg (Nat.not_le.mpr c_5)] <;> rfl) (by unfold m_step1; rw [if_neg (Nat.not_le.mpr c_5)] <;> rfl) rfl dX9_step_19
def m_step2 (p9 fr : Nat) (σ : St) : Int32 × St := if fr ≤ (σ.1 943 0) then (if (nI (σ.2.2.1 937 0 2)) < (σ.2.2.2 916 0 (144 * p9 + ((12 * (σ.2.2.1 937 0 1)) + (σ.2.2.1 937 0 0)))) then (nI 3, σ) else (if ¬ (nI (σ.2.2.1 937 0 2) < σ.2.2.2 935 0 (12 * σ.2.2.1 937 0 1 + σ.2.2.1 937 0 0)) then (nI 0, (wN σ 943 0 ((σ.1 943 0) + 1))) else (if (σ.2.1 940 0) = 0 then (nI 3, σ) else (if ¬ (σ.2.1 942 0) = (-1) then (if ¬ (m_tf 908 (σ.2.1 942 0) σ) = (-1) then (nI 0, (wN (wB (wA (wA (m_cutsIn p9 ((12 * (σ.2.2.1 937 0 1)) + (σ.2.2.1 937 0 0)) (tn (m_tf 908 (σ.2.1 942 0) σ)) σ) 908 0 (tn (m_tf 908 (σ.2.1 942 0) σ)) ((σ.2.2.1 908 0 (tn (m_tf 908 (σ.2.1 942 0) σ))) + 1)) 936 0 (tn (σ.2.1 942 0)) ((σ.2.2.1 936 0 (tn (σ.2.1 942 0))) + 1)) 935 0 ((12 * (σ.2.2.1 937 0 1)) + (σ.2.2.1 937 0 0)) (nI (σ.2.2.1 937 0 2))) 943 0 ((σ.1 943 0) + 1))) else ((-1), σ)) else (nI 3, σ))))) else (nI 0, (wN σ 943 0 ((σ.1 943 0) + 1)))
set_option maxRecDepth 100000 in
set_option maxHeartbeats 4000000 in
theorem c_X9_step2 {D : va_G} {cI cZ cO : ClassId} (l : Launch) (L : Lay) (σ : St) (ow : Nat → Prop) (p9 fr : Nat) (hp : p9 < 6) (hfr : fr < 100000) (hst : σ.1 943 0 < 100000) (hs : SI σ) : RM D cI cZ cO rdom l yX9_step cX9_step 8 ((some FieldType.int)) 1 25 [.ref (L 999 0), .int (nI p9), .int (nI fr), .int (nI 2)] L σ ow ((m_step2 p9 fr σ).1) ((m_step2 p9 fr σ).2) := by
  refine rm_of rfl (Nat.le_of_ble_eq_true rfl) ?_
  intro p e s m below meth c ls X hK hG hr hlocks hl
  have X : CallFix p m c cX9_step 8 s _ TB RX9 := X
  have hx := X.1
  have hb := X.2.1
  have hS : va_S (AA ow s.heap.size) s.heap s.heap [] := va_S.rf
  have hA : ∀ q, ow q → AA ow s.heap.size q := fun _ h => Or.inl h
  have hl : lv_has ls 8 [(0, .ref (L 999 0)), (1, .int (nI p9)), (2, .int (nI fr)), (3, .int (nI 2))] := hl
  refine lv_aload_n hx hb dX9_step_0 rfl (lv_at hl 0 rfl) ?_
  refine gt_X9_161 X hK hG rd_999 (x := σ.1 943 0) rfl dX9_step_1 ?_
  refine lv_iload_n hx hb dX9_step_4 rfl (lv_at hl 2 rfl) ?_
  refine r_icmp_geN (tgt := 20) hx hb dX9_step_5 (by decide) (by omega) (by omega) (fun c_5 => ?_) (fun c_5 => ?_)
  · refine lv_bipush (v := nI 12) hx hb dX9_step_20 (by decide) ?_
    refine lv_aload_n hx hb dX9_step_22 rfl (lv_at hl 0 rfl) ?_
    refine gt_X9_98 X hK hG rd_999 dX9_step_23 ?_
    refine lv_iconst (v := nI 1) hx hb dX9_step_26 (by decide) ?_
    refine al_937 X hK hG rd_937 (i := 1) (x := σ.2.2.1 937 0 1) (by decide) rfl dX9_step_27 ?_
    refine r_mulN hx hb dX9_step_28 ?_
    refine lv_aload_n hx hb dX9_step_29 rfl (lv_at hl 0 rfl) ?_
    refine gt_X9_98 X hK hG rd_999 dX9_step_30 ?_
    refine lv_iconst (v := nI 0) hx hb dX9_step_33 (by decide) ?_
    refine al_937 X hK hG rd_937 (i := 0) (x := σ.2.2.1 937 0 0) (by decide) rfl dX9_step_34 ?_
    refine r_addN hx hb dX9_step_35 ?_
    refine lv_istore (lv' := [(4, .int (nI ((12 * (σ.2.2.1 937 0 1)) + (σ.2.2.1 937 0 0)))), (0, .ref (L 999 0)), (1, .int (nI p9)), (2, .int (nI fr)), (3, .int (nI 2))]) hx hb dX9_step_36 hl (by decide) rfl (fun ls hl => ?_)
    refine r_cutH 59 [.int (b2i (nI (σ.2.2.1 937 0 2) < σ.2.2.2 935 0 (12 * σ.2.2.1 937 0 1 + σ.2.2.1 937 0 0)))] hG hS (fun H locs hG hS => ?_) (fun J_59 => ?_)
    · refine lv_istore (lv' := [(5, .int (b2i (nI (σ.2.2.1 937 0 2) < σ.2.2.2 935 0 (12 * σ.2.2.1 937 0 1 + σ.2.2.1 937 0 0)))), (4, .int (nI ((12 * (σ.2.2.1 937 0 1)) + (σ.2.2.1 937 0 0)))), (0, .ref (L 999 0)), (1, .int (nI p9)), (2, .int (nI fr)), (3, .int (nI 2))]) hx hb dX9_step_59 hl (by decide) rfl (fun ls hl => ?_)
      refine lv_aload_n hx hb dX9_step_61 rfl (lv_at hl 2 rfl) ?_
      refine gt_X9_98 X hK hG rd_999 dX9_step_62 ?_
      refine lv_iconst (v := nI 2) hx hb dX9_step_65 (by decide) ?_
      refine al_937 X hK hG rd_937 (i := 2) (x := σ.2.2.1 937 0 2) (by decide) rfl dX9_step_66 ?_
      refine lv_aload_n hx hb dX9_step_67 rfl (lv_at hl 2 rfl) ?_
      refine gt_X9_47 X hK hG rd_999 dX9_step_68 ?_
      refine lv_sipush (v := nI 144) hx hb dX9_step_71 (by decide) ?_
      refine lv_iload_n hx hb dX9_step_74 rfl (lv_at hl 3 rfl) ?_
      refine r_mulN hx hb dX9_step_75 ?_
      refine lv_iload hx hb dX9_step_76 (lv_at hl 1 rfl) ?_
      refine r_addN hx hb dX9_step_78 ?_
      refine al_916 X hK hG rd_916 (i := 144 * p9 + ((12 * (σ.2.2.1 937 0 1)) + (σ.2.2.1 937 0 0))) (x := σ.2.2.2 916 0 (144 * p9 + ((12 * (σ.2.2.1 937 0 1)) + (σ.2.2.1 937 0 0)))) (by have := hs.1; have := hs.2.1; omega) rfl dX9_step_79 ?_
      refine lv_icmp_lt (tgt := 103) hx hb dX9_step_80 (by decide) (fun c_80 => ?_) (fun c_80 => ?_)
      · refine lv_iconst (v := nI 3) hx hb dX9_step_103 (by decide) ?_
        exact rm_ret hx hb hr hlocks hG hS (by unfold m_step2; rw [if_pos c_5, if_pos c_80] <;> rfl) (by unfold m_step2; rw [if_pos c_5, if_pos c_80] <;> rfl) rfl dX9_step_104
      · refine lv_iload hx hb dX9_step_83 (lv_at hl 0 rfl) ?_
        refine r_if_eqB (tgt := 105) hx hb dX9_step_85 (by decide) (fun c_85 => ?_) (fun c_85 => ?_)
        · refine lv_iload hx hb dX9_step_105 (lv_at hl 0 rfl) ?_
          refine r_if_eqB (tgt := 213) hx hb dX9_step_107 (by decide) (fun c_107 => ?_) (fun c_107 => (by first | exact absurd c_85 c_107 | exact absurd c_107 c_85 | omega))
          refine lv_aload_n hx hb dX9_step_213 rfl (lv_at hl 2 rfl) ?_
          refine lv_dup hx hb dX9_step_214 rfl ?_
          refine gt_X9_161 X hK hG rd_999 (x := σ.1 943 0) rfl dX9_step_215 ?_
          refine lv_iconst (v := nI 1) hx hb dX9_step_218 (by decide) ?_
          refine r_addN hx hb dX9_step_219 ?_
          refine pt_X9_161 X hK hG hS hA rd_999 dX9_step_220 (fun H locs hG hS => ?_)
          refine lv_iconst (v := nI 0) hx hb dX9_step_223 (by decide) ?_
          exact rm_ret hx hb hr hlocks hG hS (by unfold m_step2; rw [if_pos c_5, if_neg c_80, if_pos c_85] <;> rfl) (by unfold m_step2; rw [if_pos c_5, if_neg c_80, if_pos c_85] <;> rfl) rfl dX9_step_224
        · refine lv_aload_n hx hb dX9_step_88 rfl (lv_at hl 2 rfl) ?_
          refine gt_X9_164 X hK hG rd_999 (x := σ.2.1 940 0) rfl dX9_step_89 ?_
          refine lv_if_eq (tgt := 103) hx hb dX9_step_92 (by decide) (fun c_92 => ?_) (fun c_92 => ?_)
          · refine lv_iconst (v := nI 3) hx hb dX9_step_103 (by decide) ?_
            exact rm_ret hx hb hr hlocks hG hS (by unfold m_step2; rw [if_pos c_5, if_neg c_80, if_neg (not_not_intro9 c_85), if_pos c_92] <;> rfl) (by unfold m_step2; rw [if_pos c_5, if_neg c_80, if_neg (not_not_intro9 c_85), if_pos c_92] <;> rfl) rfl dX9_step_104
          · refine lv_aload_n hx hb dX9_step_95 rfl (lv_at hl 2 rfl) ?_
            refine gt_X9_167 X hK hG rd_999 (x := σ.2.1 942 0) rfl dX9_step_96 ?_
            refine lv_iconst (v := (-1)) hx hb dX9_step_99 (by decide) ?_
            refine lv_icmp_ne (tgt := 105) hx hb dX9_step_100 (by decide) (fun c_100 => ?_) (fun c_100 => ?_)
            · refine lv_iload hx hb dX9_step_105 (lv_at hl 0 rfl) ?_
              refine r_if_eqB (tgt := 213) hx hb dX9_step_107 (by decide) (fun c_107 => (by first | exact absurd c_85 c_107 | exact absurd c_107 c_85 | omega)) (fun c_107 => ?_)
              refine lv_iload_n hx hb dX9_step_110 rfl (lv_at hl 5 rfl) ?_
              refine lv_iconst (v := nI 2) hx hb dX9_step_111 (by decide) ?_
              refine r_icmp_neN (tgt := 122) hx hb dX9_step_112 (by decide) (by omega) (by omega) (fun c_112 => absurd c_112 (by decide)) (fun c_112 => ?_)
              refine lv_aload_n hx hb dX9_step_115 rfl (lv_at hl 2 rfl) ?_
              refine gt_X9_25 X hK hG rd_999 dX9_step_116 ?_
              refine lv_goto (tgt := 126) hx hb dX9_step_119 (by decide) ?_
              refine lv_astore (lv' := [(6, .ref (L 908 0)), (5, .int (b2i (nI (σ.2.2.1 937 0 2) < σ.2.2.2 935 0 (12 * σ.2.2.1 937 0 1 + σ.2.2.1 937 0 0)))), (4, .int (nI ((12 * (σ.2.2.1 937 0 1)) + (σ.2.2.1 937 0 0)))), (0, .ref (L 999 0)), (1, .int (nI p9)), (2, .int (nI fr)), (3, .int (nI 2))]) hx hb dX9_step_126 hl (by decide) rfl (fun ls hl => ?_)
              refine lv_iload_n hx hb dX9_step_128 rfl (lv_at hl 6 rfl) ?_
              refine r_if_neN (tgt := 136) hx hb dX9_step_129 (by decide) (by omega) (fun c_129 => ?_) (fun c_129 => absurd c_129 (by decide))
              refine lv_aload_n hx hb dX9_step_136 rfl (lv_at hl 3 rfl) ?_
              refine lv_aload_n hx hb dX9_step_137 rfl (lv_at hl 3 rfl) ?_
              refine gt_X9_167 X hK hG rd_999 (x := σ.2.1 942 0) rfl dX9_step_138 ?_
              refine lv_aload hx hb dX9_step_141 (lv_at hl 0 rfl) ?_
              refine rm_callV X hK hG hS yvX9_toolFor ml_X9_170 kX9 rfl rd_999 [.int (σ.2.1 942 0), .ref (L 908 0)] [] (c_X9_toolFor_908 l L σ ow (σ.2.1 942 0) hs.2.2.2.2.1 hs.2.2.2.2.2.2.1 hs.2.2.2.2.2.1) rfl hl.1 rfl (Nat.le_of_ble_eq_true rfl) ⟨Nat.le_of_ble_eq_true rfl, Nat.le_of_ble_eq_true rfl⟩ ⟨Nat.zero_le _, Nat.zero_le _⟩ dX9_step_143 (fun H locs hG hS => ?_)
              refine lv_istore (lv' := [(7, .int (m_tf 908 (σ.2.1 942 0) σ)), (6, .ref (L 908 0)), (5, .int (b2i (nI (σ.2.2.1 937 0 2) < σ.2.2.2 935 0 (12 * σ.2.2.1 937 0 1 + σ.2.2.1 937 0 0)))), (4, .int (nI ((12 * (σ.2.2.1 937 0 1)) + (σ.2.2.1 937 0 0)))), (0, .ref (L 999 0)), (1, .int (nI p9)), (2, .int (nI fr)), (3, .int (nI 2))]) hx hb dX9_step_146 hl (by decide) rfl (fun ls hl => ?_)
              refine lv_iload_n hx hb dX9_step_148 rfl (lv_at hl 7 rfl) ?_
              refine r_if_leN (tgt := 160) hx hb dX9_step_149 (by decide) (by omega) (fun c_149 => absurd c_149 (by decide)) (fun c_149 => ?_)
              refine lv_iload hx hb dX9_step_152 (lv_at hl 0 rfl) ?_
              refine lv_iconst (v := (-1)) hx hb dX9_step_154 (by decide) ?_
              refine lv_icmp_ne (tgt := 160) hx hb dX9_step_155 (by decide) (fun c_155 => ?_) (fun c_155 => ?_)
              · refine lv_iload_n hx hb dX9_step_160 rfl (lv_at hl 7 rfl) ?_
                refine lv_iconst (v := nI 2) hx hb dX9_step_161 (by decide) ?_
                refine r_icmp_neN (tgt := 174) hx hb dX9_step_162 (by decide) (by omega) (by omega) (fun c_162 => absurd c_162 (by decide)) (fun c_162 => ?_)
                refine lv_aload_n hx hb dX9_step_165 rfl (lv_at hl 4 rfl) ?_
                refine lv_iload_n hx hb dX9_step_166 rfl (lv_at hl 5 rfl) ?_
                refine lv_iload hx hb dX9_step_167 (lv_at hl 3 rfl) ?_
                refine lv_iload hx hb dX9_step_169 (lv_at hl 0 rfl) ?_
                refine r_top (y := nI (tn (m_tf 908 (σ.2.1 942 0) σ))) (ix_eq (m_tf_ix hs.2.2.2.2.1 c_155)) ?_
                refine rv_callV X hK hG hS yvX9_cutsIn ml_X9_174 kX9 rfl rd_999 [.int (nI p9), .int (nI ((12 * (σ.2.2.1 937 0 1)) + (σ.2.2.1 937 0 0))), .int (nI (tn (m_tf 908 (σ.2.1 942 0) σ)))] [] (c_X9_cutsIn l L σ ow p9 ((12 * (σ.2.2.1 937 0 1)) + (σ.2.2.1 937 0 0)) (tn (m_tf 908 (σ.2.1 942 0) σ)) hp (by have := hs.1; have := hs.2.1; omega) (by have := ix_lt (m_tf_ix hs.2.2.2.2.1 c_155); have := hs.2.2.2.2.1; omega) hs.2.2.2.2.2.2.2.2 hs.2.2.2.2.2.2.1) rfl hl.1 rfl (Nat.le_of_ble_eq_true rfl) ⟨Nat.le_of_ble_eq_true rfl, Nat.le_of_ble_eq_true rfl⟩ ⟨Nat.zero_le _, Nat.zero_le _⟩ dX9_step_171 (fun H locs hG hS => ?_)
                refine lv_iload_n hx hb dX9_step_174 rfl (lv_at hl 7 rfl) ?_
                refine r_if_leN (tgt := 187) hx hb dX9_step_175 (by decide) (by omega) (fun c_175 => absurd c_175 (by decide)) (fun c_175 => ?_)
                refine lv_aload hx hb dX9_step_178 (lv_at hl 1 rfl) ?_
                refine lv_iload hx hb dX9_step_180 (lv_at hl 0 rfl) ?_
                refine r_top (y := nI (tn (m_tf 908 (σ.2.1 942 0) σ))) (ix_eq (m_tf_ix hs.2.2.2.2.1 c_155)) ?_
                refine lv_dup2_11 hx hb dX9_step_182 rfl rfl ?_
                refine al_908 X hK hG rd_908 (i := tn (m_tf 908 (σ.2.1 942 0) σ)) (x := σ.2.2.1 908 0 (tn (m_tf 908 (σ.2.1 942 0) σ))) ((by have := ix_lt (m_tf_ix hs.2.2.2.2.1 c_155); have := hs.2.2.2.2.1; omega)) rfl dX9_step_183 ?_
                refine lv_iconst (v := nI 1) hx hb dX9_step_184 (by decide) ?_
                refine r_addN hx hb dX9_step_185 ?_
                refine as_908 X hK hG hS hA rd_908 (i := tn (m_tf 908 (σ.2.1 942 0) σ)) ((by have := ix_lt (m_tf_ix hs.2.2.2.2.1 c_155); have := hs.2.2.2.2.1; omega)) dX9_step_186 (fun H locs hG hS => ?_)
                refine lv_aload_n hx hb dX9_step_187 rfl (lv_at hl 4 rfl) ?_
                refine gt_X9_95 X hK hG rd_999 dX9_step_188 ?_
                refine lv_aload_n hx hb dX9_step_191 rfl (lv_at hl 4 rfl) ?_
                refine gt_X9_167 X hK hG rd_999 (x := σ.2.1 942 0) rfl dX9_step_192 ?_
                refine r_top (y := nI (tn (σ.2.1 942 0))) (ix_eq (hs.2.2.2.1 c_100)) ?_
                refine lv_dup2_11 hx hb dX9_step_195 rfl rfl ?_
                refine al_936 X hK hG rd_936 (i := tn (σ.2.1 942 0)) (x := σ.2.2.1 936 0 (tn (σ.2.1 942 0))) (ix_lt (hs.2.2.2.1 c_100)) rfl dX9_step_196 ?_
                refine lv_iconst (v := nI 1) hx hb dX9_step_197 (by decide) ?_
                refine r_addN hx hb dX9_step_198 ?_
                refine as_936 X hK hG hS hA rd_936 (i := tn (σ.2.1 942 0)) (ix_lt (hs.2.2.2.1 c_100)) dX9_step_199 (fun H locs hG hS => ?_)
                refine lv_aload_n hx hb dX9_step_200 rfl (lv_at hl 4 rfl) ?_
                refine gt_X9_92 X hK hG rd_999 dX9_step_201 ?_
                refine lv_iload hx hb dX9_step_204 (lv_at hl 3 rfl) ?_
                refine lv_aload_n hx hb dX9_step_206 rfl (lv_at hl 4 rfl) ?_
                refine gt_X9_98 X hK hG rd_999 dX9_step_207 ?_
                refine lv_iconst (v := nI 2) hx hb dX9_step_210 (by decide) ?_
                refine al_937 X hK hG rd_937 (i := 2) (x := σ.2.2.1 937 0 2) (by decide) rfl dX9_step_211 ?_
                refine as_935 X hK hG hS hA rd_935 (i := (12 * (σ.2.2.1 937 0 1)) + (σ.2.2.1 937 0 0)) (by have := hs.1; have := hs.2.1; omega) dX9_step_212 (fun H locs hG hS => ?_)
                refine lv_aload_n hx hb dX9_step_213 rfl (lv_at hl 4 rfl) ?_
                refine lv_dup hx hb dX9_step_214 rfl ?_
                refine gt_X9_161 X hK hG rd_999 (x := σ.1 943 0) rfl dX9_step_215 ?_
                refine lv_iconst (v := nI 1) hx hb dX9_step_218 (by decide) ?_
                refine r_addN hx hb dX9_step_219 ?_
                refine pt_X9_161 X hK hG hS hA rd_999 dX9_step_220 (fun H locs hG hS => ?_)
                refine lv_iconst (v := nI 0) hx hb dX9_step_223 (by decide) ?_
                exact rm_ret hx hb hr hlocks hG hS (by unfold m_step2; rw [if_pos c_5, if_neg c_80, if_neg (not_not_intro9 c_85), if_neg c_92, if_pos c_100, if_pos c_155] <;> rfl) (by unfold m_step2; rw [if_pos c_5, if_neg c_80, if_neg (not_not_intro9 c_85), if_neg c_92, if_pos c_100, if_pos c_155] <;> rfl) rfl dX9_step_224
              · refine lv_iconst (v := (-1)) hx hb dX9_step_158 (by decide) ?_
                exact rm_ret hx hb hr hlocks hG hS (by unfold m_step2; rw [if_pos c_5, if_neg c_80, if_neg (not_not_intro9 c_85), if_neg c_92, if_pos c_100, if_neg (not_not_intro9 c_155)] <;> rfl) (by unfold m_step2; rw [if_pos c_5, if_neg c_80, if_neg (not_not_intro9 c_85), if_neg c_92, if_pos c_100, if_neg (not_not_intro9 c_155)] <;> rfl) rfl dX9_step_159
            · refine lv_iconst (v := nI 3) hx hb dX9_step_103 (by decide) ?_
              exact rm_ret hx hb hr hlocks hG hS (by unfold m_step2; rw [if_pos c_5, if_neg c_80, if_neg (not_not_intro9 c_85), if_neg c_92, if_neg (not_not_intro9 c_100)] <;> rfl) (by unfold m_step2; rw [if_pos c_5, if_neg c_80, if_neg (not_not_intro9 c_85), if_neg c_92, if_neg (not_not_intro9 c_100)] <;> rfl) rfl dX9_step_104
    · refine lv_aload_n hx hb dX9_step_38 rfl (lv_at hl 1 rfl) ?_
      refine gt_X9_98 X hK hG rd_999 dX9_step_39 ?_
      refine lv_iconst (v := nI 2) hx hb dX9_step_42 (by decide) ?_
      refine al_937 X hK hG rd_937 (i := 2) (x := σ.2.2.1 937 0 2) (by decide) rfl dX9_step_43 ?_
      refine lv_aload_n hx hb dX9_step_44 rfl (lv_at hl 1 rfl) ?_
      refine gt_X9_92 X hK hG rd_999 dX9_step_45 ?_
      refine lv_iload hx hb dX9_step_48 (lv_at hl 0 rfl) ?_
      refine al_935 X hK hG rd_935 (i := (12 * (σ.2.2.1 937 0 1)) + (σ.2.2.1 937 0 0)) (x := σ.2.2.2 935 0 ((12 * (σ.2.2.1 937 0 1)) + (σ.2.2.1 937 0 0))) (by have := hs.1; have := hs.2.1; omega) rfl dX9_step_50 ?_
      refine lv_icmp_ge (tgt := 58) hx hb dX9_step_51 (by decide) (fun c_51 => ?_) (fun c_51 => ?_)
      · refine lv_iconst (v := nI 0) hx hb dX9_step_58 (by decide) ?_
        exact r_top ((b2i_f (fun h => fa_lt_le h c_51)).symm) (J_59 _ _ hG hS)
      · refine lv_iconst (v := nI 1) hx hb dX9_step_54 (by decide) ?_
        refine lv_goto (tgt := 59) hx hb dX9_step_55 (by decide) ?_
        exact r_top ((b2i_t (fa_of_nle c_51)).symm) (J_59 _ _ hG hS)
  · refine lv_aload_n hx hb dX9_step_8 rfl (lv_at hl 0 rfl) ?_
    refine lv_dup hx hb dX9_step_9 rfl ?_
    refine gt_X9_161 X hK hG rd_999 (x := σ.1 943 0) rfl dX9_step_10 ?_
    refine lv_iconst (v := nI 1) hx hb dX9_step_13 (by decide) ?_
    refine r_addN hx hb dX9_step_14 ?_
    refine pt_X9_161 X hK hG hS hA rd_999 dX9_step_15 (fun H locs hG hS => ?_)
    refine lv_iconst (v := nI 0) hx hb dX9_step_18 (by decide) ?_
    exact rm_ret hx hb hr hlocks hG hS (by unfold m_step2; rw [if_neg (Nat.not_le.mpr c_5)] <;> rfl) (by unfold m_step2; rw [if_neg (Nat.not_le.mpr c_5)] <;> rfl) rfl dX9_step_19
