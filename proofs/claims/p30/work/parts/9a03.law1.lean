theorem e_ne {σ : St} {F k i j : Nat} {v : Int32} (h : j ≠ i) : (wB σ F k i v).2.2.2 F k j = σ.2.2.2 F k j := by
  show up3 σ.2.2.2 F k i v F k j = _
  rw [up3_s, up1_n h]
theorem a_ne {σ : St} {F k i j v : Nat} (h : j ≠ i) : (wA σ F k i v).2.2.1 F k j = σ.2.2.1 F k j := by
  show up3 σ.2.2.1 F k i v F k j = _
  rw [up3_s, up1_n h]
/-- the lowest tool of a kind that is in and has life left, by the row of tools -/
def htf (f : Nat → Int32) (its : Int32) : Nat → Nat → Int32
  | 0, _ => (-1)
  | n + 1, k => if f (9 * k) = its ∧ f (9 * k + 4) = nI 1 ∧ ¬ f (9 * k + 1) ≤ f (9 * k + 2) then nI k else htf f its n (k + 1)
theorem htf_ix {f : Nat → Int32} {its : Int32} : ∀ (n k : Nat), n + k ≤ 4 → ¬ htf f its n k < 0 → ix (htf f its n k) 4
  | 0, k, _, h => absurd (show (-1 : Int32) < 0 by decide) h
  | n + 1, k, hb, h => by
    unfold htf at h ⊢
    split
    · exact (ix_nI (by omega)).mpr (by omega)
    · rename_i c
      rw [if_neg c] at h
      exact htf_ix n (k + 1) (by omega) h
theorem le_nlt {x : Int32} (h : 0 ≤ x) : ¬ x < 0 := by
  rw [Int32.lt_iff_toInt_lt]; rw [Int32.le_iff_toInt_le] at h; omega
set_option maxRecDepth 100000 in
set_option maxHeartbeats 4000000 in
theorem c_L_toolFor {D : va_G} {cI cZ cO : ClassId} {dom : Nat → Nat → Prop} (l : Launch) (L : Lay) (σ : St) (ow : Nat → Prop) (ku : Nat) (v9 : Int32) (hd : ∀ z ∈ ([(902, ku)] : List (Nat × Nat)), dom z.1 z.2) (hlu : 36 ≤ σ.2.2.1 902 ku 0 ∧ σ.2.2.1 902 ku 0 < 1000) : RM D cI cZ cO dom l yL_toolFor cL_toolFor 3 ((some FieldType.int)) 0 0 [.ref (L 902 ku), .int v9] L σ ow (htf (σ.2.2.2 902 ku) v9 4 0) σ := by
  refine rm_of rfl (Nat.le_of_ble_eq_true rfl) ?_
  intro p e s m below meth c ls X hK hG hr hlocks hl
  have X : CallFix p m c cL_toolFor 3 s _ TB RL := X
  have hx := X.1
  have hb := X.2.1
  have hS : va_S (AA ow s.heap.size) s.heap s.heap [] := va_S.rf
  have hA : ∀ q, ow q → AA ow s.heap.size q := fun _ h => Or.inl h
  have hl : lv_has ls 3 [(0, .ref (L 902 ku)), (1, .int v9)] := hl
  refine lv_iconst (v := nI 0) hx hb dL_toolFor_0 (by decide) ?_
  refine lv_istore_n (lv' := [(2, .int (nI 0)), (0, .ref (L 902 ku)), (1, .int v9)]) hx hb dL_toolFor_1 rfl hl (by decide) rfl (fun ls hl => ?_)
  refine r_loop (ι := Nat) (fun (n9 : Nat) => [(0, .ref (L 902 ku)), (1, .int v9), (2, .int (nI n9))]) (fun (n9 : Nat) => σ) (fun (n9 : Nat) => 4 - n9) (fun (n9 : Nat) => htf (σ.2.2.2 902 ku) v9 4 0 = htf (σ.2.2.2 902 ku) v9 (4 - n9) n9 ∧ n9 ≤ 4) 0 (⟨rfl, Nat.zero_le _⟩) hG hS (lv_sub hl [1, 2, 0] rfl) ?_
  rintro n9 hinv ih H locs ls hG hS hl
  have hG : PW D cI cZ cO dom L σ ow H := hG
  have hl : lv_has ls 3 [(0, .ref (L 902 ku)), (1, .int v9), (2, .int (nI n9))] := hl
  obtain ⟨hv, hk⟩ := hinv
  refine lv_iload_n hx hb dL_toolFor_2 rfl (lv_at hl 2 rfl) ?_
  refine lv_iconst (v := nI 4) hx hb dL_toolFor_3 (by decide) ?_
  refine r_icmp_geN (tgt := 56) hx hb dL_toolFor_4 (by decide) (by omega) (by decide) (fun c_4 => ?_) (fun c_4 => ?_)
  · refine lv_iconst (v := (-1)) hx hb dL_toolFor_56 (by decide) ?_
    exact rm_ret hx hb hr hlocks hG hS (by rw [hv, show 4 - n9 = 0 by omega]; rfl) (rfl) rfl dL_toolFor_57
  · refine lv_aload_n hx hb dL_toolFor_7 rfl (lv_at hl 0 rfl) ?_
    refine lv_bipush (v := nI 9) hx hb dL_toolFor_8 (by decide) ?_
    refine lv_iload_n hx hb dL_toolFor_10 rfl (lv_at hl 2 rfl) ?_
    refine r_mulN hx hb dL_toolFor_11 ?_
    refine pw_ald8 X hK hG 902 fa_902 (hd _ (List.mem_of_getElem? (i := 0) rfl)) (i := 9 * n9) (N := σ.2.2.1 902 ku 0) (x := σ.2.2.2 902 ku (9 * n9)) rfl (by omega) (by omega) rfl dL_toolFor_12 ?_
    refine lv_iload_n hx hb dL_toolFor_13 rfl (lv_at hl 1 rfl) ?_
    refine lv_icmp_ne (tgt := 50) hx hb dL_toolFor_14 (by decide) (fun c_14 => ?_) (fun c_14 => ?_)
    · refine r_iincN (b := 1) (lv' := [(2, .int (nI (n9 + 1))), (0, .ref (L 902 ku)), (1, .int v9)]) hx hb dL_toolFor_50 hl (k := 2) rfl (by decide) (by decide) rfl (fun ls hl => ?_)
      refine lv_goto (tgt := 2) hx hb dL_toolFor_53 (by decide) ?_
      exact ih (n9 + 1) (by show 4 - (n9 + 1) < 4 - n9; omega) (⟨hv.trans (by rw [show 4 - n9 = (4 - (n9 + 1)) + 1 by omega]; exact if_neg (fun h => c_14 h.1)), by omega⟩) H locs ls hG hS (lv_sub hl [1, 2, 0] rfl)
    · refine lv_aload_n hx hb dL_toolFor_17 rfl (lv_at hl 0 rfl) ?_
      refine lv_bipush (v := nI 9) hx hb dL_toolFor_18 (by decide) ?_
      refine lv_iload_n hx hb dL_toolFor_20 rfl (lv_at hl 2 rfl) ?_
      refine r_mulN hx hb dL_toolFor_21 ?_
      refine lv_iconst (v := nI 4) hx hb dL_toolFor_22 (by decide) ?_
      refine r_addN hx hb dL_toolFor_23 ?_
      refine pw_ald8 X hK hG 902 fa_902 (hd _ (List.mem_of_getElem? (i := 0) rfl)) (i := 9 * n9 + 4) (N := σ.2.2.1 902 ku 0) (x := σ.2.2.2 902 ku (9 * n9 + 4)) rfl (by omega) (by omega) rfl dL_toolFor_24 ?_
      refine lv_iconst (v := nI 1) hx hb dL_toolFor_25 (by decide) ?_
      refine lv_icmp_ne (tgt := 50) hx hb dL_toolFor_26 (by decide) (fun c_26 => ?_) (fun c_26 => ?_)
      · refine r_iincN (b := 1) (lv' := [(2, .int (nI (n9 + 1))), (0, .ref (L 902 ku)), (1, .int v9)]) hx hb dL_toolFor_50 hl (k := 2) rfl (by decide) (by decide) rfl (fun ls hl => ?_)
        refine lv_goto (tgt := 2) hx hb dL_toolFor_53 (by decide) ?_
        exact ih (n9 + 1) (by show 4 - (n9 + 1) < 4 - n9; omega) (⟨hv.trans (by rw [show 4 - n9 = (4 - (n9 + 1)) + 1 by omega]; exact if_neg (fun h => c_26 h.2.1)), by omega⟩) H locs ls hG hS (lv_sub hl [1, 2, 0] rfl)
      · refine lv_aload_n hx hb dL_toolFor_29 rfl (lv_at hl 0 rfl) ?_
        refine lv_bipush (v := nI 9) hx hb dL_toolFor_30 (by decide) ?_
        refine lv_iload_n hx hb dL_toolFor_32 rfl (lv_at hl 2 rfl) ?_
        refine r_mulN hx hb dL_toolFor_33 ?_
        refine lv_iconst (v := nI 1) hx hb dL_toolFor_34 (by decide) ?_
        refine r_addN hx hb dL_toolFor_35 ?_
        refine pw_ald8 X hK hG 902 fa_902 (hd _ (List.mem_of_getElem? (i := 0) rfl)) (i := 9 * n9 + 1) (N := σ.2.2.1 902 ku 0) (x := σ.2.2.2 902 ku (9 * n9 + 1)) rfl (by omega) (by omega) rfl dL_toolFor_36 ?_
        refine lv_aload_n hx hb dL_toolFor_37 rfl (lv_at hl 0 rfl) ?_
        refine lv_bipush (v := nI 9) hx hb dL_toolFor_38 (by decide) ?_
        refine lv_iload_n hx hb dL_toolFor_40 rfl (lv_at hl 2 rfl) ?_
        refine r_mulN hx hb dL_toolFor_41 ?_
        refine lv_iconst (v := nI 2) hx hb dL_toolFor_42 (by decide) ?_
        refine r_addN hx hb dL_toolFor_43 ?_
        refine pw_ald8 X hK hG 902 fa_902 (hd _ (List.mem_of_getElem? (i := 0) rfl)) (i := 9 * n9 + 2) (N := σ.2.2.1 902 ku 0) (x := σ.2.2.2 902 ku (9 * n9 + 2)) rfl (by omega) (by omega) rfl dL_toolFor_44 ?_
        refine lv_icmp_le (tgt := 50) hx hb dL_toolFor_45 (by decide) (fun c_45 => ?_) (fun c_45 => ?_)
        · refine r_iincN (b := 1) (lv' := [(2, .int (nI (n9 + 1))), (0, .ref (L 902 ku)), (1, .int v9)]) hx hb dL_toolFor_50 hl (k := 2) rfl (by decide) (by decide) rfl (fun ls hl => ?_)
          refine lv_goto (tgt := 2) hx hb dL_toolFor_53 (by decide) ?_
          exact ih (n9 + 1) (by show 4 - (n9 + 1) < 4 - n9; omega) (⟨hv.trans (by rw [show 4 - n9 = (4 - (n9 + 1)) + 1 by omega]; exact if_neg (fun h => h.2.2 c_45)), by omega⟩) H locs ls hG hS (lv_sub hl [1, 2, 0] rfl)
        · refine lv_iload_n hx hb dL_toolFor_48 rfl (lv_at hl 2 rfl) ?_
          exact rm_ret hx hb hr hlocks hG hS (by rw [hv, show 4 - n9 = (4 - (n9 + 1)) + 1 by omega]; exact (if_pos ⟨c_14, c_26, c_45⟩).symm) (rfl) rfl dL_toolFor_49
def h_step (kr ku km fr : Nat) (t9 : Int32) (σ : St) : Int32 × St := if (tn (σ.2.2.2 904 0 6)) < fr then (nI 0, (wB σ 904 0 6 (nI ((tn (σ.2.2.2 904 0 6)) + 1)))) else (if (tn (σ.2.2.2 904 0 2)) < (((σ.2.2.1 900 kr ((12 * (tn (σ.2.2.2 904 0 1))) + (tn (σ.2.2.2 904 0 0)))) / 17592186044416) % 16) then (nI 3, σ) else (if ((σ.2.2.1 900 kr ((12 * (tn (σ.2.2.2 904 0 1))) + (tn (σ.2.2.2 904 0 0)))) % 16) ≤ (tn (σ.2.2.2 904 0 2)) then (nI 0, (wB σ 904 0 6 (nI ((tn (σ.2.2.2 904 0 6)) + 1)))) else (if (σ.2.2.2 904 0 3) = 0 then (nI 3, σ) else (if 0 ≤ (σ.2.2.2 904 0 5) then (if t9 = 0 then (nI 0, (wB (wA (wB σ 904 0 (8 + (tn (σ.2.2.2 904 0 5))) ((σ.2.2.2 904 0 (8 + (tn (σ.2.2.2 904 0 5)))) + (nI 1))) 900 kr ((12 * (tn (σ.2.2.2 904 0 1))) + (tn (σ.2.2.2 904 0 0))) ((σ.2.2.1 900 kr (12 * tn (σ.2.2.2 904 0 1) + tn (σ.2.2.2 904 0 0))) / 16 * 16 + tn (σ.2.2.2 904 0 2))) 904 0 6 (nI ((tn (σ.2.2.2 904 0 6)) + 1)))) else (if 0 ≤ (htf (σ.2.2.2 902 ku) (σ.2.2.2 904 0 5) 4 0) then (nI 0, (wB (wB (wB (wB (wA (wA (wB σ 904 0 (8 + (tn (σ.2.2.2 904 0 5))) ((σ.2.2.2 904 0 (8 + (tn (σ.2.2.2 904 0 5)))) + (nI 1))) 900 kr ((12 * (tn (σ.2.2.2 904 0 1))) + (tn (σ.2.2.2 904 0 0))) ((σ.2.2.1 900 kr (12 * tn (σ.2.2.2 904 0 1) + tn (σ.2.2.2 904 0 0))) / 16 * 16 + tn (σ.2.2.2 904 0 2))) 900 kr ((12 * (tn (σ.2.2.2 904 0 1))) + (tn (σ.2.2.2 904 0 0))) ((σ.2.2.1 900 kr (12 * tn (σ.2.2.2 904 0 1) + tn (σ.2.2.2 904 0 0))) / 17592186044416 % 16 * 17592186044416 + ((tn (σ.2.2.2 902 ku (9 * tn (htf (σ.2.2.2 902 ku) (σ.2.2.2 904 0 5) 4 0) + 3) + nI 200)) * 17179869184 + ((tn (σ.2.2.2 902 ku (9 * tn (htf (σ.2.2.2 902 ku) (σ.2.2.2 904 0 5) 4 0) + 2)) / 4) * 67108864 + (((tn (htf (σ.2.2.2 902 ku) (σ.2.2.2 904 0 5) 4 0) + 1) + tn (σ.2.2.2 903 km (4 + tn (σ.2.2.2 904 0 0)) + nI 50) * 64 + ((tn (σ.2.2.2 903 km 1) * tn (σ.2.2.2 904 0 0)) / 10) * 16384) * 16 + tn (σ.2.2.2 904 0 2)))))) 902 ku ((9 * (tn (htf (σ.2.2.2 902 ku) (σ.2.2.2 904 0 5) 4 0))) + 2) (nI ((tn (σ.2.2.2 902 ku ((9 * (tn (htf (σ.2.2.2 902 ku) (σ.2.2.2 904 0 5) 4 0))) + 2))) + 1))) 903 km 0 ((σ.2.2.2 903 km 0) + (nI 1))) 903 km 1 (nI (if ¬ tn (σ.2.2.2 903 km 1) = 99 then tn (σ.2.2.2 903 km 1) + 1 else 99))) 904 0 6 (nI ((tn (σ.2.2.2 904 0 6)) + 1)))) else (nI 5, σ))) else (nI 3, σ)))))
set_option maxRecDepth 100000 in
set_option maxHeartbeats 4000000 in
theorem c_L_step {D : va_G} {cI cZ cO : ClassId} {dom : Nat → Nat → Prop} (l : Launch) (L : Lay) (σ : St) (ow : Nat → Prop) (kr ku km fr : Nat) (t9 : Int32) (hd : ∀ z ∈ ([(900, kr), (902, ku), (903, km), (904, 0)] : List (Nat × Nat)), dom z.1 z.2) (hlu : 36 ≤ σ.2.2.1 902 ku 0 ∧ σ.2.2.1 902 ku 0 < 1000) (hlm : 37 ≤ σ.2.2.1 903 km 0 ∧ σ.2.2.1 903 km 0 < 1000) (hfr : fr < 100000) (h0 : ix (σ.2.2.2 904 0 0) 12) (h1 : ix (σ.2.2.2 904 0 1) 4) (h2 : ix (σ.2.2.2 904 0 2) 10) (h5 : 0 ≤ σ.2.2.2 904 0 5 → ix (σ.2.2.2 904 0 5) 4) (h6 : ix (σ.2.2.2 904 0 6) 100000) (hC : ∀ i, σ.2.2.1 900 kr i < 2 ^ 62) (hU2 : ∀ k, k < 4 → ix (σ.2.2.2 902 ku (9 * k + 2)) 1000) (hU3 : ∀ k, k < 4 → ix (σ.2.2.2 902 ku (9 * k + 3) + nI 200) 401) (hM1 : ix (σ.2.2.2 903 km 1) 100) (hM4 : ∀ x, x < 12 → ix (σ.2.2.2 903 km (4 + x) + nI 50) 101) : RM D cI cZ cO dom l yL_step cL_step 16 ((some FieldType.int)) 1 22 [.ref (L 900 kr), .ref (L 902 ku), .ref (L 903 km), .ref (L 904 0), .int (nI fr), .int t9] L σ ow ((h_step kr ku km fr t9 σ).1) ((h_step kr ku km fr t9 σ).2) := by
  refine rm_of rfl (Nat.le_of_ble_eq_true rfl) ?_
  intro p e s m below meth c ls X hK hG hr hlocks hl
  have X : CallFix p m c cL_step 16 s _ TB RL := X
  have hx := X.1
  have hb := X.2.1
  have hS : va_S (AA ow s.heap.size) s.heap s.heap [] := va_S.rf
  have hA : ∀ q, ow q → AA ow s.heap.size q := fun _ h => Or.inl h
  have hl : lv_has ls 16 [(0, .ref (L 900 kr)), (1, .ref (L 902 ku)), (2, .ref (L 903 km)), (3, .ref (L 904 0)), (4, .int (nI fr)), (5, .int t9)] := hl
  have b0 := ix_lt h0
  have b1 := ix_lt h1
  have b2 := ix_lt h2
  have b6 := ix_lt h6
  have bC := hC (12 * tn (σ.2.2.2 904 0 1) + tn (σ.2.2.2 904 0 0))
  have bM1 := ix_lt hM1
  refine lv_bipush (v := nI 12) hx hb dL_step_0 (by decide) ?_
  refine lv_aload_n hx hb dL_step_2 rfl (lv_at hl 3 rfl) ?_
  refine lv_iconst (v := nI 1) hx hb dL_step_3 (by decide) ?_
  refine al_904 X hK hG (hd _ (List.mem_of_getElem? (i := 3) rfl)) (i := 1) (x := σ.2.2.2 904 0 1) (by omega) rfl dL_step_4 ?_
  refine r_top (y := nI (tn (σ.2.2.2 904 0 1))) (ix_eq h1) ?_
  refine r_mulN hx hb dL_step_5 ?_
  refine lv_aload_n hx hb dL_step_6 rfl (lv_at hl 3 rfl) ?_
  refine lv_iconst (v := nI 0) hx hb dL_step_7 (by decide) ?_
  refine al_904 X hK hG (hd _ (List.mem_of_getElem? (i := 3) rfl)) (i := 0) (x := σ.2.2.2 904 0 0) (by omega) rfl dL_step_8 ?_
  refine r_top (y := nI (tn (σ.2.2.2 904 0 0))) (ix_eq h0) ?_
  refine r_addN hx hb dL_step_9 ?_
  refine lv_istore (lv' := [(6, .int (nI ((12 * (tn (σ.2.2.2 904 0 1))) + (tn (σ.2.2.2 904 0 0))))), (0, .ref (L 900 kr)), (1, .ref (L 902 ku)), (2, .ref (L 903 km)), (3, .ref (L 904 0)), (4, .int (nI fr)), (5, .int t9)]) hx hb dL_step_10 hl (by decide) rfl (fun ls hl => ?_)
  refine lv_aload_n hx hb dL_step_12 rfl (lv_at hl 1 rfl) ?_
  refine lv_iload hx hb dL_step_13 (lv_at hl 0 rfl) ?_
  refine al_900 X hK hG (hd _ (List.mem_of_getElem? (i := 0) rfl)) (i := (12 * (tn (σ.2.2.2 904 0 1))) + (tn (σ.2.2.2 904 0 0))) (x := σ.2.2.1 900 kr ((12 * (tn (σ.2.2.2 904 0 1))) + (tn (σ.2.2.2 904 0 0)))) (by omega) rfl dL_step_15 ?_
  refine r_ldc2J X (n := 15) kl_9 (by decide) dL_step_16 ?_
  refine r_landJ hx hb (v := (σ.2.2.1 900 kr ((12 * (tn (σ.2.2.2 904 0 1))) + (tn (σ.2.2.2 904 0 0)))) % 16) (and_m (k := 4) rfl rfl) dL_step_19 ?_
  refine r_l2iJ hx hb dL_step_20 ?_
  refine lv_istore (lv' := [(7, .int (nI ((σ.2.2.1 900 kr ((12 * (tn (σ.2.2.2 904 0 1))) + (tn (σ.2.2.2 904 0 0)))) % 16))), (6, .int (nI ((12 * (tn (σ.2.2.2 904 0 1))) + (tn (σ.2.2.2 904 0 0))))), (0, .ref (L 900 kr)), (1, .ref (L 902 ku)), (2, .ref (L 903 km)), (3, .ref (L 904 0)), (4, .int (nI fr)), (5, .int t9)]) hx hb dL_step_21 hl (by decide) rfl (fun ls hl => ?_)
  refine lv_aload_n hx hb dL_step_23 rfl (lv_at hl 5 rfl) ?_
  refine lv_bipush (v := nI 6) hx hb dL_step_24 (by decide) ?_
  refine al_904 X hK hG (hd _ (List.mem_of_getElem? (i := 3) rfl)) (i := 6) (x := σ.2.2.2 904 0 6) (by omega) rfl dL_step_26 ?_
  refine r_top (y := nI (tn (σ.2.2.2 904 0 6))) (ix_eq h6) ?_
  refine lv_iload hx hb dL_step_27 (lv_at hl 6 rfl) ?_
  refine r_icmp_ltN (tgt := 36) hx hb dL_step_29 (by decide) (by omega) (by omega) (fun c_29 => ?_) (fun c_29 => ?_)
  · refine lv_iconst (v := nI 0) hx hb dL_step_36 (by decide) ?_
    refine lv_istore (lv' := [(8, .int (nI 0)), (7, .int (nI ((σ.2.2.1 900 kr ((12 * (tn (σ.2.2.2 904 0 1))) + (tn (σ.2.2.2 904 0 0)))) % 16))), (6, .int (nI ((12 * (tn (σ.2.2.2 904 0 1))) + (tn (σ.2.2.2 904 0 0))))), (0, .ref (L 900 kr)), (1, .ref (L 902 ku)), (2, .ref (L 903 km)), (3, .ref (L 904 0)), (4, .int (nI fr)), (5, .int t9)]) hx hb dL_step_37 hl (by decide) rfl (fun ls hl => ?_)
    refine lv_iload hx hb dL_step_39 (lv_at hl 0 rfl) ?_
    refine r_if_eqN (tgt := 84) hx hb dL_step_41 (by decide) (by omega) (fun c_41 => ?_) (fun c_41 => absurd c_41 (by decide))
    refine lv_iload hx hb dL_step_84 (lv_at hl 0 rfl) ?_
    refine r_if_eqN (tgt := 296) hx hb dL_step_86 (by decide) (by omega) (fun c_86 => ?_) (fun c_86 => absurd c_86 (by decide))
    refine lv_aload_n hx hb dL_step_296 rfl (lv_at hl 6 rfl) ?_
    refine lv_bipush (v := nI 6) hx hb dL_step_297 (by decide) ?_
    refine lv_dup2_11 hx hb dL_step_299 rfl rfl ?_
    refine al_904 X hK hG (hd _ (List.mem_of_getElem? (i := 3) rfl)) (i := 6) (x := σ.2.2.2 904 0 6) (by omega) rfl dL_step_300 ?_
    refine r_top (y := nI (tn (σ.2.2.2 904 0 6))) (ix_eq h6) ?_
    refine lv_iconst (v := nI 1) hx hb dL_step_301 (by decide) ?_
    refine r_addN hx hb dL_step_302 ?_
    refine as_904 X hK hG hS hA (hd _ (List.mem_of_getElem? (i := 3) rfl)) (i := 6) (by omega) dL_step_303 (fun H locs hG hS => ?_)
    refine lv_iconst (v := nI 0) hx hb dL_step_304 (by decide) ?_
    exact rm_ret hx hb hr hlocks hG hS (by unfold h_step; rw [if_pos c_29] <;> rfl) (by unfold h_step; rw [if_pos c_29] <;> rfl) rfl dL_step_305
  · refine lv_iconst (v := nI 1) hx hb dL_step_32 (by decide) ?_
    refine lv_goto (tgt := 37) hx hb dL_step_33 (by decide) ?_
    refine lv_istore (lv' := [(8, .int (nI 1)), (7, .int (nI ((σ.2.2.1 900 kr ((12 * (tn (σ.2.2.2 904 0 1))) + (tn (σ.2.2.2 904 0 0)))) % 16))), (6, .int (nI ((12 * (tn (σ.2.2.2 904 0 1))) + (tn (σ.2.2.2 904 0 0))))), (0, .ref (L 900 kr)), (1, .ref (L 902 ku)), (2, .ref (L 903 km)), (3, .ref (L 904 0)), (4, .int (nI fr)), (5, .int t9)]) hx hb dL_step_37 hl (by decide) rfl (fun ls hl => ?_)
    refine lv_iload hx hb dL_step_39 (lv_at hl 0 rfl) ?_
    refine r_if_eqN (tgt := 84) hx hb dL_step_41 (by decide) (by omega) (fun c_41 => absurd c_41 (by decide)) (fun c_41 => ?_)
    refine lv_aload_n hx hb dL_step_44 rfl (lv_at hl 6 rfl) ?_
    refine lv_iconst (v := nI 2) hx hb dL_step_45 (by decide) ?_
    refine al_904 X hK hG (hd _ (List.mem_of_getElem? (i := 3) rfl)) (i := 2) (x := σ.2.2.2 904 0 2) (by omega) rfl dL_step_46 ?_
    refine r_top (y := nI (tn (σ.2.2.2 904 0 2))) (ix_eq h2) ?_
    refine lv_aload_n hx hb dL_step_47 rfl (lv_at hl 3 rfl) ?_
    refine lv_iload hx hb dL_step_48 (lv_at hl 2 rfl) ?_
    refine al_900 X hK hG (hd _ (List.mem_of_getElem? (i := 0) rfl)) (i := (12 * (tn (σ.2.2.2 904 0 1))) + (tn (σ.2.2.2 904 0 0))) (x := σ.2.2.1 900 kr ((12 * (tn (σ.2.2.2 904 0 1))) + (tn (σ.2.2.2 904 0 0)))) (by omega) rfl dL_step_50 ?_
    refine lv_bipush (v := nI 44) hx hb dL_step_51 (by decide) ?_
    refine r_lshrJ hx hb (v := (σ.2.2.1 900 kr ((12 * (tn (σ.2.2.2 904 0 1))) + (tn (σ.2.2.2 904 0 0)))) / 17592186044416) (hC _) (by decide) rfl dL_step_53 ?_
    refine r_ldc2J X (n := 15) kl_9 (by decide) dL_step_54 ?_
    refine r_landJ hx hb (v := ((σ.2.2.1 900 kr ((12 * (tn (σ.2.2.2 904 0 1))) + (tn (σ.2.2.2 904 0 0)))) / 17592186044416) % 16) (and_m (k := 4) rfl rfl) dL_step_57 ?_
    refine r_l2iJ hx hb dL_step_58 ?_
    refine r_icmp_ltN (tgt := 82) hx hb dL_step_59 (by decide) (by omega) (by omega) (fun c_59 => ?_) (fun c_59 => ?_)
    · refine lv_iconst (v := nI 3) hx hb dL_step_82 (by decide) ?_
      exact rm_ret hx hb hr hlocks hG hS (by unfold h_step; rw [if_neg (Nat.not_lt.mpr c_29), if_pos c_59] <;> rfl) (by unfold h_step; rw [if_neg (Nat.not_lt.mpr c_29), if_pos c_59] <;> rfl) rfl dL_step_83
    · refine lv_aload_n hx hb dL_step_62 rfl (lv_at hl 6 rfl) ?_
      refine lv_iconst (v := nI 2) hx hb dL_step_63 (by decide) ?_
      refine al_904 X hK hG (hd _ (List.mem_of_getElem? (i := 3) rfl)) (i := 2) (x := σ.2.2.2 904 0 2) (by omega) rfl dL_step_64 ?_
      refine r_top (y := nI (tn (σ.2.2.2 904 0 2))) (ix_eq h2) ?_
      refine lv_iload hx hb dL_step_65 (lv_at hl 1 rfl) ?_
      refine r_icmp_geN (tgt := 84) hx hb dL_step_67 (by decide) (by omega) (by omega) (fun c_67 => ?_) (fun c_67 => ?_)
      · refine lv_iload hx hb dL_step_84 (lv_at hl 0 rfl) ?_
        refine r_if_eqN (tgt := 296) hx hb dL_step_86 (by decide) (by omega) (fun c_86 => absurd c_86 (by decide)) (fun c_86 => ?_)
        refine lv_aload_n hx hb dL_step_89 rfl (lv_at hl 6 rfl) ?_
        refine lv_iconst (v := nI 2) hx hb dL_step_90 (by decide) ?_
        refine al_904 X hK hG (hd _ (List.mem_of_getElem? (i := 3) rfl)) (i := 2) (x := σ.2.2.2 904 0 2) (by omega) rfl dL_step_91 ?_
        refine r_top (y := nI (tn (σ.2.2.2 904 0 2))) (ix_eq h2) ?_
        refine lv_iload hx hb dL_step_92 (lv_at hl 1 rfl) ?_
        refine r_icmp_geN (tgt := 296) hx hb dL_step_94 (by decide) (by omega) (by omega) (fun c_94 => ?_) (fun c_94 => (by first | exact absurd c_67 c_94 | exact absurd c_94 c_67 | omega))
        refine lv_aload_n hx hb dL_step_296 rfl (lv_at hl 6 rfl) ?_
        refine lv_bipush (v := nI 6) hx hb dL_step_297 (by decide) ?_
        refine lv_dup2_11 hx hb dL_step_299 rfl rfl ?_
        refine al_904 X hK hG (hd _ (List.mem_of_getElem? (i := 3) rfl)) (i := 6) (x := σ.2.2.2 904 0 6) (by omega) rfl dL_step_300 ?_
        refine r_top (y := nI (tn (σ.2.2.2 904 0 6))) (ix_eq h6) ?_
        refine lv_iconst (v := nI 1) hx hb dL_step_301 (by decide) ?_
        refine r_addN hx hb dL_step_302 ?_
        refine as_904 X hK hG hS hA (hd _ (List.mem_of_getElem? (i := 3) rfl)) (i := 6) (by omega) dL_step_303 (fun H locs hG hS => ?_)
        refine lv_iconst (v := nI 0) hx hb dL_step_304 (by decide) ?_
        exact rm_ret hx hb hr hlocks hG hS (by unfold h_step; rw [if_neg (Nat.not_lt.mpr c_29), if_neg (Nat.not_lt.mpr c_59), if_pos c_67] <;> rfl) (by unfold h_step; rw [if_neg (Nat.not_lt.mpr c_29), if_neg (Nat.not_lt.mpr c_59), if_pos c_67] <;> rfl) rfl dL_step_305
      · refine lv_aload_n hx hb dL_step_70 rfl (lv_at hl 6 rfl) ?_
        refine lv_iconst (v := nI 3) hx hb dL_step_71 (by decide) ?_
        refine al_904 X hK hG (hd _ (List.mem_of_getElem? (i := 3) rfl)) (i := 3) (x := σ.2.2.2 904 0 3) (by omega) rfl dL_step_72 ?_
        refine lv_if_eq (tgt := 82) hx hb dL_step_73 (by decide) (fun c_73 => ?_) (fun c_73 => ?_)
        · refine lv_iconst (v := nI 3) hx hb dL_step_82 (by decide) ?_
          exact rm_ret hx hb hr hlocks hG hS (by unfold h_step; rw [if_neg (Nat.not_lt.mpr c_29), if_neg (Nat.not_lt.mpr c_59), if_neg (Nat.not_le.mpr c_67), if_pos c_73] <;> rfl) (by unfold h_step; rw [if_neg (Nat.not_lt.mpr c_29), if_neg (Nat.not_lt.mpr c_59), if_neg (Nat.not_le.mpr c_67), if_pos c_73] <;> rfl) rfl dL_step_83
        · refine lv_aload_n hx hb dL_step_76 rfl (lv_at hl 6 rfl) ?_
          refine lv_iconst (v := nI 5) hx hb dL_step_77 (by decide) ?_
          refine al_904 X hK hG (hd _ (List.mem_of_getElem? (i := 3) rfl)) (i := 5) (x := σ.2.2.2 904 0 5) (by omega) rfl dL_step_78 ?_
          refine lv_if_ge (tgt := 84) hx hb dL_step_79 (by decide) (fun c_79 => ?_) (fun c_79 => ?_)
          · refine lv_iload hx hb dL_step_84 (lv_at hl 0 rfl) ?_
            refine r_if_eqN (tgt := 296) hx hb dL_step_86 (by decide) (by omega) (fun c_86 => absurd c_86 (by decide)) (fun c_86 => ?_)
            refine lv_aload_n hx hb dL_step_89 rfl (lv_at hl 6 rfl) ?_
            refine lv_iconst (v := nI 2) hx hb dL_step_90 (by decide) ?_
            refine al_904 X hK hG (hd _ (List.mem_of_getElem? (i := 3) rfl)) (i := 2) (x := σ.2.2.2 904 0 2) (by omega) rfl dL_step_91 ?_
            refine r_top (y := nI (tn (σ.2.2.2 904 0 2))) (ix_eq h2) ?_
            refine lv_iload hx hb dL_step_92 (lv_at hl 1 rfl) ?_
            refine r_icmp_geN (tgt := 296) hx hb dL_step_94 (by decide) (by omega) (by omega) (fun c_94 => (by first | exact absurd c_67 c_94 | exact absurd c_94 c_67 | omega)) (fun c_94 => ?_)
            refine lv_iload hx hb dL_step_97 (lv_at hl 8 rfl) ?_
            refine lv_if_eq (tgt := 112) hx hb dL_step_99 (by decide) (fun c_99 => ?_) (fun c_99 => ?_)
            · refine lv_iconst (v := nI 0) hx hb dL_step_112 (by decide) ?_
              refine lv_istore (lv' := [(9, .int (nI 0)), (8, .int (nI 1)), (7, .int (nI ((σ.2.2.1 900 kr ((12 * (tn (σ.2.2.2 904 0 1))) + (tn (σ.2.2.2 904 0 0)))) % 16))), (6, .int (nI ((12 * (tn (σ.2.2.2 904 0 1))) + (tn (σ.2.2.2 904 0 0))))), (0, .ref (L 900 kr)), (1, .ref (L 902 ku)), (2, .ref (L 903 km)), (3, .ref (L 904 0)), (4, .int (nI fr)), (5, .int t9)]) hx hb dL_step_113 hl (by decide) rfl (fun ls hl => ?_)
              refine lv_iload hx hb dL_step_115 (lv_at hl 0 rfl) ?_
              refine lv_if_ge (tgt := 122) hx hb dL_step_117 (by decide) (fun c_117 => ?_) (fun c_117 => absurd (nI_pos' (by omega)) c_117)
              refine lv_aload_n hx hb dL_step_122 rfl (lv_at hl 7 rfl) ?_
              refine lv_bipush (v := nI 8) hx hb dL_step_123 (by decide) ?_
              refine lv_aload_n hx hb dL_step_125 rfl (lv_at hl 7 rfl) ?_
              refine lv_iconst (v := nI 5) hx hb dL_step_126 (by decide) ?_
              refine al_904 X hK hG (hd _ (List.mem_of_getElem? (i := 3) rfl)) (i := 5) (x := σ.2.2.2 904 0 5) (by omega) rfl dL_step_127 ?_
              refine r_top (y := nI (tn (σ.2.2.2 904 0 5))) (ix_eq (h5 c_79)) ?_
              have b5 := ix_lt (h5 c_79)
              refine r_addN hx hb dL_step_128 ?_
              refine lv_dup2_11 hx hb dL_step_129 rfl rfl ?_
              refine al_904 X hK hG (hd _ (List.mem_of_getElem? (i := 3) rfl)) (i := 8 + (tn (σ.2.2.2 904 0 5))) (x := σ.2.2.2 904 0 (8 + (tn (σ.2.2.2 904 0 5)))) (by omega) rfl dL_step_130 ?_
              refine lv_iconst (v := nI 1) hx hb dL_step_131 (by decide) ?_
              refine lv_iadd hx hb dL_step_132 ?_
              refine as_904 X hK hG hS hA (hd _ (List.mem_of_getElem? (i := 3) rfl)) (i := 8 + (tn (σ.2.2.2 904 0 5))) (by omega) dL_step_133 (fun H locs hG hS => ?_)
              refine lv_aload_n hx hb dL_step_134 rfl (lv_at hl 4 rfl) ?_
              refine lv_iload hx hb dL_step_135 (lv_at hl 3 rfl) ?_
              refine lv_aload_n hx hb dL_step_137 rfl (lv_at hl 4 rfl) ?_
              refine lv_iload hx hb dL_step_138 (lv_at hl 3 rfl) ?_
              refine al_900 X hK hG (hd _ (List.mem_of_getElem? (i := 0) rfl)) (i := (12 * (tn (σ.2.2.2 904 0 1))) + (tn (σ.2.2.2 904 0 0))) (x := σ.2.2.1 900 kr ((12 * (tn (σ.2.2.2 904 0 1))) + (tn (σ.2.2.2 904 0 0)))) (by omega) rfl dL_step_140 ?_
              refine r_ldc2J X (n := 18446744073709551600) kl_17 (by decide) dL_step_141 ?_
              refine r_landJ hx hb (v := (σ.2.2.1 900 kr (12 * tn (σ.2.2.2 904 0 1) + tn (σ.2.2.2 904 0 0))) / 16 * 16) (and_hi (k := 4) rfl (by omega) (by decide)) dL_step_144 ?_
              refine lv_aload_n hx hb dL_step_145 rfl (lv_at hl 7 rfl) ?_
              refine lv_iconst (v := nI 2) hx hb dL_step_146 (by decide) ?_
              refine al_904 X hK hG (hd _ (List.mem_of_getElem? (i := 3) rfl)) (i := 2) (x := σ.2.2.2 904 0 2) (by omega) ((show (wB σ 904 0 (8 + (tn (σ.2.2.2 904 0 5))) ((σ.2.2.2 904 0 (8 + (tn (σ.2.2.2 904 0 5)))) + (nI 1))).2.2.2 904 0 2 = _ from e_ne (σ := σ) (F := 904) (k := 0) (i := (8 + (tn (σ.2.2.2 904 0 5)))) (j := 2) (v := ((σ.2.2.2 904 0 (8 + (tn (σ.2.2.2 904 0 5)))) + (nI 1))) (by omega)).trans rfl) dL_step_147 ?_
              refine r_top (y := nI (tn (σ.2.2.2 904 0 2))) (ix_eq h2) ?_
              refine r_i2lJ hx hb (by omega) dL_step_148 ?_
              refine r_lorJ hx hb (v := (σ.2.2.1 900 kr (12 * tn (σ.2.2.2 904 0 1) + tn (σ.2.2.2 904 0 0))) / 16 * 16 + tn (σ.2.2.2 904 0 2)) (or_lo (k := 4) rfl (by omega)) dL_step_149 ?_
              refine as_900 X hK hG hS hA (hd _ (List.mem_of_getElem? (i := 0) rfl)) (i := (12 * (tn (σ.2.2.2 904 0 1))) + (tn (σ.2.2.2 904 0 0))) (x := (σ.2.2.1 900 kr (12 * tn (σ.2.2.2 904 0 1) + tn (σ.2.2.2 904 0 0))) / 16 * 16 + tn (σ.2.2.2 904 0 2)) (by omega) dL_step_150 (fun H locs hG hS => ?_)
              refine lv_iload hx hb dL_step_151 (lv_at hl 9 rfl) ?_
              refine lv_if_eq (tgt := 296) hx hb dL_step_153 (by decide) (fun c_153 => ?_) (fun c_153 => (by first | exact absurd c_99 c_153 | exact absurd c_153 c_99 | omega))
              refine lv_aload_n hx hb dL_step_296 rfl (lv_at hl 7 rfl) ?_
              refine lv_bipush (v := nI 6) hx hb dL_step_297 (by decide) ?_
              refine lv_dup2_11 hx hb dL_step_299 rfl rfl ?_
              refine al_904 X hK hG (hd _ (List.mem_of_getElem? (i := 3) rfl)) (i := 6) (x := σ.2.2.2 904 0 6) (by omega) ((show (wB σ 904 0 (8 + (tn (σ.2.2.2 904 0 5))) ((σ.2.2.2 904 0 (8 + (tn (σ.2.2.2 904 0 5)))) + (nI 1))).2.2.2 904 0 6 = _ from e_ne (σ := σ) (F := 904) (k := 0) (i := (8 + (tn (σ.2.2.2 904 0 5)))) (j := 6) (v := ((σ.2.2.2 904 0 (8 + (tn (σ.2.2.2 904 0 5)))) + (nI 1))) (by omega)).trans rfl) dL_step_300 ?_
              refine r_top (y := nI (tn (σ.2.2.2 904 0 6))) (ix_eq h6) ?_
              refine lv_iconst (v := nI 1) hx hb dL_step_301 (by decide) ?_
              refine r_addN hx hb dL_step_302 ?_
              refine as_904 X hK hG hS hA (hd _ (List.mem_of_getElem? (i := 3) rfl)) (i := 6) (by omega) dL_step_303 (fun H locs hG hS => ?_)
              refine lv_iconst (v := nI 0) hx hb dL_step_304 (by decide) ?_
              exact rm_ret hx hb hr hlocks hG hS (by unfold h_step; rw [if_neg (Nat.not_lt.mpr c_29), if_neg (Nat.not_lt.mpr c_59), if_neg (Nat.not_le.mpr c_67), if_neg c_73, if_pos c_79, if_pos c_99] <;> rfl) (by unfold h_step; rw [if_neg (Nat.not_lt.mpr c_29), if_neg (Nat.not_lt.mpr c_59), if_neg (Nat.not_le.mpr c_67), if_neg c_73, if_pos c_79, if_pos c_99] <;> rfl) rfl dL_step_305
            · refine lv_aload_n hx hb dL_step_102 rfl (lv_at hl 4 rfl) ?_
              refine lv_aload_n hx hb dL_step_103 rfl (lv_at hl 6 rfl) ?_
              refine lv_iconst (v := nI 5) hx hb dL_step_104 (by decide) ?_
              refine al_904 X hK hG (hd _ (List.mem_of_getElem? (i := 3) rfl)) (i := 5) (x := σ.2.2.2 904 0 5) (by omega) rfl dL_step_105 ?_
              refine rm_callS X hK hG hS ysL_toolFor ml_L_11 [.ref (L 902 ku), .int (σ.2.2.2 904 0 5)] [] (c_L_toolFor l L σ ow ku (σ.2.2.2 904 0 5) (fun z hz => by rw [List.mem_singleton.mp hz]; exact (hd _ (List.mem_of_getElem? (i := 1) rfl))) hlu) rfl hl.1 rfl (Nat.le_of_ble_eq_true rfl) ⟨Nat.le_of_ble_eq_true rfl, Nat.le_of_ble_eq_true rfl⟩ ⟨Nat.zero_le _, Nat.zero_le _⟩ dL_step_106 (fun H locs hG hS => ?_)
              refine lv_goto (tgt := 113) hx hb dL_step_109 (by decide) ?_
              refine lv_istore (lv' := [(9, .int (htf (σ.2.2.2 902 ku) (σ.2.2.2 904 0 5) 4 0)), (8, .int (nI 1)), (7, .int (nI ((σ.2.2.1 900 kr ((12 * (tn (σ.2.2.2 904 0 1))) + (tn (σ.2.2.2 904 0 0)))) % 16))), (6, .int (nI ((12 * (tn (σ.2.2.2 904 0 1))) + (tn (σ.2.2.2 904 0 0))))), (0, .ref (L 900 kr)), (1, .ref (L 902 ku)), (2, .ref (L 903 km)), (3, .ref (L 904 0)), (4, .int (nI fr)), (5, .int t9)]) hx hb dL_step_113 hl (by decide) rfl (fun ls hl => ?_)
              refine lv_iload hx hb dL_step_115 (lv_at hl 0 rfl) ?_
              refine lv_if_ge (tgt := 122) hx hb dL_step_117 (by decide) (fun c_117 => ?_) (fun c_117 => ?_)
              · refine lv_aload_n hx hb dL_step_122 rfl (lv_at hl 7 rfl) ?_
                refine lv_bipush (v := nI 8) hx hb dL_step_123 (by decide) ?_
                refine lv_aload_n hx hb dL_step_125 rfl (lv_at hl 7 rfl) ?_
                refine lv_iconst (v := nI 5) hx hb dL_step_126 (by decide) ?_
                refine al_904 X hK hG (hd _ (List.mem_of_getElem? (i := 3) rfl)) (i := 5) (x := σ.2.2.2 904 0 5) (by omega) rfl dL_step_127 ?_
                refine r_top (y := nI (tn (σ.2.2.2 904 0 5))) (ix_eq (h5 c_79)) ?_
                have b5 := ix_lt (h5 c_79)
                refine r_addN hx hb dL_step_128 ?_
                refine lv_dup2_11 hx hb dL_step_129 rfl rfl ?_
                refine al_904 X hK hG (hd _ (List.mem_of_getElem? (i := 3) rfl)) (i := 8 + (tn (σ.2.2.2 904 0 5))) (x := σ.2.2.2 904 0 (8 + (tn (σ.2.2.2 904 0 5)))) (by omega) rfl dL_step_130 ?_
                refine lv_iconst (v := nI 1) hx hb dL_step_131 (by decide) ?_
                refine lv_iadd hx hb dL_step_132 ?_
                refine as_904 X hK hG hS hA (hd _ (List.mem_of_getElem? (i := 3) rfl)) (i := 8 + (tn (σ.2.2.2 904 0 5))) (by omega) dL_step_133 (fun H locs hG hS => ?_)
                refine lv_aload_n hx hb dL_step_134 rfl (lv_at hl 4 rfl) ?_
                refine lv_iload hx hb dL_step_135 (lv_at hl 3 rfl) ?_
                refine lv_aload_n hx hb dL_step_137 rfl (lv_at hl 4 rfl) ?_
                refine lv_iload hx hb dL_step_138 (lv_at hl 3 rfl) ?_
                refine al_900 X hK hG (hd _ (List.mem_of_getElem? (i := 0) rfl)) (i := (12 * (tn (σ.2.2.2 904 0 1))) + (tn (σ.2.2.2 904 0 0))) (x := σ.2.2.1 900 kr ((12 * (tn (σ.2.2.2 904 0 1))) + (tn (σ.2.2.2 904 0 0)))) (by omega) rfl dL_step_140 ?_
                refine r_ldc2J X (n := 18446744073709551600) kl_17 (by decide) dL_step_141 ?_
                refine r_landJ hx hb (v := (σ.2.2.1 900 kr (12 * tn (σ.2.2.2 904 0 1) + tn (σ.2.2.2 904 0 0))) / 16 * 16) (and_hi (k := 4) rfl (by omega) (by decide)) dL_step_144 ?_
                refine lv_aload_n hx hb dL_step_145 rfl (lv_at hl 7 rfl) ?_
                refine lv_iconst (v := nI 2) hx hb dL_step_146 (by decide) ?_
                refine al_904 X hK hG (hd _ (List.mem_of_getElem? (i := 3) rfl)) (i := 2) (x := σ.2.2.2 904 0 2) (by omega) ((show (wB σ 904 0 (8 + (tn (σ.2.2.2 904 0 5))) ((σ.2.2.2 904 0 (8 + (tn (σ.2.2.2 904 0 5)))) + (nI 1))).2.2.2 904 0 2 = _ from e_ne (σ := σ) (F := 904) (k := 0) (i := (8 + (tn (σ.2.2.2 904 0 5)))) (j := 2) (v := ((σ.2.2.2 904 0 (8 + (tn (σ.2.2.2 904 0 5)))) + (nI 1))) (by omega)).trans rfl) dL_step_147 ?_
                refine r_top (y := nI (tn (σ.2.2.2 904 0 2))) (ix_eq h2) ?_
                refine r_i2lJ hx hb (by omega) dL_step_148 ?_
                refine r_lorJ hx hb (v := (σ.2.2.1 900 kr (12 * tn (σ.2.2.2 904 0 1) + tn (σ.2.2.2 904 0 0))) / 16 * 16 + tn (σ.2.2.2 904 0 2)) (or_lo (k := 4) rfl (by omega)) dL_step_149 ?_
                refine as_900 X hK hG hS hA (hd _ (List.mem_of_getElem? (i := 0) rfl)) (i := (12 * (tn (σ.2.2.2 904 0 1))) + (tn (σ.2.2.2 904 0 0))) (x := (σ.2.2.1 900 kr (12 * tn (σ.2.2.2 904 0 1) + tn (σ.2.2.2 904 0 0))) / 16 * 16 + tn (σ.2.2.2 904 0 2)) (by omega) dL_step_150 (fun H locs hG hS => ?_)
                refine lv_iload hx hb dL_step_151 (lv_at hl 9 rfl) ?_
                refine lv_if_eq (tgt := 296) hx hb dL_step_153 (by decide) (fun c_153 => (by first | exact absurd c_99 c_153 | exact absurd c_153 c_99 | omega)) (fun c_153 => ?_)
                have hT : ix (htf (σ.2.2.2 902 ku) (σ.2.2.2 904 0 5) 4 0) 4 := htf_ix 4 0 (by decide) (le_nlt c_117)
                have hT4 := ix_lt hT
                have hT2 := ix_lt (hU2 _ hT4)
                have hT3 := ix_lt (hU3 _ hT4)
                have hM9 := ix_lt (hM4 _ (ix_lt h0))
                have hw9 : tn (σ.2.2.2 903 km 1) * tn (σ.2.2.2 904 0 0) ≤ 99 * 11 := Nat.mul_le_mul (by omega) (by omega)
                refine lv_iload hx hb dL_step_156 (lv_at hl 0 rfl) ?_
                refine r_top (y := nI (tn (htf (σ.2.2.2 902 ku) (σ.2.2.2 904 0 5) 4 0))) (ix_eq hT) ?_
                refine lv_iconst (v := nI 1) hx hb dL_step_158 (by decide) ?_
                refine r_addN hx hb dL_step_159 ?_
                refine lv_iconst (v := nI 4) hx hb dL_step_160 (by decide) ?_
                refine r_ishlN hx hb (v := ((tn (htf (σ.2.2.2 902 ku) (σ.2.2.2 904 0 5) 4 0)) + 1) * 16) (by decide) rfl dL_step_161 ?_
                refine lv_aload_n hx hb dL_step_162 rfl (lv_at hl 6 rfl) ?_
                refine lv_iconst (v := nI 4) hx hb dL_step_163 (by decide) ?_
                refine lv_aload_n hx hb dL_step_164 rfl (lv_at hl 7 rfl) ?_
                refine lv_iconst (v := nI 0) hx hb dL_step_165 (by decide) ?_
                refine al_904 X hK hG (hd _ (List.mem_of_getElem? (i := 3) rfl)) (i := 0) (x := σ.2.2.2 904 0 0) (by omega) ((show (wB σ 904 0 (8 + (tn (σ.2.2.2 904 0 5))) ((σ.2.2.2 904 0 (8 + (tn (σ.2.2.2 904 0 5)))) + (nI 1))).2.2.2 904 0 0 = _ from e_ne (σ := σ) (F := 904) (k := 0) (i := (8 + (tn (σ.2.2.2 904 0 5)))) (j := 0) (v := ((σ.2.2.2 904 0 (8 + (tn (σ.2.2.2 904 0 5)))) + (nI 1))) (by omega)).trans rfl) dL_step_166 ?_
                refine r_top (y := nI (tn (σ.2.2.2 904 0 0))) (ix_eq h0) ?_
                refine r_addN hx hb dL_step_167 ?_
                refine pw_ald8 X hK hG 903 fa_903 (hd _ (List.mem_of_getElem? (i := 2) rfl)) (i := 4 + (tn (σ.2.2.2 904 0 0))) (N := σ.2.2.1 903 km 0) (x := σ.2.2.2 903 km (4 + (tn (σ.2.2.2 904 0 0)))) rfl (by omega) (by omega) rfl dL_step_168 ?_
                refine lv_bipush (v := nI 50) hx hb dL_step_169 (by decide) ?_
                refine lv_iadd hx hb dL_step_171 ?_
                refine r_top (y := nI (tn (σ.2.2.2 903 km (4 + tn (σ.2.2.2 904 0 0)) + nI 50))) (ix_eq (hM4 _ (ix_lt h0))) ?_
                refine lv_bipush (v := nI 10) hx hb dL_step_172 (by decide) ?_
                refine r_ishlN hx hb (v := (tn (σ.2.2.2 903 km (4 + tn (σ.2.2.2 904 0 0)) + nI 50)) * 1024) (by decide) rfl dL_step_174 ?_
                refine r_addN hx hb dL_step_175 ?_
                refine lv_aload_n hx hb dL_step_176 rfl (lv_at hl 6 rfl) ?_
                refine lv_iconst (v := nI 1) hx hb dL_step_177 (by decide) ?_
                refine pw_ald8 X hK hG 903 fa_903 (hd _ (List.mem_of_getElem? (i := 2) rfl)) (i := 1) (N := σ.2.2.1 903 km 0) (x := σ.2.2.2 903 km 1) rfl (by omega) (by omega) rfl dL_step_178 ?_
                refine r_top (y := nI (tn (σ.2.2.2 903 km 1))) (ix_eq hM1) ?_
                refine lv_aload_n hx hb dL_step_179 rfl (lv_at hl 7 rfl) ?_
                refine lv_iconst (v := nI 0) hx hb dL_step_180 (by decide) ?_
                refine al_904 X hK hG (hd _ (List.mem_of_getElem? (i := 3) rfl)) (i := 0) (x := σ.2.2.2 904 0 0) (by omega) ((show (wB σ 904 0 (8 + (tn (σ.2.2.2 904 0 5))) ((σ.2.2.2 904 0 (8 + (tn (σ.2.2.2 904 0 5)))) + (nI 1))).2.2.2 904 0 0 = _ from e_ne (σ := σ) (F := 904) (k := 0) (i := (8 + (tn (σ.2.2.2 904 0 5)))) (j := 0) (v := ((σ.2.2.2 904 0 (8 + (tn (σ.2.2.2 904 0 5)))) + (nI 1))) (by omega)).trans rfl) dL_step_181 ?_
                refine r_top (y := nI (tn (σ.2.2.2 904 0 0))) (ix_eq h0) ?_
                refine r_mulN hx hb dL_step_182 ?_
                refine lv_bipush (v := nI 10) hx hb dL_step_183 (by decide) ?_
                refine r_divN hx hb (by omega) (by decide) (by decide) dL_step_185 ?_
                refine lv_bipush (v := nI 18) hx hb dL_step_186 (by decide) ?_
                refine r_ishlN hx hb (v := (((tn (σ.2.2.2 903 km 1)) * (tn (σ.2.2.2 904 0 0))) / 10) * 262144) (by decide) rfl dL_step_188 ?_
                refine r_addN hx hb dL_step_189 ?_
                refine r_i2lJ hx hb (by omega) dL_step_190 ?_
                refine lv_lstore (lv' := [(10, .long (lJ (((((tn (htf (σ.2.2.2 902 ku) (σ.2.2.2 904 0 5) 4 0)) + 1) * 16) + ((tn (σ.2.2.2 903 km (4 + tn (σ.2.2.2 904 0 0)) + nI 50)) * 1024)) + ((((tn (σ.2.2.2 903 km 1)) * (tn (σ.2.2.2 904 0 0))) / 10) * 262144)))), (9, .int (htf (σ.2.2.2 902 ku) (σ.2.2.2 904 0 5) 4 0)), (8, .int (nI 1)), (7, .int (nI ((σ.2.2.1 900 kr ((12 * (tn (σ.2.2.2 904 0 1))) + (tn (σ.2.2.2 904 0 0)))) % 16))), (6, .int (nI ((12 * (tn (σ.2.2.2 904 0 1))) + (tn (σ.2.2.2 904 0 0))))), (0, .ref (L 900 kr)), (1, .ref (L 902 ku)), (2, .ref (L 903 km)), (3, .ref (L 904 0)), (4, .int (nI fr)), (5, .int t9)]) hx hb dL_step_191 hl (by decide) rfl (fun ls hl => ?_)
                refine lv_aload_n hx hb dL_step_193 rfl (lv_at hl 6 rfl) ?_
                refine lv_bipush (v := nI 9) hx hb dL_step_194 (by decide) ?_
                refine lv_iload hx hb dL_step_196 (lv_at hl 1 rfl) ?_
                refine r_top (y := nI (tn (htf (σ.2.2.2 902 ku) (σ.2.2.2 904 0 5) 4 0))) (ix_eq hT) ?_
                refine r_mulN hx hb dL_step_198 ?_
                refine lv_iconst (v := nI 2) hx hb dL_step_199 (by decide) ?_
                refine r_addN hx hb dL_step_200 ?_
                refine pw_ald8 X hK hG 902 fa_902 (hd _ (List.mem_of_getElem? (i := 1) rfl)) (i := (9 * (tn (htf (σ.2.2.2 902 ku) (σ.2.2.2 904 0 5) 4 0))) + 2) (N := σ.2.2.1 902 ku 0) (x := σ.2.2.2 902 ku ((9 * (tn (htf (σ.2.2.2 902 ku) (σ.2.2.2 904 0 5) 4 0))) + 2)) rfl (by omega) (by omega) rfl dL_step_201 ?_
                refine r_top (y := nI (tn (σ.2.2.2 902 ku ((9 * (tn (htf (σ.2.2.2 902 ku) (σ.2.2.2 904 0 5) 4 0))) + 2)))) (ix_eq (hU2 _ (ix_lt hT))) ?_
                refine lv_iconst (v := nI 4) hx hb dL_step_202 (by decide) ?_
                refine r_divN hx hb (by omega) (by decide) (by decide) dL_step_203 ?_
                refine r_i2lJ hx hb (by omega) dL_step_204 ?_
                refine lv_lstore (lv' := [(12, .long (lJ ((tn (σ.2.2.2 902 ku ((9 * (tn (htf (σ.2.2.2 902 ku) (σ.2.2.2 904 0 5) 4 0))) + 2))) / 4))), (10, .long (lJ (((((tn (htf (σ.2.2.2 902 ku) (σ.2.2.2 904 0 5) 4 0)) + 1) * 16) + ((tn (σ.2.2.2 903 km (4 + tn (σ.2.2.2 904 0 0)) + nI 50)) * 1024)) + ((((tn (σ.2.2.2 903 km 1)) * (tn (σ.2.2.2 904 0 0))) / 10) * 262144)))), (9, .int (htf (σ.2.2.2 902 ku) (σ.2.2.2 904 0 5) 4 0)), (8, .int (nI 1)), (7, .int (nI ((σ.2.2.1 900 kr ((12 * (tn (σ.2.2.2 904 0 1))) + (tn (σ.2.2.2 904 0 0)))) % 16))), (6, .int (nI ((12 * (tn (σ.2.2.2 904 0 1))) + (tn (σ.2.2.2 904 0 0))))), (0, .ref (L 900 kr)), (1, .ref (L 902 ku)), (2, .ref (L 903 km)), (3, .ref (L 904 0)), (4, .int (nI fr)), (5, .int t9)]) hx hb dL_step_205 hl (by decide) rfl (fun ls hl => ?_)
                refine lv_aload_n hx hb dL_step_207 rfl (lv_at hl 7 rfl) ?_
                refine lv_bipush (v := nI 9) hx hb dL_step_208 (by decide) ?_
                refine lv_iload hx hb dL_step_210 (lv_at hl 2 rfl) ?_
                refine r_top (y := nI (tn (htf (σ.2.2.2 902 ku) (σ.2.2.2 904 0 5) 4 0))) (ix_eq hT) ?_
                refine r_mulN hx hb dL_step_212 ?_
                refine lv_iconst (v := nI 3) hx hb dL_step_213 (by decide) ?_
                refine r_addN hx hb dL_step_214 ?_
                refine pw_ald8 X hK hG 902 fa_902 (hd _ (List.mem_of_getElem? (i := 1) rfl)) (i := (9 * (tn (htf (σ.2.2.2 902 ku) (σ.2.2.2 904 0 5) 4 0))) + 3) (N := σ.2.2.1 902 ku 0) (x := σ.2.2.2 902 ku ((9 * (tn (htf (σ.2.2.2 902 ku) (σ.2.2.2 904 0 5) 4 0))) + 3)) rfl (by omega) (by omega) rfl dL_step_215 ?_
                refine lv_sipush (v := nI 200) hx hb dL_step_216 (by decide) ?_
                refine lv_iadd hx hb dL_step_219 ?_
                refine r_top (y := nI (tn (σ.2.2.2 902 ku (9 * tn (htf (σ.2.2.2 902 ku) (σ.2.2.2 904 0 5) 4 0) + 3) + nI 200))) (ix_eq (hU3 _ hT4)) ?_
                refine r_i2lJ hx hb (by omega) dL_step_220 ?_
                refine lv_lstore (lv' := [(14, .long (lJ (tn (σ.2.2.2 902 ku (9 * tn (htf (σ.2.2.2 902 ku) (σ.2.2.2 904 0 5) 4 0) + 3) + nI 200)))), (12, .long (lJ ((tn (σ.2.2.2 902 ku ((9 * (tn (htf (σ.2.2.2 902 ku) (σ.2.2.2 904 0 5) 4 0))) + 2))) / 4))), (10, .long (lJ (((((tn (htf (σ.2.2.2 902 ku) (σ.2.2.2 904 0 5) 4 0)) + 1) * 16) + ((tn (σ.2.2.2 903 km (4 + tn (σ.2.2.2 904 0 0)) + nI 50)) * 1024)) + ((((tn (σ.2.2.2 903 km 1)) * (tn (σ.2.2.2 904 0 0))) / 10) * 262144)))), (9, .int (htf (σ.2.2.2 902 ku) (σ.2.2.2 904 0 5) 4 0)), (8, .int (nI 1)), (7, .int (nI ((σ.2.2.1 900 kr ((12 * (tn (σ.2.2.2 904 0 1))) + (tn (σ.2.2.2 904 0 0)))) % 16))), (6, .int (nI ((12 * (tn (σ.2.2.2 904 0 1))) + (tn (σ.2.2.2 904 0 0))))), (0, .ref (L 900 kr)), (1, .ref (L 902 ku)), (2, .ref (L 903 km)), (3, .ref (L 904 0)), (4, .int (nI fr)), (5, .int t9)]) hx hb dL_step_221 hl (by decide) rfl (fun ls hl => ?_)
                refine lv_aload_n hx hb dL_step_223 rfl (lv_at hl 7 rfl) ?_
                refine lv_iload hx hb dL_step_224 (lv_at hl 6 rfl) ?_
                refine lv_aload_n hx hb dL_step_226 rfl (lv_at hl 7 rfl) ?_
                refine lv_iload hx hb dL_step_227 (lv_at hl 6 rfl) ?_
                refine al_900 X hK hG (hd _ (List.mem_of_getElem? (i := 0) rfl)) (i := (12 * (tn (σ.2.2.2 904 0 1))) + (tn (σ.2.2.2 904 0 0))) (x := (σ.2.2.1 900 kr (12 * tn (σ.2.2.2 904 0 1) + tn (σ.2.2.2 904 0 0))) / 16 * 16 + tn (σ.2.2.2 904 0 2)) (by omega) (by simp [wN, wI, wA, wB, up3, up2, up1]) dL_step_229 ?_
                refine r_ldc2J X (n := 263882790666240) kl_19 (by decide) dL_step_230 ?_
                refine r_landJ hx hb (v := (σ.2.2.1 900 kr (12 * tn (σ.2.2.2 904 0 1) + tn (σ.2.2.2 904 0 0))) / 17592186044416 % 16 * 17592186044416) ((and_win (k := 44) rfl rfl).trans (by omega)) dL_step_233 ?_
                refine lv_aload_n hx hb dL_step_234 rfl (lv_at hl 10 rfl) ?_
                refine lv_iconst (v := nI 2) hx hb dL_step_235 (by decide) ?_
                refine al_904 X hK hG (hd _ (List.mem_of_getElem? (i := 3) rfl)) (i := 2) (x := σ.2.2.2 904 0 2) (by omega) ((show (wB σ 904 0 (8 + (tn (σ.2.2.2 904 0 5))) ((σ.2.2.2 904 0 (8 + (tn (σ.2.2.2 904 0 5)))) + (nI 1))).2.2.2 904 0 2 = _ from e_ne (σ := σ) (F := 904) (k := 0) (i := (8 + (tn (σ.2.2.2 904 0 5)))) (j := 2) (v := ((σ.2.2.2 904 0 (8 + (tn (σ.2.2.2 904 0 5)))) + (nI 1))) (by omega)).trans rfl) dL_step_236 ?_
                refine r_top (y := nI (tn (σ.2.2.2 904 0 2))) (ix_eq h2) ?_
                refine r_i2lJ hx hb (by omega) dL_step_237 ?_
                refine r_lorJ hx hb (v := (σ.2.2.1 900 kr (12 * tn (σ.2.2.2 904 0 1) + tn (σ.2.2.2 904 0 0))) / 17592186044416 % 16 * 17592186044416 + tn (σ.2.2.2 904 0 2)) (or_lo (k := 44) rfl (by omega)) dL_step_238 ?_
                refine lv_lload hx hb dL_step_239 (lv_at hl 2 rfl) ?_
                refine r_lorJ hx hb (v := (σ.2.2.1 900 kr (12 * tn (σ.2.2.2 904 0 1) + tn (σ.2.2.2 904 0 0))) / 17592186044416 % 16 * 17592186044416 + (((tn (htf (σ.2.2.2 902 ku) (σ.2.2.2 904 0 5) 4 0) + 1) + tn (σ.2.2.2 903 km (4 + tn (σ.2.2.2 904 0 0)) + nI 50) * 64 + ((tn (σ.2.2.2 903 km 1) * tn (σ.2.2.2 904 0 0)) / 10) * 16384) * 16 + tn (σ.2.2.2 904 0 2))) (by rw [show ((((tn (htf (σ.2.2.2 902 ku) (σ.2.2.2 904 0 5) 4 0)) + 1) * 16) + ((tn (σ.2.2.2 903 km (4 + tn (σ.2.2.2 904 0 0)) + nI 50)) * 1024)) + ((((tn (σ.2.2.2 903 km 1)) * (tn (σ.2.2.2 904 0 0))) / 10) * 262144) = ((tn (htf (σ.2.2.2 902 ku) (σ.2.2.2 904 0 5) 4 0) + 1) + tn (σ.2.2.2 903 km (4 + tn (σ.2.2.2 904 0 0)) + nI 50) * 64 + ((tn (σ.2.2.2 903 km 1) * tn (σ.2.2.2 904 0 0)) / 10) * 16384) * 16 by omega]; exact or_mid (j := 4) (k := 44) rfl rfl (by omega) (by omega)) dL_step_241 ?_
                refine lv_lload hx hb dL_step_242 (lv_at hl 1 rfl) ?_
                refine lv_bipush (v := nI 26) hx hb dL_step_244 (by decide) ?_
                refine r_lshlJ hx hb (v := ((tn (σ.2.2.2 902 ku ((9 * (tn (htf (σ.2.2.2 902 ku) (σ.2.2.2 904 0 5) 4 0))) + 2))) / 4) * 67108864) (by decide) rfl dL_step_246 ?_
                refine r_lorJ hx hb (v := (σ.2.2.1 900 kr (12 * tn (σ.2.2.2 904 0 1) + tn (σ.2.2.2 904 0 0))) / 17592186044416 % 16 * 17592186044416 + ((tn (σ.2.2.2 902 ku (9 * tn (htf (σ.2.2.2 902 ku) (σ.2.2.2 904 0 5) 4 0) + 2)) / 4) * 67108864 + (((tn (htf (σ.2.2.2 902 ku) (σ.2.2.2 904 0 5) 4 0) + 1) + tn (σ.2.2.2 903 km (4 + tn (σ.2.2.2 904 0 0)) + nI 50) * 64 + ((tn (σ.2.2.2 903 km 1) * tn (σ.2.2.2 904 0 0)) / 10) * 16384) * 16 + tn (σ.2.2.2 904 0 2)))) (or_mid (j := 26) (k := 44) rfl rfl (by omega) (by omega)) dL_step_247 ?_
                refine lv_lload hx hb dL_step_248 (lv_at hl 0 rfl) ?_
                refine lv_bipush (v := nI 34) hx hb dL_step_250 (by decide) ?_
                refine r_lshlJ hx hb (v := (tn (σ.2.2.2 902 ku (9 * tn (htf (σ.2.2.2 902 ku) (σ.2.2.2 904 0 5) 4 0) + 3) + nI 200)) * 17179869184) (by decide) rfl dL_step_252 ?_
                refine r_lorJ hx hb (v := (σ.2.2.1 900 kr (12 * tn (σ.2.2.2 904 0 1) + tn (σ.2.2.2 904 0 0))) / 17592186044416 % 16 * 17592186044416 + ((tn (σ.2.2.2 902 ku (9 * tn (htf (σ.2.2.2 902 ku) (σ.2.2.2 904 0 5) 4 0) + 3) + nI 200)) * 17179869184 + ((tn (σ.2.2.2 902 ku (9 * tn (htf (σ.2.2.2 902 ku) (σ.2.2.2 904 0 5) 4 0) + 2)) / 4) * 67108864 + (((tn (htf (σ.2.2.2 902 ku) (σ.2.2.2 904 0 5) 4 0) + 1) + tn (σ.2.2.2 903 km (4 + tn (σ.2.2.2 904 0 0)) + nI 50) * 64 + ((tn (σ.2.2.2 903 km 1) * tn (σ.2.2.2 904 0 0)) / 10) * 16384) * 16 + tn (σ.2.2.2 904 0 2))))) (or_mid (j := 34) (k := 44) rfl rfl (by omega) (by omega)) dL_step_253 ?_
                refine as_900 X hK hG hS hA (hd _ (List.mem_of_getElem? (i := 0) rfl)) (i := (12 * (tn (σ.2.2.2 904 0 1))) + (tn (σ.2.2.2 904 0 0))) (x := (σ.2.2.1 900 kr (12 * tn (σ.2.2.2 904 0 1) + tn (σ.2.2.2 904 0 0))) / 17592186044416 % 16 * 17592186044416 + ((tn (σ.2.2.2 902 ku (9 * tn (htf (σ.2.2.2 902 ku) (σ.2.2.2 904 0 5) 4 0) + 3) + nI 200)) * 17179869184 + ((tn (σ.2.2.2 902 ku (9 * tn (htf (σ.2.2.2 902 ku) (σ.2.2.2 904 0 5) 4 0) + 2)) / 4) * 67108864 + (((tn (htf (σ.2.2.2 902 ku) (σ.2.2.2 904 0 5) 4 0) + 1) + tn (σ.2.2.2 903 km (4 + tn (σ.2.2.2 904 0 0)) + nI 50) * 64 + ((tn (σ.2.2.2 903 km 1) * tn (σ.2.2.2 904 0 0)) / 10) * 16384) * 16 + tn (σ.2.2.2 904 0 2))))) (by omega) dL_step_254 (fun H locs hG hS => ?_)
                refine lv_aload_n hx hb dL_step_255 rfl (lv_at hl 8 rfl) ?_
                refine lv_bipush (v := nI 9) hx hb dL_step_256 (by decide) ?_
                refine lv_iload hx hb dL_step_258 (lv_at hl 3 rfl) ?_
                refine r_top (y := nI (tn (htf (σ.2.2.2 902 ku) (σ.2.2.2 904 0 5) 4 0))) (ix_eq hT) ?_
                refine r_mulN hx hb dL_step_260 ?_
                refine lv_iconst (v := nI 2) hx hb dL_step_261 (by decide) ?_
                refine r_addN hx hb dL_step_262 ?_
                refine lv_dup2_11 hx hb dL_step_263 rfl rfl ?_
                refine pw_ald8 X hK hG 902 fa_902 (hd _ (List.mem_of_getElem? (i := 1) rfl)) (i := (9 * (tn (htf (σ.2.2.2 902 ku) (σ.2.2.2 904 0 5) 4 0))) + 2) (N := σ.2.2.1 902 ku 0) (x := σ.2.2.2 902 ku ((9 * (tn (htf (σ.2.2.2 902 ku) (σ.2.2.2 904 0 5) 4 0))) + 2)) rfl (by omega) (by omega) rfl dL_step_264 ?_
                refine r_top (y := nI (tn (σ.2.2.2 902 ku ((9 * (tn (htf (σ.2.2.2 902 ku) (σ.2.2.2 904 0 5) 4 0))) + 2)))) (ix_eq (hU2 _ (ix_lt hT))) ?_
                refine lv_iconst (v := nI 1) hx hb dL_step_265 (by decide) ?_
                refine r_addN hx hb dL_step_266 ?_
                refine pw_ast8 X hK hG hS hA 902 fa_902 (hd _ (List.mem_of_getElem? (i := 1) rfl)) (i := (9 * (tn (htf (σ.2.2.2 902 ku) (σ.2.2.2 904 0 5) 4 0))) + 2) (N := σ.2.2.1 902 ku 0) rfl (by omega) (by omega) dL_step_267 (fun H locs hG hS => ?_)
                refine lv_aload_n hx hb dL_step_268 rfl (lv_at hl 9 rfl) ?_
                refine lv_iconst (v := nI 0) hx hb dL_step_269 (by decide) ?_
                refine lv_dup2_11 hx hb dL_step_270 rfl rfl ?_
                refine pw_ald8 X hK hG 903 fa_903 (hd _ (List.mem_of_getElem? (i := 2) rfl)) (i := 0) (N := σ.2.2.1 903 km 0) (x := σ.2.2.2 903 km 0) rfl (by omega) (by omega) rfl dL_step_271 ?_
                refine lv_iconst (v := nI 1) hx hb dL_step_272 (by decide) ?_
                refine lv_iadd hx hb dL_step_273 ?_
                refine pw_ast8 X hK hG hS hA 903 fa_903 (hd _ (List.mem_of_getElem? (i := 2) rfl)) (i := 0) (N := σ.2.2.1 903 km 0) rfl (by omega) (by omega) dL_step_274 (fun H locs hG hS => ?_)
                refine lv_aload_n hx hb dL_step_275 rfl (lv_at hl 9 rfl) ?_
                refine lv_iconst (v := nI 1) hx hb dL_step_276 (by decide) ?_
                refine r_cutH 295 [.int (nI (if ¬ tn (σ.2.2.2 903 km 1) = 99 then tn (σ.2.2.2 903 km 1) + 1 else 99)), .int (nI 1), .ref (L 903 km)] hG hS (fun H locs hG hS => ?_) (fun J_295 => ?_)
                · refine pw_ast8 X hK hG hS hA 903 fa_903 (hd _ (List.mem_of_getElem? (i := 2) rfl)) (i := 1) (N := σ.2.2.1 903 km 0) rfl (by omega) (by omega) dL_step_295 (fun H locs hG hS => ?_)
                  refine lv_aload_n hx hb dL_step_296 rfl (lv_at hl 10 rfl) ?_
                  refine lv_bipush (v := nI 6) hx hb dL_step_297 (by decide) ?_
                  refine lv_dup2_11 hx hb dL_step_299 rfl rfl ?_
                  refine al_904 X hK hG (hd _ (List.mem_of_getElem? (i := 3) rfl)) (i := 6) (x := σ.2.2.2 904 0 6) (by omega) ((show (wB σ 904 0 (8 + (tn (σ.2.2.2 904 0 5))) ((σ.2.2.2 904 0 (8 + (tn (σ.2.2.2 904 0 5)))) + (nI 1))).2.2.2 904 0 6 = _ from e_ne (σ := σ) (F := 904) (k := 0) (i := (8 + (tn (σ.2.2.2 904 0 5)))) (j := 6) (v := ((σ.2.2.2 904 0 (8 + (tn (σ.2.2.2 904 0 5)))) + (nI 1))) (by omega)).trans rfl) dL_step_300 ?_
                  refine r_top (y := nI (tn (σ.2.2.2 904 0 6))) (ix_eq h6) ?_
                  refine lv_iconst (v := nI 1) hx hb dL_step_301 (by decide) ?_
                  refine r_addN hx hb dL_step_302 ?_
                  refine as_904 X hK hG hS hA (hd _ (List.mem_of_getElem? (i := 3) rfl)) (i := 6) (by omega) dL_step_303 (fun H locs hG hS => ?_)
                  refine lv_iconst (v := nI 0) hx hb dL_step_304 (by decide) ?_
                  exact rm_ret hx hb hr hlocks hG hS (by unfold h_step; rw [if_neg (Nat.not_lt.mpr c_29), if_neg (Nat.not_lt.mpr c_59), if_neg (Nat.not_le.mpr c_67), if_neg c_73, if_pos c_79, if_neg c_99, if_pos c_117] <;> rfl) (by unfold h_step; rw [if_neg (Nat.not_lt.mpr c_29), if_neg (Nat.not_lt.mpr c_59), if_neg (Nat.not_le.mpr c_67), if_neg c_73, if_pos c_79, if_neg c_99, if_pos c_117] <;> rfl) rfl dL_step_305
                · refine lv_aload_n hx hb dL_step_277 rfl (lv_at hl 9 rfl) ?_
                  refine lv_iconst (v := nI 1) hx hb dL_step_278 (by decide) ?_
                  refine pw_ald8 X hK hG 903 fa_903 (hd _ (List.mem_of_getElem? (i := 2) rfl)) (i := 1) (N := σ.2.2.1 903 km 0) (x := σ.2.2.2 903 km 1) rfl (by omega) (by omega) ((show (wB (wB (wA (wA (wB σ 904 0 (8 + (tn (σ.2.2.2 904 0 5))) ((σ.2.2.2 904 0 (8 + (tn (σ.2.2.2 904 0 5)))) + (nI 1))) 900 kr ((12 * (tn (σ.2.2.2 904 0 1))) + (tn (σ.2.2.2 904 0 0))) ((σ.2.2.1 900 kr (12 * tn (σ.2.2.2 904 0 1) + tn (σ.2.2.2 904 0 0))) / 16 * 16 + tn (σ.2.2.2 904 0 2))) 900 kr ((12 * (tn (σ.2.2.2 904 0 1))) + (tn (σ.2.2.2 904 0 0))) ((σ.2.2.1 900 kr (12 * tn (σ.2.2.2 904 0 1) + tn (σ.2.2.2 904 0 0))) / 17592186044416 % 16 * 17592186044416 + ((tn (σ.2.2.2 902 ku (9 * tn (htf (σ.2.2.2 902 ku) (σ.2.2.2 904 0 5) 4 0) + 3) + nI 200)) * 17179869184 + ((tn (σ.2.2.2 902 ku (9 * tn (htf (σ.2.2.2 902 ku) (σ.2.2.2 904 0 5) 4 0) + 2)) / 4) * 67108864 + (((tn (htf (σ.2.2.2 902 ku) (σ.2.2.2 904 0 5) 4 0) + 1) + tn (σ.2.2.2 903 km (4 + tn (σ.2.2.2 904 0 0)) + nI 50) * 64 + ((tn (σ.2.2.2 903 km 1) * tn (σ.2.2.2 904 0 0)) / 10) * 16384) * 16 + tn (σ.2.2.2 904 0 2)))))) 902 ku ((9 * (tn (htf (σ.2.2.2 902 ku) (σ.2.2.2 904 0 5) 4 0))) + 2) (nI ((tn (σ.2.2.2 902 ku ((9 * (tn (htf (σ.2.2.2 902 ku) (σ.2.2.2 904 0 5) 4 0))) + 2))) + 1))) 903 km 0 ((σ.2.2.2 903 km 0) + (nI 1))).2.2.2 903 km 1 = _ from e_ne (σ := (wB (wA (wA (wB σ 904 0 (8 + (tn (σ.2.2.2 904 0 5))) ((σ.2.2.2 904 0 (8 + (tn (σ.2.2.2 904 0 5)))) + (nI 1))) 900 kr ((12 * (tn (σ.2.2.2 904 0 1))) + (tn (σ.2.2.2 904 0 0))) ((σ.2.2.1 900 kr (12 * tn (σ.2.2.2 904 0 1) + tn (σ.2.2.2 904 0 0))) / 16 * 16 + tn (σ.2.2.2 904 0 2))) 900 kr ((12 * (tn (σ.2.2.2 904 0 1))) + (tn (σ.2.2.2 904 0 0))) ((σ.2.2.1 900 kr (12 * tn (σ.2.2.2 904 0 1) + tn (σ.2.2.2 904 0 0))) / 17592186044416 % 16 * 17592186044416 + ((tn (σ.2.2.2 902 ku (9 * tn (htf (σ.2.2.2 902 ku) (σ.2.2.2 904 0 5) 4 0) + 3) + nI 200)) * 17179869184 + ((tn (σ.2.2.2 902 ku (9 * tn (htf (σ.2.2.2 902 ku) (σ.2.2.2 904 0 5) 4 0) + 2)) / 4) * 67108864 + (((tn (htf (σ.2.2.2 902 ku) (σ.2.2.2 904 0 5) 4 0) + 1) + tn (σ.2.2.2 903 km (4 + tn (σ.2.2.2 904 0 0)) + nI 50) * 64 + ((tn (σ.2.2.2 903 km 1) * tn (σ.2.2.2 904 0 0)) / 10) * 16384) * 16 + tn (σ.2.2.2 904 0 2)))))) 902 ku ((9 * (tn (htf (σ.2.2.2 902 ku) (σ.2.2.2 904 0 5) 4 0))) + 2) (nI ((tn (σ.2.2.2 902 ku ((9 * (tn (htf (σ.2.2.2 902 ku) (σ.2.2.2 904 0 5) 4 0))) + 2))) + 1)))) (F := 903) (k := km) (i := 0) (j := 1) (v := ((σ.2.2.2 903 km 0) + (nI 1))) (by decide)).trans rfl) dL_step_279 ?_
                  refine r_top (y := nI (tn (σ.2.2.2 903 km 1))) (ix_eq hM1) ?_
                  refine lv_bipush (v := nI 99) hx hb dL_step_280 (by decide) ?_
                  refine r_icmp_neN (tgt := 290) hx hb dL_step_282 (by decide) (by omega) (by omega) (fun c_282 => ?_) (fun c_282 => ?_)
                  · refine lv_aload_n hx hb dL_step_290 rfl (lv_at hl 9 rfl) ?_
                    refine lv_iconst (v := nI 1) hx hb dL_step_291 (by decide) ?_
                    refine pw_ald8 X hK hG 903 fa_903 (hd _ (List.mem_of_getElem? (i := 2) rfl)) (i := 1) (N := σ.2.2.1 903 km 0) (x := σ.2.2.2 903 km 1) rfl (by omega) (by omega) ((show (wB (wB (wA (wA (wB σ 904 0 (8 + (tn (σ.2.2.2 904 0 5))) ((σ.2.2.2 904 0 (8 + (tn (σ.2.2.2 904 0 5)))) + (nI 1))) 900 kr ((12 * (tn (σ.2.2.2 904 0 1))) + (tn (σ.2.2.2 904 0 0))) ((σ.2.2.1 900 kr (12 * tn (σ.2.2.2 904 0 1) + tn (σ.2.2.2 904 0 0))) / 16 * 16 + tn (σ.2.2.2 904 0 2))) 900 kr ((12 * (tn (σ.2.2.2 904 0 1))) + (tn (σ.2.2.2 904 0 0))) ((σ.2.2.1 900 kr (12 * tn (σ.2.2.2 904 0 1) + tn (σ.2.2.2 904 0 0))) / 17592186044416 % 16 * 17592186044416 + ((tn (σ.2.2.2 902 ku (9 * tn (htf (σ.2.2.2 902 ku) (σ.2.2.2 904 0 5) 4 0) + 3) + nI 200)) * 17179869184 + ((tn (σ.2.2.2 902 ku (9 * tn (htf (σ.2.2.2 902 ku) (σ.2.2.2 904 0 5) 4 0) + 2)) / 4) * 67108864 + (((tn (htf (σ.2.2.2 902 ku) (σ.2.2.2 904 0 5) 4 0) + 1) + tn (σ.2.2.2 903 km (4 + tn (σ.2.2.2 904 0 0)) + nI 50) * 64 + ((tn (σ.2.2.2 903 km 1) * tn (σ.2.2.2 904 0 0)) / 10) * 16384) * 16 + tn (σ.2.2.2 904 0 2)))))) 902 ku ((9 * (tn (htf (σ.2.2.2 902 ku) (σ.2.2.2 904 0 5) 4 0))) + 2) (nI ((tn (σ.2.2.2 902 ku ((9 * (tn (htf (σ.2.2.2 902 ku) (σ.2.2.2 904 0 5) 4 0))) + 2))) + 1))) 903 km 0 ((σ.2.2.2 903 km 0) + (nI 1))).2.2.2 903 km 1 = _ from e_ne (σ := (wB (wA (wA (wB σ 904 0 (8 + (tn (σ.2.2.2 904 0 5))) ((σ.2.2.2 904 0 (8 + (tn (σ.2.2.2 904 0 5)))) + (nI 1))) 900 kr ((12 * (tn (σ.2.2.2 904 0 1))) + (tn (σ.2.2.2 904 0 0))) ((σ.2.2.1 900 kr (12 * tn (σ.2.2.2 904 0 1) + tn (σ.2.2.2 904 0 0))) / 16 * 16 + tn (σ.2.2.2 904 0 2))) 900 kr ((12 * (tn (σ.2.2.2 904 0 1))) + (tn (σ.2.2.2 904 0 0))) ((σ.2.2.1 900 kr (12 * tn (σ.2.2.2 904 0 1) + tn (σ.2.2.2 904 0 0))) / 17592186044416 % 16 * 17592186044416 + ((tn (σ.2.2.2 902 ku (9 * tn (htf (σ.2.2.2 902 ku) (σ.2.2.2 904 0 5) 4 0) + 3) + nI 200)) * 17179869184 + ((tn (σ.2.2.2 902 ku (9 * tn (htf (σ.2.2.2 902 ku) (σ.2.2.2 904 0 5) 4 0) + 2)) / 4) * 67108864 + (((tn (htf (σ.2.2.2 902 ku) (σ.2.2.2 904 0 5) 4 0) + 1) + tn (σ.2.2.2 903 km (4 + tn (σ.2.2.2 904 0 0)) + nI 50) * 64 + ((tn (σ.2.2.2 903 km 1) * tn (σ.2.2.2 904 0 0)) / 10) * 16384) * 16 + tn (σ.2.2.2 904 0 2)))))) 902 ku ((9 * (tn (htf (σ.2.2.2 902 ku) (σ.2.2.2 904 0 5) 4 0))) + 2) (nI ((tn (σ.2.2.2 902 ku ((9 * (tn (htf (σ.2.2.2 902 ku) (σ.2.2.2 904 0 5) 4 0))) + 2))) + 1)))) (F := 903) (k := km) (i := 0) (j := 1) (v := ((σ.2.2.2 903 km 0) + (nI 1))) (by decide)).trans rfl) dL_step_292 ?_
                    refine r_top (y := nI (tn (σ.2.2.2 903 km 1))) (ix_eq hM1) ?_
                    refine lv_iconst (v := nI 1) hx hb dL_step_293 (by decide) ?_
                    refine r_addN hx hb dL_step_294 ?_
                    exact r_top (by rw [if_pos c_282]) (J_295 _ _ hG hS)
                  · refine lv_bipush (v := nI 99) hx hb dL_step_285 (by decide) ?_
                    refine lv_goto (tgt := 295) hx hb dL_step_287 (by decide) ?_
                    exact r_top (by rw [if_neg (not_not_intro9 c_282)]) (J_295 _ _ hG hS)
              · refine lv_iconst (v := nI 5) hx hb dL_step_120 (by decide) ?_
                exact rm_ret hx hb hr hlocks hG hS (by unfold h_step; rw [if_neg (Nat.not_lt.mpr c_29), if_neg (Nat.not_lt.mpr c_59), if_neg (Nat.not_le.mpr c_67), if_neg c_73, if_pos c_79, if_neg c_99, if_neg c_117] <;> rfl) (by unfold h_step; rw [if_neg (Nat.not_lt.mpr c_29), if_neg (Nat.not_lt.mpr c_59), if_neg (Nat.not_le.mpr c_67), if_neg c_73, if_pos c_79, if_neg c_99, if_neg c_117] <;> rfl) rfl dL_step_121
          · refine lv_iconst (v := nI 3) hx hb dL_step_82 (by decide) ?_
            exact rm_ret hx hb hr hlocks hG hS (by unfold h_step; rw [if_neg (Nat.not_lt.mpr c_29), if_neg (Nat.not_lt.mpr c_59), if_neg (Nat.not_le.mpr c_67), if_neg c_73, if_neg c_79] <;> rfl) (by unfold h_step; rw [if_neg (Nat.not_lt.mpr c_29), if_neg (Nat.not_lt.mpr c_59), if_neg (Nat.not_le.mpr c_67), if_neg c_73, if_neg c_79] <;> rfl) rfl dL_step_83
/-- a part of a cell's size, by its number -/
def hp0 (c : Nat) : Int32 := if c / 16 % 64 = 0 then nI 0 else nI (c / 1024 % 256) - nI 50
def hp1 (c : Nat) : Int32 := if c / 16 % 64 = 0 then nI 0 else nI (c / 262144 % 256)
def hp2 (c : Nat) : Int32 := if c / 16 % 64 = 0 then nI 0 else nI (c / 67108864 % 256)
def hp3 (c : Nat) : Int32 := if c / 16 % 64 = 0 then nI 0 else nI 200 - nI (c / 17179869184 % 1024)
theorem z01 {P : Prop} [Decidable P] (h : (if P then 0 else 1 : Nat) = 0) : P := by
  by_cases c : P
  · exact c
  · rw [if_neg c] at h; cases h
set_option maxRecDepth 100000 in
set_option maxHeartbeats 4000000 in
theorem c_L_part0 {D : va_G} {cI cZ cO : ClassId} {dom : Nat → Nat → Prop} (l : Launch) (L : Lay) (σ : St) (ow : Nat → Prop) (c9 : Nat) (hc : c9 < 2 ^ 62) : RM D cI cZ cO dom l yL_part cL_part 4 ((some FieldType.int)) 0 0 [.long (lJ c9), .int (nI 0)] L σ ow (hp0 c9) σ := by
  refine rm_of rfl (Nat.le_of_ble_eq_true rfl) ?_
  intro p e s m below meth c ls X hK hG hr hlocks hl
  have X : CallFix p m c cL_part 4 s _ TB RL := X
  have hx := X.1
  have hb := X.2.1
  have hS : va_S (AA ow s.heap.size) s.heap s.heap [] := va_S.rf
  have hA : ∀ q, ow q → AA ow s.heap.size q := fun _ h => Or.inl h
  have hl : lv_has ls 4 [(0, .long (lJ c9)), (2, .int (nI 0))] := hl
  refine lv_lload_n hx hb dL_part_0 rfl (lv_at hl 0 rfl) ?_
  refine lv_iconst (v := nI 4) hx hb dL_part_1 (by decide) ?_
  refine r_lshrJ hx hb (v := c9 / 16) (hc) (by decide) rfl dL_part_2 ?_
  refine r_ldc2J X (n := 63) kl_49 (by decide) dL_part_3 ?_
  refine r_landJ hx hb (v := (c9 / 16) % 64) (and_m (k := 6) rfl rfl) dL_part_6 ?_
  refine lv_lconst (v := lJ 0) hx hb dL_part_7 rfl ?_
  refine r_lcmpJ hx hb (by omega) dL_part_8 ?_
  refine r_if_neN (tgt := 14) hx hb dL_part_9 (by decide) (by split <;> decide) (fun c_9 => ?_) (fun c_9 => ?_)
  · refine lv_lload_n hx hb dL_part_14 rfl (lv_at hl 0 rfl) ?_
    refine lv_iload_n hx hb dL_part_15 rfl (lv_at hl 1 rfl) ?_
    refine r_if_neN (tgt := 24) hx hb dL_part_16 (by decide) (by omega) (fun c_16 => absurd c_16 (by decide)) (fun c_16 => ?_)
    refine lv_bipush (v := nI 10) hx hb dL_part_19 (by decide) ?_
    refine lv_goto (tgt := 46) hx hb dL_part_21 (by decide) ?_
    refine r_lshrJ hx hb (v := c9 / 1024) (hc) (by decide) rfl dL_part_46 ?_
    refine lv_iload_n hx hb dL_part_47 rfl (lv_at hl 1 rfl) ?_
    refine lv_iconst (v := nI 3) hx hb dL_part_48 (by decide) ?_
    refine r_icmp_neN (tgt := 58) hx hb dL_part_49 (by decide) (by omega) (by omega) (fun c_49 => ?_) (fun c_49 => absurd c_49 (by decide))
    refine r_ldc2J X (n := 255) kl_53 (by decide) dL_part_58 ?_
    refine r_landJ hx hb (v := (c9 / 1024) % 256) (and_m (k := 8) rfl rfl) dL_part_61 ?_
    refine r_l2iJ hx hb dL_part_62 ?_
    refine lv_istore_n (lv' := [(3, .int (nI ((c9 / 1024) % 256))), (0, .long (lJ c9)), (2, .int (nI 0))]) hx hb dL_part_63 rfl hl (by decide) rfl (fun ls hl => ?_)
    refine lv_iload_n hx hb dL_part_64 rfl (lv_at hl 2 rfl) ?_
    refine r_if_neN (tgt := 75) hx hb dL_part_65 (by decide) (by omega) (fun c_65 => absurd c_65 (by decide)) (fun c_65 => ?_)
    refine lv_iload_n hx hb dL_part_68 rfl (lv_at hl 0 rfl) ?_
    refine lv_bipush (v := nI 50) hx hb dL_part_69 (by decide) ?_
    refine lv_isub hx hb dL_part_71 ?_
    refine lv_goto (tgt := 89) hx hb dL_part_72 (by decide) ?_
    exact rm_ret hx hb hr hlocks hG hS (by unfold hp0; rw [if_neg (fun z => c_9 (if_pos z))]) (rfl) rfl dL_part_89
  · refine lv_iconst (v := nI 0) hx hb dL_part_12 (by decide) ?_
    exact rm_ret hx hb hr hlocks hG hS (by unfold hp0; rw [if_pos (z01 c_9)]) (rfl) rfl dL_part_13
set_option maxRecDepth 100000 in
set_option maxHeartbeats 4000000 in
theorem c_L_part1 {D : va_G} {cI cZ cO : ClassId} {dom : Nat → Nat → Prop} (l : Launch) (L : Lay) (σ : St) (ow : Nat → Prop) (c9 : Nat) (hc : c9 < 2 ^ 62) : RM D cI cZ cO dom l yL_part cL_part 4 ((some FieldType.int)) 0 0 [.long (lJ c9), .int (nI 1)] L σ ow (hp1 c9) σ := by
  refine rm_of rfl (Nat.le_of_ble_eq_true rfl) ?_
  intro p e s m below meth c ls X hK hG hr hlocks hl
  have X : CallFix p m c cL_part 4 s _ TB RL := X
  have hx := X.1
  have hb := X.2.1
  have hS : va_S (AA ow s.heap.size) s.heap s.heap [] := va_S.rf
  have hA : ∀ q, ow q → AA ow s.heap.size q := fun _ h => Or.inl h
  have hl : lv_has ls 4 [(0, .long (lJ c9)), (2, .int (nI 1))] := hl
  refine lv_lload_n hx hb dL_part_0 rfl (lv_at hl 0 rfl) ?_
  refine lv_iconst (v := nI 4) hx hb dL_part_1 (by decide) ?_
  refine r_lshrJ hx hb (v := c9 / 16) (hc) (by decide) rfl dL_part_2 ?_
  refine r_ldc2J X (n := 63) kl_49 (by decide) dL_part_3 ?_
  refine r_landJ hx hb (v := (c9 / 16) % 64) (and_m (k := 6) rfl rfl) dL_part_6 ?_
  refine lv_lconst (v := lJ 0) hx hb dL_part_7 rfl ?_
  refine r_lcmpJ hx hb (by omega) dL_part_8 ?_
  refine r_if_neN (tgt := 14) hx hb dL_part_9 (by decide) (by split <;> decide) (fun c_9 => ?_) (fun c_9 => ?_)
  · refine lv_lload_n hx hb dL_part_14 rfl (lv_at hl 0 rfl) ?_
    refine lv_iload_n hx hb dL_part_15 rfl (lv_at hl 1 rfl) ?_
    refine r_if_neN (tgt := 24) hx hb dL_part_16 (by decide) (by omega) (fun c_16 => ?_) (fun c_16 => absurd c_16 (by decide))
    refine lv_iload_n hx hb dL_part_24 rfl (lv_at hl 1 rfl) ?_
    refine lv_iconst (v := nI 1) hx hb dL_part_25 (by decide) ?_
    refine r_icmp_neN (tgt := 34) hx hb dL_part_26 (by decide) (by omega) (by omega) (fun c_26 => absurd c_26 (by decide)) (fun c_26 => ?_)
    refine lv_bipush (v := nI 18) hx hb dL_part_29 (by decide) ?_
    refine lv_goto (tgt := 46) hx hb dL_part_31 (by decide) ?_
    refine r_lshrJ hx hb (v := c9 / 262144) (hc) (by decide) rfl dL_part_46 ?_
    refine lv_iload_n hx hb dL_part_47 rfl (lv_at hl 1 rfl) ?_
    refine lv_iconst (v := nI 3) hx hb dL_part_48 (by decide) ?_
    refine r_icmp_neN (tgt := 58) hx hb dL_part_49 (by decide) (by omega) (by omega) (fun c_49 => ?_) (fun c_49 => absurd c_49 (by decide))
    refine r_ldc2J X (n := 255) kl_53 (by decide) dL_part_58 ?_
    refine r_landJ hx hb (v := (c9 / 262144) % 256) (and_m (k := 8) rfl rfl) dL_part_61 ?_
    refine r_l2iJ hx hb dL_part_62 ?_
    refine lv_istore_n (lv' := [(3, .int (nI ((c9 / 262144) % 256))), (0, .long (lJ c9)), (2, .int (nI 1))]) hx hb dL_part_63 rfl hl (by decide) rfl (fun ls hl => ?_)
    refine lv_iload_n hx hb dL_part_64 rfl (lv_at hl 2 rfl) ?_
    refine r_if_neN (tgt := 75) hx hb dL_part_65 (by decide) (by omega) (fun c_65 => ?_) (fun c_65 => absurd c_65 (by decide))
    refine lv_iload_n hx hb dL_part_75 rfl (lv_at hl 2 rfl) ?_
    refine lv_iconst (v := nI 3) hx hb dL_part_76 (by decide) ?_
    refine r_icmp_neN (tgt := 88) hx hb dL_part_77 (by decide) (by omega) (by omega) (fun c_77 => ?_) (fun c_77 => absurd c_77 (by decide))
    refine lv_iload_n hx hb dL_part_88 rfl (lv_at hl 0 rfl) ?_
    exact rm_ret hx hb hr hlocks hG hS (by unfold hp1; rw [if_neg (fun z => c_9 (if_pos z))]) (rfl) rfl dL_part_89
  · refine lv_iconst (v := nI 0) hx hb dL_part_12 (by decide) ?_
    exact rm_ret hx hb hr hlocks hG hS (by unfold hp1; rw [if_pos (z01 c_9)]) (rfl) rfl dL_part_13
set_option maxRecDepth 100000 in
set_option maxHeartbeats 4000000 in
theorem c_L_part2 {D : va_G} {cI cZ cO : ClassId} {dom : Nat → Nat → Prop} (l : Launch) (L : Lay) (σ : St) (ow : Nat → Prop) (c9 : Nat) (hc : c9 < 2 ^ 62) : RM D cI cZ cO dom l yL_part cL_part 4 ((some FieldType.int)) 0 0 [.long (lJ c9), .int (nI 2)] L σ ow (hp2 c9) σ := by
  refine rm_of rfl (Nat.le_of_ble_eq_true rfl) ?_
  intro p e s m below meth c ls X hK hG hr hlocks hl
  have X : CallFix p m c cL_part 4 s _ TB RL := X
  have hx := X.1
  have hb := X.2.1
  have hS : va_S (AA ow s.heap.size) s.heap s.heap [] := va_S.rf
  have hA : ∀ q, ow q → AA ow s.heap.size q := fun _ h => Or.inl h
  have hl : lv_has ls 4 [(0, .long (lJ c9)), (2, .int (nI 2))] := hl
  refine lv_lload_n hx hb dL_part_0 rfl (lv_at hl 0 rfl) ?_
  refine lv_iconst (v := nI 4) hx hb dL_part_1 (by decide) ?_
  refine r_lshrJ hx hb (v := c9 / 16) (hc) (by decide) rfl dL_part_2 ?_
  refine r_ldc2J X (n := 63) kl_49 (by decide) dL_part_3 ?_
  refine r_landJ hx hb (v := (c9 / 16) % 64) (and_m (k := 6) rfl rfl) dL_part_6 ?_
  refine lv_lconst (v := lJ 0) hx hb dL_part_7 rfl ?_
  refine r_lcmpJ hx hb (by omega) dL_part_8 ?_
  refine r_if_neN (tgt := 14) hx hb dL_part_9 (by decide) (by split <;> decide) (fun c_9 => ?_) (fun c_9 => ?_)
  · refine lv_lload_n hx hb dL_part_14 rfl (lv_at hl 0 rfl) ?_
    refine lv_iload_n hx hb dL_part_15 rfl (lv_at hl 1 rfl) ?_
    refine r_if_neN (tgt := 24) hx hb dL_part_16 (by decide) (by omega) (fun c_16 => ?_) (fun c_16 => absurd c_16 (by decide))
    refine lv_iload_n hx hb dL_part_24 rfl (lv_at hl 1 rfl) ?_
    refine lv_iconst (v := nI 1) hx hb dL_part_25 (by decide) ?_
    refine r_icmp_neN (tgt := 34) hx hb dL_part_26 (by decide) (by omega) (by omega) (fun c_26 => ?_) (fun c_26 => absurd c_26 (by decide))
    refine lv_iload_n hx hb dL_part_34 rfl (lv_at hl 1 rfl) ?_
    refine lv_iconst (v := nI 2) hx hb dL_part_35 (by decide) ?_
    refine r_icmp_neN (tgt := 44) hx hb dL_part_36 (by decide) (by omega) (by omega) (fun c_36 => absurd c_36 (by decide)) (fun c_36 => ?_)
    refine lv_bipush (v := nI 26) hx hb dL_part_39 (by decide) ?_
    refine lv_goto (tgt := 46) hx hb dL_part_41 (by decide) ?_
    refine r_lshrJ hx hb (v := c9 / 67108864) (hc) (by decide) rfl dL_part_46 ?_
    refine lv_iload_n hx hb dL_part_47 rfl (lv_at hl 1 rfl) ?_
    refine lv_iconst (v := nI 3) hx hb dL_part_48 (by decide) ?_
    refine r_icmp_neN (tgt := 58) hx hb dL_part_49 (by decide) (by omega) (by omega) (fun c_49 => ?_) (fun c_49 => absurd c_49 (by decide))
    refine r_ldc2J X (n := 255) kl_53 (by decide) dL_part_58 ?_
    refine r_landJ hx hb (v := (c9 / 67108864) % 256) (and_m (k := 8) rfl rfl) dL_part_61 ?_
    refine r_l2iJ hx hb dL_part_62 ?_
    refine lv_istore_n (lv' := [(3, .int (nI ((c9 / 67108864) % 256))), (0, .long (lJ c9)), (2, .int (nI 2))]) hx hb dL_part_63 rfl hl (by decide) rfl (fun ls hl => ?_)
    refine lv_iload_n hx hb dL_part_64 rfl (lv_at hl 2 rfl) ?_
    refine r_if_neN (tgt := 75) hx hb dL_part_65 (by decide) (by omega) (fun c_65 => ?_) (fun c_65 => absurd c_65 (by decide))
    refine lv_iload_n hx hb dL_part_75 rfl (lv_at hl 2 rfl) ?_
    refine lv_iconst (v := nI 3) hx hb dL_part_76 (by decide) ?_
    refine r_icmp_neN (tgt := 88) hx hb dL_part_77 (by decide) (by omega) (by omega) (fun c_77 => ?_) (fun c_77 => absurd c_77 (by decide))
    refine lv_iload_n hx hb dL_part_88 rfl (lv_at hl 0 rfl) ?_
    exact rm_ret hx hb hr hlocks hG hS (by unfold hp2; rw [if_neg (fun z => c_9 (if_pos z))]) (rfl) rfl dL_part_89
  · refine lv_iconst (v := nI 0) hx hb dL_part_12 (by decide) ?_
    exact rm_ret hx hb hr hlocks hG hS (by unfold hp2; rw [if_pos (z01 c_9)]) (rfl) rfl dL_part_13
set_option maxRecDepth 100000 in
set_option maxHeartbeats 4000000 in
theorem c_L_part3 {D : va_G} {cI cZ cO : ClassId} {dom : Nat → Nat → Prop} (l : Launch) (L : Lay) (σ : St) (ow : Nat → Prop) (c9 : Nat) (hc : c9 < 2 ^ 62) : RM D cI cZ cO dom l yL_part cL_part 4 ((some FieldType.int)) 0 0 [.long (lJ c9), .int (nI 3)] L σ ow (hp3 c9) σ := by
  refine rm_of rfl (Nat.le_of_ble_eq_true rfl) ?_
  intro p e s m below meth c ls X hK hG hr hlocks hl
  have X : CallFix p m c cL_part 4 s _ TB RL := X
  have hx := X.1
  have hb := X.2.1
  have hS : va_S (AA ow s.heap.size) s.heap s.heap [] := va_S.rf
  have hA : ∀ q, ow q → AA ow s.heap.size q := fun _ h => Or.inl h
  have hl : lv_has ls 4 [(0, .long (lJ c9)), (2, .int (nI 3))] := hl
  refine lv_lload_n hx hb dL_part_0 rfl (lv_at hl 0 rfl) ?_
  refine lv_iconst (v := nI 4) hx hb dL_part_1 (by decide) ?_
  refine r_lshrJ hx hb (v := c9 / 16) (hc) (by decide) rfl dL_part_2 ?_
  refine r_ldc2J X (n := 63) kl_49 (by decide) dL_part_3 ?_
  refine r_landJ hx hb (v := (c9 / 16) % 64) (and_m (k := 6) rfl rfl) dL_part_6 ?_
  refine lv_lconst (v := lJ 0) hx hb dL_part_7 rfl ?_
  refine r_lcmpJ hx hb (by omega) dL_part_8 ?_
  refine r_if_neN (tgt := 14) hx hb dL_part_9 (by decide) (by split <;> decide) (fun c_9 => ?_) (fun c_9 => ?_)
  · refine lv_lload_n hx hb dL_part_14 rfl (lv_at hl 0 rfl) ?_
    refine lv_iload_n hx hb dL_part_15 rfl (lv_at hl 1 rfl) ?_
    refine r_if_neN (tgt := 24) hx hb dL_part_16 (by decide) (by omega) (fun c_16 => ?_) (fun c_16 => absurd c_16 (by decide))
    refine lv_iload_n hx hb dL_part_24 rfl (lv_at hl 1 rfl) ?_
    refine lv_iconst (v := nI 1) hx hb dL_part_25 (by decide) ?_
    refine r_icmp_neN (tgt := 34) hx hb dL_part_26 (by decide) (by omega) (by omega) (fun c_26 => ?_) (fun c_26 => absurd c_26 (by decide))
    refine lv_iload_n hx hb dL_part_34 rfl (lv_at hl 1 rfl) ?_
    refine lv_iconst (v := nI 2) hx hb dL_part_35 (by decide) ?_
    refine r_icmp_neN (tgt := 44) hx hb dL_part_36 (by decide) (by omega) (by omega) (fun c_36 => ?_) (fun c_36 => absurd c_36 (by decide))
    refine lv_bipush (v := nI 34) hx hb dL_part_44 (by decide) ?_
    refine r_lshrJ hx hb (v := c9 / 17179869184) (hc) (by decide) rfl dL_part_46 ?_
    refine lv_iload_n hx hb dL_part_47 rfl (lv_at hl 1 rfl) ?_
    refine lv_iconst (v := nI 3) hx hb dL_part_48 (by decide) ?_
    refine r_icmp_neN (tgt := 58) hx hb dL_part_49 (by decide) (by omega) (by omega) (fun c_49 => absurd c_49 (by decide)) (fun c_49 => ?_)
    refine r_ldc2J X (n := 1023) kl_51 (by decide) dL_part_52 ?_
    refine lv_goto (tgt := 61) hx hb dL_part_55 (by decide) ?_
    refine r_landJ hx hb (v := (c9 / 17179869184) % 1024) (and_m (k := 10) rfl rfl) dL_part_61 ?_
    refine r_l2iJ hx hb dL_part_62 ?_
    refine lv_istore_n (lv' := [(3, .int (nI ((c9 / 17179869184) % 1024))), (0, .long (lJ c9)), (2, .int (nI 3))]) hx hb dL_part_63 rfl hl (by decide) rfl (fun ls hl => ?_)
    refine lv_iload_n hx hb dL_part_64 rfl (lv_at hl 2 rfl) ?_
    refine r_if_neN (tgt := 75) hx hb dL_part_65 (by decide) (by omega) (fun c_65 => ?_) (fun c_65 => absurd c_65 (by decide))
    refine lv_iload_n hx hb dL_part_75 rfl (lv_at hl 2 rfl) ?_
    refine lv_iconst (v := nI 3) hx hb dL_part_76 (by decide) ?_
    refine r_icmp_neN (tgt := 88) hx hb dL_part_77 (by decide) (by omega) (by omega) (fun c_77 => absurd c_77 (by decide)) (fun c_77 => ?_)
    refine lv_sipush (v := nI 200) hx hb dL_part_80 (by decide) ?_
    refine lv_iload_n hx hb dL_part_83 rfl (lv_at hl 0 rfl) ?_
    refine lv_isub hx hb dL_part_84 ?_
    refine lv_goto (tgt := 89) hx hb dL_part_85 (by decide) ?_
    exact rm_ret hx hb hr hlocks hG hS (by unfold hp3; rw [if_neg (fun z => c_9 (if_pos z))]) (rfl) rfl dL_part_89
  · refine lv_iconst (v := nI 0) hx hb dL_part_12 (by decide) ?_
    exact rm_ret hx hb hr hlocks hG hS (by unfold hp3; rw [if_pos (z01 c_9)]) (rfl) rfl dL_part_13
set_option maxRecDepth 100000 in
set_option maxHeartbeats 4000000 in
theorem c_L_plain {D : va_G} {cI cZ cO : ClassId} {dom : Nat → Nat → Prop} (l : Launch) (L : Lay) (σ : St) (ow : Nat → Prop) (v9 : Int32) : RM D cI cZ cO dom l yL_plain cL_plain 1 ((some FieldType.int)) 0 0 [.int v9] L σ ow (isz v9) σ := by
  refine rm_of rfl (Nat.le_of_ble_eq_true rfl) ?_
  intro p e s m below meth c ls X hK hG hr hlocks hl
  have X : CallFix p m c cL_plain 1 s _ TB RL := X
  have hx := X.1
  have hb := X.2.1
  have hS : va_S (AA ow s.heap.size) s.heap s.heap [] := va_S.rf
  have hA : ∀ q, ow q → AA ow s.heap.size q := fun _ h => Or.inl h
  have hl : lv_has ls 1 [(0, .int v9)] := hl
  refine lv_iload_n hx hb dL_plain_0 rfl (lv_at hl 0 rfl) ?_
  refine lv_if_ge (tgt := 9) hx hb dL_plain_1 (by decide) (fun c_1 => ?_) (fun c_1 => ?_)
  · refine lv_iload_n hx hb dL_plain_9 rfl (lv_at hl 0 rfl) ?_
    exact rm_ret hx hb hr hlocks hG hS (by unfold isz; rw [if_neg (le_nlt c_1)]) (rfl) rfl dL_plain_10
  · refine lv_iload_n hx hb dL_plain_4 rfl (lv_at hl 0 rfl) ?_
    refine lv_ineg hx hb dL_plain_5 ?_
    refine lv_goto (tgt := 10) hx hb dL_plain_6 (by decide) ?_
    exact rm_ret hx hb hr hlocks hG hS (by unfold isz; rw [if_pos (Int32.not_le.mp c_1)]) (rfl) rfl dL_plain_10
def h_size (c : Nat) : Int32 := nI (1000 * (c % 16)) + hp0 c + hp1 c + hp2 c + hp3 c
set_option maxRecDepth 100000 in
set_option maxHeartbeats 4000000 in
theorem c_L_size {D : va_G} {cI cZ cO : ClassId} {dom : Nat → Nat → Prop} (l : Launch) (L : Lay) (σ : St) (ow : Nat → Prop) (c9 : Nat) (hc : c9 < 2 ^ 62) : RM D cI cZ cO dom l yL_size cL_size 2 ((some FieldType.int)) 1 23 [.long (lJ c9)] L σ ow (h_size c9) σ := by
  refine rm_of rfl (Nat.le_of_ble_eq_true rfl) ?_
  intro p e s m below meth c ls X hK hG hr hlocks hl
  have X : CallFix p m c cL_size 2 s _ TB RL := X
  have hx := X.1
  have hb := X.2.1
  have hS : va_S (AA ow s.heap.size) s.heap s.heap [] := va_S.rf
  have hA : ∀ q, ow q → AA ow s.heap.size q := fun _ h => Or.inl h
  have hl : lv_has ls 2 [(0, .long (lJ c9))] := hl
  refine lv_sipush (v := nI 1000) hx hb dL_size_0 (by decide) ?_
  refine lv_lload_n hx hb dL_size_3 rfl (lv_at hl 0 rfl) ?_
  refine r_ldc2J X (n := 15) kl_9 (by decide) dL_size_4 ?_
  refine r_landJ hx hb (v := c9 % 16) (and_m (k := 4) rfl rfl) dL_size_7 ?_
  refine r_l2iJ hx hb dL_size_8 ?_
  refine r_mulN hx hb dL_size_9 ?_
  refine lv_lload_n hx hb dL_size_10 rfl (lv_at hl 0 rfl) ?_
  refine lv_iconst (v := nI 0) hx hb dL_size_11 (by decide) ?_
  refine rm_callS X hK hG hS ysL_part ml_L_55 [.long (lJ c9), .int (nI 0)] [.int (nI (1000 * (c9 % 16)))] (c_L_part0 l L σ ow c9 (by omega)) rfl hl.1 rfl (Nat.le_of_ble_eq_true rfl) ⟨Nat.le_of_ble_eq_true rfl, Nat.le_of_ble_eq_true rfl⟩ ⟨Nat.zero_le _, Nat.zero_le _⟩ dL_size_12 (fun H locs hG hS => ?_)
  refine lv_iadd hx hb dL_size_15 ?_
  refine lv_lload_n hx hb dL_size_16 rfl (lv_at hl 0 rfl) ?_
  refine lv_iconst (v := nI 1) hx hb dL_size_17 (by decide) ?_
  refine rm_callS X hK hG hS ysL_part ml_L_55 [.long (lJ c9), .int (nI 1)] [.int ((nI (1000 * (c9 % 16))) + (hp0 c9))] (c_L_part1 l L σ ow c9 (by omega)) rfl hl.1 rfl (Nat.le_of_ble_eq_true rfl) ⟨Nat.le_of_ble_eq_true rfl, Nat.le_of_ble_eq_true rfl⟩ ⟨Nat.zero_le _, Nat.zero_le _⟩ dL_size_18 (fun H locs hG hS => ?_)
  refine lv_iadd hx hb dL_size_21 ?_
  refine lv_lload_n hx hb dL_size_22 rfl (lv_at hl 0 rfl) ?_
  refine lv_iconst (v := nI 2) hx hb dL_size_23 (by decide) ?_
  refine rm_callS X hK hG hS ysL_part ml_L_55 [.long (lJ c9), .int (nI 2)] [.int (((nI (1000 * (c9 % 16))) + (hp0 c9)) + (hp1 c9))] (c_L_part2 l L σ ow c9 (by omega)) rfl hl.1 rfl (Nat.le_of_ble_eq_true rfl) ⟨Nat.le_of_ble_eq_true rfl, Nat.le_of_ble_eq_true rfl⟩ ⟨Nat.zero_le _, Nat.zero_le _⟩ dL_size_24 (fun H locs hG hS => ?_)
  refine lv_iadd hx hb dL_size_27 ?_
  refine lv_lload_n hx hb dL_size_28 rfl (lv_at hl 0 rfl) ?_
  refine lv_iconst (v := nI 3) hx hb dL_size_29 (by decide) ?_
  refine rm_callS X hK hG hS ysL_part ml_L_55 [.long (lJ c9), .int (nI 3)] [.int ((((nI (1000 * (c9 % 16))) + (hp0 c9)) + (hp1 c9)) + (hp2 c9))] (c_L_part3 l L σ ow c9 (by omega)) rfl hl.1 rfl (Nat.le_of_ble_eq_true rfl) ⟨Nat.le_of_ble_eq_true rfl, Nat.le_of_ble_eq_true rfl⟩ ⟨Nat.zero_le _, Nat.zero_le _⟩ dL_size_30 (fun H locs hG hS => ?_)
  refine lv_iadd hx hb dL_size_33 ?_
  exact rm_ret hx hb hr hlocks hG hS (rfl) (rfl) rfl dL_size_34
def h_cause (c9 : Nat) : Int32 := if (isz (hp2 c9)) < (isz (hp3 c9)) then (if (isz (hp1 c9)) < (isz (hp3 c9)) then (if (isz (hp0 c9)) < (isz (hp3 c9)) then (if ¬ (hp3 c9) = 0 then (nI 3) else ((-1))) else (if ¬ (hp0 c9) = 0 then (nI 0) else ((-1)))) else (if (isz (hp0 c9)) < (isz (hp1 c9)) then (if ¬ (hp1 c9) = 0 then (nI 1) else ((-1))) else (if ¬ (hp0 c9) = 0 then (nI 0) else ((-1))))) else (if (isz (hp1 c9)) < (isz (hp2 c9)) then (if (isz (hp0 c9)) < (isz (hp2 c9)) then (if ¬ (hp2 c9) = 0 then (nI 2) else ((-1))) else (if ¬ (hp0 c9) = 0 then (nI 0) else ((-1)))) else (if (isz (hp0 c9)) < (isz (hp1 c9)) then (if ¬ (hp1 c9) = 0 then (nI 1) else ((-1))) else (if ¬ (hp0 c9) = 0 then (nI 0) else ((-1)))))
set_option maxRecDepth 100000 in
set_option maxHeartbeats 4000000 in
theorem c_L_cause {D : va_G} {cI cZ cO : ClassId} {dom : Nat → Nat → Prop} (l : Launch) (L : Lay) (σ : St) (ow : Nat → Prop) (c9 : Nat) (hc : c9 < 2 ^ 62) : RM D cI cZ cO dom l yL_cause cL_cause 4 ((some FieldType.int)) 1 23 [.long (lJ c9)] L σ ow (h_cause c9) σ := by
  refine rm_of rfl (Nat.le_of_ble_eq_true rfl) ?_
  intro p e s m below meth c ls X hK hG hr hlocks hl
  have X : CallFix p m c cL_cause 4 s _ TB RL := X
  have hx := X.1
  have hb := X.2.1
  have hS : va_S (AA ow s.heap.size) s.heap s.heap [] := va_S.rf
  have hA : ∀ q, ow q → AA ow s.heap.size q := fun _ h => Or.inl h
  have hl : lv_has ls 4 [(0, .long (lJ c9))] := hl
  refine lv_iconst (v := nI 3) hx hb dL_cause_0 (by decide) ?_
  refine lv_istore_n (lv' := [(2, .int (nI 3)), (0, .long (lJ c9))]) hx hb dL_cause_1 rfl hl (by decide) rfl (fun ls hl => ?_)
  refine lv_iconst (v := nI 2) hx hb dL_cause_2 (by decide) ?_
  refine lv_istore_n (lv' := [(3, .int (nI 2)), (2, .int (nI 3)), (0, .long (lJ c9))]) hx hb dL_cause_3 rfl hl (by decide) rfl (fun ls hl => ?_)
  refine lv_iload_n hx hb dL_cause_4 rfl (lv_at hl 0 rfl) ?_
  refine lv_if_lt (tgt := 39) hx hb dL_cause_5 (by decide) (fun c_5 => absurd c_5 (nI_pos (by omega))) (fun c_5 => ?_)
  refine lv_lload_n hx hb dL_cause_8 rfl (lv_at hl 2 rfl) ?_
  refine lv_iload_n hx hb dL_cause_9 rfl (lv_at hl 0 rfl) ?_
  refine rm_callS X hK hG hS ysL_part ml_L_55 [.long (lJ c9), .int (nI 2)] [] (c_L_part2 l L σ ow c9 (by omega)) rfl hl.1 rfl (Nat.le_of_ble_eq_true rfl) ⟨Nat.le_of_ble_eq_true rfl, Nat.le_of_ble_eq_true rfl⟩ ⟨Nat.zero_le _, Nat.zero_le _⟩ dL_cause_10 (fun H locs hG hS => ?_)
  refine rm_callS X hK hG hS ysL_plain ml_L_59 [.int (hp2 c9)] [] (c_L_plain l L σ ow (hp2 c9)) rfl hl.1 rfl (Nat.le_of_ble_eq_true rfl) ⟨Nat.le_of_ble_eq_true rfl, Nat.le_of_ble_eq_true rfl⟩ ⟨Nat.zero_le _, Nat.zero_le _⟩ dL_cause_13 (fun H locs hG hS => ?_)
  refine lv_lload_n hx hb dL_cause_16 rfl (lv_at hl 2 rfl) ?_
  refine lv_iload_n hx hb dL_cause_17 rfl (lv_at hl 1 rfl) ?_
  refine rm_callS X hK hG hS ysL_part ml_L_55 [.long (lJ c9), .int (nI 3)] [.int (isz (hp2 c9))] (c_L_part3 l L σ ow c9 (by omega)) rfl hl.1 rfl (Nat.le_of_ble_eq_true rfl) ⟨Nat.le_of_ble_eq_true rfl, Nat.le_of_ble_eq_true rfl⟩ ⟨Nat.zero_le _, Nat.zero_le _⟩ dL_cause_18 (fun H locs hG hS => ?_)
  refine rm_callS X hK hG hS ysL_plain ml_L_59 [.int (hp3 c9)] [.int (isz (hp2 c9))] (c_L_plain l L σ ow (hp3 c9)) rfl hl.1 rfl (Nat.le_of_ble_eq_true rfl) ⟨Nat.le_of_ble_eq_true rfl, Nat.le_of_ble_eq_true rfl⟩ ⟨Nat.zero_le _, Nat.zero_le _⟩ dL_cause_21 (fun H locs hG hS => ?_)
  refine lv_icmp_lt (tgt := 31) hx hb dL_cause_24 (by decide) (fun c_24 => ?_) (fun c_24 => ?_)
  · refine lv_iload_n hx hb dL_cause_31 rfl (lv_at hl 1 rfl) ?_
    refine lv_istore_n (lv' := [(2, .int (nI 3)), (3, .int (nI 2)), (0, .long (lJ c9))]) hx hb dL_cause_32 rfl hl (by decide) rfl (fun ls hl => ?_)
    refine lv_iinc (v := (nI 1)) (lv' := [(3, .int (nI 1)), (2, .int (nI 3)), (0, .long (lJ c9))]) hx hb dL_cause_33 hl (k := 1) rfl (by decide) (by decide) rfl (fun ls hl => ?_)
    refine lv_goto (tgt := 4) hx hb dL_cause_36 (by decide) ?_
    refine lv_iload_n hx hb dL_cause_4 rfl (lv_at hl 0 rfl) ?_
    refine lv_if_lt (tgt := 39) hx hb dL_cause_5 (by decide) (fun c_5 => absurd c_5 (nI_pos (by omega))) (fun c_5 => ?_)
    refine lv_lload_n hx hb dL_cause_8 rfl (lv_at hl 2 rfl) ?_
    refine lv_iload_n hx hb dL_cause_9 rfl (lv_at hl 0 rfl) ?_
    refine rm_callS X hK hG hS ysL_part ml_L_55 [.long (lJ c9), .int (nI 1)] [] (c_L_part1 l L σ ow c9 (by omega)) rfl hl.1 rfl (Nat.le_of_ble_eq_true rfl) ⟨Nat.le_of_ble_eq_true rfl, Nat.le_of_ble_eq_true rfl⟩ ⟨Nat.zero_le _, Nat.zero_le _⟩ dL_cause_10 (fun H locs hG hS => ?_)
    refine rm_callS X hK hG hS ysL_plain ml_L_59 [.int (hp1 c9)] [] (c_L_plain l L σ ow (hp1 c9)) rfl hl.1 rfl (Nat.le_of_ble_eq_true rfl) ⟨Nat.le_of_ble_eq_true rfl, Nat.le_of_ble_eq_true rfl⟩ ⟨Nat.zero_le _, Nat.zero_le _⟩ dL_cause_13 (fun H locs hG hS => ?_)
    refine lv_lload_n hx hb dL_cause_16 rfl (lv_at hl 2 rfl) ?_
    refine lv_iload_n hx hb dL_cause_17 rfl (lv_at hl 1 rfl) ?_
    refine rm_callS X hK hG hS ysL_part ml_L_55 [.long (lJ c9), .int (nI 3)] [.int (isz (hp1 c9))] (c_L_part3 l L σ ow c9 (by omega)) rfl hl.1 rfl (Nat.le_of_ble_eq_true rfl) ⟨Nat.le_of_ble_eq_true rfl, Nat.le_of_ble_eq_true rfl⟩ ⟨Nat.zero_le _, Nat.zero_le _⟩ dL_cause_18 (fun H locs hG hS => ?_)
    refine rm_callS X hK hG hS ysL_plain ml_L_59 [.int (hp3 c9)] [.int (isz (hp1 c9))] (c_L_plain l L σ ow (hp3 c9)) rfl hl.1 rfl (Nat.le_of_ble_eq_true rfl) ⟨Nat.le_of_ble_eq_true rfl, Nat.le_of_ble_eq_true rfl⟩ ⟨Nat.zero_le _, Nat.zero_le _⟩ dL_cause_21 (fun H locs hG hS => ?_)
    refine lv_icmp_lt (tgt := 31) hx hb dL_cause_24 (by decide) (fun c_24_2 => ?_) (fun c_24_2 => ?_)
    · refine lv_iload_n hx hb dL_cause_31 rfl (lv_at hl 1 rfl) ?_
      refine lv_istore_n (lv' := [(2, .int (nI 3)), (3, .int (nI 1)), (0, .long (lJ c9))]) hx hb dL_cause_32 rfl hl (by decide) rfl (fun ls hl => ?_)
      refine lv_iinc (v := (nI 0)) (lv' := [(3, .int (nI 0)), (2, .int (nI 3)), (0, .long (lJ c9))]) hx hb dL_cause_33 hl (k := 1) rfl (by decide) (by decide) rfl (fun ls hl => ?_)
      refine lv_goto (tgt := 4) hx hb dL_cause_36 (by decide) ?_
      refine lv_iload_n hx hb dL_cause_4 rfl (lv_at hl 0 rfl) ?_
      refine lv_if_lt (tgt := 39) hx hb dL_cause_5 (by decide) (fun c_5 => absurd c_5 (nI_pos (by omega))) (fun c_5 => ?_)
      refine lv_lload_n hx hb dL_cause_8 rfl (lv_at hl 2 rfl) ?_
      refine lv_iload_n hx hb dL_cause_9 rfl (lv_at hl 0 rfl) ?_
      refine rm_callS X hK hG hS ysL_part ml_L_55 [.long (lJ c9), .int (nI 0)] [] (c_L_part0 l L σ ow c9 (by omega)) rfl hl.1 rfl (Nat.le_of_ble_eq_true rfl) ⟨Nat.le_of_ble_eq_true rfl, Nat.le_of_ble_eq_true rfl⟩ ⟨Nat.zero_le _, Nat.zero_le _⟩ dL_cause_10 (fun H locs hG hS => ?_)
      refine rm_callS X hK hG hS ysL_plain ml_L_59 [.int (hp0 c9)] [] (c_L_plain l L σ ow (hp0 c9)) rfl hl.1 rfl (Nat.le_of_ble_eq_true rfl) ⟨Nat.le_of_ble_eq_true rfl, Nat.le_of_ble_eq_true rfl⟩ ⟨Nat.zero_le _, Nat.zero_le _⟩ dL_cause_13 (fun H locs hG hS => ?_)
      refine lv_lload_n hx hb dL_cause_16 rfl (lv_at hl 2 rfl) ?_
      refine lv_iload_n hx hb dL_cause_17 rfl (lv_at hl 1 rfl) ?_
      refine rm_callS X hK hG hS ysL_part ml_L_55 [.long (lJ c9), .int (nI 3)] [.int (isz (hp0 c9))] (c_L_part3 l L σ ow c9 (by omega)) rfl hl.1 rfl (Nat.le_of_ble_eq_true rfl) ⟨Nat.le_of_ble_eq_true rfl, Nat.le_of_ble_eq_true rfl⟩ ⟨Nat.zero_le _, Nat.zero_le _⟩ dL_cause_18 (fun H locs hG hS => ?_)
      refine rm_callS X hK hG hS ysL_plain ml_L_59 [.int (hp3 c9)] [.int (isz (hp0 c9))] (c_L_plain l L σ ow (hp3 c9)) rfl hl.1 rfl (Nat.le_of_ble_eq_true rfl) ⟨Nat.le_of_ble_eq_true rfl, Nat.le_of_ble_eq_true rfl⟩ ⟨Nat.zero_le _, Nat.zero_le _⟩ dL_cause_21 (fun H locs hG hS => ?_)
      refine lv_icmp_lt (tgt := 31) hx hb dL_cause_24 (by decide) (fun c_24_3 => ?_) (fun c_24_3 => ?_)
      · refine lv_iload_n hx hb dL_cause_31 rfl (lv_at hl 1 rfl) ?_
        refine lv_istore_n (lv' := [(2, .int (nI 3)), (3, .int (nI 0)), (0, .long (lJ c9))]) hx hb dL_cause_32 rfl hl (by decide) rfl (fun ls hl => ?_)
        refine lv_iinc (v := (-1)) (lv' := [(3, .int (-1)), (2, .int (nI 3)), (0, .long (lJ c9))]) hx hb dL_cause_33 hl (k := 1) rfl (by decide) (by decide) rfl (fun ls hl => ?_)
        refine lv_goto (tgt := 4) hx hb dL_cause_36 (by decide) ?_
        refine lv_iload_n hx hb dL_cause_4 rfl (lv_at hl 0 rfl) ?_
        refine lv_if_lt (tgt := 39) hx hb dL_cause_5 (by decide) (fun c_5 => ?_) (fun c_5 => absurd c_5 (by decide))
        refine lv_lload_n hx hb dL_cause_39 rfl (lv_at hl 2 rfl) ?_
        refine lv_iload_n hx hb dL_cause_40 rfl (lv_at hl 1 rfl) ?_
        refine rm_callS X hK hG hS ysL_part ml_L_55 [.long (lJ c9), .int (nI 3)] [] (c_L_part3 l L σ ow c9 (by omega)) rfl hl.1 rfl (Nat.le_of_ble_eq_true rfl) ⟨Nat.le_of_ble_eq_true rfl, Nat.le_of_ble_eq_true rfl⟩ ⟨Nat.zero_le _, Nat.zero_le _⟩ dL_cause_41 (fun H locs hG hS => ?_)
        refine lv_if_ne (tgt := 51) hx hb dL_cause_44 (by decide) (fun c_44 => ?_) (fun c_44 => ?_)
        · refine lv_iload_n hx hb dL_cause_51 rfl (lv_at hl 1 rfl) ?_
          exact rm_ret hx hb hr hlocks hG hS (by unfold h_cause; rw [if_pos c_24, if_pos c_24_2, if_pos c_24_3, if_pos c_44] <;> rfl) (rfl) rfl dL_cause_52
        · refine lv_iconst (v := (-1)) hx hb dL_cause_47 (by decide) ?_
          refine lv_goto (tgt := 52) hx hb dL_cause_48 (by decide) ?_
          exact rm_ret hx hb hr hlocks hG hS (by unfold h_cause; rw [if_pos c_24, if_pos c_24_2, if_pos c_24_3, if_neg (not_not_intro9 c_44)] <;> rfl) (rfl) rfl dL_cause_52
      · refine lv_iload_n hx hb dL_cause_27 rfl (lv_at hl 0 rfl) ?_
        refine lv_goto (tgt := 32) hx hb dL_cause_28 (by decide) ?_
        refine lv_istore_n (lv' := [(2, .int (nI 0)), (3, .int (nI 0)), (0, .long (lJ c9))]) hx hb dL_cause_32 rfl hl (by decide) rfl (fun ls hl => ?_)
        refine lv_iinc (v := (-1)) (lv' := [(3, .int (-1)), (2, .int (nI 0)), (0, .long (lJ c9))]) hx hb dL_cause_33 hl (k := 1) rfl (by decide) (by decide) rfl (fun ls hl => ?_)
        refine lv_goto (tgt := 4) hx hb dL_cause_36 (by decide) ?_
        refine lv_iload_n hx hb dL_cause_4 rfl (lv_at hl 0 rfl) ?_
        refine lv_if_lt (tgt := 39) hx hb dL_cause_5 (by decide) (fun c_5 => ?_) (fun c_5 => absurd c_5 (by decide))
        refine lv_lload_n hx hb dL_cause_39 rfl (lv_at hl 2 rfl) ?_
        refine lv_iload_n hx hb dL_cause_40 rfl (lv_at hl 1 rfl) ?_
        refine rm_callS X hK hG hS ysL_part ml_L_55 [.long (lJ c9), .int (nI 0)] [] (c_L_part0 l L σ ow c9 (by omega)) rfl hl.1 rfl (Nat.le_of_ble_eq_true rfl) ⟨Nat.le_of_ble_eq_true rfl, Nat.le_of_ble_eq_true rfl⟩ ⟨Nat.zero_le _, Nat.zero_le _⟩ dL_cause_41 (fun H locs hG hS => ?_)
        refine lv_if_ne (tgt := 51) hx hb dL_cause_44 (by decide) (fun c_44 => ?_) (fun c_44 => ?_)
        · refine lv_iload_n hx hb dL_cause_51 rfl (lv_at hl 1 rfl) ?_
          exact rm_ret hx hb hr hlocks hG hS (by unfold h_cause; rw [if_pos c_24, if_pos c_24_2, if_neg c_24_3, if_pos c_44] <;> rfl) (rfl) rfl dL_cause_52
        · refine lv_iconst (v := (-1)) hx hb dL_cause_47 (by decide) ?_
          refine lv_goto (tgt := 52) hx hb dL_cause_48 (by decide) ?_
          exact rm_ret hx hb hr hlocks hG hS (by unfold h_cause; rw [if_pos c_24, if_pos c_24_2, if_neg c_24_3, if_neg (not_not_intro9 c_44)] <;> rfl) (rfl) rfl dL_cause_52
    · refine lv_iload_n hx hb dL_cause_27 rfl (lv_at hl 0 rfl) ?_
      refine lv_goto (tgt := 32) hx hb dL_cause_28 (by decide) ?_
      refine lv_istore_n (lv' := [(2, .int (nI 1)), (3, .int (nI 1)), (0, .long (lJ c9))]) hx hb dL_cause_32 rfl hl (by decide) rfl (fun ls hl => ?_)
      refine lv_iinc (v := (nI 0)) (lv' := [(3, .int (nI 0)), (2, .int (nI 1)), (0, .long (lJ c9))]) hx hb dL_cause_33 hl (k := 1) rfl (by decide) (by decide) rfl (fun ls hl => ?_)
      refine lv_goto (tgt := 4) hx hb dL_cause_36 (by decide) ?_
      refine lv_iload_n hx hb dL_cause_4 rfl (lv_at hl 0 rfl) ?_
      refine lv_if_lt (tgt := 39) hx hb dL_cause_5 (by decide) (fun c_5 => absurd c_5 (nI_pos (by omega))) (fun c_5 => ?_)
      refine lv_lload_n hx hb dL_cause_8 rfl (lv_at hl 2 rfl) ?_
      refine lv_iload_n hx hb dL_cause_9 rfl (lv_at hl 0 rfl) ?_
      refine rm_callS X hK hG hS ysL_part ml_L_55 [.long (lJ c9), .int (nI 0)] [] (c_L_part0 l L σ ow c9 (by omega)) rfl hl.1 rfl (Nat.le_of_ble_eq_true rfl) ⟨Nat.le_of_ble_eq_true rfl, Nat.le_of_ble_eq_true rfl⟩ ⟨Nat.zero_le _, Nat.zero_le _⟩ dL_cause_10 (fun H locs hG hS => ?_)
      refine rm_callS X hK hG hS ysL_plain ml_L_59 [.int (hp0 c9)] [] (c_L_plain l L σ ow (hp0 c9)) rfl hl.1 rfl (Nat.le_of_ble_eq_true rfl) ⟨Nat.le_of_ble_eq_true rfl, Nat.le_of_ble_eq_true rfl⟩ ⟨Nat.zero_le _, Nat.zero_le _⟩ dL_cause_13 (fun H locs hG hS => ?_)
      refine lv_lload_n hx hb dL_cause_16 rfl (lv_at hl 2 rfl) ?_
      refine lv_iload_n hx hb dL_cause_17 rfl (lv_at hl 1 rfl) ?_
      refine rm_callS X hK hG hS ysL_part ml_L_55 [.long (lJ c9), .int (nI 1)] [.int (isz (hp0 c9))] (c_L_part1 l L σ ow c9 (by omega)) rfl hl.1 rfl (Nat.le_of_ble_eq_true rfl) ⟨Nat.le_of_ble_eq_true rfl, Nat.le_of_ble_eq_true rfl⟩ ⟨Nat.zero_le _, Nat.zero_le _⟩ dL_cause_18 (fun H locs hG hS => ?_)
      refine rm_callS X hK hG hS ysL_plain ml_L_59 [.int (hp1 c9)] [.int (isz (hp0 c9))] (c_L_plain l L σ ow (hp1 c9)) rfl hl.1 rfl (Nat.le_of_ble_eq_true rfl) ⟨Nat.le_of_ble_eq_true rfl, Nat.le_of_ble_eq_true rfl⟩ ⟨Nat.zero_le _, Nat.zero_le _⟩ dL_cause_21 (fun H locs hG hS => ?_)
      refine lv_icmp_lt (tgt := 31) hx hb dL_cause_24 (by decide) (fun c_24_3 => ?_) (fun c_24_3 => ?_)
      · refine lv_iload_n hx hb dL_cause_31 rfl (lv_at hl 1 rfl) ?_
        refine lv_istore_n (lv' := [(2, .int (nI 1)), (3, .int (nI 0)), (0, .long (lJ c9))]) hx hb dL_cause_32 rfl hl (by decide) rfl (fun ls hl => ?_)
        refine lv_iinc (v := (-1)) (lv' := [(3, .int (-1)), (2, .int (nI 1)), (0, .long (lJ c9))]) hx hb dL_cause_33 hl (k := 1) rfl (by decide) (by decide) rfl (fun ls hl => ?_)
        refine lv_goto (tgt := 4) hx hb dL_cause_36 (by decide) ?_
        refine lv_iload_n hx hb dL_cause_4 rfl (lv_at hl 0 rfl) ?_
        refine lv_if_lt (tgt := 39) hx hb dL_cause_5 (by decide) (fun c_5 => ?_) (fun c_5 => absurd c_5 (by decide))
        refine lv_lload_n hx hb dL_cause_39 rfl (lv_at hl 2 rfl) ?_
        refine lv_iload_n hx hb dL_cause_40 rfl (lv_at hl 1 rfl) ?_
        refine rm_callS X hK hG hS ysL_part ml_L_55 [.long (lJ c9), .int (nI 1)] [] (c_L_part1 l L σ ow c9 (by omega)) rfl hl.1 rfl (Nat.le_of_ble_eq_true rfl) ⟨Nat.le_of_ble_eq_true rfl, Nat.le_of_ble_eq_true rfl⟩ ⟨Nat.zero_le _, Nat.zero_le _⟩ dL_cause_41 (fun H locs hG hS => ?_)
        refine lv_if_ne (tgt := 51) hx hb dL_cause_44 (by decide) (fun c_44 => ?_) (fun c_44 => ?_)
        · refine lv_iload_n hx hb dL_cause_51 rfl (lv_at hl 1 rfl) ?_
          exact rm_ret hx hb hr hlocks hG hS (by unfold h_cause; rw [if_pos c_24, if_neg c_24_2, if_pos c_24_3, if_pos c_44] <;> rfl) (rfl) rfl dL_cause_52
        · refine lv_iconst (v := (-1)) hx hb dL_cause_47 (by decide) ?_
          refine lv_goto (tgt := 52) hx hb dL_cause_48 (by decide) ?_
          exact rm_ret hx hb hr hlocks hG hS (by unfold h_cause; rw [if_pos c_24, if_neg c_24_2, if_pos c_24_3, if_neg (not_not_intro9 c_44)] <;> rfl) (rfl) rfl dL_cause_52
      · refine lv_iload_n hx hb dL_cause_27 rfl (lv_at hl 0 rfl) ?_
        refine lv_goto (tgt := 32) hx hb dL_cause_28 (by decide) ?_
        refine lv_istore_n (lv' := [(2, .int (nI 0)), (3, .int (nI 0)), (0, .long (lJ c9))]) hx hb dL_cause_32 rfl hl (by decide) rfl (fun ls hl => ?_)
        refine lv_iinc (v := (-1)) (lv' := [(3, .int (-1)), (2, .int (nI 0)), (0, .long (lJ c9))]) hx hb dL_cause_33 hl (k := 1) rfl (by decide) (by decide) rfl (fun ls hl => ?_)
        refine lv_goto (tgt := 4) hx hb dL_cause_36 (by decide) ?_
        refine lv_iload_n hx hb dL_cause_4 rfl (lv_at hl 0 rfl) ?_
        refine lv_if_lt (tgt := 39) hx hb dL_cause_5 (by decide) (fun c_5 => ?_) (fun c_5 => absurd c_5 (by decide))
        refine lv_lload_n hx hb dL_cause_39 rfl (lv_at hl 2 rfl) ?_
        refine lv_iload_n hx hb dL_cause_40 rfl (lv_at hl 1 rfl) ?_
        refine rm_callS X hK hG hS ysL_part ml_L_55 [.long (lJ c9), .int (nI 0)] [] (c_L_part0 l L σ ow c9 (by omega)) rfl hl.1 rfl (Nat.le_of_ble_eq_true rfl) ⟨Nat.le_of_ble_eq_true rfl, Nat.le_of_ble_eq_true rfl⟩ ⟨Nat.zero_le _, Nat.zero_le _⟩ dL_cause_41 (fun H locs hG hS => ?_)
        refine lv_if_ne (tgt := 51) hx hb dL_cause_44 (by decide) (fun c_44 => ?_) (fun c_44 => ?_)
        · refine lv_iload_n hx hb dL_cause_51 rfl (lv_at hl 1 rfl) ?_
          exact rm_ret hx hb hr hlocks hG hS (by unfold h_cause; rw [if_pos c_24, if_neg c_24_2, if_neg c_24_3, if_pos c_44] <;> rfl) (rfl) rfl dL_cause_52
        · refine lv_iconst (v := (-1)) hx hb dL_cause_47 (by decide) ?_
          refine lv_goto (tgt := 52) hx hb dL_cause_48 (by decide) ?_
          exact rm_ret hx hb hr hlocks hG hS (by unfold h_cause; rw [if_pos c_24, if_neg c_24_2, if_neg c_24_3, if_neg (not_not_intro9 c_44)] <;> rfl) (rfl) rfl dL_cause_52
  · refine lv_iload_n hx hb dL_cause_27 rfl (lv_at hl 0 rfl) ?_
    refine lv_goto (tgt := 32) hx hb dL_cause_28 (by decide) ?_
    refine lv_istore_n (lv' := [(2, .int (nI 2)), (3, .int (nI 2)), (0, .long (lJ c9))]) hx hb dL_cause_32 rfl hl (by decide) rfl (fun ls hl => ?_)
    refine lv_iinc (v := (nI 1)) (lv' := [(3, .int (nI 1)), (2, .int (nI 2)), (0, .long (lJ c9))]) hx hb dL_cause_33 hl (k := 1) rfl (by decide) (by decide) rfl (fun ls hl => ?_)
    refine lv_goto (tgt := 4) hx hb dL_cause_36 (by decide) ?_
    refine lv_iload_n hx hb dL_cause_4 rfl (lv_at hl 0 rfl) ?_
    refine lv_if_lt (tgt := 39) hx hb dL_cause_5 (by decide) (fun c_5 => absurd c_5 (nI_pos (by omega))) (fun c_5 => ?_)
    refine lv_lload_n hx hb dL_cause_8 rfl (lv_at hl 2 rfl) ?_
    refine lv_iload_n hx hb dL_cause_9 rfl (lv_at hl 0 rfl) ?_
    refine rm_callS X hK hG hS ysL_part ml_L_55 [.long (lJ c9), .int (nI 1)] [] (c_L_part1 l L σ ow c9 (by omega)) rfl hl.1 rfl (Nat.le_of_ble_eq_true rfl) ⟨Nat.le_of_ble_eq_true rfl, Nat.le_of_ble_eq_true rfl⟩ ⟨Nat.zero_le _, Nat.zero_le _⟩ dL_cause_10 (fun H locs hG hS => ?_)
    refine rm_callS X hK hG hS ysL_plain ml_L_59 [.int (hp1 c9)] [] (c_L_plain l L σ ow (hp1 c9)) rfl hl.1 rfl (Nat.le_of_ble_eq_true rfl) ⟨Nat.le_of_ble_eq_true rfl, Nat.le_of_ble_eq_true rfl⟩ ⟨Nat.zero_le _, Nat.zero_le _⟩ dL_cause_13 (fun H locs hG hS => ?_)
    refine lv_lload_n hx hb dL_cause_16 rfl (lv_at hl 2 rfl) ?_
    refine lv_iload_n hx hb dL_cause_17 rfl (lv_at hl 1 rfl) ?_
    refine rm_callS X hK hG hS ysL_part ml_L_55 [.long (lJ c9), .int (nI 2)] [.int (isz (hp1 c9))] (c_L_part2 l L σ ow c9 (by omega)) rfl hl.1 rfl (Nat.le_of_ble_eq_true rfl) ⟨Nat.le_of_ble_eq_true rfl, Nat.le_of_ble_eq_true rfl⟩ ⟨Nat.zero_le _, Nat.zero_le _⟩ dL_cause_18 (fun H locs hG hS => ?_)
    refine rm_callS X hK hG hS ysL_plain ml_L_59 [.int (hp2 c9)] [.int (isz (hp1 c9))] (c_L_plain l L σ ow (hp2 c9)) rfl hl.1 rfl (Nat.le_of_ble_eq_true rfl) ⟨Nat.le_of_ble_eq_true rfl, Nat.le_of_ble_eq_true rfl⟩ ⟨Nat.zero_le _, Nat.zero_le _⟩ dL_cause_21 (fun H locs hG hS => ?_)
    refine lv_icmp_lt (tgt := 31) hx hb dL_cause_24 (by decide) (fun c_24_2 => ?_) (fun c_24_2 => ?_)
    · refine lv_iload_n hx hb dL_cause_31 rfl (lv_at hl 1 rfl) ?_
      refine lv_istore_n (lv' := [(2, .int (nI 2)), (3, .int (nI 1)), (0, .long (lJ c9))]) hx hb dL_cause_32 rfl hl (by decide) rfl (fun ls hl => ?_)
      refine lv_iinc (v := (nI 0)) (lv' := [(3, .int (nI 0)), (2, .int (nI 2)), (0, .long (lJ c9))]) hx hb dL_cause_33 hl (k := 1) rfl (by decide) (by decide) rfl (fun ls hl => ?_)
      refine lv_goto (tgt := 4) hx hb dL_cause_36 (by decide) ?_
      refine lv_iload_n hx hb dL_cause_4 rfl (lv_at hl 0 rfl) ?_
      refine lv_if_lt (tgt := 39) hx hb dL_cause_5 (by decide) (fun c_5 => absurd c_5 (nI_pos (by omega))) (fun c_5 => ?_)
      refine lv_lload_n hx hb dL_cause_8 rfl (lv_at hl 2 rfl) ?_
      refine lv_iload_n hx hb dL_cause_9 rfl (lv_at hl 0 rfl) ?_
      refine rm_callS X hK hG hS ysL_part ml_L_55 [.long (lJ c9), .int (nI 0)] [] (c_L_part0 l L σ ow c9 (by omega)) rfl hl.1 rfl (Nat.le_of_ble_eq_true rfl) ⟨Nat.le_of_ble_eq_true rfl, Nat.le_of_ble_eq_true rfl⟩ ⟨Nat.zero_le _, Nat.zero_le _⟩ dL_cause_10 (fun H locs hG hS => ?_)
      refine rm_callS X hK hG hS ysL_plain ml_L_59 [.int (hp0 c9)] [] (c_L_plain l L σ ow (hp0 c9)) rfl hl.1 rfl (Nat.le_of_ble_eq_true rfl) ⟨Nat.le_of_ble_eq_true rfl, Nat.le_of_ble_eq_true rfl⟩ ⟨Nat.zero_le _, Nat.zero_le _⟩ dL_cause_13 (fun H locs hG hS => ?_)
      refine lv_lload_n hx hb dL_cause_16 rfl (lv_at hl 2 rfl) ?_
      refine lv_iload_n hx hb dL_cause_17 rfl (lv_at hl 1 rfl) ?_
      refine rm_callS X hK hG hS ysL_part ml_L_55 [.long (lJ c9), .int (nI 2)] [.int (isz (hp0 c9))] (c_L_part2 l L σ ow c9 (by omega)) rfl hl.1 rfl (Nat.le_of_ble_eq_true rfl) ⟨Nat.le_of_ble_eq_true rfl, Nat.le_of_ble_eq_true rfl⟩ ⟨Nat.zero_le _, Nat.zero_le _⟩ dL_cause_18 (fun H locs hG hS => ?_)
      refine rm_callS X hK hG hS ysL_plain ml_L_59 [.int (hp2 c9)] [.int (isz (hp0 c9))] (c_L_plain l L σ ow (hp2 c9)) rfl hl.1 rfl (Nat.le_of_ble_eq_true rfl) ⟨Nat.le_of_ble_eq_true rfl, Nat.le_of_ble_eq_true rfl⟩ ⟨Nat.zero_le _, Nat.zero_le _⟩ dL_cause_21 (fun H locs hG hS => ?_)
      refine lv_icmp_lt (tgt := 31) hx hb dL_cause_24 (by decide) (fun c_24_3 => ?_) (fun c_24_3 => ?_)
      · refine lv_iload_n hx hb dL_cause_31 rfl (lv_at hl 1 rfl) ?_
        refine lv_istore_n (lv' := [(2, .int (nI 2)), (3, .int (nI 0)), (0, .long (lJ c9))]) hx hb dL_cause_32 rfl hl (by decide) rfl (fun ls hl => ?_)
        refine lv_iinc (v := (-1)) (lv' := [(3, .int (-1)), (2, .int (nI 2)), (0, .long (lJ c9))]) hx hb dL_cause_33 hl (k := 1) rfl (by decide) (by decide) rfl (fun ls hl => ?_)
        refine lv_goto (tgt := 4) hx hb dL_cause_36 (by decide) ?_
        refine lv_iload_n hx hb dL_cause_4 rfl (lv_at hl 0 rfl) ?_
        refine lv_if_lt (tgt := 39) hx hb dL_cause_5 (by decide) (fun c_5 => ?_) (fun c_5 => absurd c_5 (by decide))
        refine lv_lload_n hx hb dL_cause_39 rfl (lv_at hl 2 rfl) ?_
        refine lv_iload_n hx hb dL_cause_40 rfl (lv_at hl 1 rfl) ?_
        refine rm_callS X hK hG hS ysL_part ml_L_55 [.long (lJ c9), .int (nI 2)] [] (c_L_part2 l L σ ow c9 (by omega)) rfl hl.1 rfl (Nat.le_of_ble_eq_true rfl) ⟨Nat.le_of_ble_eq_true rfl, Nat.le_of_ble_eq_true rfl⟩ ⟨Nat.zero_le _, Nat.zero_le _⟩ dL_cause_41 (fun H locs hG hS => ?_)
        refine lv_if_ne (tgt := 51) hx hb dL_cause_44 (by decide) (fun c_44 => ?_) (fun c_44 => ?_)
        · refine lv_iload_n hx hb dL_cause_51 rfl (lv_at hl 1 rfl) ?_
          exact rm_ret hx hb hr hlocks hG hS (by unfold h_cause; rw [if_neg c_24, if_pos c_24_2, if_pos c_24_3, if_pos c_44] <;> rfl) (rfl) rfl dL_cause_52
        · refine lv_iconst (v := (-1)) hx hb dL_cause_47 (by decide) ?_
          refine lv_goto (tgt := 52) hx hb dL_cause_48 (by decide) ?_
          exact rm_ret hx hb hr hlocks hG hS (by unfold h_cause; rw [if_neg c_24, if_pos c_24_2, if_pos c_24_3, if_neg (not_not_intro9 c_44)] <;> rfl) (rfl) rfl dL_cause_52
      · refine lv_iload_n hx hb dL_cause_27 rfl (lv_at hl 0 rfl) ?_
        refine lv_goto (tgt := 32) hx hb dL_cause_28 (by decide) ?_
        refine lv_istore_n (lv' := [(2, .int (nI 0)), (3, .int (nI 0)), (0, .long (lJ c9))]) hx hb dL_cause_32 rfl hl (by decide) rfl (fun ls hl => ?_)
        refine lv_iinc (v := (-1)) (lv' := [(3, .int (-1)), (2, .int (nI 0)), (0, .long (lJ c9))]) hx hb dL_cause_33 hl (k := 1) rfl (by decide) (by decide) rfl (fun ls hl => ?_)
        refine lv_goto (tgt := 4) hx hb dL_cause_36 (by decide) ?_
        refine lv_iload_n hx hb dL_cause_4 rfl (lv_at hl 0 rfl) ?_
        refine lv_if_lt (tgt := 39) hx hb dL_cause_5 (by decide) (fun c_5 => ?_) (fun c_5 => absurd c_5 (by decide))
        refine lv_lload_n hx hb dL_cause_39 rfl (lv_at hl 2 rfl) ?_
        refine lv_iload_n hx hb dL_cause_40 rfl (lv_at hl 1 rfl) ?_
        refine rm_callS X hK hG hS ysL_part ml_L_55 [.long (lJ c9), .int (nI 0)] [] (c_L_part0 l L σ ow c9 (by omega)) rfl hl.1 rfl (Nat.le_of_ble_eq_true rfl) ⟨Nat.le_of_ble_eq_true rfl, Nat.le_of_ble_eq_true rfl⟩ ⟨Nat.zero_le _, Nat.zero_le _⟩ dL_cause_41 (fun H locs hG hS => ?_)
        refine lv_if_ne (tgt := 51) hx hb dL_cause_44 (by decide) (fun c_44 => ?_) (fun c_44 => ?_)
        · refine lv_iload_n hx hb dL_cause_51 rfl (lv_at hl 1 rfl) ?_
          exact rm_ret hx hb hr hlocks hG hS (by unfold h_cause; rw [if_neg c_24, if_pos c_24_2, if_neg c_24_3, if_pos c_44] <;> rfl) (rfl) rfl dL_cause_52
        · refine lv_iconst (v := (-1)) hx hb dL_cause_47 (by decide) ?_
          refine lv_goto (tgt := 52) hx hb dL_cause_48 (by decide) ?_
          exact rm_ret hx hb hr hlocks hG hS (by unfold h_cause; rw [if_neg c_24, if_pos c_24_2, if_neg c_24_3, if_neg (not_not_intro9 c_44)] <;> rfl) (rfl) rfl dL_cause_52
    · refine lv_iload_n hx hb dL_cause_27 rfl (lv_at hl 0 rfl) ?_
      refine lv_goto (tgt := 32) hx hb dL_cause_28 (by decide) ?_
      refine lv_istore_n (lv' := [(2, .int (nI 1)), (3, .int (nI 1)), (0, .long (lJ c9))]) hx hb dL_cause_32 rfl hl (by decide) rfl (fun ls hl => ?_)
      refine lv_iinc (v := (nI 0)) (lv' := [(3, .int (nI 0)), (2, .int (nI 1)), (0, .long (lJ c9))]) hx hb dL_cause_33 hl (k := 1) rfl (by decide) (by decide) rfl (fun ls hl => ?_)
      refine lv_goto (tgt := 4) hx hb dL_cause_36 (by decide) ?_
      refine lv_iload_n hx hb dL_cause_4 rfl (lv_at hl 0 rfl) ?_
      refine lv_if_lt (tgt := 39) hx hb dL_cause_5 (by decide) (fun c_5 => absurd c_5 (nI_pos (by omega))) (fun c_5 => ?_)
      refine lv_lload_n hx hb dL_cause_8 rfl (lv_at hl 2 rfl) ?_
      refine lv_iload_n hx hb dL_cause_9 rfl (lv_at hl 0 rfl) ?_
      refine rm_callS X hK hG hS ysL_part ml_L_55 [.long (lJ c9), .int (nI 0)] [] (c_L_part0 l L σ ow c9 (by omega)) rfl hl.1 rfl (Nat.le_of_ble_eq_true rfl) ⟨Nat.le_of_ble_eq_true rfl, Nat.le_of_ble_eq_true rfl⟩ ⟨Nat.zero_le _, Nat.zero_le _⟩ dL_cause_10 (fun H locs hG hS => ?_)
      refine rm_callS X hK hG hS ysL_plain ml_L_59 [.int (hp0 c9)] [] (c_L_plain l L σ ow (hp0 c9)) rfl hl.1 rfl (Nat.le_of_ble_eq_true rfl) ⟨Nat.le_of_ble_eq_true rfl, Nat.le_of_ble_eq_true rfl⟩ ⟨Nat.zero_le _, Nat.zero_le _⟩ dL_cause_13 (fun H locs hG hS => ?_)
      refine lv_lload_n hx hb dL_cause_16 rfl (lv_at hl 2 rfl) ?_
      refine lv_iload_n hx hb dL_cause_17 rfl (lv_at hl 1 rfl) ?_
      refine rm_callS X hK hG hS ysL_part ml_L_55 [.long (lJ c9), .int (nI 1)] [.int (isz (hp0 c9))] (c_L_part1 l L σ ow c9 (by omega)) rfl hl.1 rfl (Nat.le_of_ble_eq_true rfl) ⟨Nat.le_of_ble_eq_true rfl, Nat.le_of_ble_eq_true rfl⟩ ⟨Nat.zero_le _, Nat.zero_le _⟩ dL_cause_18 (fun H locs hG hS => ?_)
      refine rm_callS X hK hG hS ysL_plain ml_L_59 [.int (hp1 c9)] [.int (isz (hp0 c9))] (c_L_plain l L σ ow (hp1 c9)) rfl hl.1 rfl (Nat.le_of_ble_eq_true rfl) ⟨Nat.le_of_ble_eq_true rfl, Nat.le_of_ble_eq_true rfl⟩ ⟨Nat.zero_le _, Nat.zero_le _⟩ dL_cause_21 (fun H locs hG hS => ?_)
      refine lv_icmp_lt (tgt := 31) hx hb dL_cause_24 (by decide) (fun c_24_3 => ?_) (fun c_24_3 => ?_)
      · refine lv_iload_n hx hb dL_cause_31 rfl (lv_at hl 1 rfl) ?_
        refine lv_istore_n (lv' := [(2, .int (nI 1)), (3, .int (nI 0)), (0, .long (lJ c9))]) hx hb dL_cause_32 rfl hl (by decide) rfl (fun ls hl => ?_)
        refine lv_iinc (v := (-1)) (lv' := [(3, .int (-1)), (2, .int (nI 1)), (0, .long (lJ c9))]) hx hb dL_cause_33 hl (k := 1) rfl (by decide) (by decide) rfl (fun ls hl => ?_)
        refine lv_goto (tgt := 4) hx hb dL_cause_36 (by decide) ?_
        refine lv_iload_n hx hb dL_cause_4 rfl (lv_at hl 0 rfl) ?_
        refine lv_if_lt (tgt := 39) hx hb dL_cause_5 (by decide) (fun c_5 => ?_) (fun c_5 => absurd c_5 (by decide))
        refine lv_lload_n hx hb dL_cause_39 rfl (lv_at hl 2 rfl) ?_
        refine lv_iload_n hx hb dL_cause_40 rfl (lv_at hl 1 rfl) ?_
        refine rm_callS X hK hG hS ysL_part ml_L_55 [.long (lJ c9), .int (nI 1)] [] (c_L_part1 l L σ ow c9 (by omega)) rfl hl.1 rfl (Nat.le_of_ble_eq_true rfl) ⟨Nat.le_of_ble_eq_true rfl, Nat.le_of_ble_eq_true rfl⟩ ⟨Nat.zero_le _, Nat.zero_le _⟩ dL_cause_41 (fun H locs hG hS => ?_)
        refine lv_if_ne (tgt := 51) hx hb dL_cause_44 (by decide) (fun c_44 => ?_) (fun c_44 => ?_)
        · refine lv_iload_n hx hb dL_cause_51 rfl (lv_at hl 1 rfl) ?_
          exact rm_ret hx hb hr hlocks hG hS (by unfold h_cause; rw [if_neg c_24, if_neg c_24_2, if_pos c_24_3, if_pos c_44] <;> rfl) (rfl) rfl dL_cause_52
        · refine lv_iconst (v := (-1)) hx hb dL_cause_47 (by decide) ?_
          refine lv_goto (tgt := 52) hx hb dL_cause_48 (by decide) ?_
          exact rm_ret hx hb hr hlocks hG hS (by unfold h_cause; rw [if_neg c_24, if_neg c_24_2, if_pos c_24_3, if_neg (not_not_intro9 c_44)] <;> rfl) (rfl) rfl dL_cause_52
      · refine lv_iload_n hx hb dL_cause_27 rfl (lv_at hl 0 rfl) ?_
        refine lv_goto (tgt := 32) hx hb dL_cause_28 (by decide) ?_
        refine lv_istore_n (lv' := [(2, .int (nI 0)), (3, .int (nI 0)), (0, .long (lJ c9))]) hx hb dL_cause_32 rfl hl (by decide) rfl (fun ls hl => ?_)
        refine lv_iinc (v := (-1)) (lv' := [(3, .int (-1)), (2, .int (nI 0)), (0, .long (lJ c9))]) hx hb dL_cause_33 hl (k := 1) rfl (by decide) (by decide) rfl (fun ls hl => ?_)
        refine lv_goto (tgt := 4) hx hb dL_cause_36 (by decide) ?_
        refine lv_iload_n hx hb dL_cause_4 rfl (lv_at hl 0 rfl) ?_
        refine lv_if_lt (tgt := 39) hx hb dL_cause_5 (by decide) (fun c_5 => ?_) (fun c_5 => absurd c_5 (by decide))
        refine lv_lload_n hx hb dL_cause_39 rfl (lv_at hl 2 rfl) ?_
        refine lv_iload_n hx hb dL_cause_40 rfl (lv_at hl 1 rfl) ?_
        refine rm_callS X hK hG hS ysL_part ml_L_55 [.long (lJ c9), .int (nI 0)] [] (c_L_part0 l L σ ow c9 (by omega)) rfl hl.1 rfl (Nat.le_of_ble_eq_true rfl) ⟨Nat.le_of_ble_eq_true rfl, Nat.le_of_ble_eq_true rfl⟩ ⟨Nat.zero_le _, Nat.zero_le _⟩ dL_cause_41 (fun H locs hG hS => ?_)
        refine lv_if_ne (tgt := 51) hx hb dL_cause_44 (by decide) (fun c_44 => ?_) (fun c_44 => ?_)
        · refine lv_iload_n hx hb dL_cause_51 rfl (lv_at hl 1 rfl) ?_
          exact rm_ret hx hb hr hlocks hG hS (by unfold h_cause; rw [if_neg c_24, if_neg c_24_2, if_neg c_24_3, if_pos c_44] <;> rfl) (rfl) rfl dL_cause_52
        · refine lv_iconst (v := (-1)) hx hb dL_cause_47 (by decide) ?_
          refine lv_goto (tgt := 52) hx hb dL_cause_48 (by decide) ?_
          exact rm_ret hx hb hr hlocks hG hS (by unfold h_cause; rw [if_neg c_24, if_neg c_24_2, if_neg c_24_3, if_neg (not_not_intro9 c_44)] <;> rfl) (rfl) rfl dL_cause_52
def h_cor (ku tl : Nat) (σ : St) : Int32 × St := if (σ.2.2.2 902 ku (9 * tl + 8)) < (nI 3) then (nI 0, σ) else (if 0 < (if σ.2.2.2 902 ku (9 * tl + 7) ≤ (if σ.2.2.2 902 ku (9 * tl + 6) ≤ σ.2.2.2 902 ku (9 * tl + 5) then σ.2.2.2 902 ku (9 * tl + 6) else σ.2.2.2 902 ku (9 * tl + 5)) then σ.2.2.2 902 ku (9 * tl + 7) else (if σ.2.2.2 902 ku (9 * tl + 6) ≤ σ.2.2.2 902 ku (9 * tl + 5) then σ.2.2.2 902 ku (9 * tl + 6) else σ.2.2.2 902 ku (9 * tl + 5))) then (((if (-200) ≤ ((σ.2.2.2 902 ku (9 * tl + 3)) + (((((σ.2.2.2 902 ku (9 * tl + 5)) + (σ.2.2.2 902 ku (9 * tl + 6))) + (σ.2.2.2 902 ku (9 * tl + 7))) / (nI 3)) / (nI 2))) then (if ((σ.2.2.2 902 ku (9 * tl + 3)) + (((((σ.2.2.2 902 ku (9 * tl + 5)) + (σ.2.2.2 902 ku (9 * tl + 6))) + (σ.2.2.2 902 ku (9 * tl + 7))) / (nI 3)) / (nI 2))) ≤ nI 200 then ((σ.2.2.2 902 ku (9 * tl + 3)) + (((((σ.2.2.2 902 ku (9 * tl + 5)) + (σ.2.2.2 902 ku (9 * tl + 6))) + (σ.2.2.2 902 ku (9 * tl + 7))) / (nI 3)) / (nI 2))) else nI 200) else (-200)) - (σ.2.2.2 902 ku (9 * tl + 3))), (wB (wB (wB σ 902 ku (9 * tl + 3) ((σ.2.2.2 902 ku (9 * tl + 3)) + (((((σ.2.2.2 902 ku (9 * tl + 5)) + (σ.2.2.2 902 ku (9 * tl + 6))) + (σ.2.2.2 902 ku (9 * tl + 7))) / (nI 3)) / (nI 2)))) 902 ku (9 * tl + 3) (if (-200) ≤ ((σ.2.2.2 902 ku (9 * tl + 3)) + (((((σ.2.2.2 902 ku (9 * tl + 5)) + (σ.2.2.2 902 ku (9 * tl + 6))) + (σ.2.2.2 902 ku (9 * tl + 7))) / (nI 3)) / (nI 2))) then (if ((σ.2.2.2 902 ku (9 * tl + 3)) + (((((σ.2.2.2 902 ku (9 * tl + 5)) + (σ.2.2.2 902 ku (9 * tl + 6))) + (σ.2.2.2 902 ku (9 * tl + 7))) / (nI 3)) / (nI 2))) ≤ nI 200 then ((σ.2.2.2 902 ku (9 * tl + 3)) + (((((σ.2.2.2 902 ku (9 * tl + 5)) + (σ.2.2.2 902 ku (9 * tl + 6))) + (σ.2.2.2 902 ku (9 * tl + 7))) / (nI 3)) / (nI 2))) else nI 200) else (-200))) 902 ku (9 * tl + 8) (nI 0))) else (if (if (if σ.2.2.2 902 ku (9 * tl + 5) ≤ σ.2.2.2 902 ku (9 * tl + 6) then σ.2.2.2 902 ku (9 * tl + 6) else σ.2.2.2 902 ku (9 * tl + 5)) ≤ σ.2.2.2 902 ku (9 * tl + 7) then σ.2.2.2 902 ku (9 * tl + 7) else (if σ.2.2.2 902 ku (9 * tl + 5) ≤ σ.2.2.2 902 ku (9 * tl + 6) then σ.2.2.2 902 ku (9 * tl + 6) else σ.2.2.2 902 ku (9 * tl + 5))) < 0 then (((if (-200) ≤ ((σ.2.2.2 902 ku (9 * tl + 3)) + (((((σ.2.2.2 902 ku (9 * tl + 5)) + (σ.2.2.2 902 ku (9 * tl + 6))) + (σ.2.2.2 902 ku (9 * tl + 7))) / (nI 3)) / (nI 2))) then (if ((σ.2.2.2 902 ku (9 * tl + 3)) + (((((σ.2.2.2 902 ku (9 * tl + 5)) + (σ.2.2.2 902 ku (9 * tl + 6))) + (σ.2.2.2 902 ku (9 * tl + 7))) / (nI 3)) / (nI 2))) ≤ nI 200 then ((σ.2.2.2 902 ku (9 * tl + 3)) + (((((σ.2.2.2 902 ku (9 * tl + 5)) + (σ.2.2.2 902 ku (9 * tl + 6))) + (σ.2.2.2 902 ku (9 * tl + 7))) / (nI 3)) / (nI 2))) else nI 200) else (-200)) - (σ.2.2.2 902 ku (9 * tl + 3))), (wB (wB (wB σ 902 ku (9 * tl + 3) ((σ.2.2.2 902 ku (9 * tl + 3)) + (((((σ.2.2.2 902 ku (9 * tl + 5)) + (σ.2.2.2 902 ku (9 * tl + 6))) + (σ.2.2.2 902 ku (9 * tl + 7))) / (nI 3)) / (nI 2)))) 902 ku (9 * tl + 3) (if (-200) ≤ ((σ.2.2.2 902 ku (9 * tl + 3)) + (((((σ.2.2.2 902 ku (9 * tl + 5)) + (σ.2.2.2 902 ku (9 * tl + 6))) + (σ.2.2.2 902 ku (9 * tl + 7))) / (nI 3)) / (nI 2))) then (if ((σ.2.2.2 902 ku (9 * tl + 3)) + (((((σ.2.2.2 902 ku (9 * tl + 5)) + (σ.2.2.2 902 ku (9 * tl + 6))) + (σ.2.2.2 902 ku (9 * tl + 7))) / (nI 3)) / (nI 2))) ≤ nI 200 then ((σ.2.2.2 902 ku (9 * tl + 3)) + (((((σ.2.2.2 902 ku (9 * tl + 5)) + (σ.2.2.2 902 ku (9 * tl + 6))) + (σ.2.2.2 902 ku (9 * tl + 7))) / (nI 3)) / (nI 2))) else nI 200) else (-200))) 902 ku (9 * tl + 8) (nI 0))) else (nI 0, σ)))
set_option maxRecDepth 100000 in
set_option maxHeartbeats 4000000 in
theorem c_L_corrected {D : va_G} {cI cZ cO : ClassId} {dom : Nat → Nat → Prop} (l : Launch) (L : Lay) (σ : St) (ow : Nat → Prop) (ku tl : Nat) (ht : tl < 4) (hd : ∀ z ∈ ([(902, ku)] : List (Nat × Nat)), dom z.1 z.2) (hlu : 36 ≤ σ.2.2.1 902 ku 0 ∧ σ.2.2.1 902 ku 0 < 1000) : RM D cI cZ cO dom l yL_corrected cL_corrected 7 ((some FieldType.int)) 0 0 [.ref (L 902 ku), .int (nI tl)] L σ ow ((h_cor ku tl σ).1) ((h_cor ku tl σ).2) := by
  refine rm_of rfl (Nat.le_of_ble_eq_true rfl) ?_
  intro p e s m below meth c ls X hK hG hr hlocks hl
  have X : CallFix p m c cL_corrected 7 s _ TB RL := X
  have hx := X.1
  have hb := X.2.1
  have hS : va_S (AA ow s.heap.size) s.heap s.heap [] := va_S.rf
  have hA : ∀ q, ow q → AA ow s.heap.size q := fun _ h => Or.inl h
  have hl : lv_has ls 7 [(0, .ref (L 902 ku)), (1, .int (nI tl))] := hl
  refine lv_bipush (v := nI 9) hx hb dL_corrected_0 (by decide) ?_
  refine lv_iload_n hx hb dL_corrected_2 rfl (lv_at hl 1 rfl) ?_
  refine r_mulN hx hb dL_corrected_3 ?_
  refine lv_istore_n (lv' := [(2, .int (nI (9 * tl))), (0, .ref (L 902 ku)), (1, .int (nI tl))]) hx hb dL_corrected_4 rfl hl (by decide) rfl (fun ls hl => ?_)
  refine r_cutH 33 [.int (if σ.2.2.2 902 ku (9 * tl + 6) ≤ σ.2.2.2 902 ku (9 * tl + 5) then σ.2.2.2 902 ku (9 * tl + 6) else σ.2.2.2 902 ku (9 * tl + 5))] hG hS (fun H locs hG hS => ?_) (fun J_33 => ?_)
  · refine lv_istore_n (lv' := [(3, .int (if σ.2.2.2 902 ku (9 * tl + 6) ≤ σ.2.2.2 902 ku (9 * tl + 5) then σ.2.2.2 902 ku (9 * tl + 6) else σ.2.2.2 902 ku (9 * tl + 5))), (2, .int (nI (9 * tl))), (0, .ref (L 902 ku)), (1, .int (nI tl))]) hx hb dL_corrected_33 rfl hl (by decide) rfl (fun ls hl => ?_)
    refine r_cutH 62 [.int (if σ.2.2.2 902 ku (9 * tl + 5) ≤ σ.2.2.2 902 ku (9 * tl + 6) then σ.2.2.2 902 ku (9 * tl + 6) else σ.2.2.2 902 ku (9 * tl + 5))] hG hS (fun H locs hG hS => ?_) (fun J_62 => ?_)
    · refine lv_istore (lv' := [(4, .int (if σ.2.2.2 902 ku (9 * tl + 5) ≤ σ.2.2.2 902 ku (9 * tl + 6) then σ.2.2.2 902 ku (9 * tl + 6) else σ.2.2.2 902 ku (9 * tl + 5))), (3, .int (if σ.2.2.2 902 ku (9 * tl + 6) ≤ σ.2.2.2 902 ku (9 * tl + 5) then σ.2.2.2 902 ku (9 * tl + 6) else σ.2.2.2 902 ku (9 * tl + 5))), (2, .int (nI (9 * tl))), (0, .ref (L 902 ku)), (1, .int (nI tl))]) hx hb dL_corrected_62 hl (by decide) rfl (fun ls hl => ?_)
      refine r_cutH 84 [.int (if σ.2.2.2 902 ku (9 * tl + 7) ≤ (if σ.2.2.2 902 ku (9 * tl + 6) ≤ σ.2.2.2 902 ku (9 * tl + 5) then σ.2.2.2 902 ku (9 * tl + 6) else σ.2.2.2 902 ku (9 * tl + 5)) then σ.2.2.2 902 ku (9 * tl + 7) else (if σ.2.2.2 902 ku (9 * tl + 6) ≤ σ.2.2.2 902 ku (9 * tl + 5) then σ.2.2.2 902 ku (9 * tl + 6) else σ.2.2.2 902 ku (9 * tl + 5)))] hG hS (fun H locs hG hS => ?_) (fun J_84 => ?_)
      · refine lv_istore_n (lv' := [(3, .int (if σ.2.2.2 902 ku (9 * tl + 7) ≤ (if σ.2.2.2 902 ku (9 * tl + 6) ≤ σ.2.2.2 902 ku (9 * tl + 5) then σ.2.2.2 902 ku (9 * tl + 6) else σ.2.2.2 902 ku (9 * tl + 5)) then σ.2.2.2 902 ku (9 * tl + 7) else (if σ.2.2.2 902 ku (9 * tl + 6) ≤ σ.2.2.2 902 ku (9 * tl + 5) then σ.2.2.2 902 ku (9 * tl + 6) else σ.2.2.2 902 ku (9 * tl + 5)))), (4, .int (if σ.2.2.2 902 ku (9 * tl + 5) ≤ σ.2.2.2 902 ku (9 * tl + 6) then σ.2.2.2 902 ku (9 * tl + 6) else σ.2.2.2 902 ku (9 * tl + 5))), (2, .int (nI (9 * tl))), (0, .ref (L 902 ku)), (1, .int (nI tl))]) hx hb dL_corrected_84 rfl hl (by decide) rfl (fun ls hl => ?_)
        refine r_cutH 107 [.int (if (if σ.2.2.2 902 ku (9 * tl + 5) ≤ σ.2.2.2 902 ku (9 * tl + 6) then σ.2.2.2 902 ku (9 * tl + 6) else σ.2.2.2 902 ku (9 * tl + 5)) ≤ σ.2.2.2 902 ku (9 * tl + 7) then σ.2.2.2 902 ku (9 * tl + 7) else (if σ.2.2.2 902 ku (9 * tl + 5) ≤ σ.2.2.2 902 ku (9 * tl + 6) then σ.2.2.2 902 ku (9 * tl + 6) else σ.2.2.2 902 ku (9 * tl + 5)))] hG hS (fun H locs hG hS => ?_) (fun J_107 => ?_)
        · refine lv_istore (lv' := [(4, .int (if (if σ.2.2.2 902 ku (9 * tl + 5) ≤ σ.2.2.2 902 ku (9 * tl + 6) then σ.2.2.2 902 ku (9 * tl + 6) else σ.2.2.2 902 ku (9 * tl + 5)) ≤ σ.2.2.2 902 ku (9 * tl + 7) then σ.2.2.2 902 ku (9 * tl + 7) else (if σ.2.2.2 902 ku (9 * tl + 5) ≤ σ.2.2.2 902 ku (9 * tl + 6) then σ.2.2.2 902 ku (9 * tl + 6) else σ.2.2.2 902 ku (9 * tl + 5)))), (3, .int (if σ.2.2.2 902 ku (9 * tl + 7) ≤ (if σ.2.2.2 902 ku (9 * tl + 6) ≤ σ.2.2.2 902 ku (9 * tl + 5) then σ.2.2.2 902 ku (9 * tl + 6) else σ.2.2.2 902 ku (9 * tl + 5)) then σ.2.2.2 902 ku (9 * tl + 7) else (if σ.2.2.2 902 ku (9 * tl + 6) ≤ σ.2.2.2 902 ku (9 * tl + 5) then σ.2.2.2 902 ku (9 * tl + 6) else σ.2.2.2 902 ku (9 * tl + 5)))), (2, .int (nI (9 * tl))), (0, .ref (L 902 ku)), (1, .int (nI tl))]) hx hb dL_corrected_107 hl (by decide) rfl (fun ls hl => ?_)
          refine lv_aload_n hx hb dL_corrected_109 rfl (lv_at hl 3 rfl) ?_
          refine lv_iload_n hx hb dL_corrected_110 rfl (lv_at hl 2 rfl) ?_
          refine lv_bipush (v := nI 8) hx hb dL_corrected_111 (by decide) ?_
          refine r_addN hx hb dL_corrected_113 ?_
          refine pw_ald8 X hK hG 902 fa_902 (hd _ (List.mem_of_getElem? (i := 0) rfl)) (i := 9 * tl + 8) (N := σ.2.2.1 902 ku 0) (x := σ.2.2.2 902 ku (9 * tl + 8)) rfl (by omega) (by omega) rfl dL_corrected_114 ?_
          refine lv_iconst (v := nI 3) hx hb dL_corrected_115 (by decide) ?_
          refine lv_icmp_lt (tgt := 128) hx hb dL_corrected_116 (by decide) (fun c_116 => ?_) (fun c_116 => ?_)
          · refine lv_iconst (v := nI 0) hx hb dL_corrected_128 (by decide) ?_
            exact rm_ret hx hb hr hlocks hG hS (by unfold h_cor; rw [if_pos c_116] <;> rfl) (by unfold h_cor; rw [if_pos c_116] <;> rfl) rfl dL_corrected_129
          · refine lv_iload_n hx hb dL_corrected_119 rfl (lv_at hl 1 rfl) ?_
            refine lv_if_gt (tgt := 130) hx hb dL_corrected_120 (by decide) (fun c_120 => ?_) (fun c_120 => ?_)
            · refine lv_aload_n hx hb dL_corrected_130 rfl (lv_at hl 3 rfl) ?_
              refine lv_iload_n hx hb dL_corrected_131 rfl (lv_at hl 2 rfl) ?_
              refine lv_iconst (v := nI 3) hx hb dL_corrected_132 (by decide) ?_
              refine r_addN hx hb dL_corrected_133 ?_
              refine pw_ald8 X hK hG 902 fa_902 (hd _ (List.mem_of_getElem? (i := 0) rfl)) (i := 9 * tl + 3) (N := σ.2.2.1 902 ku 0) (x := σ.2.2.2 902 ku (9 * tl + 3)) rfl (by omega) (by omega) rfl dL_corrected_134 ?_
              refine lv_istore (lv' := [(5, .int (σ.2.2.2 902 ku (9 * tl + 3))), (4, .int (if (if σ.2.2.2 902 ku (9 * tl + 5) ≤ σ.2.2.2 902 ku (9 * tl + 6) then σ.2.2.2 902 ku (9 * tl + 6) else σ.2.2.2 902 ku (9 * tl + 5)) ≤ σ.2.2.2 902 ku (9 * tl + 7) then σ.2.2.2 902 ku (9 * tl + 7) else (if σ.2.2.2 902 ku (9 * tl + 5) ≤ σ.2.2.2 902 ku (9 * tl + 6) then σ.2.2.2 902 ku (9 * tl + 6) else σ.2.2.2 902 ku (9 * tl + 5)))), (3, .int (if σ.2.2.2 902 ku (9 * tl + 7) ≤ (if σ.2.2.2 902 ku (9 * tl + 6) ≤ σ.2.2.2 902 ku (9 * tl + 5) then σ.2.2.2 902 ku (9 * tl + 6) else σ.2.2.2 902 ku (9 * tl + 5)) then σ.2.2.2 902 ku (9 * tl + 7) else (if σ.2.2.2 902 ku (9 * tl + 6) ≤ σ.2.2.2 902 ku (9 * tl + 5) then σ.2.2.2 902 ku (9 * tl + 6) else σ.2.2.2 902 ku (9 * tl + 5)))), (2, .int (nI (9 * tl))), (0, .ref (L 902 ku)), (1, .int (nI tl))]) hx hb dL_corrected_135 hl (by decide) rfl (fun ls hl => ?_)
              refine lv_aload_n hx hb dL_corrected_137 rfl (lv_at hl 4 rfl) ?_
              refine lv_iload_n hx hb dL_corrected_138 rfl (lv_at hl 3 rfl) ?_
              refine lv_iconst (v := nI 5) hx hb dL_corrected_139 (by decide) ?_
              refine r_addN hx hb dL_corrected_140 ?_
              refine pw_ald8 X hK hG 902 fa_902 (hd _ (List.mem_of_getElem? (i := 0) rfl)) (i := 9 * tl + 5) (N := σ.2.2.1 902 ku 0) (x := σ.2.2.2 902 ku (9 * tl + 5)) rfl (by omega) (by omega) rfl dL_corrected_141 ?_
              refine lv_aload_n hx hb dL_corrected_142 rfl (lv_at hl 4 rfl) ?_
              refine lv_iload_n hx hb dL_corrected_143 rfl (lv_at hl 3 rfl) ?_
              refine lv_bipush (v := nI 6) hx hb dL_corrected_144 (by decide) ?_
              refine r_addN hx hb dL_corrected_146 ?_
              refine pw_ald8 X hK hG 902 fa_902 (hd _ (List.mem_of_getElem? (i := 0) rfl)) (i := 9 * tl + 6) (N := σ.2.2.1 902 ku 0) (x := σ.2.2.2 902 ku (9 * tl + 6)) rfl (by omega) (by omega) rfl dL_corrected_147 ?_
              refine lv_iadd hx hb dL_corrected_148 ?_
              refine lv_aload_n hx hb dL_corrected_149 rfl (lv_at hl 4 rfl) ?_
              refine lv_iload_n hx hb dL_corrected_150 rfl (lv_at hl 3 rfl) ?_
              refine lv_bipush (v := nI 7) hx hb dL_corrected_151 (by decide) ?_
              refine r_addN hx hb dL_corrected_153 ?_
              refine pw_ald8 X hK hG 902 fa_902 (hd _ (List.mem_of_getElem? (i := 0) rfl)) (i := 9 * tl + 7) (N := σ.2.2.1 902 ku 0) (x := σ.2.2.2 902 ku (9 * tl + 7)) rfl (by omega) (by omega) rfl dL_corrected_154 ?_
              refine lv_iadd hx hb dL_corrected_155 ?_
              refine lv_iconst (v := nI 3) hx hb dL_corrected_156 (by decide) ?_
              refine lv_idiv hx hb dL_corrected_157 (by decide) ?_
              refine lv_istore (lv' := [(6, .int ((((σ.2.2.2 902 ku (9 * tl + 5)) + (σ.2.2.2 902 ku (9 * tl + 6))) + (σ.2.2.2 902 ku (9 * tl + 7))) / (nI 3))), (5, .int (σ.2.2.2 902 ku (9 * tl + 3))), (4, .int (if (if σ.2.2.2 902 ku (9 * tl + 5) ≤ σ.2.2.2 902 ku (9 * tl + 6) then σ.2.2.2 902 ku (9 * tl + 6) else σ.2.2.2 902 ku (9 * tl + 5)) ≤ σ.2.2.2 902 ku (9 * tl + 7) then σ.2.2.2 902 ku (9 * tl + 7) else (if σ.2.2.2 902 ku (9 * tl + 5) ≤ σ.2.2.2 902 ku (9 * tl + 6) then σ.2.2.2 902 ku (9 * tl + 6) else σ.2.2.2 902 ku (9 * tl + 5)))), (3, .int (if σ.2.2.2 902 ku (9 * tl + 7) ≤ (if σ.2.2.2 902 ku (9 * tl + 6) ≤ σ.2.2.2 902 ku (9 * tl + 5) then σ.2.2.2 902 ku (9 * tl + 6) else σ.2.2.2 902 ku (9 * tl + 5)) then σ.2.2.2 902 ku (9 * tl + 7) else (if σ.2.2.2 902 ku (9 * tl + 6) ≤ σ.2.2.2 902 ku (9 * tl + 5) then σ.2.2.2 902 ku (9 * tl + 6) else σ.2.2.2 902 ku (9 * tl + 5)))), (2, .int (nI (9 * tl))), (0, .ref (L 902 ku)), (1, .int (nI tl))]) hx hb dL_corrected_158 hl (by decide) rfl (fun ls hl => ?_)
              refine lv_aload_n hx hb dL_corrected_160 rfl (lv_at hl 5 rfl) ?_
              refine lv_iload_n hx hb dL_corrected_161 rfl (lv_at hl 4 rfl) ?_
              refine lv_iconst (v := nI 3) hx hb dL_corrected_162 (by decide) ?_
              refine r_addN hx hb dL_corrected_163 ?_
              refine lv_dup2_11 hx hb dL_corrected_164 rfl rfl ?_
              refine pw_ald8 X hK hG 902 fa_902 (hd _ (List.mem_of_getElem? (i := 0) rfl)) (i := 9 * tl + 3) (N := σ.2.2.1 902 ku 0) (x := σ.2.2.2 902 ku (9 * tl + 3)) rfl (by omega) (by omega) rfl dL_corrected_165 ?_
              refine lv_iload hx hb dL_corrected_166 (lv_at hl 0 rfl) ?_
              refine lv_iconst (v := nI 2) hx hb dL_corrected_168 (by decide) ?_
              refine lv_idiv hx hb dL_corrected_169 (by decide) ?_
              refine lv_iadd hx hb dL_corrected_170 ?_
              refine pw_ast8 X hK hG hS hA 902 fa_902 (hd _ (List.mem_of_getElem? (i := 0) rfl)) (i := 9 * tl + 3) (N := σ.2.2.1 902 ku 0) rfl (by omega) (by omega) dL_corrected_171 (fun H locs hG hS => ?_)
              refine lv_aload_n hx hb dL_corrected_172 rfl (lv_at hl 5 rfl) ?_
              refine lv_iload_n hx hb dL_corrected_173 rfl (lv_at hl 4 rfl) ?_
              refine lv_iconst (v := nI 3) hx hb dL_corrected_174 (by decide) ?_
              refine r_addN hx hb dL_corrected_175 ?_
              refine r_cutH 215 [.int (if (-200) ≤ ((σ.2.2.2 902 ku (9 * tl + 3)) + (((((σ.2.2.2 902 ku (9 * tl + 5)) + (σ.2.2.2 902 ku (9 * tl + 6))) + (σ.2.2.2 902 ku (9 * tl + 7))) / (nI 3)) / (nI 2))) then (if ((σ.2.2.2 902 ku (9 * tl + 3)) + (((((σ.2.2.2 902 ku (9 * tl + 5)) + (σ.2.2.2 902 ku (9 * tl + 6))) + (σ.2.2.2 902 ku (9 * tl + 7))) / (nI 3)) / (nI 2))) ≤ nI 200 then ((σ.2.2.2 902 ku (9 * tl + 3)) + (((((σ.2.2.2 902 ku (9 * tl + 5)) + (σ.2.2.2 902 ku (9 * tl + 6))) + (σ.2.2.2 902 ku (9 * tl + 7))) / (nI 3)) / (nI 2))) else nI 200) else (-200)), .int (nI (9 * tl + 3)), .ref (L 902 ku)] hG hS (fun H locs hG hS => ?_) (fun J_215 => ?_)
              · refine pw_ast8 X hK hG hS hA 902 fa_902 (hd _ (List.mem_of_getElem? (i := 0) rfl)) (i := 9 * tl + 3) (N := σ.2.2.1 902 ku 0) rfl (by omega) (by omega) dL_corrected_215 (fun H locs hG hS => ?_)
                refine lv_aload_n hx hb dL_corrected_216 rfl (lv_at hl 5 rfl) ?_
                refine lv_iload_n hx hb dL_corrected_217 rfl (lv_at hl 4 rfl) ?_
                refine lv_bipush (v := nI 8) hx hb dL_corrected_218 (by decide) ?_
                refine r_addN hx hb dL_corrected_220 ?_
                refine lv_iconst (v := nI 0) hx hb dL_corrected_221 (by decide) ?_
                refine pw_ast8 X hK hG hS hA 902 fa_902 (hd _ (List.mem_of_getElem? (i := 0) rfl)) (i := 9 * tl + 8) (N := σ.2.2.1 902 ku 0) rfl (by omega) (by omega) dL_corrected_222 (fun H locs hG hS => ?_)
                refine lv_aload_n hx hb dL_corrected_223 rfl (lv_at hl 5 rfl) ?_
                refine lv_iload_n hx hb dL_corrected_224 rfl (lv_at hl 4 rfl) ?_
                refine lv_iconst (v := nI 3) hx hb dL_corrected_225 (by decide) ?_
                refine r_addN hx hb dL_corrected_226 ?_
                refine pw_ald8 X hK hG 902 fa_902 (hd _ (List.mem_of_getElem? (i := 0) rfl)) (i := 9 * tl + 3) (N := σ.2.2.1 902 ku 0) (x := (if (-200) ≤ ((σ.2.2.2 902 ku (9 * tl + 3)) + (((((σ.2.2.2 902 ku (9 * tl + 5)) + (σ.2.2.2 902 ku (9 * tl + 6))) + (σ.2.2.2 902 ku (9 * tl + 7))) / (nI 3)) / (nI 2))) then (if ((σ.2.2.2 902 ku (9 * tl + 3)) + (((((σ.2.2.2 902 ku (9 * tl + 5)) + (σ.2.2.2 902 ku (9 * tl + 6))) + (σ.2.2.2 902 ku (9 * tl + 7))) / (nI 3)) / (nI 2))) ≤ nI 200 then ((σ.2.2.2 902 ku (9 * tl + 3)) + (((((σ.2.2.2 902 ku (9 * tl + 5)) + (σ.2.2.2 902 ku (9 * tl + 6))) + (σ.2.2.2 902 ku (9 * tl + 7))) / (nI 3)) / (nI 2))) else nI 200) else (-200))) rfl (by omega) (by omega) (by simp [wN, wI, wA, wB, up3, up2, up1, e_ne (σ := (wB (wB σ 902 ku (9 * tl + 3) ((σ.2.2.2 902 ku (9 * tl + 3)) + (((((σ.2.2.2 902 ku (9 * tl + 5)) + (σ.2.2.2 902 ku (9 * tl + 6))) + (σ.2.2.2 902 ku (9 * tl + 7))) / (nI 3)) / (nI 2)))) 902 ku (9 * tl + 3) (if (-200) ≤ ((σ.2.2.2 902 ku (9 * tl + 3)) + (((((σ.2.2.2 902 ku (9 * tl + 5)) + (σ.2.2.2 902 ku (9 * tl + 6))) + (σ.2.2.2 902 ku (9 * tl + 7))) / (nI 3)) / (nI 2))) then (if ((σ.2.2.2 902 ku (9 * tl + 3)) + (((((σ.2.2.2 902 ku (9 * tl + 5)) + (σ.2.2.2 902 ku (9 * tl + 6))) + (σ.2.2.2 902 ku (9 * tl + 7))) / (nI 3)) / (nI 2))) ≤ nI 200 then ((σ.2.2.2 902 ku (9 * tl + 3)) + (((((σ.2.2.2 902 ku (9 * tl + 5)) + (σ.2.2.2 902 ku (9 * tl + 6))) + (σ.2.2.2 902 ku (9 * tl + 7))) / (nI 3)) / (nI 2))) else nI 200) else (-200)))) (F := 902) (k := ku) (i := (9 * tl + 8)) (j := (9 * tl + 3)) (v := (nI 0)) (by omega)]) dL_corrected_227 ?_
                refine lv_iload hx hb dL_corrected_228 (lv_at hl 1 rfl) ?_
                refine lv_isub hx hb dL_corrected_230 ?_
                exact rm_ret hx hb hr hlocks hG hS (by unfold h_cor; rw [if_neg c_116, if_pos c_120] <;> rfl) (by unfold h_cor; rw [if_neg c_116, if_pos c_120] <;> rfl) rfl dL_corrected_231
              · refine lv_aload_n hx hb dL_corrected_176 rfl (lv_at hl 5 rfl) ?_
                refine lv_iload_n hx hb dL_corrected_177 rfl (lv_at hl 4 rfl) ?_
                refine lv_iconst (v := nI 3) hx hb dL_corrected_178 (by decide) ?_
                refine r_addN hx hb dL_corrected_179 ?_
                refine pw_ald8 X hK hG 902 fa_902 (hd _ (List.mem_of_getElem? (i := 0) rfl)) (i := 9 * tl + 3) (N := σ.2.2.1 902 ku 0) (x := ((σ.2.2.2 902 ku (9 * tl + 3)) + (((((σ.2.2.2 902 ku (9 * tl + 5)) + (σ.2.2.2 902 ku (9 * tl + 6))) + (σ.2.2.2 902 ku (9 * tl + 7))) / (nI 3)) / (nI 2)))) rfl (by omega) (by omega) (by simp [wN, wI, wA, wB, up3, up2, up1]) dL_corrected_180 ?_
                refine lv_sipush (v := (-200)) hx hb dL_corrected_181 (by decide) ?_
                refine lv_icmp_ge (tgt := 193) hx hb dL_corrected_184 (by decide) (fun c_184 => ?_) (fun c_184 => ?_)
                · refine lv_aload_n hx hb dL_corrected_193 rfl (lv_at hl 5 rfl) ?_
                  refine lv_iload_n hx hb dL_corrected_194 rfl (lv_at hl 4 rfl) ?_
                  refine lv_iconst (v := nI 3) hx hb dL_corrected_195 (by decide) ?_
                  refine r_addN hx hb dL_corrected_196 ?_
                  refine pw_ald8 X hK hG 902 fa_902 (hd _ (List.mem_of_getElem? (i := 0) rfl)) (i := 9 * tl + 3) (N := σ.2.2.1 902 ku 0) (x := ((σ.2.2.2 902 ku (9 * tl + 3)) + (((((σ.2.2.2 902 ku (9 * tl + 5)) + (σ.2.2.2 902 ku (9 * tl + 6))) + (σ.2.2.2 902 ku (9 * tl + 7))) / (nI 3)) / (nI 2)))) rfl (by omega) (by omega) (by simp [wN, wI, wA, wB, up3, up2, up1]) dL_corrected_197 ?_
                  refine lv_sipush (v := nI 200) hx hb dL_corrected_198 (by decide) ?_
                  refine lv_icmp_le (tgt := 210) hx hb dL_corrected_201 (by decide) (fun c_201 => ?_) (fun c_201 => ?_)
                  · refine lv_aload_n hx hb dL_corrected_210 rfl (lv_at hl 5 rfl) ?_
                    refine lv_iload_n hx hb dL_corrected_211 rfl (lv_at hl 4 rfl) ?_
                    refine lv_iconst (v := nI 3) hx hb dL_corrected_212 (by decide) ?_
                    refine r_addN hx hb dL_corrected_213 ?_
                    refine pw_ald8 X hK hG 902 fa_902 (hd _ (List.mem_of_getElem? (i := 0) rfl)) (i := 9 * tl + 3) (N := σ.2.2.1 902 ku 0) (x := ((σ.2.2.2 902 ku (9 * tl + 3)) + (((((σ.2.2.2 902 ku (9 * tl + 5)) + (σ.2.2.2 902 ku (9 * tl + 6))) + (σ.2.2.2 902 ku (9 * tl + 7))) / (nI 3)) / (nI 2)))) rfl (by omega) (by omega) (by simp [wN, wI, wA, wB, up3, up2, up1]) dL_corrected_214 ?_
                    exact r_top (by rw [if_pos c_184, if_pos c_201]) (J_215 _ _ hG hS)
                  · refine lv_sipush (v := nI 200) hx hb dL_corrected_204 (by decide) ?_
                    refine lv_goto (tgt := 215) hx hb dL_corrected_207 (by decide) ?_
                    exact r_top (by rw [if_pos c_184, if_neg c_201]) (J_215 _ _ hG hS)
                · refine lv_sipush (v := (-200)) hx hb dL_corrected_187 (by decide) ?_
                  refine lv_goto (tgt := 215) hx hb dL_corrected_190 (by decide) ?_
                  exact r_top (by rw [if_neg c_184]) (J_215 _ _ hG hS)
            · refine lv_iload hx hb dL_corrected_123 (lv_at hl 0 rfl) ?_
              refine lv_if_lt (tgt := 130) hx hb dL_corrected_125 (by decide) (fun c_125 => ?_) (fun c_125 => ?_)
              · refine lv_aload_n hx hb dL_corrected_130 rfl (lv_at hl 3 rfl) ?_
                refine lv_iload_n hx hb dL_corrected_131 rfl (lv_at hl 2 rfl) ?_
                refine lv_iconst (v := nI 3) hx hb dL_corrected_132 (by decide) ?_
                refine r_addN hx hb dL_corrected_133 ?_
                refine pw_ald8 X hK hG 902 fa_902 (hd _ (List.mem_of_getElem? (i := 0) rfl)) (i := 9 * tl + 3) (N := σ.2.2.1 902 ku 0) (x := σ.2.2.2 902 ku (9 * tl + 3)) rfl (by omega) (by omega) rfl dL_corrected_134 ?_
                refine lv_istore (lv' := [(5, .int (σ.2.2.2 902 ku (9 * tl + 3))), (4, .int (if (if σ.2.2.2 902 ku (9 * tl + 5) ≤ σ.2.2.2 902 ku (9 * tl + 6) then σ.2.2.2 902 ku (9 * tl + 6) else σ.2.2.2 902 ku (9 * tl + 5)) ≤ σ.2.2.2 902 ku (9 * tl + 7) then σ.2.2.2 902 ku (9 * tl + 7) else (if σ.2.2.2 902 ku (9 * tl + 5) ≤ σ.2.2.2 902 ku (9 * tl + 6) then σ.2.2.2 902 ku (9 * tl + 6) else σ.2.2.2 902 ku (9 * tl + 5)))), (3, .int (if σ.2.2.2 902 ku (9 * tl + 7) ≤ (if σ.2.2.2 902 ku (9 * tl + 6) ≤ σ.2.2.2 902 ku (9 * tl + 5) then σ.2.2.2 902 ku (9 * tl + 6) else σ.2.2.2 902 ku (9 * tl + 5)) then σ.2.2.2 902 ku (9 * tl + 7) else (if σ.2.2.2 902 ku (9 * tl + 6) ≤ σ.2.2.2 902 ku (9 * tl + 5) then σ.2.2.2 902 ku (9 * tl + 6) else σ.2.2.2 902 ku (9 * tl + 5)))), (2, .int (nI (9 * tl))), (0, .ref (L 902 ku)), (1, .int (nI tl))]) hx hb dL_corrected_135 hl (by decide) rfl (fun ls hl => ?_)
                refine lv_aload_n hx hb dL_corrected_137 rfl (lv_at hl 4 rfl) ?_
                refine lv_iload_n hx hb dL_corrected_138 rfl (lv_at hl 3 rfl) ?_
                refine lv_iconst (v := nI 5) hx hb dL_corrected_139 (by decide) ?_
                refine r_addN hx hb dL_corrected_140 ?_
                refine pw_ald8 X hK hG 902 fa_902 (hd _ (List.mem_of_getElem? (i := 0) rfl)) (i := 9 * tl + 5) (N := σ.2.2.1 902 ku 0) (x := σ.2.2.2 902 ku (9 * tl + 5)) rfl (by omega) (by omega) rfl dL_corrected_141 ?_
                refine lv_aload_n hx hb dL_corrected_142 rfl (lv_at hl 4 rfl) ?_
                refine lv_iload_n hx hb dL_corrected_143 rfl (lv_at hl 3 rfl) ?_
                refine lv_bipush (v := nI 6) hx hb dL_corrected_144 (by decide) ?_
                refine r_addN hx hb dL_corrected_146 ?_
                refine pw_ald8 X hK hG 902 fa_902 (hd _ (List.mem_of_getElem? (i := 0) rfl)) (i := 9 * tl + 6) (N := σ.2.2.1 902 ku 0) (x := σ.2.2.2 902 ku (9 * tl + 6)) rfl (by omega) (by omega) rfl dL_corrected_147 ?_
                refine lv_iadd hx hb dL_corrected_148 ?_
                refine lv_aload_n hx hb dL_corrected_149 rfl (lv_at hl 4 rfl) ?_
                refine lv_iload_n hx hb dL_corrected_150 rfl (lv_at hl 3 rfl) ?_
                refine lv_bipush (v := nI 7) hx hb dL_corrected_151 (by decide) ?_
                refine r_addN hx hb dL_corrected_153 ?_
                refine pw_ald8 X hK hG 902 fa_902 (hd _ (List.mem_of_getElem? (i := 0) rfl)) (i := 9 * tl + 7) (N := σ.2.2.1 902 ku 0) (x := σ.2.2.2 902 ku (9 * tl + 7)) rfl (by omega) (by omega) rfl dL_corrected_154 ?_
                refine lv_iadd hx hb dL_corrected_155 ?_
                refine lv_iconst (v := nI 3) hx hb dL_corrected_156 (by decide) ?_
                refine lv_idiv hx hb dL_corrected_157 (by decide) ?_
                refine lv_istore (lv' := [(6, .int ((((σ.2.2.2 902 ku (9 * tl + 5)) + (σ.2.2.2 902 ku (9 * tl + 6))) + (σ.2.2.2 902 ku (9 * tl + 7))) / (nI 3))), (5, .int (σ.2.2.2 902 ku (9 * tl + 3))), (4, .int (if (if σ.2.2.2 902 ku (9 * tl + 5) ≤ σ.2.2.2 902 ku (9 * tl + 6) then σ.2.2.2 902 ku (9 * tl + 6) else σ.2.2.2 902 ku (9 * tl + 5)) ≤ σ.2.2.2 902 ku (9 * tl + 7) then σ.2.2.2 902 ku (9 * tl + 7) else (if σ.2.2.2 902 ku (9 * tl + 5) ≤ σ.2.2.2 902 ku (9 * tl + 6) then σ.2.2.2 902 ku (9 * tl + 6) else σ.2.2.2 902 ku (9 * tl + 5)))), (3, .int (if σ.2.2.2 902 ku (9 * tl + 7) ≤ (if σ.2.2.2 902 ku (9 * tl + 6) ≤ σ.2.2.2 902 ku (9 * tl + 5) then σ.2.2.2 902 ku (9 * tl + 6) else σ.2.2.2 902 ku (9 * tl + 5)) then σ.2.2.2 902 ku (9 * tl + 7) else (if σ.2.2.2 902 ku (9 * tl + 6) ≤ σ.2.2.2 902 ku (9 * tl + 5) then σ.2.2.2 902 ku (9 * tl + 6) else σ.2.2.2 902 ku (9 * tl + 5)))), (2, .int (nI (9 * tl))), (0, .ref (L 902 ku)), (1, .int (nI tl))]) hx hb dL_corrected_158 hl (by decide) rfl (fun ls hl => ?_)
                refine lv_aload_n hx hb dL_corrected_160 rfl (lv_at hl 5 rfl) ?_
                refine lv_iload_n hx hb dL_corrected_161 rfl (lv_at hl 4 rfl) ?_
                refine lv_iconst (v := nI 3) hx hb dL_corrected_162 (by decide) ?_
                refine r_addN hx hb dL_corrected_163 ?_
                refine lv_dup2_11 hx hb dL_corrected_164 rfl rfl ?_
                refine pw_ald8 X hK hG 902 fa_902 (hd _ (List.mem_of_getElem? (i := 0) rfl)) (i := 9 * tl + 3) (N := σ.2.2.1 902 ku 0) (x := σ.2.2.2 902 ku (9 * tl + 3)) rfl (by omega) (by omega) rfl dL_corrected_165 ?_
                refine lv_iload hx hb dL_corrected_166 (lv_at hl 0 rfl) ?_
                refine lv_iconst (v := nI 2) hx hb dL_corrected_168 (by decide) ?_
                refine lv_idiv hx hb dL_corrected_169 (by decide) ?_
                refine lv_iadd hx hb dL_corrected_170 ?_
                refine pw_ast8 X hK hG hS hA 902 fa_902 (hd _ (List.mem_of_getElem? (i := 0) rfl)) (i := 9 * tl + 3) (N := σ.2.2.1 902 ku 0) rfl (by omega) (by omega) dL_corrected_171 (fun H locs hG hS => ?_)
                refine lv_aload_n hx hb dL_corrected_172 rfl (lv_at hl 5 rfl) ?_
                refine lv_iload_n hx hb dL_corrected_173 rfl (lv_at hl 4 rfl) ?_
                refine lv_iconst (v := nI 3) hx hb dL_corrected_174 (by decide) ?_
                refine r_addN hx hb dL_corrected_175 ?_
                refine r_cutH 215 [.int (if (-200) ≤ ((σ.2.2.2 902 ku (9 * tl + 3)) + (((((σ.2.2.2 902 ku (9 * tl + 5)) + (σ.2.2.2 902 ku (9 * tl + 6))) + (σ.2.2.2 902 ku (9 * tl + 7))) / (nI 3)) / (nI 2))) then (if ((σ.2.2.2 902 ku (9 * tl + 3)) + (((((σ.2.2.2 902 ku (9 * tl + 5)) + (σ.2.2.2 902 ku (9 * tl + 6))) + (σ.2.2.2 902 ku (9 * tl + 7))) / (nI 3)) / (nI 2))) ≤ nI 200 then ((σ.2.2.2 902 ku (9 * tl + 3)) + (((((σ.2.2.2 902 ku (9 * tl + 5)) + (σ.2.2.2 902 ku (9 * tl + 6))) + (σ.2.2.2 902 ku (9 * tl + 7))) / (nI 3)) / (nI 2))) else nI 200) else (-200)), .int (nI (9 * tl + 3)), .ref (L 902 ku)] hG hS (fun H locs hG hS => ?_) (fun J_215 => ?_)
                · refine pw_ast8 X hK hG hS hA 902 fa_902 (hd _ (List.mem_of_getElem? (i := 0) rfl)) (i := 9 * tl + 3) (N := σ.2.2.1 902 ku 0) rfl (by omega) (by omega) dL_corrected_215 (fun H locs hG hS => ?_)
                  refine lv_aload_n hx hb dL_corrected_216 rfl (lv_at hl 5 rfl) ?_
                  refine lv_iload_n hx hb dL_corrected_217 rfl (lv_at hl 4 rfl) ?_
                  refine lv_bipush (v := nI 8) hx hb dL_corrected_218 (by decide) ?_
                  refine r_addN hx hb dL_corrected_220 ?_
                  refine lv_iconst (v := nI 0) hx hb dL_corrected_221 (by decide) ?_
                  refine pw_ast8 X hK hG hS hA 902 fa_902 (hd _ (List.mem_of_getElem? (i := 0) rfl)) (i := 9 * tl + 8) (N := σ.2.2.1 902 ku 0) rfl (by omega) (by omega) dL_corrected_222 (fun H locs hG hS => ?_)
                  refine lv_aload_n hx hb dL_corrected_223 rfl (lv_at hl 5 rfl) ?_
                  refine lv_iload_n hx hb dL_corrected_224 rfl (lv_at hl 4 rfl) ?_
                  refine lv_iconst (v := nI 3) hx hb dL_corrected_225 (by decide) ?_
                  refine r_addN hx hb dL_corrected_226 ?_
                  refine pw_ald8 X hK hG 902 fa_902 (hd _ (List.mem_of_getElem? (i := 0) rfl)) (i := 9 * tl + 3) (N := σ.2.2.1 902 ku 0) (x := (if (-200) ≤ ((σ.2.2.2 902 ku (9 * tl + 3)) + (((((σ.2.2.2 902 ku (9 * tl + 5)) + (σ.2.2.2 902 ku (9 * tl + 6))) + (σ.2.2.2 902 ku (9 * tl + 7))) / (nI 3)) / (nI 2))) then (if ((σ.2.2.2 902 ku (9 * tl + 3)) + (((((σ.2.2.2 902 ku (9 * tl + 5)) + (σ.2.2.2 902 ku (9 * tl + 6))) + (σ.2.2.2 902 ku (9 * tl + 7))) / (nI 3)) / (nI 2))) ≤ nI 200 then ((σ.2.2.2 902 ku (9 * tl + 3)) + (((((σ.2.2.2 902 ku (9 * tl + 5)) + (σ.2.2.2 902 ku (9 * tl + 6))) + (σ.2.2.2 902 ku (9 * tl + 7))) / (nI 3)) / (nI 2))) else nI 200) else (-200))) rfl (by omega) (by omega) (by simp [wN, wI, wA, wB, up3, up2, up1, e_ne (σ := (wB (wB σ 902 ku (9 * tl + 3) ((σ.2.2.2 902 ku (9 * tl + 3)) + (((((σ.2.2.2 902 ku (9 * tl + 5)) + (σ.2.2.2 902 ku (9 * tl + 6))) + (σ.2.2.2 902 ku (9 * tl + 7))) / (nI 3)) / (nI 2)))) 902 ku (9 * tl + 3) (if (-200) ≤ ((σ.2.2.2 902 ku (9 * tl + 3)) + (((((σ.2.2.2 902 ku (9 * tl + 5)) + (σ.2.2.2 902 ku (9 * tl + 6))) + (σ.2.2.2 902 ku (9 * tl + 7))) / (nI 3)) / (nI 2))) then (if ((σ.2.2.2 902 ku (9 * tl + 3)) + (((((σ.2.2.2 902 ku (9 * tl + 5)) + (σ.2.2.2 902 ku (9 * tl + 6))) + (σ.2.2.2 902 ku (9 * tl + 7))) / (nI 3)) / (nI 2))) ≤ nI 200 then ((σ.2.2.2 902 ku (9 * tl + 3)) + (((((σ.2.2.2 902 ku (9 * tl + 5)) + (σ.2.2.2 902 ku (9 * tl + 6))) + (σ.2.2.2 902 ku (9 * tl + 7))) / (nI 3)) / (nI 2))) else nI 200) else (-200)))) (F := 902) (k := ku) (i := (9 * tl + 8)) (j := (9 * tl + 3)) (v := (nI 0)) (by omega)]) dL_corrected_227 ?_
                  refine lv_iload hx hb dL_corrected_228 (lv_at hl 1 rfl) ?_
                  refine lv_isub hx hb dL_corrected_230 ?_
                  exact rm_ret hx hb hr hlocks hG hS (by unfold h_cor; rw [if_neg c_116, if_neg c_120, if_pos c_125] <;> rfl) (by unfold h_cor; rw [if_neg c_116, if_neg c_120, if_pos c_125] <;> rfl) rfl dL_corrected_231
                · refine lv_aload_n hx hb dL_corrected_176 rfl (lv_at hl 5 rfl) ?_
                  refine lv_iload_n hx hb dL_corrected_177 rfl (lv_at hl 4 rfl) ?_
                  refine lv_iconst (v := nI 3) hx hb dL_corrected_178 (by decide) ?_
                  refine r_addN hx hb dL_corrected_179 ?_
                  refine pw_ald8 X hK hG 902 fa_902 (hd _ (List.mem_of_getElem? (i := 0) rfl)) (i := 9 * tl + 3) (N := σ.2.2.1 902 ku 0) (x := ((σ.2.2.2 902 ku (9 * tl + 3)) + (((((σ.2.2.2 902 ku (9 * tl + 5)) + (σ.2.2.2 902 ku (9 * tl + 6))) + (σ.2.2.2 902 ku (9 * tl + 7))) / (nI 3)) / (nI 2)))) rfl (by omega) (by omega) (by simp [wN, wI, wA, wB, up3, up2, up1]) dL_corrected_180 ?_
                  refine lv_sipush (v := (-200)) hx hb dL_corrected_181 (by decide) ?_
                  refine lv_icmp_ge (tgt := 193) hx hb dL_corrected_184 (by decide) (fun c_184 => ?_) (fun c_184 => ?_)
                  · refine lv_aload_n hx hb dL_corrected_193 rfl (lv_at hl 5 rfl) ?_
                    refine lv_iload_n hx hb dL_corrected_194 rfl (lv_at hl 4 rfl) ?_
                    refine lv_iconst (v := nI 3) hx hb dL_corrected_195 (by decide) ?_
                    refine r_addN hx hb dL_corrected_196 ?_
                    refine pw_ald8 X hK hG 902 fa_902 (hd _ (List.mem_of_getElem? (i := 0) rfl)) (i := 9 * tl + 3) (N := σ.2.2.1 902 ku 0) (x := ((σ.2.2.2 902 ku (9 * tl + 3)) + (((((σ.2.2.2 902 ku (9 * tl + 5)) + (σ.2.2.2 902 ku (9 * tl + 6))) + (σ.2.2.2 902 ku (9 * tl + 7))) / (nI 3)) / (nI 2)))) rfl (by omega) (by omega) (by simp [wN, wI, wA, wB, up3, up2, up1]) dL_corrected_197 ?_
                    refine lv_sipush (v := nI 200) hx hb dL_corrected_198 (by decide) ?_
                    refine lv_icmp_le (tgt := 210) hx hb dL_corrected_201 (by decide) (fun c_201 => ?_) (fun c_201 => ?_)
                    · refine lv_aload_n hx hb dL_corrected_210 rfl (lv_at hl 5 rfl) ?_
                      refine lv_iload_n hx hb dL_corrected_211 rfl (lv_at hl 4 rfl) ?_
                      refine lv_iconst (v := nI 3) hx hb dL_corrected_212 (by decide) ?_
                      refine r_addN hx hb dL_corrected_213 ?_
                      refine pw_ald8 X hK hG 902 fa_902 (hd _ (List.mem_of_getElem? (i := 0) rfl)) (i := 9 * tl + 3) (N := σ.2.2.1 902 ku 0) (x := ((σ.2.2.2 902 ku (9 * tl + 3)) + (((((σ.2.2.2 902 ku (9 * tl + 5)) + (σ.2.2.2 902 ku (9 * tl + 6))) + (σ.2.2.2 902 ku (9 * tl + 7))) / (nI 3)) / (nI 2)))) rfl (by omega) (by omega) (by simp [wN, wI, wA, wB, up3, up2, up1]) dL_corrected_214 ?_
                      exact r_top (by rw [if_pos c_184, if_pos c_201]) (J_215 _ _ hG hS)
                    · refine lv_sipush (v := nI 200) hx hb dL_corrected_204 (by decide) ?_
                      refine lv_goto (tgt := 215) hx hb dL_corrected_207 (by decide) ?_
                      exact r_top (by rw [if_pos c_184, if_neg c_201]) (J_215 _ _ hG hS)
                  · refine lv_sipush (v := (-200)) hx hb dL_corrected_187 (by decide) ?_
                    refine lv_goto (tgt := 215) hx hb dL_corrected_190 (by decide) ?_
                    exact r_top (by rw [if_neg c_184]) (J_215 _ _ hG hS)
              · refine lv_iconst (v := nI 0) hx hb dL_corrected_128 (by decide) ?_
                exact rm_ret hx hb hr hlocks hG hS (by unfold h_cor; rw [if_neg c_116, if_neg c_120, if_neg c_125] <;> rfl) (by unfold h_cor; rw [if_neg c_116, if_neg c_120, if_neg c_125] <;> rfl) rfl dL_corrected_129
        · refine lv_iload hx hb dL_corrected_85 (lv_at hl 1 rfl) ?_
          refine lv_aload_n hx hb dL_corrected_87 rfl (lv_at hl 3 rfl) ?_
          refine lv_iload_n hx hb dL_corrected_88 rfl (lv_at hl 2 rfl) ?_
          refine lv_bipush (v := nI 7) hx hb dL_corrected_89 (by decide) ?_
          refine r_addN hx hb dL_corrected_91 ?_
          refine pw_ald8 X hK hG 902 fa_902 (hd _ (List.mem_of_getElem? (i := 0) rfl)) (i := 9 * tl + 7) (N := σ.2.2.1 902 ku 0) (x := σ.2.2.2 902 ku (9 * tl + 7)) rfl (by omega) (by omega) rfl dL_corrected_92 ?_
          refine lv_icmp_le (tgt := 101) hx hb dL_corrected_93 (by decide) (fun c_93 => ?_) (fun c_93 => ?_)
          · refine lv_aload_n hx hb dL_corrected_101 rfl (lv_at hl 3 rfl) ?_
            refine lv_iload_n hx hb dL_corrected_102 rfl (lv_at hl 2 rfl) ?_
            refine lv_bipush (v := nI 7) hx hb dL_corrected_103 (by decide) ?_
            refine r_addN hx hb dL_corrected_105 ?_
            refine pw_ald8 X hK hG 902 fa_902 (hd _ (List.mem_of_getElem? (i := 0) rfl)) (i := 9 * tl + 7) (N := σ.2.2.1 902 ku 0) (x := σ.2.2.2 902 ku (9 * tl + 7)) rfl (by omega) (by omega) rfl dL_corrected_106 ?_
            exact r_top (by rw [if_pos c_93]) (J_107 _ _ hG hS)
          · refine lv_iload hx hb dL_corrected_96 (lv_at hl 1 rfl) ?_
            refine lv_goto (tgt := 107) hx hb dL_corrected_98 (by decide) ?_
            exact r_top (by rw [if_neg c_93]) (J_107 _ _ hG hS)
      · refine lv_iload_n hx hb dL_corrected_64 rfl (lv_at hl 1 rfl) ?_
        refine lv_aload_n hx hb dL_corrected_65 rfl (lv_at hl 3 rfl) ?_
        refine lv_iload_n hx hb dL_corrected_66 rfl (lv_at hl 2 rfl) ?_
        refine lv_bipush (v := nI 7) hx hb dL_corrected_67 (by decide) ?_
        refine r_addN hx hb dL_corrected_69 ?_
        refine pw_ald8 X hK hG 902 fa_902 (hd _ (List.mem_of_getElem? (i := 0) rfl)) (i := 9 * tl + 7) (N := σ.2.2.1 902 ku 0) (x := σ.2.2.2 902 ku (9 * tl + 7)) rfl (by omega) (by omega) rfl dL_corrected_70 ?_
        refine lv_icmp_ge (tgt := 78) hx hb dL_corrected_71 (by decide) (fun c_71 => ?_) (fun c_71 => ?_)
        · refine lv_aload_n hx hb dL_corrected_78 rfl (lv_at hl 3 rfl) ?_
          refine lv_iload_n hx hb dL_corrected_79 rfl (lv_at hl 2 rfl) ?_
          refine lv_bipush (v := nI 7) hx hb dL_corrected_80 (by decide) ?_
          refine r_addN hx hb dL_corrected_82 ?_
          refine pw_ald8 X hK hG 902 fa_902 (hd _ (List.mem_of_getElem? (i := 0) rfl)) (i := 9 * tl + 7) (N := σ.2.2.1 902 ku 0) (x := σ.2.2.2 902 ku (9 * tl + 7)) rfl (by omega) (by omega) rfl dL_corrected_83 ?_
          exact r_top (by rw [if_pos c_71]) (J_84 _ _ hG hS)
        · refine lv_iload_n hx hb dL_corrected_74 rfl (lv_at hl 1 rfl) ?_
          refine lv_goto (tgt := 84) hx hb dL_corrected_75 (by decide) ?_
          exact r_top (by rw [if_neg c_71]) (J_84 _ _ hG hS)
    · refine lv_aload_n hx hb dL_corrected_34 rfl (lv_at hl 2 rfl) ?_
      refine lv_iload_n hx hb dL_corrected_35 rfl (lv_at hl 1 rfl) ?_
      refine lv_iconst (v := nI 5) hx hb dL_corrected_36 (by decide) ?_
      refine r_addN hx hb dL_corrected_37 ?_
      refine pw_ald8 X hK hG 902 fa_902 (hd _ (List.mem_of_getElem? (i := 0) rfl)) (i := 9 * tl + 5) (N := σ.2.2.1 902 ku 0) (x := σ.2.2.2 902 ku (9 * tl + 5)) rfl (by omega) (by omega) rfl dL_corrected_38 ?_
      refine lv_aload_n hx hb dL_corrected_39 rfl (lv_at hl 2 rfl) ?_
      refine lv_iload_n hx hb dL_corrected_40 rfl (lv_at hl 1 rfl) ?_
      refine lv_bipush (v := nI 6) hx hb dL_corrected_41 (by decide) ?_
      refine r_addN hx hb dL_corrected_43 ?_
      refine pw_ald8 X hK hG 902 fa_902 (hd _ (List.mem_of_getElem? (i := 0) rfl)) (i := 9 * tl + 6) (N := σ.2.2.1 902 ku 0) (x := σ.2.2.2 902 ku (9 * tl + 6)) rfl (by omega) (by omega) rfl dL_corrected_44 ?_
      refine lv_icmp_le (tgt := 56) hx hb dL_corrected_45 (by decide) (fun c_45 => ?_) (fun c_45 => ?_)
      · refine lv_aload_n hx hb dL_corrected_56 rfl (lv_at hl 2 rfl) ?_
        refine lv_iload_n hx hb dL_corrected_57 rfl (lv_at hl 1 rfl) ?_
        refine lv_bipush (v := nI 6) hx hb dL_corrected_58 (by decide) ?_
        refine r_addN hx hb dL_corrected_60 ?_
        refine pw_ald8 X hK hG 902 fa_902 (hd _ (List.mem_of_getElem? (i := 0) rfl)) (i := 9 * tl + 6) (N := σ.2.2.1 902 ku 0) (x := σ.2.2.2 902 ku (9 * tl + 6)) rfl (by omega) (by omega) rfl dL_corrected_61 ?_
        exact r_top (by rw [if_pos c_45]) (J_62 _ _ hG hS)
      · refine lv_aload_n hx hb dL_corrected_48 rfl (lv_at hl 2 rfl) ?_
        refine lv_iload_n hx hb dL_corrected_49 rfl (lv_at hl 1 rfl) ?_
        refine lv_iconst (v := nI 5) hx hb dL_corrected_50 (by decide) ?_
        refine r_addN hx hb dL_corrected_51 ?_
        refine pw_ald8 X hK hG 902 fa_902 (hd _ (List.mem_of_getElem? (i := 0) rfl)) (i := 9 * tl + 5) (N := σ.2.2.1 902 ku 0) (x := σ.2.2.2 902 ku (9 * tl + 5)) rfl (by omega) (by omega) rfl dL_corrected_52 ?_
        refine lv_goto (tgt := 62) hx hb dL_corrected_53 (by decide) ?_
        exact r_top (by rw [if_neg c_45]) (J_62 _ _ hG hS)
  · refine lv_aload_n hx hb dL_corrected_5 rfl (lv_at hl 1 rfl) ?_
    refine lv_iload_n hx hb dL_corrected_6 rfl (lv_at hl 0 rfl) ?_
    refine lv_iconst (v := nI 5) hx hb dL_corrected_7 (by decide) ?_
    refine r_addN hx hb dL_corrected_8 ?_
    refine pw_ald8 X hK hG 902 fa_902 (hd _ (List.mem_of_getElem? (i := 0) rfl)) (i := 9 * tl + 5) (N := σ.2.2.1 902 ku 0) (x := σ.2.2.2 902 ku (9 * tl + 5)) rfl (by omega) (by omega) rfl dL_corrected_9 ?_
    refine lv_aload_n hx hb dL_corrected_10 rfl (lv_at hl 1 rfl) ?_
    refine lv_iload_n hx hb dL_corrected_11 rfl (lv_at hl 0 rfl) ?_
    refine lv_bipush (v := nI 6) hx hb dL_corrected_12 (by decide) ?_
    refine r_addN hx hb dL_corrected_14 ?_
    refine pw_ald8 X hK hG 902 fa_902 (hd _ (List.mem_of_getElem? (i := 0) rfl)) (i := 9 * tl + 6) (N := σ.2.2.1 902 ku 0) (x := σ.2.2.2 902 ku (9 * tl + 6)) rfl (by omega) (by omega) rfl dL_corrected_15 ?_
    refine lv_icmp_ge (tgt := 27) hx hb dL_corrected_16 (by decide) (fun c_16 => ?_) (fun c_16 => ?_)
    · refine lv_aload_n hx hb dL_corrected_27 rfl (lv_at hl 1 rfl) ?_
      refine lv_iload_n hx hb dL_corrected_28 rfl (lv_at hl 0 rfl) ?_
      refine lv_bipush (v := nI 6) hx hb dL_corrected_29 (by decide) ?_
      refine r_addN hx hb dL_corrected_31 ?_
      refine pw_ald8 X hK hG 902 fa_902 (hd _ (List.mem_of_getElem? (i := 0) rfl)) (i := 9 * tl + 6) (N := σ.2.2.1 902 ku 0) (x := σ.2.2.2 902 ku (9 * tl + 6)) rfl (by omega) (by omega) rfl dL_corrected_32 ?_
      exact r_top (by rw [if_pos c_16]) (J_33 _ _ hG hS)
    · refine lv_aload_n hx hb dL_corrected_19 rfl (lv_at hl 1 rfl) ?_
      refine lv_iload_n hx hb dL_corrected_20 rfl (lv_at hl 0 rfl) ?_
      refine lv_iconst (v := nI 5) hx hb dL_corrected_21 (by decide) ?_
      refine r_addN hx hb dL_corrected_22 ?_
      refine pw_ald8 X hK hG 902 fa_902 (hd _ (List.mem_of_getElem? (i := 0) rfl)) (i := 9 * tl + 5) (N := σ.2.2.1 902 ku 0) (x := σ.2.2.2 902 ku (9 * tl + 5)) rfl (by omega) (by omega) rfl dL_corrected_23 ?_
      refine lv_goto (tgt := 33) hx hb dL_corrected_24 (by decide) ?_
      exact r_top (by rw [if_neg c_16]) (J_33 _ _ hG hS)
