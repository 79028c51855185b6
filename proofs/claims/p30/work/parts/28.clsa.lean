section
variable {p : Program} {l : Launch} {e : Env} {R : Room} {s : State} {m : MethodId} {args : Array Value} {below : List Frame} {meth : Method} {c : Code} {H : Heap} {locs : List Loc} {cells slots : Nat} {Q : State → Prop} {cc : ByteArray} {pc nL : Nat} {ls : Array Slot} {rest : List Value} {own : String}
theorem r_abs (X : CallFix p m c cc nL s args TB own) (hls : ls.size = nL) {idx : Nat} (hl : Cond.methodLink own idx yJ9_abs_0f7a4 ∈ TB) (hf : 1 ≤ R.frames) (hlo : (rest.map fun v => v.category).sum + 13 ≤ R.locals) (hc : cells ≤ R.cells) (hs : slots ≤ R.slots) {x : Int32} (d : decode cc pc = .ok (.invokestatic idx, 3))
    (kk : W p l e R s m args below meth c H locs cells slots Q (F0 m (pc + 3) ls (.int (if 0 ≤ x then x else 0 - x) :: rest))) : W p l e R s m args below meth c H locs cells slots Q (F0 m pc ls (.int x :: rest)) :=
  va_mabs X.1 X.2.1 (X.2.2.1.trans hls.symm) X.2.2.2.1 (X.2.2.2.2 _ hl) (X.2.2.2.2 _ ysJ9_abs_0f7a4.1.1) (X.2.2.2.2 _ ysJ9_abs_0f7a4.1.2.1) (X.2.2.2.2 _ ysJ9_abs_0f7a4.1.2.2) hf hlo hc hs d kk
end
def k_papp (k9 : Nat) (v1 v2 : Int32) (σ : St) : St := if 30 ≤ (σ.1 402 k9) then σ else (wN (wB (wB σ 400 k9 (σ.1 402 k9) v1) 401 k9 (σ.1 402 k9) v2) 402 k9 ((σ.1 402 k9) + 1))
set_option maxRecDepth 100000 in
set_option maxHeartbeats 4000000 in
theorem c_X4_append {D : va_G} {cI cZ cO : ClassId} {dom : Nat → Nat → Prop} (l : Launch) (L : Lay) (σ : St) (ow : Nat → Prop) (k9 : Nat) (hd : ∀ F ∈ ([499, 400, 401] : List Nat), dom F k9) (v1 v2 : Int32) (h2 : σ.1 402 k9 < 100000) : RV D cI cZ cO dom l yX4_append cX4_append 3 0 0 [.ref (L 499 k9), .int v1, .int v2] L σ ow (k_papp k9 v1 v2 σ) := by
  refine rv_of rfl (Nat.le_of_ble_eq_true rfl) ?_
  intro p e s m below meth c ls X hK hG hr hlocks hl
  have X : CallFix p m c cX4_append 3 s _ TB RX4 := X
  have hx := X.1
  have hb := X.2.1
  have hS : va_S (AA ow s.heap.size) s.heap s.heap [] := va_S.rf
  have hA : ∀ q, ow q → AA ow s.heap.size q := fun _ h => Or.inl h
  have hl : lv_has ls 3 [(0, .ref (L 499 k9)), (1, .int v1), (2, .int v2)] := hl
  refine lv_aload_n hx hb dX4_append_0 rfl (lv_at hl 0 rfl) ?_
  refine gt_X4_18 X hK hG (hd 499 (by decide)) (x := σ.1 402 k9) rfl dX4_append_1 ?_
  refine lv_bipush (v := nI 30) hx hb dX4_append_4 (by decide) ?_
  refine r_icmp_geN (tgt := 39) hx hb dX4_append_6 (by decide) (by omega) (by decide) (fun c_6 => ?_) (fun c_6 => ?_)
  · exact rv_ret hx hb hr hlocks hG hS (by unfold k_papp; rw [if_pos c_6] <;> rfl) dX4_append_39
  · refine lv_aload_n hx hb dX4_append_9 rfl (lv_at hl 0 rfl) ?_
    refine gt_X4_9 X hK hG (hd 499 (by decide)) dX4_append_10 ?_
    refine lv_aload_n hx hb dX4_append_13 rfl (lv_at hl 0 rfl) ?_
    refine gt_X4_18 X hK hG (hd 499 (by decide)) (x := σ.1 402 k9) rfl dX4_append_14 ?_
    refine lv_iload_n hx hb dX4_append_17 rfl (lv_at hl 1 rfl) ?_
    refine as_400 X hK hG hS hA (hd 400 (by decide)) (i := σ.1 402 k9) (by omega) dX4_append_18 (fun H locs hG hS => ?_)
    refine lv_aload_n hx hb dX4_append_19 rfl (lv_at hl 0 rfl) ?_
    refine gt_X4_15 X hK hG (hd 499 (by decide)) dX4_append_20 ?_
    refine lv_aload_n hx hb dX4_append_23 rfl (lv_at hl 0 rfl) ?_
    refine gt_X4_18 X hK hG (hd 499 (by decide)) (x := σ.1 402 k9) rfl dX4_append_24 ?_
    refine lv_iload_n hx hb dX4_append_27 rfl (lv_at hl 2 rfl) ?_
    refine as_401 X hK hG hS hA (hd 401 (by decide)) (i := σ.1 402 k9) (by omega) dX4_append_28 (fun H locs hG hS => ?_)
    refine lv_aload_n hx hb dX4_append_29 rfl (lv_at hl 0 rfl) ?_
    refine lv_dup hx hb dX4_append_30 rfl ?_
    refine gt_X4_18 X hK hG (hd 499 (by decide)) (x := σ.1 402 k9) rfl dX4_append_31 ?_
    refine lv_iconst (v := nI 1) hx hb dX4_append_34 (by decide) ?_
    refine r_addN hx hb dX4_append_35 ?_
    refine pt_X4_18 X hK hG hS hA (hd 499 (by decide)) dX4_append_36 (fun H locs hG hS => ?_)
    exact rv_ret hx hb hr hlocks hG hS (by unfold k_papp; rw [if_neg (Nat.not_le.mpr c_6)] <;> rfl) dX4_append_39
def k_dapp (k9 v1 v2 v3 : Nat) (σ : St) : St := if 6 ≤ (σ.1 5 k9) then σ else (wN (wA (wA (wA σ 0 k9 (σ.1 5 k9) v1) 1 k9 (σ.1 5 k9) v2) 2 k9 (σ.1 5 k9) v3) 5 k9 ((σ.1 5 k9) + 1))
set_option maxRecDepth 100000 in
set_option maxHeartbeats 4000000 in
theorem c_X0_append {D : va_G} {cI cZ cO : ClassId} {dom : Nat → Nat → Prop} (l : Launch) (L : Lay) (σ : St) (ow : Nat → Prop) (k9 : Nat) (hd : ∀ F ∈ ([99, 0, 1, 2] : List Nat), dom F k9) (v1 v2 v3 : Nat) (h2 : σ.1 5 k9 < 100000) : RV D cI cZ cO dom l yX0_append cX0_append 4 0 0 [.ref (L 99 k9), .int (nI v1), .int (nI v2), .int (nI v3)] L σ ow (k_dapp k9 v1 v2 v3 σ) := by
  refine rv_of rfl (Nat.le_of_ble_eq_true rfl) ?_
  intro p e s m below meth c ls X hK hG hr hlocks hl
  have X : CallFix p m c cX0_append 4 s _ TB RX0 := X
  have hx := X.1
  have hb := X.2.1
  have hS : va_S (AA ow s.heap.size) s.heap s.heap [] := va_S.rf
  have hA : ∀ q, ow q → AA ow s.heap.size q := fun _ h => Or.inl h
  have hl : lv_has ls 4 [(0, .ref (L 99 k9)), (1, .int (nI v1)), (2, .int (nI v2)), (3, .int (nI v3))] := hl
  refine lv_aload_n hx hb dX0_append_0 rfl (lv_at hl 0 rfl) ?_
  refine gt_X0_27 X hK hG (hd 99 (by decide)) (x := σ.1 5 k9) rfl dX0_append_1 ?_
  refine lv_bipush (v := nI 6) hx hb dX0_append_4 (by decide) ?_
  refine r_icmp_geN (tgt := 49) hx hb dX0_append_6 (by decide) (by omega) (by decide) (fun c_6 => ?_) (fun c_6 => ?_)
  · exact rv_ret hx hb hr hlocks hG hS (by unfold k_dapp; rw [if_pos c_6] <;> rfl) dX0_append_49
  · refine lv_aload_n hx hb dX0_append_9 rfl (lv_at hl 0 rfl) ?_
    refine gt_X0_9 X hK hG (hd 99 (by decide)) dX0_append_10 ?_
    refine lv_aload_n hx hb dX0_append_13 rfl (lv_at hl 0 rfl) ?_
    refine gt_X0_27 X hK hG (hd 99 (by decide)) (x := σ.1 5 k9) rfl dX0_append_14 ?_
    refine lv_iload_n hx hb dX0_append_17 rfl (lv_at hl 1 rfl) ?_
    refine as_0 X hK hG hS hA (hd 0 (by decide)) (i := σ.1 5 k9) (by omega) dX0_append_18 (fun H locs hG hS => ?_)
    refine lv_aload_n hx hb dX0_append_19 rfl (lv_at hl 0 rfl) ?_
    refine gt_X0_15 X hK hG (hd 99 (by decide)) dX0_append_20 ?_
    refine lv_aload_n hx hb dX0_append_23 rfl (lv_at hl 0 rfl) ?_
    refine gt_X0_27 X hK hG (hd 99 (by decide)) (x := σ.1 5 k9) rfl dX0_append_24 ?_
    refine lv_iload_n hx hb dX0_append_27 rfl (lv_at hl 2 rfl) ?_
    refine as_1 X hK hG hS hA (hd 1 (by decide)) (i := σ.1 5 k9) (by omega) dX0_append_28 (fun H locs hG hS => ?_)
    refine lv_aload_n hx hb dX0_append_29 rfl (lv_at hl 0 rfl) ?_
    refine gt_X0_18 X hK hG (hd 99 (by decide)) dX0_append_30 ?_
    refine lv_aload_n hx hb dX0_append_33 rfl (lv_at hl 0 rfl) ?_
    refine gt_X0_27 X hK hG (hd 99 (by decide)) (x := σ.1 5 k9) rfl dX0_append_34 ?_
    refine lv_iload_n hx hb dX0_append_37 rfl (lv_at hl 3 rfl) ?_
    refine as_2 X hK hG hS hA (hd 2 (by decide)) (i := σ.1 5 k9) (by omega) dX0_append_38 (fun H locs hG hS => ?_)
    refine lv_aload_n hx hb dX0_append_39 rfl (lv_at hl 0 rfl) ?_
    refine lv_dup hx hb dX0_append_40 rfl ?_
    refine gt_X0_27 X hK hG (hd 99 (by decide)) (x := σ.1 5 k9) rfl dX0_append_41 ?_
    refine lv_iconst (v := nI 1) hx hb dX0_append_44 (by decide) ?_
    refine r_addN hx hb dX0_append_45 ?_
    refine pt_X0_27 X hK hG hS hA (hd 99 (by decide)) dX0_append_46 (fun H locs hG hS => ?_)
    exact rv_ret hx hb hr hlocks hG hS (by unfold k_dapp; rw [if_neg (Nat.not_le.mpr c_6)] <;> rfl) dX0_append_49
set_option maxRecDepth 100000 in
set_option maxHeartbeats 4000000 in
theorem c_X0_toleranceNow {D : va_G} {cI cZ cO : ClassId} {dom : Nat → Nat → Prop} (l : Launch) (L : Lay) (σ : St) (ow : Nat → Prop) (k9 : Nat) (hd : ∀ F ∈ ([99, 2, 3, 4] : List Nat), dom F k9) (i9 : Nat) (hi : i9 < 6) (hb : σ.2.2.1 4 k9 i9 < 100000) : RM D cI cZ cO dom l yX0_toleranceNow cX0_toleranceNow 2 ((some FieldType.int)) 0 0 [.ref (L 99 k9), .int (nI i9)] L σ ow (nI (σ.2.2.1 2 k9 i9 + (if σ.2.2.1 4 k9 i9 = 0 then 0 else σ.2.2.1 3 k9 i9))) σ := by
  refine rm_of rfl (Nat.le_of_ble_eq_true rfl) ?_
  intro p e s m below meth c ls X hK hG hr hlocks hl
  have X : CallFix p m c cX0_toleranceNow 2 s _ TB RX0 := X
  have hx := X.1
  have hb := X.2.1
  have hS : va_S (AA ow s.heap.size) s.heap s.heap [] := va_S.rf
  have hA : ∀ q, ow q → AA ow s.heap.size q := fun _ h => Or.inl h
  have hl : lv_has ls 2 [(0, .ref (L 99 k9)), (1, .int (nI i9))] := hl
  refine lv_aload_n hx hb dX0_toleranceNow_0 rfl (lv_at hl 0 rfl) ?_
  refine gt_X0_18 X hK hG (hd 99 (by decide)) dX0_toleranceNow_1 ?_
  refine lv_iload_n hx hb dX0_toleranceNow_4 rfl (lv_at hl 1 rfl) ?_
  refine al_2 X hK hG (hd 2 (by decide)) (i := i9) (x := σ.2.2.1 2 k9 i9) (hi) rfl dX0_toleranceNow_5 ?_
  refine r_cutH 25 [.int (nI (if σ.2.2.1 4 k9 i9 = 0 then 0 else σ.2.2.1 3 k9 i9)), .int (nI (σ.2.2.1 2 k9 i9))] hG hS (fun H locs hG hS => ?_) (fun J_25 => ?_)
  · refine r_addN hx hb dX0_toleranceNow_25 ?_
    exact rm_ret hx hb hr hlocks hG hS (rfl) (rfl) rfl dX0_toleranceNow_26
  · refine lv_aload_n hx hb dX0_toleranceNow_6 rfl (lv_at hl 0 rfl) ?_
    refine gt_X0_24 X hK hG (hd 99 (by decide)) dX0_toleranceNow_7 ?_
    refine lv_iload_n hx hb dX0_toleranceNow_10 rfl (lv_at hl 1 rfl) ?_
    refine al_4 X hK hG (hd 4 (by decide)) (i := i9) (x := σ.2.2.1 4 k9 i9) (hi) rfl dX0_toleranceNow_11 ?_
    refine r_if_leN (tgt := 24) hx hb dX0_toleranceNow_12 (by decide) (by omega) (fun c_12 => ?_) (fun c_12 => ?_)
    · refine lv_iconst (v := nI 0) hx hb dX0_toleranceNow_24 (by decide) ?_
      exact r_top (by rw [if_pos c_12]) (J_25 _ _ hG hS)
    · refine lv_aload_n hx hb dX0_toleranceNow_15 rfl (lv_at hl 0 rfl) ?_
      refine gt_X0_21 X hK hG (hd 99 (by decide)) dX0_toleranceNow_16 ?_
      refine lv_iload_n hx hb dX0_toleranceNow_19 rfl (lv_at hl 1 rfl) ?_
      refine al_3 X hK hG (hd 3 (by decide)) (i := i9) (x := σ.2.2.1 3 k9 i9) (hi) rfl dX0_toleranceNow_20 ?_
      refine lv_goto (tgt := 25) hx hb dX0_toleranceNow_21 (by decide) ?_
      exact r_top (by rw [if_neg (Nat.pos_iff_ne_zero.mp c_12)]) (J_25 _ _ hG hS)
def k_spd (k9 : Nat) : Nat → St → St
  | 0, σ => σ
  | n + 1, σ => wA (k_spd k9 n σ) 4 k9 n (σ.2.2.1 4 k9 n - 1)
theorem k_spd_N (k9 : Nat) (σ : St) : ∀ n, (k_spd k9 n σ).1 = σ.1
  | 0 => rfl
  | n + 1 => k_spd_N k9 σ n
theorem k_spd_A (k9 : Nat) (σ : St) : ∀ n i, n ≤ i → (k_spd k9 n σ).2.2.1 4 k9 i = σ.2.2.1 4 k9 i
  | 0, _, _ => rfl
  | n + 1, i, h => by
    show (wA (k_spd k9 n σ) 4 k9 n _).2.2.1 4 k9 i = _
    rw [wA_s, up1_n (by omega), k_spd_A k9 σ n i (by omega)]
theorem max_pred {x : Nat} (h : x < 100000) : (if nI 0 < nI x - nI 1 then nI x - nI 1 else nI 0) = nI (x - 1) := by
  by_cases c : x = 0
  · subst c; decide
  · rw [pk_sub (a := x) (b := 1) (by omega)]
    by_cases c2 : x = 1
    · subst c2; decide
    · rw [if_pos (nI_lt (by omega) (by omega))]
set_option maxRecDepth 100000 in
set_option maxHeartbeats 4000000 in
theorem c_X0_spendPaper {D : va_G} {cI cZ cO : ClassId} {dom : Nat → Nat → Prop} (l : Launch) (L : Lay) (σ : St) (ow : Nat → Prop) (k9 : Nat) (hd : ∀ F ∈ ([99, 4] : List Nat), dom F k9) (h5 : σ.1 5 k9 ≤ 6) (hbb : ∀ i, σ.2.2.1 4 k9 i < 100000) : RV D cI cZ cO dom l yX0_spendPaper cX0_spendPaper 2 1 22 [.ref (L 99 k9)] L σ ow (k_spd k9 (σ.1 5 k9) σ) := by
  refine rv_of rfl (Nat.le_of_ble_eq_true rfl) ?_
  intro p e s m below meth c ls X hK hG hr hlocks hl
  have X : CallFix p m c cX0_spendPaper 2 s _ TB RX0 := X
  have hx := X.1
  have hb := X.2.1
  have hS : va_S (AA ow s.heap.size) s.heap s.heap [] := va_S.rf
  have hA : ∀ q, ow q → AA ow s.heap.size q := fun _ h => Or.inl h
  have hl : lv_has ls 2 [(0, .ref (L 99 k9))] := hl
  refine lv_iconst (v := nI 0) hx hb dX0_spendPaper_0 (by decide) ?_
  refine lv_istore_n (lv' := [(1, .int (nI 0)), (0, .ref (L 99 k9))]) hx hb dX0_spendPaper_1 rfl hl (by decide) rfl (fun ls hl => ?_)
  refine r_loop (ι := Nat) (fun (n9 : Nat) => [(0, .ref (L 99 k9)), (1, .int (nI n9))]) (fun (n9 : Nat) => (k_spd k9 n9 σ)) (fun (n9 : Nat) => σ.1 5 k9 - n9) (fun (n9 : Nat) => n9 ≤ σ.1 5 k9) 0 (Nat.zero_le _) hG hS (lv_sub hl [1, 0] rfl) ?_
  rintro n9 hinv ih H locs ls hG hS hl
  have hG : PW D cI cZ cO dom L (k_spd k9 n9 σ) ow H := hG
  have hl : lv_has ls 2 [(0, .ref (L 99 k9)), (1, .int (nI n9))] := hl
  obtain hk := hinv
  refine lv_iload_n hx hb dX0_spendPaper_2 rfl (lv_at hl 1 rfl) ?_
  refine lv_aload_n hx hb dX0_spendPaper_3 rfl (lv_at hl 0 rfl) ?_
  refine gt_X0_27 X hK hG (hd 99 (by decide)) (x := σ.1 5 k9) ((show (k_spd k9 n9 σ).1 5 k9 = _ from by rw [k_spd_N] <;> rfl).trans rfl) dX0_spendPaper_4 ?_
  refine r_icmp_geN (tgt := 34) hx hb dX0_spendPaper_7 (by decide) (by omega) (by omega) (fun c_7 => ?_) (fun c_7 => ?_)
  · exact rv_ret hx hb hr hlocks hG hS (by rw [show n9 = σ.1 5 k9 by omega]) dX0_spendPaper_34
  · refine lv_aload_n hx hb dX0_spendPaper_10 rfl (lv_at hl 0 rfl) ?_
    refine gt_X0_24 X hK hG (hd 99 (by decide)) dX0_spendPaper_11 ?_
    refine lv_iload_n hx hb dX0_spendPaper_14 rfl (lv_at hl 1 rfl) ?_
    refine lv_iconst (v := nI 0) hx hb dX0_spendPaper_15 (by decide) ?_
    refine lv_aload_n hx hb dX0_spendPaper_16 rfl (lv_at hl 0 rfl) ?_
    refine gt_X0_24 X hK hG (hd 99 (by decide)) dX0_spendPaper_17 ?_
    refine lv_iload_n hx hb dX0_spendPaper_20 rfl (lv_at hl 1 rfl) ?_
    refine al_4 X hK hG (hd 4 (by decide)) (i := n9) (x := σ.2.2.1 4 k9 n9) (by omega) (k_spd_A k9 σ n9 n9 (Nat.le_refl _)) dX0_spendPaper_21 ?_
    refine lv_iconst (v := nI 1) hx hb dX0_spendPaper_22 (by decide) ?_
    refine lv_isub hx hb dX0_spendPaper_23 ?_
    refine r_max X hl.1 ml_X0_31 (Nat.le_of_ble_eq_true rfl) (Nat.le_of_ble_eq_true rfl) (Nat.zero_le _) (Nat.zero_le _) dX0_spendPaper_24 ?_
    refine r_top (y := nI (σ.2.2.1 4 k9 n9 - 1)) (max_pred (hbb _)) ?_
    refine as_4 X hK hG hS hA (hd 4 (by decide)) (i := n9) (by omega) dX0_spendPaper_27 (fun H locs hG hS => ?_)
    refine r_iincN (b := 1) (lv' := [(1, .int (nI (n9 + 1))), (0, .ref (L 99 k9))]) hx hb dX0_spendPaper_28 hl (k := 1) rfl (by decide) (by decide) rfl (fun ls hl => ?_)
    refine lv_goto (tgt := 2) hx hb dX0_spendPaper_31 (by decide) ?_
    exact ih (n9 + 1) (by show _ - (n9 + 1) < _ - n9; omega) (by show n9 + 1 ≤ _; omega) H locs ls hG hS (lv_sub hl [1, 0] rfl)
set_option maxRecDepth 100000 in
set_option maxHeartbeats 4000000 in
theorem c_X1_isGood {D : va_G} {cI cZ cO : ClassId} {dom : Nat → Nat → Prop} (l : Launch) (L : Lay) (σ : St) (ow : Nat → Prop) (k9 : Nat) (hd : ∀ F ∈ ([199] : List Nat), dom F k9) (v1 : Int32) : RM D cI cZ cO dom l yX1_isGood cX1_isGood 2 ((some FieldType.boolean)) 0 0 [.ref (L 199 k9), .int v1] L σ ow (b2i (¬ σ.2.1 100 k9 = (-1) ∧ ¬ nI 1000 ≤ v1 - σ.2.1 100 k9)) σ := by
  refine rm_of rfl (Nat.le_of_ble_eq_true rfl) ?_
  intro p e s m below meth c ls X hK hG hr hlocks hl
  have X : CallFix p m c cX1_isGood 2 s _ TB RX1 := X
  have hx := X.1
  have hb := X.2.1
  have hS : va_S (AA ow s.heap.size) s.heap s.heap [] := va_S.rf
  have hA : ∀ q, ow q → AA ow s.heap.size q := fun _ h => Or.inl h
  have hl : lv_has ls 2 [(0, .ref (L 199 k9)), (1, .int v1)] := hl
  refine r_cutH 25 [.int (b2i (¬ σ.2.1 100 k9 = (-1) ∧ ¬ nI 1000 ≤ v1 - σ.2.1 100 k9))] hG hS (fun H locs hG hS => ?_) (fun J_25 => ?_)
  · exact rm_ret hx hb hr hlocks hG hS (rfl) (rfl) b2i_z dX1_isGood_25
  · refine lv_aload_n hx hb dX1_isGood_0 rfl (lv_at hl 0 rfl) ?_
    refine gt_X1_9 X hK hG (hd 199 (by decide)) (x := σ.2.1 100 k9) rfl dX1_isGood_1 ?_
    refine lv_iconst (v := (-1)) hx hb dX1_isGood_4 (by decide) ?_
    refine lv_icmp_eq (tgt := 24) hx hb dX1_isGood_5 (by decide) (fun c_5 => ?_) (fun c_5 => ?_)
    · refine lv_iconst (v := nI 0) hx hb dX1_isGood_24 (by decide) ?_
      exact r_top ((b2i_f (fun h => by have h9 := h.1; first | exact c_5 h9 | exact h9 c_5 | omega)).symm) (J_25 _ _ hG hS)
    · refine lv_iload_n hx hb dX1_isGood_8 rfl (lv_at hl 1 rfl) ?_
      refine lv_aload_n hx hb dX1_isGood_9 rfl (lv_at hl 0 rfl) ?_
      refine gt_X1_9 X hK hG (hd 199 (by decide)) (x := σ.2.1 100 k9) rfl dX1_isGood_10 ?_
      refine lv_isub hx hb dX1_isGood_13 ?_
      refine lv_sipush (v := nI 1000) hx hb dX1_isGood_14 (by decide) ?_
      refine lv_icmp_ge (tgt := 24) hx hb dX1_isGood_17 (by decide) (fun c_17 => ?_) (fun c_17 => ?_)
      · refine lv_iconst (v := nI 0) hx hb dX1_isGood_24 (by decide) ?_
        exact r_top ((b2i_f (fun h => by have h9 := h.2; first | exact c_17 h9 | exact h9 c_17 | omega)).symm) (J_25 _ _ hG hS)
      · refine lv_iconst (v := nI 1) hx hb dX1_isGood_20 (by decide) ?_
        refine lv_goto (tgt := 25) hx hb dX1_isGood_21 (by decide) ?_
        exact r_top ((b2i_t (by refine ⟨?_, ?_⟩ <;> first | assumption | omega)).symm) (J_25 _ _ hG hS)
set_option maxRecDepth 100000 in
set_option maxHeartbeats 4000000 in
theorem c_X1_reads {D : va_G} {cI cZ cO : ClassId} {dom : Nat → Nat → Prop} (l : Launch) (L : Lay) (σ : St) (ow : Nat → Prop) (k9 : Nat) (hd : ∀ F ∈ ([199] : List Nat), dom F k9) (v1 v2 : Int32) : RM D cI cZ cO dom l yX1_reads cX1_reads 3 ((some FieldType.int)) 0 0 [.ref (L 199 k9), .int v1, .int v2] L σ ow (v1 + (v2 - σ.2.1 100 k9) / nI 100) σ := by
  refine rm_of rfl (Nat.le_of_ble_eq_true rfl) ?_
  intro p e s m below meth c ls X hK hG hr hlocks hl
  have X : CallFix p m c cX1_reads 3 s _ TB RX1 := X
  have hx := X.1
  have hb := X.2.1
  have hS : va_S (AA ow s.heap.size) s.heap s.heap [] := va_S.rf
  have hA : ∀ q, ow q → AA ow s.heap.size q := fun _ h => Or.inl h
  have hl : lv_has ls 3 [(0, .ref (L 199 k9)), (1, .int v1), (2, .int v2)] := hl
  refine lv_iload_n hx hb dX1_reads_0 rfl (lv_at hl 1 rfl) ?_
  refine lv_iload_n hx hb dX1_reads_1 rfl (lv_at hl 2 rfl) ?_
  refine lv_aload_n hx hb dX1_reads_2 rfl (lv_at hl 0 rfl) ?_
  refine gt_X1_9 X hK hG (hd 199 (by decide)) (x := σ.2.1 100 k9) rfl dX1_reads_3 ?_
  refine lv_isub hx hb dX1_reads_6 ?_
  refine lv_bipush (v := nI 100) hx hb dX1_reads_7 (by decide) ?_
  refine lv_idiv hx hb dX1_reads_9 (by decide) ?_
  refine lv_iadd hx hb dX1_reads_10 ?_
  exact rm_ret hx hb hr hlocks hG hS (rfl) (rfl) rfl dX1_reads_11
def k_wapp (k9 : Nat) (v1 v2 : Int32) (σ : St) : St := if 6 ≤ (σ.1 306 k9) then σ else (wN (wB (wB σ 304 k9 (σ.1 306 k9) v1) 305 k9 (σ.1 306 k9) v2) 306 k9 ((σ.1 306 k9) + 1))
set_option maxRecDepth 100000 in
set_option maxHeartbeats 4000000 in
theorem c_X3_append {D : va_G} {cI cZ cO : ClassId} {dom : Nat → Nat → Prop} (l : Launch) (L : Lay) (σ : St) (ow : Nat → Prop) (k9 : Nat) (hd : ∀ F ∈ ([399, 304, 305] : List Nat), dom F k9) (v1 v2 : Int32) (h2 : σ.1 306 k9 < 100000) : RV D cI cZ cO dom l yX3_append cX3_append 3 0 0 [.ref (L 399 k9), .int v1, .int v2] L σ ow (k_wapp k9 v1 v2 σ) := by
  refine rv_of rfl (Nat.le_of_ble_eq_true rfl) ?_
  intro p e s m below meth c ls X hK hG hr hlocks hl
  have X : CallFix p m c cX3_append 3 s _ TB RX3 := X
  have hx := X.1
  have hb := X.2.1
  have hS : va_S (AA ow s.heap.size) s.heap s.heap [] := va_S.rf
  have hA : ∀ q, ow q → AA ow s.heap.size q := fun _ h => Or.inl h
  have hl : lv_has ls 3 [(0, .ref (L 399 k9)), (1, .int v1), (2, .int v2)] := hl
  refine lv_aload_n hx hb dX3_append_0 rfl (lv_at hl 0 rfl) ?_
  refine gt_X3_31 X hK hG (hd 399 (by decide)) (x := σ.1 306 k9) rfl dX3_append_1 ?_
  refine lv_bipush (v := nI 6) hx hb dX3_append_4 (by decide) ?_
  refine r_icmp_geN (tgt := 39) hx hb dX3_append_6 (by decide) (by omega) (by decide) (fun c_6 => ?_) (fun c_6 => ?_)
  · exact rv_ret hx hb hr hlocks hG hS (by unfold k_wapp; rw [if_pos c_6] <;> rfl) dX3_append_39
  · refine lv_aload_n hx hb dX3_append_9 rfl (lv_at hl 0 rfl) ?_
    refine gt_X3_9 X hK hG (hd 399 (by decide)) dX3_append_10 ?_
    refine lv_aload_n hx hb dX3_append_13 rfl (lv_at hl 0 rfl) ?_
    refine gt_X3_31 X hK hG (hd 399 (by decide)) (x := σ.1 306 k9) rfl dX3_append_14 ?_
    refine lv_iload_n hx hb dX3_append_17 rfl (lv_at hl 1 rfl) ?_
    refine as_304 X hK hG hS hA (hd 304 (by decide)) (i := σ.1 306 k9) (by omega) dX3_append_18 (fun H locs hG hS => ?_)
    refine lv_aload_n hx hb dX3_append_19 rfl (lv_at hl 0 rfl) ?_
    refine gt_X3_15 X hK hG (hd 399 (by decide)) dX3_append_20 ?_
    refine lv_aload_n hx hb dX3_append_23 rfl (lv_at hl 0 rfl) ?_
    refine gt_X3_31 X hK hG (hd 399 (by decide)) (x := σ.1 306 k9) rfl dX3_append_24 ?_
    refine lv_iload_n hx hb dX3_append_27 rfl (lv_at hl 2 rfl) ?_
    refine as_305 X hK hG hS hA (hd 305 (by decide)) (i := σ.1 306 k9) (by omega) dX3_append_28 (fun H locs hG hS => ?_)
    refine lv_aload_n hx hb dX3_append_29 rfl (lv_at hl 0 rfl) ?_
    refine lv_dup hx hb dX3_append_30 rfl ?_
    refine gt_X3_31 X hK hG (hd 399 (by decide)) (x := σ.1 306 k9) rfl dX3_append_31 ?_
    refine lv_iconst (v := nI 1) hx hb dX3_append_34 (by decide) ?_
    refine r_addN hx hb dX3_append_35 ?_
    refine pt_X3_31 X hK hG hS hA (hd 399 (by decide)) dX3_append_36 (fun H locs hG hS => ?_)
    exact rv_ret hx hb hr hlocks hG hS (by unfold k_wapp; rw [if_neg (Nat.not_le.mpr c_6)] <;> rfl) dX3_append_39
def k_left (k9 : Nat) (v1 : Int32) (σ : St) : Int32 × St := if (σ.2.1 507 k9) = 0 then (nI 0, σ) else (if ¬ (σ.2.1 501 k9) = v1 then (nI 0, σ) else (nI ((σ.1 502 k9) - (σ.1 504 k9)), σ))
set_option maxRecDepth 100000 in
set_option maxHeartbeats 4000000 in
theorem c_X5_leftFor {D : va_G} {cI cZ cO : ClassId} {dom : Nat → Nat → Prop} (l : Launch) (L : Lay) (σ : St) (ow : Nat → Prop) (k9 : Nat) (hd : ∀ F ∈ ([599] : List Nat), dom F k9) (v1 : Int32) (hu : σ.1 504 k9 ≤ σ.1 502 k9) : RM D cI cZ cO dom l yX5_leftFor cX5_leftFor 2 ((some FieldType.int)) 0 0 [.ref (L 599 k9), .int v1] L σ ow ((k_left k9 v1 σ).1) ((k_left k9 v1 σ).2) := by
  refine rm_of rfl (Nat.le_of_ble_eq_true rfl) ?_
  intro p e s m below meth c ls X hK hG hr hlocks hl
  have X : CallFix p m c cX5_leftFor 2 s _ TB RX5 := X
  have hx := X.1
  have hb := X.2.1
  have hS : va_S (AA ow s.heap.size) s.heap s.heap [] := va_S.rf
  have hA : ∀ q, ow q → AA ow s.heap.size q := fun _ h => Or.inl h
  have hl : lv_has ls 2 [(0, .ref (L 599 k9)), (1, .int v1)] := hl
  refine lv_aload_n hx hb dX5_leftFor_0 rfl (lv_at hl 0 rfl) ?_
  refine gt_X5_25 X hK hG (hd 599 (by decide)) (x := σ.2.1 507 k9) rfl dX5_leftFor_1 ?_
  refine lv_if_eq (tgt := 27) hx hb dX5_leftFor_4 (by decide) (fun c_4 => ?_) (fun c_4 => ?_)
  · refine lv_iconst (v := nI 0) hx hb dX5_leftFor_27 (by decide) ?_
    exact rm_ret hx hb hr hlocks hG hS (by unfold k_left; rw [if_pos c_4] <;> rfl) (by unfold k_left; rw [if_pos c_4] <;> rfl) rfl dX5_leftFor_28
  · refine lv_aload_n hx hb dX5_leftFor_7 rfl (lv_at hl 0 rfl) ?_
    refine gt_X5_19 X hK hG (hd 599 (by decide)) (x := σ.2.1 501 k9) rfl dX5_leftFor_8 ?_
    refine lv_iload_n hx hb dX5_leftFor_11 rfl (lv_at hl 1 rfl) ?_
    refine lv_icmp_ne (tgt := 27) hx hb dX5_leftFor_12 (by decide) (fun c_12 => ?_) (fun c_12 => ?_)
    · refine lv_iconst (v := nI 0) hx hb dX5_leftFor_27 (by decide) ?_
      exact rm_ret hx hb hr hlocks hG hS (by unfold k_left; rw [if_neg c_4, if_pos c_12] <;> rfl) (by unfold k_left; rw [if_neg c_4, if_pos c_12] <;> rfl) rfl dX5_leftFor_28
    · refine lv_aload_n hx hb dX5_leftFor_15 rfl (lv_at hl 0 rfl) ?_
      refine gt_X5_22 X hK hG (hd 599 (by decide)) (x := σ.1 502 k9) rfl dX5_leftFor_16 ?_
      refine lv_aload_n hx hb dX5_leftFor_19 rfl (lv_at hl 0 rfl) ?_
      refine gt_X5_29 X hK hG (hd 599 (by decide)) (x := σ.1 504 k9) rfl dX5_leftFor_20 ?_
      refine r_subN hx hb (hu) dX5_leftFor_23 ?_
      refine lv_goto (tgt := 28) hx hb dX5_leftFor_24 (by decide) ?_
      exact rm_ret hx hb hr hlocks hG hS (by unfold k_left; rw [if_neg c_4, if_neg (not_not_intro9 c_12)] <;> rfl) (by unfold k_left; rw [if_neg c_4, if_neg (not_not_intro9 c_12)] <;> rfl) rfl dX5_leftFor_28
def k_hear (k9 : Nat) (v1 : Int32) (σ : St) : St := (wN (wB σ 503 k9 ((σ.1 506 k9) % 3) v1) 506 k9 ((σ.1 506 k9) + 1))
set_option maxRecDepth 100000 in
set_option maxHeartbeats 4000000 in
theorem c_X5_hear {D : va_G} {cI cZ cO : ClassId} {dom : Nat → Nat → Prop} (l : Launch) (L : Lay) (σ : St) (ow : Nat → Prop) (k9 : Nat) (hd : ∀ F ∈ ([599, 503] : List Nat), dom F k9) (v1 : Int32) (h6 : σ.1 506 k9 < 1000000) : RV D cI cZ cO dom l yX5_hear cX5_hear 2 0 0 [.ref (L 599 k9), .int v1] L σ ow (k_hear k9 v1 σ) := by
  refine rv_of rfl (Nat.le_of_ble_eq_true rfl) ?_
  intro p e s m below meth c ls X hK hG hr hlocks hl
  have X : CallFix p m c cX5_hear 2 s _ TB RX5 := X
  have hx := X.1
  have hb := X.2.1
  have hS : va_S (AA ow s.heap.size) s.heap s.heap [] := va_S.rf
  have hA : ∀ q, ow q → AA ow s.heap.size q := fun _ h => Or.inl h
  have hl : lv_has ls 2 [(0, .ref (L 599 k9)), (1, .int v1)] := hl
  refine lv_aload_n hx hb dX5_hear_0 rfl (lv_at hl 0 rfl) ?_
  refine gt_X5_9 X hK hG (hd 599 (by decide)) dX5_hear_1 ?_
  refine lv_aload_n hx hb dX5_hear_4 rfl (lv_at hl 0 rfl) ?_
  refine gt_X5_32 X hK hG (hd 599 (by decide)) (x := σ.1 506 k9) rfl dX5_hear_5 ?_
  refine lv_iconst (v := nI 3) hx hb dX5_hear_8 (by decide) ?_
  refine r_remN hx hb (by omega) (by decide) (by decide) dX5_hear_9 ?_
  refine lv_iload_n hx hb dX5_hear_10 rfl (lv_at hl 1 rfl) ?_
  refine as_503 X hK hG hS hA (hd 503 (by decide)) (i := (σ.1 506 k9) % 3) (Nat.mod_lt _ (by decide)) dX5_hear_11 (fun H locs hG hS => ?_)
  refine lv_aload_n hx hb dX5_hear_12 rfl (lv_at hl 0 rfl) ?_
  refine lv_dup hx hb dX5_hear_13 rfl ?_
  refine gt_X5_32 X hK hG (hd 599 (by decide)) (x := σ.1 506 k9) rfl dX5_hear_14 ?_
  refine lv_iconst (v := nI 1) hx hb dX5_hear_17 (by decide) ?_
  refine r_addN hx hb dX5_hear_18 ?_
  refine pt_X5_32 X hK hG hS hA (hd 599 (by decide)) dX5_hear_19 (fun H locs hG hS => ?_)
  exact rv_ret hx hb hr hlocks hG hS (rfl) dX5_hear_22
def cPos (f : Nat → Int32) : Nat → Nat
  | 0 => 0
  | n + 1 => cPos f n + (if f n ≤ 0 then 0 else 1)
def cNeg (f : Nat → Int32) : Nat → Nat
  | 0 => 0
  | n + 1 => cNeg f n + (if 0 ≤ f n then 0 else 1)
def cSum (f : Nat → Int32) : Nat → Int32
  | 0 => nI 0
  | n + 1 => cSum f n + f n
set_option maxRecDepth 100000 in
set_option maxHeartbeats 4000000 in
theorem c_X5_isOneWay {D : va_G} {cI cZ cO : ClassId} {dom : Nat → Nat → Prop} (l : Launch) (L : Lay) (σ : St) (ow : Nat → Prop) (k9 : Nat) (hd : ∀ F ∈ ([599, 503] : List Nat), dom F k9) : RM D cI cZ cO dom l yX5_isOneWay cX5_isOneWay 4 ((some FieldType.boolean)) 0 0 [.ref (L 599 k9)] L σ ow (b2i (cPos (σ.2.2.2 503 k9) 3 = 3 ∨ cNeg (σ.2.2.2 503 k9) 3 = 3)) σ := by
  refine rm_of rfl (Nat.le_of_ble_eq_true rfl) ?_
  intro p e s m below meth c ls X hK hG hr hlocks hl
  have X : CallFix p m c cX5_isOneWay 4 s _ TB RX5 := X
  have hx := X.1
  have hb := X.2.1
  have hS : va_S (AA ow s.heap.size) s.heap s.heap [] := va_S.rf
  have hA : ∀ q, ow q → AA ow s.heap.size q := fun _ h => Or.inl h
  have hl : lv_has ls 4 [(0, .ref (L 599 k9))] := hl
  refine lv_iconst (v := nI 0) hx hb dX5_isOneWay_0 (by decide) ?_
  refine lv_istore_n (lv' := [(1, .int (nI 0)), (0, .ref (L 599 k9))]) hx hb dX5_isOneWay_1 rfl hl (by decide) rfl (fun ls hl => ?_)
  refine lv_iconst (v := nI 0) hx hb dX5_isOneWay_2 (by decide) ?_
  refine lv_istore_n (lv' := [(2, .int (nI 0)), (1, .int (nI 0)), (0, .ref (L 599 k9))]) hx hb dX5_isOneWay_3 rfl hl (by decide) rfl (fun ls hl => ?_)
  refine lv_iconst (v := nI 0) hx hb dX5_isOneWay_4 (by decide) ?_
  refine lv_istore_n (lv' := [(3, .int (nI 0)), (2, .int (nI 0)), (1, .int (nI 0)), (0, .ref (L 599 k9))]) hx hb dX5_isOneWay_5 rfl hl (by decide) rfl (fun ls hl => ?_)
  refine r_loop (ι := Nat × Nat × Nat) (fun (⟨a9, b9, n9⟩ : Nat × Nat × Nat) => [(0, .ref (L 599 k9)), (1, .int (nI a9)), (2, .int (nI b9)), (3, .int (nI n9))]) (fun (⟨a9, b9, n9⟩ : Nat × Nat × Nat) => σ) (fun (⟨a9, b9, n9⟩ : Nat × Nat × Nat) => 3 - n9) (fun (⟨a9, b9, n9⟩ : Nat × Nat × Nat) => a9 = cPos (σ.2.2.2 503 k9) n9 ∧ b9 = cNeg (σ.2.2.2 503 k9) n9 ∧ n9 ≤ 3 ∧ a9 ≤ n9 ∧ b9 ≤ n9) (0, 0, 0) (⟨rfl, rfl, by omega, by omega, by omega⟩) hG hS (lv_sub hl [3, 2, 1, 0] rfl) ?_
  rintro ⟨a9, b9, n9⟩ hinv ih H locs ls hG hS hl
  have hG : PW D cI cZ cO dom L σ ow H := hG
  have hl : lv_has ls 4 [(0, .ref (L 599 k9)), (1, .int (nI a9)), (2, .int (nI b9)), (3, .int (nI n9))] := hl
  obtain ⟨hp, hq, hk, h1, h2⟩ := hinv
  refine lv_iload_n hx hb dX5_isOneWay_6 rfl (lv_at hl 3 rfl) ?_
  refine lv_iconst (v := nI 3) hx hb dX5_isOneWay_7 (by decide) ?_
  refine r_icmp_geN (tgt := 51) hx hb dX5_isOneWay_8 (by decide) (by omega) (by decide) (fun c_8 => ?_) (fun c_8 => ?_)
  · obtain rfl : n9 = 3 := by omega
    refine lv_iload_n hx hb dX5_isOneWay_51 rfl (lv_at hl 1 rfl) ?_
    refine lv_iconst (v := nI 3) hx hb dX5_isOneWay_52 (by decide) ?_
    refine r_icmp_eqN (tgt := 61) hx hb dX5_isOneWay_53 (by decide) (by omega) (by decide) (fun c_53 => ?_) (fun c_53 => ?_)
    · refine lv_iconst (v := nI 1) hx hb dX5_isOneWay_61 (by decide) ?_
      refine lv_goto (tgt := 66) hx hb dX5_isOneWay_62 (by decide) ?_
      exact rm_ret hx hb hr hlocks hG hS ((b2i_t (by first | exact Or.inl (hp.symm.trans c_53) | exact Or.inr (hq.symm.trans c_58))).symm) (rfl) rfl dX5_isOneWay_66
    · refine lv_iload_n hx hb dX5_isOneWay_56 rfl (lv_at hl 2 rfl) ?_
      refine lv_iconst (v := nI 3) hx hb dX5_isOneWay_57 (by decide) ?_
      refine r_icmp_neN (tgt := 65) hx hb dX5_isOneWay_58 (by decide) (by omega) (by decide) (fun c_58 => ?_) (fun c_58 => ?_)
      · refine lv_iconst (v := nI 0) hx hb dX5_isOneWay_65 (by decide) ?_
        exact rm_ret hx hb hr hlocks hG hS ((b2i_f (fun h => h.elim (fun h => c_53 (hp.trans h)) (fun h => c_58 (hq.trans h)))).symm) (rfl) rfl dX5_isOneWay_66
      · refine lv_iconst (v := nI 1) hx hb dX5_isOneWay_61 (by decide) ?_
        refine lv_goto (tgt := 66) hx hb dX5_isOneWay_62 (by decide) ?_
        exact rm_ret hx hb hr hlocks hG hS ((b2i_t (by first | exact Or.inl (hp.symm.trans c_53) | exact Or.inr (hq.symm.trans c_58))).symm) (rfl) rfl dX5_isOneWay_66
  · refine lv_iload_n hx hb dX5_isOneWay_11 rfl (lv_at hl 1 rfl) ?_
    refine r_cutH 26 [.int (nI (if σ.2.2.2 503 k9 n9 ≤ 0 then 0 else 1)), .int (nI a9)] hG hS (fun H locs hG hS => ?_) (fun J_26 => ?_)
    · refine r_addN hx hb dX5_isOneWay_26 ?_
      refine lv_istore_n (lv' := [(1, .int (nI (a9 + (if σ.2.2.2 503 k9 n9 ≤ 0 then 0 else 1)))), (0, .ref (L 599 k9)), (2, .int (nI b9)), (3, .int (nI n9))]) hx hb dX5_isOneWay_27 rfl hl (by decide) rfl (fun ls hl => ?_)
      refine lv_iload_n hx hb dX5_isOneWay_28 rfl (lv_at hl 2 rfl) ?_
      refine r_cutH 43 [.int (nI (if 0 ≤ σ.2.2.2 503 k9 n9 then 0 else 1)), .int (nI b9)] hG hS (fun H locs hG hS => ?_) (fun J_43 => ?_)
      · refine r_addN hx hb dX5_isOneWay_43 ?_
        refine lv_istore_n (lv' := [(2, .int (nI (b9 + (if 0 ≤ σ.2.2.2 503 k9 n9 then 0 else 1)))), (1, .int (nI (a9 + (if σ.2.2.2 503 k9 n9 ≤ 0 then 0 else 1)))), (0, .ref (L 599 k9)), (3, .int (nI n9))]) hx hb dX5_isOneWay_44 rfl hl (by decide) rfl (fun ls hl => ?_)
        refine r_iincN (b := 1) (lv' := [(3, .int (nI (n9 + 1))), (2, .int (nI (b9 + (if 0 ≤ σ.2.2.2 503 k9 n9 then 0 else 1)))), (1, .int (nI (a9 + (if σ.2.2.2 503 k9 n9 ≤ 0 then 0 else 1)))), (0, .ref (L 599 k9))]) hx hb dX5_isOneWay_45 hl (k := 3) rfl (by decide) (by decide) rfl (fun ls hl => ?_)
        refine lv_goto (tgt := 6) hx hb dX5_isOneWay_48 (by decide) ?_
        exact ih (a9 + (if σ.2.2.2 503 k9 n9 ≤ 0 then 0 else 1), b9 + (if 0 ≤ σ.2.2.2 503 k9 n9 then 0 else 1), n9 + 1) (by show 3 - (n9 + 1) < 3 - n9; omega) (⟨by rw [hp]; rfl, by rw [hq]; rfl, by omega, by split <;> omega, by split <;> omega⟩) H locs ls hG hS (lv_sub hl [3, 2, 1, 0] rfl)
      · refine lv_aload_n hx hb dX5_isOneWay_29 rfl (lv_at hl 1 rfl) ?_
        refine gt_X5_9 X hK hG (hd 599 (by decide)) dX5_isOneWay_30 ?_
        refine lv_iload_n hx hb dX5_isOneWay_33 rfl (lv_at hl 3 rfl) ?_
        refine al_503 X hK hG (hd 503 (by decide)) (i := n9) (x := σ.2.2.2 503 k9 n9) (by omega) rfl dX5_isOneWay_34 ?_
        refine lv_if_ge (tgt := 42) hx hb dX5_isOneWay_35 (by decide) (fun c_35 => ?_) (fun c_35 => ?_)
        · refine lv_iconst (v := nI 0) hx hb dX5_isOneWay_42 (by decide) ?_
          exact r_top (by rw [if_pos c_35]) (J_43 _ _ hG hS)
        · refine lv_iconst (v := nI 1) hx hb dX5_isOneWay_38 (by decide) ?_
          refine lv_goto (tgt := 43) hx hb dX5_isOneWay_39 (by decide) ?_
          exact r_top (by rw [if_neg c_35]) (J_43 _ _ hG hS)
    · refine lv_aload_n hx hb dX5_isOneWay_12 rfl (lv_at hl 0 rfl) ?_
      refine gt_X5_9 X hK hG (hd 599 (by decide)) dX5_isOneWay_13 ?_
      refine lv_iload_n hx hb dX5_isOneWay_16 rfl (lv_at hl 3 rfl) ?_
      refine al_503 X hK hG (hd 503 (by decide)) (i := n9) (x := σ.2.2.2 503 k9 n9) (by omega) rfl dX5_isOneWay_17 ?_
      refine lv_if_le (tgt := 25) hx hb dX5_isOneWay_18 (by decide) (fun c_18 => ?_) (fun c_18 => ?_)
      · refine lv_iconst (v := nI 0) hx hb dX5_isOneWay_25 (by decide) ?_
        exact r_top (by rw [if_pos c_18]) (J_26 _ _ hG hS)
      · refine lv_iconst (v := nI 1) hx hb dX5_isOneWay_21 (by decide) ?_
        refine lv_goto (tgt := 26) hx hb dX5_isOneWay_22 (by decide) ?_
        exact r_top (by rw [if_neg c_18]) (J_26 _ _ hG hS)
def aB (x : Int32) : Int32 := if 0 ≤ x then x else 0 - x
def k_vd (k9 : Nat) (σ : St) : Nat → Nat → Int32 → Int32
  | 0, _, w => w
  | f + 1, i, w => if ¬ (if 0 ≤ σ.2.2.2 304 k9 i then σ.2.2.2 304 k9 i else 0 - σ.2.2.2 304 k9 i) ≤ σ.2.2.2 305 k9 i + σ.2.1 303 k9 then nI 2 else k_vd k9 σ f (i + 1) (if (if 0 ≤ σ.2.2.2 304 k9 i then σ.2.2.2 304 k9 i else 0 - σ.2.2.2 304 k9 i) ≤ σ.2.2.2 305 k9 i - σ.2.1 303 k9 then w else nI 1)
theorem k_vd_y {k9 : Nat} {σ : St} {f i : Nat} {w : Int32} (h : (if 0 ≤ σ.2.2.2 304 k9 i then σ.2.2.2 304 k9 i else 0 - σ.2.2.2 304 k9 i) ≤ σ.2.2.2 305 k9 i + σ.2.1 303 k9) : k_vd k9 σ (f + 1) i w = k_vd k9 σ f (i + 1) (if (if 0 ≤ σ.2.2.2 304 k9 i then σ.2.2.2 304 k9 i else 0 - σ.2.2.2 304 k9 i) ≤ σ.2.2.2 305 k9 i - σ.2.1 303 k9 then w else nI 1) := if_neg (fun z => z h)
theorem k_vd_n {k9 : Nat} {σ : St} {f i : Nat} {w : Int32} (h : ¬ (if 0 ≤ σ.2.2.2 304 k9 i then σ.2.2.2 304 k9 i else 0 - σ.2.2.2 304 k9 i) ≤ σ.2.2.2 305 k9 i + σ.2.1 303 k9) : k_vd k9 σ (f + 1) i w = nI 2 := if_pos h
set_option maxRecDepth 100000 in
set_option maxHeartbeats 4000000 in
theorem c_X3_verdict {D : va_G} {cI cZ cO : ClassId} {dom : Nat → Nat → Prop} (l : Launch) (L : Lay) (σ : St) (ow : Nat → Prop) (k9 : Nat) (hd : ∀ F ∈ ([399, 304, 305] : List Nat), dom F k9) (h6 : σ.1 306 k9 ≤ 6) : RM D cI cZ cO dom l yX3_verdict cX3_verdict 4 ((some FieldType.int)) 1 22 [.ref (L 399 k9)] L σ ow (k_vd k9 σ (σ.1 306 k9) 0 (nI 0)) σ := by
  refine rm_of rfl (Nat.le_of_ble_eq_true rfl) ?_
  intro p e s m below meth c ls X hK hG hr hlocks hl
  have X : CallFix p m c cX3_verdict 4 s _ TB RX3 := X
  have hx := X.1
  have hb := X.2.1
  have hS : va_S (AA ow s.heap.size) s.heap s.heap [] := va_S.rf
  have hA : ∀ q, ow q → AA ow s.heap.size q := fun _ h => Or.inl h
  have hl : lv_has ls 4 [(0, .ref (L 399 k9))] := hl
  refine lv_iconst (v := nI 0) hx hb dX3_verdict_0 (by decide) ?_
  refine lv_istore_n (lv' := [(1, .int (nI 0)), (0, .ref (L 399 k9))]) hx hb dX3_verdict_1 rfl hl (by decide) rfl (fun ls hl => ?_)
  refine lv_iconst (v := nI 0) hx hb dX3_verdict_2 (by decide) ?_
  refine lv_istore_n (lv' := [(2, .int (nI 0)), (1, .int (nI 0)), (0, .ref (L 399 k9))]) hx hb dX3_verdict_3 rfl hl (by decide) rfl (fun ls hl => ?_)
  refine r_loop (ι := Int32 × Nat) (fun (⟨w9, n9⟩ : Int32 × Nat) => [(0, .ref (L 399 k9)), (1, .int w9), (2, .int (nI n9))]) (fun (⟨w9, n9⟩ : Int32 × Nat) => σ) (fun (⟨w9, n9⟩ : Int32 × Nat) => σ.1 306 k9 - n9) (fun (⟨w9, n9⟩ : Int32 × Nat) => k_vd k9 σ (σ.1 306 k9) 0 (nI 0) = k_vd k9 σ (σ.1 306 k9 - n9) n9 w9 ∧ n9 ≤ σ.1 306 k9) (nI 0, 0) (⟨rfl, Nat.zero_le _⟩) hG hS (lv_sub hl [2, 1, 0] rfl) ?_
  rintro ⟨w9, n9⟩ hinv ih H locs ls hG hS hl
  have hG : PW D cI cZ cO dom L σ ow H := hG
  have hl : lv_has ls 4 [(0, .ref (L 399 k9)), (1, .int w9), (2, .int (nI n9))] := hl
  obtain ⟨hv, hk⟩ := hinv
  refine lv_iload_n hx hb dX3_verdict_4 rfl (lv_at hl 2 rfl) ?_
  refine lv_aload_n hx hb dX3_verdict_5 rfl (lv_at hl 0 rfl) ?_
  refine gt_X3_31 X hK hG (hd 399 (by decide)) (x := σ.1 306 k9) rfl dX3_verdict_6 ?_
  refine r_icmp_geN (tgt := 62) hx hb dX3_verdict_9 (by decide) (by omega) (by omega) (fun c_9 => ?_) (fun c_9 => ?_)
  · refine lv_iload_n hx hb dX3_verdict_62 rfl (lv_at hl 1 rfl) ?_
    exact rm_ret hx hb hr hlocks hG hS (by rw [hv, show σ.1 306 k9 - n9 = 0 by omega]; rfl) (rfl) rfl dX3_verdict_63
  · refine lv_aload_n hx hb dX3_verdict_12 rfl (lv_at hl 0 rfl) ?_
    refine gt_X3_9 X hK hG (hd 399 (by decide)) dX3_verdict_13 ?_
    refine lv_iload_n hx hb dX3_verdict_16 rfl (lv_at hl 2 rfl) ?_
    refine al_304 X hK hG (hd 304 (by decide)) (i := n9) (x := σ.2.2.2 304 k9 n9) (by omega) rfl dX3_verdict_17 ?_
    refine r_abs X hl.1 ml_X3_34 (Nat.le_of_ble_eq_true rfl) (Nat.le_of_ble_eq_true rfl) (Nat.zero_le _) (Nat.zero_le _) dX3_verdict_18 ?_
    refine lv_istore_n (lv' := [(3, .int (if 0 ≤ σ.2.2.2 304 k9 n9 then σ.2.2.2 304 k9 n9 else 0 - (σ.2.2.2 304 k9 n9))), (0, .ref (L 399 k9)), (1, .int w9), (2, .int (nI n9))]) hx hb dX3_verdict_21 rfl hl (by decide) rfl (fun ls hl => ?_)
    refine lv_iload_n hx hb dX3_verdict_22 rfl (lv_at hl 0 rfl) ?_
    refine lv_aload_n hx hb dX3_verdict_23 rfl (lv_at hl 1 rfl) ?_
    refine gt_X3_15 X hK hG (hd 399 (by decide)) dX3_verdict_24 ?_
    refine lv_iload_n hx hb dX3_verdict_27 rfl (lv_at hl 3 rfl) ?_
    refine al_305 X hK hG (hd 305 (by decide)) (i := n9) (x := σ.2.2.2 305 k9 n9) (by omega) rfl dX3_verdict_28 ?_
    refine lv_aload_n hx hb dX3_verdict_29 rfl (lv_at hl 1 rfl) ?_
    refine gt_X3_28 X hK hG (hd 399 (by decide)) (x := σ.2.1 303 k9) rfl dX3_verdict_30 ?_
    refine lv_iadd hx hb dX3_verdict_33 ?_
    refine lv_icmp_le (tgt := 39) hx hb dX3_verdict_34 (by decide) (fun c_34 => ?_) (fun c_34 => ?_)
    · refine lv_iload_n hx hb dX3_verdict_39 rfl (lv_at hl 0 rfl) ?_
      refine lv_aload_n hx hb dX3_verdict_40 rfl (lv_at hl 1 rfl) ?_
      refine gt_X3_15 X hK hG (hd 399 (by decide)) dX3_verdict_41 ?_
      refine lv_iload_n hx hb dX3_verdict_44 rfl (lv_at hl 3 rfl) ?_
      refine al_305 X hK hG (hd 305 (by decide)) (i := n9) (x := σ.2.2.2 305 k9 n9) (by omega) rfl dX3_verdict_45 ?_
      refine lv_aload_n hx hb dX3_verdict_46 rfl (lv_at hl 1 rfl) ?_
      refine gt_X3_28 X hK hG (hd 399 (by decide)) (x := σ.2.1 303 k9) rfl dX3_verdict_47 ?_
      refine lv_isub hx hb dX3_verdict_50 ?_
      refine lv_icmp_le (tgt := 56) hx hb dX3_verdict_51 (by decide) (fun c_51 => ?_) (fun c_51 => ?_)
      · refine r_iincN (b := 1) (lv' := [(2, .int (nI (n9 + 1))), (3, .int (if 0 ≤ σ.2.2.2 304 k9 n9 then σ.2.2.2 304 k9 n9 else 0 - (σ.2.2.2 304 k9 n9))), (0, .ref (L 399 k9)), (1, .int w9)]) hx hb dX3_verdict_56 hl (k := 3) rfl (by decide) (by decide) rfl (fun ls hl => ?_)
        refine lv_goto (tgt := 4) hx hb dX3_verdict_59 (by decide) ?_
        exact ih (w9, n9 + 1) (by show _ - (n9 + 1) < _ - n9; omega) (⟨hv.trans (by rw [show σ.1 306 k9 - n9 = (σ.1 306 k9 - (n9 + 1)) + 1 by omega]; exact (k_vd_y c_34).trans (by rw [if_pos c_51])), by omega⟩) H locs ls hG hS (lv_sub hl [2, 3, 0] rfl)
      · refine lv_iconst (v := nI 1) hx hb dX3_verdict_54 (by decide) ?_
        refine lv_istore_n (lv' := [(1, .int (nI 1)), (3, .int (if 0 ≤ σ.2.2.2 304 k9 n9 then σ.2.2.2 304 k9 n9 else 0 - (σ.2.2.2 304 k9 n9))), (0, .ref (L 399 k9)), (2, .int (nI n9))]) hx hb dX3_verdict_55 rfl hl (by decide) rfl (fun ls hl => ?_)
        refine r_iincN (b := 1) (lv' := [(2, .int (nI (n9 + 1))), (1, .int (nI 1)), (3, .int (if 0 ≤ σ.2.2.2 304 k9 n9 then σ.2.2.2 304 k9 n9 else 0 - (σ.2.2.2 304 k9 n9))), (0, .ref (L 399 k9))]) hx hb dX3_verdict_56 hl (k := 3) rfl (by decide) (by decide) rfl (fun ls hl => ?_)
        refine lv_goto (tgt := 4) hx hb dX3_verdict_59 (by decide) ?_
        exact ih (nI 1, n9 + 1) (by show _ - (n9 + 1) < _ - n9; omega) (⟨hv.trans (by rw [show σ.1 306 k9 - n9 = (σ.1 306 k9 - (n9 + 1)) + 1 by omega]; exact (k_vd_y c_34).trans (by rw [if_neg c_51])), by omega⟩) H locs ls hG hS (lv_sub hl [3, 1, 0] rfl)
    · refine lv_iconst (v := nI 2) hx hb dX3_verdict_37 (by decide) ?_
      exact rm_ret hx hb hr hlocks hG hS (by rw [hv, show σ.1 306 k9 - n9 = (σ.1 306 k9 - (n9 + 1)) + 1 by omega]; exact (k_vd_n c_34).symm) (rfl) rfl dX3_verdict_38
def k_corr (k9 : Nat) (σ : St) : Int32 × St := if (σ.1 506 k9) < 3 then (nI 0, σ) else (if cPos (σ.2.2.2 503 k9) 3 = 3 ∨ cNeg (σ.2.2.2 503 k9) 3 = 3 then (((if (-200) < (if ((σ.2.1 505 k9) + (((cSum (σ.2.2.2 503 k9) 3) / (nI 3)) / (nI 2))) < nI 200 then ((σ.2.1 505 k9) + (((cSum (σ.2.2.2 503 k9) 3) / (nI 3)) / (nI 2))) else nI 200) then (if ((σ.2.1 505 k9) + (((cSum (σ.2.2.2 503 k9) 3) / (nI 3)) / (nI 2))) < nI 200 then ((σ.2.1 505 k9) + (((cSum (σ.2.2.2 503 k9) 3) / (nI 3)) / (nI 2))) else nI 200) else (-200)) - (σ.2.1 505 k9)), (wN (wI σ 505 k9 (if (-200) < (if ((σ.2.1 505 k9) + (((cSum (σ.2.2.2 503 k9) 3) / (nI 3)) / (nI 2))) < nI 200 then ((σ.2.1 505 k9) + (((cSum (σ.2.2.2 503 k9) 3) / (nI 3)) / (nI 2))) else nI 200) then (if ((σ.2.1 505 k9) + (((cSum (σ.2.2.2 503 k9) 3) / (nI 3)) / (nI 2))) < nI 200 then ((σ.2.1 505 k9) + (((cSum (σ.2.2.2 503 k9) 3) / (nI 3)) / (nI 2))) else nI 200) else (-200))) 506 k9 0)) else (nI 0, σ))
set_option maxRecDepth 100000 in
set_option maxHeartbeats 4000000 in
theorem c_X5_correctOffset {D : va_G} {cI cZ cO : ClassId} {dom : Nat → Nat → Prop} (l : Launch) (L : Lay) (σ : St) (ow : Nat → Prop) (k9 : Nat) (hd : ∀ F ∈ ([599, 503] : List Nat), dom F k9) (h6 : σ.1 506 k9 < 1000000) : RM D cI cZ cO dom l yX5_correctOffset cX5_correctOffset 3 ((some FieldType.int)) 1 23 [.ref (L 599 k9)] L σ ow ((k_corr k9 σ).1) ((k_corr k9 σ).2) := by
  refine rm_of rfl (Nat.le_of_ble_eq_true rfl) ?_
  intro p e s m below meth c ls X hK hG hr hlocks hl
  have X : CallFix p m c cX5_correctOffset 3 s _ TB RX5 := X
  have hx := X.1
  have hb := X.2.1
  have hS : va_S (AA ow s.heap.size) s.heap s.heap [] := va_S.rf
  have hA : ∀ q, ow q → AA ow s.heap.size q := fun _ h => Or.inl h
  have hl : lv_has ls 3 [(0, .ref (L 599 k9))] := hl
  refine lv_aload_n hx hb dX5_correctOffset_0 rfl (lv_at hl 0 rfl) ?_
  refine gt_X5_32 X hK hG (hd 599 (by decide)) (x := σ.1 506 k9) rfl dX5_correctOffset_1 ?_
  refine lv_iconst (v := nI 3) hx hb dX5_correctOffset_4 (by decide) ?_
  refine r_icmp_ltN (tgt := 15) hx hb dX5_correctOffset_5 (by decide) (by omega) (by decide) (fun c_5 => ?_) (fun c_5 => ?_)
  · refine lv_iconst (v := nI 0) hx hb dX5_correctOffset_15 (by decide) ?_
    exact rm_ret hx hb hr hlocks hG hS (by unfold k_corr; rw [if_pos c_5] <;> rfl) (by unfold k_corr; rw [if_pos c_5] <;> rfl) rfl dX5_correctOffset_16
  · refine lv_aload_n hx hb dX5_correctOffset_8 rfl (lv_at hl 0 rfl) ?_
    refine rm_callV X hK hG hS yvX5_isOneWay ml_X5_35 kX5 rfl (hd 599 (by decide)) [] [] (c_X5_isOneWay l L σ ow k9 hd) rfl hl.1 rfl (Nat.le_of_ble_eq_true rfl) ⟨Nat.le_of_ble_eq_true rfl, Nat.le_of_ble_eq_true rfl⟩ ⟨Nat.zero_le _, Nat.zero_le _⟩ dX5_correctOffset_9 (fun H locs hG hS => ?_)
    refine r_if_neB (tgt := 17) hx hb dX5_correctOffset_12 (by decide) (fun c_12 => ?_) (fun c_12 => ?_)
    · refine lv_iconst (v := nI 0) hx hb dX5_correctOffset_17 (by decide) ?_
      refine lv_istore_n (lv' := [(1, .int (nI 0)), (0, .ref (L 599 k9))]) hx hb dX5_correctOffset_18 rfl hl (by decide) rfl (fun ls hl => ?_)
      refine lv_iconst (v := nI 0) hx hb dX5_correctOffset_19 (by decide) ?_
      refine lv_istore_n (lv' := [(2, .int (nI 0)), (1, .int (nI 0)), (0, .ref (L 599 k9))]) hx hb dX5_correctOffset_20 rfl hl (by decide) rfl (fun ls hl => ?_)
      refine r_loop (ι := Int32 × Nat) (fun (⟨s9, n9⟩ : Int32 × Nat) => [(0, .ref (L 599 k9)), (1, .int s9), (2, .int (nI n9))]) (fun (⟨s9, n9⟩ : Int32 × Nat) => σ) (fun (⟨s9, n9⟩ : Int32 × Nat) => 3 - n9) (fun (⟨s9, n9⟩ : Int32 × Nat) => s9 = cSum (σ.2.2.2 503 k9) n9 ∧ n9 ≤ 3) (nI 0, 0) (⟨rfl, by omega⟩) hG hS (lv_sub hl [2, 1, 0] rfl) ?_
      rintro ⟨s9, n9⟩ hinv ih H locs ls hG hS hl
      have hG : PW D cI cZ cO dom L σ ow H := hG
      have hl : lv_has ls 3 [(0, .ref (L 599 k9)), (1, .int s9), (2, .int (nI n9))] := hl
      obtain ⟨hs, hk⟩ := hinv
      refine lv_iload_n hx hb dX5_correctOffset_21 rfl (lv_at hl 2 rfl) ?_
      refine lv_iconst (v := nI 3) hx hb dX5_correctOffset_22 (by decide) ?_
      refine r_icmp_geN (tgt := 41) hx hb dX5_correctOffset_23 (by decide) (by omega) (by decide) (fun c_23 => ?_) (fun c_23 => ?_)
      · obtain rfl : n9 = 3 := by omega
        subst hs
        refine lv_aload_n hx hb dX5_correctOffset_41 rfl (lv_at hl 0 rfl) ?_
        refine gt_X5_39 X hK hG (hd 599 (by decide)) (x := σ.2.1 505 k9) rfl dX5_correctOffset_42 ?_
        refine lv_istore_n (lv' := [(2, .int (σ.2.1 505 k9)), (0, .ref (L 599 k9)), (1, .int (cSum (σ.2.2.2 503 k9) 3))]) hx hb dX5_correctOffset_45 rfl hl (by decide) rfl (fun ls hl => ?_)
        refine lv_aload_n hx hb dX5_correctOffset_46 rfl (lv_at hl 1 rfl) ?_
        refine lv_sipush (v := (-200)) hx hb dX5_correctOffset_47 (by decide) ?_
        refine lv_sipush (v := nI 200) hx hb dX5_correctOffset_50 (by decide) ?_
        refine lv_iload_n hx hb dX5_correctOffset_53 rfl (lv_at hl 0 rfl) ?_
        refine lv_iload_n hx hb dX5_correctOffset_54 rfl (lv_at hl 2 rfl) ?_
        refine lv_iconst (v := nI 3) hx hb dX5_correctOffset_55 (by decide) ?_
        refine lv_idiv hx hb dX5_correctOffset_56 (by decide) ?_
        refine lv_iconst (v := nI 2) hx hb dX5_correctOffset_57 (by decide) ?_
        refine lv_idiv hx hb dX5_correctOffset_58 (by decide) ?_
        refine lv_iadd hx hb dX5_correctOffset_59 ?_
        refine r_min X hl.1 ml_X5_42 (Nat.le_of_ble_eq_true rfl) (Nat.le_of_ble_eq_true rfl) (Nat.zero_le _) (Nat.zero_le _) dX5_correctOffset_60 ?_
        refine r_max X hl.1 ml_X5_48 (Nat.le_of_ble_eq_true rfl) (Nat.le_of_ble_eq_true rfl) (Nat.zero_le _) (Nat.zero_le _) dX5_correctOffset_63 ?_
        refine pt_X5_39 X hK hG hS hA (hd 599 (by decide)) dX5_correctOffset_66 (fun H locs hG hS => ?_)
        refine lv_aload_n hx hb dX5_correctOffset_69 rfl (lv_at hl 1 rfl) ?_
        refine lv_iconst (v := nI 0) hx hb dX5_correctOffset_70 (by decide) ?_
        refine pt_X5_32 X hK hG hS hA (hd 599 (by decide)) dX5_correctOffset_71 (fun H locs hG hS => ?_)
        refine lv_aload_n hx hb dX5_correctOffset_74 rfl (lv_at hl 1 rfl) ?_
        refine gt_X5_39 X hK hG (hd 599 (by decide)) (x := (if (-200) < (if ((σ.2.1 505 k9) + (((cSum (σ.2.2.2 503 k9) 3) / (nI 3)) / (nI 2))) < nI 200 then ((σ.2.1 505 k9) + (((cSum (σ.2.2.2 503 k9) 3) / (nI 3)) / (nI 2))) else nI 200) then (if ((σ.2.1 505 k9) + (((cSum (σ.2.2.2 503 k9) 3) / (nI 3)) / (nI 2))) < nI 200 then ((σ.2.1 505 k9) + (((cSum (σ.2.2.2 503 k9) 3) / (nI 3)) / (nI 2))) else nI 200) else (-200))) (by simp [wN, wI, wA, wB, up2, up1]) dX5_correctOffset_75 ?_
        refine lv_iload_n hx hb dX5_correctOffset_78 rfl (lv_at hl 0 rfl) ?_
        refine lv_isub hx hb dX5_correctOffset_79 ?_
        exact rm_ret hx hb hr hlocks hG hS (by unfold k_corr; rw [if_neg (Nat.not_lt.mpr c_5), if_pos c_12] <;> rfl) (by unfold k_corr; rw [if_neg (Nat.not_lt.mpr c_5), if_pos c_12] <;> rfl) rfl dX5_correctOffset_80
      · refine lv_iload_n hx hb dX5_correctOffset_26 rfl (lv_at hl 1 rfl) ?_
        refine lv_aload_n hx hb dX5_correctOffset_27 rfl (lv_at hl 0 rfl) ?_
        refine gt_X5_9 X hK hG (hd 599 (by decide)) dX5_correctOffset_28 ?_
        refine lv_iload_n hx hb dX5_correctOffset_31 rfl (lv_at hl 2 rfl) ?_
        refine al_503 X hK hG (hd 503 (by decide)) (i := n9) (x := σ.2.2.2 503 k9 n9) (by omega) rfl dX5_correctOffset_32 ?_
        refine lv_iadd hx hb dX5_correctOffset_33 ?_
        refine lv_istore_n (lv' := [(1, .int (s9 + (σ.2.2.2 503 k9 n9))), (0, .ref (L 599 k9)), (2, .int (nI n9))]) hx hb dX5_correctOffset_34 rfl hl (by decide) rfl (fun ls hl => ?_)
        refine r_iincN (b := 1) (lv' := [(2, .int (nI (n9 + 1))), (1, .int (s9 + (σ.2.2.2 503 k9 n9))), (0, .ref (L 599 k9))]) hx hb dX5_correctOffset_35 hl (k := 2) rfl (by decide) (by decide) rfl (fun ls hl => ?_)
        refine lv_goto (tgt := 21) hx hb dX5_correctOffset_38 (by decide) ?_
        exact ih ((s9 + (σ.2.2.2 503 k9 n9)), n9 + 1) (by show 3 - (n9 + 1) < 3 - n9; omega) (⟨by rw [hs]; rfl, by omega⟩) H locs ls hG hS (lv_sub hl [2, 1, 0] rfl)
    · refine lv_iconst (v := nI 0) hx hb dX5_correctOffset_15 (by decide) ?_
      exact rm_ret hx hb hr hlocks hG hS (by unfold k_corr; rw [if_neg (Nat.not_lt.mpr c_5), if_neg c_12] <;> rfl) (by unfold k_corr; rw [if_neg (Nat.not_lt.mpr c_5), if_neg c_12] <;> rfl) rfl dX5_correctOffset_16
