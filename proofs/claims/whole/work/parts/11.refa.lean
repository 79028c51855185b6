/-! plain facts on ints (fa_, fb_: begun from the pasted families NUMBERS, COUNTS) -/
theorem fa_lt (a b : Int32) : a < b ↔ a.toInt < b.toInt := Int32.lt_iff_toInt_lt
theorem fa_le (a b : Int32) : a ≤ b ↔ a.toInt ≤ b.toInt := Int32.le_iff_toInt_le
theorem fa_eq (a b : Int32) : a = b ↔ a.toInt = b.toInt := Int32.toInt_inj.symm
theorem fa_of_nlt {a b : Int32} (h : ¬ a < b) : b ≤ a := by
  rw [fa_lt] at h
  rw [fa_le]
  omega
theorem fa_of_nle {a b : Int32} (h : ¬ a ≤ b) : b < a := by
  rw [fa_le] at h
  rw [fa_lt]
  omega
theorem fa_lt_le {a b : Int32} (h : a < b) (h2 : b ≤ a) : False := by
  rw [fa_lt] at h
  rw [fa_le] at h2
  omega
theorem fb_rng (x : Int32) : -2147483648 ≤ x.toInt ∧ x.toInt < 2147483648 := by
  have h1 := Int32.le_toInt x
  have h2 := Int32.toInt_lt x
  omega
theorem fb_bmod {z : Int} (h1 : -2147483648 ≤ z) (h2 : z < 2147483648) : z.bmod (2 ^ 32) = z := by
  rw [Int.bmod_def]
  omega
theorem fb_addI {x y : Int32} (h1 : -2147483648 ≤ x.toInt + y.toInt) (h2 : x.toInt + y.toInt < 2147483648) : (x + y).toInt = x.toInt + y.toInt := by
  rw [Int32.toInt_add, fb_bmod h1 h2]
theorem fb_subI {x y : Int32} (h1 : -2147483648 ≤ x.toInt - y.toInt) (h2 : x.toInt - y.toInt < 2147483648) : (x - y).toInt = x.toInt - y.toInt := by
  rw [Int32.toInt_sub, fb_bmod h1 h2]
theorem fb_mulI {x y : Int32} (h1 : -2147483648 ≤ x.toInt * y.toInt) (h2 : x.toInt * y.toInt < 2147483648) : (x * y).toInt = x.toInt * y.toInt := by
  rw [Int32.toInt_mul, fb_bmod h1 h2]
theorem fb_negI {x : Int32} (h : x.toInt ≠ -2147483648) : (-x).toInt = -x.toInt := by
  have := fb_rng x
  rw [Int32.toInt_neg, fb_bmod (by omega) (by omega)]
/-- an int that is one of 0 .. n - 1, and which -/
abbrev ix (x : Int32) (n : Nat) : Prop := 0 ≤ x.toInt ∧ x.toInt < (n : Int)
abbrev tn (x : Int32) : Nat := x.toInt.toNat
theorem ix_eq {x : Int32} {n : Nat} (h : ix x n) : x = nI (tn x) := by
  have hr := fb_rng x
  have h1 := h.1
  unfold tn
  rw [fa_eq, nI_toInt (by omega)]
  omega
theorem ix_lt {x : Int32} {n : Nat} (h : ix x n) : tn x < n := by
  have h1 := h.1
  have h2 := h.2
  unfold tn
  omega
theorem ix_nI {k n : Nat} (hk : k < 2147483648) : ix (nI k) n ↔ k < n := by
  unfold ix
  rw [nI_toInt hk]
  omega
theorem tn_nI {k : Nat} (hk : k < 2147483648) : tn (nI k) = k := by
  unfold tn
  rw [nI_toInt hk]
  omega
theorem nI_tz {k : Nat} (hk : k < 2147483648) : (nI k).toInt = (k : Int) := nI_toInt hk
/-- 'in' from 0 to n - 1 -/
theorem rg_z {v : Int32} (n : Nat) (hn : n < 2147483647) : (nI 0 ≤ v ∧ v ≤ nI n) ↔ ix v (n + 1) := by
  rw [fa_le, fa_le, nI_tz (by omega), nI_tz (by omega)]
  unfold ix
  omega
theorem rg_m {v : Int32} {n : Nat} (hn : n < 2147483648) : (nI 0 ≤ v ∧ v ≤ nI n - nI 1) ↔ ix v n := by
  have h1 : (nI n - nI 1).toInt = (n : Int) - 1 := by
    rw [fb_subI] <;> rw [nI_tz hn, nI_tz (by decide)] <;> omega
  rw [fa_le, fa_le, h1, nI_tz (by omega)]
  unfold ix
  omega
theorem rg_i {v : Int32} {a b : Int32} (A B : Int) (ha : a.toInt = A) (hb : b.toInt = B) : (a ≤ v ∧ v ≤ b) ↔ (A ≤ v.toInt ∧ v.toInt ≤ B) := by
  rw [fa_le, fa_le, ha, hb]
theorem not_not_intro9 {P : Prop} (h : P) : ¬ ¬ P := fun z => z h
/-- what 'goes' notes: 0, or which of three is wrong -/
def gcode (P1 P2 P3 : Prop) [Decidable P1] [Decidable P2] [Decidable P3] : Int32 := if P1 then (if P2 then (if P3 then nI 0 else nI 3) else nI 2) else nI 1
def m_g (P1 P2 P3 : Prop) [Decidable P1] [Decidable P2] [Decidable P3] (σ : St) : St := wI σ 944 0 (gcode P1 P2 P3)
section LOOP
variable {D : va_G} {cI cZ cO : ClassId} {dom : Nat → Nat → Prop} {L : Lay} {ow A : Nat → Prop}
variable {p : Program} {l : Launch} {e : Env} {R : Room} {s : State} {m : MethodId} {args : Array Value} {below : List Frame} {meth : Method} {c : Code} {H H0 : Heap} {locs : List Loc} {cells slots : Nat} {Q : State → Prop}
variable {nL pc : Nat} {ls : Array Slot} {st : List Value}
/-- a loop, by a measure: at its head (pc) the locals and the state are those of i -/
theorem r_loop {ι : Type} (lvf : ι → List (Nat × Value)) (sgf : ι → St) (μ : ι → Nat) (Inv : ι → Prop) (i0 : ι) (hI : Inv i0) (hG : PW D cI cZ cO dom L (sgf i0) ow H) (hS : va_S A H0 H locs) (hl : lv_has ls nL (lvf i0))
    (body : ∀ i : ι, Inv i → (∀ j : ι, μ j < μ i → Inv j → ∀ (H : Heap) (locs : List Loc) (ls : Array Slot), PW D cI cZ cO dom L (sgf j) ow H → va_S A H0 H locs → lv_has ls nL (lvf j) → W p l e R s m args below meth c H locs cells slots Q (F0 m pc ls st)) →
      ∀ (H : Heap) (locs : List Loc) (ls : Array Slot), PW D cI cZ cO dom L (sgf i) ow H → va_S A H0 H locs → lv_has ls nL (lvf i) → W p l e R s m args below meth c H locs cells slots Q (F0 m pc ls st)) : W p l e R s m args below meth c H locs cells slots Q (F0 m pc ls st) := by
  have key : ∀ (n : Nat) (i : ι), μ i < n → Inv i → ∀ (H : Heap) (locs : List Loc) (ls : Array Slot), PW D cI cZ cO dom L (sgf i) ow H → va_S A H0 H locs → lv_has ls nL (lvf i) → W p l e R s m args below meth c H locs cells slots Q (F0 m pc ls st) := by
    intro n
    induction n with
    | zero => intro i h; exact absurd h (Nat.not_lt_zero _)
    | succ n ih => intro i h hi; exact body i hi (fun j hj hij => ih j (by omega) hij)
  exact key (μ i0 + 1) i0 (Nat.lt_succ_self _) hI H locs ls hG hS hl
/-- a place where ways meet: proved once, with what stands on top there, whatever calls that change nothing came before -/
theorem r_cutH {σ : St} {st0 : List Value} {pc0 : Nat} (pc2 : Nat) (st2 : List Value) (hG : PW D cI cZ cO dom L σ ow H) (hS : va_S A H0 H locs)
    (h1 : ∀ (H : Heap) (locs : List Loc), PW D cI cZ cO dom L σ ow H → va_S A H0 H locs → W p l e R s m args below meth c H locs cells slots Q (F0 m pc2 ls st2))
    (h2 : (∀ (H : Heap) (locs : List Loc), PW D cI cZ cO dom L σ ow H → va_S A H0 H locs → W p l e R s m args below meth c H locs cells slots Q (F0 m pc2 ls st2)) → W p l e R s m args below meth c H locs cells slots Q (F0 m pc0 ls st0)) : W p l e R s m args below meth c H locs cells slots Q (F0 m pc0 ls st0) := h2 h1
end LOOP
theorem sw_ne {x : Int32} {n : Nat} (h : x.toInt < 0 ∨ (n : Int) < x.toInt) (j : Nat) (hj : j ≤ n ∧ n < 2147483647 := by decide) : ¬ x = nI j := by
  intro z
  rw [z, nI_tz (by omega)] at h
  omega
set_option maxRecDepth 100000 in
set_option maxHeartbeats 4000000 in
theorem c_X9_in {D : va_G} {cI cZ cO : ClassId} (l : Launch) (L : Lay) (σ : St) (ow : Nat → Prop) (v a b : Int32) : RM D cI cZ cO rdom l yX9_in cX9_in 3 ((some FieldType.boolean)) 0 0 [.int v, .int a, .int b] L σ ow (b2i (a ≤ v ∧ v ≤ b)) σ := by
  refine rm_of rfl (Nat.le_of_ble_eq_true rfl) ?_
  intro p e s m below meth c ls X hK hG hr hlocks hl
  have X : CallFix p m c cX9_in 3 s _ TB RX9 := X
  have hx := X.1
  have hb := X.2.1
  have hS : va_S (AA ow s.heap.size) s.heap s.heap [] := va_S.rf
  have hA : ∀ q, ow q → AA ow s.heap.size q := fun _ h => Or.inl h
  have hl : lv_has ls 3 [(0, .int v), (1, .int a), (2, .int b)] := hl
  refine lv_iload_n hx hb dX9_in_0 rfl (lv_at hl 0 rfl) ?_
  refine lv_iload_n hx hb dX9_in_1 rfl (lv_at hl 1 rfl) ?_
  refine lv_icmp_lt (tgt := 14) hx hb dX9_in_2 (by decide) (fun c_2 => ?_) (fun c_2 => ?_)
  · refine lv_iconst (v := nI 0) hx hb dX9_in_14 (by decide) ?_
    exact rm_ret hx hb hr hlocks hG hS ((b2i_f (fun h => fa_lt_le c_2 h.1)).symm) (rfl) rfl dX9_in_15
  · refine lv_iload_n hx hb dX9_in_5 rfl (lv_at hl 0 rfl) ?_
    refine lv_iload_n hx hb dX9_in_6 rfl (lv_at hl 2 rfl) ?_
    refine lv_icmp_gt (tgt := 14) hx hb dX9_in_7 (by decide) (fun c_7 => ?_) (fun c_7 => ?_)
    · refine lv_iconst (v := nI 0) hx hb dX9_in_14 (by decide) ?_
      exact rm_ret hx hb hr hlocks hG hS ((b2i_f (fun h => fa_lt_le c_7 h.2)).symm) (rfl) rfl dX9_in_15
    · refine lv_iconst (v := nI 1) hx hb dX9_in_10 (by decide) ?_
      refine lv_goto (tgt := 15) hx hb dX9_in_11 (by decide) ?_
      exact rm_ret hx hb hr hlocks hG hS ((b2i_t ⟨fa_of_nlt c_2, fa_of_nlt c_7⟩).symm) (rfl) rfl dX9_in_15
set_option maxRecDepth 100000 in
set_option maxHeartbeats 4000000 in
theorem c_X9_goes {D : va_G} {cI cZ cO : ClassId} (l : Launch) (L : Lay) (σ : St) (ow : Nat → Prop) (P1 P2 P3 : Prop) [Decidable P1] [Decidable P2] [Decidable P3] : RM D cI cZ cO rdom l yX9_goes cX9_goes 4 ((some FieldType.boolean)) 0 0 [.ref (L 999 0), .int (b2i (P1)), .int (b2i (P2)), .int (b2i (P3))] L σ ow (b2i ((P1) ∧ (P2) ∧ (P3))) (m_g (P1) (P2) (P3) σ) := by
  refine rm_of rfl (Nat.le_of_ble_eq_true rfl) ?_
  intro p e s m below meth c ls X hK hG hr hlocks hl
  have X : CallFix p m c cX9_goes 4 s _ TB RX9 := X
  have hx := X.1
  have hb := X.2.1
  have hS : va_S (AA ow s.heap.size) s.heap s.heap [] := va_S.rf
  have hA : ∀ q, ow q → AA ow s.heap.size q := fun _ h => Or.inl h
  have hl : lv_has ls 4 [(0, .ref (L 999 0)), (1, .int (b2i (P1))), (2, .int (b2i (P2))), (3, .int (b2i (P3)))] := hl
  refine lv_aload_n hx hb dX9_goes_0 rfl (lv_at hl 0 rfl) ?_
  refine lv_iload_n hx hb dX9_goes_1 rfl (lv_at hl 1 rfl) ?_
  refine r_if_neB (tgt := 9) hx hb dX9_goes_2 (by decide) (fun c_2 => ?_) (fun c_2 => ?_)
  · refine lv_iload_n hx hb dX9_goes_9 rfl (lv_at hl 2 rfl) ?_
    refine r_if_neB (tgt := 17) hx hb dX9_goes_10 (by decide) (fun c_10 => ?_) (fun c_10 => ?_)
    · refine lv_iload_n hx hb dX9_goes_17 rfl (lv_at hl 3 rfl) ?_
      refine r_if_eqB (tgt := 25) hx hb dX9_goes_18 (by decide) (fun c_18 => ?_) (fun c_18 => ?_)
      · refine lv_iconst (v := nI 3) hx hb dX9_goes_25 (by decide) ?_
        refine pt_X9_107 X hK hG hS hA rd_999 dX9_goes_26 (fun H locs hG hS => ?_)
        refine lv_aload_n hx hb dX9_goes_29 rfl (lv_at hl 0 rfl) ?_
        refine gt_X9_107 X hK hG rd_999 (x := nI 3) rfl dX9_goes_30 ?_
        refine r_if_neN (tgt := 40) hx hb dX9_goes_33 (by decide) (by omega) (fun c_33 => ?_) (fun c_33 => absurd c_33 (by decide))
        refine lv_iconst (v := nI 0) hx hb dX9_goes_40 (by decide) ?_
        exact rm_ret hx hb hr hlocks hG hS ((b2i_f (fun h => c_18 h.2.2)).symm) (by unfold m_g gcode; rw [if_pos c_2, if_pos c_10, if_neg c_18]) rfl dX9_goes_41
      · refine lv_iconst (v := nI 0) hx hb dX9_goes_21 (by decide) ?_
        refine lv_goto (tgt := 26) hx hb dX9_goes_22 (by decide) ?_
        refine pt_X9_107 X hK hG hS hA rd_999 dX9_goes_26 (fun H locs hG hS => ?_)
        refine lv_aload_n hx hb dX9_goes_29 rfl (lv_at hl 0 rfl) ?_
        refine gt_X9_107 X hK hG rd_999 (x := nI 0) rfl dX9_goes_30 ?_
        refine r_if_neN (tgt := 40) hx hb dX9_goes_33 (by decide) (by omega) (fun c_33 => absurd c_33 (by decide)) (fun c_33 => ?_)
        refine lv_iconst (v := nI 1) hx hb dX9_goes_36 (by decide) ?_
        refine lv_goto (tgt := 41) hx hb dX9_goes_37 (by decide) ?_
        exact rm_ret hx hb hr hlocks hG hS ((b2i_t ⟨c_2, c_10, c_18⟩).symm) (by unfold m_g gcode; rw [if_pos c_2, if_pos c_10, if_pos c_18]) rfl dX9_goes_41
    · refine lv_iconst (v := nI 2) hx hb dX9_goes_13 (by decide) ?_
      refine lv_goto (tgt := 26) hx hb dX9_goes_14 (by decide) ?_
      refine pt_X9_107 X hK hG hS hA rd_999 dX9_goes_26 (fun H locs hG hS => ?_)
      refine lv_aload_n hx hb dX9_goes_29 rfl (lv_at hl 0 rfl) ?_
      refine gt_X9_107 X hK hG rd_999 (x := nI 2) rfl dX9_goes_30 ?_
      refine r_if_neN (tgt := 40) hx hb dX9_goes_33 (by decide) (by omega) (fun c_33 => ?_) (fun c_33 => absurd c_33 (by decide))
      refine lv_iconst (v := nI 0) hx hb dX9_goes_40 (by decide) ?_
      exact rm_ret hx hb hr hlocks hG hS ((b2i_f (fun h => c_10 h.2.1)).symm) (by unfold m_g gcode; rw [if_pos c_2, if_neg c_10]) rfl dX9_goes_41
  · refine lv_iconst (v := nI 1) hx hb dX9_goes_5 (by decide) ?_
    refine lv_goto (tgt := 26) hx hb dX9_goes_6 (by decide) ?_
    refine pt_X9_107 X hK hG hS hA rd_999 dX9_goes_26 (fun H locs hG hS => ?_)
    refine lv_aload_n hx hb dX9_goes_29 rfl (lv_at hl 0 rfl) ?_
    refine gt_X9_107 X hK hG rd_999 (x := nI 1) rfl dX9_goes_30 ?_
    refine r_if_neN (tgt := 40) hx hb dX9_goes_33 (by decide) (by omega) (fun c_33 => ?_) (fun c_33 => absurd c_33 (by decide))
    refine lv_iconst (v := nI 0) hx hb dX9_goes_40 (by decide) ?_
    exact rm_ret hx hb hr hlocks hG hS ((b2i_f (fun h => c_2 h.1)).symm) (by unfold m_g gcode; rw [if_neg c_2]) rfl dX9_goes_41
set_option maxRecDepth 100000 in
set_option maxHeartbeats 4000000 in
theorem c_X9_isProgram {D : va_G} {cI cZ cO : ClassId} (l : Launch) (L : Lay) (σ : St) (ow : Nat → Prop) (x : Int32) (hn : σ.1 904 0 < 2147483648) : RM D cI cZ cO rdom l yX9_isProgram cX9_isProgram 2 ((some FieldType.boolean)) 1 22 [.ref (L 999 0), .int x] L σ ow (b2i (ix x (σ.1 904 0))) σ := by
  refine rm_of rfl (Nat.le_of_ble_eq_true rfl) ?_
  intro p e s m below meth c ls X hK hG hr hlocks hl
  have X : CallFix p m c cX9_isProgram 2 s _ TB RX9 := X
  have hx := X.1
  have hb := X.2.1
  have hS : va_S (AA ow s.heap.size) s.heap s.heap [] := va_S.rf
  have hA : ∀ q, ow q → AA ow s.heap.size q := fun _ h => Or.inl h
  have hl : lv_has ls 2 [(0, .ref (L 999 0)), (1, .int x)] := hl
  refine lv_iload_n hx hb dX9_isProgram_0 rfl (lv_at hl 1 rfl) ?_
  refine lv_iconst (v := nI 0) hx hb dX9_isProgram_1 (by decide) ?_
  refine lv_aload_n hx hb dX9_isProgram_2 rfl (lv_at hl 0 rfl) ?_
  refine gt_X9_111 X hK hG rd_999 (x := σ.1 904 0) rfl dX9_isProgram_3 ?_
  refine lv_iconst (v := nI 1) hx hb dX9_isProgram_6 (by decide) ?_
  refine lv_isub hx hb dX9_isProgram_7 ?_
  refine rm_callS X hK hG hS ysX9_in ml_X9_114 [.int x, .int (nI 0), .int ((nI (σ.1 904 0)) - (nI 1))] [] (c_X9_in l L σ ow x (nI 0) ((nI (σ.1 904 0)) - (nI 1))) rfl hl.1 rfl (Nat.le_of_ble_eq_true rfl) ⟨Nat.le_of_ble_eq_true rfl, Nat.le_of_ble_eq_true rfl⟩ ⟨Nat.zero_le _, Nat.zero_le _⟩ dX9_isProgram_8 (fun H locs hG hS => ?_)
  refine r_top (y := b2i (ix x (σ.1 904 0))) (b2i_c (rg_m hn)) ?_
  exact rm_ret hx hb hr hlocks hG hS (rfl) (rfl) b2i_z dX9_isProgram_11
set_option maxRecDepth 100000 in
set_option maxHeartbeats 4000000 in
theorem c_X9_isTool {D : va_G} {cI cZ cO : ClassId} (l : Launch) (L : Lay) (σ : St) (ow : Nat → Prop) (x : Int32) (hn : σ.1 914 0 < 2147483648) : RM D cI cZ cO rdom l yX9_isTool cX9_isTool 2 ((some FieldType.boolean)) 1 22 [.ref (L 999 0), .int x] L σ ow (b2i (ix x (σ.1 914 0))) σ := by
  refine rm_of rfl (Nat.le_of_ble_eq_true rfl) ?_
  intro p e s m below meth c ls X hK hG hr hlocks hl
  have X : CallFix p m c cX9_isTool 2 s _ TB RX9 := X
  have hx := X.1
  have hb := X.2.1
  have hS : va_S (AA ow s.heap.size) s.heap s.heap [] := va_S.rf
  have hA : ∀ q, ow q → AA ow s.heap.size q := fun _ h => Or.inl h
  have hl : lv_has ls 2 [(0, .ref (L 999 0)), (1, .int x)] := hl
  refine lv_iload_n hx hb dX9_isTool_0 rfl (lv_at hl 1 rfl) ?_
  refine lv_iconst (v := nI 0) hx hb dX9_isTool_1 (by decide) ?_
  refine lv_aload_n hx hb dX9_isTool_2 rfl (lv_at hl 0 rfl) ?_
  refine gt_X9_118 X hK hG rd_999 (x := σ.1 914 0) rfl dX9_isTool_3 ?_
  refine lv_iconst (v := nI 1) hx hb dX9_isTool_6 (by decide) ?_
  refine lv_isub hx hb dX9_isTool_7 ?_
  refine rm_callS X hK hG hS ysX9_in ml_X9_114 [.int x, .int (nI 0), .int ((nI (σ.1 914 0)) - (nI 1))] [] (c_X9_in l L σ ow x (nI 0) ((nI (σ.1 914 0)) - (nI 1))) rfl hl.1 rfl (Nat.le_of_ble_eq_true rfl) ⟨Nat.le_of_ble_eq_true rfl, Nat.le_of_ble_eq_true rfl⟩ ⟨Nat.zero_le _, Nat.zero_le _⟩ dX9_isTool_8 (fun H locs hG hS => ?_)
  refine r_top (y := b2i (ix x (σ.1 914 0))) (b2i_c (rg_m hn)) ?_
  exact rm_ret hx hb hr hlocks hG hS (rfl) (rfl) b2i_z dX9_isTool_11
set_option maxRecDepth 100000 in
set_option maxHeartbeats 4000000 in
theorem c_X9_isPallet {D : va_G} {cI cZ cO : ClassId} (l : Launch) (L : Lay) (σ : St) (ow : Nat → Prop) (x : Int32) (hn : σ.1 924 0 < 2147483648) : RM D cI cZ cO rdom l yX9_isPallet cX9_isPallet 2 ((some FieldType.boolean)) 1 22 [.ref (L 999 0), .int x] L σ ow (b2i (ix x (σ.1 924 0))) σ := by
  refine rm_of rfl (Nat.le_of_ble_eq_true rfl) ?_
  intro p e s m below meth c ls X hK hG hr hlocks hl
  have X : CallFix p m c cX9_isPallet 2 s _ TB RX9 := X
  have hx := X.1
  have hb := X.2.1
  have hS : va_S (AA ow s.heap.size) s.heap s.heap [] := va_S.rf
  have hA : ∀ q, ow q → AA ow s.heap.size q := fun _ h => Or.inl h
  have hl : lv_has ls 2 [(0, .ref (L 999 0)), (1, .int x)] := hl
  refine lv_iload_n hx hb dX9_isPallet_0 rfl (lv_at hl 1 rfl) ?_
  refine lv_iconst (v := nI 0) hx hb dX9_isPallet_1 (by decide) ?_
  refine lv_aload_n hx hb dX9_isPallet_2 rfl (lv_at hl 0 rfl) ?_
  refine gt_X9_121 X hK hG rd_999 (x := σ.1 924 0) rfl dX9_isPallet_3 ?_
  refine lv_iconst (v := nI 1) hx hb dX9_isPallet_6 (by decide) ?_
  refine lv_isub hx hb dX9_isPallet_7 ?_
  refine rm_callS X hK hG hS ysX9_in ml_X9_114 [.int x, .int (nI 0), .int ((nI (σ.1 924 0)) - (nI 1))] [] (c_X9_in l L σ ow x (nI 0) ((nI (σ.1 924 0)) - (nI 1))) rfl hl.1 rfl (Nat.le_of_ble_eq_true rfl) ⟨Nat.le_of_ble_eq_true rfl, Nat.le_of_ble_eq_true rfl⟩ ⟨Nat.zero_le _, Nat.zero_le _⟩ dX9_isPallet_8 (fun H locs hG hS => ?_)
  refine r_top (y := b2i (ix x (σ.1 924 0))) (b2i_c (rg_m hn)) ?_
  exact rm_ret hx hb hr hlocks hG hS (rfl) (rfl) b2i_z dX9_isPallet_11
set_option maxRecDepth 100000 in
set_option maxHeartbeats 4000000 in
theorem c_X9_isDrawing {D : va_G} {cI cZ cO : ClassId} (l : Launch) (L : Lay) (σ : St) (ow : Nat → Prop) (x : Int32) (hn : σ.1 932 0 < 2147483648) : RM D cI cZ cO rdom l yX9_isDrawing cX9_isDrawing 2 ((some FieldType.boolean)) 1 22 [.ref (L 999 0), .int x] L σ ow (b2i (ix x (σ.1 932 0))) σ := by
  refine rm_of rfl (Nat.le_of_ble_eq_true rfl) ?_
  intro p e s m below meth c ls X hK hG hr hlocks hl
  have X : CallFix p m c cX9_isDrawing 2 s _ TB RX9 := X
  have hx := X.1
  have hb := X.2.1
  have hS : va_S (AA ow s.heap.size) s.heap s.heap [] := va_S.rf
  have hA : ∀ q, ow q → AA ow s.heap.size q := fun _ h => Or.inl h
  have hl : lv_has ls 2 [(0, .ref (L 999 0)), (1, .int x)] := hl
  refine lv_iload_n hx hb dX9_isDrawing_0 rfl (lv_at hl 1 rfl) ?_
  refine lv_iconst (v := nI 0) hx hb dX9_isDrawing_1 (by decide) ?_
  refine lv_aload_n hx hb dX9_isDrawing_2 rfl (lv_at hl 0 rfl) ?_
  refine gt_X9_124 X hK hG rd_999 (x := σ.1 932 0) rfl dX9_isDrawing_3 ?_
  refine lv_iconst (v := nI 1) hx hb dX9_isDrawing_6 (by decide) ?_
  refine lv_isub hx hb dX9_isDrawing_7 ?_
  refine rm_callS X hK hG hS ysX9_in ml_X9_114 [.int x, .int (nI 0), .int ((nI (σ.1 932 0)) - (nI 1))] [] (c_X9_in l L σ ow x (nI 0) ((nI (σ.1 932 0)) - (nI 1))) rfl hl.1 rfl (Nat.le_of_ble_eq_true rfl) ⟨Nat.le_of_ble_eq_true rfl, Nat.le_of_ble_eq_true rfl⟩ ⟨Nat.zero_le _, Nat.zero_le _⟩ dX9_isDrawing_8 (fun H locs hG hS => ?_)
  refine r_top (y := b2i (ix x (σ.1 932 0))) (b2i_c (rg_m hn)) ?_
  exact rm_ret hx hb hr hlocks hG hS (rfl) (rfl) b2i_z dX9_isDrawing_11
set_option maxRecDepth 100000 in
set_option maxHeartbeats 4000000 in
theorem c_X9_isGauge {D : va_G} {cI cZ cO : ClassId} (l : Launch) (L : Lay) (σ : St) (ow : Nat → Prop) (x : Int32) : RM D cI cZ cO rdom l yX9_isGauge cX9_isGauge 1 ((some FieldType.boolean)) 1 22 [.int x] L σ ow (b2i (ix x 4)) σ := by
  refine rm_of rfl (Nat.le_of_ble_eq_true rfl) ?_
  intro p e s m below meth c ls X hK hG hr hlocks hl
  have X : CallFix p m c cX9_isGauge 1 s _ TB RX9 := X
  have hx := X.1
  have hb := X.2.1
  have hS : va_S (AA ow s.heap.size) s.heap s.heap [] := va_S.rf
  have hA : ∀ q, ow q → AA ow s.heap.size q := fun _ h => Or.inl h
  have hl : lv_has ls 1 [(0, .int x)] := hl
  refine lv_iload_n hx hb dX9_isGauge_0 rfl (lv_at hl 0 rfl) ?_
  refine lv_iconst (v := nI 0) hx hb dX9_isGauge_1 (by decide) ?_
  refine lv_iconst (v := nI 3) hx hb dX9_isGauge_2 (by decide) ?_
  refine rm_callS X hK hG hS ysX9_in ml_X9_114 [.int x, .int (nI 0), .int (nI 3)] [] (c_X9_in l L σ ow x (nI 0) (nI 3)) rfl hl.1 rfl (Nat.le_of_ble_eq_true rfl) ⟨Nat.le_of_ble_eq_true rfl, Nat.le_of_ble_eq_true rfl⟩ ⟨Nat.zero_le _, Nat.zero_le _⟩ dX9_isGauge_3 (fun H locs hG hS => ?_)
  refine r_top (y := b2i (ix x 4)) (b2i_c (rg_z 3 (by decide))) ?_
  exact rm_ret hx hb hr hlocks hG hS (rfl) (rfl) b2i_z dX9_isGauge_6
set_option maxRecDepth 100000 in
set_option maxHeartbeats 4000000 in
theorem c_X9_isCell {D : va_G} {cI cZ cO : ClassId} (l : Launch) (L : Lay) (σ : St) (ow : Nat → Prop) (x y : Int32) : RM D cI cZ cO rdom l yX9_isCell cX9_isCell 2 ((some FieldType.boolean)) 1 22 [.int x, .int y] L σ ow (b2i (ix x 12 ∧ ix y 12)) σ := by
  refine rm_of rfl (Nat.le_of_ble_eq_true rfl) ?_
  intro p e s m below meth c ls X hK hG hr hlocks hl
  have X : CallFix p m c cX9_isCell 2 s _ TB RX9 := X
  have hx := X.1
  have hb := X.2.1
  have hS : va_S (AA ow s.heap.size) s.heap s.heap [] := va_S.rf
  have hA : ∀ q, ow q → AA ow s.heap.size q := fun _ h => Or.inl h
  have hl : lv_has ls 2 [(0, .int x), (1, .int y)] := hl
  refine lv_iload_n hx hb dX9_isCell_0 rfl (lv_at hl 0 rfl) ?_
  refine lv_iconst (v := nI 0) hx hb dX9_isCell_1 (by decide) ?_
  refine lv_bipush (v := nI 11) hx hb dX9_isCell_2 (by decide) ?_
  refine rm_callS X hK hG hS ysX9_in ml_X9_114 [.int x, .int (nI 0), .int (nI 11)] [] (c_X9_in l L σ ow x (nI 0) (nI 11)) rfl hl.1 rfl (Nat.le_of_ble_eq_true rfl) ⟨Nat.le_of_ble_eq_true rfl, Nat.le_of_ble_eq_true rfl⟩ ⟨Nat.zero_le _, Nat.zero_le _⟩ dX9_isCell_4 (fun H locs hG hS => ?_)
  refine r_top (y := b2i (ix x 12)) (b2i_c (rg_z 11 (by decide))) ?_
  refine r_if_eqB (tgt := 24) hx hb dX9_isCell_7 (by decide) (fun c_7 => ?_) (fun c_7 => ?_)
  · refine lv_iconst (v := nI 0) hx hb dX9_isCell_24 (by decide) ?_
    exact rm_ret hx hb hr hlocks hG hS ((b2i_f (fun h => c_7 h.1)).symm) (rfl) rfl dX9_isCell_25
  · refine lv_iload_n hx hb dX9_isCell_10 rfl (lv_at hl 1 rfl) ?_
    refine lv_iconst (v := nI 0) hx hb dX9_isCell_11 (by decide) ?_
    refine lv_bipush (v := nI 11) hx hb dX9_isCell_12 (by decide) ?_
    refine rm_callS X hK hG hS ysX9_in ml_X9_114 [.int y, .int (nI 0), .int (nI 11)] [] (c_X9_in l L σ ow y (nI 0) (nI 11)) rfl hl.1 rfl (Nat.le_of_ble_eq_true rfl) ⟨Nat.le_of_ble_eq_true rfl, Nat.le_of_ble_eq_true rfl⟩ ⟨Nat.zero_le _, Nat.zero_le _⟩ dX9_isCell_14 (fun H locs hG hS => ?_)
    refine r_top (y := b2i (ix y 12)) (b2i_c (rg_z 11 (by decide))) ?_
    refine r_if_eqB (tgt := 24) hx hb dX9_isCell_17 (by decide) (fun c_17 => ?_) (fun c_17 => ?_)
    · refine lv_iconst (v := nI 0) hx hb dX9_isCell_24 (by decide) ?_
      exact rm_ret hx hb hr hlocks hG hS ((b2i_f (fun h => c_17 h.2)).symm) (rfl) rfl dX9_isCell_25
    · refine lv_iconst (v := nI 1) hx hb dX9_isCell_20 (by decide) ?_
      refine lv_goto (tgt := 25) hx hb dX9_isCell_21 (by decide) ?_
      exact rm_ret hx hb hr hlocks hG hS ((b2i_t ⟨c_7, c_17⟩).symm) (rfl) rfl dX9_isCell_25
def isz (v : Int32) : Int32 := if v < 0 then -v else v
set_option maxRecDepth 100000 in
set_option maxHeartbeats 4000000 in
theorem c_X9_size {D : va_G} {cI cZ cO : ClassId} (l : Launch) (L : Lay) (σ : St) (ow : Nat → Prop) (v : Int32) : RM D cI cZ cO rdom l yX9_size cX9_size 1 ((some FieldType.int)) 0 0 [.int v] L σ ow (isz v) σ := by
  refine rm_of rfl (Nat.le_of_ble_eq_true rfl) ?_
  intro p e s m below meth c ls X hK hG hr hlocks hl
  have X : CallFix p m c cX9_size 1 s _ TB RX9 := X
  have hx := X.1
  have hb := X.2.1
  have hS : va_S (AA ow s.heap.size) s.heap s.heap [] := va_S.rf
  have hA : ∀ q, ow q → AA ow s.heap.size q := fun _ h => Or.inl h
  have hl : lv_has ls 1 [(0, .int v)] := hl
  refine lv_iload_n hx hb dX9_size_0 rfl (lv_at hl 0 rfl) ?_
  refine lv_if_ge (tgt := 9) hx hb dX9_size_1 (by decide) (fun c_1 => ?_) (fun c_1 => ?_)
  · refine lv_iload_n hx hb dX9_size_9 rfl (lv_at hl 0 rfl) ?_
    exact rm_ret hx hb hr hlocks hG hS (by unfold isz; rw [if_neg (fun z => fa_lt_le z c_1)]) (rfl) rfl dX9_size_10
  · refine lv_iload_n hx hb dX9_size_4 rfl (lv_at hl 0 rfl) ?_
    refine lv_ineg hx hb dX9_size_5 ?_
    refine lv_goto (tgt := 10) hx hb dX9_size_6 (by decide) ?_
    exact rm_ret hx hb hr hlocks hG hS (by unfold isz; rw [if_pos (fa_of_nle c_1)]) (rfl) rfl dX9_size_10
set_option maxRecDepth 100000 in
set_option maxHeartbeats 4000000 in
theorem c_X9_thrown {D : va_G} {cI cZ cO : ClassId} (l : Launch) (L : Lay) (σ : St) (ow : Nat → Prop) : RM D cI cZ cO rdom l yX9_thrown cX9_thrown 1 ((some FieldType.int)) 0 0 [.ref (L 999 0)] L σ ow (σ.2.1 944 0) σ := by
  refine rm_of rfl (Nat.le_of_ble_eq_true rfl) ?_
  intro p e s m below meth c ls X hK hG hr hlocks hl
  have X : CallFix p m c cX9_thrown 1 s _ TB RX9 := X
  have hx := X.1
  have hb := X.2.1
  have hS : va_S (AA ow s.heap.size) s.heap s.heap [] := va_S.rf
  have hA : ∀ q, ow q → AA ow s.heap.size q := fun _ h => Or.inl h
  have hl : lv_has ls 1 [(0, .ref (L 999 0))] := hl
  refine lv_aload_n hx hb dX9_thrown_0 rfl (lv_at hl 0 rfl) ?_
  refine gt_X9_107 X hK hG rd_999 (x := σ.2.1 944 0) rfl dX9_thrown_1 ?_
  exact rm_ret hx hb hr hlocks hG hS (rfl) (rfl) rfl dX9_thrown_4
set_option maxRecDepth 100000 in
set_option maxHeartbeats 4000000 in
theorem c_X9_minute {D : va_G} {cI cZ cO : ClassId} (l : Launch) (L : Lay) (σ : St) (ow : Nat → Prop) : RM D cI cZ cO rdom l yX9_minute cX9_minute 1 ((some FieldType.int)) 0 0 [.ref (L 999 0)] L σ ow (nI (σ.1 900 0)) (wI σ 944 0 (nI 0)) := by
  refine rm_of rfl (Nat.le_of_ble_eq_true rfl) ?_
  intro p e s m below meth c ls X hK hG hr hlocks hl
  have X : CallFix p m c cX9_minute 1 s _ TB RX9 := X
  have hx := X.1
  have hb := X.2.1
  have hS : va_S (AA ow s.heap.size) s.heap s.heap [] := va_S.rf
  have hA : ∀ q, ow q → AA ow s.heap.size q := fun _ h => Or.inl h
  have hl : lv_has ls 1 [(0, .ref (L 999 0))] := hl
  refine lv_aload_n hx hb dX9_minute_0 rfl (lv_at hl 0 rfl) ?_
  refine lv_iconst (v := nI 0) hx hb dX9_minute_1 (by decide) ?_
  refine pt_X9_107 X hK hG hS hA rd_999 dX9_minute_2 (fun H locs hG hS => ?_)
  refine lv_aload_n hx hb dX9_minute_5 rfl (lv_at hl 0 rfl) ?_
  refine gt_X9_158 X hK hG rd_999 (x := σ.1 900 0) rfl dX9_minute_6 ?_
  exact rm_ret hx hb hr hlocks hG hS (rfl) (rfl) rfl dX9_minute_9
set_option maxRecDepth 100000 in
set_option maxHeartbeats 4000000 in
theorem c_X9_warmth {D : va_G} {cI cZ cO : ClassId} (l : Launch) (L : Lay) (σ : St) (ow : Nat → Prop) : RM D cI cZ cO rdom l yX9_warmth cX9_warmth 1 ((some FieldType.int)) 0 0 [.ref (L 999 0)] L σ ow (nI (σ.1 901 0)) (wI σ 944 0 (nI 0)) := by
  refine rm_of rfl (Nat.le_of_ble_eq_true rfl) ?_
  intro p e s m below meth c ls X hK hG hr hlocks hl
  have X : CallFix p m c cX9_warmth 1 s _ TB RX9 := X
  have hx := X.1
  have hb := X.2.1
  have hS : va_S (AA ow s.heap.size) s.heap s.heap [] := va_S.rf
  have hA : ∀ q, ow q → AA ow s.heap.size q := fun _ h => Or.inl h
  have hl : lv_has ls 1 [(0, .ref (L 999 0))] := hl
  refine lv_aload_n hx hb dX9_warmth_0 rfl (lv_at hl 0 rfl) ?_
  refine lv_iconst (v := nI 0) hx hb dX9_warmth_1 (by decide) ?_
  refine pt_X9_107 X hK hG hS hA rd_999 dX9_warmth_2 (fun H locs hG hS => ?_)
  refine lv_aload_n hx hb dX9_warmth_5 rfl (lv_at hl 0 rfl) ?_
  refine gt_X9_155 X hK hG rd_999 (x := σ.1 901 0) rfl dX9_warmth_6 ?_
  exact rm_ret hx hb hr hlocks hG hS (rfl) (rfl) rfl dX9_warmth_9
def m_program (σ : St) : Int32 × St := if (σ.1 904 0 < 6) ∧ (True) ∧ (True) then (nI (((σ.1 904 0) + 1) - 1), (wN (m_g (σ.1 904 0 < 6) (True) (True) σ) 904 0 ((σ.1 904 0) + 1))) else (nI 0, (m_g (σ.1 904 0 < 6) (True) (True) σ))
set_option maxRecDepth 100000 in
set_option maxHeartbeats 4000000 in
theorem c_X9_program {D : va_G} {cI cZ cO : ClassId} (l : Launch) (L : Lay) (σ : St) (ow : Nat → Prop) (h0 : σ.1 904 0 < 2147483648) : RM D cI cZ cO rdom l yX9_program cX9_program 1 ((some FieldType.int)) 1 23 [.ref (L 999 0)] L σ ow ((m_program σ).1) ((m_program σ).2) := by
  refine rm_of rfl (Nat.le_of_ble_eq_true rfl) ?_
  intro p e s m below meth c ls X hK hG hr hlocks hl
  have X : CallFix p m c cX9_program 1 s _ TB RX9 := X
  have hx := X.1
  have hb := X.2.1
  have hS : va_S (AA ow s.heap.size) s.heap s.heap [] := va_S.rf
  have hA : ∀ q, ow q → AA ow s.heap.size q := fun _ h => Or.inl h
  have hl : lv_has ls 1 [(0, .ref (L 999 0))] := hl
  refine lv_aload_n hx hb dX9_program_0 rfl (lv_at hl 0 rfl) ?_
  refine r_cutH 15 [.int (b2i (σ.1 904 0 < 6)), .ref (L 999 0)] hG hS (fun H locs hG hS => ?_) (fun J_15 => ?_)
  · refine lv_iconst (v := nI 1) hx hb dX9_program_15 (by decide) ?_
    refine lv_iconst (v := nI 1) hx hb dX9_program_16 (by decide) ?_
    refine rm_callV X hK hG hS yvX9_goes ml_X9_127 kX9 rfl rd_999 [.int (b2i (σ.1 904 0 < 6)), .int (nI 1), .int (nI 1)] [] (c_X9_goes l L σ ow (σ.1 904 0 < 6) (True) (True)) rfl hl.1 rfl (Nat.le_of_ble_eq_true rfl) ⟨Nat.le_of_ble_eq_true rfl, Nat.le_of_ble_eq_true rfl⟩ ⟨Nat.zero_le _, Nat.zero_le _⟩ dX9_program_17 (fun H locs hG hS => ?_)
    refine r_if_neB (tgt := 25) hx hb dX9_program_20 (by decide) (fun c_20 => ?_) (fun c_20 => ?_)
    · refine lv_aload_n hx hb dX9_program_25 rfl (lv_at hl 0 rfl) ?_
      refine lv_dup hx hb dX9_program_26 rfl ?_
      refine gt_X9_111 X hK hG rd_999 (x := σ.1 904 0) rfl dX9_program_27 ?_
      refine lv_iconst (v := nI 1) hx hb dX9_program_30 (by decide) ?_
      refine r_addN hx hb dX9_program_31 ?_
      refine pt_X9_111 X hK hG hS hA rd_999 dX9_program_32 (fun H locs hG hS => ?_)
      refine lv_aload_n hx hb dX9_program_35 rfl (lv_at hl 0 rfl) ?_
      refine gt_X9_111 X hK hG rd_999 (x := (σ.1 904 0) + 1) rfl dX9_program_36 ?_
      refine lv_iconst (v := nI 1) hx hb dX9_program_39 (by decide) ?_
      refine r_subN hx hb (Nat.le_add_left 1 _) dX9_program_40 ?_
      exact rm_ret hx hb hr hlocks hG hS (by unfold m_program; rw [if_pos c_20] <;> rfl) (by unfold m_program; rw [if_pos c_20] <;> rfl) rfl dX9_program_41
    · refine lv_iconst (v := nI 0) hx hb dX9_program_23 (by decide) ?_
      exact rm_ret hx hb hr hlocks hG hS (by unfold m_program; rw [if_neg c_20] <;> rfl) (by unfold m_program; rw [if_neg c_20] <;> rfl) rfl dX9_program_24
  · refine lv_aload_n hx hb dX9_program_1 rfl (lv_at hl 0 rfl) ?_
    refine gt_X9_111 X hK hG rd_999 (x := σ.1 904 0) rfl dX9_program_2 ?_
    refine lv_bipush (v := nI 6) hx hb dX9_program_5 (by decide) ?_
    refine r_icmp_geN (tgt := 14) hx hb dX9_program_7 (by decide) (by omega) (by omega) (fun c_7 => ?_) (fun c_7 => ?_)
    · refine lv_iconst (v := nI 0) hx hb dX9_program_14 (by decide) ?_
      exact r_top ((b2i_f (fun h => by have h9 := h; first | exact c_7 h9 | exact h9 c_7 | omega)).symm) (J_15 _ _ hG hS)
    · refine lv_iconst (v := nI 1) hx hb dX9_program_10 (by decide) ?_
      refine lv_goto (tgt := 15) hx hb dX9_program_11 (by decide) ?_
      exact r_top ((b2i_t (by first | exact c_7 | omega)).symm) (J_15 _ _ hG hS)
abbrev isB (p w v : Int32) : Prop := if w = nI 0 ∨ w = nI 1 then nI 0 ≤ v ∧ v ≤ nI 1 else if w = nI 2 ∨ w = nI 3 ∨ w = nI 4 then (-11) ≤ v ∧ v ≤ nI 11 else if w = nI 5 then nI 0 ≤ v ∧ v ≤ nI 3 else w = nI 6 ∧ nI 0 ≤ v ∧ v ≤ p - nI 1
theorem isB_d {p w v : Int32} (h : w.toInt < 0 ∨ 5 < w.toInt) : isB p w v ↔ (w = nI 6 ∧ nI 0 ≤ v ∧ v ≤ p - nI 1) := by
  have e : ∀ k, k < 6 → ¬ w = nI k := by
    intro k hk z
    rw [z, nI_tz (by omega)] at h
    omega
  unfold isB
  rw [if_neg (fun z => z.elim (e 0 (by omega)) (e 1 (by omega))), if_neg (fun z => z.elim (e 2 (by omega)) (fun z => z.elim (e 3 (by omega)) (e 4 (by omega)))), if_neg (e 5 (by omega))]
set_option maxRecDepth 100000 in
set_option maxHeartbeats 4000000 in
theorem c_X9_isBlock {D : va_G} {cI cZ cO : ClassId} (l : Launch) (L : Lay) (σ : St) (ow : Nat → Prop) (p9 w v : Int32) : RM D cI cZ cO rdom l yX9_isBlock cX9_isBlock 3 ((some FieldType.boolean)) 1 22 [.int p9, .int w, .int v] L σ ow (b2i (isB p9 w v)) σ := by
  refine rm_of rfl (Nat.le_of_ble_eq_true rfl) ?_
  intro p e s m below meth c ls X hK hG hr hlocks hl
  have X : CallFix p m c cX9_isBlock 3 s _ TB RX9 := X
  have hx := X.1
  have hb := X.2.1
  have hS : va_S (AA ow s.heap.size) s.heap s.heap [] := va_S.rf
  have hA : ∀ q, ow q → AA ow s.heap.size q := fun _ h => Or.inl h
  have hl : lv_has ls 3 [(0, .int p9), (1, .int w), (2, .int v)] := hl
  refine lv_iload_n hx hb dX9_isBlock_0 rfl (lv_at hl 1 rfl) ?_
  rcases sw_split (w) 5 (by decide) with h_1 | ⟨j_1, h_1, e_1⟩
  · refine lv_tableOut (tgt := 63) hx hb dX9_isBlock_1 h_1 (by decide) ?_
    refine lv_iload_n hx hb dX9_isBlock_63 rfl (lv_at hl 1 rfl) ?_
    refine lv_bipush (v := nI 6) hx hb dX9_isBlock_64 (by decide) ?_
    refine lv_icmp_ne (tgt := 84) hx hb dX9_isBlock_66 (by decide) (fun c_66 => ?_) (fun c_66 => ?_)
    · refine lv_iconst (v := nI 0) hx hb dX9_isBlock_84 (by decide) ?_
      exact rm_ret hx hb hr hlocks hG hS (((b2i_c (isB_d h_1)).trans (b2i_f (fun h => c_66 h.1))).symm) (rfl) rfl dX9_isBlock_85
    · refine lv_iload_n hx hb dX9_isBlock_69 rfl (lv_at hl 2 rfl) ?_
      refine lv_iconst (v := nI 0) hx hb dX9_isBlock_70 (by decide) ?_
      refine lv_iload_n hx hb dX9_isBlock_71 rfl (lv_at hl 0 rfl) ?_
      refine lv_iconst (v := nI 1) hx hb dX9_isBlock_72 (by decide) ?_
      refine lv_isub hx hb dX9_isBlock_73 ?_
      refine rm_callS X hK hG hS ysX9_in ml_X9_114 [.int v, .int (nI 0), .int (p9 - (nI 1))] [] (c_X9_in l L σ ow v (nI 0) (p9 - (nI 1))) rfl hl.1 rfl (Nat.le_of_ble_eq_true rfl) ⟨Nat.le_of_ble_eq_true rfl, Nat.le_of_ble_eq_true rfl⟩ ⟨Nat.zero_le _, Nat.zero_le _⟩ dX9_isBlock_74 (fun H locs hG hS => ?_)
      refine r_if_eqB (tgt := 84) hx hb dX9_isBlock_77 (by decide) (fun c_77 => ?_) (fun c_77 => ?_)
      · refine lv_iconst (v := nI 0) hx hb dX9_isBlock_84 (by decide) ?_
        exact rm_ret hx hb hr hlocks hG hS (((b2i_c (isB_d h_1)).trans (b2i_f (fun h => c_77 h.2))).symm) (rfl) rfl dX9_isBlock_85
      · refine lv_iconst (v := nI 1) hx hb dX9_isBlock_80 (by decide) ?_
        refine lv_goto (tgt := 85) hx hb dX9_isBlock_81 (by decide) ?_
        exact rm_ret hx hb hr hlocks hG hS (((b2i_c (isB_d h_1)).trans (b2i_t ⟨c_66, c_77⟩)).symm) (rfl) rfl dX9_isBlock_85
  · rcases (by omega : j_1 = 0 ∨ j_1 = 1 ∨ j_1 = 2 ∨ j_1 = 3 ∨ j_1 = 4 ∨ j_1 = 5) with rfl | rfl | rfl | rfl | rfl | rfl
    · refine r_top (y := nI 0) e_1 ?_
      refine lv_tableIn (tgt := 40) hx hb dX9_isBlock_1 (by decide) (by decide) (off := 39) (by decide) (by decide) ?_
      refine lv_iload_n hx hb dX9_isBlock_40 rfl (lv_at hl 2 rfl) ?_
      refine lv_iconst (v := nI 0) hx hb dX9_isBlock_41 (by decide) ?_
      refine lv_iconst (v := nI 1) hx hb dX9_isBlock_42 (by decide) ?_
      refine rm_callS X hK hG hS ysX9_in ml_X9_114 [.int v, .int (nI 0), .int (nI 1)] [] (c_X9_in l L σ ow v (nI 0) (nI 1)) rfl hl.1 rfl (Nat.le_of_ble_eq_true rfl) ⟨Nat.le_of_ble_eq_true rfl, Nat.le_of_ble_eq_true rfl⟩ ⟨Nat.zero_le _, Nat.zero_le _⟩ dX9_isBlock_43 (fun H locs hG hS => ?_)
      exact rm_ret hx hb hr hlocks hG hS (b2i_c (by rw [e_1]; unfold isB; rw [if_pos (by decide)])) (rfl) b2i_z dX9_isBlock_46
    · refine r_top (y := nI 1) e_1 ?_
      refine lv_tableIn (tgt := 40) hx hb dX9_isBlock_1 (by decide) (by decide) (off := 39) (by decide) (by decide) ?_
      refine lv_iload_n hx hb dX9_isBlock_40 rfl (lv_at hl 2 rfl) ?_
      refine lv_iconst (v := nI 0) hx hb dX9_isBlock_41 (by decide) ?_
      refine lv_iconst (v := nI 1) hx hb dX9_isBlock_42 (by decide) ?_
      refine rm_callS X hK hG hS ysX9_in ml_X9_114 [.int v, .int (nI 0), .int (nI 1)] [] (c_X9_in l L σ ow v (nI 0) (nI 1)) rfl hl.1 rfl (Nat.le_of_ble_eq_true rfl) ⟨Nat.le_of_ble_eq_true rfl, Nat.le_of_ble_eq_true rfl⟩ ⟨Nat.zero_le _, Nat.zero_le _⟩ dX9_isBlock_43 (fun H locs hG hS => ?_)
      exact rm_ret hx hb hr hlocks hG hS (b2i_c (by rw [e_1]; unfold isB; rw [if_pos (by decide)])) (rfl) b2i_z dX9_isBlock_46
    · refine r_top (y := nI 2) e_1 ?_
      refine lv_tableIn (tgt := 47) hx hb dX9_isBlock_1 (by decide) (by decide) (off := 46) (by decide) (by decide) ?_
      refine lv_iload_n hx hb dX9_isBlock_47 rfl (lv_at hl 2 rfl) ?_
      refine lv_bipush (v := (-11)) hx hb dX9_isBlock_48 (by decide) ?_
      refine lv_bipush (v := nI 11) hx hb dX9_isBlock_50 (by decide) ?_
      refine rm_callS X hK hG hS ysX9_in ml_X9_114 [.int v, .int (-11), .int (nI 11)] [] (c_X9_in l L σ ow v (-11) (nI 11)) rfl hl.1 rfl (Nat.le_of_ble_eq_true rfl) ⟨Nat.le_of_ble_eq_true rfl, Nat.le_of_ble_eq_true rfl⟩ ⟨Nat.zero_le _, Nat.zero_le _⟩ dX9_isBlock_52 (fun H locs hG hS => ?_)
      exact rm_ret hx hb hr hlocks hG hS (b2i_c (by rw [e_1]; unfold isB; rw [if_neg (by decide), if_pos (by decide)])) (rfl) b2i_z dX9_isBlock_55
    · refine r_top (y := nI 3) e_1 ?_
      refine lv_tableIn (tgt := 47) hx hb dX9_isBlock_1 (by decide) (by decide) (off := 46) (by decide) (by decide) ?_
      refine lv_iload_n hx hb dX9_isBlock_47 rfl (lv_at hl 2 rfl) ?_
      refine lv_bipush (v := (-11)) hx hb dX9_isBlock_48 (by decide) ?_
      refine lv_bipush (v := nI 11) hx hb dX9_isBlock_50 (by decide) ?_
      refine rm_callS X hK hG hS ysX9_in ml_X9_114 [.int v, .int (-11), .int (nI 11)] [] (c_X9_in l L σ ow v (-11) (nI 11)) rfl hl.1 rfl (Nat.le_of_ble_eq_true rfl) ⟨Nat.le_of_ble_eq_true rfl, Nat.le_of_ble_eq_true rfl⟩ ⟨Nat.zero_le _, Nat.zero_le _⟩ dX9_isBlock_52 (fun H locs hG hS => ?_)
      exact rm_ret hx hb hr hlocks hG hS (b2i_c (by rw [e_1]; unfold isB; rw [if_neg (by decide), if_pos (by decide)])) (rfl) b2i_z dX9_isBlock_55
    · refine r_top (y := nI 4) e_1 ?_
      refine lv_tableIn (tgt := 47) hx hb dX9_isBlock_1 (by decide) (by decide) (off := 46) (by decide) (by decide) ?_
      refine lv_iload_n hx hb dX9_isBlock_47 rfl (lv_at hl 2 rfl) ?_
      refine lv_bipush (v := (-11)) hx hb dX9_isBlock_48 (by decide) ?_
      refine lv_bipush (v := nI 11) hx hb dX9_isBlock_50 (by decide) ?_
      refine rm_callS X hK hG hS ysX9_in ml_X9_114 [.int v, .int (-11), .int (nI 11)] [] (c_X9_in l L σ ow v (-11) (nI 11)) rfl hl.1 rfl (Nat.le_of_ble_eq_true rfl) ⟨Nat.le_of_ble_eq_true rfl, Nat.le_of_ble_eq_true rfl⟩ ⟨Nat.zero_le _, Nat.zero_le _⟩ dX9_isBlock_52 (fun H locs hG hS => ?_)
      exact rm_ret hx hb hr hlocks hG hS (b2i_c (by rw [e_1]; unfold isB; rw [if_neg (by decide), if_pos (by decide)])) (rfl) b2i_z dX9_isBlock_55
    · refine r_top (y := nI 5) e_1 ?_
      refine lv_tableIn (tgt := 56) hx hb dX9_isBlock_1 (by decide) (by decide) (off := 55) (by decide) (by decide) ?_
      refine lv_iload_n hx hb dX9_isBlock_56 rfl (lv_at hl 2 rfl) ?_
      refine lv_iconst (v := nI 0) hx hb dX9_isBlock_57 (by decide) ?_
      refine lv_iconst (v := nI 3) hx hb dX9_isBlock_58 (by decide) ?_
      refine rm_callS X hK hG hS ysX9_in ml_X9_114 [.int v, .int (nI 0), .int (nI 3)] [] (c_X9_in l L σ ow v (nI 0) (nI 3)) rfl hl.1 rfl (Nat.le_of_ble_eq_true rfl) ⟨Nat.le_of_ble_eq_true rfl, Nat.le_of_ble_eq_true rfl⟩ ⟨Nat.zero_le _, Nat.zero_le _⟩ dX9_isBlock_59 (fun H locs hG hS => ?_)
      exact rm_ret hx hb hr hlocks hG hS (b2i_c (by rw [e_1]; unfold isB; rw [if_neg (by decide), if_neg (by decide), if_pos (by decide)])) (rfl) b2i_z dX9_isBlock_62
def m_block (p9 w v : Int32) (σ : St) : Int32 × St := if (ix p9 (σ.1 904 0)) ∧ (isB p9 w v) ∧ (ix p9 (σ.1 904 0) ∧ σ.2.2.1 903 0 (tn p9) < 30 ∧ σ.1 926 0 = 0) then (nI ((σ.2.2.1 903 0 (tn p9)) + 1), (wA (wB (wB (m_g (ix p9 (σ.1 904 0)) (isB p9 w v) (ix p9 (σ.1 904 0) ∧ σ.2.2.1 903 0 (tn p9) < 30 ∧ σ.1 926 0 = 0) σ) 902 0 ((60 * (tn p9)) + (2 * (σ.2.2.1 903 0 (tn p9)))) w) 902 0 (((60 * (tn p9)) + (2 * (σ.2.2.1 903 0 (tn p9)))) + 1) v) 903 0 (tn p9) ((σ.2.2.1 903 0 (tn p9)) + 1))) else (nI 0, (m_g (ix p9 (σ.1 904 0)) (isB p9 w v) (ix p9 (σ.1 904 0) ∧ σ.2.2.1 903 0 (tn p9) < 30 ∧ σ.1 926 0 = 0) σ))
set_option maxRecDepth 100000 in
set_option maxHeartbeats 4000000 in
theorem c_X9_block {D : va_G} {cI cZ cO : ClassId} (l : Launch) (L : Lay) (σ : St) (ow : Nat → Prop) (p9 w v : Int32) (hP : σ.1 904 0 ≤ 6) (hs : ∀ k, σ.2.2.1 903 0 k ≤ 30) (hq : σ.1 926 0 ≤ 6) : RM D cI cZ cO rdom l yX9_block cX9_block 5 ((some FieldType.int)) 2 44 [.ref (L 999 0), .int p9, .int w, .int v] L σ ow ((m_block p9 w v σ).1) ((m_block p9 w v σ).2) := by
  refine rm_of rfl (Nat.le_of_ble_eq_true rfl) ?_
  intro p e s m below meth c ls X hK hG hr hlocks hl
  have X : CallFix p m c cX9_block 5 s _ TB RX9 := X
  have hx := X.1
  have hb := X.2.1
  have hS : va_S (AA ow s.heap.size) s.heap s.heap [] := va_S.rf
  have hA : ∀ q, ow q → AA ow s.heap.size q := fun _ h => Or.inl h
  have hl : lv_has ls 5 [(0, .ref (L 999 0)), (1, .int p9), (2, .int w), (3, .int v)] := hl
  refine lv_aload_n hx hb dX9_block_0 rfl (lv_at hl 0 rfl) ?_
  refine lv_iload_n hx hb dX9_block_1 rfl (lv_at hl 1 rfl) ?_
  refine rm_callV X hK hG hS yvX9_isProgram ml_X9_131 kX9 rfl rd_999 [.int p9] [] (c_X9_isProgram l L σ ow p9 (by omega)) rfl hl.1 rfl (Nat.le_of_ble_eq_true rfl) ⟨Nat.le_of_ble_eq_true rfl, Nat.le_of_ble_eq_true rfl⟩ ⟨Nat.zero_le _, Nat.zero_le _⟩ dX9_block_2 (fun H locs hG hS => ?_)
  refine lv_istore (lv' := [(4, .int (b2i (ix p9 (σ.1 904 0)))), (0, .ref (L 999 0)), (1, .int p9), (2, .int w), (3, .int v)]) hx hb dX9_block_5 hl (by decide) rfl (fun ls hl => ?_)
  refine lv_aload_n hx hb dX9_block_7 rfl (lv_at hl 1 rfl) ?_
  refine lv_iload hx hb dX9_block_8 (lv_at hl 0 rfl) ?_
  refine lv_iload_n hx hb dX9_block_10 rfl (lv_at hl 2 rfl) ?_
  refine lv_iload_n hx hb dX9_block_11 rfl (lv_at hl 3 rfl) ?_
  refine lv_iload_n hx hb dX9_block_12 rfl (lv_at hl 4 rfl) ?_
  refine rm_callS X hK hG hS ysX9_isBlock ml_X9_135 [.int p9, .int w, .int v] [.int (b2i (ix p9 (σ.1 904 0))), .ref (L 999 0)] (c_X9_isBlock l L σ ow p9 w v) rfl hl.1 rfl (Nat.le_of_ble_eq_true rfl) ⟨Nat.le_of_ble_eq_true rfl, Nat.le_of_ble_eq_true rfl⟩ ⟨Nat.zero_le _, Nat.zero_le _⟩ dX9_block_13 (fun H locs hG hS => ?_)
  refine r_cutH 44 [.int (b2i (ix p9 (σ.1 904 0) ∧ σ.2.2.1 903 0 (tn p9) < 30 ∧ σ.1 926 0 = 0)), .int (b2i (isB p9 w v)), .int (b2i (ix p9 (σ.1 904 0))), .ref (L 999 0)] hG hS (fun H locs hG hS => ?_) (fun J_44 => ?_)
  · refine rm_callV X hK hG hS yvX9_goes ml_X9_127 kX9 rfl rd_999 [.int (b2i (ix p9 (σ.1 904 0))), .int (b2i (isB p9 w v)), .int (b2i (ix p9 (σ.1 904 0) ∧ σ.2.2.1 903 0 (tn p9) < 30 ∧ σ.1 926 0 = 0))] [] (c_X9_goes l L σ ow (ix p9 (σ.1 904 0)) (isB p9 w v) (ix p9 (σ.1 904 0) ∧ σ.2.2.1 903 0 (tn p9) < 30 ∧ σ.1 926 0 = 0)) rfl hl.1 rfl (Nat.le_of_ble_eq_true rfl) ⟨Nat.le_of_ble_eq_true rfl, Nat.le_of_ble_eq_true rfl⟩ ⟨Nat.zero_le _, Nat.zero_le _⟩ dX9_block_44 (fun H locs hG hS => ?_)
    refine r_if_neB (tgt := 52) hx hb dX9_block_47 (by decide) (fun c_47 => ?_) (fun c_47 => ?_)
    · refine lv_aload_n hx hb dX9_block_52 rfl (lv_at hl 1 rfl) ?_
      refine gt_X9_7 X hK hG rd_999 dX9_block_53 ?_
      refine lv_bipush (v := nI 60) hx hb dX9_block_56 (by decide) ?_
      refine lv_iload_n hx hb dX9_block_58 rfl (lv_at hl 2 rfl) ?_
      refine r_top (y := nI (tn p9)) (ix_eq c_47.1) ?_
      refine r_mulN hx hb dX9_block_59 ?_
      refine lv_iconst (v := nI 2) hx hb dX9_block_60 (by decide) ?_
      refine lv_aload_n hx hb dX9_block_61 rfl (lv_at hl 1 rfl) ?_
      refine gt_X9_13 X hK hG rd_999 dX9_block_62 ?_
      refine lv_iload_n hx hb dX9_block_65 rfl (lv_at hl 2 rfl) ?_
      refine r_top (y := nI (tn p9)) (ix_eq c_47.1) ?_
      refine al_903 X hK hG rd_903 (i := tn p9) (x := σ.2.2.1 903 0 (tn p9)) (by have := ix_lt c_47.1; have := c_47.2.2.2.1; omega) rfl dX9_block_66 ?_
      refine r_mulN hx hb dX9_block_67 ?_
      refine r_addN hx hb dX9_block_68 ?_
      refine lv_iload_n hx hb dX9_block_69 rfl (lv_at hl 3 rfl) ?_
      refine as_902 X hK hG hS hA rd_902 (i := (60 * (tn p9)) + (2 * (σ.2.2.1 903 0 (tn p9)))) (by have := ix_lt c_47.1; have := c_47.2.2.2.1; omega) dX9_block_70 (fun H locs hG hS => ?_)
      refine lv_aload_n hx hb dX9_block_71 rfl (lv_at hl 1 rfl) ?_
      refine gt_X9_7 X hK hG rd_999 dX9_block_72 ?_
      refine lv_bipush (v := nI 60) hx hb dX9_block_75 (by decide) ?_
      refine lv_iload_n hx hb dX9_block_77 rfl (lv_at hl 2 rfl) ?_
      refine r_top (y := nI (tn p9)) (ix_eq c_47.1) ?_
      refine r_mulN hx hb dX9_block_78 ?_
      refine lv_iconst (v := nI 2) hx hb dX9_block_79 (by decide) ?_
      refine lv_aload_n hx hb dX9_block_80 rfl (lv_at hl 1 rfl) ?_
      refine gt_X9_13 X hK hG rd_999 dX9_block_81 ?_
      refine lv_iload_n hx hb dX9_block_84 rfl (lv_at hl 2 rfl) ?_
      refine r_top (y := nI (tn p9)) (ix_eq c_47.1) ?_
      refine al_903 X hK hG rd_903 (i := tn p9) (x := σ.2.2.1 903 0 (tn p9)) (by have := ix_lt c_47.1; have := c_47.2.2.2.1; omega) rfl dX9_block_85 ?_
      refine r_mulN hx hb dX9_block_86 ?_
      refine r_addN hx hb dX9_block_87 ?_
      refine lv_iconst (v := nI 1) hx hb dX9_block_88 (by decide) ?_
      refine r_addN hx hb dX9_block_89 ?_
      refine lv_iload_n hx hb dX9_block_90 rfl (lv_at hl 4 rfl) ?_
      refine as_902 X hK hG hS hA rd_902 (i := ((60 * (tn p9)) + (2 * (σ.2.2.1 903 0 (tn p9)))) + 1) (by have := ix_lt c_47.1; have := c_47.2.2.2.1; omega) dX9_block_91 (fun H locs hG hS => ?_)
      refine lv_aload_n hx hb dX9_block_92 rfl (lv_at hl 1 rfl) ?_
      refine gt_X9_13 X hK hG rd_999 dX9_block_93 ?_
      refine lv_iload_n hx hb dX9_block_96 rfl (lv_at hl 2 rfl) ?_
      refine r_top (y := nI (tn p9)) (ix_eq c_47.1) ?_
      refine lv_dup2_11 hx hb dX9_block_97 rfl rfl ?_
      refine al_903 X hK hG rd_903 (i := tn p9) (x := σ.2.2.1 903 0 (tn p9)) (by have := ix_lt c_47.1; have := c_47.2.2.2.1; omega) rfl dX9_block_98 ?_
      refine lv_iconst (v := nI 1) hx hb dX9_block_99 (by decide) ?_
      refine r_addN hx hb dX9_block_100 ?_
      refine as_903 X hK hG hS hA rd_903 (i := tn p9) (by have := ix_lt c_47.1; have := c_47.2.2.2.1; omega) dX9_block_101 (fun H locs hG hS => ?_)
      refine lv_aload_n hx hb dX9_block_102 rfl (lv_at hl 1 rfl) ?_
      refine gt_X9_13 X hK hG rd_999 dX9_block_103 ?_
      refine lv_iload_n hx hb dX9_block_106 rfl (lv_at hl 2 rfl) ?_
      refine r_top (y := nI (tn p9)) (ix_eq c_47.1) ?_
      refine al_903 X hK hG rd_903 (i := tn p9) (x := (σ.2.2.1 903 0 (tn p9)) + 1) (by have := ix_lt c_47.1; have := c_47.2.2.2.1; omega) (by simp [wN, wI, wA, wB, up3, up2, up1]) dX9_block_107 ?_
      exact rm_ret hx hb hr hlocks hG hS (by unfold m_block; rw [if_pos c_47] <;> rfl) (by unfold m_block; rw [if_pos c_47] <;> rfl) rfl dX9_block_108
    · refine lv_iconst (v := nI 0) hx hb dX9_block_50 (by decide) ?_
      exact rm_ret hx hb hr hlocks hG hS (by unfold m_block; rw [if_neg c_47] <;> rfl) (by unfold m_block; rw [if_neg c_47] <;> rfl) rfl dX9_block_51
  · refine lv_iload hx hb dX9_block_16 (lv_at hl 0 rfl) ?_
    refine r_if_eqB (tgt := 43) hx hb dX9_block_18 (by decide) (fun c_18 => ?_) (fun c_18 => ?_)
    · refine lv_iconst (v := nI 0) hx hb dX9_block_43 (by decide) ?_
      exact r_top ((b2i_f (fun h => by have h9 := h.1; first | exact c_18 h9 | exact h9 c_18 | omega)).symm) (J_44 _ _ hG hS)
    · refine lv_aload_n hx hb dX9_block_21 rfl (lv_at hl 1 rfl) ?_
      refine gt_X9_13 X hK hG rd_999 dX9_block_22 ?_
      refine lv_iload_n hx hb dX9_block_25 rfl (lv_at hl 2 rfl) ?_
      refine r_top (y := nI (tn p9)) (ix_eq c_18) ?_
      refine al_903 X hK hG rd_903 (i := tn p9) (x := σ.2.2.1 903 0 (tn p9)) (by have := ix_lt c_18; omega) rfl dX9_block_26 ?_
      refine lv_bipush (v := nI 30) hx hb dX9_block_27 (by decide) ?_
      refine r_icmp_geN (tgt := 43) hx hb dX9_block_29 (by decide) (by have := hs (tn p9); omega) (by decide) (fun c_29 => ?_) (fun c_29 => ?_)
      · refine lv_iconst (v := nI 0) hx hb dX9_block_43 (by decide) ?_
        exact r_top ((b2i_f (fun h => by have h9 := h.2.1; first | exact c_29 h9 | exact h9 c_29 | omega)).symm) (J_44 _ _ hG hS)
      · refine lv_aload_n hx hb dX9_block_32 rfl (lv_at hl 1 rfl) ?_
        refine gt_X9_138 X hK hG rd_999 (x := σ.1 926 0) rfl dX9_block_33 ?_
        refine r_if_neN (tgt := 43) hx hb dX9_block_36 (by decide) (by omega) (fun c_36 => ?_) (fun c_36 => ?_)
        · refine lv_iconst (v := nI 0) hx hb dX9_block_43 (by decide) ?_
          exact r_top ((b2i_f (fun h => by have h9 := h.2.2; first | exact c_36 h9 | exact h9 c_36 | omega)).symm) (J_44 _ _ hG hS)
        · refine lv_iconst (v := nI 1) hx hb dX9_block_39 (by decide) ?_
          refine lv_goto (tgt := 44) hx hb dX9_block_40 (by decide) ?_
          exact r_top ((b2i_t (by refine ⟨?_, ?_, ?_⟩ <;> first | assumption | omega)).symm) (J_44 _ _ hG hS)
def m_map (x v : Int32) (σ : St) : Int32 × St := if (ix x 12 ∧ (-50 ≤ v.toInt ∧ v.toInt ≤ 50)) ∧ (True) ∧ (True) then (σ.2.2.2 905 0 (tn x), (wB (m_g (ix x 12 ∧ (-50 ≤ v.toInt ∧ v.toInt ≤ 50)) (True) (True) σ) 905 0 (tn x) v)) else (nI 0, (m_g (ix x 12 ∧ (-50 ≤ v.toInt ∧ v.toInt ≤ 50)) (True) (True) σ))
set_option maxRecDepth 100000 in
set_option maxHeartbeats 4000000 in
theorem c_X9_map {D : va_G} {cI cZ cO : ClassId} (l : Launch) (L : Lay) (σ : St) (ow : Nat → Prop) (x v : Int32) : RM D cI cZ cO rdom l yX9_map cX9_map 4 ((some FieldType.int)) 1 23 [.ref (L 999 0), .int x, .int v] L σ ow ((m_map x v σ).1) ((m_map x v σ).2) := by
  refine rm_of rfl (Nat.le_of_ble_eq_true rfl) ?_
  intro p e s m below meth c ls X hK hG hr hlocks hl
  have X : CallFix p m c cX9_map 4 s _ TB RX9 := X
  have hx := X.1
  have hb := X.2.1
  have hS : va_S (AA ow s.heap.size) s.heap s.heap [] := va_S.rf
  have hA : ∀ q, ow q → AA ow s.heap.size q := fun _ h => Or.inl h
  have hl : lv_has ls 4 [(0, .ref (L 999 0)), (1, .int x), (2, .int v)] := hl
  refine lv_aload_n hx hb dX9_map_0 rfl (lv_at hl 0 rfl) ?_
  refine r_cutH 27 [.int (b2i (ix x 12 ∧ (-50 ≤ v.toInt ∧ v.toInt ≤ 50))), .ref (L 999 0)] hG hS (fun H locs hG hS => ?_) (fun J_27 => ?_)
  · refine lv_iconst (v := nI 1) hx hb dX9_map_27 (by decide) ?_
    refine lv_iconst (v := nI 1) hx hb dX9_map_28 (by decide) ?_
    refine rm_callV X hK hG hS yvX9_goes ml_X9_127 kX9 rfl rd_999 [.int (b2i (ix x 12 ∧ (-50 ≤ v.toInt ∧ v.toInt ≤ 50))), .int (nI 1), .int (nI 1)] [] (c_X9_goes l L σ ow (ix x 12 ∧ (-50 ≤ v.toInt ∧ v.toInt ≤ 50)) (True) (True)) rfl hl.1 rfl (Nat.le_of_ble_eq_true rfl) ⟨Nat.le_of_ble_eq_true rfl, Nat.le_of_ble_eq_true rfl⟩ ⟨Nat.zero_le _, Nat.zero_le _⟩ dX9_map_29 (fun H locs hG hS => ?_)
    refine r_if_neB (tgt := 37) hx hb dX9_map_32 (by decide) (fun c_32 => ?_) (fun c_32 => ?_)
    · refine lv_aload_n hx hb dX9_map_37 rfl (lv_at hl 0 rfl) ?_
      refine gt_X9_16 X hK hG rd_999 dX9_map_38 ?_
      refine lv_iload_n hx hb dX9_map_41 rfl (lv_at hl 1 rfl) ?_
      refine r_top (y := nI (tn x)) (ix_eq c_32.1.1) ?_
      refine al_905 X hK hG rd_905 (i := tn x) (x := σ.2.2.2 905 0 (tn x)) (ix_lt c_32.1.1) rfl dX9_map_42 ?_
      refine lv_istore_n (lv' := [(3, .int (σ.2.2.2 905 0 (tn x))), (0, .ref (L 999 0)), (1, .int x), (2, .int v)]) hx hb dX9_map_43 rfl hl (by decide) rfl (fun ls hl => ?_)
      refine lv_aload_n hx hb dX9_map_44 rfl (lv_at hl 1 rfl) ?_
      refine gt_X9_16 X hK hG rd_999 dX9_map_45 ?_
      refine lv_iload_n hx hb dX9_map_48 rfl (lv_at hl 2 rfl) ?_
      refine r_top (y := nI (tn x)) (ix_eq c_32.1.1) ?_
      refine lv_iload_n hx hb dX9_map_49 rfl (lv_at hl 3 rfl) ?_
      refine as_905 X hK hG hS hA rd_905 (i := tn x) (ix_lt c_32.1.1) dX9_map_50 (fun H locs hG hS => ?_)
      refine lv_iload_n hx hb dX9_map_51 rfl (lv_at hl 0 rfl) ?_
      exact rm_ret hx hb hr hlocks hG hS (by unfold m_map; rw [if_pos c_32] <;> rfl) (by unfold m_map; rw [if_pos c_32] <;> rfl) rfl dX9_map_52
    · refine lv_iconst (v := nI 0) hx hb dX9_map_35 (by decide) ?_
      exact rm_ret hx hb hr hlocks hG hS (by unfold m_map; rw [if_neg c_32] <;> rfl) (by unfold m_map; rw [if_neg c_32] <;> rfl) rfl dX9_map_36
  · refine lv_iload_n hx hb dX9_map_1 rfl (lv_at hl 1 rfl) ?_
    refine lv_iconst (v := nI 0) hx hb dX9_map_2 (by decide) ?_
    refine lv_bipush (v := nI 11) hx hb dX9_map_3 (by decide) ?_
    refine rm_callS X hK hG hS ysX9_in ml_X9_114 [.int x, .int (nI 0), .int (nI 11)] [.ref (L 999 0)] (c_X9_in l L σ ow x (nI 0) (nI 11)) rfl hl.1 rfl (Nat.le_of_ble_eq_true rfl) ⟨Nat.le_of_ble_eq_true rfl, Nat.le_of_ble_eq_true rfl⟩ ⟨Nat.zero_le _, Nat.zero_le _⟩ dX9_map_5 (fun H locs hG hS => ?_)
    refine r_top (y := b2i (ix x 12)) (b2i_c (rg_z 11 (by decide))) ?_
    refine r_if_eqB (tgt := 26) hx hb dX9_map_8 (by decide) (fun c_8 => ?_) (fun c_8 => ?_)
    · refine lv_iconst (v := nI 0) hx hb dX9_map_26 (by decide) ?_
      exact r_top ((b2i_f (fun h => by have h9 := h.1; first | exact c_8 h9 | exact h9 c_8 | omega)).symm) (J_27 _ _ hG hS)
    · refine lv_iload_n hx hb dX9_map_11 rfl (lv_at hl 2 rfl) ?_
      refine lv_bipush (v := (-50)) hx hb dX9_map_12 (by decide) ?_
      refine lv_bipush (v := nI 50) hx hb dX9_map_14 (by decide) ?_
      refine rm_callS X hK hG hS ysX9_in ml_X9_114 [.int v, .int (-50), .int (nI 50)] [.ref (L 999 0)] (c_X9_in l L σ ow v (-50) (nI 50)) rfl hl.1 rfl (Nat.le_of_ble_eq_true rfl) ⟨Nat.le_of_ble_eq_true rfl, Nat.le_of_ble_eq_true rfl⟩ ⟨Nat.zero_le _, Nat.zero_le _⟩ dX9_map_16 (fun H locs hG hS => ?_)
      refine r_top (y := b2i (-50 ≤ v.toInt ∧ v.toInt ≤ 50)) (b2i_c (rg_i (-50) 50 rfl rfl)) ?_
      refine r_if_eqB (tgt := 26) hx hb dX9_map_19 (by decide) (fun c_19 => ?_) (fun c_19 => ?_)
      · refine lv_iconst (v := nI 0) hx hb dX9_map_26 (by decide) ?_
        exact r_top ((b2i_f (fun h => by have h9 := h.2; first | exact c_19 h9 | exact h9 c_19 | omega)).symm) (J_27 _ _ hG hS)
      · refine lv_iconst (v := nI 1) hx hb dX9_map_22 (by decide) ?_
        refine lv_goto (tgt := 27) hx hb dX9_map_23 (by decide) ?_
        exact r_top ((b2i_t (by refine ⟨?_, ?_⟩ <;> first | assumption | omega)).symm) (J_27 _ _ hG hS)
def m_tool (k9 v : Int32) (σ : St) : Int32 × St := if (ix k9 4 ∧ (1 ≤ v.toInt ∧ v.toInt ≤ 500)) ∧ (σ.1 914 0 < 16) ∧ (True) then (nI (((σ.1 914 0) + 1) - 1), (wN (wA (wB (m_g (ix k9 4 ∧ (1 ≤ v.toInt ∧ v.toInt ≤ 500)) (σ.1 914 0 < 16) (True) σ) 906 0 (σ.1 914 0) k9) 907 0 (σ.1 914 0) (tn v)) 914 0 ((σ.1 914 0) + 1))) else (nI 0, (m_g (ix k9 4 ∧ (1 ≤ v.toInt ∧ v.toInt ≤ 500)) (σ.1 914 0 < 16) (True) σ))
set_option maxRecDepth 100000 in
set_option maxHeartbeats 4000000 in
theorem c_X9_tool {D : va_G} {cI cZ cO : ClassId} (l : Launch) (L : Lay) (σ : St) (ow : Nat → Prop) (k9 v : Int32) (hT : σ.1 914 0 ≤ 16) : RM D cI cZ cO rdom l yX9_tool cX9_tool 3 ((some FieldType.int)) 1 23 [.ref (L 999 0), .int k9, .int v] L σ ow ((m_tool k9 v σ).1) ((m_tool k9 v σ).2) := by
  refine rm_of rfl (Nat.le_of_ble_eq_true rfl) ?_
  intro p e s m below meth c ls X hK hG hr hlocks hl
  have X : CallFix p m c cX9_tool 3 s _ TB RX9 := X
  have hx := X.1
  have hb := X.2.1
  have hS : va_S (AA ow s.heap.size) s.heap s.heap [] := va_S.rf
  have hA : ∀ q, ow q → AA ow s.heap.size q := fun _ h => Or.inl h
  have hl : lv_has ls 3 [(0, .ref (L 999 0)), (1, .int k9), (2, .int v)] := hl
  refine lv_aload_n hx hb dX9_tool_0 rfl (lv_at hl 0 rfl) ?_
  refine r_cutH 26 [.int (b2i (ix k9 4 ∧ (1 ≤ v.toInt ∧ v.toInt ≤ 500))), .ref (L 999 0)] hG hS (fun H locs hG hS => ?_) (fun J_26 => ?_)
  · refine r_cutH 40 [.int (b2i (σ.1 914 0 < 16)), .int (b2i (ix k9 4 ∧ (1 ≤ v.toInt ∧ v.toInt ≤ 500))), .ref (L 999 0)] hG hS (fun H locs hG hS => ?_) (fun J_40 => ?_)
    · refine lv_iconst (v := nI 1) hx hb dX9_tool_40 (by decide) ?_
      refine rm_callV X hK hG hS yvX9_goes ml_X9_127 kX9 rfl rd_999 [.int (b2i (ix k9 4 ∧ (1 ≤ v.toInt ∧ v.toInt ≤ 500))), .int (b2i (σ.1 914 0 < 16)), .int (nI 1)] [] (c_X9_goes l L σ ow (ix k9 4 ∧ (1 ≤ v.toInt ∧ v.toInt ≤ 500)) (σ.1 914 0 < 16) (True)) rfl hl.1 rfl (Nat.le_of_ble_eq_true rfl) ⟨Nat.le_of_ble_eq_true rfl, Nat.le_of_ble_eq_true rfl⟩ ⟨Nat.zero_le _, Nat.zero_le _⟩ dX9_tool_41 (fun H locs hG hS => ?_)
      refine r_if_neB (tgt := 49) hx hb dX9_tool_44 (by decide) (fun c_44 => ?_) (fun c_44 => ?_)
      · refine lv_aload_n hx hb dX9_tool_49 rfl (lv_at hl 0 rfl) ?_
        refine gt_X9_19 X hK hG rd_999 dX9_tool_50 ?_
        refine lv_aload_n hx hb dX9_tool_53 rfl (lv_at hl 0 rfl) ?_
        refine gt_X9_118 X hK hG rd_999 (x := σ.1 914 0) rfl dX9_tool_54 ?_
        refine lv_iload_n hx hb dX9_tool_57 rfl (lv_at hl 1 rfl) ?_
        refine as_906 X hK hG hS hA rd_906 (i := σ.1 914 0) (c_44.2.1) dX9_tool_58 (fun H locs hG hS => ?_)
        refine lv_aload_n hx hb dX9_tool_59 rfl (lv_at hl 0 rfl) ?_
        refine gt_X9_22 X hK hG rd_999 dX9_tool_60 ?_
        refine lv_aload_n hx hb dX9_tool_63 rfl (lv_at hl 0 rfl) ?_
        refine gt_X9_118 X hK hG rd_999 (x := σ.1 914 0) rfl dX9_tool_64 ?_
        refine lv_iload_n hx hb dX9_tool_67 rfl (lv_at hl 2 rfl) ?_
        refine r_top (y := nI (tn v)) (ix_eq (n := 501) (by have := c_44.1.2; exact ⟨by omega, by omega⟩)) ?_
        refine as_907 X hK hG hS hA rd_907 (i := σ.1 914 0) (c_44.2.1) dX9_tool_68 (fun H locs hG hS => ?_)
        refine lv_aload_n hx hb dX9_tool_69 rfl (lv_at hl 0 rfl) ?_
        refine lv_dup hx hb dX9_tool_70 rfl ?_
        refine gt_X9_118 X hK hG rd_999 (x := σ.1 914 0) rfl dX9_tool_71 ?_
        refine lv_iconst (v := nI 1) hx hb dX9_tool_74 (by decide) ?_
        refine r_addN hx hb dX9_tool_75 ?_
        refine pt_X9_118 X hK hG hS hA rd_999 dX9_tool_76 (fun H locs hG hS => ?_)
        refine lv_aload_n hx hb dX9_tool_79 rfl (lv_at hl 0 rfl) ?_
        refine gt_X9_118 X hK hG rd_999 (x := (σ.1 914 0) + 1) rfl dX9_tool_80 ?_
        refine lv_iconst (v := nI 1) hx hb dX9_tool_83 (by decide) ?_
        refine r_subN hx hb (Nat.le_add_left 1 _) dX9_tool_84 ?_
        exact rm_ret hx hb hr hlocks hG hS (by unfold m_tool; rw [if_pos c_44] <;> rfl) (by unfold m_tool; rw [if_pos c_44] <;> rfl) rfl dX9_tool_85
      · refine lv_iconst (v := nI 0) hx hb dX9_tool_47 (by decide) ?_
        exact rm_ret hx hb hr hlocks hG hS (by unfold m_tool; rw [if_neg c_44] <;> rfl) (by unfold m_tool; rw [if_neg c_44] <;> rfl) rfl dX9_tool_48
    · refine lv_aload_n hx hb dX9_tool_26 rfl (lv_at hl 0 rfl) ?_
      refine gt_X9_118 X hK hG rd_999 (x := σ.1 914 0) rfl dX9_tool_27 ?_
      refine lv_bipush (v := nI 16) hx hb dX9_tool_30 (by decide) ?_
      refine r_icmp_geN (tgt := 39) hx hb dX9_tool_32 (by decide) (by omega) (by omega) (fun c_32 => ?_) (fun c_32 => ?_)
      · refine lv_iconst (v := nI 0) hx hb dX9_tool_39 (by decide) ?_
        exact r_top ((b2i_f (fun h => by have h9 := h; first | exact c_32 h9 | exact h9 c_32 | omega)).symm) (J_40 _ _ hG hS)
      · refine lv_iconst (v := nI 1) hx hb dX9_tool_35 (by decide) ?_
        refine lv_goto (tgt := 40) hx hb dX9_tool_36 (by decide) ?_
        exact r_top ((b2i_t (by first | exact c_32 | omega)).symm) (J_40 _ _ hG hS)
  · refine lv_iload_n hx hb dX9_tool_1 rfl (lv_at hl 1 rfl) ?_
    refine lv_iconst (v := nI 0) hx hb dX9_tool_2 (by decide) ?_
    refine lv_iconst (v := nI 3) hx hb dX9_tool_3 (by decide) ?_
    refine rm_callS X hK hG hS ysX9_in ml_X9_114 [.int k9, .int (nI 0), .int (nI 3)] [.ref (L 999 0)] (c_X9_in l L σ ow k9 (nI 0) (nI 3)) rfl hl.1 rfl (Nat.le_of_ble_eq_true rfl) ⟨Nat.le_of_ble_eq_true rfl, Nat.le_of_ble_eq_true rfl⟩ ⟨Nat.zero_le _, Nat.zero_le _⟩ dX9_tool_4 (fun H locs hG hS => ?_)
    refine r_top (y := b2i (ix k9 4)) (b2i_c (rg_z 3 (by decide))) ?_
    refine r_if_eqB (tgt := 25) hx hb dX9_tool_7 (by decide) (fun c_7 => ?_) (fun c_7 => ?_)
    · refine lv_iconst (v := nI 0) hx hb dX9_tool_25 (by decide) ?_
      exact r_top ((b2i_f (fun h => by have h9 := h.1; first | exact c_7 h9 | exact h9 c_7 | omega)).symm) (J_26 _ _ hG hS)
    · refine lv_iload_n hx hb dX9_tool_10 rfl (lv_at hl 2 rfl) ?_
      refine lv_iconst (v := nI 1) hx hb dX9_tool_11 (by decide) ?_
      refine lv_sipush (v := nI 500) hx hb dX9_tool_12 (by decide) ?_
      refine rm_callS X hK hG hS ysX9_in ml_X9_114 [.int v, .int (nI 1), .int (nI 500)] [.ref (L 999 0)] (c_X9_in l L σ ow v (nI 1) (nI 500)) rfl hl.1 rfl (Nat.le_of_ble_eq_true rfl) ⟨Nat.le_of_ble_eq_true rfl, Nat.le_of_ble_eq_true rfl⟩ ⟨Nat.zero_le _, Nat.zero_le _⟩ dX9_tool_15 (fun H locs hG hS => ?_)
      refine r_top (y := b2i (1 ≤ v.toInt ∧ v.toInt ≤ 500)) (b2i_c (rg_i 1 500 rfl rfl)) ?_
      refine r_if_eqB (tgt := 25) hx hb dX9_tool_18 (by decide) (fun c_18 => ?_) (fun c_18 => ?_)
      · refine lv_iconst (v := nI 0) hx hb dX9_tool_25 (by decide) ?_
        exact r_top ((b2i_f (fun h => by have h9 := h.2; first | exact c_18 h9 | exact h9 c_18 | omega)).symm) (J_26 _ _ hG hS)
      · refine lv_iconst (v := nI 1) hx hb dX9_tool_21 (by decide) ?_
        refine lv_goto (tgt := 26) hx hb dX9_tool_22 (by decide) ?_
        exact r_top ((b2i_t (by refine ⟨?_, ?_⟩ <;> first | assumption | omega)).symm) (J_26 _ _ hG hS)
def cntZ (f : Nat → Int32) : Nat → Nat
  | 0 => 0
  | n + 1 => cntZ f n + (if f n = 0 then 0 else 1)
theorem cntZ_le (f : Nat → Int32) : ∀ n, cntZ f n ≤ n
  | 0 => Nat.le_refl _
  | n + 1 => by
    have h := cntZ_le f n
    unfold cntZ
    split <;> omega
set_option maxRecDepth 100000 in
set_option maxHeartbeats 4000000 in
theorem c_X9_countLoaded {D : va_G} {cI cZ cO : ClassId} (l : Launch) (L : Lay) (σ : St) (ow : Nat → Prop) (hT : σ.1 914 0 ≤ 16) : RM D cI cZ cO rdom l yX9_countLoaded cX9_countLoaded 3 ((some FieldType.int)) 0 0 [.ref (L 999 0)] L σ ow (nI (cntZ (σ.2.2.2 911 0) (σ.1 914 0))) σ := by
  refine rm_of rfl (Nat.le_of_ble_eq_true rfl) ?_
  intro p e s m below meth c ls X hK hG hr hlocks hl
  have X : CallFix p m c cX9_countLoaded 3 s _ TB RX9 := X
  have hx := X.1
  have hb := X.2.1
  have hS : va_S (AA ow s.heap.size) s.heap s.heap [] := va_S.rf
  have hA : ∀ q, ow q → AA ow s.heap.size q := fun _ h => Or.inl h
  have hl : lv_has ls 3 [(0, .ref (L 999 0))] := hl
  refine lv_iconst (v := nI 0) hx hb dX9_countLoaded_0 (by decide) ?_
  refine lv_istore_n (lv' := [(1, .int (nI 0)), (0, .ref (L 999 0))]) hx hb dX9_countLoaded_1 rfl hl (by decide) rfl (fun ls hl => ?_)
  refine lv_iconst (v := nI 0) hx hb dX9_countLoaded_2 (by decide) ?_
  refine lv_istore_n (lv' := [(2, .int (nI 0)), (1, .int (nI 0)), (0, .ref (L 999 0))]) hx hb dX9_countLoaded_3 rfl hl (by decide) rfl (fun ls hl => ?_)
  refine r_loop (ι := Nat × Nat) (fun (⟨n1, k⟩ : Nat × Nat) => [(0, .ref (L 999 0)), (1, .int (nI n1)), (2, .int (nI k))]) (fun (⟨n1, k⟩ : Nat × Nat) => σ) (fun (⟨n1, k⟩ : Nat × Nat) => σ.1 914 0 - k) (fun (⟨n1, k⟩ : Nat × Nat) => n1 = cntZ (σ.2.2.2 911 0) k ∧ k ≤ σ.1 914 0) (0, 0) (⟨rfl, Nat.zero_le _⟩) hG hS (lv_sub hl [2, 1, 0] rfl) ?_
  rintro ⟨n1, k⟩ hinv ih H locs ls hG hS hl
  have hG : PW D cI cZ cO rdom L σ ow H := hG
  have hl : lv_has ls 3 [(0, .ref (L 999 0)), (1, .int (nI n1)), (2, .int (nI k))] := hl
  obtain ⟨hn, hk⟩ := hinv
  refine lv_iload_n hx hb dX9_countLoaded_4 rfl (lv_at hl 2 rfl) ?_
  refine lv_aload_n hx hb dX9_countLoaded_5 rfl (lv_at hl 0 rfl) ?_
  refine gt_X9_118 X hK hG rd_999 (x := σ.1 914 0) rfl dX9_countLoaded_6 ?_
  refine r_icmp_geN (tgt := 35) hx hb dX9_countLoaded_9 (by decide) (by omega) (by omega) (fun c_9 => ?_) (fun c_9 => ?_)
  · refine lv_iload_n hx hb dX9_countLoaded_35 rfl (lv_at hl 1 rfl) ?_
    exact rm_ret hx hb hr hlocks hG hS (by rw [hn, show k = σ.1 914 0 by omega]) (rfl) rfl dX9_countLoaded_36
  · refine lv_iload_n hx hb dX9_countLoaded_12 rfl (lv_at hl 1 rfl) ?_
    refine lv_aload_n hx hb dX9_countLoaded_13 rfl (lv_at hl 0 rfl) ?_
    refine gt_X9_34 X hK hG rd_999 dX9_countLoaded_14 ?_
    refine lv_iload_n hx hb dX9_countLoaded_17 rfl (lv_at hl 2 rfl) ?_
    refine al_911 X hK hG rd_911 (i := k) (x := σ.2.2.2 911 0 k) (by omega) rfl dX9_countLoaded_18 ?_
    refine lv_if_eq (tgt := 26) hx hb dX9_countLoaded_19 (by decide) (fun c_19 => ?_) (fun c_19 => ?_)
    · refine lv_iconst (v := nI 0) hx hb dX9_countLoaded_26 (by decide) ?_
      refine r_addN hx hb dX9_countLoaded_27 ?_
      refine lv_istore_n (lv' := [(1, .int (nI n1)), (0, .ref (L 999 0)), (2, .int (nI k))]) hx hb dX9_countLoaded_28 rfl hl (by decide) rfl (fun ls hl => ?_)
      refine r_iincN (b := 1) (lv' := [(2, .int (nI (k + 1))), (1, .int (nI n1)), (0, .ref (L 999 0))]) hx hb dX9_countLoaded_29 hl (k := 2) rfl (by decide) (by decide) rfl (fun ls hl => ?_)
      refine lv_goto (tgt := 4) hx hb dX9_countLoaded_32 (by decide) ?_
      exact ih (n1, k + 1) (by show _ - (k + 1) < _ - k; omega) (⟨by simp [cntZ, c_19, hn], by omega⟩) H locs ls hG hS (lv_sub hl [2, 1, 0] rfl)
    · refine lv_iconst (v := nI 1) hx hb dX9_countLoaded_22 (by decide) ?_
      refine lv_goto (tgt := 27) hx hb dX9_countLoaded_23 (by decide) ?_
      refine r_addN hx hb dX9_countLoaded_27 ?_
      refine lv_istore_n (lv' := [(1, .int (nI (n1 + 1))), (0, .ref (L 999 0)), (2, .int (nI k))]) hx hb dX9_countLoaded_28 rfl hl (by decide) rfl (fun ls hl => ?_)
      refine r_iincN (b := 1) (lv' := [(2, .int (nI (k + 1))), (1, .int (nI (n1 + 1))), (0, .ref (L 999 0))]) hx hb dX9_countLoaded_29 hl (k := 2) rfl (by decide) (by decide) rfl (fun ls hl => ?_)
      refine lv_goto (tgt := 4) hx hb dX9_countLoaded_32 (by decide) ?_
      exact ih (n1 + 1, k + 1) (by show _ - (k + 1) < _ - k; omega) (⟨by simp [cntZ, c_19, hn], by omega⟩) H locs ls hG hS (lv_sub hl [2, 1, 0] rfl)
