theorem add16 {a : Nat} : nI a = nI (a + 16) - nI 16 := by
  have h := sub16 (a := a) (b := 0) (Nat.zero_le _)
  rw [Nat.sub_zero] at h
  rw [← h]
  exact (Int32.sub_zero _).symm
theorem isb_2c : ∀ c : Fin 32, 5 ≤ c.val → c.val ≤ 27 → (-11) ≤ nI c.val - nI 16 ∧ nI c.val - nI 16 ≤ nI 11 := by decide
theorem isb_5c : ∀ c : Fin 32, 16 ≤ c.val → c.val < 20 → nI 0 ≤ nI c.val - nI 16 ∧ nI c.val - nI 16 ≤ nI 3 := by decide
theorem isb_1c : ∀ c : Fin 32, 16 ≤ c.val → c.val < 18 → nI 0 ≤ nI c.val - nI 16 ∧ nI c.val - nI 16 ≤ nI 1 := by decide
theorem isb_6c : ∀ p : Fin 3, ∀ c : Fin 32, 16 ≤ c.val → c.val < 16 + p.val → nI 0 ≤ nI c.val - nI 16 ∧ nI c.val - nI 16 ≤ nI p.val - nI 1 := by decide
theorem isb_2 {p : Int32} {c : Nat} (h1 : 5 ≤ c) (h2 : c ≤ 27) : isB p (nI 2) (nI c - nI 16) := by
  unfold isB
  rw [if_neg (by decide), if_pos (by decide)]
  exact isb_2c ⟨c, by omega⟩ h1 h2
theorem isb_3 {p : Int32} {c : Nat} (h1 : 5 ≤ c) (h2 : c ≤ 27) : isB p (nI 3) (nI c - nI 16) := by
  unfold isB
  rw [if_neg (by decide), if_pos (by decide)]
  exact isb_2c ⟨c, by omega⟩ h1 h2
theorem isb_4 {p : Int32} {c : Nat} (h1 : 5 ≤ c) (h2 : c ≤ 27) : isB p (nI 4) (nI c - nI 16) := by
  unfold isB
  rw [if_neg (by decide), if_pos (by decide)]
  exact isb_2c ⟨c, by omega⟩ h1 h2
theorem isb_0 {p : Int32} {w c : Nat} (hw : w < 2) (h1 : 16 ≤ c) (h2 : c < 18) : isB p (nI w) (nI c - nI 16) := by
  unfold isB
  rw [if_pos (by rcases (by omega : w = 0 ∨ w = 1) with rfl | rfl <;> decide)]
  exact isb_1c ⟨c, by omega⟩ h1 h2
theorem isb_5 {p : Int32} {c : Nat} (h1 : 16 ≤ c) (h2 : c < 20) : isB p (nI 5) (nI c - nI 16) := by
  unfold isB
  rw [if_neg (by decide), if_neg (by decide), if_pos (by decide)]
  exact isb_5c ⟨c, by omega⟩ h1 h2
theorem isb_6 {p c : Nat} (hp : p < 3) (h1 : 16 ≤ c) (h2 : c < 16 + p) : isB (nI p) (nI 6) (nI c - nI 16) := by
  unfold isB
  rw [if_neg (by decide), if_neg (by decide), if_neg (by decide)]
  exact ⟨rfl, isb_6c ⟨p, hp⟩ ⟨c, by omega⟩ h1 h2⟩
theorem ok_0 {p w c : Nat} {xs : List Nat} (hw : w = 0 ∨ w = 2 ∨ w = 4) (hc : c < 32) : okB p (w + 8 * c) xs := by
  unfold okB
  refine ⟨by omega, by omega, fun u => by omega, fun u => by omega, fun u => by omega, fun u => by omega⟩
theorem ok_5 {p c : Nat} {xs : List Nat} (h1 : 16 ≤ c) (h2 : c < 20) : okB p (5 + 8 * c) xs := by
  unfold okB
  refine ⟨by omega, by omega, fun u => by omega, fun u => by omega, fun u => by omega, fun u => by omega⟩
theorem ok_3 {p c : Nat} {xs : List Nat} (h1 : 16 ≤ c) (h2 : c < 20) : okB p (3 + 8 * c) xs := by
  unfold okB
  refine ⟨by omega, by omega, fun u => by omega, fun u => by omega, fun u => by omega, fun u => by omega⟩
theorem ok_6 {p c : Nat} {xs : List Nat} (h1 : 16 ≤ c) (h2 : c < 16 + p) (hp : p < 3) (h : nbL xs = false) : okB p (6 + 8 * c) xs := by
  unfold okB
  refine ⟨by omega, by omega, fun u => ⟨by omega, by omega, h⟩, fun u => by omega, fun u => by omega, fun u => by omega⟩
theorem ok_1 {p c : Nat} {xs : List Nat} (h1 : c < 32) (h : c = 16 ∨ nbL xs = false) : okB p (1 + 8 * c) xs := by
  unfold okB
  refine ⟨by omega, by omega, fun u => by omega, fun u => by omega, fun u => by omega, fun u => h.imp (fun y => by omega) id⟩
theorem nb_1 {c : Nat} {xs : List Nat} : nbL ((1 + 8 * c) :: xs) = false := if_pos (by omega)
theorem nb_2 {c d : Nat} {xs : List Nat} : nbL ((2 + 8 * c) :: (1 + 8 * d) :: xs) = false := by
  show (if (2 + 8 * c) % 8 = 1 then false else if (2 + 8 * c) % 8 = 3 ∨ (2 + 8 * c) % 8 = 6 then true else nbL ((1 + 8 * d) :: xs)) = false
  rw [if_neg (by omega), if_neg (by omega), nb_1]
def VPg (D : va_G) (cI cZ cO : ClassId) (t0 z0 x9 : Nat) (L : Lay) (p : Nat) (σ : St) (H : Heap) : Prop := ∃ σ', VB9 D cI cZ cO t0 z0 x9 L 0 (p + 1) σ' H ∧ σ'.2.2.2 905 = σ.2.2.2 905 ∧ GIp p σ' ∧ ∀ i, i ≠ 36 + p → (i < 12 * p ∨ 12 * p + 12 ≤ i) → σ'.2.2.2 901 0 i = σ.2.2.2 901 0 i
set_option maxRecDepth 100000 in
set_option maxHeartbeats 4000000 in
theorem v_L_from {D : va_G} {cI cZ cO : ClassId} {t0 mi z0 x9 : Nat} {L : Lay} (l : Launch) {b : Nat} (N k w : Nat) (xs : Nat → Int32) (P : Heap → Prop) (hbz : b < z0) (hN : N ≤ 3072) (hk : k < 1000) (hw : 0 < w) (hw2 : w ≤ 1000000000) : VSI D cI cZ cO t0 mi z0 l yL_from cL_from 4 ((some FieldType.int)) 0 0 0 0 [.ref b, .int (nI k), .int (nI w)] b N xs P P (nI (h_from xs N k w)) := by
  refine vsi_of rfl (Nat.le_of_ble_eq_true rfl) ?_
  intro p e s m args below meth c ls X hK hE hX hP hXs hz hr hlocks hl
  have X : CallFix p m c cL_from 4 s args TB RL := X
  have hx := X.1
  have hb := X.2.1
  have hS : va_S (vA z0) s.heap s.heap [] := va_S.rf
  have hl : lv_has ls 4 [(0, .ref b), (1, .int (nI k)), (2, .int (nI w))] := hl
  refine lv_aload_n hx hb dL_from_0 rfl (lv_at hl 0 rfl) ?_
  refine va_slen hx hb hXs (Nat.lt_of_lt_of_le hbz hz) (fun z => Nat.lt_irrefl _ (Nat.lt_of_lt_of_le hbz z)) hS dL_from_1 ?_
  refine r_if_neN (tgt := 16) hx hb dL_from_2 (by decide) (by omega) (fun c_2 => ?_) (fun c_2 => ?_)
  · refine lv_aload_n hx hb dL_from_16 rfl (lv_at hl 0 rfl) ?_
    refine lv_iload_n hx hb dL_from_17 rfl (lv_at hl 1 rfl) ?_
    refine lv_aload_n hx hb dL_from_18 rfl (lv_at hl 0 rfl) ?_
    refine va_slen hx hb hXs (Nat.lt_of_lt_of_le hbz hz) (fun z => Nat.lt_irrefl _ (Nat.lt_of_lt_of_le hbz z)) hS dL_from_19 ?_
    refine r_remN hx hb (by omega) (by omega) (by omega) dL_from_20 ?_
    refine va_sld hx hb hXs (Nat.lt_of_lt_of_le hbz hz) (fun z => Nat.lt_irrefl _ (Nat.lt_of_lt_of_le hbz z)) hS (vp_in_nI (Nat.mod_lt _ (by omega)) (by omega)) dL_from_21 ?_
    refine r_top (y := xs (k % N)) (by rw [nI_clamp (by have := Nat.mod_lt k (show 0 < N by omega); omega)]) ?_
    refine lv_ldc (v := 433494) hx hb X.2.2.2.1 (X.2.2.2.2 _ tw_2_130) dL_from_22 ?_
    refine r_top (y := nI 433494) (by decide) ?_
    refine lv_iload_n hx hb dL_from_24 rfl (lv_at hl 1 rfl) ?_
    refine r_mulN hx hb dL_from_25 ?_
    refine lv_ixor hx hb dL_from_26 ?_
    refine r_top (y := h_its xs N k) ((if_neg c_2).symm) ?_
    refine lv_istore_n (lv' := [(3, .int (h_its xs N k)), (0, .ref b), (1, .int (nI k)), (2, .int (nI w))]) hx hb dL_from_27 rfl hl (by decide) rfl (fun ls hl => ?_)
    refine lv_iload_n hx hb dL_from_28 rfl (lv_at hl 0 rfl) ?_
    refine lv_ldc (v := 2147483647) hx hb X.2.2.2.1 (X.2.2.2.2 _ tw_2_131) dL_from_29 ?_
    refine r_top (y := nI 2147483647) (by decide) ?_
    refine lv_iand hx hb dL_from_31 ?_
    refine r_top (y := nI ((h_its xs N k).toUInt32.toNat % 2147483648)) (and31 _) ?_
    refine lv_iload_n hx hb dL_from_32 rfl (lv_at hl 3 rfl) ?_
    refine r_remN hx hb (by omega) (by omega) (by omega) dL_from_33 ?_
    exact vi_ret X hr hlocks (hP) hS (rfl) (Nat.le_of_ble_eq_true rfl) (Nat.le_of_ble_eq_true rfl) rfl dL_from_34
  · refine lv_sipush (v := nI 739) hx hb dL_from_5 (by decide) ?_
    refine lv_iload_n hx hb dL_from_8 rfl (lv_at hl 1 rfl) ?_
    refine r_mulN hx hb dL_from_9 ?_
    refine lv_bipush (v := nI 91) hx hb dL_from_10 (by decide) ?_
    refine r_addN hx hb dL_from_12 ?_
    refine lv_goto (tgt := 27) hx hb dL_from_13 (by decide) ?_
    refine r_top (y := h_its xs N k) ((if_pos c_2).symm) ?_
    refine lv_istore_n (lv' := [(3, .int (h_its xs N k)), (0, .ref b), (1, .int (nI k)), (2, .int (nI w))]) hx hb dL_from_27 rfl hl (by decide) rfl (fun ls hl => ?_)
    refine lv_iload_n hx hb dL_from_28 rfl (lv_at hl 0 rfl) ?_
    refine lv_ldc (v := 2147483647) hx hb X.2.2.2.1 (X.2.2.2.2 _ tw_2_131) dL_from_29 ?_
    refine r_top (y := nI 2147483647) (by decide) ?_
    refine lv_iand hx hb dL_from_31 ?_
    refine r_top (y := nI ((h_its xs N k).toUInt32.toNat % 2147483648)) (and31 _) ?_
    refine lv_iload_n hx hb dL_from_32 rfl (lv_at hl 3 rfl) ?_
    refine r_remN hx hb (by omega) (by omega) (by omega) dL_from_33 ?_
    exact vi_ret X hr hlocks (hP) hS (rfl) (Nat.le_of_ble_eq_true rfl) (Nat.le_of_ble_eq_true rfl) rfl dL_from_34
set_option maxRecDepth 100000 in
set_option maxHeartbeats 4000000 in
theorem v_L_isBlockF {D : va_G} {cI cZ cO : ClassId} {t0 mi z0 x9 : Nat} {L : Lay} (l : Launch) (K n q w v9 : Nat) (σ : St) (hq : q < 3) (h36 : σ.2.2.2 901 0 (36 + q) = nI 12) : VI D cI cZ cO t0 mi z0 l yL_isBlock cL_isBlock 5 ((some FieldType.boolean)) 0 0 0 0 [.ref x9, .ref (L 901 0), .int (nI q), .int (nI w), .int (nI v9)] (VB9 D cI cZ cO t0 z0 x9 L K n σ) (VB9 D cI cZ cO t0 z0 x9 L K n σ) (nI 1) := by
  refine vi_of rfl (Nat.le_of_ble_eq_true rfl) ?_
  intro p e s m args below meth c ls X hK hE hX hP hz hr hlocks hl
  have X : CallFix p m c cL_isBlock 5 s args TB RL := X
  have hx := X.1
  have hb := X.2.1
  have hS : va_S (vA z0) s.heap s.heap [] := va_S.rf
  have hl : lv_has ls 5 [(0, .ref x9), (1, .ref (L 901 0)), (2, .int (nI q)), (3, .int (nI w)), (4, .int (nI v9))] := hl
  obtain ⟨κ, τ, hW, hR, hJ⟩ := hP
  have hG : PW D cI cZ cO vdom L σ (vim L) s.heap := hW.g
  refine lv_aload_n hx hb dL_isBlock_0 rfl (lv_at hl 1 rfl) ?_
  refine lv_bipush (v := nI 36) hx hb dL_isBlock_1 (by decide) ?_
  refine lv_iload_n hx hb dL_isBlock_3 rfl (lv_at hl 2 rfl) ?_
  refine r_addN hx hb dL_isBlock_4 ?_
  refine al_901 X hK hG (vd_1 (by decide)) (i := 36 + q) (x := σ.2.2.2 901 0 (36 + q)) (by omega) rfl dL_isBlock_5 ?_
  refine r_top (y := nI 12) (h36) ?_
  refine lv_bipush (v := nI 12) hx hb dL_isBlock_6 (by decide) ?_
  refine r_icmp_neN (tgt := 13) hx hb dL_isBlock_8 (by decide) (by omega) (by omega) (fun c_8 => absurd c_8 (by decide)) (fun c_8 => ?_)
  refine lv_iconst (v := nI 1) hx hb dL_isBlock_11 (by decide) ?_
  exact vi_ret X hr hlocks (⟨κ, τ, hW, hR, hJ⟩) hS (rfl) (Nat.le_of_ble_eq_true rfl) (Nat.le_of_ble_eq_true rfl) rfl dL_isBlock_12
set_option maxRecDepth 100000 in
set_option maxHeartbeats 4000000 in
theorem v_L_isProgram {D : va_G} {cI cZ cO : ClassId} {t0 mi z0 x9 : Nat} {L : Lay} (l : Launch) (hl9 : l.stackTraces = false) (q9 z : Nat) (σ : St) (hp : q9 < 3) (hz9 : z < 1000000000) (h36 : σ.2.2.2 901 0 (36 + q9) = nI 0) (h10 : σ.2.2.2 905 0 10 = 0) : VI D cI cZ cO t0 mi z0 l yL_isProgram cL_isProgram 5 ((some FieldType.boolean)) 9 190 22 132 [.ref x9, .ref (L 901 0), .int (nI q9), .int (nI z)] (VB9 D cI cZ cO t0 z0 x9 L 0 (q9 + 1) σ) (VPg D cI cZ cO t0 z0 x9 L q9 σ) (nI 1) := by
  refine vi_of rfl (Nat.le_of_ble_eq_true rfl) ?_
  intro p e s m args below meth c ls X hK hE hX hP hz hr hlocks hl
  have X : CallFix p m c cL_isProgram 5 s args TB RL := X
  have hx := X.1
  have hb := X.2.1
  have hS : va_S (vA z0) s.heap s.heap [] := va_S.rf
  have hl : lv_has ls 5 [(0, .ref x9), (1, .ref (L 901 0)), (2, .int (nI q9)), (3, .int (nI z))] := hl
  have hP : VB9 D cI cZ cO t0 z0 x9 L 0 (q9 + 1) σ s.heap := hP
  have b0 : BL q9 σ σ [] := BL.nil h36
  refine lv_aload_n hx hb dL_isProgram_0 rfl (lv_at hl 0 rfl) ?_
  refine lv_aload_n hx hb dL_isProgram_1 rfl (lv_at hl 1 rfl) ?_
  refine lv_iload_n hx hb dL_isProgram_2 rfl (lv_at hl 2 rfl) ?_
  refine lv_iconst (v := nI 5) hx hb dL_isProgram_3 (by decide) ?_
  refine lv_iload_n hx hb dL_isProgram_4 rfl (lv_at hl 3 rfl) ?_
  refine lv_iconst (v := nI 4) hx hb dL_isProgram_5 (by decide) ?_
  refine r_remN hx hb (by omega) (by decide) (by decide) dL_isProgram_6 ?_
  refine r_top (y := nI (z % 4 + 16) - nI 16) (add16) ?_
  refine vi_call X hK hE hX (P := VB9 D cI cZ cO t0 z0 x9 L 0 (q9 + 1) σ) (P' := VB9 D cI cZ cO t0 z0 x9 L 0 (q9 + 1) (h_bw q9 0 5 (z % 4 + 16) σ)) (hP) (hP.choose_spec.choose_spec.1.choose_spec.choose_spec.2.2.2.2.2) hS ysL_isBlock ml_L_120 [.ref x9, .ref (L 901 0), .int (nI q9), .int (nI 5), .int (nI (z % 4 + 16) - nI 16)] [] (v_L_isBlock (D := D) (cI := cI) (cZ := cZ) (cO := cO) (t0 := t0) (mi := mi) (z0 := z0) (x9 := x9) (L := L) l hl9 0 (q9 + 1) q9 0 5 (z % 4 + 16) σ (by omega) (by omega) (by decide) (by first | decide | omega) (by omega) b0.1 (by rw [b0.2.2.1 905 (by decide)]; exact h10) (isb_5 (by omega) (by omega))) rfl hl.1 rfl (Nat.le_of_ble_eq_true rfl) ⟨Nat.le_of_ble_eq_true rfl, Nat.le_of_ble_eq_true rfl⟩ ⟨Nat.le_of_ble_eq_true rfl, Nat.le_of_ble_eq_true rfl⟩ dL_isProgram_7 (fun H locs hP hS => ?_)
  have b1 : BL q9 σ (h_bw q9 0 5 (z % 4 + 16) σ) [5 + 8 * (z % 4 + 16)] := b0.snoc hp (Nat.le_of_ble_eq_true rfl) 5 (z % 4 + 16)
  generalize h_bw q9 0 5 (z % 4 + 16) σ = T1 at b1 hP
  refine r_if_eqN (tgt := 93) hx hb dL_isProgram_10 (by decide) (by omega) (fun c_10 => absurd c_10 (by decide)) (fun c_10 => ?_)
  refine lv_aload_n hx hb dL_isProgram_13 rfl (lv_at hl 0 rfl) ?_
  refine lv_aload_n hx hb dL_isProgram_14 rfl (lv_at hl 1 rfl) ?_
  refine lv_iload_n hx hb dL_isProgram_15 rfl (lv_at hl 2 rfl) ?_
  refine lv_iconst (v := nI 2) hx hb dL_isProgram_16 (by decide) ?_
  refine lv_iload_n hx hb dL_isProgram_17 rfl (lv_at hl 3 rfl) ?_
  refine lv_iconst (v := nI 4) hx hb dL_isProgram_18 (by decide) ?_
  refine r_divN hx hb (by omega) (by decide) (by decide) dL_isProgram_19 ?_
  refine lv_bipush (v := nI 12) hx hb dL_isProgram_20 (by decide) ?_
  refine r_remN hx hb (by omega) (by decide) (by decide) dL_isProgram_22 ?_
  refine r_top (y := nI ((z / 4) % 12 + 16) - nI 16) (add16) ?_
  refine vi_call X hK hE hX (P := VB9 D cI cZ cO t0 z0 x9 L 0 (q9 + 1) T1) (P' := VB9 D cI cZ cO t0 z0 x9 L 0 (q9 + 1) (h_bw q9 1 2 ((z / 4) % 12 + 16) T1)) (hP) (hP.choose_spec.choose_spec.1.choose_spec.choose_spec.2.2.2.2.2) hS ysL_isBlock ml_L_120 [.ref x9, .ref (L 901 0), .int (nI q9), .int (nI 2), .int (nI ((z / 4) % 12 + 16) - nI 16)] [] (v_L_isBlock (D := D) (cI := cI) (cZ := cZ) (cO := cO) (t0 := t0) (mi := mi) (z0 := z0) (x9 := x9) (L := L) l hl9 0 (q9 + 1) q9 1 2 ((z / 4) % 12 + 16) T1 (by omega) (by omega) (by decide) (by first | decide | omega) (by omega) b1.1 (by rw [b1.2.2.1 905 (by decide)]; exact h10) (isb_2 (by omega) (by omega))) rfl hl.1 rfl (Nat.le_of_ble_eq_true rfl) ⟨Nat.le_of_ble_eq_true rfl, Nat.le_of_ble_eq_true rfl⟩ ⟨Nat.le_of_ble_eq_true rfl, Nat.le_of_ble_eq_true rfl⟩ dL_isProgram_23 (fun H locs hP hS => ?_)
  have b2 : BL q9 σ (h_bw q9 1 2 ((z / 4) % 12 + 16) T1) [5 + 8 * (z % 4 + 16), 2 + 8 * ((z / 4) % 12 + 16)] := b1.snoc hp (Nat.le_of_ble_eq_true rfl) 2 ((z / 4) % 12 + 16)
  generalize h_bw q9 1 2 ((z / 4) % 12 + 16) T1 = T2 at b2 hP
  refine r_if_eqN (tgt := 93) hx hb dL_isProgram_26 (by decide) (by omega) (fun c_26 => absurd c_26 (by decide)) (fun c_26 => ?_)
  refine lv_aload_n hx hb dL_isProgram_29 rfl (lv_at hl 0 rfl) ?_
  refine lv_aload_n hx hb dL_isProgram_30 rfl (lv_at hl 1 rfl) ?_
  refine lv_iload_n hx hb dL_isProgram_31 rfl (lv_at hl 2 rfl) ?_
  refine lv_iconst (v := nI 3) hx hb dL_isProgram_32 (by decide) ?_
  refine lv_iload_n hx hb dL_isProgram_33 rfl (lv_at hl 3 rfl) ?_
  refine lv_bipush (v := nI 48) hx hb dL_isProgram_34 (by decide) ?_
  refine r_divN hx hb (by omega) (by decide) (by decide) dL_isProgram_36 ?_
  refine lv_iconst (v := nI 4) hx hb dL_isProgram_37 (by decide) ?_
  refine r_remN hx hb (by omega) (by decide) (by decide) dL_isProgram_38 ?_
  refine r_top (y := nI ((z / 48) % 4 + 16) - nI 16) (add16) ?_
  refine vi_call X hK hE hX (P := VB9 D cI cZ cO t0 z0 x9 L 0 (q9 + 1) T2) (P' := VB9 D cI cZ cO t0 z0 x9 L 0 (q9 + 1) (h_bw q9 2 3 ((z / 48) % 4 + 16) T2)) (hP) (hP.choose_spec.choose_spec.1.choose_spec.choose_spec.2.2.2.2.2) hS ysL_isBlock ml_L_120 [.ref x9, .ref (L 901 0), .int (nI q9), .int (nI 3), .int (nI ((z / 48) % 4 + 16) - nI 16)] [] (v_L_isBlock (D := D) (cI := cI) (cZ := cZ) (cO := cO) (t0 := t0) (mi := mi) (z0 := z0) (x9 := x9) (L := L) l hl9 0 (q9 + 1) q9 2 3 ((z / 48) % 4 + 16) T2 (by omega) (by omega) (by decide) (by first | decide | omega) (by omega) b2.1 (by rw [b2.2.2.1 905 (by decide)]; exact h10) (isb_3 (by omega) (by omega))) rfl hl.1 rfl (Nat.le_of_ble_eq_true rfl) ⟨Nat.le_of_ble_eq_true rfl, Nat.le_of_ble_eq_true rfl⟩ ⟨Nat.le_of_ble_eq_true rfl, Nat.le_of_ble_eq_true rfl⟩ dL_isProgram_39 (fun H locs hP hS => ?_)
  have b3 : BL q9 σ (h_bw q9 2 3 ((z / 48) % 4 + 16) T2) [5 + 8 * (z % 4 + 16), 2 + 8 * ((z / 4) % 12 + 16), 3 + 8 * ((z / 48) % 4 + 16)] := b2.snoc hp (Nat.le_of_ble_eq_true rfl) 3 ((z / 48) % 4 + 16)
  generalize h_bw q9 2 3 ((z / 48) % 4 + 16) T2 = T3 at b3 hP
  refine r_if_eqN (tgt := 93) hx hb dL_isProgram_42 (by decide) (by omega) (fun c_42 => absurd c_42 (by decide)) (fun c_42 => ?_)
  refine lv_aload_n hx hb dL_isProgram_45 rfl (lv_at hl 0 rfl) ?_
  refine lv_aload_n hx hb dL_isProgram_46 rfl (lv_at hl 1 rfl) ?_
  refine lv_iload_n hx hb dL_isProgram_47 rfl (lv_at hl 2 rfl) ?_
  refine lv_iconst (v := nI 0) hx hb dL_isProgram_48 (by decide) ?_
  refine r_cutV (P := fun H => VB9 D cI cZ cO t0 z0 x9 L 0 (q9 + 1) T3 H) 65 [.int (nI (if z / 192 % 7 = 0 then 0 else 1)), .int (nI 0), .int (nI q9), .ref (L 901 0), .ref x9] hP hS (fun H locs hP hS => ?_) (fun J_65 => ?_)
  · have hP : VB9 D cI cZ cO t0 z0 x9 L 0 (q9 + 1) T3 H := hP
    obtain ⟨c4, hc4, hc5, hc6⟩ : ∃ c4, nI (if z / 192 % 7 = 0 then 0 else 1) = nI c4 - nI 16 ∧ 16 ≤ c4 ∧ c4 < 18 := ⟨(if z / 192 % 7 = 0 then 0 else 1) + 16, add16, by split <;> omega, by split <;> omega⟩
    refine r_top (y := nI c4 - nI 16) hc4 ?_
    refine vi_call X hK hE hX (P := VB9 D cI cZ cO t0 z0 x9 L 0 (q9 + 1) T3) (P' := VB9 D cI cZ cO t0 z0 x9 L 0 (q9 + 1) (h_bw q9 3 0 c4 T3)) (hP) (hP.choose_spec.choose_spec.1.choose_spec.choose_spec.2.2.2.2.2) hS ysL_isBlock ml_L_120 [.ref x9, .ref (L 901 0), .int (nI q9), .int (nI 0), .int (nI c4 - nI 16)] [] (v_L_isBlock (D := D) (cI := cI) (cZ := cZ) (cO := cO) (t0 := t0) (mi := mi) (z0 := z0) (x9 := x9) (L := L) l hl9 0 (q9 + 1) q9 3 0 c4 T3 (by omega) (by omega) (by decide) (by first | decide | omega) (by omega) b3.1 (by rw [b3.2.2.1 905 (by decide)]; exact h10) (isb_0 (by decide) (by omega) (by omega))) rfl hl.1 rfl (Nat.le_of_ble_eq_true rfl) ⟨Nat.le_of_ble_eq_true rfl, Nat.le_of_ble_eq_true rfl⟩ ⟨Nat.le_of_ble_eq_true rfl, Nat.le_of_ble_eq_true rfl⟩ dL_isProgram_65 (fun H locs hP hS => ?_)
    have b4 : BL q9 σ (h_bw q9 3 0 c4 T3) [5 + 8 * (z % 4 + 16), 2 + 8 * ((z / 4) % 12 + 16), 3 + 8 * ((z / 48) % 4 + 16), 0 + 8 * c4] := b3.snoc hp (Nat.le_of_ble_eq_true rfl) 0 c4
    generalize h_bw q9 3 0 c4 T3 = T4 at b4 hP
    refine r_if_eqN (tgt := 93) hx hb dL_isProgram_68 (by decide) (by omega) (fun c_68 => absurd c_68 (by decide)) (fun c_68 => ?_)
    refine lv_aload_n hx hb dL_isProgram_71 rfl (lv_at hl 0 rfl) ?_
    refine lv_aload_n hx hb dL_isProgram_72 rfl (lv_at hl 1 rfl) ?_
    refine lv_iload_n hx hb dL_isProgram_73 rfl (lv_at hl 2 rfl) ?_
    refine lv_iconst (v := nI 4) hx hb dL_isProgram_74 (by decide) ?_
    refine lv_iload_n hx hb dL_isProgram_75 rfl (lv_at hl 3 rfl) ?_
    refine lv_sipush (v := nI 1344) hx hb dL_isProgram_76 (by decide) ?_
    refine r_divN hx hb (by omega) (by decide) (by decide) dL_isProgram_79 ?_
    refine lv_bipush (v := nI 9) hx hb dL_isProgram_80 (by decide) ?_
    refine r_remN hx hb (by omega) (by decide) (by decide) dL_isProgram_82 ?_
    refine r_top (y := nI ((z / 1344) % 9 + 16) - nI 16) (add16) ?_
    refine vi_call X hK hE hX (P := VB9 D cI cZ cO t0 z0 x9 L 0 (q9 + 1) T4) (P' := VB9 D cI cZ cO t0 z0 x9 L 0 (q9 + 1) (h_bw q9 4 4 ((z / 1344) % 9 + 16) T4)) (hP) (hP.choose_spec.choose_spec.1.choose_spec.choose_spec.2.2.2.2.2) hS ysL_isBlock ml_L_120 [.ref x9, .ref (L 901 0), .int (nI q9), .int (nI 4), .int (nI ((z / 1344) % 9 + 16) - nI 16)] [] (v_L_isBlock (D := D) (cI := cI) (cZ := cZ) (cO := cO) (t0 := t0) (mi := mi) (z0 := z0) (x9 := x9) (L := L) l hl9 0 (q9 + 1) q9 4 4 ((z / 1344) % 9 + 16) T4 (by omega) (by omega) (by decide) (by first | decide | omega) (by omega) b4.1 (by rw [b4.2.2.1 905 (by decide)]; exact h10) (isb_4 (by omega) (by omega))) rfl hl.1 rfl (Nat.le_of_ble_eq_true rfl) ⟨Nat.le_of_ble_eq_true rfl, Nat.le_of_ble_eq_true rfl⟩ ⟨Nat.le_of_ble_eq_true rfl, Nat.le_of_ble_eq_true rfl⟩ dL_isProgram_83 (fun H locs hP hS => ?_)
    have b5 : BL q9 σ (h_bw q9 4 4 ((z / 1344) % 9 + 16) T4) [5 + 8 * (z % 4 + 16), 2 + 8 * ((z / 4) % 12 + 16), 3 + 8 * ((z / 48) % 4 + 16), 0 + 8 * c4, 4 + 8 * ((z / 1344) % 9 + 16)] := b4.snoc hp (Nat.le_of_ble_eq_true rfl) 4 ((z / 1344) % 9 + 16)
    generalize h_bw q9 4 4 ((z / 1344) % 9 + 16) T4 = T5 at b5 hP
    refine r_if_eqN (tgt := 93) hx hb dL_isProgram_86 (by decide) (by omega) (fun c_86 => absurd c_86 (by decide)) (fun c_86 => ?_)
    refine lv_iconst (v := nI 1) hx hb dL_isProgram_89 (by decide) ?_
    refine lv_goto (tgt := 94) hx hb dL_isProgram_90 (by decide) ?_
    refine lv_istore (lv' := [(4, .int (nI 1)), (0, .ref x9), (1, .ref (L 901 0)), (2, .int (nI q9)), (3, .int (nI z))]) hx hb dL_isProgram_94 hl (by decide) rfl (fun ls hl => ?_)
    refine lv_iload_n hx hb dL_isProgram_96 rfl (lv_at hl 4 rfl) ?_
    refine lv_sipush (v := nI 12096) hx hb dL_isProgram_97 (by decide) ?_
    refine r_divN hx hb (by omega) (by decide) (by decide) dL_isProgram_100 ?_
    refine lv_istore_n (lv' := [(3, .int (nI (z / 12096))), (4, .int (nI 1)), (0, .ref x9), (1, .ref (L 901 0)), (2, .int (nI q9))]) hx hb dL_isProgram_101 rfl hl (by decide) rfl (fun ls hl => ?_)
    refine lv_iload hx hb dL_isProgram_102 (lv_at hl 1 rfl) ?_
    refine r_if_eqN (tgt := 187) hx hb dL_isProgram_104 (by decide) (by omega) (fun c_104 => absurd c_104 (by decide)) (fun c_104 => ?_)
    refine lv_iload_n hx hb dL_isProgram_107 rfl (lv_at hl 4 rfl) ?_
    refine r_if_eqN (tgt := 133) hx hb dL_isProgram_108 (by decide) (by omega) (fun c_108 => ?_) (fun c_108 => ?_)
    · refine lv_aload_n hx hb dL_isProgram_133 rfl (lv_at hl 2 rfl) ?_
      refine lv_aload_n hx hb dL_isProgram_134 rfl (lv_at hl 3 rfl) ?_
      refine lv_iload_n hx hb dL_isProgram_135 rfl (lv_at hl 4 rfl) ?_
      refine lv_iconst (v := nI 1) hx hb dL_isProgram_136 (by decide) ?_
      refine lv_iload_n hx hb dL_isProgram_137 rfl (lv_at hl 0 rfl) ?_
      refine lv_bipush (v := nI 9) hx hb dL_isProgram_138 (by decide) ?_
      refine r_divN hx hb (by omega) (by decide) (by decide) dL_isProgram_140 ?_
      refine lv_iconst (v := nI 2) hx hb dL_isProgram_141 (by decide) ?_
      refine r_remN hx hb (by omega) (by decide) (by decide) dL_isProgram_142 ?_
      refine r_top (y := nI (((z / 12096) / 9) % 2 + 16) - nI 16) (add16) ?_
      refine vi_call X hK hE hX (P := VB9 D cI cZ cO t0 z0 x9 L 0 (q9 + 1) T5) (P' := VB9 D cI cZ cO t0 z0 x9 L 0 (q9 + 1) (h_bw q9 5 1 (((z / 12096) / 9) % 2 + 16) T5)) (hP) (hP.choose_spec.choose_spec.1.choose_spec.choose_spec.2.2.2.2.2) hS ysL_isBlock ml_L_120 [.ref x9, .ref (L 901 0), .int (nI q9), .int (nI 1), .int (nI (((z / 12096) / 9) % 2 + 16) - nI 16)] [] (v_L_isBlock (D := D) (cI := cI) (cZ := cZ) (cO := cO) (t0 := t0) (mi := mi) (z0 := z0) (x9 := x9) (L := L) l hl9 0 (q9 + 1) q9 5 1 (((z / 12096) / 9) % 2 + 16) T5 (by omega) (by omega) (by decide) (by first | decide | omega) (by omega) b5.1 (by rw [b5.2.2.1 905 (by decide)]; exact h10) (isb_0 (by decide) (by omega) (by omega))) rfl hl.1 rfl (Nat.le_of_ble_eq_true rfl) ⟨Nat.le_of_ble_eq_true rfl, Nat.le_of_ble_eq_true rfl⟩ ⟨Nat.le_of_ble_eq_true rfl, Nat.le_of_ble_eq_true rfl⟩ dL_isProgram_143 (fun H locs hP hS => ?_)
      have b6 : BL q9 σ (h_bw q9 5 1 (((z / 12096) / 9) % 2 + 16) T5) [5 + 8 * (z % 4 + 16), 2 + 8 * ((z / 4) % 12 + 16), 3 + 8 * ((z / 48) % 4 + 16), 0 + 8 * c4, 4 + 8 * ((z / 1344) % 9 + 16), 1 + 8 * (((z / 12096) / 9) % 2 + 16)] := b5.snoc hp (Nat.le_of_ble_eq_true rfl) 1 (((z / 12096) / 9) % 2 + 16)
      generalize h_bw q9 5 1 (((z / 12096) / 9) % 2 + 16) T5 = T6 at b6 hP
      refine r_if_eqN (tgt := 187) hx hb dL_isProgram_146 (by decide) (by omega) (fun c_146 => absurd c_146 (by decide)) (fun c_146 => ?_)
      refine lv_aload_n hx hb dL_isProgram_149 rfl (lv_at hl 2 rfl) ?_
      refine lv_aload_n hx hb dL_isProgram_150 rfl (lv_at hl 3 rfl) ?_
      refine lv_iload_n hx hb dL_isProgram_151 rfl (lv_at hl 4 rfl) ?_
      refine lv_iconst (v := nI 2) hx hb dL_isProgram_152 (by decide) ?_
      refine lv_iload_n hx hb dL_isProgram_153 rfl (lv_at hl 0 rfl) ?_
      refine lv_bipush (v := nI 18) hx hb dL_isProgram_154 (by decide) ?_
      refine r_divN hx hb (by omega) (by decide) (by decide) dL_isProgram_156 ?_
      refine lv_bipush (v := nI 12) hx hb dL_isProgram_157 (by decide) ?_
      refine r_remN hx hb (by omega) (by decide) (by decide) dL_isProgram_159 ?_
      refine r_cutV (P := fun H => VB9 D cI cZ cO t0 z0 x9 L 0 (q9 + 1) T6 H) 176 [.int (nI (if z / 12096 / 9 % 2 = 1 then 6 else 0)), .int (nI (((z / 12096) / 18) % 12)), .int (nI 2), .int (nI q9), .ref (L 901 0), .ref x9] hP hS (fun H locs hP hS => ?_) (fun J_176 => ?_)
      · have hP : VB9 D cI cZ cO t0 z0 x9 L 0 (q9 + 1) T6 H := hP
        refine lv_isub hx hb dL_isProgram_176 ?_
        obtain ⟨c9, hc9, hc1, hc2⟩ : ∃ c9, ((nI (((z / 12096) / 18) % 12)) - (nI (if z / 12096 / 9 % 2 = 1 then 6 else 0))) = nI c9 - nI 16 ∧ 10 ≤ c9 ∧ c9 ≤ 27 := ⟨(((z / 12096) / 18) % 12) + 16 - (if z / 12096 / 9 % 2 = 1 then 6 else 0), sub16 (by split <;> omega), by split <;> omega, by split <;> omega⟩
        refine r_top (y := nI c9 - nI 16) hc9 ?_
        refine vi_call X hK hE hX (P := VB9 D cI cZ cO t0 z0 x9 L 0 (q9 + 1) T6) (P' := VB9 D cI cZ cO t0 z0 x9 L 0 (q9 + 1) (h_bw q9 6 2 c9 T6)) (hP) (hP.choose_spec.choose_spec.1.choose_spec.choose_spec.2.2.2.2.2) hS ysL_isBlock ml_L_120 [.ref x9, .ref (L 901 0), .int (nI q9), .int (nI 2), .int (nI c9 - nI 16)] [] (v_L_isBlock (D := D) (cI := cI) (cZ := cZ) (cO := cO) (t0 := t0) (mi := mi) (z0 := z0) (x9 := x9) (L := L) l hl9 0 (q9 + 1) q9 6 2 c9 T6 (by omega) (by omega) (by decide) (by first | decide | omega) (by omega) b6.1 (by rw [b6.2.2.1 905 (by decide)]; exact h10) (isb_2 (by omega) (by omega))) rfl hl.1 rfl (Nat.le_of_ble_eq_true rfl) ⟨Nat.le_of_ble_eq_true rfl, Nat.le_of_ble_eq_true rfl⟩ ⟨Nat.le_of_ble_eq_true rfl, Nat.le_of_ble_eq_true rfl⟩ dL_isProgram_177 (fun H locs hP hS => ?_)
        have b7 : BL q9 σ (h_bw q9 6 2 c9 T6) [5 + 8 * (z % 4 + 16), 2 + 8 * ((z / 4) % 12 + 16), 3 + 8 * ((z / 48) % 4 + 16), 0 + 8 * c4, 4 + 8 * ((z / 1344) % 9 + 16), 1 + 8 * (((z / 12096) / 9) % 2 + 16), 2 + 8 * c9] := b6.snoc hp (Nat.le_of_ble_eq_true rfl) 2 c9
        generalize h_bw q9 6 2 c9 T6 = T7 at b7 hP
        refine r_if_eqN (tgt := 187) hx hb dL_isProgram_180 (by decide) (by omega) (fun c_180 => absurd c_180 (by decide)) (fun c_180 => ?_)
        refine lv_iconst (v := nI 1) hx hb dL_isProgram_183 (by decide) ?_
        refine lv_goto (tgt := 188) hx hb dL_isProgram_184 (by decide) ?_
        refine lv_istore (lv' := [(4, .int (nI 1)), (3, .int (nI (z / 12096))), (0, .ref x9), (1, .ref (L 901 0)), (2, .int (nI q9))]) hx hb dL_isProgram_188 hl (by decide) rfl (fun ls hl => ?_)
        refine lv_iload hx hb dL_isProgram_190 (lv_at hl 0 rfl) ?_
        refine r_if_eqN (tgt := 250) hx hb dL_isProgram_192 (by decide) (by omega) (fun c_192 => absurd c_192 (by decide)) (fun c_192 => ?_)
        refine lv_aload_n hx hb dL_isProgram_195 rfl (lv_at hl 2 rfl) ?_
        refine lv_aload_n hx hb dL_isProgram_196 rfl (lv_at hl 3 rfl) ?_
        refine lv_iload_n hx hb dL_isProgram_197 rfl (lv_at hl 4 rfl) ?_
        refine lv_iconst (v := nI 1) hx hb dL_isProgram_198 (by decide) ?_
        refine lv_iconst (v := nI 0) hx hb dL_isProgram_199 (by decide) ?_
        refine r_top (y := nI 16 - nI 16) (by decide) ?_
        refine vi_call X hK hE hX (P := VB9 D cI cZ cO t0 z0 x9 L 0 (q9 + 1) T7) (P' := VB9 D cI cZ cO t0 z0 x9 L 0 (q9 + 1) (h_bw q9 7 1 16 T7)) (hP) (hP.choose_spec.choose_spec.1.choose_spec.choose_spec.2.2.2.2.2) hS ysL_isBlock ml_L_120 [.ref x9, .ref (L 901 0), .int (nI q9), .int (nI 1), .int (nI 16 - nI 16)] [] (v_L_isBlock (D := D) (cI := cI) (cZ := cZ) (cO := cO) (t0 := t0) (mi := mi) (z0 := z0) (x9 := x9) (L := L) l hl9 0 (q9 + 1) q9 7 1 16 T7 (by omega) (by omega) (by decide) (by first | decide | omega) (by omega) b7.1 (by rw [b7.2.2.1 905 (by decide)]; exact h10) (isb_0 (by decide) (by omega) (by omega))) rfl hl.1 rfl (Nat.le_of_ble_eq_true rfl) ⟨Nat.le_of_ble_eq_true rfl, Nat.le_of_ble_eq_true rfl⟩ ⟨Nat.le_of_ble_eq_true rfl, Nat.le_of_ble_eq_true rfl⟩ dL_isProgram_200 (fun H locs hP hS => ?_)
        have b8 : BL q9 σ (h_bw q9 7 1 16 T7) [5 + 8 * (z % 4 + 16), 2 + 8 * ((z / 4) % 12 + 16), 3 + 8 * ((z / 48) % 4 + 16), 0 + 8 * c4, 4 + 8 * ((z / 1344) % 9 + 16), 1 + 8 * (((z / 12096) / 9) % 2 + 16), 2 + 8 * c9, 1 + 8 * 16] := b7.snoc hp (Nat.le_of_ble_eq_true rfl) 1 16
        generalize h_bw q9 7 1 16 T7 = T8 at b8 hP
        refine r_if_eqN (tgt := 250) hx hb dL_isProgram_203 (by decide) (by omega) (fun c_203 => absurd c_203 (by decide)) (fun c_203 => ?_)
        refine lv_aload_n hx hb dL_isProgram_206 rfl (lv_at hl 2 rfl) ?_
        refine lv_aload_n hx hb dL_isProgram_207 rfl (lv_at hl 3 rfl) ?_
        refine lv_iload_n hx hb dL_isProgram_208 rfl (lv_at hl 4 rfl) ?_
        refine lv_iconst (v := nI 3) hx hb dL_isProgram_209 (by decide) ?_
        refine lv_iload_n hx hb dL_isProgram_210 rfl (lv_at hl 1 rfl) ?_
        refine lv_sipush (v := nI 216) hx hb dL_isProgram_211 (by decide) ?_
        refine r_divN hx hb (by omega) (by decide) (by decide) dL_isProgram_214 ?_
        refine lv_iconst (v := nI 4) hx hb dL_isProgram_215 (by decide) ?_
        refine r_remN hx hb (by omega) (by decide) (by decide) dL_isProgram_216 ?_
        refine r_top (y := nI (((z / 12096) / 216) % 4 + 16) - nI 16) (add16) ?_
        refine vi_call X hK hE hX (P := VB9 D cI cZ cO t0 z0 x9 L 0 (q9 + 1) T8) (P' := VB9 D cI cZ cO t0 z0 x9 L 0 (q9 + 1) (h_bw q9 8 3 (((z / 12096) / 216) % 4 + 16) T8)) (hP) (hP.choose_spec.choose_spec.1.choose_spec.choose_spec.2.2.2.2.2) hS ysL_isBlock ml_L_120 [.ref x9, .ref (L 901 0), .int (nI q9), .int (nI 3), .int (nI (((z / 12096) / 216) % 4 + 16) - nI 16)] [] (v_L_isBlock (D := D) (cI := cI) (cZ := cZ) (cO := cO) (t0 := t0) (mi := mi) (z0 := z0) (x9 := x9) (L := L) l hl9 0 (q9 + 1) q9 8 3 (((z / 12096) / 216) % 4 + 16) T8 (by omega) (by omega) (by decide) (by first | decide | omega) (by omega) b8.1 (by rw [b8.2.2.1 905 (by decide)]; exact h10) (isb_3 (by omega) (by omega))) rfl hl.1 rfl (Nat.le_of_ble_eq_true rfl) ⟨Nat.le_of_ble_eq_true rfl, Nat.le_of_ble_eq_true rfl⟩ ⟨Nat.le_of_ble_eq_true rfl, Nat.le_of_ble_eq_true rfl⟩ dL_isProgram_217 (fun H locs hP hS => ?_)
        have b9 : BL q9 σ (h_bw q9 8 3 (((z / 12096) / 216) % 4 + 16) T8) [5 + 8 * (z % 4 + 16), 2 + 8 * ((z / 4) % 12 + 16), 3 + 8 * ((z / 48) % 4 + 16), 0 + 8 * c4, 4 + 8 * ((z / 1344) % 9 + 16), 1 + 8 * (((z / 12096) / 9) % 2 + 16), 2 + 8 * c9, 1 + 8 * 16, 3 + 8 * (((z / 12096) / 216) % 4 + 16)] := b8.snoc hp (Nat.le_of_ble_eq_true rfl) 3 (((z / 12096) / 216) % 4 + 16)
        generalize h_bw q9 8 3 (((z / 12096) / 216) % 4 + 16) T8 = T9 at b9 hP
        refine r_if_eqN (tgt := 250) hx hb dL_isProgram_220 (by decide) (by omega) (fun c_220 => absurd c_220 (by decide)) (fun c_220 => ?_)
        refine lv_iload_n hx hb dL_isProgram_223 rfl (lv_at hl 1 rfl) ?_
        refine lv_sipush (v := nI 864) hx hb dL_isProgram_224 (by decide) ?_
        refine r_divN hx hb (by omega) (by decide) (by decide) dL_isProgram_227 ?_
        refine lv_bipush (v := nI 8) hx hb dL_isProgram_228 (by decide) ?_
        refine r_remN hx hb (by omega) (by decide) (by decide) dL_isProgram_230 ?_
        refine r_if_eqN (tgt := 246) hx hb dL_isProgram_231 (by decide) (by omega) (fun c_231 => ?_) (fun c_231 => ?_)
        · refine lv_iconst (v := nI 1) hx hb dL_isProgram_246 (by decide) ?_
          refine lv_goto (tgt := 251) hx hb dL_isProgram_247 (by decide) ?_
          exact vi_ret X hr hlocks (⟨T9, hP, b9.2.2.1 905 (by decide), b9.gip (Nat.le_of_ble_eq_true rfl) ⟨ok_5 (by omega) (by omega), ⟨ok_0 (by decide) (by omega), ⟨ok_3 (by omega) (by omega), ⟨ok_0 (by decide) (by omega), ⟨ok_0 (by decide) (by omega), ⟨ok_1 (by omega) (Or.inr nb_2), ⟨ok_0 (by decide) (by omega), ⟨ok_1 (by decide) (Or.inl rfl), ⟨ok_3 (by omega) (by omega), trivial⟩⟩⟩⟩⟩⟩⟩⟩⟩, b9.2.2.2.2⟩) hS (rfl) (Nat.le_of_ble_eq_true rfl) (Nat.le_of_ble_eq_true rfl) rfl dL_isProgram_251
        · refine lv_aload_n hx hb dL_isProgram_234 rfl (lv_at hl 2 rfl) ?_
          refine lv_aload_n hx hb dL_isProgram_235 rfl (lv_at hl 3 rfl) ?_
          refine lv_iload_n hx hb dL_isProgram_236 rfl (lv_at hl 4 rfl) ?_
          refine lv_iconst (v := nI 4) hx hb dL_isProgram_237 (by decide) ?_
          refine lv_bipush (v := nI 9) hx hb dL_isProgram_238 (by decide) ?_
          refine r_top (y := nI 25 - nI 16) (by decide) ?_
          refine vi_call X hK hE hX (P := VB9 D cI cZ cO t0 z0 x9 L 0 (q9 + 1) T9) (P' := VB9 D cI cZ cO t0 z0 x9 L 0 (q9 + 1) (h_bw q9 9 4 25 T9)) (hP) (hP.choose_spec.choose_spec.1.choose_spec.choose_spec.2.2.2.2.2) hS ysL_isBlock ml_L_120 [.ref x9, .ref (L 901 0), .int (nI q9), .int (nI 4), .int (nI 25 - nI 16)] [] (v_L_isBlock (D := D) (cI := cI) (cZ := cZ) (cO := cO) (t0 := t0) (mi := mi) (z0 := z0) (x9 := x9) (L := L) l hl9 0 (q9 + 1) q9 9 4 25 T9 (by omega) (by omega) (by decide) (by first | decide | omega) (by omega) b9.1 (by rw [b9.2.2.1 905 (by decide)]; exact h10) (isb_4 (by omega) (by omega))) rfl hl.1 rfl (Nat.le_of_ble_eq_true rfl) ⟨Nat.le_of_ble_eq_true rfl, Nat.le_of_ble_eq_true rfl⟩ ⟨Nat.le_of_ble_eq_true rfl, Nat.le_of_ble_eq_true rfl⟩ dL_isProgram_240 (fun H locs hP hS => ?_)
          have b10 : BL q9 σ (h_bw q9 9 4 25 T9) [5 + 8 * (z % 4 + 16), 2 + 8 * ((z / 4) % 12 + 16), 3 + 8 * ((z / 48) % 4 + 16), 0 + 8 * c4, 4 + 8 * ((z / 1344) % 9 + 16), 1 + 8 * (((z / 12096) / 9) % 2 + 16), 2 + 8 * c9, 1 + 8 * 16, 3 + 8 * (((z / 12096) / 216) % 4 + 16), 4 + 8 * 25] := b9.snoc hp (Nat.le_of_ble_eq_true rfl) 4 25
          generalize h_bw q9 9 4 25 T9 = T10 at b10 hP
          refine r_if_eqN (tgt := 250) hx hb dL_isProgram_243 (by decide) (by omega) (fun c_243 => absurd c_243 (by decide)) (fun c_243 => ?_)
          refine lv_iconst (v := nI 1) hx hb dL_isProgram_246 (by decide) ?_
          refine lv_goto (tgt := 251) hx hb dL_isProgram_247 (by decide) ?_
          exact vi_ret X hr hlocks (⟨T10, hP, b10.2.2.1 905 (by decide), b10.gip (Nat.le_of_ble_eq_true rfl) ⟨ok_5 (by omega) (by omega), ⟨ok_0 (by decide) (by omega), ⟨ok_3 (by omega) (by omega), ⟨ok_0 (by decide) (by omega), ⟨ok_0 (by decide) (by omega), ⟨ok_1 (by omega) (Or.inr nb_2), ⟨ok_0 (by decide) (by omega), ⟨ok_1 (by decide) (Or.inl rfl), ⟨ok_3 (by omega) (by omega), ⟨ok_0 (by decide) (by omega), trivial⟩⟩⟩⟩⟩⟩⟩⟩⟩⟩, b10.2.2.2.2⟩) hS (rfl) (Nat.le_of_ble_eq_true rfl) (Nat.le_of_ble_eq_true rfl) rfl dL_isProgram_251
      · refine lv_iload_n hx hb dL_isProgram_160 rfl (lv_at hl 0 rfl) ?_
        refine lv_bipush (v := nI 9) hx hb dL_isProgram_161 (by decide) ?_
        refine r_divN hx hb (by omega) (by decide) (by decide) dL_isProgram_163 ?_
        refine lv_iconst (v := nI 2) hx hb dL_isProgram_164 (by decide) ?_
        refine r_remN hx hb (by omega) (by decide) (by decide) dL_isProgram_165 ?_
        refine lv_iconst (v := nI 1) hx hb dL_isProgram_166 (by decide) ?_
        refine r_icmp_neN (tgt := 175) hx hb dL_isProgram_167 (by decide) (by omega) (by omega) (fun c_167 => ?_) (fun c_167 => ?_)
        · refine lv_iconst (v := nI 0) hx hb dL_isProgram_175 (by decide) ?_
          exact r_top (congrArg nI (if_neg c_167).symm) (J_176 _ _ hP hS)
        · refine lv_bipush (v := nI 6) hx hb dL_isProgram_170 (by decide) ?_
          refine lv_goto (tgt := 176) hx hb dL_isProgram_172 (by decide) ?_
          exact r_top (congrArg nI (if_pos c_167).symm) (J_176 _ _ hP hS)
    · refine lv_iload_n hx hb dL_isProgram_111 rfl (lv_at hl 0 rfl) ?_
      refine lv_iconst (v := nI 3) hx hb dL_isProgram_112 (by decide) ?_
      refine r_remN hx hb (by omega) (by decide) (by decide) dL_isProgram_113 ?_
      refine r_if_gtN (tgt := 133) hx hb dL_isProgram_114 (by decide) (by omega) (fun c_114 => ?_) (fun c_114 => ?_)
      · refine lv_aload_n hx hb dL_isProgram_133 rfl (lv_at hl 2 rfl) ?_
        refine lv_aload_n hx hb dL_isProgram_134 rfl (lv_at hl 3 rfl) ?_
        refine lv_iload_n hx hb dL_isProgram_135 rfl (lv_at hl 4 rfl) ?_
        refine lv_iconst (v := nI 1) hx hb dL_isProgram_136 (by decide) ?_
        refine lv_iload_n hx hb dL_isProgram_137 rfl (lv_at hl 0 rfl) ?_
        refine lv_bipush (v := nI 9) hx hb dL_isProgram_138 (by decide) ?_
        refine r_divN hx hb (by omega) (by decide) (by decide) dL_isProgram_140 ?_
        refine lv_iconst (v := nI 2) hx hb dL_isProgram_141 (by decide) ?_
        refine r_remN hx hb (by omega) (by decide) (by decide) dL_isProgram_142 ?_
        refine r_top (y := nI (((z / 12096) / 9) % 2 + 16) - nI 16) (add16) ?_
        refine vi_call X hK hE hX (P := VB9 D cI cZ cO t0 z0 x9 L 0 (q9 + 1) T5) (P' := VB9 D cI cZ cO t0 z0 x9 L 0 (q9 + 1) (h_bw q9 5 1 (((z / 12096) / 9) % 2 + 16) T5)) (hP) (hP.choose_spec.choose_spec.1.choose_spec.choose_spec.2.2.2.2.2) hS ysL_isBlock ml_L_120 [.ref x9, .ref (L 901 0), .int (nI q9), .int (nI 1), .int (nI (((z / 12096) / 9) % 2 + 16) - nI 16)] [] (v_L_isBlock (D := D) (cI := cI) (cZ := cZ) (cO := cO) (t0 := t0) (mi := mi) (z0 := z0) (x9 := x9) (L := L) l hl9 0 (q9 + 1) q9 5 1 (((z / 12096) / 9) % 2 + 16) T5 (by omega) (by omega) (by decide) (by first | decide | omega) (by omega) b5.1 (by rw [b5.2.2.1 905 (by decide)]; exact h10) (isb_0 (by decide) (by omega) (by omega))) rfl hl.1 rfl (Nat.le_of_ble_eq_true rfl) ⟨Nat.le_of_ble_eq_true rfl, Nat.le_of_ble_eq_true rfl⟩ ⟨Nat.le_of_ble_eq_true rfl, Nat.le_of_ble_eq_true rfl⟩ dL_isProgram_143 (fun H locs hP hS => ?_)
        have b11 : BL q9 σ (h_bw q9 5 1 (((z / 12096) / 9) % 2 + 16) T5) [5 + 8 * (z % 4 + 16), 2 + 8 * ((z / 4) % 12 + 16), 3 + 8 * ((z / 48) % 4 + 16), 0 + 8 * c4, 4 + 8 * ((z / 1344) % 9 + 16), 1 + 8 * (((z / 12096) / 9) % 2 + 16)] := b5.snoc hp (Nat.le_of_ble_eq_true rfl) 1 (((z / 12096) / 9) % 2 + 16)
        generalize h_bw q9 5 1 (((z / 12096) / 9) % 2 + 16) T5 = T11 at b11 hP
        refine r_if_eqN (tgt := 187) hx hb dL_isProgram_146 (by decide) (by omega) (fun c_146 => absurd c_146 (by decide)) (fun c_146 => ?_)
        refine lv_aload_n hx hb dL_isProgram_149 rfl (lv_at hl 2 rfl) ?_
        refine lv_aload_n hx hb dL_isProgram_150 rfl (lv_at hl 3 rfl) ?_
        refine lv_iload_n hx hb dL_isProgram_151 rfl (lv_at hl 4 rfl) ?_
        refine lv_iconst (v := nI 2) hx hb dL_isProgram_152 (by decide) ?_
        refine lv_iload_n hx hb dL_isProgram_153 rfl (lv_at hl 0 rfl) ?_
        refine lv_bipush (v := nI 18) hx hb dL_isProgram_154 (by decide) ?_
        refine r_divN hx hb (by omega) (by decide) (by decide) dL_isProgram_156 ?_
        refine lv_bipush (v := nI 12) hx hb dL_isProgram_157 (by decide) ?_
        refine r_remN hx hb (by omega) (by decide) (by decide) dL_isProgram_159 ?_
        refine r_cutV (P := fun H => VB9 D cI cZ cO t0 z0 x9 L 0 (q9 + 1) T11 H) 176 [.int (nI (if z / 12096 / 9 % 2 = 1 then 6 else 0)), .int (nI (((z / 12096) / 18) % 12)), .int (nI 2), .int (nI q9), .ref (L 901 0), .ref x9] hP hS (fun H locs hP hS => ?_) (fun J_176 => ?_)
        · have hP : VB9 D cI cZ cO t0 z0 x9 L 0 (q9 + 1) T11 H := hP
          refine lv_isub hx hb dL_isProgram_176 ?_
          obtain ⟨c9, hc9, hc1, hc2⟩ : ∃ c9, ((nI (((z / 12096) / 18) % 12)) - (nI (if z / 12096 / 9 % 2 = 1 then 6 else 0))) = nI c9 - nI 16 ∧ 10 ≤ c9 ∧ c9 ≤ 27 := ⟨(((z / 12096) / 18) % 12) + 16 - (if z / 12096 / 9 % 2 = 1 then 6 else 0), sub16 (by split <;> omega), by split <;> omega, by split <;> omega⟩
          refine r_top (y := nI c9 - nI 16) hc9 ?_
          refine vi_call X hK hE hX (P := VB9 D cI cZ cO t0 z0 x9 L 0 (q9 + 1) T11) (P' := VB9 D cI cZ cO t0 z0 x9 L 0 (q9 + 1) (h_bw q9 6 2 c9 T11)) (hP) (hP.choose_spec.choose_spec.1.choose_spec.choose_spec.2.2.2.2.2) hS ysL_isBlock ml_L_120 [.ref x9, .ref (L 901 0), .int (nI q9), .int (nI 2), .int (nI c9 - nI 16)] [] (v_L_isBlock (D := D) (cI := cI) (cZ := cZ) (cO := cO) (t0 := t0) (mi := mi) (z0 := z0) (x9 := x9) (L := L) l hl9 0 (q9 + 1) q9 6 2 c9 T11 (by omega) (by omega) (by decide) (by first | decide | omega) (by omega) b11.1 (by rw [b11.2.2.1 905 (by decide)]; exact h10) (isb_2 (by omega) (by omega))) rfl hl.1 rfl (Nat.le_of_ble_eq_true rfl) ⟨Nat.le_of_ble_eq_true rfl, Nat.le_of_ble_eq_true rfl⟩ ⟨Nat.le_of_ble_eq_true rfl, Nat.le_of_ble_eq_true rfl⟩ dL_isProgram_177 (fun H locs hP hS => ?_)
          have b12 : BL q9 σ (h_bw q9 6 2 c9 T11) [5 + 8 * (z % 4 + 16), 2 + 8 * ((z / 4) % 12 + 16), 3 + 8 * ((z / 48) % 4 + 16), 0 + 8 * c4, 4 + 8 * ((z / 1344) % 9 + 16), 1 + 8 * (((z / 12096) / 9) % 2 + 16), 2 + 8 * c9] := b11.snoc hp (Nat.le_of_ble_eq_true rfl) 2 c9
          generalize h_bw q9 6 2 c9 T11 = T12 at b12 hP
          refine r_if_eqN (tgt := 187) hx hb dL_isProgram_180 (by decide) (by omega) (fun c_180 => absurd c_180 (by decide)) (fun c_180 => ?_)
          refine lv_iconst (v := nI 1) hx hb dL_isProgram_183 (by decide) ?_
          refine lv_goto (tgt := 188) hx hb dL_isProgram_184 (by decide) ?_
          refine lv_istore (lv' := [(4, .int (nI 1)), (3, .int (nI (z / 12096))), (0, .ref x9), (1, .ref (L 901 0)), (2, .int (nI q9))]) hx hb dL_isProgram_188 hl (by decide) rfl (fun ls hl => ?_)
          refine lv_iload hx hb dL_isProgram_190 (lv_at hl 0 rfl) ?_
          refine r_if_eqN (tgt := 250) hx hb dL_isProgram_192 (by decide) (by omega) (fun c_192 => absurd c_192 (by decide)) (fun c_192 => ?_)
          refine lv_aload_n hx hb dL_isProgram_195 rfl (lv_at hl 2 rfl) ?_
          refine lv_aload_n hx hb dL_isProgram_196 rfl (lv_at hl 3 rfl) ?_
          refine lv_iload_n hx hb dL_isProgram_197 rfl (lv_at hl 4 rfl) ?_
          refine lv_iconst (v := nI 1) hx hb dL_isProgram_198 (by decide) ?_
          refine lv_iconst (v := nI 0) hx hb dL_isProgram_199 (by decide) ?_
          refine r_top (y := nI 16 - nI 16) (by decide) ?_
          refine vi_call X hK hE hX (P := VB9 D cI cZ cO t0 z0 x9 L 0 (q9 + 1) T12) (P' := VB9 D cI cZ cO t0 z0 x9 L 0 (q9 + 1) (h_bw q9 7 1 16 T12)) (hP) (hP.choose_spec.choose_spec.1.choose_spec.choose_spec.2.2.2.2.2) hS ysL_isBlock ml_L_120 [.ref x9, .ref (L 901 0), .int (nI q9), .int (nI 1), .int (nI 16 - nI 16)] [] (v_L_isBlock (D := D) (cI := cI) (cZ := cZ) (cO := cO) (t0 := t0) (mi := mi) (z0 := z0) (x9 := x9) (L := L) l hl9 0 (q9 + 1) q9 7 1 16 T12 (by omega) (by omega) (by decide) (by first | decide | omega) (by omega) b12.1 (by rw [b12.2.2.1 905 (by decide)]; exact h10) (isb_0 (by decide) (by omega) (by omega))) rfl hl.1 rfl (Nat.le_of_ble_eq_true rfl) ⟨Nat.le_of_ble_eq_true rfl, Nat.le_of_ble_eq_true rfl⟩ ⟨Nat.le_of_ble_eq_true rfl, Nat.le_of_ble_eq_true rfl⟩ dL_isProgram_200 (fun H locs hP hS => ?_)
          have b13 : BL q9 σ (h_bw q9 7 1 16 T12) [5 + 8 * (z % 4 + 16), 2 + 8 * ((z / 4) % 12 + 16), 3 + 8 * ((z / 48) % 4 + 16), 0 + 8 * c4, 4 + 8 * ((z / 1344) % 9 + 16), 1 + 8 * (((z / 12096) / 9) % 2 + 16), 2 + 8 * c9, 1 + 8 * 16] := b12.snoc hp (Nat.le_of_ble_eq_true rfl) 1 16
          generalize h_bw q9 7 1 16 T12 = T13 at b13 hP
          refine r_if_eqN (tgt := 250) hx hb dL_isProgram_203 (by decide) (by omega) (fun c_203 => absurd c_203 (by decide)) (fun c_203 => ?_)
          refine lv_aload_n hx hb dL_isProgram_206 rfl (lv_at hl 2 rfl) ?_
          refine lv_aload_n hx hb dL_isProgram_207 rfl (lv_at hl 3 rfl) ?_
          refine lv_iload_n hx hb dL_isProgram_208 rfl (lv_at hl 4 rfl) ?_
          refine lv_iconst (v := nI 3) hx hb dL_isProgram_209 (by decide) ?_
          refine lv_iload_n hx hb dL_isProgram_210 rfl (lv_at hl 1 rfl) ?_
          refine lv_sipush (v := nI 216) hx hb dL_isProgram_211 (by decide) ?_
          refine r_divN hx hb (by omega) (by decide) (by decide) dL_isProgram_214 ?_
          refine lv_iconst (v := nI 4) hx hb dL_isProgram_215 (by decide) ?_
          refine r_remN hx hb (by omega) (by decide) (by decide) dL_isProgram_216 ?_
          refine r_top (y := nI (((z / 12096) / 216) % 4 + 16) - nI 16) (add16) ?_
          refine vi_call X hK hE hX (P := VB9 D cI cZ cO t0 z0 x9 L 0 (q9 + 1) T13) (P' := VB9 D cI cZ cO t0 z0 x9 L 0 (q9 + 1) (h_bw q9 8 3 (((z / 12096) / 216) % 4 + 16) T13)) (hP) (hP.choose_spec.choose_spec.1.choose_spec.choose_spec.2.2.2.2.2) hS ysL_isBlock ml_L_120 [.ref x9, .ref (L 901 0), .int (nI q9), .int (nI 3), .int (nI (((z / 12096) / 216) % 4 + 16) - nI 16)] [] (v_L_isBlock (D := D) (cI := cI) (cZ := cZ) (cO := cO) (t0 := t0) (mi := mi) (z0 := z0) (x9 := x9) (L := L) l hl9 0 (q9 + 1) q9 8 3 (((z / 12096) / 216) % 4 + 16) T13 (by omega) (by omega) (by decide) (by first | decide | omega) (by omega) b13.1 (by rw [b13.2.2.1 905 (by decide)]; exact h10) (isb_3 (by omega) (by omega))) rfl hl.1 rfl (Nat.le_of_ble_eq_true rfl) ⟨Nat.le_of_ble_eq_true rfl, Nat.le_of_ble_eq_true rfl⟩ ⟨Nat.le_of_ble_eq_true rfl, Nat.le_of_ble_eq_true rfl⟩ dL_isProgram_217 (fun H locs hP hS => ?_)
          have b14 : BL q9 σ (h_bw q9 8 3 (((z / 12096) / 216) % 4 + 16) T13) [5 + 8 * (z % 4 + 16), 2 + 8 * ((z / 4) % 12 + 16), 3 + 8 * ((z / 48) % 4 + 16), 0 + 8 * c4, 4 + 8 * ((z / 1344) % 9 + 16), 1 + 8 * (((z / 12096) / 9) % 2 + 16), 2 + 8 * c9, 1 + 8 * 16, 3 + 8 * (((z / 12096) / 216) % 4 + 16)] := b13.snoc hp (Nat.le_of_ble_eq_true rfl) 3 (((z / 12096) / 216) % 4 + 16)
          generalize h_bw q9 8 3 (((z / 12096) / 216) % 4 + 16) T13 = T14 at b14 hP
          refine r_if_eqN (tgt := 250) hx hb dL_isProgram_220 (by decide) (by omega) (fun c_220 => absurd c_220 (by decide)) (fun c_220 => ?_)
          refine lv_iload_n hx hb dL_isProgram_223 rfl (lv_at hl 1 rfl) ?_
          refine lv_sipush (v := nI 864) hx hb dL_isProgram_224 (by decide) ?_
          refine r_divN hx hb (by omega) (by decide) (by decide) dL_isProgram_227 ?_
          refine lv_bipush (v := nI 8) hx hb dL_isProgram_228 (by decide) ?_
          refine r_remN hx hb (by omega) (by decide) (by decide) dL_isProgram_230 ?_
          refine r_if_eqN (tgt := 246) hx hb dL_isProgram_231 (by decide) (by omega) (fun c_231 => ?_) (fun c_231 => ?_)
          · refine lv_iconst (v := nI 1) hx hb dL_isProgram_246 (by decide) ?_
            refine lv_goto (tgt := 251) hx hb dL_isProgram_247 (by decide) ?_
            exact vi_ret X hr hlocks (⟨T14, hP, b14.2.2.1 905 (by decide), b14.gip (Nat.le_of_ble_eq_true rfl) ⟨ok_5 (by omega) (by omega), ⟨ok_0 (by decide) (by omega), ⟨ok_3 (by omega) (by omega), ⟨ok_0 (by decide) (by omega), ⟨ok_0 (by decide) (by omega), ⟨ok_1 (by omega) (Or.inr nb_2), ⟨ok_0 (by decide) (by omega), ⟨ok_1 (by decide) (Or.inl rfl), ⟨ok_3 (by omega) (by omega), trivial⟩⟩⟩⟩⟩⟩⟩⟩⟩, b14.2.2.2.2⟩) hS (rfl) (Nat.le_of_ble_eq_true rfl) (Nat.le_of_ble_eq_true rfl) rfl dL_isProgram_251
          · refine lv_aload_n hx hb dL_isProgram_234 rfl (lv_at hl 2 rfl) ?_
            refine lv_aload_n hx hb dL_isProgram_235 rfl (lv_at hl 3 rfl) ?_
            refine lv_iload_n hx hb dL_isProgram_236 rfl (lv_at hl 4 rfl) ?_
            refine lv_iconst (v := nI 4) hx hb dL_isProgram_237 (by decide) ?_
            refine lv_bipush (v := nI 9) hx hb dL_isProgram_238 (by decide) ?_
            refine r_top (y := nI 25 - nI 16) (by decide) ?_
            refine vi_call X hK hE hX (P := VB9 D cI cZ cO t0 z0 x9 L 0 (q9 + 1) T14) (P' := VB9 D cI cZ cO t0 z0 x9 L 0 (q9 + 1) (h_bw q9 9 4 25 T14)) (hP) (hP.choose_spec.choose_spec.1.choose_spec.choose_spec.2.2.2.2.2) hS ysL_isBlock ml_L_120 [.ref x9, .ref (L 901 0), .int (nI q9), .int (nI 4), .int (nI 25 - nI 16)] [] (v_L_isBlock (D := D) (cI := cI) (cZ := cZ) (cO := cO) (t0 := t0) (mi := mi) (z0 := z0) (x9 := x9) (L := L) l hl9 0 (q9 + 1) q9 9 4 25 T14 (by omega) (by omega) (by decide) (by first | decide | omega) (by omega) b14.1 (by rw [b14.2.2.1 905 (by decide)]; exact h10) (isb_4 (by omega) (by omega))) rfl hl.1 rfl (Nat.le_of_ble_eq_true rfl) ⟨Nat.le_of_ble_eq_true rfl, Nat.le_of_ble_eq_true rfl⟩ ⟨Nat.le_of_ble_eq_true rfl, Nat.le_of_ble_eq_true rfl⟩ dL_isProgram_240 (fun H locs hP hS => ?_)
            have b15 : BL q9 σ (h_bw q9 9 4 25 T14) [5 + 8 * (z % 4 + 16), 2 + 8 * ((z / 4) % 12 + 16), 3 + 8 * ((z / 48) % 4 + 16), 0 + 8 * c4, 4 + 8 * ((z / 1344) % 9 + 16), 1 + 8 * (((z / 12096) / 9) % 2 + 16), 2 + 8 * c9, 1 + 8 * 16, 3 + 8 * (((z / 12096) / 216) % 4 + 16), 4 + 8 * 25] := b14.snoc hp (Nat.le_of_ble_eq_true rfl) 4 25
            generalize h_bw q9 9 4 25 T14 = T15 at b15 hP
            refine r_if_eqN (tgt := 250) hx hb dL_isProgram_243 (by decide) (by omega) (fun c_243 => absurd c_243 (by decide)) (fun c_243 => ?_)
            refine lv_iconst (v := nI 1) hx hb dL_isProgram_246 (by decide) ?_
            refine lv_goto (tgt := 251) hx hb dL_isProgram_247 (by decide) ?_
            exact vi_ret X hr hlocks (⟨T15, hP, b15.2.2.1 905 (by decide), b15.gip (Nat.le_of_ble_eq_true rfl) ⟨ok_5 (by omega) (by omega), ⟨ok_0 (by decide) (by omega), ⟨ok_3 (by omega) (by omega), ⟨ok_0 (by decide) (by omega), ⟨ok_0 (by decide) (by omega), ⟨ok_1 (by omega) (Or.inr nb_2), ⟨ok_0 (by decide) (by omega), ⟨ok_1 (by decide) (Or.inl rfl), ⟨ok_3 (by omega) (by omega), ⟨ok_0 (by decide) (by omega), trivial⟩⟩⟩⟩⟩⟩⟩⟩⟩⟩, b15.2.2.2.2⟩) hS (rfl) (Nat.le_of_ble_eq_true rfl) (Nat.le_of_ble_eq_true rfl) rfl dL_isProgram_251
        · refine lv_iload_n hx hb dL_isProgram_160 rfl (lv_at hl 0 rfl) ?_
          refine lv_bipush (v := nI 9) hx hb dL_isProgram_161 (by decide) ?_
          refine r_divN hx hb (by omega) (by decide) (by decide) dL_isProgram_163 ?_
          refine lv_iconst (v := nI 2) hx hb dL_isProgram_164 (by decide) ?_
          refine r_remN hx hb (by omega) (by decide) (by decide) dL_isProgram_165 ?_
          refine lv_iconst (v := nI 1) hx hb dL_isProgram_166 (by decide) ?_
          refine r_icmp_neN (tgt := 175) hx hb dL_isProgram_167 (by decide) (by omega) (by omega) (fun c_167 => ?_) (fun c_167 => ?_)
          · refine lv_iconst (v := nI 0) hx hb dL_isProgram_175 (by decide) ?_
            exact r_top (congrArg nI (if_neg c_167).symm) (J_176 _ _ hP hS)
          · refine lv_bipush (v := nI 6) hx hb dL_isProgram_170 (by decide) ?_
            refine lv_goto (tgt := 176) hx hb dL_isProgram_172 (by decide) ?_
            exact r_top (congrArg nI (if_pos c_167).symm) (J_176 _ _ hP hS)
      · refine lv_aload_n hx hb dL_isProgram_117 rfl (lv_at hl 2 rfl) ?_
        refine lv_aload_n hx hb dL_isProgram_118 rfl (lv_at hl 3 rfl) ?_
        refine lv_iload_n hx hb dL_isProgram_119 rfl (lv_at hl 4 rfl) ?_
        refine lv_bipush (v := nI 6) hx hb dL_isProgram_120 (by decide) ?_
        refine lv_iload_n hx hb dL_isProgram_122 rfl (lv_at hl 0 rfl) ?_
        refine lv_iconst (v := nI 3) hx hb dL_isProgram_123 (by decide) ?_
        refine r_divN hx hb (by omega) (by decide) (by decide) dL_isProgram_124 ?_
        refine lv_iload_n hx hb dL_isProgram_125 rfl (lv_at hl 4 rfl) ?_
        refine r_remN hx hb (by omega) (by omega) (by omega) dL_isProgram_126 ?_
        have hm9 := Nat.mod_lt ((z / 12096) / 3) (show q9 > 0 by omega)
        generalize ((z / 12096) / 3) % q9 = m9 at hm9 ⊢
        refine r_top (y := nI (m9 + 16) - nI 16) (add16) ?_
        refine vi_call X hK hE hX (P := VB9 D cI cZ cO t0 z0 x9 L 0 (q9 + 1) T5) (P' := VB9 D cI cZ cO t0 z0 x9 L 0 (q9 + 1) (h_bw q9 5 6 (m9 + 16) T5)) (hP) (hP.choose_spec.choose_spec.1.choose_spec.choose_spec.2.2.2.2.2) hS ysL_isBlock ml_L_120 [.ref x9, .ref (L 901 0), .int (nI q9), .int (nI 6), .int (nI (m9 + 16) - nI 16)] [] (v_L_isBlock (D := D) (cI := cI) (cZ := cZ) (cO := cO) (t0 := t0) (mi := mi) (z0 := z0) (x9 := x9) (L := L) l hl9 0 (q9 + 1) q9 5 6 (m9 + 16) T5 (by omega) (by omega) (by decide) (by first | decide | omega) (by omega) b5.1 (by rw [b5.2.2.1 905 (by decide)]; exact h10) (isb_6 hp (by omega) (by omega))) rfl hl.1 rfl (Nat.le_of_ble_eq_true rfl) ⟨Nat.le_of_ble_eq_true rfl, Nat.le_of_ble_eq_true rfl⟩ ⟨Nat.le_of_ble_eq_true rfl, Nat.le_of_ble_eq_true rfl⟩ dL_isProgram_127 (fun H locs hP hS => ?_)
        have b16 : BL q9 σ (h_bw q9 5 6 (m9 + 16) T5) [5 + 8 * (z % 4 + 16), 2 + 8 * ((z / 4) % 12 + 16), 3 + 8 * ((z / 48) % 4 + 16), 0 + 8 * c4, 4 + 8 * ((z / 1344) % 9 + 16), 6 + 8 * (m9 + 16)] := b5.snoc hp (Nat.le_of_ble_eq_true rfl) 6 (m9 + 16)
        generalize h_bw q9 5 6 (m9 + 16) T5 = T16 at b16 hP
        refine r_if_eqN (tgt := 187) hx hb dL_isProgram_130 (by decide) (by omega) (fun c_130 => absurd c_130 (by decide)) (fun c_130 => ?_)
        refine lv_aload_n hx hb dL_isProgram_133 rfl (lv_at hl 2 rfl) ?_
        refine lv_aload_n hx hb dL_isProgram_134 rfl (lv_at hl 3 rfl) ?_
        refine lv_iload_n hx hb dL_isProgram_135 rfl (lv_at hl 4 rfl) ?_
        refine lv_iconst (v := nI 1) hx hb dL_isProgram_136 (by decide) ?_
        refine lv_iload_n hx hb dL_isProgram_137 rfl (lv_at hl 0 rfl) ?_
        refine lv_bipush (v := nI 9) hx hb dL_isProgram_138 (by decide) ?_
        refine r_divN hx hb (by omega) (by decide) (by decide) dL_isProgram_140 ?_
        refine lv_iconst (v := nI 2) hx hb dL_isProgram_141 (by decide) ?_
        refine r_remN hx hb (by omega) (by decide) (by decide) dL_isProgram_142 ?_
        refine r_top (y := nI (((z / 12096) / 9) % 2 + 16) - nI 16) (add16) ?_
        refine vi_call X hK hE hX (P := VB9 D cI cZ cO t0 z0 x9 L 0 (q9 + 1) T16) (P' := VB9 D cI cZ cO t0 z0 x9 L 0 (q9 + 1) (h_bw q9 6 1 (((z / 12096) / 9) % 2 + 16) T16)) (hP) (hP.choose_spec.choose_spec.1.choose_spec.choose_spec.2.2.2.2.2) hS ysL_isBlock ml_L_120 [.ref x9, .ref (L 901 0), .int (nI q9), .int (nI 1), .int (nI (((z / 12096) / 9) % 2 + 16) - nI 16)] [] (v_L_isBlock (D := D) (cI := cI) (cZ := cZ) (cO := cO) (t0 := t0) (mi := mi) (z0 := z0) (x9 := x9) (L := L) l hl9 0 (q9 + 1) q9 6 1 (((z / 12096) / 9) % 2 + 16) T16 (by omega) (by omega) (by decide) (by first | decide | omega) (by omega) b16.1 (by rw [b16.2.2.1 905 (by decide)]; exact h10) (isb_0 (by decide) (by omega) (by omega))) rfl hl.1 rfl (Nat.le_of_ble_eq_true rfl) ⟨Nat.le_of_ble_eq_true rfl, Nat.le_of_ble_eq_true rfl⟩ ⟨Nat.le_of_ble_eq_true rfl, Nat.le_of_ble_eq_true rfl⟩ dL_isProgram_143 (fun H locs hP hS => ?_)
        have b17 : BL q9 σ (h_bw q9 6 1 (((z / 12096) / 9) % 2 + 16) T16) [5 + 8 * (z % 4 + 16), 2 + 8 * ((z / 4) % 12 + 16), 3 + 8 * ((z / 48) % 4 + 16), 0 + 8 * c4, 4 + 8 * ((z / 1344) % 9 + 16), 6 + 8 * (m9 + 16), 1 + 8 * (((z / 12096) / 9) % 2 + 16)] := b16.snoc hp (Nat.le_of_ble_eq_true rfl) 1 (((z / 12096) / 9) % 2 + 16)
        generalize h_bw q9 6 1 (((z / 12096) / 9) % 2 + 16) T16 = T17 at b17 hP
        refine r_if_eqN (tgt := 187) hx hb dL_isProgram_146 (by decide) (by omega) (fun c_146 => absurd c_146 (by decide)) (fun c_146 => ?_)
        refine lv_aload_n hx hb dL_isProgram_149 rfl (lv_at hl 2 rfl) ?_
        refine lv_aload_n hx hb dL_isProgram_150 rfl (lv_at hl 3 rfl) ?_
        refine lv_iload_n hx hb dL_isProgram_151 rfl (lv_at hl 4 rfl) ?_
        refine lv_iconst (v := nI 2) hx hb dL_isProgram_152 (by decide) ?_
        refine lv_iload_n hx hb dL_isProgram_153 rfl (lv_at hl 0 rfl) ?_
        refine lv_bipush (v := nI 18) hx hb dL_isProgram_154 (by decide) ?_
        refine r_divN hx hb (by omega) (by decide) (by decide) dL_isProgram_156 ?_
        refine lv_bipush (v := nI 12) hx hb dL_isProgram_157 (by decide) ?_
        refine r_remN hx hb (by omega) (by decide) (by decide) dL_isProgram_159 ?_
        refine r_cutV (P := fun H => VB9 D cI cZ cO t0 z0 x9 L 0 (q9 + 1) T17 H) 176 [.int (nI (if z / 12096 / 9 % 2 = 1 then 6 else 0)), .int (nI (((z / 12096) / 18) % 12)), .int (nI 2), .int (nI q9), .ref (L 901 0), .ref x9] hP hS (fun H locs hP hS => ?_) (fun J_176 => ?_)
        · have hP : VB9 D cI cZ cO t0 z0 x9 L 0 (q9 + 1) T17 H := hP
          refine lv_isub hx hb dL_isProgram_176 ?_
          obtain ⟨c9, hc9, hc1, hc2⟩ : ∃ c9, ((nI (((z / 12096) / 18) % 12)) - (nI (if z / 12096 / 9 % 2 = 1 then 6 else 0))) = nI c9 - nI 16 ∧ 10 ≤ c9 ∧ c9 ≤ 27 := ⟨(((z / 12096) / 18) % 12) + 16 - (if z / 12096 / 9 % 2 = 1 then 6 else 0), sub16 (by split <;> omega), by split <;> omega, by split <;> omega⟩
          refine r_top (y := nI c9 - nI 16) hc9 ?_
          refine vi_call X hK hE hX (P := VB9 D cI cZ cO t0 z0 x9 L 0 (q9 + 1) T17) (P' := VB9 D cI cZ cO t0 z0 x9 L 0 (q9 + 1) (h_bw q9 7 2 c9 T17)) (hP) (hP.choose_spec.choose_spec.1.choose_spec.choose_spec.2.2.2.2.2) hS ysL_isBlock ml_L_120 [.ref x9, .ref (L 901 0), .int (nI q9), .int (nI 2), .int (nI c9 - nI 16)] [] (v_L_isBlock (D := D) (cI := cI) (cZ := cZ) (cO := cO) (t0 := t0) (mi := mi) (z0 := z0) (x9 := x9) (L := L) l hl9 0 (q9 + 1) q9 7 2 c9 T17 (by omega) (by omega) (by decide) (by first | decide | omega) (by omega) b17.1 (by rw [b17.2.2.1 905 (by decide)]; exact h10) (isb_2 (by omega) (by omega))) rfl hl.1 rfl (Nat.le_of_ble_eq_true rfl) ⟨Nat.le_of_ble_eq_true rfl, Nat.le_of_ble_eq_true rfl⟩ ⟨Nat.le_of_ble_eq_true rfl, Nat.le_of_ble_eq_true rfl⟩ dL_isProgram_177 (fun H locs hP hS => ?_)
          have b18 : BL q9 σ (h_bw q9 7 2 c9 T17) [5 + 8 * (z % 4 + 16), 2 + 8 * ((z / 4) % 12 + 16), 3 + 8 * ((z / 48) % 4 + 16), 0 + 8 * c4, 4 + 8 * ((z / 1344) % 9 + 16), 6 + 8 * (m9 + 16), 1 + 8 * (((z / 12096) / 9) % 2 + 16), 2 + 8 * c9] := b17.snoc hp (Nat.le_of_ble_eq_true rfl) 2 c9
          generalize h_bw q9 7 2 c9 T17 = T18 at b18 hP
          refine r_if_eqN (tgt := 187) hx hb dL_isProgram_180 (by decide) (by omega) (fun c_180 => absurd c_180 (by decide)) (fun c_180 => ?_)
          refine lv_iconst (v := nI 1) hx hb dL_isProgram_183 (by decide) ?_
          refine lv_goto (tgt := 188) hx hb dL_isProgram_184 (by decide) ?_
          refine lv_istore (lv' := [(4, .int (nI 1)), (3, .int (nI (z / 12096))), (0, .ref x9), (1, .ref (L 901 0)), (2, .int (nI q9))]) hx hb dL_isProgram_188 hl (by decide) rfl (fun ls hl => ?_)
          refine lv_iload hx hb dL_isProgram_190 (lv_at hl 0 rfl) ?_
          refine r_if_eqN (tgt := 250) hx hb dL_isProgram_192 (by decide) (by omega) (fun c_192 => absurd c_192 (by decide)) (fun c_192 => ?_)
          refine lv_aload_n hx hb dL_isProgram_195 rfl (lv_at hl 2 rfl) ?_
          refine lv_aload_n hx hb dL_isProgram_196 rfl (lv_at hl 3 rfl) ?_
          refine lv_iload_n hx hb dL_isProgram_197 rfl (lv_at hl 4 rfl) ?_
          refine lv_iconst (v := nI 1) hx hb dL_isProgram_198 (by decide) ?_
          refine lv_iconst (v := nI 0) hx hb dL_isProgram_199 (by decide) ?_
          refine r_top (y := nI 16 - nI 16) (by decide) ?_
          refine vi_call X hK hE hX (P := VB9 D cI cZ cO t0 z0 x9 L 0 (q9 + 1) T18) (P' := VB9 D cI cZ cO t0 z0 x9 L 0 (q9 + 1) (h_bw q9 8 1 16 T18)) (hP) (hP.choose_spec.choose_spec.1.choose_spec.choose_spec.2.2.2.2.2) hS ysL_isBlock ml_L_120 [.ref x9, .ref (L 901 0), .int (nI q9), .int (nI 1), .int (nI 16 - nI 16)] [] (v_L_isBlock (D := D) (cI := cI) (cZ := cZ) (cO := cO) (t0 := t0) (mi := mi) (z0 := z0) (x9 := x9) (L := L) l hl9 0 (q9 + 1) q9 8 1 16 T18 (by omega) (by omega) (by decide) (by first | decide | omega) (by omega) b18.1 (by rw [b18.2.2.1 905 (by decide)]; exact h10) (isb_0 (by decide) (by omega) (by omega))) rfl hl.1 rfl (Nat.le_of_ble_eq_true rfl) ⟨Nat.le_of_ble_eq_true rfl, Nat.le_of_ble_eq_true rfl⟩ ⟨Nat.le_of_ble_eq_true rfl, Nat.le_of_ble_eq_true rfl⟩ dL_isProgram_200 (fun H locs hP hS => ?_)
          have b19 : BL q9 σ (h_bw q9 8 1 16 T18) [5 + 8 * (z % 4 + 16), 2 + 8 * ((z / 4) % 12 + 16), 3 + 8 * ((z / 48) % 4 + 16), 0 + 8 * c4, 4 + 8 * ((z / 1344) % 9 + 16), 6 + 8 * (m9 + 16), 1 + 8 * (((z / 12096) / 9) % 2 + 16), 2 + 8 * c9, 1 + 8 * 16] := b18.snoc hp (Nat.le_of_ble_eq_true rfl) 1 16
          generalize h_bw q9 8 1 16 T18 = T19 at b19 hP
          refine r_if_eqN (tgt := 250) hx hb dL_isProgram_203 (by decide) (by omega) (fun c_203 => absurd c_203 (by decide)) (fun c_203 => ?_)
          refine lv_aload_n hx hb dL_isProgram_206 rfl (lv_at hl 2 rfl) ?_
          refine lv_aload_n hx hb dL_isProgram_207 rfl (lv_at hl 3 rfl) ?_
          refine lv_iload_n hx hb dL_isProgram_208 rfl (lv_at hl 4 rfl) ?_
          refine lv_iconst (v := nI 3) hx hb dL_isProgram_209 (by decide) ?_
          refine lv_iload_n hx hb dL_isProgram_210 rfl (lv_at hl 1 rfl) ?_
          refine lv_sipush (v := nI 216) hx hb dL_isProgram_211 (by decide) ?_
          refine r_divN hx hb (by omega) (by decide) (by decide) dL_isProgram_214 ?_
          refine lv_iconst (v := nI 4) hx hb dL_isProgram_215 (by decide) ?_
          refine r_remN hx hb (by omega) (by decide) (by decide) dL_isProgram_216 ?_
          refine r_top (y := nI (((z / 12096) / 216) % 4 + 16) - nI 16) (add16) ?_
          refine vi_call X hK hE hX (P := VB9 D cI cZ cO t0 z0 x9 L 0 (q9 + 1) T19) (P' := VB9 D cI cZ cO t0 z0 x9 L 0 (q9 + 1) (h_bw q9 9 3 (((z / 12096) / 216) % 4 + 16) T19)) (hP) (hP.choose_spec.choose_spec.1.choose_spec.choose_spec.2.2.2.2.2) hS ysL_isBlock ml_L_120 [.ref x9, .ref (L 901 0), .int (nI q9), .int (nI 3), .int (nI (((z / 12096) / 216) % 4 + 16) - nI 16)] [] (v_L_isBlock (D := D) (cI := cI) (cZ := cZ) (cO := cO) (t0 := t0) (mi := mi) (z0 := z0) (x9 := x9) (L := L) l hl9 0 (q9 + 1) q9 9 3 (((z / 12096) / 216) % 4 + 16) T19 (by omega) (by omega) (by decide) (by first | decide | omega) (by omega) b19.1 (by rw [b19.2.2.1 905 (by decide)]; exact h10) (isb_3 (by omega) (by omega))) rfl hl.1 rfl (Nat.le_of_ble_eq_true rfl) ⟨Nat.le_of_ble_eq_true rfl, Nat.le_of_ble_eq_true rfl⟩ ⟨Nat.le_of_ble_eq_true rfl, Nat.le_of_ble_eq_true rfl⟩ dL_isProgram_217 (fun H locs hP hS => ?_)
          have b20 : BL q9 σ (h_bw q9 9 3 (((z / 12096) / 216) % 4 + 16) T19) [5 + 8 * (z % 4 + 16), 2 + 8 * ((z / 4) % 12 + 16), 3 + 8 * ((z / 48) % 4 + 16), 0 + 8 * c4, 4 + 8 * ((z / 1344) % 9 + 16), 6 + 8 * (m9 + 16), 1 + 8 * (((z / 12096) / 9) % 2 + 16), 2 + 8 * c9, 1 + 8 * 16, 3 + 8 * (((z / 12096) / 216) % 4 + 16)] := b19.snoc hp (Nat.le_of_ble_eq_true rfl) 3 (((z / 12096) / 216) % 4 + 16)
          generalize h_bw q9 9 3 (((z / 12096) / 216) % 4 + 16) T19 = T20 at b20 hP
          refine r_if_eqN (tgt := 250) hx hb dL_isProgram_220 (by decide) (by omega) (fun c_220 => absurd c_220 (by decide)) (fun c_220 => ?_)
          refine lv_iload_n hx hb dL_isProgram_223 rfl (lv_at hl 1 rfl) ?_
          refine lv_sipush (v := nI 864) hx hb dL_isProgram_224 (by decide) ?_
          refine r_divN hx hb (by omega) (by decide) (by decide) dL_isProgram_227 ?_
          refine lv_bipush (v := nI 8) hx hb dL_isProgram_228 (by decide) ?_
          refine r_remN hx hb (by omega) (by decide) (by decide) dL_isProgram_230 ?_
          refine r_if_eqN (tgt := 246) hx hb dL_isProgram_231 (by decide) (by omega) (fun c_231 => ?_) (fun c_231 => ?_)
          · refine lv_iconst (v := nI 1) hx hb dL_isProgram_246 (by decide) ?_
            refine lv_goto (tgt := 251) hx hb dL_isProgram_247 (by decide) ?_
            exact vi_ret X hr hlocks (⟨T20, hP, b20.2.2.1 905 (by decide), b20.gip (Nat.le_of_ble_eq_true rfl) ⟨ok_5 (by omega) (by omega), ⟨ok_0 (by decide) (by omega), ⟨ok_3 (by omega) (by omega), ⟨ok_0 (by decide) (by omega), ⟨ok_0 (by decide) (by omega), ⟨ok_6 (by omega) (by omega) hp nb_1, ⟨ok_1 (by omega) (Or.inr nb_2), ⟨ok_0 (by decide) (by omega), ⟨ok_1 (by decide) (Or.inl rfl), ⟨ok_3 (by omega) (by omega), trivial⟩⟩⟩⟩⟩⟩⟩⟩⟩⟩, b20.2.2.2.2⟩) hS (rfl) (Nat.le_of_ble_eq_true rfl) (Nat.le_of_ble_eq_true rfl) rfl dL_isProgram_251
          · refine lv_aload_n hx hb dL_isProgram_234 rfl (lv_at hl 2 rfl) ?_
            refine lv_aload_n hx hb dL_isProgram_235 rfl (lv_at hl 3 rfl) ?_
            refine lv_iload_n hx hb dL_isProgram_236 rfl (lv_at hl 4 rfl) ?_
            refine lv_iconst (v := nI 4) hx hb dL_isProgram_237 (by decide) ?_
            refine lv_bipush (v := nI 9) hx hb dL_isProgram_238 (by decide) ?_
            refine r_top (y := nI 25 - nI 16) (by decide) ?_
            refine vi_call X hK hE hX (P := VB9 D cI cZ cO t0 z0 x9 L 0 (q9 + 1) T20) (P' := VB9 D cI cZ cO t0 z0 x9 L 0 (q9 + 1) (h_bw q9 10 4 25 T20)) (hP) (hP.choose_spec.choose_spec.1.choose_spec.choose_spec.2.2.2.2.2) hS ysL_isBlock ml_L_120 [.ref x9, .ref (L 901 0), .int (nI q9), .int (nI 4), .int (nI 25 - nI 16)] [] (v_L_isBlock (D := D) (cI := cI) (cZ := cZ) (cO := cO) (t0 := t0) (mi := mi) (z0 := z0) (x9 := x9) (L := L) l hl9 0 (q9 + 1) q9 10 4 25 T20 (by omega) (by omega) (by decide) (by first | decide | omega) (by omega) b20.1 (by rw [b20.2.2.1 905 (by decide)]; exact h10) (isb_4 (by omega) (by omega))) rfl hl.1 rfl (Nat.le_of_ble_eq_true rfl) ⟨Nat.le_of_ble_eq_true rfl, Nat.le_of_ble_eq_true rfl⟩ ⟨Nat.le_of_ble_eq_true rfl, Nat.le_of_ble_eq_true rfl⟩ dL_isProgram_240 (fun H locs hP hS => ?_)
            have b21 : BL q9 σ (h_bw q9 10 4 25 T20) [5 + 8 * (z % 4 + 16), 2 + 8 * ((z / 4) % 12 + 16), 3 + 8 * ((z / 48) % 4 + 16), 0 + 8 * c4, 4 + 8 * ((z / 1344) % 9 + 16), 6 + 8 * (m9 + 16), 1 + 8 * (((z / 12096) / 9) % 2 + 16), 2 + 8 * c9, 1 + 8 * 16, 3 + 8 * (((z / 12096) / 216) % 4 + 16), 4 + 8 * 25] := b20.snoc hp (Nat.le_of_ble_eq_true rfl) 4 25
            generalize h_bw q9 10 4 25 T20 = T21 at b21 hP
            refine r_if_eqN (tgt := 250) hx hb dL_isProgram_243 (by decide) (by omega) (fun c_243 => absurd c_243 (by decide)) (fun c_243 => ?_)
            refine lv_iconst (v := nI 1) hx hb dL_isProgram_246 (by decide) ?_
            refine lv_goto (tgt := 251) hx hb dL_isProgram_247 (by decide) ?_
            exact vi_ret X hr hlocks (⟨T21, hP, b21.2.2.1 905 (by decide), b21.gip (Nat.le_of_ble_eq_true rfl) ⟨ok_5 (by omega) (by omega), ⟨ok_0 (by decide) (by omega), ⟨ok_3 (by omega) (by omega), ⟨ok_0 (by decide) (by omega), ⟨ok_0 (by decide) (by omega), ⟨ok_6 (by omega) (by omega) hp nb_1, ⟨ok_1 (by omega) (Or.inr nb_2), ⟨ok_0 (by decide) (by omega), ⟨ok_1 (by decide) (Or.inl rfl), ⟨ok_3 (by omega) (by omega), ⟨ok_0 (by decide) (by omega), trivial⟩⟩⟩⟩⟩⟩⟩⟩⟩⟩⟩, b21.2.2.2.2⟩) hS (rfl) (Nat.le_of_ble_eq_true rfl) (Nat.le_of_ble_eq_true rfl) rfl dL_isProgram_251
        · refine lv_iload_n hx hb dL_isProgram_160 rfl (lv_at hl 0 rfl) ?_
          refine lv_bipush (v := nI 9) hx hb dL_isProgram_161 (by decide) ?_
          refine r_divN hx hb (by omega) (by decide) (by decide) dL_isProgram_163 ?_
          refine lv_iconst (v := nI 2) hx hb dL_isProgram_164 (by decide) ?_
          refine r_remN hx hb (by omega) (by decide) (by decide) dL_isProgram_165 ?_
          refine lv_iconst (v := nI 1) hx hb dL_isProgram_166 (by decide) ?_
          refine r_icmp_neN (tgt := 175) hx hb dL_isProgram_167 (by decide) (by omega) (by omega) (fun c_167 => ?_) (fun c_167 => ?_)
          · refine lv_iconst (v := nI 0) hx hb dL_isProgram_175 (by decide) ?_
            exact r_top (congrArg nI (if_neg c_167).symm) (J_176 _ _ hP hS)
          · refine lv_bipush (v := nI 6) hx hb dL_isProgram_170 (by decide) ?_
            refine lv_goto (tgt := 176) hx hb dL_isProgram_172 (by decide) ?_
            exact r_top (congrArg nI (if_pos c_167).symm) (J_176 _ _ hP hS)
  · refine lv_iload_n hx hb dL_isProgram_49 rfl (lv_at hl 3 rfl) ?_
    refine lv_sipush (v := nI 192) hx hb dL_isProgram_50 (by decide) ?_
    refine r_divN hx hb (by omega) (by decide) (by decide) dL_isProgram_53 ?_
    refine lv_bipush (v := nI 7) hx hb dL_isProgram_54 (by decide) ?_
    refine r_remN hx hb (by omega) (by decide) (by decide) dL_isProgram_56 ?_
    refine r_if_neN (tgt := 64) hx hb dL_isProgram_57 (by decide) (by omega) (fun c_57 => ?_) (fun c_57 => ?_)
    · refine lv_iconst (v := nI 1) hx hb dL_isProgram_64 (by decide) ?_
      exact r_top (congrArg nI (if_neg c_57).symm) (J_65 _ _ hP hS)
    · refine lv_iconst (v := nI 0) hx hb dL_isProgram_60 (by decide) ?_
      refine lv_goto (tgt := 65) hx hb dL_isProgram_61 (by decide) ?_
      exact r_top (congrArg nI (if_pos c_57).symm) (J_65 _ _ hP hS)
