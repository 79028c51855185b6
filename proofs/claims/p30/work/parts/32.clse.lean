theorem offl_tr {j : Nat} {L : Lay} {σ1 σ2 σ3 : St} (h : OffL j L L σ1 σ2) (g : OffL j L L σ2 σ3) : OffL j L L σ1 σ3 :=
  ⟨fun F k z => ⟨(g.1 F k z).1.trans (h.1 F k z).1, (g.1 F k z).2.trans (h.1 F k z).2⟩, fun F k z => ⟨(g.2.1 F k z).1.trans (h.2.1 F k z).1, (g.2.1 F k z).2.trans (h.2.1 F k z).2⟩, fun _ _ _ => rfl⟩
section XC
variable {D : va_G} {cI cZ cO : ClassId} {L L' : Lay} {σ σ' : St} {ow A : Nat → Prop} {H H0 : Heap} {t0 mi : Nat}
variable {p : Program} {l : Launch} {e : Env} {R : Room} {s : State} {m : MethodId} {args : Array Value} {below : List Frame} {meth : Method} {c : Code} {locs : List Loc} {cells slots : Nat} {Q : State → Prop}
variable {cc : ByteArray} {pc nL : Nat} {ls : Array Slot} {rest st0 : List Value} {own : String}
theorem x_cast (X : CallFix p m c cc nL s args TB own) (hK : KK D cI cZ cO s) {dom : Nat → Nat → Prop} (hG : PW D cI cZ cO dom L σ ow H) {C : Nat} {RC : String} {T : u_T} {ty : Nat → FieldType} (kc : KC C RC T ty) {O k idx : Nat} (hO : 100 * C + 99 = O) (hd : dom O k) (hl : Cond.classLink own idx RC ∈ TB) (d : decode cc pc = .ok (.checkcast idx, 3)) (kk : W p l e R s m args below meth c H locs cells slots Q (F0 m (pc + 3) ls (.ref (L O k) :: rest))) : W p l e R s m args below meth c H locs cells slots Q (F0 m pc ls (.ref (L O k) :: rest)) :=
  va_castS X.1 X.2.1 X.2.2.2.1 (X.2.2.2.2 _ hl) (hK.1 (vix C) _ kc.1).2 (pw_recv hK hG kc hO hd) d kk
/-- a state that differs at one of the lists 2 and 7 alone, the row standing -/
theorem xb_off {j sz : Nat} (hC : CW D cI cZ cO t0 L σ ow H0) (hG : PW D cI cZ cO (cdom σ) L σ' ow H) (hoff : OffL j L L σ σ') (hcap : σ'.1 1003 j = σ.1 1003 j) (hj : j = 2 ∨ j = 7) : XB D cI cZ cO t0 L σ ow sz σ' H := by
  have h3 : ∀ k, σ'.1 1003 k = σ.1 1003 k := fun k => by
    by_cases e : k = j
    · rw [e]; exact hcap
    · exact (hoff.1 1003 k (fun z => e z.2)).1
  refine ⟨L, ow, fun _ _ _ _ => rfl, fun q h => Or.inl h, ?_, fun k hk h => hC.2 k hk (by rw [← h3]; exact h)⟩
  rw [cdom_eq2 (σ := σ) (fun k h2 h7 => (hoff.1 1002 k (fun z => hj.elim (fun y => h2 (z.2.trans y)) (fun y => h7 (z.2.trans y)))).1) h3]
  exact hG
end XC
def k_lv : Nat → St → St
  | 0, σ => σ
  | d + 1, σ => if σ.2.2.1 702 0 d < σ.1 402 (σ.2.2.1 1001 7 d) then σ else k_lv d (lrem 7 d σ)
set_option maxHeartbeats 2000000 in
theorem x_X7_leaveEnded {D : va_G} {cI cZ cO : ClassId} {t0 mi : Nat} (l : Launch) (L : Lay) (σ : St) (ow : Nat → Prop) (hI : CI σ) (h6 : σ.1 1002 7 ≤ 6) (hs4 : ∀ k, σ.1 402 k < 100000) (hn7 : ∀ k, σ.2.2.1 702 0 k < 100000) : XV D cI cZ cO t0 mi l yX7_leaveEnded cX7_leaveEnded 2 5 200 0 0 [.ref (L 799 0)] L σ ow (k_lv (σ.1 1002 7) σ) := by
  refine x_of (Qc := fun sz => XQv D cI cZ cO t0 L σ ow sz (k_lv (σ.1 1002 7) σ)) rfl (Nat.le_of_ble_eq_true rfl) ?_
  intro p e s m9 args below meth c ls X hK hC hE hr hlocks hl
  have X : CallFix p m9 c cX7_leaveEnded 2 s _ TB RX7 := X
  have hx := X.1
  have hb := X.2.1
  have hS : va_S (AA ow s.heap.size) s.heap s.heap [] := va_S.rf
  have hA : ∀ q, ow q → AA ow s.heap.size q := fun _ h => Or.inl h
  have hG := hC.1
  have hl : lv_has ls 2 [(0, .ref (L 799 0))] := hl
  have hLk0 := lok_of hC hI (j := 7) (by decide)
  have h799 : cdom σ 799 0 := cd_fix (by decide)
  have h702 : cdom σ 702 0 := cd_fix (by decide)
  refine lv_aload_n hx hb dX7_leaveEnded_0 rfl (lv_at hl 0 rfl) ?_
  refine gt_X7_18 X hK hG h799 dX7_leaveEnded_1 ?_
  refine x_size X hK hG hS (fun _ h => h) (cd_list (by decide)) ml_X7_65 hl.1 (Nat.le_of_ble_eq_true rfl) ⟨Nat.le_of_ble_eq_true rfl, Nat.le_of_ble_eq_true rfl⟩ ⟨Nat.zero_le _, Nat.zero_le _⟩ dX7_leaveEnded_4 (fun H locs hG hS => ?_)
  refine lv_iconst (v := nI 1) hx hb dX7_leaveEnded_7 (by decide) ?_
  refine lv_isub hx hb dX7_leaveEnded_8 ?_
  refine lv_istore_n (lv' := [(1, .int (nI (σ.1 1002 7) - nI 1)), (0, .ref (L 799 0))]) hx hb dX7_leaveEnded_9 rfl hl (by decide) rfl (fun ls hl => ?_)
  refine r_loop (ι := Nat × St) (fun i => [(0, .ref (L 799 0)), (1, .int (nI i.1 - nI 1))]) (fun i => i.2) (fun i => i.1) (fun i => k_lv (σ.1 1002 7) σ = k_lv i.1 i.2 ∧ i.2.1 1002 7 = i.1 ∧ i.1 ≤ σ.1 1002 7 ∧ OffL 7 L L σ i.2 ∧ i.2.1 1003 7 = σ.1 1003 7 ∧ ∀ k, k < i.1 → i.2.2.2.1 1001 7 k = σ.2.2.1 1001 7 k) (σ.1 1002 7, σ) ⟨rfl, rfl, Nat.le_refl _, ⟨fun _ _ _ => ⟨rfl, rfl⟩, fun _ _ _ => ⟨rfl, rfl⟩, fun _ _ _ => rfl⟩, rfl, fun _ _ => rfl⟩ hG hS (lv_sub hl [1, 0] rfl) ?_
  rintro ⟨d, σ9⟩ ⟨hv, hd, hdn, hoff, hcap, hcon⟩ ih H locs ls hG hS hl
  have hG : PW D cI cZ cO (cdom σ) L σ9 ow H := hG
  have hl : lv_has ls 2 [(0, .ref (L 799 0)), (1, .int (nI d - nI 1))] := hl
  have hv : k_lv (σ.1 1002 7) σ = k_lv d σ9 := hv
  have hd : σ9.1 1002 7 = d := hd
  have hdn : d ≤ σ.1 1002 7 := hdn
  have hcap : σ9.1 1003 7 = σ.1 1003 7 := hcap
  have hcon : ∀ k, k < d → σ9.2.2.1 1001 7 k = σ.2.2.1 1001 7 k := hcon
  refine lv_iload_n hx hb dX7_leaveEnded_10 rfl (lv_at hl 1 rfl) ?_
  refine lv_if_lt (tgt := 53) hx hb dX7_leaveEnded_11 (by decide) (fun c_11 => ?_) (fun c_11 => ?_)
  · have d0 : d = 0 := Nat.eq_zero_of_not_pos (fun z => by
      rw [pk_sub (a := d) (b := 1) (by omega)] at c_11
      exact absurd c_11 (nI_pos (by omega)))
    subst d0
    refine xv_ret hx hb hr hlocks ?_ hS (Nat.zero_le _) (Nat.zero_le _) dX7_leaveEnded_53
    rw [hv]
    exact xb_off hC hG hoff hcap (Or.inr rfl)
  · have hd1 : 0 < d := Nat.pos_of_ne_zero (fun z => c_11 (by rw [z]; decide))
    obtain ⟨k, rfl⟩ : ∃ k, d = k + 1 := ⟨d - 1, by omega⟩
    have e1 : nI (k + 1) - nI 1 = nI k := pk_sub (a := k + 1) (b := 1) (by omega)
    rw [e1] at hl
    have h402 : σ9.1 402 = σ.1 402 := funext fun z => (hoff.1 402 z (fun y => absurd y.1 (by decide))).1
    have hA702 : σ9.2.2.1 702 0 = σ.2.2.1 702 0 := (hoff.2.1 702 0 (fun y => absurd y.1 (by decide))).1
    have hLk : LOK (cdom σ) L σ9 t0 7 := ⟨hLk0.1, by rw [hcap, hd]; exact Nat.le_trans hdn hLk0.2.1, by rw [hcap]; exact hLk0.2.2.1, by rw [hcap]; exact hLk0.2.2.2⟩
    have hpr : cdom σ 499 (σ9.2.2.1 1001 7 k) := by
      rw [hcon k (by omega)]
      exact hel_of hI (j := 7) (by decide) k (by omega)
    refine lv_aload_n hx hb dX7_leaveEnded_14 rfl (lv_at hl 0 rfl) ?_
    refine gt_X7_21 X hK hG h799 dX7_leaveEnded_15 ?_
    refine lv_iload_n hx hb dX7_leaveEnded_18 rfl (lv_at hl 1 rfl) ?_
    refine al_702 X hK hG h702 (i := k) (by omega) rfl dX7_leaveEnded_19 ?_
    refine lv_aload_n hx hb dX7_leaveEnded_20 rfl (lv_at hl 0 rfl) ?_
    refine gt_X7_18 X hK hG h799 dX7_leaveEnded_21 ?_
    refine lv_iload_n hx hb dX7_leaveEnded_24 rfl (lv_at hl 1 rfl) ?_
    refine x_get X hK hG hS (fun _ h => h) hLk (by omega) (O := 499) rfl ml_X7_75 hl.1 (Nat.le_of_ble_eq_true rfl) ⟨Nat.le_of_ble_eq_true rfl, Nat.le_of_ble_eq_true rfl⟩ ⟨Nat.zero_le _, Nat.zero_le _⟩ dX7_leaveEnded_25 (fun H locs hG hS => ?_)
    refine x_cast X hK hG kX4 rfl hpr tw_3_184 dX7_leaveEnded_28 ?_
    refine gt_X7_81 X hK hG hpr rfl dX7_leaveEnded_31 ?_
    refine r_icmp_geN (tgt := 38) hx hb dX7_leaveEnded_34 (by decide) (by rw [hA702]; exact Nat.lt_trans (hn7 _) (by decide)) (by rw [h402]; exact Nat.lt_trans (hs4 _) (by decide)) (fun c_34 => ?_) (fun c_34 => ?_)
    · refine lv_aload_n hx hb dX7_leaveEnded_38 rfl (lv_at hl 0 rfl) ?_
      refine gt_X7_18 X hK hG h799 dX7_leaveEnded_39 ?_
      refine lv_iload_n hx hb dX7_leaveEnded_42 rfl (lv_at hl 1 rfl) ?_
      refine pw_rem X hK hG hS (fun _ h => h) hE hLk kX4 rfl (by decide) (fun i hi => by
        rw [hd] at hi
        rw [hcon i hi]
        exact hel_of hI (j := 7) (by decide) i (by omega)) (by omega) ml_X7_83 hl.1 (Nat.le_of_ble_eq_true rfl) ⟨Nat.le_of_ble_eq_true rfl, Nat.le_of_ble_eq_true rfl⟩ ⟨Nat.zero_le _, Nat.zero_le _⟩ dX7_leaveEnded_43 (fun H locs hG hS => ?_)
      refine lv_pop hx hb dX7_leaveEnded_46 rfl ?_
      refine lv_iinc (v := nI k - nI 1) (lv' := [(1, .int (nI k - nI 1)), (0, .ref (L 799 0))]) hx hb dX7_leaveEnded_47 hl (k := 1) rfl (by rw [Int32.sub_eq_add_neg]; rfl) (by decide) rfl (fun ls hl => ?_)
      refine lv_goto (tgt := 10) hx hb dX7_leaveEnded_50 (by decide) ?_
      refine ih (k, lrem 7 k σ9) (by show k < k + 1; omega) ⟨hv.trans (if_neg (Nat.not_lt.mpr c_34)), ?_, by show k ≤ _; omega, offl_tr hoff (lrem_off 7 k L σ9), (lrem_C 7 k σ9).trans hcap, fun i hi => ?_⟩ H locs ls hG hS (lv_sub hl [1, 0] rfl)
      · show (lrem 7 k σ9).1 1002 7 = k
        rw [lrem_N, hd]
        rfl
      · have hi : i < k := hi
        show (lrem 7 k σ9).2.2.1 1001 7 i = _
        rw [lrem_A]
        show (if i < k then σ9.2.2.1 1001 7 i else _) = _
        rw [if_pos hi, hcon i (by omega)]
    · refine xv_ret hx hb hr hlocks ?_ hS (Nat.zero_le _) (Nat.zero_le _) dX7_leaveEnded_37
      rw [hv, show k_lv (k + 1) σ9 = σ9 from if_pos c_34]
      exact xb_off hC hG hoff hcap (Or.inr rfl)
