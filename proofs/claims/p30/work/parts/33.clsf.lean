section XD
variable {D : va_G} {cI cZ cO : ClassId} {L L' : Lay} {σ σ' σ9 : St} {ow A : Nat → Prop} {H H0 : Heap} {t0 mi : Nat}
theorem xb_add {j x b sz : Nat} (hC : CW D cI cZ cO t0 L σ ow H0) (hj : j = 2 ∨ j = 7) (hN : σ9.1 = σ.1) (hnc : σ.1 1002 j ≤ σ.1 1003 j) (hG : PW D cI cZ cO (fun F k => cdom σ F k ∨ (F = 1001 ∧ k = j)) (up2 L 1001 j b) (ladd j x σ9) (fun q => ow q ∨ q = b) H) (hbA : AA ow sz b) : XB D cI cZ cO t0 L σ ow sz (ladd j x σ9) H := by
  have h3 : ∀ k, k ≠ j → (ladd j x σ9).1 1003 k = σ.1 1003 k := fun k e => by
    rw [← hN]
    exact ((ladd_off j x b L σ9).1 1003 k (fun z => e z.2)).1
  have h2 : ∀ k, k ≠ 2 → k ≠ 7 → (ladd j x σ9).1 1002 k = σ.1 1002 k := fun k e1 e2 => by
    rw [← hN]
    exact ((ladd_off j x b L σ9).1 1002 k (fun z => hj.elim (fun y => e1 (z.2.trans y)) (fun y => e2 (z.2.trans y)))).1
  refine ⟨up2 L 1001 j b, fun q => ow q ∨ q = b, fun F k _ hF => up2_n (fun z => hF z.1), fun q h => h.elim Or.inl (fun z => by rw [z]; exact hbA), hG.mono (fun F k hd => ?_), fun k hk h => ?_⟩
  · rcases hd with h | h | ⟨h, h8, hc⟩ | ⟨h, h8, hc⟩
    · exact Or.inl (Or.inl h)
    · exact Or.inl (Or.inr (Or.inl h))
    · by_cases e : k = j
      · exact Or.inr ⟨h, e⟩
      · rw [h3 k e] at hc
        exact Or.inl (Or.inr (Or.inr (Or.inl ⟨h, h8, hc⟩)))
    · rw [h2 _ (cj_ne _).1 (cj_ne _).2] at hc
      exact Or.inl (Or.inr (Or.inr (Or.inr ⟨h, h8, hc⟩)))
  · by_cases e : k = j
    · subst e
      rw [ladd_C, hN] at h
      exfalso
      unfold lcap at h
      by_cases c : σ.1 1002 k = σ.1 1003 k
      · rw [if_pos c] at h
        by_cases c2 : σ.1 1003 k = 0
        · rw [if_pos c2] at h
          exact absurd h (by decide)
        · rw [if_neg c2] at h
          omega
      · rw [if_neg c] at h
        omega
    · rw [up2_n (fun z => e z.2)]
      exact hC.2 k hk (by rw [← h3 k e]; exact h)
theorem xb_rf {sz : Nat} (hC : CW D cI cZ cO t0 L σ ow H0) (hG : PW D cI cZ cO (cdom σ) L σ' ow H) (hN : σ'.1 1002 = σ.1 1002 ∧ σ'.1 1003 = σ.1 1003) : XB D cI cZ cO t0 L σ ow sz σ' H := by
  refine ⟨L, ow, fun _ _ _ _ => rfl, fun q h => Or.inl h, ?_, fun k hk h => hC.2 k hk (by rw [← hN.2]; exact h)⟩
  rw [cdom_eq (σ := σ) (fun j => by rw [hN.1]) (fun j => by rw [hN.2])]
  exact hG
end XD
/-- the open list's row is still to be made -/
def nd (σ : St) : Nat := if σ.1 1003 7 = 0 then 1 else 0
def k_ent (v : Int32) (σ : St) : St := if ix v (σ.1 1002 6) ∧ σ.1 1002 7 < 6 then ladd 7 (σ.2.2.1 1001 6 (tn v)) (wA σ 702 0 (σ.1 1002 7) 0) else σ
set_option maxHeartbeats 2000000 in
theorem x_X7_enter {D : va_G} {cI cZ cO : ClassId} {t0 mi : Nat} (l : Launch) (L : Lay) (σ : St) (ow : Nat → Prop) (v : Int32) (hI : CI σ) : XV D cI cZ cO t0 mi l yX7_enter cX7_enter 3 8 300 (nd σ) (10 * nd σ) [.ref (L 799 0), .int v] L σ ow (k_ent v σ) := by
  refine x_of (Qc := fun sz => XQv D cI cZ cO t0 L σ ow sz (k_ent v σ)) rfl (Nat.le_of_ble_eq_true rfl) ?_
  intro p e s m9 args below meth c ls X hK hC hE hr hlocks hl
  have X : CallFix p m9 c cX7_enter 3 s _ TB RX7 := X
  have hx := X.1
  have hb := X.2.1
  have hS : va_S (AA ow s.heap.size) s.heap s.heap [] := va_S.rf
  have hA : ∀ q, ow q → AA ow s.heap.size q := fun _ h => Or.inl h
  have hG := hC.1
  have hl : lv_has ls 3 [(0, .ref (L 799 0)), (1, .int v)] := hl
  have h799 : cdom σ 799 0 := cd_fix (by decide)
  have h702 : cdom σ 702 0 := cd_fix (by decide)
  have hI7 := hI.1 7 (by decide)
  have hI6 := hI.1 6 (by decide)
  have out : ∀ (H : Heap) (locs : List Loc) (ls : Array Slot), PW D cI cZ cO (cdom σ) L σ ow H → va_S (AA ow s.heap.size) s.heap H locs → ¬ (ix v (σ.1 1002 6) ∧ σ.1 1002 7 < 6) → W p l e { frames := 8, cells := nd σ, slots := 10 * nd σ, locals := 300 } s m9 args below meth c H locs 0 0 (MQ below (XQv D cI cZ cO t0 L σ ow s.heap.size (k_ent v σ)) args s (nd σ) (10 * nd σ) (AA ow s.heap.size)) (F0 m9 55 ls []) := fun H locs ls hG hS hn => by
    refine xv_ret hx hb hr hlocks ?_ hS (Nat.zero_le _) (Nat.zero_le _) dX7_enter_55
    rw [show k_ent v σ = σ from if_neg hn]
    exact xb_rf hC hG ⟨rfl, rfl⟩
  refine lv_aload_n hx hb dX7_enter_0 rfl (lv_at hl 0 rfl) ?_
  refine gt_X7_18 X hK hG h799 dX7_enter_1 ?_
  refine x_size X hK hG hS (fun _ h => h) (cd_list (by decide)) ml_X7_65 hl.1 (Nat.le_of_ble_eq_true rfl) ⟨Nat.le_of_ble_eq_true rfl, Nat.le_of_ble_eq_true rfl⟩ ⟨Nat.zero_le _, Nat.zero_le _⟩ dX7_enter_4 (fun H locs hG hS => ?_)
  refine lv_istore_n (lv' := [(2, .int (nI (σ.1 1002 7))), (0, .ref (L 799 0)), (1, .int v)]) hx hb dX7_enter_7 rfl hl (by decide) rfl (fun ls hl => ?_)
  refine lv_iload_n hx hb dX7_enter_8 rfl (lv_at hl 2 rfl) ?_
  refine lv_if_lt (tgt := 55) hx hb dX7_enter_9 (by decide) (fun c_9 => ?_) (fun c_9 => ?_)
  · exact out H locs ls hG hS (fun z => absurd z.1.1 (by rw [Int32.lt_iff_toInt_lt] at c_9; exact Int.not_le.mpr c_9))
  have hv0 := tn_ge c_9
  have hvr : tn v < 2147483648 := by
    have := fb_rng v
    unfold tn
    omega
  rw [hv0] at hl
  refine lv_iload_n hx hb dX7_enter_12 rfl (lv_at hl 2 rfl) ?_
  refine lv_aload_n hx hb dX7_enter_13 rfl (lv_at hl 1 rfl) ?_
  refine gt_X7_12 X hK hG h799 dX7_enter_14 ?_
  refine x_size X hK hG hS (fun _ h => h) (cd_list (by decide)) ml_X7_65 hl.1 (Nat.le_of_ble_eq_true rfl) ⟨Nat.le_of_ble_eq_true rfl, Nat.le_of_ble_eq_true rfl⟩ ⟨Nat.zero_le _, Nat.zero_le _⟩ dX7_enter_17 (fun H locs hG hS => ?_)
  refine r_icmp_geN (tgt := 55) hx hb dX7_enter_20 (by decide) hvr (by omega) (fun c_20 => ?_) (fun c_20 => ?_)
  · exact out H locs ls hG hS (fun z => absurd (ix_lt z.1) (Nat.not_lt.mpr c_20))
  refine lv_iload_n hx hb dX7_enter_23 rfl (lv_at hl 0 rfl) ?_
  refine lv_bipush (v := nI 6) hx hb dX7_enter_24 (by decide) ?_
  refine r_icmp_geN (tgt := 55) hx hb dX7_enter_26 (by decide) (by omega) (by decide) (fun c_26 => ?_) (fun c_26 => ?_)
  · exact out H locs ls hG hS (fun z => absurd z.2 (Nat.not_lt.mpr c_26))
  refine lv_aload_n hx hb dX7_enter_29 rfl (lv_at hl 1 rfl) ?_
  refine gt_X7_21 X hK hG h799 dX7_enter_30 ?_
  refine lv_iload_n hx hb dX7_enter_33 rfl (lv_at hl 0 rfl) ?_
  refine lv_iconst (v := nI 0) hx hb dX7_enter_34 (by decide) ?_
  refine as_702 X hK hG hS hA h702 (i := σ.1 1002 7) c_26 dX7_enter_35 (fun H locs hG hS => ?_)
  refine lv_aload_n hx hb dX7_enter_36 rfl (lv_at hl 1 rfl) ?_
  refine gt_X7_18 X hK hG h799 dX7_enter_37 ?_
  refine lv_aload_n hx hb dX7_enter_40 rfl (lv_at hl 1 rfl) ?_
  refine gt_X7_12 X hK hG h799 dX7_enter_41 ?_
  refine lv_iload_n hx hb dX7_enter_44 rfl (lv_at hl 2 rfl) ?_
  have hpr : cdom σ 499 (σ.2.2.1 1001 6 (tn v)) := hel_of hI (j := 6) (by decide) (tn v) c_20
  refine x_get X hK hG hS (fun _ h => h) (j := 6) (lok_of hC hI (by decide)) c_20 (O := 499) rfl ml_X7_75 hl.1 (Nat.le_of_ble_eq_true rfl) ⟨Nat.le_of_ble_eq_true rfl, Nat.le_of_ble_eq_true rfl⟩ ⟨Nat.zero_le _, Nat.zero_le _⟩ dX7_enter_45 (fun H locs hG hS => ?_)
  refine x_cast X hK hG kX4 rfl hpr tw_3_184 dX7_enter_48 ?_
  refine pw_add X hK hG hS (fun _ h => h) hE (j := 7) (M := nd σ) (S := 10 * nd σ) (lok_of hC hI (by decide)) hpr kX4 rfl (by decide) (hel_of hI (j := 7) (by decide)) (fun z => by
    have z : σ.1 1003 7 = 0 := z
    have e : nd σ = 1 := if_pos z
    omega) (fun z => by
    have z : σ.1 1002 7 = σ.1 1003 7 := z
    have e : nd σ = 1 := if_pos (by omega)
    show 1 ≤ nd σ ∧ σ.1 1003 7 + σ.1 1003 7 / 2 ≤ 10 * nd σ
    omega) ml_X7_99 hl.1 (Nat.le_of_ble_eq_true rfl) ⟨Nat.le_of_ble_eq_true rfl, Nat.le_of_ble_eq_true rfl⟩ ⟨by show 0 + nd σ ≤ nd σ; omega, by show 0 + 10 * nd σ ≤ 10 * nd σ; omega⟩ dX7_enter_51 (fun b H locs hG hAb hS => ?_)
  refine lv_pop hx hb dX7_enter_54 rfl ?_
  refine xv_ret hx hb hr hlocks ?_ hS (by omega) (by omega) dX7_enter_55
  rw [show k_ent v σ = _ from if_pos ⟨by rw [hv0]; exact (ix_nI hvr).mpr c_20, c_26⟩]
  exact xb_add hC (Or.inr rfl) rfl hI7.1 hG hAb
