/-! a cut in truth -/
def QC (C i : Nat) (τ : St) : Prop := C < 281474976710656 ∧ nI (C / 16 % 64) = τ.2.2.2 917 0 i + 1 ∧ (¬ C / 16 % 64 = 0 → hp0 C = τ.2.2.2 918 0 (4 * i) ∧ hp1 C = τ.2.2.2 918 0 (4 * i + 1) ∧ hp2 C = τ.2.2.2 918 0 (4 * i + 2) ∧ hp3 C = τ.2.2.2 918 0 (4 * i + 3))
def QX2 (kr ku km p K : Nat) (B7 B8 : Nat → Int32) (ρ τ : St) : Prop := QX0 kr p ρ τ ∧ RTu ku 908 ρ τ ∧ (∀ k, k < 4 → ρ.2.2.2 902 ku (9 * k + 3) = τ.2.2.2 910 0 k) ∧ ρ.2.2.2 903 km 0 = nI (τ.1 900 0) ∧ (ρ.2.2.2 903 km 1 = nI (τ.1 901 0) ∧ τ.1 901 0 ≤ 99) ∧ (∀ x, x < 12 → ρ.2.2.2 903 km (4 + x) = τ.2.2.2 905 0 x) ∧ (∀ c, c < 48 → QC (ρ.2.2.1 900 kr c) (144 * p + c) τ) ∧ τ.1 900 0 ≤ K + (τ.2.2.1 908 0 0 + τ.2.2.1 908 0 1 + τ.2.2.1 908 0 2 + τ.2.2.1 908 0 3) ∧ ∀ i, ¬ (144 * p ≤ i ∧ i < 144 * p + 144) → τ.2.2.2 917 0 i = B7 i ∧ ∀ k, k < 4 → τ.2.2.2 918 0 (4 * i + k) = B8 (4 * i + k)
theorem QC.v {C i : Nat} {τ τ' : St} (h : QC C i τ) (e : τ'.2.2.2 = τ.2.2.2) : QC C i τ' := by
  unfold QC at h ⊢
  rw [e]
  exact h
theorem xi_2 (kr ku km p K : Nat) (B7 B8 : Nat → Int32) : XI9 (QX2 kr ku km p K B7 B8) := ⟨fun ρ τ i v h => h, fun ρ τ τ' h e => by
  obtain ⟨a1, a2, a3, a4, a5, a6, a7, a8, a9⟩ := h
  refine ⟨(xi_0 kr p).2 _ _ _ a1 e, a2.v (Or.inl rfl) e, ?_, ?_, ?_, ?_, fun c hc => (a7 c hc).v e.B, ?_, ?_⟩
  · rw [e.B]; exact a3
  · rw [← e.1]; exact a4
  · rw [← e.1]; exact a5
  · rw [e.B]; exact a6
  · rw [← e.1, e.A (F := 908) (by decide) (by decide) (by decide)]; exact a8
  · rw [e.B]; exact a9⟩
theorem up1_app {α : Type} {f : Nat → α} {k j : Nat} {v : α} : up1 f k v j = if j = k then v else f j := rfl
theorem sum_up {f : Nat → Nat} {T : Nat} (hT : T < 4) : up1 f T (f T + 1) 0 + up1 f T (f T + 1) 1 + up1 f T (f T + 1) 2 + up1 f T (f T + 1) 3 = (f 0 + f 1 + f 2 + f 3) + 1 := by
  rcases (by omega : T = 0 ∨ T = 1 ∨ T = 2 ∨ T = 3) with rfl | rfl | rfl | rfl
  · rw [up1_s, up1_n (by decide), up1_n (by decide), up1_n (by decide)]; omega
  · rw [up1_s, up1_n (by decide), up1_n (by decide), up1_n (by decide)]; omega
  · rw [up1_s, up1_n (by decide), up1_n (by decide), up1_n (by decide)]; omega
  · rw [up1_s, up1_n (by decide), up1_n (by decide), up1_n (by decide)]; omega
theorem off_neg {x : Int32} (h : ix (x + nI 200) 401) : nI 200 - nI (tn (x + nI 200)) = -x := by
  rw [← ix_eq h]
  have e200 : (nI 200).toInt = 200 := by decide
  have hx : x = (x + nI 200) - nI 200 := (Int32.add_sub_cancel _ _).symm
  obtain ⟨g1, g2⟩ := h
  have e1 : x.toInt = (x + nI 200).toInt - 200 := by
    have e := fb_subI (x := x + nI 200) (y := nI 200) (by rw [e200]; omega) (by rw [e200]; omega)
    rw [e200, ← hx] at e
    exact e
  apply Int32.toInt_inj.mp
  rw [fb_negI (by omega), fb_subI (by rw [e200]; omega) (by rw [e200]; omega), e200]
  omega
theorem mp_50 {x : Int32} (h : ix (x + nI 50) 101) : nI (tn (x + nI 50)) - nI 50 = x := by
  rw [← ix_eq h, Int32.add_sub_cancel]
/-- what is read off a cell that was cut, kept from the arithmetic -/
def CW2 (w T mp ht wr off : Nat) : Prop := w / 16 % 64 = T + 1 ∧ w / 1024 % 256 = mp ∧ w / 262144 % 256 = ht ∧ w / 67108864 % 256 = wr ∧ w / 17179869184 % 1024 = off ∧ w < 281474976710656
def CW1 (w z c : Nat) : Prop := w % 16 = z ∧ w / 17592186044416 % 16 = c / 17592186044416 % 16
section ST3
variable {kr ku km fr p K : Nat}
theorem cut_QC {ρ τ Y : St} {c w T x z : Nat} {C : Nat → Nat} (hC : ∀ i, i < 48 → QC (ρ.2.2.1 900 kr i) (144 * p + i) τ) (hc : c < 48) (hX : C = up1 (ρ.2.2.1 900 kr) c w) (hT : T < 4) (hw : w / 16 % 64 = T + 1 ∧ w < 281474976710656) (h917 : Y.2.2.2 917 0 = up1 (τ.2.2.2 917 0) (144 * p + c) (nI T)) (h918 : ∀ j, (∀ k, k < 4 → j ≠ 4 * (144 * p + c) + k) → Y.2.2.2 918 0 j = τ.2.2.2 918 0 j) (hp : hp0 w = Y.2.2.2 918 0 (4 * (144 * p + c)) ∧ hp1 w = Y.2.2.2 918 0 (4 * (144 * p + c) + 1) ∧ hp2 w = Y.2.2.2 918 0 (4 * (144 * p + c) + 2) ∧ hp3 w = Y.2.2.2 918 0 (4 * (144 * p + c) + 3)) : ∀ i, i < 48 → QC (C i) (144 * p + i) Y := fun i hi => by
  by_cases e : i = c
  · subst e
    rw [hX, up1_s]
    refine ⟨hw.2, ?_, fun _ => hp⟩
    rw [h917, up1_s, hw.1]
    exact (nI_1 T).symm
  · rw [hX, up1_n e]
    have h := hC i hi
    refine ⟨h.1, ?_, fun z => ?_⟩
    · rw [h917, up1_n (by omega)]; exact h.2.1
    · have g0 : Y.2.2.2 918 0 (4 * (144 * p + i)) = τ.2.2.2 918 0 (4 * (144 * p + i)) := h918 _ (fun k hk => by omega)
      have g1 : Y.2.2.2 918 0 (4 * (144 * p + i) + 1) = τ.2.2.2 918 0 (4 * (144 * p + i) + 1) := h918 _ (fun k hk => by omega)
      have g2 : Y.2.2.2 918 0 (4 * (144 * p + i) + 2) = τ.2.2.2 918 0 (4 * (144 * p + i) + 2) := h918 _ (fun k hk => by omega)
      have g3 : Y.2.2.2 918 0 (4 * (144 * p + i) + 3) = τ.2.2.2 918 0 (4 * (144 * p + i) + 3) := h918 _ (fun k hk => by omega)
      rw [g0, g1, g2, g3]
      exact h.2.2 z
theorem ss2 (hp6 : p < 2) {B7 B8 : Nat → Int32} : SSim kr ku km fr (nI 1) (QX2 kr ku km p K B7 B8) (m_step2 p fr) := by
  intro ρ τ hs h6 hw hx2
  obtain ⟨hx, ht, ho, hM0, hM1, hMm, hCC, hK, hBB⟩ := hx2
  have keep : QX2 kr ku km p K B7 B8 ρ τ := ⟨hx, ht, ho, hM0, hM1, hMm, hCC, hK, hBB⟩
  obtain ⟨d1, d2, d3, d4, hc⟩ := st_dec (fr := fr) (t9 := nI 1) hs hw hx
  have hE5 := hs.2.2.2.2.2.1
  have hcc := hx _ hc
  unfold h_step m_step2
  by_cases c1 : tn (ρ.2.2.2 904 0 6) < fr
  · rw [if_pos c1, if_neg (fun z => d1.mp z c1)]
    exact ⟨(fx_n (k := 0) (by decide)).symm, RW_6 hw h6, keep⟩
  rw [if_neg c1, if_pos (d1.mpr c1)]
  by_cases c2 : tn (ρ.2.2.2 904 0 2) < ρ.2.2.1 900 kr (12 * tn (ρ.2.2.2 904 0 1) + tn (ρ.2.2.2 904 0 0)) / 17592186044416 % 16
  · rw [if_pos c2, if_pos (d2.mpr c2)]
    exact ⟨(fx_n (k := 3) (by decide)).symm, hw, keep⟩
  rw [if_neg c2, if_neg (fun z => c2 (d2.mp z))]
  by_cases c3 : ρ.2.2.1 900 kr (12 * tn (ρ.2.2.2 904 0 1) + tn (ρ.2.2.2 904 0 0)) % 16 ≤ tn (ρ.2.2.2 904 0 2)
  · rw [if_pos c3, if_pos (fun z => d3.mp z c3)]
    exact ⟨(fx_n (k := 0) (by decide)).symm, RW_6 hw h6, keep⟩
  rw [if_neg c3, if_neg (not_not_intro9 (d3.mpr c3)), ← hw.2.1]
  by_cases c4 : ρ.2.2.2 904 0 3 = 0
  · rw [if_pos c4, if_pos c4]
    exact ⟨(fx_n (k := 3) (by decide)).symm, hw, keep⟩
  rw [if_neg c4, if_neg c4]
  by_cases c5 : 0 ≤ ρ.2.2.2 904 0 5
  · rw [if_pos c5, if_pos (d4.mpr c5), if_neg (show ¬ (nI 1 : Int32) = 0 by decide)]
    have b5 := ix_lt (hE5 c5)
    have b2 := ix_lt hs.2.2.2.2.1
    have b0 := ix_lt hs.2.2.1
    have b1 := ix_lt hs.2.2.2.1
    have etf : m_tf 908 (τ.2.1 942 0) τ = htf (ρ.2.2.2 902 ku) (ρ.2.2.2 904 0 5) 4 0 := by rw [← hw.2.2.2.1]; exact (rt_tf ht _).symm
    rw [etf]
    by_cases c6 : 0 ≤ htf (ρ.2.2.2 902 ku) (ρ.2.2.2 904 0 5) 4 0
    · rw [if_pos c6, if_pos (show ¬ htf (ρ.2.2.2 902 ku) (ρ.2.2.2 904 0 5) 4 0 = (-1) from fun z => by rw [z] at c6; exact absurd c6 (by decide))]
      obtain ⟨hT, hlt, hU2⟩ := tf_ix ht c6
      generalize htf (ρ.2.2.2 902 ku) (ρ.2.2.2 904 0 5) 4 0 = TF at hT hlt hU2 ⊢
      generalize tn TF = T at hT hlt hU2 ⊢
      clear d1 d2 d3 d4 c2 c3 etf c6
      have h907 := (ht.2 _ hT).2.2.2.2.2.1
      have hix := hs.2.2.2.2.2.2.2.2.2.1 _ hT
      have hoff := ix_lt hix
      have hmi := hs.2.2.2.2.2.2.2.2.2.2.2 _ b0
      have hmp := ix_lt hmi
      have hM1b := ix_lt hs.2.2.2.2.2.2.2.2.2.2.1
      have eM1 : tn (ρ.2.2.2 903 km 1) = τ.1 901 0 := by rw [hM1.1, tn_nI (by have := hM1.2; omega)]
      have hht : tn (ρ.2.2.2 903 km 1) * tn (ρ.2.2.2 904 0 0) ≤ 99 * 11 := Nat.mul_le_mul (by omega) (by omega)
      have hW1 : CW1 _ _ _ := cell_w (c := ρ.2.2.1 900 kr (12 * tn (ρ.2.2.2 904 0 1) + tn (ρ.2.2.2 904 0 0))) (off := tn (ρ.2.2.2 902 ku (9 * T + 3) + nI 200)) (wr := tn (ρ.2.2.2 902 ku (9 * T + 2)) / 4) (T := T) (mp := tn (ρ.2.2.2 903 km (4 + tn (ρ.2.2.2 904 0 0)) + nI 50)) (ht := (tn (ρ.2.2.2 903 km 1) * tn (ρ.2.2.2 904 0 0)) / 10) (z := tn (ρ.2.2.2 904 0 2)) hoff (by omega) hT hmp (by omega) (by omega)
      have hW2 : CW2 _ _ _ _ _ _ := cell_w2 (c := ρ.2.2.1 900 kr (12 * tn (ρ.2.2.2 904 0 1) + tn (ρ.2.2.2 904 0 0))) (off := tn (ρ.2.2.2 902 ku (9 * T + 3) + nI 200)) (wr := tn (ρ.2.2.2 902 ku (9 * T + 2)) / 4) (T := T) (mp := tn (ρ.2.2.2 903 km (4 + tn (ρ.2.2.2 904 0 0)) + nI 50)) (ht := (tn (ρ.2.2.2 903 km 1) * tn (ρ.2.2.2 904 0 0)) / 10) (z := tn (ρ.2.2.2 904 0 2)) hoff (by omega) hT hmp (by omega) (by omega)
      have hcr : ∀ f : Nat → Nat, ∀ a b v, up1 (up1 f a b) a v = up1 f a v := fun f a b v => by funext i; unfold up1; split <;> rfl
      generalize ρ.2.2.1 900 kr (12 * tn (ρ.2.2.2 904 0 1) + tn (ρ.2.2.2 904 0 0)) / 17592186044416 % 16 * 17592186044416 + (tn (ρ.2.2.2 902 ku (9 * T + 3) + nI 200) * 17179869184 + (tn (ρ.2.2.2 902 ku (9 * T + 2)) / 4 * 67108864 + ((T + 1 + tn (ρ.2.2.2 903 km (4 + tn (ρ.2.2.2 904 0 0)) + nI 50) * 64 + tn (ρ.2.2.2 903 km 1) * tn (ρ.2.2.2 904 0 0) / 10 * 16384) * 16 + tn (ρ.2.2.2 904 0 2)))) = w at hW1 hW2 ⊢
      have e0 := hw.1 0 (by decide)
      have e1 := hw.1 1 (by decide)
      have e2 := hw.1 2 (by decide)
      rw [e0, e1, e2, ← hw.2.2.2.1]
      have hcx : (12 * tn (ρ.2.2.2 904 0 1) + tn (ρ.2.2.2 904 0 0)) % 12 = tn (ρ.2.2.2 904 0 0) := by omega
      generalize 12 * tn (ρ.2.2.2 904 0 1) + tn (ρ.2.2.2 904 0 0) = cd at hc hcx hW1 ⊢
      -- what the cut leaves
      have hcI : ∀ Z : St, Z = m_cutsIn p cd T τ → Z.2.2.2 917 0 = up1 (τ.2.2.2 917 0) (144 * p + cd) (nI T) ∧ (∀ j, (∀ k, k < 4 → j ≠ 4 * (144 * p + cd) + k) → Z.2.2.2 918 0 j = τ.2.2.2 918 0 j) ∧ Z.2.2.2 918 0 (4 * (144 * p + cd)) = τ.2.2.2 905 0 (cd % 12) ∧ Z.2.2.2 918 0 (4 * (144 * p + cd) + 1) = nI (τ.1 901 0 * (cd % 12) / 10) ∧ Z.2.2.2 918 0 (4 * (144 * p + cd) + 2) = nI (τ.2.2.1 908 0 T / 4) ∧ Z.2.2.2 918 0 (4 * (144 * p + cd) + 3) = -(τ.2.2.2 910 0 T) := by
        intro Z hZ
        have hB : Z.2.2.2 918 0 = up1 (up1 (up1 (up1 (τ.2.2.2 918 0) (4 * (144 * p + cd)) (τ.2.2.2 905 0 (cd % 12))) (4 * (144 * p + cd) + 1) (nI (τ.1 901 0 * (cd % 12) / 10))) (4 * (144 * p + cd) + 2) (nI (τ.2.2.1 908 0 T / 4))) (4 * (144 * p + cd) + 3) (-(τ.2.2.2 910 0 T)) := by
          rw [hZ]
          show up3 (up3 (up3 (up3 _ 918 0 _ _) 918 0 _ _) 918 0 _ _) 918 0 _ _ 918 0 = _
          rw [up3_s, up3_s, up3_s, up3_s]
          rfl
        have h917 : Z.2.2.2 917 0 = up1 (τ.2.2.2 917 0) (144 * p + cd) (nI T) := by
          rw [hZ]
          show up3 τ.2.2.2 917 0 _ _ 917 0 = _
          rw [up3_s]
        rw [hB]
        refine ⟨h917, fun j hj => ?_, ?_, ?_, ?_, ?_⟩
        · rw [up1_n (hj 3 (by decide)), up1_n (hj 2 (by decide)), up1_n (hj 1 (by decide)), up1_n (show j ≠ 4 * (144 * p + cd) from hj 0 (by decide))]
        · rw [up1_n (by omega), up1_n (by omega), up1_n (by omega), up1_s]
        · rw [up1_n (by omega), up1_n (by omega), up1_s]
        · rw [up1_n (by omega), up1_s]
        · rw [up1_s]
      obtain ⟨z1, z2, z3, z4, z5, z6⟩ := hcI _ rfl
      have zN : (m_cutsIn p cd T τ).1 900 0 = τ.1 900 0 + 1 := by
        show up2 (up2 τ.1 901 0 (τ.1 901 0 + (if 99 ≤ τ.1 901 0 then 0 else 1))) 900 0 (τ.1 900 0 + 1) 900 0 = _
        exact up2_s
      have zW : (m_cutsIn p cd T τ).1 901 0 = τ.1 901 0 + (if 99 ≤ τ.1 901 0 then 0 else 1) := by
        show up2 (up2 τ.1 901 0 (τ.1 901 0 + (if 99 ≤ τ.1 901 0 then 0 else 1))) 900 0 (τ.1 900 0 + 1) 901 0 = _
        exact (up2_n (fun z => absurd z.1 (by decide))).trans up2_s
      have zI : (m_cutsIn p cd T τ).2.1 = τ.2.1 := rfl
      have zA : (m_cutsIn p cd T τ).2.2.1 = τ.2.2.1 := rfl
      have z914 : (m_cutsIn p cd T τ).1 914 = τ.1 914 := rfl
      have z943 : (m_cutsIn p cd T τ).1 943 = τ.1 943 := rfl
      have zF : ∀ F, F ≠ 917 → F ≠ 918 → (m_cutsIn p cd T τ).2.2.2 F = τ.2.2.2 F := fun F n1 n2 => by
        show up3 (up3 (up3 (up3 (up3 τ.2.2.2 917 0 _ _) 918 0 _ _) 918 0 _ _) 918 0 _ _) 918 0 _ _ F = _
        unfold up3
        rw [if_neg n2, if_neg n2, if_neg n2, if_neg n2, if_neg n1]
      generalize m_cutsIn p cd T τ = Z at z1 z2 z3 z4 z5 z6 zN zW zI zA z914 z943 zF ⊢
      generalize hX0 : wB ρ 904 0 (8 + tn (ρ.2.2.2 904 0 5)) (ρ.2.2.2 904 0 (8 + tn (ρ.2.2.2 904 0 5)) + nI 1) = X0
      have x1 : X0.2.2.1 = ρ.2.2.1 := by rw [← hX0]; rfl
      have x2 : ∀ F, F ≠ 904 → X0.2.2.2 F = ρ.2.2.2 F := fun F z => by rw [← hX0]; exact wB_o z
      generalize hX1 : wA (wA X0 900 kr cd (ρ.2.2.1 900 kr cd / 16 * 16 + tn (ρ.2.2.2 904 0 2))) 900 kr cd w = X1
      have y1 : X1.2.2.1 900 kr = up1 (ρ.2.2.1 900 kr) cd w := by rw [← hX1, wA_3, wA_3, hcr, x1]
      have y2 : X1.2.2.2 = X0.2.2.2 := by rw [← hX1]; rfl
      generalize hX2 : wB X1 902 ku (9 * T + 2) (nI (tn (ρ.2.2.2 902 ku (9 * T + 2)) + 1)) = X2
      have t1 : X2.2.2.1 = X1.2.2.1 := by rw [← hX2]; rfl
      have t2 : X2.2.2.2 902 ku = up1 (ρ.2.2.2 902 ku) (9 * T + 2) (nI (τ.2.2.1 908 0 T + 1)) := by rw [← hX2, wB_3, y2, x2 902 (by decide), hU2]
      have t3 : X2.2.2.2 904 = X0.2.2.2 904 := by rw [← hX2, wB_o (by decide), y2]
      have t4 : X2.2.2.2 903 = ρ.2.2.2 903 := by rw [← hX2, wB_o (by decide), y2, x2 903 (by decide)]
      generalize hX3 : wB (wB X2 903 km 0 (ρ.2.2.2 903 km 0 + nI 1)) 903 km 1 (nI (if ¬ tn (ρ.2.2.2 903 km 1) = 99 then tn (ρ.2.2.2 903 km 1) + 1 else 99)) = X3
      have v1 : X3.2.2.1 = X2.2.2.1 := by rw [← hX3]; rfl
      have v2 : ∀ F, F ≠ 903 → X3.2.2.2 F = X2.2.2.2 F := fun F z => by rw [← hX3, wB_o z, wB_o z]
      have v3 : X3.2.2.2 903 km = up1 (up1 (ρ.2.2.2 903 km) 0 (ρ.2.2.2 903 km 0 + nI 1)) 1 (nI (if ¬ tn (ρ.2.2.2 903 km 1) = 99 then tn (ρ.2.2.2 903 km 1) + 1 else 99)) := by rw [← hX3, wB_3, wB_3, t4]
      generalize hY : wB (wA (wA Z 908 0 T (τ.2.2.1 908 0 T + 1)) 936 0 (tn (ρ.2.2.2 904 0 5)) (τ.2.2.1 936 0 (tn (ρ.2.2.2 904 0 5)) + 1)) 935 0 cd (nI (tn (ρ.2.2.2 904 0 2))) = Y
      have u1 : Y.1 = Z.1 := by rw [← hY]; rfl
      have u2 : Y.2.1 = τ.2.1 := by rw [← hY]; exact zI
      have u3 : ∀ F, F ≠ 908 → F ≠ 936 → Y.2.2.1 F = τ.2.2.1 F := fun F n1 n2 => by
        rw [← hY, ← zA]
        exact (wA_o n2).trans (wA_o n1)
      have u4 : Y.2.2.1 936 0 = up1 (τ.2.2.1 936 0) (tn (ρ.2.2.2 904 0 5)) (τ.2.2.1 936 0 (tn (ρ.2.2.2 904 0 5)) + 1) := by
        rw [← hY]
        have q : (wA Z 908 0 T (τ.2.2.1 908 0 T + 1)).2.2.1 936 = Z.2.2.1 936 := wA_o (by decide)
        show (wA (wA Z 908 0 T (τ.2.2.1 908 0 T + 1)) 936 0 (tn (ρ.2.2.2 904 0 5)) (τ.2.2.1 936 0 (tn (ρ.2.2.2 904 0 5)) + 1)).2.2.1 936 0 = _
        rw [wA_3, q, zA]
      have u5 : Y.2.2.1 908 0 = up1 (τ.2.2.1 908 0) T (τ.2.2.1 908 0 T + 1) := by
        rw [← hY]
        show (wA (wA Z 908 0 T (τ.2.2.1 908 0 T + 1)) 936 0 (tn (ρ.2.2.2 904 0 5)) (τ.2.2.1 936 0 (tn (ρ.2.2.2 904 0 5)) + 1)).2.2.1 908 0 = _
        have q : (wA (wA Z 908 0 T (τ.2.2.1 908 0 T + 1)) 936 0 (tn (ρ.2.2.2 904 0 5)) (τ.2.2.1 936 0 (tn (ρ.2.2.2 904 0 5)) + 1)).2.2.1 908 = (wA Z 908 0 T (τ.2.2.1 908 0 T + 1)).2.2.1 908 := wA_o (by decide)
        rw [q, wA_3, zA]
      have u6 : Y.2.2.2 935 0 = up1 (τ.2.2.2 935 0) cd (nI (tn (ρ.2.2.2 904 0 2))) := by
        rw [← hY]
        refine wB_3.trans ?_
        show up1 (Z.2.2.2 935 0) cd _ = _
        rw [zF 935 (by decide) (by decide)]
      have u7 : ∀ F, F ≠ 935 → Y.2.2.2 F = Z.2.2.2 F := fun F z => by rw [← hY]; exact wB_o z
      have e9 : wN Y 943 0 (τ.1 943 0 + 1) = wN Y 943 0 (Y.1 943 0 + 1) := by rw [u1, z943]
      have en : ∀ F, F ≠ 943 → (wN Y 943 0 (τ.1 943 0 + 1)).1 F = Z.1 F := fun F z => (wN_o z).trans (by rw [u1])
      refine ⟨(fx_n (k := 0) (by decide)).symm, ?_, ?_, ?_, fun k hk => ?_, ?_, ⟨?_, ?_⟩, fun x hx9 => ?_, ?_, ?_, fun i hi => ?_⟩
      · show RW _ (wN Y 943 0 (τ.1 943 0 + 1))
        rw [e9]
        exact RW_cut hw h6 b5 (by rw [v2 904 (by decide), t3, hX0]) (u3 937 (by decide) (by decide)) u2 (by rw [u1, z943]) u4
      · exact QX0_cut (c := cd) (z := tn (ρ.2.2.2 904 0 2)) (w := w) hx hc (by show X3.2.2.1 900 kr = _; rw [v1, t1, y1]) hW1.1 hW1.2 u6 ((u7 916 (by decide)).trans (zF 916 (by decide) (by decide)))
      · exact RTu_cut (T := T) ht hT hlt (by show (wB X3 904 0 6 _).2.2.2 902 ku = _; rw [wB_o (by decide), v2 902 (by decide), t2]) u5 ((en 914 (by decide)).trans z914) (u3 907 (by decide) (by decide)) ((u7 906 (by decide)).trans (zF 906 (by decide) (by decide))) ((u7 911 (by decide)).trans (zF 911 (by decide) (by decide)))
      · show (wB X3 904 0 6 _).2.2.2 902 ku (9 * k + 3) = Y.2.2.2 910 0 k
        rw [wB_o (by decide), v2 902 (by decide), t2, up1_n (by omega), u7 910 (by decide), zF 910 (by decide) (by decide)]
        exact ho k hk
      · show (wB X3 904 0 6 _).2.2.2 903 km 0 = nI ((wN Y 943 0 (τ.1 943 0 + 1)).1 900 0)
        rw [wB_o (by decide), v3, up1_n (by decide), up1_s, en 900 (by decide), zN, hM0, nI_add]
      · show (wB X3 904 0 6 _).2.2.2 903 km 1 = nI ((wN Y 943 0 (τ.1 943 0 + 1)).1 901 0)
        rw [wB_o (by decide), v3, up1_s, en 901 (by decide), zW, eM1]
        by_cases c9 : τ.1 901 0 = 99
        · rw [if_neg (not_not_intro9 c9), if_pos (by omega), c9]
        · rw [if_pos c9, if_neg (by have := hM1.2; omega)]
      · show (wN Y 943 0 (τ.1 943 0 + 1)).1 901 0 ≤ 99
        rw [en 901 (by decide), zW]
        have := hM1.2
        split <;> omega
      · show (wB X3 904 0 6 _).2.2.2 903 km (4 + x) = Y.2.2.2 905 0 x
        rw [wB_o (by decide), v3, up1_n (by omega), up1_n (by omega), u7 905 (by decide), zF 905 (by decide) (by decide)]
        exact hMm x hx9
      · show ∀ c, c < 48 → QC (X3.2.2.1 900 kr c) (144 * p + c) Y
        refine cut_QC (x := 0) (z := 0) (C := X3.2.2.1 900 kr) hCC hc (by rw [v1, t1, y1]) hT ⟨hW2.1, hW2.2.2.2.2.2⟩ ((congrFun (u7 917 (by decide)) 0).trans z1) (fun j hj => (congrFun (congrFun (u7 918 (by decide)) 0) j).trans (z2 j hj)) ?_
        rw [u7 918 (by decide), z3, z4, z5, z6, hcx, ← hMm _ b0, ← eM1, ← hU2, ← ho T hT]
        obtain ⟨w3, w4, w5, w6, w7, w8⟩ := hW2
        have k0 : ¬ w / 16 % 64 = 0 := fun z => by rw [z] at w3; cases w3
        unfold hp0 hp1 hp2 hp3
        rw [if_neg k0, if_neg k0, if_neg k0, if_neg k0, w4, w5, w6, w7]
        exact ⟨mp_50 hmi, rfl, rfl, off_neg hix⟩
      · show (wN Y 943 0 (τ.1 943 0 + 1)).1 900 0 ≤ K + (Y.2.2.1 908 0 0 + Y.2.2.1 908 0 1 + Y.2.2.1 908 0 2 + Y.2.2.1 908 0 3)
        rw [en 900 (by decide), u5, sum_up hT, zN]
        omega
      · have g := hBB i hi
        refine ⟨?_, fun k hk => ?_⟩
        · show Y.2.2.2 917 0 i = _
          rw [u7 917 (by decide), z1, up1_n (by omega)]; exact g.1
        · show Y.2.2.2 918 0 (4 * i + k) = _
          rw [u7 918 (by decide), z2 _ (fun k' hk' => by omega)]; exact g.2 k hk
    · have em : htf (ρ.2.2.2 902 ku) (ρ.2.2.2 904 0 5) 4 0 = (-1) := (htf_m1 4 0 (by decide)).resolve_right c6
      rw [if_neg c6, if_neg (not_not_intro9 em)]
      exact ⟨fx_m1.symm, hw, keep⟩
  · rw [if_neg c5, if_neg (fun z => c5 (d4.mp z))]
    exact ⟨(fx_n (k := 3) (by decide)).symm, hw, keep⟩
end ST3
