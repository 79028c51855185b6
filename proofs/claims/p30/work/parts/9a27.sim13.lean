/-! judging -/
def jC (p k : Nat) (ρ : St) : Nat := ρ.2.2.1 900 p (12 * tn (ρ.2.2.2 903 0 (16 + 6 * k + 1)) + tn (ρ.2.2.2 903 0 (16 + 6 * k)))
def jA (p k : Nat) (ρ : St) : Int32 := (h_size (jC p k ρ) + (ρ.2.2.2 903 0 0 - ρ.2.2.2 903 0 2 + nI 1) / nI 100) - nI 1000 * ρ.2.2.2 903 0 (16 + 6 * k + 2)
def jB (k : Nat) (ρ : St) : Int32 := ρ.2.2.2 903 0 (16 + 6 * k + 3) + (if 0 < ρ.2.2.2 903 0 (16 + 6 * k + 5) then ρ.2.2.2 903 0 (16 + 6 * k + 4) else nI 0)
def jO (w b d : Int32) : Int32 := if b + d < isz w then nI 2 else if b < isz w + d then nI 1 else nI 0
def jS (p k : Nat) (ρ : St) : St := wB (wB (wB ρ 903 0 (16 + 6 * k + 5) (if 0 < ρ.2.2.2 903 0 (16 + 6 * k + 5) then ρ.2.2.2 903 0 (16 + 6 * k + 5) - nI 1 else nI 0)) 903 0 (33 + k) (jA p k ρ)) 903 0 (35 + k) (jB k ρ)
def jU (t : Nat) (x : Int32) (ρ : St) : St := wB (wB (wB (wB ρ 902 0 (9 * t + 7) (ρ.2.2.2 902 0 (9 * t + 6))) 902 0 (9 * t + 6) (ρ.2.2.2 902 0 (9 * t + 5))) 902 0 (9 * t + 5) x) 902 0 (9 * t + 8) (ρ.2.2.2 902 0 (9 * t + 8) + nI 1)
def h_js (p k : Nat) (ρ : St) : St := if jC p k ρ / 16 % 64 = 0 then jS p k ρ else jU (jC p k ρ / 16 % 64 - 1) (jA p k ρ) (jS p k ρ)
def h_jv (v o : Int32) : Int32 := if v < o then o else v
def h_jl (p : Nat) : Nat → St → Int32 × St
  | 0, ρ => (nI 0, ρ)
  | k + 1, ρ => (h_jv (h_jl p k ρ).1 (jO (jA p k (h_jl p k ρ).2) (jB k (h_jl p k ρ).2) ((h_jl p k ρ).2.2.2.2 903 0 3)), h_js p k (h_jl p k ρ).2)
def h_jd (p : Nat) (v : Int32) (X : St) : St := wB (wB (wB (wB (wB (wB X 903 0 29 (nI p)) 903 0 30 v) 903 0 31 (X.2.2.2 903 0 0)) 903 0 32 (X.2.2.2 903 0 3)) 903 0 28 (X.2.2.2 903 0 28 + nI 1)) 905 0 (4 * p + 3) v
set_option maxHeartbeats 400000 in
theorem jU_r (t : Nat) (x : Int32) (ρ : St) : (∀ i, (jU t x ρ).2.2.2 902 0 i = if i = 9 * t + 8 then ρ.2.2.2 902 0 (9 * t + 8) + nI 1 else if i = 9 * t + 5 then x else if i = 9 * t + 6 then ρ.2.2.2 902 0 (9 * t + 5) else if i = 9 * t + 7 then ρ.2.2.2 902 0 (9 * t + 6) else ρ.2.2.2 902 0 i) ∧ (∀ F, F ≠ 902 → (jU t x ρ).2.2.2 F = ρ.2.2.2 F) ∧ (jU t x ρ).2.2.1 = ρ.2.2.1 := by
  refine ⟨fun i => ?_, fun F z => ?_, rfl⟩
  · unfold jU
    rw [wB_3, wB_3, wB_3, wB_3, up1_app, up1_app, up1_app, up1_app]
  · unfold jU
    rw [wB_o z, wB_o z, wB_o z, wB_o z]
set_option maxHeartbeats 400000 in
theorem jS_r (p k : Nat) (ρ : St) : (∀ i, (jS p k ρ).2.2.2 903 0 i = if i = 35 + k then jB k ρ else if i = 33 + k then jA p k ρ else if i = 16 + 6 * k + 5 then (if 0 < ρ.2.2.2 903 0 (16 + 6 * k + 5) then ρ.2.2.2 903 0 (16 + 6 * k + 5) - nI 1 else nI 0) else ρ.2.2.2 903 0 i) ∧ (∀ F, F ≠ 903 → (jS p k ρ).2.2.2 F = ρ.2.2.2 F) ∧ (jS p k ρ).2.2.1 = ρ.2.2.1 := by
  refine ⟨fun i => ?_, fun F z => ?_, rfl⟩
  · unfold jS
    rw [wB_3, wB_3, wB_3, up1_app, up1_app, up1_app]
  · unfold jS
    rw [wB_o z, wB_o z, wB_o z]
/-! the reference's measure of one feature, for drawing 0 and gauge 2 -/
def mA (P k : Nat) (T : St) : Int32 := (msz (144 * P + 12 * T.2.2.1 930 0 (6 * k + 1) + T.2.2.1 930 0 (6 * k)) T + (nI (T.1 900 0) - nI (T.2.2.1 927 0 2)) / nI 100) - nI (1000 * T.2.2.1 930 0 (6 * k + 2))
def mB (k : Nat) (T : St) : Int32 := nI (T.2.2.1 930 0 (6 * k + 3) + (if T.2.2.1 930 0 (6 * k + 5) = 0 then 0 else T.2.2.1 930 0 (6 * k + 4)))
def mS (P M k : Nat) (T : St) : St := wA (wB (wB T 933 0 (18 * M + 5 + k) (mA P k T)) 933 0 (18 * M + 11 + k) (mB k T)) 930 0 (6 * k + 5) (T.2.2.1 930 0 (6 * k + 5) - (if T.2.2.1 930 0 (6 * k + 5) = 0 then 0 else 1))
set_option maxHeartbeats 400000 in
theorem jst_m (P M k : Nat) (T : St) : m_jst P 0 2 M k T = if T.2.2.2 917 0 (144 * P + 12 * T.2.2.1 930 0 (6 * k + 1) + T.2.2.1 930 0 (6 * k)) = (-1) then mS P M k T else m_tells (tn (T.2.2.2 917 0 (144 * P + 12 * T.2.2.1 930 0 (6 * k + 1) + T.2.2.1 930 0 (6 * k)))) (mA P k T) (mS P M k T) := by
  unfold m_jst mS mA mB
  rw [Nat.mul_zero, Nat.zero_add]
set_option maxHeartbeats 400000 in
theorem tells_r (t : Nat) (x : Int32) (T : St) : (∀ i, (m_tells t x T).2.2.2 912 0 i = if i = 3 * t then x else if i = 3 * t + 1 then T.2.2.2 912 0 (3 * t) else if i = 3 * t + 2 then T.2.2.2 912 0 (3 * t + 1) else T.2.2.2 912 0 i) ∧ (m_tells t x T).2.2.1 913 0 = up1 (T.2.2.1 913 0) t (T.2.2.1 913 0 t + 1) ∧ FRm [] [] [913] [912] T (m_tells t x T) := by
  unfold m_tells
  refine ⟨fun i => ?_, wA_3, FRm.A (FRm.B (FRm.B (FRm.B FRm.rf (by decide)) (by decide)) (by decide)) (by decide)⟩
  show (wB (wB (wB T 912 0 (3 * t + 2) (T.2.2.2 912 0 (3 * t + 1))) 912 0 (3 * t + 1) ((wB T 912 0 (3 * t + 2) (T.2.2.2 912 0 (3 * t + 1))).2.2.2 912 0 (3 * t))) 912 0 (3 * t) x).2.2.2 912 0 i = _
  rw [wB_3, wB_3, wB_3, up1_app, up1_app, up1_app, up1_app, if_neg (show ¬ 3 * t = 3 * t + 2 by omega)]
set_option maxHeartbeats 400000 in
theorem mS_r (P M k : Nat) (T : St) : (∀ i, (mS P M k T).2.2.2 933 0 i = if i = 18 * M + 11 + k then mB k T else if i = 18 * M + 5 + k then mA P k T else T.2.2.2 933 0 i) ∧ (mS P M k T).2.2.1 930 0 = up1 (T.2.2.1 930 0) (6 * k + 5) (T.2.2.1 930 0 (6 * k + 5) - (if T.2.2.1 930 0 (6 * k + 5) = 0 then 0 else 1)) ∧ FRm [] [] [930] [933] T (mS P M k T) := by
  unfold mS
  refine ⟨fun i => ?_, wA_3, FRm.A (FRm.B (FRm.B FRm.rf (by decide)) (by decide)) (by decide)⟩
  show (wB (wB T 933 0 (18 * M + 5 + k) (mA P k T)) 933 0 (18 * M + 11 + k) (mB k T)).2.2.2 933 0 i = _
  rw [wB_3, wB_3, up1_app, up1_app]
/-- both sides in the midst of judging, k features measured -/
def JL (K M k : Nat) (X T : St) : Prop := JN X ∧ JA X T ∧ JT X T ∧ JM K X T ∧ JG X T ∧ JF X T ∧ ¬ T.2.2.2 928 0 2 = 0 ∧ T.2.2.1 927 0 2 ≤ T.1 900 0 ∧ (∀ i, i < 288 → T.2.2.2 917 0 i = (-1) ∨ ix (T.2.2.2 917 0 i) 4) ∧ ∀ j, j < k → T.2.2.2 933 0 (18 * M + 5 + j) = X.2.2.2 903 0 (33 + j) ∧ T.2.2.2 933 0 (18 * M + 11 + j) = X.2.2.2 903 0 (35 + j)
set_option maxHeartbeats 400000 in
theorem size_b (C : Nat) : -20000 ≤ (h_size C).toInt ∧ (h_size C).toInt ≤ 20000 := by
  obtain ⟨a0, a1, a2, a3⟩ := hp_b C
  have b0 : C % 16 < 16 := Nat.mod_lt _ (by decide)
  unfold h_size
  generalize C % 16 = z at b0 ⊢
  generalize hp0 C = x0 at *
  generalize hp1 C = x1 at *
  generalize hp2 C = x2 at *
  generalize hp3 C = x3 at *
  have e0 : (nI (1000 * z)).toInt = 1000 * (z : Int) := by rw [nI_tz (by omega)]; omega
  have e1 : (nI (1000 * z) + x0).toInt = 1000 * (z : Int) + x0.toInt := by
    rw [Int32.toInt_add, e0]; exact Int.bmod_eq_of_le (by omega) (by omega)
  have e2 : (nI (1000 * z) + x0 + x1).toInt = 1000 * (z : Int) + x0.toInt + x1.toInt := by
    rw [Int32.toInt_add, e1]; exact Int.bmod_eq_of_le (by omega) (by omega)
  have e3 : (nI (1000 * z) + x0 + x1 + x2).toInt = 1000 * (z : Int) + x0.toInt + x1.toInt + x2.toInt := by
    rw [Int32.toInt_add, e2]; exact Int.bmod_eq_of_le (by omega) (by omega)
  have e4 : (nI (1000 * z) + x0 + x1 + x2 + x3).toInt = 1000 * (z : Int) + x0.toInt + x1.toInt + x2.toInt + x3.toInt := by
    rw [Int32.toInt_add, e3]; exact Int.bmod_eq_of_le (by omega) (by omega)
  rw [e4]
  omega
set_option maxHeartbeats 400000 in
theorem aw_b {s : Int32} {q h : Nat} (hs : -20000 ≤ s.toInt ∧ s.toInt ≤ 20000) (hq : q ≤ 20000) (hh : h ≤ 9) : -100000 ≤ ((s + nI q) - nI (1000 * h)).toInt ∧ ((s + nI q) - nI (1000 * h)).toInt ≤ 100000 := by
  have e1 : (s + nI q).toInt = s.toInt + q := by
    rw [Int32.toInt_add, nI_tz (by omega)]; exact Int.bmod_eq_of_le (by omega) (by omega)
  have e2 : ((s + nI q) - nI (1000 * h)).toInt = s.toInt + q - 1000 * (h : Int) := by
    rw [Int32.toInt_sub, e1, nI_tz (by omega), show ((1000 * h : Nat) : Int) = 1000 * (h : Int) by omega]; exact Int.bmod_eq_of_le (by omega) (by omega)
  rw [e2]
  omega
set_option maxHeartbeats 400000 in
theorem isz_b2 {x : Int32} (h : -100000 ≤ x.toInt ∧ x.toInt ≤ 100000) : 0 ≤ (isz x).toInt ∧ (isz x).toInt ≤ 100000 := by
  have z0 : (0 : Int32).toInt = 0 := rfl
  unfold isz
  by_cases c : x < 0
  · rw [if_pos c]
    have c' : x.toInt < 0 := Int32.lt_iff_toInt_lt.mp c
    have e : (-x).toInt = - x.toInt := by
      rw [Int32.toInt_neg]
      exact Int.bmod_eq_of_le (by omega) (by omega)
    rw [e]
    omega
  · rw [if_neg c]
    have c' : ¬ x.toInt < 0 := fun z => c (Int32.lt_iff_toInt_lt.mpr z)
    omega
set_option maxHeartbeats 400000 in
theorem vd_jO {w d : Int32} {b : Nat} (hw : -100000 ≤ w.toInt ∧ w.toInt ≤ 100000) (hb : b ≤ 200) (hd : ix d 31) : vd1 w (nI b) d = jO w (nI b) d := by
  have hz := isz_b2 hw
  obtain ⟨d0, d1⟩ := hd
  have eb : (nI b).toInt = (b : Int) := nI_tz (by omega)
  have e1 : (nI b + d).toInt = (b : Int) + d.toInt := by
    rw [Int32.toInt_add, eb]; exact Int.bmod_eq_of_le (by omega) (by omega)
  have e2 : (nI b - d).toInt = (b : Int) - d.toInt := by
    rw [Int32.toInt_sub, eb]; exact Int.bmod_eq_of_le (by omega) (by omega)
  have e3 : (isz w + d).toInt = (isz w).toInt + d.toInt := by
    rw [Int32.toInt_add]; exact Int.bmod_eq_of_le (by omega) (by omega)
  unfold vd1 jO
  simp only [Int32.le_iff_toInt_le, Int32.lt_iff_toInt_lt, e1, e2, e3, eb]
  by_cases c1 : (b : Int) + d.toInt < (isz w).toInt
  · rw [if_pos c1, if_neg (by omega)]
  · rw [if_neg c1, if_pos (by omega)]
    by_cases c2 : (b : Int) < (isz w).toInt + d.toInt
    · rw [if_pos c2, if_pos (by omega)]
    · rw [if_neg c2, if_neg (by omega)]
set_option maxHeartbeats 400000 in
theorem sub_1 {a b : Nat} : nI a - nI (b + 1) + nI 1 = nI a - nI b := by
  rw [← nI_add b 1]
  generalize nI a = x
  generalize nI b = y
  generalize nI 1 = z
  have e1 : (x - (y + z) + z) + y = x := by rw [Int32.add_assoc, Int32.add_comm z y, Int32.sub_add_cancel]
  exact (Int32.add_sub_cancel _ y).symm.trans (congrArg (fun w => w - y) e1)
set_option maxHeartbeats 400000 in
theorem nlt0 {b : Nat} (h : 0 < b) (hb : b < 2 ^ 31) : (0 : Int32) < nI b := (nlt (a := 0) (by decide) hb).mpr h
set_option maxHeartbeats 400000 in
/-- what the two sides measure is the same -/
theorem jm_eq {K M k P : Nat} {X T : St} (h : JL K M k X T) (hk : k < 2) (hP : P < 2) (hK : K ≤ 900000) : jA P k X = mA P k T ∧ jB k X = mB k T ∧ (if 0 < X.2.2.2 903 0 (16 + 6 * k + 5) then X.2.2.2 903 0 (16 + 6 * k + 5) - nI 1 else nI 0) = nI (T.2.2.1 930 0 (6 * k + 5) - (if T.2.2.1 930 0 (6 * k + 5) = 0 then 0 else 1)) ∧ (∃ b, b ≤ 200 ∧ mB k T = nI b) ∧ (-100000 ≤ (mA P k T).toInt ∧ (mA P k T).toInt ≤ 100000) ∧ QE (jC P k X) (144 * P + 12 * T.2.2.1 930 0 (6 * k + 1) + T.2.2.1 930 0 (6 * k)) T ∧ 144 * P + 12 * T.2.2.1 930 0 (6 * k + 1) + T.2.2.1 930 0 (6 * k) < 288 ∧ jC P k X < 2 ^ 62 := by
  obtain ⟨hN, hA, hT, hM, hG, hF, h28, h27, h17, -⟩ := h
  obtain ⟨b1, b2, b3, b4, b5, b6, b7⟩ := hF.2.2 k hk
  have f0 := b1 0 (by decide)
  rw [Nat.add_zero] at f0
  have f1 := b1 1 (by decide)
  have f2 := b1 2 (by decide)
  have f3 := b1 3 (by decide)
  have f4 := b1 4 (by decide)
  have f5 := b1 5 (by decide)
  rw [Nat.add_zero] at f0
  have u0 := (hT.1.2 0 (by decide)).2.2.2.2.2.2
  have u1 := (hT.1.2 1 (by decide)).2.2.2.2.2.2
  have u2 := (hT.1.2 2 (by decide)).2.2.2.2.2.2
  have u3 := (hT.1.2 3 (by decide)).2.2.2.2.2.2
  have hm := hM.2.2.2
  have hC : jC P k X = X.2.2.1 900 P (12 * T.2.2.1 930 0 (6 * k + 1) + T.2.2.1 930 0 (6 * k)) := by
    unfold jC
    rw [f0, f1, tn_nI (by omega), tn_nI (by omega)]
  have q := (hA.2 P hP).2 (12 * T.2.2.1 930 0 (6 * k + 1) + T.2.2.1 930 0 (6 * k)) (by omega)
  have ql := (hA.2 P hP).1 (12 * T.2.2.1 930 0 (6 * k + 1) + T.2.2.1 930 0 (6 * k))
  rw [← hC] at q ql
  rw [← Nat.add_assoc] at q
  have hs := q.size
  have em : X.2.2.2 903 0 0 - X.2.2.2 903 0 2 + nI 1 = nI (T.1 900 0 - T.2.2.1 927 0 2) := by
    rw [hM.1, hG.2.1, if_neg h28, sub_1]
    exact pk_sub h27
  have em2 : nI (T.1 900 0) - nI (T.2.2.1 927 0 2) = nI (T.1 900 0 - T.2.2.1 927 0 2) := pk_sub h27
  have eA : jA P k X = mA P k T := by
    unfold jA mA
    rw [hs, em, em2, f2, pk_mul]
  have hdv : nI (T.1 900 0 - T.2.2.1 927 0 2) / nI 100 = nI ((T.1 900 0 - T.2.2.1 927 0 2) / 100) := pk_div (by omega) (by decide) (by decide)
  refine ⟨eA, ?_, ?_, ?_, ?_, q, by omega, ql⟩
  · unfold jB mB
    rw [f3, f4, f5, ← nI_add]
    by_cases z : T.2.2.1 930 0 (6 * k + 5) = 0
    · rw [z, if_pos rfl, if_neg (by decide)]
    · rw [if_neg z, if_pos (nlt0 (Nat.pos_of_ne_zero z) (by omega))]
  · rw [f5]
    by_cases z : T.2.2.1 930 0 (6 * k + 5) = 0
    · rw [z, if_pos rfl, if_neg (by decide)]
    · rw [if_neg z, if_pos (nlt0 (Nat.pos_of_ne_zero z) (by omega))]
      exact pk_sub (by omega)
  · exact ⟨_, by split <;> omega, rfl⟩
  · unfold mA
    rw [← hs, em2, hdv]
    exact aw_b (size_b _) (by omega) b4
set_option maxHeartbeats 400000 in
/-- the paper's entries and the allowance -/
theorem jS_sim {K M k P : Nat} {X T : St} (h : JL K M k X T) (hk : k < 2) (hP : P < 2) (hK : K ≤ 900000) : JL K M (k + 1) (jS P k X) (mS P M k T) := by
  obtain ⟨e1, e2, e3, -⟩ := jm_eq h hk hP hK
  obtain ⟨s1, s2, s3⟩ := jS_r P k X
  obtain ⟨m1, m2, f⟩ := mS_r P M k T
  rw [e1, e2, e3] at s1
  obtain ⟨hN, hA, hT, hM, hG, hF, h28, h27, h17, hj⟩ := h
  generalize jS P k X = R at *
  generalize mS P M k T = U at *
  generalize mA P k T = w at *
  generalize mB k T = b at *
  have lo : ∀ i, i < 16 → R.2.2.2 903 0 i = X.2.2.2 903 0 i := fun i hi => by
    rw [s1, if_neg (by omega), if_neg (by omega), if_neg (by omega)]
  refine ⟨by unfold JN; rw [s3]; exact hN, hA.fr f (fun p _ => by rw [s3]), hT.fr f (by rw [s2 902 (by decide)]), hM.fr f (fun i hi _ _ => lo i hi), hG.fr f ⟨lo 2 (by decide), lo 3 (by decide)⟩, ⟨by rw [f.1 932 (by decide)]; exact hF.1, by rw [f.2.2.1 931 (by decide)]; exact hF.2.1, fun k' hk' => ?_⟩, by rw [f.2.2.2 928 (by decide)]; exact h28, by rw [f.1 900 (by decide), f.2.2.1 927 (by decide)]; exact h27, by rw [f.2.2.2 917 (by decide)]; exact h17, fun j hj9 => ?_⟩
  · obtain ⟨b1, b2, b3, b4, b5, b6, b7⟩ := hF.2.2 k' hk'
    refine ⟨fun j hj9 => ?_, ?_, ?_, ?_, ?_, ?_, ?_⟩
    · rw [s1, if_neg (by omega), if_neg (by omega), m2, up1_app]
      by_cases c : 6 * k' + j = 6 * k + 5
      · rw [if_pos (by omega), if_pos c]
      · rw [if_neg (by omega), if_neg c]; exact b1 j hj9
    · rw [m2, up1_n (by omega)]; exact b2
    · rw [m2, up1_n (by omega)]; exact b3
    · rw [m2, up1_n (by omega)]; exact b4
    · rw [m2, up1_n (by omega)]; exact b5
    · rw [m2, up1_n (by omega)]; exact b6
    · rw [m2, up1_app]
      by_cases c : 6 * k' + 5 = 6 * k + 5
      · have hkk : k' = k := by omega
        subst hkk
        rw [if_pos rfl]; omega
      · rw [if_neg c]; exact b7
  · by_cases c : j = k
    · subst c
      refine ⟨?_, ?_⟩
      · rw [m1, s1, if_neg (by omega), if_pos rfl, if_neg (by omega), if_pos rfl]
      · rw [m1, s1, if_pos rfl, if_pos rfl]
    · have g := hj j (by omega)
      refine ⟨?_, ?_⟩
      · rw [m1, s1, if_neg (by omega), if_neg (by omega), if_neg (by omega), if_neg (by omega), if_neg (by omega)]; exact g.1
      · rw [m1, s1, if_neg (by omega), if_neg (by omega), if_neg (by omega), if_neg (by omega), if_neg (by omega)]; exact g.2
set_option maxHeartbeats 400000 in
theorem jU_sim {K M k t : Nat} {x : Int32} {X T : St} (h : JL K M k X T) (ht : t < 4) : JL K M k (jU t x X) (m_tells t x T) := by
  obtain ⟨s1, s2, s3⟩ := jU_r t x X
  obtain ⟨m1, m2, f⟩ := tells_r t x T
  obtain ⟨hN, hA, hT, hM, hG, hF, h28, h27, h17, hj⟩ := h
  generalize jU t x X = R at *
  generalize m_tells t x T = U at *
  have hT' : JT R U := by
    refine ⟨⟨by rw [f.1 914 (by decide)]; exact hT.1.1, fun k' hk' => ?_⟩, fun k' hk' => ?_⟩
    · have a := hT.1.2 k' hk'
      rw [f.2.2.2 906 (by decide), f.2.2.1 907 (by decide), f.2.2.1 908 (by decide), f.2.2.2 911 (by decide)]
      have w : ∀ j, j < 5 → R.2.2.2 902 0 (9 * k' + j) = X.2.2.2 902 0 (9 * k' + j) := fun j hj9 => by
        rw [s1, if_neg (by omega), if_neg (by omega), if_neg (by omega), if_neg (by omega)]
      have w0 := w 0 (by decide)
      rw [Nat.add_zero] at w0
      rw [w0, w 1 (by decide), w 2 (by decide), w 4 (by decide)]
      exact a
    · obtain ⟨b1, b2, b3, b4⟩ := hT.2 k' hk'
      have w3 : R.2.2.2 902 0 (9 * k' + 3) = X.2.2.2 902 0 (9 * k' + 3) := by
        rw [s1, if_neg (by omega), if_neg (by omega), if_neg (by omega), if_neg (by omega)]
      rw [w3, f.2.2.2 910 (by decide), m2]
      obtain ⟨c1, c2, c3, c4⟩ := hT.2 t ht
      have d0 : X.2.2.2 902 0 (9 * t + 5) = T.2.2.2 912 0 (3 * t) := c3 0 (by decide)
      have d1 : X.2.2.2 902 0 (9 * t + 6) = T.2.2.2 912 0 (3 * t + 1) := c3 1 (by decide)
      refine ⟨b1, b2, fun j hj9 => ?_, ?_⟩
      · rw [m1, s1, d0, d1]
        by_cases c : k' = t
        · subst c
          rcases (by omega : j = 0 ∨ j = 1 ∨ j = 2) with rfl | rfl | rfl
          · rw [if_neg (by omega), if_pos (by omega), if_pos (by omega)]
          · rw [if_neg (by omega), if_neg (by omega), if_pos (by omega), if_neg (by omega), if_pos (by omega)]
          · rw [if_neg (by omega), if_neg (by omega), if_neg (by omega), if_pos (by omega), if_neg (by omega), if_neg (by omega), if_pos (by omega)]
        · rw [if_neg (by omega), if_neg (by omega), if_neg (by omega), if_neg (by omega), if_neg (by omega), if_neg (by omega), if_neg (by omega)]
          exact b3 j hj9
      · rw [s1, up1_app]
        by_cases c : k' = t
        · subst c
          rw [if_pos rfl, if_pos rfl, b4, nI_add]
        · rw [if_neg (by omega), if_neg (by omega), if_neg (by omega), if_neg (by omega), if_neg c]; exact b4
  refine ⟨by unfold JN; rw [s3]; exact hN, hA.fr f (fun p _ => by rw [s3]), hT', hM.fr f (fun i _ _ _ => by rw [s2 903 (by decide)]), hG.fr f (by rw [s2 903 (by decide)]; exact ⟨rfl, rfl⟩), hF.fr f (fun i _ _ => by rw [s2 903 (by decide)]), by rw [f.2.2.2 928 (by decide)]; exact h28, by rw [f.1 900 (by decide), f.2.2.1 927 (by decide)]; exact h27, by rw [f.2.2.2 917 (by decide)]; exact h17, fun j hj9 => ?_⟩
  rw [f.2.2.2 933 (by decide), s2 903 (by decide)]
  exact hj j hj9
set_option maxHeartbeats 400000 in
theorem js_sim {K M k P : Nat} {X T : St} (h : JL K M k X T) (hk : k < 2) (hP : P < 2) (hK : K ≤ 900000) : JL K M (k + 1) (h_js P k X) (m_jst P 0 2 M k T) ∧ jC P k X / 16 % 64 ≤ 4 := by
  obtain ⟨e1, e2, e3, e4, e5, e6, e7, e8⟩ := jm_eq h hk hP hK
  have hS := jS_sim h hk hP hK
  have h17 := h.2.2.2.2.2.2.2.2.1 _ e7
  have e9 := e6.tool
  have lt : jC P k X / 16 % 64 < 64 := Nat.mod_lt _ (by decide)
  rw [jst_m]
  unfold h_js
  rw [e1]
  generalize jC P k X / 16 % 64 = z at *
  rw [← e9] at h17 ⊢
  by_cases c : z = 0
  · subst c
    rw [if_pos rfl, if_pos (by decide)]
    exact ⟨hS, by decide⟩
  · have e : nI z - nI 1 = nI (z - 1) := pk_sub (by omega)
    rw [e] at h17 ⊢
    have ne : ¬ nI (z - 1) = (-1) := fun y => by
      have hh := nI_tz (k := z - 1) (by omega)
      rw [y] at hh
      have : (-1 : Int32).toInt = -1 := by decide
      omega
    have h4 : z - 1 < 4 := by
      rcases h17 with y | y
      · exact absurd y ne
      · exact (ix_nI (by omega)).mp y
    rw [if_neg c, if_neg ne, tn_nI (by omega)]
    exact ⟨jU_sim hS h4, by omega⟩
