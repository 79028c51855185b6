/-! whole runs side by side -/
theorem ini0_r (pr : Nat) (X : St) : (∀ b, b < 3 → (m_ini0 pr X).2.2.1 937 0 b = if b = 2 then 9 else 0) ∧ (m_ini0 pr X).2.1 940 0 = 0 ∧ (m_ini0 pr X).2.1 941 0 = 0 ∧ (m_ini0 pr X).2.1 942 0 = (-1) ∧ (m_ini0 pr X).1 943 0 = 0 ∧ (∀ k, k < 4 → (m_ini0 pr X).2.2.1 936 0 k = 0) ∧ (m_ini0 pr X).2.2.1 938 0 0 = pr ∧ (m_ini0 pr X).2.2.1 939 0 0 = 0 := by
  refine ⟨fun b hb => ?_, rfl, rfl, rfl, rfl, fun k hk => ?_, rfl, rfl⟩
  · rcases (by omega : b = 0 ∨ b = 1 ∨ b = 2) with rfl | rfl | rfl <;> rfl
  · rcases (by omega : k = 0 ∨ k = 1 ∨ k = 2 ∨ k = 3) with rfl | rfl | rfl | rfl <;> rfl
theorem ini0_9 (pr : Nat) (X : St) : (m_ini0 pr X).2.2.2 = X.2.2.2 ∧ (∀ F, F < 936 → (m_ini0 pr X).2.2.1 F = X.2.2.1 F) ∧ (∀ F, F ≠ 943 → (m_ini0 pr X).1 F = X.1 F) := by
  refine ⟨rfl, fun F hF => ?_, fun F hF => if_neg hF⟩
  show up3 (up3 (up3 (up3 (up3 (up3 (up3 (up3 (up3 X.2.2.1 936 0 0 0) 936 0 1 0) 936 0 2 0) 936 0 3 0) 937 0 0 0) 937 0 1 0) 937 0 2 9) 938 0 0 pr) 939 0 0 0 F = _
  unfold up3
  rw [if_neg (by omega), if_neg (by omega), if_neg (by omega), if_neg (by omega), if_neg (by omega), if_neg (by omega), if_neg (by omega), if_neg (by omega), if_neg (by omega)]
theorem mini_9 (p pr : Nat) (τ : St) : (∀ F, F ≠ 935 → (m_ini p pr τ).2.2.2 F = τ.2.2.2 F) ∧ (∀ F, F < 936 → (m_ini p pr τ).2.2.1 F = τ.2.2.1 F) ∧ (∀ F, F ≠ 943 → (m_ini p pr τ).1 F = τ.1 F) ∧ ∀ c, c < 144 → (m_ini p pr τ).2.2.2 935 0 c = τ.2.2.2 915 0 (144 * p + c) := by
  have h := ini0_9 pr (m_cp p 144 τ)
  have h1 : ∀ F, F ≠ 935 → (m_cp p 144 τ).2.2.2 F = τ.2.2.2 F := fun F h => m_cp_F p F τ h 144
  have h2 := m_cp_A p τ 144
  have h3 := m_cp_N p τ 144
  have h4 := m_cp_V p τ 144
  unfold m_ini
  generalize m_cp p 144 τ = X at h h1 h2 h3 h4 ⊢
  refine ⟨fun F hF => ?_, fun F hF => (h.2.1 F hF).trans (by rw [h2]), fun F hF => (h.2.2 F hF).trans (by rw [h3]), fun c hc => ?_⟩
  · rw [h.1]; exact h1 F hF
  · rw [h.1]; exact h4 c hc
theorem h_ini_X {RX : St → St → Prop} (hX : XI9 RX) {ρ τ : St} (h : RX ρ τ) : ∀ n, RX (h_ini n ρ) τ
  | 0 => h
  | n + 1 => hX.1 _ _ _ _ (h_ini_X hX h n)
theorem run_sim {kr ku km fr p pr : Nat} {t9 : Int32} {RX : St → St → Prop} {g : St → Int32 × St} (hX : XI9 RX) (hg : SSim kr ku km fr t9 RX g) (hG : StG g) {ρ τ : St} (hj : LJ kr ku km ρ) (hgi : GI ρ) (hpr : pr < 3) (hrg : RG ρ τ) (hx : RX ρ (m_ini p pr τ)) :
    (h_run kr ku km pr fr t9 ρ).1 = fx (rlG g 2000 1 0 (m_ini p pr τ)).1 ∧ RW (h_run kr ku km pr fr t9 ρ).2 (rlG g 2000 1 0 (m_ini p pr τ)).2 ∧ RX (h_run kr ku km pr fr t9 ρ).2 (rlG g 2000 1 0 (m_ini p pr τ)).2 := by
  have hi := ini0_r pr (m_cp p 144 τ)
  have hi9 := mini_9 p pr τ
  have e7 : tn ((h_st pr ρ).2.2.2 904 0 7) = 0 := by rw [st_j pr ρ (by decide) (by decide)]; decide
  have hst : ∀ j, j < 20 → j ≠ 13 → (h_st pr ρ).2.2.2 904 0 j = h_i0 j := fun j h1 h2 => st_j pr ρ h1 h2
  have e13 : (h_st pr ρ).2.2.2 904 0 13 = nI pr := by unfold h_st; rw [wB_s, up1_s]
  have hxx : RX (h_st pr ρ) (m_ini p pr τ) := hX.1 _ _ _ _ (h_ini_X hX hx 20)
  have hLI : LI kr ku km (h_st pr ρ) := LI_st hj
  have hKI := KI_st (pr := pr) (σ := ρ) hpr
  have hGI : GI (h_st pr ρ) := hgi.eq (st_F pr ρ (by decide))
  have hRG : RG (h_st pr ρ) (m_ini p pr τ) := hrg.eq (st_F pr ρ (by decide)) (hi9.2.1 903 (by decide)) (hi9.1 902 (by decide))
  unfold h_run
  change (∀ b, b < 3 → (m_ini p pr τ).2.2.1 937 0 b = if b = 2 then 9 else 0) ∧ (m_ini p pr τ).2.1 940 0 = 0 ∧ (m_ini p pr τ).2.1 941 0 = 0 ∧ (m_ini p pr τ).2.1 942 0 = (-1) ∧ (m_ini p pr τ).1 943 0 = 0 ∧ (∀ k, k < 4 → (m_ini p pr τ).2.2.1 936 0 k = 0) ∧ (m_ini p pr τ).2.2.1 938 0 0 = pr ∧ (m_ini p pr τ).2.2.1 939 0 0 = 0 at hi
  generalize h_st pr ρ = ρ0 at e7 hst e13 hxx hLI hKI hGI hRG ⊢
  generalize m_ini p pr τ = τ0 at hi hxx hRG ⊢
  obtain ⟨i1, i2, i3, i4, i5, i6, i7, i8⟩ := hi
  have q := rl_sim hX hg hG 2000 1 ρ0 τ0 (by rw [e7]; decide) hLI hGI hKI (by rw [hst 6 (by decide) (by decide)]; decide) (by rw [hst 7 (by decide) (by decide)]; decide) (by rw [e7, hst 6 (by decide) (by decide)]; decide) hRG (fun t ht => by
    obtain rfl : t = 0 := by omega
    unfold pP pI
    rw [e13, hst 16 (by decide) (by decide), i7, i8, tn_nI (by omega)]
    exact ⟨rfl, by decide⟩) ⟨fun b hb => by
      rw [i1 b hb, hst b (by omega) (by omega)]
      rcases (by omega : b = 0 ∨ b = 1 ∨ b = 2) with rfl | rfl | rfl <;> decide, by rw [hst 3 (by decide) (by decide), i2]; decide, by rw [hst 4 (by decide) (by decide), i3]; decide, by rw [hst 5 (by decide) (by decide), i4]; decide, by rw [hst 6 (by decide) (by decide), i5]; decide, fun k hk => by
      rw [i6 k hk, hst (8 + k) (by omega) (by omega)]
      rcases (by omega : k = 0 ∨ k = 1 ∨ k = 2 ∨ k = 3) with rfl | rfl | rfl | rfl <;> decide, by rw [hst 5 (by decide) (by decide)]; exact Or.inl (by decide)⟩ hxx
  rw [e7] at q
  exact q
/-- a cell, as the reference has it -/
def QE (C i : Nat) (τ : St) : Prop := QC C i τ ∧ nI (C % 16) = τ.2.2.2 915 0 i ∧ nI (C / 17592186044416 % 16) = τ.2.2.2 916 0 i
/-- both pallets -/
def JA (ρ τ : St) : Prop := τ.1 924 0 = 2 ∧ ∀ p, p < 2 → (∀ i, ρ.2.2.1 900 p i < 2 ^ 62) ∧ ∀ c, c < 48 → QE (ρ.2.2.1 900 p c) (144 * p + c) τ
/-- the tools' other numbers -/
def JT (ρ τ : St) : Prop := RTu 0 908 ρ τ ∧ ∀ k, k < 4 → ρ.2.2.2 902 0 (9 * k + 3) = τ.2.2.2 910 0 k ∧ ix (ρ.2.2.2 902 0 (9 * k + 3) + nI 200) 401 ∧ (∀ j, j < 3 → ρ.2.2.2 902 0 (9 * k + 5 + j) = τ.2.2.2 912 0 (3 * k + j)) ∧ ρ.2.2.2 902 0 (9 * k + 8) = nI (τ.2.2.1 913 0 k)
/-- clock, warmth, map -/
def JM (K : Nat) (ρ τ : St) : Prop := ρ.2.2.2 903 0 0 = nI (τ.1 900 0) ∧ (ρ.2.2.2 903 0 1 = nI (τ.1 901 0) ∧ τ.1 901 0 ≤ 99) ∧ (∀ x, x < 12 → ρ.2.2.2 903 0 (4 + x) = τ.2.2.2 905 0 x ∧ ix (ρ.2.2.2 903 0 (4 + x) + nI 50) 101) ∧ τ.1 900 0 ≤ K + (τ.2.2.1 908 0 0 + τ.2.2.1 908 0 1 + τ.2.2.1 908 0 2 + τ.2.2.1 908 0 3)
/-- programs -/
def JP (ρ τ : St) : Prop := GI ρ ∧ RG ρ τ ∧ τ.1 904 0 = 3
/-- the queue, and what the pallets are at -/
def JQ (ρ τ : St) : Prop := ρ.2.2.2 905 0 10 = nI (τ.1 926 0) ∧ τ.1 926 0 ≤ 2 ∧ (∀ i, i < τ.1 926 0 → ρ.2.2.2 905 0 (8 + i) = nI (τ.2.2.1 925 0 i) ∧ τ.2.2.1 925 0 i < 2) ∧ (τ.1 926 0 = 2 → τ.2.2.1 925 0 0 ≠ τ.2.2.1 925 0 1) ∧ ∀ p, p < 2 → ρ.2.2.2 905 0 (4 * p) = τ.2.2.2 920 0 p ∧ ρ.2.2.2 905 0 (4 * p + 1) = nI (τ.2.2.1 921 0 p) ∧ ρ.2.2.2 905 0 (4 * p + 2) = nI (τ.2.2.1 922 0 p) ∧ ρ.2.2.2 905 0 (4 * p + 3) = τ.2.2.2 923 0 p ∧ τ.2.2.1 921 0 p < 3 ∧ τ.2.2.1 922 0 p < 80000
def JN (ρ : St) : Prop := ρ.2.2.1 902 0 0 = 36 ∧ ρ.2.2.1 903 0 0 = 37 ∧ ρ.2.2.1 905 0 0 = 11
theorem l_LJ {K p : Nat} {ρ τ : St} (hp : p < 2) (hN : JN ρ) (hA : JA ρ τ) (hT : JT ρ τ) (hM : JM K ρ τ) : LJ p 0 0 ρ := by
  refine ⟨by rw [hN.1]; decide, by rw [hN.2.1]; decide, (hA.2 p hp).1, fun k hk => ?_, fun k hk => ?_, fun k hk => (hT.2 k hk).2.1, ?_, fun x hx => (hM.2.2.1 x hx).2⟩
  · obtain ⟨a1, a2, a3, a4, a5, a6, a7⟩ := hT.1.2 k hk
    rw [a2]; exact (ix_nI (by omega)).mpr (by omega)
  · obtain ⟨a1, a2, a3, a4, a5, a6, a7⟩ := hT.1.2 k hk
    rw [a3]; exact (ix_nI (by omega)).mpr (by omega)
  · have := hM.2.1.2
    rw [hM.2.1.1]; exact (ix_nI (by omega)).mpr (by omega)
theorem l_QX0 {p pr : Nat} {ρ τ : St} (hp : p < 2) (hA : JA ρ τ) : QX0 p p ρ (m_ini p pr τ) := fun c hc => by
  have h := (hA.2 p hp).2 c hc
  have hi := mini_9 p pr τ
  rw [hi.2.2.2 c (by omega), hi.1 916 (by decide)]
  exact h.2
theorem l_QX2 {K p pr : Nat} {ρ τ : St} (hp : p < 2) (hA : JA ρ τ) (hT : JT ρ τ) (hM : JM K ρ τ) : QX2 p 0 0 p K (τ.2.2.2 917 0) (τ.2.2.2 918 0) ρ (m_ini p pr τ) := by
  have hi := mini_9 p pr τ
  refine ⟨l_QX0 hp hA, ?_, fun k hk => ?_, ?_, ?_, fun x hx => ?_, fun c hc => ?_, ?_, fun i _ => ?_⟩
  · unfold RTu
    rw [hi.2.2.1 914 (by decide), hi.1 906 (by decide), hi.1 911 (by decide), hi.2.1 907 (by decide), hi.2.1 908 (by decide)]
    exact hT.1
  · rw [hi.1 910 (by decide)]; exact (hT.2 k hk).1
  · rw [hi.2.2.1 900 (by decide)]; exact hM.1
  · rw [hi.2.2.1 901 (by decide)]; exact hM.2.1
  · rw [hi.1 905 (by decide)]; exact (hM.2.2.1 x hx).1
  · unfold QC
    rw [hi.1 917 (by decide), hi.1 918 (by decide)]
    exact ((hA.2 p hp).2 c hc).1
  · rw [hi.2.2.1 900 (by decide), hi.2.1 908 (by decide)]; exact hM.2.2.2
  · rw [hi.1 917 (by decide), hi.1 918 (by decide)]; exact ⟨rfl, fun _ _ => rfl⟩
/-- the reference's runs, as runs of their steps -/
theorem runs0_G (p pr fr : Nat) (τ : St) : m_runs0 p pr fr τ = rlG (m_step0 p fr) 2000 1 0 (m_ini p pr τ) := rl0_G p fr 2000 1 0 _
theorem runs1_G (p pr fr : Nat) (τ : St) : m_runs1 p pr fr τ = rlG (m_step1 p fr) 2000 1 0 (m_ini p pr τ) := rl1_G p fr 2000 1 0 _
theorem runs2_G (p pr fr : Nat) (τ : St) : m_runs2 p pr fr τ = rlG (m_step2 p fr) 2000 1 0 (m_ini p pr τ) := rl2_G p fr 2000 1 0 _
/-- proving on a row that is the pallet's, or its copy -/
theorem run0_sim {kr ku km fr p pr : Nat} {ρ τ : St} (hj : LJ kr ku km ρ) (hgi : GI ρ) (hpr : pr < 3) (hrg : RG ρ τ) (hx : QX0 kr p ρ (m_ini p pr τ)) :
    (h_run kr ku km pr fr 0 ρ).1 = fx (m_runs0 p pr fr τ).1 ∧ RW (h_run kr ku km pr fr 0 ρ).2 (m_runs0 p pr fr τ).2 := by
  rw [runs0_G]
  have q := run_sim (fr := fr) (xi_0 kr p) (ss0 (ku := ku) (km := km)) (stG_0 p fr) hj hgi hpr hrg hx
  exact ⟨q.1, q.2.1⟩
theorem run2_sim {K fr p pr : Nat} {ρ τ : St} (hp : p < 2) (hN : JN ρ) (hP : GI ρ ∧ RG ρ τ) (hA : JA ρ τ) (hT : JT ρ τ) (hM : JM K ρ τ) (hpr : pr < 3) :
    (h_run p 0 0 pr fr (nI 1) ρ).1 = fx (m_runs2 p pr fr τ).1 ∧ RW (h_run p 0 0 pr fr (nI 1) ρ).2 (m_runs2 p pr fr τ).2 ∧ QX2 p 0 0 p K (τ.2.2.2 917 0) (τ.2.2.2 918 0) (h_run p 0 0 pr fr (nI 1) ρ).2 (m_runs2 p pr fr τ).2 := by
  rw [runs2_G]
  exact run_sim (fr := fr) (xi_2 p 0 0 p K _ _) (ss2 hp) (stG_2 p fr) (l_LJ hp hN hA hT hM) hP.1 hpr hP.2 (l_QX2 hp hA hT hM)
