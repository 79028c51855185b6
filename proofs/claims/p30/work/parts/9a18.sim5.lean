/-! a night of the law's own beside the reference's -/
/-- gauge 2 -/
def JG (ρ τ : St) : Prop := (τ.2.2.2 928 0 2 = 0 ∨ τ.2.2.2 928 0 2 = 1) ∧ ρ.2.2.2 903 0 2 = (if τ.2.2.2 928 0 2 = 0 then 0 else nI (τ.2.2.1 927 0 2 + 1)) ∧ ρ.2.2.2 903 0 3 = τ.2.2.2 929 0 2 ∧ ix (τ.2.2.2 929 0 2) 31
/-- the drawing's two features -/
def JF (ρ τ : St) : Prop := τ.1 932 0 = 1 ∧ τ.2.2.1 931 0 0 = 2 ∧ ∀ k, k < 2 → (∀ j, j < 6 → ρ.2.2.2 903 0 (16 + 6 * k + j) = nI (τ.2.2.1 930 0 (6 * k + j))) ∧ τ.2.2.1 930 0 (6 * k) < 12 ∧ τ.2.2.1 930 0 (6 * k + 1) < 4 ∧ τ.2.2.1 930 0 (6 * k + 2) ≤ 9 ∧ τ.2.2.1 930 0 (6 * k + 3) ≤ 99 ∧ τ.2.2.1 930 0 (6 * k + 4) ≤ 99 ∧ τ.2.2.1 930 0 (6 * k + 5) ≤ 9
/-- the papers: how many, and the last -/
def JW (ρ τ : St) : Prop := ρ.2.2.2 903 0 28 = nI (τ.1 934 0) ∧ τ.1 934 0 ≤ 30 ∧ (0 < τ.1 934 0 → ρ.2.2.2 903 0 29 = τ.2.2.2 933 0 (18 * (τ.1 934 0 - 1)) ∧ τ.2.2.2 933 0 (18 * (τ.1 934 0 - 1) + 1) = 0 ∧ ρ.2.2.2 903 0 30 = τ.2.2.2 933 0 (18 * (τ.1 934 0 - 1) + 2) ∧ ρ.2.2.2 903 0 31 = τ.2.2.2 933 0 (18 * (τ.1 934 0 - 1) + 3) ∧ ρ.2.2.2 903 0 32 = τ.2.2.2 933 0 (18 * (τ.1 934 0 - 1) + 4) ∧ ρ.2.2.2 903 0 33 = τ.2.2.2 933 0 (18 * (τ.1 934 0 - 1) + 5) ∧ ρ.2.2.2 903 0 34 = τ.2.2.2 933 0 (18 * (τ.1 934 0 - 1) + 6) ∧ τ.2.2.2 933 0 (18 * (τ.1 934 0 - 1) + 7) = 0)
/-- how many clamps a row has -/
def cntC (f : Nat → Nat) : Nat → Nat
  | 0 => 0
  | n + 1 => cntC f n + (if f n / 17592186044416 % 16 = 0 then 0 else 1)
def JC (ρ τ : St) : Prop := ∀ p, p < 2 → τ.2.2.1 919 0 p = cntC (ρ.2.2.1 900 p) 48 ∧ (τ.2.2.2 920 0 p = 0 ∨ τ.2.2.2 920 0 p = nI 1 ∨ τ.2.2.2 920 0 p = nI 2)
theorem cnt_eq {f g : Nat → Nat} : ∀ n, (∀ i, i < n → f i / 17592186044416 % 16 = g i / 17592186044416 % 16) → cntC f n = cntC g n
  | 0, _ => rfl
  | n + 1, h => by
    unfold cntC
    rw [cnt_eq n (fun i hi => h i (by omega)), h n (by omega)]
/-- all that ties the law's rows to the reference's state -/
def JJ (K : Nat) (ρ τ : St) : Prop := JN ρ ∧ JP ρ τ ∧ JA ρ τ ∧ JT ρ τ ∧ JM K ρ τ ∧ JQ ρ τ ∧ JG ρ τ ∧ JF ρ τ ∧ JW ρ τ ∧ JC ρ τ
theorem JG.eq {ρ ρ' τ τ' : St} (h : JG ρ τ) (h1 : ∀ i, 2 ≤ i → ρ'.2.2.2 903 0 i = ρ.2.2.2 903 0 i) (h2 : τ'.2.2.2 928 = τ.2.2.2 928) (h3 : τ'.2.2.1 927 = τ.2.2.1 927) (h4 : τ'.2.2.2 929 = τ.2.2.2 929) : JG ρ' τ' := by
  unfold JG at h ⊢
  rw [h1 2 (by decide), h1 3 (by decide), h2, h3, h4]
  exact h
theorem JF.eq {ρ ρ' τ τ' : St} (h : JF ρ τ) (h1 : ∀ i, 2 ≤ i → ρ'.2.2.2 903 0 i = ρ.2.2.2 903 0 i) (h2 : τ'.1 932 = τ.1 932) (h3 : τ'.2.2.1 931 = τ.2.2.1 931) (h4 : τ'.2.2.1 930 = τ.2.2.1 930) : JF ρ' τ' := by
  refine ⟨by rw [h2]; exact h.1, by rw [h3]; exact h.2.1, fun k hk => ?_⟩
  rw [h4]
  refine ⟨fun j hj => ?_, (h.2.2 k hk).2⟩
  rw [h1 _ (by omega)]
  exact (h.2.2 k hk).1 j hj
theorem JW.eq {ρ ρ' τ τ' : St} (h : JW ρ τ) (h1 : ∀ i, 2 ≤ i → ρ'.2.2.2 903 0 i = ρ.2.2.2 903 0 i) (h2 : τ'.1 934 = τ.1 934) (h3 : τ'.2.2.2 933 = τ.2.2.2 933) : JW ρ' τ' := by
  unfold JW at h ⊢
  rw [h1 28 (by decide), h1 29 (by decide), h1 30 (by decide), h1 31 (by decide), h1 32 (by decide), h1 33 (by decide), h1 34 (by decide), h2, h3]
  exact h
theorem kr_p {p : Nat} (h : p < 2) : h_kr 0 1 p = p := by
  unfold h_kr
  split <;> omega
theorem fr2_N {τ τ' : St} (h : FR2 τ τ') {F : Nat} (h1 : F ≠ 943) (h2 : F ≠ 900) (h3 : F ≠ 901) : τ'.1 F = τ.1 F := h.1 F (by simp only [List.mem_cons, List.not_mem_nil, or_false]; omega)
theorem fr2_A {τ τ' : St} (h : FR2 τ τ') {F : Nat} (h1 : F ≠ 908) (h2 : F < 936) : τ'.2.2.1 F = τ.2.2.1 F := h.2.2.1 F (by simp only [List.mem_cons, List.not_mem_nil, or_false]; omega)
theorem fr2_B {τ τ' : St} (h : FR2 τ τ') {F : Nat} (h1 : F ≠ 935) (h2 : F ≠ 917) (h3 : F ≠ 918) : τ'.2.2.2 F = τ.2.2.2 F := h.2.2.2 F (by simp only [List.mem_cons, List.not_mem_nil, or_false]; omega)
/-- one pallet of the night -/
theorem n1_sim {K : Nat} {ρ τ : St} (h : JJ K ρ τ) (h0 : 0 < τ.1 926 0) : (h_n1 0 1 0 0 0 ρ).1 = fx (m_n1 τ).1 ∧ JJ K (h_n1 0 1 0 0 0 ρ).2 (m_n1 τ).2 ∧ (m_n1 τ).2.1 926 = τ.1 926 ∧ (m_n1 τ).2.2.2.1 925 = τ.2.2.1 925 := by
  obtain ⟨hN, hP, hA, hT, hM, hQ, hG, hF, hW, hC⟩ := h
  obtain ⟨q10, q2, qi, qd, qp⟩ := hQ
  have e8 : tn (ρ.2.2.2 905 0 8) = τ.2.2.1 925 0 0 := by
    have := qi 0 h0
    rw [this.1, tn_nI (by omega)]
  have hp := (qi 0 h0).2
  have e1 : tn (ρ.2.2.2 905 0 (4 * τ.2.2.1 925 0 0 + 1)) = τ.2.2.1 921 0 (τ.2.2.1 925 0 0) := by
    have := qp _ hp
    rw [this.2.1, tn_nI (by omega)]
  have e2 : tn (ρ.2.2.2 905 0 (4 * τ.2.2.1 925 0 0 + 2)) = τ.2.2.1 922 0 (τ.2.2.1 925 0 0) := by
    have := qp _ hp
    rw [this.2.2.1, tn_nI (by omega)]
  have hpr := (qp _ hp).2.2.2.2.1
  have q := run2_sim (fr := τ.2.2.1 922 0 (τ.2.2.1 925 0 0)) hp hN ⟨hP.1, hP.2.1⟩ hA hT hM hpr
  have f := RF_run (kr := τ.2.2.1 925 0 0) (ku := 0) (km := 0) (t9 := nI 1) (σ := ρ) (τ.2.2.1 921 0 (τ.2.2.1 925 0 0)) (τ.2.2.1 922 0 (τ.2.2.1 925 0 0))
  have ra := run_all (fr := τ.2.2.1 922 0 (τ.2.2.1 925 0 0)) (t9 := nI 1) (l_LJ hp hN hA hT hM) hP.1 hpr
  have fr := FR_runs2 (τ.2.2.1 925 0 0) (τ.2.2.1 921 0 (τ.2.2.1 925 0 0)) (τ.2.2.1 922 0 (τ.2.2.1 925 0 0)) τ
  rw [n1_f, n1_s]
  unfold h_n1
  rw [e8, e1, e2, kr_p hp]
  generalize hPe : τ.2.2.1 925 0 0 = P at *
  generalize τ.2.2.1 921 0 P = pr at *
  generalize τ.2.2.1 922 0 P = g at *
  generalize h_run P 0 0 pr g (nI 1) ρ = X at *
  generalize m_runs2 P pr g τ = Y at *
  obtain ⟨k1, k2, k3⟩ := q
  obtain ⟨x1, x2, x3, x4, x5, x6, x7, x8, x9⟩ := k3
  have f2 : ∀ F, F ≠ 904 → F ≠ 902 → F ≠ 903 → X.2.2.2.2 F = ρ.2.2.2 F := fun F a b c => funext fun k => f.2.1 F k (fun z => a z.1) (fun z => b z.1) (fun z => c z.1)
  have b6 := ix_lt ra.2
  have e6 : X.2.2.2.2 904 0 6 = nI (Y.2.1 943 0) := by rw [k2.2.2.2.2.1]; exact ix_eq ra.2
  have hZA : ∀ F, F ≠ 922 → (m_bk P 144 (wA Y.2 922 0 P (Y.2.1 943 0))).2.2.1 F = Y.2.2.2.1 F := fun F z => by
    rw [m_bk_A]; exact wA_o z
  have hZ922 : (m_bk P 144 (wA Y.2 922 0 P (Y.2.1 943 0))).2.2.1 922 0 = up1 (τ.2.2.1 922 0) P (Y.2.1 943 0) := by
    rw [m_bk_A, wA_3, fr2_A fr (by decide) (by decide)]
  have hZN : (m_bk P 144 (wA Y.2 922 0 P (Y.2.1 943 0))).1 = Y.2.1 := by rw [m_bk_N]; rfl
  have hZB : ∀ F, F ≠ 915 → (m_bk P 144 (wA Y.2 922 0 P (Y.2.1 943 0))).2.2.2 F = Y.2.2.2.2 F := fun F z => bk_o z 144
  have hZ915 : ∀ i, (m_bk P 144 (wA Y.2 922 0 P (Y.2.1 943 0))).2.2.2 915 0 i = if 144 * P ≤ i ∧ i < 144 * P + 144 then Y.2.2.2.2 935 0 (i - 144 * P) else Y.2.2.2.2 915 0 i := fun i => bk_v 144 i
  generalize m_bk P 144 (wA Y.2 922 0 P (Y.2.1 943 0)) = Z at *
  have hR : ∀ F, F ≠ 905 → (wB X.2 905 0 (4 * P + 2) (X.2.2.2.2 904 0 6)).2.2.2 F = X.2.2.2.2 F := fun F z => wB_o z
  have hRA : (wB X.2 905 0 (4 * P + 2) (X.2.2.2.2 904 0 6)).2.2.1 = X.2.2.2.1 := rfl
  have hR5 : (wB X.2 905 0 (4 * P + 2) (X.2.2.2.2 904 0 6)).2.2.2 905 0 = up1 (ρ.2.2.2 905 0) (4 * P + 2) (nI (Y.2.1 943 0)) := by
    rw [wB_3, e6, f2 905 (by decide) (by decide) (by decide)]
  generalize wB X.2 905 0 (4 * P + 2) (X.2.2.2.2 904 0 6) = V at *
  have hlen : ∀ F, F ≠ 900 → V.2.2.1 F = ρ.2.2.1 F := fun F z => by rw [hRA]; exact funext fun k => f.1 F k (fun y => z y.1)
  have hVg : V.2.2.2 901 = ρ.2.2.2 901 := by rw [hR 901 (by decide), f2 901 (by decide) (by decide) (by decide)]
  have hM2 : ∀ i, 2 ≤ i → V.2.2.2 903 0 i = ρ.2.2.2 903 0 i := fun i hi => by rw [hR 903 (by decide)]; exact f.2.2.2.1 i hi
  have hU9 : ∀ i, i % 9 ≠ 2 → V.2.2.2 902 0 i = ρ.2.2.2 902 0 i := fun i hi => by rw [hR 902 (by decide)]; exact f.2.2.1 i hi
  refine ⟨k1, ⟨⟨by rw [hlen 902 (by decide)]; exact hN.1, by rw [hlen 903 (by decide)]; exact hN.2.1, by rw [hlen 905 (by decide)]; exact hN.2.2⟩, ⟨hP.1.eq hVg, hP.2.1.eq hVg ((hZA 903 (by decide)).trans (fr2_A fr (by decide) (by decide))) ((hZB 902 (by decide)).trans (fr2_B fr (by decide) (by decide) (by decide))), by rw [hZN, fr2_N fr (by decide) (by decide) (by decide)]; exact hP.2.2⟩, ⟨by rw [hZN, fr2_N fr (by decide) (by decide) (by decide)]; exact hA.1, fun p' hp' => ?_⟩, ⟨?_, fun k hk => ?_⟩, ⟨?_, ⟨?_, ?_⟩, fun x hx => ?_, ?_⟩, ⟨?_, ?_, fun i hi => ?_, ?_, fun p' hp' => ?_⟩, hG.eq hM2 ((hZB 928 (by decide)).trans (fr2_B fr (by decide) (by decide) (by decide))) ((hZA 927 (by decide)).trans (fr2_A fr (by decide) (by decide))) ((hZB 929 (by decide)).trans (fr2_B fr (by decide) (by decide) (by decide))), hF.eq hM2 (by rw [hZN]; exact fr2_N fr (by decide) (by decide) (by decide)) ((hZA 931 (by decide)).trans (fr2_A fr (by decide) (by decide))) ((hZA 930 (by decide)).trans (fr2_A fr (by decide) (by decide))), hW.eq hM2 (by rw [hZN]; exact fr2_N fr (by decide) (by decide) (by decide)) ((hZB 933 (by decide)).trans (fr2_B fr (by decide) (by decide) (by decide))), fun p' hp' => ?_⟩, by rw [hZN]; exact fr2_N fr (by decide) (by decide) (by decide), (hZA 925 (by decide)).trans (fr2_A fr (by decide) (by decide))⟩
  · -- the pallets
    have hz916 : Z.2.2.2 916 = τ.2.2.2 916 := (hZB 916 (by decide)).trans (fr2_B fr (by decide) (by decide) (by decide))
    rw [hRA]
    by_cases e : p' = P
    · subst e
      refine ⟨ra.1.2.2.1, fun c hc => ⟨?_, ?_, ?_⟩⟩
      · have := x7 c hc
        unfold QC at this ⊢
        rw [hZB 917 (by decide), hZB 918 (by decide)]
        exact this
      · rw [hZ915, if_pos (by omega), show 144 * p' + c - 144 * p' = c by omega]
        exact (x1 c hc).1
      · rw [hz916, ← fr2_B fr (F := 916) (by decide) (by decide) (by decide)]
        exact (x1 c hc).2
    · have hr : X.2.2.2.1 900 p' = ρ.2.2.1 900 p' := f.1 900 p' (fun z => e z.2)
      rw [hr]
      have hA' := hA.2 p' hp'
      refine ⟨hA'.1, fun c hc => ⟨?_, ?_, ?_⟩⟩
      · have g := (hA'.2 c hc).1
        have g9 := x9 (144 * p' + c) (by omega)
        have g92 := g9.2 0 (by decide)
        rw [Nat.add_zero] at g92
        unfold QC at g ⊢
        rw [hZB 917 (by decide), hZB 918 (by decide), g9.1, g92, g9.2 1 (by decide), g9.2 2 (by decide), g9.2 3 (by decide)]
        exact g
      · rw [hZ915, if_neg (by omega), fr2_B fr (by decide) (by decide) (by decide)]
        exact (hA'.2 c hc).2.1
      · rw [hz916]
        exact (hA'.2 c hc).2.2
  · have := x2
    unfold RTu at this ⊢
    rw [hZN, hR 902 (by decide), hZB 906 (by decide), hZB 911 (by decide), hZA 907 (by decide), hZA 908 (by decide)]
    exact this
  · have := hT.2 k hk
    rw [hU9 _ (by omega), hU9 _ (by omega), hZB 910 (by decide), fr2_B fr (F := 910) (by decide) (by decide) (by decide), hZA 913 (by decide), fr2_A fr (F := 913) (by decide) (by decide), hZB 912 (by decide), fr2_B fr (F := 912) (by decide) (by decide) (by decide)]
    refine ⟨this.1, this.2.1, fun j hj => ?_, this.2.2.2⟩
    rw [hU9 _ (by omega)]
    exact this.2.2.1 j hj
  · rw [hR 903 (by decide), hZN]; exact x4
  · rw [hR 903 (by decide), hZN]; exact x5.1
  · rw [hZN]; exact x5.2
  · rw [hM2 _ (by omega), hZB 905 (by decide), fr2_B fr (F := 905) (by decide) (by decide) (by decide)]
    exact hM.2.2.1 x hx
  · rw [hZN, hZA 908 (by decide)]; exact x8
  · rw [hR5, up1_n (by omega), hZN, fr2_N fr (F := 926) (by decide) (by decide) (by decide)]; exact q10
  · rw [hZN, fr2_N fr (F := 926) (by decide) (by decide) (by decide)]; exact q2
  · rw [hZN, fr2_N fr (F := 926) (by decide) (by decide) (by decide)] at hi
    rw [hR5, up1_n (by omega), hZA 925 (by decide), fr2_A fr (F := 925) (by decide) (by decide)]
    exact qi i hi
  · rw [hZN, fr2_N fr (F := 926) (by decide) (by decide) (by decide), hZA 925 (by decide), fr2_A fr (F := 925) (by decide) (by decide), hPe]
    exact qd
  · have := qp p' hp'
    rw [hR5, up1_n (show 4 * p' ≠ 4 * P + 2 by omega), up1_n (show 4 * p' + 1 ≠ 4 * P + 2 by omega), up1_n (show 4 * p' + 3 ≠ 4 * P + 2 by omega), hZB 920 (by decide), fr2_B fr (F := 920) (by decide) (by decide) (by decide), hZB 923 (by decide), fr2_B fr (F := 923) (by decide) (by decide) (by decide), hZA 921 (by decide), fr2_A fr (F := 921) (by decide) (by decide), hZ922]
    refine ⟨this.1, this.2.1, ?_, this.2.2.2.1, this.2.2.2.2.1, ?_⟩
    · by_cases e : p' = P
      · subst e; rw [up1_s, up1_s]
      · rw [up1_n (by omega), up1_n e]; exact this.2.2.1
    · by_cases e : p' = P
      · subst e; rw [up1_s, k2.2.2.2.2.1]; exact b6
      · rw [up1_n e]; exact this.2.2.2.2.2
  · rw [hZA 919 (by decide), fr2_A fr (F := 919) (by decide) (by decide), (hC p' hp').1, hZB 920 (by decide), fr2_B fr (F := 920) (by decide) (by decide) (by decide), hRA]
    refine ⟨?_, (hC p' hp').2⟩
    by_cases e : p' = P
    · subst e
      refine cnt_eq 48 (fun c hc => ?_)
      have g1 := (x1 c hc).2
      have g2 := ((hA.2 p' hp').2 c hc).2.2
      rw [fr2_B fr (F := 916) (by decide) (by decide) (by decide), ← g2] at g1
      have a1 : X.2.2.2.1 900 p' c / 17592186044416 % 16 < 16 := Nat.mod_lt _ (by decide)
      have a2 : ρ.2.2.1 900 p' c / 17592186044416 % 16 < 16 := Nat.mod_lt _ (by decide)
      exact ((nI_eq (by omega) (by omega)).mp g1).symm
    · rw [f.1 900 p' (fun z => e z.2)]
