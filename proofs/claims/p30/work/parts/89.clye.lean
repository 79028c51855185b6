/-! the class without tools: the same run -/
theorem nle_lt {a b : Int32} : ¬ a ≤ b ↔ b < a := ⟨fun h => by rw [Int32.lt_iff_toInt_lt]; rw [fa_le] at h; omega, fun h z => fa_lt_le h z⟩
theorem ct_K {σ : St} : EqK σ (k_ct σ) := by
  unfold k_ct
  split
  · exact ⟨fun F h => by rcases h with rfl | rfl | rfl | rfl | rfl <;> rfl, fun F _ _ => rfl, fun F h => by rcases h with rfl | rfl | rfl <;> rfl, fun F h => by rcases h with rfl | rfl <;> rfl⟩
  · exact ⟨fun F h => by rcases h with rfl | rfl | rfl | rfl | rfl <;> rfl, fun F _ _ => rfl, fun F h => by rcases h with rfl | rfl | rfl <;> rfl, fun F h => by rcases h with rfl | rfl <;> rfl⟩
theorem ats_ce {s : Sp} {σ : St} (h : AtS s σ) : ce σ = cel s := by
  unfold ce cel
  rw [h.1, h.2.1]
  omega
theorem rl_ab {B : Nat → Int32} {S : Nat → Nat} {P g : Nat} {c : Int32} {cl : Nat → Int32} : ∀ (T : List Sp) (F n : Nat) (σ : St) (h : Nat → Int32) (cu : Nat → Nat), TK B S T c σ → T.length < F → BT T → WL σ → WS σ → WK σ → (∀ i, i < 144 → σ.2.2.2 204 P i = cl i) → (∀ i, i < 144 → σ.2.2.2 600 0 i = h i) → (∀ k, k < 4 → σ.2.2.1 601 0 k = cu k) → σ.1 602 0 = n - g → σ.1 603 0 = cu 0 + cu 1 + cu 2 + cu 3 → (k_rl P g F n σ).2.1 604 0 = (ab cl g c T n h cu).1 ∧ (k_rl P g F n σ).1 602 0 = (ab cl g c T n h cu).2.1 - g ∧ (∀ k, k < 4 → (k_rl P g F n σ).2.2.1 601 0 k = (ab cl g c T n h cu).2.2.2 k) ∧ (k_rl P g F n σ).1 603 0 = (ab cl g c T n h cu).2.2.2 0 + (ab cl g c T n h cu).2.2.2 1 + (ab cl g c T n h cu).2.2.2 2 + (ab cl g c T n h cu).2.2.2 3
  | [], F, n, σ, h, cu, hT, hF, hb, a, b, d, h4, h0, h1, h2, h3 => by
    obtain ⟨F, rfl⟩ : ∃ k, F = k + 1 := ⟨F - 1, by have : ([] : List Sp).length = 0 := rfl; omega⟩
    obtain ⟨e1, e2⟩ := gs_tk hT
    obtain ⟨a1, b1, d1, f1⟩ := gs_inv 601 σ a b d
    rw [rl_e e1]
    refine ⟨?_, ?_, fun k hk => ?_, ?_⟩
    · rw [wI_sv]; exact e2
    · show (k_gs 601 σ).2.1 602 0 = n - g
      rw [(f1.1 602 0 (by omega) (by omega)).1, h2]
    · show (k_gs 601 σ).2.2.2.1 601 0 k = cu k
      rw [f1.2.1 601 0 (by decide) (by decide) (by omega), h1 k hk]
    · show (k_gs 601 σ).2.1 603 0 = cu 0 + cu 1 + cu 2 + cu 3
      rw [(f1.1 603 0 (by omega) (by omega)).1, h3]
  | s :: T, F, n, σ, h, cu, hT, hF, hb, a, b, d, h4, h0, h1, h2, h3 => by
    have hF : T.length + 1 < F := hF
    obtain ⟨F, rfl⟩ : ∃ k, F = k + 1 := ⟨F - 1, by omega⟩
    obtain ⟨e1, e2, e3⟩ := gs_tk hT
    obtain ⟨a1, b1, d1, f1⟩ := gs_inv 601 σ a b d
    have hn1 : ¬ (k_gs 601 σ).1 = 0 := by rw [e1]; decide
    have hs := cel_lt (bt_hd hb)
    have hb1 := bt_tl hb
    have g4 : (k_gs 601 σ).2.2.2.2 = σ.2.2.2 := f1.2.2
    have g2 : (k_gs 601 σ).2.1 602 0 = n - g := (f1.1 602 0 (by omega) (by omega)).1.trans h2
    have g3 : (k_gs 601 σ).2.1 603 0 = cu 0 + cu 1 + cu 2 + cu 3 := (f1.1 603 0 (by omega) (by omega)).1.trans h3
    have g1 : ∀ k, k < 4 → (k_gs 601 σ).2.2.2.1 601 0 k = cu k := fun k hk => by rw [f1.2.1 601 0 (by decide) (by decide) (by omega), h1 k hk]
    by_cases c1 : n < g
    · rw [rl_p hn1 c1, ab_p c1]
      exact rl_ab T F (n + 1) _ h cu e3 (by omega) hb1 a1 b1 d1 (by rw [g4]; exact h4) (by rw [g4]; exact h0) g1 (by rw [g2]; omega) g3
    have hce := ats_ce e2
    have v2 := e2.2.2.1
    have v7 := e2.2.2.2.1
    have v9 := e2.2.2.2.2
    have hcr : k_cr P (k_gs 601 σ).2 ↔ bad cl h s := by
      unfold bad
      show (¬ (k_gs 601 σ).2.2.2.2 204 P (ce (k_gs 601 σ).2) ≤ nI ((k_gs 601 σ).2.2.2.1 703 0 2) ∨ (¬ (k_gs 601 σ).2.2.2.2 600 0 (ce (k_gs 601 σ).2) ≤ nI ((k_gs 601 σ).2.2.2.1 703 0 2) ∧ ¬ (¬ (k_gs 601 σ).2.2.1 707 0 = 0 ∧ ¬ (k_gs 601 σ).2.2.1 709 0 = (-1)))) ↔ _
      rw [hce, v2, v7, v9, g4, h4 _ hs, h0 _ hs, nle_lt, nle_lt]
      constructor
      · rintro (z | ⟨z, y⟩)
        · exact Or.inl z
        · refine Or.inr ⟨z, ?_⟩
          by_cases q : s.2.1 = 0
          · exact Or.inl q
          · exact Or.inr (Classical.byContradiction (fun w => y ⟨q, w⟩))
      · rintro (z | ⟨z, y⟩)
        · exact Or.inl z
        · exact Or.inr ⟨z, fun w => y.elim w.1 w.2⟩
    by_cases c2 : bad cl h s
    · rw [rl_c hn1 c1 (hcr.mpr c2), ab_b c1 c2]
      exact ⟨wI_sv, g2, g1, g3⟩
    rw [rl_r hn1 c1 (fun z => c2 (hcr.mp z))]
    obtain ⟨a2, b2, d2⟩ := ct_inv a1 b1 d1
    have hT2 : TK B S T c (k_ct (k_gs 601 σ).2) := tk_eq e3 ct_K
    have x4 : (k_ct (k_gs 601 σ).2).2.2.2 204 P = σ.2.2.2 204 P := by rw [ft_ct.2.2 204 P (by decide), g4]
    by_cases c3 : nI (s.1 2) < h (cel s)
    · rw [ab_c c1 c2 c3]
      have hk4 : ix s.2.2 4 := by
        rcases d1.1 with z | z
        · exact absurd (Or.inr ⟨c3, Or.inr (v9.symm.trans z)⟩) c2
        · rw [← v9]; exact z
      have hkt := ix_lt hk4
      have hcc : ¬ (k_gs 601 σ).2.2.2.2 600 0 (ce (k_gs 601 σ).2) ≤ nI ((k_gs 601 σ).2.2.2.1 703 0 2) := by
        rw [hce, v2, g4, h0 _ hs, nle_lt]; exact c3
      have hX : k_ct (k_gs 601 σ).2 = wB (wA (wN (wN (k_gs 601 σ).2 602 0 ((k_gs 601 σ).2.1 602 0 + 1)) 603 0 ((k_gs 601 σ).2.1 603 0 + 1)) 601 0 (tn s.2.2) ((k_gs 601 σ).2.2.2.1 601 0 (tn s.2.2) + 1)) 600 0 (cel s) (nI (s.1 2)) := by
        refine (if_pos hcc).trans ?_
        rw [hce, v2, v9]
      rw [hX] at a2 b2 d2 hT2 x4 ⊢
      have y0 : (wB (wA (wN (wN (k_gs 601 σ).2 602 0 ((k_gs 601 σ).2.1 602 0 + 1)) 603 0 ((k_gs 601 σ).2.1 603 0 + 1)) 601 0 (tn s.2.2) ((k_gs 601 σ).2.2.2.1 601 0 (tn s.2.2) + 1)) 600 0 (cel s) (nI (s.1 2))).2.2.2 600 0 = up1 (σ.2.2.2 600 0) (cel s) (nI (s.1 2)) := by
        rw [wB_s]
        show up1 ((k_gs 601 σ).2.2.2.2 600 0) _ _ = _
        rw [g4]
      have y1 : (wB (wA (wN (wN (k_gs 601 σ).2 602 0 ((k_gs 601 σ).2.1 602 0 + 1)) 603 0 ((k_gs 601 σ).2.1 603 0 + 1)) 601 0 (tn s.2.2) ((k_gs 601 σ).2.2.2.1 601 0 (tn s.2.2) + 1)) 600 0 (cel s) (nI (s.1 2))).2.2.1 601 0 = up1 ((k_gs 601 σ).2.2.2.1 601 0) (tn s.2.2) ((k_gs 601 σ).2.2.2.1 601 0 (tn s.2.2) + 1) := by
        show up3 (k_gs 601 σ).2.2.2.1 601 0 (tn s.2.2) ((k_gs 601 σ).2.2.2.1 601 0 (tn s.2.2) + 1) 601 0 = _
        rw [up3_s]
      have y2 : (wB (wA (wN (wN (k_gs 601 σ).2 602 0 ((k_gs 601 σ).2.1 602 0 + 1)) 603 0 ((k_gs 601 σ).2.1 603 0 + 1)) 601 0 (tn s.2.2) ((k_gs 601 σ).2.2.2.1 601 0 (tn s.2.2) + 1)) 600 0 (cel s) (nI (s.1 2))).1 602 0 = n - g + 1 := by
        show up2 (up2 (k_gs 601 σ).2.1 602 0 ((k_gs 601 σ).2.1 602 0 + 1)) 603 0 ((k_gs 601 σ).2.1 603 0 + 1) 602 0 = _
        rw [up2_n (fun z => absurd z.1 (by decide)), up2_s, g2]
      have y3 : (wB (wA (wN (wN (k_gs 601 σ).2 602 0 ((k_gs 601 σ).2.1 602 0 + 1)) 603 0 ((k_gs 601 σ).2.1 603 0 + 1)) 601 0 (tn s.2.2) ((k_gs 601 σ).2.2.2.1 601 0 (tn s.2.2) + 1)) 600 0 (cel s) (nI (s.1 2))).1 603 0 = cu 0 + cu 1 + cu 2 + cu 3 + 1 := by
        show up2 (up2 (k_gs 601 σ).2.1 602 0 ((k_gs 601 σ).2.1 602 0 + 1)) 603 0 ((k_gs 601 σ).2.1 603 0 + 1) 603 0 = _
        rw [up2_s, g3]
      generalize wB (wA (wN (wN (k_gs 601 σ).2 602 0 ((k_gs 601 σ).2.1 602 0 + 1)) 603 0 ((k_gs 601 σ).2.1 603 0 + 1)) 601 0 (tn s.2.2) ((k_gs 601 σ).2.2.2.1 601 0 (tn s.2.2) + 1)) 600 0 (cel s) (nI (s.1 2)) = X at a2 b2 d2 hT2 x4 y0 y1 y2 y3 ⊢
      refine rl_ab T F (n + 1) X _ _ hT2 (by omega) hb1 a2 b2 d2 (by rw [x4]; exact h4) (fun i hi => ?_) (fun k hk => ?_) (by rw [y2]; omega) ?_
      · rw [y0]
        by_cases e : i = cel s
        · rw [e, up1_s, up1_s]
        · rw [up1_n e, up1_n e]
          exact h0 i hi
      · rw [y1]
        by_cases e : k = tn s.2.2
        · rw [e, up1_s, up1_s, g1 _ hkt]
        · rw [up1_n e, up1_n e]
          exact g1 k hk
      · rw [y3]
        generalize tn s.2.2 = z at hkt ⊢
        rcases (by omega : z = 0 ∨ z = 1 ∨ z = 2 ∨ z = 3) with rfl | rfl | rfl | rfl <;> simp [up1] <;> omega
    · rw [ab_g c1 c2 c3]
      have hcc : ¬ ¬ (k_gs 601 σ).2.2.2.2 600 0 (ce (k_gs 601 σ).2) ≤ nI ((k_gs 601 σ).2.2.2.1 703 0 2) := by
        rw [hce, v2, g4, h0 _ hs, nle_lt]; exact c3
      have hX : k_ct (k_gs 601 σ).2 = wN (k_gs 601 σ).2 602 0 ((k_gs 601 σ).2.1 602 0 + 1) := if_neg hcc
      rw [hX] at a2 b2 d2 hT2 x4 ⊢
      refine rl_ab T F (n + 1) _ h cu hT2 (by omega) hb1 a2 b2 d2 (by rw [x4]; exact h4) ?_ g1 ?_ g3
      · show ∀ i, i < 144 → (k_gs 601 σ).2.2.2.2 600 0 i = h i
        rw [g4]
        exact h0
      · rw [wN_sv, g2]
        omega
/-- the same of two counts that agree at the four kinds -/
theorem ab_cu4 {fr : Nat} {c : Int32} {cl : Nat → Int32} : ∀ (T : List Sp) (n : Nat) (h : Nat → Int32) (cu cu' : Nat → Nat), (∀ k, k < 4 → cu k = cu' k) → (ab cl fr c T n h cu).1 = (ab cl fr c T n h cu').1 ∧ (ab cl fr c T n h cu).2.1 = (ab cl fr c T n h cu').2.1 ∧ (ab cl fr c T n h cu).2.2.1 = (ab cl fr c T n h cu').2.2.1 ∧ ∀ k, k < 4 → (ab cl fr c T n h cu).2.2.2 k = (ab cl fr c T n h cu').2.2.2 k
  | [], _, _, _, _, hk => ⟨rfl, rfl, rfl, hk⟩
  | s :: T, n, h, cu, cu', hk => by
    by_cases c1 : n < fr
    · rw [ab_p c1, ab_p c1]
      exact ab_cu4 T (n + 1) h cu cu' hk
    · by_cases c2 : bad cl h s
      · rw [ab_b c1 c2, ab_b c1 c2]
        exact ⟨rfl, rfl, rfl, hk⟩
      · by_cases c3 : nI (s.1 2) < h (cel s)
        · rw [ab_c c1 c2 c3, ab_c c1 c2 c3]
          refine ab_cu4 T (n + 1) _ _ _ (fun k h4 => ?_)
          by_cases e : k = tn s.2.2
          · rw [e, up1_s, up1_s, hk _ (by omega)]
          · rw [up1_n e, up1_n e]
            exact hk k h4
        · rw [ab_g c1 c2 c3, ab_g c1 c2 c3]
          exact ab_cu4 T (n + 1) h cu cu' hk
theorem m_cp_V (p : Nat) (σ : St) : ∀ (n i : Nat), i < n → (m_cp p n σ).2.2.2 935 0 i = σ.2.2.2 915 0 (144 * p + i)
  | 0, _, h => absurd h (Nat.not_lt_zero _)
  | n + 1, i, h => by
    show (wB (m_cp p n σ) 935 0 n (σ.2.2.2 915 0 (144 * p + n))).2.2.2 935 0 i = _
    rw [wB_s]
    by_cases e : i = n
    · rw [e, up1_s]
    · rw [up1_n e]
      exact m_cp_V p σ n i (by omega)
theorem ini0_943 {pr : Nat} {X : St} : (m_ini0 pr X).1 943 0 = 0 := by
  show up2 X.1 943 0 0 943 0 = 0
  exact up2_s
theorem ini0_936 {pr : Nat} {X : St} {k : Nat} (hk : k < 4) : (m_ini0 pr X).2.2.1 936 0 k = 0 := by
  rcases (by omega : k = 0 ∨ k = 1 ∨ k = 2 ∨ k = 3) with rfl | rfl | rfl | rfl <;> rfl
theorem ini_943 (P pr : Nat) (τ : St) : (m_ini P pr τ).1 943 0 = 0 := ini0_943 (pr := pr) (X := m_cp P 144 τ)
/-- the reference's run, as a fold -/
theorem runs0_ab {P pr fr : Nat} {τ : St} {cl h : Nat → Int32} (hc : ∀ i, i < 144 → τ.2.2.2 916 0 (144 * P + i) = cl i) (hh : ∀ i, i < 144 → τ.2.2.2 915 0 (144 * P + i) = h i) : (m_runs0 P pr fr τ).1 = (ab cl fr (TR (τ.2.2.2 902 0) (τ.2.2.1 903 0) pr).2 (TR (τ.2.2.2 902 0) (τ.2.2.1 903 0) pr).1 0 h (fun _ => 0)).1 ∧ (m_runs0 P pr fr τ).2.1 943 0 = (ab cl fr (TR (τ.2.2.2 902 0) (τ.2.2.1 903 0) pr).2 (TR (τ.2.2.2 902 0) (τ.2.2.1 903 0) pr).1 0 h (fun _ => 0)).2.1 ∧ ∀ k, k < 4 → (m_runs0 P pr fr τ).2.2.2.1 936 0 k = (ab cl fr (TR (τ.2.2.2 902 0) (τ.2.2.1 903 0) pr).2 (TR (τ.2.2.2 902 0) (τ.2.2.1 903 0) pr).1 0 h (fun _ => 0)).2.2.2 k := by
  obtain ⟨e1, e2⟩ := runs_fd (stG_0 P fr) (pl := P) (pr := pr) (τ := τ)
  rw [← rl0_G] at e1 e2
  have hb := (TR_bd (B := τ.2.2.2 902 0) (S := τ.2.2.1 903 0) (pr := pr)).1
  generalize TR (τ.2.2.2 902 0) (τ.2.2.1 903 0) pr = R at e1 e2 hb ⊢
  have i3 : (m_ini P pr τ).1 943 0 = 0 := ini_943 P pr τ
  have i5 : ∀ i, i < 144 → (m_ini P pr τ).2.2.2 935 0 i = h i := fun i hi => by
    unfold m_ini
    rw [ini0_B, m_cp_V P τ 144 i hi]
    exact hh i hi
  have i6 : (m_ini P pr τ).2.2.2 916 0 = τ.2.2.2 916 0 := by
    unfold m_ini
    rw [ini0_B, m_cp_F P 916 τ (by decide)]
  have i4 : ∀ k, k < 4 → (m_ini P pr τ).2.2.1 936 0 k = 0 := fun k hk => ini0_936 (pr := pr) (X := m_cp P 144 τ) hk
  obtain ⟨q1, q2, q3, q4⟩ := fd0_ab (P := P) (fr := fr) (c := R.2) (cl := cl) R.1 (m_ini P pr τ) (fun i hi => by rw [i6]; exact hc i hi) hb
  rw [i3] at q1 q2 q3 q4
  obtain ⟨r1, r2, r3, r4⟩ := ab_cu4 (fr := fr) (c := R.2) (cl := cl) R.1 0 ((m_ini P pr τ).2.2.2 935 0) ((m_ini P pr τ).2.2.1 936 0) (fun _ => 0) i4
  obtain ⟨t1, t2, t3, t4⟩ := ab_cong (fr := fr) (c := R.2) (cl := cl) (cl' := cl) (fun _ _ => rfl) R.1 0 ((m_ini P pr τ).2.2.2 935 0) h (fun _ => 0) hb i5
  unfold m_runs0
  refine ⟨e1.trans (q1.trans (r1.trans t1)), ?_, fun k hk => ?_⟩
  · rw [e2.1]
    exact q2.trans (r2.trans t2)
  · rw [e2.2.2.1 936 (by decide) (by decide) (by decide), q4, r4 k hk, t4]
