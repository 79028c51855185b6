/-! feature, allow -/
theorem p_feature {wr : WrT} {σ τ : St} (h : Rl wr σ τ) (v1 v2 v3 v4 v5 : Int32) : ((k_feature v1 v2 v3 v4 v5 σ).1 = 0 ∨ (k_feature v1 v2 v3 v4 v5 σ).1 = 1 ∨ (k_feature v1 v2 v3 v4 v5 σ).1 = 2 ∨ (k_feature v1 v2 v3 v4 v5 σ).1 = 3) ∧ (m_feature v1 v2 v3 v4 v5 τ).2.2.1 944 0 = nI (wk [1, 2, 3] (k_feature v1 v2 v3 v4 v5 σ).1) ∧ ((k_feature v1 v2 v3 v4 v5 σ).1 = 0 → (m_feature v1 v2 v3 v4 v5 τ).1 = (k_feature v1 v2 v3 v4 v5 σ).2.1) ∧ Rl wr (k_feature v1 v2 v3 v4 v5 σ).2.2 (m_feature v1 v2 v3 v4 v5 τ).2 := by
  unfold k_feature m_feature m_g
  have e0 : σ.1 1002 4 = τ.1 932 0 := h.2.2.2.2.2.2.1.2.2.2.1
  by_cases c1 : ix v1 (σ.1 1002 4)
  · have hi := ix_tn c1
    have hid : σ.2.2.1 1001 4 (tn v1) = tn v1 := h.2.2.1 4 (by decide) (by decide) (by decide) _ hi
    have hd4 : σ.1 1002 4 ≤ 4 := h.2.2.2.1.2.2.2.2.1
    obtain ⟨b1, b2⟩ := h.2.2.2.2.2.2.2.2.2.2.2.2.2.2.1.1 (tn v1) hi
    rw [hid, if_pos c1]
    have c1' := c1
    rw [e0] at c1'
    by_cases c2 : ix v2 12 ∧ ix v3 12
    · rw [if_pos c2]
      have x1 := ix_tn c2.1
      have x2 := ix_tn c2.2
      have P1 : ix v1 (τ.1 932 0) ∧ (ix v2 12 ∧ ix v3 12) := ⟨c1', c2⟩
      by_cases c3 : 0 ≤ v4.toInt ∧ v4.toInt ≤ 9
      · rw [if_neg (show ¬ ¬ (0 ≤ v4.toInt ∧ v4.toInt ≤ 9) from fun z => z c3)]
        have hv4 : tn v4 ≤ 9 := by show v4.toInt.toNat ≤ 9; omega
        by_cases c4 : 1 ≤ v5.toInt ∧ v5.toInt ≤ 99
        · rw [if_pos c4, ← b1]
          have hv5 : tn v5 ≤ 99 := by show v5.toInt.toNat ≤ 99; omega
          by_cases c5 : σ.1 5 (tn v1) < 6
          · have P3 : (ix v1 (τ.1 932 0) ∧ (ix v2 12 ∧ ix v3 12)) ∧ σ.1 5 (tn v1) < 6 := ⟨P1, c5⟩
            rw [if_pos c5, if_pos (show (ix v1 (τ.1 932 0) ∧ (ix v2 12 ∧ ix v3 12)) ∧ ((0 ≤ v4.toInt ∧ v4.toInt ≤ 9) ∧ (1 ≤ v5.toInt ∧ v5.toInt ≤ 99)) ∧ ((ix v1 (τ.1 932 0) ∧ (ix v2 12 ∧ ix v3 12)) ∧ σ.1 5 (tn v1) < 6) from ⟨P1, ⟨c3, c4⟩, P3⟩), gc_0 P1 ⟨c3, c4⟩ P3]
            generalize hk : tn v1 = d at *
            generalize hn : σ.1 5 d = n at *
            generalize hx : tn v2 = x at *
            generalize hy : tn v3 = y at *
            generalize hz4 : tn v4 = hh at *
            generalize ht : tn v5 = tt at *
            obtain ⟨a1, a2, a3, a4, ⟨r1, r2, r3, r4, r5, r6⟩, ⟨s1, s2, s3, s4, s5, s6, s7, s8, s9, s10⟩, a7, a8, a9, a10, a11, a12, a13, a14, a15, a16, a17⟩ := h
            obtain ⟨RR, hRR⟩ : ∃ RR : Nat → Nat, RR = up1 (up1 (up1 (up1 (τ.2.2.1 930 0) (6 * (6 * d + n)) x) (6 * (6 * d + n) + 1) y) (6 * (6 * d + n) + 2) hh) (6 * (6 * d + n) + 3) tt := ⟨_, rfl⟩
            have hrow : (wA (wA (wA (wA (wA (wI τ 944 0 (nI 0)) 930 0 (6 * (6 * d + n)) x) 930 0 (6 * (6 * d + n) + 1) y) 930 0 (6 * (6 * d + n) + 2) hh) 930 0 (6 * (6 * d + n) + 3) tt) 931 0 d (n + 1)).2.2.1 930 0 = RR := by
              show up3 (up3 (up3 (up3 (up3 τ.2.2.1 930 0 (6 * (6 * d + n)) x) 930 0 (6 * (6 * d + n) + 1) y) 930 0 (6 * (6 * d + n) + 2) hh) 930 0 (6 * (6 * d + n) + 3) tt) 931 0 d (n + 1) 930 0 = RR
              rw [up3_n (fun z => absurd z.1 (by decide)), up3_s, up3_s, up3_s, up3_s, hRR]
            have q0 : RR (6 * (6 * d + n)) = x := by rw [hRR, up1_n (by omega), up1_n (by omega), up1_n (by omega), up1_s]
            have q1 : RR (6 * (6 * d + n) + 1) = y := by rw [hRR, up1_n (by omega), up1_n (by omega), up1_s]
            have q2 : RR (6 * (6 * d + n) + 2) = hh := by rw [hRR, up1_n (by omega), up1_s]
            have q3 : RR (6 * (6 * d + n) + 3) = tt := by rw [hRR, up1_s]
            have qo : ∀ i, ¬ i = 6 * (6 * d + n) → ¬ i = 6 * (6 * d + n) + 1 → ¬ i = 6 * (6 * d + n) + 2 → ¬ i = 6 * (6 * d + n) + 3 → RR i = τ.2.2.1 930 0 i := fun i h0 h1 h2 h3 => by rw [hRR, up1_n h3, up1_n h2, up1_n h1, up1_n h0]
            refine ⟨Or.inl rfl, t944 (τ := τ), fun _ => rfl, a1, a2, a3, a4, ⟨fun k => ?_, r2, r3, r4, fun k i => ?_, r6⟩, ⟨s1, s2, s3, fun k => ?_, s5, s6, s7, fun i => ?_, fun i hi6 => ?_, s10⟩, a7, a8, a9, a10, a11, a12, a13, a14, ⟨fun k hk6 => ?_, fun k hk6 => ?_⟩, a16, a17⟩
            · show up2 σ.1 5 d (n + 1) 5 k ≤ 6
              by_cases e : k = d
              · subst e; rw [up2_s]; omega
              · rw [up2_n (fun z => e z.2)]; exact r1 k
            · show up3 (up3 (up3 σ.2.2.1 0 d n (y * 12 + x)) 1 d n hh) 2 d n tt 0 k i < 144
              rw [up3_n (F := 2) (F' := 0) (fun z => absurd z.1 (by decide)), up3_n (F := 1) (F' := 0) (fun z => absurd z.1 (by decide))]
              by_cases e : k = d
              · subst e
                rw [up3_s]
                by_cases e2 : i = n
                · subst e2; rw [up1_s]; omega
                · rw [up1_n e2]; exact r5 k i
              · rw [up3_n (fun z => e z.2)]; exact r5 k i
            · show up3 _ 931 0 d (n + 1) 931 0 k ≤ 6
              rw [up3_s]
              by_cases e : k = d
              · subst e; rw [up1_s]; omega
              · rw [up1_n e]; exact s4 k
            · rw [hrow]
              by_cases e0 : i = 6 * (6 * d + n)
              · rw [e0, q0]; omega
              · by_cases e1 : i = 6 * (6 * d + n) + 1
                · rw [e1, q1]; omega
                · by_cases e2 : i = 6 * (6 * d + n) + 2
                  · rw [e2, q2]; omega
                  · by_cases e3 : i = 6 * (6 * d + n) + 3
                    · rw [e3, q3]; omega
                    · rw [qo i e0 e1 e2 e3]; exact s8 i
            · rw [hrow]
              by_cases e0 : i = 6 * d + n
              · rw [e0, q0, q1]; exact ⟨x1, x2⟩
              · rw [qo (6 * i) (by omega) (by omega) (by omega) (by omega), qo (6 * i + 1) (by omega) (by omega) (by omega) (by omega)]
                exact s9 i hi6
            · have hk6 : k < σ.1 1002 4 := hk6
              rw [hrow]
              obtain ⟨d1, d2⟩ := a15.1 k hk6
              have g5 : ∀ F : Nat, F ≠ 5 → True := fun _ _ => trivial
              refine ⟨?_, fun i hi6 => ?_⟩
              · show up2 σ.1 5 d (n + 1) 5 k = up3 _ 931 0 d (n + 1) 931 0 k
                rw [up3_s]
                by_cases e : k = d
                · subst e; rw [up2_s, up1_s]
                · rw [up2_n (fun z => e z.2), up1_n e]; exact d1
              · obtain ⟨f1, f2, f3⟩ := d2 i hi6
                show (i < up2 σ.1 5 d (n + 1) 5 k → up3 (up3 (up3 σ.2.2.1 0 d n (y * 12 + x)) 1 d n hh) 2 d n tt 0 k i = 12 * RR (6 * (6 * k + i) + 1) + RR (6 * (6 * k + i)) ∧ up3 (up3 (up3 σ.2.2.1 0 d n (y * 12 + x)) 1 d n hh) 2 d n tt 1 k i = RR (6 * (6 * k + i) + 2) ∧ up3 (up3 (up3 σ.2.2.1 0 d n (y * 12 + x)) 1 d n hh) 2 d n tt 2 k i = RR (6 * (6 * k + i) + 3)) ∧ σ.2.2.1 3 k i = RR (6 * (6 * k + i) + 4) ∧ σ.2.2.1 4 k i = RR (6 * (6 * k + i) + 5)
                rw [up3_n (F := 2) (F' := 0) (fun z => absurd z.1 (by decide)), up3_n (F := 1) (F' := 0) (fun z => absurd z.1 (by decide)), up3_n (F := 2) (F' := 1) (fun z => absurd z.1 (by decide))]
                rw [qo (6 * (6 * k + i) + 4) (by omega) (by omega) (by omega) (by omega), qo (6 * (6 * k + i) + 5) (by omega) (by omega) (by omega) (by omega)]
                refine ⟨fun hlt => ?_, f2, f3⟩
                by_cases e : k = d
                · subst e
                  rw [up2_s] at hlt
                  rw [up3_s, up3_s, up3_s]
                  by_cases e2 : i = n
                  · subst e2
                    rw [up1_s, up1_s, up1_s, q0, q1, q2, q3]
                    exact ⟨by omega, rfl, rfl⟩
                  · rw [up1_n e2, up1_n e2, up1_n e2, qo (6 * (6 * k + i) + 1) (by omega) (by omega) (by omega) (by omega), qo (6 * (6 * k + i)) (by omega) (by omega) (by omega) (by omega), qo (6 * (6 * k + i) + 2) (by omega) (by omega) (by omega) (by omega), qo (6 * (6 * k + i) + 3) (by omega) (by omega) (by omega) (by omega), up3_n (fun z => absurd z.1 (by decide)), up3_n (fun z => absurd z.1 (by decide)), up3_n (fun z => absurd z.1 (by decide))]
                    exact f1 (by omega)
                · rw [up2_n (fun z => e z.2)] at hlt
                  repeat rw [up3_n (fun z => e z.2)]
                  rw [qo (6 * (6 * k + i) + 1) (by omega) (by omega) (by omega) (by omega), qo (6 * (6 * k + i)) (by omega) (by omega) (by omega) (by omega), qo (6 * (6 * k + i) + 2) (by omega) (by omega) (by omega) (by omega), qo (6 * (6 * k + i) + 3) (by omega) (by omega) (by omega) (by omega)]
                  exact f1 hlt
            · have hk6 : σ.1 1002 4 ≤ k := hk6
              rw [hrow]
              obtain ⟨d1, d2⟩ := a15.2 k hk6
              refine ⟨?_, fun i hi6 => ?_⟩
              · show up3 _ 931 0 d (n + 1) 931 0 k = 0
                rw [up3_s, up1_n (by omega)]; exact d1
              · rw [qo (6 * (6 * k + i) + 4) (by omega) (by omega) (by omega) (by omega), qo (6 * (6 * k + i) + 5) (by omega) (by omega) (by omega) (by omega)]
                exact d2 i hi6
          · rw [if_neg c5, if_neg (show ¬ ((ix v1 (τ.1 932 0) ∧ (ix v2 12 ∧ ix v3 12)) ∧ ((0 ≤ v4.toInt ∧ v4.toInt ≤ 9) ∧ (1 ≤ v5.toInt ∧ v5.toInt ≤ 99)) ∧ ((ix v1 (τ.1 932 0) ∧ (ix v2 12 ∧ ix v3 12)) ∧ σ.1 5 (tn v1) < 6)) from fun z => c5 z.2.2.2), gc_3 P1 ⟨c3, c4⟩ (fun z => c5 z.2)]
            exact ⟨Or.inr (Or.inr (Or.inr rfl)), ag_n h (show ¬ (3 : Nat) = 0 by decide) rfl⟩
        · rw [if_neg c4, if_neg (show ¬ ((ix v1 (τ.1 932 0) ∧ (ix v2 12 ∧ ix v3 12)) ∧ ((0 ≤ v4.toInt ∧ v4.toInt ≤ 9) ∧ (1 ≤ v5.toInt ∧ v5.toInt ≤ 99)) ∧ ((ix v1 (τ.1 932 0) ∧ (ix v2 12 ∧ ix v3 12)) ∧ τ.2.2.1 931 0 (tn v1) < 6)) from fun z => c4 z.2.1.2), gc_2 P1 (fun z => c4 z.2)]
          exact ⟨Or.inr (Or.inr (Or.inl rfl)), ag_n h (show ¬ (2 : Nat) = 0 by decide) rfl⟩
      · rw [if_pos (show ¬ (0 ≤ v4.toInt ∧ v4.toInt ≤ 9) from c3), if_neg (show ¬ ((ix v1 (τ.1 932 0) ∧ (ix v2 12 ∧ ix v3 12)) ∧ ((0 ≤ v4.toInt ∧ v4.toInt ≤ 9) ∧ (1 ≤ v5.toInt ∧ v5.toInt ≤ 99)) ∧ ((ix v1 (τ.1 932 0) ∧ (ix v2 12 ∧ ix v3 12)) ∧ τ.2.2.1 931 0 (tn v1) < 6)) from fun z => c3 z.2.1.1), gc_2 P1 (fun z => c3 z.1)]
        exact ⟨Or.inr (Or.inr (Or.inl rfl)), ag_n h (show ¬ (2 : Nat) = 0 by decide) rfl⟩
    · rw [if_neg c2, if_neg (show ¬ ((ix v1 (τ.1 932 0) ∧ (ix v2 12 ∧ ix v3 12)) ∧ ((0 ≤ v4.toInt ∧ v4.toInt ≤ 9) ∧ (1 ≤ v5.toInt ∧ v5.toInt ≤ 99)) ∧ ((ix v1 (τ.1 932 0) ∧ (ix v2 12 ∧ ix v3 12)) ∧ τ.2.2.1 931 0 (tn v1) < 6)) from fun z => c2 z.1.2), gc_1 (fun z => c2 z.2)]
      exact ⟨Or.inr (Or.inl rfl), ag_n h (show ¬ (1 : Nat) = 0 by decide) rfl⟩
  · rw [if_neg c1]
    rw [e0] at c1
    rw [if_neg (show ¬ ((ix v1 (τ.1 932 0) ∧ (ix v2 12 ∧ ix v3 12)) ∧ ((0 ≤ v4.toInt ∧ v4.toInt ≤ 9) ∧ (1 ≤ v5.toInt ∧ v5.toInt ≤ 99)) ∧ ((ix v1 (τ.1 932 0) ∧ (ix v2 12 ∧ ix v3 12)) ∧ τ.2.2.1 931 0 (tn v1) < 6)) from fun z => c1 z.1.1), gc_1 (fun z => c1 z.1)]
    exact ⟨Or.inr (Or.inl rfl), ag_n h (show ¬ (1 : Nat) = 0 by decide) rfl⟩
