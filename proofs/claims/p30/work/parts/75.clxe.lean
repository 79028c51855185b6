/-! clamp -/
theorem slc_ne {f : Nat → Int32} {p k c : Nat} {v : Int32} (h : ¬ p = k) (hc : c < 144) : slc (up1 f (144 * k + c) v) p = slc f p := funext fun d => by
  have := Nat.mod_lt d (show 0 < 144 by decide)
  exact up1_n (by omega)
theorem p_clamp {wr : WrT} {σ τ : St} (h : Rl wr σ τ) (v1 v2 v3 v4 : Int32) : ((k_clamp v1 v2 v3 v4 σ).1 = 0 ∨ (k_clamp v1 v2 v3 v4 σ).1 = 1 ∨ (k_clamp v1 v2 v3 v4 σ).1 = 2 ∨ (k_clamp v1 v2 v3 v4 σ).1 = 3) ∧ (m_clamp v1 v2 v3 v4 τ).2.2.1 944 0 = nI (wk [1, 2, 3] (k_clamp v1 v2 v3 v4 σ).1) ∧ ((k_clamp v1 v2 v3 v4 σ).1 = 0 → (m_clamp v1 v2 v3 v4 τ).1 = (k_clamp v1 v2 v3 v4 σ).2.1) ∧ Rl wr (k_clamp v1 v2 v3 v4 σ).2.2 (m_clamp v1 v2 v3 v4 τ).2 := by
  unfold k_clamp m_clamp m_g
  have e0 : σ.1 1002 1 = τ.1 924 0 := h.2.2.2.2.2.2.1.2.1
  by_cases c1 : ix v1 (σ.1 1002 1)
  · have hi := ix_tn c1
    have hid : σ.2.2.1 1001 1 (tn v1) = tn v1 := h.2.2.1 1 (by decide) (by decide) (by decide) _ hi
    obtain ⟨b1, b2, b3, b4, b5⟩ := h.2.2.2.2.2.2.2.2.2.2.2.1.1 (tn v1) hi
    rw [hid, if_pos c1]
    have c1' := c1
    rw [e0] at c1'
    by_cases c2 : ix v2 12 ∧ ix v3 12
    · rw [if_pos c2]
      have x1 := ix_tn c2.1
      have x2 := ix_tn c2.2
      have bc := (b5 (tn v3 * 12 + tn v2) (by omega)).2.1
      have ec : (if ¬ (ix v1 (τ.1 924 0) ∧ (ix v2 12 ∧ ix v3 12)) then 0 else 144 * tn v1 + 12 * tn v3 + tn v2) = 144 * tn v1 + (tn v3 * 12 + tn v2) := by
        rw [if_neg (fun z => z ⟨c1', c2⟩)]
        omega
      rw [ec, ← bc, ← b2, ← b1]
      have P1 : ix v1 (τ.1 924 0) ∧ (ix v2 12 ∧ ix v3 12) := ⟨c1', c2⟩
      generalize hcell : tn v3 * 12 + tn v2 = cell at *
      have hc : cell < 144 := by omega
      by_cases c3 : 1 ≤ v4.toInt ∧ v4.toInt ≤ 9
      · rw [if_pos c3]
        by_cases c4 : σ.2.1 206 (tn v1) = 0
        · rw [if_neg (show ¬ ¬ σ.2.1 206 (tn v1) = 0 from fun z => z c4)]
          by_cases c5 : σ.2.2.2 204 (tn v1) cell = 0
          · rw [if_neg (show ¬ ¬ σ.2.2.2 204 (tn v1) cell = 0 from fun z => z c5)]
            by_cases c6 : σ.1 205 (tn v1) < 3
            · have P3 : (ix v1 (τ.1 924 0) ∧ (ix v2 12 ∧ ix v3 12)) ∧ σ.2.1 206 (tn v1) = 0 ∧ σ.2.2.2 204 (tn v1) cell = 0 ∧ σ.1 205 (tn v1) < 3 := ⟨P1, c4, c5, c6⟩
              rw [if_pos c6, if_pos (show (ix v1 (τ.1 924 0) ∧ (ix v2 12 ∧ ix v3 12)) ∧ (1 ≤ v4.toInt ∧ v4.toInt ≤ 9) ∧ ((ix v1 (τ.1 924 0) ∧ (ix v2 12 ∧ ix v3 12)) ∧ σ.2.1 206 (tn v1) = 0 ∧ σ.2.2.2 204 (tn v1) cell = 0 ∧ σ.1 205 (tn v1) < 3) from ⟨P1, c3, P3⟩), gc_0 P1 c3 P3]
              generalize hk : tn v1 = k at *
              generalize hn : σ.1 205 k = n at *
              obtain ⟨a1, a2, a3, a4, ⟨r1, r2, r3, r4, r5, r6⟩, ⟨s1, s2, s3, s4, s5, s6, s7, s8, s9, s10⟩, a7, a8, a9, a10, a11, a12, a13, a14, a15, a16, a17⟩ := h
              refine ⟨Or.inl rfl, t944 (τ := τ), fun _ => rfl, a1, a2, a3, a4, ⟨r1, fun q => ?_, r3, r4, r5, r6⟩, ⟨s1, s2, fun q => ?_, s4, s5, s6, s7, s8, s9, s10⟩, a7, a8, a9, a10, a11, ⟨fun q hq => ?_, fun q hq => ?_⟩, a13, a14, a15, a16, fun j hj => ?_⟩
              · show up2 σ.1 205 k (n + 1) 205 q ≤ 3
                by_cases e : q = k
                · subst e; rw [up2_s]; omega
                · rw [up2_n (fun z => e z.2)]; exact r2 q
              · show up3 τ.2.2.1 919 0 k (n + 1) 919 0 q ≤ 3
                rw [up3_s]
                by_cases e : q = k
                · subst e; rw [up1_s]; omega
                · rw [up1_n e]; exact s3 q
              · obtain ⟨d1, d2, d3, d4, d5⟩ := a12.1 q hq
                refine ⟨?_, d2, d3, d4, fun c hc9 => ?_⟩
                · show up2 σ.1 205 k (n + 1) 205 q = up3 τ.2.2.1 919 0 k (n + 1) 919 0 q
                  rw [up3_s]
                  by_cases e : q = k
                  · subst e; rw [up2_s, up1_s]
                  · rw [up2_n (fun z => e z.2), up1_n e]; exact d1
                · obtain ⟨f1, f2, f3, f4, f5⟩ := d5 c hc9
                  refine ⟨f1, ?_, f3, f4, f5⟩
                  show up3 σ.2.2.2 204 k cell v4 204 q c = up3 τ.2.2.2 916 0 (144 * k + cell) v4 916 0 (144 * q + c)
                  rw [up3_s]
                  by_cases e : q = k
                  · subst e
                    rw [up3_s]
                    by_cases e2 : c = cell
                    · subst e2; rw [up1_s, up1_s]
                    · rw [up1_n e2, up1_n (by omega)]; exact f2
                  · rw [up3_n (fun z => e z.2), up1_n (by omega)]; exact f2
              · have hq : σ.1 1002 1 ≤ q := hq
                obtain ⟨d1, d2, d3, d4⟩ := a12.2 q hq
                refine ⟨?_, d2, d3, fun c hc9 => ?_⟩
                · show up3 τ.2.2.1 919 0 k (n + 1) 919 0 q = 0
                  rw [up3_s, up1_n (by omega)]; exact d1
                · show up3 τ.2.2.2 916 0 (144 * k + cell) v4 916 0 (144 * q + c) = 0
                  rw [up3_s, up1_n (by omega)]; exact d4 c hc9
              · have hj : j < τ.1 926 0 := hj
                have hne : ¬ τ.2.2.1 925 0 j = k := fun z => by
                  have g1 := (a13.1 j (by rw [a7.2.2.1]; exact hj)).2.2.1
                  rw [z, ← b2, c4] at g1
                  exact absurd g1 (by decide)
                have h17 := a17 j hj
                show wr (τ.2.2.2 902 0) (τ.2.2.1 903 0) (slc (τ.2.2.2 915 0) (τ.2.2.1 925 0 j)) (slc (up3 τ.2.2.2 916 0 (144 * k + cell) v4 916 0) (τ.2.2.1 925 0 j)) (τ.2.2.1 921 0 (τ.2.2.1 925 0 j)) (τ.2.2.1 922 0 (τ.2.2.1 925 0 j))
                rw [up3_s, slc_ne hne hc]
                exact h17
            · rw [if_neg c6, if_neg (show ¬ ((ix v1 (τ.1 924 0) ∧ (ix v2 12 ∧ ix v3 12)) ∧ (1 ≤ v4.toInt ∧ v4.toInt ≤ 9) ∧ ((ix v1 (τ.1 924 0) ∧ (ix v2 12 ∧ ix v3 12)) ∧ σ.2.1 206 (tn v1) = 0 ∧ σ.2.2.2 204 (tn v1) cell = 0 ∧ σ.1 205 (tn v1) < 3)) from fun z => c6 z.2.2.2.2.2), gc_3 P1 c3 (fun z => c6 z.2.2.2)]
              exact ⟨Or.inr (Or.inr (Or.inr rfl)), ag_n h (show ¬ (3 : Nat) = 0 by decide) rfl⟩
          · rw [if_pos (show ¬ σ.2.2.2 204 (tn v1) cell = 0 from c5), if_neg (show ¬ ((ix v1 (τ.1 924 0) ∧ (ix v2 12 ∧ ix v3 12)) ∧ (1 ≤ v4.toInt ∧ v4.toInt ≤ 9) ∧ ((ix v1 (τ.1 924 0) ∧ (ix v2 12 ∧ ix v3 12)) ∧ σ.2.1 206 (tn v1) = 0 ∧ σ.2.2.2 204 (tn v1) cell = 0 ∧ σ.1 205 (tn v1) < 3)) from fun z => c5 z.2.2.2.2.1), gc_3 P1 c3 (fun z => c5 z.2.2.1)]
            exact ⟨Or.inr (Or.inr (Or.inr rfl)), ag_n h (show ¬ (3 : Nat) = 0 by decide) rfl⟩
        · rw [if_pos (show ¬ σ.2.1 206 (tn v1) = 0 from c4), if_neg (show ¬ ((ix v1 (τ.1 924 0) ∧ (ix v2 12 ∧ ix v3 12)) ∧ (1 ≤ v4.toInt ∧ v4.toInt ≤ 9) ∧ ((ix v1 (τ.1 924 0) ∧ (ix v2 12 ∧ ix v3 12)) ∧ σ.2.1 206 (tn v1) = 0 ∧ σ.2.2.2 204 (tn v1) cell = 0 ∧ σ.1 205 (tn v1) < 3)) from fun z => c4 z.2.2.2.1), gc_3 P1 c3 (fun z => c4 z.2.1)]
          exact ⟨Or.inr (Or.inr (Or.inr rfl)), ag_n h (show ¬ (3 : Nat) = 0 by decide) rfl⟩
      · rw [if_neg c3, if_neg (show ¬ ((ix v1 (τ.1 924 0) ∧ (ix v2 12 ∧ ix v3 12)) ∧ (1 ≤ v4.toInt ∧ v4.toInt ≤ 9) ∧ ((ix v1 (τ.1 924 0) ∧ (ix v2 12 ∧ ix v3 12)) ∧ σ.2.1 206 (tn v1) = 0 ∧ σ.2.2.2 204 (tn v1) cell = 0 ∧ σ.1 205 (tn v1) < 3)) from fun z => c3 z.2.1), gc_2 P1 c3]
        exact ⟨Or.inr (Or.inr (Or.inl rfl)), ag_n h (show ¬ (2 : Nat) = 0 by decide) rfl⟩
    · rw [if_neg c2]
      generalize (if ¬ (ix v1 (τ.1 924 0) ∧ (ix v2 12 ∧ ix v3 12)) then 0 else 144 * tn v1 + 12 * tn v3 + tn v2) = d
      rw [if_neg (show ¬ ((ix v1 (τ.1 924 0) ∧ (ix v2 12 ∧ ix v3 12)) ∧ (1 ≤ v4.toInt ∧ v4.toInt ≤ 9) ∧ ((ix v1 (τ.1 924 0) ∧ (ix v2 12 ∧ ix v3 12)) ∧ τ.2.2.2 920 0 (tn v1) = 0 ∧ τ.2.2.2 916 0 d = 0 ∧ τ.2.2.1 919 0 (tn v1) < 3)) from fun z => c2 z.1.2), gc_1 (fun z => c2 z.2)]
      exact ⟨Or.inr (Or.inl rfl), ag_n h (show ¬ (1 : Nat) = 0 by decide) rfl⟩
  · rw [if_neg c1]
    rw [e0] at c1
    generalize (if ¬ (ix v1 (τ.1 924 0) ∧ (ix v2 12 ∧ ix v3 12)) then 0 else 144 * tn v1 + 12 * tn v3 + tn v2) = d
    rw [if_neg (show ¬ ((ix v1 (τ.1 924 0) ∧ (ix v2 12 ∧ ix v3 12)) ∧ (1 ≤ v4.toInt ∧ v4.toInt ≤ 9) ∧ ((ix v1 (τ.1 924 0) ∧ (ix v2 12 ∧ ix v3 12)) ∧ τ.2.2.2 920 0 (tn v1) = 0 ∧ τ.2.2.2 916 0 d = 0 ∧ τ.2.2.1 919 0 (tn v1) < 3)) from fun z => c1 z.1.1), gc_1 (fun z => c1 z.1)]
    exact ⟨Or.inr (Or.inl rfl), ag_n h (show ¬ (1 : Nat) = 0 by decide) rfl⟩
