/-! allow -/
theorem p_allow {wr : WrT} {σ τ : St} (h : Rl wr σ τ) (v1 v2 v3 v4 : Int32) : ((k_allow v1 v2 v3 v4 σ).1 = 0 ∨ (k_allow v1 v2 v3 v4 σ).1 = 1 ∨ (k_allow v1 v2 v3 v4 σ).1 = 2) ∧ (m_allow v1 v2 v3 v4 τ).2.2.1 944 0 = nI (wk [1, 2] (k_allow v1 v2 v3 v4 σ).1) ∧ ((k_allow v1 v2 v3 v4 σ).1 = 0 → (m_allow v1 v2 v3 v4 τ).1 = (k_allow v1 v2 v3 v4 σ).2.1) ∧ Rl wr (k_allow v1 v2 v3 v4 σ).2.2 (m_allow v1 v2 v3 v4 τ).2 := by
  unfold k_allow m_allow m_g
  have e0 : σ.1 1002 4 = τ.1 932 0 := h.2.2.2.2.2.2.1.2.2.2.1
  by_cases c1 : ix v1 (σ.1 1002 4)
  · have hi := ix_tn c1
    have hid : σ.2.2.1 1001 4 (tn v1) = tn v1 := h.2.2.1 4 (by decide) (by decide) (by decide) _ hi
    have hd4 : σ.1 1002 4 ≤ 4 := h.2.2.2.1.2.2.2.2.1
    obtain ⟨b1, b2⟩ := h.2.2.2.2.2.2.2.2.2.2.2.2.2.2.1.1 (tn v1) hi
    rw [hid, if_pos c1, ← b1]
    have c1' := c1
    rw [e0] at c1'
    have h56 := h.2.2.2.2.1.1 (tn v1)
    by_cases c2 : ix v2 (σ.1 5 (tn v1))
    · rw [if_pos c2]
      have x1 := ix_tn c2
      have P1 : ix v1 (τ.1 932 0) ∧ ix v2 (σ.1 5 (tn v1)) := ⟨c1', c2⟩
      by_cases c3 : 0 ≤ v3.toInt ∧ v3.toInt ≤ 99
      · rw [if_neg (show ¬ ¬ (0 ≤ v3.toInt ∧ v3.toInt ≤ 99) from fun z => z c3)]
        have hv3 : tn v3 ≤ 99 := by show v3.toInt.toNat ≤ 99; omega
        by_cases c4 : 1 ≤ v4.toInt ∧ v4.toInt ≤ 9
        · have hv4 : tn v4 ≤ 9 := by show v4.toInt.toNat ≤ 9; omega
          rw [if_pos c4, if_pos (show (ix v1 (τ.1 932 0) ∧ ix v2 (σ.1 5 (tn v1))) ∧ ((0 ≤ v3.toInt ∧ v3.toInt ≤ 99) ∧ (1 ≤ v4.toInt ∧ v4.toInt ≤ 9)) ∧ True from ⟨P1, ⟨c3, c4⟩, trivial⟩), gc_0 P1 ⟨c3, c4⟩ trivial]
          generalize hk : tn v1 = d at *
          generalize hx : tn v2 = n at *
          generalize hz4 : tn v3 = hh at *
          generalize ht : tn v4 = tt at *
          obtain ⟨a1, a2, a3, a4, ⟨r1, r2, r3, r4, r5, r6⟩, ⟨s1, s2, s3, s4, s5, s6, s7, s8, s9, s10⟩, a7, a8, a9, a10, a11, a12, a13, a14, a15, a16, a17⟩ := h
          obtain ⟨RR, hRR⟩ : ∃ RR : Nat → Nat, RR = up1 (up1 (τ.2.2.1 930 0) (6 * (6 * d + n) + 4) hh) (6 * (6 * d + n) + 5) tt := ⟨_, rfl⟩
          have hrow : (wA (wA (wI τ 944 0 (nI 0)) 930 0 (6 * (6 * d + n) + 4) hh) 930 0 (6 * (6 * d + n) + 5) tt).2.2.1 930 0 = RR := by
            show up3 (up3 τ.2.2.1 930 0 (6 * (6 * d + n) + 4) hh) 930 0 (6 * (6 * d + n) + 5) tt 930 0 = RR
            rw [up3_s, up3_s, hRR]
          have q0 : RR (6 * (6 * d + n) + 4) = hh := by rw [hRR, up1_n (by omega), up1_s]
          have q1 : RR (6 * (6 * d + n) + 5) = tt := by rw [hRR, up1_s]
          have qo : ∀ i, ¬ i = 6 * (6 * d + n) + 4 → ¬ i = 6 * (6 * d + n) + 5 → RR i = τ.2.2.1 930 0 i := fun i h0 h1 => by rw [hRR, up1_n h1, up1_n h0]
          refine ⟨Or.inl rfl, t944 (τ := τ), fun _ => ?_, a1, a2, a3, a4, ⟨r1, r2, r3, r4, r5, fun k i => ?_⟩, ⟨s1, s2, s3, s4, s5, s6, s7, fun i => ?_, fun i hi6 => ?_, s10⟩, a7, a8, a9, a10, a11, a12, a13, a14, ⟨fun k hk6 => ?_, fun k hk6 => ?_⟩, a16, a17⟩
          · rw [hrow, qo (6 * (6 * d + n) + 3) (by omega) (by omega), ((b2 n (by omega)).1 x1).2.2]
          · show up3 (up3 σ.2.2.1 3 d n hh) 4 d n tt 4 k i ≤ 9
            by_cases e : k = d
            · subst e
              rw [up3_s]
              by_cases e2 : i = n
              · subst e2; rw [up1_s]; omega
              · rw [up1_n e2]; exact r6 k i
            · rw [up3_n (fun z => e z.2)]; exact r6 k i
          · rw [hrow]
            by_cases e0 : i = 6 * (6 * d + n) + 4
            · rw [e0, q0]; omega
            · by_cases e1 : i = 6 * (6 * d + n) + 5
              · rw [e1, q1]; omega
              · rw [qo i e0 e1]; exact s8 i
          · rw [hrow, qo (6 * i) (by omega) (by omega), qo (6 * i + 1) (by omega) (by omega)]
            exact s9 i hi6
          · have hk6 : k < σ.1 1002 4 := hk6
            rw [hrow]
            obtain ⟨d1, d2⟩ := a15.1 k hk6
            refine ⟨d1, fun i hi6 => ?_⟩
            obtain ⟨f1, f2, f3⟩ := d2 i hi6
            show (i < σ.1 5 k → σ.2.2.1 0 k i = 12 * RR (6 * (6 * k + i) + 1) + RR (6 * (6 * k + i)) ∧ σ.2.2.1 1 k i = RR (6 * (6 * k + i) + 2) ∧ σ.2.2.1 2 k i = RR (6 * (6 * k + i) + 3)) ∧ up3 (up3 σ.2.2.1 3 d n hh) 4 d n tt 3 k i = RR (6 * (6 * k + i) + 4) ∧ up3 (up3 σ.2.2.1 3 d n hh) 4 d n tt 4 k i = RR (6 * (6 * k + i) + 5)
            rw [qo (6 * (6 * k + i) + 1) (by omega) (by omega), qo (6 * (6 * k + i)) (by omega) (by omega), qo (6 * (6 * k + i) + 2) (by omega) (by omega), qo (6 * (6 * k + i) + 3) (by omega) (by omega)]
            refine ⟨f1, ?_⟩
            rw [up3_n (F := 4) (F' := 3) (fun z => absurd z.1 (by decide))]
            by_cases e : k = d
            · subst e
              rw [up3_s, up3_s]
              by_cases e2 : i = n
              · subst e2; rw [up1_s, up1_s, q0, q1]; exact ⟨rfl, rfl⟩
              · rw [up1_n e2, up1_n e2, qo (6 * (6 * k + i) + 4) (by omega) (by omega), qo (6 * (6 * k + i) + 5) (by omega) (by omega), up3_n (fun z => absurd z.1 (by decide))]
                exact ⟨f2, f3⟩
            · repeat rw [up3_n (fun z => e z.2)]
              rw [qo (6 * (6 * k + i) + 4) (by omega) (by omega), qo (6 * (6 * k + i) + 5) (by omega) (by omega)]
              exact ⟨f2, f3⟩
          · have hk6 : σ.1 1002 4 ≤ k := hk6
            rw [hrow]
            obtain ⟨d1, d2⟩ := a15.2 k hk6
            refine ⟨d1, fun i hi6 => ?_⟩
            rw [qo (6 * (6 * k + i) + 4) (by omega) (by omega), qo (6 * (6 * k + i) + 5) (by omega) (by omega)]
            exact d2 i hi6
        · rw [if_neg c4, if_neg (show ¬ ((ix v1 (τ.1 932 0) ∧ ix v2 (σ.1 5 (tn v1))) ∧ ((0 ≤ v3.toInt ∧ v3.toInt ≤ 99) ∧ (1 ≤ v4.toInt ∧ v4.toInt ≤ 9)) ∧ True) from fun z => c4 z.2.1.2), gc_2 P1 (fun z => c4 z.2)]
          exact ⟨Or.inr (Or.inr rfl), ag_n h (show ¬ (2 : Nat) = 0 by decide) rfl⟩
      · rw [if_pos (show ¬ (0 ≤ v3.toInt ∧ v3.toInt ≤ 99) from c3), if_neg (show ¬ ((ix v1 (τ.1 932 0) ∧ ix v2 (σ.1 5 (tn v1))) ∧ ((0 ≤ v3.toInt ∧ v3.toInt ≤ 99) ∧ (1 ≤ v4.toInt ∧ v4.toInt ≤ 9)) ∧ True) from fun z => c3 z.2.1.1), gc_2 P1 (fun z => c3 z.1)]
        exact ⟨Or.inr (Or.inr rfl), ag_n h (show ¬ (2 : Nat) = 0 by decide) rfl⟩
    · rw [if_neg c2, if_neg (show ¬ ((ix v1 (τ.1 932 0) ∧ ix v2 (σ.1 5 (tn v1))) ∧ ((0 ≤ v3.toInt ∧ v3.toInt ≤ 99) ∧ (1 ≤ v4.toInt ∧ v4.toInt ≤ 9)) ∧ True) from fun z => c2 z.1.2), gc_1 (fun z => c2 z.2)]
      exact ⟨Or.inr (Or.inl rfl), ag_n h (show ¬ (1 : Nat) = 0 by decide) rfl⟩
  · rw [if_neg c1]
    rw [e0] at c1
    rw [if_neg (show ¬ ((ix v1 (τ.1 932 0) ∧ ix v2 (τ.2.2.1 931 0 (tn v1))) ∧ ((0 ≤ v3.toInt ∧ v3.toInt ≤ 99) ∧ (1 ≤ v4.toInt ∧ v4.toInt ≤ 9)) ∧ True) from fun z => c1 z.1.1), gc_1 (fun z => c1 z.1)]
    exact ⟨Or.inr (Or.inl rfl), ag_n h (show ¬ (1 : Nat) = 0 by decide) rfl⟩
