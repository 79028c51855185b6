/-! block -/
theorem isB_5 {p v : Int32} (h : isB p (nI 5) v) : ix v 4 := by
  unfold isB at h
  rw [if_neg (by decide), if_neg (by decide), if_pos rfl] at h
  have h1 := Int32.le_iff_toInt_le.mp h.1
  have h2 := Int32.le_iff_toInt_le.mp h.2
  have e1 : (nI 0).toInt = 0 := by decide
  have e2 : (nI 3).toInt = 3 := by decide
  exact ⟨by omega, by show v.toInt < 4; omega⟩
theorem p_block {wr : WrT} {σ τ : St} (h : Rl wr σ τ) (v1 v2 v3 : Int32) : ((k_block v1 v2 v3 σ).1 = 0 ∨ (k_block v1 v2 v3 σ).1 = 1 ∨ (k_block v1 v2 v3 σ).1 = 2 ∨ (k_block v1 v2 v3 σ).1 = 3) ∧ (m_block v1 v2 v3 τ).2.2.1 944 0 = nI (wk [1, 2, 3] (k_block v1 v2 v3 σ).1) ∧ ((k_block v1 v2 v3 σ).1 = 0 → (m_block v1 v2 v3 τ).1 = (k_block v1 v2 v3 σ).2.1) ∧ Rl wr (k_block v1 v2 v3 σ).2.2 (m_block v1 v2 v3 τ).2 := by
  unfold k_block m_block m_g
  have e0 : σ.1 1002 6 = τ.1 904 0 := h.2.2.2.2.2.2.1.2.2.2.2.2
  have eq : σ.1 1002 2 = τ.1 926 0 := h.2.2.2.2.2.2.1.2.2.1
  by_cases c1 : ix v1 (σ.1 1002 6)
  · have hi := ix_tn c1
    have hid : σ.2.2.1 1001 6 (tn v1) = tn v1 := h.2.2.1 6 (by decide) (by decide) (by decide) _ hi
    have ev := ix_eq c1
    obtain ⟨b1, b2⟩ := h.2.2.2.2.2.2.2.2.1.1 (tn v1) hi
    rw [hid, if_pos c1]
    have c1' := c1
    rw [e0] at c1'
    by_cases c2 : isB v1 v2 v3
    · rw [if_pos c2]
      by_cases c3 : 30 ≤ σ.1 402 (tn v1)
      · rw [if_pos c3, if_neg (show ¬ (ix v1 (τ.1 904 0) ∧ isB v1 v2 v3 ∧ (ix v1 (τ.1 904 0) ∧ τ.2.2.1 903 0 (tn v1) < 30 ∧ τ.1 926 0 = 0)) from fun z => by have := z.2.2.2.1; omega), gc_3 c1' c2 (fun z => by have := z.2.1; omega)]
        exact ⟨Or.inr (Or.inr (Or.inr rfl)), ag_n h (show ¬ (3 : Nat) = 0 by decide) rfl⟩
      · rw [if_neg c3]
        by_cases c4 : σ.1 1002 2 = 0
        · have c5 : ix v1 (τ.1 904 0) ∧ τ.2.2.1 903 0 (tn v1) < 30 ∧ τ.1 926 0 = 0 := ⟨c1', by omega, by omega⟩
          rw [if_pos c4, if_pos (show ix v1 (τ.1 904 0) ∧ isB v1 v2 v3 ∧ (ix v1 (τ.1 904 0) ∧ τ.2.2.1 903 0 (tn v1) < 30 ∧ τ.1 926 0 = 0) from ⟨c1', c2, c5⟩), gc_0 c1' c2 c5]
          generalize hn : tn v1 = i at *
          rw [ev] at c2
          rw [← b1]
          generalize hm : σ.1 402 i = n at *
          obtain ⟨a1, a2, a3, a4, a5, a6, a7, a8, a9, a10, a11, a12, a13, a14, a15, a16, a17⟩ := h
          obtain ⟨s1, s2, s3, s4, s5, s6, s7, s8, s9, s10⟩ := a6
          refine ⟨Or.inl rfl, t944 (τ := τ), fun _ => rfl, ⟨a1.1, fun k => ?_, a1.2.2.1, fun q hq j hj h5 => ?_⟩, a2, a3, a4, a5, ⟨s1, fun k => ?_, s3, s4, s5, s6, s7, s8, s9, s10⟩, a7, a8, ⟨fun q hq => ?_, fun q hq => ?_⟩, a10, a11, a12, a13, a14, a15, a16, fun j hj => ?_⟩
          · show up2 σ.1 402 i (n + 1) 402 k ≤ 30
            by_cases e : k = i
            · subst e; rw [up2_s]; omega
            · rw [up2_n (fun z => e z.2)]; exact a1.2.1 k
          · have hj : j < up2 σ.1 402 i (n + 1) 402 q := hj
            have h5 : up3 (up3 σ.2.2.2 400 i n v2) 401 i n v3 400 q j = nI 5 := h5
            show ix (up3 (up3 σ.2.2.2 400 i n v2) 401 i n v3 401 q j) 4
            rw [up3_n (fun z => absurd z.1 (by decide))] at h5
            by_cases e : q = i
            · subst e
              rw [up2_s] at hj
              rw [up3_s] at h5
              rw [up3_s]
              by_cases e2 : j = n
              · subst e2
                rw [up1_s] at h5
                rw [up1_s]
                rw [h5] at c2
                exact isB_5 c2
              · rw [up1_n e2] at h5
                rw [up1_n e2, up3_n (fun z => absurd z.1 (by decide))]
                exact a1.2.2.2 q hq j (by omega) h5
            · rw [up2_n (fun z => e z.2)] at hj
              rw [up3_n (fun z => e z.2)] at h5
              rw [up3_n (fun z => e z.2), up3_n (fun z => e z.2)]
              exact a1.2.2.2 q hq j hj h5
          · show up3 τ.2.2.1 903 0 i (n + 1) 903 0 k ≤ 30
            rw [up3_s]
            by_cases e : k = i
            · subst e; rw [up1_s]; omega
            · rw [up1_n e]; exact s2 k
          · have hq : q < σ.1 1002 6 := hq
            show up2 σ.1 402 i (n + 1) 402 q = up3 τ.2.2.1 903 0 i (n + 1) 903 0 q ∧ ∀ j, j < up2 σ.1 402 i (n + 1) 402 q → up3 (up3 σ.2.2.2 400 i n v2) 401 i n v3 400 q j = up3 (up3 τ.2.2.2 902 0 (60 * i + 2 * n) v2) 902 0 (60 * i + 2 * n + 1) v3 902 0 (60 * q + 2 * j) ∧ up3 (up3 σ.2.2.2 400 i n v2) 401 i n v3 401 q j = up3 (up3 τ.2.2.2 902 0 (60 * i + 2 * n) v2) 902 0 (60 * i + 2 * n + 1) v3 902 0 (60 * q + 2 * j + 1) ∧ isB (nI q) (up3 (up3 σ.2.2.2 400 i n v2) 401 i n v3 400 q j) (up3 (up3 σ.2.2.2 400 i n v2) 401 i n v3 401 q j)
            rw [up3_s, up3_s, up3_s]
            by_cases e : q = i
            · subst e
              rw [up2_s, up1_s, up3_s, up3_n (F := 401) (F' := 400) (fun z => absurd z.1 (by decide)), up3_s, up3_n (F := 400) (F' := 401) (fun z => absurd z.1 (by decide))]
              refine ⟨rfl, fun j hj => ?_⟩
              by_cases e2 : j = n
              · subst e2
                rw [up1_s, up1_s, up1_n (show ¬ 60 * q + 2 * j = 60 * q + 2 * j + 1 by omega), up1_s, up1_s]
                exact ⟨rfl, rfl, c2⟩
              · rw [up1_n e2, up1_n e2, up1_n (show ¬ 60 * q + 2 * j = 60 * q + 2 * n + 1 by omega), up1_n (show ¬ 60 * q + 2 * j = 60 * q + 2 * n by omega), up1_n (show ¬ 60 * q + 2 * j + 1 = 60 * q + 2 * n + 1 by omega), up1_n (show ¬ 60 * q + 2 * j + 1 = 60 * q + 2 * n by omega)]
                exact b2 j (by omega)
            · obtain ⟨d1, d2⟩ := a9.1 q hq
              have d3 := a1.2.1 q
              rw [up2_n (fun z => e z.2), up1_n e, up3_n (fun z => e z.2), up3_n (fun z => e z.2), up3_n (fun z => e z.2), up3_n (fun z => e z.2)]
              refine ⟨d1, fun j hj => ?_⟩
              have hlt : j < 30 := by omega
              have hn30 : n < 30 := by omega
              rw [up1_n (show ¬ 60 * q + 2 * j = 60 * i + 2 * n + 1 by omega), up1_n (show ¬ 60 * q + 2 * j = 60 * i + 2 * n by omega), up1_n (show ¬ 60 * q + 2 * j + 1 = 60 * i + 2 * n + 1 by omega), up1_n (show ¬ 60 * q + 2 * j + 1 = 60 * i + 2 * n by omega)]
              exact d2 j hj
          · show up3 τ.2.2.1 903 0 i (n + 1) 903 0 q = 0
            have hq : σ.1 1002 6 ≤ q := hq
            rw [up3_s, up1_n (by omega)]
            exact a9.2 q hq
          · have hj : j < τ.1 926 0 := hj
            omega
        · rw [if_neg c4, if_neg (show ¬ (ix v1 (τ.1 904 0) ∧ isB v1 v2 v3 ∧ (ix v1 (τ.1 904 0) ∧ τ.2.2.1 903 0 (tn v1) < 30 ∧ τ.1 926 0 = 0)) from fun z => c4 (by rw [eq]; exact z.2.2.2.2)), gc_3 c1' c2 (fun z => c4 (by rw [eq]; exact z.2.2))]
          exact ⟨Or.inr (Or.inr (Or.inr rfl)), ag_n h (show ¬ (3 : Nat) = 0 by decide) rfl⟩
    · rw [if_neg c2, if_neg (show ¬ (ix v1 (τ.1 904 0) ∧ isB v1 v2 v3 ∧ (ix v1 (τ.1 904 0) ∧ τ.2.2.1 903 0 (tn v1) < 30 ∧ τ.1 926 0 = 0)) from fun z => c2 z.2.1), gc_2 c1' c2]
      exact ⟨Or.inr (Or.inr (Or.inl rfl)), ag_n h (show ¬ (2 : Nat) = 0 by decide) rfl⟩
  · rw [if_neg c1]
    rw [e0] at c1
    rw [if_neg (show ¬ (ix v1 (τ.1 904 0) ∧ isB v1 v2 v3 ∧ (ix v1 (τ.1 904 0) ∧ τ.2.2.1 903 0 (tn v1) < 30 ∧ τ.1 926 0 = 0)) from fun z => c1 z.1), gc_1 c1]
    exact ⟨Or.inr (Or.inl rfl), ag_n h (show ¬ (1 : Nat) = 0 by decide) rfl⟩
