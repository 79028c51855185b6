/-! what is asked of a tool, a cell, a paper -/
theorem ix_ne {v : Int32} {n j : Nat} (h : ¬ ix v n) (hj : j < n) (hn : n < 100) : ¬ v = nI j := fun z => h (by rw [z]; exact (ix_nI (by omega)).mpr hj)
theorem p_ofTool {wr : WrT} {σ τ : St} (h : Rl wr σ τ) (v1 v2 : Int32) : ((k_ofTool v1 v2 σ).1 = 0 ∨ (k_ofTool v1 v2 σ).1 = 1 ∨ (k_ofTool v1 v2 σ).1 = 2) ∧ (m_ofTool v1 v2 τ).2.2.1 944 0 = nI (wk [1, 2] (k_ofTool v1 v2 σ).1) ∧ ((k_ofTool v1 v2 σ).1 = 0 → (m_ofTool v1 v2 τ).1 = (k_ofTool v1 v2 σ).2.1) ∧ Rl wr (k_ofTool v1 v2 σ).2.2 (m_ofTool v1 v2 τ).2 := by
  unfold k_ofTool m_ofTool m_g
  have e0 : σ.1 1002 0 = τ.1 914 0 := h.2.2.2.2.2.2.1.1
  by_cases c1 : ix v1 (σ.1 1002 0)
  · have hid : σ.2.2.1 1001 0 (tn v1) = tn v1 := h.2.2.1 0 (by decide) (by decide) (by decide) _ (ix_tn c1)
    obtain ⟨b0, b1, b2, b3, b4, b5, b6, b7, b8, b9⟩ := h.2.2.2.2.2.2.2.2.2.1.1 (tn v1) (ix_tn c1)
    rw [hid, if_pos c1]
    rw [e0] at c1
    by_cases c2 : ix v2 6
    · rw [if_pos (show ix v1 (τ.1 914 0) ∧ ix v2 6 ∧ True from ⟨c1, c2, trivial⟩), gc_0 c1 c2 trivial]
      have h6 := ix_tn c2
      have e2 := ix_eq c2
      generalize tn v2 = k at h6 e2
      subst e2
      rcases (by omega : k = 0 ∨ k = 1 ∨ k = 2 ∨ k = 3 ∨ k = 4 ∨ k = 5) with rfl | rfl | rfl | rfl | rfl | rfl
      · rw [if_pos (rfl : nI 0 = nI 0), if_pos (rfl : nI 0 = nI 0)]
        exact ⟨Or.inl rfl, t944 (τ := τ), fun _ => b1.symm, rl_944 h⟩
      · rw [if_neg (show ¬ nI 1 = nI 0 by decide), if_pos (rfl : nI 1 = nI 1), if_neg (show ¬ nI 1 = nI 0 by decide), if_pos (rfl : nI 1 = nI 1)]
        exact ⟨Or.inl rfl, t944 (τ := τ), fun _ => by rw [b3], rl_944 h⟩
      · rw [if_neg (show ¬ nI 2 = nI 0 by decide), if_neg (show ¬ nI 2 = nI 1 by decide), if_pos (rfl : nI 2 = nI 2), if_neg (show ¬ nI 2 = nI 0 by decide), if_neg (show ¬ nI 2 = nI 1 by decide), if_pos (rfl : nI 2 = nI 2)]
        exact ⟨Or.inl rfl, t944 (τ := τ), fun _ => by rw [b4], rl_944 h⟩
      · rw [if_neg (show ¬ nI 3 = nI 0 by decide), if_neg (show ¬ nI 3 = nI 1 by decide), if_neg (show ¬ nI 3 = nI 2 by decide), if_pos (rfl : nI 3 = nI 3), if_neg (show ¬ nI 3 = nI 0 by decide), if_neg (show ¬ nI 3 = nI 1 by decide), if_neg (show ¬ nI 3 = nI 2 by decide), if_pos (rfl : nI 3 = nI 3)]
        exact ⟨Or.inl rfl, t944 (τ := τ), fun _ => b5.symm, rl_944 h⟩
      · rw [if_neg (show ¬ nI 4 = nI 0 by decide), if_neg (show ¬ nI 4 = nI 1 by decide), if_neg (show ¬ nI 4 = nI 2 by decide), if_neg (show ¬ nI 4 = nI 3 by decide), if_pos (rfl : nI 4 = nI 4), if_neg (show ¬ nI 4 = nI 0 by decide), if_neg (show ¬ nI 4 = nI 1 by decide), if_neg (show ¬ nI 4 = nI 2 by decide), if_neg (show ¬ nI 4 = nI 3 by decide), if_pos (rfl : nI 4 = nI 4)]
        rw [b7]
        by_cases c7 : τ.2.2.2 911 0 (tn v1) = 0
        · rw [if_pos c7, if_pos c7]
          exact ⟨Or.inl rfl, t944 (τ := τ), fun _ => rfl, rl_944 h⟩
        · rw [if_neg c7, if_neg c7]
          exact ⟨Or.inl rfl, t944 (τ := τ), fun _ => rfl, rl_944 h⟩
      · rw [if_neg (show ¬ nI 5 = nI 0 by decide), if_neg (show ¬ nI 5 = nI 1 by decide), if_neg (show ¬ nI 5 = nI 2 by decide), if_neg (show ¬ nI 5 = nI 3 by decide), if_neg (show ¬ nI 5 = nI 4 by decide), if_pos (rfl : nI 5 = nI 5), if_neg (show ¬ nI 5 = nI 0 by decide), if_neg (show ¬ nI 5 = nI 1 by decide), if_neg (show ¬ nI 5 = nI 2 by decide), if_neg (show ¬ nI 5 = nI 3 by decide), if_neg (show ¬ nI 5 = nI 4 by decide)]
        exact ⟨Or.inl rfl, t944 (τ := τ), fun _ => by rw [b6], rl_944 h⟩
    · rw [if_neg (ix_ne (j := 0) c2 (by decide) (by decide)), if_neg (ix_ne (j := 1) c2 (by decide) (by decide)), if_neg (ix_ne (j := 2) c2 (by decide) (by decide)), if_neg (ix_ne (j := 3) c2 (by decide) (by decide)), if_neg (ix_ne (j := 4) c2 (by decide) (by decide)), if_neg (ix_ne (j := 5) c2 (by decide) (by decide)), if_neg (show ¬ (ix v1 (τ.1 914 0) ∧ ix v2 6 ∧ True) from fun z => c2 z.2.1), gc_2 c1 c2]
      exact ⟨Or.inr (Or.inr rfl), ag_n h (show ¬ (2 : Nat) = 0 by decide) rfl⟩
  · rw [if_neg c1]
    rw [e0] at c1
    rw [if_neg (fun z => c1 z.1), gc_1 c1]
    exact ⟨Or.inr (Or.inl rfl), ag_n h (show ¬ (1 : Nat) = 0 by decide) rfl⟩
theorem p_ofCell {wr : WrT} {σ τ : St} (h : Rl wr σ τ) (v1 v2 v3 v4 : Int32) : ((k_ofCell v1 v2 v3 v4 σ).1 = 0 ∨ (k_ofCell v1 v2 v3 v4 σ).1 = 1 ∨ (k_ofCell v1 v2 v3 v4 σ).1 = 2) ∧ (m_ofCell v1 v2 v3 v4 τ).2.2.1 944 0 = nI (wk [1, 2] (k_ofCell v1 v2 v3 v4 σ).1) ∧ ((k_ofCell v1 v2 v3 v4 σ).1 = 0 → (m_ofCell v1 v2 v3 v4 τ).1 = (k_ofCell v1 v2 v3 v4 σ).2.1) ∧ Rl wr (k_ofCell v1 v2 v3 v4 σ).2.2 (m_ofCell v1 v2 v3 v4 τ).2 := by
  unfold k_ofCell m_ofCell m_g
  have e0 : σ.1 1002 1 = τ.1 924 0 := h.2.2.2.2.2.2.1.2.1
  by_cases c1 : ix v1 (σ.1 1002 1)
  · have hid : σ.2.2.1 1001 1 (tn v1) = tn v1 := h.2.2.1 1 (by decide) (by decide) (by decide) _ (ix_tn c1)
    have hb := (h.2.2.2.2.2.2.2.2.2.2.2.1.1 (tn v1) (ix_tn c1)).2.2.2.2
    rw [hid, if_pos c1]
    rw [e0] at c1
    by_cases c3 : ix v2 12 ∧ ix v3 12
    · rw [if_pos c3]
      have x1 := ix_tn c3.1
      have x2 := ix_tn c3.2
      obtain ⟨b1, b2, b3, b4, b5⟩ := hb (tn v3 * 12 + tn v2) (by omega)
      have ec : 144 * tn v1 + (tn v3 * 12 + tn v2) = 144 * tn v1 + 12 * tn v3 + tn v2 := by omega
      rw [ec] at b1 b2 b3 b4 b5
      by_cases c2 : ix v4 5
      · rw [if_pos (show (ix v1 (τ.1 924 0) ∧ (ix v2 12 ∧ ix v3 12)) ∧ ix v4 5 ∧ True from ⟨⟨c1, c3⟩, c2, trivial⟩), gc_0 ⟨c1, c3⟩ c2 trivial]
        have h6 := ix_tn c2
        have e2 := ix_eq c2
        generalize tn v4 = k at h6 e2
        subst e2
        rcases (by omega : k = 0 ∨ k = 1 ∨ k = 2 ∨ k = 3 ∨ k = 4) with rfl | rfl | rfl | rfl | rfl
        · rw [if_pos (rfl : nI 0 = nI 0), if_pos (rfl : nI 0 = nI 0)]
          exact ⟨Or.inl rfl, t944 (τ := τ), fun _ => b1.symm, rl_944 h⟩
        · rw [if_neg (show ¬ nI 1 = nI 0 by decide), if_pos (rfl : nI 1 = nI 1), if_neg (show ¬ nI 1 = nI 0 by decide), if_pos (rfl : nI 1 = nI 1)]
          exact ⟨Or.inl rfl, t944 (τ := τ), fun _ => b4.symm, rl_944 h⟩
        · rw [if_neg (show ¬ nI 2 = nI 0 by decide), if_neg (show ¬ nI 2 = nI 1 by decide), if_pos (rfl : nI 2 = nI 2), if_neg (show ¬ nI 2 = nI 0 by decide), if_neg (show ¬ nI 2 = nI 1 by decide), if_pos (rfl : nI 2 = nI 2)]
          exact ⟨Or.inl rfl, t944 (τ := τ), fun _ => b3.symm, rl_944 h⟩
        · rw [if_neg (show ¬ nI 3 = nI 0 by decide), if_neg (show ¬ nI 3 = nI 1 by decide), if_neg (show ¬ nI 3 = nI 2 by decide), if_pos (rfl : nI 3 = nI 3), if_neg (show ¬ nI 3 = nI 0 by decide), if_neg (show ¬ nI 3 = nI 1 by decide), if_neg (show ¬ nI 3 = nI 2 by decide), if_pos (rfl : nI 3 = nI 3)]
          exact ⟨Or.inl rfl, t944 (τ := τ), fun _ => b5.symm, rl_944 h⟩
        · rw [if_neg (show ¬ nI 4 = nI 0 by decide), if_neg (show ¬ nI 4 = nI 1 by decide), if_neg (show ¬ nI 4 = nI 2 by decide), if_neg (show ¬ nI 4 = nI 3 by decide), if_pos (rfl : nI 4 = nI 4), if_neg (show ¬ nI 4 = nI 0 by decide), if_neg (show ¬ nI 4 = nI 1 by decide), if_neg (show ¬ nI 4 = nI 2 by decide), if_neg (show ¬ nI 4 = nI 3 by decide)]
          exact ⟨Or.inl rfl, t944 (τ := τ), fun _ => b2.symm, rl_944 h⟩
      · rw [if_neg (ix_ne (j := 0) c2 (by decide) (by decide)), if_neg (ix_ne (j := 1) c2 (by decide) (by decide)), if_neg (ix_ne (j := 2) c2 (by decide) (by decide)), if_neg (ix_ne (j := 3) c2 (by decide) (by decide)), if_neg (ix_ne (j := 4) c2 (by decide) (by decide)), if_neg (show ¬ ((ix v1 (τ.1 924 0) ∧ (ix v2 12 ∧ ix v3 12)) ∧ ix v4 5 ∧ True) from fun z => c2 z.2.1), gc_2 ⟨c1, c3⟩ c2]
        exact ⟨Or.inr (Or.inr rfl), ag_n h (show ¬ (2 : Nat) = 0 by decide) rfl⟩
    · rw [if_neg c3, if_neg (fun z => c3 z.1.2), gc_1 (fun z => c3 z.2)]
      exact ⟨Or.inr (Or.inl rfl), ag_n h (show ¬ (1 : Nat) = 0 by decide) rfl⟩
  · rw [if_neg c1]
    rw [e0] at c1
    rw [if_neg (fun z => c1 z.1.1), gc_1 (fun z => c1 z.1)]
    exact ⟨Or.inr (Or.inl rfl), ag_n h (show ¬ (1 : Nat) = 0 by decide) rfl⟩
theorem p_ofPaper {wr : WrT} {σ τ : St} (h : Rl wr σ τ) (v1 v2 : Int32) : ((k_ofPaper v1 v2 σ).1 = 0 ∨ (k_ofPaper v1 v2 σ).1 = 1 ∨ (k_ofPaper v1 v2 σ).1 = 2) ∧ (m_ofPaper v1 v2 τ).2.2.1 944 0 = nI (wk [1, 2] (k_ofPaper v1 v2 σ).1) ∧ ((k_ofPaper v1 v2 σ).1 = 0 → (m_ofPaper v1 v2 τ).1 = (k_ofPaper v1 v2 σ).2.1) ∧ Rl wr (k_ofPaper v1 v2 σ).2.2 (m_ofPaper v1 v2 τ).2 := by
  unfold k_ofPaper m_ofPaper m_g
  have e0 : σ.1 1002 5 = τ.1 934 0 := h.2.2.2.2.2.2.1.2.2.2.2.1
  by_cases c1 : ix v1 (σ.1 1002 5)
  · have hid : σ.2.2.1 1001 5 (tn v1) = tn v1 := h.2.2.1 5 (by decide) (by decide) (by decide) _ (ix_tn c1)
    obtain ⟨b0, b1, b2, b3, b4, b5, b6⟩ := h.2.2.2.2.2.2.2.2.2.2.2.2.2.2.2.1.1 (tn v1) (ix_tn c1)
    rw [hid, if_pos c1, vdp_eq]
    rw [e0] at c1
    by_cases c2 : ix v2 11
    · rw [if_pos c2, if_neg (show ¬ ¬ (ix v1 (τ.1 934 0) ∧ ix v2 11 ∧ True) from fun z => z ⟨c1, c2, trivial⟩), gc_0 c1 c2 trivial]
      have h6 := ix_tn c2
      have e2 := ix_eq c2
      generalize tn v2 = k at h6 e2
      subst e2
      by_cases k5 : k < 5
      · rcases (by omega : k = 0 ∨ k = 1 ∨ k = 2 ∨ k = 3 ∨ k = 4) with rfl | rfl | rfl | rfl | rfl
        · rw [if_pos (rfl : nI 0 = nI 0)]
          exact ⟨Or.inl rfl, t944 (τ := τ), fun _ => b0.symm, rl_944 h⟩
        · rw [if_neg (show ¬ nI 1 = nI 0 by decide), if_pos (rfl : nI 1 = nI 1)]
          exact ⟨Or.inl rfl, t944 (τ := τ), fun _ => b1.symm, rl_944 h⟩
        · rw [if_neg (show ¬ nI 2 = nI 0 by decide), if_neg (show ¬ nI 2 = nI 1 by decide), if_pos (rfl : nI 2 = nI 2)]
          exact ⟨Or.inl rfl, t944 (τ := τ), fun _ => b2.symm, rl_944 h⟩
        · rw [if_neg (show ¬ nI 3 = nI 0 by decide), if_neg (show ¬ nI 3 = nI 1 by decide), if_neg (show ¬ nI 3 = nI 2 by decide), if_pos (rfl : nI 3 = nI 3)]
          exact ⟨Or.inl rfl, t944 (τ := τ), fun _ => b3.symm, rl_944 h⟩
        · rw [if_neg (show ¬ nI 4 = nI 0 by decide), if_neg (show ¬ nI 4 = nI 1 by decide), if_neg (show ¬ nI 4 = nI 2 by decide), if_neg (show ¬ nI 4 = nI 3 by decide), if_pos (rfl : nI 4 = nI 4)]
          exact ⟨Or.inl rfl, t944 (τ := τ), fun _ => b4.symm, rl_944 h⟩
      · have hk : ∀ j, j < 5 → ¬ nI k = nI j := fun j hj z => by
          have h1 := tn_nI (k := k) (by omega)
          rw [z, tn_nI (by omega)] at h1
          omega
        rw [if_neg (hk 0 (by decide)), if_neg (hk 1 (by decide)), if_neg (hk 2 (by decide)), if_neg (hk 3 (by decide)), if_neg (hk 4 (by decide))]
        refine ⟨Or.inl rfl, t944 (τ := τ), fun _ => ?_, rl_944 h⟩
        show τ.2.2.2 933 0 (18 * tn v1 + k) = σ.2.2.2 304 (tn v1) (k - 5)
        rw [(b6 (k - 5) (by omega)).1, show 18 * tn v1 + 5 + (k - 5) = 18 * tn v1 + k by omega]
    · rw [if_neg c2, if_pos (fun z => c2 z.2.1), gc_2 c1 c2]
      exact ⟨Or.inr (Or.inr rfl), ag_n h (show ¬ (2 : Nat) = 0 by decide) rfl⟩
  · rw [if_neg c1]
    rw [e0] at c1
    rw [if_pos (fun z => c1 z.1), gc_1 c1]
    exact ⟨Or.inr (Or.inl rfl), ag_n h (show ¬ (1 : Nat) = 0 by decide) rfl⟩
