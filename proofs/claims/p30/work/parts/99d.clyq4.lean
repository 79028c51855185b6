/-! judge: when, and when not -/
theorem bound_900 {wr : WrT} {σ τ : St} (h : Rl wr σ τ) : τ.1 900 0 ≤ 1008000 := by
  obtain ⟨u1, u2, u3, u4⟩ := h.2.2.2.2.2.2.2.1
  have hT := h.2.1
  have := sum_le (f := fun k => σ.1 504 k) (b := 500) 16 (fun i _ => Nat.le_trans (hT.1 i) (hT.2.1 i))
  omega
theorem good_iff {wr : WrT} {σ τ : St} (h : Rl wr σ τ) {G : Nat} (hG : G < 4) : (¬ σ.2.1 100 G = (-1) ∧ ¬ nI 1000 ≤ nI (σ.1 811 0) - σ.2.1 100 G) ↔ (¬ τ.2.2.2 928 0 G = 0 ∧ τ.1 900 0 < τ.2.2.1 927 0 G + 1000) := by
  have hb := bound_900 h
  have hg := (h.2.2.2.2.2.2.2.2.2.2.2.2.2.1 G hG).1
  have h7 : τ.2.2.1 927 0 G ≤ τ.1 900 0 := h.2.2.2.2.2.1.2.2.2.2.2.2.1 G
  have e8 : σ.1 811 0 = τ.1 900 0 := h.2.2.2.2.2.2.2.1.1
  rw [hg, e8]
  by_cases c : τ.2.2.2 928 0 G = 0
  · rw [if_pos c]
    exact ⟨fun z => absurd rfl z.1, fun z => absurd c z.1⟩
  · rw [if_neg c, pk_sub h7, nI_leI (by decide) (by omega)]
    have hne : ¬ nI (τ.2.2.1 927 0 G) = (-1) := fun z => by
      have h9 := congrArg Int32.toInt z
      rw [nI_tz (by omega)] at h9
      have h8 : (-1 : Int32).toInt = -1 := rfl
      omega
    exact ⟨fun z => ⟨c, by omega⟩, fun z => ⟨hne, by omega⟩⟩
theorem p_judge {wr : WrT} {σ τ : St} (h : Rl wr σ τ) (v1 v2 v3 : Int32) : ((k_judge v1 v2 v3 σ).1 = 0 ∨ (k_judge v1 v2 v3 σ).1 = 1 ∨ (k_judge v1 v2 v3 σ).1 = 3) ∧ (m_judge v1 v2 v3 τ).2.2.1 944 0 = nI (wk [1, 3] (k_judge v1 v2 v3 σ).1) ∧ ((k_judge v1 v2 v3 σ).1 = 0 → (m_judge v1 v2 v3 τ).1 = (k_judge v1 v2 v3 σ).2.1) ∧ Rl wr (k_judge v1 v2 v3 σ).2.2 (m_judge v1 v2 v3 τ).2 := by
  have e1 : σ.1 1002 1 = τ.1 924 0 := h.2.2.2.2.2.2.1.2.1
  have e4 : σ.1 1002 4 = τ.1 932 0 := h.2.2.2.2.2.2.1.2.2.2.1
  have e5 : σ.1 1002 5 = τ.1 934 0 := h.2.2.2.2.2.2.1.2.2.2.2.1
  have e3 : σ.1 1002 3 = 4 := h.2.2.2.1.2.2.2.1
  unfold k_judge
  rw [e3]
  by_cases c0 : ix v1 (τ.1 924 0) ∧ (ix v2 (τ.1 932 0) ∧ ix v3 4)
  · have c1 : ix v1 (σ.1 1002 1) := by rw [e1]; exact c0.1
    have c2 : ix v2 (σ.1 1002 4) := by rw [e4]; exact c0.2.1
    have c3 : ix v3 4 := c0.2.2
    have hP := ix_tn c1
    have hD := ix_tn c2
    have hG := ix_tn c3
    have hiP : σ.2.2.1 1001 1 (tn v1) = tn v1 := h.2.2.1 1 (by decide) (by decide) (by decide) _ hP
    have hiD : σ.2.2.1 1001 4 (tn v2) = tn v2 := h.2.2.1 4 (by decide) (by decide) (by decide) _ hD
    have hiG : σ.2.2.1 1001 3 (tn v3) = tn v3 := h.2.2.1 3 (by decide) (by decide) (by decide) _ (by rw [e3]; exact hG)
    rw [if_pos c1, if_pos c2, if_pos c3, hiP, hiD, hiG]
    have hA := h.2.2.2.2.2.2.2.2.2.2.2.1.1 _ hP
    have hDD := h.2.2.2.2.2.2.2.2.2.2.2.2.2.2.1.1 _ hD
    have hgood := good_iff h hG
    by_cases c4 : τ.2.2.2 920 0 (tn v1) = nI 2 ∧ 0 < τ.2.2.1 931 0 (tn v2) ∧ ¬ τ.2.2.2 928 0 (tn v3) = 0 ∧ τ.1 900 0 < τ.2.2.1 927 0 (tn v3) + 1000 ∧ τ.1 934 0 < 30
    · have k1 : σ.2.1 206 (tn v1) = nI 2 := hA.2.1.trans c4.1
      have k2 : ¬ σ.1 5 (tn v2) = 0 := by rw [hDD.1]; omega
      have k3 := hgood.mpr ⟨c4.2.2.1, c4.2.2.2.1⟩
      rw [if_neg (show ¬ ¬ σ.2.1 206 (tn v1) = nI 2 from fun z => z k1), if_neg k2, if_neg (show ¬ ¬ (¬ σ.2.1 100 (tn v3) = (-1) ∧ ¬ nI 1000 ≤ nI (σ.1 811 0) - σ.2.1 100 (tn v3)) from fun z => z k3), if_pos (show σ.1 1002 5 < 30 by rw [e5]; exact c4.2.2.2.2)]
      have hmg : m_g (ix v1 (τ.1 924 0) ∧ (ix v2 (τ.1 932 0) ∧ ix v3 4)) ((ix v1 (τ.1 924 0) ∧ (ix v2 (τ.1 932 0) ∧ ix v3 4)) ∧ τ.2.2.2 920 0 (tn v1) = nI 2 ∧ 0 < τ.2.2.1 931 0 (tn v2) ∧ ¬ τ.2.2.2 928 0 (tn v3) = 0 ∧ τ.1 900 0 < τ.2.2.1 927 0 (tn v3) + 1000 ∧ τ.1 934 0 < 30) True τ = wI τ 944 0 (nI 0) := by
        unfold m_g
        rw [gc_0 c0 ⟨c0, c4⟩ trivial]
      have hjx : m_jx v1 v2 v3 τ = wB (wB (wB (wB (wB (wI τ 944 0 (nI 0)) 933 0 (18 * τ.1 934 0) v1) 933 0 (18 * τ.1 934 0 + 1) v2) 933 0 (18 * τ.1 934 0 + 3) (nI (τ.1 900 0))) 933 0 (18 * τ.1 934 0 + 4) (τ.2.2.2 929 0 (tn v3))) 933 0 (18 * τ.1 934 0 + 17) (nI (τ.2.2.1 931 0 (tn v2))) := by
        unfold m_jx
        rw [hmg]
      have hG100 : σ.2.1 100 (tn v3) = nI (τ.2.2.1 927 0 (tn v3)) := by
        rw [(h.2.2.2.2.2.2.2.2.2.2.2.2.2.1 _ hG).1, if_neg c4.2.2.1]
      unfold m_judge
      rw [if_pos (show (ix v1 (τ.1 924 0) ∧ (ix v2 (τ.1 932 0) ∧ ix v3 4)) ∧ ((ix v1 (τ.1 924 0) ∧ (ix v2 (τ.1 932 0) ∧ ix v3 4)) ∧ τ.2.2.2 920 0 (tn v1) = nI 2 ∧ 0 < τ.2.2.1 931 0 (tn v2) ∧ ¬ τ.2.2.2 928 0 (tn v3) = 0 ∧ τ.1 900 0 < τ.2.2.1 927 0 (tn v3) + 1000 ∧ τ.1 934 0 < 30) ∧ True from ⟨c0, ⟨c0, c4⟩, trivial⟩), ← hDD.1]
      have hx5 : ∀ j, (m_jx v1 v2 v3 τ).2.2.2 933 0 j = if j = 18 * τ.1 934 0 then v1 else if j = 18 * τ.1 934 0 + 1 then v2 else if j = 18 * τ.1 934 0 + 3 then nI (τ.1 900 0) else if j = 18 * τ.1 934 0 + 4 then τ.2.2.2 929 0 (tn v3) else if j = 18 * τ.1 934 0 + 17 then nI (τ.2.2.1 931 0 (tn v2)) else τ.2.2.2 933 0 j := fun j => by
        rw [hjx, wB_s, wB_s, wB_s, wB_s, wB_s]
        show up1 (up1 (up1 (up1 (up1 (τ.2.2.2 933 0) (18 * τ.1 934 0) v1) (18 * τ.1 934 0 + 1) v2) (18 * τ.1 934 0 + 3) (nI (τ.1 900 0))) (18 * τ.1 934 0 + 4) (τ.2.2.2 929 0 (tn v3))) (18 * τ.1 934 0 + 17) (nI (τ.2.2.1 931 0 (tn v2))) j = _
        by_cases q0 : j = 18 * τ.1 934 0
        · rw [if_pos q0, up1_n (by omega), up1_n (by omega), up1_n (by omega), up1_n (by omega), q0, up1_s]
        · rw [if_neg q0]
          by_cases q1 : j = 18 * τ.1 934 0 + 1
          · rw [if_pos q1, up1_n (by omega), up1_n (by omega), up1_n (by omega), q1, up1_s]
          · rw [if_neg q1]
            by_cases q3 : j = 18 * τ.1 934 0 + 3
            · rw [if_pos q3, up1_n (by omega), up1_n (by omega), q3, up1_s]
            · rw [if_neg q3]
              by_cases q4 : j = 18 * τ.1 934 0 + 4
              · rw [if_pos q4, up1_n (by omega), q4, up1_s]
              · rw [if_neg q4]
                by_cases q7 : j = 18 * τ.1 934 0 + 17
                · rw [if_pos q7, q7, up1_s]
                · rw [if_neg q7, up1_n q7, up1_n q4, up1_n q3, up1_n q1, up1_n q0]
      have hx4 : ∀ F, F ≠ 933 → (m_jx v1 v2 v3 τ).2.2.2 F = τ.2.2.2 F := fun F z => by
        rw [hjx]
        show up3 (up3 (up3 (up3 (up3 τ.2.2.2 933 0 _ _) 933 0 _ _) 933 0 _ _) 933 0 _ _) 933 0 _ _ F = _
        unfold up3
        rw [if_neg z, if_neg z, if_neg z, if_neg z, if_neg z]
      rw [← e5] at hx5 ⊢
      obtain ⟨m1, m2⟩ := judge_ok (v1 := v1) (v2 := v2) h hP hD hG hG100 rfl (by rw [e5]; exact c4.2.2.2.2) (by rw [hjx]; rfl) (by rw [hjx]; rfl) (by rw [hjx]; rfl) hx4 hx5
      refine ⟨Or.inl rfl, m1, fun _ => ?_, m2⟩
      show nI (σ.1 1002 5 + 1 - 1) = nI (σ.1 1002 5)
      rw [Nat.add_sub_cancel]
    · have hk : (if ¬ σ.2.1 206 (tn v1) = nI 2 then (3, 0, σ) else if σ.1 5 (tn v2) = 0 then (3, 0, σ) else if ¬ (¬ σ.2.1 100 (tn v3) = (-1) ∧ ¬ nI 1000 ≤ nI (σ.1 811 0) - σ.2.1 100 (tn v3)) then (3, 0, σ) else if σ.1 1002 5 < 30 then (0, nI (σ.1 1002 5), ladd 5 (σ.1 1002 5) (k_j3 (tn v1) (tn v2) (tn v3) (σ.1 1002 5) v1 v2 σ)) else (3, 0, σ) : Nat × Int32 × St) = (3, 0, σ) := by
        by_cases k1 : σ.2.1 206 (tn v1) = nI 2
        · rw [if_neg (show ¬ ¬ σ.2.1 206 (tn v1) = nI 2 from fun z => z k1)]
          by_cases k2 : σ.1 5 (tn v2) = 0
          · rw [if_pos k2]
          · rw [if_neg k2]
            by_cases k3 : ¬ σ.2.1 100 (tn v3) = (-1) ∧ ¬ nI 1000 ≤ nI (σ.1 811 0) - σ.2.1 100 (tn v3)
            · rw [if_neg (show ¬ ¬ (¬ σ.2.1 100 (tn v3) = (-1) ∧ ¬ nI 1000 ≤ nI (σ.1 811 0) - σ.2.1 100 (tn v3)) from fun z => z k3)]
              obtain ⟨y1, y2⟩ := hgood.mp k3
              refine if_neg (fun z => c4 ⟨hA.2.1.symm.trans k1, ?_, y1, y2, by rw [← e5]; exact z⟩)
              rw [← hDD.1]
              omega
            · rw [if_pos k3]
        · rw [if_pos k1]
      rw [hk]
      unfold m_judge m_g
      rw [if_neg (fun z => c4 z.2.1.2), gc_2 c0 (fun z => c4 z.2)]
      exact ⟨Or.inr (Or.inr rfl), ag_n h (show ¬ (3 : Nat) = 0 by decide) rfl⟩
  · have hk : (if ix v1 (σ.1 1002 1) then (if ix v2 (σ.1 1002 4) then (if ix v3 4 then (if ¬ σ.2.1 206 (σ.2.2.1 1001 1 (tn v1)) = nI 2 then (3, 0, σ) else if σ.1 5 (σ.2.2.1 1001 4 (tn v2)) = 0 then (3, 0, σ) else if ¬ (¬ σ.2.1 100 (σ.2.2.1 1001 3 (tn v3)) = (-1) ∧ ¬ nI 1000 ≤ nI (σ.1 811 0) - σ.2.1 100 (σ.2.2.1 1001 3 (tn v3))) then (3, 0, σ) else if σ.1 1002 5 < 30 then (0, nI (σ.1 1002 5), ladd 5 (σ.1 1002 5) (k_j3 (σ.2.2.1 1001 1 (tn v1)) (σ.2.2.1 1001 4 (tn v2)) (σ.2.2.1 1001 3 (tn v3)) (σ.1 1002 5) v1 v2 σ)) else (3, 0, σ)) else (1, 0, σ)) else (1, 0, σ)) else (1, 0, σ) : Nat × Int32 × St) = (1, 0, σ) := by
      by_cases c1 : ix v1 (σ.1 1002 1)
      · rw [if_pos c1]
        by_cases c2 : ix v2 (σ.1 1002 4)
        · rw [if_pos c2]
          by_cases c3 : ix v3 4
          · exact absurd ⟨by rw [← e1]; exact c1, by rw [← e4]; exact c2, c3⟩ c0
          · rw [if_neg c3]
        · rw [if_neg c2]
      · rw [if_neg c1]
    rw [hk]
    unfold m_judge m_g
    rw [if_neg (fun z => c0 z.1), gc_1 c0]
    exact ⟨Or.inr (Or.inl rfl), ag_n h (show ¬ (1 : Nat) = 0 by decide) rfl⟩
