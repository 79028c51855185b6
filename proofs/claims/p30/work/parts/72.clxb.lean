/-! simple calls -/
theorem gt_900 {σ τ : St} (hT : TI σ) (h : GT σ τ) : τ.1 900 0 ≤ 1008000 := by
  have key : ∀ n, sumL (fun k => σ.1 504 k) n ≤ 500 * n := by
    intro n
    induction n with
    | zero => exact Nat.le_refl _
    | succ n ih =>
      have h1 := hT.1 n
      have h2 := hT.2.1 n
      show sumL (fun k => σ.1 504 k) n + σ.1 504 n ≤ _
      omega
  have h1 := key 16
  have h2 := h.2.2.1
  omega
theorem p_idle {wr : WrT} {σ τ : St} (h : Rl wr σ τ) (v : Int32) : ((k_idle v σ).1 = 0 ∨ (k_idle v σ).1 = 2 ∨ (k_idle v σ).1 = 3) ∧ (m_idle v τ).2.2.1 944 0 = nI (wk [2, 3] (k_idle v σ).1) ∧ ((k_idle v σ).1 = 0 → (m_idle v τ).1 = (k_idle v σ).2.1) ∧ Rl wr (k_idle v σ).2.2 (m_idle v τ).2 := by
  unfold k_idle m_idle m_g
  have e1 : σ.1 811 0 = τ.1 900 0 := h.2.2.2.2.2.2.2.1.1
  by_cases c1 : 1 ≤ v.toInt ∧ v.toInt ≤ 500
  · by_cases c2 : σ.1 811 0 + tn v ≤ 1000000
    · rw [if_pos c1, if_pos c2, if_pos ⟨c1, ⟨c1, by rw [← e1]; exact c2⟩, trivial⟩, gc_0 c1 ⟨c1, by rw [← e1]; exact c2⟩ trivial]
      obtain ⟨a1, a2, a3, a4, a5, a6, a7, a8, a9, a10, a11, a12, a13, a14, a15, a16, a17⟩ := h
      obtain ⟨g1, g2, g3, g4⟩ := a8
      obtain ⟨t1, t2, t3⟩ := a2
      obtain ⟨⟨s1, s2, s3, s4, s5, s6, s7, s8, s9⟩, b2, b3, b4, b5, b6, b7, b8, b9, b10⟩ := a6
      have hS : SI (wN (wN (wI τ 944 0 (nI 0)) 900 0 (τ.1 900 0 + tn v)) 901 0 (if τ.1 901 0 ≤ tn v then 0 else τ.1 901 0 - tn v)) := ⟨s1, s2, s3, s4, s5, s6, s7, s8, by
        show (if τ.1 901 0 ≤ tn v then 0 else τ.1 901 0 - tn v) ≤ 99
        split <;> omega⟩
      refine ⟨Or.inl rfl, t944 (τ := τ), fun _ => by rw [e1], a1, ⟨t1, t2, ?_⟩, a3, a4, a5, ⟨hS, b2, b3, b4, b5, b6, fun k => ?_, b8, b9, b10⟩, a7, ⟨?_, ?_, ?_, hS.2.2.2.2.2.2.2.2⟩, a9, a10, a11, a12, a13, a14, a15, a16, a17⟩
      · show σ.1 812 0 - tn v ≤ 99
        omega
      · show τ.2.2.1 927 0 k ≤ τ.1 900 0 + tn v
        have := b7 k
        omega
      · show σ.1 811 0 + tn v = τ.1 900 0 + tn v
        rw [e1]
      · show σ.1 812 0 - tn v = (if τ.1 901 0 ≤ tn v then 0 else τ.1 901 0 - tn v)
        rw [g2]
        split <;> omega
      · show τ.1 900 0 + tn v ≤ 1000000 + _
        omega
    · rw [if_pos c1, if_neg c2, if_neg (fun z => c2 (by rw [e1]; exact z.2.1.2)), gc_2 c1 (fun z => c2 (by rw [e1]; exact z.2))]
      exact ⟨Or.inr (Or.inr rfl), ag_n h (show ¬ (3 : Nat) = 0 by decide) rfl⟩
  · rw [if_neg c1, if_neg (fun z => c1 z.1), gc_1 c1]
    exact ⟨Or.inr (Or.inl rfl), ag_n h (show ¬ (2 : Nat) = 0 by decide) rfl⟩
theorem p_calibrate {wr : WrT} {σ τ : St} (h : Rl wr σ τ) (v1 v2 : Int32) : ((k_calibrate v1 v2 σ).1 = 0 ∨ (k_calibrate v1 v2 σ).1 = 1 ∨ (k_calibrate v1 v2 σ).1 = 2) ∧ (m_calibrate v1 v2 τ).2.2.1 944 0 = nI (wk [1, 2] (k_calibrate v1 v2 σ).1) ∧ ((k_calibrate v1 v2 σ).1 = 0 → (m_calibrate v1 v2 τ).1 = (k_calibrate v1 v2 σ).2.1) ∧ Rl wr (k_calibrate v1 v2 σ).2.2 (m_calibrate v1 v2 τ).2 := by
  unfold k_calibrate m_calibrate m_g
  have e3 : σ.1 1002 3 = 4 := h.2.2.2.1.2.2.2.1
  rw [e3]
  by_cases c1 : ix v1 4
  · have hid : σ.2.2.1 1001 3 (tn v1) = tn v1 := h.2.2.1 3 (by decide) (by decide) (by decide) _ (by rw [e3]; exact ix_tn c1)
    rw [hid]
    by_cases c2 : 0 ≤ v2.toInt ∧ v2.toInt ≤ 30
    · rw [if_pos c1, if_pos c2, if_pos ⟨c1, c2, trivial⟩, gc_0 c1 c2 trivial]
      obtain ⟨a1, a2, a3, a4, a5, a6, a7, a8, a9, a10, a11, a12, a13, a14, a15, a16, a17⟩ := h
      obtain ⟨b1, b2, b3, b4, b5, b6, b7, b8, b9, b10⟩ := a6
      refine ⟨Or.inl rfl, t944 (τ := τ), fun _ => by rw [a8.1], a1, a2, a3, a4, a5, ⟨b1, b2, b3, b4, b5, b6, fun k => ?_, b8, b9, b10⟩, a7, a8, a9, a10, a11, a12, a13, fun g hg => ?_, a15, a16, a17⟩
      · show up3 τ.2.2.1 927 0 (tn v1) (τ.1 900 0) 927 0 k ≤ τ.1 900 0
        rw [up3_s]
        unfold up1
        split
        · exact Nat.le_refl _
        · exact b7 k
      · show up2 (up2 σ.2.1 100 (tn v1) (nI (σ.1 811 0))) 101 (tn v1) v2 100 g = (if up3 (up3 τ.2.2.2 928 0 (tn v1) (nI 1)) 929 0 (tn v1) v2 928 0 g = 0 then (-1) else nI (up3 τ.2.2.1 927 0 (tn v1) (τ.1 900 0) 927 0 g)) ∧ up2 (up2 σ.2.1 100 (tn v1) (nI (σ.1 811 0))) 101 (tn v1) v2 101 g = up3 (up3 τ.2.2.2 928 0 (tn v1) (nI 1)) 929 0 (tn v1) v2 929 0 g
        rw [up2_n (fun z => absurd z.1 (by decide)), up3_n (F := 929) (F' := 928) (fun z => absurd z.1 (by decide)), up3_s, up3_s, up3_s]
        by_cases e : g = tn v1
        · subst e
          rw [up2_s, up2_s, up1_s, up1_s, up1_s, if_neg (by decide), a8.1]
          exact ⟨rfl, rfl⟩
        · rw [up2_n (fun z => e z.2), up2_n (fun z => e z.2), up1_n e, up1_n e, up1_n e, up2_n (fun z => e z.2), up3_n (fun z => absurd z.1 (by decide))]
          exact a14 g hg
    · rw [if_pos c1, if_neg c2, if_neg (fun z => c2 z.2.1), gc_2 c1 c2]
      exact ⟨Or.inr (Or.inr rfl), ag_n h (show ¬ (2 : Nat) = 0 by decide) rfl⟩
  · rw [if_neg c1, if_neg (fun z => c1 z.1), gc_1 c1]
    exact ⟨Or.inr (Or.inl rfl), ag_n h (show ¬ (1 : Nat) = 0 by decide) rfl⟩
