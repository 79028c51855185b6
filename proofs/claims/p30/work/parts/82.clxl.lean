/-! ofPallet -/
theorem pl_none {f : Nat → Nat} {p : Nat} : ∀ m i, (∀ j, i ≤ j → j < i + m → ¬ f j = p) → k_pl f p m i = -1
  | 0, _, _ => rfl
  | m + 1, i, h => by
    show (if f i = p then nI i else k_pl f p m (i + 1)) = -1
    rw [if_neg (h i (Nat.le_refl _) (by omega)), pl_none m (i + 1) (fun j h1 h2 => h j (by omega) (by omega))]
theorem pl_at {f : Nat → Nat} {p a : Nat} : ∀ m i, i ≤ a → a < i + m → f a = p → (∀ j, i ≤ j → j < a → ¬ f j = p) → k_pl f p m i = nI a
  | 0, i, h1, h2, _, _ => absurd h2 (by omega)
  | m + 1, i, h1, h2, h3, h4 => by
    show (if f i = p then nI i else k_pl f p m (i + 1)) = nI a
    by_cases e : i = a
    · subst e; rw [if_pos h3]
    · rw [if_neg (h4 i (Nat.le_refl _) (by omega)), pl_at m (i + 1) (by omega) (by omega) h3 (fun j q1 q2 => h4 j (by omega) q2)]
theorem plc_none {f : Nat → Nat} {p : Nat} : ∀ n, (∀ j, j < n → ¬ f j = p) → plc f p n = -1
  | 0, _ => rfl
  | n + 1, h => by
    show (if f n = p then nI n else plc f p n) = -1
    rw [if_neg (h n (by omega)), plc_none n (fun j hj => h j (by omega))]
theorem plc_at {f : Nat → Nat} {p a : Nat} : ∀ n, a < n → f a = p → (∀ j, a < j → j < n → ¬ f j = p) → plc f p n = nI a
  | 0, h, _, _ => absurd h (Nat.not_lt_zero _)
  | n + 1, h, h3, h4 => by
    show (if f n = p then nI n else plc f p n) = nI a
    by_cases e : n = a
    · subst e; rw [if_pos h3]
    · rw [if_neg (h4 n (by omega) (by omega)), plc_at n (by omega) h3 (fun j q1 q2 => h4 j q1 (by omega))]
theorem plc_pl {f q : Nat → Nat} {p n : Nat} (h : ∀ i, i < n → f i = q i) (hd : ∀ i j, i < n → j < i → q i ≠ q j) : plc q p n = k_pl f p n 0 := by
  by_cases c : ∃ a, a < n ∧ q a = p
  · obtain ⟨a, h1, h2⟩ := c
    rw [plc_at n h1 h2 (fun j q1 q2 z => hd j a q2 q1 (z.trans h2.symm)), pl_at n 0 (Nat.zero_le _) (by omega) ((h a h1).trans h2) (fun j _ q2 z => hd a j h1 q2 (by rw [h2, ← z, h j (by omega)]))]
  · rw [plc_none n (fun j hj z => c ⟨j, hj, z⟩), pl_none n 0 (fun j _ q2 z => c ⟨j, by omega, by rw [← h j (by omega)]; exact z⟩)]
theorem p_ofPallet {wr : WrT} {σ τ : St} (h : Rl wr σ τ) (v1 v2 : Int32) : ((k_ofPallet v1 v2 σ).1 = 0 ∨ (k_ofPallet v1 v2 σ).1 = 1 ∨ (k_ofPallet v1 v2 σ).1 = 2) ∧ (m_ofPallet v1 v2 τ).2.2.1 944 0 = nI (wk [1, 2] (k_ofPallet v1 v2 σ).1) ∧ ((k_ofPallet v1 v2 σ).1 = 0 → (m_ofPallet v1 v2 τ).1 = (k_ofPallet v1 v2 σ).2.1) ∧ Rl wr (k_ofPallet v1 v2 σ).2.2 (m_ofPallet v1 v2 τ).2 := by
  unfold k_ofPallet m_ofPallet m_g
  have e0 : σ.1 1002 1 = τ.1 924 0 := h.2.2.2.2.2.2.1.2.1
  have e2 : σ.1 1002 2 = τ.1 926 0 := h.2.2.2.2.2.2.1.2.2.1
  by_cases c1 : ix v1 (σ.1 1002 1)
  · have hid : σ.2.2.1 1001 1 (tn v1) = tn v1 := h.2.2.1 1 (by decide) (by decide) (by decide) _ (ix_tn c1)
    obtain ⟨b1, b2, b3, b4, b5⟩ := h.2.2.2.2.2.2.2.2.2.2.2.1.1 (tn v1) (ix_tn c1)
    have hq := h.2.2.2.2.2.2.2.2.2.2.2.2.1
    rw [hid, if_pos c1]
    rw [e0] at c1
    by_cases c2 : ix v2 4
    · rw [if_pos (show ix v1 (τ.1 924 0) ∧ ix v2 4 ∧ True from ⟨c1, c2, trivial⟩), gc_0 c1 c2 trivial]
      have h6 := ix_tn c2
      have ev := ix_eq c2
      generalize tn v2 = k at h6 ev
      subst ev
      rcases (by omega : k = 0 ∨ k = 1 ∨ k = 2 ∨ k = 3) with rfl | rfl | rfl | rfl
      · rw [if_pos (rfl : nI 0 = nI 0), if_neg (show ¬ ¬ nI 0 = 0 by decide)]
        exact ⟨Or.inl rfl, t944 (τ := τ), fun _ => b2.symm, rl_944 h⟩
      · rw [if_neg (show ¬ nI 1 = nI 0 by decide), if_pos (rfl : nI 1 = nI 1), if_pos (show ¬ nI 1 = 0 by decide), if_neg (show ¬ ¬ nI 1 = nI 1 by decide)]
        exact ⟨Or.inl rfl, t944 (τ := τ), fun _ => by rw [b4], rl_944 h⟩
      · rw [if_neg (show ¬ nI 2 = nI 0 by decide), if_neg (show ¬ nI 2 = nI 1 by decide), if_pos (rfl : nI 2 = nI 2), if_pos (show ¬ nI 2 = 0 by decide), if_pos (show ¬ nI 2 = nI 1 by decide), if_neg (show ¬ ¬ nI 2 = nI 2 by decide)]
        refine ⟨Or.inl rfl, t944 (τ := τ), fun _ => ?_, rl_944 h⟩
        rw [← e2]
        exact plc_pl (fun i hi => (hq.1 i hi).1) hq.2
      · rw [if_neg (show ¬ nI 3 = nI 0 by decide), if_neg (show ¬ nI 3 = nI 1 by decide), if_neg (show ¬ nI 3 = nI 2 by decide), if_pos (rfl : nI 3 = nI 3), if_pos (show ¬ nI 3 = 0 by decide), if_pos (show ¬ nI 3 = nI 1 by decide), if_pos (show ¬ nI 3 = nI 2 by decide)]
        exact ⟨Or.inl rfl, t944 (τ := τ), fun _ => b3.symm, rl_944 h⟩
    · rw [if_neg (ix_ne (j := 0) c2 (by decide) (by decide)), if_neg (ix_ne (j := 1) c2 (by decide) (by decide)), if_neg (ix_ne (j := 2) c2 (by decide) (by decide)), if_neg (ix_ne (j := 3) c2 (by decide) (by decide)), if_neg (show ¬ (ix v1 (τ.1 924 0) ∧ ix v2 4 ∧ True) from fun z => c2 z.2.1), gc_2 c1 c2]
      exact ⟨Or.inr (Or.inr rfl), ag_n h (show ¬ (2 : Nat) = 0 by decide) rfl⟩
  · rw [if_neg c1]
    rw [e0] at c1
    rw [if_neg (show ¬ (ix v1 (τ.1 924 0) ∧ ix v2 4 ∧ True) from fun z => c1 z.1), gc_1 c1]
    exact ⟨Or.inr (Or.inl rfl), ag_n h (show ¬ (1 : Nat) = 0 by decide) rfl⟩
