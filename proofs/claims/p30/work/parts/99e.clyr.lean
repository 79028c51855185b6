/-! the start: nothing on either side -/
theorem gau_f : ∀ n, (∀ F k, F ≠ 1002 → F ≠ 1003 → (k_gau n).1 F k = 0) ∧ (∀ j, j ≠ 3 → (k_gau n).1 1002 j = 0) ∧ (∀ F k, F ≠ 100 → F ≠ 1000 → (k_gau n).2.1 F k = 0) ∧ (∀ k, k < n → (k_gau n).2.1 100 k = (-1)) ∧ (∀ F k i, F ≠ 1001 → (k_gau n).2.2.1 F k i = 0) ∧ (∀ i, i < n → (k_gau n).2.2.1 1001 3 i = i) ∧ ∀ F k i, (k_gau n).2.2.2 F k i = 0
  | 0 => ⟨fun _ _ _ _ => rfl, fun _ _ => rfl, fun _ _ _ _ => rfl, fun _ h => absurd h (Nat.not_lt_zero _), fun _ _ _ _ => rfl, fun _ h => absurd h (Nat.not_lt_zero _), fun _ _ _ => rfl⟩
  | n + 1 => by
    obtain ⟨h1, h2, h3, h4, h5, h6, h7⟩ := gau_f n
    have hN := gau_3 n
    have e : k_gau (n + 1) = ladd 3 n (i_1 n (k_gau n)) := rfl
    rw [e]
    generalize k_gau n = σ at *
    refine ⟨fun F k a b => ?_, fun j a => ?_, fun F k a b => ?_, fun k hk => ?_, fun F k i a => ?_, fun i hi => ?_, fun F k i => h7 F k i⟩
    · show up2 (up2 σ.1 1003 3 _) 1002 3 _ F k = 0
      rw [up2_n (fun z => a z.1), up2_n (fun z => b z.1)]
      exact h1 F k a b
    · rw [((ladd_off 3 n 0 (fun _ _ => 0) (i_1 n σ)).1 1002 j (fun z => a z.2)).1]
      exact h2 j a
    · show up2 (up2 (up2 σ.2.1 100 n (-1)) 101 n 0) 1000 3 _ F k = 0
      rw [up2_n (fun z => b z.1)]
      by_cases e1 : F = 101 ∧ k = n
      · rw [e1.1, e1.2, up2_s]
      · rw [up2_n e1, up2_n (fun z => a z.1)]
        exact h3 F k a b
    · rw [((ladd_off 3 n 0 (fun _ _ => 0) (i_1 n σ)).1 100 k (fun z => by omega)).2]
      show up2 (up2 σ.2.1 100 n (-1)) 101 n 0 100 k = (-1)
      rw [up2_n (fun z => absurd z.1 (by decide))]
      by_cases e1 : k = n
      · rw [e1, up2_s]
      · rw [up2_n (fun z => e1 z.2)]
        exact h4 k (by omega)
    · show up3 σ.2.2.1 1001 3 _ n F k i = 0
      rw [up3_n (fun z => a z.1)]
      exact h5 F k i a
    · show up3 σ.2.2.1 1001 3 (σ.1 1002 3) n 1001 3 i = i
      rw [up3_s, hN]
      by_cases e1 : i = n
      · rw [e1, up1_s]
      · rw [up1_n e1]
        exact h6 i (by omega)
theorem rl_0 : Rl wr0 (k_gau 4) σz := by
  obtain ⟨h1, h2, h3, h4, h5, h6, h7⟩ := gau_f 4
  have hci := gau_ci 4 (by decide)
  have hN := gau_3 4
  generalize k_gau 4 = σ at *
  have a0 := h2 0 (by decide)
  have a1 := h2 1 (by decide)
  have a2 := h2 2 (by decide)
  have a4 := h2 4 (by decide)
  have a5 := h2 5 (by decide)
  have a6 := h2 6 (by decide)
  have n1 : ∀ F k, F < 1000 → σ.1 F k = 0 := fun F k z => h1 F k (by omega) (by omega)
  have n3 : ∀ F k i, F < 1000 → σ.2.2.1 F k i = 0 := fun F k i z => h5 F k i (by omega)
  refine ⟨⟨hci, fun k => by rw [n1 402 k (by decide)]; omega, fun k => by rw [n3 702 0 k (by decide)]; omega, fun q hq => by omega⟩, ⟨fun k => by rw [n1 504 k (by decide)]; exact Nat.zero_le _, fun k => by rw [n1 502 k (by decide)]; omega, by rw [n1 812 0 (by decide)]; omega⟩, fun j hj e2 e7 i hi => ?_, ⟨by omega, by omega, by omega, hN, by omega, by omega, by omega⟩, ⟨fun k => by rw [n1 5 k (by decide)]; omega, fun k => by rw [n1 205 k (by decide)]; omega, fun k => by rw [n1 306 k (by decide)]; omega, fun k => by rw [n1 506 k (by decide)]; exact Nat.zero_le _, fun k i => by rw [n3 0 k i (by decide)]; omega, fun k i => by rw [n3 4 k i (by decide)]; omega⟩, ?_, ⟨a0, a1, a2, a4, a5, a6⟩, ⟨n1 811 0 (by decide), n1 812 0 (by decide), Nat.zero_le _, Nat.zero_le _⟩, ⟨fun i hi => by omega, fun _ _ => rfl⟩, ⟨fun k hk => by omega, fun k _ => ⟨rfl, rfl, rfl, rfl, n1 504 k (by decide)⟩⟩, fun x _ => h7 806 0 x, ⟨fun k hk => by omega, fun _ _ => ⟨rfl, rfl, rfl, fun _ _ => rfl⟩⟩, ⟨fun i hi => by omega, fun i j hi _ => by omega⟩, fun g hg => ⟨(h4 g hg).trans (if_pos rfl).symm, h3 101 g (by decide) (by decide)⟩, ⟨fun d hd => by omega, fun _ _ => ⟨rfl, fun _ _ => ⟨rfl, rfl⟩⟩⟩, ⟨fun q hq => by omega, fun _ _ _ _ => rfl⟩, fun i hi => absurd hi (Nat.not_lt_zero _)⟩
  · by_cases c : j = 3
    · subst c
      exact h6 i (by omega)
    · rw [h2 j c] at hi
      omega
  · refine ⟨⟨by decide, by decide, by decide, fun _ => ⟨by decide, by decide⟩, Nat.zero_le _, fun _ => Nat.zero_le _, fun _ => Nat.zero_le _, fun _ => Nat.zero_le _, Nat.zero_le _⟩, fun _ => Nat.zero_le _, fun _ => Nat.zero_le _, fun _ => Nat.zero_le _, fun _ => Nat.zero_le _, fun _ => Nat.zero_lt_succ _, fun _ => Nat.le_refl _, fun _ => Nat.zero_le _, fun _ _ => ⟨Nat.zero_lt_succ _, Nat.zero_lt_succ _⟩, fun i _ => Or.inr (Or.inr ⟨Nat.zero_le _, rfl⟩), fun _ _ => rfl⟩
