/-! program, drawing -/
theorem ri_new {C j k : Nat} {σ σ9 : St} (hR : RI σ) (hC5 : C ≤ 5) (ho : Off C k σ σ9) (hk : k = σ.1 1002 j) : RI (ladd j k σ9) := by
  intro q hq h2 h7 i hi
  have e2 : σ9.1 1002 q = σ.1 1002 q := (ho 1002 q (by omega)).1.1
  have eA : σ9.2.2.1 1001 q = σ.2.2.1 1001 q := (ho 1001 q (by omega)).2.1
  by_cases e : q = j
  · subst e
    rw [ladd_N, e2] at hi
    rw [ladd_A, eA, e2]
    by_cases d : i = σ.1 1002 q
    · subst d; rw [up1_s]; exact hk
    · rw [up1_n d]; exact hR q hq h2 h7 i (by omega)
  · rw [((ladd_off j k 0 (fun _ _ => 0) σ9).1 1002 q (fun z => e z.2)).1, e2] at hi
    rw [((ladd_off j k 0 (fun _ _ => 0) σ9).2.1 1001 q (fun z => e z.2)).1, eA]
    exact hR q hq h2 h7 i hi
theorem p_program {wr : WrT} {σ τ : St} (h : Rl wr σ τ) : ((k_program σ).1 = 0 ∨ (k_program σ).1 = 3) ∧ (m_program τ).2.2.1 944 0 = nI (wk [3] (k_program σ).1) ∧ ((k_program σ).1 = 0 → (m_program τ).1 = (k_program σ).2.1) ∧ Rl wr (k_program σ).2.2 (m_program τ).2 := by
  unfold k_program m_program m_g
  have e0 : σ.1 1002 6 = τ.1 904 0 := h.2.2.2.2.2.2.1.2.2.2.2.2
  by_cases c1 : σ.1 1002 6 < 6
  · rw [if_pos c1, ← e0, if_pos (show σ.1 1002 6 < 6 ∧ True ∧ True from ⟨c1, trivial, trivial⟩), gc_0 c1 trivial trivial]
    obtain ⟨⟨ci, k2, k3, k4⟩, a2, a3, ⟨n0, n1, n2, n3, n4, n5, n6⟩, a5, a6, ⟨g0, g1, g2, g4, g5, g6⟩, a8, a9, a10, a11, a12, a13, a14, a15, a16, a17⟩ := h
    generalize hn : σ.1 1002 6 = n at *
    have hci : CI (ladd 6 n (i_4 n σ)) := ci_new ci (by decide) i_4_off (by decide) rfl hn.symm (by omega)
    have hri : RI (ladd 6 n (i_4 n σ)) := ri_new a3 (by decide) i_4_off hn.symm
    have q6 : (ladd 6 n (i_4 n σ)).1 1002 6 = n + 1 := by
      rw [ladd_N]
      show σ.1 1002 6 + 1 = n + 1
      rw [hn]
    have q402 : ∀ q, (ladd 6 n (i_4 n σ)).1 402 q = up2 σ.1 402 n 0 402 q := fun _ => rfl
    have q400 : ∀ q, q ≠ n → (ladd 6 n (i_4 n σ)).2.2.2 400 q = σ.2.2.2 400 q := fun q e => by
      show up2 (up2 σ.2.2.2 400 n (fun _ => 0)) 401 n (fun _ => 0) 400 q = _
      rw [up2_n (fun z => e z.2), up2_n (fun z => e z.2)]
    have q401 : ∀ q, q ≠ n → (ladd 6 n (i_4 n σ)).2.2.2 401 q = σ.2.2.2 401 q := fun q e => by
      show up2 (up2 σ.2.2.2 400 n (fun _ => 0)) 401 n (fun _ => 0) 401 q = _
      rw [up2_n (fun z => e z.2), up2_n (fun z => e z.2)]
    refine ⟨Or.inl rfl, t944 (τ := τ), fun _ => by show nI (n + 1 - 1) = nI n; rw [Nat.add_sub_cancel], ⟨hci, fun k => ?_, k3, fun q hq j hj h5 => ?_⟩, a2, hri, ⟨n0, n1, n2, n3, n4, n5, by rw [q6]; omega⟩, a5, a6, ⟨g0, g1, g2, g4, g5, q6⟩, a8, ⟨fun i hi => ?_, fun i hi => ?_⟩, a10, a11, a12, ⟨fun i hi => ?_, a13.2⟩, a14, a15, a16, a17⟩
    · rw [q402]
      by_cases e : k = n
      · subst e; rw [up2_s]; omega
      · rw [up2_n (fun z => e z.2)]; exact k2 k
    · rw [q6] at hq
      rw [q402] at hj
      by_cases e : q = n
      · subst e; rw [up2_s] at hj; omega
      · rw [up2_n (fun z => e z.2)] at hj
        rw [q400 q e] at h5
        rw [q401 q e]
        exact k4 q (by omega) j hj h5
    · rw [q6] at hi
      rw [q402]
      by_cases e : i = n
      · subst e
        rw [up2_s]
        exact ⟨(a9.2 i (by omega)).symm, fun j hj => absurd hj (Nat.not_lt_zero _)⟩
      · rw [up2_n (fun z => e z.2), q400 i e, q401 i e]
        exact a9.1 i (by omega)
    · rw [q6] at hi
      exact a9.2 i (by omega)
    · obtain ⟨d1, d2, d3, d4, d5, d6⟩ := a13.1 i hi
      refine ⟨d1, d2, d3, d4, ?_, d6⟩
      rw [q6]
      rw [hn] at d5
      exact Nat.lt_succ_of_lt d5
  · rw [if_neg c1]
    rw [e0] at c1
    rw [if_neg (show ¬ (τ.1 904 0 < 6 ∧ True ∧ True) from fun z => c1 z.1), gc_1 c1]
    exact ⟨Or.inr rfl, ag_n h (show ¬ (3 : Nat) = 0 by decide) rfl⟩
theorem p_drawing {wr : WrT} {σ τ : St} (h : Rl wr σ τ) : ((k_drawing σ).1 = 0 ∨ (k_drawing σ).1 = 3) ∧ (m_drawing τ).2.2.1 944 0 = nI (wk [3] (k_drawing σ).1) ∧ ((k_drawing σ).1 = 0 → (m_drawing τ).1 = (k_drawing σ).2.1) ∧ Rl wr (k_drawing σ).2.2 (m_drawing τ).2 := by
  unfold k_drawing m_drawing m_g
  have e0 : σ.1 1002 4 = τ.1 932 0 := h.2.2.2.2.2.2.1.2.2.2.1
  by_cases c1 : σ.1 1002 4 < 4
  · rw [if_pos c1, ← e0, if_pos (show σ.1 1002 4 < 4 ∧ True ∧ True from ⟨c1, trivial, trivial⟩), gc_0 c1 trivial trivial]
    obtain ⟨⟨ci, k2, k3, k4⟩, a2, a3, ⟨n0, n1, n2, n3, n4, n5, n6⟩, ⟨r1, r2, r3, r4, r5, r6⟩, a6, ⟨g0, g1, g2, g4, g5, g6⟩, a8, a9, a10, a11, a12, a13, a14, a15, a16, a17⟩ := h
    generalize hn : σ.1 1002 4 = n at *
    have hci : CI (ladd 4 n (i_0 n σ)) := ci_new ci (by decide) i_0_off (by decide) rfl hn.symm (by omega)
    have hri : RI (ladd 4 n (i_0 n σ)) := ri_new a3 (by decide) i_0_off hn.symm
    have q6 : (ladd 4 n (i_0 n σ)).1 1002 4 = n + 1 := by
      rw [ladd_N]
      show σ.1 1002 4 + 1 = n + 1
      rw [hn]
    have q5 : ∀ q, (ladd 4 n (i_0 n σ)).1 5 q = up2 σ.1 5 n 0 5 q := fun _ => rfl
    have o := fun (F : Nat) (q : Nat) (e : q ≠ n) => (i_0_off (k := n) (σ := σ) F q (fun z => e z.2)).2.1
    have qA : ∀ F q, F < 100 → q ≠ n → (ladd 4 n (i_0 n σ)).2.2.1 F q = σ.2.2.1 F q := fun F q hF e => by
      rw [((ladd_off 4 n 0 (fun _ _ => 0) (i_0 n σ)).2.1 F q (fun z => by omega)).1]
      exact o F q e
    have q0 : (ladd 4 n (i_0 n σ)).2.2.1 0 n = fun _ => 0 := by
      rw [((ladd_off 4 n 0 (fun _ _ => 0) (i_0 n σ)).2.1 0 n (fun z => by omega)).1]
      show up2 (up2 (up2 (up2 (up2 σ.2.2.1 0 n (fun _ => 0)) 1 n (fun _ => 0)) 2 n (fun _ => 0)) 3 n (fun _ => 0)) 4 n (fun _ => 0) 0 n = _
      rw [up2_n (fun z => absurd z.1 (by decide)), up2_n (fun z => absurd z.1 (by decide)), up2_n (fun z => absurd z.1 (by decide)), up2_n (fun z => absurd z.1 (by decide)), up2_s]
    have q3 : (ladd 4 n (i_0 n σ)).2.2.1 3 n = fun _ => 0 := by
      rw [((ladd_off 4 n 0 (fun _ _ => 0) (i_0 n σ)).2.1 3 n (fun z => by omega)).1]
      show up2 (up2 (up2 (up2 (up2 σ.2.2.1 0 n (fun _ => 0)) 1 n (fun _ => 0)) 2 n (fun _ => 0)) 3 n (fun _ => 0)) 4 n (fun _ => 0) 3 n = _
      rw [up2_n (fun z => absurd z.1 (by decide)), up2_s]
    have q4 : (ladd 4 n (i_0 n σ)).2.2.1 4 n = fun _ => 0 := by
      rw [((ladd_off 4 n 0 (fun _ _ => 0) (i_0 n σ)).2.1 4 n (fun z => by omega)).1]
      show up2 (up2 (up2 (up2 (up2 σ.2.2.1 0 n (fun _ => 0)) 1 n (fun _ => 0)) 2 n (fun _ => 0)) 3 n (fun _ => 0)) 4 n (fun _ => 0) 4 n = _
      rw [up2_s]
    refine ⟨Or.inl rfl, t944 (τ := τ), fun _ => by show nI (n + 1 - 1) = nI n; rw [Nat.add_sub_cancel], ⟨hci, k2, k3, k4⟩, a2, hri, ⟨n0, n1, n2, n3, by rw [q6]; omega, n5, n6⟩, ⟨fun k => ?_, r2, r3, r4, fun k i => ?_, fun k i => ?_⟩, a6, ⟨g0, g1, g2, q6, g5, g6⟩, a8, a9, a10, a11, a12, a13, a14, ⟨fun k hk => ?_, fun k hk => ?_⟩, a16, a17⟩
    · rw [q5]
      by_cases e : k = n
      · subst e; rw [up2_s]; omega
      · rw [up2_n (fun z => e z.2)]; exact r1 k
    · by_cases e : k = n
      · subst e; rw [q0]; exact (by decide : (0 : Nat) < 144)
      · rw [qA 0 k (by omega) e]; exact r5 k i
    · by_cases e : k = n
      · subst e; rw [q4]; exact (by decide : (0 : Nat) ≤ 9)
      · rw [qA 4 k (by omega) e]; exact r6 k i
    · rw [q6] at hk
      rw [q5]
      by_cases e : k = n
      · subst e
        rw [up2_s, q3, q4]
        obtain ⟨d1, d2⟩ := a15.2 k (by omega)
        exact ⟨d1.symm, fun i hi => ⟨fun hlt => absurd hlt (Nat.not_lt_zero _), (d2 i hi).1.symm, (d2 i hi).2.symm⟩⟩
      · rw [up2_n (fun z => e z.2), qA 0 k (by omega) e, qA 1 k (by omega) e, qA 2 k (by omega) e, qA 3 k (by omega) e, qA 4 k (by omega) e]
        exact a15.1 k (by omega)
    · rw [q6] at hk
      exact a15.2 k (by omega)
  · rw [if_neg c1]
    rw [e0] at c1
    rw [if_neg (show ¬ (τ.1 932 0 < 4 ∧ True ∧ True) from fun z => c1 z.1), gc_1 c1]
    exact ⟨Or.inr rfl, ag_n h (show ¬ (3 : Nat) = 0 by decide) rfl⟩
