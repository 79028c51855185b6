/-! tool -/
theorem sum_cong {f g : Nat → Nat} : ∀ n, (∀ i, i < n → f i = g i) → sumL f n = sumL g n
  | 0, _ => rfl
  | n + 1, h => by
    show sumL f n + f n = sumL g n + g n
    rw [sum_cong n (fun i hi => h i (by omega)), h n (by omega)]
/-- a new object changes nothing elsewhere -/
theorem new_n {C j k : Nat} {σ σ9 : St} (ho : Off C k σ σ9) {F q : Nat} (hF : F < 1000) (e : ¬ (F / 100 = C ∧ q = k)) : ((ladd j k σ9).1 F q = σ.1 F q ∧ (ladd j k σ9).2.1 F q = σ.2.1 F q) ∧ (ladd j k σ9).2.2.1 F q = σ.2.2.1 F q ∧ (ladd j k σ9).2.2.2 F q = σ.2.2.2 F q := by
  have h1 := (ladd_off j k 0 (fun _ _ => 0) σ9).1 F q (fun z => by omega)
  have h2 := (ladd_off j k 0 (fun _ _ => 0) σ9).2.1 F q (fun z => by omega)
  have h3 := ho F q e
  exact ⟨⟨h1.1.trans h3.1.1, h1.2.trans h3.1.2⟩, h2.1.trans h3.2.1, h2.2.trans h3.2.2⟩
theorem p_tool {wr : WrT} {σ τ : St} (h : Rl wr σ τ) (v1 v2 : Int32) : ((k_tool v1 v2 σ).1 = 0 ∨ (k_tool v1 v2 σ).1 = 2 ∨ (k_tool v1 v2 σ).1 = 3) ∧ (m_tool v1 v2 τ).2.2.1 944 0 = nI (wk [2, 3] (k_tool v1 v2 σ).1) ∧ ((k_tool v1 v2 σ).1 = 0 → (m_tool v1 v2 τ).1 = (k_tool v1 v2 σ).2.1) ∧ Rl wr (k_tool v1 v2 σ).2.2 (m_tool v1 v2 τ).2 := by
  unfold k_tool m_tool m_g
  have e0 : σ.1 1002 0 = τ.1 914 0 := h.2.2.2.2.2.2.1.1
  by_cases c1 : ix v1 4
  · rw [if_neg (show ¬ ¬ ix v1 4 from fun z => z c1)]
    by_cases c2 : 1 ≤ v2.toInt ∧ v2.toInt ≤ 500
    · rw [if_pos c2]
      have hv2 : tn v2 ≤ 500 := by show v2.toInt.toNat ≤ 500; omega
      by_cases c3 : σ.1 1002 0 < 16
      · rw [if_pos c3, ← e0, if_pos (show (ix v1 4 ∧ (1 ≤ v2.toInt ∧ v2.toInt ≤ 500)) ∧ σ.1 1002 0 < 16 ∧ True from ⟨⟨c1, c2⟩, c3, trivial⟩), gc_0 ⟨c1, c2⟩ c3 trivial]
        obtain ⟨⟨ci, k2, k3, k4⟩, ⟨t1, t2, t3⟩, a3, ⟨n0, n1, n2, n3, n4, n5, n6⟩, ⟨r1, r2, r3, r4, r5, r6⟩, ⟨⟨z1, z2, z3, z4, z5, z6, z7, z8, z9⟩, s2, s3, s4, s5, s6, s7, s8, s9, s10, s11⟩, ⟨g0, g1, g2, g4, g5, g6⟩, ⟨u1, u2, u3, u4⟩, a9, a10, a11, a12, a13, a14, a15, a16, a17⟩ := h
        generalize hn : σ.1 1002 0 = n at *
        generalize htt : tn v2 = t at *
        have hci : CI (ladd 0 n (i_5 n (nI n) v1 t σ)) := ci_new ci (by decide) i_5_off (by decide) rfl hn.symm (by omega)
        have hri : RI (ladd 0 n (i_5 n (nI n) v1 t σ)) := ri_new a3 (by decide) i_5_off hn.symm
        have q6 : (ladd 0 n (i_5 n (nI n) v1 t σ)).1 1002 0 = n + 1 := by
          rw [ladd_N]
          show σ.1 1002 0 + 1 = n + 1
          rw [hn]
        have o := fun (F q : Nat) (hF : F < 1000) (e : q ≠ n) => new_n (j := 0) (i_5_off (k := n) (v1 := nI n) (v2 := v1) (v3 := t) (σ := σ)) hF (q := q) (fun z => e z.2)
        generalize hσ1 : ladd 0 n (i_5 n (nI n) v1 t σ) = σ1 at *
        have f0 : σ1.2.1 500 n = nI n := by rw [← hσ1]; show up2 (up2 (up2 (up2 σ.2.1 500 n (nI n)) 501 n v1) 505 n 0) 507 n 0 500 n = _; rw [up2_n (fun z => absurd z.1 (by decide)), up2_n (fun z => absurd z.1 (by decide)), up2_n (fun z => absurd z.1 (by decide)), up2_s]
        have f1 : σ1.2.1 501 n = v1 := by rw [← hσ1]; show up2 (up2 (up2 (up2 σ.2.1 500 n (nI n)) 501 n v1) 505 n 0) 507 n 0 501 n = _; rw [up2_n (fun z => absurd z.1 (by decide)), up2_n (fun z => absurd z.1 (by decide)), up2_s]
        have f2 : σ1.1 502 n = t := by rw [← hσ1]; show up2 (up2 (up2 σ.1 502 n t) 504 n 0) 506 n 0 502 n = _; rw [up2_n (fun z => absurd z.1 (by decide)), up2_n (fun z => absurd z.1 (by decide)), up2_s]
        have f4 : σ1.1 504 n = 0 := by rw [← hσ1]; show up2 (up2 (up2 σ.1 502 n t) 504 n 0) 506 n 0 504 n = _; rw [up2_n (fun z => absurd z.1 (by decide)), up2_s]
        have f5 : σ1.2.1 505 n = 0 := by rw [← hσ1]; show up2 (up2 (up2 (up2 σ.2.1 500 n (nI n)) 501 n v1) 505 n 0) 507 n 0 505 n = _; rw [up2_n (fun z => absurd z.1 (by decide)), up2_s]
        have f6 : σ1.1 506 n = 0 := by rw [← hσ1]; show up2 (up2 (up2 σ.1 502 n t) 504 n 0) 506 n 0 506 n = _; rw [up2_s]
        have f7 : σ1.2.1 507 n = 0 := by rw [← hσ1]; show up2 (up2 (up2 (up2 σ.2.1 500 n (nI n)) 501 n v1) 505 n 0) 507 n 0 507 n = _; rw [up2_s]
        have h504 : ∀ k, σ1.1 504 k = σ.1 504 k := fun k => by
          by_cases e : k = n
          · subst e
            rw [f4]
            exact (a10.2 k (by omega)).2.2.2.2.symm
          · exact (o 504 k (by decide) e).1.1
        have h506 : ∀ k, σ1.1 506 k ≤ σ.1 506 k := fun k => by
          by_cases e : k = n
          · subst e; rw [f6]; exact Nat.zero_le _
          · exact Nat.le_of_eq (o 506 k (by decide) e).1.1
        have x9 : ∀ F k, F < 500 → σ1.1 F k = σ.1 F k ∧ σ1.2.1 F k = σ.2.1 F k := fun F k hF => by
          rw [← hσ1]
          exact (new_n (j := 0) i_5_off (by omega) (fun z => by omega)).1
        refine ⟨Or.inl rfl, t944 (τ := τ), fun _ => by show nI (n + 1 - 1) = nI n; rw [Nat.add_sub_cancel], ?_⟩
        have hT : TI σ1 := ⟨fun k => by
          rw [h504]
          by_cases e : k = n
          · subst e; rw [← h504, f4]; exact Nat.zero_le _
          · rw [(o 502 k (by decide) e).1.1]; exact t1 k, fun k => by
          by_cases e : k = n
          · subst e; rw [f2]; exact hv2
          · rw [(o 502 k (by decide) e).1.1]; exact t2 k, by rw [← hσ1]; exact t3⟩
        have hS : SB (wN (wA (wB (wI τ 944 0 (nI 0)) 906 0 n v1) 907 0 n t) 914 0 (n + 1)) := ⟨⟨z1, z2, z3, z4, by show n + 1 ≤ 16; omega, fun k => by
          show up3 τ.2.2.1 907 0 n t 907 0 k ≤ 500
          rw [up3_s]
          by_cases e : k = n
          · subst e; rw [up1_s]; exact hv2
          · rw [up1_n e]; exact z6 k, z7, z8, z9⟩, s2, s3, s4, s5, s6, s7, s8, s9, fun i hi => (s10 i hi).imp (fun z => z) (fun y => y.imp (fun z => ⟨z.1, by
          show _ < ((n + 1 : Nat) : Int)
          have := z.2
          rw [← g0] at this
          have h9 : (τ.2.2.2 917 0 i).toInt < (n : Int) := this
          show (τ.2.2.2 917 0 i).toInt < _
          omega⟩) (fun z => z)), s11⟩
        have hO : GO σ1 (wN (wA (wB (wI τ 944 0 (nI 0)) 906 0 n v1) 907 0 n t) 914 0 (n + 1)) := by
          refine ⟨fun k hk => ?_, fun k hk => ?_⟩
          · rw [q6] at hk
            show σ1.2.1 500 k = nI k ∧ σ1.2.1 501 k = up3 τ.2.2.2 906 0 n v1 906 0 k ∧ ix (σ1.2.1 501 k) 4 ∧ σ1.1 502 k = up3 τ.2.2.1 907 0 n t 907 0 k ∧ σ1.1 504 k = τ.2.2.1 908 0 k ∧ σ1.2.1 505 k = τ.2.2.2 910 0 k ∧ σ1.1 506 k = τ.2.2.1 913 0 k ∧ σ1.2.1 507 k = τ.2.2.2 911 0 k ∧ (σ1.2.1 507 k = 0 ∨ σ1.2.1 507 k = 1) ∧ ∀ j, j < 3 → j < σ1.1 506 k → σ1.2.2.2 503 k ((σ1.1 506 k - 1 - j) % 3) = τ.2.2.2 912 0 (3 * k + j)
            rw [up3_s, up3_s]
            by_cases e : k = n
            · subst e
              obtain ⟨d0, d1, d2, d3, d4⟩ := a10.2 k (by omega)
              rw [f0, f1, f2, f4, f5, f6, f7, up1_s, up1_s, d0, d1, d2, d3]
              exact ⟨rfl, rfl, c1, rfl, rfl, rfl, rfl, rfl, Or.inl rfl, fun j _ hj => absurd hj (Nat.not_lt_zero _)⟩
            · rw [up1_n e, up1_n e, (o 500 k (by decide) e).1.2, (o 501 k (by decide) e).1.2, (o 502 k (by decide) e).1.1, (o 504 k (by decide) e).1.1, (o 505 k (by decide) e).1.2, (o 506 k (by decide) e).1.1, (o 507 k (by decide) e).1.2, (o 503 k (by decide) e).2.2]
              exact a10.1 k (by omega)
          · rw [q6] at hk
            obtain ⟨d0, d1, d2, d3, d4⟩ := a10.2 k (by omega)
            exact ⟨d0, d1, d2, d3, by rw [h504]; exact d4⟩
        have hB : RB σ1 := by
          have e5 : σ1.1 1002 5 = σ.1 1002 5 := by rw [← hσ1]; rfl
          refine ⟨fun k => by rw [(x9 5 k (by decide)).1]; exact r1 k, fun k => by rw [(x9 205 k (by decide)).1]; exact r2 k, fun k => by rw [(x9 306 k (by decide)).1]; exact r3 k, fun k => by rw [e5]; exact Nat.le_trans (h506 k) (r4 k), fun k i => ?_, fun k i => ?_⟩
          · rw [← hσ1]; exact r5 k i
          · rw [← hσ1]; exact r6 k i
        have hU : GT σ1 (wN (wA (wB (wI τ 944 0 (nI 0)) 906 0 n v1) 907 0 n t) 914 0 (n + 1)) := ⟨by rw [← hσ1]; exact u1, by rw [← hσ1]; exact u2, by
          rw [sum_cong (f := fun k => σ1.1 504 k) (g := fun k => σ.1 504 k) 16 (fun i _ => h504 i)]
          exact u3, u4⟩
        refine ⟨⟨hci, ?_⟩, hT, hri, ?_, hB, hS, ?_, hU, ?_, hO, ?_, ?_, ?_, ?_, ?_, ?_, a17⟩
        · rw [← hσ1]; exact ⟨k2, k3, k4⟩
        · refine ⟨by rw [q6]; omega, ?_⟩
          rw [← hσ1]; exact ⟨n1, n2, n3, n4, n5, n6⟩
        · refine ⟨q6, ?_⟩
          rw [← hσ1]; exact ⟨g1, g2, g4, g5, g6⟩
        · rw [← hσ1]; exact a9
        · rw [← hσ1]; exact a11
        · rw [← hσ1]; exact a12
        · rw [← hσ1]; exact a13
        · rw [← hσ1]; exact a14
        · rw [← hσ1]; exact a15
        · rw [← hσ1]; exact a16
      · rw [if_neg c3]
        rw [e0] at c3
        rw [if_neg (show ¬ ((ix v1 4 ∧ (1 ≤ v2.toInt ∧ v2.toInt ≤ 500)) ∧ τ.1 914 0 < 16 ∧ True) from fun z => c3 z.2.1), gc_2 ⟨c1, c2⟩ c3]
        exact ⟨Or.inr (Or.inr rfl), ag_n h (show ¬ (3 : Nat) = 0 by decide) rfl⟩
    · rw [if_neg c2, if_neg (show ¬ ((ix v1 4 ∧ (1 ≤ v2.toInt ∧ v2.toInt ≤ 500)) ∧ τ.1 914 0 < 16 ∧ True) from fun z => c2 z.1.2), gc_1 (fun z => c2 z.2)]
      exact ⟨Or.inr (Or.inl rfl), ag_n h (show ¬ (2 : Nat) = 0 by decide) rfl⟩
  · rw [if_pos c1, if_neg (show ¬ ((ix v1 4 ∧ (1 ≤ v2.toInt ∧ v2.toInt ≤ 500)) ∧ τ.1 914 0 < 16 ∧ True) from fun z => c1 z.1.1), gc_1 (fun z => c1 z.1)]
    exact ⟨Or.inr (Or.inl rfl), ag_n h (show ¬ (2 : Nat) = 0 by decide) rfl⟩
