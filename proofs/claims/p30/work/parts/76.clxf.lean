/-! load -/
theorem cnt_cong {f g : Nat → Int32} : ∀ n, (∀ i, i < n → f i = g i) → cntZ f n = cntZ g n
  | 0, _ => rfl
  | n + 1, h => by
    show cntZ f n + (if f n = 0 then 0 else 1) = cntZ g n + (if g n = 0 then 0 else 1)
    rw [cnt_cong n (fun i hi => h i (by omega)), h n (by omega)]
theorem p_load {wr : WrT} {σ τ : St} (h : Rl wr σ τ) (v1 v2 : Int32) (h01 : v2 = 0 ∨ v2 = 1) : ((k_load v1 v2 σ).1 = 0 ∨ (k_load v1 v2 σ).1 = 1 ∨ (k_load v1 v2 σ).1 = 3) ∧ (m_load v1 (¬ v2 = 0) τ).2.2.1 944 0 = nI (wk [1, 3] (k_load v1 v2 σ).1) ∧ ((k_load v1 v2 σ).1 = 0 → (m_load v1 (¬ v2 = 0) τ).1 = (k_load v1 v2 σ).2.1) ∧ Rl wr (k_load v1 v2 σ).2.2 (m_load v1 (¬ v2 = 0) τ).2 := by
  unfold k_load m_load m_g
  have e0 : σ.1 1002 0 = τ.1 914 0 := h.2.2.2.2.2.2.1.1
  have hb : b2i (¬ v2 = 0) = v2 := by
    unfold b2i
    rcases h01 with rfl | rfl
    · rw [if_neg (by decide)]; rfl
    · rw [if_pos (by decide)]; rfl
  by_cases c1 : ix v1 (σ.1 1002 0)
  · have hi := ix_tn c1
    have hid : σ.2.2.1 1001 0 (tn v1) = tn v1 := h.2.2.1 0 (by decide) (by decide) (by decide) _ hi
    have hids : ∀ i, i < σ.1 1002 0 → σ.2.2.1 1001 0 i = i := h.2.2.1 0 (by decide) (by decide) (by decide)
    have hg := h.2.2.2.2.2.2.2.2.2.1.1
    rw [hid, if_pos c1]
    have c1' := c1
    rw [e0] at c1'
    have b7 := (hg (tn v1) hi).2.2.2.2.2.2.2.1
    have hcnt : cntZ (fun i => σ.2.1 507 (σ.2.2.1 1001 0 i)) (σ.1 1002 0) = cntZ (τ.2.2.2 911 0) (τ.1 914 0) := by
      rw [← e0]
      exact cnt_cong _ (fun i hi => by rw [hids i hi]; exact (hg i hi).2.2.2.2.2.2.2.1)
    generalize hk : tn v1 = k at *
    have hG : GO (wI σ 507 k v2) (wB (wI τ 944 0 (nI 0)) 911 0 k v2) := by
      refine ⟨fun q hq => ?_, fun q hq => ?_⟩
      · obtain ⟨d0, d1, d2, d3, d4, d5, d6, d7, d8, d9⟩ := hg q hq
        refine ⟨?_, ?_, ?_, d3, d4, ?_, d6, ?_, ?_, d9⟩
        · exact d0
        · exact d1
        · exact d2
        · exact d5
        · show up2 σ.2.1 507 k v2 507 q = up3 τ.2.2.2 911 0 k v2 911 0 q
          rw [up3_s]
          by_cases e : q = k
          · subst e; rw [up2_s, up1_s]
          · rw [up2_n (fun z => e z.2), up1_n e]; exact d7
        · show up2 σ.2.1 507 k v2 507 q = 0 ∨ up2 σ.2.1 507 k v2 507 q = 1
          by_cases e : q = k
          · subst e; rw [up2_s]; exact h01
          · rw [up2_n (fun z => e z.2)]; exact d8
      · have hq : σ.1 1002 0 ≤ q := hq
        obtain ⟨d0, d1, d2, d3, d4⟩ := h.2.2.2.2.2.2.2.2.2.1.2 q hq
        refine ⟨d0, d1, ?_, d3, d4⟩
        show up3 τ.2.2.2 911 0 k v2 911 0 q = 0
        rw [up3_s, up1_n (by omega)]
        exact d2
    have key : ∀ r : Int32, r = nI (cntZ ((wB (wI τ 944 0 (nI 0)) 911 0 k v2).2.2.2 911 0) (τ.1 914 0)) → ((0 : Nat) = 0 ∨ (0 : Nat) = 1 ∨ (0 : Nat) = 3) ∧ (wB (wI τ 944 0 (nI 0)) 911 0 k v2).2.1 944 0 = nI (wk [1, 3] 0) ∧ ((0 : Nat) = 0 → r = nI (cntZ (fun i => (wI σ 507 k v2).2.1 507 ((wI σ 507 k v2).2.2.1 1001 0 i)) ((wI σ 507 k v2).1 1002 0))) ∧ Rl wr (wI σ 507 k v2) (wB (wI τ 944 0 (nI 0)) 911 0 k v2) := by
      intro r hr
      obtain ⟨a1, a2, a3, a4, a5, a6, a7, a8, a9, a10, a11, a12, a13, a14, a15, a16, a17⟩ := h
      refine ⟨Or.inl rfl, t944 (τ := τ), fun _ => ?_, a1, a2, a3, a4, a5, a6, a7, a8, a9, hG, a11, a12, a13, a14, a15, a16, a17⟩
      rw [hr, ← e0]
      exact congrArg nI (cnt_cong _ (fun i hi => by
        show _ = (wI σ 507 k v2).2.1 507 (σ.2.2.1 1001 0 i)
        rw [hids i hi]
        exact (hG.1 i hi).2.2.2.2.2.2.2.1.symm))
    by_cases c2 : v2 = 0
    · have P2 : ix v1 (τ.1 914 0) ∧ (¬ ¬ v2 = 0 ∨ ¬ τ.2.2.2 911 0 k = 0 ∨ cntZ (τ.2.2.2 911 0) (τ.1 914 0) < 6) := ⟨c1', Or.inl (fun z => z c2)⟩
      rw [if_pos c2, if_pos (show ix v1 (τ.1 914 0) ∧ (ix v1 (τ.1 914 0) ∧ (¬ ¬ v2 = 0 ∨ ¬ τ.2.2.2 911 0 k = 0 ∨ cntZ (τ.2.2.2 911 0) (τ.1 914 0) < 6)) ∧ True from ⟨c1', P2, trivial⟩), gc_0 c1' P2 trivial, hb]
      exact key _ rfl
    · rw [if_neg c2]
      by_cases c3 : σ.2.1 507 k = 0
      · rw [if_neg (show ¬ ¬ σ.2.1 507 k = 0 from fun z => z c3), hcnt]
        by_cases c4 : cntZ (τ.2.2.2 911 0) (τ.1 914 0) < 6
        · have P2 : ix v1 (τ.1 914 0) ∧ (¬ ¬ v2 = 0 ∨ ¬ τ.2.2.2 911 0 k = 0 ∨ cntZ (τ.2.2.2 911 0) (τ.1 914 0) < 6) := ⟨c1', Or.inr (Or.inr c4)⟩
          rw [if_pos c4, if_pos (show ix v1 (τ.1 914 0) ∧ (ix v1 (τ.1 914 0) ∧ (¬ ¬ v2 = 0 ∨ ¬ τ.2.2.2 911 0 k = 0 ∨ cntZ (τ.2.2.2 911 0) (τ.1 914 0) < 6)) ∧ True from ⟨c1', P2, trivial⟩), gc_0 c1' P2 trivial, hb]
          exact key _ rfl
        · have P2 : ¬ (ix v1 (τ.1 914 0) ∧ (¬ ¬ v2 = 0 ∨ ¬ τ.2.2.2 911 0 k = 0 ∨ cntZ (τ.2.2.2 911 0) (τ.1 914 0) < 6)) := fun z => z.2.elim (fun y => y c2) (fun y => y.elim (fun x => x (by rw [← b7]; exact c3)) c4)
          rw [if_neg c4, if_neg (show ¬ (ix v1 (τ.1 914 0) ∧ (ix v1 (τ.1 914 0) ∧ (¬ ¬ v2 = 0 ∨ ¬ τ.2.2.2 911 0 k = 0 ∨ cntZ (τ.2.2.2 911 0) (τ.1 914 0) < 6)) ∧ True) from fun z => P2 z.2.1), gc_2 c1' P2]
          exact ⟨Or.inr (Or.inr rfl), ag_n h (show ¬ (3 : Nat) = 0 by decide) rfl⟩
      · have P2 : ix v1 (τ.1 914 0) ∧ (¬ ¬ v2 = 0 ∨ ¬ τ.2.2.2 911 0 k = 0 ∨ cntZ (τ.2.2.2 911 0) (τ.1 914 0) < 6) := ⟨c1', Or.inr (Or.inl (by rw [← b7]; exact c3))⟩
        rw [if_pos (show ¬ σ.2.1 507 k = 0 from c3), if_pos (show ix v1 (τ.1 914 0) ∧ (ix v1 (τ.1 914 0) ∧ (¬ ¬ v2 = 0 ∨ ¬ τ.2.2.2 911 0 k = 0 ∨ cntZ (τ.2.2.2 911 0) (τ.1 914 0) < 6)) ∧ True from ⟨c1', P2, trivial⟩), gc_0 c1' P2 trivial, hb]
        exact key _ rfl
  · rw [if_neg c1]
    rw [e0] at c1
    rw [if_neg (show ¬ (ix v1 (τ.1 914 0) ∧ (ix v1 (τ.1 914 0) ∧ (¬ ¬ v2 = 0 ∨ ¬ τ.2.2.2 911 0 (tn v1) = 0 ∨ cntZ (τ.2.2.2 911 0) (τ.1 914 0) < 6)) ∧ True) from fun z => c1 z.1), gc_1 c1]
    exact ⟨Or.inr (Or.inl rfl), ag_n h (show ¬ (1 : Nat) = 0 by decide) rfl⟩
