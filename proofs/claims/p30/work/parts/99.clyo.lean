/-! correct, minute, warmth -/
theorem clamp_eq {x : Int32} : (if (-200) < (if x < nI 200 then x else nI 200) then (if x < nI 200 then x else nI 200) else (-200)) = (if x ≤ nI 200 then (if (-200) ≤ x then x else (-200)) else nI 200) := by
  have h2 : (nI 200).toInt = 200 := rfl
  have h3 : (-200 : Int32).toInt = -200 := rfl
  by_cases c1 : x < nI 200
  · rw [if_pos c1, if_pos (show x ≤ nI 200 by rw [fa_le]; rw [Int32.lt_iff_toInt_lt] at c1; omega)]
    by_cases c2 : (-200) < x
    · rw [if_pos c2, if_pos (show (-200) ≤ x by rw [fa_le]; rw [Int32.lt_iff_toInt_lt] at c2; omega)]
    · rw [if_neg c2]
      by_cases c3 : (-200) ≤ x
      · rw [if_pos c3]
        refine (fa_eq _ _).mpr ?_
        rw [Int32.lt_iff_toInt_lt] at c2
        rw [fa_le] at c3
        omega
      · rw [if_neg c3]
  · rw [if_neg c1, if_pos (show (-200) < nI 200 by decide)]
    by_cases c2 : x ≤ nI 200
    · rw [if_pos c2, if_pos (show (-200) ≤ x by rw [fa_le]; rw [Int32.lt_iff_toInt_lt] at c1; omega)]
      refine (fa_eq _ _).mpr ?_
      rw [Int32.lt_iff_toInt_lt] at c1
      rw [fa_le] at c2
      omega
    · rw [if_neg c2]
theorem pos3 {f : Nat → Int32} : cPos f 3 = 3 ↔ (¬ f 0 ≤ 0 ∧ ¬ f 1 ≤ 0 ∧ ¬ f 2 ≤ 0) := by
  simp only [cPos]
  by_cases c0 : f 0 ≤ 0 <;> by_cases c1 : f 1 ≤ 0 <;> by_cases c2 : f 2 ≤ 0 <;> simp [c0, c1, c2]
theorem neg3 {f : Nat → Int32} : cNeg f 3 = 3 ↔ (¬ 0 ≤ f 0 ∧ ¬ 0 ≤ f 1 ∧ ¬ 0 ≤ f 2) := by
  simp only [cNeg]
  by_cases c0 : 0 ≤ f 0 <;> by_cases c1 : 0 ≤ f 1 <;> by_cases c2 : 0 ≤ f 2 <;> simp [c0, c1, c2]
theorem sum3 {f : Nat → Int32} : cSum f 3 = f 0 + f 1 + f 2 := by
  show nI 0 + f 0 + f 1 + f 2 = _
  have : nI 0 + f 0 = f 0 := Int32.zero_add (f 0)
  rw [this]
theorem rot3 {f : Nat → Int32} {U : Nat} (hU : 3 ≤ U) {a0 a1 a2 : Int32} (h0 : f ((U - 1 - 0) % 3) = a0) (h1 : f ((U - 1 - 1) % 3) = a1) (h2 : f ((U - 1 - 2) % 3) = a2) : f 0 + f 1 + f 2 = a0 + a1 + a2 ∧ ((¬ f 0 ≤ 0 ∧ ¬ f 1 ≤ 0 ∧ ¬ f 2 ≤ 0) ↔ (¬ a0 ≤ 0 ∧ ¬ a1 ≤ 0 ∧ ¬ a2 ≤ 0)) ∧ ((¬ 0 ≤ f 0 ∧ ¬ 0 ≤ f 1 ∧ ¬ 0 ≤ f 2) ↔ (¬ 0 ≤ a0 ∧ ¬ 0 ≤ a1 ∧ ¬ 0 ≤ a2)) := by
  rcases (by omega : U % 3 = 0 ∨ U % 3 = 1 ∨ U % 3 = 2) with e | e | e
  · have e0 : (U - 1 - 0) % 3 = 2 := by omega
    have e1 : (U - 1 - 1) % 3 = 1 := by omega
    have e2 : (U - 1 - 2) % 3 = 0 := by omega
    rw [e0] at h0; rw [e1] at h1; rw [e2] at h2
    subst h0; subst h1; subst h2
    refine ⟨?_, ⟨fun z => ⟨z.2.2, z.2.1, z.1⟩, fun z => ⟨z.2.2, z.2.1, z.1⟩⟩, ⟨fun z => ⟨z.2.2, z.2.1, z.1⟩, fun z => ⟨z.2.2, z.2.1, z.1⟩⟩⟩
    rw [Int32.add_comm (f 0) (f 1), Int32.add_comm (f 1 + f 0) (f 2), ← Int32.add_assoc]
  · have e0 : (U - 1 - 0) % 3 = 0 := by omega
    have e1 : (U - 1 - 1) % 3 = 2 := by omega
    have e2 : (U - 1 - 2) % 3 = 1 := by omega
    rw [e0] at h0; rw [e1] at h1; rw [e2] at h2
    subst h0; subst h1; subst h2
    refine ⟨?_, ⟨fun z => ⟨z.1, z.2.2, z.2.1⟩, fun z => ⟨z.1, z.2.2, z.2.1⟩⟩, ⟨fun z => ⟨z.1, z.2.2, z.2.1⟩, fun z => ⟨z.1, z.2.2, z.2.1⟩⟩⟩
    rw [Int32.add_assoc, Int32.add_comm (f 1) (f 2), ← Int32.add_assoc]
  · have e0 : (U - 1 - 0) % 3 = 1 := by omega
    have e1 : (U - 1 - 1) % 3 = 0 := by omega
    have e2 : (U - 1 - 2) % 3 = 2 := by omega
    rw [e0] at h0; rw [e1] at h1; rw [e2] at h2
    subst h0; subst h1; subst h2
    refine ⟨?_, ⟨fun z => ⟨z.2.1, z.1, z.2.2⟩, fun z => ⟨z.2.1, z.1, z.2.2⟩⟩, ⟨fun z => ⟨z.2.1, z.1, z.2.2⟩, fun z => ⟨z.2.1, z.1, z.2.2⟩⟩⟩
    rw [Int32.add_comm (f 0) (f 1)]
theorem p_correct {wr : WrT} {σ τ : St} (h : Rl wr σ τ) (v1 : Int32) : ((k_correct v1 σ).1 = 0 ∨ (k_correct v1 σ).1 = 1) ∧ (m_correct v1 τ).2.2.1 944 0 = nI (wk [1] (k_correct v1 σ).1) ∧ ((k_correct v1 σ).1 = 0 → (m_correct v1 τ).1 = (k_correct v1 σ).2.1) ∧ Rl wr (k_correct v1 σ).2.2 (m_correct v1 τ).2 := by
  have e0 : σ.1 1002 0 = τ.1 914 0 := h.2.2.2.2.2.2.1.1
  unfold k_correct m_correct m_g
  by_cases c1 : ix v1 (σ.1 1002 0)
  · have hi := ix_tn c1
    have hid : σ.2.2.1 1001 0 (tn v1) = tn v1 := h.2.2.1 0 (by decide) (by decide) (by decide) _ hi
    have c2 : ix v1 (τ.1 914 0) := by rw [← e0]; exact c1
    rw [if_pos c1, if_pos (show ix v1 (τ.1 914 0) ∧ True ∧ True from ⟨c2, trivial, trivial⟩), gc_0 c2 trivial trivial, hid]
    generalize tn v1 = t at *
    have hO := h.2.2.2.2.2.2.2.2.2.1
    obtain ⟨d0, d1, d2, d3, d4, d5, d6, d7, d8, d9⟩ := hO.1 t hi
    have no : ((0 : Nat) = 0 ∨ (0 : Nat) = 1) ∧ (wI τ 944 0 (nI 0)).2.1 944 0 = nI (wk [1] 0) ∧ ((0 : Nat) = 0 → nI 0 = nI 0) ∧ Rl wr σ (wI τ 944 0 (nI 0)) := ⟨Or.inl rfl, t944, fun _ => rfl, rl_944 h⟩
    unfold k_corr
    by_cases c3 : σ.1 506 t < 3
    · rw [if_pos c3, if_pos (show τ.2.2.1 913 0 t < 3 by rw [← d6]; exact c3)]
      exact no
    · rw [if_neg c3, if_neg (show ¬ τ.2.2.1 913 0 t < 3 by rw [← d6]; exact c3)]
      have w0 := d9 0 (by decide) (by omega)
      have w1 := d9 1 (by decide) (by omega)
      have w2 := d9 2 (by decide) (by omega)
      obtain ⟨r1, r2, r3⟩ := rot3 (f := σ.2.2.2 503 t) (by omega) w0 w1 w2
      rw [sum3, r1, clamp_eq, ← d5]
      have a0 : 3 * t + 0 = 3 * t := rfl
      rw [a0]
      rw [a0] at r2 r3
      generalize hV : (if σ.2.1 505 t + (τ.2.2.2 912 0 (3 * t) + τ.2.2.2 912 0 (3 * t + 1) + τ.2.2.2 912 0 (3 * t + 2)) / nI 3 / nI 2 ≤ nI 200 then (if (-200) ≤ σ.2.1 505 t + (τ.2.2.2 912 0 (3 * t) + τ.2.2.2 912 0 (3 * t + 1) + τ.2.2.2 912 0 (3 * t + 2)) / nI 3 / nI 2 then σ.2.1 505 t + (τ.2.2.2 912 0 (3 * t) + τ.2.2.2 912 0 (3 * t + 1) + τ.2.2.2 912 0 (3 * t + 2)) / nI 3 / nI 2 else (-200)) else nI 200) = V
      have yes : ((0 : Nat) = 0 ∨ (0 : Nat) = 1) ∧ (wA (wB (wI τ 944 0 (nI 0)) 910 0 t V) 913 0 t 0).2.1 944 0 = nI (wk [1] 0) ∧ ((0 : Nat) = 0 → V - σ.2.1 505 t = V - σ.2.1 505 t) ∧ Rl wr (wN (wI σ 505 t V) 506 t 0) (wA (wB (wI τ 944 0 (nI 0)) 910 0 t V) 913 0 t 0) := by
        obtain ⟨a1, a2, a3, a4, ⟨b1, b2, b3, b4, b5, b6⟩, ⟨s1, s2, s3, s4, s5, s6, s7, s8, s9, s10, s11⟩, a7, a8, a9, a10, a11, a12, a13, a14, a15, a16, a17⟩ := h
        refine ⟨Or.inl rfl, t944 (τ := τ), fun _ => rfl, a1, a2, a3, a4, ⟨b1, b2, b3, fun k => ?_, b5, b6⟩, ⟨s1, s2, s3, s4, fun k => ?_, s6, s7, s8, s9, s10, s11⟩, a7, a8, a9, ⟨fun k hk => ?_, fun k hk => ?_⟩, a11, a12, a13, a14, a15, a16, a17⟩
        · show up2 σ.1 506 t 0 506 k ≤ 6 * σ.1 1002 5
          by_cases e : k = t
          · rw [e, up2_s]; exact Nat.zero_le _
          · rw [up2_n (fun z => e z.2)]; exact b4 k
        · show up3 τ.2.2.1 913 0 t 0 913 0 k ≤ 6 * τ.1 934 0
          rw [up3_s]
          by_cases e : k = t
          · rw [e, up1_s]; exact Nat.zero_le _
          · rw [up1_n e]; exact s5 k
        · obtain ⟨f0, f1, f2, f3, f4, f5, f6, f7, f8, f9⟩ := a10.1 k hk
          have z5 : (wN (wI σ 505 t V) 506 t 0).2.1 505 k = up1 (σ.2.1 505) t V k := by
            show up2 σ.2.1 505 t V 505 k = _
            unfold up2
            rw [if_pos rfl]
          have z6 : (wN (wI σ 505 t V) 506 t 0).1 506 k = up1 (σ.1 506) t 0 k := by
            show up2 σ.1 506 t 0 506 k = _
            unfold up2
            rw [if_pos rfl]
          have y5 : (wA (wB (wI τ 944 0 (nI 0)) 910 0 t V) 913 0 t 0).2.2.2 910 0 k = up1 (τ.2.2.2 910 0) t V k := by
            show up3 τ.2.2.2 910 0 t V 910 0 k = _
            rw [up3_s]
          have y6 : (wA (wB (wI τ 944 0 (nI 0)) 910 0 t V) 913 0 t 0).2.2.1 913 0 k = up1 (τ.2.2.1 913 0) t 0 k := by
            show up3 τ.2.2.1 913 0 t 0 913 0 k = _
            rw [up3_s]
          rw [z5, z6, y5, y6]
          refine ⟨f0, f1, f2, f3, f4, ?_, ?_, f7, f8, ?_⟩
          · by_cases e : k = t
            · rw [e, up1_s, up1_s]
            · rw [up1_n e, up1_n e]; exact f5
          · by_cases e : k = t
            · rw [e, up1_s, up1_s]
            · rw [up1_n e, up1_n e]; exact f6
          · by_cases e : k = t
            · rw [e, up1_s]
              exact fun j _ hj => absurd hj (Nat.not_lt_zero _)
            · rw [up1_n e]; exact f9
        · have hk : σ.1 1002 0 ≤ k := hk
          obtain ⟨f0, f1, f2, f3, f4⟩ := a10.2 k hk
          have e : k ≠ t := by omega
          refine ⟨f0, ?_, f2, ?_, f4⟩
          · show up3 τ.2.2.2 910 0 t V 910 0 k = 0
            rw [up3_s, up1_n e]; exact f1
          · show up3 τ.2.2.1 913 0 t 0 913 0 k = 0
            rw [up3_s, up1_n e]; exact f3
      by_cases c4 : ¬ τ.2.2.2 912 0 (3 * t) ≤ 0 ∧ ¬ τ.2.2.2 912 0 (3 * t + 1) ≤ 0 ∧ ¬ τ.2.2.2 912 0 (3 * t + 2) ≤ 0
      · rw [if_pos (Or.inl (pos3.mpr (r2.mpr c4))), if_pos c4]
        exact yes
      · rw [if_neg c4]
        by_cases c5 : ¬ 0 ≤ τ.2.2.2 912 0 (3 * t) ∧ ¬ 0 ≤ τ.2.2.2 912 0 (3 * t + 1) ∧ ¬ 0 ≤ τ.2.2.2 912 0 (3 * t + 2)
        · rw [if_pos (Or.inr (neg3.mpr (r3.mpr c5))), if_pos c5]
          exact yes
        · rw [if_neg (fun z => z.elim (fun y => c4 (r2.mp (pos3.mp y))) (fun y => c5 (r3.mp (neg3.mp y)))), if_neg c5]
          exact no
  · rw [if_neg c1]
    rw [e0] at c1
    rw [if_neg (show ¬ (ix v1 (τ.1 914 0) ∧ True ∧ True) from fun z => c1 z.1), gc_1 c1]
    exact ⟨Or.inr rfl, ag_n h (show ¬ (1 : Nat) = 0 by decide) rfl⟩
theorem p_minute {wr : WrT} {σ τ : St} (h : Rl wr σ τ) : nI (σ.1 811 0) = nI (τ.1 900 0) ∧ nI (σ.1 812 0) = nI (τ.1 901 0) := ⟨by rw [h.2.2.2.2.2.2.2.1.1], by rw [h.2.2.2.2.2.2.2.1.2.1]⟩
