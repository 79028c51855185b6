/-! judge: the features, on both sides -/
theorem go_tell {σ τ : St} {v w : Int32} (h : GO σ τ) (hid : ∀ i, i < σ.1 1002 0 → σ.2.2.1 1001 0 i = i) (hv : v = (-1) ∨ ix v (σ.1 1002 0)) : GO (k_tell v w σ) (if v = (-1) then τ else m_tells (tn v) w τ) := by
  by_cases c : v = (-1)
  · have hn : ¬ ix v (σ.1 1002 0) := fun z => by
      have h8 : (-1 : Int32).toInt = -1 := rfl
      rw [c] at z
      have := z.1
      omega
    rw [if_pos c, show k_tell v w σ = σ from if_neg hn]
    exact h
  · have hi := hv.resolve_left c
    have ht := ix_tn hi
    rw [if_neg c, show k_tell v w σ = k_hear (σ.2.2.1 1001 0 (tn v)) w σ from if_pos hi, hid _ ht]
    generalize tn v = t at ht
    have e6 : (k_hear t w σ).1 506 = up1 (σ.1 506) t (σ.1 506 t + 1) := by simp [k_hear, wN, wB, up2]
    have eN : ∀ F, F ≠ 506 → (k_hear t w σ).1 F = σ.1 F := fun F z => by
      show up2 σ.1 506 t _ F = _
      unfold up2
      rw [if_neg z]
    have eI : (k_hear t w σ).2.1 = σ.2.1 := rfl
    have e3 : ∀ k, (k_hear t w σ).2.2.2 503 k = if k = t then up1 (σ.2.2.2 503 t) (σ.1 506 t % 3) w else σ.2.2.2 503 k := fun k => by
      show up3 σ.2.2.2 503 t (σ.1 506 t % 3) w 503 k = _
      by_cases q : k = t
      · rw [if_pos q, q, up3_s]
      · rw [if_neg q, up3_n (fun z => q z.2)]
    have f3 : (m_tells t w τ).2.2.1 913 0 = up1 (τ.2.2.1 913 0) t (τ.2.2.1 913 0 t + 1) := by
      unfold m_tells
      exact wA_s
    have fA : ∀ F, F ≠ 913 → (m_tells t w τ).2.2.1 F = τ.2.2.1 F := fun F z => by
      show up3 τ.2.2.1 913 0 t _ F = _
      unfold up3
      rw [if_neg z]
    have fB : ∀ F, F ≠ 912 → (m_tells t w τ).2.2.2 F = τ.2.2.2 F := fun F z => by
      unfold m_tells
      show up3 (up3 (up3 τ.2.2.2 912 0 (3 * t + 2) _) 912 0 (3 * t + 1) _) 912 0 (3 * t) w F = _
      unfold up3
      rw [if_neg z, if_neg z, if_neg z]
    have f2 : ∀ j, (m_tells t w τ).2.2.2 912 0 j = if j = 3 * t then w else if j = 3 * t + 1 then τ.2.2.2 912 0 (3 * t) else if j = 3 * t + 2 then τ.2.2.2 912 0 (3 * t + 1) else τ.2.2.2 912 0 j := fun j => by
      unfold m_tells
      show up3 (up3 (up3 τ.2.2.2 912 0 (3 * t + 2) (τ.2.2.2 912 0 (3 * t + 1))) 912 0 (3 * t + 1) (up3 τ.2.2.2 912 0 (3 * t + 2) (τ.2.2.2 912 0 (3 * t + 1)) 912 0 (3 * t))) 912 0 (3 * t) w 912 0 j = _
      rw [up3_s, up3_s, up3_s]
      by_cases q0 : j = 3 * t
      · rw [if_pos q0, q0, up1_s]
      · rw [if_neg q0, up1_n q0]
        by_cases q1 : j = 3 * t + 1
        · rw [if_pos q1, q1, up1_s, up1_n (by omega)]
        · rw [if_neg q1, up1_n q1]
          by_cases q2 : j = 3 * t + 2
          · rw [if_pos q2, q2, up1_s]
          · rw [if_neg q2, up1_n q2]
    refine ⟨fun k hk => ?_, fun k hk => ?_⟩
    · rw [eN 1002 (by decide)] at hk
      obtain ⟨d0, d1, d2, d3, d4, d5, d6, d7, d8, d9⟩ := h.1 k hk
      rw [eI, eN 502 (by decide), eN 504 (by decide), e6, e3, f3, fA 907 (by decide), fA 908 (by decide), fB 906 (by decide), fB 910 (by decide), fB 911 (by decide)]
      refine ⟨d0, d1, d2, d3, d4, d5, ?_, d7, d8, fun j hj3 hj => ?_⟩
      · by_cases q : k = t
        · rw [q, up1_s, up1_s, ← q, d6]
        · rw [up1_n q, up1_n q]; exact d6
      · rw [f2]
        by_cases q : k = t
        · subst q
          rw [if_pos rfl]
          rw [up1_s] at hj ⊢
          rcases (by omega : j = 0 ∨ j = 1 ∨ j = 2) with e | e | e
          · subst e
            have : (σ.1 506 k + 1 - 1 - 0) % 3 = σ.1 506 k % 3 := by omega
            rw [this, up1_s, if_pos (by omega)]
          · subst e
            rw [up1_n (by omega), if_neg (by omega), if_pos rfl]
            have := d9 0 (by decide) (by omega)
            have e9 : (σ.1 506 k + 1 - 1 - 1) % 3 = (σ.1 506 k - 1 - 0) % 3 := by omega
            rw [e9]
            exact this
          · subst e
            rw [up1_n (by omega), if_neg (by omega), if_neg (by omega), if_pos rfl]
            have := d9 1 (by decide) (by omega)
            have e9 : (σ.1 506 k + 1 - 1 - 2) % 3 = (σ.1 506 k - 1 - 1) % 3 := by omega
            rw [e9]
            exact this
        · rw [up1_n q] at hj ⊢
          rw [if_neg q, if_neg (by omega), if_neg (by omega), if_neg (by omega)]
          exact d9 j hj3 hj
    · rw [eN 1002 (by decide)] at hk
      obtain ⟨d0, d1, d2, d3, d4⟩ := h.2 k hk
      have e : k ≠ t := by omega
      rw [fA 908 (by decide), fB 910 (by decide), fB 911 (by decide), f3, up1_n e, eN 504 (by decide)]
      exact ⟨d0, d1, d2, d3, d4⟩
theorem tells_913 {t k : Nat} {w : Int32} {τ : St} : (m_tells t w τ).2.2.1 913 0 k ≤ τ.2.2.1 913 0 k + 1 := by
  have : (m_tells t w τ).2.2.1 913 0 = up1 (τ.2.2.1 913 0) t (τ.2.2.1 913 0 t + 1) := by
    unfold m_tells
    exact wA_s
  rw [this]
  by_cases e : k = t
  · rw [e, up1_s]; exact Nat.le_refl _
  · rw [up1_n e]; exact Nat.le_succ _
theorem tells_A {t F : Nat} {w : Int32} {τ : St} (h : F ≠ 913) : (m_tells t w τ).2.2.1 F = τ.2.2.1 F := by
  show up3 τ.2.2.1 913 0 t _ F = _
  unfold up3
  rw [if_neg h]
theorem tells_B {t F : Nat} {w : Int32} {τ : St} (h : F ≠ 912) : (m_tells t w τ).2.2.2 F = τ.2.2.2 F := by
  unfold m_tells
  show up3 (up3 (up3 τ.2.2.2 912 0 (3 * t + 2) _) 912 0 (3 * t + 1) _) 912 0 (3 * t) w F = _
  unfold up3
  rw [if_neg h, if_neg h, if_neg h]
theorem jst_c {P D G M k : Nat} {τ : St} {v w : Int32} {t : Nat} (hv : τ.2.2.2 917 0 (((144 * P) + (12 * (τ.2.2.1 930 0 ((6 * ((6 * D) + k)) + 1)))) + (τ.2.2.1 930 0 (6 * ((6 * D) + k)))) = v) (hw : ((msz (((144 * P) + (12 * (τ.2.2.1 930 0 ((6 * ((6 * D) + k)) + 1)))) + (τ.2.2.1 930 0 (6 * ((6 * D) + k)))) τ) + (((nI (τ.1 900 0)) - (nI (τ.2.2.1 927 0 G))) / (nI 100))) - (nI (1000 * (τ.2.2.1 930 0 ((6 * ((6 * D) + k)) + 2)))) = w) (ht : (τ.2.2.1 930 0 ((6 * ((6 * D) + k)) + 3)) + (if τ.2.2.1 930 0 (6 * (6 * D + k) + 5) = 0 then 0 else τ.2.2.1 930 0 (6 * (6 * D + k) + 4)) = t) : m_jst P D G M k τ = if v = (-1) then (wA (wB (wB τ 933 0 (((18 * M) + 5) + k) w) 933 0 (((18 * M) + 11) + k) (nI t)) 930 0 ((6 * ((6 * D) + k)) + 5) ((τ.2.2.1 930 0 ((6 * ((6 * D) + k)) + 5)) - (if τ.2.2.1 930 0 (6 * (6 * D + k) + 5) = 0 then 0 else 1))) else m_tells (tn v) w (wA (wB (wB τ 933 0 (((18 * M) + 5) + k) w) 933 0 (((18 * M) + 11) + k) (nI t)) 930 0 ((6 * ((6 * D) + k)) + 5) ((τ.2.2.1 930 0 ((6 * ((6 * D) + k)) + 5)) - (if τ.2.2.1 930 0 (6 * (6 * D + k) + 5) = 0 then 0 else 1))) := by
  unfold m_jst
  rw [hv, hw, ht]
/-- n features are measured -/
def JR (P D G K : Nat) (σ0 σi τ0 τx : St) (n : Nat) (σ τ : St) : Prop := FJ σi σ ∧ FRm [] [] [930, 913] [933, 912] τx τ ∧
  (∀ i, i < 6 → σ.2.2.2 304 K i = (if i < n then ju_a P D G i σ0 else 0) ∧ σ.2.2.2 305 K i = (if i < n then nI (ju_t D i σ0) else 0)) ∧
  (∀ k, k ≠ K → σ.2.2.2 304 k = σ0.2.2.2 304 k ∧ σ.2.2.2 305 k = σ0.2.2.2 305 k ∧ σ.1 306 k = σ0.1 306 k) ∧ σ.1 306 K = n ∧
  (∀ j, τ.2.2.2 933 0 j = if 18 * K + 5 ≤ j ∧ j < 18 * K + 5 + n then ju_a P D G (j - (18 * K + 5)) σ0 else if 18 * K + 11 ≤ j ∧ j < 18 * K + 11 + n then nI (ju_t D (j - (18 * K + 11)) σ0) else τx.2.2.2 933 0 j) ∧
  (∀ j, τ.2.2.1 930 0 j = if 36 * D ≤ j ∧ j < 36 * D + 6 * n ∧ j % 6 = 5 then τ0.2.2.1 930 0 j - 1 else τ0.2.2.1 930 0 j) ∧ GO σ τ ∧
  (∀ k, σ.1 506 k ≤ σ0.1 506 k + n) ∧ ∀ k, τ.2.2.1 913 0 k ≤ τ0.2.2.1 913 0 k + n
