/-! judge: one feature, all features -/
theorem tell_B {v w : Int32} {σ : St} {F : Nat} (h : F ≠ 503) : (k_tell v w σ).2.2.2 F = σ.2.2.2 F := by
  unfold k_tell
  split
  · show up3 σ.2.2.2 503 _ _ w F = _
    unfold up3
    rw [if_neg h]
  · rfl
theorem jp_3 {P D G K n : Nat} {σ : St} : (k_jp P D G K n σ).2.2.2 304 K = up1 (σ.2.2.2 304 K) n (ju_a P D G n σ) ∧ (k_jp P D G K n σ).2.2.2 305 K = up1 (σ.2.2.2 305 K) n (nI (ju_t D n σ)) ∧ (k_jp P D G K n σ).1 306 K = n + 1 := by
  unfold k_jp
  generalize ju_a P D G n σ = a
  generalize nI (ju_t D n σ) = t
  refine ⟨?_, ?_, ?_⟩
  · show up3 (up3 σ.2.2.2 304 K n a) 305 K n t 304 K = _
    rw [up3_n (fun z => absurd z.1 (by decide)), up3_s]
  · show up3 (up3 σ.2.2.2 304 K n a) 305 K n t 305 K = _
    rw [up3_s, up3_n (fun z => absurd z.1 (by decide))]
  · exact wN_sv
theorem jp_k {P D G K n k : Nat} {σ : St} (h : k ≠ K) : (k_jp P D G K n σ).2.2.2 304 k = σ.2.2.2 304 k ∧ (k_jp P D G K n σ).2.2.2 305 k = σ.2.2.2 305 k ∧ (k_jp P D G K n σ).1 306 k = σ.1 306 k := by
  unfold k_jp
  generalize ju_a P D G n σ = a
  generalize nI (ju_t D n σ) = t
  refine ⟨?_, ?_, ?_⟩
  · show up3 (up3 σ.2.2.2 304 K n a) 305 K n t 304 k = _
    rw [up3_n (fun z => h z.2), up3_n (fun z => h z.2)]
  · show up3 (up3 σ.2.2.2 304 K n a) 305 K n t 305 k = _
    rw [up3_n (fun z => h z.2), up3_n (fun z => h z.2)]
  · show up2 σ.1 306 K (n + 1) 306 k = _
    rw [up2_n (fun z => h z.2)]
theorem jp_N {P D G K n F : Nat} {σ : St} (h : F ≠ 306) : (k_jp P D G K n σ).1 F = σ.1 F := by
  unfold k_jp
  show up2 σ.1 306 K (n + 1) F = _
  unfold up2
  rw [if_neg h]
theorem jr_step {wr : WrT} {σ0 σi τ0 τx σ τ : St} {P D G K n : Nat} (h : Rl wr σ0 τ0) (hP : P < σ0.1 1002 1) (hD : D < σ0.1 1002 4) (hG : σ0.2.1 100 G = nI (τ0.2.2.1 927 0 G)) (hn : n < σ0.1 5 D) (i1 : ∀ F k, F ≠ 306 → σi.1 F k = σ0.1 F k) (i2 : ∀ F k, ¬ (300 ≤ F ∧ F ≤ 303) → σi.2.1 F k = σ0.2.1 F k) (i3 : σi.2.2.1 = σ0.2.2.1) (i4 : ∀ F, F ≠ 304 → F ≠ 305 → σi.2.2.2 F = σ0.2.2.2 F) (x1 : τx.1 = τ0.1) (x3 : τx.2.2.1 = τ0.2.2.1) (x4 : ∀ F, F ≠ 933 → τx.2.2.2 F = τ0.2.2.2 F) (hJ : JR P D G K σ0 σi τ0 τx n σ τ) : JR P D G K σ0 σi τ0 τx (n + 1) (k_js P D G K n σ) (m_jst P D G K n τ) := by
  obtain ⟨j1, j2, j3, j4, j5, j6, j7, j8, j9, j10⟩ := hJ
  obtain ⟨a1, a2, a3, a4, a5, a6, a7, a8, a9, a10, a11, a12, a13, a14, a15, a16, a17⟩ := h
  have hn6 : n < 6 := by have := a5.1 D; omega
  have s811 : σ.1 811 0 = σ0.1 811 0 := (j1.1 811 0 (by decide) (by decide)).trans (i1 811 0 (by decide))
  have s100 : σ.2.1 100 G = σ0.2.1 100 G := by rw [j1.2.1]; exact i2 100 G (by omega)
  have sA : σ.2.2.1 = σ0.2.2.1 := by rw [j1.2.2.1]; exact i3
  have sB : ∀ F, F ≠ 304 → F ≠ 305 → F ≠ 503 → σ.2.2.2 F = σ0.2.2.2 F := fun F a b c => (j1.2.2.2 F a b c).trans (i4 F a b)
  have hja : ju_a P D G n σ = ju_a P D G n σ0 := by
    unfold ju_a
    rw [sA, s811, s100, sB 201 (by decide) (by decide) (by decide)]
  have hjt : ju_t D n σ = ju_t D n σ0 := by
    unfold ju_t
    rw [sA]
  have t1 : τ.1 = τ0.1 := by rw [← x1]; exact funext fun F => j2.1 F (by simp)
  have t3 : ∀ F, F ≠ 930 → F ≠ 913 → τ.2.2.1 F = τ0.2.2.1 F := fun F a b => by rw [← x3]; exact j2.2.2.1 F (by simp [a, b])
  have t4 : ∀ F, F ≠ 933 → F ≠ 912 → τ.2.2.2 F = τ0.2.2.2 F := fun F a b => by rw [← x4 F a]; exact j2.2.2.2 F (by simp [a, b])
  obtain ⟨g1, g2⟩ := a15.1 D hD
  obtain ⟨g3, g4, g5⟩ := g2 n hn6
  obtain ⟨g6, g7, g8⟩ := g3 hn
  have hc := a5.2.2.2.2.1 D n
  have r0 : ∀ k, k < 5 → τ.2.2.1 930 0 (6 * (6 * D + n) + k) = τ0.2.2.1 930 0 (6 * (6 * D + n) + k) := fun k hk => by rw [j7, if_neg (by omega)]
  have r5 : τ.2.2.1 930 0 (6 * (6 * D + n) + 5) = τ0.2.2.1 930 0 (6 * (6 * D + n) + 5) := by rw [j7, if_neg (by omega)]
  have r00 : τ.2.2.1 930 0 (6 * (6 * D + n)) = τ0.2.2.1 930 0 (6 * (6 * D + n)) := r0 0 (by decide)
  have hidx : 144 * P + 12 * τ0.2.2.1 930 0 (6 * (6 * D + n) + 1) + τ0.2.2.1 930 0 (6 * (6 * D + n)) = 144 * P + σ0.2.2.1 0 D n := by omega
  obtain ⟨p1, p2, p3, p4, p5⟩ := (a12.1 P hP).2.2.2.2 _ hc
  have hv : τ.2.2.2 917 0 (144 * P + 12 * τ.2.2.1 930 0 (6 * (6 * D + n) + 1) + τ.2.2.1 930 0 (6 * (6 * D + n))) = σ0.2.2.2 202 P (σ0.2.2.1 0 D n) := by
    rw [r0 1 (by decide), r00, hidx, t4 917 (by decide) (by decide)]
    exact p3.symm
  have hm : msz (144 * P + σ0.2.2.1 0 D n) τ = σ0.2.2.2 201 P (σ0.2.2.1 0 D n) := by
    rw [p4]
    unfold msz
    rw [t4 917 (by decide) (by decide), t4 915 (by decide) (by decide), t4 918 (by decide) (by decide)]
  have hw : (msz (144 * P + 12 * τ.2.2.1 930 0 (6 * (6 * D + n) + 1) + τ.2.2.1 930 0 (6 * (6 * D + n))) τ + (nI (τ.1 900 0) - nI (τ.2.2.1 927 0 G)) / nI 100) - nI (1000 * τ.2.2.1 930 0 (6 * (6 * D + n) + 2)) = ju_a P D G n σ0 := by
    rw [r0 1 (by decide), r00, hidx, hm, t1, t3 927 (by decide) (by decide), r0 2 (by decide)]
    unfold ju_a
    rw [a8.1, hG, g7]
  have ht : τ.2.2.1 930 0 (6 * (6 * D + n) + 3) + (if τ.2.2.1 930 0 (6 * (6 * D + n) + 5) = 0 then 0 else τ.2.2.1 930 0 (6 * (6 * D + n) + 4)) = ju_t D n σ0 := by
    rw [r0 3 (by decide), r5, r0 4 (by decide)]
    unfold ju_t
    rw [g8, g4, g5]
  have h1 : σ0.1 1002 1 ≤ 6 := a4.2.1
  have hv9 : σ0.2.2.2 202 P (σ0.2.2.1 0 D n) = (-1) ∨ ix (σ0.2.2.2 202 P (σ0.2.2.1 0 D n)) (σ0.1 1002 0) := by
    rw [p3, a7.1]
    have e1 : σ0.1 1002 1 = τ0.1 924 0 := a7.2.1
    rcases a6.2.2.2.2.2.2.2.2.2.1 (144 * P + σ0.2.2.1 0 D n) (by omega) with z | z | z
    · exact Or.inl z
    · exact Or.inr z
    · omega
  have hfr := jst_fr P D G K n τ
  rw [jst_c hv hw ht] at hfr ⊢
  unfold k_js
  rw [sA, sB 202 (by decide) (by decide) (by decide), hja]
  obtain ⟨u1, u2, u3⟩ := jp_3 (P := P) (D := D) (G := G) (K := K) (n := n) (σ := σ)
  rw [hja] at u1
  rw [hjt] at u2
  have hfj := jp_fj (P := P) (D := D) (G := G) (K := K) (n := n) (σ := σ)
  have uk := fun k (hk : k ≠ K) => jp_k (P := P) (D := D) (G := G) (n := n) (σ := σ) hk
  have uN := fun F (hF : F ≠ 306) => jp_N (P := P) (D := D) (G := G) (K := K) (n := n) (σ := σ) hF
  have uB : (k_jp P D G K n σ).2.2.2 503 = σ.2.2.2 503 := rfl
  generalize k_jp P D G K n σ = ρ at u1 u2 u3 hfj uk uN uB ⊢
  have y1 : (wA (wB (wB τ 933 0 (18 * K + 5 + n) (ju_a P D G n σ0)) 933 0 (18 * K + 11 + n) (nI (ju_t D n σ0))) 930 0 (6 * (6 * D + n) + 5) (τ.2.2.1 930 0 (6 * (6 * D + n) + 5) - (if τ.2.2.1 930 0 (6 * (6 * D + n) + 5) = 0 then 0 else 1))).2.2.1 930 0 = up1 (τ.2.2.1 930 0) (6 * (6 * D + n) + 5) (τ.2.2.1 930 0 (6 * (6 * D + n) + 5) - (if τ.2.2.1 930 0 (6 * (6 * D + n) + 5) = 0 then 0 else 1)) := wA_s
  have y2 : (wA (wB (wB τ 933 0 (18 * K + 5 + n) (ju_a P D G n σ0)) 933 0 (18 * K + 11 + n) (nI (ju_t D n σ0))) 930 0 (6 * (6 * D + n) + 5) (τ.2.2.1 930 0 (6 * (6 * D + n) + 5) - (if τ.2.2.1 930 0 (6 * (6 * D + n) + 5) = 0 then 0 else 1))).2.2.2 933 0 = up1 (up1 (τ.2.2.2 933 0) (18 * K + 5 + n) (ju_a P D G n σ0)) (18 * K + 11 + n) (nI (ju_t D n σ0)) := by
    show up3 (up3 τ.2.2.2 933 0 (18 * K + 5 + n) (ju_a P D G n σ0)) 933 0 (18 * K + 11 + n) (nI (ju_t D n σ0)) 933 0 = _
    rw [up3_s, up3_s]
  have y3 : ∀ F, F ≠ 930 → (wA (wB (wB τ 933 0 (18 * K + 5 + n) (ju_a P D G n σ0)) 933 0 (18 * K + 11 + n) (nI (ju_t D n σ0))) 930 0 (6 * (6 * D + n) + 5) (τ.2.2.1 930 0 (6 * (6 * D + n) + 5) - (if τ.2.2.1 930 0 (6 * (6 * D + n) + 5) = 0 then 0 else 1))).2.2.1 F = τ.2.2.1 F := fun F z => by
    show up3 τ.2.2.1 930 0 _ _ F = _
    unfold up3
    rw [if_neg z]
  have y4 : ∀ F, F ≠ 933 → (wA (wB (wB τ 933 0 (18 * K + 5 + n) (ju_a P D G n σ0)) 933 0 (18 * K + 11 + n) (nI (ju_t D n σ0))) 930 0 (6 * (6 * D + n) + 5) (τ.2.2.1 930 0 (6 * (6 * D + n) + 5) - (if τ.2.2.1 930 0 (6 * (6 * D + n) + 5) = 0 then 0 else 1))).2.2.2 F = τ.2.2.2 F := fun F z => by
    show up3 (up3 τ.2.2.2 933 0 _ _) 933 0 _ _ F = _
    unfold up3
    rw [if_neg z, if_neg z]
  have y0 : (wA (wB (wB τ 933 0 (18 * K + 5 + n) (ju_a P D G n σ0)) 933 0 (18 * K + 11 + n) (nI (ju_t D n σ0))) 930 0 (6 * (6 * D + n) + 5) (τ.2.2.1 930 0 (6 * (6 * D + n) + 5) - (if τ.2.2.1 930 0 (6 * (6 * D + n) + 5) = 0 then 0 else 1))).1 = τ.1 := rfl
  generalize wA (wB (wB τ 933 0 (18 * K + 5 + n) (ju_a P D G n σ0)) 933 0 (18 * K + 11 + n) (nI (ju_t D n σ0))) 930 0 (6 * (6 * D + n) + 5) (τ.2.2.1 930 0 (6 * (6 * D + n) + 5) - (if τ.2.2.1 930 0 (6 * (6 * D + n) + 5) = 0 then 0 else 1)) = Y at y1 y2 y3 y4 y0 hfr ⊢
  have hGO : GO ρ Y := go_e j8 (by rw [uN 1002 (by decide)]) (uN 502 (by decide)) (uN 504 (by decide)) (uN 506 (by decide)) (by rw [hfj.2.1]) (by rw [hfj.2.1]) (by rw [hfj.2.1]) (by rw [hfj.2.1]) uB (by rw [y3 907 (by decide)]) (by rw [y3 908 (by decide)]) (by rw [y3 913 (by decide)]) (by rw [y4 906 (by decide)]) (by rw [y4 910 (by decide)]) (by rw [y4 911 (by decide)]) (by rw [y4 912 (by decide)])
  have e0 : ρ.1 1002 0 = σ0.1 1002 0 := by rw [uN 1002 (by decide), (j1.1 1002 0 (by decide) (by decide)), i1 1002 0 (by decide)]
  have hid : ∀ i, i < ρ.1 1002 0 → ρ.2.2.1 1001 0 i = i := by
    rw [e0, hfj.2.2.1, sA]
    exact a3 0 (by decide) (by decide) (by decide)
  have hgt := go_tell (w := ju_a P D G n σ0) hGO hid (by rw [e0]; exact hv9)
  have hT1 : (if σ0.2.2.2 202 P (σ0.2.2.1 0 D n) = (-1) then Y else m_tells (tn (σ0.2.2.2 202 P (σ0.2.2.1 0 D n))) (ju_a P D G n σ0) Y).2.2.2 933 = Y.2.2.2 933 := by
    split
    · rfl
    · exact tells_B (by decide)
  have hT2 : (if σ0.2.2.2 202 P (σ0.2.2.1 0 D n) = (-1) then Y else m_tells (tn (σ0.2.2.2 202 P (σ0.2.2.1 0 D n))) (ju_a P D G n σ0) Y).2.2.1 930 = Y.2.2.1 930 := by
    split
    · rfl
    · exact tells_A (by decide)
  have hT3 : ∀ k, (if σ0.2.2.2 202 P (σ0.2.2.1 0 D n) = (-1) then Y else m_tells (tn (σ0.2.2.2 202 P (σ0.2.2.1 0 D n))) (ju_a P D G n σ0) Y).2.2.1 913 0 k ≤ Y.2.2.1 913 0 k + 1 := fun k => by
    split
    · exact Nat.le_succ _
    · exact tells_913
  generalize (if σ0.2.2.2 202 P (σ0.2.2.1 0 D n) = (-1) then Y else m_tells (tn (σ0.2.2.2 202 P (σ0.2.2.1 0 D n))) (ju_a P D G n σ0) Y) = τ' at hfr hgt hT1 hT2 hT3 ⊢
  refine ⟨(j1.tr hfj).tr tell_fj, j2.tr hfr, fun i hi => ?_, fun k hk => ?_, ?_, fun j => ?_, fun j => ?_, hgt, fun k => ?_, fun k => ?_⟩
  · rw [tell_B (by decide), tell_B (by decide), u1, u2]
    obtain ⟨b1, b2⟩ := j3 i hi
    by_cases e : i = n
    · rw [e, up1_s, up1_s, if_pos (by omega), if_pos (by omega)]
      exact ⟨rfl, rfl⟩
    · rw [up1_n e, up1_n e, b1, b2]
      by_cases e2 : i < n
      · rw [if_pos e2, if_pos e2, if_pos (by omega), if_pos (by omega)]
        exact ⟨rfl, rfl⟩
      · rw [if_neg e2, if_neg e2, if_neg (by omega), if_neg (by omega)]
        exact ⟨rfl, rfl⟩
  · obtain ⟨b1, b2, b3⟩ := j4 k hk
    obtain ⟨c1, c2, c3⟩ := uk k hk
    rw [tell_B (by decide), tell_B (by decide), tell_306]
    exact ⟨c1.trans b1, c2.trans b2, c3.trans b3⟩
  · rw [tell_306]
    exact u3
  · rw [hT1, y2]
    by_cases q1 : j = 18 * K + 11 + n
    · have z1 : ¬ (18 * K + 5 ≤ j ∧ j < 18 * K + 5 + (n + 1)) := by omega
      have z2 : 18 * K + 11 ≤ j ∧ j < 18 * K + 11 + (n + 1) := by omega
      rw [if_neg z1, if_pos z2, q1, up1_s]
      have : 18 * K + 11 + n - (18 * K + 11) = n := by omega
      rw [this]
    · rw [up1_n q1]
      by_cases q2 : j = 18 * K + 5 + n
      · have z1 : 18 * K + 5 ≤ j ∧ j < 18 * K + 5 + (n + 1) := by omega
        rw [if_pos z1, q2, up1_s]
        have : 18 * K + 5 + n - (18 * K + 5) = n := by omega
        rw [this]
      · rw [up1_n q2, j6]
        by_cases z1 : 18 * K + 5 ≤ j ∧ j < 18 * K + 5 + n
        · rw [if_pos z1, if_pos (by omega)]
        · rw [if_neg z1, if_neg (show ¬ (18 * K + 5 ≤ j ∧ j < 18 * K + 5 + (n + 1)) by omega)]
          by_cases z2 : 18 * K + 11 ≤ j ∧ j < 18 * K + 11 + n
          · rw [if_pos z2, if_pos (by omega)]
          · rw [if_neg z2, if_neg (by omega)]
  · rw [hT2, y1]
    by_cases q1 : j = 6 * (6 * D + n) + 5
    · rw [q1, up1_s, r5, if_pos (show 36 * D ≤ 6 * (6 * D + n) + 5 ∧ 6 * (6 * D + n) + 5 < 36 * D + 6 * (n + 1) ∧ (6 * (6 * D + n) + 5) % 6 = 5 from ⟨by omega, by omega, by omega⟩)]
      by_cases q0 : τ0.2.2.1 930 0 (6 * (6 * D + n) + 5) = 0
      · rw [if_pos q0]; omega
      · rw [if_neg q0]
    · rw [up1_n q1, j7]
      by_cases z1 : 36 * D ≤ j ∧ j < 36 * D + 6 * n ∧ j % 6 = 5
      · rw [if_pos z1, if_pos (by omega)]
      · rw [if_neg z1, if_neg (by omega)]
  · have b1 := j9 k
    have b2 := tell_506 (v := σ0.2.2.2 202 P (σ0.2.2.1 0 D n)) (w := ju_a P D G n σ0) (σ := ρ) (k := k)
    rw [uN 506 (by decide)] at b2
    omega
  · have b1 := j10 k
    have b2 := hT3 k
    rw [y3 913 (by decide)] at b2
    omega
theorem jr_all {wr : WrT} {σ0 σi τ0 τx : St} {P D G K : Nat} (h : Rl wr σ0 τ0) (hP : P < σ0.1 1002 1) (hD : D < σ0.1 1002 4) (hG : σ0.2.1 100 G = nI (τ0.2.2.1 927 0 G)) (i1 : ∀ F k, F ≠ 306 → σi.1 F k = σ0.1 F k) (i2 : ∀ F k, ¬ (300 ≤ F ∧ F ≤ 303) → σi.2.1 F k = σ0.2.1 F k) (i3 : σi.2.2.1 = σ0.2.2.1) (i4 : ∀ F, F ≠ 304 → F ≠ 305 → σi.2.2.2 F = σ0.2.2.2 F) (x1 : τx.1 = τ0.1) (x3 : τx.2.2.1 = τ0.2.2.1) (x4 : ∀ F, F ≠ 933 → τx.2.2.2 F = τ0.2.2.2 F) : ∀ (m n : Nat) (σ : St), n + m = σ0.1 5 D → JR P D G K σ0 σi τ0 τx n σ (m_jl P D G K n τx) → JR P D G K σ0 σi τ0 τx (σ0.1 5 D) (k_jl P D G K m n σ) (m_jl P D G K (σ0.1 5 D) τx)
  | 0, n, σ, hn, hJ => by
    have : n = σ0.1 5 D := by omega
    rw [this] at hJ
    exact hJ
  | m + 1, n, σ, hn, hJ => jr_all h hP hD hG i1 i2 i3 i4 x1 x3 x4 m (n + 1) _ (by omega) (jr_step h hP hD hG (by omega) i1 i2 i3 i4 x1 x3 x4 hJ)
theorem spd_4 {D : Nat} {σ : St} : ∀ (n : Nat), (∀ i, (k_spd D n σ).2.2.1 4 D i = if i < n then σ.2.2.1 4 D i - 1 else σ.2.2.1 4 D i) ∧ ∀ k, k ≠ D → (k_spd D n σ).2.2.1 4 k = σ.2.2.1 4 k
  | 0 => ⟨fun i => (if_neg (Nat.not_lt_zero _)).symm, fun _ _ => rfl⟩
  | n + 1 => by
    obtain ⟨h1, h2⟩ := spd_4 (D := D) (σ := σ) n
    refine ⟨fun i => ?_, fun k hk => ?_⟩
    · show (wA (k_spd D n σ) 4 D n (σ.2.2.1 4 D n - 1)).2.2.1 4 D i = _
      rw [wA_s]
      by_cases e : i = n
      · rw [e, up1_s, if_pos (by omega)]
      · rw [up1_n e, h1]
        by_cases e2 : i < n
        · rw [if_pos e2, if_pos (by omega)]
        · rw [if_neg e2, if_neg (by omega)]
    · show up3 (k_spd D n σ).2.2.1 4 D n (σ.2.2.1 4 D n - 1) 4 k = _
      rw [up3_n (fun z => hk z.2)]
      exact h2 k hk
