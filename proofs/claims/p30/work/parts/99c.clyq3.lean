/-! judge -/
theorem judge_ok {wr : WrT} {σ τ τx : St} {P D G K : Nat} {v1 v2 : Int32} (h : Rl wr σ τ) (hP : P < σ.1 1002 1) (hD : D < σ.1 1002 4) (hG4 : G < 4) (hG : σ.2.1 100 G = nI (τ.2.2.1 927 0 G)) (hK : K = σ.1 1002 5) (hK30 : K < 30) (x1 : τx.1 = τ.1) (x2 : τx.2.1 = (wI τ 944 0 (nI 0)).2.1) (x3 : τx.2.2.1 = τ.2.2.1) (x4 : ∀ F, F ≠ 933 → τx.2.2.2 F = τ.2.2.2 F) (x5 : ∀ j, τx.2.2.2 933 0 j = if j = 18 * K then v1 else if j = 18 * K + 1 then v2 else if j = 18 * K + 3 then nI (τ.1 900 0) else if j = 18 * K + 4 then τ.2.2.2 929 0 G else if j = 18 * K + 17 then nI (τ.2.2.1 931 0 D) else τ.2.2.2 933 0 j) : (wB (wB (wN (m_jl P D G K (σ.1 5 D) τx) 934 0 (K + 1)) 933 0 (18 * K + 2) (vdl (vdf K (wN (m_jl P D G K (σ.1 5 D) τx) 934 0 (K + 1))) (σ.1 5 D))) 923 0 P (vdl (vdf K (wN (m_jl P D G K (σ.1 5 D) τx) 934 0 (K + 1))) (σ.1 5 D))).2.1 944 0 = nI 0 ∧ Rl wr (ladd 5 K (k_j3 P D G K v1 v2 σ)) (wB (wB (wN (m_jl P D G K (σ.1 5 D) τx) 934 0 (K + 1)) 933 0 (18 * K + 2) (vdl (vdf K (wN (m_jl P D G K (σ.1 5 D) τx) 934 0 (K + 1))) (σ.1 5 D))) 923 0 P (vdl (vdf K (wN (m_jl P D G K (σ.1 5 D) τx) 934 0 (K + 1))) (σ.1 5 D))) := by
  have hRl := h
  obtain ⟨⟨ci, k2, k3, k4⟩, a2, a3, ⟨n0, n1', n2, n3, n4, n5, n6⟩, ⟨r1, r2, r3, r4, r5, r6⟩, ⟨s1, s2, s3, s4, s5, s6, s7, s8, s9', s10, s11⟩, ⟨g0, g1, g2, g4, g5, g6⟩, a8, a9, a10, a11, a12, a13, a14, a15, a16, a17⟩ := h
  have hN6 : σ.1 5 D ≤ 6 := r1 D
  obtain ⟨i1, i2, i3, i4, i5⟩ := i3_fj (K := K) (v1 := v1) (v2 := v2) (v3 := nI (σ.1 811 0)) (v4 := σ.2.1 101 G) (σ := σ)
  have hoff : Off 3 K σ (i_3 K v1 v2 (nI (σ.1 811 0)) (σ.2.1 101 G) σ) := i_3_off
  have hci : CI (ladd 5 K (i_3 K v1 v2 (nI (σ.1 811 0)) (σ.2.1 101 G) σ)) := ci_new ci (by decide) hoff (by decide) rfl hK (by omega)
  have hri : RI (ladd 5 K (i_3 K v1 v2 (nI (σ.1 811 0)) (σ.2.1 101 G) σ)) := ri_new a3 (by decide) hoff hK
  have ik : ∀ F k, k ≠ K → (i_3 K v1 v2 (nI (σ.1 811 0)) (σ.2.1 101 G) σ).1 F k = σ.1 F k ∧ (i_3 K v1 v2 (nI (σ.1 811 0)) (σ.2.1 101 G) σ).2.1 F k = σ.2.1 F k ∧ (i_3 K v1 v2 (nI (σ.1 811 0)) (σ.2.1 101 G) σ).2.2.2 F k = σ.2.2.2 F k := fun F k e => ⟨(hoff F k (fun z => e z.2)).1.1, (hoff F k (fun z => e z.2)).1.2, (hoff F k (fun z => e z.2)).2.2⟩
  have i304 : (i_3 K v1 v2 (nI (σ.1 811 0)) (σ.2.1 101 G) σ).2.2.2 304 K = fun _ => 0 := by
    show up2 (up2 σ.2.2.2 304 K (fun _ => 0)) 305 K (fun _ => 0) 304 K = _
    rw [up2_n (fun z => absurd z.1 (by decide)), up2_s]
  have i305 : (i_3 K v1 v2 (nI (σ.1 811 0)) (σ.2.1 101 G) σ).2.2.2 305 K = fun _ => 0 := by
    show up2 (up2 σ.2.2.2 304 K (fun _ => 0)) 305 K (fun _ => 0) 305 K = _
    rw [up2_s]
  have iI : (i_3 K v1 v2 (nI (σ.1 811 0)) (σ.2.1 101 G) σ).2.1 300 K = v1 ∧ (i_3 K v1 v2 (nI (σ.1 811 0)) (σ.2.1 101 G) σ).2.1 301 K = v2 ∧ (i_3 K v1 v2 (nI (σ.1 811 0)) (σ.2.1 101 G) σ).2.1 302 K = nI (σ.1 811 0) ∧ (i_3 K v1 v2 (nI (σ.1 811 0)) (σ.2.1 101 G) σ).2.1 303 K = σ.2.1 101 G := by
    show up2 (up2 (up2 (up2 σ.2.1 300 K v1) 301 K v2) 302 K (nI (σ.1 811 0))) 303 K (σ.2.1 101 G) 300 K = v1 ∧ up2 (up2 (up2 (up2 σ.2.1 300 K v1) 301 K v2) 302 K (nI (σ.1 811 0))) 303 K (σ.2.1 101 G) 301 K = v2 ∧ up2 (up2 (up2 (up2 σ.2.1 300 K v1) 301 K v2) 302 K (nI (σ.1 811 0))) 303 K (σ.2.1 101 G) 302 K = nI (σ.1 811 0) ∧ up2 (up2 (up2 (up2 σ.2.1 300 K v1) 301 K v2) 302 K (nI (σ.1 811 0))) 303 K (σ.2.1 101 G) 303 K = σ.2.1 101 G
    exact ⟨(up2_n (fun z => absurd z.1 (by decide))).trans ((up2_n (fun z => absurd z.1 (by decide))).trans ((up2_n (fun z => absurd z.1 (by decide))).trans up2_s)), (up2_n (fun z => absurd z.1 (by decide))).trans ((up2_n (fun z => absurd z.1 (by decide))).trans up2_s), (up2_n (fun z => absurd z.1 (by decide))).trans up2_s, up2_s⟩
  obtain ⟨s9, hs9⟩ : ∃ s, s = k_j3 P D G K v1 v2 σ := ⟨_, rfl⟩
  rw [← hs9]
  unfold k_j3 k_j2 k_j1 at hs9
  generalize i_3 K v1 v2 (nI (σ.1 811 0)) (σ.2.1 101 G) σ = σi at *
  have hJ0 : JR P D G K σ σi τ τx 0 σi τx := by
    refine ⟨FJ.rf, FRm.rf, fun i _ => ?_, fun k hk => ⟨(ik 304 k hk).2.2, (ik 305 k hk).2.2, (ik 306 k hk).1⟩, i5, fun j => ?_, fun j => ?_, ?_, fun k => ?_, fun k => ?_⟩
    · rw [i304, i305, if_neg (Nat.not_lt_zero _), if_neg (Nat.not_lt_zero _)]
      exact ⟨rfl, rfl⟩
    · rw [if_neg (by omega), if_neg (by omega)]
    · rw [x3, if_neg (by omega)]
    · exact go_e a10 (i1 1002 0 (by decide)) (funext fun k => i1 502 k (by decide)) (funext fun k => i1 504 k (by decide)) (funext fun k => i1 506 k (by decide)) (funext fun k => i2 500 k (by omega)) (funext fun k => i2 501 k (by omega)) (funext fun k => i2 505 k (by omega)) (funext fun k => i2 507 k (by omega)) (i4 503 (by decide) (by decide)) (by rw [x3]) (by rw [x3]) (by rw [x3]) (by rw [x4 906 (by decide)]) (by rw [x4 910 (by decide)]) (by rw [x4 911 (by decide)]) (by rw [x4 912 (by decide)])
    · rw [i1 506 k (by decide)]; exact Nat.le_refl _
    · rw [x3]; exact Nat.le_refl _
  have hJ := jr_all hRl hP hD hG i1 i2 i3 i4 x1 x3 x4 (σ.1 5 D) 0 σi (by omega) hJ0
  generalize k_jl P D G K (σ.1 5 D) 0 σi = σJ at *
  generalize m_jl P D G K (σ.1 5 D) τx = τJ at *
  generalize hNe : σ.1 5 D = N at *
  obtain ⟨j1, j2, j3, j4, j5, j6, j7, j8, j9, j10⟩ := hJ
  obtain ⟨p1, p2, p3, p4⟩ := spd_st D σJ N
  obtain ⟨p5, p6⟩ := spd_4 (D := D) (σ := σJ) N
  -- the verdict
  have h303 : σJ.2.1 303 K = σ.2.1 101 G := by rw [j1.2.1]; exact iI.2.2.2
  have hV : k_vd K (k_spd D N σJ) N 0 (nI 0) = vdl (vdf K (wN τJ 934 0 (K + 1))) N := by
    rw [vdp_eq, p2, p3, vdp_0]
    refine vdl_cong _ (fun k hk => ?_)
    obtain ⟨b1, b2⟩ := j3 k (by omega)
    show vd1 (σJ.2.2.2 304 K k) (σJ.2.2.2 305 K k) (σJ.2.1 303 K) = vd1 (τJ.2.2.2 933 0 (18 * K + 5 + k)) (τJ.2.2.2 933 0 (18 * K + 11 + k)) (τJ.2.2.2 933 0 (18 * K + 4))
    rw [b1, b2, h303, j6, j6, j6, if_pos hk, if_pos hk, if_pos (show 18 * K + 5 ≤ 18 * K + 5 + k ∧ 18 * K + 5 + k < 18 * K + 5 + N by omega), if_neg (show ¬ (18 * K + 5 ≤ 18 * K + 11 + k ∧ 18 * K + 11 + k < 18 * K + 5 + N) by omega), if_pos (show 18 * K + 11 ≤ 18 * K + 11 + k ∧ 18 * K + 11 + k < 18 * K + 11 + N by omega), if_neg (show ¬ (18 * K + 5 ≤ 18 * K + 4 ∧ 18 * K + 4 < 18 * K + 5 + N) by omega), if_neg (show ¬ (18 * K + 11 ≤ 18 * K + 4 ∧ 18 * K + 4 < 18 * K + 11 + N) by omega), x5, if_neg (by omega), if_neg (by omega), if_neg (by omega), if_pos rfl, (a14 G hG4).2]
    have e1 : 18 * K + 5 + k - (18 * K + 5) = k := by omega
    have e2 : 18 * K + 11 + k - (18 * K + 11) = k := by omega
    rw [e1, e2]
  rw [hV] at hs9
  have hVp : vdp (σJ.2.2.2 304 K) (σJ.2.2.2 305 K) (σJ.2.1 303 K) N 0 (nI 0) = vdl (vdf K (wN τJ 934 0 (K + 1))) N := by
    rw [← hV, vdp_eq, p2, p3]
  generalize vdl (vdf K (wN τJ 934 0 (K + 1))) N = V at *
  -- the class's state behind it
  have q1 : s9.1 = σJ.1 := by rw [hs9]; exact p1
  have q2 : ∀ F, s9.2.1 F = if F = 209 then up1 (σJ.2.1 209) P V else σJ.2.1 F := fun F => by
    rw [hs9]
    show up2 (k_spd D N σJ).2.1 209 P V F = _
    rw [p2]
    unfold up2
    by_cases e : F = 209
    · rw [if_pos e]
    · rw [if_neg e]
  have q3' : s9.2.2.1 = (k_spd D N σJ).2.2.1 := by rw [hs9]; rfl
  have q4' : s9.2.2.2 = σJ.2.2.2 := by rw [hs9]; exact p3
  clear hs9
  obtain ⟨σ9, hσ9⟩ : ∃ s, s = ladd 5 K s9 := ⟨_, rfl⟩
  rw [← hσ9]
  have w1 : ∀ F, F < 1000 → σ9.1 F = s9.1 F := fun F z => by
    rw [hσ9]
    exact funext fun k => ((ladd_off 5 K 0 (fun _ _ => 0) s9).1 F k (by omega)).1
  have w2 : ∀ F, F < 1000 → σ9.2.1 F = s9.2.1 F := fun F z => by
    rw [hσ9]
    exact funext fun k => ((ladd_off 5 K 0 (fun _ _ => 0) s9).1 F k (by omega)).2
  have w3 : ∀ F, F < 1000 → σ9.2.2.1 F = s9.2.2.1 F := fun F z => by
    rw [hσ9]
    exact funext fun k => ((ladd_off 5 K 0 (fun _ _ => 0) s9).2.1 F k (by omega)).1
  have w4 : ∀ F, F < 1000 → σ9.2.2.2 F = s9.2.2.2 F := fun F z => by
    rw [hσ9]
    exact funext fun k => ((ladd_off 5 K 0 (fun _ _ => 0) s9).2.1 F k (by omega)).2
  have e1002 : s9.1 1002 = σ.1 1002 := by
    rw [q1]
    exact funext fun k => (j1.1 1002 k (by decide) (by decide)).trans (i1 1002 k (by decide))
  have e1001 : s9.2.2.1 1001 = σ.2.2.1 1001 := by rw [q3', p4 1001 (by decide), j1.2.2.1, i3]
  have lN : ∀ j, j ≠ 5 → σ9.1 1002 j = σ.1 1002 j := fun j z => by
    rw [hσ9, ((ladd_off 5 K 0 (fun _ _ => 0) s9).1 1002 j (by omega)).1, e1002]
  have lN5 : σ9.1 1002 5 = K + 1 := by
    rw [hσ9, ladd_N, e1002, ← hK]
  have lA : ∀ j, j ≠ 5 → σ9.2.2.1 1001 j = σ.2.2.1 1001 j := fun j z => by
    rw [hσ9, ((ladd_off 5 K 0 (fun _ _ => 0) s9).2.1 1001 j (by omega)).1, e1001]
  have c1002 : ∀ j, σ9.1 1002 j = (ladd 5 K σi).1 1002 j := fun j => by
    rw [hσ9]
    by_cases e : j = 5
    · subst e
      rw [ladd_N, ladd_N, e1002, i1 1002 5 (by decide)]
    · rw [((ladd_off 5 K 0 (fun _ _ => 0) s9).1 1002 j (by omega)).1, ((ladd_off 5 K 0 (fun _ _ => 0) σi).1 1002 j (by omega)).1, e1002, i1 1002 j (by decide)]
  have c1003 : ∀ j, σ9.1 1003 j = (ladd 5 K σi).1 1003 j := fun j => by
    have e9 : s9.1 1003 = σi.1 1003 := by
      rw [q1]
      exact funext fun k => j1.1 1003 k (by decide) (by decide)
    rw [hσ9]
    by_cases e : j = 5
    · subst e
      rw [ladd_C, ladd_C, e1002, i1 1002 5 (by decide), e9]
    · rw [((ladd_off 5 K 0 (fun _ _ => 0) s9).1 1003 j (by omega)).1, ((ladd_off 5 K 0 (fun _ _ => 0) σi).1 1003 j (by omega)).1, e9]
  have c1001 : ∀ j, σ9.2.2.1 1001 j = (ladd 5 K σi).2.2.1 1001 j := fun j => by
    rw [hσ9]
    by_cases e : j = 5
    · subst e
      rw [ladd_A, ladd_A, e1002, i1 1002 5 (by decide), e1001, i3]
    · rw [((ladd_off 5 K 0 (fun _ _ => 0) s9).2.1 1001 j (by omega)).1, ((ladd_off 5 K 0 (fun _ _ => 0) σi).2.1 1001 j (by omega)).1, e1001, i3]
  have n1 : ∀ F, F ≠ 306 → F ≠ 506 → (decide (F < 1000)) = true → σ9.1 F = σ.1 F := fun F a b c => by
    rw [w1 F (of_decide_eq_true c), q1]
    exact funext fun k => (j1.1 F k a b).trans (i1 F k a)
  have n306 : ∀ k, σ9.1 306 k = if k = K then N else σ.1 306 k := fun k => by
    rw [w1 306 (by decide), q1]
    by_cases e : k = K
    · rw [if_pos e, e]; exact j5
    · rw [if_neg e]; exact (j4 k e).2.2
  have m2 : ∀ F, ¬ (300 ≤ F ∧ F ≤ 303) → F ≠ 209 → (decide (F < 1000)) = true → σ9.2.1 F = σ.2.1 F := fun F a b c => by
    rw [w2 F (of_decide_eq_true c), q2, if_neg b, j1.2.1]
    exact funext fun k => i2 F k a
  have m209 : ∀ k, σ9.2.1 209 k = up1 (σ.2.1 209) P V k := fun k => by
    rw [w2 209 (by decide), q2, if_pos rfl, j1.2.1]
    have : σi.2.1 209 = σ.2.1 209 := funext fun k => i2 209 k (by omega)
    rw [this]
  have m3K : ∀ F, 300 ≤ F ∧ F ≤ 303 → σ9.2.1 F K = σi.2.1 F K := fun F z => by rw [w2 F (by omega), q2, if_neg (by omega), j1.2.1]
  have m3k : ∀ F k, 300 ≤ F ∧ F ≤ 303 → k ≠ K → σ9.2.1 F k = σ.2.1 F k := fun F k z e => by rw [w2 F (by omega), q2, if_neg (by omega), j1.2.1]; exact (ik F k e).2.1
  have q3 : ∀ F, F ≠ 4 → (decide (F < 1000)) = true → σ9.2.2.1 F = σ.2.2.1 F := fun F a c => by rw [w3 F (of_decide_eq_true c), q3', p4 F a, j1.2.2.1, i3]
  have q34 : ∀ d i, σ9.2.2.1 4 d i = if d = D ∧ i < N then σ.2.2.1 4 d i - 1 else σ.2.2.1 4 d i := fun d i => by
    rw [w3 4 (by decide), q3']
    by_cases e : d = D
    · subst e
      rw [p5, j1.2.2.1, i3]
      by_cases e2 : i < N
      · rw [if_pos e2, if_pos ⟨rfl, e2⟩]
      · rw [if_neg e2, if_neg (fun z => e2 z.2)]
    · rw [p6 d e, j1.2.2.1, i3, if_neg (fun z => e z.1)]
  have q4 : ∀ F, F ≠ 304 → F ≠ 305 → F ≠ 503 → (decide (F < 1000)) = true → σ9.2.2.2 F = σ.2.2.2 F := fun F a b c d => by rw [w4 F (of_decide_eq_true d), q4', j1.2.2.2 F a b c, i4 F a b]
  have q4J : ∀ F, F < 1000 → σ9.2.2.2 F = σJ.2.2.2 F := fun F d => by rw [w4 F d, q4']
  have hGO9 : GO σ9 τJ := go_e j8 (by rw [lN 0 (by decide), j1.1 1002 0 (by decide) (by decide), i1 1002 0 (by decide)]) (by rw [w1 502 (by decide), q1]) (by rw [w1 504 (by decide), q1]) (by rw [w1 506 (by decide), q1]) (by rw [w2 500 (by decide), q2, if_neg (by decide)]) (by rw [w2 501 (by decide), q2, if_neg (by decide)]) (by rw [w2 505 (by decide), q2, if_neg (by decide)]) (by rw [w2 507 (by decide), q2, if_neg (by decide)]) (q4J 503 (by decide)) rfl rfl rfl rfl rfl rfl rfl
  have h506 : ∀ k, σ9.1 506 k ≤ σ.1 506 k + N := fun k => by rw [w1 506 (by decide), q1]; exact j9 k
  have hCI : CI σ9 := ci_eq hci c1002 c1003 c1001
  have hRI : RI σ9 := ri_e hri (fun j _ _ => c1002 j) (fun j _ _ => c1001 j)
  have h304 : ∀ i, i < 6 → σ9.2.2.2 304 K i = (if i < N then ju_a P D G i σ else 0) ∧ σ9.2.2.2 305 K i = (if i < N then nI (ju_t D i σ) else 0) := fun i hi => by
    rw [q4J 304 (by decide), q4J 305 (by decide)]
    exact j3 i hi
  have h304k : ∀ k, k ≠ K → σ9.2.2.2 304 k = σ.2.2.2 304 k ∧ σ9.2.2.2 305 k = σ.2.2.2 305 k := fun k e => by
    rw [q4J 304 (by decide), q4J 305 (by decide)]
    exact ⟨(j4 k e).1, (j4 k e).2.1⟩
  have hvd : vdp (σ9.2.2.2 304 K) (σ9.2.2.2 305 K) (σ9.2.1 303 K) N 0 (nI 0) = V := by
    rw [q4J 304 (by decide), q4J 305 (by decide), w2 303 (by decide), q2, if_neg (by decide)]
    exact hVp
  clear hσ9 w1 w2 w3 w4 q1 q2 q3' q4' c1002 c1003 c1001 hci hri p1 p2 p3 p4 p5 p6 hVp hV hJ0
  -- the reference's state
  obtain ⟨τ9, hτ9⟩ : ∃ t, t = wB (wB (wN τJ 934 0 (K + 1)) 933 0 (18 * K + 2) V) 923 0 P V := ⟨_, rfl⟩
  rw [← hτ9]
  have z1 : ∀ F, F ≠ 934 → τ9.1 F 0 = τ.1 F 0 := fun F a => by
    rw [hτ9]
    show up2 τJ.1 934 0 (K + 1) F 0 = _
    rw [up2_n (fun z => a z.1), j2.1 F (by simp), x1]
  have z934 : τ9.1 934 0 = K + 1 := by
    rw [hτ9]
    show up2 τJ.1 934 0 (K + 1) 934 0 = _
    exact up2_s
  have z2 : τ9.2.1 = (wI τ 944 0 (nI 0)).2.1 := by
    rw [hτ9, ← x2]
    exact funext fun F => j2.2.1 F (by simp)
  have zA : τ9.2.2.1 = τJ.2.2.1 := by rw [hτ9]; rfl
  have z3 : ∀ F, F ≠ 930 → F ≠ 913 → τ9.2.2.1 F 0 = τ.2.2.1 F 0 := fun F a b => by
    rw [zA, j2.2.2.1 F (by simp [a, b]), x3]
  have z4 : ∀ F, F ≠ 933 → F ≠ 912 → F ≠ 923 → τ9.2.2.2 F 0 = τ.2.2.2 F 0 := fun F a b c => by
    rw [hτ9]
    show up3 (up3 τJ.2.2.2 933 0 (18 * K + 2) V) 923 0 P V F 0 = _
    rw [up3_n (fun z => c z.1), up3_n (fun z => a z.1), j2.2.2.2 F (by simp [a, b]), x4 F a]
  have z4J : ∀ F, F ≠ 933 → F ≠ 923 → τ9.2.2.2 F 0 = τJ.2.2.2 F 0 := fun F a c => by
    rw [hτ9]
    show up3 (up3 τJ.2.2.2 933 0 (18 * K + 2) V) 923 0 P V F 0 = _
    rw [up3_n (fun z => c z.1), up3_n (fun z => a z.1)]
  have z23 : ∀ k, τ9.2.2.2 923 0 k = up1 (τ.2.2.2 923 0) P V k := fun k => by
    rw [hτ9]
    show up3 (up3 τJ.2.2.2 933 0 (18 * K + 2) V) 923 0 P V 923 0 k = _
    rw [up3_s, up3_n (fun z => absurd z.1 (by decide)), j2.2.2.2 923 (by simp), x4 923 (by decide)]
  have z33 : ∀ j, τ9.2.2.2 933 0 j = if j = 18 * K + 2 then V else τJ.2.2.2 933 0 j := fun j => by
    rw [hτ9]
    show up3 (up3 τJ.2.2.2 933 0 (18 * K + 2) V) 923 0 P V 933 0 j = _
    rw [up3_n (fun z => absurd z.1 (by decide)), up3_s]
    by_cases e : j = 18 * K + 2
    · rw [if_pos e, e, up1_s]
    · rw [if_neg e, up1_n e]
  clear hτ9
  have hS : SB τ9 := by
    refine ⟨SI_w s1 (z3 937 (by decide) (by decide)) (by rw [z2]; rfl) (z1 914 (by decide)) (z3 907 (by decide) (by decide)) (by rw [z3 908 (by decide) (by decide)]; exact s1.2.2.2.2.2.2.1) (by rw [z3 909 (by decide) (by decide)]; exact s1.2.2.2.2.2.2.2.1) (by rw [z1 901 (by decide)]; exact s1.2.2.2.2.2.2.2.2), ?_, ?_, ?_, fun k => ?_, ?_, ?_, fun j => ?_, fun i hi => ?_, ?_, ?_⟩
    · rw [z3 903 (by decide) (by decide)]; exact s2
    · rw [z3 919 (by decide) (by decide)]; exact s3
    · rw [z3 931 (by decide) (by decide)]; exact s4
    · rw [zA, z934]
      have b1 := j10 k
      have b2 := s5 k
      omega
    · rw [z3 925 (by decide) (by decide)]; exact s6
    · rw [z3 927 (by decide) (by decide), z1 900 (by decide)]; exact s7
    · rw [zA, j7]
      have := s8 j
      split <;> omega
    · rw [zA, j7, j7, if_neg (by omega), if_neg (by omega)]
      exact s9' i hi
    · rw [z4 917 (by decide) (by decide) (by decide), z1 914 (by decide), z1 924 (by decide)]; exact s10
    · rw [z4 920 (by decide) (by decide) (by decide), z3 922 (by decide) (by decide)]; exact s11
  have hGA : GA σ9 τ9 := by
    unfold GA msz mcau at a12 ⊢
    rw [lN 1 (by decide), n1 205 (by decide) (by decide) (by decide), n1 208 (by decide) (by decide) (by decide), m2 206 (by omega) (by decide) (by decide), q4 200 (by decide) (by decide) (by decide) (by decide), q4 201 (by decide) (by decide) (by decide) (by decide), q4 202 (by decide) (by decide) (by decide) (by decide), q4 203 (by decide) (by decide) (by decide) (by decide), q4 204 (by decide) (by decide) (by decide) (by decide), z3 919 (by decide) (by decide), z3 922 (by decide) (by decide), z4 920 (by decide) (by decide) (by decide), z4 915 (by decide) (by decide) (by decide), z4 916 (by decide) (by decide) (by decide), z4 917 (by decide) (by decide) (by decide), z4 918 (by decide) (by decide) (by decide)]
    refine ⟨fun k hk => ?_, a12.2⟩
    obtain ⟨b1, b2, b3, b4⟩ := a12.1 k hk
    refine ⟨b1, b2, ?_, b4⟩
    rw [m209, z23]
    by_cases e : k = P
    · rw [e, up1_s, up1_s]
    · rw [up1_n e, up1_n e]; exact b3
  have hGD : GD σ9 τ9 := by
    refine ⟨fun d hd => ?_, fun d hd => ?_⟩
    · rw [lN 4 (by decide)] at hd
      obtain ⟨b1, b2⟩ := a15.1 d hd
      rw [n1 5 (by decide) (by decide) (by decide), z3 931 (by decide) (by decide), q3 0 (by decide) (by decide), q3 1 (by decide) (by decide), q3 2 (by decide) (by decide), q3 3 (by decide) (by decide), zA]
      refine ⟨b1, fun i hi => ?_⟩
      obtain ⟨c1, c2, c3⟩ := b2 i hi
      refine ⟨fun z => ?_, ?_, ?_⟩
      · rw [j7, j7, j7, j7, if_neg (by omega), if_neg (by omega), if_neg (by omega), if_neg (by omega)]
        exact c1 z
      · rw [j7, if_neg (by omega)]
        exact c2
      · rw [q34, j7]
        by_cases e : d = D ∧ i < N
        · rw [if_pos e, if_pos (by omega), c3]
        · rw [if_neg e, if_neg (by omega), c3]
    · rw [lN 4 (by decide)] at hd
      obtain ⟨b1, b2⟩ := a15.2 d hd
      rw [z3 931 (by decide) (by decide), zA]
      refine ⟨b1, fun i hi => ?_⟩
      obtain ⟨c1, c2⟩ := b2 i hi
      rw [j7, j7, if_neg (by omega), if_neg (by omega)]
      exact ⟨c1, c2⟩
  have hGR : GR σ9 τ9 := by
    have tl := a16.2
    refine ⟨fun q hq => ?_, fun q hq i hi => ?_⟩
    · rw [lN5] at hq
      by_cases e : q = K
      · subst e
        have t0 : ∀ i, i < 18 → τ.2.2.2 933 0 (18 * q + i) = 0 := tl q (by omega)
        rw [m3K 300 (by decide), m3K 301 (by decide), m3K 302 (by decide), iI.1, iI.2.1, iI.2.2.1, n306, if_pos rfl, hvd, z33, z33, z33, z33, z33, z33, if_neg (by omega), if_neg (by omega), if_pos rfl, if_neg (by omega), if_neg (by omega), if_neg (by omega), j6, j6, j6, j6, j6]
        have e303 : σ9.2.1 303 q = τ.2.2.2 929 0 G := by rw [m3K 303 (by decide), iI.2.2.2, (a14 G hG4).2]
        refine ⟨?_, ?_, rfl, ?_, ?_, ?_, fun i hi => ⟨?_, fun hi2 => ?_⟩⟩
        · rw [if_neg (by omega), if_neg (by omega), x5, if_pos rfl]
        · rw [if_neg (by omega), if_neg (by omega), x5, if_neg (by omega), if_pos rfl]
        · rw [if_neg (by omega), if_neg (by omega), x5, if_neg (by omega), if_neg (by omega), if_pos rfl, a8.1]
        · rw [if_neg (by omega), if_neg (by omega), x5, if_neg (by omega), if_neg (by omega), if_neg (by omega), if_pos rfl]
          exact e303
        · rw [if_neg (by omega), if_neg (by omega), x5, if_neg (by omega), if_neg (by omega), if_neg (by omega), if_neg (by omega), if_pos rfl, ← (a15.1 D hD).1, hNe]
        · rw [(h304 i hi).1, z33, if_neg (show ¬ 18 * q + 5 + i = 18 * q + 2 by omega), j6]
          by_cases e2 : i < N
          · rw [if_pos e2, if_pos (by omega)]
            have : 18 * q + 5 + i - (18 * q + 5) = i := by omega
            rw [this]
          · rw [if_neg e2, if_neg (by omega), if_neg (by omega), x5, if_neg (by omega), if_neg (by omega), if_neg (by omega), if_neg (by omega), if_neg (by omega)]
            have := t0 (5 + i) (by omega)
            rw [← Nat.add_assoc] at this
            exact this.symm
        · rw [(h304 i hi).2, if_pos hi2, z33, if_neg (show ¬ 18 * q + 11 + i = 18 * q + 2 by omega), j6, if_neg (by omega), if_pos (by omega)]
          have : 18 * q + 11 + i - (18 * q + 11) = i := by omega
          rw [this]
      · obtain ⟨b0, b1, b2, b3, b4, b5, b6⟩ := a16.1 q (by omega)
        have k33 : ∀ j, j < 18 → τ9.2.2.2 933 0 (18 * q + j) = τ.2.2.2 933 0 (18 * q + j) := fun j hj => by
          rw [z33, if_neg (by omega), j6, if_neg (by omega), if_neg (by omega), x5, if_neg (by omega), if_neg (by omega), if_neg (by omega), if_neg (by omega), if_neg (by omega)]
        have k0 : τ9.2.2.2 933 0 (18 * q) = τ.2.2.2 933 0 (18 * q) := k33 0 (by decide)
        obtain ⟨d1, d2⟩ := h304k q e
        rw [m3k 300 q (by decide) e, m3k 301 q (by decide) e, m3k 302 q (by decide) e, m3k 303 q (by decide) e, n306, if_neg e, d1, d2, k0, k33 1 (by decide), k33 2 (by decide), k33 3 (by decide), k33 4 (by decide), k33 17 (by decide)]
        refine ⟨b0, b1, b2, b3, b4, b5, fun i hi => ?_⟩
        have k5 := k33 (5 + i) (by omega)
        have k11 := k33 (11 + i) (by omega)
        rw [← Nat.add_assoc] at k5 k11
        rw [k5, k11]
        exact b6 i hi
    · rw [lN5] at hq
      rw [z33, if_neg (by omega), j6, if_neg (by omega), if_neg (by omega), x5, if_neg (by omega), if_neg (by omega), if_neg (by omega), if_neg (by omega), if_neg (by omega)]
      exact tl q (by omega) i hi
  have hGO : GO σ9 τ9 := go_e hGO9 rfl rfl rfl rfl rfl rfl rfl rfl rfl (by rw [zA]) (by rw [zA]) (by rw [zA]) (z4J 906 (by decide) (by decide)) (z4J 910 (by decide) (by decide)) (z4J 911 (by decide) (by decide)) (z4J 912 (by decide) (by decide))
  have hRB : RB σ9 := by
    refine ⟨?_, ?_, fun k => ?_, fun k => ?_, ?_, fun k i => ?_⟩
    · rw [n1 5 (by decide) (by decide) (by decide)]; exact r1
    · rw [n1 205 (by decide) (by decide) (by decide)]; exact r2
    · rw [n306]
      split
      · exact hN6
      · exact r3 k
    · rw [lN5]
      have b1 := h506 k
      have b2 := r4 k
      omega
    · rw [q3 0 (by decide) (by decide)]; exact r5
    · rw [q34]
      have := r6 k i
      split <;> omega
  have hPK : PK σ9 := pk_eq9 k4 (lN 6 (by decide)) (fun j => by rw [n1 402 (by decide) (by decide) (by decide)]) (q4 400 (by decide) (by decide) (by decide) (by decide)) (q4 401 (by decide) (by decide) (by decide) (by decide))
  refine ⟨by rw [z2]; exact t944, ⟨hCI, fun k => by rw [n1 402 (by decide) (by decide) (by decide)]; exact k2 k, fun k => by rw [q3 702 (by decide) (by decide)]; exact k3 k, hPK⟩, ⟨fun k => by rw [n1 504 (by decide) (by decide) (by decide), n1 502 (by decide) (by decide) (by decide)]; exact a2.1 k, fun k => by rw [n1 502 (by decide) (by decide) (by decide)]; exact a2.2.1 k, by rw [n1 812 (by decide) (by decide) (by decide)]; exact a2.2.2⟩, hRI, ⟨by rw [lN 0 (by decide)]; exact n0, by rw [lN 1 (by decide)]; exact n1', by rw [lN 2 (by decide)]; exact n2, by rw [lN 3 (by decide)]; exact n3, by rw [lN 4 (by decide)]; exact n4, by rw [lN5]; omega, by rw [lN 6 (by decide)]; exact n6⟩, hRB, hS, ⟨by rw [lN 0 (by decide), z1 914 (by decide)]; exact g0, by rw [lN 1 (by decide), z1 924 (by decide)]; exact g1, by rw [lN 2 (by decide), z1 926 (by decide)]; exact g2, by rw [lN 4 (by decide), z1 932 (by decide)]; exact g4, by rw [lN5, z934], by rw [lN 6 (by decide), z1 904 (by decide)]; exact g6⟩,
    gt_e a8 (congrFun (n1 811 (by decide) (by decide) (by decide)) 0) (congrFun (n1 812 (by decide) (by decide) (by decide)) 0) (n1 504 (by decide) (by decide) (by decide)) (z1 900 (by decide)) (z1 901 (by decide)), gp_e a9 (lN 6 (by decide)) (n1 402 (by decide) (by decide) (by decide)) (q4 400 (by decide) (by decide) (by decide) (by decide)) (q4 401 (by decide) (by decide) (by decide) (by decide)) (z3 903 (by decide) (by decide)) (z4 902 (by decide) (by decide) (by decide)), hGO, gm_e a11 (congrFun (q4 806 (by decide) (by decide) (by decide) (by decide)) 0) (z4 905 (by decide) (by decide) (by decide)), hGA, gq_e a13 (lN 2 (by decide)) (lN 1 (by decide)) (lN 6 (by decide)) (n1 208 (by decide) (by decide) (by decide)) (m2 207 (by omega) (by decide) (by decide)) (lA 2 (by decide)) (z3 925 (by decide) (by decide)) (z3 921 (by decide) (by decide)) (z4 920 (by decide) (by decide) (by decide)), gg_e a14 (m2 100 (by omega) (by decide) (by decide)) (m2 101 (by omega) (by decide) (by decide)) (z4 928 (by decide) (by decide) (by decide)) (z4 929 (by decide) (by decide) (by decide)) (z3 927 (by decide) (by decide)), hGD, hGR, gw_e a17 (z1 926 (by decide)) (z4 902 (by decide) (by decide) (by decide)) (z3 903 (by decide) (by decide)) (z4 915 (by decide) (by decide) (by decide)) (z4 916 (by decide) (by decide) (by decide)) (z3 925 (by decide) (by decide)) (z3 921 (by decide) (by decide)) (z3 922 (by decide) (by decide))⟩
