/-! the whole night -/
set_option maxHeartbeats 100000 in
theorem n2_sim {K P : Nat} {ρ τ : St} (h : JJ K ρ τ) (h0 : 0 < τ.1 926 0) (hP9 : P < 2) : JJ K (h_n2 0 P ρ) (m_n2 P (τ.1 926 0) τ) := by
  obtain ⟨hN, hP, hA, hT, hM, hQ, hG, hF, hW, hC⟩ := h
  obtain ⟨q10, q2, qi, qd, qp⟩ := hQ
  have t10 : tn (ρ.2.2.2 905 0 10) = τ.1 926 0 := by rw [q10, tn_nI (by omega)]
  have fr : FRm [926] [] [925] [920] τ (m_n2 P (τ.1 926 0) τ) := by
    rw [n2_s]
    exact ((FRm.rf.B (by decide)).N (by decide)).tr (m_shf_fr _ (by decide) _)
  have z926 : (m_n2 P (τ.1 926 0) τ).1 926 0 = τ.1 926 0 - 1 := by
    rw [n2_s, m_shf_N]
    exact (show up2 τ.1 926 0 (τ.1 926 0 - 1) 926 0 = _ from up2_s)
  have z925 : ∀ k, (m_n2 P (τ.1 926 0) τ).2.2.1 925 0 k = if k < τ.1 926 0 - 1 then τ.2.2.1 925 0 (k + 1) else τ.2.2.1 925 0 k := fun k => by
    rw [n2_s, m_shf_q]
    rfl
  have z920 : (m_n2 P (τ.1 926 0) τ).2.2.2 920 0 = up1 (τ.2.2.2 920 0) P (nI 2) := by
    rw [n2_s]
    have q := (m_shf_fr (wN (wB τ 920 0 P (nI 2)) 926 0 (τ.1 926 0 - 1)) (lN := []) (lI := []) (lA := [925]) (lB := []) (by decide) (τ.1 926 0 - 1)).2.2.2 920 (by decide)
    rw [q]
    exact (show up3 τ.2.2.2 920 0 P (nI 2) 920 0 = _ from up3_s)
  generalize m_n2 P (τ.1 926 0) τ = Z at *
  have zN : ∀ F, F ≠ 926 → Z.1 F = τ.1 F := fun F z => fr.1 F (by simp only [List.mem_cons, List.not_mem_nil, or_false]; exact z)
  have zA : ∀ F, F ≠ 925 → Z.2.2.1 F = τ.2.2.1 F := fun F z => fr.2.2.1 F (by simp only [List.mem_cons, List.not_mem_nil, or_false]; exact z)
  have zB : ∀ F, F ≠ 920 → Z.2.2.2 F = τ.2.2.2 F := fun F z => fr.2.2.2 F (by simp only [List.mem_cons, List.not_mem_nil, or_false]; exact z)
  have v1 : (h_n2 0 P ρ).2.2.1 = ρ.2.2.1 := rfl
  have v2 : ∀ F, F ≠ 905 → (h_n2 0 P ρ).2.2.2 F = ρ.2.2.2 F := fun F z => by
    unfold h_n2
    rw [wB_o z, wB_o z, wB_o z]
  have v5 : ∀ i, (h_n2 0 P ρ).2.2.2 905 0 i = if i = 10 then nI (τ.1 926 0 - 1) else if i = 8 then ρ.2.2.2 905 0 9 else if i = 4 * P then nI 2 else ρ.2.2.2 905 0 i := fun i => by
    unfold h_n2
    rw [wB_3, wB_3, wB_3, t10]
    rfl
  generalize h_n2 0 P ρ = V at *
  refine ⟨⟨by rw [v1]; exact hN.1, by rw [v1]; exact hN.2.1, by rw [v1]; exact hN.2.2⟩, ⟨hP.1.eq (v2 901 (by decide)), hP.2.1.eq (v2 901 (by decide)) (zA 903 (by decide)) (zB 902 (by decide)), by rw [zN 904 (by decide)]; exact hP.2.2⟩, ⟨by rw [zN 924 (by decide)]; exact hA.1, fun p hp => ?_⟩, ⟨?_, fun k hk => ?_⟩, ?_, ⟨?_, ?_, fun i hi => ?_, fun z => ?_, fun p hp => ?_⟩, hG.eq (fun i _ => by rw [v2 903 (by decide)]) (zB 928 (by decide)) (zA 927 (by decide)) (zB 929 (by decide)), hF.eq (fun i _ => by rw [v2 903 (by decide)]) (zN 932 (by decide)) (zA 931 (by decide)) (zA 930 (by decide)), hW.eq (fun i _ => by rw [v2 903 (by decide)]) (zN 934 (by decide)) (zB 933 (by decide)), fun p hp => ?_⟩
  · have g := hA.2 p hp
    unfold QE QC at g ⊢
    rw [v1, zB 915 (by decide), zB 916 (by decide), zB 917 (by decide), zB 918 (by decide)]
    exact g
  · have g := hT.1
    unfold RTu at g ⊢
    rw [v2 902 (by decide), zN 914 (by decide), zB 906 (by decide), zB 911 (by decide), zA 907 (by decide), zA 908 (by decide)]
    exact g
  · have g := hT.2 k hk
    rw [v2 902 (by decide), zB 910 (by decide), zB 912 (by decide), zA 913 (by decide)]
    exact g
  · unfold JM at hM ⊢
    rw [v2 903 (by decide), zN 900 (by decide), zN 901 (by decide), zB 905 (by decide), zA 908 (by decide)]
    exact hM
  · rw [v5, if_pos rfl, z926]
  · rw [z926]; omega
  · rw [z926] at hi
    obtain rfl : i = 0 := by omega
    rw [v5, if_neg (by decide), if_pos rfl, z925, if_pos hi]
    exact qi 1 (by omega)
  · rw [z926] at z
    omega
  · have g := qp p hp
    have w0 : V.2.2.2 905 0 (4 * p) = if p = P then nI 2 else ρ.2.2.2 905 0 (4 * p) := by
      rw [v5, if_neg (by omega), if_neg (by omega)]
      by_cases e : p = P
      · subst e; rw [if_pos rfl, if_pos rfl]
      · rw [if_neg (by omega), if_neg e]
    have w1 : ∀ j, 0 < j → j < 4 → V.2.2.2 905 0 (4 * p + j) = ρ.2.2.2 905 0 (4 * p + j) := fun j j1 j2 => by
      rw [v5, if_neg (by omega), if_neg (by omega), if_neg (by omega)]
    rw [w0, w1 1 (by decide) (by decide), w1 2 (by decide) (by decide), w1 3 (by decide) (by decide), z920, zA 921 (by decide), zA 922 (by decide), zB 923 (by decide)]
    refine ⟨?_, g.2⟩
    by_cases e : p = P
    · subst e; rw [if_pos rfl, up1_s]
    · rw [if_neg e, up1_n e]; exact g.1
  · rw [zA 919 (by decide), v1, z920]
    refine ⟨(hC p hp).1, ?_⟩
    by_cases e : p = P
    · subst e; rw [up1_s]; exact Or.inr (Or.inr rfl)
    · rw [up1_n e]; exact (hC p hp).2
set_option maxHeartbeats 100000 in
theorem pr_ok {n : Nat} {a b : St} {P : St → St → Prop} (h : P a b) : (n, a).1 = (n, b).1 ∧ P (n, a).2 (n, b).2 := ⟨rfl, h⟩
set_option maxHeartbeats 100000 in
theorem n12_h {K : Nat} {ρ τ : St} (h : JJ K ρ τ) (h0 : 0 < τ.1 926 0) : tn (ρ.2.2.2 905 0 8) = τ.2.2.1 925 0 0 ∧ tn (ρ.2.2.2 905 0 10) = τ.1 926 0 ∧ τ.2.2.1 925 0 0 < 2 := by
  have hQ := h.2.2.2.2.2.1
  have h2 := hQ.2.1
  have h1 := hQ.1
  obtain ⟨a1, a2⟩ := hQ.2.2.1 0 h0
  rw [Nat.add_zero] at a1
  exact ⟨by rw [a1, tn_nI (by omega)], by rw [h1, tn_nI (by omega)], a2⟩
set_option maxHeartbeats 100000 in
theorem n12_g {K P Q : Nat} {X Y : St} (q2 : JJ K X Y) (e26 : Y.1 926 0 = Q) (h0 : 0 < Q) (hp : P < 2) : JJ K (h_n2 0 P X) (m_n2 P Q Y) ∧ (m_n2 P Q Y).1 926 0 = Q - 1 := by
  subst e26
  refine ⟨n2_sim q2 h0 hp, ?_⟩
  rw [n2_s, m_shf_N]
  exact (show up2 Y.1 926 0 (Y.1 926 0 - 1) 926 0 = _ from up2_s)
set_option maxHeartbeats 100000 in
theorem n12_sim {K : Nat} {ρ τ : St} (h : JJ K ρ τ) (h0 : 0 < τ.1 926 0) : JJ K (h_n2 0 (τ.2.2.1 925 0 0) (h_n1 0 1 0 0 0 ρ).2) (m_n2 (τ.2.2.1 925 0 0) (τ.1 926 0) (m_n1 τ).2) ∧ (m_n2 (τ.2.2.1 925 0 0) (τ.1 926 0) (m_n1 τ).2).1 926 0 = τ.1 926 0 - 1 :=
  n12_g (n1_sim h h0).2.1 (congrFun (n1_sim h h0).2.2.1 0) h0 (n12_h h h0).2.2
set_option maxHeartbeats 100000 in
theorem n12_a {q f g : Nat} (h0 : 0 < q) (h1 : q ≤ f + 1) (h2 : q ≤ g + 1) : (q = 1 → q - 1 = 0) ∧ (¬ q = 1 → ¬ q - 1 = 0 ∧ 0 < q - 1 ∧ q - 1 ≤ f ∧ q - 1 ≤ g) := ⟨fun _ => by omega, fun _ => ⟨by omega, by omega, by omega, by omega⟩⟩
set_option maxHeartbeats 100000 in
theorem ngl_sim {K : Nat} (f : Nat) : ∀ (g n : Nat) (ρ τ : St), JJ K ρ τ → 0 < τ.1 926 0 → τ.1 926 0 ≤ f → τ.1 926 0 ≤ g → (h_ngl 0 1 0 0 0 f n ρ).1 = (m_ngl g n τ).1 ∧ JJ K (h_ngl 0 1 0 0 0 f n ρ).2 (m_ngl g n τ).2 := by
  induction f with
  | zero => intro g n ρ τ h h0 hf hg; exact absurd hf (Nat.not_le.mpr h0)
  | succ f ih =>
    intro g9 n ρ τ h h0 hf hg
    obtain ⟨g, rfl⟩ : ∃ g, g9 = g + 1 := ⟨g9 - 1, by omega⟩
    obtain ⟨y1, y2⟩ := n12_a h0 hf hg
    have q1 := (n1_sim h h0).1
    have q2 := (n1_sim h h0).2.1
    obtain ⟨e8, t10, -⟩ := n12_h h h0
    obtain ⟨n2, z26⟩ := n12_sim h h0
    by_cases c : (m_n1 τ).1 = 0
    · have ch : (h_n1 0 1 0 0 0 ρ).1 = 0 := q1.trans (fx_0.mpr c)
      by_cases c1 : τ.1 926 0 = 1
      · have E1 : m_ngl (g + 1) n τ = (n + 1, m_n2 (τ.2.2.1 925 0 0) (τ.1 926 0) (m_n1 τ).2) := ngl_s.trans ((if_pos c).trans (if_pos (y1 c1)))
        have E2 := hng_1 (f := f) (n := n) ch (t10.trans c1)
        rw [e8] at E2
        rw [E1, E2]
        exact pr_ok (P := JJ K) n2
      · obtain ⟨y3, y4, y5, y6⟩ := y2 c1
        have E1 : m_ngl (g + 1) n τ = m_ngl g (n + 1) (m_n2 (τ.2.2.1 925 0 0) (τ.1 926 0) (m_n1 τ).2) := ngl_s.trans ((if_pos c).trans (if_neg y3))
        have E2 := hng_2 (f := f) (n := n) ch (fun z => c1 (t10.symm.trans z))
        rw [e8] at E2
        rw [E1, E2]
        exact ih g (n + 1) _ _ n2 (by rw [z26]; exact y4) (by rw [z26]; exact y5) (by rw [z26]; exact y6)
    · have E1 : m_ngl (g + 1) n τ = (n, (m_n1 τ).2) := ngl_s.trans (if_neg c)
      have E2 := hng_n (f := f) (n := n) (σ := ρ) (ka := 0) (kb := 1) (ku := 0) (km := 0) (kq := 0) (fun z => c (fx_0.mp (q1.symm.trans z)))
      rw [E1, E2]
      exact pr_ok (P := JJ K) q2
set_option maxHeartbeats 100000 in
theorem JJ.t944 {K : Nat} {ρ τ : St} (h : JJ K ρ τ) (x : Int32) : JJ K ρ (wI τ 944 0 x) := h
set_option maxHeartbeats 100000 in
theorem nt_0 {ρ : St} (c : tn (ρ.2.2.2 905 0 10) = 0) : h_night 0 1 0 0 0 ρ = (0, ρ) := if_pos c
set_option maxHeartbeats 100000 in
theorem nt_1 {ρ : St} (c : ¬ tn (ρ.2.2.2 905 0 10) = 0) : h_night 0 1 0 0 0 ρ = h_ngl 0 1 0 0 0 2 0 ρ := if_neg c
set_option maxHeartbeats 100000 in
theorem mt_0 {τ : St} (c : τ.1 926 0 = 0) : m_night τ = (nI 0, wI τ 944 0 (nI 0)) := by
  unfold m_night
  rw [if_pos c, if_pos rfl]
set_option maxHeartbeats 100000 in
theorem mt_1 {τ : St} (c : ¬ τ.1 926 0 = 0) : m_night τ = (nI (m_ngl 6 0 (wI τ 944 0 (nI 0))).1, (m_ngl 6 0 (wI τ 944 0 (nI 0))).2) := by
  unfold m_night
  rw [if_neg c, if_neg (by decide)]
set_option maxHeartbeats 100000 in
theorem night_sim {K : Nat} {ρ τ : St} (h : JJ K ρ τ) : nI (h_night 0 1 0 0 0 ρ).1 = (m_night τ).1 ∧ JJ K (h_night 0 1 0 0 0 ρ).2 (m_night τ).2 := by
  have hQ := h.2.2.2.2.2.1
  have t10 : tn (ρ.2.2.2 905 0 10) = τ.1 926 0 := by rw [hQ.1, tn_nI (by have := hQ.2.1; omega)]
  by_cases c : τ.1 926 0 = 0
  · rw [nt_0 (t10.trans c), mt_0 c]
    exact ⟨rfl, h.t944 _⟩
  · rw [nt_1 (fun z => c (t10.symm.trans z)), mt_1 c]
    have q := ngl_sim 2 6 0 ρ (wI τ 944 0 (nI 0)) (h.t944 _) (Nat.pos_of_ne_zero c) (hQ.2.1) (Nat.le_trans hQ.2.1 (by decide))
    generalize h_ngl 0 1 0 0 0 2 0 ρ = X at q ⊢
    generalize m_ngl 6 0 (wI τ 944 0 (nI 0)) = Y at q ⊢
    exact ⟨congrArg nI q.1, q.2⟩
set_option maxHeartbeats 100000 in
theorem j_NI {K : Nat} {ρ τ : St} (h : JJ K ρ τ) : NI 0 1 0 0 0 ρ := by
  obtain ⟨hN, hP, hA, hT, hM, hQ, hG, hF, hW, hC⟩ := h
  obtain ⟨q10, q2, qi, qd, qp⟩ := hQ
  have t10 : tn (ρ.2.2.2 905 0 10) = τ.1 926 0 := by rw [q10, tn_nI (by omega)]
  refine ⟨l_LJ (by decide) hN hA hT hM, l_LJ (by decide) hN hA hT hM, hP.1, by rw [hN.2.2]; decide, by rw [q10]; exact (ix_nI (by omega)).mpr (by omega), fun i hi => ?_⟩
  rw [t10] at hi
  obtain ⟨a1, a2⟩ := qi i hi
  rw [a1, tn_nI (by omega)]
  obtain ⟨b1, b2, b3, b4, b5, b6⟩ := qp _ a2
  rw [b2, b3]
  exact ⟨(ix_nI (by omega)).mpr a2, (ix_nI (by omega)).mpr b5, (ix_nI (by omega)).mpr (by omega)⟩
