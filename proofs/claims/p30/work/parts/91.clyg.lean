/-! plan -/
theorem pig : ∀ (m n : Nat) (f : Nat → Nat), (∀ i, i < n → f i < m) → (∀ i j, i < n → j < i → f i ≠ f j) → n ≤ m
  | 0, n, f, h, _ => by
    cases n with
    | zero => exact Nat.le_refl _
    | succ n => exact absurd (h 0 (Nat.succ_pos _)) (Nat.not_lt_zero _)
  | m + 1, n, f, h, hd => by
    have dn : ∀ i j, i < n → j < n → i ≠ j → f i ≠ f j := fun i j hi hj e => by
      rcases Nat.lt_or_gt_of_ne e with z | z
      · exact fun y => hd j i hj z y.symm
      · exact hd i j hi z
    by_cases c : ∃ i, i < n ∧ f i = m
    · obtain ⟨i, hi, e⟩ := c
      have key := pig m (n - 1) (fun j => if j = i then f (n - 1) else f j) (fun j hj => ?_) (fun j k hj hk => ?_)
      · omega
      · show (if j = i then f (n - 1) else f j) < m
        by_cases q : j = i
        · rw [if_pos q]
          have h1 := h (n - 1) (by omega)
          have h2 := dn (n - 1) i (by omega) hi (by omega)
          omega
        · rw [if_neg q]
          have h1 := h j (by omega)
          have h2 := dn j i (by omega) hi q
          omega
      · show (if j = i then f (n - 1) else f j) ≠ (if k = i then f (n - 1) else f k)
        by_cases q : j = i
        · rw [if_pos q, if_neg (by omega)]
          exact dn (n - 1) k (by omega) (by omega) (by omega)
        · rw [if_neg q]
          by_cases q2 : k = i
          · rw [if_pos q2]
            exact dn j (n - 1) (by omega) (by omega) (by omega)
          · rw [if_neg q2]
            exact dn j k (by omega) (by omega) (by omega)
    · have := pig m n f (fun i hi => by
        have h1 := h i hi
        have h2 : f i ≠ m := fun z => c ⟨i, hi, z⟩
        omega) hd
      omega
/-- a pallet that isn't planned finds the queue with room for one more -/
theorem q_room {σ τ : St} (hQ : GQ σ τ) (hC : RC σ) (hN : GN σ τ) {P : Nat} (hP : P < σ.1 1002 1) (h0 : ¬ τ.2.2.2 920 0 P = nI 1) : σ.1 1002 2 + 1 ≤ 6 := by
  refine Nat.le_trans (pig (σ.1 1002 1) (σ.1 1002 2 + 1) (fun i => if i = σ.1 1002 2 then P else τ.2.2.1 925 0 i) (fun i hi => ?_) (fun i j hi hj => ?_)) hC.2.1
  · show (if i = σ.1 1002 2 then P else τ.2.2.1 925 0 i) < _
    by_cases q : i = σ.1 1002 2
    · rw [if_pos q]; exact hP
    · rw [if_neg q]; exact (hQ.1 i (by omega)).2.1
  · show (if i = σ.1 1002 2 then P else τ.2.2.1 925 0 i) ≠ (if j = σ.1 1002 2 then P else τ.2.2.1 925 0 j)
    rw [if_neg (show ¬ j = σ.1 1002 2 by omega)]
    by_cases q : i = σ.1 1002 2
    · rw [if_pos q]
      exact fun z => h0 (by rw [z]; exact (hQ.1 j (by omega)).2.2.1)
    · rw [if_neg q]
      exact hQ.2 i j (by omega) hj
theorem slc_lt {f : Nat → Int32} {P i : Nat} (h : i < 144) : slc f P i = f (144 * P + i) := by
  unfold slc
  rw [Nat.mod_eq_of_lt h]
/-- a run of the reference, and whether what is planned goes well -/
theorem runs0_wr {P pr g : Nat} {τ : St} (h : (m_runs0 P pr g τ).1 = 0) (hg : g ≤ (TR (τ.2.2.2 902 0) (τ.2.2.1 903 0) pr).1.length) : wr0 (τ.2.2.2 902 0) (τ.2.2.1 903 0) (slc (τ.2.2.2 915 0) P) (slc (τ.2.2.2 916 0) P) pr g := by
  obtain ⟨q1, -⟩ := runs0_ab (P := P) (pr := pr) (fr := g) (τ := τ) (cl := slc (τ.2.2.2 916 0) P) (h := slc (τ.2.2.2 915 0) P) (fun i hi => (slc_lt hi).symm) (fun i hi => (slc_lt hi).symm)
  exact ⟨hg, q1.symm.trans h⟩
theorem wr_runs0 {P pr g : Nat} {τ : St} (h : wr0 (τ.2.2.2 902 0) (τ.2.2.1 903 0) (slc (τ.2.2.2 915 0) P) (slc (τ.2.2.2 916 0) P) pr g) : (m_runs0 P pr g τ).1 = 0 ∧ g ≤ (TR (τ.2.2.2 902 0) (τ.2.2.1 903 0) pr).1.length := by
  obtain ⟨q1, -⟩ := runs0_ab (P := P) (pr := pr) (fr := g) (τ := τ) (cl := slc (τ.2.2.2 916 0) P) (h := slc (τ.2.2.2 915 0) P) (fun i hi => (slc_lt hi).symm) (fun i hi => (slc_lt hi).symm)
  exact ⟨q1.trans h.2, h.1⟩
theorem lj2 {j : Nat} (hj : j < 8) : lj j ≠ 2 := by
  rcases (by omega : j = 0 ∨ j = 1 ∨ j = 2 ∨ j = 3 ∨ j = 4 ∨ j = 5 ∨ j = 6 ∨ j = 7) with rfl | rfl | rfl | rfl | rfl | rfl | rfl | rfl <;> decide
theorem ci_add2 {P : Nat} {σ : St} (h : CI σ) (hP : P < σ.1 1002 1) (hr : σ.1 1002 2 < 6) : CI (ladd 2 P σ) := by
  have e2 : ∀ j, j ≠ 2 → (ladd 2 P σ).1 1002 j = σ.1 1002 j := fun j z => ((ladd_off 2 P 0 (fun _ _ => 0) σ).1 1002 j (by omega)).1
  have e3 : ∀ j, j ≠ 2 → (ladd 2 P σ).1 1003 j = σ.1 1003 j := fun j z => ((ladd_off 2 P 0 (fun _ _ => 0) σ).1 1003 j (by omega)).1
  have eA : ∀ j, j ≠ 2 → (ladd 2 P σ).2.2.1 1001 j = σ.2.2.1 1001 j := fun j z => ((ladd_off 2 P 0 (fun _ _ => 0) σ).2.1 1001 j (by omega)).1
  refine ⟨fun j hj => ?_, fun j hj i hi => ?_⟩
  · obtain ⟨a, b, c⟩ := h.1 j hj
    by_cases e : j = 2
    · subst e
      rw [ladd_N, ladd_C]
      unfold lcap
      by_cases q : σ.1 1002 2 = σ.1 1003 2
      · rw [if_pos q, if_pos (by omega)]
        omega
      · rw [if_neg q]
        omega
    · rw [e2 j e, e3 j e]
      exact ⟨a, b, c⟩
  · rw [e2 _ (lj2 hj)]
    by_cases e : j = 2
    · subst e
      rw [ladd_N] at hi
      rw [ladd_A]
      by_cases q : i = σ.1 1002 2
      · rw [q, up1_s]; exact hP
      · rw [up1_n q]; exact h.2 2 hj i (by omega)
    · rw [e2 j e] at hi
      rw [eA j e]
      exact h.2 j hj i hi
theorem plan_ok {σ τ : St} {P pr : Nat} {x : Int32} (h : Rl wr0 σ τ) (hP : P < σ.1 1002 1) (hp : pr < σ.1 1002 6) (hr : σ.1 1002 2 + 1 ≤ 6) (c3 : τ.2.2.2 920 0 P = 0) (hw : wr0 (τ.2.2.2 902 0) (τ.2.2.1 903 0) (slc (τ.2.2.2 915 0) P) (slc (τ.2.2.2 916 0) P) pr 0) : Rl wr0 (ladd 2 P (wI (wI σ 206 P (nI 1)) 207 P (nI pr))) (wN (wA (wA (wB (wI τ 944 0 x) 920 0 P (nI 1)) 921 0 P pr) 925 0 (τ.1 926 0) P) 926 0 (τ.1 926 0 + 1)) := by
  obtain ⟨⟨ci, k2, k3, k4⟩, a2, a3, ⟨n0, n1, n2, n3, n4, n5, n6⟩, a5, ⟨s1, s2, s3, s4, s5, s6, s7, s8, s9, s10, s11⟩, ⟨g0, g1, g2, g4, g5, g6⟩, a8, a9, a10, a11, a12, a13, a14, a15, a16, a17⟩ := h
  have hg0 : τ.2.2.1 922 0 P = 0 := s11 P c3
  generalize hn : σ.1 1002 2 = n at *
  have hci : CI (ladd 2 P (wI (wI σ 206 P (nI 1)) 207 P (nI pr))) := ci_add2 (σ := wI (wI σ 206 P (nI 1)) 207 P (nI pr)) ci hP (by show σ.1 1002 2 < 6; omega)
  have eN : (ladd 2 P (wI (wI σ 206 P (nI 1)) 207 P (nI pr))).1 1002 2 = n + 1 := by
    rw [ladd_N]
    show σ.1 1002 2 + 1 = n + 1
    rw [hn]
  have eA : (ladd 2 P (wI (wI σ 206 P (nI 1)) 207 P (nI pr))).2.2.1 1001 2 = up1 (σ.2.2.1 1001 2) n P := by
    rw [ladd_A]
    show up1 (σ.2.2.1 1001 2) (σ.1 1002 2) P = _
    rw [hn]
  have e6 : ∀ k, (ladd 2 P (wI (wI σ 206 P (nI 1)) 207 P (nI pr))).2.1 206 k = up1 (σ.2.1 206) P (nI 1) k := fun k => by
    show up2 (up2 σ.2.1 206 P (nI 1)) 207 P (nI pr) 206 k = _
    rw [up2_n (fun z => absurd z.1 (by decide))]
    unfold up2
    rw [if_pos rfl]
  have e7 : ∀ k, (ladd 2 P (wI (wI σ 206 P (nI 1)) 207 P (nI pr))).2.1 207 k = up1 (σ.2.1 207) P (nI pr) k := fun k => by
    show up2 (up2 σ.2.1 206 P (nI 1)) 207 P (nI pr) 207 k = _
    unfold up2
    rw [if_pos rfl, if_neg (by decide)]
  have t20 : ∀ k, (wN (wA (wA (wB (wI τ 944 0 x) 920 0 P (nI 1)) 921 0 P pr) 925 0 (τ.1 926 0) P) 926 0 (τ.1 926 0 + 1)).2.2.2 920 0 k = up1 (τ.2.2.2 920 0) P (nI 1) k := fun k => by
    show up3 τ.2.2.2 920 0 P (nI 1) 920 0 k = _
    rw [up3_s]
  have t21 : ∀ k, (wN (wA (wA (wB (wI τ 944 0 x) 920 0 P (nI 1)) 921 0 P pr) 925 0 (τ.1 926 0) P) 926 0 (τ.1 926 0 + 1)).2.2.1 921 0 k = up1 (τ.2.2.1 921 0) P pr k := fun k => by
    show up3 (up3 τ.2.2.1 921 0 P pr) 925 0 (τ.1 926 0) P 921 0 k = _
    rw [up3_n (fun z => absurd z.1 (by decide)), up3_s]
  have t25 : ∀ k, (wN (wA (wA (wB (wI τ 944 0 x) 920 0 P (nI 1)) 921 0 P pr) 925 0 (τ.1 926 0) P) 926 0 (τ.1 926 0 + 1)).2.2.1 925 0 k = up1 (τ.2.2.1 925 0) n P k := fun k => by
    show up3 (up3 τ.2.2.1 921 0 P pr) 925 0 (τ.1 926 0) P 925 0 k = _
    rw [up3_s, up3_n (fun z => absurd z.1 (by decide)), g2]
  have t26 : (wN (wA (wA (wB (wI τ 944 0 x) 920 0 P (nI 1)) 921 0 P pr) 925 0 (τ.1 926 0) P) 926 0 (τ.1 926 0 + 1)).1 926 0 = n + 1 := by
    rw [wN_sv, g2]
  have hne : ∀ i, i < n → τ.2.2.1 925 0 i ≠ P := fun i hi z => by
    have := (a13.1 i (by rw [hn]; exact hi)).2.2.1
    rw [z, c3] at this
    exact absurd this (by decide)
  have hS : SB (wN (wA (wA (wB (wI τ 944 0 x) 920 0 P (nI 1)) 921 0 P pr) 925 0 (τ.1 926 0) P) 926 0 (τ.1 926 0 + 1)) := by
    refine ⟨s1, s2, s3, s4, s5, fun k => ?_, s7, s8, s9, s10, fun k hk => ?_⟩
    · rw [t25]
      by_cases q : k = n
      · rw [q, up1_s]; omega
      · rw [up1_n q]; exact s6 k
    · rw [t20] at hk
      by_cases q : k = P
      · rw [q, up1_s] at hk
        exact absurd hk (by decide)
      · rw [up1_n q] at hk
        exact s11 k hk
  have hA : GA (ladd 2 P (wI (wI σ 206 P (nI 1)) 207 P (nI pr))) (wN (wA (wA (wB (wI τ 944 0 x) 920 0 P (nI 1)) 921 0 P pr) 925 0 (τ.1 926 0) P) 926 0 (τ.1 926 0 + 1)) := by
    refine ⟨fun k hk => ?_, fun k hk => ?_⟩
    · obtain ⟨d1, d2, d3⟩ := a12.1 k hk
      refine ⟨d1, ?_, d3⟩
      rw [e6, t20]
      by_cases q : k = P
      · rw [q, up1_s, up1_s]
      · rw [up1_n q, up1_n q]; exact d2
    · have hk : σ.1 1002 1 ≤ k := hk
      obtain ⟨d1, d2, d3⟩ := a12.2 k hk
      refine ⟨d1, ?_, d3⟩
      rw [t20, up1_n (by omega)]
      exact d2
  have hQ : GQ (ladd 2 P (wI (wI σ 206 P (nI 1)) 207 P (nI pr))) (wN (wA (wA (wB (wI τ 944 0 x) 920 0 P (nI 1)) 921 0 P pr) 925 0 (τ.1 926 0) P) 926 0 (τ.1 926 0 + 1)) := by
    refine ⟨fun i hi => ?_, fun i j hi hj => ?_⟩
    · rw [eN] at hi
      rw [eA, t25, e7, t20, t21]
      by_cases q : i = n
      · rw [q, up1_s, up1_s, up1_s, up1_s, up1_s]
        refine ⟨rfl, hP, rfl, rfl, hp, ?_⟩
        show σ.1 208 P ≤ 6600
        rw [(a12.1 P hP).2.2.2.1, hg0]
        exact Nat.zero_le _
      · have hi' : i < n := by omega
        rw [up1_n q, up1_n q, up1_n (hne i hi'), up1_n (hne i hi'), up1_n (hne i hi')]
        exact a13.1 i (by rw [hn]; exact hi')
    · rw [eN] at hi
      rw [t25, t25, up1_n (show j ≠ n by omega)]
      by_cases q : i = n
      · rw [q, up1_s]
        exact fun z => hne j (by omega) z.symm
      · rw [up1_n q]
        exact a13.2 i j (by rw [hn]; omega) hj
  have hW : GW wr0 (wN (wA (wA (wB (wI τ 944 0 x) 920 0 P (nI 1)) 921 0 P pr) 925 0 (τ.1 926 0) P) 926 0 (τ.1 926 0 + 1)) := fun i hi => by
    rw [t26] at hi
    rw [t25]
    by_cases q : i = n
    · rw [q, up1_s, t21, up1_s]
      show wr0 (τ.2.2.2 902 0) (τ.2.2.1 903 0) (slc (τ.2.2.2 915 0) P) (slc (τ.2.2.2 916 0) P) pr (τ.2.2.1 922 0 P)
      rw [hg0]
      exact hw
    · have hi' : i < n := by omega
      rw [up1_n q, t21, up1_n (hne i hi')]
      exact a17 i (by rw [← g2]; exact hi')
  exact ⟨⟨hci, k2, k3, k4⟩, a2, ri_e a3 (fun j z _ => ((ladd_off 2 P 0 (fun _ _ => 0) (wI (wI σ 206 P (nI 1)) 207 P (nI pr))).1 1002 j (by omega)).1) (fun j z _ => ((ladd_off 2 P 0 (fun _ _ => 0) (wI (wI σ 206 P (nI 1)) 207 P (nI pr))).2.1 1001 j (by omega)).1), ⟨n0, n1, by rw [eN]; exact hr, n3, n4, n5, n6⟩, a5, hS, ⟨g0, g1, by rw [eN, t26], g4, g5, g6⟩, a8, a9, a10, a11, hA, hQ, a14, a15, a16, hW⟩
theorem p_plan {σ τ : St} (h : Rl wr0 σ τ) (v1 v2 : Int32) : ((k_pln v1 v2 σ).1 = 0 ∨ (k_pln v1 v2 σ).1 = 1 ∨ (k_pln v1 v2 σ).1 = 3) ∧ (m_plan v1 v2 τ).2.2.1 944 0 = nI (wk [1, 3] (k_pln v1 v2 σ).1) ∧ ((k_pln v1 v2 σ).1 = 0 → (m_plan v1 v2 τ).1 = (k_pln v1 v2 σ).2.1) ∧ Rl wr0 (k_pln v1 v2 σ).2.2 (m_plan v1 v2 τ).2 := by
  have e1 : σ.1 1002 1 = τ.1 924 0 := h.2.2.2.2.2.2.1.2.1
  have e0 : σ.1 1002 6 = τ.1 904 0 := h.2.2.2.2.2.2.1.2.2.2.2.2
  have h6 : σ.1 1002 6 ≤ 6 := h.2.2.2.1.2.2.2.2.2.2
  unfold k_pln m_plan m_g
  by_cases c1 : kP v1 v2 σ
  · have hP := ix_tn c1.1
    have hp := ix_tn c1.2
    have hid : σ.2.2.1 1001 1 (tn v1) = tn v1 := h.2.2.1 1 (by decide) (by decide) (by decide) _ hP
    have c2 : ix v1 (τ.1 924 0) ∧ ix v2 (τ.1 904 0) := by rw [← e1, ← e0]; exact c1
    have hv2 := ix_eq c1.2
    have hk : k_try v1 v2 σ = k_run (tn v1) (nI (tn v2)) 0 σ := by
      rw [← ix_eq c1.2, show k_try v1 v2 σ = k_run (σ.2.2.1 1001 1 (tn v1)) v2 0 σ from if_pos c1, hid]
    rw [if_pos c1, if_neg (show ¬ ¬ (ix v1 (τ.1 924 0) ∧ ix v2 (τ.1 904 0)) from fun z => z c2), hk, hid, gc_2 c2 (fun z => z), gc_0 c2 trivial trivial]
    obtain ⟨q1, q2, q3, q4, -⟩ := runs_eq (g := 0) h hP hp
    have hR := rl_runs0 (P := tn v1) (g := 0) h hp
    obtain ⟨k1, k2, -⟩ := run_kr (p := tn v1) (g := 0) (v := nI (tn v2)) h.1 ((ix_nI (by omega)).mpr hp)
    have hA := h.2.2.2.2.2.2.2.2.2.2.2.1.1 _ hP
    have e206 : (k_run (tn v1) (nI (tn v2)) 0 σ).2.1 206 (tn v1) = τ.2.2.2 920 0 (tn v1) := ((k2.1 206 _ (by omega) (by omega) (by omega)).2).trans hA.2.1
    rw [e206, q1]
    generalize hPP : tn v1 = P at *
    generalize hpp : tn v2 = pr at *
    by_cases c3 : τ.2.2.2 920 0 P = 0
    · rw [if_neg (show ¬ ¬ τ.2.2.2 920 0 P = 0 from fun z => z c3)]
      by_cases c4 : (m_runs0 P pr 0 τ).1 = 0
      · rw [if_neg (show ¬ ¬ (m_runs0 P pr 0 τ).1 = 0 from fun z => z c4), if_pos (show τ.2.2.2 920 0 P = 0 ∧ (m_runs0 P pr 0 τ).1 = 0 from ⟨c3, c4⟩), if_pos (show (ix v1 (τ.1 924 0) ∧ ix v2 (τ.1 904 0)) ∧ True ∧ True from ⟨c2, trivial, trivial⟩)]
        have hroom := q_room h.2.2.2.2.2.2.2.2.2.2.2.2.1 h.2.2.2.1 h.2.2.2.2.2.2.1 hP (by rw [c3]; decide)
        have hwr := runs0_wr c4 (Nat.zero_le _)
        obtain ⟨f1, f2, f3, f4⟩ := FR_runs0 P pr 0 τ
        have e2 : σ.1 1002 2 = τ.1 926 0 := h.2.2.2.2.2.2.1.2.2.1
        have z2 : (k_run P (nI pr) 0 σ).1 1002 2 = σ.1 1002 2 := (k2.1 1002 2 (by omega) (by omega) (by omega)).1
        have z926 : (m_runs0 P pr 0 τ).2.1 926 0 = τ.1 926 0 := by rw [f1 926 (by decide)]
        have z902 : (m_runs0 P pr 0 τ).2.2.2.2 902 0 = τ.2.2.2 902 0 := by rw [f4 902 (by decide)]
        have z903 : (m_runs0 P pr 0 τ).2.2.2.1 903 0 = τ.2.2.1 903 0 := by rw [f3 903 (by decide)]
        have z915 : (m_runs0 P pr 0 τ).2.2.2.2 915 0 = τ.2.2.2 915 0 := by rw [f4 915 (by decide)]
        have z916 : (m_runs0 P pr 0 τ).2.2.2.2 916 0 = τ.2.2.2 916 0 := by rw [f4 916 (by decide)]
        have z920 : (m_runs0 P pr 0 τ).2.2.2.2 920 0 = τ.2.2.2 920 0 := by rw [f4 920 (by decide)]
        have z1 : (k_run P (nI pr) 0 σ).1 1002 1 = σ.1 1002 1 := (k2.1 1002 1 (by omega) (by omega) (by omega)).1
        have z6 : (k_run P (nI pr) 0 σ).1 1002 6 = σ.1 1002 6 := (k2.1 1002 6 (by omega) (by omega) (by omega)).1
        rw [← z902, ← z903, ← z915, ← z916] at hwr
        rw [← z920] at c3
        rw [← z2] at hroom
        rw [← z1] at hP
        rw [← z6] at hp
        refine ⟨Or.inl rfl, ?_, fun _ => by rw [e2], ?_⟩
        · show (wI (m_runs0 P pr 0 τ).2 944 0 (nI 0)).2.1 944 0 = nI 0
          exact wI_sv
        rw [← z926, hv2]
        exact plan_ok hR hP hp hroom c3 hwr
      · rw [if_pos (show ¬ (m_runs0 P pr 0 τ).1 = 0 from c4), if_neg (show ¬ (τ.2.2.2 920 0 P = 0 ∧ (m_runs0 P pr 0 τ).1 = 0) from fun z => c4 z.2)]
        exact ⟨Or.inr (Or.inr rfl), ag_n hR (show ¬ (3 : Nat) = 0 by decide) rfl⟩
    · rw [if_pos (show ¬ τ.2.2.2 920 0 P = 0 from c3), if_neg (show ¬ (τ.2.2.2 920 0 P = 0 ∧ (m_runs0 P pr 0 τ).1 = 0) from fun z => c3 z.1)]
      exact ⟨Or.inr (Or.inr rfl), ag_n (rl_run h k2 k1 h.2.2.2.2.2.1.1 (fun _ _ => rfl) (fun _ _ => rfl) (fun _ _ => rfl)) (show ¬ (3 : Nat) = 0 by decide) rfl⟩
  · have c2 : ¬ (ix v1 (τ.1 924 0) ∧ ix v2 (τ.1 904 0)) := by rw [← e1, ← e0]; exact c1
    rw [if_neg c1, if_pos (show ¬ (ix v1 (τ.1 924 0) ∧ ix v2 (τ.1 904 0)) from c2), gc_1 c2]
    exact ⟨Or.inr (Or.inl rfl), ag_n h (show ¬ (1 : Nat) = 0 by decide) rfl⟩
