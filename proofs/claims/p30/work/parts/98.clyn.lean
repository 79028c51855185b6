/-! pallet -/
theorem p_pallet {wr : WrT} {σ τ : St} (h : Rl wr σ τ) (v1 : Int32) : ((k_pallet v1 σ).1 = 0 ∨ (k_pallet v1 σ).1 = 2 ∨ (k_pallet v1 σ).1 = 3) ∧ (m_pallet v1 τ).2.2.1 944 0 = nI (wk [2, 3] (k_pallet v1 σ).1) ∧ ((k_pallet v1 σ).1 = 0 → (m_pallet v1 τ).1 = (k_pallet v1 σ).2.1) ∧ Rl wr (k_pallet v1 σ).2.2 (m_pallet v1 τ).2 := by
  unfold k_pallet m_pallet m_g
  have e0 : σ.1 1002 1 = τ.1 924 0 := h.2.2.2.2.2.2.1.2.1
  by_cases c1 : 1 ≤ v1.toInt ∧ v1.toInt ≤ 9
  · rw [if_pos c1]
    by_cases c3 : σ.1 1002 1 < 6
    · rw [if_pos c3, ← e0, if_pos (show (1 ≤ v1.toInt ∧ v1.toInt ≤ 9) ∧ σ.1 1002 1 < 6 ∧ True from ⟨c1, c3, trivial⟩), gc_0 c1 c3 trivial]
      obtain ⟨⟨ci, k2, k3, k4⟩, a2, a3, ⟨n0, n1, n2, n3, n4, n5, n6⟩, ⟨r1, r2, r3, r4, r5, r6⟩, a6, ⟨g0, g1, g2, g4, g5, g6⟩, a8, a9, a10, a11, a12, a13, a14, a15, a16, a17⟩ := h
      generalize hn : σ.1 1002 1 = n at *
      obtain ⟨s9, hs9⟩ : ∃ s, s = m_fill 203 n (-1) 144 (m_fill 202 n (-1) 144 (m_fill 201 n (nI 1000 * v1) 144 (m_fill 200 n v1 144 (i_2 n σ)))) := ⟨_, rfl⟩
      rw [← hs9]
      have hoff : Off 2 n σ s9 := by rw [hs9]; exact (((i_2_off.tr (off_fill (C := 2) (F0 := 200) (by decide) 144)).tr (off_fill (C := 2) (F0 := 201) (by decide) 144)).tr (off_fill (C := 2) (F0 := 202) (by decide) 144)).tr (off_fill (C := 2) (F0 := 203) (by decide) 144)
      have hci : CI (ladd 1 n s9) := ci_new ci (by decide) hoff (by decide) rfl hn.symm (by omega)
      have hri : RI (ladd 1 n s9) := ri_new a3 (by decide) hoff hn.symm
      have hs1 : s9.1 = (i_2 n σ).1 := by rw [hs9, (fill_r 144).1, (fill_r 144).1, (fill_r 144).1, (fill_r 144).1]
      have hs2 : s9.2.1 = (i_2 n σ).2.1 := by rw [hs9, (fill_r 144).2.1, (fill_r 144).2.1, (fill_r 144).2.1, (fill_r 144).2.1]
      have hs3 : s9.2.2.1 = (i_2 n σ).2.2.1 := by rw [hs9, (fill_r 144).2.2, (fill_r 144).2.2, (fill_r 144).2.2, (fill_r 144).2.2]
      have hw0 : ∀ c, c < 144 → s9.2.2.2 200 n c = v1 := fun c hc => by rw [hs9, fill_o (fun z => absurd z.1 (by decide)), fill_o (fun z => absurd z.1 (by decide)), fill_o (fun z => absurd z.1 (by decide)), fill_v 144 hc]
      have hw1 : ∀ c, c < 144 → s9.2.2.2 201 n c = nI 1000 * v1 := fun c hc => by rw [hs9, fill_o (fun z => absurd z.1 (by decide)), fill_o (fun z => absurd z.1 (by decide)), fill_v 144 hc]
      have hw2 : ∀ c, c < 144 → s9.2.2.2 202 n c = -1 := fun c hc => by rw [hs9, fill_o (fun z => absurd z.1 (by decide)), fill_v 144 hc]
      have hw3 : ∀ c, c < 144 → s9.2.2.2 203 n c = -1 := fun c hc => by rw [hs9, fill_v 144 hc]
      have hw4 : ∀ c, s9.2.2.2 204 n c = 0 := fun c => by
        rw [hs9, fill_o (fun z => absurd z.1 (by decide)), fill_o (fun z => absurd z.1 (by decide)), fill_o (fun z => absurd z.1 (by decide)), fill_o (fun z => absurd z.1 (by decide))]
        show up2 (up2 (up2 (up2 (up2 σ.2.2.2 200 n (fun _ => 0)) 201 n (fun _ => 0)) 202 n (fun _ => 0)) 203 n (fun _ => 0)) 204 n (fun _ => 0) 204 n c = 0
        rw [up2_s]
      have q6 : (ladd 1 n s9).1 1002 1 = n + 1 := by
        rw [ladd_N, hs1]
        show σ.1 1002 1 + 1 = n + 1
        rw [hn]
      have f1 : ∀ F q, F ≠ 1002 → F ≠ 1003 → (ladd 1 n s9).1 F q = (i_2 n σ).1 F q := fun F q x y => by
        rw [← hs1]
        show up2 (up2 s9.1 1003 1 _) 1002 1 _ F q = _
        rw [up2_n (fun z => x z.1), up2_n (fun z => y z.1)]
      have f2 : ∀ F q, F ≠ 1000 → (ladd 1 n s9).2.1 F q = (i_2 n σ).2.1 F q := fun F q x => by
        rw [← hs2]
        show up2 s9.2.1 1000 1 _ F q = _
        rw [up2_n (fun z => x z.1)]
      have f3 : ∀ F q, F ≠ 1001 → (ladd 1 n s9).2.2.1 F q = σ.2.2.1 F q := fun F q x => by
        show up3 s9.2.2.1 1001 1 _ _ F q = _
        rw [up3_n (fun z => x z.1), hs3]
        rfl
      have f4 : (ladd 1 n s9).2.2.2 = s9.2.2.2 := rfl
      have f9 : ∀ F q, F < 1000 → ¬ (F / 100 = 2 ∧ q = n) → ((ladd 1 n s9).1 F q = σ.1 F q ∧ (ladd 1 n s9).2.1 F q = σ.2.1 F q) ∧ (ladd 1 n s9).2.2.1 F q = σ.2.2.1 F q ∧ (ladd 1 n s9).2.2.2 F q = σ.2.2.2 F q := fun F q hF e => new_n hoff hF e
      obtain ⟨mf, hmf⟩ : ∃ m, m = m_fil v1 n 144 (wI τ 944 0 (nI 0)) := ⟨_, rfl⟩
      have w1 : mf.1 = τ.1 := by rw [hmf, (fil_r 144).1]; rfl
      have w2 : mf.2.1 = (wI τ 944 0 (nI 0)).2.1 := by rw [hmf, (fil_r 144).2.1]
      have w3 : mf.2.2.1 = τ.2.2.1 := by rw [hmf, (fil_r 144).2.2]; rfl
      have w4 : ∀ F q, F ≠ 915 → F ≠ 917 → mf.2.2.2 F q = τ.2.2.2 F q := fun F q x y => by rw [hmf, fil_o x y 144]; rfl
      have w5 : ∀ i, mf.2.2.2 915 0 i = if 144 * n ≤ i ∧ i < 144 * n + 144 then v1 else τ.2.2.2 915 0 i := fun i => by rw [hmf, fil_5 144]; rfl
      have w7 : ∀ i, mf.2.2.2 917 0 i = if 144 * n ≤ i ∧ i < 144 * n + 144 then (-1) else τ.2.2.2 917 0 i := fun i => by rw [hmf, fil_7 144]; rfl
      rw [← hmf]
      clear hmf
      obtain ⟨t9, ht9⟩ : ∃ t, t = wN (wB mf 923 0 n (-1)) 924 0 (n + 1) := ⟨_, rfl⟩
      rw [← ht9]
      have p1 : ∀ F q, F ≠ 924 → t9.1 F q = τ.1 F q := fun F q x => by
        rw [ht9, ← w1]
        show up2 mf.1 924 0 (n + 1) F q = _
        rw [up2_n (fun z => x z.1)]
      have p1n : t9.1 924 0 = n + 1 := by
        rw [ht9]
        show up2 mf.1 924 0 (n + 1) 924 0 = _
        exact up2_s
      have p2 : t9.2.1 = (wI τ 944 0 (nI 0)).2.1 := by
        rw [ht9, ← w2]
        rfl
      have p3 : t9.2.2.1 = τ.2.2.1 := by
        rw [ht9, ← w3]
        rfl
      have p4 : ∀ F q, F ≠ 915 → F ≠ 917 → F ≠ 923 → t9.2.2.2 F q = τ.2.2.2 F q := fun F q x y z9 => by
        rw [ht9, ← w4 F q x y]
        show up3 mf.2.2.2 923 0 n (-1) F q = _
        rw [up3_n (fun z => z9 z.1)]
      have p23 : t9.2.2.2 923 0 = up1 (τ.2.2.2 923 0) n (-1) := by
        rw [ht9, ← w4 923 0 (by decide) (by decide)]
        show up3 mf.2.2.2 923 0 n (-1) 923 0 = _
        rw [up3_s]
      have p15 : ∀ i, t9.2.2.2 915 0 i = if 144 * n ≤ i ∧ i < 144 * n + 144 then v1 else τ.2.2.2 915 0 i := fun i => by
        rw [ht9, ← w5]
        show up3 mf.2.2.2 923 0 n (-1) 915 0 i = _
        rw [up3_n (fun z => absurd z.1 (by decide))]
      have p17 : ∀ i, t9.2.2.2 917 0 i = if 144 * n ≤ i ∧ i < 144 * n + 144 then (-1) else τ.2.2.2 917 0 i := fun i => by
        rw [ht9, ← w7]
        show up3 mf.2.2.2 923 0 n (-1) 917 0 i = _
        rw [up3_n (fun z => absurd z.1 (by decide))]
      have hA : GA (ladd 1 n s9) t9 := by
        refine ⟨fun k hk => ?_, fun k hk => ?_⟩
        · rw [q6] at hk
          rw [p3, p4 920 0 (by decide) (by decide) (by decide), p23]
          by_cases e : k = n
          · subst e
            obtain ⟨d1, d2, d3, d4⟩ := a12.2 k (by omega)
            refine ⟨?_, ?_, ?_, ?_, fun c hc => ⟨?_, ?_, ?_, ?_, ?_⟩⟩
            · rw [f1 _ _ (by decide) (by decide), d1]
              show up2 (up2 σ.1 205 k 0) 208 k 0 205 k = 0
              rw [up2_n (fun z => absurd z.1 (by decide)), up2_s]
            · rw [f2 _ _ (by decide), d2]
              show up2 (up2 (up2 σ.2.1 206 k (nI 0)) 207 k (-1)) 209 k (-1) 206 k = 0
              rw [up2_n (fun z => absurd z.1 (by decide)), up2_n (fun z => absurd z.1 (by decide)), up2_s]
              rfl
            · rw [f2 _ _ (by decide), up1_s]
              show up2 (up2 (up2 σ.2.1 206 k (nI 0)) 207 k (-1)) 209 k (-1) 209 k = -1
              rw [up2_s]
            · rw [f1 _ _ (by decide) (by decide), d3]
              show up2 (up2 σ.1 205 k 0) 208 k 0 208 k = 0
              rw [up2_s]
            · rw [f4, hw0 c hc, p15, if_pos (by omega)]
            · rw [f4, hw4 c, p4 916 0 (by decide) (by decide) (by decide), d4 c hc]
            · rw [f4, hw2 c hc, p17, if_pos (by omega)]
            · rw [f4, hw1 c hc]
              unfold msz
              rw [p17, if_pos (show 144 * k ≤ 144 * k + c ∧ 144 * k + c < 144 * k + 144 by omega), if_pos rfl, p15, if_pos (by omega)]
            · rw [f4, hw3 c hc]
              unfold mcau
              rw [p17, if_pos (show 144 * k ≤ 144 * k + c ∧ 144 * k + c < 144 * k + 144 by omega), if_pos rfl]
          · obtain ⟨d1, d2, d3, d4, d5⟩ := a12.1 k (by omega)
            rw [(f9 205 k (by decide) (fun z => e z.2)).1.1, (f9 206 k (by decide) (fun z => e z.2)).1.2, (f9 209 k (by decide) (fun z => e z.2)).1.2, (f9 208 k (by decide) (fun z => e z.2)).1.1, (f9 200 k (by decide) (fun z => e z.2)).2.2, (f9 201 k (by decide) (fun z => e z.2)).2.2, (f9 202 k (by decide) (fun z => e z.2)).2.2, (f9 203 k (by decide) (fun z => e z.2)).2.2, (f9 204 k (by decide) (fun z => e z.2)).2.2, up1_n e]
            refine ⟨d1, d2, d3, d4, fun c hc => ?_⟩
            obtain ⟨x1, x2, x3, x4, x5⟩ := d5 c hc
            have g15 : t9.2.2.2 915 0 (144 * k + c) = τ.2.2.2 915 0 (144 * k + c) := by rw [p15, if_neg (by omega)]
            have g17 : t9.2.2.2 917 0 (144 * k + c) = τ.2.2.2 917 0 (144 * k + c) := by rw [p17, if_neg (by omega)]
            refine ⟨by rw [g15]; exact x1, by rw [p4 916 0 (by decide) (by decide) (by decide)]; exact x2, by rw [g17]; exact x3, ?_, ?_⟩
            · unfold msz
              rw [g15, g17, p4 918 0 (by decide) (by decide) (by decide)]
              exact x4
            · unfold mcau
              rw [g17, p4 918 0 (by decide) (by decide) (by decide)]
              exact x5
        · rw [q6] at hk
          obtain ⟨d1, d2, d3, d4⟩ := a12.2 k (by omega)
          rw [p3, p4 920 0 (by decide) (by decide) (by decide), p4 916 0 (by decide) (by decide) (by decide)]
          exact ⟨d1, d2, d3, d4⟩
      have l2 : ∀ j, j ≠ 1 → (ladd 1 n s9).1 1002 j = σ.1 1002 j := fun j z => by
        rw [((ladd_off 1 n 0 (fun _ _ => 0) s9).1 1002 j (by omega)).1]
        exact (hoff 1002 j (by omega)).1.1
      have lA : ∀ j, j ≠ 1 → (ladd 1 n s9).2.2.1 1001 j = σ.2.2.1 1001 j := fun j z => by
        rw [((ladd_off 1 n 0 (fun _ _ => 0) s9).2.1 1001 j (by omega)).1]
        exact (hoff 1001 j (by omega)).2.1
      generalize ladd 1 n s9 = σ1 at *
      have v1 : ∀ F, F < 200 ∨ (300 ≤ F ∧ F < 1000) → σ1.1 F = σ.1 F ∧ σ1.2.1 F = σ.2.1 F ∧ σ1.2.2.1 F = σ.2.2.1 F ∧ σ1.2.2.2 F = σ.2.2.2 F := fun F z => ⟨funext fun q => (f9 F q (by omega) (by omega)).1.1, funext fun q => (f9 F q (by omega) (by omega)).1.2, funext fun q => (f9 F q (by omega) (by omega)).2.1, funext fun q => (f9 F q (by omega) (by omega)).2.2⟩
      have hS : SB t9 := by
        obtain ⟨s1, s2, s3, s4, s5, s6, s7, s8, s9', s10, s11⟩ := a6
        refine ⟨SI_w s1 (by rw [p3]) (by rw [p2]; rfl) (p1 914 0 (by decide)) (by rw [p3]) (by rw [p3]; exact s1.2.2.2.2.2.2.1) (by rw [p3]; exact s1.2.2.2.2.2.2.2.1) (by rw [p1 901 0 (by decide)]; exact s1.2.2.2.2.2.2.2.2), ?_, ?_, ?_, ?_, ?_, ?_, ?_, ?_, fun i hi => ?_, ?_⟩
        · rw [p3]; exact s2
        · rw [p3]; exact s3
        · rw [p3]; exact s4
        · rw [p3, p1 934 0 (by decide)]; exact s5
        · rw [p3]; exact s6
        · rw [p3, p1 900 0 (by decide)]; exact s7
        · rw [p3]; exact s8
        · rw [p3]; exact s9'
        · rw [p17, p1 914 0 (by decide), p1n]
          split
          · exact Or.inl rfl
          · refine (s10 i hi).imp (fun z => z) (fun y => y.imp (fun z => z) (fun z => ⟨?_, z.2⟩))
            have := z.1
            omega
        · rw [p4 920 0 (by decide) (by decide) (by decide), p3]; exact s11
      have hQ : GQ σ1 t9 := by
        refine ⟨fun i hi => ?_, ?_⟩
        · rw [l2 2 (by decide)] at hi
          obtain ⟨b1, b2, b3, b4, b5, b6⟩ := a13.1 i hi
          have e : τ.2.2.1 925 0 i ≠ n := by omega
          rw [p3, lA 2 (by decide), q6, p4 920 0 (by decide) (by decide) (by decide), l2 6 (by decide), (f9 207 _ (by decide) (fun z => e z.2)).1.2, (f9 208 _ (by decide) (fun z => e z.2)).1.1]
          exact ⟨b1, by omega, b3, b4, b5, b6⟩
        · rw [l2 2 (by decide), p3]
          exact a13.2
      have hW : GW wr t9 := fun i hi => by
        rw [p1 926 0 (by decide)] at hi
        have b2 := (a13.1 i (by omega)).2.1
        rw [p4 902 0 (by decide) (by decide) (by decide), p3, p4 916 0 (by decide) (by decide) (by decide)]
        have : slc (t9.2.2.2 915 0) (τ.2.2.1 925 0 i) = slc (τ.2.2.2 915 0) (τ.2.2.1 925 0 i) := funext fun c => by
          unfold slc
          have := Nat.mod_lt c (show 0 < 144 by decide)
          rw [p15, if_neg (by omega)]
        rw [this]
        exact a17 i hi
      have hRB : RB σ1 := by
        refine ⟨?_, fun k => ?_, ?_, ?_, ?_, ?_⟩
        · rw [(v1 5 (by omega)).1]; exact r1
        · by_cases e : k = n
          · rw [e, f1 _ _ (by decide) (by decide)]
            show up2 (up2 σ.1 205 n 0) 208 n 0 205 n ≤ 3
            rw [up2_n (fun z => absurd z.1 (by decide)), up2_s]
            exact Nat.zero_le _
          · rw [(f9 205 k (by decide) (fun z => e z.2)).1.1]; exact r2 k
        · rw [(v1 306 (by omega)).1]; exact r3
        · rw [(v1 506 (by omega)).1, l2 5 (by decide)]; exact r4
        · rw [(v1 0 (by omega)).2.2.1]; exact r5
        · rw [(v1 4 (by omega)).2.2.1]; exact r6
      have hPK : PK σ1 := pk_eq9 k4 (l2 6 (by decide)) (fun j => by rw [(v1 402 (by omega)).1]) (v1 400 (by omega)).2.2.2 (v1 401 (by omega)).2.2.2
      refine ⟨Or.inl rfl, ?_, fun _ => ?_, ⟨hci, fun k => by rw [(v1 402 (by omega)).1]; exact k2 k, fun k => by rw [(v1 702 (by omega)).2.2.1]; exact k3 k, hPK⟩, ⟨fun k => by rw [(v1 504 (by omega)).1, (v1 502 (by omega)).1]; exact a2.1 k, fun k => by rw [(v1 502 (by omega)).1]; exact a2.2.1 k, by rw [(v1 812 (by omega)).1]; exact a2.2.2⟩, hri, ⟨by rw [l2 0 (by decide)]; exact n0, by rw [q6]; omega, by rw [l2 2 (by decide)]; exact n2, by rw [l2 3 (by decide)]; exact n3, by rw [l2 4 (by decide)]; exact n4, by rw [l2 5 (by decide)]; exact n5, by rw [l2 6 (by decide)]; exact n6⟩, hRB, hS, ⟨by rw [l2 0 (by decide), p1 914 0 (by decide)]; exact g0, by rw [q6, p1n], by rw [l2 2 (by decide), p1 926 0 (by decide)]; exact g2, by rw [l2 4 (by decide), p1 932 0 (by decide)]; exact g4, by rw [l2 5 (by decide), p1 934 0 (by decide)]; exact g5, by rw [l2 6 (by decide), p1 904 0 (by decide)]; exact g6⟩,
        gt_e a8 (congrFun ((v1 811 (by omega)).1) 0) (congrFun ((v1 812 (by omega)).1) 0) ((v1 504 (by omega)).1) (p1 900 0 (by decide)) (p1 901 0 (by decide)),
        gp_e a9 (l2 6 (by decide)) ((v1 402 (by omega)).1) ((v1 400 (by omega)).2.2.2) ((v1 401 (by omega)).2.2.2) (by rw [p3]) (p4 902 0 (by decide) (by decide) (by decide)),
        go_e a10 (l2 0 (by decide)) ((v1 502 (by omega)).1) ((v1 504 (by omega)).1) ((v1 506 (by omega)).1) ((v1 500 (by omega)).2.1) ((v1 501 (by omega)).2.1) ((v1 505 (by omega)).2.1) ((v1 507 (by omega)).2.1) ((v1 503 (by omega)).2.2.2) (by rw [p3]) (by rw [p3]) (by rw [p3]) (p4 906 0 (by decide) (by decide) (by decide)) (p4 910 0 (by decide) (by decide) (by decide)) (p4 911 0 (by decide) (by decide) (by decide)) (p4 912 0 (by decide) (by decide) (by decide)),
        gm_e a11 (congrFun ((v1 806 (by omega)).2.2.2) 0) (p4 905 0 (by decide) (by decide) (by decide)), hA, hQ,
        gg_e a14 ((v1 100 (by omega)).2.1) ((v1 101 (by omega)).2.1) (p4 928 0 (by decide) (by decide) (by decide)) (p4 929 0 (by decide) (by decide) (by decide)) (by rw [p3]),
        gd_e a15 (l2 4 (by decide)) ((v1 5 (by omega)).1) ((v1 0 (by omega)).2.2.1) ((v1 1 (by omega)).2.2.1) ((v1 2 (by omega)).2.2.1) ((v1 3 (by omega)).2.2.1) ((v1 4 (by omega)).2.2.1) (by rw [p3]) (by rw [p3]),
        gr_e a16 (l2 5 (by decide)) ((v1 306 (by omega)).1) ((v1 300 (by omega)).2.1) ((v1 301 (by omega)).2.1) ((v1 302 (by omega)).2.1) ((v1 303 (by omega)).2.1) ((v1 304 (by omega)).2.2.2) ((v1 305 (by omega)).2.2.2) (p4 933 0 (by decide) (by decide) (by decide)), hW⟩
      · rw [p2]
        exact t944
      · show nI (n + 1 - 1) = nI n
        rw [Nat.add_sub_cancel]
    · rw [if_neg c3]
      rw [e0] at c3
      rw [if_neg (show ¬ ((1 ≤ v1.toInt ∧ v1.toInt ≤ 9) ∧ τ.1 924 0 < 6 ∧ True) from fun z => c3 z.2.1), gc_2 c1 c3]
      exact ⟨Or.inr (Or.inr rfl), ag_n h (show ¬ (3 : Nat) = 0 by decide) rfl⟩
  · rw [if_neg c1, if_neg (show ¬ ((1 ≤ v1.toInt ∧ v1.toInt ≤ 9) ∧ τ.1 924 0 < 6 ∧ True) from fun z => c1 z.1), gc_1 c1]
    exact ⟨Or.inr (Or.inl rfl), ag_n h (show ¬ (2 : Nat) = 0 by decide) rfl⟩
