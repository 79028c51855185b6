/-! what JJ depends on -/
def TS (τ τ' : St) : Prop := (∀ F, F < 935 → τ'.1 F = τ.1 F) ∧ (∀ F, F < 936 → F ≠ 909 → τ'.2.2.1 F = τ.2.2.1 F) ∧ ∀ F, F < 935 → τ'.2.2.2 F = τ.2.2.2 F
set_option maxHeartbeats 200000 in
theorem TS.rf {τ : St} : TS τ τ := ⟨fun _ _ => rfl, fun _ _ _ => rfl, fun _ _ => rfl⟩
set_option maxHeartbeats 200000 in
theorem TS.tr {τ τ' τ2 : St} (h : TS τ τ') (h2 : TS τ' τ2) : TS τ τ2 := ⟨fun F z => (h2.1 F z).trans (h.1 F z), fun F z y => (h2.2.1 F z y).trans (h.2.1 F z y), fun F z => (h2.2.2 F z).trans (h.2.2 F z)⟩
set_option maxHeartbeats 200000 in
theorem TS.fr0 {τ τ' : St} (h : FR0 τ τ') : TS τ τ' := ⟨fun F z => h.1 F (by simp only [List.mem_cons, List.not_mem_nil, or_false]; omega), fun F z y => h.2.2.1 F (by simp only [List.mem_cons, List.not_mem_nil, or_false]; omega), fun F z => h.2.2.2 F (by simp only [List.mem_cons, List.not_mem_nil, or_false]; omega)⟩
set_option maxHeartbeats 200000 in
theorem TS.fr1 {τ τ' : St} (h : FR1 τ τ') : TS τ τ' := ⟨fun F z => h.1 F (by simp only [List.mem_cons, List.not_mem_nil, or_false]; omega), fun F z y => h.2.2.1 F (by simp only [List.mem_cons, List.not_mem_nil, or_false]; omega), fun F z => h.2.2.2 F (by simp only [List.mem_cons, List.not_mem_nil, or_false]; omega)⟩
set_option maxHeartbeats 200000 in
theorem TS.g (a b c : Prop) [Decidable a] [Decidable b] [Decidable c] (τ : St) : TS τ (m_g a b c τ) := by
  unfold m_g
  repeat' split
  all_goals exact ⟨fun _ _ => rfl, fun _ _ _ => rfl, fun _ _ => rfl⟩
set_option maxHeartbeats 200000 in
theorem JJ.tau {K : Nat} {ρ τ τ' : St} (h : JJ K ρ τ) (f : TS τ τ') : JJ K ρ τ' := by
  obtain ⟨n, a, b⟩ := f
  have n1 := n 900 (by decide)
  have n2 := n 901 (by decide)
  have n3 := n 904 (by decide)
  have n4 := n 914 (by decide)
  have n5 := n 924 (by decide)
  have n6 := n 926 (by decide)
  have n7 := n 932 (by decide)
  have n8 := n 934 (by decide)
  have a1 := a 903 (by decide) (by decide)
  have a2 := a 907 (by decide) (by decide)
  have a3 := a 908 (by decide) (by decide)
  have a4 := a 913 (by decide) (by decide)
  have a5 := a 919 (by decide) (by decide)
  have a6 := a 921 (by decide) (by decide)
  have a7 := a 922 (by decide) (by decide)
  have a8 := a 925 (by decide) (by decide)
  have a9 := a 927 (by decide) (by decide)
  have a10 := a 930 (by decide) (by decide)
  have a11 := a 931 (by decide) (by decide)
  have b1 := b 902 (by decide)
  have b2 := b 905 (by decide)
  have b3 := b 906 (by decide)
  have b4 := b 910 (by decide)
  have b5 := b 911 (by decide)
  have b6 := b 912 (by decide)
  have b7 := b 915 (by decide)
  have b8 := b 916 (by decide)
  have b9 := b 917 (by decide)
  have b10 := b 918 (by decide)
  have b11 := b 920 (by decide)
  have b12 := b 923 (by decide)
  have b13 := b 928 (by decide)
  have b14 := b 929 (by decide)
  have b15 := b 933 (by decide)
  unfold JJ JP JA JT JM JQ JG JF JW JC RTu RG QE QC at h ⊢
  rw [n1, n2, n3, n4, n5, n6, n7, n8, a1, a2, a3, a4, a5, a6, a7, a8, a9, a10, a11, b1, b2, b3, b4, b5, b6, b7, b8, b9, b10, b11, b12, b13, b14, b15]
  exact h
def RS (ρ ρ' : St) : Prop := (∀ F k, vdom F k → ρ'.2.2.1 F k = ρ.2.2.1 F k) ∧ (∀ F k, vdom F k → F ≠ 904 → ρ'.2.2.2 F k = ρ.2.2.2 F k) ∧ ρ'.2.2.2 901 = ρ.2.2.2 901
set_option maxHeartbeats 200000 in
theorem RS.rf {ρ : St} : RS ρ ρ := ⟨fun _ _ _ => rfl, fun _ _ _ _ => rfl, rfl⟩
set_option maxHeartbeats 200000 in
theorem RS.tr {ρ ρ' ρ2 : St} (h : RS ρ ρ') (h2 : RS ρ' ρ2) : RS ρ ρ2 := ⟨fun F k z => (h2.1 F k z).trans (h.1 F k z), fun F k z y => (h2.2.1 F k z y).trans (h.2.1 F k z y), h2.2.2.trans h.2.2⟩
set_option maxHeartbeats 200000 in
theorem JJ.rho {K : Nat} {ρ ρ' τ : St} (h : JJ K ρ τ) (f : RS ρ ρ') : JJ K ρ' τ := by
  have r1 := f.1 900 0 (vd_0 (by decide))
  have r2 := f.1 900 1 (vd_0 (by decide))
  have r3 := f.1 902 0 (vd_1 (by decide))
  have r4 := f.1 903 0 (vd_1 (by decide))
  have r5 := f.1 905 0 (vd_1 (by decide))
  have r6 := f.2.2
  have r7 := f.2.1 902 0 (vd_1 (by decide)) (by decide)
  have r8 := f.2.1 903 0 (vd_1 (by decide)) (by decide)
  have r9 := f.2.1 905 0 (vd_1 (by decide)) (by decide)
  obtain ⟨hN, hP, hA, hT, hM, hQ, hG, hF, hW, hC⟩ := h
  refine ⟨?_, ⟨hP.1.eq r6, hP.2.1.eq r6 rfl rfl, hP.2.2⟩, ⟨hA.1, fun p hp => ?_⟩, ?_, ?_, ?_, ?_, ?_, ?_, fun p hp => ?_⟩
  · unfold JN at hN ⊢
    rw [r3, r4, r5]; exact hN
  · have g := hA.2 p hp
    rcases (by omega : p = 0 ∨ p = 1) with rfl | rfl
    · rw [r1]; exact g
    · rw [r2]; exact g
  · unfold JT RTu at hT ⊢
    rw [r7]; exact hT
  · unfold JM at hM ⊢
    rw [r8]; exact hM
  · unfold JQ at hQ ⊢
    rw [r9]; exact hQ
  · unfold JG at hG ⊢
    rw [r8]; exact hG
  · unfold JF at hF ⊢
    rw [r8]; exact hF
  · unfold JW at hW ⊢
    rw [r8]; exact hW
  · have g := hC p hp
    rcases (by omega : p = 0 ∨ p = 1) with rfl | rfl
    · rw [r1]; exact g
    · rw [r2]; exact g
/-! what is foreseen -/
def Fp9 (p : Nat) (X T : St) : Prop := X.2.2.2 905 1 (4 * p + 1) = nI (T.2.2.1 921 0 p) ∧ X.2.2.2 905 1 (4 * p + 2) = nI (T.2.2.1 922 0 p) ∧ T.2.2.1 921 0 p < 3 ∧ T.2.2.1 922 0 p < 80000 ∧ ∀ c, c < 48 → nI (X.2.2.1 900 (2 + p) c % 16) = T.2.2.2 915 0 (144 * p + c) ∧ nI (X.2.2.1 900 (2 + p) c / 17592186044416 % 16) = T.2.2.2 916 0 (144 * p + c)
def Fq9 (r n : Nat) (X T : St) : Prop := GI X ∧ RG X T ∧ RTu 1 909 X T ∧ LJ 2 1 1 X ∧ LJ 3 1 1 X ∧ X.2.2.2 905 1 10 = nI r ∧ r ≤ 2 ∧ (∀ i, i < r → X.2.2.2 905 1 (8 + i) = nI (T.2.2.1 925 0 (n + i)) ∧ T.2.2.1 925 0 (n + i) < 2 ∧ Fp9 (T.2.2.1 925 0 (n + i)) X T) ∧ (r = 2 → T.2.2.1 925 0 n ≠ T.2.2.1 925 0 (n + 1))
set_option maxHeartbeats 200000 in
theorem kr2_p {p : Nat} (h : p < 2) : h_kr 2 3 p = 2 + p := by
  unfold h_kr
  split <;> omega
set_option maxHeartbeats 200000 in
theorem Fq9.h {r n : Nat} {X T : St} (h : Fq9 (r + 1) n X T) : tn (X.2.2.2 905 1 8) = T.2.2.1 925 0 n ∧ T.2.2.1 925 0 n < 2 ∧ tn (X.2.2.2 905 1 10) = r + 1 ∧ Fp9 (T.2.2.1 925 0 n) X T := by
  obtain ⟨a1, a2, a3⟩ := h.2.2.2.2.2.2.2.1 0 (by omega)
  rw [Nat.add_zero, Nat.add_zero] at a1
  rw [Nat.add_zero] at a2 a3
  refine ⟨by rw [a1, tn_nI (by omega)], a2, ?_, a3⟩
  rw [h.2.2.2.2.2.1, tn_nI (by have := h.2.2.2.2.2.2.1; omega)]
set_option maxHeartbeats 200000 in
theorem f1_sim {r n : Nat} {X T : St} (h : Fq9 (r + 1) n X T) : (h_n1 2 3 1 1 1 X).1 = fx (rq1 n T).1 ∧ Fq9 r (n + 1) (h_n2 1 (T.2.2.1 925 0 n) (h_n1 2 3 1 1 1 X).2) (rq1 n T).2 := by
  obtain ⟨e8, hP, t10, hFQ⟩ := h.h
  obtain ⟨hg, hrg, ht, hl2, hl3, h10, hr2, hi, hne⟩ := h
  obtain ⟨f1, f2, f3, f4, f5⟩ := hFQ
  have hlj : LJ (2 + T.2.2.1 925 0 n) 1 1 X := by
    rcases (by omega : T.2.2.1 925 0 n = 0 ∨ T.2.2.1 925 0 n = 1) with z | z <;> rw [z]
    · exact hl2
    · exact hl3
  have mi := mini_9 (T.2.2.1 925 0 n) (T.2.2.1 921 0 (T.2.2.1 925 0 n)) T
  have q := run_sim (fr := T.2.2.1 922 0 (T.2.2.1 925 0 n)) (xi_1 (2 + T.2.2.1 925 0 n) 1 (T.2.2.1 925 0 n)) (ss1 (km := 1)) (stG_1 (T.2.2.1 925 0 n) (T.2.2.1 922 0 (T.2.2.1 925 0 n))) hlj hg f3 hrg ⟨fun c hc => by
    have := f5 c hc
    rw [mi.2.2.2 c (by omega), mi.1 916 (by decide)]
    exact this, by
    unfold RTu
    rw [mi.2.2.1 914 (by decide), mi.1 906 (by decide), mi.1 911 (by decide), mi.2.1 907 (by decide), mi.2.1 909 (by decide)]
    exact ht⟩
  rw [← runs1_G] at q
  have fr := FR_runs1 (T.2.2.1 925 0 n) (T.2.2.1 921 0 (T.2.2.1 925 0 n)) (T.2.2.1 922 0 (T.2.2.1 925 0 n)) T
  have f := RF_run (kr := 2 + T.2.2.1 925 0 n) (ku := 1) (km := 1) (t9 := nI 1) (σ := X) (T.2.2.1 921 0 (T.2.2.1 925 0 n)) (T.2.2.1 922 0 (T.2.2.1 925 0 n))
  have ra := run_all (fr := T.2.2.1 922 0 (T.2.2.1 925 0 n)) (t9 := nI 1) hlj hg f3
  have e1 : tn (X.2.2.2 905 1 (4 * T.2.2.1 925 0 n + 1)) = T.2.2.1 921 0 (T.2.2.1 925 0 n) := by rw [f1, tn_nI (by omega)]
  have e2 : tn (X.2.2.2 905 1 (4 * T.2.2.1 925 0 n + 2)) = T.2.2.1 922 0 (T.2.2.1 925 0 n) := by rw [f2, tn_nI (by omega)]
  unfold rq1 h_n1
  rw [e8, e1, e2, kr2_p hP]
  generalize hPe : T.2.2.1 925 0 n = P at *
  generalize T.2.2.1 921 0 P = pr at *
  generalize T.2.2.1 922 0 P = g at *
  generalize h_run (2 + P) 1 1 pr g (nI 1) X = V at *
  generalize m_runs1 P pr g T = Y at *
  obtain ⟨k1, k2, k3, k4⟩ := q
  refine ⟨k1, ?_⟩
  have yA : ∀ F, F < 936 → F ≠ 909 → Y.2.2.2.1 F = T.2.2.1 F := (TS.fr1 fr).2.1
  have yB : ∀ F, F < 935 → Y.2.2.2.2 F = T.2.2.2 F := (TS.fr1 fr).2.2
  have yN : ∀ F, F < 935 → Y.2.1 F = T.1 F := (TS.fr1 fr).1
  have v5 : ∀ i, i ≠ 4 * P + 2 → i ≠ 4 * P → i ≠ 8 → i ≠ 10 → (h_n2 1 P (wB V.2 905 1 (4 * P + 2) (V.2.2.2.2 904 0 6))).2.2.2 905 1 i = X.2.2.2 905 1 i := fun i i1 i2 i3 i4 => by
    unfold h_n2
    rw [e_ne i4, e_ne i3, e_ne i2, e_ne i1, f.2.1 905 1 (fun z => absurd z.1 (by decide)) (fun z => absurd z.1 (by decide)) (fun z => absurd z.1 (by decide))]
  have v8 : (h_n2 1 P (wB V.2 905 1 (4 * P + 2) (V.2.2.2.2 904 0 6))).2.2.2 905 1 8 = X.2.2.2 905 1 9 := by
    unfold h_n2
    rw [e_ne (show 8 ≠ 10 by decide), wB_3, up1_s, e_ne (show 9 ≠ 4 * P + 2 by omega), f.2.1 905 1 (fun z => absurd z.1 (by decide)) (fun z => absurd z.1 (by decide)) (fun z => absurd z.1 (by decide))]
  have v10 : (h_n2 1 P (wB V.2 905 1 (4 * P + 2) (V.2.2.2.2 904 0 6))).2.2.2 905 1 10 = nI r := by
    unfold h_n2
    rw [wB_3, up1_s, e_ne (show 10 ≠ 4 * P + 2 by omega), f.2.1 905 1 (fun z => absurd z.1 (by decide)) (fun z => absurd z.1 (by decide)) (fun z => absurd z.1 (by decide)), t10]
    rfl
  have vA : (h_n2 1 P (wB V.2 905 1 (4 * P + 2) (V.2.2.2.2 904 0 6))).2.2.1 = V.2.2.2.1 := rfl
  have vB : ∀ F, F ≠ 905 → (h_n2 1 P (wB V.2 905 1 (4 * P + 2) (V.2.2.2.2 904 0 6))).2.2.2 F = V.2.2.2.2 F := fun F z => by
    unfold h_n2
    rw [wB_o z, wB_o z, wB_o z, wB_o z]
  have eG : V.2.2.2.2 901 = X.2.2.2 901 := funext fun k => f.2.1 901 k (fun z => absurd z.1 (by decide)) (fun z => absurd z.1 (by decide)) (fun z => absurd z.1 (by decide))
  have hl2' : LJ 2 1 1 (h_n2 1 P (wB V.2 905 1 (4 * P + 2) (V.2.2.2.2 904 0 6))) := LJ.q (LJ.q (LJ.q (LJ.q (hl2.rf ra.1 f))))
  have hl3' : LJ 3 1 1 (h_n2 1 P (wB V.2 905 1 (4 * P + 2) (V.2.2.2.2 904 0 6))) := LJ.q (LJ.q (LJ.q (LJ.q (hl3.rf ra.1 f))))
  generalize h_n2 1 P (wB V.2 905 1 (4 * P + 2) (V.2.2.2.2 904 0 6)) = U at *
  refine ⟨hg.eq ((vB 901 (by decide)).trans eG), hrg.eq ((vB 901 (by decide)).trans eG) (yA 903 (by decide) (by decide)) (yB 902 (by decide)), ?_, hl2', hl3', v10, by omega, fun i hi9 => ?_, fun z => absurd z (by omega)⟩
  · unfold RTu at k4 ⊢
    rw [vB 902 (by decide)]
    exact k4
  · obtain rfl : i = 0 := by omega
    obtain ⟨b1, b2, b3⟩ := hi 1 (by omega)
    have hn9 := hne (by omega)
    rw [Nat.add_zero, yA 925 (by decide) (by decide)]
    generalize T.2.2.1 925 0 (n + 1) = P' at *
    obtain ⟨c1, c2, c3, c4, c5⟩ := b3
    refine ⟨v8.trans b1, b2, ?_, ?_, ?_, ?_, fun c hc => ?_⟩
    · rw [v5 _ (by omega) (by omega) (by omega) (by omega), yA 921 (by decide) (by decide)]; exact c1
    · rw [v5 _ (by omega) (by omega) (by omega) (by omega), yA 922 (by decide) (by decide)]; exact c2
    · rw [yA 921 (by decide) (by decide)]; exact c3
    · rw [yA 922 (by decide) (by decide)]; exact c4
    · rw [vA, f.1 900 (2 + P') (fun z => by omega), yB 915 (by decide), yB 916 (by decide)]
      exact c5 c hc
set_option maxHeartbeats 200000 in
theorem fs_a {r f : Nat} (h : r + 1 ≤ f + 1) : (r = 0 → r + 1 = 1) ∧ (¬ r = 0 → ¬ r + 1 = 1 ∧ 0 < r ∧ r ≤ f) := ⟨fun _ => by omega, fun _ => ⟨by omega, by omega, by omega⟩⟩
set_option maxHeartbeats 200000 in
theorem fs_sim {q : Nat} (f : Nat) : ∀ (r n : Nat) (X T : St), Fq9 r n X T → 0 < r → r ≤ f → (h_ngl 2 3 1 1 1 f n X).1 = (m_fs q r n T).1 := by
  induction f with
  | zero => intro r n X T h h0 hf; exact absurd hf (Nat.not_le.mpr h0)
  | succ f ih =>
    intro r9 n X T h h0 hf
    obtain ⟨r, rfl⟩ : ∃ r, r9 = r + 1 := ⟨r9 - 1, by omega⟩
    obtain ⟨y1, y2⟩ := fs_a hf
    have s1 := (f1_sim h).1
    have s2 := (f1_sim h).2
    obtain ⟨e8, hP, t10, -⟩ := h.h
    by_cases c : (rq1 n T).1 = 0
    · have ch : (h_n1 2 3 1 1 1 X).1 = 0 := s1.trans (fx_0.mpr c)
      rw [m_fs_y c]
      by_cases c1 : r = 0
      · have E2 := hng_1 (f := f) (n := n) ch (t10.trans (y1 c1))
        rw [E2]
        subst c1
        exact rfl
      · obtain ⟨y3, y4, y5⟩ := y2 c1
        have E2 := hng_2 (f := f) (n := n) ch (fun z => y3 (t10.symm.trans z))
        rw [e8] at E2
        rw [E2]
        exact ih r (n + 1) _ _ s2 y4 y5
    · have E2 := hng_n (f := f) (n := n) (σ := X) (ka := 2) (kb := 3) (ku := 1) (km := 1) (kq := 1) (fun z => c (fx_0.mp (s1.symm.trans z)))
      rw [m_fs_n c, E2]
/-! the copies -/
def fcp (ρ : St) : St := kpi 905 0 1 11 (kpi 903 0 1 37 (kpi 902 0 1 36 (cpj 1 3 48 (cpj 0 2 48 ρ))))
set_option maxHeartbeats 200000 in
theorem fcp_r (ρ : St) : (fcp ρ).2.2.1 900 2 = (fun i => if i < 48 then ρ.2.2.1 900 0 i else 0) ∧ (fcp ρ).2.2.1 900 3 = (fun i => if i < 48 then ρ.2.2.1 900 1 i else 0) ∧ (fcp ρ).2.2.1 902 1 = (fun _ => 40) ∧ (fcp ρ).2.2.1 903 1 = (fun _ => 40) ∧ (fcp ρ).2.2.1 905 1 = (fun _ => 40) ∧ (fcp ρ).2.2.2 902 1 = (fun i => if i < 36 then ρ.2.2.2 902 0 i else 0) ∧ (fcp ρ).2.2.2 903 1 = (fun i => if i < 37 then ρ.2.2.2 903 0 i else 0) ∧ (fcp ρ).2.2.2 905 1 = (fun i => if i < 11 then ρ.2.2.2 905 0 i else 0) := by
  refine ⟨?_, ?_, ?_, ?_, ?_, ?_, ?_, ?_⟩ <;> simp [fcp, kpi, cpj, xR9, xS9, up2, up1]
set_option maxHeartbeats 200000 in
theorem cpj_RS {kr kn n : Nat} {ρ : St} (h : 2 ≤ kn) : RS ρ (cpj kr kn n ρ) := by
  refine ⟨fun F k hd => up2_n (fun z => ?_), fun _ _ _ _ => rfl, rfl⟩
  rcases hd with ⟨-, h2⟩ | ⟨h1, h2, h3⟩ <;> omega
set_option maxHeartbeats 200000 in
theorem kpi_RS {F9 n : Nat} {ρ : St} (hF : 901 < F9) : RS ρ (kpi F9 0 1 n ρ) := by
  refine ⟨fun F k hd => up2_n (fun z => ?_), fun F k hd _ => up2_n (fun z => ?_), funext fun k => up2_n (fun z => ?_)⟩
  · rcases hd with ⟨h1, h2⟩ | ⟨h1, h2, h3⟩ <;> omega
  · rcases hd with ⟨h1, h2⟩ | ⟨h1, h2, h3⟩ <;> omega
  · omega
set_option maxHeartbeats 200000 in
theorem fcp_RS (ρ : St) : RS ρ (fcp ρ) := ((((cpj_RS (by decide)).tr (cpj_RS (by decide))).tr (kpi_RS (by decide))).tr (kpi_RS (by decide))).tr (kpi_RS (by decide))
set_option maxHeartbeats 200000 in
theorem LJ.cp {ka kr : Nat} {ρ X : St} (h : LJ ka 0 0 ρ) (h9 : X.2.2.1 900 kr = fun i => if i < 48 then ρ.2.2.1 900 ka i else 0) (hu : X.2.2.1 902 1 = fun _ => 40) (hm : X.2.2.1 903 1 = fun _ => 40) (h2 : X.2.2.2 902 1 = fun i => if i < 36 then ρ.2.2.2 902 0 i else 0) (h3 : X.2.2.2 903 1 = fun i => if i < 37 then ρ.2.2.2 903 0 i else 0) : LJ kr 1 1 X := by
  obtain ⟨a1, a2, a3, a4, a5, a6, a7, a8⟩ := h
  refine ⟨by rw [hu]; decide, by rw [hm]; decide, fun i => ?_, fun k hk => ?_, fun k hk => ?_, fun k hk => ?_, ?_, fun x hx => ?_⟩
  · rw [h9]
    show (if i < 48 then ρ.2.2.1 900 ka i else 0) < _
    split
    · exact a3 i
    · decide
  · rw [h2]; show ix (if 9 * k + 1 < 36 then _ else _) _; rw [if_pos (by omega)]; exact a4 k hk
  · rw [h2]; show ix (if 9 * k + 2 < 36 then _ else _) _; rw [if_pos (by omega)]; exact a5 k hk
  · rw [h2]; show ix ((if 9 * k + 3 < 36 then _ else _) + _) _; rw [if_pos (by omega)]; exact a6 k hk
  · rw [h3]; show ix (if 1 < 37 then _ else _) _; rw [if_pos (by decide)]; exact a7
  · rw [h3]; show ix ((if 4 + x < 37 then _ else _) + _) _; rw [if_pos (by omega)]; exact a8 x hx
set_option maxHeartbeats 200000 in
/-- the reference's side at the start of foreseeing -/
theorem sp_r (τ : St) : TS τ (m_sp 16 (wI τ 944 0 (nI 0))) ∧ ∀ k, k < 4 → (m_sp 16 (wI τ 944 0 (nI 0))).2.2.1 909 0 k = τ.2.2.1 908 0 k := by
  refine ⟨⟨fun F _ => ?_, fun F _ z => ?_, fun F _ => ?_⟩, fun k hk => (m_sp_v (wI τ 944 0 (nI 0)) 16 (by omega)).trans rfl⟩
  · rw [m_sp_N]; rfl
  · rw [m_sp_A (wI τ 944 0 (nI 0)) F z 16]; rfl
  · rw [(m_sp_I (wI τ 944 0 (nI 0)) 16).2]; rfl
set_option maxHeartbeats 200000 in
theorem fq_i {K : Nat} {ρ τ X T : St} (h : JJ K ρ τ) (hX : X.2.2.1 900 2 = (fun i => if i < 48 then ρ.2.2.1 900 0 i else 0) ∧ X.2.2.1 900 3 = (fun i => if i < 48 then ρ.2.2.1 900 1 i else 0) ∧ X.2.2.1 902 1 = (fun _ => 40) ∧ X.2.2.1 903 1 = (fun _ => 40) ∧ X.2.2.1 905 1 = (fun _ => 40) ∧ X.2.2.2 902 1 = (fun i => if i < 36 then ρ.2.2.2 902 0 i else 0) ∧ X.2.2.2 903 1 = (fun i => if i < 37 then ρ.2.2.2 903 0 i else 0) ∧ X.2.2.2 905 1 = (fun i => if i < 11 then ρ.2.2.2 905 0 i else 0)) (hs : RS ρ X) (hT : TS τ T) (h909 : ∀ k, k < 4 → T.2.2.1 909 0 k = τ.2.2.1 908 0 k) : Fq9 (τ.1 926 0) 0 X T ∧ NI 2 3 1 1 1 X := by
  obtain ⟨hN, hP, hA, hTT, hM, hQ, hG, hF, hW, hC⟩ := h
  obtain ⟨x2, x3, x4, x5, x6, x7, x8, x9⟩ := hX
  have l0 := (l_LJ (p := 0) (by decide) hN hA hTT hM).cp (kr := 2) x2 x4 x5 x7 x8
  have l1 := (l_LJ (p := 1) (by decide) hN hA hTT hM).cp (kr := 3) x3 x4 x5 x7 x8
  obtain ⟨q10, q2, qi, qd, qp⟩ := hQ
  have w5 : ∀ i, i < 11 → X.2.2.2 905 1 i = ρ.2.2.2 905 0 i := fun i hi => by rw [x9]; exact if_pos hi
  have w2 : ∀ i, i < 36 → X.2.2.2 902 1 i = ρ.2.2.2 902 0 i := fun i hi => by rw [x7]; exact if_pos hi
  have w0 : ∀ p c, p < 2 → c < 48 → X.2.2.1 900 (2 + p) c = ρ.2.2.1 900 p c := fun p c hp hc => by
    rcases (by omega : p = 0 ∨ p = 1) with rfl | rfl
    · show X.2.2.1 900 2 c = _; rw [x2]; exact if_pos hc
    · show X.2.2.1 900 3 c = _; rw [x3]; exact if_pos hc
  have t925 := hT.2.1 925 (by decide) (by decide)
  have t921 := hT.2.1 921 (by decide) (by decide)
  have t922 := hT.2.1 922 (by decide) (by decide)
  have t915 := hT.2.2 915 (by decide)
  have t916 := hT.2.2 916 (by decide)
  refine ⟨⟨hP.1.eq hs.2.2, hP.2.1.eq hs.2.2 (hT.2.1 903 (by decide) (by decide)) (hT.2.2 902 (by decide)), ⟨by rw [hT.1 914 (by decide)]; exact hTT.1.1, fun k hk => ?_⟩, l0, l1, by rw [w5 10 (by decide)]; exact q10, q2, fun i hi => ?_, fun z => ?_⟩, l0, l1, hP.1.eq hs.2.2, by rw [x6]; decide, by rw [w5 10 (by decide), q10]; exact (ix_nI (by omega)).mpr (by omega), fun i hi => ?_⟩
  · rw [w2 _ (by omega), w2 _ (by omega), w2 _ (by omega), w2 _ (by omega), h909 k hk, hT.2.2 906 (by decide), hT.2.2 911 (by decide), hT.2.1 907 (by decide) (by decide)]
    exact hTT.1.2 k hk
  · have g := qi i hi
    have g9 := qp _ g.2
    rw [Nat.zero_add, t925, w5 (8 + i) (by omega)]
    generalize τ.2.2.1 925 0 i = p at g g9 ⊢
    refine ⟨g.1, g.2, ?_, ?_, by rw [t921]; exact g9.2.2.2.2.1, by rw [t922]; exact g9.2.2.2.2.2, fun c hc => ?_⟩
    · rw [w5 _ (by omega), t921]; exact g9.2.1
    · rw [w5 _ (by omega), t922]; exact g9.2.2.1
    · rw [w0 p c g.2 hc, t915, t916]
      exact ((hA.2 p g.2).2 c hc).2
  · rw [t925]; exact qd z
  · rw [w5 10 (by decide), q10, tn_nI (by omega)] at hi
    have g := qi i hi
    have g9 := qp _ g.2
    rw [w5 (8 + i) (by omega), g.1, tn_nI (by omega)]
    generalize τ.2.2.1 925 0 i = p at g g9 ⊢
    rw [w5 _ (by omega), w5 _ (by omega), g9.2.1, g9.2.2.1]
    exact ⟨(ix_nI (by omega)).mpr g.2, (ix_nI (by omega)).mpr g9.2.2.2.2.1, (ix_nI (by omega)).mpr (by omega)⟩
set_option maxHeartbeats 200000 in
theorem mf_TS {q : Nat} : ∀ (f n : Nat) (T : St), TS T (m_fs q f n T).2
  | 0, _, _ => TS.rf
  | f + 1, n, T => by
    have h1 : TS T (rq1 n T).2 := TS.fr1 (FR_runs1 _ _ _ _)
    by_cases c : (rq1 n T).1 = 0
    · rw [m_fs_y c]; exact h1.tr (mf_TS f _ _)
    · rw [m_fs_n c]; exact h1
set_option maxHeartbeats 200000 in
theorem nc_0 {X : St} (c : tn (X.2.2.2 905 1 10) = 0) : h_night 2 3 1 1 1 X = (0, X) := if_pos c
set_option maxHeartbeats 200000 in
theorem nc_1 {X : St} (c : ¬ tn (X.2.2.2 905 1 10) = 0) : h_night 2 3 1 1 1 X = h_ngl 2 3 1 1 1 2 0 X := if_neg c
set_option maxHeartbeats 200000 in
theorem fore_sim {K : Nat} {ρ τ : St} (h : JJ K ρ τ) : nI (h_night 2 3 1 1 1 (fcp ρ)).1 = (m_foresees τ).1 ∧ NI 2 3 1 1 1 (fcp ρ) ∧ TS τ (m_foresees τ).2 := by
  obtain ⟨s1, s2⟩ := sp_r τ
  have g := fq_i h (fcp_r ρ) (fcp_RS ρ) s1 s2
  unfold m_foresees
  generalize fcp ρ = X at g ⊢
  generalize m_sp 16 (wI τ 944 0 (nI 0)) = T at s1 g ⊢
  refine ⟨?_, g.2, s1.tr (mf_TS _ _ _)⟩
  have t10 : tn (X.2.2.2 905 1 10) = τ.1 926 0 := by
    have b2 := g.1.2.2.2.2.2.2.1
    rw [g.1.2.2.2.2.2.1, tn_nI (by omega)]
  have b3 := g.1.2.2.2.2.2.2.1
  have g1 := g.1
  generalize τ.1 926 0 = Q at t10 b3 g1 ⊢
  by_cases c : Q = 0
  · subst c
    rw [nc_0 t10]
    rfl
  · rw [nc_1 (fun z => c (t10.symm.trans z))]
    exact congrArg nI (fs_sim 2 Q 0 X T g1 (Nat.pos_of_ne_zero c) b3)
set_option maxHeartbeats 200000 in
/-- a night on copies leaves the law's rows -/
theorem rf_RS {kr : Nat} {ρ ρ' : St} (hk : 2 ≤ kr) (f : RF kr 1 1 (nI 1) ρ ρ') : RS ρ ρ' := by
  refine ⟨fun F k hd => f.1 F k (fun z => ?_), fun F k hd h4 => f.2.1 F k (fun z => h4 z.1) (fun z => ?_) (fun z => ?_), funext fun k => f.2.1 901 k (fun z => absurd z.1 (by decide)) (fun z => absurd z.1 (by decide)) (fun z => absurd z.1 (by decide))⟩
  all_goals (rcases hd with ⟨h1, h2⟩ | ⟨h1, h2, h3⟩ <;> omega)
set_option maxHeartbeats 200000 in
theorem wq_RS {i : Nat} {v : Int32} {ρ : St} : RS ρ (wB ρ 905 1 i v) := by
  refine ⟨fun _ _ _ => rfl, fun F k hd _ => up3_n (fun z => ?_), wB_o (by decide)⟩
  rcases hd with ⟨h1, h2⟩ | ⟨h1, h2, h3⟩ <;> omega
set_option maxHeartbeats 200000 in
theorem h1_RS {X : St} : RS X (h_n1 2 3 1 1 1 X).2 := by
  unfold h_n1
  exact (rf_RS (by unfold h_kr; split <;> decide) (RF_run _ _)).tr wq_RS
set_option maxHeartbeats 200000 in
theorem h2_RS {p : Nat} {X : St} : RS X (h_n2 1 p X) := (wq_RS.tr wq_RS).tr wq_RS
set_option maxHeartbeats 200000 in
theorem hgl_RS : ∀ (f n : Nat) (X : St), RS X (h_ngl 2 3 1 1 1 f n X).2 := by
  intro f
  induction f with
  | zero => intro n X; exact RS.rf
  | succ f ih =>
    intro n X
    by_cases c : (h_n1 2 3 1 1 1 X).1 = 0
    · by_cases c1 : tn (X.2.2.2 905 1 10) = 1
      · rw [hng_1 c c1]; exact h1_RS.tr h2_RS
      · rw [hng_2 c c1]; exact (h1_RS.tr h2_RS).tr (ih _ _)
    · rw [hng_n c]; exact h1_RS
set_option maxHeartbeats 200000 in
theorem hn_RS (X : St) : RS X (h_night 2 3 1 1 1 X).2 := by
  by_cases c : tn (X.2.2.2 905 1 10) = 0
  · rw [nc_0 c]; exact RS.rf
  · rw [nc_1 c]; exact hgl_RS _ _ _
