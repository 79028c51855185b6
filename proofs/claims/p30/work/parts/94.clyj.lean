/-! foresees -/
theorem ab_cule {fr : Nat} {c : Int32} {cl : Nat → Int32} {k : Nat} : ∀ (T : List Sp) (n : Nat) (h : Nat → Int32) (cu : Nat → Nat), (ab cl fr c T n h cu).2.2.2 k ≤ cu k + T.length
  | [], _, _, _ => Nat.le_refl _
  | s :: T, n, h, cu => by
    have e : cu k + (s :: T).length = cu k + T.length + 1 := by
      rw [List.length_cons]; omega
    rw [e]
    by_cases c1 : n < fr
    · rw [ab_p c1]
      exact Nat.le_succ_of_le (ab_cule T (n + 1) h cu)
    · by_cases c2 : bad cl h s
      · rw [ab_b c1 c2]
        show cu k ≤ _
        omega
      · by_cases c3 : nI (s.1 2) < h (cel s)
        · rw [ab_c c1 c2 c3]
          refine Nat.le_trans (ab_cule T (n + 1) _ _) ?_
          by_cases q : k = tn s.2.2
          · rw [q, up1_s]; omega
          · rw [up1_n q]; omega
        · rw [ab_g c1 c2 c3]
          exact Nat.le_succ_of_le (ab_cule T (n + 1) h cu)
theorem runs0_cu {P pr fr : Nat} {τ : St} {k : Nat} (hk : k < 4) : (m_runs0 P pr fr τ).2.2.2.1 936 0 k ≤ 6600 := by
  obtain ⟨-, -, q3⟩ := runs0_ab (P := P) (pr := pr) (fr := fr) (τ := τ) (cl := slc (τ.2.2.2 916 0) P) (h := slc (τ.2.2.2 915 0) P) (fun i hi => (slc_lt hi).symm) (fun i hi => (slc_lt hi).symm)
  rw [q3 k hk]
  have h1 := ab_cule (fr := fr) (c := (TR (τ.2.2.2 902 0) (τ.2.2.1 903 0) pr).2) (cl := slc (τ.2.2.2 916 0) P) (k := k) (TR (τ.2.2.2 902 0) (τ.2.2.1 903 0) pr).1 0 (slc (τ.2.2.2 915 0) P) (fun _ => 0)
  have h2 := (TR_bd (B := τ.2.2.2 902 0) (S := τ.2.2.1 903 0) (pr := pr)).2
  omega
theorem en_ok {L C : Nat → Nat} (hL : ∀ j, j < 4 → L j ≤ 8000) (hC : ∀ j, j < 4 → C j ≤ 6600) : ∀ (m k : Nat) (σ : St), k + m = 4 → (∀ j, k ≤ j → j < 4 → σ.2.2.2 808 0 j = nI (L j)) → (∀ j, j < 4 → σ.2.2.1 601 0 j = C j) → ((∀ j, k ≤ j → j < 4 → C j ≤ L j) → (k_en m k σ).1 = nI 1 ∧ (∀ j, k ≤ j → j < 4 → (k_en m k σ).2.2.2.2 808 0 j = nI (L j - C j)) ∧ ∀ j, j < k → (k_en m k σ).2.2.2.2 808 0 j = σ.2.2.2 808 0 j) ∧ ((∃ j, k ≤ j ∧ j < 4 ∧ L j < C j) → (k_en m k σ).1 = nI 0)
  | 0, k, σ, hk, _, _ => ⟨fun _ => ⟨rfl, fun j h1 h2 => by omega, fun _ _ => rfl⟩, fun ⟨j, h1, h2, _⟩ => by omega⟩
  | m + 1, k, σ, hk, h8, h6 => by
    have hk4 : k < 4 := by omega
    have hLk := hL k hk4
    have hCk := hC k hk4
    have hd : σ.2.2.2 808 0 k - nI (σ.2.2.1 601 0 k) = nI (L k) - nI (C k) := by rw [h8 k (Nat.le_refl _) hk4, h6 k hk4]
    have hi : (nI (L k) - nI (C k)).toInt = (L k : Int) - C k := pk_sub_toInt (by omega) (by omega)
    have h0 : (0 : Int32).toInt = 0 := rfl
    by_cases c : L k < C k
    · have e : k_en (m + 1) k σ = (nI 0, wB σ 808 0 k (σ.2.2.2 808 0 k - nI (σ.2.2.1 601 0 k))) := if_pos (by rw [hd, Int32.lt_iff_toInt_lt, hi, h0]; omega)
      rw [e]
      exact ⟨fun z => absurd (z k (Nat.le_refl _) hk4) (by omega), fun _ => rfl⟩
    · have e : k_en (m + 1) k σ = k_en m (k + 1) (wB σ 808 0 k (nI (L k - C k))) := by
        refine (if_neg (by rw [hd, Int32.lt_iff_toInt_lt, hi, h0]; omega)).trans ?_
        rw [hd, pk_sub (by omega)]
      rw [e]
      have w1 : ∀ j, (wB σ 808 0 k (nI (L k - C k))).2.2.2 808 0 j = up1 (σ.2.2.2 808 0) k (nI (L k - C k)) j := fun j => by rw [wB_s]
      obtain ⟨q1, q2⟩ := en_ok hL hC m (k + 1) (wB σ 808 0 k (nI (L k - C k))) (by omega) (fun j h1 h2 => by
        rw [w1, up1_n (by omega)]
        exact h8 j (by omega) h2) h6
      refine ⟨fun z => ?_, fun ⟨j, h1, h2, h3⟩ => q2 ⟨j, ?_, h2, h3⟩⟩
      · obtain ⟨r1, r2, r3⟩ := q1 (fun j h1 h2 => z j (by omega) h2)
        refine ⟨r1, fun j h1 h2 => ?_, fun j h1 => ?_⟩
        · by_cases q : j = k
          · rw [q, r3 k (by omega), w1, up1_s]
          · exact r2 j (by omega) h2
        · rw [r3 j (by omega), w1, up1_n (by omega)]
      · have : j ≠ k := fun z => c (by rw [← z]; exact h3)
        omega
theorem ls_le {wr : WrT} {σ τ : St} (h : Rl wr σ τ) (k : Nat) : LSp τ k ≤ 8000 := by
  have hs := h.2.2.2.2.2.1.1
  have h16 : τ.1 914 0 ≤ 16 := hs.2.2.2.2.1
  have h5 := hs.2.2.2.2.2.1
  unfold LSp
  refine Nat.le_trans (sum_le (b := 500) _ (fun i _ => ?_)) (by omega)
  unfold LF
  have := h5 i
  split
  · omega
  · split
    · omega
    · omega
def FsI (σ τ : St) : Prop := Rl wr0 σ τ ∧ ∀ k, k < 4 → σ.2.2.2 808 0 k = nI (LSp τ k)
theorem fs_step {σ τ : St} (h : FsI σ τ) {n : Nat} (hn : n < σ.1 1002 2) : (k_enf (σ.2.2.1 1001 2 n) σ).2.1 1002 2 = σ.1 1002 2 ∧ (((k_enf (σ.2.2.1 1001 2 n) σ).1 = 0 ∧ ¬ (rq1 n τ).1 = 0 ∧ Rl wr0 (k_enf (σ.2.2.1 1001 2 n) σ).2 (rq1 n τ).2) ∨ (¬ (k_enf (σ.2.2.1 1001 2 n) σ).1 = 0 ∧ (rq1 n τ).1 = 0 ∧ FsI (k_enf (σ.2.2.1 1001 2 n) σ).2 (rq1 n τ).2)) := by
  obtain ⟨hR, h8⟩ := h
  obtain ⟨q1, q2, q3, q4, q5, q6, q7⟩ := q_facts hR hn
  have hsi := hR.2.2.2.2.2.1.1
  have h6 : σ.1 1002 6 ≤ 6 := hR.2.2.2.1.2.2.2.2.2.2
  have e0 : σ.1 1002 6 = τ.1 904 0 := hR.2.2.2.2.2.2.1.2.2.2.2.2
  rw [q1]
  obtain ⟨v1, v2, v3, v4, v5, v6⟩ := enf_inv (q := τ.2.2.1 925 0 n) hR.1 (by rw [q3]; exact (ix_nI (by omega)).mpr q4)
  have hKT := TR_kt (gps_of hR.2.2.2.2.2.2.2.2.1 hR.2.2.1 hR.2.2.2.1) hR.1 q4
  have main := runs1_ab (P := τ.2.2.1 925 0 n) (fr := τ.2.2.1 922 0 (τ.2.2.1 925 0 n)) hsi.2.2.2.2.1 hKT q6
  obtain ⟨r1, r2, r3, -, -⟩ := runs_eq (g := τ.2.2.1 922 0 (τ.2.2.1 925 0 n)) hR q2 q4
  obtain ⟨k1, k2, -⟩ := run_kr (p := τ.2.2.1 925 0 n) (g := τ.2.2.1 922 0 (τ.2.2.1 925 0 n)) (v := nI (τ.2.2.1 921 0 (τ.2.2.1 925 0 n))) hR.1 ((ix_nI (by omega)).mpr q4)
  have hcu := fun k (hk : k < 4) => runs0_cu (P := τ.2.2.1 925 0 n) (pr := τ.2.2.1 921 0 (τ.2.2.1 925 0 n)) (fr := τ.2.2.1 922 0 (τ.2.2.1 925 0 n)) (τ := τ) hk
  have hSI := (runs_all1 (p := τ.2.2.1 925 0 n) (fr := τ.2.2.1 922 0 (τ.2.2.1 925 0 n)) hsi (rl_pi hR) (by rw [← e0]; exact q4)).1
  obtain ⟨f1, f2, f3, f4⟩ := FR_runs1 (τ.2.2.1 925 0 n) (τ.2.2.1 921 0 (τ.2.2.1 925 0 n)) (τ.2.2.1 922 0 (τ.2.2.1 925 0 n)) τ
  have hef : k_enf (τ.2.2.1 925 0 n) σ = k_en 4 0 (k_run (τ.2.2.1 925 0 n) (nI (τ.2.2.1 921 0 (τ.2.2.1 925 0 n))) (τ.2.2.1 922 0 (τ.2.2.1 925 0 n)) σ) := by
    unfold k_enf
    rw [q3, q5]
  have hrq : rq1 n τ = m_runs1 (τ.2.2.1 925 0 n) (τ.2.2.1 921 0 (τ.2.2.1 925 0 n)) (τ.2.2.1 922 0 (τ.2.2.1 925 0 n)) τ := rfl
  rw [hrq]
  refine ⟨v3, ?_⟩
  obtain ⟨o1, o2⟩ := en_ok (L := fun k => LSp τ k) (C := fun k => (m_runs0 (τ.2.2.1 925 0 n) (τ.2.2.1 921 0 (τ.2.2.1 925 0 n)) (τ.2.2.1 922 0 (τ.2.2.1 925 0 n)) τ).2.2.2.1 936 0 k) (fun j _ => ls_le hR j) hcu 4 0 (k_run (τ.2.2.1 925 0 n) (nI (τ.2.2.1 921 0 (τ.2.2.1 925 0 n))) (τ.2.2.1 922 0 (τ.2.2.1 925 0 n)) σ) rfl (fun j _ hj => by rw [k2.2.2 808 0 (by decide)]; exact h8 j hj) r3
  have e9 := en_st 4 0 (k_run (τ.2.2.1 925 0 n) (nI (τ.2.2.1 921 0 (τ.2.2.1 925 0 n))) (τ.2.2.1 922 0 (τ.2.2.1 925 0 n)) σ)
  rw [← hef] at o1 o2 e9
  generalize hX : k_enf (τ.2.2.1 925 0 n) σ = X at *
  generalize k_run (τ.2.2.1 925 0 n) (nI (τ.2.2.1 921 0 (τ.2.2.1 925 0 n))) (τ.2.2.1 922 0 (τ.2.2.1 925 0 n)) σ = σ1 at *
  generalize m_runs0 (τ.2.2.1 925 0 n) (τ.2.2.1 921 0 (τ.2.2.1 925 0 n)) (τ.2.2.1 922 0 (τ.2.2.1 925 0 n)) τ = M0 at *
  generalize m_runs1 (τ.2.2.1 925 0 n) (τ.2.2.1 921 0 (τ.2.2.1 925 0 n)) (τ.2.2.1 922 0 (τ.2.2.1 925 0 n)) τ = M1 at *
  obtain ⟨s1, s2, s3, s4⟩ := e9
  have hRl : Rl wr0 X.2 M1.2 := by
    refine rl_x hR v1 (fun F z => ⟨?_, ?_⟩) (fun j z => ?_) (fun F z => ?_) (fun j z => ?_) (fun F z1 z2 z3 => ?_) hSI (fun F z => f1 F (by simpa using z)) (fun F z => f3 F ?_) (fun F z => f4 F (by simpa using z))
    · rw [s1]
      exact funext fun k => (k2.1 F k (by omega) (by omega) (by omega)).1
    · rw [s2]
      exact funext fun k => (k2.1 F k (by omega) (by omega) (by omega)).2
    · rw [s1]
      exact (k2.1 1002 j (by omega) (by omega) (by omega)).1
    · rw [s3]
      exact funext fun k => k2.2.1 F k (by omega) (by omega) (by omega) (by omega)
    · rw [s3]
      exact k2.2.1 1001 j (by omega) (by omega) (by omega) (by omega)
    · rw [s4 F z3]
      exact funext fun k => k2.2.2 F k z1
    · intro y
      simp only [List.mem_cons, List.not_mem_nil, or_false] at y
      omega
  rcases main with ⟨m1, m2⟩ | ⟨m1, k, m2, m3⟩
  · obtain ⟨p1, p2, -⟩ := o1 (fun j _ hj => by have := m2 j hj; omega)
    refine Or.inr ⟨by rw [p1]; decide, m1, hRl, fun k hk => ?_⟩
    rw [p2 k (Nat.zero_le _) hk]
    have := m2 k hk
    exact congrArg nI (by omega)
  · exact Or.inl ⟨o2 ⟨k, Nat.zero_le _, m2, m3⟩, by rw [m1]; decide, hRl⟩
theorem fs_loop {q : Nat} : ∀ (m n : Nat) (σ τ : St), FsI σ τ → n + m = σ.1 1002 2 → (k_fs m n σ).1 = nI (m_fs q m n τ).1 ∧ Rl wr0 (k_fs m n σ).2 (m_fs q m n τ).2
  | 0, n, σ, τ, h, _ => ⟨rfl, h.1⟩
  | m + 1, n, σ, τ, h, hn => by
    obtain ⟨e, s⟩ := fs_step h (n := n) (by omega)
    have h1 : k_fs (m + 1) n σ = if (k_enf (σ.2.2.1 1001 2 n) σ).1 = 0 then (nI n, (k_enf (σ.2.2.1 1001 2 n) σ).2) else k_fs m (n + 1) (k_enf (σ.2.2.1 1001 2 n) σ).2 := rfl
    rcases s with ⟨s1, s2, s3⟩ | ⟨s1, s2, s3⟩
    · rw [h1, if_pos s1, m_fs_n s2]
      exact ⟨rfl, s3⟩
    · rw [h1, if_neg s1, m_fs_y s2]
      exact fs_loop m (n + 1) _ _ s3 (by rw [e]; omega)
theorem m_sp_I (σ : St) : ∀ n, (m_sp n σ).2.1 = σ.2.1 ∧ (m_sp n σ).2.2.2 = σ.2.2.2
  | 0 => ⟨rfl, rfl⟩
  | n + 1 => m_sp_I σ n
theorem m_sp_v (σ : St) {i : Nat} : ∀ n, i < n → (m_sp n σ).2.2.1 909 0 i = σ.2.2.1 908 0 i
  | 0, h => absurd h (Nat.not_lt_zero _)
  | n + 1, h => by
    show (wA (m_sp n σ) 909 0 n (σ.2.2.1 908 0 n)).2.2.1 909 0 i = _
    rw [wA_s]
    by_cases e : i = n
    · rw [e, up1_s]
    · rw [up1_n e]
      exact m_sp_v σ n (by omega)
theorem fl_v (σ : St) {k : Nat} : ∀ n, k < n → (k_fl n σ).2.2.2 808 0 k = nI (sumL (fun i => lf σ (nI k) (σ.2.2.1 1001 0 i)) (σ.1 1002 0))
  | 0, h => absurd h (Nat.not_lt_zero _)
  | n + 1, h => by
    show (wB (k_fl n σ) 808 0 n _).2.2.2 808 0 k = _
    rw [wB_s]
    by_cases e : k = n
    · rw [e, up1_s]
    · rw [up1_n e]
      exact fl_v σ n (by omega)
theorem lf_LF {wr : WrT} {σ τ : St} (h : Rl wr σ τ) {v : Int32} {i : Nat} (hi : i < σ.1 1002 0) : lf σ v (σ.2.2.1 1001 0 i) = LF (τ.2.2.2 911 0) (τ.2.2.2 906 0) (τ.2.2.1 908 0) (τ.2.2.1 907 0) v i := by
  have hid : σ.2.2.1 1001 0 i = i := h.2.2.1 0 (by decide) (by decide) (by decide) i hi
  obtain ⟨d0, d1, d2, d3, d4, d5, d6, d7, d8, d9⟩ := h.2.2.2.2.2.2.2.2.2.1.1 i hi
  unfold lf LF
  rw [hid, ← d7, ← d1, ← d3, ← d4]
theorem p_foresees {σ τ : St} (h : Rl wr0 σ τ) : (k_fore σ).1 = (m_foresees τ).1 ∧ Rl wr0 (k_fore σ).2 (m_foresees τ).2 := by
  have e2 : σ.1 1002 2 = τ.1 926 0 := h.2.2.2.2.2.2.1.2.2.1
  have e0 : σ.1 1002 0 = τ.1 914 0 := h.2.2.2.2.2.2.1.1
  obtain ⟨l1, l2, l3, l4⟩ := fl_st σ 4
  have hsp := m_sp_all (σ := wI τ 944 0 (nI 0)) h.2.2.2.2.2.1.1 16
  obtain ⟨p1, p2⟩ := m_sp_I (wI τ 944 0 (nI 0)) 16
  have p3 : (m_sp 16 (wI τ 944 0 (nI 0))).1 = τ.1 := (m_sp_N (wI τ 944 0 (nI 0)) 16).trans rfl
  have p4 : ∀ F, F ≠ 909 → (m_sp 16 (wI τ 944 0 (nI 0))).2.2.1 F = τ.2.2.1 F := fun F z => (m_sp_A (wI τ 944 0 (nI 0)) F z 16).trans rfl
  have p5 : (m_sp 16 (wI τ 944 0 (nI 0))).2.2.2 = τ.2.2.2 := p2.trans rfl
  have p6 : ∀ i, i < 16 → (m_sp 16 (wI τ 944 0 (nI 0))).2.2.1 909 0 i = τ.2.2.1 908 0 i := fun i hi => m_sp_v (wI τ 944 0 (nI 0)) 16 hi
  have hF : FsI (k_fl 4 σ) (m_sp 16 (wI τ 944 0 (nI 0))) := by
    refine ⟨rl_x h (kr_eq h.1 l1 l3 (fun F z => l4 F z)) (fun F _ => ⟨by rw [l1], by rw [l2]⟩) (fun j _ => by rw [l1]) (fun F _ => by rw [l3]) (fun j _ => by rw [l3]) (fun F _ _ z => l4 F z) hsp.1 (fun F _ => by rw [p3]) (fun F z => p4 F (by omega)) (fun F _ => by rw [p5]), fun k hk => ?_⟩
    rw [fl_v σ 4 hk]
    unfold LSp
    rw [p5, p3, p4 907 (by decide), ← e0]
    refine congrArg nI (sum_cong _ (fun i hi => ?_))
    have h16 : σ.1 1002 0 ≤ 16 := h.2.2.2.1.1
    rw [lf_LF h hi]
    unfold LF
    rw [p6 i (by omega)]
  unfold k_fore m_foresees
  rw [← e2]
  exact fs_loop (q := σ.1 1002 2) (σ.1 1002 2) 0 _ _ hF (by rw [l1]; omega)
