/-! the class's run, as a fold; the two runs are one; prove, takes -/
theorem beg_x {v : Int32} {X : St} : (k_beg v X).2.2.2 = X.2.2.2 ∧ (k_beg v X).2.2.1 601 = X.2.2.1 601 ∧ (k_beg v X).1 602 = X.1 602 ∧ (k_beg v X).1 603 = X.1 603 := by
  unfold k_beg k_ent
  split
  all_goals exact ⟨rfl, rfl, rfl, rfl⟩
theorem rs_x {P : Nat} {σ : St} : (∀ i, i < 144 → (k_rs P σ).2.2.2 600 0 i = σ.2.2.2 200 P i) ∧ (∀ k, k < 4 → (k_rs P σ).2.2.1 601 0 k = 0) ∧ (k_rs P σ).1 602 0 = 0 ∧ (k_rs P σ).1 603 0 = 0 := by
  refine ⟨fun i hi => ?_, fun k hk => ?_, rfl, rfl⟩
  · show up2 σ.2.2.2 600 0 (fun i => if i < 144 then σ.2.2.2 200 P i else σ.2.2.2 600 0 i) 600 0 i = _
    rw [up2_s]
    exact if_pos hi
  · rcases (by omega : k = 0 ∨ k = 1 ∨ k = 2 ∨ k = 3) with rfl | rfl | rfl | rfl <;> rfl
theorem run_ab {B : Nat → Int32} {S : Nat → Nat} {σ : St} {P pr g : Nat} (hG : GPs B S σ) (hR : KR σ) (hpr : pr < σ.1 1002 6) : (k_run P (nI pr) g σ).2.1 604 0 = (ab (σ.2.2.2 204 P) g (TR B S pr).2 (TR B S pr).1 0 (σ.2.2.2 200 P) (fun _ => 0)).1 ∧ (k_run P (nI pr) g σ).1 602 0 = (ab (σ.2.2.2 204 P) g (TR B S pr).2 (TR B S pr).1 0 (σ.2.2.2 200 P) (fun _ => 0)).2.1 - g ∧ (∀ k, k < 4 → (k_run P (nI pr) g σ).2.2.1 601 0 k = (ab (σ.2.2.2 204 P) g (TR B S pr).2 (TR B S pr).1 0 (σ.2.2.2 200 P) (fun _ => 0)).2.2.2 k) ∧ (k_run P (nI pr) g σ).1 603 0 = (ab (σ.2.2.2 204 P) g (TR B S pr).2 (TR B S pr).1 0 (σ.2.2.2 200 P) (fun _ => 0)).2.2.2 0 + (ab (σ.2.2.2 204 P) g (TR B S pr).2 (TR B S pr).1 0 (σ.2.2.2 200 P) (fun _ => 0)).2.2.2 1 + (ab (σ.2.2.2 204 P) g (TR B S pr).2 (TR B S pr).1 0 (σ.2.2.2 200 P) (fun _ => 0)).2.2.2 2 + (ab (σ.2.2.2 204 P) g (TR B S pr).2 (TR B S pr).1 0 (σ.2.2.2 200 P) (fun _ => 0)).2.2.2 3 := by
  have hF := ft_rs (p := P) (σ := σ)
  have h6 : σ.1 1002 6 ≤ 6 := hG.2.2
  have h62 : (k_rs P σ).1 1002 6 = σ.1 1002 6 := (hF.1 1002 6 (by omega) (by omega) (by omega)).1
  obtain ⟨a, b, d, f⟩ := beg_inv (v := nI pr) (ci_rs (p := P) hR.1) (by rw [h62]; exact (ix_nI (by omega)).mpr hpr) (fun k => by rw [(hF.1 402 k (by omega) (by omega) (by omega)).1]; exact hR.2.1 k) (fun k => by rw [(rs_7 (p := P) (σ := σ)).2.1]; exact hR.2.2.1 k) (pk_ofB hR.2.2.2 hF.fb)
  have hT := beg_tk (gps_fb hG hF.fb) (pr := pr) (by rw [h62]; exact hpr)
  obtain ⟨b1, b2, b3, b4⟩ := beg_x (v := nI pr) (X := k_rs P σ)
  obtain ⟨r1, r2, r3, r4⟩ := rs_x (P := P) (σ := σ)
  have hlen := (TR_bd (B := B) (S := S) (pr := pr)).2
  exact rl_ab (TR B S pr).1 6601 0 (k_beg (nI pr) (k_rs P σ)) (σ.2.2.2 200 P) (fun _ => 0) hT (by omega) TR_bd.1 a b d (fun i hi => by rw [b1, hF.2.2 204 P (by decide)]) (fun i hi => by rw [b1]; exact r1 i hi) (fun k hk => by rw [b2]; exact r2 k hk) (by rw [b3, r3]; omega) (by rw [b4, r4])
/-- the two runs are one -/
theorem runs_eq {wr : WrT} {σ τ : St} (h : Rl wr σ τ) {P pr g : Nat} (hP : P < σ.1 1002 1) (hpr : pr < σ.1 1002 6) : (k_run P (nI pr) g σ).2.1 604 0 = (m_runs0 P pr g τ).1 ∧ (k_run P (nI pr) g σ).1 602 0 = (m_runs0 P pr g τ).2.1 943 0 - g ∧ (∀ k, k < 4 → (k_run P (nI pr) g σ).2.2.1 601 0 k = (m_runs0 P pr g τ).2.2.2.1 936 0 k) ∧ (k_run P (nI pr) g σ).1 603 0 = (m_runs0 P pr g τ).2.2.2.1 936 0 0 + (m_runs0 P pr g τ).2.2.2.1 936 0 1 + (m_runs0 P pr g τ).2.2.2.1 936 0 2 + (m_runs0 P pr g τ).2.2.2.1 936 0 3 ∧ (m_runs0 P pr g τ).1 = (ab (σ.2.2.2 204 P) g (TR (τ.2.2.2 902 0) (τ.2.2.1 903 0) pr).2 (TR (τ.2.2.2 902 0) (τ.2.2.1 903 0) pr).1 0 (σ.2.2.2 200 P) (fun _ => 0)).1 := by
  have hG := gps_of h.2.2.2.2.2.2.2.2.1 h.2.2.1 h.2.2.2.1
  have hA := h.2.2.2.2.2.2.2.2.2.2.2.1.1 P hP
  obtain ⟨q1, q2, q3, q4⟩ := run_ab (P := P) (g := g) hG h.1 hpr
  obtain ⟨r1, r2, r3⟩ := runs0_ab (P := P) (pr := pr) (fr := g) (τ := τ) (cl := σ.2.2.2 204 P) (h := σ.2.2.2 200 P) (fun i hi => (hA.2.2.2.2 i hi).2.1.symm) (fun i hi => (hA.2.2.2.2 i hi).1.symm)
  exact ⟨q1.trans r1.symm, by rw [q2, r2], fun k hk => (q3 k hk).trans (r3 k hk).symm, by rw [q4, r3 0 (by decide), r3 1 (by decide), r3 2 (by decide), r3 3 (by decide)], r1⟩
/-- a run, on both sides, changes nothing that the relation speaks of -/
theorem rl_run {wr : WrT} {σ σ' τ τ' : St} (h : Rl wr σ τ) (hF : FB σ σ') (hK : KR σ') (hS : SI τ') (y1 : ∀ F, F ≠ 943 → τ'.1 F = τ.1 F) (y3 : ∀ F, F < 909 ∨ (909 < F ∧ F < 936) → τ'.2.2.1 F = τ.2.2.1 F) (y4 : ∀ F, F ≠ 935 → τ'.2.2.2 F = τ.2.2.2 F) : Rl wr σ' τ' := by
  obtain ⟨a1, a2, a3, a4, a5, a6, a7, a8, a9, a10, a11, a12, a13, a14, a15, a16, a17⟩ := h
  have x1 : ∀ F, F < 602 ∨ (711 ≤ F ∧ F < 1000) → σ'.1 F = σ.1 F ∧ σ'.2.1 F = σ.2.1 F := fun F z => ⟨funext fun k => (hF.1 F k (by omega) (by omega) (by omega)).1, funext fun k => (hF.1 F k (by omega) (by omega) (by omega)).2⟩
  have xj : ∀ j, j ≠ 7 → σ'.1 1002 j = σ.1 1002 j := fun j z => (hF.1 1002 j (by omega) (by omega) (by omega)).1
  have xA : ∀ F, F < 601 ∨ (704 ≤ F ∧ F < 1000) → σ'.2.2.1 F = σ.2.2.1 F := fun F z => funext fun k => hF.2.1 F k (by omega) (by omega) (by omega) (by omega)
  have xL : ∀ j, j ≠ 7 → σ'.2.2.1 1001 j = σ.2.2.1 1001 j := fun j z => hF.2.1 1001 j (by omega) (by omega) (by omega) (by omega)
  have xB : ∀ F, F ≠ 600 → σ'.2.2.2 F = σ.2.2.2 F := fun F z => funext fun k => hF.2.2 F k z
  exact ⟨hK,
    ti_fb a2 hF,
    ri_e a3 (fun j _ h7 => xj j h7) (fun j _ h7 => xL j h7),
    rc_e a4 (xj 0 (by decide)) (xj 1 (by decide)) (xj 2 (by decide)) (xj 3 (by decide)) (xj 4 (by decide)) (xj 5 (by decide)) (xj 6 (by decide)),
    rb_e a5 ((x1 5 (by omega)).1) ((x1 205 (by omega)).1) ((x1 306 (by omega)).1) ((x1 506 (by omega)).1) (xj 5 (by decide)) (xA 0 (by omega)) (xA 4 (by omega)),
    sb_e a6 hS (Nat.le_of_eq (congrFun (y1 900 (by decide)) 0).symm) (congrFun (y3 903 (by omega)) 0) (congrFun (y3 919 (by omega)) 0) (congrFun (y3 931 (by omega)) 0) (congrFun (y3 913 (by omega)) 0) (congrFun (y1 934 (by decide)) 0) (congrFun (y3 925 (by omega)) 0) (congrFun (y3 927 (by omega)) 0) (congrFun (y3 930 (by omega)) 0) (congrFun (y4 917 (by decide)) 0) (congrFun (y1 914 (by decide)) 0) (congrFun (y1 924 (by decide)) 0) (congrFun (y4 920 (by decide)) 0) (congrFun (y3 922 (by omega)) 0),
    gn_e a7 (xj 0 (by decide)) (xj 1 (by decide)) (xj 2 (by decide)) (xj 4 (by decide)) (xj 5 (by decide)) (xj 6 (by decide)) (congrFun (y1 914 (by decide)) 0) (congrFun (y1 924 (by decide)) 0) (congrFun (y1 926 (by decide)) 0) (congrFun (y1 932 (by decide)) 0) (congrFun (y1 934 (by decide)) 0) (congrFun (y1 904 (by decide)) 0),
    gt_e a8 (congrFun ((x1 811 (by omega)).1) 0) (congrFun ((x1 812 (by omega)).1) 0) ((x1 504 (by omega)).1) (congrFun (y1 900 (by decide)) 0) (congrFun (y1 901 (by decide)) 0),
    gp_e a9 (xj 6 (by decide)) ((x1 402 (by omega)).1) (xB 400 (by decide)) (xB 401 (by decide)) (congrFun (y3 903 (by omega)) 0) (congrFun (y4 902 (by decide)) 0),
    go_e a10 (xj 0 (by decide)) ((x1 502 (by omega)).1) ((x1 504 (by omega)).1) ((x1 506 (by omega)).1) ((x1 500 (by omega)).2) ((x1 501 (by omega)).2) ((x1 505 (by omega)).2) ((x1 507 (by omega)).2) (xB 503 (by decide)) (congrFun (y3 907 (by omega)) 0) (congrFun (y3 908 (by omega)) 0) (congrFun (y3 913 (by omega)) 0) (congrFun (y4 906 (by decide)) 0) (congrFun (y4 910 (by decide)) 0) (congrFun (y4 911 (by decide)) 0) (congrFun (y4 912 (by decide)) 0),
    gm_e a11 (congrFun (xB 806 (by decide)) 0) (congrFun (y4 905 (by decide)) 0),
    ga_e a12 (xj 1 (by decide)) ((x1 205 (by omega)).1) ((x1 208 (by omega)).1) ((x1 206 (by omega)).2) ((x1 209 (by omega)).2) (xB 200 (by decide)) (xB 201 (by decide)) (xB 202 (by decide)) (xB 203 (by decide)) (xB 204 (by decide)) (congrFun (y3 919 (by omega)) 0) (congrFun (y3 922 (by omega)) 0) (congrFun (y4 920 (by decide)) 0) (congrFun (y4 923 (by decide)) 0) (congrFun (y4 915 (by decide)) 0) (congrFun (y4 916 (by decide)) 0) (congrFun (y4 917 (by decide)) 0) (congrFun (y4 918 (by decide)) 0),
    gq_e a13 (xj 2 (by decide)) (xj 1 (by decide)) (xj 6 (by decide)) ((x1 208 (by omega)).1) ((x1 207 (by omega)).2) (xL 2 (by decide)) (congrFun (y3 925 (by omega)) 0) (congrFun (y3 921 (by omega)) 0) (congrFun (y4 920 (by decide)) 0),
    gg_e a14 ((x1 100 (by omega)).2) ((x1 101 (by omega)).2) (congrFun (y4 928 (by decide)) 0) (congrFun (y4 929 (by decide)) 0) (congrFun (y3 927 (by omega)) 0),
    gd_e a15 (xj 4 (by decide)) ((x1 5 (by omega)).1) (xA 0 (by omega)) (xA 1 (by omega)) (xA 2 (by omega)) (xA 3 (by omega)) (xA 4 (by omega)) (congrFun (y3 930 (by omega)) 0) (congrFun (y3 931 (by omega)) 0),
    gr_e a16 (xj 5 (by decide)) ((x1 306 (by omega)).1) ((x1 300 (by omega)).2) ((x1 301 (by omega)).2) ((x1 302 (by omega)).2) ((x1 303 (by omega)).2) (xB 304 (by decide)) (xB 305 (by decide)) (congrFun (y4 933 (by decide)) 0),
    gw_e a17 (congrFun (y1 926 (by decide)) 0) (congrFun (y4 902 (by decide)) 0) (congrFun (y3 903 (by omega)) 0) (congrFun (y4 915 (by decide)) 0) (congrFun (y4 916 (by decide)) 0) (congrFun (y3 925 (by omega)) 0) (congrFun (y3 921 (by omega)) 0) (congrFun (y3 922 (by omega)) 0)⟩
theorem pi_gp {σ τ : St} (h : GP σ τ) (hC : RC σ) (hN : GN σ τ) (hS : SB τ) : PI τ := by
  have e0 : σ.1 1002 6 = τ.1 904 0 := hN.2.2.2.2.2
  have h6 : σ.1 1002 6 ≤ 6 := hC.2.2.2.2.2.2
  refine ⟨by omega, fun i hi => ⟨hS.2.1 i, fun j hj => ?_⟩⟩
  obtain ⟨q1, q2⟩ := h.1 i (by omega)
  obtain ⟨r1, r2, r3⟩ := q2 j (by omega)
  rw [← r1, ← r2]
  refine ⟨fun z => ?_, fun z => ?_⟩
  · rcases isB_c r3 with ⟨y, -⟩ | y | ⟨y, -⟩ | ⟨-, y⟩
    · rcases y with y | y <;> exact absurd (y.symm.trans z) (by decide)
    · rcases y with y | y | y <;> exact absurd (y.symm.trans z) (by decide)
    · exact absurd (y.symm.trans z) (by decide)
    · exact (rg_m (by omega)).mp y
  · rcases isB_c r3 with ⟨y, -⟩ | y | ⟨-, y⟩ | ⟨y, -⟩
    · rcases y with y | y <;> exact absurd (y.symm.trans z) (by decide)
    · rcases y with y | y | y <;> exact absurd (y.symm.trans z) (by decide)
    · exact y
    · exact absurd (y.symm.trans z) (by decide)
theorem rl_pi {wr : WrT} {σ τ : St} (h : Rl wr σ τ) : PI τ := pi_gp h.2.2.2.2.2.2.2.2.1 h.2.2.2.1 h.2.2.2.2.2.2.1 h.2.2.2.2.2.1
theorem rl_runs0 {wr : WrT} {σ τ : St} (h : Rl wr σ τ) {P pr g : Nat} (hpr : pr < σ.1 1002 6) : Rl wr (k_run P (nI pr) g σ) (m_runs0 P pr g τ).2 := by
  have h6 : σ.1 1002 6 ≤ 6 := h.2.2.2.1.2.2.2.2.2.2
  have e0 : σ.1 1002 6 = τ.1 904 0 := h.2.2.2.2.2.2.1.2.2.2.2.2
  obtain ⟨k1, k2, -⟩ := run_kr (p := P) (g := g) (v := nI pr) h.1 ((ix_nI (by omega)).mpr hpr)
  obtain ⟨f1, -, f3, f4⟩ := FR_runs0 P pr g τ
  refine rl_run h k2 k1 (runs_all0 h.2.2.2.2.2.1.1 (rl_pi h) (by omega)).1 (fun F z => f1 F (by simpa using z)) (fun F z => f3 F ?_) (fun F z => f4 F (by simpa using z))
  intro y
  simp only [List.mem_cons, List.not_mem_nil, or_false] at y
  omega
theorem p_prove {wr : WrT} {σ τ : St} (h : Rl wr σ τ) (v1 v2 : Int32) : ((if kP v1 v2 σ then 0 else 1 : Nat) = 0 ∨ (if kP v1 v2 σ then 0 else 1 : Nat) = 1) ∧ (m_prove v1 v2 τ).2.2.1 944 0 = nI (wk [1] (if kP v1 v2 σ then 0 else 1)) ∧ ((if kP v1 v2 σ then 0 else 1 : Nat) = 0 → (m_prove v1 v2 τ).1 = k_prv (k_try v1 v2 σ)) ∧ Rl wr (k_try v1 v2 σ) (m_prove v1 v2 τ).2 := by
  have e1 : σ.1 1002 1 = τ.1 924 0 := h.2.2.2.2.2.2.1.2.1
  have e0 : σ.1 1002 6 = τ.1 904 0 := h.2.2.2.2.2.2.1.2.2.2.2.2
  by_cases c1 : kP v1 v2 σ
  · have hP := ix_tn c1.1
    have hp := ix_tn c1.2
    have hid : σ.2.2.1 1001 1 (tn v1) = tn v1 := h.2.2.1 1 (by decide) (by decide) (by decide) _ hP
    have c2 : ix v1 (τ.1 924 0) ∧ ix v2 (τ.1 904 0) := by rw [← e1, ← e0]; exact c1
    have hk : k_try v1 v2 σ = k_run (tn v1) (nI (tn v2)) 0 σ := by
      rw [← ix_eq c1.2, show k_try v1 v2 σ = k_run (σ.2.2.1 1001 1 (tn v1)) v2 0 σ from if_pos c1, hid]
    have hg : m_g (ix v1 (τ.1 924 0) ∧ ix v2 (τ.1 904 0)) True True τ = wI τ 944 0 (nI 0) := by
      unfold m_g
      rw [gc_0 c2 trivial trivial]
    unfold m_prove
    rw [if_pos (show (ix v1 (τ.1 924 0) ∧ ix v2 (τ.1 904 0)) ∧ True ∧ True from ⟨c2, trivial, trivial⟩), hg, if_pos c1, hk]
    obtain ⟨q1, q2, q3, q4, -⟩ := runs_eq (g := 0) (rl_944 (x := nI 0) h) hP hp
    have hR := rl_runs0 (P := tn v1) (g := 0) (rl_944 (x := nI 0) h) hp
    have h944 : (m_runs0 (tn v1) (tn v2) 0 (wI τ 944 0 (nI 0))).2.2.1 944 0 = nI 0 := by
      rw [(FR_runs0 _ _ _ _).2.1 944 (by decide)]
      exact t944
    unfold k_prv
    rw [q1, q2]
    generalize m_runs0 (tn v1) (tn v2) 0 (wI τ 944 0 (nI 0)) = r at hR h944 ⊢
    by_cases c3 : r.1 = 0
    · rw [if_neg (show ¬ ¬ r.1 = 0 from fun z => z c3), if_pos c3]
      exact ⟨Or.inl rfl, h944, fun _ => rfl, hR⟩
    · rw [if_pos c3, if_neg c3]
      exact ⟨Or.inl rfl, h944, fun _ => rfl, hR⟩
  · have c2 : ¬ (ix v1 (τ.1 924 0) ∧ ix v2 (τ.1 904 0)) := by rw [← e1, ← e0]; exact c1
    unfold m_prove
    rw [if_neg (show ¬ ((ix v1 (τ.1 924 0) ∧ ix v2 (τ.1 904 0)) ∧ True ∧ True) from fun z => c2 z.1), if_neg c1, show k_try v1 v2 σ = σ from if_neg c1]
    unfold m_g
    rw [gc_1 c2]
    exact ⟨Or.inr rfl, ag_n h (show ¬ (1 : Nat) = 0 by decide) rfl⟩
theorem p_takes {wr : WrT} {σ τ : St} (h : Rl wr σ τ) (v1 v2 : Int32) : ((if kP v1 v2 σ then 0 else 1 : Nat) = 0 ∨ (if kP v1 v2 σ then 0 else 1 : Nat) = 1) ∧ (m_takes v1 v2 τ).2.2.1 944 0 = nI (wk [1] (if kP v1 v2 σ then 0 else 1)) ∧ ((if kP v1 v2 σ then 0 else 1 : Nat) = 0 → (m_takes v1 v2 τ).1 = k_tks (k_try v1 v2 σ)) ∧ Rl wr (k_try v1 v2 σ) (m_takes v1 v2 τ).2 := by
  have e1 : σ.1 1002 1 = τ.1 924 0 := h.2.2.2.2.2.2.1.2.1
  have e0 : σ.1 1002 6 = τ.1 904 0 := h.2.2.2.2.2.2.1.2.2.2.2.2
  by_cases c1 : kP v1 v2 σ
  · have hP := ix_tn c1.1
    have hp := ix_tn c1.2
    have hid : σ.2.2.1 1001 1 (tn v1) = tn v1 := h.2.2.1 1 (by decide) (by decide) (by decide) _ hP
    have c2 : ix v1 (τ.1 924 0) ∧ ix v2 (τ.1 904 0) := by rw [← e1, ← e0]; exact c1
    have hk : k_try v1 v2 σ = k_run (tn v1) (nI (tn v2)) 0 σ := by
      rw [← ix_eq c1.2, show k_try v1 v2 σ = k_run (σ.2.2.1 1001 1 (tn v1)) v2 0 σ from if_pos c1, hid]
    have hg : m_g (ix v1 (τ.1 924 0) ∧ ix v2 (τ.1 904 0)) True True τ = wI τ 944 0 (nI 0) := by
      unfold m_g
      rw [gc_0 c2 trivial trivial]
    unfold m_takes
    rw [if_pos (show (ix v1 (τ.1 924 0) ∧ ix v2 (τ.1 904 0)) ∧ True ∧ True from ⟨c2, trivial, trivial⟩), hg, if_pos c1, hk]
    obtain ⟨q1, q2, q3, q4, -⟩ := runs_eq (g := 0) (rl_944 (x := nI 0) h) hP hp
    have hR := rl_runs0 (P := tn v1) (g := 0) (rl_944 (x := nI 0) h) hp
    have h944 : (m_runs0 (tn v1) (tn v2) 0 (wI τ 944 0 (nI 0))).2.2.1 944 0 = nI 0 := by
      rw [(FR_runs0 _ _ _ _).2.1 944 (by decide)]
      exact t944
    unfold k_tks
    rw [q1, q4]
    generalize m_runs0 (tn v1) (tn v2) 0 (wI τ 944 0 (nI 0)) = r at hR h944 ⊢
    by_cases c3 : r.1 = 0
    · rw [if_neg (show ¬ ¬ r.1 = 0 from fun z => z c3), if_pos c3]
      exact ⟨Or.inl rfl, h944, fun _ => rfl, hR⟩
    · rw [if_pos c3, if_neg c3]
      exact ⟨Or.inl rfl, h944, fun _ => rfl, hR⟩
  · have c2 : ¬ (ix v1 (τ.1 924 0) ∧ ix v2 (τ.1 904 0)) := by rw [← e1, ← e0]; exact c1
    unfold m_takes
    rw [if_neg (show ¬ ((ix v1 (τ.1 924 0) ∧ ix v2 (τ.1 904 0)) ∧ True ∧ True) from fun z => c2 z.1), if_neg c1, show k_try v1 v2 σ = σ from if_neg c1]
    unfold m_g
    rw [gc_1 c2]
    exact ⟨Or.inr rfl, ag_n h (show ¬ (1 : Nat) = 0 by decide) rfl⟩
