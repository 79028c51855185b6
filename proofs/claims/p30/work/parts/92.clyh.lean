/-! the relation, carried over where only the walk's and the trials' fields change; lacks -/
theorem rl_x {wr : WrT} {σ σ' τ τ' : St} (h : Rl wr σ τ) (hK : KR σ') (x1 : ∀ F, F < 602 ∨ (711 ≤ F ∧ F < 1000) → σ'.1 F = σ.1 F ∧ σ'.2.1 F = σ.2.1 F) (xj : ∀ j, j ≠ 7 → σ'.1 1002 j = σ.1 1002 j) (xA : ∀ F, F < 601 ∨ (704 ≤ F ∧ F < 1000) → σ'.2.2.1 F = σ.2.2.1 F) (xL : ∀ j, j ≠ 7 → σ'.2.2.1 1001 j = σ.2.2.1 1001 j) (xB : ∀ F, F ≠ 600 → F ≠ 807 → F ≠ 808 → σ'.2.2.2 F = σ.2.2.2 F) (hS : SI τ') (y1 : ∀ F, F ≠ 943 → τ'.1 F = τ.1 F) (y3 : ∀ F, F < 909 ∨ (909 < F ∧ F < 936) → τ'.2.2.1 F = τ.2.2.1 F) (y4 : ∀ F, F ≠ 935 → τ'.2.2.2 F = τ.2.2.2 F) : Rl wr σ' τ' := by
  obtain ⟨a1, a2, a3, a4, a5, a6, a7, a8, a9, a10, a11, a12, a13, a14, a15, a16, a17⟩ := h
  exact ⟨hK,
    ⟨fun k => by rw [(x1 504 (by omega)).1, (x1 502 (by omega)).1]; exact a2.1 k, fun k => by rw [(x1 502 (by omega)).1]; exact a2.2.1 k, by rw [(x1 812 (by omega)).1]; exact a2.2.2⟩,
    ri_e a3 (fun j _ h7 => xj j h7) (fun j _ h7 => xL j h7),
    rc_e a4 (xj 0 (by decide)) (xj 1 (by decide)) (xj 2 (by decide)) (xj 3 (by decide)) (xj 4 (by decide)) (xj 5 (by decide)) (xj 6 (by decide)),
    rb_e a5 ((x1 5 (by omega)).1) ((x1 205 (by omega)).1) ((x1 306 (by omega)).1) ((x1 506 (by omega)).1) (xj 5 (by decide)) (xA 0 (by omega)) (xA 4 (by omega)),
    sb_e a6 hS (Nat.le_of_eq (congrFun (y1 900 (by decide)) 0).symm) (congrFun (y3 903 (by omega)) 0) (congrFun (y3 919 (by omega)) 0) (congrFun (y3 931 (by omega)) 0) (congrFun (y3 913 (by omega)) 0) (congrFun (y1 934 (by decide)) 0) (congrFun (y3 925 (by omega)) 0) (congrFun (y3 927 (by omega)) 0) (congrFun (y3 930 (by omega)) 0) (congrFun (y4 917 (by decide)) 0) (congrFun (y1 914 (by decide)) 0) (congrFun (y1 924 (by decide)) 0) (congrFun (y4 920 (by decide)) 0) (congrFun (y3 922 (by omega)) 0),
    gn_e a7 (xj 0 (by decide)) (xj 1 (by decide)) (xj 2 (by decide)) (xj 4 (by decide)) (xj 5 (by decide)) (xj 6 (by decide)) (congrFun (y1 914 (by decide)) 0) (congrFun (y1 924 (by decide)) 0) (congrFun (y1 926 (by decide)) 0) (congrFun (y1 932 (by decide)) 0) (congrFun (y1 934 (by decide)) 0) (congrFun (y1 904 (by decide)) 0),
    gt_e a8 (congrFun ((x1 811 (by omega)).1) 0) (congrFun ((x1 812 (by omega)).1) 0) ((x1 504 (by omega)).1) (congrFun (y1 900 (by decide)) 0) (congrFun (y1 901 (by decide)) 0),
    gp_e a9 (xj 6 (by decide)) ((x1 402 (by omega)).1) (xB 400 (by decide) (by decide) (by decide)) (xB 401 (by decide) (by decide) (by decide)) (congrFun (y3 903 (by omega)) 0) (congrFun (y4 902 (by decide)) 0),
    go_e a10 (xj 0 (by decide)) ((x1 502 (by omega)).1) ((x1 504 (by omega)).1) ((x1 506 (by omega)).1) ((x1 500 (by omega)).2) ((x1 501 (by omega)).2) ((x1 505 (by omega)).2) ((x1 507 (by omega)).2) (xB 503 (by decide) (by decide) (by decide)) (congrFun (y3 907 (by omega)) 0) (congrFun (y3 908 (by omega)) 0) (congrFun (y3 913 (by omega)) 0) (congrFun (y4 906 (by decide)) 0) (congrFun (y4 910 (by decide)) 0) (congrFun (y4 911 (by decide)) 0) (congrFun (y4 912 (by decide)) 0),
    gm_e a11 (congrFun (xB 806 (by decide) (by decide) (by decide)) 0) (congrFun (y4 905 (by decide)) 0),
    ga_e a12 (xj 1 (by decide)) ((x1 205 (by omega)).1) ((x1 208 (by omega)).1) ((x1 206 (by omega)).2) ((x1 209 (by omega)).2) (xB 200 (by decide) (by decide) (by decide)) (xB 201 (by decide) (by decide) (by decide)) (xB 202 (by decide) (by decide) (by decide)) (xB 203 (by decide) (by decide) (by decide)) (xB 204 (by decide) (by decide) (by decide)) (congrFun (y3 919 (by omega)) 0) (congrFun (y3 922 (by omega)) 0) (congrFun (y4 920 (by decide)) 0) (congrFun (y4 923 (by decide)) 0) (congrFun (y4 915 (by decide)) 0) (congrFun (y4 916 (by decide)) 0) (congrFun (y4 917 (by decide)) 0) (congrFun (y4 918 (by decide)) 0),
    gq_e a13 (xj 2 (by decide)) (xj 1 (by decide)) (xj 6 (by decide)) ((x1 208 (by omega)).1) ((x1 207 (by omega)).2) (xL 2 (by decide)) (congrFun (y3 925 (by omega)) 0) (congrFun (y3 921 (by omega)) 0) (congrFun (y4 920 (by decide)) 0),
    gg_e a14 ((x1 100 (by omega)).2) ((x1 101 (by omega)).2) (congrFun (y4 928 (by decide)) 0) (congrFun (y4 929 (by decide)) 0) (congrFun (y3 927 (by omega)) 0),
    gd_e a15 (xj 4 (by decide)) ((x1 5 (by omega)).1) (xA 0 (by omega)) (xA 1 (by omega)) (xA 2 (by omega)) (xA 3 (by omega)) (xA 4 (by omega)) (congrFun (y3 930 (by omega)) 0) (congrFun (y3 931 (by omega)) 0),
    gr_e a16 (xj 5 (by decide)) ((x1 306 (by omega)).1) ((x1 300 (by omega)).2) ((x1 301 (by omega)).2) ((x1 302 (by omega)).2) ((x1 303 (by omega)).2) (xB 304 (by decide) (by decide) (by decide)) (xB 305 (by decide) (by decide) (by decide)) (congrFun (y4 933 (by decide)) 0),
    gw_e a17 (congrFun (y1 926 (by decide)) 0) (congrFun (y4 902 (by decide)) 0) (congrFun (y3 903 (by omega)) 0) (congrFun (y4 915 (by decide)) 0) (congrFun (y4 916 (by decide)) 0) (congrFun (y3 925 (by omega)) 0) (congrFun (y3 921 (by omega)) 0) (congrFun (y3 922 (by omega)) 0)⟩
/-- what a pallet of the queue is -/
theorem q_facts {σ τ : St} (h : Rl wr0 σ τ) {i : Nat} (hi : i < σ.1 1002 2) : σ.2.2.1 1001 2 i = τ.2.2.1 925 0 i ∧ τ.2.2.1 925 0 i < σ.1 1002 1 ∧ σ.2.1 207 (τ.2.2.1 925 0 i) = nI (τ.2.2.1 921 0 (τ.2.2.1 925 0 i)) ∧ τ.2.2.1 921 0 (τ.2.2.1 925 0 i) < σ.1 1002 6 ∧ σ.1 208 (τ.2.2.1 925 0 i) = τ.2.2.1 922 0 (τ.2.2.1 925 0 i) ∧ (m_runs0 (τ.2.2.1 925 0 i) (τ.2.2.1 921 0 (τ.2.2.1 925 0 i)) (τ.2.2.1 922 0 (τ.2.2.1 925 0 i)) τ).1 = 0 ∧ τ.2.2.1 922 0 (τ.2.2.1 925 0 i) ≤ (TR (τ.2.2.2 902 0) (τ.2.2.1 903 0) (τ.2.2.1 921 0 (τ.2.2.1 925 0 i))).1.length := by
  obtain ⟨q1, q2, q3, q4, q5, q6⟩ := h.2.2.2.2.2.2.2.2.2.2.2.2.1.1 i hi
  have hA := h.2.2.2.2.2.2.2.2.2.2.2.1.1 _ q2
  have e2 : σ.1 1002 2 = τ.1 926 0 := h.2.2.2.2.2.2.1.2.2.1
  obtain ⟨w1, w2⟩ := wr_runs0 (h.2.2.2.2.2.2.2.2.2.2.2.2.2.2.2.2 i (by rw [← e2]; exact hi))
  exact ⟨q1, q2, q4, q5, hA.2.2.2.1, w1, w2⟩
theorem rl_qp {σ τ : St} (h : Rl wr0 σ τ) : QP σ := fun i hi => by
  obtain ⟨q1, q2, q3, q4, q5, q6, q7⟩ := q_facts h hi
  have h6 : σ.1 1002 6 ≤ 6 := h.2.2.2.1.2.2.2.2.2.2
  rw [q1, q3, q5]
  have := (TR_bd (B := τ.2.2.2 902 0) (S := τ.2.2.1 903 0) (pr := τ.2.2.1 921 0 (τ.2.2.1 925 0 i))).2
  exact ⟨(ix_nI (by omega)).mpr q4, by omega⟩
theorem rl_qi {σ τ : St} (h : Rl wr0 σ τ) : QI τ := by
  have e2 : σ.1 1002 2 = τ.1 926 0 := h.2.2.2.2.2.2.1.2.2.1
  have e0 : σ.1 1002 6 = τ.1 904 0 := h.2.2.2.2.2.2.1.2.2.2.2.2
  have h2 : σ.1 1002 2 ≤ 6 := h.2.2.2.1.2.2.1
  have h1 : σ.1 1002 1 ≤ 6 := h.2.2.2.1.2.1
  refine ⟨by omega, fun i hi => ?_⟩
  obtain ⟨q1, q2, q3, q4, q5, q6, q7⟩ := q_facts h (i := i) (by omega)
  have := (TR_bd (B := τ.2.2.2 902 0) (S := τ.2.2.1 903 0) (pr := τ.2.2.1 921 0 (τ.2.2.1 925 0 i))).2
  exact ⟨by omega, by omega, by omega⟩
theorem lk_s {v : Int32} {k : Nat} {τ : St} : m_lk v (k + 1) τ = ((m_lk v k τ).1 + (if ¬ (rq0 k (m_lk v k τ).2).1 = 0 then nI 0 else nI ((rq0 k (m_lk v k τ).2).2.2.2.1 936 0 (tn v))), (rq0 k (m_lk v k τ).2).2) := rfl
theorem la_s {v : Int32} {m n c : Nat} {σ : St} : k_la v (m + 1) n c σ = k_la v m (n + 1) (c + (k_run (σ.2.2.1 1001 2 n) (σ.2.1 207 (σ.2.2.1 1001 2 n)) (σ.1 208 (σ.2.2.1 1001 2 n)) σ).2.2.1 601 0 (tn v)) (k_run (σ.2.2.1 1001 2 n) (σ.2.1 207 (σ.2.2.1 1001 2 n)) (σ.1 208 (σ.2.2.1 1001 2 n)) σ) := rfl
theorem la_lk {v : Int32} (hv : ix v 4) {τ0 : St} : ∀ (m n c : Nat) (σ : St), Rl wr0 σ (m_lk v n τ0).2 → (m_lk v n τ0).1 = nI c → n + m = σ.1 1002 2 → Rl wr0 (k_la v m n c σ).2 (m_lk v (n + m) τ0).2 ∧ (m_lk v (n + m) τ0).1 = nI (k_la v m n c σ).1 ∧ (m_lk v (n + m) τ0).2.2.1 944 0 = (m_lk v n τ0).2.2.1 944 0
  | 0, n, c, σ, h, hc, _ => ⟨h, hc, rfl⟩
  | m + 1, n, c, σ, h, hc, hn => by
    obtain ⟨q1, q2, q3, q4, q5, q6, q7⟩ := q_facts h (i := n) (by omega)
    obtain ⟨r1, r2, r3, -, -⟩ := runs_eq (g := (m_lk v n τ0).2.2.2.1 922 0 ((m_lk v n τ0).2.2.2.1 925 0 n)) h q2 q4
    have hR := rl_runs0 (P := (m_lk v n τ0).2.2.2.1 925 0 n) (g := (m_lk v n τ0).2.2.2.1 922 0 ((m_lk v n τ0).2.2.2.1 925 0 n)) h q4
    obtain ⟨k1, k2, -⟩ := run_kr (p := (m_lk v n τ0).2.2.2.1 925 0 n) (g := (m_lk v n τ0).2.2.2.1 922 0 ((m_lk v n τ0).2.2.2.1 925 0 n)) (v := nI ((m_lk v n τ0).2.2.2.1 921 0 ((m_lk v n τ0).2.2.2.1 925 0 n))) h.1 ((ix_nI (by have : σ.1 1002 6 ≤ 6 := h.2.2.2.1.2.2.2.2.2.2; omega)).mpr q4)
    have e2 := (k2.1 1002 2 (by omega) (by omega) (by omega)).1
    have e9 := (FR_runs0 ((m_lk v n τ0).2.2.2.1 925 0 n) ((m_lk v n τ0).2.2.2.1 921 0 ((m_lk v n τ0).2.2.2.1 925 0 n)) ((m_lk v n τ0).2.2.2.1 922 0 ((m_lk v n τ0).2.2.2.1 925 0 n)) (m_lk v n τ0).2).2.1 944 (by decide)
    have h3 := r3 (tn v) (ix_lt hv)
    have e1 : m_lk v (n + 1) τ0 = (nI (c + (k_run ((m_lk v n τ0).2.2.2.1 925 0 n) (nI ((m_lk v n τ0).2.2.2.1 921 0 ((m_lk v n τ0).2.2.2.1 925 0 n))) ((m_lk v n τ0).2.2.2.1 922 0 ((m_lk v n τ0).2.2.2.1 925 0 n)) σ).2.2.1 601 0 (tn v)), (m_runs0 ((m_lk v n τ0).2.2.2.1 925 0 n) ((m_lk v n τ0).2.2.2.1 921 0 ((m_lk v n τ0).2.2.2.1 925 0 n)) ((m_lk v n τ0).2.2.2.1 922 0 ((m_lk v n τ0).2.2.2.1 925 0 n)) (m_lk v n τ0).2).2) := by
      rw [lk_s, hc, h3, ← nI_add]
      unfold rq0
      rw [if_neg (fun z => z q6)]
    rw [la_s, q1, q3, q5]
    generalize hX : k_run ((m_lk v n τ0).2.2.2.1 925 0 n) (nI ((m_lk v n τ0).2.2.2.1 921 0 ((m_lk v n τ0).2.2.2.1 925 0 n))) ((m_lk v n τ0).2.2.2.1 922 0 ((m_lk v n τ0).2.2.2.1 925 0 n)) σ = X at hR e2 e1 ⊢
    have := la_lk hv (τ0 := τ0) m (n + 1) (c + X.2.2.1 601 0 (tn v)) X (by rw [e1]; exact hR) (by rw [e1]) (by rw [e2]; omega)
    have e3 : n + (m + 1) = n + 1 + m := by omega
    rw [e3]
    refine ⟨this.1, this.2.1, this.2.2.trans ?_⟩
    rw [e1]
    exact congrFun e9 0
theorem ll_sum {v w : Int32} {σ τ : St} (h : Rl wr0 σ τ) : ∀ n, n ≤ σ.1 1002 0 → m_ll v w τ n = w - nI (sumL (fun i => lf σ v (σ.2.2.1 1001 0 i)) n)
  | 0, _ => by
    show w = w - nI 0
    exact (Int32.sub_zero w).symm
  | n + 1, hn => by
    have ih := ll_sum (v := v) (w := w) h n (by omega)
    have hid : σ.2.2.1 1001 0 n = n := h.2.2.1 0 (by decide) (by decide) (by decide) n (by omega)
    obtain ⟨d0, d1, d2, d3, d4, d5, d6, d7, d8, d9⟩ := h.2.2.2.2.2.2.2.2.2.1.1 n (by omega)
    have ht := h.2.1.1 n
    show m_ll v w τ n - (if τ.2.2.2 911 0 n = 0 then nI 0 else if ¬ τ.2.2.2 906 0 n = v then nI 0 else nI (τ.2.2.1 907 0 n) - nI (τ.2.2.1 908 0 n)) = w - nI (sumL (fun i => lf σ v (σ.2.2.1 1001 0 i)) n + lf σ v (σ.2.2.1 1001 0 n))
    have e : (if τ.2.2.2 911 0 n = 0 then nI 0 else if ¬ τ.2.2.2 906 0 n = v then nI 0 else nI (τ.2.2.1 907 0 n) - nI (τ.2.2.1 908 0 n)) = nI (lf σ v (σ.2.2.1 1001 0 n)) := by
      unfold lf
      rw [hid, ← d7, ← d1, ← d3, ← d4]
      by_cases c1 : σ.2.1 507 n = 0
      · rw [if_pos c1, if_pos c1]
      · rw [if_neg c1, if_neg c1]
        by_cases c2 : σ.2.1 501 n = v
        · rw [if_neg (fun z => z c2), if_neg (fun z => z c2), pk_sub ht]
        · rw [if_pos c2, if_pos c2]
    rw [e, ih, ← nI_add]
    generalize nI (sumL (fun i => lf σ v (σ.2.2.1 1001 0 i)) n) = a
    generalize nI (lf σ v (σ.2.2.1 1001 0 n)) = b
    rw [Int32.sub_eq_add_neg, Int32.sub_eq_add_neg, Int32.sub_eq_add_neg, Int32.neg_add, Int32.add_assoc, Int32.sub_eq_add_neg]
theorem p_lacks {σ τ : St} (h : Rl wr0 σ τ) (v1 : Int32) : ((k_lks v1 σ).1 = 0 ∨ (k_lks v1 σ).1 = 2) ∧ (m_lacks v1 τ).2.2.1 944 0 = nI (wk [2] (k_lks v1 σ).1) ∧ ((k_lks v1 σ).1 = 0 → (m_lacks v1 τ).1 = (k_lks v1 σ).2.1) ∧ Rl wr0 (k_lks v1 σ).2.2 (m_lacks v1 τ).2 := by
  have e2 : σ.1 1002 2 = τ.1 926 0 := h.2.2.2.2.2.2.1.2.2.1
  have e0 : σ.1 1002 0 = τ.1 914 0 := h.2.2.2.2.2.2.1.1
  unfold k_lks m_lacks
  by_cases c1 : ix v1 4
  · have hg : m_g (ix v1 4) True True τ = wI τ 944 0 (nI 0) := by
      unfold m_g
      rw [gc_0 c1 trivial trivial]
    rw [if_pos c1, if_pos (show ix v1 4 ∧ True ∧ True from ⟨c1, trivial, trivial⟩), hg, ← e2]
    obtain ⟨q1, q2, q3⟩ := la_lk c1 (τ0 := wI τ 944 0 (nI 0)) (σ.1 1002 2) 0 0 σ (rl_944 h) rfl (by omega)
    rw [Nat.zero_add] at q1 q2 q3
    generalize hA : k_la v1 (σ.1 1002 2) 0 0 σ = A at q1 q2 q3 ⊢
    generalize hM : m_lk v1 (σ.1 1002 2) (wI τ 944 0 (nI 0)) = M at q1 q2 q3 ⊢
    have f0 : τ.1 914 0 = A.2.1 1002 0 := by
      have := (lk_all (i9 := v1) (σ.1 1002 2) (wI τ 944 0 (nI 0)) h.2.2.2.2.2.1.1 (rl_pi h) (rl_qi h) (by show σ.1 1002 2 ≤ τ.1 926 0; omega)).1.1 914 (by decide)
      rw [hM] at this
      have g : A.2.1 1002 0 = M.2.1 914 0 := q1.2.2.2.2.2.2.1.1
      rw [g, this]
      rfl
    rw [f0, ll_sum q1 _ (Nat.le_refl _), q2]
    generalize nI A.1 - nI (sumL (fun i => lf A.2 v1 (A.2.2.2.1 1001 0 i)) (A.2.1 1002 0)) = D
    refine ⟨Or.inl rfl, q3.trans t944, fun _ => ?_, q1⟩
    show m_pos D = if nI 0 < D then D else nI 0
    unfold m_pos
    by_cases c2 : nI 0 < D
    · rw [if_pos c2, if_pos (by
        rw [fa_le]
        rw [Int32.lt_iff_toInt_lt] at c2
        exact Int.le_of_lt c2)]
    · rw [if_neg c2]
      by_cases c3 : 0 ≤ D
      · rw [if_pos c3]
        rw [fa_le] at c3
        rw [Int32.lt_iff_toInt_lt] at c2
        refine (fa_eq _ _).mpr ?_
        have h1 : (0 : Int32).toInt = 0 := rfl
        have h2 : (nI 0).toInt = 0 := rfl
        omega
      · rw [if_neg c3]
  · rw [if_neg c1, if_neg (show ¬ (ix v1 4 ∧ True ∧ True) from fun z => c1 z.1)]
    unfold m_g
    rw [gc_1 c1]
    exact ⟨Or.inr rfl, ag_n h (show ¬ (2 : Nat) = 0 by decide) rfl⟩
