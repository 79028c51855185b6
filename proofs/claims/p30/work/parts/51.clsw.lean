/-! isEnoughFor, foresees, lacks, night: the pure functions and what stays -/
def QP (σ : St) : Prop := ∀ i, i < σ.1 1002 2 → ix (σ.2.1 207 (σ.2.2.1 1001 2 i)) (σ.1 1002 6) ∧ σ.1 208 (σ.2.2.1 1001 2 i) ≤ 6601
theorem qp_fb {σ σ' : St} (h : QP σ) (hF : FB σ σ') : QP σ' := fun i hi => by
  rw [(hF.1 1002 2 (by omega) (by omega) (by omega)).1] at hi
  rw [(hF.1 1002 6 (by omega) (by omega) (by omega)).1, hF.2.1 1001 2 (by decide) (by decide) (by decide) (by omega), (hF.1 207 _ (by omega) (by omega) (by omega)).2, (hF.1 208 _ (by omega) (by omega) (by omega)).1]
  exact h i hi
theorem kr_eq {σ σ' : St} (h : KR σ) (e1 : σ'.1 = σ.1) (e3 : σ'.2.2.1 = σ.2.2.1) (e4 : ∀ F, F ≠ 808 → σ'.2.2.2 F = σ.2.2.2 F) : KR σ' := ⟨ci_eq h.1 (fun _ => by rw [e1]) (fun _ => by rw [e1]) (fun _ => by rw [e3]), fun k => by rw [e1]; exact h.2.1 k, fun k => by rw [e3]; exact h.2.2.1 k, pk_eq9 h.2.2.2 (by rw [e1]) (fun _ => by rw [e1]) (e4 400 (by decide)) (e4 401 (by decide))⟩
theorem qp_eq {σ σ' : St} (h : QP σ) (e1 : σ'.1 = σ.1) (e2 : σ'.2.1 = σ.2.1) (e3 : σ'.2.2.1 = σ.2.2.1) : QP σ' := fun i hi => by
  rw [e1] at hi
  rw [e1, e2, e3]
  exact h i hi
def k_en : Nat → Nat → St → Int32 × St
  | 0, _, σ => (nI 1, σ)
  | m + 1, k, σ => if (σ.2.2.2 808 0 k - nI (σ.2.2.1 601 0 k)) < 0 then (nI 0, wB σ 808 0 k (σ.2.2.2 808 0 k - nI (σ.2.2.1 601 0 k))) else k_en m (k + 1) (wB σ 808 0 k (σ.2.2.2 808 0 k - nI (σ.2.2.1 601 0 k)))
theorem en_st : ∀ (m k : Nat) (σ : St), (k_en m k σ).2.1 = σ.1 ∧ (k_en m k σ).2.2.1 = σ.2.1 ∧ (k_en m k σ).2.2.2.1 = σ.2.2.1 ∧ ∀ F, F ≠ 808 → (k_en m k σ).2.2.2.2 F = σ.2.2.2 F := fun m => by
  have hw : ∀ (σ : St) (k : Nat) (v : Int32) (F : Nat), F ≠ 808 → (wB σ 808 0 k v).2.2.2 F = σ.2.2.2 F := fun σ k v F h => by simp [wB, up3, h]
  induction m with
  | zero => exact fun k σ => ⟨rfl, rfl, rfl, fun _ _ => rfl⟩
  | succ m ih =>
    intro k σ
    unfold k_en
    split
    · exact ⟨rfl, rfl, rfl, fun F h => hw σ k _ F h⟩
    · obtain ⟨a, b, c, d⟩ := ih (k + 1) (wB σ 808 0 k (σ.2.2.2 808 0 k - nI (σ.2.2.1 601 0 k)))
      exact ⟨a, b, c, fun F h => (d F h).trans (hw σ k _ F h)⟩
def k_enf (q : Nat) (σ : St) : Int32 × St := k_en 4 0 (k_run q (σ.2.1 207 q) (σ.1 208 q) σ)
theorem enf_inv {q : Nat} {σ : St} (h : KR σ) (hv : ix (σ.2.1 207 q) (σ.1 1002 6)) : KR (k_enf q σ).2 ∧ nd (k_enf q σ).2 = 0 ∧ (k_enf q σ).2.1 1002 2 = σ.1 1002 2 ∧ (QP σ → QP (k_enf q σ).2) ∧ (TI σ → TI (k_enf q σ).2) ∧ ∀ F k, F ≠ 1001 → cdom σ F k → cdom (k_enf q σ).2 F k := by
  obtain ⟨a, b, d⟩ := run_kr (p := q) (g := σ.1 208 q) h hv
  unfold k_enf
  generalize k_run q (σ.2.1 207 q) (σ.1 208 q) σ = σ1 at a b d ⊢
  obtain ⟨e1, e2, e3, e4⟩ := en_st 4 0 σ1
  generalize k_en 4 0 σ1 = r at e1 e2 e3 e4 ⊢
  refine ⟨kr_eq a e1 e3 e4, ?_, ?_, fun hq => qp_eq (qp_fb hq b) e1 e2 e3, fun ht => ?_, fun F k hF hd => ?_⟩
  · unfold nd
    rw [e1]
    exact d
  · rw [e1]
    exact (b.1 1002 2 (by omega) (by omega) (by omega)).1
  · obtain ⟨t1, t2, t3⟩ := ti_fb ht b
    exact ⟨fun k => by rw [e1]; exact t1 k, fun k => by rw [e1]; exact t2 k, by rw [e1]; exact t3⟩
  · refine cdom_1001 (fun j _ _ => ?_) hF (b.dom hF hd)
    rw [e1]
def k_fl : Nat → St → St
  | 0, σ => σ
  | n + 1, σ => wB (k_fl n σ) 808 0 n (nI (sumL (fun i => lf σ (nI n) (σ.2.2.1 1001 0 i)) (σ.1 1002 0)))
theorem fl_st (σ : St) : ∀ n, (k_fl n σ).1 = σ.1 ∧ (k_fl n σ).2.1 = σ.2.1 ∧ (k_fl n σ).2.2.1 = σ.2.2.1 ∧ ∀ F, F ≠ 808 → (k_fl n σ).2.2.2 F = σ.2.2.2 F := fun n => by
  induction n with
  | zero => exact ⟨rfl, rfl, rfl, fun _ _ => rfl⟩
  | succ n ih => exact ⟨ih.1, ih.2.1, ih.2.2.1, fun F h => (show (wB (k_fl n σ) 808 0 n _).2.2.2 F = (k_fl n σ).2.2.2 F by simp [wB, up3, h]).trans (ih.2.2.2 F h)⟩
def k_fs : Nat → Nat → St → Int32 × St
  | 0, n, σ => (nI n, σ)
  | m + 1, n, σ => if (k_enf (σ.2.2.1 1001 2 n) σ).1 = 0 then (nI n, (k_enf (σ.2.2.1 1001 2 n) σ).2) else k_fs m (n + 1) (k_enf (σ.2.2.1 1001 2 n) σ).2
def k_fore (σ : St) : Int32 × St := k_fs (σ.1 1002 2) 0 (k_fl 4 σ)
/-- lacks -/
def k_la (v : Int32) : Nat → Nat → Nat → St → Nat × St
  | 0, _, c, σ => (c, σ)
  | m + 1, n, c, σ => k_la v m (n + 1) (c + (k_run (σ.2.2.1 1001 2 n) (σ.2.1 207 (σ.2.2.1 1001 2 n)) (σ.1 208 (σ.2.2.1 1001 2 n)) σ).2.2.1 601 0 (tn v)) (k_run (σ.2.2.1 1001 2 n) (σ.2.1 207 (σ.2.2.1 1001 2 n)) (σ.1 208 (σ.2.2.1 1001 2 n)) σ)
/-- night -/
def FI (q : Nat) (σ σ' : St) : Prop := (∀ F k, ¬ (602 ≤ F ∧ F ≤ 604) → ¬ (704 ≤ F ∧ F ≤ 710) → ¬ ((F = 1000 ∨ F = 1001 ∨ F = 1002 ∨ F = 1003) ∧ k = 7) → F ≠ 504 → F ≠ 811 → F ≠ 812 → ¬ (F = 208 ∧ k = q) → σ'.1 F k = σ.1 F k) ∧ (∀ F k, ¬ (602 ≤ F ∧ F ≤ 604) → ¬ (704 ≤ F ∧ F ≤ 710) → ¬ ((F = 1000 ∨ F = 1001 ∨ F = 1002 ∨ F = 1003) ∧ k = 7) → σ'.2.1 F k = σ.2.1 F k) ∧ (∀ F k, F ≠ 702 → F ≠ 703 → F ≠ 601 → ¬ (F = 1001 ∧ k = 7) → σ'.2.2.1 F k = σ.2.2.1 F k) ∧ ∀ F, F ≠ 600 → F ≠ 807 → ¬ (200 ≤ F ∧ F ≤ 203) → σ'.2.2.2 F = σ.2.2.2 F
theorem FB.fi {q : Nat} {σ σ' : St} (h : FB σ σ') : FI q σ σ' := ⟨fun F k a b c _ _ _ _ => (h.1 F k a b c).1, fun F k a b c => (h.1 F k a b c).2, h.2.1, fun F a _ _ => funext fun k => h.2.2 F k a⟩
theorem FI.tr {q : Nat} {σ σ1 σ2 : St} (h : FI q σ σ1) (g : FI q σ1 σ2) : FI q σ σ2 := ⟨fun F k a b c d e f j => (g.1 F k a b c d e f j).trans (h.1 F k a b c d e f j), fun F k a b c => (g.2.1 F k a b c).trans (h.2.1 F k a b c), fun F k a b d e => (g.2.2.1 F k a b d e).trans (h.2.2.1 F k a b d e), fun F a b c => (g.2.2.2 F a b c).trans (h.2.2.2 F a b c)⟩
theorem fi_cut {t q : Nat} {σ : St} : FI q σ (k_cut t q σ) := ⟨fun F k _ _ _ a b c _ => cut_1 a b c, fun F k _ _ _ => by rw [cut_I], fun F k _ _ _ _ => by rw [cut_A], fun F _ b c => cut_B ⟨c, b⟩⟩
theorem go_s {q : Nat} {σ : St} : (k_go q σ).1 208 q = σ.1 208 q + 1 := by simp [k_go, wN, up2, up1]
theorem fi_go {q : Nat} {σ : St} : FI q σ (k_go q σ) := ⟨fun F k _ _ _ _ _ _ h => up2_n (fun z => h z), fun _ _ _ _ _ => rfl, fun _ _ _ _ _ _ => rfl, fun _ _ _ _ => rfl⟩
theorem cl_inv {q gb : Nat} (hgb : gb ≤ 6601) : ∀ (f n : Nat) (σ : St), n + f = 6601 → σ.1 208 q = max n gb → WL σ → WS σ → WK σ → TI σ → WL (k_cl q gb f n σ).2 ∧ TI (k_cl q gb f n σ).2 ∧ (k_cl q gb f n σ).2.1 208 q ≤ 6601 ∧ FI q σ (k_cl q gb f n σ).2 := fun f => by
  induction f with
  | zero => exact fun n σ h1 h2 a b d t => ⟨a, t, by show σ.1 208 q ≤ 6601; omega, FB.rf.fi⟩
  | succ f ih =>
    intro n σ h1 h2 a b d t
    obtain ⟨a1, b1, d1, f1⟩ := gs_inv 601 σ a b d
    have t1 := ti_fb t f1.ft.fb
    have e8 : (k_gs 601 σ).2.1 208 q = max n gb := ((f1.1 208 q (by omega) (by omega)).1).trans h2
    by_cases h : (k_gs 601 σ).1 = 0
    · rw [cl_e h]
      exact ⟨a1, t1, by show (k_gs 601 σ).2.1 208 q ≤ 6601; omega, f1.ft.fb.fi⟩
    · by_cases c : n < gb
      · rw [cl_p h c]
        obtain ⟨q1, q2, q3, q4⟩ := ih (n + 1) _ (by omega) (by rw [e8]; omega) a1 b1 d1 t1
        exact ⟨q1, q2, q3, f1.ft.fb.fi.tr q4⟩
      · by_cases w : (k_gs 601 σ).2.2.2.2 200 q (ce (k_gs 601 σ).2) ≤ nI ((k_gs 601 σ).2.2.2.1 703 0 2)
        · rw [cl_g h c w]
          obtain ⟨a2, b2, d2, t2⟩ := go_inv (q := q) a1 b1 d1 t1
          obtain ⟨q1, q2, q3, q4⟩ := ih (n + 1) _ (by omega) (by rw [go_s, e8]; omega) a2 b2 d2 t2
          exact ⟨q1, q2, q3, (f1.ft.fb.fi.tr fi_go).tr q4⟩
        · cases hl : lowT (k_gs 601 σ).2 with
          | none =>
            rw [cl_n h c w hl]
            exact ⟨a1, t1, by show (k_gs 601 σ).2.1 208 q ≤ 6601; omega, f1.ft.fb.fi⟩
          | some i =>
            rw [cl_c h c w hl]
            obtain ⟨-, hi, hlf⟩ := fnd_some _ _ hl
            obtain ⟨a2, b2, d2, t2⟩ := cut_inv (q := q) a1 b1 d1 t1 hlf
            obtain ⟨a3, b3, d3, t3⟩ := go_inv (q := q) a2 b2 d2 t2
            obtain ⟨q1, q2, q3, q4⟩ := ih (n + 1) _ (by omega) (by rw [go_s, cut_1 (by decide) (by decide) (by decide), e8]; omega) a3 b3 d3 t3
            exact ⟨q1, q2, q3, ((f1.ft.fb.fi.tr fi_cut).tr fi_go).tr q4⟩
theorem ice_inv {q : Nat} {σ : St} (h : KR σ) (hT : TI σ) (hv : ix (σ.2.1 207 q) (σ.1 1002 6)) (hg : σ.1 208 q ≤ 6601) : KR (k_ice q σ).2 ∧ TI (k_ice q σ).2 ∧ (k_ice q σ).2.1 208 q ≤ 6601 ∧ FI q σ (k_ice q σ).2 ∧ nd (k_ice q σ).2 = 0 := by
  obtain ⟨a, b, d, f⟩ := beg_inv h.1 hv h.2.1 h.2.2.1 h.2.2.2
  obtain ⟨q1, q2, q3, q4⟩ := cl_inv (q := q) hg 6601 0 (k_beg (σ.2.1 207 q) σ) rfl (by rw [(f.1 208 q (by omega) (by omega) (by omega)).1]; omega) a b d (ti_fb hT f)
  have f9 : FI q σ (k_ice q σ).2 := f.fi.tr q4
  refine ⟨⟨q1.1, q1.2.2.2.1, q1.2.2.2.2, pk_eq9 h.2.2.2 (f9.1 1002 6 (by omega) (by omega) (by omega) (by decide) (by decide) (by decide) (by omega)) (fun j => f9.1 402 j (by omega) (by omega) (by omega) (by decide) (by decide) (by decide) (by omega)) (f9.2.2.2 400 (by decide) (by decide) (by omega)) (f9.2.2.2 401 (by decide) (by decide) (by omega))⟩, q2, q3, f9, if_neg q1.2.2.1⟩
theorem fi_dom {q : Nat} {σ σ' : St} (h : FI q σ σ') {F k : Nat} (hF : F ≠ 1001) (hd : cdom σ F k) : cdom σ' F k := cdom_1001 (fun j _ h7 => h.1 1002 j (by omega) (by omega) (by omega) (by decide) (by decide) (by decide) (by omega)) hF hd
theorem qp_fi {q : Nat} {σ σ' : St} (h : QP σ) (hF : FI q σ σ') (hg : σ'.1 208 q ≤ 6601) : QP σ' := fun i hi => by
  rw [hF.1 1002 2 (by omega) (by omega) (by omega) (by decide) (by decide) (by decide) (by omega)] at hi
  have hA := hF.2.2.1 1001 2 (by decide) (by decide) (by decide) (by omega)
  rw [hF.1 1002 6 (by omega) (by omega) (by omega) (by decide) (by decide) (by decide) (by omega), hA, hF.2.1 207 _ (by omega) (by omega) (by omega)]
  refine ⟨(h i hi).1, ?_⟩
  by_cases c : σ.2.2.1 1001 2 i = q
  · rw [c]; exact hg
  · rw [hF.1 208 _ (by omega) (by omega) (by omega) (by decide) (by decide) (by decide) (fun z => c z.2)]
    exact (h i hi).2
def k_nx (σ : St) : St := lrem 2 0 (wI σ 206 (σ.2.2.1 1001 2 0) (nI 2))
def k_ni : Nat → Nat → St → Int32 × St
  | 0, d, σ => (nI d, σ)
  | m + 1, d, σ => if σ.1 1002 2 = 0 then (nI d, σ) else if (k_ice (σ.2.2.1 1001 2 0) σ).1 = 0 then (nI d, (k_ice (σ.2.2.1 1001 2 0) σ).2) else k_ni m (d + 1) (k_nx (k_ice (σ.2.2.1 1001 2 0) σ).2)
theorem nx_inv {σ : St} (h : KR σ) (hT : TI σ) (hQ : QP σ) : KR (k_nx σ) ∧ TI (k_nx σ) ∧ QP (k_nx σ) ∧ nd (k_nx σ) = nd σ ∧ (∀ F k, F ≠ 1001 → cdom σ F k → cdom (k_nx σ) F k) := by
  have e2 : ∀ j, j ≠ 2 → (k_nx σ).1 1002 j = σ.1 1002 j := fun j hj => by simp [k_nx, lrem, wI, up2, up1, hj]
  have eN : (k_nx σ).1 1002 2 = σ.1 1002 2 - 1 := by simp [k_nx, lrem, wI, up2, up1]
  have eo : ∀ F k, F ≠ 1002 → (k_nx σ).1 F k = σ.1 F k := fun F k hF => by simp [k_nx, lrem, wI, up2, hF]
  have eA : ∀ F k, ¬ (F = 1001 ∧ k = 2) → (k_nx σ).2.2.1 F k = σ.2.2.1 F k := fun F k hF => (lrem_off 2 0 (fun _ _ => 0) (wI σ 206 (σ.2.2.1 1001 2 0) (nI 2))).2.1 F k hF |>.1
  have eA2 : (k_nx σ).2.2.1 1001 2 = fun i => σ.2.2.1 1001 2 (i + 1) := by
    have := lrem_A 2 0 (wI σ 206 (σ.2.2.1 1001 2 0) (nI 2))
    show (lrem 2 0 (wI σ 206 (σ.2.2.1 1001 2 0) (nI 2))).2.2.1 1001 2 = _
    rw [this]
    funext i
    rw [if_neg (Nat.not_lt_zero _)]
    rfl
  refine ⟨⟨⟨fun j hj => ?_, fun j hj i hi => ?_⟩, fun k => by rw [eo 402 k (by decide)]; exact h.2.1 k, fun k => by rw [eA 702 0 (by omega)]; exact h.2.2.1 k, pk_eq9 h.2.2.2 (e2 6 (by decide)) (fun j => eo 402 j (by decide)) rfl rfl⟩, ⟨fun k => by rw [eo 504 k (by decide), eo 502 k (by decide)]; exact hT.1 k, fun k => by rw [eo 502 k (by decide)]; exact hT.2.1 k, by rw [eo 812 0 (by decide)]; exact hT.2.2⟩, fun i hi => ?_, ?_, fun F k hF hd => cdom_1001 (fun j h2 _ => e2 j h2) hF hd⟩
  · obtain ⟨a, b, d⟩ := h.1.1 j hj
    rw [eo 1003 j (by decide)]
    refine ⟨?_, b, d⟩
    by_cases c : j = 2
    · rw [c] at a ⊢
      rw [eN]; omega
    · rw [e2 j c]; exact a
  · have hlj : lj j ≠ 2 := by
      rcases (by omega : j = 0 ∨ j = 1 ∨ j = 2 ∨ j = 3 ∨ j = 4 ∨ j = 5 ∨ j = 6 ∨ j = 7) with rfl | rfl | rfl | rfl | rfl | rfl | rfl | rfl <;> decide
    rw [e2 _ hlj]
    by_cases c : j = 2
    · subst c
      rw [eN] at hi
      rw [eA2]
      exact h.1.2 2 (by decide) (i + 1) (by omega)
    · rw [e2 j c] at hi
      rw [eA 1001 j (fun z => c z.2)]
      exact h.1.2 j hj i hi
  · rw [eN] at hi
    rw [eA2, e2 6 (by decide)]
    have e7 : ∀ k, (k_nx σ).2.1 207 k = σ.2.1 207 k := fun k => by simp [k_nx, lrem, wI, up2]
    rw [eo 208 _ (by decide), e7]
    exact hQ (i + 1) (by omega)
  · unfold nd
    rw [eo 1003 7 (by decide)]
