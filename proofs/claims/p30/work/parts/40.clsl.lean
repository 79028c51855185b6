/-! Trial.run: the pure function, and what stays -/
def PK (σ : St) : Prop := ∀ q, q < σ.1 1002 6 → ∀ i, i < σ.1 402 q → σ.2.2.2 400 q i = nI 5 → ix (σ.2.2.2 401 q i) 4
def WK (σ : St) : Prop := (σ.2.1 709 0 = (-1) ∨ ix (σ.2.1 709 0) 4) ∧ PK σ
/-- all but the walk's and the trial's fields, and the list 7 whole, is as it was -/
def FB (σ σ' : St) : Prop := (∀ F k, ¬ (602 ≤ F ∧ F ≤ 604) → ¬ (704 ≤ F ∧ F ≤ 710) → ¬ ((F = 1000 ∨ F = 1001 ∨ F = 1002 ∨ F = 1003) ∧ k = 7) → σ'.1 F k = σ.1 F k ∧ σ'.2.1 F k = σ.2.1 F k) ∧ (∀ F k, F ≠ 702 → F ≠ 703 → F ≠ 601 → ¬ (F = 1001 ∧ k = 7) → σ'.2.2.1 F k = σ.2.2.1 F k) ∧ ∀ F k, F ≠ 600 → σ'.2.2.2 F k = σ.2.2.2 F k
theorem FT.fb {σ σ' : St} (h : FT σ σ') : FB σ σ' := ⟨fun F k a b c => h.1 F k a b (fun z => c (by omega)), h.2.1, h.2.2⟩
theorem FB.rf {σ : St} : FB σ σ := FT.rf.fb
theorem FB.tr {σ σ1 σ2 : St} (h : FB σ σ1) (g : FB σ1 σ2) : FB σ σ2 := ⟨fun F k a b c => ⟨(g.1 F k a b c).1.trans (h.1 F k a b c).1, (g.1 F k a b c).2.trans (h.1 F k a b c).2⟩, fun F k a b d e => (g.2.1 F k a b d e).trans (h.2.1 F k a b d e), fun F k a => (g.2.2 F k a).trans (h.2.2 F k a)⟩
theorem cdom_1001 {σ σ' : St} (h2 : ∀ j, j ≠ 2 → j ≠ 7 → σ'.1 1002 j = σ.1 1002 j) {F k : Nat} (hF : F ≠ 1001) (h : cdom σ F k) : cdom σ' F k := by
  rcases h with h | h | ⟨h, -⟩ | ⟨a, b, c⟩
  · exact Or.inl h
  · exact Or.inr (Or.inl h)
  · exact absurd h hF
  · exact Or.inr (Or.inr (Or.inr ⟨a, b, by rw [h2 _ (cj_ne _).1 (cj_ne _).2]; exact c⟩))
theorem FB.dom {σ σ' : St} (h : FB σ σ') {F k : Nat} (hF : F ≠ 1001) (hd : cdom σ F k) : cdom σ' F k := cdom_1001 (fun j _ h7 => (h.1 1002 j (by omega) (by omega) (by omega)).1) hF hd
theorem ci_ofB {σ σ' : St} (h : CI σ) (hF : FB σ σ') (h7 : σ'.1 1002 7 ≤ σ'.1 1003 7 ∧ σ'.1 1003 7 < 50000 ∧ (σ'.1 1003 7 = 0 ∨ 10 ≤ σ'.1 1003 7)) (hA : ∀ i, i < σ'.1 1002 7 → σ'.2.2.1 1001 7 i < σ.1 1002 6) : CI σ' := by
  have e2 : ∀ j, j ≠ 7 → σ'.1 1002 j = σ.1 1002 j := fun j e => (hF.1 1002 j (by omega) (by omega) (by omega)).1
  have e3 : ∀ j, j ≠ 7 → σ'.1 1003 j = σ.1 1003 j := fun j e => (hF.1 1003 j (by omega) (by omega) (by omega)).1
  refine ⟨fun j hj => ?_, fun j hj i hi => ?_⟩
  · by_cases e : j = 7
    · subst e; exact h7
    · rw [e2 j e, e3 j e]; exact h.1 j hj
  · by_cases e : j = 7
    · subst e
      rw [e2 (lj 7) (by decide)]
      exact hA i hi
    · rw [e2 j e] at hi
      rw [e2 _ (lj_ne j hj), hF.2.1 1001 j (by decide) (by decide) (by decide) (fun z => e z.2)]
      exact h.2 j hj i hi
theorem pk_ofB {σ σ' : St} (h : PK σ) (hF : FB σ σ') : PK σ' := fun q hq i hi => by
  rw [(hF.1 1002 6 (by omega) (by omega) (by omega)).1] at hq
  rw [(hF.1 402 q (by omega) (by omega) (by omega)).1] at hi
  rw [hF.2.2 400 q (by decide), hF.2.2 401 q (by decide)]
  exact h q hq i hi
theorem ws_eq {σ σ' : St} (w : WS σ) (e6 : σ'.1 706 0 = σ.1 706 0) (e4 : σ'.1 704 0 = σ.1 704 0) (e5 : σ'.1 705 0 = σ.1 705 0) (e3 : σ'.2.2.1 703 0 = σ.2.2.1 703 0) : WS σ' := by
  unfold WS
  rw [e6, e4, e5, e3]
  exact w
theorem lv_709 : ∀ (d : Nat) (σ : St), (k_lv d σ).2.1 709 0 = σ.2.1 709 0 := fun d => by
  induction d with
  | zero => exact fun _ => rfl
  | succ d ih =>
    intro σ
    have e : k_lv (d + 1) σ = if σ.2.2.1 702 0 d < σ.1 402 (σ.2.2.1 1001 7 d) then σ else k_lv d (lrem 7 d σ) := rfl
    rw [e]
    split
    · rfl
    · exact (ih _).trans ((lrem_off 7 d (fun _ _ => 0) σ).1 709 0 (fun z => by omega)).2
theorem ent_709 {σ : St} {v : Int32} : (k_ent v σ).2.1 709 0 = σ.2.1 709 0 := by
  unfold k_ent
  split
  · exact ((ladd_off 7 _ 0 (fun _ _ => 0) _).1 709 0 (fun z => by omega)).2
  · rfl
theorem aim_709 {σ : St} {a m : Nat} {v : Int32} : (k_aim a m v σ).2.1 709 0 = σ.2.1 709 0 := by
  unfold k_aim
  generalize (if σ.2.1 708 0 = 0 then v else nI (σ.2.2.1 703 0 a) + v) = t
  repeat' split
  all_goals simp [wI, wN, up2]
theorem wv_709 {σ : St} {w v : Int32} (h : σ.2.1 709 0 = (-1) ∨ ix (σ.2.1 709 0) 4) (h5 : w = nI 5 → ix v 4) : (k_wv w v σ).2.1 709 0 = (-1) ∨ ix ((k_wv w v σ).2.1 709 0) 4 := by
  unfold k_wv
  by_cases c5 : w = nI 5
  · subst c5
    rw [if_neg (by decide), if_neg (by decide), if_neg (by decide), if_neg (by decide), if_neg (by decide), if_pos rfl]
    unfold k_chg
    split
    · have : (wI σ 709 0 v).2.1 709 0 = v := by simp [wI, up2, up1]
      rw [this]
      exact Or.inr (h5 rfl)
    · have : (wI σ 710 0 (nI 2)).2.1 709 0 = σ.2.1 709 0 := by simp [wI, up2]
      rw [this]
      exact h
  · rw [if_neg c5]
    repeat' split
    · have : ∀ x, (wI σ 707 0 x).2.1 709 0 = σ.2.1 709 0 := fun x => by simp [wI, up2]
      rw [this]; exact h
    · have : ∀ x, (wI σ 708 0 x).2.1 709 0 = σ.2.1 709 0 := fun x => by simp [wI, up2]
      rw [this]; exact h
    · rw [aim_709]; exact h
    · rw [aim_709]; exact h
    · rw [aim_709]; exact h
    · rw [ent_709]; exact h
    · exact h
theorem wk_obey {σ : St} {k : Nat} (hL : WL σ) (h : WK σ) (hk : k < σ.1 1002 7) (hn : σ.2.2.1 702 0 k < σ.1 402 (σ.2.2.1 1001 7 k)) : WK (k_obey k σ) := by
  refine ⟨?_, pk_ofB h.2 (fw_obey (wl_c7 hL)).ft.fb⟩
  unfold k_obey
  split
  · have : (wI σ 710 0 (nI 4)).2.1 709 0 = σ.2.1 709 0 := by simp [wI, up2]
    rw [this]; exact h.1
  · exact wv_709 (σ := wA (wN σ 706 0 (σ.1 706 0 + 1)) 702 0 k (σ.2.2.1 702 0 k + 1)) h.1 (fun z => h.2 _ (hL.1.2 7 (by decide) k hk) _ hn z)
theorem lv_top2 {σ : St} (h : WL σ) (c : ¬ (k_lv (σ.1 1002 7) σ).1 1002 7 = 0) : (k_lv (σ.1 1002 7) σ).2.2.1 702 0 ((k_lv (σ.1 1002 7) σ).1 1002 7 - 1) < (k_lv (σ.1 1002 7) σ).1 402 ((k_lv (σ.1 1002 7) σ).2.2.1 1001 7 ((k_lv (σ.1 1002 7) σ).1 1002 7 - 1)) := by
  obtain ⟨h1, h2, h3, h4⟩ := lv_facts _ σ rfl
  rw [h3, h2 _ (by omega), ((fw_lv (σ := σ) (σ.1 1002 7)).1 402 _ (by omega) (by omega)).1]
  exact h4 c
theorem ws_mv {σ : St} (w : WS σ) (hne : ¬ σ.2.2.1 703 0 (σ.1 704 0) = σ.1 705 0) : WS (k_mv σ) := by
  obtain ⟨w6, w4, w5, w3⟩ := w
  refine ⟨w6, w4, w5, fun a ha => ?_⟩
  have e : (k_mv σ).2.2.1 703 0 = up1 (σ.2.2.1 703 0) (σ.1 704 0) (if σ.2.2.1 703 0 (σ.1 704 0) < σ.1 705 0 then σ.2.2.1 703 0 (σ.1 704 0) + 1 else σ.2.2.1 703 0 (σ.1 704 0) - 1) := by simp [k_mv, wA, up3, up2, up1]
  rw [e]
  unfold up1
  split
  · rename_i c
    subst c
    have := w3 _ ha
    split <;> omega
  · exact w3 a ha
theorem wl_mv {σ : St} (h : WL σ) : WL (k_mv σ) := wl_sm h fw_mv rfl (by simp [k_mv, wA, up3]) (by
  have e : (k_mv σ).2.2.1 702 0 = σ.2.2.1 702 0 := by simp [k_mv, wA, up3]
  rw [e]; exact h.2.2.2.2)
theorem gs_inv : ∀ (f : Nat) (σ : St), WL σ → WS σ → WK σ → WL (k_gs f σ).2 ∧ WS (k_gs f σ).2 ∧ WK (k_gs f σ).2 ∧ FW σ (k_gs f σ).2 := fun f => by
  induction f with
  | zero => exact fun σ a b d => ⟨a, b, d, FW.rf⟩
  | succ f ih =>
    intro σ a b d
    by_cases h : σ.2.1 710 0 = 0
    · by_cases g : σ.2.2.1 703 0 (σ.1 704 0) = σ.1 705 0
      · have a1 := wl_lv a
        have b1 := ws_lv (σ.1 1002 7) b
        have d1 : WK (k_lv (σ.1 1002 7) σ) := ⟨by rw [lv_709]; exact d.1, pk_ofB d.2 (fw_lv _).ft.fb⟩
        by_cases c : (k_lv (σ.1 1002 7) σ).1 1002 7 = 0
        · rw [gs_e h g c]
          exact ⟨a1, b1, d1, fw_lv _⟩
        · rw [gs_r h g c]
          obtain ⟨q1, q2, q3, q4⟩ := ih _ (wl_obey a1 (lv_top a c)) (ws_obey b1) (wk_obey a1 d1 (by omega) (lv_top2 a c))
          exact ⟨q1, q2, q3, ((fw_lv _).tr (fw_obey (wl_c7 a1))).tr q4⟩
      · rw [gs_s h g]
        exact ⟨wl_mv a, ws_mv b g, ⟨d.1, pk_ofB d.2 fw_mv.ft.fb⟩, fw_mv⟩
    · rw [gs_w h]
      exact ⟨a, b, d, FW.rf⟩
def ce (σ : St) : Nat := σ.2.2.1 703 0 1 * 12 + σ.2.2.1 703 0 0
abbrev k_cr (p : Nat) (σ : St) : Prop := ¬ σ.2.2.2 204 p (ce σ) ≤ nI (σ.2.2.1 703 0 2) ∨ (¬ σ.2.2.2 600 0 (ce σ) ≤ nI (σ.2.2.1 703 0 2) ∧ ¬ (¬ σ.2.1 707 0 = 0 ∧ ¬ σ.2.1 709 0 = (-1)))
def k_ct (σ : St) : St := if ¬ σ.2.2.2 600 0 (ce σ) ≤ nI (σ.2.2.1 703 0 2) then wB (wA (wN (wN σ 602 0 (σ.1 602 0 + 1)) 603 0 (σ.1 603 0 + 1)) 601 0 (tn (σ.2.1 709 0)) (σ.2.2.1 601 0 (tn (σ.2.1 709 0)) + 1)) 600 0 (ce σ) (nI (σ.2.2.1 703 0 2)) else wN σ 602 0 (σ.1 602 0 + 1)
def k_rl (p g : Nat) : Nat → Nat → St → St
  | 0, _, σ => wI σ 604 0 (σ.2.1 710 0)
  | f + 1, n, σ => if (k_gs 601 σ).1 = 0 then wI (k_gs 601 σ).2 604 0 ((k_gs 601 σ).2.2.1 710 0) else if n < g then k_rl p g f (n + 1) (k_gs 601 σ).2 else if k_cr p (k_gs 601 σ).2 then wI (k_gs 601 σ).2 604 0 (nI 3) else k_rl p g f (n + 1) (k_ct (k_gs 601 σ).2)
theorem rl_e {p g f n : Nat} {σ : St} (h : (k_gs 601 σ).1 = 0) : k_rl p g (f + 1) n σ = wI (k_gs 601 σ).2 604 0 ((k_gs 601 σ).2.2.1 710 0) := if_pos h
theorem rl_p {p g f n : Nat} {σ : St} (h : ¬ (k_gs 601 σ).1 = 0) (h1 : n < g) : k_rl p g (f + 1) n σ = k_rl p g f (n + 1) (k_gs 601 σ).2 := (if_neg h).trans (if_pos h1)
theorem rl_c {p g f n : Nat} {σ : St} (h : ¬ (k_gs 601 σ).1 = 0) (h1 : ¬ n < g) (h2 : k_cr p (k_gs 601 σ).2) : k_rl p g (f + 1) n σ = wI (k_gs 601 σ).2 604 0 (nI 3) := (if_neg h).trans ((if_neg h1).trans (if_pos h2))
theorem rl_r {p g f n : Nat} {σ : St} (h : ¬ (k_gs 601 σ).1 = 0) (h1 : ¬ n < g) (h2 : ¬ k_cr p (k_gs 601 σ).2) : k_rl p g (f + 1) n σ = k_rl p g f (n + 1) (k_ct (k_gs 601 σ).2) := (if_neg h).trans ((if_neg h1).trans (if_neg h2))
def k_rs (p : Nat) (σ : St) : St := wN (wN (m_fillA 601 0 0 4 (wR σ 600 0 (fun i => if i < 144 then σ.2.2.2 200 p i else σ.2.2.2 600 0 i))) 602 0 0) 603 0 0
def k_run (p : Nat) (v : Int32) (g : Nat) (σ : St) : St := k_rl p g 6601 0 (k_beg v (k_rs p σ))
theorem ft_ct {σ : St} : FT σ (k_ct σ) := by
  unfold k_ct
  split
  · exact (((ft_wN ⟨by decide, by decide⟩).tr (ft_wN ⟨by decide, by decide⟩)).tr ft_wA).tr ft_wB
  · exact ft_wN ⟨by decide, by decide⟩
theorem ct_inv {σ : St} (a : WL σ) (b : WS σ) (d : WK σ) : WL (k_ct σ) ∧ WS (k_ct σ) ∧ WK (k_ct σ) := by
  have e7 : (k_ct σ).1 1002 7 = σ.1 1002 7 := by unfold k_ct; split <;> simp [wA, wN, wI, wB, up3, up2, up1]
  have eA : (k_ct σ).2.2.1 1001 7 = σ.2.2.1 1001 7 := by unfold k_ct; split <;> simp [wA, wN, wI, wB, up3, up2, up1]
  have e2 : (k_ct σ).2.2.1 702 0 = σ.2.2.1 702 0 := by unfold k_ct; split <;> simp [wA, wN, wI, wB, up3, up2, up1]
  have e6 : (k_ct σ).1 706 0 = σ.1 706 0 := by unfold k_ct; split <;> simp [wA, wN, wI, wB, up3, up2, up1]
  have e4 : (k_ct σ).1 704 0 = σ.1 704 0 := by unfold k_ct; split <;> simp [wA, wN, wI, wB, up3, up2, up1]
  have e5 : (k_ct σ).1 705 0 = σ.1 705 0 := by unfold k_ct; split <;> simp [wA, wN, wI, wB, up3, up2, up1]
  have e3 : (k_ct σ).2.2.1 703 0 = σ.2.2.1 703 0 := by unfold k_ct; split <;> simp [wA, wN, wI, wB, up3, up2, up1]
  have e9 : (k_ct σ).2.1 709 0 = σ.2.1 709 0 := by unfold k_ct; split <;> simp [wA, wN, wI, wB, up3, up2, up1]
  exact ⟨wl_smT a ft_ct e7 eA e2, ws_eq b e6 e4 e5 e3, by rw [e9]; exact d.1, pk_ofB d.2 ft_ct.fb⟩
theorem fillA_ft : ∀ (n : Nat) {σ : St} {v : Nat}, FT σ (m_fillA 601 0 v n σ) := fun n => by
  induction n with
  | zero => exact FT.rf
  | succ n ih => exact ih.tr ft_wA
theorem fillA_N : ∀ (n : Nat) {σ : St} {F k v : Nat}, (m_fillA F k v n σ).1 = σ.1 := fun n => by
  induction n with
  | zero => exact rfl
  | succ n ih => exact ih
theorem ft_rs {p : Nat} {σ : St} : FT σ (k_rs p σ) := (((show FT σ (wR σ 600 0 _) from ⟨fun _ _ _ _ _ => ⟨rfl, rfl⟩, fun _ _ _ _ _ _ => rfl, fun F k c => by show up2 _ _ _ _ _ _ = _; exact up2_n (fun z => c z.1)⟩).tr (fillA_ft 4)).tr (ft_wN ⟨by decide, by decide⟩)).tr (ft_wN ⟨by decide, by decide⟩)
theorem rs_7 {p : Nat} {σ : St} : (k_rs p σ).1 1002 7 = σ.1 1002 7 ∧ (k_rs p σ).2.2.1 702 = σ.2.2.1 702 ∧ (k_rs p σ).2.2.1 1001 7 = σ.2.2.1 1001 7 := by
  refine ⟨?_, ?_, ?_⟩
  · simp [k_rs, wN, up2, fillA_N, wR]
  · simp [k_rs, m_fillA, wN, wA, wR, up2, up3]
  · simp [k_rs, m_fillA, wN, wA, wR, up2, up3]
theorem ci_rs {p : Nat} {σ : St} (h : CI σ) : CI (k_rs p σ) := by
  obtain ⟨a, b, d⟩ := rs_7 (p := p) (σ := σ)
  have h3 : (k_rs p σ).1 1003 7 = σ.1 1003 7 := (ft_rs.1 1003 7 (by omega) (by omega) (by omega)).1
  refine ci_ofB h ft_rs.fb (by rw [a, h3]; exact h.1 7 (by decide)) (fun i hi => ?_)
  rw [d]
  exact h.2 7 (by decide) i (by rw [← a]; exact hi)
theorem beg_inv {σ : St} {v : Int32} (hI : CI σ) (hv : ix v (σ.1 1002 6)) (h4 : ∀ k, σ.1 402 k ≤ 30) (h7 : ∀ k, σ.2.2.1 702 0 k ≤ 30) (hP : PK σ) : WL (k_beg v σ) ∧ WS (k_beg v σ) ∧ WK (k_beg v σ) ∧ FB σ (k_beg v σ) := by
  unfold k_beg
  generalize hσ1 : wI (wI (wI (wI (wN (wN (wN (wA (wA (wA (lclr 7 σ) 703 0 0 0) 703 0 1 0) 703 0 2 9) 704 0 0) 705 0 0) 706 0 0) 707 0 (nI 0)) 708 0 (nI 0)) 709 0 (-1)) 710 0 (nI 0) = σ1
  have hF1 : FB σ σ1 := by
    rw [← hσ1]
    exact ((((((((((fw_lclr.tr (fw_wA (Or.inr rfl))).tr (fw_wA (Or.inr rfl))).tr (fw_wA (Or.inr rfl))).tr (fw_wN ⟨by decide, by decide⟩)).tr (fw_wN ⟨by decide, by decide⟩)).tr (fw_wN ⟨by decide, by decide⟩)).tr (fw_wI ⟨by decide, by decide⟩)).tr (fw_wI ⟨by decide, by decide⟩)).tr (fw_wI ⟨by decide, by decide⟩)).tr (fw_wI ⟨by decide, by decide⟩)).ft.fb
  have hI1 : CI σ1 := by rw [← hσ1]; exact ci_clr hI
  have e0 : σ1.1 1002 7 = 0 := by rw [← hσ1]; simp [lclr, wA, wN, wI, up2, up1]
  have eC : σ1.1 1003 7 = σ.1 1003 7 := by rw [← hσ1]; simp [lclr, wA, wN, wI, up2, up1]
  have e2 : σ1.2.2.1 702 0 = σ.2.2.1 702 0 := by rw [← hσ1]; simp [lclr, wA, wN, wI, up2, up1, up3]
  have w6 : σ1.1 706 0 = 0 := by rw [← hσ1]; simp [lclr, wA, wN, wI, up2, up1]
  have w4 : σ1.1 704 0 = 0 := by rw [← hσ1]; simp [lclr, wA, wN, wI, up2, up1]
  have w5 : σ1.1 705 0 = 0 := by rw [← hσ1]; simp [lclr, wA, wN, wI, up2, up1]
  have w9 : σ1.2.1 709 0 = (-1) := by rw [← hσ1]; simp [lclr, wA, wN, wI, up2, up1]
  have w3 : ∀ a, a < 3 → σ1.2.2.1 703 0 a ≤ gmx a := fun a ha => by
    rw [← hσ1]
    rcases (by omega : a = 0 ∨ a = 1 ∨ a = 2) with rfl | rfl | rfl <;> simp [lclr, wA, wN, wI, up2, up1, up3, gmx]
  have w : WS σ1 := ⟨by omega, by omega, by rw [w5]; exact Nat.zero_le _, w3⟩
  have e6 : σ1.1 1002 6 = σ.1 1002 6 := (hF1.1 1002 6 (by omega) (by omega) (by omega)).1
  have e : k_ent v σ1 = ladd 7 (σ1.2.2.1 1001 6 (tn v)) (wA σ1 702 0 (σ1.1 1002 7) 0) := if_pos ⟨by rw [e6]; exact hv, by rw [e0]; decide⟩
  have hFe : FB σ1 (k_ent v σ1) := by
    rw [e]
    refine FB.tr (fw_wA (Or.inl rfl)).ft.fb ⟨fun F k _ _ c => (ladd_off 7 (σ1.2.2.1 1001 6 (tn v)) 0 (fun _ _ => 0) _).1 F k (by omega), fun F k _ _ _ d => ((ladd_off 7 (σ1.2.2.1 1001 6 (tn v)) 0 (fun _ _ => 0) _).2.1 F k d).1, fun _ _ _ => rfl⟩
  have hFB := hF1.tr hFe
  have eN : (k_ent v σ1).1 1002 7 = 1 := by
    rw [e, ladd_N]
    show σ1.1 1002 7 + 1 = 1
    rw [e0]
  have eC2 : (k_ent v σ1).1 1003 7 = lcap 0 (σ.1 1003 7) := by
    rw [e, ladd_C]
    show lcap (σ1.1 1002 7) (σ1.1 1003 7) = _
    rw [e0, eC]
  have hc7 := hI.1 7 (by decide)
  have hcap : 10 ≤ (k_ent v σ1).1 1003 7 ∧ (k_ent v σ1).1 1003 7 < 50000 := by
    rw [eC2]
    unfold lcap
    split
    · rename_i z
      rw [if_pos z.symm]
      exact ⟨by decide, by decide⟩
    · omega
  have hA : ∀ i, i < (k_ent v σ1).1 1002 7 → (k_ent v σ1).2.2.1 1001 7 i < σ.1 1002 6 := fun i hi => by
    have : i = 0 := by omega
    subst this
    rw [e, ladd_A]
    show up1 _ (σ1.1 1002 7) _ 0 < _
    rw [e0, up1_s, ← e6]
    exact hI1.2 6 (by decide) _ (ix_lt (by rw [e6]; exact hv))
  have h702 : ∀ k, (k_ent v σ1).2.2.1 702 0 k ≤ 30 := fun k => by
    have : (k_ent v σ1).2.2.1 702 0 = up1 (σ1.2.2.1 702 0) (σ1.1 1002 7) 0 := by
      rw [e]
      exact (((ladd_off 7 _ 0 (fun _ _ => 0) (wA σ1 702 0 (σ1.1 1002 7) 0)).2.1 702 0 (fun z => by omega)).1).trans (by simp [wA, up3, up2, up1])
    rw [this, e2]
    exact up1_le h7 (Nat.zero_le _) k
  refine ⟨⟨ci_ofB hI hFB ⟨by omega, hcap.2, Or.inr hcap.1⟩ hA, by omega, by omega, fun k => by rw [(hFB.1 402 k (by omega) (by omega) (by omega)).1]; exact h4 k, h702⟩, ws_ent w, ⟨?_, pk_ofB hP hFB⟩, hFB⟩
  rw [ent_709, w9]
  exact Or.inl rfl
theorem rl_inv {p g : Nat} : ∀ (f n : Nat) (σ : St), WL σ → WS σ → WK σ → WL (k_rl p g f n σ) ∧ FT σ (k_rl p g f n σ) := fun f => by
  have hw : ∀ {σ : St} {v : Int32}, WL σ → WL (wI σ 604 0 v) ∧ FT σ (wI σ 604 0 v) := fun h => ⟨h, ft_wI ⟨by decide, by decide⟩⟩
  induction f with
  | zero => exact fun n σ a _ _ => hw a
  | succ f ih =>
    intro n σ a b d
    obtain ⟨a1, b1, d1, f1⟩ := gs_inv 601 σ a b d
    by_cases h : (k_gs 601 σ).1 = 0
    · rw [rl_e h]
      exact ⟨(hw a1).1, f1.ft.tr (hw a1).2⟩
    · by_cases h1 : n < g
      · rw [rl_p h h1]
        obtain ⟨q1, q2⟩ := ih (n + 1) _ a1 b1 d1
        exact ⟨q1, f1.ft.tr q2⟩
      · by_cases h2 : k_cr p (k_gs 601 σ).2
        · rw [rl_c h h1 h2]
          exact ⟨(hw a1).1, f1.ft.tr (hw a1).2⟩
        · rw [rl_r h h1 h2]
          obtain ⟨a2, b2, d2⟩ := ct_inv a1 b1 d1
          obtain ⟨q1, q2⟩ := ih (n + 1) _ a2 b2 d2
          exact ⟨q1, (f1.ft.tr ft_ct).tr q2⟩
theorem run_inv {σ : St} {p g : Nat} {v : Int32} (hI : CI σ) (hv : ix v (σ.1 1002 6)) (h4 : ∀ k, σ.1 402 k ≤ 30) (h7 : ∀ k, σ.2.2.1 702 0 k ≤ 30) (hP : PK σ) : WL (k_run p v g σ) ∧ FB σ (k_run p v g σ) := by
  have hF := ft_rs (p := p) (σ := σ)
  obtain ⟨a, b, d, f⟩ := beg_inv (v := v) (ci_rs (p := p) hI) (by rw [(hF.1 1002 6 (by omega) (by omega) (by omega)).1]; exact hv) (fun k => by rw [(hF.1 402 k (by omega) (by omega) (by omega)).1]; exact h4 k) (fun k => by rw [(rs_7 (p := p) (σ := σ)).2.1]; exact h7 k) (pk_ofB hP hF.fb)
  obtain ⟨q1, q2⟩ := rl_inv (p := p) (g := g) 6601 0 _ a b d
  exact ⟨q1, (hF.fb.tr f).tr q2.fb⟩
