/-! a block, said shortly; what it keeps -/
def h_adv (tp : Nat) (σ : St) : St := wB (wB σ 904 0 7 (nI (tn (σ.2.2.2 904 0 7) + 1))) 904 0 (16 + tp) (nI (pI σ tp + 1))
def h_it (tp : Nat) (σ : St) : Nat := gi σ (pP σ tp) (pI σ tp)
def h_v (tp : Nat) (σ : St) : Int32 := nI (h_it tp σ / 8) - nI 16
def h_cl (tp : Nat) (σ : St) : St := wB (wB (wB (h_adv tp σ) 904 0 12 (nI (tp + 1))) 904 0 (14 + tp) (h_v tp σ)) 904 0 (17 + tp) (nI 0)
def h_bk (kr ku km tp fr : Nat) (t9 : Int32) (σ : St) : Int32 × St := if pI σ tp = gs σ (pP σ tp) then (nI 0, wB σ 904 0 12 (nI tp - nI 1)) else if tn (σ.2.2.2 904 0 7) = 600 then (nI 4, σ) else if h_it tp σ % 8 = 6 then (nI 0, h_cl tp σ) else if h_it tp σ % 8 = 5 then (if 9 ≤ tn (σ.2.2.2 904 0 2) then (nI 0, wB (h_adv tp σ) 904 0 5 (h_v tp σ)) else (nI 2, h_adv tp σ)) else if h_it tp σ % 8 ≤ 1 then (nI 0, wB (h_adv tp σ) 904 0 (3 + h_it tp σ % 8) (h_v tp σ)) else h_move kr ku km fr t9 (h_it tp σ % 8 - 2) (h_v tp σ) (h_adv tp σ)
theorem h_blk_eq {kr ku km tp : Nat} {σ : St} (hg : GI σ) (hk : KI (tp + 1) σ) (fr : Nat) (t9 : Int32) : h_blk kr ku km tp fr t9 σ = h_bk kr ku km tp fr t9 σ := by
  obtain ⟨hP, hPt, hI, hIs⟩ := hk.2.2.1 tp (by omega)
  have bP := ix_lt hP
  unfold h_blk
  show (if ¬ pI σ tp = gs σ (pP σ tp) then (if ¬ tn (σ.2.2.2 904 0 7) = 600 then (if ¬ h_it tp σ % 8 = 6 then (if ¬ h_it tp σ % 8 = 5 then (if h_it tp σ % 8 ≤ 1 then (nI 0, wB (h_adv tp σ) 904 0 (h_ix (h_it tp σ % 8)) (h_v tp σ)) else if 5 ≤ h_it tp σ % 8 then (nI 0, wB (h_adv tp σ) 904 0 (h_ix (h_it tp σ % 8)) (h_v tp σ)) else ((h_move kr ku km fr t9 (h_it tp σ % 8 - 2) (h_v tp σ) (h_adv tp σ)).1, (h_move kr ku km fr t9 (h_it tp σ % 8 - 2) (h_v tp σ) (h_adv tp σ)).2)) else if 9 ≤ tn (σ.2.2.2 904 0 2) then (nI 0, wB (h_adv tp σ) 904 0 (h_ix (h_it tp σ % 8)) (h_v tp σ)) else (nI 2, h_adv tp σ)) else (nI 0, h_cl tp σ)) else (nI 4, σ)) else (nI 0, wB σ 904 0 12 (nI tp - nI 1))) = _
  unfold h_bk
  by_cases c : pI σ tp = gs σ (pP σ tp)
  · rw [if_pos c, if_neg (not_not_intro9 c)]
  · have hW : h_it tp σ % 8 ≤ 6 := ((hg _ bP).2 _ (Nat.lt_of_le_of_ne hIs c)).2.1
    rw [if_neg c, if_pos c]
    by_cases c2 : tn (σ.2.2.2 904 0 7) = 600
    · rw [if_neg (not_not_intro9 c2), if_pos c2]
    · rw [if_pos c2, if_neg c2]
      by_cases c6 : h_it tp σ % 8 = 6
      · rw [if_neg (not_not_intro9 c6), if_pos c6]
      · rw [if_pos c6, if_neg c6]
        by_cases c5 : h_it tp σ % 8 = 5
        · rw [if_neg (not_not_intro9 c5), if_pos c5, c5]
          rfl
        · rw [if_pos c5, if_neg c5]
          by_cases c1 : h_it tp σ % 8 ≤ 1
          · rw [if_pos c1, if_pos c1, show h_ix (h_it tp σ % 8) = 3 + h_it tp σ % 8 from if_pos c5]
          · rw [if_neg c1, if_neg c1, if_neg (by omega)]
theorem KI.eq {d : Nat} {σ σ' : St} (h : KI d σ) (h1 : σ'.2.2.2 901 = σ.2.2.2 901) (h2 : ∀ j, 12 ≤ j → σ'.2.2.2 904 0 j = σ.2.2.2 904 0 j) (h4 : σ'.2.2.2 904 0 4 = σ.2.2.2 904 0 4) : KI d σ' := by
  have eP : ∀ t, pP σ' t = pP σ t := fun t => by unfold pP; rw [h2 _ (by omega)]
  have eI : ∀ t, pI σ' t = pI σ t := fun t => by unfold pI; rw [h2 _ (by omega)]
  obtain ⟨a, b, c, e⟩ := h
  refine ⟨a, by rw [h2 _ (by omega)]; exact b, fun t ht => ?_, fun t ht hn => ?_⟩
  · rw [h2 _ (by omega), h2 _ (by omega), eP, eI, gs_eq h1]
    exact c t ht
  · rw [h4]
    rw [nda_eq h1 (eP t) (eI t)] at hn
    exact e t ht hn
theorem KI_pop {tp : Nat} {σ : St} (h : KI (tp + 1) σ) : KI tp (wB σ 904 0 12 (nI tp - nI 1)) := by
  have h2 : ∀ j, 12 < j → (wB σ 904 0 12 (nI tp - nI 1)).2.2.2 904 0 j = σ.2.2.2 904 0 j := fun j hj => e_ne (by omega)
  have eP : ∀ t, pP (wB σ 904 0 12 (nI tp - nI 1)) t = pP σ t := fun t => by unfold pP; rw [h2 _ (by omega)]
  have eI : ∀ t, pI (wB σ 904 0 12 (nI tp - nI 1)) t = pI σ t := fun t => by unfold pI; rw [h2 _ (by omega)]
  have e1 : (wB σ 904 0 12 (nI tp - nI 1)).2.2.2 901 = σ.2.2.2 901 := rfl
  obtain ⟨a, b, c, e⟩ := h
  refine ⟨by omega, by rw [wB_s, up1_s], fun t ht => ?_, fun t ht hn => ?_⟩
  · rw [h2 _ (by omega), h2 _ (by omega), eP, eI, gs_eq e1]
    exact c t (by omega)
  · rw [nda_eq e1 (eP t) (eI t)] at hn
    have := (e t (by omega) hn).1
    omega
theorem KI_adv {tp : Nat} {σ σ' : St} (h : KI (tp + 1) σ) (hlt : pI σ tp < gs σ (pP σ tp)) (h1 : σ'.2.2.2 901 = σ.2.2.2 901) (hI : σ'.2.2.2 904 0 (16 + tp) = nI (pI σ tp + 1)) (h2 : ∀ j, 12 ≤ j → j ≠ 16 + tp → σ'.2.2.2 904 0 j = σ.2.2.2 904 0 j) (hg : GI σ)
    (hn : ndb (gi σ (pP σ tp)) (gs σ (pP σ tp) - (pI σ tp + 1)) (pI σ tp + 1) = true → σ'.2.2.2 904 0 4 = 0) : KI (tp + 1) σ' := by
  obtain ⟨a, b, c, e⟩ := h
  have c0 := c tp (by omega)
  have bS := ix_lt (hg _ (ix_lt c0.1)).1
  have bS : gs σ (pP σ tp) < 13 := bS
  have eP : ∀ t, t < tp + 1 → pP σ' t = pP σ t := fun t ht => by
    have := (c t ht).2.1
    unfold pP
    rw [h2 _ (by omega) (by omega)]
  have eI : ∀ t, t < tp → pI σ' t = pI σ t := fun t ht => by unfold pI; rw [h2 _ (by omega) (by omega)]
  have eI0 : pI σ' tp = pI σ tp + 1 := by unfold pI; rw [hI, tn_nI (by omega)]; rfl
  refine ⟨a, by rw [h2 _ (by omega) (by omega)]; exact b, fun t ht => ?_, fun t ht hm => ?_⟩
  · have := (c t ht).2.1
    rw [h2 (13 + t) (by omega) (by omega), eP t ht, gs_eq h1]
    by_cases z : t = tp
    · subst z
      rw [eI0, hI]
      exact ⟨c0.1, c0.2.1, (ix_nI (by omega)).mpr (by omega), by omega⟩
    · rw [h2 (16 + t) (by omega) (by omega), eI t (by omega)]
      exact c t ht
  · by_cases z : t = tp
    · subst z
      refine ⟨rfl, hn ?_⟩
      unfold nda at hm
      rw [eP t ht, eI0, gs_eq h1, gi_eq h1] at hm
      exact hm
    · rw [nda_eq h1 (eP t ht) (eI t (by omega))] at hm
      have := (e t ht hm).1
      omega
theorem ndb_st {f : Nat → Nat} {n j : Nat} (h : j < n) : ndb f (n - j) j = if f j % 8 = 1 then false else if f j % 8 = 3 ∨ f j % 8 = 6 then true else ndb f (n - (j + 1)) (j + 1) := by
  rw [show n - j = (n - (j + 1)) + 1 by omega]
  rfl
theorem adv_j {tp j : Nat} {σ : St} (h : j ≠ 7) (h2 : j ≠ 16 + tp) : (h_adv tp σ).2.2.2 904 0 j = σ.2.2.2 904 0 j := by
  unfold h_adv
  rw [e_ne h2, e_ne h]
theorem adv_I {tp : Nat} {σ : St} : (h_adv tp σ).2.2.2 904 0 (16 + tp) = nI (pI σ tp + 1) := by
  unfold h_adv
  rw [wB_s, up1_s]
theorem adv_7 {tp : Nat} {σ : St} : (h_adv tp σ).2.2.2 904 0 7 = nI (tn (σ.2.2.2 904 0 7) + 1) := by
  unfold h_adv
  rw [e_ne (by omega), wB_s, up1_s]
theorem KI_call {tp : Nat} {σ : St} (hg : GI σ) (h : KI (tp + 1) σ) (hlt : pI σ tp < gs σ (pP σ tp)) (hw : h_it tp σ % 8 = 6) : KI (tp + 2) (h_cl tp σ) := by
  have h' := h
  obtain ⟨a, b, c, e⟩ := h'
  have c0 := c tp (by omega)
  have bP := ix_lt c0.1
  have bP : pP σ tp < 3 := bP
  have bS : gs σ (pP σ tp) < 13 := ix_lt (hg _ bP).1
  have hW := ((hg _ bP).2 _ hlt).2
  obtain ⟨w1, w2, w3⟩ := hW.2.1 hw
  have w1 : 16 ≤ h_it tp σ / 8 := w1
  have w2 : h_it tp σ / 8 < 16 + pP σ tp := w2
  have hv : h_v tp σ = nI (h_it tp σ / 8 - 16) := pk_sub w1
  have hE4 : σ.2.2.2 904 0 4 = 0 := (e tp (by omega) (by
    unfold nda
    rw [ndb_st hlt, if_neg (show ¬ gi σ (pP σ tp) (pI σ tp) % 8 = 1 from fun z => by have : h_it tp σ % 8 = 1 := z; omega), if_pos (show gi σ (pP σ tp) (pI σ tp) % 8 = 3 ∨ gi σ (pP σ tp) (pI σ tp) % 8 = 6 from Or.inr hw)])).2
  have hPt : pP σ tp + tp ≤ 2 := c0.2.1
  have hj : ∀ j, 13 ≤ j → j ≠ 16 + tp → j ≠ 14 + tp → j ≠ 17 + tp → (h_cl tp σ).2.2.2 904 0 j = σ.2.2.2 904 0 j := fun j h1 h2 h3 h4 => by
    unfold h_cl
    rw [e_ne h4, e_ne h3, e_ne (by omega), adv_j (by omega) h2]
  have h4' : (h_cl tp σ).2.2.2 904 0 4 = 0 := by
    unfold h_cl
    rw [e_ne (by omega), e_ne (by omega), e_ne (by omega), adv_j (by omega) (by omega)]
    exact hE4
  have hPn : (h_cl tp σ).2.2.2 904 0 (13 + (tp + 1)) = nI (h_it tp σ / 8 - 16) := by
    unfold h_cl
    rw [e_ne (by omega), show 13 + (tp + 1) = 14 + tp by omega, wB_s, up1_s]
    exact hv
  have hIn : (h_cl tp σ).2.2.2 904 0 (16 + (tp + 1)) = nI 0 := by
    unfold h_cl
    rw [show 16 + (tp + 1) = 17 + tp by omega, wB_s, up1_s]
  have hI : (h_cl tp σ).2.2.2 904 0 (16 + tp) = nI (pI σ tp + 1) := by
    unfold h_cl
    rw [e_ne (by omega), e_ne (by omega), e_ne (by omega), adv_I]
  have h12 : (h_cl tp σ).2.2.2 904 0 12 = nI (tp + 1) := by
    unfold h_cl
    rw [e_ne (by omega), e_ne (by omega), wB_s, up1_s]
  have h1 : (h_cl tp σ).2.2.2 901 = σ.2.2.2 901 := rfl
  have eP : ∀ t, t < tp + 1 → pP (h_cl tp σ) t = pP σ t := fun t ht => by
    have := (c t ht).2.1
    unfold pP
    rw [hj _ (by omega) (by omega) (by omega) (by omega)]
  have eI : ∀ t, t < tp → pI (h_cl tp σ) t = pI σ t := fun t ht => by unfold pI; rw [hj _ (by omega) (by omega) (by omega) (by omega)]
  have eI0 : pI (h_cl tp σ) tp = pI σ tp + 1 := by unfold pI; rw [hI, tn_nI (by omega)]; rfl
  have ePn : pP (h_cl tp σ) (tp + 1) = h_it tp σ / 8 - 16 := by unfold pP; rw [hPn, tn_nI (by omega)]
  have eIn : pI (h_cl tp σ) (tp + 1) = 0 := by unfold pI; rw [hIn]; rfl
  refine ⟨by omega, by rw [h12, pk_sub (by omega)]; rfl, fun t ht => ?_, fun t ht hm => ?_⟩
  · by_cases z2 : t = tp + 1
    · subst z2
      rw [hPn, hIn, ePn, eIn]
      exact ⟨(ix_nI (by omega)).mpr (by omega), by omega, (ix_nI (by omega)).mpr (by omega), Nat.zero_le _⟩
    · have ct := c t (by omega)
      have := ct.2.1
      rw [hj (13 + t) (by omega) (by omega) (by omega) (by omega), eP t (by omega), gs_eq h1]
      by_cases z : t = tp
      · subst z
        rw [eI0, hI]
        exact ⟨c0.1, c0.2.1, (ix_nI (by omega)).mpr (by omega), by omega⟩
      · rw [hj (16 + t) (by omega) (by omega) (by omega) (by omega), eI t (by omega)]
        exact ct
  · by_cases z2 : t = tp + 1
    · exact ⟨by omega, h4'⟩
    · exfalso
      by_cases z : t = tp
      · subst z
        unfold nda at hm
        rw [eP t (by omega), eI0, gs_eq h1, gi_eq h1, w3] at hm
        cases hm
      · rw [nda_eq h1 (eP t (by omega)) (eI t (by omega))] at hm
        have := (e t (by omega) hm).1
        omega
theorem blk_all {kr ku km tp fr : Nat} {t9 : Int32} {σ : St} (hs : LI kr ku km σ) (hg : GI σ) (hk : KI (tp + 1) σ) (h6 : ix (σ.2.2.2 904 0 6) 80000) (h7 : ix (σ.2.2.2 904 0 7) 601) (h67 : tn (σ.2.2.2 904 0 6) ≤ 11 * tn (σ.2.2.2 904 0 7)) :
    LI kr ku km (h_bk kr ku km tp fr t9 σ).2 ∧ (h_bk kr ku km tp fr t9 σ).2.2.2.2 901 = σ.2.2.2 901 ∧ ix ((h_bk kr ku km tp fr t9 σ).2.2.2.2 904 0 6) 80000 ∧ ix ((h_bk kr ku km tp fr t9 σ).2.2.2.2 904 0 7) 601 ∧ tn ((h_bk kr ku km tp fr t9 σ).2.2.2.2 904 0 6) ≤ 11 * tn ((h_bk kr ku km tp fr t9 σ).2.2.2.2 904 0 7) ∧
      ((h_bk kr ku km tp fr t9 σ).1 = 0 → ∃ d', KI d' (h_bk kr ku km tp fr t9 σ).2 ∧ 2 * (601 - tn ((h_bk kr ku km tp fr t9 σ).2.2.2.2 904 0 7)) + d' < 2 * (601 - tn (σ.2.2.2 904 0 7)) + (tp + 1)) := by
  have hk' := hk
  obtain ⟨a, b, c, e⟩ := hk'
  obtain ⟨hP, hPt, hI, hIs⟩ := c tp (by omega)
  have bP : pP σ tp < 3 := ix_lt hP
  have b7 := ix_lt h7
  have b6 := ix_lt h6
  unfold h_bk
  by_cases cne : pI σ tp = gs σ (pP σ tp)
  · rw [if_pos cne]
    have e6 : (wB σ 904 0 12 (nI tp - nI 1)).2.2.2 904 0 6 = σ.2.2.2 904 0 6 := e_ne (by omega)
    have e7 : (wB σ 904 0 12 (nI tp - nI 1)).2.2.2 904 0 7 = σ.2.2.2 904 0 7 := e_ne (by omega)
    show LI kr ku km (wB σ 904 0 12 (nI tp - nI 1)) ∧ _ ∧ ix ((wB σ 904 0 12 (nI tp - nI 1)).2.2.2 904 0 6) 80000 ∧ ix ((wB σ 904 0 12 (nI tp - nI 1)).2.2.2 904 0 7) 601 ∧ tn ((wB σ 904 0 12 (nI tp - nI 1)).2.2.2 904 0 6) ≤ 11 * tn ((wB σ 904 0 12 (nI tp - nI 1)).2.2.2 904 0 7) ∧ (_ → ∃ d', KI d' (wB σ 904 0 12 (nI tp - nI 1)) ∧ 2 * (601 - tn ((wB σ 904 0 12 (nI tp - nI 1)).2.2.2 904 0 7)) + d' < _)
    rw [e6, e7]
    exact ⟨LI_e hs (by omega), rfl, h6, h7, h67, fun _ => ⟨tp, KI_pop hk, by omega⟩⟩
  · rw [if_neg cne]
    have hlt : pI σ tp < gs σ (pP σ tp) := Nat.lt_of_le_of_ne hIs cne
    have hWW := ((hg _ bP).2 _ hlt)
    have hW := hWW.2
    obtain ⟨w0, w6, w5, w3, w1⟩ := hW
    have bJ : h_it tp σ < 1000 := ix_lt hWW.1
    have w0 : h_it tp σ % 8 ≤ 6 := w0
    by_cases c2 : tn (σ.2.2.2 904 0 7) = 600
    · rw [if_pos c2]
      exact ⟨hs, rfl, h6, h7, h67, fun z => absurd (show nI 4 = 0 from z) (by decide)⟩
    · rw [if_neg c2]
      have hAL : LI kr ku km (h_adv tp σ) := LI_e (LI_e hs (by omega)) (by omega)
      have hA6 : (h_adv tp σ).2.2.2 904 0 6 = σ.2.2.2 904 0 6 := adv_j (by omega) (by omega)
      have hA7 : (h_adv tp σ).2.2.2 904 0 7 = nI (tn (σ.2.2.2 904 0 7) + 1) := adv_7
      have hA9 : (h_adv tp σ).2.2.2 901 = σ.2.2.2 901 := rfl
      have key : ∀ (r : Int32) (X : St), LI kr ku km X → X.2.2.2 901 = σ.2.2.2 901 → X.2.2.2 904 0 7 = nI (tn (σ.2.2.2 904 0 7) + 1) → ix (X.2.2.2 904 0 6) (tn (σ.2.2.2 904 0 6) + 12) → (r = 0 → ∃ d', KI d' X ∧ d' ≤ tp + 2) →
          LI kr ku km (r, X).2 ∧ (r, X).2.2.2.2 901 = σ.2.2.2 901 ∧ ix ((r, X).2.2.2.2 904 0 6) 80000 ∧ ix ((r, X).2.2.2.2 904 0 7) 601 ∧ tn ((r, X).2.2.2.2 904 0 6) ≤ 11 * tn ((r, X).2.2.2.2 904 0 7) ∧ ((r, X).1 = 0 → ∃ d', KI d' (r, X).2 ∧ 2 * (601 - tn ((r, X).2.2.2.2 904 0 7)) + d' < 2 * (601 - tn (σ.2.2.2 904 0 7)) + (tp + 1)) := fun r X q1 q2 q3 q4 q5 => by
        show LI kr ku km X ∧ X.2.2.2 901 = _ ∧ ix (X.2.2.2 904 0 6) 80000 ∧ ix (X.2.2.2 904 0 7) 601 ∧ tn (X.2.2.2 904 0 6) ≤ 11 * tn (X.2.2.2 904 0 7) ∧ (r = 0 → ∃ d', KI d' X ∧ 2 * (601 - tn (X.2.2.2 904 0 7)) + d' < _)
        have b4 := ix_lt q4
        rw [q3, tn_nI (by omega)]
        refine ⟨q1, q2, ix_up q4 (by omega), (ix_nI (by omega)).mpr (by omega), by omega, fun z => ?_⟩
        obtain ⟨d', k1, k2⟩ := q5 z
        exact ⟨d', k1, by omega⟩
      have ix6 : ∀ {n : Nat}, tn (σ.2.2.2 904 0 6) < n → ix (σ.2.2.2 904 0 6) n := fun {n} hn => by
        obtain ⟨z1, z2⟩ := h6
        refine ⟨z1, ?_⟩
        unfold tn at hn
        omega
      by_cases c6 : h_it tp σ % 8 = 6
      · rw [if_pos c6]
        have q6 : (h_cl tp σ).2.2.2 904 0 6 = σ.2.2.2 904 0 6 := by
          unfold h_cl
          rw [e_ne (by omega), e_ne (by omega), e_ne (by omega), hA6]
        have q7 : (h_cl tp σ).2.2.2 904 0 7 = nI (tn (σ.2.2.2 904 0 7) + 1) := by
          unfold h_cl
          rw [e_ne (by omega), e_ne (by omega), e_ne (by omega), hA7]
        exact key _ _ (LI_e (LI_e (LI_e hAL (by omega)) (by omega)) (by omega)) rfl q7 (by rw [q6]; exact ix6 (by omega)) (fun _ => ⟨tp + 2, KI_call hg hk hlt c6, Nat.le_refl _⟩)
      · rw [if_neg c6]
        by_cases c5 : h_it tp σ % 8 = 5
        · rw [if_pos c5]
          have wv := w5 c5
          have hv : h_v tp σ = nI (h_it tp σ / 8 - 16) := pk_sub wv.1
          split
          · have q6 : (wB (h_adv tp σ) 904 0 5 (h_v tp σ)).2.2.2 904 0 6 = σ.2.2.2 904 0 6 := by rw [e_ne (by omega), hA6]
            have q7 : (wB (h_adv tp σ) 904 0 5 (h_v tp σ)).2.2.2 904 0 7 = nI (tn (σ.2.2.2 904 0 7) + 1) := by rw [e_ne (by omega), hA7]
            refine key _ _ (LI_5 hAL (fun _ => by rw [hv]; exact (ix_nI (by omega)).mpr (by have : h_it tp σ / 8 < 20 := wv.2; omega))) rfl q7 (by rw [q6]; exact ix6 (by omega)) (fun _ => ⟨tp + 1, KI_adv hk hlt rfl (by rw [e_ne (by omega), adv_I]) (fun j h1 h2 => by rw [e_ne (by omega), adv_j (by omega) h2]) hg (fun hn => ?_), by omega⟩)
            rw [e_ne (by omega), adv_j (by omega) (by omega)]
            refine (e tp (by omega) ?_).2
            unfold nda
            rw [ndb_st hlt, if_neg (show ¬ gi σ (pP σ tp) (pI σ tp) % 8 = 1 from fun z => by have : h_it tp σ % 8 = 1 := z; omega), if_neg (show ¬ (gi σ (pP σ tp) (pI σ tp) % 8 = 3 ∨ gi σ (pP σ tp) (pI σ tp) % 8 = 6) from fun z => by have : h_it tp σ % 8 = 3 ∨ h_it tp σ % 8 = 6 := z; omega)]
            exact hn
          · exact key _ _ hAL rfl hA7 (by rw [hA6]; exact ix6 (by omega)) (fun z => absurd z (by decide))
        · rw [if_neg c5]
          by_cases c1 : h_it tp σ % 8 ≤ 1
          · rw [if_pos c1]
            have q6 : (wB (h_adv tp σ) 904 0 (3 + h_it tp σ % 8) (h_v tp σ)).2.2.2 904 0 6 = σ.2.2.2 904 0 6 := by rw [e_ne (by omega), hA6]
            have q7 : (wB (h_adv tp σ) 904 0 (3 + h_it tp σ % 8) (h_v tp σ)).2.2.2 904 0 7 = nI (tn (σ.2.2.2 904 0 7) + 1) := by rw [e_ne (by omega), hA7]
            refine key _ _ (LI_34 hAL (by omega)) rfl q7 (by rw [q6]; exact ix6 (by omega)) (fun _ => ⟨tp + 1, KI_adv hk hlt rfl (by rw [e_ne (by omega), adv_I]) (fun j h1 h2 => by rw [e_ne (by omega), adv_j (by omega) h2]) hg (fun hn => ?_), by omega⟩)
            by_cases z1 : h_it tp σ % 8 = 1
            · rw [z1, show 3 + 1 = 4 from rfl, wB_s, up1_s]
              rcases w1 z1 with w | w
              · show nI (h_it tp σ / 8) - nI 16 = 0
                rw [show h_it tp σ / 8 = 16 from w]
                decide
              · rw [w] at hn
                cases hn
            · rw [e_ne (by omega), adv_j (by omega) (by omega)]
              refine (e tp (by omega) ?_).2
              unfold nda
              rw [ndb_st hlt, if_neg (show ¬ gi σ (pP σ tp) (pI σ tp) % 8 = 1 from z1), if_neg (show ¬ (gi σ (pP σ tp) (pI σ tp) % 8 = 3 ∨ gi σ (pP σ tp) (pI σ tp) % 8 = 6) from fun z => by have : h_it tp σ % 8 = 3 ∨ h_it tp σ % 8 = 6 := z; omega)]
              exact hn
          · rw [if_neg c1]
            have hm := move_all (kr := kr) (ku := ku) (km := km) (σ := h_adv tp σ) fr t9 (a := h_it tp σ % 8 - 2) (v := h_v tp σ) (by omega) hAL (by rw [hA6]; exact ix6 (by omega)) (y_ok hg hk hs cne (by show 1 < h_it tp σ % 8; omega) (by show h_it tp σ % 8 < 5; omega))
            rw [hA6] at hm
            refine key (h_move kr ku km fr t9 (h_it tp σ % 8 - 2) (h_v tp σ) (h_adv tp σ)).1 (h_move kr ku km fr t9 (h_it tp σ % 8 - 2) (h_v tp σ) (h_adv tp σ)).2 hm.1 hm.2.1 ((hm.2.2.1 7 (by omega)).trans hA7) hm.2.2.2 (fun _ => ⟨tp + 1, KI_adv hk hlt hm.2.1 ((hm.2.2.1 _ (by omega)).trans adv_I) (fun j h1 h2 => (hm.2.2.1 j (by omega)).trans (adv_j (by omega) h2)) hg (fun hn => ?_), by omega⟩)
            rw [hm.2.2.1 4 (by omega), adv_j (by omega) (by omega)]
            refine (e tp (by omega) ?_).2
            unfold nda
            rw [ndb_st hlt, if_neg (show ¬ gi σ (pP σ tp) (pI σ tp) % 8 = 1 from fun z => by have : h_it tp σ % 8 = 1 := z; omega)]
            split
            · rfl
            · exact hn
