/-! a run of the law's own beside one of the reference's: what is read off the run's row -/
def fx (r : Int32) : Int32 := if r = (-1) then nI 5 else r
theorem fx_0 {r : Int32} : fx r = 0 ↔ r = 0 := by
  unfold fx
  by_cases c : r = (-1)
  · rw [if_pos c, c]; decide
  · rw [if_neg c]
theorem fx_n {k : Nat} (h : k < 5) : fx (nI k) = nI k := by
  rcases (by omega : k = 0 ∨ k = 1 ∨ k = 2 ∨ k = 3 ∨ k = 4) with rfl | rfl | rfl | rfl | rfl <;> decide
def RW (ρ τ : St) : Prop := (∀ b, b < 3 → τ.2.2.1 937 0 b = tn (ρ.2.2.2 904 0 b)) ∧ ρ.2.2.2 904 0 3 = τ.2.1 940 0 ∧ ρ.2.2.2 904 0 4 = τ.2.1 941 0 ∧ ρ.2.2.2 904 0 5 = τ.2.1 942 0 ∧ τ.1 943 0 = tn (ρ.2.2.2 904 0 6) ∧ (∀ k, k < 4 → ρ.2.2.2 904 0 (8 + k) = nI (τ.2.2.1 936 0 k)) ∧ (ρ.2.2.2 904 0 5 = (-1) ∨ 0 ≤ ρ.2.2.2 904 0 5)
def XI9 (RX : St → St → Prop) : Prop := (∀ ρ τ i v, RX ρ τ → RX (wB ρ 904 0 i v) τ) ∧ ∀ ρ τ τ', RX ρ τ → EqV τ τ' → RX ρ τ'
def SSim (kr ku km fr : Nat) (t9 : Int32) (RX : St → St → Prop) (g : St → Int32 × St) : Prop := ∀ ρ τ, LI kr ku km ρ → ix (ρ.2.2.2 904 0 6) 99999 → RW ρ τ → RX ρ τ → (h_step kr ku km fr t9 ρ).1 = fx (g τ).1 ∧ RW (h_step kr ku km fr t9 ρ).2 (g τ).2 ∧ RX (h_step kr ku km fr t9 ρ).2 (g τ).2
/-- the law's programs, as the reference has them -/
def RG (ρ τ : St) : Prop := ∀ p, p < 3 → τ.2.2.1 903 0 p = gs ρ p ∧ ∀ j, j < gs ρ p → τ.2.2.2 902 0 (60 * p + 2 * j) = nI (gi ρ p j % 8) ∧ τ.2.2.2 902 0 (60 * p + 2 * j + 1) = nI (gi ρ p j / 8) - nI 16
theorem RG.eq {ρ ρ' τ τ' : St} (h : RG ρ τ) (h1 : ρ'.2.2.2 901 = ρ.2.2.2 901) (h2 : τ'.2.2.1 903 = τ.2.2.1 903) (h3 : τ'.2.2.2 902 = τ.2.2.2 902) : RG ρ' τ' := by
  unfold RG at h ⊢
  rw [gs_eq h1, gi_eq h1, h2, h3]
  exact h
/-- what is open -/
def RK (d : Nat) (ρ τ : St) : Prop := ∀ t, t < d → τ.2.2.1 938 0 t = pP ρ t ∧ τ.2.2.1 939 0 t = pI ρ t
section SIMs
variable {kr ku km fr : Nat} {t9 : Int32} {RX : St → St → Prop} {g : St → Int32 × St}
theorem RW_x {ρ τ : St} (h : RW ρ τ) {a v : Nat} (ha : a < 3) (hv : v < 100) : RW (wB ρ 904 0 a (nI v)) (wA τ 937 0 a v) := by
  obtain ⟨h1, h2, h3, h4, h5, h6, h7⟩ := h
  refine ⟨fun b hb => ?_, ?_, ?_, ?_, ?_, fun k hk => ?_, ?_⟩
  · rw [wA_s, wB_s]
    unfold up1
    by_cases e : b = a
    · rw [if_pos e, if_pos e, tn_nI (by omega)]
    · rw [if_neg e, if_neg e]; exact h1 b hb
  · rw [e_ne (by omega)]; exact h2
  · rw [e_ne (by omega)]; exact h3
  · rw [e_ne (by omega)]; exact h4
  · rw [e_ne (by omega)]; exact h5
  · rw [e_ne (by omega)]; exact h6 k hk
  · rw [e_ne (by omega)]; exact h7
/-- writes to other places of the run's row -/
theorem RW_e {ρ τ : St} (h : RW ρ τ) {i : Nat} {v : Int32} (hi : i = 7 ∨ 12 ≤ i) : RW (wB ρ 904 0 i v) τ := by
  obtain ⟨h1, h2, h3, h4, h5, h6, h7⟩ := h
  refine ⟨fun b hb => ?_, ?_, ?_, ?_, ?_, fun k hk => ?_, ?_⟩
  · rw [e_ne (by omega)]; exact h1 b hb
  · rw [e_ne (by omega)]; exact h2
  · rw [e_ne (by omega)]; exact h3
  · rw [e_ne (by omega)]; exact h4
  · rw [e_ne (by omega)]; exact h5
  · rw [e_ne (by omega)]; exact h6 k hk
  · rw [e_ne (by omega)]; exact h7
theorem RW_t {ρ τ τ' : St} (h : RW ρ τ) (h1 : τ'.2.2.1 937 = τ.2.2.1 937) (h2 : τ'.2.1 = τ.2.1) (h3 : τ'.1 = τ.1) (h4 : τ'.2.2.1 936 = τ.2.2.1 936) : RW ρ τ' := by
  unfold RW at h ⊢
  rw [h1, h2, h3, h4]
  exact h
theorem mv_sim (hX : XI9 RX) (hg : SSim kr ku km fr t9 RX g) {a to : Nat} (ha : a < 3) (hto : to < l2 a) : ∀ (f : Nat) (ρ τ : St), m_dist (tn (ρ.2.2.2 904 0 a)) to = f → LI kr ku km ρ → ix (ρ.2.2.2 904 0 6) (99000 - f) → f < 100 → RW ρ τ → RX ρ τ →
    (h_mv kr ku km fr t9 a to f ρ).1 = fx (mvG g a to f τ).1 ∧ RW (h_mv kr ku km fr t9 a to f ρ).2 (mvG g a to f τ).2 ∧ RX (h_mv kr ku km fr t9 a to f ρ).2 (mvG g a to f τ).2
  | 0, ρ, τ, _, _, _, _, hw, hx => ⟨(fx_n (k := 0) (by decide)).symm, hw, hx⟩
  | f + 1, ρ, τ, hd, hs, h6, hf, hw, hx => by
    have hx9 := LI_l2 hs ha
    have bx := ix_lt hx9
    have bl := l2_le a
    have hne : ¬ tn (ρ.2.2.2 904 0 a) = to := fun z => by rw [z] at hd; unfold m_dist at hd; omega
    have hnd := nx_dist hne
    have hnl := nx_lt bx hto hne
    have hli := LI_x hs ha hnl
    have e60 : (wB ρ 904 0 a (nI (m_nx (tn (ρ.2.2.2 904 0 a)) to))).2.2.2 904 0 6 = ρ.2.2.2 904 0 6 := e_ne (by omega)
    have hli2 := LI_step hli fr t9
    have h63 := st_6 hli (by rw [e60]; exact ix_up h6 (by omega)) fr t9
    rw [e60] at h63
    have e5 : tn ((h_step kr ku km fr t9 (wB ρ 904 0 a (nI (m_nx (tn (ρ.2.2.2 904 0 a)) to)))).2.2.2.2 904 0 a) = m_nx (tn (ρ.2.2.2 904 0 a)) to := by
      rw [st_fr hli.2.2.2.2.2.1 fr t9 (by omega) (by omega), wB_s, up1_s, tn_nI (by omega)]
    have q := hg (wB ρ 904 0 a (nI (m_nx (tn (ρ.2.2.2 904 0 a)) to))) (wA τ 937 0 a (m_nx (tn (ρ.2.2.2 904 0 a)) to)) hli (by rw [e60]; exact ix_up h6 (by omega)) (RW_x hw ha (by omega)) (hX.1 _ _ _ _ (hX.2 _ _ _ hx (EqV.wA1 (Or.inl rfl)).sy))
    unfold h_mv mvG
    rw [hw.1 a ha]
    generalize h_step kr ku km fr t9 (wB ρ 904 0 a (nI (m_nx (tn (ρ.2.2.2 904 0 a)) to))) = X at hli2 h63 e5 q ⊢
    generalize g (wA τ 937 0 a (m_nx (tn (ρ.2.2.2 904 0 a)) to)) = Y at q ⊢
    have b6 := ix_lt h6
    have b63 := ix_lt h63
    by_cases c : Y.1 = 0
    · rw [if_pos c, if_pos (by rw [q.1]; exact fx_0.mpr c)]
      exact mv_sim hX hg ha hto f X.2 Y.2 (by rw [e5]; omega) hli2 (ix_up h63 (by omega)) (by omega) q.2.1 q.2.2
    · rw [if_neg c, if_neg (by rw [q.1]; exact fun z => c (fx_0.mp z))]
      exact q
theorem move_sim (hX : XI9 RX) (hg : SSim kr ku km fr t9 RX g) {a : Nat} {v : Int32} {ρ τ : St} (ha : a < 3) (hs : LI kr ku km ρ) (h6 : ix (ρ.2.2.2 904 0 6) 90000) (hy : ix (h_tg a v ρ) (m_lim a + 1) → tn (h_tg a v ρ) < l2 a) (hw : RW ρ τ) (hx : RX ρ τ) :
    (h_move kr ku km fr t9 a v ρ).1 = fx (if ix (m_to a v τ) (m_lim a + 1) then mvG g a (tn (m_to a v τ)) (m_dist (τ.2.2.1 937 0 a) (tn (m_to a v τ))) τ else (nI 1, τ)).1 ∧ RW (h_move kr ku km fr t9 a v ρ).2 (if ix (m_to a v τ) (m_lim a + 1) then mvG g a (tn (m_to a v τ)) (m_dist (τ.2.2.1 937 0 a) (tn (m_to a v τ))) τ else (nI 1, τ)).2 ∧ RX (h_move kr ku km fr t9 a v ρ).2 (if ix (m_to a v τ) (m_lim a + 1) then mvG g a (tn (m_to a v τ)) (m_dist (τ.2.2.1 937 0 a) (tn (m_to a v τ))) τ else (nI 1, τ)).2 := by
  have e : m_to a v τ = h_tg a v ρ := by
    unfold m_to h_tg h_by
    rw [← hw.2.2.1, hw.1 a ha, ← ix_eq (LI_l2 hs ha)]
    by_cases c : ρ.2.2.2 904 0 4 = 0
    · rw [if_neg (not_not_intro9 c), if_neg (not_not_intro9 c), Int32.add_comm, Int32.sub_add_cancel]
    · rw [if_pos c, if_pos c]
  rw [e, hw.1 a ha]
  unfold h_move
  by_cases c : ix (h_tg a v ρ) (m_lim a + 1)
  · rw [if_pos c, if_pos c]
    have hto := hy c
    have bx := ix_lt (LI_l2 hs ha)
    have bl := l2_le a
    have hd : m_dist (tn (ρ.2.2.2 904 0 a)) (tn (h_tg a v ρ)) ≤ 11 := by unfold m_dist; omega
    exact mv_sim hX hg ha hto _ ρ τ rfl hs (ix_up h6 (by omega)) (by omega) hw hx
  · rw [if_neg c, if_neg c]
    exact ⟨(fx_n (k := 1) (by decide)).symm, hw, hx⟩
theorem pP_adv {tp t : Nat} {ρ : St} (h : t ≤ 2) : pP (h_adv tp ρ) t = pP ρ t := by
  unfold pP
  rw [adv_j (by omega) (by omega)]
theorem pI_adv {tp t : Nat} {ρ : St} (h : pI ρ tp < 100) : pI (h_adv tp ρ) t = if t = tp then pI ρ tp + 1 else pI ρ t := by
  by_cases e : t = tp
  · subst e
    rw [if_pos rfl]
    show tn ((h_adv t ρ).2.2.2 904 0 (16 + t)) = _
    rw [adv_I, tn_nI (by omega)]
  · rw [if_neg e]
    show tn ((h_adv tp ρ).2.2.2 904 0 (16 + t)) = _
    rw [adv_j (by omega) (by omega)]
    rfl
theorem RK_adv {tp : Nat} {ρ τ : St} (h : RK (tp + 1) ρ τ) (htp : tp < 3) (hI : pI ρ tp < 100) : RK (tp + 1) (h_adv tp ρ) (m_adv (tp + 1) τ) := fun t ht => by
  have h1 := h t ht
  have h2 := h tp (by omega)
  rw [pP_adv (by omega), pI_adv hI]
  refine ⟨h1.1, ?_⟩
  show (wA τ 939 0 tp (τ.2.2.1 939 0 tp + 1)).2.2.1 939 0 t = _
  rw [wA_s]
  unfold up1
  by_cases e : t = tp
  · rw [if_pos e, if_pos e, h2.2]
  · rw [if_neg e, if_neg e]; exact h1.2
theorem RK.eq {d : Nat} {ρ ρ' τ τ' : St} (h : RK d ρ τ) (h1 : ∀ j, 12 < j → ρ'.2.2.2 904 0 j = ρ.2.2.2 904 0 j) (h2 : τ'.2.2.1 938 = τ.2.2.1 938) (h3 : τ'.2.2.1 939 = τ.2.2.1 939) : RK d ρ' τ' := fun t ht => by
  have := h t ht
  unfold pP pI
  rw [h1 _ (by omega), h1 _ (by omega), h2, h3]
  exact this
theorem w_cases {k : Nat} (h : k < 8) : (nI k = nI 6 ↔ k = 6) ∧ (nI k = nI 5 ↔ k = 5) ∧ ((nI 2 ≤ nI k ∧ nI k ≤ nI 4) ↔ (2 ≤ k ∧ k ≤ 4)) ∧ (nI k = nI 1 ↔ k = 1) ∧ (nI k = 0 ↔ k = 0) ∧ tn (nI k) = k := by
  rcases (by omega : k = 0 ∨ k = 1 ∨ k = 2 ∨ k = 3 ∨ k = 4 ∨ k = 5 ∨ k = 6 ∨ k = 7) with rfl | rfl | rfl | rfl | rfl | rfl | rfl | rfl <;> decide
theorem bl_keep (hG : StG g) (w v : Int32) (τ : St) : (blG g w v τ).2.2.2.1 938 = τ.2.2.1 938 ∧ (blG g w v τ).2.2.2.1 939 = τ.2.2.1 939 ∧ (blG g w v τ).2.2.2.1 903 = τ.2.2.1 903 ∧ (blG g w v τ).2.2.2.2 902 = τ.2.2.2 902 := by
  have hmv : ∀ (a to f : Nat) (τ : St), (mvG g a to f τ).2.2.2.1 938 = τ.2.2.1 938 ∧ (mvG g a to f τ).2.2.2.1 939 = τ.2.2.1 939 ∧ (mvG g a to f τ).2.2.2.1 903 = τ.2.2.1 903 ∧ (mvG g a to f τ).2.2.2.2 902 = τ.2.2.2 902 := by
    intro a to f
    induction f with
    | zero => intro τ; exact ⟨rfl, rfl, rfl, rfl⟩
    | succ f ih =>
      intro τ
      have h9 := hG.2 (wA τ 937 0 a (m_nx (τ.2.2.1 937 0 a) to))
      unfold mvG
      generalize g (wA τ 937 0 a (m_nx (τ.2.2.1 937 0 a) to)) = Y at h9 ⊢
      obtain ⟨-, -, k3, k4, k5, k6⟩ := h9
      have k3 : Y.2.2.2.1 938 = τ.2.2.1 938 := k3
      have k4 : Y.2.2.2.1 939 = τ.2.2.1 939 := k4
      have k5 : Y.2.2.2.1 903 = τ.2.2.1 903 := k5
      have k6 : Y.2.2.2.2 902 = τ.2.2.2 902 := k6
      split
      · have := ih Y.2
        exact ⟨this.1.trans k3, this.2.1.trans k4, this.2.2.1.trans k5, this.2.2.2.trans k6⟩
      · exact ⟨k3, k4, k5, k6⟩
  unfold blG
  split
  · split
    · exact hmv _ _ _ τ
    · exact ⟨rfl, rfl, rfl, rfl⟩
  · unfold m_sets
    repeat' split
    all_goals exact ⟨rfl, rfl, rfl, rfl⟩
theorem sets_sim (hX : XI9 RX) {k : Nat} {v : Int32} {ρ τ : St} (hk : k = 0 ∨ k = 1) (hw : RW ρ τ) (hx : RX ρ τ) : (m_sets (nI k) v τ).1 = 0 ∧ RW (wB ρ 904 0 (3 + k) v) (m_sets (nI k) v τ).2 ∧ RX (wB ρ 904 0 (3 + k) v) (m_sets (nI k) v τ).2 := by
  have hx2 : ∀ a b c, RX (wB ρ 904 0 (3 + k) v) (wI (wI (wI τ 940 0 a) 941 0 b) 942 0 c) := fun a b c => hX.1 _ _ _ _ (hX.2 _ _ _ hx (EqV.tr (EqV.wI1 (by omega)) (EqV.tr (EqV.wI1 (by omega)) (EqV.wI1 (by omega)))).sy)
  have e5 : ¬ nI k = nI 5 := by rcases hk with rfl | rfl <;> decide
  have em : m_sets (nI k) v τ = (nI 0, wI (wI (wI τ 940 0 (if ¬ nI k = 0 then τ.2.1 940 0 else v)) 941 0 (if ¬ nI k = nI 1 then τ.2.1 941 0 else v)) 942 0 (if ¬ nI k = nI 5 then τ.2.1 942 0 else v)) := by
    unfold m_sets
    rw [if_pos e5]
  rw [em]
  obtain ⟨h1, h2, h3, h4, h5, h6, h7⟩ := hw
  refine ⟨rfl, ⟨fun b hb => ?_, ?_, ?_, ?_, ?_, fun j hj => ?_, ?_⟩, hx2 _ _ _⟩
  · rw [e_ne (by omega)]; exact h1 b hb
  · rw [wI3.1]
    rcases hk with rfl | rfl
    · rw [if_neg (not_not_intro9 (by decide)), wB_s]; exact up1_s
    · rw [if_pos (by decide), e_ne (by omega)]; exact h2
  · rw [wI3.2.1]
    rcases hk with rfl | rfl
    · rw [if_pos (by decide), e_ne (by omega)]; exact h3
    · rw [if_neg (not_not_intro9 rfl), wB_s]; exact up1_s
  · rw [wI3.2.2, if_pos e5, e_ne (by omega)]; exact h4
  · rw [e_ne (by omega)]; exact h5
  · rw [e_ne (by omega)]; exact h6 j hj
  · rw [e_ne (by omega)]; exact h7
theorem rl_sim (hX : XI9 RX) (hg : SSim kr ku km fr t9 RX g) (hG : StG g) : ∀ (f d : Nat) (ρ τ : St), 2 * (601 - tn (ρ.2.2.2 904 0 7)) + d + 1 ≤ f → LI kr ku km ρ → GI ρ → KI d ρ → ix (ρ.2.2.2 904 0 6) 80000 → ix (ρ.2.2.2 904 0 7) 601 → tn (ρ.2.2.2 904 0 6) ≤ 11 * tn (ρ.2.2.2 904 0 7) → RG ρ τ → RK d ρ τ → RW ρ τ → RX ρ τ →
    (h_rl kr ku km fr t9 f ρ).1 = fx (rlG g f d (tn (ρ.2.2.2 904 0 7)) τ).1 ∧ RW (h_rl kr ku km fr t9 f ρ).2 (rlG g f d (tn (ρ.2.2.2 904 0 7)) τ).2 ∧ RX (h_rl kr ku km fr t9 f ρ).2 (rlG g f d (tn (ρ.2.2.2 904 0 7)) τ).2
  | 0, d, ρ, τ, hf, _, _, _, _, _, _, _, _, _, _ => absurd hf (by omega)
  | f + 1, d, ρ, τ, hf, hs, hgi, hk, h6, h7, h67, hrg, hrk, hw, hx => by
    rw [rlG_s]
    unfold h_rl
    by_cases c0 : d = 0
    · rw [if_pos c0, if_pos ((k12_0 hk).mpr c0)]
      exact ⟨(fx_n (k := 0) (by decide)).symm, hw, hx⟩
    rw [if_neg c0, if_neg (fun z => c0 ((k12_0 hk).mp z))]
    obtain ⟨tp, rfl⟩ : ∃ tp, d = tp + 1 := ⟨d - 1, by omega⟩
    rw [k12_t hk]
    have htp : tp < 3 := by have := hk.1; omega
    obtain ⟨hP, hPt, hI, hIs⟩ := hk.2.2.1 tp (by omega)
    have bP : pP ρ tp < 3 := ix_lt hP
    have hS := (hgi _ bP).1
    have bS : gs ρ (pP ρ tp) < 13 := ix_lt hS
    have hb := blk_all (fr := fr) (t9 := t9) hs hgi hk h6 h7 h67
    have hkt := hrk tp (by omega)
    have hrp := hrg _ bP
    rw [show tp + 1 - 1 = tp from rfl, hkt.1, hkt.2, hrp.1]
    by_cases c1 : pI ρ tp = gs ρ (pP ρ tp)
    · rw [if_pos c1]
      have eb : h_bk kr ku km tp fr t9 ρ = (nI 0, wB ρ 904 0 12 (nI tp - nI 1)) := if_pos c1
      rw [eb] at hb ⊢
      rw [if_pos (show (nI 0 : Int32) = 0 from rfl)]
      have e7 : (wB ρ 904 0 12 (nI tp - nI 1)).2.2.2 904 0 7 = ρ.2.2.2 904 0 7 := e_ne (by omega)
      have q := rl_sim hX hg hG f tp (wB ρ 904 0 12 (nI tp - nI 1)) τ (by rw [e7]; omega) hb.1 (hgi.eq hb.2.1) (KI_pop hk) hb.2.2.1 hb.2.2.2.1 hb.2.2.2.2.1 (hrg.eq hb.2.1 rfl rfl) (RK.eq (fun t ht => hrk t (by omega)) (fun j hj => e_ne (by omega)) rfl rfl) (RW_e hw (by omega)) (hX.1 _ _ _ _ hx)
      rw [e7] at q
      exact q
    rw [if_neg c1]
    have hlt : pI ρ tp < gs ρ (pP ρ tp) := Nat.lt_of_le_of_ne hIs c1
    have hWW := (hgi _ bP).2 _ hlt
    have w0 : h_it tp ρ % 8 ≤ 6 := hWW.2.1
    have bJ : h_it tp ρ < 1000 := ix_lt hWW.1
    by_cases c2 : tn (ρ.2.2.2 904 0 7) = 600
    · rw [if_pos c2]
      have eb : h_bk kr ku km tp fr t9 ρ = (nI 4, ρ) := (if_neg c1).trans (if_pos c2)
      rw [eb, if_neg (show ¬ (nI 4 : Int32) = 0 by decide)]
      exact ⟨(fx_n (k := 4) (by decide)).symm, hw, hx⟩
    rw [if_neg c2]
    have hwv := hrp.2 _ hlt
    have ew : m_w (tp + 1) τ = nI (h_it tp ρ % 8) := by
      show τ.2.2.2 902 0 (60 * τ.2.2.1 938 0 tp + 2 * τ.2.2.1 939 0 tp) = _
      rw [hkt.1, hkt.2]
      exact hwv.1
    have ev : m_v (tp + 1) τ = h_v tp ρ := by
      show τ.2.2.2 902 0 (60 * τ.2.2.1 938 0 tp + 2 * τ.2.2.1 939 0 tp + 1) = _
      rw [hkt.1, hkt.2]
      exact hwv.2
    rw [ew, ev]
    obtain ⟨k6, k5, k24, k1, k0, kt⟩ := w_cases (k := h_it tp ρ % 8) (by omega)
    have hAw : RW (h_adv tp ρ) (m_adv (tp + 1) τ) := RW_t (RW_e (RW_e hw (by omega)) (by omega)) rfl rfl rfl rfl
    have hAx : RX (h_adv tp ρ) (m_adv (tp + 1) τ) := hX.1 _ _ _ _ (hX.1 _ _ _ _ (hX.2 _ _ _ hx (EqV.wA1 (Or.inr (Or.inr rfl))).sy))
    have hAk := RK_adv hrk htp (by omega)
    have hA7 : (h_adv tp ρ).2.2.2 904 0 7 = nI (tn (ρ.2.2.2 904 0 7) + 1) := adv_7
    have hA6 : (h_adv tp ρ).2.2.2 904 0 6 = ρ.2.2.2 904 0 6 := adv_j (by omega) (by omega)
    have hAL : LI kr ku km (h_adv tp ρ) := LI_e (LI_e hs (by omega)) (by omega)
    have b7 := ix_lt h7
    by_cases c6 : h_it tp ρ % 8 = 6
    · rw [if_pos (k6.mpr c6)]
      have eb : h_bk kr ku km tp fr t9 ρ = (nI 0, h_cl tp ρ) := (if_neg c1).trans ((if_neg c2).trans (if_pos c6))
      rw [eb] at hb ⊢
      rw [if_pos (show (nI 0 : Int32) = 0 from rfl)]
      have e7 : (h_cl tp ρ).2.2.2 904 0 7 = nI (tn (ρ.2.2.2 904 0 7) + 1) := by
        unfold h_cl
        rw [e_ne (by omega), e_ne (by omega), e_ne (by omega), hA7]
      have e7t : tn ((h_cl tp ρ).2.2.2 904 0 7) = tn (ρ.2.2.2 904 0 7) + 1 := by rw [e7, tn_nI (by omega)]
      have w6 := hWW.2.2.1 c6
      have w61 : 16 ≤ h_it tp ρ / 8 := w6.1
      have w62 : h_it tp ρ / 8 < 16 + pP ρ tp := w6.2.1
      have ev2 : h_v tp ρ = nI (h_it tp ρ / 8 - 16) := pk_sub w61
      have hKc : RK (tp + 2) (h_cl tp ρ) (m_call (tp + 1) (h_v tp ρ) τ) := fun t ht => by
        have hPt2 : pP ρ tp + tp ≤ 2 := hPt
        show (wA (m_adv (tp + 1) τ) 938 0 (tp + 1) (tn (h_v tp ρ))).2.2.1 938 0 t = _ ∧ (wA (wA (m_adv (tp + 1) τ) 938 0 (tp + 1) (tn (h_v tp ρ))) 939 0 (tp + 1) 0).2.2.1 939 0 t = _
        rw [wA_s, wA_s]
        by_cases z : t = tp + 1
        · subst z
          rw [up1_s, up1_s]
          have eP : (h_cl tp ρ).2.2.2 904 0 (13 + (tp + 1)) = h_v tp ρ := by
            unfold h_cl
            rw [e_ne (by omega), show 13 + (tp + 1) = 14 + tp by omega, wB_s, up1_s]
          have eI : (h_cl tp ρ).2.2.2 904 0 (16 + (tp + 1)) = nI 0 := by
            unfold h_cl
            rw [show 16 + (tp + 1) = 17 + tp by omega, wB_s, up1_s]
          unfold pP pI
          rw [eP, eI]
          exact ⟨rfl, rfl⟩
        · rw [up1_n z, up1_n z]
          have hj : ∀ j, (13 ≤ j ∧ j ≤ 13 + tp) ∨ (16 ≤ j ∧ j ≤ 16 + tp) → (h_cl tp ρ).2.2.2 904 0 j = (h_adv tp ρ).2.2.2 904 0 j := fun j hj => by
            unfold h_cl
            rw [e_ne (by omega), e_ne (by omega), e_ne (by omega)]
          have := hAk t (by omega)
          unfold pP pI
          rw [hj _ (by omega), hj _ (by omega)]
          exact this
      have hcw : RW (h_cl tp ρ) (m_call (tp + 1) (h_v tp ρ) τ) := RW_t (RW_e (RW_e (RW_e hAw (by omega)) (by omega)) (by omega)) rfl rfl rfl rfl
      have hcx : RX (h_cl tp ρ) (m_call (tp + 1) (h_v tp ρ) τ) := hX.1 _ _ _ _ (hX.1 _ _ _ _ (hX.1 _ _ _ _ (hX.2 _ _ _ hAx (EqV.tr (EqV.wA1 (Or.inr (Or.inr rfl))) (EqV.wA1 (Or.inr (Or.inl rfl)))).sy)))
      have q := rl_sim hX hg hG f (tp + 2) (h_cl tp ρ) (m_call (tp + 1) (h_v tp ρ) τ) (by rw [e7t]; omega) hb.1 (hgi.eq hb.2.1) (KI_call hgi hk hlt c6) hb.2.2.1 hb.2.2.2.1 hb.2.2.2.2.1 (hrg.eq hb.2.1 rfl rfl) hKc hcw hcx
      rw [e7t] at q
      exact q
    rw [if_neg (fun z => c6 (k6.mp z))]
    -- the block itself
    have key : ∀ (X Y : Int32 × St), h_bk kr ku km tp fr t9 ρ = X → blG g (nI (h_it tp ρ % 8)) (h_v tp ρ) (m_adv (tp + 1) τ) = Y → X.1 = fx Y.1 → RW X.2 Y.2 → RX X.2 Y.2 → (X.1 = 0 → KI (tp + 1) X.2 ∧ (∀ j, 12 < j → X.2.2.2.2 904 0 j = (h_adv tp ρ).2.2.2 904 0 j) ∧ X.2.2.2.2 904 0 7 = nI (tn (ρ.2.2.2 904 0 7) + 1)) →
        (if (h_bk kr ku km tp fr t9 ρ).1 = 0 then h_rl kr ku km fr t9 f (h_bk kr ku km tp fr t9 ρ).2 else h_bk kr ku km tp fr t9 ρ).1 = fx (if (blG g (nI (h_it tp ρ % 8)) (h_v tp ρ) (m_adv (tp + 1) τ)).1 = 0 then rlG g f (tp + 1) (tn (ρ.2.2.2 904 0 7) + 1) (blG g (nI (h_it tp ρ % 8)) (h_v tp ρ) (m_adv (tp + 1) τ)).2 else blG g (nI (h_it tp ρ % 8)) (h_v tp ρ) (m_adv (tp + 1) τ)).1 ∧
        RW (if (h_bk kr ku km tp fr t9 ρ).1 = 0 then h_rl kr ku km fr t9 f (h_bk kr ku km tp fr t9 ρ).2 else h_bk kr ku km tp fr t9 ρ).2 (if (blG g (nI (h_it tp ρ % 8)) (h_v tp ρ) (m_adv (tp + 1) τ)).1 = 0 then rlG g f (tp + 1) (tn (ρ.2.2.2 904 0 7) + 1) (blG g (nI (h_it tp ρ % 8)) (h_v tp ρ) (m_adv (tp + 1) τ)).2 else blG g (nI (h_it tp ρ % 8)) (h_v tp ρ) (m_adv (tp + 1) τ)).2 ∧
        RX (if (h_bk kr ku km tp fr t9 ρ).1 = 0 then h_rl kr ku km fr t9 f (h_bk kr ku km tp fr t9 ρ).2 else h_bk kr ku km tp fr t9 ρ).2 (if (blG g (nI (h_it tp ρ % 8)) (h_v tp ρ) (m_adv (tp + 1) τ)).1 = 0 then rlG g f (tp + 1) (tn (ρ.2.2.2 904 0 7) + 1) (blG g (nI (h_it tp ρ % 8)) (h_v tp ρ) (m_adv (tp + 1) τ)).2 else blG g (nI (h_it tp ρ % 8)) (h_v tp ρ) (m_adv (tp + 1) τ)).2 := by
      intro X Y eX eY q1 q2 q3 q4
      have hkeep := bl_keep hG (nI (h_it tp ρ % 8)) (h_v tp ρ) (m_adv (tp + 1) τ)
      rw [eX] at hb ⊢
      rw [eY] at hkeep ⊢
      by_cases c : Y.1 = 0
      · have cX : X.1 = 0 := by rw [q1]; exact fx_0.mpr c
        rw [if_pos c, if_pos cX]
        obtain ⟨z1, z2, z3⟩ := q4 cX
        have e7t : tn (X.2.2.2.2 904 0 7) = tn (ρ.2.2.2 904 0 7) + 1 := by rw [z3, tn_nI (by omega)]
        have q := rl_sim hX hg hG f (tp + 1) X.2 Y.2 (by rw [e7t]; omega) hb.1 (hgi.eq hb.2.1) z1 hb.2.2.1 hb.2.2.2.1 hb.2.2.2.2.1 (hrg.eq hb.2.1 hkeep.2.2.1 hkeep.2.2.2) (hAk.eq z2 hkeep.1 hkeep.2.1) q2 q3
        rw [e7t] at q
        exact q
      · rw [if_neg c, if_neg (by rw [q1]; exact fun z => c (fx_0.mp z))]
        exact ⟨q1, q2, q3⟩
    have hKI : ∀ X : St, (h_bk kr ku km tp fr t9 ρ).2 = X → X.2.2.2 904 0 12 = ρ.2.2.2 904 0 12 → (h_bk kr ku km tp fr t9 ρ).1 = 0 → KI (tp + 1) X := fun X eX e12 z => by
      obtain ⟨d8, k8, -⟩ := hb.2.2.2.2.2 z
      rw [eX] at k8
      have h3 := k8.2.1
      rw [e12, hk.2.1] at h3
      have := k8.1
      have e : d8 = tp + 1 := by
        have hd8 : d8 = 0 ∨ d8 = 1 ∨ d8 = 2 ∨ d8 = 3 := by omega
        have htp3 : tp = 0 ∨ tp = 1 ∨ tp = 2 := by omega
        rcases hd8 with rfl | rfl | rfl | rfl <;> rcases htp3 with rfl | rfl | rfl <;> first | rfl | exact absurd h3 (by decide)
      rw [e] at k8
      exact k8
    by_cases c5 : h_it tp ρ % 8 = 5
    · have e5 := k5.mpr c5
      have n24 : ¬ (nI 2 ≤ nI (h_it tp ρ % 8) ∧ nI (h_it tp ρ % 8) ≤ nI 4) := fun z => by have := k24.mp z; omega
      have eB : blG g (nI (h_it tp ρ % 8)) (h_v tp ρ) (m_adv (tp + 1) τ) = m_sets (nI (h_it tp ρ % 8)) (h_v tp ρ) (m_adv (tp + 1) τ) := if_neg n24
      have h2e : (m_adv (tp + 1) τ).2.2.1 937 0 2 = tn (ρ.2.2.2 904 0 2) := hw.1 2 (by omega)
      have b2 := ix_lt hs.2.2.2.2.1
      by_cases c9 : 9 ≤ tn (ρ.2.2.2 904 0 2)
      · have eX : h_bk kr ku km tp fr t9 ρ = (nI 0, wB (h_adv tp ρ) 904 0 5 (h_v tp ρ)) := (if_neg c1).trans ((if_neg c2).trans ((if_neg c6).trans ((if_pos c5).trans (if_pos c9))))
        have eM : m_sets (nI (h_it tp ρ % 8)) (h_v tp ρ) (m_adv (tp + 1) τ) = (nI 0, wI (wI (wI (m_adv (tp + 1) τ) 940 0 (if ¬ nI (h_it tp ρ % 8) = 0 then (m_adv (tp + 1) τ).2.1 940 0 else h_v tp ρ)) 941 0 (if ¬ nI (h_it tp ρ % 8) = nI 1 then (m_adv (tp + 1) τ).2.1 941 0 else h_v tp ρ)) 942 0 (if ¬ nI (h_it tp ρ % 8) = nI 5 then (m_adv (tp + 1) τ).2.1 942 0 else h_v tp ρ)) := by
          unfold m_sets
          rw [if_neg (not_not_intro9 e5), if_pos (by rw [h2e]; omega)]
        refine key _ _ eX (eB.trans eM) (fx_n (k := 0) (by decide)).symm ?_ (hX.1 _ _ _ _ (hX.2 _ _ _ hAx (EqV.tr (EqV.wI1 (by omega)) (EqV.tr (EqV.wI1 (by omega)) (EqV.wI1 (by omega)))).sy)) (fun z => ⟨hKI _ (by rw [eX]) (by rw [e_ne (by omega), adv_j (by omega) (by omega)]) (by rw [eX]; rfl), fun j hj => e_ne (by omega), (e_ne (by omega)).trans hA7⟩)
        obtain ⟨r1, r2, r3, r4, r5, r6, r7⟩ := hAw
        refine ⟨fun b hb => ?_, ?_, ?_, ?_, ?_, fun j hj => ?_, ?_⟩
        · show _ = tn ((wB (h_adv tp ρ) 904 0 5 (h_v tp ρ)).2.2.2 904 0 b)
          rw [e_ne (by omega)]; exact r1 b hb
        · show (wB (h_adv tp ρ) 904 0 5 (h_v tp ρ)).2.2.2 904 0 3 = _
          rw [wI3.1, if_pos (fun z => by have := k0.mp z; omega), e_ne (by omega)]; exact r2
        · show (wB (h_adv tp ρ) 904 0 5 (h_v tp ρ)).2.2.2 904 0 4 = _
          rw [wI3.2.1, if_pos (fun z => by have := k1.mp z; omega), e_ne (by omega)]; exact r3
        · show (wB (h_adv tp ρ) 904 0 5 (h_v tp ρ)).2.2.2 904 0 5 = _
          rw [wI3.2.2, if_neg (not_not_intro9 e5), wB_s]; exact up1_s
        · show _ = tn ((wB (h_adv tp ρ) 904 0 5 (h_v tp ρ)).2.2.2 904 0 6)
          rw [e_ne (by omega)]; exact r5
        · show (wB (h_adv tp ρ) 904 0 5 (h_v tp ρ)).2.2.2 904 0 (8 + j) = _
          rw [e_ne (by omega)]; exact r6 j hj
        · show (wB (h_adv tp ρ) 904 0 5 (h_v tp ρ)).2.2.2 904 0 5 = _ ∨ 0 ≤ (wB (h_adv tp ρ) 904 0 5 (h_v tp ρ)).2.2.2 904 0 5
          rw [wB_s, up1_s]
          refine Or.inr ?_
          have w5 := hWW.2.2.2.1 c5
          have e9 : h_v tp ρ = nI (h_it tp ρ / 8 - 16) := pk_sub w5.1
          rw [e9]
          exact nI_pos' (by omega)
      · have eX : h_bk kr ku km tp fr t9 ρ = (nI 2, h_adv tp ρ) := (if_neg c1).trans ((if_neg c2).trans ((if_neg c6).trans ((if_pos c5).trans (if_neg c9))))
        have eM : m_sets (nI (h_it tp ρ % 8)) (h_v tp ρ) (m_adv (tp + 1) τ) = (nI 2, m_adv (tp + 1) τ) := by
          unfold m_sets
          rw [if_neg (not_not_intro9 e5), if_neg (by rw [h2e]; omega)]
        exact key _ _ eX (eB.trans eM) (fx_n (k := 2) (by decide)).symm hAw hAx (fun z => absurd (show nI 2 = 0 from z) (by decide))
    · by_cases c01 : h_it tp ρ % 8 ≤ 1
      · have n24 : ¬ (nI 2 ≤ nI (h_it tp ρ % 8) ∧ nI (h_it tp ρ % 8) ≤ nI 4) := fun z => by have := k24.mp z; omega
        have eB : blG g (nI (h_it tp ρ % 8)) (h_v tp ρ) (m_adv (tp + 1) τ) = m_sets (nI (h_it tp ρ % 8)) (h_v tp ρ) (m_adv (tp + 1) τ) := if_neg n24
        have eX : h_bk kr ku km tp fr t9 ρ = (nI 0, wB (h_adv tp ρ) 904 0 (3 + h_it tp ρ % 8) (h_v tp ρ)) := (if_neg c1).trans ((if_neg c2).trans ((if_neg c6).trans ((if_neg c5).trans (if_pos c01))))
        have q := sets_sim hX (k := h_it tp ρ % 8) (v := h_v tp ρ) (by omega) hAw hAx
        refine key _ _ eX eB ?_ q.2.1 q.2.2 (fun z => ⟨hKI _ (by rw [eX]) (by rw [e_ne (by omega), adv_j (by omega) (by omega)]) (by rw [eX]; rfl), fun j hj => e_ne (by omega), (e_ne (by omega)).trans hA7⟩)
        rw [q.1]
        exact (fx_n (k := 0) (by decide)).symm
      · have p24 : nI 2 ≤ nI (h_it tp ρ % 8) ∧ nI (h_it tp ρ % 8) ≤ nI 4 := k24.mpr (by omega)
        have eX : h_bk kr ku km tp fr t9 ρ = h_move kr ku km fr t9 (h_it tp ρ % 8 - 2) (h_v tp ρ) (h_adv tp ρ) := (if_neg c1).trans ((if_neg c2).trans ((if_neg c6).trans ((if_neg c5).trans (if_neg c01))))
        have hya := y_ok hgi hk hs c1 (by show 1 < h_it tp ρ % 8; omega) (by show h_it tp ρ % 8 < 5; omega)
        have hm := move_all (kr := kr) (ku := ku) (km := km) (σ := h_adv tp ρ) fr t9 (a := h_it tp ρ % 8 - 2) (v := h_v tp ρ) (by omega) hAL (by rw [hA6]; exact ix_up h6 (by decide)) hya
        have q := move_sim hX hg (a := h_it tp ρ % 8 - 2) (v := h_v tp ρ) (ρ := h_adv tp ρ) (τ := m_adv (tp + 1) τ) (by omega) hAL (by rw [hA6]; exact ix_up h6 (by decide)) hya hAw hAx
        have eB : blG g (nI (h_it tp ρ % 8)) (h_v tp ρ) (m_adv (tp + 1) τ) = (if ix (m_to (h_it tp ρ % 8 - 2) (h_v tp ρ) (m_adv (tp + 1) τ)) (m_lim (h_it tp ρ % 8 - 2) + 1) then mvG g (h_it tp ρ % 8 - 2) (tn (m_to (h_it tp ρ % 8 - 2) (h_v tp ρ) (m_adv (tp + 1) τ))) (m_dist ((m_adv (tp + 1) τ).2.2.1 937 0 (h_it tp ρ % 8 - 2)) (tn (m_to (h_it tp ρ % 8 - 2) (h_v tp ρ) (m_adv (tp + 1) τ)))) (m_adv (tp + 1) τ) else (nI 1, m_adv (tp + 1) τ)) := by
          unfold blG
          rw [if_pos p24, kt]
        exact key _ _ eX eB q.1 q.2.1 q.2.2 (fun z => ⟨hKI _ (by rw [eX]) ((hm.2.2.1 _ (by omega)).trans (adv_j (by omega) (by omega))) (by rw [eX]; exact z), fun j hj => hm.2.2.1 j (by omega), (hm.2.2.1 7 (by omega)).trans hA7⟩)
end SIMs
