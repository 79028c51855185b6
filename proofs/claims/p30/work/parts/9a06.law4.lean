/-! a move, and the programs in the law's own rows -/
theorem mv_all {kr ku km : Nat} (fr : Nat) (t9 : Int32) {a to : Nat} (ha : a < 3) (hto : to < l2 a) : ∀ (f : Nat) (σ : St), m_dist (tn (σ.2.2.2 904 0 a)) to = f → LI kr ku km σ → ix (σ.2.2.2 904 0 6) (99000 - f) → f < 100 →
    LI kr ku km (h_mv kr ku km fr t9 a to f σ).2 ∧ (h_mv kr ku km fr t9 a to f σ).2.2.2.2 901 = σ.2.2.2 901 ∧ (∀ j, j = 7 ∨ 12 ≤ j ∨ (3 ≤ j ∧ j ≤ 5) → (h_mv kr ku km fr t9 a to f σ).2.2.2.2 904 0 j = σ.2.2.2 904 0 j) ∧ ix ((h_mv kr ku km fr t9 a to f σ).2.2.2.2 904 0 6) (tn (σ.2.2.2 904 0 6) + f + 1)
  | 0, σ, _, hs, h6, _ => ⟨hs, rfl, fun _ _ => rfl, by obtain ⟨a, b⟩ := h6; exact ⟨a, by show (σ.2.2.2 904 0 6).toInt < _; unfold tn; omega⟩⟩
  | f + 1, σ, hd, hs, h6, hf => by
    have hx := LI_l2 hs ha
    have bx := ix_lt hx
    have bl := l2_le a
    have hne : ¬ tn (σ.2.2.2 904 0 a) = to := fun z => by rw [z] at hd; unfold m_dist at hd; omega
    have hnd := nx_dist hne
    have hnl := nx_lt bx hto hne
    have hli := LI_x hs ha hnl
    have e60 : (wB σ 904 0 a (nI (m_nx (tn (σ.2.2.2 904 0 a)) to))).2.2.2 904 0 6 = σ.2.2.2 904 0 6 := e_ne (by omega)
    have hli2 := LI_step hli fr t9
    have hg2 := st_g (kr := kr) (ku := ku) (km := km) (σ := wB σ 904 0 a (nI (m_nx (tn (σ.2.2.2 904 0 a)) to))) fr t9
    have h63 := st_6 hli (by rw [e60]; exact ix_up h6 (by omega)) fr t9
    rw [e60] at h63
    have hfr : ∀ j, j = 7 ∨ 12 ≤ j ∨ (3 ≤ j ∧ j ≤ 5) → (h_step kr ku km fr t9 (wB σ 904 0 a (nI (m_nx (tn (σ.2.2.2 904 0 a)) to)))).2.2.2.2 904 0 j = σ.2.2.2 904 0 j := fun j hj => by
      rw [st_fr hli.2.2.2.2.2.1 fr t9 (by omega) (by omega), e_ne (by omega)]
    have e5 : tn ((h_step kr ku km fr t9 (wB σ 904 0 a (nI (m_nx (tn (σ.2.2.2 904 0 a)) to)))).2.2.2.2 904 0 a) = m_nx (tn (σ.2.2.2 904 0 a)) to := by
      rw [st_fr hli.2.2.2.2.2.1 fr t9 (by omega) (by omega), wB_s, up1_s, tn_nI (by omega)]
    have hg1 : (wB σ 904 0 a (nI (m_nx (tn (σ.2.2.2 904 0 a)) to))).2.2.2 901 = σ.2.2.2 901 := rfl
    unfold h_mv
    generalize h_step kr ku km fr t9 (wB σ 904 0 a (nI (m_nx (tn (σ.2.2.2 904 0 a)) to))) = X at hli2 hg2 h63 hfr e5 ⊢
    have b6 := ix_lt h6
    have b63 := ix_lt h63
    split
    · have q := mv_all fr t9 ha hto f X.2 (by rw [e5]; omega) hli2 (ix_up h63 (by omega)) (by omega)
      refine ⟨q.1, q.2.1.trans (hg2.trans hg1), fun j hj => (q.2.2.1 j hj).trans (hfr j hj), ix_up q.2.2.2 (by omega)⟩
    · exact ⟨hli2, hg2.trans hg1, hfr, ix_up h63 (by omega)⟩
theorem move_all {kr ku km : Nat} {σ : St} (fr : Nat) (t9 : Int32) {a : Nat} {v : Int32} (ha : a < 3) (hs : LI kr ku km σ) (h6 : ix (σ.2.2.2 904 0 6) 90000) (hy : ix (h_tg a v σ) (m_lim a + 1) → tn (h_tg a v σ) < l2 a) :
    LI kr ku km (h_move kr ku km fr t9 a v σ).2 ∧ (h_move kr ku km fr t9 a v σ).2.2.2.2 901 = σ.2.2.2 901 ∧ (∀ j, j = 7 ∨ 12 ≤ j ∨ (3 ≤ j ∧ j ≤ 5) → (h_move kr ku km fr t9 a v σ).2.2.2.2 904 0 j = σ.2.2.2 904 0 j) ∧ ix ((h_move kr ku km fr t9 a v σ).2.2.2.2 904 0 6) (tn (σ.2.2.2 904 0 6) + 12) := by
  unfold h_move
  split
  · rename_i c
    have hto := hy c
    have bx := ix_lt (LI_l2 hs ha)
    have bl := l2_le a
    have hd : m_dist (tn (σ.2.2.2 904 0 a)) (tn (h_tg a v σ)) ≤ 11 := by unfold m_dist; omega
    have q := mv_all fr t9 ha hto _ σ rfl hs (ix_up h6 (by omega)) (by omega)
    exact ⟨q.1, q.2.1, q.2.2.1, ix_up q.2.2.2 (by omega)⟩
  · refine ⟨hs, rfl, fun _ _ => rfl, ?_⟩
    obtain ⟨a, b⟩ := h6
    exact ⟨a, by show (σ.2.2.2 904 0 6).toInt < _; unfold tn; omega⟩
/-- how many blocks a program has; a block, as one number -/
def gs (σ : St) (p : Nat) : Nat := tn (σ.2.2.2 901 0 (36 + p))
def gi (σ : St) (p j : Nat) : Nat := tn (σ.2.2.2 901 0 (12 * p + j))
/-- from here on a block comes to a move along y, or to a call, ahead of any block that sets the measure -/
def ndb (f : Nat → Nat) : Nat → Nat → Bool
  | 0, _ => false
  | n + 1, j => if f j % 8 = 1 then false else if f j % 8 = 3 ∨ f j % 8 = 6 then true else ndb f n (j + 1)
def WB (p : Nat) (f : Nat → Nat) (n j : Nat) : Prop := f j % 8 ≤ 6 ∧ (f j % 8 = 6 → 16 ≤ f j / 8 ∧ f j / 8 < 16 + p ∧ ndb f (n - (j + 1)) (j + 1) = false) ∧ (f j % 8 = 5 → 16 ≤ f j / 8 ∧ f j / 8 < 20) ∧ (f j % 8 = 3 → 16 ≤ f j / 8 ∧ f j / 8 < 20) ∧ (f j % 8 = 1 → f j / 8 = 16 ∨ ndb f (n - (j + 1)) (j + 1) = false)
def GI (σ : St) : Prop := ∀ p, p < 3 → ix (σ.2.2.2 901 0 (36 + p)) 13 ∧ ∀ j, j < gs σ p → ix (σ.2.2.2 901 0 (12 * p + j)) 1000 ∧ WB p (gi σ p) (gs σ p) j
theorem gs_eq {σ σ' : St} (h : σ'.2.2.2 901 = σ.2.2.2 901) : gs σ' = gs σ := by unfold gs; rw [h]
theorem gi_eq {σ σ' : St} (h : σ'.2.2.2 901 = σ.2.2.2 901) : gi σ' = gi σ := by unfold gi; rw [h]
theorem GI.eq {σ σ' : St} (hG : GI σ) (h : σ'.2.2.2 901 = σ.2.2.2 901) : GI σ' := by
  unfold GI at hG ⊢
  rw [gs_eq h, gi_eq h, h]
  exact hG
def pP (σ : St) (t : Nat) : Nat := tn (σ.2.2.2 904 0 (13 + t))
def pI (σ : St) (t : Nat) : Nat := tn (σ.2.2.2 904 0 (16 + t))
def nda (σ : St) (t : Nat) : Bool := ndb (gi σ (pP σ t)) (gs σ (pP σ t) - pI σ t) (pI σ t)
/-- d programs are open -/
def KI (d : Nat) (σ : St) : Prop := d ≤ 3 ∧ σ.2.2.2 904 0 12 = nI d - nI 1 ∧ (∀ t, t < d → ix (σ.2.2.2 904 0 (13 + t)) 3 ∧ pP σ t + t ≤ 2 ∧ ix (σ.2.2.2 904 0 (16 + t)) 13 ∧ pI σ t ≤ gs σ (pP σ t)) ∧ ∀ t, t < d → nda σ t = true → t + 1 = d ∧ σ.2.2.2 904 0 4 = 0
theorem k12 {d : Nat} {σ : St} (h : KI (d + 1) σ) : σ.2.2.2 904 0 12 = nI d := by
  rw [h.2.1, pk_sub (by omega)]
  rfl
theorem nda_eq {σ σ' : St} (h1 : σ'.2.2.2 901 = σ.2.2.2 901) {t : Nat} (h2 : pP σ' t = pP σ t) (h3 : pI σ' t = pI σ t) : nda σ' t = nda σ t := by
  unfold nda
  rw [gs_eq h1, gi_eq h1, h2, h3]
