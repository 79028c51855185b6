theorem up3_r {α : Type} {f : Nat → Nat → Nat → α} {F k i F' k' : Nat} {v : α} (h : ¬ (F' = F ∧ k' = k)) : up3 f F k i v F' k' = f F' k' := up3_n h
/-! what a run leaves alone -/
def RF (kr ku km : Nat) (t9 : Int32) (σ σ' : St) : Prop := (∀ F k, ¬ (F = 900 ∧ k = kr) → σ'.2.2.1 F k = σ.2.2.1 F k) ∧ (∀ F k, ¬ (F = 904 ∧ k = 0) → ¬ (F = 902 ∧ k = ku) → ¬ (F = 903 ∧ k = km) → σ'.2.2.2 F k = σ.2.2.2 F k) ∧ (∀ i, i % 9 ≠ 2 → σ'.2.2.2 902 ku i = σ.2.2.2 902 ku i) ∧ (∀ i, 2 ≤ i → σ'.2.2.2 903 km i = σ.2.2.2 903 km i) ∧ (t9 = 0 → ∀ F, F ≠ 904 → σ'.2.2.2 F = σ.2.2.2 F)
section RFs
variable {kr ku km : Nat} {t9 : Int32} {σ σ' σ2 : St}
theorem RF.rf : RF kr ku km t9 σ σ := ⟨fun _ _ _ => rfl, fun _ _ _ _ _ => rfl, fun _ _ => rfl, fun _ _ => rfl, fun _ _ _ => rfl⟩
theorem RF.tr (h : RF kr ku km t9 σ σ') (g : RF kr ku km t9 σ' σ2) : RF kr ku km t9 σ σ2 := ⟨fun F k a => (g.1 F k a).trans (h.1 F k a), fun F k a b c => (g.2.1 F k a b c).trans (h.2.1 F k a b c), fun i a => (g.2.2.1 i a).trans (h.2.2.1 i a), fun i a => (g.2.2.2.1 i a).trans (h.2.2.2.1 i a), fun z F a => (g.2.2.2.2 z F a).trans (h.2.2.2.2 z F a)⟩
theorem RF.e (h : RF kr ku km t9 σ σ') {i : Nat} {v : Int32} : RF kr ku km t9 σ (wB σ' 904 0 i v) := h.tr ⟨fun _ _ _ => rfl, fun F k a _ _ => up3_r a, fun _ _ => rfl, fun _ _ => rfl, fun _ F a => if_neg a⟩
theorem RF.c (h : RF kr ku km t9 σ σ') {i v : Nat} : RF kr ku km t9 σ (wA σ' 900 kr i v) := h.tr ⟨fun F k a => up3_r a, fun _ _ _ _ _ => rfl, fun _ _ => rfl, fun _ _ => rfl, fun _ _ _ => rfl⟩
theorem RF.u (ht : ¬ t9 = 0) (h : RF kr ku km t9 σ σ') {T : Nat} {v : Int32} : RF kr ku km t9 σ (wB σ' 902 ku (9 * T + 2) v) := h.tr ⟨fun _ _ _ => rfl, fun F k _ a _ => up3_r a, fun i hi => e_ne (by omega), fun _ _ => rfl, fun z => absurd z ht⟩
theorem RF.m (ht : ¬ t9 = 0) (h : RF kr ku km t9 σ σ') {i : Nat} {v : Int32} (hi : i < 2) : RF kr ku km t9 σ (wB σ' 903 km i v) := h.tr ⟨fun _ _ _ => rfl, fun F k _ _ a => up3_r a, fun _ _ => rfl, fun j hj => e_ne (by omega), fun z => absurd z ht⟩
theorem RF_step (fr : Nat) : RF kr ku km t9 σ (h_step kr ku km fr t9 σ).2 := by
  unfold h_step
  split
  · exact RF.rf.e
  · split
    · exact RF.rf
    · split
      · exact RF.rf.e
      · split
        · exact RF.rf
        · split
          · split
            · exact RF.rf.e.c.e
            · rename_i ht
              split
              · exact (RF.m ht (RF.m ht (RF.u ht RF.rf.e.c.c) (by decide)) (by decide)).e
              · exact RF.rf
          · exact RF.rf
theorem RF_mv (fr a to : Nat) : ∀ (f : Nat) (σ : St), RF kr ku km t9 σ (h_mv kr ku km fr t9 a to f σ).2
  | 0, σ => RF.rf
  | f + 1, σ => by
    have h1 : RF kr ku km t9 σ (h_step kr ku km fr t9 (wB σ 904 0 a (nI (m_nx (tn (σ.2.2.2 904 0 a)) to)))).2 := (RF.rf.e).tr (RF_step fr)
    unfold h_mv
    split
    · exact h1.tr (RF_mv fr a to f _)
    · exact h1
theorem RF_move (fr a : Nat) (v : Int32) : RF kr ku km t9 σ (h_move kr ku km fr t9 a v σ).2 := by
  unfold h_move
  split
  · exact RF_mv _ _ _ _ _
  · exact RF.rf
theorem RF_bk (tp fr : Nat) : RF kr ku km t9 σ (h_bk kr ku km tp fr t9 σ).2 := by
  have hA : RF kr ku km t9 σ (h_adv tp σ) := RF.rf.e.e
  unfold h_bk
  split
  · exact RF.rf.e
  · split
    · exact RF.rf
    · split
      · exact hA.e.e.e
      · split
        · split
          · exact hA.e
          · exact hA
        · split
          · exact hA.e
          · exact hA.tr (RF_move _ _ _)
theorem RF_rl (fr : Nat) : ∀ (f : Nat) (σ : St), RF kr ku km t9 σ (h_rl kr ku km fr t9 f σ).2
  | 0, σ => RF.rf
  | f + 1, σ => by
    unfold h_rl
    split
    · exact RF.rf
    · split
      · exact (RF_bk _ fr).tr (RF_rl fr f _)
      · exact RF_bk _ fr
theorem RF_ini : ∀ n, RF kr ku km t9 σ (h_ini n σ)
  | 0 => RF.rf
  | n + 1 => (RF_ini n).e
theorem RF_run (pr fr : Nat) : RF kr ku km t9 σ (h_run kr ku km pr fr t9 σ).2 := ((RF_ini 20).e).tr (RF_rl fr 2000 _)
end RFs
theorem rl_all {kr ku km fr : Nat} {t9 : Int32} : ∀ (f d : Nat) (σ : St), 2 * (601 - tn (σ.2.2.2 904 0 7)) + d + 1 ≤ f → LI kr ku km σ → GI σ → KI d σ → ix (σ.2.2.2 904 0 6) 80000 → ix (σ.2.2.2 904 0 7) 601 → tn (σ.2.2.2 904 0 6) ≤ 11 * tn (σ.2.2.2 904 0 7) → LI kr ku km (h_rl kr ku km fr t9 f σ).2 ∧ ix ((h_rl kr ku km fr t9 f σ).2.2.2.2 904 0 6) 80000
  | 0, d, σ, hf, _, _, _, _, _, _ => absurd hf (by omega)
  | f + 1, d, σ, hf, hs, hg, hk, h6, h7, h67 => by
    unfold h_rl
    split
    · exact ⟨hs, h6⟩
    · rename_i c
      obtain ⟨tp, rfl⟩ : ∃ tp, d = tp + 1 := ⟨d - 1, by have := mt (k12_0 hk).mpr c; omega⟩
      rw [k12_t hk]
      have hb := blk_all (fr := fr) (t9 := t9) hs hg hk h6 h7 h67
      split
      · rename_i c2
        obtain ⟨d8, k1, k2⟩ := hb.2.2.2.2.2 c2
        exact rl_all f d8 _ (by omega) hb.1 (hg.eq hb.2.1) k1 hb.2.2.1 hb.2.2.2.1 hb.2.2.2.2.1
      · exact ⟨hb.1, hb.2.2.1⟩
theorem run_all {kr ku km pr fr : Nat} {t9 : Int32} {σ : St} (hj : LJ kr ku km σ) (hg : GI σ) (hpr : pr < 3) : LJ kr ku km (h_run kr ku km pr fr t9 σ).2 ∧ ix ((h_run kr ku km pr fr t9 σ).2.2.2.2 904 0 6) 80000 := by
  have q := rl_all (fr := fr) (t9 := t9) 2000 1 (h_st pr σ) (by rw [st_j pr σ (by decide) (by decide)]; decide) (LI_st hj) (hg.eq (st_F pr σ (by decide))) (KI_st hpr) (by rw [st_j pr σ (by decide) (by decide)]; decide) (by rw [st_j pr σ (by decide) (by decide)]; decide) (by rw [st_j pr σ (by decide) (by decide), st_j pr σ (by decide) (by decide)]; decide)
  exact ⟨q.1.lj, q.2⟩
/-! a night in the law's own rows -/
def h_kr (ka kb p : Nat) : Nat := if p = 0 then ka else kb
def h_n1 (ka kb ku km kq : Nat) (σ : St) : Int32 × St := ((h_run (h_kr ka kb (tn (σ.2.2.2 905 kq 8))) ku km (tn (σ.2.2.2 905 kq (4 * tn (σ.2.2.2 905 kq 8) + 1))) (tn (σ.2.2.2 905 kq (4 * tn (σ.2.2.2 905 kq 8) + 2))) (nI 1) σ).1, wB (h_run (h_kr ka kb (tn (σ.2.2.2 905 kq 8))) ku km (tn (σ.2.2.2 905 kq (4 * tn (σ.2.2.2 905 kq 8) + 1))) (tn (σ.2.2.2 905 kq (4 * tn (σ.2.2.2 905 kq 8) + 2))) (nI 1) σ).2 905 kq (4 * tn (σ.2.2.2 905 kq 8) + 2) ((h_run (h_kr ka kb (tn (σ.2.2.2 905 kq 8))) ku km (tn (σ.2.2.2 905 kq (4 * tn (σ.2.2.2 905 kq 8) + 1))) (tn (σ.2.2.2 905 kq (4 * tn (σ.2.2.2 905 kq 8) + 2))) (nI 1) σ).2.2.2.2 904 0 6))
def h_n2 (kq p : Nat) (σ : St) : St := wB (wB (wB σ 905 kq (4 * p) (nI 2)) 905 kq 8 (σ.2.2.2 905 kq 9)) 905 kq 10 (nI (tn (σ.2.2.2 905 kq 10) - 1))
def h_ngl (ka kb ku km kq : Nat) : Nat → Nat → St → Nat × St
  | 0, n, σ => (n, σ)
  | f + 1, n, σ => if (h_n1 ka kb ku km kq σ).1 = 0 then (if tn (σ.2.2.2 905 kq 10) = 1 then (n + 1, h_n2 kq (tn (σ.2.2.2 905 kq 8)) (h_n1 ka kb ku km kq σ).2) else h_ngl ka kb ku km kq f (n + 1) (h_n2 kq (tn (σ.2.2.2 905 kq 8)) (h_n1 ka kb ku km kq σ).2)) else (n, (h_n1 ka kb ku km kq σ).2)
def h_night (ka kb ku km kq : Nat) (σ : St) : Nat × St := if tn (σ.2.2.2 905 kq 10) = 0 then (0, σ) else h_ngl ka kb ku km kq 2 0 σ
/-- what holds of the rows ahead of a night -/
def NI (ka kb ku km kq : Nat) (σ : St) : Prop := LJ ka ku km σ ∧ LJ kb ku km σ ∧ GI σ ∧ (11 ≤ σ.2.2.1 905 kq 0 ∧ σ.2.2.1 905 kq 0 < 1000) ∧ ix (σ.2.2.2 905 kq 10) 3 ∧ ∀ i, i < tn (σ.2.2.2 905 kq 10) → ix (σ.2.2.2 905 kq (8 + i)) 2 ∧ ix (σ.2.2.2 905 kq (4 * tn (σ.2.2.2 905 kq (8 + i)) + 1)) 3 ∧ ix (σ.2.2.2 905 kq (4 * tn (σ.2.2.2 905 kq (8 + i)) + 2)) 100000
theorem LJ.rf {ka kr ku km : Nat} {t9 : Int32} {σ σ' : St} (h : LJ ka ku km σ) (hk : LJ kr ku km σ') (f : RF kr ku km t9 σ σ') : LJ ka ku km σ' := by
  refine ⟨hk.1, hk.2.1, fun i => ?_, hk.2.2.2⟩
  by_cases e : ka = kr
  · rw [e]; exact hk.2.2.1 i
  · rw [f.1 900 ka (fun z => e z.2)]; exact h.2.2.1 i
theorem LJ.q {kr ku km kq i : Nat} {v : Int32} {σ : St} (h : LJ kr ku km σ) : LJ kr ku km (wB σ 905 kq i v) := h
theorem LJ.k {ka kb p ku km : Nat} {σ : St} (h : LJ ka ku km σ) (h2 : LJ kb ku km σ) : LJ (h_kr ka kb p) ku km σ := by
  unfold h_kr
  split
  · exact h
  · exact h2
theorem NI_n1 {ka kb ku km kq : Nat} {σ : St} (h : NI ka kb ku km kq σ) (h0 : 0 < tn (σ.2.2.2 905 kq 10)) : LJ ka ku km (h_n1 ka kb ku km kq σ).2 ∧ LJ kb ku km (h_n1 ka kb ku km kq σ).2 ∧ GI (h_n1 ka kb ku km kq σ).2 ∧ (h_n1 ka kb ku km kq σ).2.2.2.1 905 kq = σ.2.2.1 905 kq ∧ (∀ i, i ≠ 4 * tn (σ.2.2.2 905 kq 8) + 2 → (h_n1 ka kb ku km kq σ).2.2.2.2 905 kq i = σ.2.2.2 905 kq i) ∧ ix ((h_n1 ka kb ku km kq σ).2.2.2.2 905 kq (4 * tn (σ.2.2.2 905 kq 8) + 2)) 80000 := by
  obtain ⟨ha, hb, hg, hq, h10, hi⟩ := h
  have h8 := hi 0 h0
  have f := RF_run (kr := h_kr ka kb (tn (σ.2.2.2 905 kq 8))) (ku := ku) (km := km) (t9 := nI 1) (σ := σ) (tn (σ.2.2.2 905 kq (4 * tn (σ.2.2.2 905 kq 8) + 1))) (tn (σ.2.2.2 905 kq (4 * tn (σ.2.2.2 905 kq 8) + 2)))
  have q := run_all (fr := tn (σ.2.2.2 905 kq (4 * tn (σ.2.2.2 905 kq 8) + 2))) (t9 := nI 1) (LJ.k (p := tn (σ.2.2.2 905 kq 8)) ha hb) hg (ix_lt h8.2.1)
  unfold h_n1
  generalize h_run (h_kr ka kb (tn (σ.2.2.2 905 kq 8))) ku km (tn (σ.2.2.2 905 kq (4 * tn (σ.2.2.2 905 kq 8) + 1))) (tn (σ.2.2.2 905 kq (4 * tn (σ.2.2.2 905 kq 8) + 2))) (nI 1) σ = X at f q ⊢
  have eQ : X.2.2.2.2 905 kq = σ.2.2.2 905 kq := f.2.1 905 kq (fun z => absurd z.1 (by decide)) (fun z => absurd z.1 (by decide)) (fun z => absurd z.1 (by decide))
  have eG : X.2.2.2.2 901 = σ.2.2.2 901 := funext fun k => f.2.1 901 k (fun z => absurd z.1 (by decide)) (fun z => absurd z.1 (by decide)) (fun z => absurd z.1 (by decide))
  refine ⟨LJ.q (ha.rf q.1 f), LJ.q (hb.rf q.1 f), hg.eq eG, f.1 905 kq (fun z => absurd z.1 (by decide)), fun i hi => ?_, ?_⟩
  · show (wB X.2 905 kq _ _).2.2.2 905 kq i = _
    rw [e_ne hi, eQ]
  · show ix ((wB X.2 905 kq _ _).2.2.2 905 kq _) 80000
    rw [wB_s, up1_s]
    exact q.2
theorem NI_n2 {ka kb ku km kq : Nat} {σ : St} (h : NI ka kb ku km kq σ) (h0 : 0 < tn (σ.2.2.2 905 kq 10)) : NI ka kb ku km kq (h_n2 kq (tn (σ.2.2.2 905 kq 8)) (h_n1 ka kb ku km kq σ).2) ∧ tn ((h_n2 kq (tn (σ.2.2.2 905 kq 8)) (h_n1 ka kb ku km kq σ).2).2.2.2 905 kq 10) = tn (σ.2.2.2 905 kq 10) - 1 := by
  have q := NI_n1 h h0
  obtain ⟨ha, hb, hg, hq, h10, hi⟩ := h
  have b10 := ix_lt h10
  have b8 := ix_lt (hi 0 h0).1
  have b8 : tn (σ.2.2.2 905 kq 8) < 2 := b8
  generalize (h_n1 ka kb ku km kq σ).2 = X at q ⊢
  obtain ⟨q1, q2, q3, q4, q5, q6⟩ := q
  have e10 : X.2.2.2 905 kq 10 = σ.2.2.2 905 kq 10 := q5 10 (by omega)
  have f10 : (h_n2 kq (tn (σ.2.2.2 905 kq 8)) X).2.2.2 905 kq 10 = nI (tn (σ.2.2.2 905 kq 10) - 1) := by
    unfold h_n2
    rw [wB_s, up1_s, e10]
  have f8 : (h_n2 kq (tn (σ.2.2.2 905 kq 8)) X).2.2.2 905 kq 8 = σ.2.2.2 905 kq 9 := by
    unfold h_n2
    rw [e_ne (by omega), wB_s, up1_s, q5 9 (by omega)]
  have fj : ∀ j, j < 8 → j ≠ 4 * tn (σ.2.2.2 905 kq 8) → (h_n2 kq (tn (σ.2.2.2 905 kq 8)) X).2.2.2 905 kq j = X.2.2.2 905 kq j := fun j h1 h2 => by
    unfold h_n2
    rw [e_ne (by omega), e_ne (by omega), e_ne h2]
  have e9 : tn ((h_n2 kq (tn (σ.2.2.2 905 kq 8)) X).2.2.2 905 kq 10) = tn (σ.2.2.2 905 kq 10) - 1 := by rw [f10, tn_nI (by omega)]
  refine ⟨⟨q1, q2, q3, by show 11 ≤ X.2.2.1 905 kq 0 ∧ X.2.2.1 905 kq 0 < 1000; rw [q4]; exact hq, by rw [f10]; exact (ix_nI (by omega)).mpr (by omega), fun i hi2 => ?_⟩, e9⟩
  rw [e9] at hi2
  obtain rfl : i = 0 := by omega
  have h9 := hi 1 (by omega)
  have b9 : tn (σ.2.2.2 905 kq 9) < 2 := ix_lt h9.1
  rw [show 8 + 0 = 8 from rfl, f8, fj _ (by omega) (by omega), fj _ (by omega) (by omega)]
  refine ⟨h9.1, by rw [q5 _ (by omega)]; exact h9.2.1, ?_⟩
  by_cases z : tn (σ.2.2.2 905 kq 9) = tn (σ.2.2.2 905 kq 8)
  · rw [z]; exact ix_up q6 (by decide)
  · rw [q5 _ (by omega)]; exact h9.2.2
