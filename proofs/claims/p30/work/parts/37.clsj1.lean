/-! THE WALK'S INVARIANT, and what the walk leaves as it is -/
def gmx (a : Nat) : Nat := if a = 2 then 9 else 11
def WS (σ : St) : Prop := σ.1 706 0 ≤ 600 ∧ σ.1 704 0 < 3 ∧ σ.1 705 0 ≤ gmx (σ.1 704 0) ∧ ∀ a, a < 3 → σ.2.2.1 703 0 a ≤ gmx a
def WL (σ : St) : Prop := CI σ ∧ σ.1 1002 7 ≤ 6 ∧ ¬ σ.1 1003 7 = 0 ∧ (∀ k, σ.1 402 k ≤ 30) ∧ ∀ k, σ.2.2.1 702 0 k ≤ 30
/-- all but the walk's own fields is as it was -/
def FW (σ σ' : St) : Prop := (∀ F k, ¬ (704 ≤ F ∧ F ≤ 710) → ¬ ((F = 1000 ∨ F = 1001 ∨ F = 1002) ∧ k = 7) → σ'.1 F k = σ.1 F k ∧ σ'.2.1 F k = σ.2.1 F k) ∧ (∀ F k, F ≠ 702 → F ≠ 703 → ¬ (F = 1001 ∧ k = 7) → σ'.2.2.1 F k = σ.2.2.1 F k) ∧ σ'.2.2.2 = σ.2.2.2
theorem FW.rf {σ : St} : FW σ σ := ⟨fun _ _ _ _ => ⟨rfl, rfl⟩, fun _ _ _ _ _ => rfl, rfl⟩
theorem FW.tr {σ σ1 σ2 : St} (h : FW σ σ1) (g : FW σ1 σ2) : FW σ σ2 := ⟨fun F k a b => ⟨(g.1 F k a b).1.trans (h.1 F k a b).1, (g.1 F k a b).2.trans (h.1 F k a b).2⟩, fun F k a b d => (g.2.1 F k a b d).trans (h.2.1 F k a b d), g.2.2.trans h.2.2⟩
theorem FW.dom {σ σ' : St} (h : FW σ σ') : cdom σ' = cdom σ := cdom_eq2 (fun j _ h7 => (h.1 1002 j (by omega) (by omega)).1) (fun j => (h.1 1003 j (by omega) (by omega)).1)
theorem fw_wN {σ : St} {F0 k0 v : Nat} (h : 704 ≤ F0 ∧ F0 ≤ 710) : FW σ (wN σ F0 k0 v) := ⟨fun F k a _ => ⟨up2_n (fun z => a (by rw [z.1]; exact h)), rfl⟩, fun _ _ _ _ _ => rfl, rfl⟩
theorem fw_wI {σ : St} {F0 k0 : Nat} {v : Int32} (h : 704 ≤ F0 ∧ F0 ≤ 710) : FW σ (wI σ F0 k0 v) := ⟨fun F k a _ => ⟨rfl, up2_n (fun z => a (by rw [z.1]; exact h))⟩, fun _ _ _ _ _ => rfl, rfl⟩
theorem fw_wA {σ : St} {F0 k0 i v : Nat} (h : F0 = 702 ∨ F0 = 703) : FW σ (wA σ F0 k0 i v) := ⟨fun _ _ _ _ => ⟨rfl, rfl⟩, fun F k a b _ => up3_n (fun z => by omega), rfl⟩
theorem offl_fw {σ σ' : St} {L L' : Lay} (h : OffL 7 L L' σ σ') (hc : σ'.1 1003 7 = σ.1 1003 7) (hi : σ'.2.1 1003 7 = σ.2.1 1003 7) (hB : σ'.2.2.2 = σ.2.2.2) : FW σ σ' := ⟨fun F k a b => by
  by_cases e : F = 1003 ∧ k = 7
  · obtain ⟨rfl, rfl⟩ := e
    exact ⟨hc, hi⟩
  · exact h.1 F k (by omega), fun F k _ _ d => (h.2.1 F k d).1, hB⟩
theorem fw_lrem {σ : St} {i : Nat} : FW σ (lrem 7 i σ) := offl_fw (lrem_off 7 i (fun _ _ => 0) σ) (lrem_C 7 i σ) (by simp [lrem, up2]) rfl
theorem fw_lclr {σ : St} : FW σ (lclr 7 σ) := offl_fw (lclr_off 7 (fun _ _ => 0) σ) (lclr_C 7 σ) (by simp [lclr, up2]) rfl
theorem fw_ladd {σ : St} {x : Nat} (h : ¬ σ.1 1002 7 = σ.1 1003 7) : FW σ (ladd 7 x σ) := offl_fw (ladd_off 7 x 0 (fun _ _ => 0) σ) ((ladd_C 7 x σ).trans (if_neg h)) (by simp [ladd, wA, wI, wN, up2]) rfl
theorem fw_lv {σ : St} : ∀ d, FW σ (k_lv d σ) := fun d => by
  induction d generalizing σ with
  | zero => exact FW.rf
  | succ d ih =>
    show FW σ (if _ then σ else k_lv d (lrem 7 d σ))
    by_cases c : σ.2.2.1 702 0 d < σ.1 402 (σ.2.2.1 1001 7 d)
    · rw [if_pos c]; exact FW.rf
    · rw [if_neg c]; exact fw_lrem.tr ih
theorem fw_ent {σ : St} {v : Int32} (h7 : σ.1 1002 7 < 6 → ¬ σ.1 1002 7 = σ.1 1003 7) : FW σ (k_ent v σ) := by
  unfold k_ent
  split
  · rename_i c
    exact (fw_wA (Or.inl rfl)).tr (fw_ladd (h7 c.2))
  · exact FW.rf
theorem fw_aim {σ : St} {a m : Nat} {v : Int32} : FW σ (k_aim a m v σ) := by
  unfold k_aim
  generalize (if σ.2.1 708 0 = 0 then v else nI (σ.2.2.1 703 0 a) + v) = t
  repeat' split
  · exact fw_wI ⟨by decide, by decide⟩
  · exact (fw_wN ⟨by decide, by decide⟩).tr (fw_wN ⟨by decide, by decide⟩)
  · exact fw_wI ⟨by decide, by decide⟩
theorem fw_chg {σ : St} {v : Int32} : FW σ (k_chg v σ) := by
  unfold k_chg
  repeat' split
  · exact fw_wI ⟨by decide, by decide⟩
  · exact fw_wI ⟨by decide, by decide⟩
theorem fw_wv {σ : St} {w v : Int32} (h7 : σ.1 1002 7 < 6 → ¬ σ.1 1002 7 = σ.1 1003 7) : FW σ (k_wv w v σ) := by
  unfold k_wv
  repeat' split
  · exact fw_wI ⟨by decide, by decide⟩
  · exact fw_wI ⟨by decide, by decide⟩
  · exact fw_aim
  · exact fw_aim
  · exact fw_aim
  · exact fw_chg
  · exact fw_ent h7
  · exact FW.rf
theorem fw_obey {σ : St} {k : Nat} (h7 : σ.1 1002 7 < 6 → ¬ σ.1 1002 7 = σ.1 1003 7) : FW σ (k_obey k σ) := by
  unfold k_obey
  split
  · exact fw_wI ⟨by decide, by decide⟩
  · exact ((fw_wN ⟨by decide, by decide⟩).tr (fw_wA (Or.inl rfl))).tr (fw_wv h7)
theorem wl_c7 {σ : St} (h : WL σ) : σ.1 1002 7 < 6 → ¬ σ.1 1002 7 = σ.1 1003 7 := fun h6 e => by
  have := h.1.1 7 (by decide)
  have := h.2.2.1
  omega
/-! the lists' part stays -/
/-- .. and the trial's fields -/
def FT (σ σ' : St) : Prop := (∀ F k, ¬ (602 ≤ F ∧ F ≤ 604) → ¬ (704 ≤ F ∧ F ≤ 710) → ¬ ((F = 1000 ∨ F = 1001 ∨ F = 1002) ∧ k = 7) → σ'.1 F k = σ.1 F k ∧ σ'.2.1 F k = σ.2.1 F k) ∧ (∀ F k, F ≠ 702 → F ≠ 703 → F ≠ 601 → ¬ (F = 1001 ∧ k = 7) → σ'.2.2.1 F k = σ.2.2.1 F k) ∧ ∀ F k, F ≠ 600 → σ'.2.2.2 F k = σ.2.2.2 F k
theorem FT.rf {σ : St} : FT σ σ := ⟨fun _ _ _ _ _ => ⟨rfl, rfl⟩, fun _ _ _ _ _ _ => rfl, fun _ _ _ => rfl⟩
theorem FT.tr {σ σ1 σ2 : St} (h : FT σ σ1) (g : FT σ1 σ2) : FT σ σ2 := ⟨fun F k a b c => ⟨(g.1 F k a b c).1.trans (h.1 F k a b c).1, (g.1 F k a b c).2.trans (h.1 F k a b c).2⟩, fun F k a b d e => (g.2.1 F k a b d e).trans (h.2.1 F k a b d e), fun F k a => (g.2.2 F k a).trans (h.2.2 F k a)⟩
theorem FW.ft {σ σ' : St} (h : FW σ σ') : FT σ σ' := ⟨fun F k _ b c => h.1 F k b c, fun F k a b _ d => h.2.1 F k a b d, fun F k _ => by rw [h.2.2]⟩
theorem FT.dom {σ σ' : St} (h : FT σ σ') : cdom σ' = cdom σ := cdom_eq2 (fun j _ h7 => (h.1 1002 j (by omega) (by omega) (by omega)).1) (fun j => (h.1 1003 j (by omega) (by omega) (by omega)).1)
theorem ft_wN {σ : St} {F0 k0 v : Nat} (h : 602 ≤ F0 ∧ F0 ≤ 604) : FT σ (wN σ F0 k0 v) := ⟨fun F k a _ _ => ⟨up2_n (fun z => a (by rw [z.1]; exact h)), rfl⟩, fun _ _ _ _ _ _ => rfl, fun _ _ _ => rfl⟩
theorem ft_wI {σ : St} {F0 k0 : Nat} {v : Int32} (h : 602 ≤ F0 ∧ F0 ≤ 604) : FT σ (wI σ F0 k0 v) := ⟨fun F k a _ _ => ⟨rfl, up2_n (fun z => a (by rw [z.1]; exact h))⟩, fun _ _ _ _ _ _ => rfl, fun _ _ _ => rfl⟩
theorem ft_wA {σ : St} {k0 i v : Nat} : FT σ (wA σ 601 k0 i v) := ⟨fun _ _ _ _ _ => ⟨rfl, rfl⟩, fun F k _ _ c _ => up3_n (fun z => c z.1), fun _ _ _ => rfl⟩
theorem ft_wB {σ : St} {k0 i : Nat} {v : Int32} : FT σ (wB σ 600 k0 i v) := ⟨fun _ _ _ _ _ => ⟨rfl, rfl⟩, fun _ _ _ _ _ _ => rfl, fun F k c => up3_n (fun z => c z.1)⟩
theorem wl_ofT {σ σ' : St} (h : WL σ) (hF : FT σ σ') (h7 : σ'.1 1002 7 ≤ 6) (hA : ∀ i, i < σ'.1 1002 7 → σ'.2.2.1 1001 7 i < σ.1 1002 6) (hn : ∀ k, σ'.2.2.1 702 0 k ≤ 30) : WL σ' := by
  have e2 : ∀ j, j ≠ 7 → σ'.1 1002 j = σ.1 1002 j := fun j e => (hF.1 1002 j (by omega) (by omega) (by omega)).1
  have e3 : ∀ j, σ'.1 1003 j = σ.1 1003 j := fun j => (hF.1 1003 j (by omega) (by omega) (by omega)).1
  refine ⟨⟨fun j hj => ?_, fun j hj i hi => ?_⟩, h7, by rw [e3]; exact h.2.2.1, fun k => by rw [(hF.1 402 k (by omega) (by omega) (by omega)).1]; exact h.2.2.2.1 k, hn⟩
  · obtain ⟨a, b, d⟩ := h.1.1 j hj
    rw [e3]
    refine ⟨?_, b, d⟩
    by_cases e : j = 7
    · subst e
      have := h.2.2.1
      omega
    · rw [e2 j e]; exact a
  · by_cases e : j = 7
    · subst e
      rw [e2 (lj 7) (by decide)]
      exact hA i hi
    · rw [e2 j e] at hi
      rw [e2 _ (lj_ne j hj), hF.2.1 1001 j (by decide) (by decide) (by decide) (fun z => e z.2)]
      exact h.1.2 j hj i hi
theorem wl_of {σ σ' : St} (h : WL σ) (hF : FW σ σ') (h7 : σ'.1 1002 7 ≤ 6) (hA : ∀ i, i < σ'.1 1002 7 → σ'.2.2.1 1001 7 i < σ.1 1002 6) (hn : ∀ k, σ'.2.2.1 702 0 k ≤ 30) : WL σ' := wl_ofT h hF.ft h7 hA hn
theorem wl_smT {σ σ' : St} (h : WL σ) (hF : FT σ σ') (h2 : σ'.1 1002 7 = σ.1 1002 7) (hA : σ'.2.2.1 1001 7 = σ.2.2.1 1001 7) (hn : σ'.2.2.1 702 0 = σ.2.2.1 702 0) : WL σ' := wl_ofT h hF (by rw [h2]; exact h.2.1) (fun i hi => by rw [hA]; exact h.1.2 7 (by decide) i (by rw [← h2]; exact hi)) (fun k => by rw [hn]; exact h.2.2.2.2 k)
theorem wl_sm {σ σ' : St} (h : WL σ) (hF : FW σ σ') (h2 : σ'.1 1002 7 = σ.1 1002 7) (hA : σ'.2.2.1 1001 7 = σ.2.2.1 1001 7) (hn : ∀ k, σ'.2.2.1 702 0 k ≤ 30) : WL σ' := wl_of h hF (by rw [h2]; exact h.2.1) (fun i hi => by rw [hA]; exact h.1.2 7 (by decide) i (by rw [← h2]; exact hi)) hn
theorem lv_facts : ∀ (d : Nat) (σ : St), σ.1 1002 7 = d → (k_lv d σ).1 1002 7 ≤ d ∧ (∀ i, i < (k_lv d σ).1 1002 7 → (k_lv d σ).2.2.1 1001 7 i = σ.2.2.1 1001 7 i) ∧ (k_lv d σ).2.2.1 702 = σ.2.2.1 702 ∧ (¬ (k_lv d σ).1 1002 7 = 0 → σ.2.2.1 702 0 ((k_lv d σ).1 1002 7 - 1) < σ.1 402 (σ.2.2.1 1001 7 ((k_lv d σ).1 1002 7 - 1))) := fun d => by
  induction d with
  | zero => exact fun σ h => ⟨Nat.le_of_eq h, fun _ _ => rfl, rfl, fun z => absurd h z⟩
  | succ d ih =>
    intro σ h
    have e : k_lv (d + 1) σ = if σ.2.2.1 702 0 d < σ.1 402 (σ.2.2.1 1001 7 d) then σ else k_lv d (lrem 7 d σ) := rfl
    by_cases c : σ.2.2.1 702 0 d < σ.1 402 (σ.2.2.1 1001 7 d)
    · rw [e, if_pos c]
      exact ⟨Nat.le_of_eq h, fun _ _ => rfl, rfl, fun _ => by rw [h]; exact c⟩
    · rw [e, if_neg c]
      obtain ⟨h1, h2, h3, h4⟩ := ih (lrem 7 d σ) (by rw [lrem_N, h]; rfl)
      have hA : ∀ i, i < d → (lrem 7 d σ).2.2.1 1001 7 i = σ.2.2.1 1001 7 i := fun i hi => by rw [lrem_A]; exact if_pos hi
      have e4 : (lrem 7 d σ).1 402 = σ.1 402 := funext fun z => ((lrem_off 7 d (fun _ _ => 0) σ).1 402 z (fun y => by omega)).1
      have e7 : (lrem 7 d σ).2.2.1 702 = σ.2.2.1 702 := funext fun z => ((lrem_off 7 d (fun _ _ => 0) σ).2.1 702 z (fun y => by omega)).1
      refine ⟨by omega, fun i hi => (h2 i hi).trans (hA i (by omega)), h3.trans e7, fun z => ?_⟩
      have := h4 z
      rw [e4, e7, hA _ (by omega)] at this
      exact this
theorem wl_lv {σ : St} (h : WL σ) : WL (k_lv (σ.1 1002 7) σ) := by
  obtain ⟨h1, h2, h3, h4⟩ := lv_facts _ σ rfl
  refine wl_of h (fw_lv _) (Nat.le_trans h1 h.2.1) (fun i hi => by rw [h2 i hi]; exact h.1.2 7 (by decide) i (by omega)) (fun k => by rw [h3]; exact h.2.2.2.2 k)
theorem off_ws {σ σ' : St} (h : OffL 7 (fun _ _ => 0) (fun _ _ => 0) σ σ') (w : WS σ) : WS σ' := by
  unfold WS
  rw [(h.1 706 0 (fun z => by omega)).1, (h.1 704 0 (fun z => by omega)).1, (h.1 705 0 (fun z => by omega)).1, (h.2.1 703 0 (fun z => by omega)).1]
  exact w
theorem ws_lv : ∀ (d : Nat) {σ : St}, WS σ → WS (k_lv d σ) := fun d => by
  induction d with
  | zero => exact fun h => h
  | succ d ih =>
    intro σ h
    have e : k_lv (d + 1) σ = if σ.2.2.1 702 0 d < σ.1 402 (σ.2.2.1 1001 7 d) then σ else k_lv d (lrem 7 d σ) := rfl
    rw [e]
    split
    · exact h
    · exact ih (off_ws (lrem_off 7 d _ σ) h)
theorem wl_ent {σ : St} {v : Int32} (h : WL σ) : WL (k_ent v σ) := by
  by_cases c : ix v (σ.1 1002 6) ∧ σ.1 1002 7 < 6
  · have e : k_ent v σ = ladd 7 (σ.2.2.1 1001 6 (tn v)) (wA σ 702 0 (σ.1 1002 7) 0) := if_pos c
    have hF := fw_ent (v := v) (wl_c7 h)
    rw [e] at hF ⊢
    refine wl_of h hF (by rw [ladd_N]; exact c.2) (fun i hi => ?_) (fun k => ?_)
    · rw [ladd_A]
      rw [ladd_N] at hi
      by_cases e9 : i = σ.1 1002 7
      · subst e9
        have : up1 ((wA σ 702 0 (σ.1 1002 7) 0).2.2.1 1001 7) ((wA σ 702 0 (σ.1 1002 7) 0).1 1002 7) (σ.2.2.1 1001 6 (tn v)) (σ.1 1002 7) = σ.2.2.1 1001 6 (tn v) := up1_s
        rw [this]
        exact h.1.2 6 (by decide) _ (ix_lt c.1)
      · have : up1 ((wA σ 702 0 (σ.1 1002 7) 0).2.2.1 1001 7) ((wA σ 702 0 (σ.1 1002 7) 0).1 1002 7) (σ.2.2.1 1001 6 (tn v)) i = σ.2.2.1 1001 7 i := (up1_n e9).trans (by simp [wA, wN, wI, wB, up3, up2, up1])
        rw [this]
        exact h.1.2 7 (by decide) i (by have hi : i < σ.1 1002 7 + 1 := hi; omega)
    · have : (ladd 7 (σ.2.2.1 1001 6 (tn v)) (wA σ 702 0 (σ.1 1002 7) 0)).2.2.1 702 0 = up1 (σ.2.2.1 702 0) (σ.1 1002 7) 0 := (((ladd_off 7 _ 0 (fun _ _ => 0) (wA σ 702 0 (σ.1 1002 7) 0)).2.1 702 0 (fun z => by omega)).1).trans (by simp [wA, wN, wI, wB, up3, up2, up1])
      rw [this]
      exact up1_le h.2.2.2.2 (Nat.zero_le _) k
  · rw [show k_ent v σ = σ from if_neg c]
    exact h
theorem ws_ent {σ : St} {v : Int32} (w : WS σ) : WS (k_ent v σ) := by
  unfold k_ent
  split
  · exact off_ws (σ := wA σ 702 0 (σ.1 1002 7) 0) ⟨(ladd_off 7 _ 0 (fun _ _ => 0) _).1, (ladd_off 7 _ 0 (fun _ _ => 0) _).2.1, fun _ _ _ => rfl⟩ (by
      unfold WS
      have e9 : (wA σ 702 0 (σ.1 1002 7) 0).2.2.1 703 0 = σ.2.2.1 703 0 := (by simp [wA, wN, wI, wB, up3, up2, up1])
      rw [e9]
      exact w)
  · exact w
theorem ws_710 {σ : St} {v : Int32} {F : Nat} (w : WS σ) : WS (wI σ F 0 v) := w
theorem ws_aim {σ : St} {a : Nat} {v : Int32} (ha : a < 3) (w : WS σ) : WS (k_aim a (gmx a) v σ) := by
  unfold k_aim
  generalize (if σ.2.1 708 0 = 0 then v else nI (σ.2.2.1 703 0 a) + v) = t
  by_cases c : t < 0
  · rw [if_pos c]; exact w
  · rw [if_neg c]
    by_cases c2 : t ≤ nI (gmx a)
    · rw [if_pos c2]
      have e4 : (wN (wN σ 704 0 a) 705 0 (tn t)).1 704 0 = a := (by simp [wA, wN, wI, wB, up3, up2, up1])
      have e5 : (wN (wN σ 704 0 a) 705 0 (tn t)).1 705 0 = tn t := (by simp [wA, wN, wI, wB, up3, up2, up1])
      have e6 : (wN (wN σ 704 0 a) 705 0 (tn t)).1 706 0 = σ.1 706 0 := (by simp [wA, wN, wI, wB, up3, up2, up1])
      refine ⟨by rw [e6]; exact w.1, by rw [e4]; exact ha, ?_, w.2.2.2⟩
      rw [e4, e5]
      rw [tn_ge c] at c2
      have hg : gmx a < 2147483648 := by unfold gmx; split <;> decide
      have hr := fb_rng t
      exact (nI_leI (by unfold tn; omega) hg).mp c2
    · rw [if_neg c2]; exact w
theorem ws_chg {σ : St} {v : Int32} (w : WS σ) : WS (k_chg v σ) := by
  unfold k_chg
  split
  · exact w
  · exact w
theorem ws_wv {σ : St} {v x : Int32} (w : WS σ) : WS (k_wv x v σ) := by
  unfold k_wv
  repeat' split
  · exact w
  · exact w
  · exact ws_aim (a := 0) (by decide) w
  · exact ws_aim (a := 1) (by decide) w
  · exact ws_aim (a := 2) (by decide) w
  · exact ws_chg w
  · exact ws_ent w
  · exact w
theorem ws_obey {σ : St} {k : Nat} (w : WS σ) : WS (k_obey k σ) := by
  unfold k_obey
  split
  · exact w
  · rename_i c
    refine ws_wv ?_
    unfold WS
    have e6 : (wA (wN σ 706 0 (σ.1 706 0 + 1)) 702 0 k (σ.2.2.1 702 0 k + 1)).1 706 0 = σ.1 706 0 + 1 := (by simp [wA, wN, wI, wB, up3, up2, up1])
    have e4 : (wA (wN σ 706 0 (σ.1 706 0 + 1)) 702 0 k (σ.2.2.1 702 0 k + 1)).1 704 0 = σ.1 704 0 := (by simp [wA, wN, wI, wB, up3, up2, up1])
    have e5 : (wA (wN σ 706 0 (σ.1 706 0 + 1)) 702 0 k (σ.2.2.1 702 0 k + 1)).1 705 0 = σ.1 705 0 := (by simp [wA, wN, wI, wB, up3, up2, up1])
    have e3 : (wA (wN σ 706 0 (σ.1 706 0 + 1)) 702 0 k (σ.2.2.1 702 0 k + 1)).2.2.1 703 0 = σ.2.2.1 703 0 := (by simp [wA, wN, wI, wB, up3, up2, up1])
    rw [e6, e4, e5, e3]
    exact ⟨by omega, w.2⟩
theorem wl_aim {σ : St} {a m : Nat} {v : Int32} (h : WL σ) : WL (k_aim a m v σ) := by
  have hF := fw_aim (a := a) (m := m) (v := v) (σ := σ)
  unfold k_aim
  generalize (if σ.2.1 708 0 = 0 then v else nI (σ.2.2.1 703 0 a) + v) = t
  repeat' split
  all_goals exact ⟨h.1, h.2.1, h.2.2⟩
theorem wl_chg {σ : St} {v : Int32} (h : WL σ) : WL (k_chg v σ) := by
  unfold k_chg
  split
  all_goals exact ⟨h.1, h.2.1, h.2.2⟩
theorem wl_wv {σ : St} {v x : Int32} (h : WL σ) : WL (k_wv x v σ) := by
  unfold k_wv
  repeat' split
  · exact ⟨h.1, h.2.1, h.2.2⟩
  · exact ⟨h.1, h.2.1, h.2.2⟩
  · exact wl_aim h
  · exact wl_aim h
  · exact wl_aim h
  · exact wl_chg h
  · exact wl_ent h
  · exact ⟨h.1, h.2.1, h.2.2⟩
theorem wl_obey {σ : St} {k : Nat} (h : WL σ) (hk : σ.2.2.1 702 0 k < 30) : WL (k_obey k σ) := by
  unfold k_obey
  split
  · exact ⟨h.1, h.2.1, h.2.2⟩
  · refine wl_wv (wl_sm h ((fw_wN ⟨by decide, by decide⟩).tr (fw_wA (Or.inl rfl))) rfl ?_ (fun i => ?_))
    · exact (by simp [wA, wN, wI, wB, up3, up2, up1])
    · have : (wA (wN σ 706 0 (σ.1 706 0 + 1)) 702 0 k (σ.2.2.1 702 0 k + 1)).2.2.1 702 0 = up1 (σ.2.2.1 702 0) k (σ.2.2.1 702 0 k + 1) := (by simp [wA, wN, wI, wB, up3, up2, up1])
      rw [this]
      exact up1_le h.2.2.2.2 hk i
