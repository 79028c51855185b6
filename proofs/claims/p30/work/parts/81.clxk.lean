/-! a paper judged anew -/
theorem isz_eq (x : Int32) : isz x = (if 0 ≤ x then x else 0 - x) := by
  unfold isz
  by_cases c : x < 0
  · have h : ¬ 0 ≤ x := fun z => Int32.lt_irrefl (Int32.lt_of_lt_of_le c z)
    rw [if_pos c, if_neg h]
    simp
  · rw [if_neg c, if_pos (Int32.not_lt.mp c)]
theorem vd_3 (w t d : Int32) : vd1 w t d = nI 0 ∨ vd1 w t d = nI 1 ∨ vd1 w t d = nI 2 := by
  unfold vd1
  split
  · split
    · exact Or.inr (Or.inl rfl)
    · exact Or.inl rfl
  · exact Or.inr (Or.inr rfl)
theorem vdl_3 {f : Nat → Int32} (h : ∀ k, f k = nI 0 ∨ f k = nI 1 ∨ f k = nI 2) : ∀ n, vdl f n = nI 0 ∨ vdl f n = nI 1 ∨ vdl f n = nI 2
  | 0 => Or.inl rfl
  | n + 1 => by
    show (if f n ≤ vdl f n then vdl f n else f n) = nI 0 ∨ (if f n ≤ vdl f n then vdl f n else f n) = nI 1 ∨ (if f n ≤ vdl f n then vdl f n else f n) = nI 2
    split
    · exact vdl_3 h n
    · exact h n
theorem vdl_2 {f : Nat → Int32} (h : ∀ k, f k = nI 0 ∨ f k = nI 1 ∨ f k = nI 2) {i : Nat} (hi : vdl f i = nI 2) : ∀ n, vdl f (i + n) = nI 2
  | 0 => hi
  | n + 1 => by
    show (if f (i + n) ≤ vdl f (i + n) then vdl f (i + n) else f (i + n)) = nI 2
    rw [vdl_2 h hi n, if_pos]
    rcases h (i + n) with e | e | e <;> rw [e] <;> decide
theorem vdp_vdl {f g : Nat → Int32} {d : Int32} : ∀ (n i : Nat), ¬ vdl (fun k => vd1 (f k) (g k) d) i = nI 2 → vdp f g d n i (vdl (fun k => vd1 (f k) (g k) d) i) = vdl (fun k => vd1 (f k) (g k) d) (i + n)
  | 0, _, _ => rfl
  | n + 1, i, h => by
    have h3 : ∀ k, (fun k => vd1 (f k) (g k) d) k = nI 0 ∨ (fun k => vd1 (f k) (g k) d) k = nI 1 ∨ (fun k => vd1 (f k) (g k) d) k = nI 2 := fun k => vd_3 _ _ _
    have hs : vdl (fun k => vd1 (f k) (g k) d) (i + 1) = (if vd1 (f i) (g i) d ≤ vdl (fun k => vd1 (f k) (g k) d) i then vdl (fun k => vd1 (f k) (g k) d) i else vd1 (f i) (g i) d) := rfl
    have hw := vdl_3 h3 i
    rw [show i + (n + 1) = (i + 1) + n by omega]
    unfold vdp
    by_cases c1 : isz (f i) ≤ g i + d
    · rw [if_neg (by rw [← isz_eq]; exact fun z => z c1)]
      by_cases c2 : g i - d < isz (f i)
      · have hv : vd1 (f i) (g i) d = nI 1 := by unfold vd1; rw [if_pos c1, if_pos c2]
        have hn : ¬ (if 0 ≤ f i then f i else 0 - f i) ≤ g i - d := by rw [← isz_eq]; exact Int32.not_le.mpr c2
        rw [if_neg hn]
        have e1 : vdl (fun k => vd1 (f k) (g k) d) (i + 1) = nI 1 := by
          rw [hs, hv]
          rcases hw with e | e | e
          · rw [e]; decide
          · rw [e]; decide
          · exact absurd e h
        rw [← e1]
        exact vdp_vdl n (i + 1) (by rw [e1]; decide)
      · have hv : vd1 (f i) (g i) d = nI 0 := by unfold vd1; rw [if_pos c1, if_neg c2]
        have hn : (if 0 ≤ f i then f i else 0 - f i) ≤ g i - d := by rw [← isz_eq]; exact Int32.not_lt.mp c2
        rw [if_pos hn]
        have e1 : vdl (fun k => vd1 (f k) (g k) d) (i + 1) = vdl (fun k => vd1 (f k) (g k) d) i := by
          rw [hs, hv]
          rcases hw with e | e | e
          · rw [e]; decide
          · rw [e]; decide
          · exact absurd e h
        rw [← e1]
        exact vdp_vdl n (i + 1) (by rw [e1]; exact h)
    · have hv : vd1 (f i) (g i) d = nI 2 := by unfold vd1; rw [if_neg c1]
      rw [if_pos (by rw [← isz_eq]; exact c1)]
      refine (vdl_2 h3 ?_ n).symm
      rw [hs, hv]
      rcases hw with e | e | e
      · rw [e]; decide
      · rw [e]; decide
      · exact absurd e h
theorem vdl_cong {F G : Nat → Int32} : ∀ n, (∀ k, k < n → F k = G k) → vdl F n = vdl G n
  | 0, _ => rfl
  | n + 1, h => by
    show (if F n ≤ vdl F n then vdl F n else F n) = (if G n ≤ vdl G n then vdl G n else G n)
    rw [vdl_cong n (fun k hk => h k (by omega)), h n (by omega)]
theorem vdp_0 {f g : Nat → Int32} {d : Int32} (n : Nat) : vdp f g d n 0 (nI 0) = vdl (fun k => vd1 (f k) (g k) d) n := by
  have h := vdp_vdl (f := f) (g := g) (d := d) n 0 (show ¬ nI 0 = nI 2 by decide)
  rw [Nat.zero_add] at h
  exact h
theorem p_judgeAnew {wr : WrT} {σ τ : St} (h : Rl wr σ τ) (v1 : Int32) : ((k_judgeAnew v1 σ).1 = 0 ∨ (k_judgeAnew v1 σ).1 = 1) ∧ (m_judgeAnew v1 (fun q => σ.1 306 q) τ).2.2.1 944 0 = nI (wk [1] (k_judgeAnew v1 σ).1) ∧ ((k_judgeAnew v1 σ).1 = 0 → (m_judgeAnew v1 (fun q => σ.1 306 q) τ).1 = (k_judgeAnew v1 σ).2.1) ∧ Rl wr (k_judgeAnew v1 σ).2.2 (m_judgeAnew v1 (fun q => σ.1 306 q) τ).2 := by
  unfold k_judgeAnew m_judgeAnew m_g
  have e0 : σ.1 1002 5 = τ.1 934 0 := h.2.2.2.2.2.2.1.2.2.2.2.1
  by_cases c1 : ix v1 (σ.1 1002 5)
  · have hid : σ.2.2.1 1001 5 (tn v1) = tn v1 := h.2.2.1 5 (by decide) (by decide) (by decide) _ (ix_tn c1)
    obtain ⟨b0, b1, b2, b3, b4, b5, b6⟩ := h.2.2.2.2.2.2.2.2.2.2.2.2.2.2.2.1.1 (tn v1) (ix_tn c1)
    have h36 := h.2.2.2.2.1.2.2.1 (tn v1)
    rw [hid, if_pos c1, vdp_eq]
    rw [e0] at c1
    rw [if_neg (show ¬ ¬ (ix v1 (τ.1 934 0) ∧ True ∧ True) from fun z => z ⟨c1, trivial, trivial⟩), gc_0 c1 trivial trivial]
    refine ⟨Or.inl rfl, t944 (τ := τ), fun _ => ?_, rl_944 h⟩
    have hF : ∀ n, n < σ.1 306 (tn v1) → vdf (tn v1) (wI τ 944 0 (nI 0)) n = vd1 (σ.2.2.2 304 (tn v1) n) (σ.2.2.2 305 (tn v1) n) (σ.2.1 303 (tn v1)) := fun n hn => by
      obtain ⟨q1, q2⟩ := b6 n (by omega)
      rw [q1, q2 hn, b4]
      unfold vdf
      exact rfl
    exact (vdl_cong _ hF).trans (vdp_0 _).symm
  · rw [if_neg c1]
    rw [e0] at c1
    rw [if_pos (show ¬ (ix v1 (τ.1 934 0) ∧ True ∧ True) from fun z => c1 z.1), gc_1 c1]
    exact ⟨Or.inr rfl, ag_n h (show ¬ (1 : Nat) = 0 by decide) rfl⟩
