/-- a walk leaves the programs, and the rows of what is open, as they are -/
def SP (σ σ' : St) : Prop := σ'.2.2.2 902 = σ.2.2.2 902 ∧ σ'.2.2.1 903 = σ.2.2.1 903 ∧ σ'.2.2.1 938 = σ.2.2.1 938 ∧ σ'.2.2.1 939 = σ.2.2.1 939 ∧ σ'.1 904 = σ.1 904
theorem SP.rf {σ : St} : SP σ σ := ⟨rfl, rfl, rfl, rfl, rfl⟩
theorem SP.tr {a b c : St} (h : SP a b) (h2 : SP b c) : SP a c := ⟨h2.1.trans h.1, h2.2.1.trans h.2.1, h2.2.2.1.trans h.2.2.1, h2.2.2.2.1.trans h.2.2.2.1, h2.2.2.2.2.trans h.2.2.2.2⟩
theorem SP_step0 (p fr : Nat) (σ : St) : SP σ (m_step0 p fr σ).2 := by
  unfold m_step0
  repeat' split
  all_goals exact ⟨rfl, rfl, rfl, rfl, rfl⟩
theorem mv_all0 (p fr a to : Nat) (ha : a < 3) (hto : to ≤ m_lim a) : ∀ (f : Nat) (σ : St), m_dist (σ.2.2.1 937 0 a) to = f → SI σ → SP σ (m_mv0 p fr a to f σ).2 ∧ SI (m_mv0 p fr a to f σ).2 ∧ (m_mv0 p fr a to f σ).2.1 943 0 ≤ σ.1 943 0 + f
  | 0, σ, _, hs => ⟨SP.rf, hs, Nat.le_refl _⟩
  | f + 1, σ, hd, hs => by
    have hne : ¬ σ.2.2.1 937 0 a = to := fun z => by rw [z] at hd; unfold m_dist at hd; omega
    have hnd := nx_dist hne
    have hs1 := SI_at hs (nx_lim (SI_lim hs ha) hto hne)
    have h1 := SP_step0 p fr (wA σ 937 0 a (m_nx (σ.2.2.1 937 0 a) to))
    have h2 := SI_step0 hs1 p fr
    have h3 := st_step0 p fr (wA σ 937 0 a (m_nx (σ.2.2.1 937 0 a) to))
    have h4 : (wA σ 937 0 a (m_nx (σ.2.2.1 937 0 a) to)).1 943 0 = σ.1 943 0 := rfl
    have h5 : SP σ (wA σ 937 0 a (m_nx (σ.2.2.1 937 0 a) to)) := ⟨rfl, rfl, rfl, rfl, rfl⟩
    unfold m_mv0
    split
    · have h6 := mv_all0 p fr a to ha hto f (m_step0 p fr (wA σ 937 0 a (m_nx (σ.2.2.1 937 0 a) to))).2 (by rw [mv_at0]; omega) h2
      exact ⟨(h5.tr h1).tr h6.1, h6.2.1, by omega⟩
    · exact ⟨h5.tr h1, h2, by omega⟩
theorem moves_all0 {p a : Nat} {v : Int32} {fr : Nat} {σ : St} (ha : a < 3) (hs : SI σ) : SP σ (m_moves0 p a v fr σ).2 ∧ SI (m_moves0 p a v fr σ).2 ∧ (m_moves0 p a v fr σ).2.1 943 0 ≤ σ.1 943 0 + 11 := by
  unfold m_moves0
  split
  · rename_i c
    have hto : tn (m_to a v σ) ≤ m_lim a := Nat.le_of_lt_succ (ix_lt c)
    have h1 := mv_all0 p fr a (tn (m_to a v σ)) ha hto _ σ rfl hs
    refine ⟨h1.1, h1.2.1, ?_⟩
    have h2 := SI_lim hs ha
    have h3 : m_lim a ≤ 11 := by unfold m_lim; split <;> decide
    have h4 : m_dist (σ.2.2.1 937 0 a) (tn (m_to a v σ)) ≤ 11 := by unfold m_dist; omega
    omega
  · exact ⟨SP.rf, hs, Nat.le_add_right _ _⟩
theorem SP_step1 (p fr : Nat) (σ : St) : SP σ (m_step1 p fr σ).2 := by
  unfold m_step1
  repeat' split
  all_goals exact ⟨rfl, rfl, rfl, rfl, rfl⟩
theorem mv_all1 (p fr a to : Nat) (ha : a < 3) (hto : to ≤ m_lim a) : ∀ (f : Nat) (σ : St), m_dist (σ.2.2.1 937 0 a) to = f → SI σ → SP σ (m_mv1 p fr a to f σ).2 ∧ SI (m_mv1 p fr a to f σ).2 ∧ (m_mv1 p fr a to f σ).2.1 943 0 ≤ σ.1 943 0 + f
  | 0, σ, _, hs => ⟨SP.rf, hs, Nat.le_refl _⟩
  | f + 1, σ, hd, hs => by
    have hne : ¬ σ.2.2.1 937 0 a = to := fun z => by rw [z] at hd; unfold m_dist at hd; omega
    have hnd := nx_dist hne
    have hs1 := SI_at hs (nx_lim (SI_lim hs ha) hto hne)
    have h1 := SP_step1 p fr (wA σ 937 0 a (m_nx (σ.2.2.1 937 0 a) to))
    have h2 := SI_step1 hs1 p fr
    have h3 := st_step1 p fr (wA σ 937 0 a (m_nx (σ.2.2.1 937 0 a) to))
    have h4 : (wA σ 937 0 a (m_nx (σ.2.2.1 937 0 a) to)).1 943 0 = σ.1 943 0 := rfl
    have h5 : SP σ (wA σ 937 0 a (m_nx (σ.2.2.1 937 0 a) to)) := ⟨rfl, rfl, rfl, rfl, rfl⟩
    unfold m_mv1
    split
    · have h6 := mv_all1 p fr a to ha hto f (m_step1 p fr (wA σ 937 0 a (m_nx (σ.2.2.1 937 0 a) to))).2 (by rw [mv_at1]; omega) h2
      exact ⟨(h5.tr h1).tr h6.1, h6.2.1, by omega⟩
    · exact ⟨h5.tr h1, h2, by omega⟩
theorem moves_all1 {p a : Nat} {v : Int32} {fr : Nat} {σ : St} (ha : a < 3) (hs : SI σ) : SP σ (m_moves1 p a v fr σ).2 ∧ SI (m_moves1 p a v fr σ).2 ∧ (m_moves1 p a v fr σ).2.1 943 0 ≤ σ.1 943 0 + 11 := by
  unfold m_moves1
  split
  · rename_i c
    have hto : tn (m_to a v σ) ≤ m_lim a := Nat.le_of_lt_succ (ix_lt c)
    have h1 := mv_all1 p fr a (tn (m_to a v σ)) ha hto _ σ rfl hs
    refine ⟨h1.1, h1.2.1, ?_⟩
    have h2 := SI_lim hs ha
    have h3 : m_lim a ≤ 11 := by unfold m_lim; split <;> decide
    have h4 : m_dist (σ.2.2.1 937 0 a) (tn (m_to a v σ)) ≤ 11 := by unfold m_dist; omega
    omega
  · exact ⟨SP.rf, hs, Nat.le_add_right _ _⟩
theorem SP_step2 (p fr : Nat) (σ : St) : SP σ (m_step2 p fr σ).2 := by
  unfold m_step2
  repeat' split
  all_goals exact ⟨rfl, rfl, rfl, rfl, rfl⟩
theorem mv_all2 (p fr a to : Nat) (ha : a < 3) (hto : to ≤ m_lim a) : ∀ (f : Nat) (σ : St), m_dist (σ.2.2.1 937 0 a) to = f → SI σ → SP σ (m_mv2 p fr a to f σ).2 ∧ SI (m_mv2 p fr a to f σ).2 ∧ (m_mv2 p fr a to f σ).2.1 943 0 ≤ σ.1 943 0 + f
  | 0, σ, _, hs => ⟨SP.rf, hs, Nat.le_refl _⟩
  | f + 1, σ, hd, hs => by
    have hne : ¬ σ.2.2.1 937 0 a = to := fun z => by rw [z] at hd; unfold m_dist at hd; omega
    have hnd := nx_dist hne
    have hs1 := SI_at hs (nx_lim (SI_lim hs ha) hto hne)
    have h1 := SP_step2 p fr (wA σ 937 0 a (m_nx (σ.2.2.1 937 0 a) to))
    have h2 := SI_step2 hs1 p fr
    have h3 := st_step2 p fr (wA σ 937 0 a (m_nx (σ.2.2.1 937 0 a) to))
    have h4 : (wA σ 937 0 a (m_nx (σ.2.2.1 937 0 a) to)).1 943 0 = σ.1 943 0 := rfl
    have h5 : SP σ (wA σ 937 0 a (m_nx (σ.2.2.1 937 0 a) to)) := ⟨rfl, rfl, rfl, rfl, rfl⟩
    unfold m_mv2
    split
    · have h6 := mv_all2 p fr a to ha hto f (m_step2 p fr (wA σ 937 0 a (m_nx (σ.2.2.1 937 0 a) to))).2 (by rw [mv_at2]; omega) h2
      exact ⟨(h5.tr h1).tr h6.1, h6.2.1, by omega⟩
    · exact ⟨h5.tr h1, h2, by omega⟩
theorem moves_all2 {p a : Nat} {v : Int32} {fr : Nat} {σ : St} (ha : a < 3) (hs : SI σ) : SP σ (m_moves2 p a v fr σ).2 ∧ SI (m_moves2 p a v fr σ).2 ∧ (m_moves2 p a v fr σ).2.1 943 0 ≤ σ.1 943 0 + 11 := by
  unfold m_moves2
  split
  · rename_i c
    have hto : tn (m_to a v σ) ≤ m_lim a := Nat.le_of_lt_succ (ix_lt c)
    have h1 := mv_all2 p fr a (tn (m_to a v σ)) ha hto _ σ rfl hs
    refine ⟨h1.1, h1.2.1, ?_⟩
    have h2 := SI_lim hs ha
    have h3 : m_lim a ≤ 11 := by unfold m_lim; split <;> decide
    have h4 : m_dist (σ.2.2.1 937 0 a) (tn (m_to a v σ)) ≤ 11 := by unfold m_dist; omega
    omega
  · exact ⟨SP.rf, hs, Nat.le_add_right _ _⟩
theorem sets_all {w v : Int32} {σ : St} (hs : SI σ) (hv : w = nI 5 → ix v 4) : SP σ (m_sets w v σ).2 ∧ SI (m_sets w v σ).2 ∧ (m_sets w v σ).2.1 943 0 ≤ σ.1 943 0 + 11 := by
  have key : SI (wI (wI (wI σ 940 0 (if ¬ w = 0 then σ.2.1 940 0 else v)) 941 0 (if ¬ w = nI 1 then σ.2.1 941 0 else v)) 942 0 (if ¬ w = nI 5 then σ.2.1 942 0 else v)) := by
    obtain ⟨h1, h2, h3, h4, h5⟩ := hs
    refine ⟨h1, h2, h3, ?_, h5⟩
    show ¬ (if ¬ w = nI 5 then σ.2.1 942 0 else v) = -1 → ix (if ¬ w = nI 5 then σ.2.1 942 0 else v) 4
    split
    · exact h4
    · rename_i z
      exact fun _ => hv (Classical.byContradiction z)
  have k2 : SP σ (wI (wI (wI σ 940 0 (if ¬ w = 0 then σ.2.1 940 0 else v)) 941 0 (if ¬ w = nI 1 then σ.2.1 941 0 else v)) 942 0 (if ¬ w = nI 5 then σ.2.1 942 0 else v)) := ⟨rfl, rfl, rfl, rfl, rfl⟩
  have k3 : (wI (wI (wI σ 940 0 (if ¬ w = 0 then σ.2.1 940 0 else v)) 941 0 (if ¬ w = nI 1 then σ.2.1 941 0 else v)) 942 0 (if ¬ w = nI 5 then σ.2.1 942 0 else v)).1 943 0 = σ.1 943 0 := rfl
  unfold m_sets
  generalize wI (wI (wI σ 940 0 (if ¬ w = 0 then σ.2.1 940 0 else v)) 941 0 (if ¬ w = nI 1 then σ.2.1 941 0 else v)) 942 0 (if ¬ w = nI 5 then σ.2.1 942 0 else v) = X at key k2 k3 ⊢
  repeat' split
  all_goals first | exact ⟨k2, key, by show X.1 943 0 ≤ _; omega⟩ | exact ⟨SP.rf, hs, Nat.le_add_right _ _⟩
theorem dm1 {d : Nat} (h : 0 < d) : nI d + (-1) = nI (d - 1) := by
  obtain ⟨z, rfl⟩ : ∃ z, d = z + 1 := ⟨d - 1, by omega⟩
  exact pk_m1 z
theorem wm2 {w : Int32} (h : nI 2 ≤ w ∧ w ≤ nI 4) : w - nI 2 = nI (tn w - 2) ∧ tn w - 2 < 3 ∧ w = nI (tn w) := by
  rw [fa_le, fa_le, nI_tz (by decide), nI_tz (by decide)] at h
  have h1 : ix w 5 := ⟨by omega, by omega⟩
  have h2 := ix_eq h1
  have h3 : tn w - 2 < 3 := by unfold tn; omega
  have h4 : 2 ≤ tn w := by unfold tn; omega
  refine ⟨?_, h3, h2⟩
  generalize tn w = z at h2 h3 h4 ⊢
  subst h2
  exact pk_sub h4
/-- the blocks of the programs are well formed, as far as a walk needs -/
def PI (σ : St) : Prop := σ.1 904 0 ≤ 6 ∧ ∀ i, i < σ.1 904 0 → σ.2.2.1 903 0 i ≤ 30 ∧ ∀ j, j < σ.2.2.1 903 0 i → (σ.2.2.2 902 0 (60 * i + 2 * j) = nI 6 → ix (σ.2.2.2 902 0 (60 * i + 2 * j + 1)) i) ∧ (σ.2.2.2 902 0 (60 * i + 2 * j) = nI 5 → ix (σ.2.2.2 902 0 (60 * i + 2 * j + 1)) 4)
/-- what is open: d programs, each below the one that called it -/
def SK (d pr : Nat) (σ : St) : Prop := d ≤ 6 ∧ ∀ j, j < d → σ.2.2.1 938 0 j + j ≤ pr ∧ σ.2.2.1 939 0 j ≤ σ.2.2.1 903 0 (σ.2.2.1 938 0 j)
theorem PI.sp {σ σ' : St} (h : PI σ) (s : SP σ σ') : PI σ' := by
  unfold PI at h ⊢
  rw [s.1, s.2.1, s.2.2.2.2]
  exact h
theorem SK.sp {d pr : Nat} {σ σ' : St} (h : SK d pr σ) (s : SP σ σ') : SK d pr σ' := by
  unfold SK at h ⊢
  rw [s.2.1, s.2.2.1, s.2.2.2.1]
  exact h
def m_adv (d : Nat) (σ : St) : St := wA σ 939 0 (d - 1) (σ.2.2.1 939 0 (d - 1) + 1)
def m_call (d : Nat) (v : Int32) (σ : St) : St := wA (wA (m_adv d σ) 938 0 d (tn v)) 939 0 d 0
def m_w (d : Nat) (σ : St) : Int32 := σ.2.2.2 902 0 (60 * σ.2.2.1 938 0 (d - 1) + 2 * σ.2.2.1 939 0 (d - 1))
def m_v (d : Nat) (σ : St) : Int32 := σ.2.2.2 902 0 (60 * σ.2.2.1 938 0 (d - 1) + 2 * σ.2.2.1 939 0 (d - 1) + 1)
theorem SI_adv {d : Nat} {σ : St} (h : SI σ) : SI (m_adv d σ) := SI_w h rfl rfl rfl rfl h.2.2.2.2.2.2.1 h.2.2.2.2.2.2.2.1 h.2.2.2.2.2.2.2.2
theorem SI_call {d : Nat} {v : Int32} {σ : St} (h : SI σ) : SI (m_call d v σ) := SI_w h rfl rfl rfl rfl h.2.2.2.2.2.2.1 h.2.2.2.2.2.2.2.1 h.2.2.2.2.2.2.2.2
theorem PI_adv {d : Nat} {σ : St} (h : PI σ) : PI (m_adv d σ) := h
theorem PI_call {d : Nat} {v : Int32} {σ : St} (h : PI σ) : PI (m_call d v σ) := h
theorem SK_pop {d pr : Nat} {σ : St} (h : SK d pr σ) : SK (d - 1) pr σ := ⟨by have := h.1; omega, fun j hj => h.2 j (by omega)⟩
theorem SK_adv {d pr : Nat} {σ : St} (hd : 0 < d) (h : SK d pr σ) (hne : ¬ σ.2.2.1 939 0 (d - 1) = σ.2.2.1 903 0 (σ.2.2.1 938 0 (d - 1))) : SK d pr (m_adv d σ) := by
  refine ⟨h.1, fun j hj => ?_⟩
  have h1 := h.2 j hj
  refine ⟨h1.1, ?_⟩
  show (wA σ 939 0 (d - 1) (σ.2.2.1 939 0 (d - 1) + 1)).2.2.1 939 0 j ≤ σ.2.2.1 903 0 (σ.2.2.1 938 0 j)
  rw [wA_s]
  unfold up1
  split
  · rename_i z
    subst z
    omega
  · exact h1.2
theorem SK_call {d pr : Nat} {v : Int32} {σ : St} (hd : 0 < d) (hp : pr < 6) (h : SK d pr σ) (hne : ¬ σ.2.2.1 939 0 (d - 1) = σ.2.2.1 903 0 (σ.2.2.1 938 0 (d - 1))) (hv : ix v (σ.2.2.1 938 0 (d - 1))) : SK (d + 1) pr (m_call d v σ) := by
  have h0 := h.2 (d - 1) (by omega)
  have h9 := ix_lt hv
  have h8 := SK_adv hd h hne
  refine ⟨by omega, fun j hj => ?_⟩
  show (wA (m_adv d σ) 938 0 d (tn v)).2.2.1 938 0 j + j ≤ pr ∧ (wA (wA (m_adv d σ) 938 0 d (tn v)) 939 0 d 0).2.2.1 939 0 j ≤ σ.2.2.1 903 0 ((wA (m_adv d σ) 938 0 d (tn v)).2.2.1 938 0 j)
  rw [wA_s, wA_s]
  by_cases e : j = d
  · subst e
    rw [up1_s, up1_s]
    exact ⟨by omega, Nat.zero_le _⟩
  · rw [up1_n e, up1_n e]
    exact h8.2 j (by omega)
theorem sk_ix {d pr : Nat} {σ : St} (hd : 0 < d) (hpr : pr < σ.1 904 0) (h : SK d pr σ) (hP : PI σ) : σ.2.2.1 938 0 (d - 1) < 6 ∧ σ.2.2.1 938 0 (d - 1) < σ.1 904 0 ∧ σ.2.2.1 903 0 (σ.2.2.1 938 0 (d - 1)) ≤ 30 ∧ σ.2.2.1 939 0 (d - 1) ≤ σ.2.2.1 903 0 (σ.2.2.1 938 0 (d - 1)) := by
  have h1 := h.2 (d - 1) (by omega)
  have h2 : σ.2.2.1 938 0 (d - 1) < σ.1 904 0 := by omega
  have h3 := hP.1
  exact ⟨by omega, h2, (hP.2 _ h2).1, h1.2⟩
theorem sk_bl {d pr : Nat} {σ : St} (hd : 0 < d) (hpr : pr < σ.1 904 0) (h : SK d pr σ) (hP : PI σ) (hne : ¬ σ.2.2.1 939 0 (d - 1) = σ.2.2.1 903 0 (σ.2.2.1 938 0 (d - 1))) : (m_w d σ = nI 6 → ix (m_v d σ) (σ.2.2.1 938 0 (d - 1))) ∧ (m_w d σ = nI 5 → ix (m_v d σ) 4) := by
  have h1 := sk_ix hd hpr h hP
  exact (hP.2 _ h1.2.1).2 _ (by omega)
def m_cp (p : Nat) : Nat → St → St
  | 0, σ => σ
  | n + 1, σ => wB (m_cp p n σ) 935 0 n (σ.2.2.2 915 0 (144 * p + n))
theorem m_cp_N (p : Nat) (σ : St) : ∀ n, (m_cp p n σ).1 = σ.1
  | 0 => rfl
  | n + 1 => m_cp_N p σ n
theorem m_cp_I (p : Nat) (σ : St) : ∀ n, (m_cp p n σ).2.1 = σ.2.1
  | 0 => rfl
  | n + 1 => m_cp_I p σ n
theorem m_cp_A (p : Nat) (σ : St) : ∀ n, (m_cp p n σ).2.2.1 = σ.2.2.1
  | 0 => rfl
  | n + 1 => m_cp_A p σ n
theorem m_cp_F (p F : Nat) (σ : St) (h : F ≠ 935) : ∀ n, (m_cp p n σ).2.2.2 F = σ.2.2.2 F
  | 0 => rfl
  | n + 1 => (show (wB (m_cp p n σ) 935 0 n (σ.2.2.2 915 0 (144 * p + n))).2.2.2 F = (m_cp p n σ).2.2.2 F from if_neg h).trans (m_cp_F p F σ h n)
theorem m_cp_B (p : Nat) (σ : St) (n : Nat) : (m_cp p n σ).2.2.2 915 0 = σ.2.2.2 915 0 := by rw [m_cp_F p 915 σ (by decide) n]
def m_ini0 (pr : Nat) (X : St) : St := (wA (wA (wN (wI (wI (wI (wA (wA (wA (wA (wA (wA (wA X 936 0 0 0) 936 0 1 0) 936 0 2 0) 936 0 3 0) 937 0 0 0) 937 0 1 0) 937 0 2 9) 940 0 (nI 0)) 941 0 (nI 0)) 942 0 (-1)) 943 0 0) 938 0 0 pr) 939 0 0 0)
theorem ini0_B (pr : Nat) (X : St) : (m_ini0 pr X).2.2.2 = X.2.2.2 := rfl
def m_ini (p9 pr : Nat) (σ : St) : St := m_ini0 pr (m_cp p9 144 σ)
theorem SI_ini {p pr : Nat} {σ : St} (h : SI σ) : SI (m_ini p pr σ) := by
  obtain ⟨-, -, -, -, h5, h6, h7, h8, h9⟩ := h
  refine ⟨(by decide : 0 < 12), (by decide : 0 < 12), (by decide : 9 < 10), fun z => absurd rfl z, ?_, ?_, ?_, ?_, ?_⟩
  · show (m_cp p 144 σ).1 914 0 ≤ 16
    rw [m_cp_N]; exact h5
  · show ∀ k, (m_cp p 144 σ).2.2.1 907 0 k ≤ 500
    rw [m_cp_A]; exact h6
  · show ∀ k, (m_cp p 144 σ).2.2.1 908 0 k ≤ 500
    rw [m_cp_A]; exact h7
  · show ∀ k, (m_cp p 144 σ).2.2.1 909 0 k ≤ 500
    rw [m_cp_A]; exact h8
  · show (m_cp p 144 σ).1 901 0 ≤ 99
    rw [m_cp_N]; exact h9
theorem PI_ini {p pr : Nat} {σ : St} (h : PI σ) : PI (m_ini p pr σ) := by
  have e1 : (m_ini p pr σ).2.2.2 902 = σ.2.2.2 902 := by
    unfold m_ini
    rw [ini0_B, m_cp_F p 902 σ (by decide)]
  have e2 : (m_ini p pr σ).2.2.1 903 = σ.2.2.1 903 := by
    show (m_cp p 144 σ).2.2.1 903 = _
    rw [m_cp_A]
  have e3 : (m_ini p pr σ).1 904 = σ.1 904 := by
    show (m_cp p 144 σ).1 904 = _
    rw [m_cp_N]
  unfold PI at h ⊢
  rw [e1, e2, e3]
  exact h
theorem SK_ini {p pr : Nat} {σ : St} : SK 1 pr (m_ini p pr σ) := ⟨by decide, fun j hj => by
  have : j = 0 := by omega
  subst this
  exact ⟨Nat.le_refl _, Nat.zero_le _⟩⟩
theorem ini_904 {p pr : Nat} {σ : St} : (m_ini p pr σ).1 904 0 = σ.1 904 0 := by
  show (m_cp p 144 σ).1 904 0 = _
  rw [m_cp_N]
theorem dz {d : Nat} (h : nI d + (-1) < 0) (hd : d ≤ 6) : d = 0 := by
  rcases (by omega : d = 0 ∨ d = 1 ∨ d = 2 ∨ d = 3 ∨ d = 4 ∨ d = 5 ∨ d = 6) with rfl | rfl | rfl | rfl | rfl | rfl | rfl
  · rfl
  all_goals exact absurd h (by decide)
def m_blk0 (p fr : Nat) (w v : Int32) (σ : St) : Int32 × St := if nI 2 ≤ w ∧ w ≤ nI 4 then m_moves0 p (tn w - 2) v fr σ else m_sets w v σ
def m_rl0 (p fr : Nat) : Nat → Nat → Nat → St → Int32 × St
  | 0, _, _, σ => (nI 0, σ)
  | f + 1, d, many, σ => if d = 0 then (nI 0, σ) else if σ.2.2.1 939 0 (d - 1) = σ.2.2.1 903 0 (σ.2.2.1 938 0 (d - 1)) then m_rl0 p fr f (d - 1) many σ
    else if many = 600 then (nI 4, σ) else if m_w d σ = nI 6 then m_rl0 p fr f (d + 1) (many + 1) (m_call d (m_v d σ) σ)
    else if (m_blk0 p fr (m_w d σ) (m_v d σ) (m_adv d σ)).1 = 0 then m_rl0 p fr f d (many + 1) (m_blk0 p fr (m_w d σ) (m_v d σ) (m_adv d σ)).2 else m_blk0 p fr (m_w d σ) (m_v d σ) (m_adv d σ)
def m_runs0 (p pr fr : Nat) (σ : St) : Int32 × St := m_rl0 p fr 2000 1 0 (m_ini p pr σ)
theorem blk_all0 {p fr : Nat} {w v : Int32} {σ : St} (hs : SI σ) (hv : w = nI 5 → ix v 4) : SP σ (m_blk0 p fr w v σ).2 ∧ SI (m_blk0 p fr w v σ).2 ∧ (m_blk0 p fr w v σ).2.1 943 0 ≤ σ.1 943 0 + 11 := by
  unfold m_blk0
  split
  · rename_i c
    exact moves_all0 (wm2 c).2.1 hs
  · exact sets_all hs hv
def m_blk1 (p fr : Nat) (w v : Int32) (σ : St) : Int32 × St := if nI 2 ≤ w ∧ w ≤ nI 4 then m_moves1 p (tn w - 2) v fr σ else m_sets w v σ
def m_rl1 (p fr : Nat) : Nat → Nat → Nat → St → Int32 × St
  | 0, _, _, σ => (nI 0, σ)
  | f + 1, d, many, σ => if d = 0 then (nI 0, σ) else if σ.2.2.1 939 0 (d - 1) = σ.2.2.1 903 0 (σ.2.2.1 938 0 (d - 1)) then m_rl1 p fr f (d - 1) many σ
    else if many = 600 then (nI 4, σ) else if m_w d σ = nI 6 then m_rl1 p fr f (d + 1) (many + 1) (m_call d (m_v d σ) σ)
    else if (m_blk1 p fr (m_w d σ) (m_v d σ) (m_adv d σ)).1 = 0 then m_rl1 p fr f d (many + 1) (m_blk1 p fr (m_w d σ) (m_v d σ) (m_adv d σ)).2 else m_blk1 p fr (m_w d σ) (m_v d σ) (m_adv d σ)
def m_runs1 (p pr fr : Nat) (σ : St) : Int32 × St := m_rl1 p fr 2000 1 0 (m_ini p pr σ)
theorem blk_all1 {p fr : Nat} {w v : Int32} {σ : St} (hs : SI σ) (hv : w = nI 5 → ix v 4) : SP σ (m_blk1 p fr w v σ).2 ∧ SI (m_blk1 p fr w v σ).2 ∧ (m_blk1 p fr w v σ).2.1 943 0 ≤ σ.1 943 0 + 11 := by
  unfold m_blk1
  split
  · rename_i c
    exact moves_all1 (wm2 c).2.1 hs
  · exact sets_all hs hv
def m_blk2 (p fr : Nat) (w v : Int32) (σ : St) : Int32 × St := if nI 2 ≤ w ∧ w ≤ nI 4 then m_moves2 p (tn w - 2) v fr σ else m_sets w v σ
def m_rl2 (p fr : Nat) : Nat → Nat → Nat → St → Int32 × St
  | 0, _, _, σ => (nI 0, σ)
  | f + 1, d, many, σ => if d = 0 then (nI 0, σ) else if σ.2.2.1 939 0 (d - 1) = σ.2.2.1 903 0 (σ.2.2.1 938 0 (d - 1)) then m_rl2 p fr f (d - 1) many σ
    else if many = 600 then (nI 4, σ) else if m_w d σ = nI 6 then m_rl2 p fr f (d + 1) (many + 1) (m_call d (m_v d σ) σ)
    else if (m_blk2 p fr (m_w d σ) (m_v d σ) (m_adv d σ)).1 = 0 then m_rl2 p fr f d (many + 1) (m_blk2 p fr (m_w d σ) (m_v d σ) (m_adv d σ)).2 else m_blk2 p fr (m_w d σ) (m_v d σ) (m_adv d σ)
def m_runs2 (p pr fr : Nat) (σ : St) : Int32 × St := m_rl2 p fr 2000 1 0 (m_ini p pr σ)
theorem blk_all2 {p fr : Nat} {w v : Int32} {σ : St} (hs : SI σ) (hv : w = nI 5 → ix v 4) : SP σ (m_blk2 p fr w v σ).2 ∧ SI (m_blk2 p fr w v σ).2 ∧ (m_blk2 p fr w v σ).2.1 943 0 ≤ σ.1 943 0 + 11 := by
  unfold m_blk2
  split
  · rename_i c
    exact moves_all2 (wm2 c).2.1 hs
  · exact sets_all hs hv
set_option maxRecDepth 100000 in
set_option maxHeartbeats 4000000 in
theorem c_X9_runs0 {D : va_G} {cI cZ cO : ClassId} (l : Launch) (L : Lay) (σ : St) (ow : Nat → Prop) (p9 pr fr : Nat) (hp : p9 < 6) (hfr : fr < 100000) (hpr : pr < σ.1 904 0) (hs0 : SI σ) (hP0 : PI σ) : RM D cI cZ cO rdom l yX9_runs cX9_runs 11 ((some FieldType.int)) 3 79 [.ref (L 999 0), .int (nI p9), .int (nI pr), .int (nI fr), .int (nI 0)] L σ ow ((m_runs0 p9 pr fr σ).1) ((m_runs0 p9 pr fr σ).2) := by
  refine rm_of rfl (Nat.le_of_ble_eq_true rfl) ?_
  intro p e s m below meth c ls X hK hG hr hlocks hl
  have X : CallFix p m c cX9_runs 11 s _ TB RX9 := X
  have hx := X.1
  have hb := X.2.1
  have hS : va_S (AA ow s.heap.size) s.heap s.heap [] := va_S.rf
  have hA : ∀ q, ow q → AA ow s.heap.size q := fun _ h => Or.inl h
  have hl : lv_has ls 11 [(0, .ref (L 999 0)), (1, .int (nI p9)), (2, .int (nI pr)), (3, .int (nI fr)), (4, .int (nI 0))] := hl
  refine lv_iconst (v := nI 0) hx hb dX9_runs_0 (by decide) ?_
  refine lv_istore (lv' := [(5, .int (nI 0)), (0, .ref (L 999 0)), (1, .int (nI p9)), (2, .int (nI pr)), (3, .int (nI fr)), (4, .int (nI 0))]) hx hb dX9_runs_1 hl (by decide) rfl (fun ls hl => ?_)
  refine r_loop (ι := Nat) (fun (k : Nat) => [(0, .ref (L 999 0)), (1, .int (nI p9)), (2, .int (nI pr)), (3, .int (nI fr)), (4, .int (nI 0)), (5, .int (nI k))]) (fun (k : Nat) => (m_cp p9 k σ)) (fun (k : Nat) => 144 - k) (fun (k : Nat) => k ≤ 144) 0 (Nat.zero_le _) hG hS (lv_sub hl [1, 2, 3, 4, 5, 0] rfl) ?_
  rintro k hinv ih H locs ls hG hS hl
  have hG : PW D cI cZ cO rdom L (m_cp p9 k σ) ow H := hG
  have hl : lv_has ls 11 [(0, .ref (L 999 0)), (1, .int (nI p9)), (2, .int (nI pr)), (3, .int (nI fr)), (4, .int (nI 0)), (5, .int (nI k))] := hl
  obtain hk := hinv
  refine lv_iload hx hb dX9_runs_3 (lv_at hl 5 rfl) ?_
  refine lv_sipush (v := nI 144) hx hb dX9_runs_5 (by decide) ?_
  refine r_icmp_geN (tgt := 37) hx hb dX9_runs_8 (by decide) (by omega) (by decide) (fun c_8 => ?_) (fun c_8 => ?_)
  · obtain rfl : k = 144 := by omega
    refine lv_iconst (v := nI 0) hx hb dX9_runs_37 (by decide) ?_
    refine lv_istore (lv' := [(5, .int (nI 0)), (0, .ref (L 999 0)), (1, .int (nI p9)), (2, .int (nI pr)), (3, .int (nI fr)), (4, .int (nI 0))]) hx hb dX9_runs_38 hl (by decide) rfl (fun ls hl => ?_)
    refine lv_iload hx hb dX9_runs_40 (lv_at hl 0 rfl) ?_
    refine lv_iconst (v := nI 4) hx hb dX9_runs_42 (by decide) ?_
    refine r_icmp_geN (tgt := 60) hx hb dX9_runs_43 (by decide) (by omega) (by omega) (fun c_43 => absurd c_43 (by decide)) (fun c_43 => ?_)
    refine lv_aload_n hx hb dX9_runs_46 rfl (lv_at hl 1 rfl) ?_
    refine gt_X9_95 X hK hG rd_999 dX9_runs_47 ?_
    refine lv_iload hx hb dX9_runs_50 (lv_at hl 0 rfl) ?_
    refine lv_iconst (v := nI 0) hx hb dX9_runs_52 (by decide) ?_
    refine as_936 X hK hG hS hA rd_936 (i := 0) (by decide) dX9_runs_53 (fun H locs hG hS => ?_)
    refine r_iincN (b := 1) (lv' := [(5, .int (nI 1)), (0, .ref (L 999 0)), (1, .int (nI p9)), (2, .int (nI pr)), (3, .int (nI fr)), (4, .int (nI 0))]) hx hb dX9_runs_54 hl (k := 0) rfl (by decide) (by decide) rfl (fun ls hl => ?_)
    refine lv_goto (tgt := 40) hx hb dX9_runs_57 (by decide) ?_
    refine lv_iload hx hb dX9_runs_40 (lv_at hl 0 rfl) ?_
    refine lv_iconst (v := nI 4) hx hb dX9_runs_42 (by decide) ?_
    refine r_icmp_geN (tgt := 60) hx hb dX9_runs_43 (by decide) (by omega) (by omega) (fun c_43_2 => absurd c_43_2 (by decide)) (fun c_43_2 => ?_)
    refine lv_aload_n hx hb dX9_runs_46 rfl (lv_at hl 1 rfl) ?_
    refine gt_X9_95 X hK hG rd_999 dX9_runs_47 ?_
    refine lv_iload hx hb dX9_runs_50 (lv_at hl 0 rfl) ?_
    refine lv_iconst (v := nI 0) hx hb dX9_runs_52 (by decide) ?_
    refine as_936 X hK hG hS hA rd_936 (i := 1) (by decide) dX9_runs_53 (fun H locs hG hS => ?_)
    refine r_iincN (b := 1) (lv' := [(5, .int (nI 2)), (0, .ref (L 999 0)), (1, .int (nI p9)), (2, .int (nI pr)), (3, .int (nI fr)), (4, .int (nI 0))]) hx hb dX9_runs_54 hl (k := 0) rfl (by decide) (by decide) rfl (fun ls hl => ?_)
    refine lv_goto (tgt := 40) hx hb dX9_runs_57 (by decide) ?_
    refine lv_iload hx hb dX9_runs_40 (lv_at hl 0 rfl) ?_
    refine lv_iconst (v := nI 4) hx hb dX9_runs_42 (by decide) ?_
    refine r_icmp_geN (tgt := 60) hx hb dX9_runs_43 (by decide) (by omega) (by omega) (fun c_43_3 => absurd c_43_3 (by decide)) (fun c_43_3 => ?_)
    refine lv_aload_n hx hb dX9_runs_46 rfl (lv_at hl 1 rfl) ?_
    refine gt_X9_95 X hK hG rd_999 dX9_runs_47 ?_
    refine lv_iload hx hb dX9_runs_50 (lv_at hl 0 rfl) ?_
    refine lv_iconst (v := nI 0) hx hb dX9_runs_52 (by decide) ?_
    refine as_936 X hK hG hS hA rd_936 (i := 2) (by decide) dX9_runs_53 (fun H locs hG hS => ?_)
    refine r_iincN (b := 1) (lv' := [(5, .int (nI 3)), (0, .ref (L 999 0)), (1, .int (nI p9)), (2, .int (nI pr)), (3, .int (nI fr)), (4, .int (nI 0))]) hx hb dX9_runs_54 hl (k := 0) rfl (by decide) (by decide) rfl (fun ls hl => ?_)
    refine lv_goto (tgt := 40) hx hb dX9_runs_57 (by decide) ?_
    refine lv_iload hx hb dX9_runs_40 (lv_at hl 0 rfl) ?_
    refine lv_iconst (v := nI 4) hx hb dX9_runs_42 (by decide) ?_
    refine r_icmp_geN (tgt := 60) hx hb dX9_runs_43 (by decide) (by omega) (by omega) (fun c_43_4 => absurd c_43_4 (by decide)) (fun c_43_4 => ?_)
    refine lv_aload_n hx hb dX9_runs_46 rfl (lv_at hl 1 rfl) ?_
    refine gt_X9_95 X hK hG rd_999 dX9_runs_47 ?_
    refine lv_iload hx hb dX9_runs_50 (lv_at hl 0 rfl) ?_
    refine lv_iconst (v := nI 0) hx hb dX9_runs_52 (by decide) ?_
    refine as_936 X hK hG hS hA rd_936 (i := 3) (by decide) dX9_runs_53 (fun H locs hG hS => ?_)
    refine r_iincN (b := 1) (lv' := [(5, .int (nI 4)), (0, .ref (L 999 0)), (1, .int (nI p9)), (2, .int (nI pr)), (3, .int (nI fr)), (4, .int (nI 0))]) hx hb dX9_runs_54 hl (k := 0) rfl (by decide) (by decide) rfl (fun ls hl => ?_)
    refine lv_goto (tgt := 40) hx hb dX9_runs_57 (by decide) ?_
    refine lv_iload hx hb dX9_runs_40 (lv_at hl 0 rfl) ?_
    refine lv_iconst (v := nI 4) hx hb dX9_runs_42 (by decide) ?_
    refine r_icmp_geN (tgt := 60) hx hb dX9_runs_43 (by decide) (by omega) (by omega) (fun c_43_5 => ?_) (fun c_43_5 => absurd c_43_5 (by decide))
    refine lv_aload_n hx hb dX9_runs_60 rfl (lv_at hl 1 rfl) ?_
    refine gt_X9_98 X hK hG rd_999 dX9_runs_61 ?_
    refine lv_iconst (v := nI 0) hx hb dX9_runs_64 (by decide) ?_
    refine lv_iconst (v := nI 0) hx hb dX9_runs_65 (by decide) ?_
    refine as_937 X hK hG hS hA rd_937 (i := 0) (by decide) dX9_runs_66 (fun H locs hG hS => ?_)
    refine lv_aload_n hx hb dX9_runs_67 rfl (lv_at hl 1 rfl) ?_
    refine gt_X9_98 X hK hG rd_999 dX9_runs_68 ?_
    refine lv_iconst (v := nI 1) hx hb dX9_runs_71 (by decide) ?_
    refine lv_iconst (v := nI 0) hx hb dX9_runs_72 (by decide) ?_
    refine as_937 X hK hG hS hA rd_937 (i := 1) (by decide) dX9_runs_73 (fun H locs hG hS => ?_)
    refine lv_aload_n hx hb dX9_runs_74 rfl (lv_at hl 1 rfl) ?_
    refine gt_X9_98 X hK hG rd_999 dX9_runs_75 ?_
    refine lv_iconst (v := nI 2) hx hb dX9_runs_78 (by decide) ?_
    refine lv_bipush (v := nI 9) hx hb dX9_runs_79 (by decide) ?_
    refine as_937 X hK hG hS hA rd_937 (i := 2) (by decide) dX9_runs_81 (fun H locs hG hS => ?_)
    refine lv_aload_n hx hb dX9_runs_82 rfl (lv_at hl 1 rfl) ?_
    refine lv_iconst (v := nI 0) hx hb dX9_runs_83 (by decide) ?_
    refine pt_X9_164 X hK hG hS hA rd_999 dX9_runs_84 (fun H locs hG hS => ?_)
    refine lv_aload_n hx hb dX9_runs_87 rfl (lv_at hl 1 rfl) ?_
    refine lv_iconst (v := nI 0) hx hb dX9_runs_88 (by decide) ?_
    refine pt_X9_178 X hK hG hS hA rd_999 dX9_runs_89 (fun H locs hG hS => ?_)
    refine lv_aload_n hx hb dX9_runs_92 rfl (lv_at hl 1 rfl) ?_
    refine lv_iconst (v := (-1)) hx hb dX9_runs_93 (by decide) ?_
    refine pt_X9_167 X hK hG hS hA rd_999 dX9_runs_94 (fun H locs hG hS => ?_)
    refine lv_aload_n hx hb dX9_runs_97 rfl (lv_at hl 1 rfl) ?_
    refine lv_iconst (v := nI 0) hx hb dX9_runs_98 (by decide) ?_
    refine pt_X9_161 X hK hG hS hA rd_999 dX9_runs_99 (fun H locs hG hS => ?_)
    refine lv_iconst (v := nI 0) hx hb dX9_runs_102 (by decide) ?_
    refine lv_istore (lv' := [(5, .int (nI 0)), (0, .ref (L 999 0)), (1, .int (nI p9)), (2, .int (nI pr)), (3, .int (nI fr)), (4, .int (nI 0))]) hx hb dX9_runs_103 hl (by decide) rfl (fun ls hl => ?_)
    refine lv_iconst (v := nI 0) hx hb dX9_runs_105 (by decide) ?_
    refine lv_istore (lv' := [(6, .int (nI 0)), (5, .int (nI 0)), (0, .ref (L 999 0)), (1, .int (nI p9)), (2, .int (nI pr)), (3, .int (nI fr)), (4, .int (nI 0))]) hx hb dX9_runs_106 hl (by decide) rfl (fun ls hl => ?_)
    refine lv_iconst (v := nI 0) hx hb dX9_runs_108 (by decide) ?_
    refine lv_istore (lv' := [(7, .int (nI 0)), (6, .int (nI 0)), (5, .int (nI 0)), (0, .ref (L 999 0)), (1, .int (nI p9)), (2, .int (nI pr)), (3, .int (nI fr)), (4, .int (nI 0))]) hx hb dX9_runs_109 hl (by decide) rfl (fun ls hl => ?_)
    refine lv_aload_n hx hb dX9_runs_111 rfl (lv_at hl 3 rfl) ?_
    refine gt_X9_101 X hK hG rd_999 dX9_runs_112 ?_
    refine lv_iconst (v := nI 0) hx hb dX9_runs_115 (by decide) ?_
    refine lv_iload_n hx hb dX9_runs_116 rfl (lv_at hl 5 rfl) ?_
    refine as_938 X hK hG hS hA rd_938 (i := 0) (by decide) dX9_runs_117 (fun H locs hG hS => ?_)
    refine lv_aload_n hx hb dX9_runs_118 rfl (lv_at hl 3 rfl) ?_
    refine gt_X9_104 X hK hG rd_999 dX9_runs_119 ?_
    refine lv_iconst (v := nI 0) hx hb dX9_runs_122 (by decide) ?_
    refine lv_iconst (v := nI 0) hx hb dX9_runs_123 (by decide) ?_
    refine as_939 X hK hG hS hA rd_939 (i := 0) (by decide) dX9_runs_124 (fun H locs hG hS => ?_)
    refine r_loop (ι := Nat × Nat × Nat × Int32 × St) (fun (⟨f9, d9, m9, w9, σ9⟩ : Nat × Nat × Nat × Int32 × St) => [(0, .ref (L 999 0)), (1, .int (nI p9)), (2, .int (nI pr)), (3, .int (nI fr)), (4, .int (nI 0)), (5, .int (nI d9 + (-1))), (6, .int (nI m9)), (7, .int w9)]) (fun (⟨f9, d9, m9, w9, σ9⟩ : Nat × Nat × Nat × Int32 × St) => σ9) (fun (⟨f9, d9, m9, w9, σ9⟩ : Nat × Nat × Nat × Int32 × St) => (if w9 = 0 then f9 else 0)) (fun (⟨f9, d9, m9, w9, σ9⟩ : Nat × Nat × Nat × Int32 × St) => m_rl0 p9 fr 2000 1 0 (m_ini p9 pr σ) = (if w9 = 0 then m_rl0 p9 fr f9 d9 m9 σ9 else (w9, σ9)) ∧ (w9 = 0 → 2 * (601 - m9) + d9 + 1 ≤ f9) ∧ SI σ9 ∧ PI σ9 ∧ SK d9 pr σ9 ∧ m9 ≤ 600 ∧ σ9.1 943 0 ≤ 11 * m9 ∧ pr < σ9.1 904 0) ⟨2000, 1, 0, nI 0, m_ini p9 pr σ⟩ (⟨(if_pos rfl).symm, fun _ => (by decide), SI_ini hs0, PI_ini hP0, SK_ini, by decide, Nat.zero_le _, by rw [ini_904]; exact hpr⟩) hG hS (lv_sub hl [3, 4, 5, 6, 7, 2, 1, 0] rfl) ?_
    rintro ⟨f9, d9, m9, w9, σ9⟩ hinv ih H locs ls hG hS hl
    have hG : PW D cI cZ cO rdom L σ9 ow H := hG
    have hl : lv_has ls 11 [(0, .ref (L 999 0)), (1, .int (nI p9)), (2, .int (nI pr)), (3, .int (nI fr)), (4, .int (nI 0)), (5, .int (nI d9 + (-1))), (6, .int (nI m9)), (7, .int w9)] := hl
    obtain ⟨hq, hf, hs, hP, hk, hm, hst, hprs⟩ := hinv
    refine lv_iload hx hb dX9_runs_125 (lv_at hl 5 rfl) ?_
    refine lv_if_lt (tgt := 313) hx hb dX9_runs_127 (by decide) (fun c_127 => ?_) (fun c_127 => ?_)
    · have hE : m_runs0 p9 pr fr σ = (w9, σ9) := by
        unfold m_runs0
        rw [hq]
        by_cases hw : w9 = 0
        · obtain ⟨f1, hf1⟩ : ∃ z, f9 = z + 1 := ⟨f9 - 1, by have := hf hw; omega⟩
          first | exact absurd hw c_132 | (rw [if_pos hw, hf1, dz c_127 hk.1, hw]; rfl)
        · rw [if_neg hw]
      refine lv_iload hx hb dX9_runs_313 (lv_at hl 7 rfl) ?_
      exact rm_ret hx hb hr hlocks hG hS (by rw [hE]) (by rw [hE]) rfl dX9_runs_315
    · have hd : 0 < d9 := Nat.pos_of_ne_zero (fun z => c_127 (by rw [z]; decide))
      refine lv_iload hx hb dX9_runs_130 (lv_at hl 7 rfl) ?_
      refine lv_if_ne (tgt := 313) hx hb dX9_runs_132 (by decide) (fun c_132 => ?_) (fun c_132 => ?_)
      · have hE : m_runs0 p9 pr fr σ = (w9, σ9) := by
          unfold m_runs0
          rw [hq]
          by_cases hw : w9 = 0
          · obtain ⟨f1, hf1⟩ : ∃ z, f9 = z + 1 := ⟨f9 - 1, by have := hf hw; omega⟩
            first | exact absurd hw c_132 | (rw [if_pos hw, hf1, dz c_127 hk.1, hw]; rfl)
          · rw [if_neg hw]
        refine lv_iload hx hb dX9_runs_313 (lv_at hl 7 rfl) ?_
        exact rm_ret hx hb hr hlocks hG hS (by rw [hE]) (by rw [hE]) rfl dX9_runs_315
      · obtain ⟨f1, hf1⟩ : ∃ z, f9 = z + 1 := ⟨f9 - 1, by have := hf c_132; omega⟩
        have hfb := hf c_132
        have hx9 := sk_ix hd hprs hk hP
        have hd6 := hk.1
        have hp6 : pr < 6 := by have := hP0.1; omega
        refine lv_aload_n hx hb dX9_runs_135 rfl (lv_at hl 0 rfl) ?_
        refine gt_X9_101 X hK hG rd_999 dX9_runs_136 ?_
        refine lv_iload hx hb dX9_runs_139 (lv_at hl 5 rfl) ?_
        refine r_top (y := nI (d9 - 1)) (dm1 hd) ?_
        refine al_938 X hK hG rd_938 (i := d9 - 1) (x := σ9.2.2.1 938 0 (d9 - 1)) (by omega) rfl dX9_runs_141 ?_
        refine lv_istore (lv' := [(8, .int (nI (σ9.2.2.1 938 0 (d9 - 1)))), (0, .ref (L 999 0)), (1, .int (nI p9)), (2, .int (nI pr)), (3, .int (nI fr)), (4, .int (nI 0)), (5, .int (nI d9 + (-1))), (6, .int (nI m9)), (7, .int w9)]) hx hb dX9_runs_142 hl (by decide) rfl (fun ls hl => ?_)
        refine lv_aload_n hx hb dX9_runs_144 rfl (lv_at hl 1 rfl) ?_
        refine gt_X9_104 X hK hG rd_999 dX9_runs_145 ?_
        refine lv_iload hx hb dX9_runs_148 (lv_at hl 6 rfl) ?_
        refine r_top (y := nI (d9 - 1)) (dm1 hd) ?_
        refine al_939 X hK hG rd_939 (i := d9 - 1) (x := σ9.2.2.1 939 0 (d9 - 1)) (by omega) rfl dX9_runs_150 ?_
        refine lv_aload_n hx hb dX9_runs_151 rfl (lv_at hl 1 rfl) ?_
        refine gt_X9_13 X hK hG rd_999 dX9_runs_152 ?_
        refine lv_iload hx hb dX9_runs_155 (lv_at hl 0 rfl) ?_
        refine al_903 X hK hG rd_903 (i := σ9.2.2.1 938 0 (d9 - 1)) (x := σ9.2.2.1 903 0 (σ9.2.2.1 938 0 (d9 - 1))) (hx9.1) rfl dX9_runs_157 ?_
        refine r_icmp_neN (tgt := 167) hx hb dX9_runs_158 (by decide) (by omega) (by omega) (fun c_158 => ?_) (fun c_158 => ?_)
        · have hbl := sk_bl hd hprs hk hP c_158
          refine lv_iload hx hb dX9_runs_167 (lv_at hl 7 rfl) ?_
          refine lv_sipush (v := nI 600) hx hb dX9_runs_169 (by decide) ?_
          refine r_icmp_neN (tgt := 181) hx hb dX9_runs_172 (by decide) (by omega) (by decide) (fun c_172 => ?_) (fun c_172 => ?_)
          · refine lv_aload_n hx hb dX9_runs_181 rfl (lv_at hl 1 rfl) ?_
            refine gt_X9_7 X hK hG rd_999 dX9_runs_182 ?_
            refine lv_bipush (v := nI 60) hx hb dX9_runs_185 (by decide) ?_
            refine lv_iload hx hb dX9_runs_187 (lv_at hl 0 rfl) ?_
            refine r_mulN hx hb dX9_runs_189 ?_
            refine lv_iconst (v := nI 2) hx hb dX9_runs_190 (by decide) ?_
            refine lv_aload_n hx hb dX9_runs_191 rfl (lv_at hl 1 rfl) ?_
            refine gt_X9_104 X hK hG rd_999 dX9_runs_192 ?_
            refine lv_iload hx hb dX9_runs_195 (lv_at hl 6 rfl) ?_
            refine r_top (y := nI (d9 - 1)) (dm1 hd) ?_
            refine al_939 X hK hG rd_939 (i := d9 - 1) (x := σ9.2.2.1 939 0 (d9 - 1)) (by omega) rfl dX9_runs_197 ?_
            refine r_mulN hx hb dX9_runs_198 ?_
            refine r_addN hx hb dX9_runs_199 ?_
            refine al_902 X hK hG rd_902 (i := (60 * (σ9.2.2.1 938 0 (d9 - 1))) + (2 * (σ9.2.2.1 939 0 (d9 - 1)))) (x := m_w d9 σ9) (by omega) rfl dX9_runs_200 ?_
            refine lv_istore (lv' := [(9, .int (m_w d9 σ9)), (8, .int (nI (σ9.2.2.1 938 0 (d9 - 1)))), (0, .ref (L 999 0)), (1, .int (nI p9)), (2, .int (nI pr)), (3, .int (nI fr)), (4, .int (nI 0)), (5, .int (nI d9 + (-1))), (6, .int (nI m9)), (7, .int w9)]) hx hb dX9_runs_201 hl (by decide) rfl (fun ls hl => ?_)
            refine lv_aload_n hx hb dX9_runs_203 rfl (lv_at hl 2 rfl) ?_
            refine gt_X9_7 X hK hG rd_999 dX9_runs_204 ?_
            refine lv_bipush (v := nI 60) hx hb dX9_runs_207 (by decide) ?_
            refine lv_iload hx hb dX9_runs_209 (lv_at hl 1 rfl) ?_
            refine r_mulN hx hb dX9_runs_211 ?_
            refine lv_iconst (v := nI 2) hx hb dX9_runs_212 (by decide) ?_
            refine lv_aload_n hx hb dX9_runs_213 rfl (lv_at hl 2 rfl) ?_
            refine gt_X9_104 X hK hG rd_999 dX9_runs_214 ?_
            refine lv_iload hx hb dX9_runs_217 (lv_at hl 7 rfl) ?_
            refine r_top (y := nI (d9 - 1)) (dm1 hd) ?_
            refine al_939 X hK hG rd_939 (i := d9 - 1) (x := σ9.2.2.1 939 0 (d9 - 1)) (by omega) rfl dX9_runs_219 ?_
            refine r_mulN hx hb dX9_runs_220 ?_
            refine r_addN hx hb dX9_runs_221 ?_
            refine lv_iconst (v := nI 1) hx hb dX9_runs_222 (by decide) ?_
            refine r_addN hx hb dX9_runs_223 ?_
            refine al_902 X hK hG rd_902 (i := ((60 * (σ9.2.2.1 938 0 (d9 - 1))) + (2 * (σ9.2.2.1 939 0 (d9 - 1)))) + 1) (x := m_v d9 σ9) (by omega) rfl dX9_runs_224 ?_
            refine lv_istore (lv' := [(10, .int (m_v d9 σ9)), (9, .int (m_w d9 σ9)), (8, .int (nI (σ9.2.2.1 938 0 (d9 - 1)))), (0, .ref (L 999 0)), (1, .int (nI p9)), (2, .int (nI pr)), (3, .int (nI fr)), (4, .int (nI 0)), (5, .int (nI d9 + (-1))), (6, .int (nI m9)), (7, .int w9)]) hx hb dX9_runs_225 hl (by decide) rfl (fun ls hl => ?_)
            refine r_iincN (b := 1) (lv' := [(6, .int (nI (m9 + 1))), (10, .int (m_v d9 σ9)), (9, .int (m_w d9 σ9)), (8, .int (nI (σ9.2.2.1 938 0 (d9 - 1)))), (0, .ref (L 999 0)), (1, .int (nI p9)), (2, .int (nI pr)), (3, .int (nI fr)), (4, .int (nI 0)), (5, .int (nI d9 + (-1))), (7, .int w9)]) hx hb dX9_runs_227 hl (k := 9) rfl (by decide) (by decide) rfl (fun ls hl => ?_)
            refine lv_aload_n hx hb dX9_runs_230 rfl (lv_at hl 4 rfl) ?_
            refine gt_X9_104 X hK hG rd_999 dX9_runs_231 ?_
            refine lv_iload hx hb dX9_runs_234 (lv_at hl 9 rfl) ?_
            refine r_top (y := nI (d9 - 1)) (dm1 hd) ?_
            refine lv_dup2_11 hx hb dX9_runs_236 rfl rfl ?_
            refine al_939 X hK hG rd_939 (i := d9 - 1) (x := σ9.2.2.1 939 0 (d9 - 1)) (by omega) rfl dX9_runs_237 ?_
            refine lv_iconst (v := nI 1) hx hb dX9_runs_238 (by decide) ?_
            refine r_addN hx hb dX9_runs_239 ?_
            refine as_939 X hK hG hS hA rd_939 (i := d9 - 1) (by omega) dX9_runs_240 (fun H locs hG hS => ?_)
            refine lv_iload hx hb dX9_runs_241 (lv_at hl 2 rfl) ?_
            refine lv_bipush (v := nI 6) hx hb dX9_runs_243 (by decide) ?_
            refine lv_icmp_ne (tgt := 271) hx hb dX9_runs_245 (by decide) (fun c_245 => ?_) (fun c_245 => ?_)
            · have hba := blk_all0 (p := p9) (fr := fr) (w := m_w d9 σ9) (v := m_v d9 σ9) (SI_adv (d := d9) hs) hbl.2
              refine lv_iload hx hb dX9_runs_271 (lv_at hl 2 rfl) ?_
              refine lv_iconst (v := nI 2) hx hb dX9_runs_273 (by decide) ?_
              refine lv_iconst (v := nI 4) hx hb dX9_runs_274 (by decide) ?_
              refine rm_callS X hK hG hS ysX9_in ml_X9_114 [.int (m_w d9 σ9), .int (nI 2), .int (nI 4)] [] (c_X9_in l L (wA σ9 939 0 (d9 - 1) ((σ9.2.2.1 939 0 (d9 - 1)) + 1)) ow (m_w d9 σ9) (nI 2) (nI 4)) rfl hl.1 rfl (Nat.le_of_ble_eq_true rfl) ⟨Nat.le_of_ble_eq_true rfl, Nat.le_of_ble_eq_true rfl⟩ ⟨Nat.zero_le _, Nat.zero_le _⟩ dX9_runs_275 (fun H locs hG hS => ?_)
              refine r_if_eqB (tgt := 300) hx hb dX9_runs_278 (by decide) (fun c_278 => ?_) (fun c_278 => ?_)
              · refine lv_aload_n hx hb dX9_runs_300 rfl (lv_at hl 4 rfl) ?_
                refine lv_iload hx hb dX9_runs_301 (lv_at hl 2 rfl) ?_
                refine lv_iload hx hb dX9_runs_303 (lv_at hl 1 rfl) ?_
                refine rm_callV X hK hG hS yvX9_sets ml_X9_189 kX9 rfl rd_999 [.int (m_w d9 σ9), .int (m_v d9 σ9)] [] (c_X9_sets l L (wA σ9 939 0 (d9 - 1) ((σ9.2.2.1 939 0 (d9 - 1)) + 1)) ow (m_w d9 σ9) (m_v d9 σ9) (by show σ9.2.2.1 937 0 2 < 2147483648; have := hs.2.2.1; omega)) rfl hl.1 rfl (Nat.le_of_ble_eq_true rfl) ⟨Nat.le_of_ble_eq_true rfl, Nat.le_of_ble_eq_true rfl⟩ ⟨Nat.zero_le _, Nat.zero_le _⟩ dX9_runs_305 (fun H locs hG hS => ?_)
                have hbe : (m_sets (m_w d9 σ9) (m_v d9 σ9) (m_adv d9 σ9)) = m_blk0 p9 fr (m_w d9 σ9) (m_v d9 σ9) (m_adv d9 σ9) := (if_neg c_278).symm
                have hG : PW D cI cZ cO rdom L (m_blk0 p9 fr (m_w d9 σ9) (m_v d9 σ9) (m_adv d9 σ9)).2 ow H := by rw [← hbe]; exact hG
                refine r_top (y := (m_blk0 p9 fr (m_w d9 σ9) (m_v d9 σ9) (m_adv d9 σ9)).1) (by rw [← hbe]; rfl) ?_
                refine lv_istore (lv' := [(7, .int ((m_blk0 p9 fr (m_w d9 σ9) (m_v d9 σ9) (m_adv d9 σ9)).1)), (6, .int (nI (m9 + 1))), (10, .int (m_v d9 σ9)), (9, .int (m_w d9 σ9)), (8, .int (nI (σ9.2.2.1 938 0 (d9 - 1)))), (0, .ref (L 999 0)), (1, .int (nI p9)), (2, .int (nI pr)), (3, .int (nI fr)), (4, .int (nI 0)), (5, .int (nI d9 + (-1)))]) hx hb dX9_runs_308 hl (by decide) rfl (fun ls hl => ?_)
                refine lv_goto (tgt := 125) hx hb dX9_runs_310 (by decide) ?_
                exact ih ⟨f1, d9, m9 + 1, (m_blk0 p9 fr (m_w d9 σ9) (m_v d9 σ9) (m_adv d9 σ9)).1, (m_blk0 p9 fr (m_w d9 σ9) (m_v d9 σ9) (m_adv d9 σ9)).2⟩ (by show (if (m_blk0 p9 fr (m_w d9 σ9) (m_v d9 σ9) (m_adv d9 σ9)).1 = 0 then f1 else 0) < (if w9 = 0 then f9 else 0); rw [if_pos c_132]; split <;> omega) (⟨(by rw [hq, if_pos c_132, hf1]; show (if d9 = 0 then _ else _) = _; rw [if_neg (Nat.pos_iff_ne_zero.mp hd), if_neg c_158, if_neg c_172, if_neg c_245]), fun _ => by omega, hba.2.1, (PI_adv hP).sp hba.1, (SK_adv hd hk c_158).sp hba.1, by omega, by have h7 : (m_adv d9 σ9).1 943 0 = σ9.1 943 0 := rfl; have h8 := hba.2.2; omega, by rw [hba.1.2.2.2.2]; exact hprs⟩) H locs ls hG hS (lv_sub hl [5, 6, 7, 8, 9, 10, 1, 0] rfl)
              · refine lv_aload_n hx hb dX9_runs_281 rfl (lv_at hl 4 rfl) ?_
                refine lv_iload_n hx hb dX9_runs_282 rfl (lv_at hl 5 rfl) ?_
                refine lv_iload hx hb dX9_runs_283 (lv_at hl 2 rfl) ?_
                refine lv_iconst (v := nI 2) hx hb dX9_runs_285 (by decide) ?_
                refine lv_isub hx hb dX9_runs_286 ?_
                refine r_top (y := nI (tn (m_w d9 σ9) - 2)) ((wm2 c_278).1) ?_
                refine lv_iload hx hb dX9_runs_287 (lv_at hl 1 rfl) ?_
                refine lv_iload_n hx hb dX9_runs_289 rfl (lv_at hl 7 rfl) ?_
                refine lv_iload hx hb dX9_runs_290 (lv_at hl 8 rfl) ?_
                refine rm_callV X hK hG hS yvX9_moves ml_X9_185 kX9 rfl rd_999 [.int (nI p9), .int (nI (tn (m_w d9 σ9) - 2)), .int (m_v d9 σ9), .int (nI fr), .int (nI 0)] [] (c_X9_moves0 l L (wA σ9 939 0 (d9 - 1) ((σ9.2.2.1 939 0 (d9 - 1)) + 1)) ow p9 (tn (m_w d9 σ9) - 2) (m_v d9 σ9) fr hp (wm2 c_278).2.1 hfr (by show σ9.1 943 0 < 90000; omega) (SI_adv hs)) rfl hl.1 rfl (Nat.le_of_ble_eq_true rfl) ⟨Nat.le_of_ble_eq_true rfl, Nat.le_of_ble_eq_true rfl⟩ ⟨Nat.zero_le _, Nat.zero_le _⟩ dX9_runs_292 (fun H locs hG hS => ?_)
                have hbe : (m_moves0 p9 (tn (m_w d9 σ9) - 2) (m_v d9 σ9) fr (m_adv d9 σ9)) = m_blk0 p9 fr (m_w d9 σ9) (m_v d9 σ9) (m_adv d9 σ9) := (if_pos c_278).symm
                have hG : PW D cI cZ cO rdom L (m_blk0 p9 fr (m_w d9 σ9) (m_v d9 σ9) (m_adv d9 σ9)).2 ow H := by rw [← hbe]; exact hG
                refine r_top (y := (m_blk0 p9 fr (m_w d9 σ9) (m_v d9 σ9) (m_adv d9 σ9)).1) (by rw [← hbe]; rfl) ?_
                refine lv_istore (lv' := [(7, .int ((m_blk0 p9 fr (m_w d9 σ9) (m_v d9 σ9) (m_adv d9 σ9)).1)), (6, .int (nI (m9 + 1))), (10, .int (m_v d9 σ9)), (9, .int (m_w d9 σ9)), (8, .int (nI (σ9.2.2.1 938 0 (d9 - 1)))), (0, .ref (L 999 0)), (1, .int (nI p9)), (2, .int (nI pr)), (3, .int (nI fr)), (4, .int (nI 0)), (5, .int (nI d9 + (-1)))]) hx hb dX9_runs_295 hl (by decide) rfl (fun ls hl => ?_)
                refine lv_goto (tgt := 310) hx hb dX9_runs_297 (by decide) ?_
                refine lv_goto (tgt := 125) hx hb dX9_runs_310 (by decide) ?_
                exact ih ⟨f1, d9, m9 + 1, (m_blk0 p9 fr (m_w d9 σ9) (m_v d9 σ9) (m_adv d9 σ9)).1, (m_blk0 p9 fr (m_w d9 σ9) (m_v d9 σ9) (m_adv d9 σ9)).2⟩ (by show (if (m_blk0 p9 fr (m_w d9 σ9) (m_v d9 σ9) (m_adv d9 σ9)).1 = 0 then f1 else 0) < (if w9 = 0 then f9 else 0); rw [if_pos c_132]; split <;> omega) (⟨(by rw [hq, if_pos c_132, hf1]; show (if d9 = 0 then _ else _) = _; rw [if_neg (Nat.pos_iff_ne_zero.mp hd), if_neg c_158, if_neg c_172, if_neg c_245]), fun _ => by omega, hba.2.1, (PI_adv hP).sp hba.1, (SK_adv hd hk c_158).sp hba.1, by omega, by have h7 : (m_adv d9 σ9).1 943 0 = σ9.1 943 0 := rfl; have h8 := hba.2.2; omega, by rw [hba.1.2.2.2.2]; exact hprs⟩) H locs ls hG hS (lv_sub hl [5, 6, 7, 8, 9, 10, 1, 0] rfl)
            · refine lv_iinc (v := (nI (d9 + 1) + (-1))) (lv' := [(5, .int (nI (d9 + 1) + (-1))), (6, .int (nI (m9 + 1))), (10, .int (m_v d9 σ9)), (9, .int (m_w d9 σ9)), (8, .int (nI (σ9.2.2.1 938 0 (d9 - 1)))), (0, .ref (L 999 0)), (1, .int (nI p9)), (2, .int (nI pr)), (3, .int (nI fr)), (4, .int (nI 0)), (7, .int w9)]) hx hb dX9_runs_248 hl (k := 9) rfl (by rw [dm1 hd, pk_m1]; show nI (d9 - 1) + nI 1 = nI d9; rw [nI_add, Nat.sub_add_cancel hd]) (by decide) rfl (fun ls hl => ?_)
              refine lv_aload_n hx hb dX9_runs_251 rfl (lv_at hl 5 rfl) ?_
              refine gt_X9_101 X hK hG rd_999 dX9_runs_252 ?_
              refine lv_iload hx hb dX9_runs_255 (lv_at hl 0 rfl) ?_
              refine r_top (y := nI d9) (pk_m1 d9) ?_
              refine lv_iload hx hb dX9_runs_257 (lv_at hl 2 rfl) ?_
              refine r_top (y := nI (tn (m_v d9 σ9))) (ix_eq (hbl.1 c_245)) ?_
              refine as_938 X hK hG hS hA rd_938 (i := d9) (by omega) dX9_runs_259 (fun H locs hG hS => ?_)
              refine lv_aload_n hx hb dX9_runs_260 rfl (lv_at hl 5 rfl) ?_
              refine gt_X9_104 X hK hG rd_999 dX9_runs_261 ?_
              refine lv_iload hx hb dX9_runs_264 (lv_at hl 0 rfl) ?_
              refine r_top (y := nI d9) (pk_m1 d9) ?_
              refine lv_iconst (v := nI 0) hx hb dX9_runs_266 (by decide) ?_
              refine as_939 X hK hG hS hA rd_939 (i := d9) (by omega) dX9_runs_267 (fun H locs hG hS => ?_)
              refine lv_goto (tgt := 310) hx hb dX9_runs_268 (by decide) ?_
              refine lv_goto (tgt := 125) hx hb dX9_runs_310 (by decide) ?_
              exact ih ⟨f1, d9 + 1, m9 + 1, w9, m_call d9 (m_v d9 σ9) σ9⟩ (by show (if w9 = 0 then f1 else 0) < (if w9 = 0 then f9 else 0); rw [if_pos c_132, if_pos c_132]; omega) (⟨(by rw [hq, if_pos c_132, hf1]; show (if d9 = 0 then _ else _) = _; rw [if_neg (Nat.pos_iff_ne_zero.mp hd), if_neg c_158, if_neg c_172, if_pos c_245, if_pos c_132]), fun _ => by omega, SI_call hs, PI_call hP, SK_call hd hp6 hk c_158 (hbl.1 c_245), by omega, by show σ9.1 943 0 ≤ 11 * (m9 + 1); omega, hprs⟩) H locs ls hG hS (lv_sub hl [5, 6, 7, 8, 9, 0, 1, 10] rfl)
          · refine lv_iconst (v := nI 4) hx hb dX9_runs_175 (by decide) ?_
            refine lv_istore (lv' := [(7, .int (nI 4)), (8, .int (nI (σ9.2.2.1 938 0 (d9 - 1)))), (0, .ref (L 999 0)), (1, .int (nI p9)), (2, .int (nI pr)), (3, .int (nI fr)), (4, .int (nI 0)), (5, .int (nI d9 + (-1))), (6, .int (nI m9))]) hx hb dX9_runs_176 hl (by decide) rfl (fun ls hl => ?_)
            refine lv_goto (tgt := 310) hx hb dX9_runs_178 (by decide) ?_
            refine lv_goto (tgt := 125) hx hb dX9_runs_310 (by decide) ?_
            exact ih ⟨f1, d9, m9, nI 4, σ9⟩ (by show (if nI 4 = 0 then f1 else 0) < (if w9 = 0 then f9 else 0); rw [if_neg (by decide), if_pos c_132]; omega) (⟨(by rw [hq, if_pos c_132, hf1]; show (if d9 = 0 then _ else _) = _; rw [if_neg (Nat.pos_iff_ne_zero.mp hd), if_neg c_158, if_pos c_172, if_neg (by decide : ¬ nI 4 = 0)]), fun z => absurd z (by decide), hs, hP, hk, hm, hst, hprs⟩) H locs ls hG hS (lv_sub hl [2, 3, 4, 5, 6, 7, 8, 0] rfl)
        · refine lv_iinc (v := (nI (d9 - 1) + (-1))) (lv' := [(5, .int (nI (d9 - 1) + (-1))), (8, .int (nI (σ9.2.2.1 938 0 (d9 - 1)))), (0, .ref (L 999 0)), (1, .int (nI p9)), (2, .int (nI pr)), (3, .int (nI fr)), (4, .int (nI 0)), (6, .int (nI m9)), (7, .int w9)]) hx hb dX9_runs_161 hl (k := 6) rfl (by rw [dm1 hd]; rfl) (by decide) rfl (fun ls hl => ?_)
          refine lv_goto (tgt := 310) hx hb dX9_runs_164 (by decide) ?_
          refine lv_goto (tgt := 125) hx hb dX9_runs_310 (by decide) ?_
          exact ih ⟨f1, d9 - 1, m9, w9, σ9⟩ (by show (if w9 = 0 then f1 else 0) < (if w9 = 0 then f9 else 0); rw [if_pos c_132, if_pos c_132]; omega) (⟨(by rw [hq, if_pos c_132, hf1]; show (if d9 = 0 then _ else _) = _; rw [if_neg (Nat.pos_iff_ne_zero.mp hd), if_pos c_158, if_pos c_132]), fun _ => by omega, hs, hP, SK_pop hk, hm, hst, hprs⟩) H locs ls hG hS (lv_sub hl [2, 3, 4, 5, 6, 0, 7, 8] rfl)
  · refine lv_aload_n hx hb dX9_runs_11 rfl (lv_at hl 0 rfl) ?_
    refine gt_X9_92 X hK hG rd_999 dX9_runs_12 ?_
    refine lv_iload hx hb dX9_runs_15 (lv_at hl 5 rfl) ?_
    refine lv_aload_n hx hb dX9_runs_17 rfl (lv_at hl 0 rfl) ?_
    refine gt_X9_44 X hK hG rd_999 dX9_runs_18 ?_
    refine lv_sipush (v := nI 144) hx hb dX9_runs_21 (by decide) ?_
    refine lv_iload_n hx hb dX9_runs_24 rfl (lv_at hl 1 rfl) ?_
    refine r_mulN hx hb dX9_runs_25 ?_
    refine lv_iload hx hb dX9_runs_26 (lv_at hl 5 rfl) ?_
    refine r_addN hx hb dX9_runs_28 ?_
    refine al_915 X hK hG rd_915 (i := 144 * p9 + k) (x := σ.2.2.2 915 0 (144 * p9 + k)) (by omega) ((show (m_cp p9 k σ).2.2.2 915 0 (144 * p9 + k) = _ from by rw [m_cp_B] <;> rfl).trans rfl) dX9_runs_29 ?_
    refine as_935 X hK hG hS hA rd_935 (i := k) (by omega) dX9_runs_30 (fun H locs hG hS => ?_)
    refine r_iincN (b := 1) (lv' := [(5, .int (nI (k + 1))), (0, .ref (L 999 0)), (1, .int (nI p9)), (2, .int (nI pr)), (3, .int (nI fr)), (4, .int (nI 0))]) hx hb dX9_runs_31 hl (k := 5) rfl (by decide) (by decide) rfl (fun ls hl => ?_)
    refine lv_goto (tgt := 3) hx hb dX9_runs_34 (by decide) ?_
    exact ih (k + 1) (by show 144 - (k + 1) < 144 - k; omega) (by show k + 1 ≤ 144; omega) H locs ls hG hS (lv_sub hl [1, 2, 3, 4, 5, 0] rfl)
set_option maxRecDepth 100000 in
set_option maxHeartbeats 4000000 in
theorem c_X9_runs1 {D : va_G} {cI cZ cO : ClassId} (l : Launch) (L : Lay) (σ : St) (ow : Nat → Prop) (p9 pr fr : Nat) (hp : p9 < 6) (hfr : fr < 100000) (hpr : pr < σ.1 904 0) (hs0 : SI σ) (hP0 : PI σ) : RM D cI cZ cO rdom l yX9_runs cX9_runs 11 ((some FieldType.int)) 3 79 [.ref (L 999 0), .int (nI p9), .int (nI pr), .int (nI fr), .int (nI 1)] L σ ow ((m_runs1 p9 pr fr σ).1) ((m_runs1 p9 pr fr σ).2) := by
  refine rm_of rfl (Nat.le_of_ble_eq_true rfl) ?_
  intro p e s m below meth c ls X hK hG hr hlocks hl
  have X : CallFix p m c cX9_runs 11 s _ TB RX9 := X
  have hx := X.1
  have hb := X.2.1
  have hS : va_S (AA ow s.heap.size) s.heap s.heap [] := va_S.rf
  have hA : ∀ q, ow q → AA ow s.heap.size q := fun _ h => Or.inl h
  have hl : lv_has ls 11 [(0, .ref (L 999 0)), (1, .int (nI p9)), (2, .int (nI pr)), (3, .int (nI fr)), (4, .int (nI 1))] := hl
  refine lv_iconst (v := nI 0) hx hb dX9_runs_0 (by decide) ?_
  refine lv_istore (lv' := [(5, .int (nI 0)), (0, .ref (L 999 0)), (1, .int (nI p9)), (2, .int (nI pr)), (3, .int (nI fr)), (4, .int (nI 1))]) hx hb dX9_runs_1 hl (by decide) rfl (fun ls hl => ?_)
  refine r_loop (ι := Nat) (fun (k : Nat) => [(0, .ref (L 999 0)), (1, .int (nI p9)), (2, .int (nI pr)), (3, .int (nI fr)), (4, .int (nI 1)), (5, .int (nI k))]) (fun (k : Nat) => (m_cp p9 k σ)) (fun (k : Nat) => 144 - k) (fun (k : Nat) => k ≤ 144) 0 (Nat.zero_le _) hG hS (lv_sub hl [1, 2, 3, 4, 5, 0] rfl) ?_
  rintro k hinv ih H locs ls hG hS hl
  have hG : PW D cI cZ cO rdom L (m_cp p9 k σ) ow H := hG
  have hl : lv_has ls 11 [(0, .ref (L 999 0)), (1, .int (nI p9)), (2, .int (nI pr)), (3, .int (nI fr)), (4, .int (nI 1)), (5, .int (nI k))] := hl
  obtain hk := hinv
  refine lv_iload hx hb dX9_runs_3 (lv_at hl 5 rfl) ?_
  refine lv_sipush (v := nI 144) hx hb dX9_runs_5 (by decide) ?_
  refine r_icmp_geN (tgt := 37) hx hb dX9_runs_8 (by decide) (by omega) (by decide) (fun c_8 => ?_) (fun c_8 => ?_)
  · obtain rfl : k = 144 := by omega
    refine lv_iconst (v := nI 0) hx hb dX9_runs_37 (by decide) ?_
    refine lv_istore (lv' := [(5, .int (nI 0)), (0, .ref (L 999 0)), (1, .int (nI p9)), (2, .int (nI pr)), (3, .int (nI fr)), (4, .int (nI 1))]) hx hb dX9_runs_38 hl (by decide) rfl (fun ls hl => ?_)
    refine lv_iload hx hb dX9_runs_40 (lv_at hl 0 rfl) ?_
    refine lv_iconst (v := nI 4) hx hb dX9_runs_42 (by decide) ?_
    refine r_icmp_geN (tgt := 60) hx hb dX9_runs_43 (by decide) (by omega) (by omega) (fun c_43 => absurd c_43 (by decide)) (fun c_43 => ?_)
    refine lv_aload_n hx hb dX9_runs_46 rfl (lv_at hl 1 rfl) ?_
    refine gt_X9_95 X hK hG rd_999 dX9_runs_47 ?_
    refine lv_iload hx hb dX9_runs_50 (lv_at hl 0 rfl) ?_
    refine lv_iconst (v := nI 0) hx hb dX9_runs_52 (by decide) ?_
    refine as_936 X hK hG hS hA rd_936 (i := 0) (by decide) dX9_runs_53 (fun H locs hG hS => ?_)
    refine r_iincN (b := 1) (lv' := [(5, .int (nI 1)), (0, .ref (L 999 0)), (1, .int (nI p9)), (2, .int (nI pr)), (3, .int (nI fr)), (4, .int (nI 1))]) hx hb dX9_runs_54 hl (k := 0) rfl (by decide) (by decide) rfl (fun ls hl => ?_)
    refine lv_goto (tgt := 40) hx hb dX9_runs_57 (by decide) ?_
    refine lv_iload hx hb dX9_runs_40 (lv_at hl 0 rfl) ?_
    refine lv_iconst (v := nI 4) hx hb dX9_runs_42 (by decide) ?_
    refine r_icmp_geN (tgt := 60) hx hb dX9_runs_43 (by decide) (by omega) (by omega) (fun c_43_2 => absurd c_43_2 (by decide)) (fun c_43_2 => ?_)
    refine lv_aload_n hx hb dX9_runs_46 rfl (lv_at hl 1 rfl) ?_
    refine gt_X9_95 X hK hG rd_999 dX9_runs_47 ?_
    refine lv_iload hx hb dX9_runs_50 (lv_at hl 0 rfl) ?_
    refine lv_iconst (v := nI 0) hx hb dX9_runs_52 (by decide) ?_
    refine as_936 X hK hG hS hA rd_936 (i := 1) (by decide) dX9_runs_53 (fun H locs hG hS => ?_)
    refine r_iincN (b := 1) (lv' := [(5, .int (nI 2)), (0, .ref (L 999 0)), (1, .int (nI p9)), (2, .int (nI pr)), (3, .int (nI fr)), (4, .int (nI 1))]) hx hb dX9_runs_54 hl (k := 0) rfl (by decide) (by decide) rfl (fun ls hl => ?_)
    refine lv_goto (tgt := 40) hx hb dX9_runs_57 (by decide) ?_
    refine lv_iload hx hb dX9_runs_40 (lv_at hl 0 rfl) ?_
    refine lv_iconst (v := nI 4) hx hb dX9_runs_42 (by decide) ?_
    refine r_icmp_geN (tgt := 60) hx hb dX9_runs_43 (by decide) (by omega) (by omega) (fun c_43_3 => absurd c_43_3 (by decide)) (fun c_43_3 => ?_)
    refine lv_aload_n hx hb dX9_runs_46 rfl (lv_at hl 1 rfl) ?_
    refine gt_X9_95 X hK hG rd_999 dX9_runs_47 ?_
    refine lv_iload hx hb dX9_runs_50 (lv_at hl 0 rfl) ?_
    refine lv_iconst (v := nI 0) hx hb dX9_runs_52 (by decide) ?_
    refine as_936 X hK hG hS hA rd_936 (i := 2) (by decide) dX9_runs_53 (fun H locs hG hS => ?_)
    refine r_iincN (b := 1) (lv' := [(5, .int (nI 3)), (0, .ref (L 999 0)), (1, .int (nI p9)), (2, .int (nI pr)), (3, .int (nI fr)), (4, .int (nI 1))]) hx hb dX9_runs_54 hl (k := 0) rfl (by decide) (by decide) rfl (fun ls hl => ?_)
    refine lv_goto (tgt := 40) hx hb dX9_runs_57 (by decide) ?_
    refine lv_iload hx hb dX9_runs_40 (lv_at hl 0 rfl) ?_
    refine lv_iconst (v := nI 4) hx hb dX9_runs_42 (by decide) ?_
    refine r_icmp_geN (tgt := 60) hx hb dX9_runs_43 (by decide) (by omega) (by omega) (fun c_43_4 => absurd c_43_4 (by decide)) (fun c_43_4 => ?_)
    refine lv_aload_n hx hb dX9_runs_46 rfl (lv_at hl 1 rfl) ?_
    refine gt_X9_95 X hK hG rd_999 dX9_runs_47 ?_
    refine lv_iload hx hb dX9_runs_50 (lv_at hl 0 rfl) ?_
    refine lv_iconst (v := nI 0) hx hb dX9_runs_52 (by decide) ?_
    refine as_936 X hK hG hS hA rd_936 (i := 3) (by decide) dX9_runs_53 (fun H locs hG hS => ?_)
    refine r_iincN (b := 1) (lv' := [(5, .int (nI 4)), (0, .ref (L 999 0)), (1, .int (nI p9)), (2, .int (nI pr)), (3, .int (nI fr)), (4, .int (nI 1))]) hx hb dX9_runs_54 hl (k := 0) rfl (by decide) (by decide) rfl (fun ls hl => ?_)
    refine lv_goto (tgt := 40) hx hb dX9_runs_57 (by decide) ?_
    refine lv_iload hx hb dX9_runs_40 (lv_at hl 0 rfl) ?_
    refine lv_iconst (v := nI 4) hx hb dX9_runs_42 (by decide) ?_
    refine r_icmp_geN (tgt := 60) hx hb dX9_runs_43 (by decide) (by omega) (by omega) (fun c_43_5 => ?_) (fun c_43_5 => absurd c_43_5 (by decide))
    refine lv_aload_n hx hb dX9_runs_60 rfl (lv_at hl 1 rfl) ?_
    refine gt_X9_98 X hK hG rd_999 dX9_runs_61 ?_
    refine lv_iconst (v := nI 0) hx hb dX9_runs_64 (by decide) ?_
    refine lv_iconst (v := nI 0) hx hb dX9_runs_65 (by decide) ?_
    refine as_937 X hK hG hS hA rd_937 (i := 0) (by decide) dX9_runs_66 (fun H locs hG hS => ?_)
    refine lv_aload_n hx hb dX9_runs_67 rfl (lv_at hl 1 rfl) ?_
    refine gt_X9_98 X hK hG rd_999 dX9_runs_68 ?_
    refine lv_iconst (v := nI 1) hx hb dX9_runs_71 (by decide) ?_
    refine lv_iconst (v := nI 0) hx hb dX9_runs_72 (by decide) ?_
    refine as_937 X hK hG hS hA rd_937 (i := 1) (by decide) dX9_runs_73 (fun H locs hG hS => ?_)
    refine lv_aload_n hx hb dX9_runs_74 rfl (lv_at hl 1 rfl) ?_
    refine gt_X9_98 X hK hG rd_999 dX9_runs_75 ?_
    refine lv_iconst (v := nI 2) hx hb dX9_runs_78 (by decide) ?_
    refine lv_bipush (v := nI 9) hx hb dX9_runs_79 (by decide) ?_
    refine as_937 X hK hG hS hA rd_937 (i := 2) (by decide) dX9_runs_81 (fun H locs hG hS => ?_)
    refine lv_aload_n hx hb dX9_runs_82 rfl (lv_at hl 1 rfl) ?_
    refine lv_iconst (v := nI 0) hx hb dX9_runs_83 (by decide) ?_
    refine pt_X9_164 X hK hG hS hA rd_999 dX9_runs_84 (fun H locs hG hS => ?_)
    refine lv_aload_n hx hb dX9_runs_87 rfl (lv_at hl 1 rfl) ?_
    refine lv_iconst (v := nI 0) hx hb dX9_runs_88 (by decide) ?_
    refine pt_X9_178 X hK hG hS hA rd_999 dX9_runs_89 (fun H locs hG hS => ?_)
    refine lv_aload_n hx hb dX9_runs_92 rfl (lv_at hl 1 rfl) ?_
    refine lv_iconst (v := (-1)) hx hb dX9_runs_93 (by decide) ?_
    refine pt_X9_167 X hK hG hS hA rd_999 dX9_runs_94 (fun H locs hG hS => ?_)
    refine lv_aload_n hx hb dX9_runs_97 rfl (lv_at hl 1 rfl) ?_
    refine lv_iconst (v := nI 0) hx hb dX9_runs_98 (by decide) ?_
    refine pt_X9_161 X hK hG hS hA rd_999 dX9_runs_99 (fun H locs hG hS => ?_)
    refine lv_iconst (v := nI 0) hx hb dX9_runs_102 (by decide) ?_
    refine lv_istore (lv' := [(5, .int (nI 0)), (0, .ref (L 999 0)), (1, .int (nI p9)), (2, .int (nI pr)), (3, .int (nI fr)), (4, .int (nI 1))]) hx hb dX9_runs_103 hl (by decide) rfl (fun ls hl => ?_)
    refine lv_iconst (v := nI 0) hx hb dX9_runs_105 (by decide) ?_
    refine lv_istore (lv' := [(6, .int (nI 0)), (5, .int (nI 0)), (0, .ref (L 999 0)), (1, .int (nI p9)), (2, .int (nI pr)), (3, .int (nI fr)), (4, .int (nI 1))]) hx hb dX9_runs_106 hl (by decide) rfl (fun ls hl => ?_)
    refine lv_iconst (v := nI 0) hx hb dX9_runs_108 (by decide) ?_
    refine lv_istore (lv' := [(7, .int (nI 0)), (6, .int (nI 0)), (5, .int (nI 0)), (0, .ref (L 999 0)), (1, .int (nI p9)), (2, .int (nI pr)), (3, .int (nI fr)), (4, .int (nI 1))]) hx hb dX9_runs_109 hl (by decide) rfl (fun ls hl => ?_)
    refine lv_aload_n hx hb dX9_runs_111 rfl (lv_at hl 3 rfl) ?_
    refine gt_X9_101 X hK hG rd_999 dX9_runs_112 ?_
    refine lv_iconst (v := nI 0) hx hb dX9_runs_115 (by decide) ?_
    refine lv_iload_n hx hb dX9_runs_116 rfl (lv_at hl 5 rfl) ?_
    refine as_938 X hK hG hS hA rd_938 (i := 0) (by decide) dX9_runs_117 (fun H locs hG hS => ?_)
    refine lv_aload_n hx hb dX9_runs_118 rfl (lv_at hl 3 rfl) ?_
    refine gt_X9_104 X hK hG rd_999 dX9_runs_119 ?_
    refine lv_iconst (v := nI 0) hx hb dX9_runs_122 (by decide) ?_
    refine lv_iconst (v := nI 0) hx hb dX9_runs_123 (by decide) ?_
    refine as_939 X hK hG hS hA rd_939 (i := 0) (by decide) dX9_runs_124 (fun H locs hG hS => ?_)
    refine r_loop (ι := Nat × Nat × Nat × Int32 × St) (fun (⟨f9, d9, m9, w9, σ9⟩ : Nat × Nat × Nat × Int32 × St) => [(0, .ref (L 999 0)), (1, .int (nI p9)), (2, .int (nI pr)), (3, .int (nI fr)), (4, .int (nI 1)), (5, .int (nI d9 + (-1))), (6, .int (nI m9)), (7, .int w9)]) (fun (⟨f9, d9, m9, w9, σ9⟩ : Nat × Nat × Nat × Int32 × St) => σ9) (fun (⟨f9, d9, m9, w9, σ9⟩ : Nat × Nat × Nat × Int32 × St) => (if w9 = 0 then f9 else 0)) (fun (⟨f9, d9, m9, w9, σ9⟩ : Nat × Nat × Nat × Int32 × St) => m_rl1 p9 fr 2000 1 0 (m_ini p9 pr σ) = (if w9 = 0 then m_rl1 p9 fr f9 d9 m9 σ9 else (w9, σ9)) ∧ (w9 = 0 → 2 * (601 - m9) + d9 + 1 ≤ f9) ∧ SI σ9 ∧ PI σ9 ∧ SK d9 pr σ9 ∧ m9 ≤ 600 ∧ σ9.1 943 0 ≤ 11 * m9 ∧ pr < σ9.1 904 0) ⟨2000, 1, 0, nI 0, m_ini p9 pr σ⟩ (⟨(if_pos rfl).symm, fun _ => (by decide), SI_ini hs0, PI_ini hP0, SK_ini, by decide, Nat.zero_le _, by rw [ini_904]; exact hpr⟩) hG hS (lv_sub hl [3, 4, 5, 6, 7, 2, 1, 0] rfl) ?_
    rintro ⟨f9, d9, m9, w9, σ9⟩ hinv ih H locs ls hG hS hl
    have hG : PW D cI cZ cO rdom L σ9 ow H := hG
    have hl : lv_has ls 11 [(0, .ref (L 999 0)), (1, .int (nI p9)), (2, .int (nI pr)), (3, .int (nI fr)), (4, .int (nI 1)), (5, .int (nI d9 + (-1))), (6, .int (nI m9)), (7, .int w9)] := hl
    obtain ⟨hq, hf, hs, hP, hk, hm, hst, hprs⟩ := hinv
    refine lv_iload hx hb dX9_runs_125 (lv_at hl 5 rfl) ?_
    refine lv_if_lt (tgt := 313) hx hb dX9_runs_127 (by decide) (fun c_127 => ?_) (fun c_127 => ?_)
    · have hE : m_runs1 p9 pr fr σ = (w9, σ9) := by
        unfold m_runs1
        rw [hq]
        by_cases hw : w9 = 0
        · obtain ⟨f1, hf1⟩ : ∃ z, f9 = z + 1 := ⟨f9 - 1, by have := hf hw; omega⟩
          first | exact absurd hw c_132 | (rw [if_pos hw, hf1, dz c_127 hk.1, hw]; rfl)
        · rw [if_neg hw]
      refine lv_iload hx hb dX9_runs_313 (lv_at hl 7 rfl) ?_
      exact rm_ret hx hb hr hlocks hG hS (by rw [hE]) (by rw [hE]) rfl dX9_runs_315
    · have hd : 0 < d9 := Nat.pos_of_ne_zero (fun z => c_127 (by rw [z]; decide))
      refine lv_iload hx hb dX9_runs_130 (lv_at hl 7 rfl) ?_
      refine lv_if_ne (tgt := 313) hx hb dX9_runs_132 (by decide) (fun c_132 => ?_) (fun c_132 => ?_)
      · have hE : m_runs1 p9 pr fr σ = (w9, σ9) := by
          unfold m_runs1
          rw [hq]
          by_cases hw : w9 = 0
          · obtain ⟨f1, hf1⟩ : ∃ z, f9 = z + 1 := ⟨f9 - 1, by have := hf hw; omega⟩
            first | exact absurd hw c_132 | (rw [if_pos hw, hf1, dz c_127 hk.1, hw]; rfl)
          · rw [if_neg hw]
        refine lv_iload hx hb dX9_runs_313 (lv_at hl 7 rfl) ?_
        exact rm_ret hx hb hr hlocks hG hS (by rw [hE]) (by rw [hE]) rfl dX9_runs_315
      · obtain ⟨f1, hf1⟩ : ∃ z, f9 = z + 1 := ⟨f9 - 1, by have := hf c_132; omega⟩
        have hfb := hf c_132
        have hx9 := sk_ix hd hprs hk hP
        have hd6 := hk.1
        have hp6 : pr < 6 := by have := hP0.1; omega
        refine lv_aload_n hx hb dX9_runs_135 rfl (lv_at hl 0 rfl) ?_
        refine gt_X9_101 X hK hG rd_999 dX9_runs_136 ?_
        refine lv_iload hx hb dX9_runs_139 (lv_at hl 5 rfl) ?_
        refine r_top (y := nI (d9 - 1)) (dm1 hd) ?_
        refine al_938 X hK hG rd_938 (i := d9 - 1) (x := σ9.2.2.1 938 0 (d9 - 1)) (by omega) rfl dX9_runs_141 ?_
        refine lv_istore (lv' := [(8, .int (nI (σ9.2.2.1 938 0 (d9 - 1)))), (0, .ref (L 999 0)), (1, .int (nI p9)), (2, .int (nI pr)), (3, .int (nI fr)), (4, .int (nI 1)), (5, .int (nI d9 + (-1))), (6, .int (nI m9)), (7, .int w9)]) hx hb dX9_runs_142 hl (by decide) rfl (fun ls hl => ?_)
        refine lv_aload_n hx hb dX9_runs_144 rfl (lv_at hl 1 rfl) ?_
        refine gt_X9_104 X hK hG rd_999 dX9_runs_145 ?_
        refine lv_iload hx hb dX9_runs_148 (lv_at hl 6 rfl) ?_
        refine r_top (y := nI (d9 - 1)) (dm1 hd) ?_
        refine al_939 X hK hG rd_939 (i := d9 - 1) (x := σ9.2.2.1 939 0 (d9 - 1)) (by omega) rfl dX9_runs_150 ?_
        refine lv_aload_n hx hb dX9_runs_151 rfl (lv_at hl 1 rfl) ?_
        refine gt_X9_13 X hK hG rd_999 dX9_runs_152 ?_
        refine lv_iload hx hb dX9_runs_155 (lv_at hl 0 rfl) ?_
        refine al_903 X hK hG rd_903 (i := σ9.2.2.1 938 0 (d9 - 1)) (x := σ9.2.2.1 903 0 (σ9.2.2.1 938 0 (d9 - 1))) (hx9.1) rfl dX9_runs_157 ?_
        refine r_icmp_neN (tgt := 167) hx hb dX9_runs_158 (by decide) (by omega) (by omega) (fun c_158 => ?_) (fun c_158 => ?_)
        · have hbl := sk_bl hd hprs hk hP c_158
          refine lv_iload hx hb dX9_runs_167 (lv_at hl 7 rfl) ?_
          refine lv_sipush (v := nI 600) hx hb dX9_runs_169 (by decide) ?_
          refine r_icmp_neN (tgt := 181) hx hb dX9_runs_172 (by decide) (by omega) (by decide) (fun c_172 => ?_) (fun c_172 => ?_)
          · refine lv_aload_n hx hb dX9_runs_181 rfl (lv_at hl 1 rfl) ?_
            refine gt_X9_7 X hK hG rd_999 dX9_runs_182 ?_
            refine lv_bipush (v := nI 60) hx hb dX9_runs_185 (by decide) ?_
            refine lv_iload hx hb dX9_runs_187 (lv_at hl 0 rfl) ?_
            refine r_mulN hx hb dX9_runs_189 ?_
            refine lv_iconst (v := nI 2) hx hb dX9_runs_190 (by decide) ?_
            refine lv_aload_n hx hb dX9_runs_191 rfl (lv_at hl 1 rfl) ?_
            refine gt_X9_104 X hK hG rd_999 dX9_runs_192 ?_
            refine lv_iload hx hb dX9_runs_195 (lv_at hl 6 rfl) ?_
            refine r_top (y := nI (d9 - 1)) (dm1 hd) ?_
            refine al_939 X hK hG rd_939 (i := d9 - 1) (x := σ9.2.2.1 939 0 (d9 - 1)) (by omega) rfl dX9_runs_197 ?_
            refine r_mulN hx hb dX9_runs_198 ?_
            refine r_addN hx hb dX9_runs_199 ?_
            refine al_902 X hK hG rd_902 (i := (60 * (σ9.2.2.1 938 0 (d9 - 1))) + (2 * (σ9.2.2.1 939 0 (d9 - 1)))) (x := m_w d9 σ9) (by omega) rfl dX9_runs_200 ?_
            refine lv_istore (lv' := [(9, .int (m_w d9 σ9)), (8, .int (nI (σ9.2.2.1 938 0 (d9 - 1)))), (0, .ref (L 999 0)), (1, .int (nI p9)), (2, .int (nI pr)), (3, .int (nI fr)), (4, .int (nI 1)), (5, .int (nI d9 + (-1))), (6, .int (nI m9)), (7, .int w9)]) hx hb dX9_runs_201 hl (by decide) rfl (fun ls hl => ?_)
            refine lv_aload_n hx hb dX9_runs_203 rfl (lv_at hl 2 rfl) ?_
            refine gt_X9_7 X hK hG rd_999 dX9_runs_204 ?_
            refine lv_bipush (v := nI 60) hx hb dX9_runs_207 (by decide) ?_
            refine lv_iload hx hb dX9_runs_209 (lv_at hl 1 rfl) ?_
            refine r_mulN hx hb dX9_runs_211 ?_
            refine lv_iconst (v := nI 2) hx hb dX9_runs_212 (by decide) ?_
            refine lv_aload_n hx hb dX9_runs_213 rfl (lv_at hl 2 rfl) ?_
            refine gt_X9_104 X hK hG rd_999 dX9_runs_214 ?_
            refine lv_iload hx hb dX9_runs_217 (lv_at hl 7 rfl) ?_
            refine r_top (y := nI (d9 - 1)) (dm1 hd) ?_
            refine al_939 X hK hG rd_939 (i := d9 - 1) (x := σ9.2.2.1 939 0 (d9 - 1)) (by omega) rfl dX9_runs_219 ?_
            refine r_mulN hx hb dX9_runs_220 ?_
            refine r_addN hx hb dX9_runs_221 ?_
            refine lv_iconst (v := nI 1) hx hb dX9_runs_222 (by decide) ?_
            refine r_addN hx hb dX9_runs_223 ?_
            refine al_902 X hK hG rd_902 (i := ((60 * (σ9.2.2.1 938 0 (d9 - 1))) + (2 * (σ9.2.2.1 939 0 (d9 - 1)))) + 1) (x := m_v d9 σ9) (by omega) rfl dX9_runs_224 ?_
            refine lv_istore (lv' := [(10, .int (m_v d9 σ9)), (9, .int (m_w d9 σ9)), (8, .int (nI (σ9.2.2.1 938 0 (d9 - 1)))), (0, .ref (L 999 0)), (1, .int (nI p9)), (2, .int (nI pr)), (3, .int (nI fr)), (4, .int (nI 1)), (5, .int (nI d9 + (-1))), (6, .int (nI m9)), (7, .int w9)]) hx hb dX9_runs_225 hl (by decide) rfl (fun ls hl => ?_)
            refine r_iincN (b := 1) (lv' := [(6, .int (nI (m9 + 1))), (10, .int (m_v d9 σ9)), (9, .int (m_w d9 σ9)), (8, .int (nI (σ9.2.2.1 938 0 (d9 - 1)))), (0, .ref (L 999 0)), (1, .int (nI p9)), (2, .int (nI pr)), (3, .int (nI fr)), (4, .int (nI 1)), (5, .int (nI d9 + (-1))), (7, .int w9)]) hx hb dX9_runs_227 hl (k := 9) rfl (by decide) (by decide) rfl (fun ls hl => ?_)
            refine lv_aload_n hx hb dX9_runs_230 rfl (lv_at hl 4 rfl) ?_
            refine gt_X9_104 X hK hG rd_999 dX9_runs_231 ?_
            refine lv_iload hx hb dX9_runs_234 (lv_at hl 9 rfl) ?_
            refine r_top (y := nI (d9 - 1)) (dm1 hd) ?_
            refine lv_dup2_11 hx hb dX9_runs_236 rfl rfl ?_
            refine al_939 X hK hG rd_939 (i := d9 - 1) (x := σ9.2.2.1 939 0 (d9 - 1)) (by omega) rfl dX9_runs_237 ?_
            refine lv_iconst (v := nI 1) hx hb dX9_runs_238 (by decide) ?_
            refine r_addN hx hb dX9_runs_239 ?_
            refine as_939 X hK hG hS hA rd_939 (i := d9 - 1) (by omega) dX9_runs_240 (fun H locs hG hS => ?_)
            refine lv_iload hx hb dX9_runs_241 (lv_at hl 2 rfl) ?_
            refine lv_bipush (v := nI 6) hx hb dX9_runs_243 (by decide) ?_
            refine lv_icmp_ne (tgt := 271) hx hb dX9_runs_245 (by decide) (fun c_245 => ?_) (fun c_245 => ?_)
            · have hba := blk_all1 (p := p9) (fr := fr) (w := m_w d9 σ9) (v := m_v d9 σ9) (SI_adv (d := d9) hs) hbl.2
              refine lv_iload hx hb dX9_runs_271 (lv_at hl 2 rfl) ?_
              refine lv_iconst (v := nI 2) hx hb dX9_runs_273 (by decide) ?_
              refine lv_iconst (v := nI 4) hx hb dX9_runs_274 (by decide) ?_
              refine rm_callS X hK hG hS ysX9_in ml_X9_114 [.int (m_w d9 σ9), .int (nI 2), .int (nI 4)] [] (c_X9_in l L (wA σ9 939 0 (d9 - 1) ((σ9.2.2.1 939 0 (d9 - 1)) + 1)) ow (m_w d9 σ9) (nI 2) (nI 4)) rfl hl.1 rfl (Nat.le_of_ble_eq_true rfl) ⟨Nat.le_of_ble_eq_true rfl, Nat.le_of_ble_eq_true rfl⟩ ⟨Nat.zero_le _, Nat.zero_le _⟩ dX9_runs_275 (fun H locs hG hS => ?_)
              refine r_if_eqB (tgt := 300) hx hb dX9_runs_278 (by decide) (fun c_278 => ?_) (fun c_278 => ?_)
              · refine lv_aload_n hx hb dX9_runs_300 rfl (lv_at hl 4 rfl) ?_
                refine lv_iload hx hb dX9_runs_301 (lv_at hl 2 rfl) ?_
                refine lv_iload hx hb dX9_runs_303 (lv_at hl 1 rfl) ?_
                refine rm_callV X hK hG hS yvX9_sets ml_X9_189 kX9 rfl rd_999 [.int (m_w d9 σ9), .int (m_v d9 σ9)] [] (c_X9_sets l L (wA σ9 939 0 (d9 - 1) ((σ9.2.2.1 939 0 (d9 - 1)) + 1)) ow (m_w d9 σ9) (m_v d9 σ9) (by show σ9.2.2.1 937 0 2 < 2147483648; have := hs.2.2.1; omega)) rfl hl.1 rfl (Nat.le_of_ble_eq_true rfl) ⟨Nat.le_of_ble_eq_true rfl, Nat.le_of_ble_eq_true rfl⟩ ⟨Nat.zero_le _, Nat.zero_le _⟩ dX9_runs_305 (fun H locs hG hS => ?_)
                have hbe : (m_sets (m_w d9 σ9) (m_v d9 σ9) (m_adv d9 σ9)) = m_blk1 p9 fr (m_w d9 σ9) (m_v d9 σ9) (m_adv d9 σ9) := (if_neg c_278).symm
                have hG : PW D cI cZ cO rdom L (m_blk1 p9 fr (m_w d9 σ9) (m_v d9 σ9) (m_adv d9 σ9)).2 ow H := by rw [← hbe]; exact hG
                refine r_top (y := (m_blk1 p9 fr (m_w d9 σ9) (m_v d9 σ9) (m_adv d9 σ9)).1) (by rw [← hbe]; rfl) ?_
                refine lv_istore (lv' := [(7, .int ((m_blk1 p9 fr (m_w d9 σ9) (m_v d9 σ9) (m_adv d9 σ9)).1)), (6, .int (nI (m9 + 1))), (10, .int (m_v d9 σ9)), (9, .int (m_w d9 σ9)), (8, .int (nI (σ9.2.2.1 938 0 (d9 - 1)))), (0, .ref (L 999 0)), (1, .int (nI p9)), (2, .int (nI pr)), (3, .int (nI fr)), (4, .int (nI 1)), (5, .int (nI d9 + (-1)))]) hx hb dX9_runs_308 hl (by decide) rfl (fun ls hl => ?_)
                refine lv_goto (tgt := 125) hx hb dX9_runs_310 (by decide) ?_
                exact ih ⟨f1, d9, m9 + 1, (m_blk1 p9 fr (m_w d9 σ9) (m_v d9 σ9) (m_adv d9 σ9)).1, (m_blk1 p9 fr (m_w d9 σ9) (m_v d9 σ9) (m_adv d9 σ9)).2⟩ (by show (if (m_blk1 p9 fr (m_w d9 σ9) (m_v d9 σ9) (m_adv d9 σ9)).1 = 0 then f1 else 0) < (if w9 = 0 then f9 else 0); rw [if_pos c_132]; split <;> omega) (⟨(by rw [hq, if_pos c_132, hf1]; show (if d9 = 0 then _ else _) = _; rw [if_neg (Nat.pos_iff_ne_zero.mp hd), if_neg c_158, if_neg c_172, if_neg c_245]), fun _ => by omega, hba.2.1, (PI_adv hP).sp hba.1, (SK_adv hd hk c_158).sp hba.1, by omega, by have h7 : (m_adv d9 σ9).1 943 0 = σ9.1 943 0 := rfl; have h8 := hba.2.2; omega, by rw [hba.1.2.2.2.2]; exact hprs⟩) H locs ls hG hS (lv_sub hl [5, 6, 7, 8, 9, 10, 1, 0] rfl)
              · refine lv_aload_n hx hb dX9_runs_281 rfl (lv_at hl 4 rfl) ?_
                refine lv_iload_n hx hb dX9_runs_282 rfl (lv_at hl 5 rfl) ?_
                refine lv_iload hx hb dX9_runs_283 (lv_at hl 2 rfl) ?_
                refine lv_iconst (v := nI 2) hx hb dX9_runs_285 (by decide) ?_
                refine lv_isub hx hb dX9_runs_286 ?_
                refine r_top (y := nI (tn (m_w d9 σ9) - 2)) ((wm2 c_278).1) ?_
                refine lv_iload hx hb dX9_runs_287 (lv_at hl 1 rfl) ?_
                refine lv_iload_n hx hb dX9_runs_289 rfl (lv_at hl 7 rfl) ?_
                refine lv_iload hx hb dX9_runs_290 (lv_at hl 8 rfl) ?_
                refine rm_callV X hK hG hS yvX9_moves ml_X9_185 kX9 rfl rd_999 [.int (nI p9), .int (nI (tn (m_w d9 σ9) - 2)), .int (m_v d9 σ9), .int (nI fr), .int (nI 1)] [] (c_X9_moves1 l L (wA σ9 939 0 (d9 - 1) ((σ9.2.2.1 939 0 (d9 - 1)) + 1)) ow p9 (tn (m_w d9 σ9) - 2) (m_v d9 σ9) fr hp (wm2 c_278).2.1 hfr (by show σ9.1 943 0 < 90000; omega) (SI_adv hs)) rfl hl.1 rfl (Nat.le_of_ble_eq_true rfl) ⟨Nat.le_of_ble_eq_true rfl, Nat.le_of_ble_eq_true rfl⟩ ⟨Nat.zero_le _, Nat.zero_le _⟩ dX9_runs_292 (fun H locs hG hS => ?_)
                have hbe : (m_moves1 p9 (tn (m_w d9 σ9) - 2) (m_v d9 σ9) fr (m_adv d9 σ9)) = m_blk1 p9 fr (m_w d9 σ9) (m_v d9 σ9) (m_adv d9 σ9) := (if_pos c_278).symm
                have hG : PW D cI cZ cO rdom L (m_blk1 p9 fr (m_w d9 σ9) (m_v d9 σ9) (m_adv d9 σ9)).2 ow H := by rw [← hbe]; exact hG
                refine r_top (y := (m_blk1 p9 fr (m_w d9 σ9) (m_v d9 σ9) (m_adv d9 σ9)).1) (by rw [← hbe]; rfl) ?_
                refine lv_istore (lv' := [(7, .int ((m_blk1 p9 fr (m_w d9 σ9) (m_v d9 σ9) (m_adv d9 σ9)).1)), (6, .int (nI (m9 + 1))), (10, .int (m_v d9 σ9)), (9, .int (m_w d9 σ9)), (8, .int (nI (σ9.2.2.1 938 0 (d9 - 1)))), (0, .ref (L 999 0)), (1, .int (nI p9)), (2, .int (nI pr)), (3, .int (nI fr)), (4, .int (nI 1)), (5, .int (nI d9 + (-1)))]) hx hb dX9_runs_295 hl (by decide) rfl (fun ls hl => ?_)
                refine lv_goto (tgt := 310) hx hb dX9_runs_297 (by decide) ?_
                refine lv_goto (tgt := 125) hx hb dX9_runs_310 (by decide) ?_
                exact ih ⟨f1, d9, m9 + 1, (m_blk1 p9 fr (m_w d9 σ9) (m_v d9 σ9) (m_adv d9 σ9)).1, (m_blk1 p9 fr (m_w d9 σ9) (m_v d9 σ9) (m_adv d9 σ9)).2⟩ (by show (if (m_blk1 p9 fr (m_w d9 σ9) (m_v d9 σ9) (m_adv d9 σ9)).1 = 0 then f1 else 0) < (if w9 = 0 then f9 else 0); rw [if_pos c_132]; split <;> omega) (⟨(by rw [hq, if_pos c_132, hf1]; show (if d9 = 0 then _ else _) = _; rw [if_neg (Nat.pos_iff_ne_zero.mp hd), if_neg c_158, if_neg c_172, if_neg c_245]), fun _ => by omega, hba.2.1, (PI_adv hP).sp hba.1, (SK_adv hd hk c_158).sp hba.1, by omega, by have h7 : (m_adv d9 σ9).1 943 0 = σ9.1 943 0 := rfl; have h8 := hba.2.2; omega, by rw [hba.1.2.2.2.2]; exact hprs⟩) H locs ls hG hS (lv_sub hl [5, 6, 7, 8, 9, 10, 1, 0] rfl)
            · refine lv_iinc (v := (nI (d9 + 1) + (-1))) (lv' := [(5, .int (nI (d9 + 1) + (-1))), (6, .int (nI (m9 + 1))), (10, .int (m_v d9 σ9)), (9, .int (m_w d9 σ9)), (8, .int (nI (σ9.2.2.1 938 0 (d9 - 1)))), (0, .ref (L 999 0)), (1, .int (nI p9)), (2, .int (nI pr)), (3, .int (nI fr)), (4, .int (nI 1)), (7, .int w9)]) hx hb dX9_runs_248 hl (k := 9) rfl (by rw [dm1 hd, pk_m1]; show nI (d9 - 1) + nI 1 = nI d9; rw [nI_add, Nat.sub_add_cancel hd]) (by decide) rfl (fun ls hl => ?_)
              refine lv_aload_n hx hb dX9_runs_251 rfl (lv_at hl 5 rfl) ?_
              refine gt_X9_101 X hK hG rd_999 dX9_runs_252 ?_
              refine lv_iload hx hb dX9_runs_255 (lv_at hl 0 rfl) ?_
              refine r_top (y := nI d9) (pk_m1 d9) ?_
              refine lv_iload hx hb dX9_runs_257 (lv_at hl 2 rfl) ?_
              refine r_top (y := nI (tn (m_v d9 σ9))) (ix_eq (hbl.1 c_245)) ?_
              refine as_938 X hK hG hS hA rd_938 (i := d9) (by omega) dX9_runs_259 (fun H locs hG hS => ?_)
              refine lv_aload_n hx hb dX9_runs_260 rfl (lv_at hl 5 rfl) ?_
              refine gt_X9_104 X hK hG rd_999 dX9_runs_261 ?_
              refine lv_iload hx hb dX9_runs_264 (lv_at hl 0 rfl) ?_
              refine r_top (y := nI d9) (pk_m1 d9) ?_
              refine lv_iconst (v := nI 0) hx hb dX9_runs_266 (by decide) ?_
              refine as_939 X hK hG hS hA rd_939 (i := d9) (by omega) dX9_runs_267 (fun H locs hG hS => ?_)
              refine lv_goto (tgt := 310) hx hb dX9_runs_268 (by decide) ?_
              refine lv_goto (tgt := 125) hx hb dX9_runs_310 (by decide) ?_
              exact ih ⟨f1, d9 + 1, m9 + 1, w9, m_call d9 (m_v d9 σ9) σ9⟩ (by show (if w9 = 0 then f1 else 0) < (if w9 = 0 then f9 else 0); rw [if_pos c_132, if_pos c_132]; omega) (⟨(by rw [hq, if_pos c_132, hf1]; show (if d9 = 0 then _ else _) = _; rw [if_neg (Nat.pos_iff_ne_zero.mp hd), if_neg c_158, if_neg c_172, if_pos c_245, if_pos c_132]), fun _ => by omega, SI_call hs, PI_call hP, SK_call hd hp6 hk c_158 (hbl.1 c_245), by omega, by show σ9.1 943 0 ≤ 11 * (m9 + 1); omega, hprs⟩) H locs ls hG hS (lv_sub hl [5, 6, 7, 8, 9, 0, 1, 10] rfl)
          · refine lv_iconst (v := nI 4) hx hb dX9_runs_175 (by decide) ?_
            refine lv_istore (lv' := [(7, .int (nI 4)), (8, .int (nI (σ9.2.2.1 938 0 (d9 - 1)))), (0, .ref (L 999 0)), (1, .int (nI p9)), (2, .int (nI pr)), (3, .int (nI fr)), (4, .int (nI 1)), (5, .int (nI d9 + (-1))), (6, .int (nI m9))]) hx hb dX9_runs_176 hl (by decide) rfl (fun ls hl => ?_)
            refine lv_goto (tgt := 310) hx hb dX9_runs_178 (by decide) ?_
            refine lv_goto (tgt := 125) hx hb dX9_runs_310 (by decide) ?_
            exact ih ⟨f1, d9, m9, nI 4, σ9⟩ (by show (if nI 4 = 0 then f1 else 0) < (if w9 = 0 then f9 else 0); rw [if_neg (by decide), if_pos c_132]; omega) (⟨(by rw [hq, if_pos c_132, hf1]; show (if d9 = 0 then _ else _) = _; rw [if_neg (Nat.pos_iff_ne_zero.mp hd), if_neg c_158, if_pos c_172, if_neg (by decide : ¬ nI 4 = 0)]), fun z => absurd z (by decide), hs, hP, hk, hm, hst, hprs⟩) H locs ls hG hS (lv_sub hl [2, 3, 4, 5, 6, 7, 8, 0] rfl)
        · refine lv_iinc (v := (nI (d9 - 1) + (-1))) (lv' := [(5, .int (nI (d9 - 1) + (-1))), (8, .int (nI (σ9.2.2.1 938 0 (d9 - 1)))), (0, .ref (L 999 0)), (1, .int (nI p9)), (2, .int (nI pr)), (3, .int (nI fr)), (4, .int (nI 1)), (6, .int (nI m9)), (7, .int w9)]) hx hb dX9_runs_161 hl (k := 6) rfl (by rw [dm1 hd]; rfl) (by decide) rfl (fun ls hl => ?_)
          refine lv_goto (tgt := 310) hx hb dX9_runs_164 (by decide) ?_
          refine lv_goto (tgt := 125) hx hb dX9_runs_310 (by decide) ?_
          exact ih ⟨f1, d9 - 1, m9, w9, σ9⟩ (by show (if w9 = 0 then f1 else 0) < (if w9 = 0 then f9 else 0); rw [if_pos c_132, if_pos c_132]; omega) (⟨(by rw [hq, if_pos c_132, hf1]; show (if d9 = 0 then _ else _) = _; rw [if_neg (Nat.pos_iff_ne_zero.mp hd), if_pos c_158, if_pos c_132]), fun _ => by omega, hs, hP, SK_pop hk, hm, hst, hprs⟩) H locs ls hG hS (lv_sub hl [2, 3, 4, 5, 6, 0, 7, 8] rfl)
  · refine lv_aload_n hx hb dX9_runs_11 rfl (lv_at hl 0 rfl) ?_
    refine gt_X9_92 X hK hG rd_999 dX9_runs_12 ?_
    refine lv_iload hx hb dX9_runs_15 (lv_at hl 5 rfl) ?_
    refine lv_aload_n hx hb dX9_runs_17 rfl (lv_at hl 0 rfl) ?_
    refine gt_X9_44 X hK hG rd_999 dX9_runs_18 ?_
    refine lv_sipush (v := nI 144) hx hb dX9_runs_21 (by decide) ?_
    refine lv_iload_n hx hb dX9_runs_24 rfl (lv_at hl 1 rfl) ?_
    refine r_mulN hx hb dX9_runs_25 ?_
    refine lv_iload hx hb dX9_runs_26 (lv_at hl 5 rfl) ?_
    refine r_addN hx hb dX9_runs_28 ?_
    refine al_915 X hK hG rd_915 (i := 144 * p9 + k) (x := σ.2.2.2 915 0 (144 * p9 + k)) (by omega) ((show (m_cp p9 k σ).2.2.2 915 0 (144 * p9 + k) = _ from by rw [m_cp_B] <;> rfl).trans rfl) dX9_runs_29 ?_
    refine as_935 X hK hG hS hA rd_935 (i := k) (by omega) dX9_runs_30 (fun H locs hG hS => ?_)
    refine r_iincN (b := 1) (lv' := [(5, .int (nI (k + 1))), (0, .ref (L 999 0)), (1, .int (nI p9)), (2, .int (nI pr)), (3, .int (nI fr)), (4, .int (nI 1))]) hx hb dX9_runs_31 hl (k := 5) rfl (by decide) (by decide) rfl (fun ls hl => ?_)
    refine lv_goto (tgt := 3) hx hb dX9_runs_34 (by decide) ?_
    exact ih (k + 1) (by show 144 - (k + 1) < 144 - k; omega) (by show k + 1 ≤ 144; omega) H locs ls hG hS (lv_sub hl [1, 2, 3, 4, 5, 0] rfl)
set_option maxRecDepth 100000 in
set_option maxHeartbeats 4000000 in
theorem c_X9_runs2 {D : va_G} {cI cZ cO : ClassId} (l : Launch) (L : Lay) (σ : St) (ow : Nat → Prop) (p9 pr fr : Nat) (hp : p9 < 6) (hfr : fr < 100000) (hpr : pr < σ.1 904 0) (hs0 : SI σ) (hP0 : PI σ) : RM D cI cZ cO rdom l yX9_runs cX9_runs 11 ((some FieldType.int)) 3 79 [.ref (L 999 0), .int (nI p9), .int (nI pr), .int (nI fr), .int (nI 2)] L σ ow ((m_runs2 p9 pr fr σ).1) ((m_runs2 p9 pr fr σ).2) := by
  refine rm_of rfl (Nat.le_of_ble_eq_true rfl) ?_
  intro p e s m below meth c ls X hK hG hr hlocks hl
  have X : CallFix p m c cX9_runs 11 s _ TB RX9 := X
  have hx := X.1
  have hb := X.2.1
  have hS : va_S (AA ow s.heap.size) s.heap s.heap [] := va_S.rf
  have hA : ∀ q, ow q → AA ow s.heap.size q := fun _ h => Or.inl h
  have hl : lv_has ls 11 [(0, .ref (L 999 0)), (1, .int (nI p9)), (2, .int (nI pr)), (3, .int (nI fr)), (4, .int (nI 2))] := hl
  refine lv_iconst (v := nI 0) hx hb dX9_runs_0 (by decide) ?_
  refine lv_istore (lv' := [(5, .int (nI 0)), (0, .ref (L 999 0)), (1, .int (nI p9)), (2, .int (nI pr)), (3, .int (nI fr)), (4, .int (nI 2))]) hx hb dX9_runs_1 hl (by decide) rfl (fun ls hl => ?_)
  refine r_loop (ι := Nat) (fun (k : Nat) => [(0, .ref (L 999 0)), (1, .int (nI p9)), (2, .int (nI pr)), (3, .int (nI fr)), (4, .int (nI 2)), (5, .int (nI k))]) (fun (k : Nat) => (m_cp p9 k σ)) (fun (k : Nat) => 144 - k) (fun (k : Nat) => k ≤ 144) 0 (Nat.zero_le _) hG hS (lv_sub hl [1, 2, 3, 4, 5, 0] rfl) ?_
  rintro k hinv ih H locs ls hG hS hl
  have hG : PW D cI cZ cO rdom L (m_cp p9 k σ) ow H := hG
  have hl : lv_has ls 11 [(0, .ref (L 999 0)), (1, .int (nI p9)), (2, .int (nI pr)), (3, .int (nI fr)), (4, .int (nI 2)), (5, .int (nI k))] := hl
  obtain hk := hinv
  refine lv_iload hx hb dX9_runs_3 (lv_at hl 5 rfl) ?_
  refine lv_sipush (v := nI 144) hx hb dX9_runs_5 (by decide) ?_
  refine r_icmp_geN (tgt := 37) hx hb dX9_runs_8 (by decide) (by omega) (by decide) (fun c_8 => ?_) (fun c_8 => ?_)
  · obtain rfl : k = 144 := by omega
    refine lv_iconst (v := nI 0) hx hb dX9_runs_37 (by decide) ?_
    refine lv_istore (lv' := [(5, .int (nI 0)), (0, .ref (L 999 0)), (1, .int (nI p9)), (2, .int (nI pr)), (3, .int (nI fr)), (4, .int (nI 2))]) hx hb dX9_runs_38 hl (by decide) rfl (fun ls hl => ?_)
    refine lv_iload hx hb dX9_runs_40 (lv_at hl 0 rfl) ?_
    refine lv_iconst (v := nI 4) hx hb dX9_runs_42 (by decide) ?_
    refine r_icmp_geN (tgt := 60) hx hb dX9_runs_43 (by decide) (by omega) (by omega) (fun c_43 => absurd c_43 (by decide)) (fun c_43 => ?_)
    refine lv_aload_n hx hb dX9_runs_46 rfl (lv_at hl 1 rfl) ?_
    refine gt_X9_95 X hK hG rd_999 dX9_runs_47 ?_
    refine lv_iload hx hb dX9_runs_50 (lv_at hl 0 rfl) ?_
    refine lv_iconst (v := nI 0) hx hb dX9_runs_52 (by decide) ?_
    refine as_936 X hK hG hS hA rd_936 (i := 0) (by decide) dX9_runs_53 (fun H locs hG hS => ?_)
    refine r_iincN (b := 1) (lv' := [(5, .int (nI 1)), (0, .ref (L 999 0)), (1, .int (nI p9)), (2, .int (nI pr)), (3, .int (nI fr)), (4, .int (nI 2))]) hx hb dX9_runs_54 hl (k := 0) rfl (by decide) (by decide) rfl (fun ls hl => ?_)
    refine lv_goto (tgt := 40) hx hb dX9_runs_57 (by decide) ?_
    refine lv_iload hx hb dX9_runs_40 (lv_at hl 0 rfl) ?_
    refine lv_iconst (v := nI 4) hx hb dX9_runs_42 (by decide) ?_
    refine r_icmp_geN (tgt := 60) hx hb dX9_runs_43 (by decide) (by omega) (by omega) (fun c_43_2 => absurd c_43_2 (by decide)) (fun c_43_2 => ?_)
    refine lv_aload_n hx hb dX9_runs_46 rfl (lv_at hl 1 rfl) ?_
    refine gt_X9_95 X hK hG rd_999 dX9_runs_47 ?_
    refine lv_iload hx hb dX9_runs_50 (lv_at hl 0 rfl) ?_
    refine lv_iconst (v := nI 0) hx hb dX9_runs_52 (by decide) ?_
    refine as_936 X hK hG hS hA rd_936 (i := 1) (by decide) dX9_runs_53 (fun H locs hG hS => ?_)
    refine r_iincN (b := 1) (lv' := [(5, .int (nI 2)), (0, .ref (L 999 0)), (1, .int (nI p9)), (2, .int (nI pr)), (3, .int (nI fr)), (4, .int (nI 2))]) hx hb dX9_runs_54 hl (k := 0) rfl (by decide) (by decide) rfl (fun ls hl => ?_)
    refine lv_goto (tgt := 40) hx hb dX9_runs_57 (by decide) ?_
    refine lv_iload hx hb dX9_runs_40 (lv_at hl 0 rfl) ?_
    refine lv_iconst (v := nI 4) hx hb dX9_runs_42 (by decide) ?_
    refine r_icmp_geN (tgt := 60) hx hb dX9_runs_43 (by decide) (by omega) (by omega) (fun c_43_3 => absurd c_43_3 (by decide)) (fun c_43_3 => ?_)
    refine lv_aload_n hx hb dX9_runs_46 rfl (lv_at hl 1 rfl) ?_
    refine gt_X9_95 X hK hG rd_999 dX9_runs_47 ?_
    refine lv_iload hx hb dX9_runs_50 (lv_at hl 0 rfl) ?_
    refine lv_iconst (v := nI 0) hx hb dX9_runs_52 (by decide) ?_
    refine as_936 X hK hG hS hA rd_936 (i := 2) (by decide) dX9_runs_53 (fun H locs hG hS => ?_)
    refine r_iincN (b := 1) (lv' := [(5, .int (nI 3)), (0, .ref (L 999 0)), (1, .int (nI p9)), (2, .int (nI pr)), (3, .int (nI fr)), (4, .int (nI 2))]) hx hb dX9_runs_54 hl (k := 0) rfl (by decide) (by decide) rfl (fun ls hl => ?_)
    refine lv_goto (tgt := 40) hx hb dX9_runs_57 (by decide) ?_
    refine lv_iload hx hb dX9_runs_40 (lv_at hl 0 rfl) ?_
    refine lv_iconst (v := nI 4) hx hb dX9_runs_42 (by decide) ?_
    refine r_icmp_geN (tgt := 60) hx hb dX9_runs_43 (by decide) (by omega) (by omega) (fun c_43_4 => absurd c_43_4 (by decide)) (fun c_43_4 => ?_)
    refine lv_aload_n hx hb dX9_runs_46 rfl (lv_at hl 1 rfl) ?_
    refine gt_X9_95 X hK hG rd_999 dX9_runs_47 ?_
    refine lv_iload hx hb dX9_runs_50 (lv_at hl 0 rfl) ?_
    refine lv_iconst (v := nI 0) hx hb dX9_runs_52 (by decide) ?_
    refine as_936 X hK hG hS hA rd_936 (i := 3) (by decide) dX9_runs_53 (fun H locs hG hS => ?_)
    refine r_iincN (b := 1) (lv' := [(5, .int (nI 4)), (0, .ref (L 999 0)), (1, .int (nI p9)), (2, .int (nI pr)), (3, .int (nI fr)), (4, .int (nI 2))]) hx hb dX9_runs_54 hl (k := 0) rfl (by decide) (by decide) rfl (fun ls hl => ?_)
    refine lv_goto (tgt := 40) hx hb dX9_runs_57 (by decide) ?_
    refine lv_iload hx hb dX9_runs_40 (lv_at hl 0 rfl) ?_
    refine lv_iconst (v := nI 4) hx hb dX9_runs_42 (by decide) ?_
    refine r_icmp_geN (tgt := 60) hx hb dX9_runs_43 (by decide) (by omega) (by omega) (fun c_43_5 => ?_) (fun c_43_5 => absurd c_43_5 (by decide))
    refine lv_aload_n hx hb dX9_runs_60 rfl (lv_at hl 1 rfl) ?_
    refine gt_X9_98 X hK hG rd_999 dX9_runs_61 ?_
    refine lv_iconst (v := nI 0) hx hb dX9_runs_64 (by decide) ?_
    refine lv_iconst (v := nI 0) hx hb dX9_runs_65 (by decide) ?_
    refine as_937 X hK hG hS hA rd_937 (i := 0) (by decide) dX9_runs_66 (fun H locs hG hS => ?_)
    refine lv_aload_n hx hb dX9_runs_67 rfl (lv_at hl 1 rfl) ?_
    refine gt_X9_98 X hK hG rd_999 dX9_runs_68 ?_
    refine lv_iconst (v := nI 1) hx hb dX9_runs_71 (by decide) ?_
    refine lv_iconst (v := nI 0) hx hb dX9_runs_72 (by decide) ?_
    refine as_937 X hK hG hS hA rd_937 (i := 1) (by decide) dX9_runs_73 (fun H locs hG hS => ?_)
    refine lv_aload_n hx hb dX9_runs_74 rfl (lv_at hl 1 rfl) ?_
    refine gt_X9_98 X hK hG rd_999 dX9_runs_75 ?_
    refine lv_iconst (v := nI 2) hx hb dX9_runs_78 (by decide) ?_
    refine lv_bipush (v := nI 9) hx hb dX9_runs_79 (by decide) ?_
    refine as_937 X hK hG hS hA rd_937 (i := 2) (by decide) dX9_runs_81 (fun H locs hG hS => ?_)
    refine lv_aload_n hx hb dX9_runs_82 rfl (lv_at hl 1 rfl) ?_
    refine lv_iconst (v := nI 0) hx hb dX9_runs_83 (by decide) ?_
    refine pt_X9_164 X hK hG hS hA rd_999 dX9_runs_84 (fun H locs hG hS => ?_)
    refine lv_aload_n hx hb dX9_runs_87 rfl (lv_at hl 1 rfl) ?_
    refine lv_iconst (v := nI 0) hx hb dX9_runs_88 (by decide) ?_
    refine pt_X9_178 X hK hG hS hA rd_999 dX9_runs_89 (fun H locs hG hS => ?_)
    refine lv_aload_n hx hb dX9_runs_92 rfl (lv_at hl 1 rfl) ?_
    refine lv_iconst (v := (-1)) hx hb dX9_runs_93 (by decide) ?_
    refine pt_X9_167 X hK hG hS hA rd_999 dX9_runs_94 (fun H locs hG hS => ?_)
    refine lv_aload_n hx hb dX9_runs_97 rfl (lv_at hl 1 rfl) ?_
    refine lv_iconst (v := nI 0) hx hb dX9_runs_98 (by decide) ?_
    refine pt_X9_161 X hK hG hS hA rd_999 dX9_runs_99 (fun H locs hG hS => ?_)
    refine lv_iconst (v := nI 0) hx hb dX9_runs_102 (by decide) ?_
    refine lv_istore (lv' := [(5, .int (nI 0)), (0, .ref (L 999 0)), (1, .int (nI p9)), (2, .int (nI pr)), (3, .int (nI fr)), (4, .int (nI 2))]) hx hb dX9_runs_103 hl (by decide) rfl (fun ls hl => ?_)
    refine lv_iconst (v := nI 0) hx hb dX9_runs_105 (by decide) ?_
    refine lv_istore (lv' := [(6, .int (nI 0)), (5, .int (nI 0)), (0, .ref (L 999 0)), (1, .int (nI p9)), (2, .int (nI pr)), (3, .int (nI fr)), (4, .int (nI 2))]) hx hb dX9_runs_106 hl (by decide) rfl (fun ls hl => ?_)
    refine lv_iconst (v := nI 0) hx hb dX9_runs_108 (by decide) ?_
    refine lv_istore (lv' := [(7, .int (nI 0)), (6, .int (nI 0)), (5, .int (nI 0)), (0, .ref (L 999 0)), (1, .int (nI p9)), (2, .int (nI pr)), (3, .int (nI fr)), (4, .int (nI 2))]) hx hb dX9_runs_109 hl (by decide) rfl (fun ls hl => ?_)
    refine lv_aload_n hx hb dX9_runs_111 rfl (lv_at hl 3 rfl) ?_
    refine gt_X9_101 X hK hG rd_999 dX9_runs_112 ?_
    refine lv_iconst (v := nI 0) hx hb dX9_runs_115 (by decide) ?_
    refine lv_iload_n hx hb dX9_runs_116 rfl (lv_at hl 5 rfl) ?_
    refine as_938 X hK hG hS hA rd_938 (i := 0) (by decide) dX9_runs_117 (fun H locs hG hS => ?_)
    refine lv_aload_n hx hb dX9_runs_118 rfl (lv_at hl 3 rfl) ?_
    refine gt_X9_104 X hK hG rd_999 dX9_runs_119 ?_
    refine lv_iconst (v := nI 0) hx hb dX9_runs_122 (by decide) ?_
    refine lv_iconst (v := nI 0) hx hb dX9_runs_123 (by decide) ?_
    refine as_939 X hK hG hS hA rd_939 (i := 0) (by decide) dX9_runs_124 (fun H locs hG hS => ?_)
    refine r_loop (ι := Nat × Nat × Nat × Int32 × St) (fun (⟨f9, d9, m9, w9, σ9⟩ : Nat × Nat × Nat × Int32 × St) => [(0, .ref (L 999 0)), (1, .int (nI p9)), (2, .int (nI pr)), (3, .int (nI fr)), (4, .int (nI 2)), (5, .int (nI d9 + (-1))), (6, .int (nI m9)), (7, .int w9)]) (fun (⟨f9, d9, m9, w9, σ9⟩ : Nat × Nat × Nat × Int32 × St) => σ9) (fun (⟨f9, d9, m9, w9, σ9⟩ : Nat × Nat × Nat × Int32 × St) => (if w9 = 0 then f9 else 0)) (fun (⟨f9, d9, m9, w9, σ9⟩ : Nat × Nat × Nat × Int32 × St) => m_rl2 p9 fr 2000 1 0 (m_ini p9 pr σ) = (if w9 = 0 then m_rl2 p9 fr f9 d9 m9 σ9 else (w9, σ9)) ∧ (w9 = 0 → 2 * (601 - m9) + d9 + 1 ≤ f9) ∧ SI σ9 ∧ PI σ9 ∧ SK d9 pr σ9 ∧ m9 ≤ 600 ∧ σ9.1 943 0 ≤ 11 * m9 ∧ pr < σ9.1 904 0) ⟨2000, 1, 0, nI 0, m_ini p9 pr σ⟩ (⟨(if_pos rfl).symm, fun _ => (by decide), SI_ini hs0, PI_ini hP0, SK_ini, by decide, Nat.zero_le _, by rw [ini_904]; exact hpr⟩) hG hS (lv_sub hl [3, 4, 5, 6, 7, 2, 1, 0] rfl) ?_
    rintro ⟨f9, d9, m9, w9, σ9⟩ hinv ih H locs ls hG hS hl
    have hG : PW D cI cZ cO rdom L σ9 ow H := hG
    have hl : lv_has ls 11 [(0, .ref (L 999 0)), (1, .int (nI p9)), (2, .int (nI pr)), (3, .int (nI fr)), (4, .int (nI 2)), (5, .int (nI d9 + (-1))), (6, .int (nI m9)), (7, .int w9)] := hl
    obtain ⟨hq, hf, hs, hP, hk, hm, hst, hprs⟩ := hinv
    refine lv_iload hx hb dX9_runs_125 (lv_at hl 5 rfl) ?_
    refine lv_if_lt (tgt := 313) hx hb dX9_runs_127 (by decide) (fun c_127 => ?_) (fun c_127 => ?_)
    · have hE : m_runs2 p9 pr fr σ = (w9, σ9) := by
        unfold m_runs2
        rw [hq]
        by_cases hw : w9 = 0
        · obtain ⟨f1, hf1⟩ : ∃ z, f9 = z + 1 := ⟨f9 - 1, by have := hf hw; omega⟩
          first | exact absurd hw c_132 | (rw [if_pos hw, hf1, dz c_127 hk.1, hw]; rfl)
        · rw [if_neg hw]
      refine lv_iload hx hb dX9_runs_313 (lv_at hl 7 rfl) ?_
      exact rm_ret hx hb hr hlocks hG hS (by rw [hE]) (by rw [hE]) rfl dX9_runs_315
    · have hd : 0 < d9 := Nat.pos_of_ne_zero (fun z => c_127 (by rw [z]; decide))
      refine lv_iload hx hb dX9_runs_130 (lv_at hl 7 rfl) ?_
      refine lv_if_ne (tgt := 313) hx hb dX9_runs_132 (by decide) (fun c_132 => ?_) (fun c_132 => ?_)
      · have hE : m_runs2 p9 pr fr σ = (w9, σ9) := by
          unfold m_runs2
          rw [hq]
          by_cases hw : w9 = 0
          · obtain ⟨f1, hf1⟩ : ∃ z, f9 = z + 1 := ⟨f9 - 1, by have := hf hw; omega⟩
            first | exact absurd hw c_132 | (rw [if_pos hw, hf1, dz c_127 hk.1, hw]; rfl)
          · rw [if_neg hw]
        refine lv_iload hx hb dX9_runs_313 (lv_at hl 7 rfl) ?_
        exact rm_ret hx hb hr hlocks hG hS (by rw [hE]) (by rw [hE]) rfl dX9_runs_315
      · obtain ⟨f1, hf1⟩ : ∃ z, f9 = z + 1 := ⟨f9 - 1, by have := hf c_132; omega⟩
        have hfb := hf c_132
        have hx9 := sk_ix hd hprs hk hP
        have hd6 := hk.1
        have hp6 : pr < 6 := by have := hP0.1; omega
        refine lv_aload_n hx hb dX9_runs_135 rfl (lv_at hl 0 rfl) ?_
        refine gt_X9_101 X hK hG rd_999 dX9_runs_136 ?_
        refine lv_iload hx hb dX9_runs_139 (lv_at hl 5 rfl) ?_
        refine r_top (y := nI (d9 - 1)) (dm1 hd) ?_
        refine al_938 X hK hG rd_938 (i := d9 - 1) (x := σ9.2.2.1 938 0 (d9 - 1)) (by omega) rfl dX9_runs_141 ?_
        refine lv_istore (lv' := [(8, .int (nI (σ9.2.2.1 938 0 (d9 - 1)))), (0, .ref (L 999 0)), (1, .int (nI p9)), (2, .int (nI pr)), (3, .int (nI fr)), (4, .int (nI 2)), (5, .int (nI d9 + (-1))), (6, .int (nI m9)), (7, .int w9)]) hx hb dX9_runs_142 hl (by decide) rfl (fun ls hl => ?_)
        refine lv_aload_n hx hb dX9_runs_144 rfl (lv_at hl 1 rfl) ?_
        refine gt_X9_104 X hK hG rd_999 dX9_runs_145 ?_
        refine lv_iload hx hb dX9_runs_148 (lv_at hl 6 rfl) ?_
        refine r_top (y := nI (d9 - 1)) (dm1 hd) ?_
        refine al_939 X hK hG rd_939 (i := d9 - 1) (x := σ9.2.2.1 939 0 (d9 - 1)) (by omega) rfl dX9_runs_150 ?_
        refine lv_aload_n hx hb dX9_runs_151 rfl (lv_at hl 1 rfl) ?_
        refine gt_X9_13 X hK hG rd_999 dX9_runs_152 ?_
        refine lv_iload hx hb dX9_runs_155 (lv_at hl 0 rfl) ?_
        refine al_903 X hK hG rd_903 (i := σ9.2.2.1 938 0 (d9 - 1)) (x := σ9.2.2.1 903 0 (σ9.2.2.1 938 0 (d9 - 1))) (hx9.1) rfl dX9_runs_157 ?_
        refine r_icmp_neN (tgt := 167) hx hb dX9_runs_158 (by decide) (by omega) (by omega) (fun c_158 => ?_) (fun c_158 => ?_)
        · have hbl := sk_bl hd hprs hk hP c_158
          refine lv_iload hx hb dX9_runs_167 (lv_at hl 7 rfl) ?_
          refine lv_sipush (v := nI 600) hx hb dX9_runs_169 (by decide) ?_
          refine r_icmp_neN (tgt := 181) hx hb dX9_runs_172 (by decide) (by omega) (by decide) (fun c_172 => ?_) (fun c_172 => ?_)
          · refine lv_aload_n hx hb dX9_runs_181 rfl (lv_at hl 1 rfl) ?_
            refine gt_X9_7 X hK hG rd_999 dX9_runs_182 ?_
            refine lv_bipush (v := nI 60) hx hb dX9_runs_185 (by decide) ?_
            refine lv_iload hx hb dX9_runs_187 (lv_at hl 0 rfl) ?_
            refine r_mulN hx hb dX9_runs_189 ?_
            refine lv_iconst (v := nI 2) hx hb dX9_runs_190 (by decide) ?_
            refine lv_aload_n hx hb dX9_runs_191 rfl (lv_at hl 1 rfl) ?_
            refine gt_X9_104 X hK hG rd_999 dX9_runs_192 ?_
            refine lv_iload hx hb dX9_runs_195 (lv_at hl 6 rfl) ?_
            refine r_top (y := nI (d9 - 1)) (dm1 hd) ?_
            refine al_939 X hK hG rd_939 (i := d9 - 1) (x := σ9.2.2.1 939 0 (d9 - 1)) (by omega) rfl dX9_runs_197 ?_
            refine r_mulN hx hb dX9_runs_198 ?_
            refine r_addN hx hb dX9_runs_199 ?_
            refine al_902 X hK hG rd_902 (i := (60 * (σ9.2.2.1 938 0 (d9 - 1))) + (2 * (σ9.2.2.1 939 0 (d9 - 1)))) (x := m_w d9 σ9) (by omega) rfl dX9_runs_200 ?_
            refine lv_istore (lv' := [(9, .int (m_w d9 σ9)), (8, .int (nI (σ9.2.2.1 938 0 (d9 - 1)))), (0, .ref (L 999 0)), (1, .int (nI p9)), (2, .int (nI pr)), (3, .int (nI fr)), (4, .int (nI 2)), (5, .int (nI d9 + (-1))), (6, .int (nI m9)), (7, .int w9)]) hx hb dX9_runs_201 hl (by decide) rfl (fun ls hl => ?_)
            refine lv_aload_n hx hb dX9_runs_203 rfl (lv_at hl 2 rfl) ?_
            refine gt_X9_7 X hK hG rd_999 dX9_runs_204 ?_
            refine lv_bipush (v := nI 60) hx hb dX9_runs_207 (by decide) ?_
            refine lv_iload hx hb dX9_runs_209 (lv_at hl 1 rfl) ?_
            refine r_mulN hx hb dX9_runs_211 ?_
            refine lv_iconst (v := nI 2) hx hb dX9_runs_212 (by decide) ?_
            refine lv_aload_n hx hb dX9_runs_213 rfl (lv_at hl 2 rfl) ?_
            refine gt_X9_104 X hK hG rd_999 dX9_runs_214 ?_
            refine lv_iload hx hb dX9_runs_217 (lv_at hl 7 rfl) ?_
            refine r_top (y := nI (d9 - 1)) (dm1 hd) ?_
            refine al_939 X hK hG rd_939 (i := d9 - 1) (x := σ9.2.2.1 939 0 (d9 - 1)) (by omega) rfl dX9_runs_219 ?_
            refine r_mulN hx hb dX9_runs_220 ?_
            refine r_addN hx hb dX9_runs_221 ?_
            refine lv_iconst (v := nI 1) hx hb dX9_runs_222 (by decide) ?_
            refine r_addN hx hb dX9_runs_223 ?_
            refine al_902 X hK hG rd_902 (i := ((60 * (σ9.2.2.1 938 0 (d9 - 1))) + (2 * (σ9.2.2.1 939 0 (d9 - 1)))) + 1) (x := m_v d9 σ9) (by omega) rfl dX9_runs_224 ?_
            refine lv_istore (lv' := [(10, .int (m_v d9 σ9)), (9, .int (m_w d9 σ9)), (8, .int (nI (σ9.2.2.1 938 0 (d9 - 1)))), (0, .ref (L 999 0)), (1, .int (nI p9)), (2, .int (nI pr)), (3, .int (nI fr)), (4, .int (nI 2)), (5, .int (nI d9 + (-1))), (6, .int (nI m9)), (7, .int w9)]) hx hb dX9_runs_225 hl (by decide) rfl (fun ls hl => ?_)
            refine r_iincN (b := 1) (lv' := [(6, .int (nI (m9 + 1))), (10, .int (m_v d9 σ9)), (9, .int (m_w d9 σ9)), (8, .int (nI (σ9.2.2.1 938 0 (d9 - 1)))), (0, .ref (L 999 0)), (1, .int (nI p9)), (2, .int (nI pr)), (3, .int (nI fr)), (4, .int (nI 2)), (5, .int (nI d9 + (-1))), (7, .int w9)]) hx hb dX9_runs_227 hl (k := 9) rfl (by decide) (by decide) rfl (fun ls hl => ?_)
            refine lv_aload_n hx hb dX9_runs_230 rfl (lv_at hl 4 rfl) ?_
            refine gt_X9_104 X hK hG rd_999 dX9_runs_231 ?_
            refine lv_iload hx hb dX9_runs_234 (lv_at hl 9 rfl) ?_
            refine r_top (y := nI (d9 - 1)) (dm1 hd) ?_
            refine lv_dup2_11 hx hb dX9_runs_236 rfl rfl ?_
            refine al_939 X hK hG rd_939 (i := d9 - 1) (x := σ9.2.2.1 939 0 (d9 - 1)) (by omega) rfl dX9_runs_237 ?_
            refine lv_iconst (v := nI 1) hx hb dX9_runs_238 (by decide) ?_
            refine r_addN hx hb dX9_runs_239 ?_
            refine as_939 X hK hG hS hA rd_939 (i := d9 - 1) (by omega) dX9_runs_240 (fun H locs hG hS => ?_)
            refine lv_iload hx hb dX9_runs_241 (lv_at hl 2 rfl) ?_
            refine lv_bipush (v := nI 6) hx hb dX9_runs_243 (by decide) ?_
            refine lv_icmp_ne (tgt := 271) hx hb dX9_runs_245 (by decide) (fun c_245 => ?_) (fun c_245 => ?_)
            · have hba := blk_all2 (p := p9) (fr := fr) (w := m_w d9 σ9) (v := m_v d9 σ9) (SI_adv (d := d9) hs) hbl.2
              refine lv_iload hx hb dX9_runs_271 (lv_at hl 2 rfl) ?_
              refine lv_iconst (v := nI 2) hx hb dX9_runs_273 (by decide) ?_
              refine lv_iconst (v := nI 4) hx hb dX9_runs_274 (by decide) ?_
              refine rm_callS X hK hG hS ysX9_in ml_X9_114 [.int (m_w d9 σ9), .int (nI 2), .int (nI 4)] [] (c_X9_in l L (wA σ9 939 0 (d9 - 1) ((σ9.2.2.1 939 0 (d9 - 1)) + 1)) ow (m_w d9 σ9) (nI 2) (nI 4)) rfl hl.1 rfl (Nat.le_of_ble_eq_true rfl) ⟨Nat.le_of_ble_eq_true rfl, Nat.le_of_ble_eq_true rfl⟩ ⟨Nat.zero_le _, Nat.zero_le _⟩ dX9_runs_275 (fun H locs hG hS => ?_)
              refine r_if_eqB (tgt := 300) hx hb dX9_runs_278 (by decide) (fun c_278 => ?_) (fun c_278 => ?_)
              · refine lv_aload_n hx hb dX9_runs_300 rfl (lv_at hl 4 rfl) ?_
                refine lv_iload hx hb dX9_runs_301 (lv_at hl 2 rfl) ?_
                refine lv_iload hx hb dX9_runs_303 (lv_at hl 1 rfl) ?_
                refine rm_callV X hK hG hS yvX9_sets ml_X9_189 kX9 rfl rd_999 [.int (m_w d9 σ9), .int (m_v d9 σ9)] [] (c_X9_sets l L (wA σ9 939 0 (d9 - 1) ((σ9.2.2.1 939 0 (d9 - 1)) + 1)) ow (m_w d9 σ9) (m_v d9 σ9) (by show σ9.2.2.1 937 0 2 < 2147483648; have := hs.2.2.1; omega)) rfl hl.1 rfl (Nat.le_of_ble_eq_true rfl) ⟨Nat.le_of_ble_eq_true rfl, Nat.le_of_ble_eq_true rfl⟩ ⟨Nat.zero_le _, Nat.zero_le _⟩ dX9_runs_305 (fun H locs hG hS => ?_)
                have hbe : (m_sets (m_w d9 σ9) (m_v d9 σ9) (m_adv d9 σ9)) = m_blk2 p9 fr (m_w d9 σ9) (m_v d9 σ9) (m_adv d9 σ9) := (if_neg c_278).symm
                have hG : PW D cI cZ cO rdom L (m_blk2 p9 fr (m_w d9 σ9) (m_v d9 σ9) (m_adv d9 σ9)).2 ow H := by rw [← hbe]; exact hG
                refine r_top (y := (m_blk2 p9 fr (m_w d9 σ9) (m_v d9 σ9) (m_adv d9 σ9)).1) (by rw [← hbe]; rfl) ?_
                refine lv_istore (lv' := [(7, .int ((m_blk2 p9 fr (m_w d9 σ9) (m_v d9 σ9) (m_adv d9 σ9)).1)), (6, .int (nI (m9 + 1))), (10, .int (m_v d9 σ9)), (9, .int (m_w d9 σ9)), (8, .int (nI (σ9.2.2.1 938 0 (d9 - 1)))), (0, .ref (L 999 0)), (1, .int (nI p9)), (2, .int (nI pr)), (3, .int (nI fr)), (4, .int (nI 2)), (5, .int (nI d9 + (-1)))]) hx hb dX9_runs_308 hl (by decide) rfl (fun ls hl => ?_)
                refine lv_goto (tgt := 125) hx hb dX9_runs_310 (by decide) ?_
                exact ih ⟨f1, d9, m9 + 1, (m_blk2 p9 fr (m_w d9 σ9) (m_v d9 σ9) (m_adv d9 σ9)).1, (m_blk2 p9 fr (m_w d9 σ9) (m_v d9 σ9) (m_adv d9 σ9)).2⟩ (by show (if (m_blk2 p9 fr (m_w d9 σ9) (m_v d9 σ9) (m_adv d9 σ9)).1 = 0 then f1 else 0) < (if w9 = 0 then f9 else 0); rw [if_pos c_132]; split <;> omega) (⟨(by rw [hq, if_pos c_132, hf1]; show (if d9 = 0 then _ else _) = _; rw [if_neg (Nat.pos_iff_ne_zero.mp hd), if_neg c_158, if_neg c_172, if_neg c_245]), fun _ => by omega, hba.2.1, (PI_adv hP).sp hba.1, (SK_adv hd hk c_158).sp hba.1, by omega, by have h7 : (m_adv d9 σ9).1 943 0 = σ9.1 943 0 := rfl; have h8 := hba.2.2; omega, by rw [hba.1.2.2.2.2]; exact hprs⟩) H locs ls hG hS (lv_sub hl [5, 6, 7, 8, 9, 10, 1, 0] rfl)
              · refine lv_aload_n hx hb dX9_runs_281 rfl (lv_at hl 4 rfl) ?_
                refine lv_iload_n hx hb dX9_runs_282 rfl (lv_at hl 5 rfl) ?_
                refine lv_iload hx hb dX9_runs_283 (lv_at hl 2 rfl) ?_
                refine lv_iconst (v := nI 2) hx hb dX9_runs_285 (by decide) ?_
                refine lv_isub hx hb dX9_runs_286 ?_
                refine r_top (y := nI (tn (m_w d9 σ9) - 2)) ((wm2 c_278).1) ?_
                refine lv_iload hx hb dX9_runs_287 (lv_at hl 1 rfl) ?_
                refine lv_iload_n hx hb dX9_runs_289 rfl (lv_at hl 7 rfl) ?_
                refine lv_iload hx hb dX9_runs_290 (lv_at hl 8 rfl) ?_
                refine rm_callV X hK hG hS yvX9_moves ml_X9_185 kX9 rfl rd_999 [.int (nI p9), .int (nI (tn (m_w d9 σ9) - 2)), .int (m_v d9 σ9), .int (nI fr), .int (nI 2)] [] (c_X9_moves2 l L (wA σ9 939 0 (d9 - 1) ((σ9.2.2.1 939 0 (d9 - 1)) + 1)) ow p9 (tn (m_w d9 σ9) - 2) (m_v d9 σ9) fr hp (wm2 c_278).2.1 hfr (by show σ9.1 943 0 < 90000; omega) (SI_adv hs)) rfl hl.1 rfl (Nat.le_of_ble_eq_true rfl) ⟨Nat.le_of_ble_eq_true rfl, Nat.le_of_ble_eq_true rfl⟩ ⟨Nat.zero_le _, Nat.zero_le _⟩ dX9_runs_292 (fun H locs hG hS => ?_)
                have hbe : (m_moves2 p9 (tn (m_w d9 σ9) - 2) (m_v d9 σ9) fr (m_adv d9 σ9)) = m_blk2 p9 fr (m_w d9 σ9) (m_v d9 σ9) (m_adv d9 σ9) := (if_pos c_278).symm
                have hG : PW D cI cZ cO rdom L (m_blk2 p9 fr (m_w d9 σ9) (m_v d9 σ9) (m_adv d9 σ9)).2 ow H := by rw [← hbe]; exact hG
                refine r_top (y := (m_blk2 p9 fr (m_w d9 σ9) (m_v d9 σ9) (m_adv d9 σ9)).1) (by rw [← hbe]; rfl) ?_
                refine lv_istore (lv' := [(7, .int ((m_blk2 p9 fr (m_w d9 σ9) (m_v d9 σ9) (m_adv d9 σ9)).1)), (6, .int (nI (m9 + 1))), (10, .int (m_v d9 σ9)), (9, .int (m_w d9 σ9)), (8, .int (nI (σ9.2.2.1 938 0 (d9 - 1)))), (0, .ref (L 999 0)), (1, .int (nI p9)), (2, .int (nI pr)), (3, .int (nI fr)), (4, .int (nI 2)), (5, .int (nI d9 + (-1)))]) hx hb dX9_runs_295 hl (by decide) rfl (fun ls hl => ?_)
                refine lv_goto (tgt := 310) hx hb dX9_runs_297 (by decide) ?_
                refine lv_goto (tgt := 125) hx hb dX9_runs_310 (by decide) ?_
                exact ih ⟨f1, d9, m9 + 1, (m_blk2 p9 fr (m_w d9 σ9) (m_v d9 σ9) (m_adv d9 σ9)).1, (m_blk2 p9 fr (m_w d9 σ9) (m_v d9 σ9) (m_adv d9 σ9)).2⟩ (by show (if (m_blk2 p9 fr (m_w d9 σ9) (m_v d9 σ9) (m_adv d9 σ9)).1 = 0 then f1 else 0) < (if w9 = 0 then f9 else 0); rw [if_pos c_132]; split <;> omega) (⟨(by rw [hq, if_pos c_132, hf1]; show (if d9 = 0 then _ else _) = _; rw [if_neg (Nat.pos_iff_ne_zero.mp hd), if_neg c_158, if_neg c_172, if_neg c_245]), fun _ => by omega, hba.2.1, (PI_adv hP).sp hba.1, (SK_adv hd hk c_158).sp hba.1, by omega, by have h7 : (m_adv d9 σ9).1 943 0 = σ9.1 943 0 := rfl; have h8 := hba.2.2; omega, by rw [hba.1.2.2.2.2]; exact hprs⟩) H locs ls hG hS (lv_sub hl [5, 6, 7, 8, 9, 10, 1, 0] rfl)
            · refine lv_iinc (v := (nI (d9 + 1) + (-1))) (lv' := [(5, .int (nI (d9 + 1) + (-1))), (6, .int (nI (m9 + 1))), (10, .int (m_v d9 σ9)), (9, .int (m_w d9 σ9)), (8, .int (nI (σ9.2.2.1 938 0 (d9 - 1)))), (0, .ref (L 999 0)), (1, .int (nI p9)), (2, .int (nI pr)), (3, .int (nI fr)), (4, .int (nI 2)), (7, .int w9)]) hx hb dX9_runs_248 hl (k := 9) rfl (by rw [dm1 hd, pk_m1]; show nI (d9 - 1) + nI 1 = nI d9; rw [nI_add, Nat.sub_add_cancel hd]) (by decide) rfl (fun ls hl => ?_)
              refine lv_aload_n hx hb dX9_runs_251 rfl (lv_at hl 5 rfl) ?_
              refine gt_X9_101 X hK hG rd_999 dX9_runs_252 ?_
              refine lv_iload hx hb dX9_runs_255 (lv_at hl 0 rfl) ?_
              refine r_top (y := nI d9) (pk_m1 d9) ?_
              refine lv_iload hx hb dX9_runs_257 (lv_at hl 2 rfl) ?_
              refine r_top (y := nI (tn (m_v d9 σ9))) (ix_eq (hbl.1 c_245)) ?_
              refine as_938 X hK hG hS hA rd_938 (i := d9) (by omega) dX9_runs_259 (fun H locs hG hS => ?_)
              refine lv_aload_n hx hb dX9_runs_260 rfl (lv_at hl 5 rfl) ?_
              refine gt_X9_104 X hK hG rd_999 dX9_runs_261 ?_
              refine lv_iload hx hb dX9_runs_264 (lv_at hl 0 rfl) ?_
              refine r_top (y := nI d9) (pk_m1 d9) ?_
              refine lv_iconst (v := nI 0) hx hb dX9_runs_266 (by decide) ?_
              refine as_939 X hK hG hS hA rd_939 (i := d9) (by omega) dX9_runs_267 (fun H locs hG hS => ?_)
              refine lv_goto (tgt := 310) hx hb dX9_runs_268 (by decide) ?_
              refine lv_goto (tgt := 125) hx hb dX9_runs_310 (by decide) ?_
              exact ih ⟨f1, d9 + 1, m9 + 1, w9, m_call d9 (m_v d9 σ9) σ9⟩ (by show (if w9 = 0 then f1 else 0) < (if w9 = 0 then f9 else 0); rw [if_pos c_132, if_pos c_132]; omega) (⟨(by rw [hq, if_pos c_132, hf1]; show (if d9 = 0 then _ else _) = _; rw [if_neg (Nat.pos_iff_ne_zero.mp hd), if_neg c_158, if_neg c_172, if_pos c_245, if_pos c_132]), fun _ => by omega, SI_call hs, PI_call hP, SK_call hd hp6 hk c_158 (hbl.1 c_245), by omega, by show σ9.1 943 0 ≤ 11 * (m9 + 1); omega, hprs⟩) H locs ls hG hS (lv_sub hl [5, 6, 7, 8, 9, 0, 1, 10] rfl)
          · refine lv_iconst (v := nI 4) hx hb dX9_runs_175 (by decide) ?_
            refine lv_istore (lv' := [(7, .int (nI 4)), (8, .int (nI (σ9.2.2.1 938 0 (d9 - 1)))), (0, .ref (L 999 0)), (1, .int (nI p9)), (2, .int (nI pr)), (3, .int (nI fr)), (4, .int (nI 2)), (5, .int (nI d9 + (-1))), (6, .int (nI m9))]) hx hb dX9_runs_176 hl (by decide) rfl (fun ls hl => ?_)
            refine lv_goto (tgt := 310) hx hb dX9_runs_178 (by decide) ?_
            refine lv_goto (tgt := 125) hx hb dX9_runs_310 (by decide) ?_
            exact ih ⟨f1, d9, m9, nI 4, σ9⟩ (by show (if nI 4 = 0 then f1 else 0) < (if w9 = 0 then f9 else 0); rw [if_neg (by decide), if_pos c_132]; omega) (⟨(by rw [hq, if_pos c_132, hf1]; show (if d9 = 0 then _ else _) = _; rw [if_neg (Nat.pos_iff_ne_zero.mp hd), if_neg c_158, if_pos c_172, if_neg (by decide : ¬ nI 4 = 0)]), fun z => absurd z (by decide), hs, hP, hk, hm, hst, hprs⟩) H locs ls hG hS (lv_sub hl [2, 3, 4, 5, 6, 7, 8, 0] rfl)
        · refine lv_iinc (v := (nI (d9 - 1) + (-1))) (lv' := [(5, .int (nI (d9 - 1) + (-1))), (8, .int (nI (σ9.2.2.1 938 0 (d9 - 1)))), (0, .ref (L 999 0)), (1, .int (nI p9)), (2, .int (nI pr)), (3, .int (nI fr)), (4, .int (nI 2)), (6, .int (nI m9)), (7, .int w9)]) hx hb dX9_runs_161 hl (k := 6) rfl (by rw [dm1 hd]; rfl) (by decide) rfl (fun ls hl => ?_)
          refine lv_goto (tgt := 310) hx hb dX9_runs_164 (by decide) ?_
          refine lv_goto (tgt := 125) hx hb dX9_runs_310 (by decide) ?_
          exact ih ⟨f1, d9 - 1, m9, w9, σ9⟩ (by show (if w9 = 0 then f1 else 0) < (if w9 = 0 then f9 else 0); rw [if_pos c_132, if_pos c_132]; omega) (⟨(by rw [hq, if_pos c_132, hf1]; show (if d9 = 0 then _ else _) = _; rw [if_neg (Nat.pos_iff_ne_zero.mp hd), if_pos c_158, if_pos c_132]), fun _ => by omega, hs, hP, SK_pop hk, hm, hst, hprs⟩) H locs ls hG hS (lv_sub hl [2, 3, 4, 5, 6, 0, 7, 8] rfl)
  · refine lv_aload_n hx hb dX9_runs_11 rfl (lv_at hl 0 rfl) ?_
    refine gt_X9_92 X hK hG rd_999 dX9_runs_12 ?_
    refine lv_iload hx hb dX9_runs_15 (lv_at hl 5 rfl) ?_
    refine lv_aload_n hx hb dX9_runs_17 rfl (lv_at hl 0 rfl) ?_
    refine gt_X9_44 X hK hG rd_999 dX9_runs_18 ?_
    refine lv_sipush (v := nI 144) hx hb dX9_runs_21 (by decide) ?_
    refine lv_iload_n hx hb dX9_runs_24 rfl (lv_at hl 1 rfl) ?_
    refine r_mulN hx hb dX9_runs_25 ?_
    refine lv_iload hx hb dX9_runs_26 (lv_at hl 5 rfl) ?_
    refine r_addN hx hb dX9_runs_28 ?_
    refine al_915 X hK hG rd_915 (i := 144 * p9 + k) (x := σ.2.2.2 915 0 (144 * p9 + k)) (by omega) ((show (m_cp p9 k σ).2.2.2 915 0 (144 * p9 + k) = _ from by rw [m_cp_B] <;> rfl).trans rfl) dX9_runs_29 ?_
    refine as_935 X hK hG hS hA rd_935 (i := k) (by omega) dX9_runs_30 (fun H locs hG hS => ?_)
    refine r_iincN (b := 1) (lv' := [(5, .int (nI (k + 1))), (0, .ref (L 999 0)), (1, .int (nI p9)), (2, .int (nI pr)), (3, .int (nI fr)), (4, .int (nI 2))]) hx hb dX9_runs_31 hl (k := 5) rfl (by decide) (by decide) rfl (fun ls hl => ?_)
    refine lv_goto (tgt := 3) hx hb dX9_runs_34 (by decide) ?_
    exact ih (k + 1) (by show 144 - (k + 1) < 144 - k; omega) (by show k + 1 ≤ 144; omega) H locs ls hG hS (lv_sub hl [1, 2, 3, 4, 5, 0] rfl)
