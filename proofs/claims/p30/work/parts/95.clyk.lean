/-! night: one step that cuts, on both sides -/
theorem aB_isz {v : Int32} : aB v = isz v := by
  unfold isz
  have h0 : (0 : Int32).toInt = 0 := rfl
  by_cases c : v < 0
  · rw [if_pos c]
    refine (if_neg (fun z => fa_lt_le c z)).trans ?_
    exact Int32.zero_sub v
  · rw [if_neg c]
    refine if_pos ?_
    rw [fa_le]
    rw [Int32.lt_iff_toInt_lt] at c
    omega
theorem gp_cau {f g : Nat → Int32} : ∀ (m i : Nat), (∀ j, j < i + m → f j = g j) → k_gp f m i (cau g i).1 (cau g i).2 = (cau g (i + m)).1
  | 0, _, _ => rfl
  | m + 1, i, h => by
    have e : i + (m + 1) = i + 1 + m := by omega
    rw [e]
    rw [e] at h
    rw [← gp_cau m (i + 1) h]
    show (if aB (f i) ≤ (cau g i).2 then k_gp f m (i + 1) (cau g i).1 (cau g i).2 else k_gp f m (i + 1) (nI i) (aB (f i))) = k_gp f m (i + 1) (if isz (g i) ≤ (cau g i).2 then cau g i else (nI i, isz (g i))).1 (if isz (g i) ≤ (cau g i).2 then cau g i else (nI i, isz (g i))).2
    rw [aB_isz, h i (by omega)]
    by_cases c : isz (g i) ≤ (cau g i).2
    · rw [if_pos c, if_pos c]
    · rw [if_neg c, if_neg c]
theorem gp_4 {f g : Nat → Int32} (h : ∀ j, j < 4 → f j = g j) : k_gp f 4 0 (-1) (nI 0) = (cau g 4).1 := gp_cau 4 0 (fun j hj => h j (by omega))
theorem cau_cong {f g : Nat → Int32} : ∀ n, (∀ j, j < n → f j = g j) → cau f n = cau g n
  | 0, _ => rfl
  | n + 1, h => by
    unfold cau
    rw [cau_cong n (fun j hj => h j (by omega)), h n (by omega)]
section CUTc
variable {t P : Nat} {σ : St}
theorem cut_200 : (k_cut t P σ).2.2.2 200 P = up1 (σ.2.2.2 200 P) (ce σ) (nI (σ.2.2.1 703 0 2)) := by simp [k_cut, wN, wB, up3, up2]
theorem cut_201 {c : Nat} : (k_cut t P σ).2.2.2 201 P c = if c = ce σ then ((((nI (1000 * σ.2.2.1 703 0 2)) + (σ.2.2.2 806 0 (σ.2.2.1 703 0 0))) + (nI (((σ.1 812 0) * (σ.2.2.1 703 0 0)) / 10))) + (nI ((σ.1 504 t) / 4))) + (-(σ.2.1 505 t)) else σ.2.2.2 201 P c := by
  by_cases e : c = ce σ
  · rw [if_pos e, e]
    simp [k_cut, wN, wB, up3, up2, up1]
  · rw [if_neg e]
    simp [k_cut, wN, wB, up3, up2, up1, e]
theorem cut_202 : (k_cut t P σ).2.2.2 202 P = up1 (σ.2.2.2 202 P) (ce σ) (σ.2.1 500 t) := by simp [k_cut, wN, wB, up3, up2]
theorem cut_203 : (k_cut t P σ).2.2.2 203 P = up1 (σ.2.2.2 203 P) (ce σ) (k_gp ((wB (wB (wB (wB (wB (wB (wB (wB (wB (wB (wB σ 807 0 0 (σ.2.2.2 806 0 (σ.2.2.1 703 0 0))) 807 0 1 (nI (((σ.1 812 0) * (σ.2.2.1 703 0 0)) / 10))) 807 0 2 (nI ((σ.1 504 t) / 4))) 807 0 3 (-(σ.2.1 505 t))) 200 P (ce σ) (nI (σ.2.2.1 703 0 2))) 201 P (ce σ) (nI (1000 * (σ.2.2.1 703 0 2)))) 201 P (ce σ) ((nI (1000 * (σ.2.2.1 703 0 2))) + (σ.2.2.2 806 0 (σ.2.2.1 703 0 0)))) 201 P (ce σ) (((nI (1000 * (σ.2.2.1 703 0 2))) + (σ.2.2.2 806 0 (σ.2.2.1 703 0 0))) + (nI (((σ.1 812 0) * (σ.2.2.1 703 0 0)) / 10)))) 201 P (ce σ) ((((nI (1000 * (σ.2.2.1 703 0 2))) + (σ.2.2.2 806 0 (σ.2.2.1 703 0 0))) + (nI (((σ.1 812 0) * (σ.2.2.1 703 0 0)) / 10))) + (nI ((σ.1 504 t) / 4)))) 201 P (ce σ) (((((nI (1000 * (σ.2.2.1 703 0 2))) + (σ.2.2.2 806 0 (σ.2.2.1 703 0 0))) + (nI (((σ.1 812 0) * (σ.2.2.1 703 0 0)) / 10))) + (nI ((σ.1 504 t) / 4))) + (-(σ.2.1 505 t)))) 202 P (ce σ) (σ.2.1 500 t)).2.2.2 807 0) 4 0 (-1) (nI 0)) := by
  unfold k_cut
  generalize k_gp ((wB (wB (wB (wB (wB (wB (wB (wB (wB (wB (wB σ 807 0 0 (σ.2.2.2 806 0 (σ.2.2.1 703 0 0))) 807 0 1 (nI (((σ.1 812 0) * (σ.2.2.1 703 0 0)) / 10))) 807 0 2 (nI ((σ.1 504 t) / 4))) 807 0 3 (-(σ.2.1 505 t))) 200 P (ce σ) (nI (σ.2.2.1 703 0 2))) 201 P (ce σ) (nI (1000 * (σ.2.2.1 703 0 2)))) 201 P (ce σ) ((nI (1000 * (σ.2.2.1 703 0 2))) + (σ.2.2.2 806 0 (σ.2.2.1 703 0 0)))) 201 P (ce σ) (((nI (1000 * (σ.2.2.1 703 0 2))) + (σ.2.2.2 806 0 (σ.2.2.1 703 0 0))) + (nI (((σ.1 812 0) * (σ.2.2.1 703 0 0)) / 10)))) 201 P (ce σ) ((((nI (1000 * (σ.2.2.1 703 0 2))) + (σ.2.2.2 806 0 (σ.2.2.1 703 0 0))) + (nI (((σ.1 812 0) * (σ.2.2.1 703 0 0)) / 10))) + (nI ((σ.1 504 t) / 4)))) 201 P (ce σ) (((((nI (1000 * (σ.2.2.1 703 0 2))) + (σ.2.2.2 806 0 (σ.2.2.1 703 0 0))) + (nI (((σ.1 812 0) * (σ.2.2.1 703 0 0)) / 10))) + (nI ((σ.1 504 t) / 4))) + (-(σ.2.1 505 t)))) 202 P (ce σ) (σ.2.1 500 t)).2.2.2 807 0) 4 0 (-1) (nI 0) = V
  simp [wN, wB, up3, up2]
theorem cut_807 : (wB (wB (wB (wB (wB (wB (wB (wB (wB (wB (wB σ 807 0 0 (σ.2.2.2 806 0 (σ.2.2.1 703 0 0))) 807 0 1 (nI (((σ.1 812 0) * (σ.2.2.1 703 0 0)) / 10))) 807 0 2 (nI ((σ.1 504 t) / 4))) 807 0 3 (-(σ.2.1 505 t))) 200 P (ce σ) (nI (σ.2.2.1 703 0 2))) 201 P (ce σ) (nI (1000 * (σ.2.2.1 703 0 2)))) 201 P (ce σ) ((nI (1000 * (σ.2.2.1 703 0 2))) + (σ.2.2.2 806 0 (σ.2.2.1 703 0 0)))) 201 P (ce σ) (((nI (1000 * (σ.2.2.1 703 0 2))) + (σ.2.2.2 806 0 (σ.2.2.1 703 0 0))) + (nI (((σ.1 812 0) * (σ.2.2.1 703 0 0)) / 10)))) 201 P (ce σ) ((((nI (1000 * (σ.2.2.1 703 0 2))) + (σ.2.2.2 806 0 (σ.2.2.1 703 0 0))) + (nI (((σ.1 812 0) * (σ.2.2.1 703 0 0)) / 10))) + (nI ((σ.1 504 t) / 4)))) 201 P (ce σ) (((((nI (1000 * (σ.2.2.1 703 0 2))) + (σ.2.2.2 806 0 (σ.2.2.1 703 0 0))) + (nI (((σ.1 812 0) * (σ.2.2.1 703 0 0)) / 10))) + (nI ((σ.1 504 t) / 4))) + (-(σ.2.1 505 t)))) 202 P (ce σ) (σ.2.1 500 t)).2.2.2 807 0 0 = σ.2.2.2 806 0 (σ.2.2.1 703 0 0) ∧ (wB (wB (wB (wB (wB (wB (wB (wB (wB (wB (wB σ 807 0 0 (σ.2.2.2 806 0 (σ.2.2.1 703 0 0))) 807 0 1 (nI (((σ.1 812 0) * (σ.2.2.1 703 0 0)) / 10))) 807 0 2 (nI ((σ.1 504 t) / 4))) 807 0 3 (-(σ.2.1 505 t))) 200 P (ce σ) (nI (σ.2.2.1 703 0 2))) 201 P (ce σ) (nI (1000 * (σ.2.2.1 703 0 2)))) 201 P (ce σ) ((nI (1000 * (σ.2.2.1 703 0 2))) + (σ.2.2.2 806 0 (σ.2.2.1 703 0 0)))) 201 P (ce σ) (((nI (1000 * (σ.2.2.1 703 0 2))) + (σ.2.2.2 806 0 (σ.2.2.1 703 0 0))) + (nI (((σ.1 812 0) * (σ.2.2.1 703 0 0)) / 10)))) 201 P (ce σ) ((((nI (1000 * (σ.2.2.1 703 0 2))) + (σ.2.2.2 806 0 (σ.2.2.1 703 0 0))) + (nI (((σ.1 812 0) * (σ.2.2.1 703 0 0)) / 10))) + (nI ((σ.1 504 t) / 4)))) 201 P (ce σ) (((((nI (1000 * (σ.2.2.1 703 0 2))) + (σ.2.2.2 806 0 (σ.2.2.1 703 0 0))) + (nI (((σ.1 812 0) * (σ.2.2.1 703 0 0)) / 10))) + (nI ((σ.1 504 t) / 4))) + (-(σ.2.1 505 t)))) 202 P (ce σ) (σ.2.1 500 t)).2.2.2 807 0 1 = nI (((σ.1 812 0) * (σ.2.2.1 703 0 0)) / 10) ∧ (wB (wB (wB (wB (wB (wB (wB (wB (wB (wB (wB σ 807 0 0 (σ.2.2.2 806 0 (σ.2.2.1 703 0 0))) 807 0 1 (nI (((σ.1 812 0) * (σ.2.2.1 703 0 0)) / 10))) 807 0 2 (nI ((σ.1 504 t) / 4))) 807 0 3 (-(σ.2.1 505 t))) 200 P (ce σ) (nI (σ.2.2.1 703 0 2))) 201 P (ce σ) (nI (1000 * (σ.2.2.1 703 0 2)))) 201 P (ce σ) ((nI (1000 * (σ.2.2.1 703 0 2))) + (σ.2.2.2 806 0 (σ.2.2.1 703 0 0)))) 201 P (ce σ) (((nI (1000 * (σ.2.2.1 703 0 2))) + (σ.2.2.2 806 0 (σ.2.2.1 703 0 0))) + (nI (((σ.1 812 0) * (σ.2.2.1 703 0 0)) / 10)))) 201 P (ce σ) ((((nI (1000 * (σ.2.2.1 703 0 2))) + (σ.2.2.2 806 0 (σ.2.2.1 703 0 0))) + (nI (((σ.1 812 0) * (σ.2.2.1 703 0 0)) / 10))) + (nI ((σ.1 504 t) / 4)))) 201 P (ce σ) (((((nI (1000 * (σ.2.2.1 703 0 2))) + (σ.2.2.2 806 0 (σ.2.2.1 703 0 0))) + (nI (((σ.1 812 0) * (σ.2.2.1 703 0 0)) / 10))) + (nI ((σ.1 504 t) / 4))) + (-(σ.2.1 505 t)))) 202 P (ce σ) (σ.2.1 500 t)).2.2.2 807 0 2 = nI ((σ.1 504 t) / 4) ∧ (wB (wB (wB (wB (wB (wB (wB (wB (wB (wB (wB σ 807 0 0 (σ.2.2.2 806 0 (σ.2.2.1 703 0 0))) 807 0 1 (nI (((σ.1 812 0) * (σ.2.2.1 703 0 0)) / 10))) 807 0 2 (nI ((σ.1 504 t) / 4))) 807 0 3 (-(σ.2.1 505 t))) 200 P (ce σ) (nI (σ.2.2.1 703 0 2))) 201 P (ce σ) (nI (1000 * (σ.2.2.1 703 0 2)))) 201 P (ce σ) ((nI (1000 * (σ.2.2.1 703 0 2))) + (σ.2.2.2 806 0 (σ.2.2.1 703 0 0)))) 201 P (ce σ) (((nI (1000 * (σ.2.2.1 703 0 2))) + (σ.2.2.2 806 0 (σ.2.2.1 703 0 0))) + (nI (((σ.1 812 0) * (σ.2.2.1 703 0 0)) / 10)))) 201 P (ce σ) ((((nI (1000 * (σ.2.2.1 703 0 2))) + (σ.2.2.2 806 0 (σ.2.2.1 703 0 0))) + (nI (((σ.1 812 0) * (σ.2.2.1 703 0 0)) / 10))) + (nI ((σ.1 504 t) / 4)))) 201 P (ce σ) (((((nI (1000 * (σ.2.2.1 703 0 2))) + (σ.2.2.2 806 0 (σ.2.2.1 703 0 0))) + (nI (((σ.1 812 0) * (σ.2.2.1 703 0 0)) / 10))) + (nI ((σ.1 504 t) / 4))) + (-(σ.2.1 505 t)))) 202 P (ce σ) (σ.2.1 500 t)).2.2.2 807 0 3 = -(σ.2.1 505 t) := ⟨rfl, rfl, rfl, rfl⟩
theorem cut_f : ∃ f : Nat → Int32, (k_cut t P σ).2.2.2 203 P = up1 (σ.2.2.2 203 P) (ce σ) (k_gp f 4 0 (-1) (nI 0)) ∧ f 0 = σ.2.2.2 806 0 (σ.2.2.1 703 0 0) ∧ f 1 = nI (((σ.1 812 0) * (σ.2.2.1 703 0 0)) / 10) ∧ f 2 = nI ((σ.1 504 t) / 4) ∧ f 3 = -(σ.2.1 505 t) := ⟨_, cut_203, cut_807⟩
theorem cut_k {F k : Nat} (hF : 200 ≤ F ∧ F ≤ 203) (hk : k ≠ P) : (k_cut t P σ).2.2.2 F k = σ.2.2.2 F k := by
  rcases (by omega : F = 200 ∨ F = 201 ∨ F = 202 ∨ F = 203) with rfl | rfl | rfl | rfl <;> simp [k_cut, wN, wB, up3, up2, hk, up1]
end CUTc
def mszT (i c : Nat) (τ : St) : Int32 := if τ.2.2.2 917 0 i = (-1) then nI 1000 * τ.2.2.2 935 0 c else nI 1000 * τ.2.2.2 935 0 c + τ.2.2.2 918 0 (4 * i + 0) + τ.2.2.2 918 0 (4 * i + 1) + τ.2.2.2 918 0 (4 * i + 2) + τ.2.2.2 918 0 (4 * i + 3)
/-- the two sides in the midst of a pallet -/
def NR (P : Nat) (σ τ : St) : Prop := GT σ τ ∧ GO σ τ ∧ GM σ τ ∧ (∀ c, c < 144 → σ.2.2.2 200 P c = τ.2.2.2 935 0 c ∧ σ.2.2.2 202 P c = τ.2.2.2 917 0 (144 * P + c) ∧ σ.2.2.2 201 P c = mszT (144 * P + c) c τ ∧ σ.2.2.2 203 P c = mcau (144 * P + c) τ) ∧ (∀ i, i < σ.1 1002 0 → σ.2.2.1 1001 0 i = i) ∧ σ.1 1002 0 = τ.1 914 0 ∧ σ.1 1002 0 ≤ 16 ∧ ∀ c, c < 144 → τ.2.2.2 917 0 (144 * P + c) = (-1) ∨ ix (τ.2.2.2 917 0 (144 * P + c)) (τ.1 914 0)
theorem nr_V {P : Nat} {σ τ τ' : St} (h : NR P σ τ) (e1 : τ'.1 900 0 = τ.1 900 0) (e2 : τ'.1 901 0 = τ.1 901 0) (e3 : τ'.1 914 0 = τ.1 914 0) (e4 : τ'.2.2.2 = τ.2.2.2) (e5 : τ'.2.2.1 907 0 = τ.2.2.1 907 0) (e6 : τ'.2.2.1 908 0 = τ.2.2.1 908 0) (e7 : τ'.2.2.1 913 0 = τ.2.2.1 913 0) : NR P σ τ' := by
  obtain ⟨h1, h2, h3, h4, h5, h6, h7, h8⟩ := h
  refine ⟨gt_e h1 rfl rfl rfl e1 e2, go_e h2 rfl rfl rfl rfl rfl rfl rfl rfl rfl e5 e6 e7 (by rw [e4]) (by rw [e4]) (by rw [e4]) (by rw [e4]), gm_e h3 rfl (by rw [e4]), ?_, h5, by rw [e3]; exact h6, h7, ?_⟩
  · unfold mszT mcau at h4 ⊢
    rw [e4]
    exact h4
  · rw [e3, e4]
    exact h8
theorem nr_fw {P : Nat} {σ σ' τ : St} (h : NR P σ τ) (hF : FW σ σ') : NR P σ' τ := by
  obtain ⟨h1, h2, h3, h4, h5, h6, h7, h8⟩ := h
  have e0 : σ'.1 1002 0 = σ.1 1002 0 := (hF.1 1002 0 (by omega) (by omega)).1
  have x1 : ∀ F, F < 704 → σ'.1 F = σ.1 F ∧ σ'.2.1 F = σ.2.1 F := fun F z => ⟨funext fun k => (hF.1 F k (by omega) (by omega)).1, funext fun k => (hF.1 F k (by omega) (by omega)).2⟩
  refine ⟨gt_e h1 (hF.1 811 0 (by omega) (by omega)).1 (hF.1 812 0 (by omega) (by omega)).1 (x1 504 (by omega)).1 rfl rfl, go_e h2 e0 (x1 502 (by omega)).1 (x1 504 (by omega)).1 (x1 506 (by omega)).1 (x1 500 (by omega)).2 (x1 501 (by omega)).2 (x1 505 (by omega)).2 (x1 507 (by omega)).2 (by rw [hF.2.2]) rfl rfl rfl rfl rfl rfl rfl, gm_e h3 (by rw [hF.2.2]) rfl, ?_, ?_, by rw [e0]; exact h6, by rw [e0]; exact h7, h8⟩
  · rw [hF.2.2]
    exact h4
  · rw [e0, hF.2.1 1001 0 (by decide) (by decide) (by omega)]
    exact h5
theorem go_B {q : Nat} {σ : St} : (k_go q σ).2.2.2 = σ.2.2.2 := rfl
theorem go_I {q : Nat} {σ : St} : (k_go q σ).2.1 = σ.2.1 := rfl
theorem go_A {q : Nat} {σ : St} : (k_go q σ).2.2.1 = σ.2.2.1 := rfl
theorem nr_go {P q : Nat} {σ τ : St} (h : NR P σ τ) : NR P (k_go q σ) τ := h
theorem nI_mul9 (a b : Nat) : nI (a * b) = nI a * nI b := Int32.ofNat_mul a b
theorem nr_cut {P t n ki a9 : Nat} {σ τ : St} {s : Sp} (h : NR P σ τ) (hT : TI σ) (ha : AtS s σ) (hs : s.1 0 < 12 ∧ s.1 1 < 12 ∧ s.1 2 < 10) (hP : P < 6) (ht : t < σ.1 1002 0) : NR P (k_go P (k_cut t P σ)) (wN (wB (wA (wA (m_cutsIn P (cel s) t τ) 908 0 t (τ.2.2.1 908 0 t + 1)) 936 0 ki a9) 935 0 (cel s) (nI (s.1 2))) 943 0 n) := by
  obtain ⟨h1, h2, h3, h4, h5, h6, h7, h8⟩ := h
  obtain ⟨u1, u2, u3, u4⟩ := h1
  have hce := ats_ce ha
  have hcl := cel_lt hs
  have hx := ha.1
  have hz := ha.2.2.1
  have hmod : cel s % 12 = s.1 0 := by unfold cel; omega
  obtain ⟨d0, d1, d2, d3, d4, d5, d6, d7, d8, d9⟩ := h2.1 t ht
  have hcut1 : ∀ F k, F ≠ 504 → F ≠ 811 → F ≠ 812 → F ≠ 208 → (k_go P (k_cut t P σ)).1 F k = σ.1 F k := fun F k a b c d => (go_1 d).trans (cut_1 a b c)
  have hcutI : (k_go P (k_cut t P σ)).2.1 = σ.2.1 := go_I.trans cut_I
  have hcutA : (k_go P (k_cut t P σ)).2.2.1 = σ.2.2.1 := go_A.trans cut_A
  have hcutB : ∀ F, ¬ (200 ≤ F ∧ F ≤ 203) → F ≠ 807 → (k_go P (k_cut t P σ)).2.2.2 F = σ.2.2.2 F := fun F a b => by rw [go_B]; exact cut_B ⟨a, b⟩
  have h504 : (k_go P (k_cut t P σ)).1 504 = up1 (σ.1 504) t (σ.1 504 t + 1) := by
    rw [← cut_504 (q := P)]
    exact funext fun k => go_1 (by decide)
  have h811 : (k_go P (k_cut t P σ)).1 811 0 = σ.1 811 0 + 1 := (go_1 (by decide)).trans cut_811
  have h812 : (k_go P (k_cut t P σ)).1 812 0 = if 99 ≤ σ.1 812 0 then 99 else σ.1 812 0 + 1 := (go_1 (by decide)).trans cut_812
  have k200 : (k_go P (k_cut t P σ)).2.2.2 200 P = up1 (σ.2.2.2 200 P) (cel s) (nI (s.1 2)) := by
    rw [go_B, cut_200, hce, hz]
  have k201 : ∀ c, (k_go P (k_cut t P σ)).2.2.2 201 P c = if c = cel s then ((((nI (1000 * s.1 2)) + (σ.2.2.2 806 0 (s.1 0))) + (nI (((σ.1 812 0) * (s.1 0)) / 10))) + (nI ((σ.1 504 t) / 4))) + (-(σ.2.1 505 t)) else σ.2.2.2 201 P c := fun c => by
    rw [go_B, cut_201, hce, hz, hx]
  have k202 : (k_go P (k_cut t P σ)).2.2.2 202 P = up1 (σ.2.2.2 202 P) (cel s) (σ.2.1 500 t) := by
    rw [go_B, cut_202, hce]
  obtain ⟨f, k203, z0, z1, z2, z3⟩ := cut_f (t := t) (P := P) (σ := σ)
  have k203 : (k_go P (k_cut t P σ)).2.2.2 203 P = up1 (σ.2.2.2 203 P) (ce σ) (k_gp f 4 0 (-1) (nI 0)) := by rw [go_B]; exact k203
  rw [hce] at k203
  rw [hx] at z0 z1
  generalize k_go P (k_cut t P σ) = σ' at *
  have hc907 : (m_cutsIn P (cel s) t τ).2.2.1 = τ.2.2.1 := rfl
  have x900 : (m_cutsIn P (cel s) t τ).1 900 0 = τ.1 900 0 + 1 := by
    show up2 (up2 τ.1 901 0 (τ.1 901 0 + (if 99 ≤ τ.1 901 0 then 0 else 1))) 900 0 (τ.1 900 0 + 1) 900 0 = _
    rw [up2_s]
  have x901 : (m_cutsIn P (cel s) t τ).1 901 0 = τ.1 901 0 + (if 99 ≤ τ.1 901 0 then 0 else 1) := by
    show up2 (up2 τ.1 901 0 (τ.1 901 0 + (if 99 ≤ τ.1 901 0 then 0 else 1))) 900 0 (τ.1 900 0 + 1) 901 0 = _
    rw [up2_n (fun z => absurd z.1 (by decide)), up2_s]
  have x914 : (m_cutsIn P (cel s) t τ).1 914 0 = τ.1 914 0 := rfl
  have xB : ∀ F, F ≠ 917 → F ≠ 918 → (m_cutsIn P (cel s) t τ).2.2.2 F 0 = τ.2.2.2 F 0 := fun F a b => by
    show up3 (up3 (up3 (up3 (up3 τ.2.2.2 917 0 (144 * P + cel s) (nI t)) 918 0 (4 * (144 * P + cel s)) (τ.2.2.2 905 0 (cel s % 12))) 918 0 (4 * (144 * P + cel s) + 1) (nI (τ.1 901 0 * (cel s % 12) / 10))) 918 0 (4 * (144 * P + cel s) + 2) (nI (τ.2.2.1 908 0 t / 4))) 918 0 (4 * (144 * P + cel s) + 3) (-(τ.2.2.2 910 0 t)) F 0 = _
    rw [up3_n (fun z => b z.1), up3_n (fun z => b z.1), up3_n (fun z => b z.1), up3_n (fun z => b z.1), up3_n (fun z => a z.1)]
  have x917 : (m_cutsIn P (cel s) t τ).2.2.2 917 0 = up1 (τ.2.2.2 917 0) (144 * P + cel s) (nI t) := by
    show up3 (up3 (up3 (up3 (up3 τ.2.2.2 917 0 (144 * P + cel s) (nI t)) 918 0 (4 * (144 * P + cel s)) (τ.2.2.2 905 0 (cel s % 12))) 918 0 (4 * (144 * P + cel s) + 1) (nI (τ.1 901 0 * (cel s % 12) / 10))) 918 0 (4 * (144 * P + cel s) + 2) (nI (τ.2.2.1 908 0 t / 4))) 918 0 (4 * (144 * P + cel s) + 3) (-(τ.2.2.2 910 0 t)) 917 0 = _
    rw [up3_n (fun z => absurd z.1 (by decide)), up3_n (fun z => absurd z.1 (by decide)), up3_n (fun z => absurd z.1 (by decide)), up3_n (fun z => absurd z.1 (by decide)), up3_s]
  have x918 : (m_cutsIn P (cel s) t τ).2.2.2 918 0 = up1 (up1 (up1 (up1 (τ.2.2.2 918 0) (4 * (144 * P + cel s)) (τ.2.2.2 905 0 (cel s % 12))) (4 * (144 * P + cel s) + 1) (nI (τ.1 901 0 * (cel s % 12) / 10))) (4 * (144 * P + cel s) + 2) (nI (τ.2.2.1 908 0 t / 4))) (4 * (144 * P + cel s) + 3) (-(τ.2.2.2 910 0 t)) := by
    show up3 (up3 (up3 (up3 (up3 τ.2.2.2 917 0 (144 * P + cel s) (nI t)) 918 0 (4 * (144 * P + cel s)) (τ.2.2.2 905 0 (cel s % 12))) 918 0 (4 * (144 * P + cel s) + 1) (nI (τ.1 901 0 * (cel s % 12) / 10))) 918 0 (4 * (144 * P + cel s) + 2) (nI (τ.2.2.1 908 0 t / 4))) 918 0 (4 * (144 * P + cel s) + 3) (-(τ.2.2.2 910 0 t)) 918 0 = _
    rw [up3_s, up3_s, up3_s, up3_s, up3_n (fun z => absurd z.1 (by decide))]
  generalize m_cutsIn P (cel s) t τ = τc at hc907 x900 x901 x914 xB x917 x918 ⊢
  obtain ⟨X, hX⟩ : ∃ X, X = wN (wB (wA (wA τc 908 0 t (τ.2.2.1 908 0 t + 1)) 936 0 ki a9) 935 0 (cel s) (nI (s.1 2))) 943 0 n := ⟨_, rfl⟩
  rw [← hX]
  have y1 : ∀ F, F ≠ 943 → X.1 F 0 = τc.1 F 0 := fun F z => by
    rw [hX]
    show up2 τc.1 943 0 n F 0 = _
    rw [up2_n (fun y => z y.1)]
  have y908 : X.2.2.1 908 0 = up1 (τ.2.2.1 908 0) t (τ.2.2.1 908 0 t + 1) := by
    rw [hX]
    show up3 (up3 τc.2.2.1 908 0 t (τ.2.2.1 908 0 t + 1)) 936 0 ki a9 908 0 = _
    rw [up3_n (fun z => absurd z.1 (by decide)), up3_s, hc907]
  have yA : ∀ F, F ≠ 908 → F ≠ 936 → X.2.2.1 F 0 = τ.2.2.1 F 0 := fun F a b => by
    rw [hX]
    show up3 (up3 τc.2.2.1 908 0 t (τ.2.2.1 908 0 t + 1)) 936 0 ki a9 F 0 = _
    rw [up3_n (fun z => b z.1), up3_n (fun z => a z.1), hc907]
  have y935 : X.2.2.2 935 0 = up1 (τ.2.2.2 935 0) (cel s) (nI (s.1 2)) := by
    rw [hX]
    show up3 τc.2.2.2 935 0 (cel s) (nI (s.1 2)) 935 0 = _
    rw [up3_s, xB 935 (by decide) (by decide)]
  have yB : ∀ F, F ≠ 935 → X.2.2.2 F 0 = τc.2.2.2 F 0 := fun F a => by
    rw [hX]
    show up3 τc.2.2.2 935 0 (cel s) (nI (s.1 2)) F 0 = _
    rw [up3_n (fun z => a z.1)]
  clear hX
  have hI : 144 * P + cel s < 864 := by omega
  have yB2 : ∀ F, F ≠ 935 → F ≠ 917 → F ≠ 918 → X.2.2.2 F 0 = τ.2.2.2 F 0 := fun F a b c => (yB F a).trans (xB F b c)
  refine ⟨⟨?_, ?_, ?_, ?_⟩, ⟨fun k hk => ?_, fun k hk => ?_⟩, fun x hx9 => ?_, fun c hc => ?_, ?_, ?_, ?_, fun i hi => ?_⟩
  · rw [h811, y1 900 (by decide), x900, u1]
  · rw [h812, y1 901 (by decide), x901, u2]
    by_cases c : 99 ≤ τ.1 901 0
    · rw [if_pos c, if_pos c]; omega
    · rw [if_neg c, if_neg c]
  · rw [y1 900 (by decide), x900]
    have := sum_one (f := fun k => σ'.1 504 k) (f' := fun k => σ.1 504 k) (t := t) 16 (fun i _ e => by
      show σ'.1 504 i = σ.1 504 i
      rw [h504, up1_n e]) (by omega) (by
      show σ'.1 504 t = σ.1 504 t + 1
      rw [h504, up1_s])
    omega
  · rw [y1 901 (by decide), x901]
    split <;> omega
  · rw [hcut1 1002 0 (by decide) (by decide) (by decide) (by decide)] at hk
    obtain ⟨b0, b1, b2, b3, b4, b5, b6, b7, b8, b9⟩ := h2.1 k hk
    rw [hcutI, hcut1 502 k (by decide) (by decide) (by decide) (by decide), hcut1 506 k (by decide) (by decide) (by decide) (by decide), hcutB 503 (by omega) (by decide), h504, yB2 906 (by decide) (by decide) (by decide), yA 907 (by decide) (by decide), y908, yB2 910 (by decide) (by decide) (by decide), yA 913 (by decide) (by decide), yB2 911 (by decide) (by decide) (by decide), yB2 912 (by decide) (by decide) (by decide)]
    refine ⟨b0, b1, b2, b3, ?_, b5, b6, b7, b8, b9⟩
    by_cases e : k = t
    · rw [e, up1_s, up1_s, d4]
    · rw [up1_n e, up1_n e]; exact b4
  · rw [hcut1 1002 0 (by decide) (by decide) (by decide) (by decide)] at hk
    have e : k ≠ t := by omega
    rw [y908, up1_n e, yB2 910 (by decide) (by decide) (by decide), yB2 911 (by decide) (by decide) (by decide), yA 913 (by decide) (by decide), h504, up1_n e]
    exact h2.2 k hk
  · rw [hcutB 806 (by omega) (by decide), yB2 905 (by decide) (by decide) (by decide)]
    exact h3 x hx9
  · obtain ⟨b1, b2, b3, b4⟩ := h4 c hc
    by_cases e : c = cel s
    · rw [k200, y935, k202, yB 917 (by decide), x917, k201, if_pos e, k203, e, up1_s, up1_s, up1_s, up1_s, up1_s]
      have hne : ¬ nI t = (-1) := fun z => by
        have h9 := congrArg Int32.toInt z
        rw [nI_tz (by omega)] at h9
        have h8 : (-1 : Int32).toInt = -1 := rfl
        omega
      have hm := h3 (s.1 0) hs.1
      have q0 : X.2.2.2 918 0 (4 * (144 * P + cel s) + 0) = f 0 := by
        rw [yB 918 (by decide), x918, up1_n (by omega), up1_n (by omega), up1_n (by omega), z0, hm, hmod]
        exact up1_s
      have q1 : X.2.2.2 918 0 (4 * (144 * P + cel s) + 1) = f 1 := by
        rw [yB 918 (by decide), x918, up1_n (by omega), up1_n (by omega), up1_s, z1, hmod, u2]
      have q2 : X.2.2.2 918 0 (4 * (144 * P + cel s) + 2) = f 2 := by
        rw [yB 918 (by decide), x918, up1_n (by omega), up1_s, z2, d4]
      have q3 : X.2.2.2 918 0 (4 * (144 * P + cel s) + 3) = f 3 := by
        rw [yB 918 (by decide), x918, up1_s, z3, d5]
      refine ⟨rfl, d0, ?_, ?_⟩
      · unfold mszT
        rw [yB 917 (by decide), x917, up1_s, if_neg hne, y935, up1_s, q0, q1, q2, q3, z0, z1, z2, z3, nI_mul9]
      · unfold mcau
        rw [yB 917 (by decide), x917, up1_s, if_neg hne]
        refine gp_4 (fun j hj => ?_)
        rcases (by omega : j = 0 ∨ j = 1 ∨ j = 2 ∨ j = 3) with rfl | rfl | rfl | rfl
        · exact q0.symm
        · exact q1.symm
        · exact q2.symm
        · exact q3.symm
    · rw [k200, y935, k202, yB 917 (by decide), x917, k201, if_neg e, k203, up1_n e, up1_n e, up1_n e, up1_n (by omega), up1_n e]
      refine ⟨b1, b2, ?_, ?_⟩
      · rw [b3]
        unfold mszT
        rw [yB 917 (by decide), x917, up1_n (by omega), y935, up1_n e, yB 918 (by decide), x918]
        rw [up1_n (by omega), up1_n (by omega), up1_n (by omega), up1_n (by omega), up1_n (by omega), up1_n (by omega), up1_n (by omega), up1_n (by omega), up1_n (by omega), up1_n (by omega), up1_n (by omega), up1_n (by omega), up1_n (by omega), up1_n (by omega), up1_n (by omega), up1_n (by omega)]
      · rw [b4]
        unfold mcau
        rw [yB 917 (by decide), x917, up1_n (by omega), yB 918 (by decide), x918]
        rw [cau_cong (f := fun j => τ.2.2.2 918 0 (4 * (144 * P + c) + j)) 4 (fun j hj => ?_)]
        show _ = up1 _ _ _ _
        rw [up1_n (by omega), up1_n (by omega), up1_n (by omega), up1_n (by omega)]
  · rw [hcut1 1002 0 (by decide) (by decide) (by decide) (by decide), hcutA]
    exact h5
  · rw [hcut1 1002 0 (by decide) (by decide) (by decide) (by decide), y1 914 (by decide), x914]
    exact h6
  · rw [hcut1 1002 0 (by decide) (by decide) (by decide) (by decide)]
    exact h7
  · rw [yB 917 (by decide), x917, y1 914 (by decide), x914]
    by_cases e : 144 * P + i = 144 * P + cel s
    · rw [e, up1_s]
      exact Or.inr ((ix_nI (by omega)).mpr (by omega))
    · rw [up1_n e]
      exact h8 i hi
