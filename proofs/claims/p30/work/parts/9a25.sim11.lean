/-! the class's calls that change something -/
section QCH
variable {D : va_G} {cI cZ cO : ClassId} {t0 mi : Nat} {l : Launch} {K : Nat} {σ τ ρ : St}
set_option maxHeartbeats 400000 in
/-- a tool's row changes -/
theorem JT.u {ρ' τ' : St} (hT : JT ρ τ) {t : Nat} {f4 f3 f8 : Int32} {n8 : Nat} (hu : ∀ i, ρ'.2.2.2 902 0 i = if i = 9 * t + 8 then f8 else if i = 9 * t + 4 then f4 else if i = 9 * t + 3 then f3 else ρ.2.2.2 902 0 i) (h8 : f8 = nI n8) (h4 : f4 = 0 ∨ f4 = 1) (h3 : ix (f3 + nI 200) 401)
    (e914 : τ'.1 914 = τ.1 914) (e906 : τ'.2.2.2 906 = τ.2.2.2 906) (e907 : τ'.2.2.1 907 = τ.2.2.1 907) (e908 : τ'.2.2.1 908 = τ.2.2.1 908) (e912 : τ'.2.2.2 912 = τ.2.2.2 912) (e911 : τ'.2.2.2 911 0 = up1 (τ.2.2.2 911 0) t f4) (e910 : τ'.2.2.2 910 0 = up1 (τ.2.2.2 910 0) t f3) (e913 : τ'.2.2.1 913 0 = up1 (τ.2.2.1 913 0) t n8) : JT ρ' τ' := by
  refine ⟨⟨by rw [e914]; exact hT.1.1, fun k hk => ?_⟩, fun k hk => ?_⟩
  · obtain ⟨a1, a2, a3, a4, a5, a6, a7⟩ := hT.1.2 k hk
    rw [e906, e907, e908, e911, hu, hu, hu, hu, if_neg (by omega), if_neg (by omega), if_neg (by omega), if_neg (by omega), if_neg (by omega), if_neg (by omega), if_neg (by omega), if_neg (by omega), if_neg (by omega), if_neg (show ¬ 9 * k + 4 = 9 * t + 8 by omega)]
    refine ⟨a1, a2, a3, ?_⟩
    by_cases e : k = t
    · subst e
      rw [if_pos rfl, up1_s]
      exact ⟨rfl, h4, a6, a7⟩
    · rw [if_neg (by omega), if_neg (by omega), up1_n e]
      exact ⟨a4, a5, a6, a7⟩
  · obtain ⟨b1, b2, b3, b4⟩ := hT.2 k hk
    rw [e910, e912, e913]
    refine ⟨?_, ?_, fun j hj => ?_, ?_⟩
    · rw [hu, if_neg (show ¬ 9 * k + 3 = 9 * t + 8 by omega), if_neg (show ¬ 9 * k + 3 = 9 * t + 4 by omega)]
      by_cases e : k = t
      · subst e; rw [if_pos rfl, up1_s]
      · rw [if_neg (by omega), up1_n e]; exact b1
    · rw [hu, if_neg (show ¬ 9 * k + 3 = 9 * t + 8 by omega), if_neg (show ¬ 9 * k + 3 = 9 * t + 4 by omega)]
      by_cases e : k = t
      · subst e; rw [if_pos rfl]; exact h3
      · rw [if_neg (by omega)]; exact b2
    · rw [hu, if_neg (by omega), if_neg (by omega), if_neg (by omega)]
      exact b3 j hj
    · rw [hu]
      by_cases e : k = t
      · subst e; rw [if_pos rfl, up1_s]; exact h8
      · rw [if_neg (by omega), if_neg (by omega), if_neg (by omega), up1_n e]; exact b4
set_option maxHeartbeats 400000 in
theorem off_ok {y : Int32} (h1 : (-200) ≤ y) (h2 : y ≤ nI 200) : ix (y + nI 200) 401 := by
  rw [Int32.le_iff_toInt_le] at h1 h2
  have a : (-200 : Int32).toInt = -200 := by decide
  have b : (nI 200).toInt = 200 := by decide
  rw [a] at h1
  rw [b] at h2
  have e : (y + nI 200).toInt = y.toInt + 200 := by
    rw [Int32.toInt_add, b]
    exact Int.bmod_eq_of_le (by omega) (by omega)
  exact ⟨by rw [e]; omega, by rw [e]; omega⟩
def clp (x : Int32) : Int32 := if x ≤ nI 200 then (if (-200) ≤ x then x else (-200)) else nI 200
set_option maxHeartbeats 400000 in
theorem clp_eq (x : Int32) : (if (-200) ≤ x then (if x ≤ nI 200 then x else nI 200) else (-200)) = clp x := by
  unfold clp
  by_cases c1 : x ≤ nI 200
  · rw [if_pos c1, if_pos c1]
  · by_cases c2 : (-200) ≤ x
    · rw [if_pos c2, if_neg c1, if_neg c1]
    · exfalso
      rw [Int32.le_iff_toInt_le] at c1 c2
      have a : (-200 : Int32).toInt = -200 := by decide
      have b : (nI 200).toInt = 200 := by decide
      omega
set_option maxHeartbeats 400000 in
theorem clp_ok (x : Int32) : ix (clp x + nI 200) 401 := by
  unfold clp
  by_cases c1 : x ≤ nI 200
  · rw [if_pos c1]
    by_cases c2 : (-200) ≤ x
    · rw [if_pos c2]; exact off_ok c2 c1
    · rw [if_neg c2]; decide
  · rw [if_neg c1]; decide
set_option maxHeartbeats 400000 in
theorem min_c (a b c : Int32) : 0 < (if c ≤ (if b ≤ a then b else a) then c else (if b ≤ a then b else a)) ↔ ¬ a ≤ 0 ∧ ¬ b ≤ 0 ∧ ¬ c ≤ 0 := by
  have z0 : (0 : Int32).toInt = 0 := rfl
  by_cases c1 : b ≤ a
  · rw [if_pos c1]
    by_cases c2 : c ≤ b
    · rw [if_pos c2]; simp only [Int32.le_iff_toInt_le, Int32.lt_iff_toInt_lt, z0] at *; omega
    · rw [if_neg c2]; simp only [Int32.le_iff_toInt_le, Int32.lt_iff_toInt_lt, z0] at *; omega
  · rw [if_neg c1]
    by_cases c2 : c ≤ a
    · rw [if_pos c2]; simp only [Int32.le_iff_toInt_le, Int32.lt_iff_toInt_lt, z0] at *; omega
    · rw [if_neg c2]; simp only [Int32.le_iff_toInt_le, Int32.lt_iff_toInt_lt, z0] at *; omega
set_option maxHeartbeats 400000 in
theorem max_c (a b c : Int32) : (if (if a ≤ b then b else a) ≤ c then c else (if a ≤ b then b else a)) < 0 ↔ ¬ 0 ≤ a ∧ ¬ 0 ≤ b ∧ ¬ 0 ≤ c := by
  have z0 : (0 : Int32).toInt = 0 := rfl
  by_cases c1 : a ≤ b
  · rw [if_pos c1]
    by_cases c2 : b ≤ c
    · rw [if_pos c2]; simp only [Int32.le_iff_toInt_le, Int32.lt_iff_toInt_lt, z0] at *; omega
    · rw [if_neg c2]; simp only [Int32.le_iff_toInt_le, Int32.lt_iff_toInt_lt, z0] at *; omega
  · rw [if_neg c1]
    by_cases c2 : a ≤ c
    · rw [if_pos c2]; simp only [Int32.le_iff_toInt_le, Int32.lt_iff_toInt_lt, z0] at *; omega
    · rw [if_neg c2]; simp only [Int32.le_iff_toInt_le, Int32.lt_iff_toInt_lt, z0] at *; omega
set_option maxHeartbeats 400000 in
theorem cor_J (hJ : JJ K ρ τ) {t : Nat} (ht : t < 4) (X Y : Int32) (hY : ix (Y + nI 200) 401) : JJ K (wB (wB (wB ρ 902 0 (9 * t + 3) X) 902 0 (9 * t + 3) Y) 902 0 (9 * t + 8) (nI 0)) (wA (wB (wI τ 944 0 (nI 0)) 910 0 t Y) 913 0 t 0) := by
  have f : FRm [] [944] [913] [910] τ (wA (wB (wI τ 944 0 (nI 0)) 910 0 t Y) 913 0 t 0) := FRm.A (FRm.B fr944 (by decide)) (by decide)
  obtain ⟨hN, hP, hA, hT, hM, hQ, hG, hF, hW, hC⟩ := hJ
  have a4 := (hT.1.2 t ht).2.2.2
  have hr : ∀ F, F ≠ 902 → (wB (wB (wB ρ 902 0 (9 * t + 3) X) 902 0 (9 * t + 3) Y) 902 0 (9 * t + 8) (nI 0)).2.2.2 F = ρ.2.2.2 F := fun F z => by rw [wB_o z, wB_o z, wB_o z]
  have hu : ∀ i, (wB (wB (wB ρ 902 0 (9 * t + 3) X) 902 0 (9 * t + 3) Y) 902 0 (9 * t + 8) (nI 0)).2.2.2 902 0 i = if i = 9 * t + 8 then nI 0 else if i = 9 * t + 4 then τ.2.2.2 911 0 t else if i = 9 * t + 3 then Y else ρ.2.2.2 902 0 i := fun i => by
    rw [wB_3, wB_3, wB_3, up1_app, up1_app, up1_app]
    by_cases e8 : i = 9 * t + 8
    · rw [if_pos e8, if_pos e8]
    · rw [if_neg e8, if_neg e8]
      by_cases e3 : i = 9 * t + 3
      · rw [if_pos e3, if_neg (show ¬ i = 9 * t + 4 by omega), if_pos e3]
      · rw [if_neg e3, if_neg e3]
        by_cases e4 : i = 9 * t + 4
        · rw [if_pos e4, e4]; exact a4.1
        · rw [if_neg e4, if_neg e3]
  have e910 : (wA (wB (wI τ 944 0 (nI 0)) 910 0 t Y) 913 0 t 0).2.2.2 910 0 = up1 (τ.2.2.2 910 0) t Y := by
    show (wB (wI τ 944 0 (nI 0)) 910 0 t Y).2.2.2 910 0 = _
    exact wB_3
  have e913 : (wA (wB (wI τ 944 0 (nI 0)) 910 0 t Y) 913 0 t 0).2.2.1 913 0 = up1 (τ.2.2.1 913 0) t 0 := wA_3 (σ := wB (wI τ 944 0 (nI 0)) 910 0 t Y)
  have hl : (wB (wB (wB ρ 902 0 (9 * t + 3) X) 902 0 (9 * t + 3) Y) 902 0 (9 * t + 8) (nI 0)).2.2.1 = ρ.2.2.1 := rfl
  have h911 := f.2.2.2 911 (by decide)
  generalize wB (wB (wB ρ 902 0 (9 * t + 3) X) 902 0 (9 * t + 3) Y) 902 0 (9 * t + 8) (nI 0) = R at *
  generalize wA (wB (wI τ 944 0 (nI 0)) 910 0 t Y) 913 0 t 0 = T at *
  exact ⟨by unfold JN; rw [hl]; exact hN, hP.fr f (hr 901 (by decide)), hA.fr f (fun p _ => by rw [hl]), hT.u hu rfl a4.2.1 hY (f.1 914 (by decide)) (f.2.2.2 906 (by decide)) (f.2.2.1 907 (by decide)) (f.2.2.1 908 (by decide)) (f.2.2.2 912 (by decide)) (by rw [h911]; exact (funext fun k => by rw [up1_app]; by_cases e : k = t; (rw [if_pos e, e]); rw [if_neg e])) e910 e913, hM.fr f (fun i _ _ _ => by rw [hr 903 (by decide)]), hQ.fr f (by rw [hr 905 (by decide)]), hG.fr f (by rw [hr 903 (by decide)]; exact ⟨rfl, rfl⟩), hF.fr f (fun i _ _ => by rw [hr 903 (by decide)]), hW.fr f (fun i _ _ => by rw [hr 903 (by decide)]), hC.fr f (fun p _ => by rw [hl])⟩
set_option maxHeartbeats 400000 in
theorem Q_correct (hl9 : l.stackTraces = false) (hR : Rl wr0 σ τ) (hJ : JJ K ρ τ) {t : Nat} (ht : t < 4) : ∃ σ' τ', (∀ (L : Lay) (ow : Nat → Prop), YI D cI cZ cO t0 mi l yX8_correct cX8_correct 2 (some FieldType.int) 7 142 1 6 [.ref (L 899 0), .int (nI t)] L σ ow 0 (h_cor 0 t ρ).1 σ') ∧ Rl wr0 σ' τ' ∧ JJ K (h_cor 0 t ρ).2 τ' := by
  have hT := hJ.2.2.2.1
  obtain ⟨b1, b2, b3, b4⟩ := hT.2 t ht
  have c0 := b3 0 (by decide)
  have c1 := b3 1 (by decide)
  have c2 := b3 2 (by decide)
  have c0 : ρ.2.2.2 902 0 (9 * t + 5) = τ.2.2.2 912 0 (3 * t) := c0
  have c1 : ρ.2.2.2 902 0 (9 * t + 6) = τ.2.2.2 912 0 (3 * t + 1) := c1
  have c2 : ρ.2.2.2 902 0 (9 * t + 7) = τ.2.2.2 912 0 (3 * t + 2) := c2
  have g : ix (nI t) (τ.1 914 0) ∧ True ∧ True := ⟨by rw [hT.1.1]; exact ixz ht (by decide), trivial, trivial⟩
  have hb : τ.2.2.1 913 0 t < 1000 := by
    have h1 := hR.2.2.2.2.2.1.2.2.2.2.1 t
    have h2 := hJ.2.2.2.2.2.2.2.2.1.2.1
    omega
  have e : (m_correct (nI t) τ).1 = (h_cor 0 t ρ).1 ∧ JJ K (h_cor 0 t ρ).2 (m_correct (nI t) τ).2 ∧ (m_correct (nI t) τ).2.2.1 944 0 = nI 0 := by
    have key := fun X Y hY => cor_J hJ ht X Y hY
    have j0 := hJ.tau (w944 (x := nI 0))
    unfold h_cor m_correct
    rw [mg_0 g, if_pos g, tz (by omega : t < 1000), c0, c1, c2, b1, b4]
    simp only [clp_eq]
    by_cases n3 : τ.2.2.1 913 0 t < 3
    · rw [if_pos n3, if_pos ((nlt (by omega) (by decide)).mpr n3)]
      exact ⟨rfl, j0, t944⟩
    · rw [if_neg n3, if_neg (fun z => n3 ((nlt (by omega) (by decide)).mp z))]
      generalize τ.2.2.2 912 0 (3 * t) = a
      generalize τ.2.2.2 912 0 (3 * t + 1) = b
      generalize τ.2.2.2 912 0 (3 * t + 2) = c
      by_cases h1 : ¬ a ≤ 0 ∧ ¬ b ≤ 0 ∧ ¬ c ≤ 0
      · rw [if_pos h1, if_pos ((min_c a b c).mpr h1)]
        exact ⟨rfl, key _ _ (clp_ok _), t944 (τ := τ)⟩
      · rw [if_neg h1, if_neg (fun z => h1 ((min_c a b c).mp z))]
        by_cases h2 : ¬ 0 ≤ a ∧ ¬ 0 ≤ b ∧ ¬ 0 ≤ c
        · rw [if_pos h2, if_pos ((max_c a b c).mpr h2)]
          exact ⟨rfl, key _ _ (clp_ok _), t944 (τ := τ)⟩
        · rw [if_neg h2, if_neg (fun z => h2 ((max_c a b c).mp z))]
          exact ⟨rfl, j0, t944⟩
  obtain ⟨σ', h1, h2⟩ := oq_correct (D := D) (cI := cI) (cZ := cZ) (cO := cO) (t0 := t0) (mi := mi) hl9 hR (nI t) e.2.2
  rw [e.1] at h1
  exact ⟨σ', _, h1, h2, e.2.1⟩
set_option maxHeartbeats 400000 in
theorem cnt_4 {f : Nat → Int32} (h : ∀ k, k < 4 → f k = 0 ∨ f k = 1) : nI (cntZ f 4) = f 0 + f 1 + f 2 + f 3 := by
  show nI ((((0 + (if f 0 = 0 then 0 else 1)) + (if f 1 = 0 then 0 else 1)) + (if f 2 = 0 then 0 else 1)) + (if f 3 = 0 then 0 else 1)) = _
  rcases h 0 (by decide) with a | a <;> rcases h 1 (by decide) with b | b <;> rcases h 2 (by decide) with c | c <;> rcases h 3 (by decide) with d | d <;> rw [a, b, c, d] <;> decide
set_option maxHeartbeats 400000 in
theorem b2i_v {v : Int32} (h : v = 0 ∨ v = 1) : b2i (¬ v = 0) = v := by
  rcases h with rfl | rfl <;> decide
set_option maxHeartbeats 400000 in
theorem Q_load (hl9 : l.stackTraces = false) (hR : Rl wr0 σ τ) (hJ : JJ K ρ τ) {t : Nat} {v : Int32} (ht : t < 4) (hv : v = 0 ∨ v = 1) : ∃ σ' τ', (∀ (L : Lay) (ow : Nat → Prop), YI D cI cZ cO t0 mi l yX8_load cX8_load 4 (some FieldType.int) 7 143 2 12 [.ref (L 899 0), .int (nI t), .int v] L σ ow 0 ((wB ρ 902 0 (9 * t + 4) v).2.2.2 902 0 4 + (wB ρ 902 0 (9 * t + 4) v).2.2.2 902 0 13 + (wB ρ 902 0 (9 * t + 4) v).2.2.2 902 0 22 + (wB ρ 902 0 (9 * t + 4) v).2.2.2 902 0 31) σ') ∧ Rl wr0 σ' τ' ∧ JJ K (wB ρ 902 0 (9 * t + 4) v) τ' := by
  obtain ⟨hN, hP, hA, hT, hM, hQ, hG, hF, hW, hC⟩ := hJ
  have h4 : cntZ (τ.2.2.2 911 0) (τ.1 914 0) < 6 := Nat.lt_of_le_of_lt (cntZ_le _ _) (by rw [hT.1.1]; decide)
  have g : ix (nI t) (τ.1 914 0) ∧ (ix (nI t) (τ.1 914 0) ∧ (¬ ¬ v = 0 ∨ ¬ τ.2.2.2 911 0 (tn (nI t)) = 0 ∨ cntZ (τ.2.2.2 911 0) (τ.1 914 0) < 6)) ∧ True := ⟨by rw [hT.1.1]; exact ixz ht (by decide), ⟨by rw [hT.1.1]; exact ixz ht (by decide), Or.inr (Or.inr h4)⟩, trivial⟩
  have e : (m_load (nI t) (¬ v = 0) τ) = (nI (cntZ (up1 (τ.2.2.2 911 0) t v) 4), wB (wI τ 944 0 (nI 0)) 911 0 t v) := by
    unfold m_load
    rw [mg_0 g, if_pos g, tz (by omega : t < 1000), b2i_v hv, hT.1.1, wB_3]
    rfl
  have f : FRm [] [944] [] [911] τ (wB (wI τ 944 0 (nI 0)) 911 0 t v) := FRm.B fr944 (by decide)
  have hr : ∀ F, F ≠ 902 → (wB ρ 902 0 (9 * t + 4) v).2.2.2 F = ρ.2.2.2 F := fun F z => wB_o z
  have hu : ∀ i, (wB ρ 902 0 (9 * t + 4) v).2.2.2 902 0 i = if i = 9 * t + 4 then v else ρ.2.2.2 902 0 i := fun i => by rw [wB_3, up1_app]
  have a8 := (hT.2 t ht).2.2.2
  have a3 := (hT.2 t ht)
  have hu2 : ∀ i, (wB ρ 902 0 (9 * t + 4) v).2.2.2 902 0 i = if i = 9 * t + 8 then ρ.2.2.2 902 0 (9 * t + 8) else if i = 9 * t + 4 then v else if i = 9 * t + 3 then ρ.2.2.2 902 0 (9 * t + 3) else ρ.2.2.2 902 0 i := fun i => by
    rw [hu]
    by_cases e8 : i = 9 * t + 8
    · rw [if_neg (by omega), if_pos e8, e8]
    · rw [if_neg e8]
      by_cases e4 : i = 9 * t + 4
      · rw [if_pos e4, if_pos e4]
      · rw [if_neg e4, if_neg e4]
        by_cases e3 : i = 9 * t + 3
        · rw [if_pos e3, e3]
        · rw [if_neg e3]
  have e911 : (wB (wI τ 944 0 (nI 0)) 911 0 t v).2.2.2 911 0 = up1 (τ.2.2.2 911 0) t v := wB_3 (σ := wI τ 944 0 (nI 0))
  have hT' : JT (wB ρ 902 0 (9 * t + 4) v) (wB (wI τ 944 0 (nI 0)) 911 0 t v) := hT.u hu2 a8 hv a3.2.1 (f.1 914 (by decide)) (f.2.2.2 906 (by decide)) (f.2.2.1 907 (by decide)) (f.2.2.1 908 (by decide)) (f.2.2.2 912 (by decide)) e911 (by rw [f.2.2.2 910 (by decide)]; exact (funext fun k => by rw [up1_app]; by_cases z : k = t; (rw [if_pos z, z]; exact a3.1.symm); rw [if_neg z])) (by rw [f.2.2.1 913 (by decide)]; exact (funext fun k => by rw [up1_app]; by_cases z : k = t; (rw [if_pos z, z]); rw [if_neg z]))
  have hs : nI (cntZ (up1 (τ.2.2.2 911 0) t v) 4) = (wB ρ 902 0 (9 * t + 4) v).2.2.2 902 0 4 + (wB ρ 902 0 (9 * t + 4) v).2.2.2 902 0 13 + (wB ρ 902 0 (9 * t + 4) v).2.2.2 902 0 22 + (wB ρ 902 0 (9 * t + 4) v).2.2.2 902 0 31 := by
    have u := hT'.1.2
    rw [e911] at u
    have u0 := (u 0 (by decide)).2.2.2
    have u1 := (u 1 (by decide)).2.2.2
    have u2 := (u 2 (by decide)).2.2.2
    have u3 := (u 3 (by decide)).2.2.2
    rw [cnt_4 (fun k hk => (u k hk).2.2.2.2.1), ← u0.1, ← u1.1, ← u2.1, ← u3.1]
  obtain ⟨σ', h1, h2⟩ := oq_load (D := D) (cI := cI) (cZ := cZ) (cO := cO) (t0 := t0) (mi := mi) hl9 hR (nI t) v hv (by rw [e]; exact t944 (τ := τ))
  rw [e] at h1 h2
  rw [hs] at h1
  exact ⟨σ', _, h1, h2, ⟨hN, hP.fr f (hr 901 (by decide)), hA.fr f (fun p _ => rfl), hT', hM.fr f (fun i _ _ _ => by rw [hr 903 (by decide)]), hQ.fr f (by rw [hr 905 (by decide)]), hG.fr f (by rw [hr 903 (by decide)]; exact ⟨rfl, rfl⟩), hF.fr f (fun i _ _ => by rw [hr 903 (by decide)]), hW.fr f (fun i _ _ => by rw [hr 903 (by decide)]), hC.fr f (fun p _ => rfl)⟩⟩
set_option maxHeartbeats 400000 in
theorem Q_map (hl9 : l.stackTraces = false) (hR : Rl wr0 σ τ) (hJ : JJ K ρ τ) {x c : Nat} (hx : x < 12) (hc : c < 101) : ∃ σ' τ', (∀ (L : Lay) (ow : Nat → Prop), YI D cI cZ cO t0 mi l yX8_map cX8_map 4 (some FieldType.int) 6 90 1 6 [.ref (L 899 0), .int (nI x), .int (nI c - nI 50)] L σ ow 0 (ρ.2.2.2 903 0 (4 + x)) σ') ∧ Rl wr0 σ' τ' ∧ JJ K (wB ρ 903 0 (4 + x) (nI c - nI 50)) τ' := by
  obtain ⟨hN, hP, hA, hT, hM, hQ, hG, hF, hW, hC⟩ := hJ
  have hv : (nI c - nI 50).toInt = (c : Int) - 50 := nI_sI (by omega) (by omega)
  have g : (ix (nI x) 12 ∧ (-50 ≤ (nI c - nI 50).toInt ∧ (nI c - nI 50).toInt ≤ 50)) ∧ True ∧ True := ⟨⟨ixz hx (by decide), by rw [hv]; omega, by rw [hv]; omega⟩, trivial, trivial⟩
  have e : m_map (nI x) (nI c - nI 50) τ = (τ.2.2.2 905 0 x, wB (wI τ 944 0 (nI 0)) 905 0 x (nI c - nI 50)) := by
    unfold m_map
    rw [mg_0 g, if_pos g, tz (by omega : x < 1000)]
  have f : FRm [] [944] [] [905] τ (wB (wI τ 944 0 (nI 0)) 905 0 x (nI c - nI 50)) := FRm.B fr944 (by decide)
  have e905 : (wB (wI τ 944 0 (nI 0)) 905 0 x (nI c - nI 50)).2.2.2 905 0 = up1 (τ.2.2.2 905 0) x (nI c - nI 50) := wB_3 (σ := wI τ 944 0 (nI 0))
  have hr : ∀ F, F ≠ 903 → (wB ρ 903 0 (4 + x) (nI c - nI 50)).2.2.2 F = ρ.2.2.2 F := fun F z => wB_o z
  have hu : ∀ i, i ≠ 4 + x → (wB ρ 903 0 (4 + x) (nI c - nI 50)).2.2.2 903 0 i = ρ.2.2.2 903 0 i := fun i hi => e_ne hi
  have hs : (wB ρ 903 0 (4 + x) (nI c - nI 50)).2.2.2 903 0 (4 + x) = nI c - nI 50 := by rw [wB_3, up1_s]
  obtain ⟨σ', h1, h2⟩ := oq_map (D := D) (cI := cI) (cZ := cZ) (cO := cO) (t0 := t0) (mi := mi) hl9 hR (nI x) (nI c - nI 50) (by rw [e]; exact t944 (τ := τ))
  rw [e] at h1 h2
  rw [← (hM.2.2.1 x hx).1] at h1
  have hM' : JM K (wB ρ 903 0 (4 + x) (nI c - nI 50)) (wB (wI τ 944 0 (nI 0)) 905 0 x (nI c - nI 50)) := by
    refine ⟨by rw [hu 0 (by omega)]; exact hM.1, by rw [hu 1 (by omega)]; exact hM.2.1, fun y hy => ?_, hM.2.2.2⟩
    rw [e905]
    by_cases z : y = x
    · subst z
      rw [hs, up1_s]
      exact ⟨rfl, by rw [Int32.sub_add_cancel]; exact ixz hc (by decide)⟩
    · rw [hu _ (by omega), up1_n z]
      exact hM.2.2.1 y hy
  exact ⟨σ', _, h1, h2, ⟨hN, hP.fr f (hr 901 (by decide)), hA.fr f (fun p _ => rfl), hT.fr f (by rw [hr 902 (by decide)]), hM', hQ.fr f (by rw [hr 905 (by decide)]), hG.fr f ⟨hu 2 (by omega), hu 3 (by omega)⟩, hF.fr f (fun i _ _ => hu i (by omega)), hW.fr f (fun i _ _ => hu i (by omega)), hC.fr f (fun p _ => rfl)⟩⟩
set_option maxHeartbeats 400000 in
theorem Q_calibrate (hl9 : l.stackTraces = false) (hR : Rl wr0 σ τ) (hJ : JJ K ρ τ) {d : Nat} (hd : d < 31) : ∃ σ' τ', (∀ (L : Lay) (ow : Nat → Prop), YI D cI cZ cO t0 mi l yX8_calibrate cX8_calibrate 4 (some FieldType.int) 7 142 2 12 [.ref (L 899 0), .int (nI 2), .int (nI d)] L σ ow 0 (ρ.2.2.2 903 0 0 + nI 999) σ') ∧ Rl wr0 σ' τ' ∧ JJ K (wB (wB ρ 903 0 2 (ρ.2.2.2 903 0 0 + nI 1)) 903 0 3 (nI d)) τ' := by
  obtain ⟨hN, hP, hA, hT, hM, hQ, hG, hF, hW, hC⟩ := hJ
  have g : ix (nI 2) 4 ∧ (0 ≤ (nI d).toInt ∧ (nI d).toInt ≤ 30) ∧ True := ⟨by decide, by rw [iz (by omega)]; omega, trivial⟩
  have e : m_calibrate (nI 2) (nI d) τ = (nI (τ.1 900 0 + 1000 - 1), wB (wA (wB (wI τ 944 0 (nI 0)) 928 0 2 (nI 1)) 927 0 2 (τ.1 900 0)) 929 0 2 (nI d)) := by
    unfold m_calibrate
    rw [mg_0 g, if_pos g, tz (by decide : 2 < 1000)]
  have f : FRm [] [944] [927] [928, 929] τ (wB (wA (wB (wI τ 944 0 (nI 0)) 928 0 2 (nI 1)) 927 0 2 (τ.1 900 0)) 929 0 2 (nI d)) := FRm.B (FRm.A (FRm.B fr944 (by decide)) (by decide)) (by decide)
  have hr : ∀ F, F ≠ 903 → (wB (wB ρ 903 0 2 (ρ.2.2.2 903 0 0 + nI 1)) 903 0 3 (nI d)).2.2.2 F = ρ.2.2.2 F := fun F z => by rw [wB_o z, wB_o z]
  have hu : ∀ i, i ≠ 2 → i ≠ 3 → (wB (wB ρ 903 0 2 (ρ.2.2.2 903 0 0 + nI 1)) 903 0 3 (nI d)).2.2.2 903 0 i = ρ.2.2.2 903 0 i := fun i h2 h3 => by rw [e_ne h3, e_ne h2]
  have u2 : (wB (wB ρ 903 0 2 (ρ.2.2.2 903 0 0 + nI 1)) 903 0 3 (nI d)).2.2.2 903 0 2 = ρ.2.2.2 903 0 0 + nI 1 := by rw [e_ne (by decide), wB_3, up1_s]
  have u3 : (wB (wB ρ 903 0 2 (ρ.2.2.2 903 0 0 + nI 1)) 903 0 3 (nI d)).2.2.2 903 0 3 = nI d := by rw [wB_3, up1_s]
  have t28 : (wB (wA (wB (wI τ 944 0 (nI 0)) 928 0 2 (nI 1)) 927 0 2 (τ.1 900 0)) 929 0 2 (nI d)).2.2.2 928 0 2 = nI 1 := by
    rw [wB_o (by decide)]
    show (wB (wI τ 944 0 (nI 0)) 928 0 2 (nI 1)).2.2.2 928 0 2 = _
    rw [wB_3, up1_s]
  have t27 : (wB (wA (wB (wI τ 944 0 (nI 0)) 928 0 2 (nI 1)) 927 0 2 (τ.1 900 0)) 929 0 2 (nI d)).2.2.1 927 0 2 = τ.1 900 0 := by
    show (wA (wB (wI τ 944 0 (nI 0)) 928 0 2 (nI 1)) 927 0 2 (τ.1 900 0)).2.2.1 927 0 2 = _
    rw [wA_3, up1_s]
  have t29 : (wB (wA (wB (wI τ 944 0 (nI 0)) 928 0 2 (nI 1)) 927 0 2 (τ.1 900 0)) 929 0 2 (nI d)).2.2.2 929 0 2 = nI d := by rw [wB_3, up1_s]
  obtain ⟨σ', h1, h2⟩ := oq_calibrate (D := D) (cI := cI) (cZ := cZ) (cO := cO) (t0 := t0) (mi := mi) hl9 hR (nI 2) (nI d) (by rw [e]; exact t944 (τ := τ))
  rw [e] at h1 h2
  have e9 : nI (τ.1 900 0 + 1000 - 1) = ρ.2.2.2 903 0 0 + nI 999 := by rw [hM.1, nI_add]; rfl
  rw [e9] at h1
  have hG' : JG (wB (wB ρ 903 0 2 (ρ.2.2.2 903 0 0 + nI 1)) 903 0 3 (nI d)) (wB (wA (wB (wI τ 944 0 (nI 0)) 928 0 2 (nI 1)) 927 0 2 (τ.1 900 0)) 929 0 2 (nI d)) :=
    ⟨Or.inr (t28.trans (by decide)), by rw [u2, t28, t27, if_neg (by decide), hM.1, nI_add], by rw [u3, t29], by rw [t29]; exact ixz hd (by decide)⟩
  exact ⟨σ', _, h1, h2, ⟨hN, hP.fr f (hr 901 (by decide)), hA.fr f (fun p _ => rfl), hT.fr f (by rw [hr 902 (by decide)]), hM.fr f (fun i _ i2 i3 => hu i i2 i3), hQ.fr f (by rw [hr 905 (by decide)]), hG', hF.fr f (fun i _ _ => hu i (by omega) (by omega)), hW.fr f (fun i _ _ => hu i (by omega) (by omega)), hC.fr f (fun p _ => rfl)⟩⟩
set_option maxHeartbeats 400000 in
theorem Q_allow (hl9 : l.stackTraces = false) (hR : Rl wr0 σ τ) (hJ : JJ K ρ τ) {f9 t n : Nat} (hf : f9 < 2) (ht : t < 100) (h0 : 1 ≤ n) (hn : n ≤ 9) : ∃ σ' τ', (∀ (L : Lay) (ow : Nat → Prop), YI D cI cZ cO t0 mi l yX8_allow cX8_allow 6 (some FieldType.int) 7 142 2 12 [.ref (L 899 0), .int (nI 0), .int (nI f9), .int (nI t), .int (nI n)] L σ ow 0 (ρ.2.2.2 903 0 (16 + 6 * f9 + 3) + nI t) σ') ∧ Rl wr0 σ' τ' ∧ JJ K (wB (wB ρ 903 0 (16 + 6 * f9 + 4) (nI t)) 903 0 (16 + 6 * f9 + 5) (nI n)) τ' := by
  obtain ⟨hN, hP, hA, hT, hM, hQ, hG, hF, hW, hC⟩ := hJ
  have g : (ix (nI 0) (τ.1 932 0) ∧ ix (nI f9) (τ.2.2.1 931 0 (tn (nI 0)))) ∧ ((0 ≤ (nI t).toInt ∧ (nI t).toInt ≤ 99) ∧ (1 ≤ (nI n).toInt ∧ (nI n).toInt ≤ 9)) ∧ True := ⟨⟨by rw [hF.1]; decide, by rw [tz (by decide : 0 < 1000), hF.2.1]; exact ixz hf (by decide)⟩, ⟨by rw [iz (by omega)]; omega, by rw [iz (by omega)]; omega⟩, trivial⟩
  have e : m_allow (nI 0) (nI f9) (nI t) (nI n) τ = (nI (τ.2.2.1 930 0 (6 * f9 + 3) + t), wA (wA (wI τ 944 0 (nI 0)) 930 0 (6 * f9 + 4) t) 930 0 (6 * f9 + 5) n) := by
    unfold m_allow
    rw [mg_0 g, if_pos g, tz (by decide : 0 < 1000), tz (by omega : f9 < 1000), tz (by omega : t < 1000), tz (by omega : n < 1000)]
    rw [wA_3, wA_3, up1_n (by omega), up1_n (by omega), Nat.mul_zero, Nat.zero_add]
    rfl
  have f : FRm [] [944] [930] [] τ (wA (wA (wI τ 944 0 (nI 0)) 930 0 (6 * f9 + 4) t) 930 0 (6 * f9 + 5) n) := FRm.A (FRm.A fr944 (by decide)) (by decide)
  have hr : ∀ F, F ≠ 903 → (wB (wB ρ 903 0 (16 + 6 * f9 + 4) (nI t)) 903 0 (16 + 6 * f9 + 5) (nI n)).2.2.2 F = ρ.2.2.2 F := fun F z => by rw [wB_o z, wB_o z]
  have hu : ∀ i, (wB (wB ρ 903 0 (16 + 6 * f9 + 4) (nI t)) 903 0 (16 + 6 * f9 + 5) (nI n)).2.2.2 903 0 i = if i = 16 + 6 * f9 + 5 then nI n else if i = 16 + 6 * f9 + 4 then nI t else ρ.2.2.2 903 0 i := fun i => by rw [wB_3, wB_3, up1_app, up1_app]
  have hv : ∀ i, (wA (wA (wI τ 944 0 (nI 0)) 930 0 (6 * f9 + 4) t) 930 0 (6 * f9 + 5) n).2.2.1 930 0 i = if i = 6 * f9 + 5 then n else if i = 6 * f9 + 4 then t else τ.2.2.1 930 0 i := fun i => by rw [wA_3, wA_3, up1_app, up1_app]; rfl
  obtain ⟨σ', h1, h2⟩ := oq_allow (D := D) (cI := cI) (cZ := cZ) (cO := cO) (t0 := t0) (mi := mi) hl9 hR (nI 0) (nI f9) (nI t) (nI n) (by rw [e]; exact t944 (τ := τ))
  rw [e] at h1 h2
  have e9 : nI (τ.2.2.1 930 0 (6 * f9 + 3) + t) = ρ.2.2.2 903 0 (16 + 6 * f9 + 3) + nI t := by rw [(hF.2.2 f9 hf).1 3 (by decide), nI_add]
  rw [e9] at h1
  have hF' : JF (wB (wB ρ 903 0 (16 + 6 * f9 + 4) (nI t)) 903 0 (16 + 6 * f9 + 5) (nI n)) (wA (wA (wI τ 944 0 (nI 0)) 930 0 (6 * f9 + 4) t) 930 0 (6 * f9 + 5) n) := by
    refine ⟨hF.1, by rw [f.2.2.1 931 (by decide)]; exact hF.2.1, fun k hk => ?_⟩
    obtain ⟨b1, b2, b3, b4, b5, b6, b7⟩ := hF.2.2 k hk
    refine ⟨fun j hj => ?_, ?_, ?_, ?_, ?_, ?_, ?_⟩
    · rw [hu, hv]
      by_cases c5 : 6 * k + j = 6 * f9 + 5
      · rw [if_pos (by omega), if_pos c5]
      · rw [if_neg (by omega), if_neg c5]
        by_cases c4 : 6 * k + j = 6 * f9 + 4
        · rw [if_pos (by omega), if_pos c4]
        · rw [if_neg (by omega), if_neg c4]
          exact b1 j hj
    · rw [hv, if_neg (by omega), if_neg (by omega)]; exact b2
    · rw [hv, if_neg (by omega), if_neg (by omega)]; exact b3
    · rw [hv, if_neg (by omega), if_neg (by omega)]; exact b4
    · rw [hv, if_neg (by omega), if_neg (by omega)]; exact b5
    · rw [hv, if_neg (by omega)]
      split
      · omega
      · exact b6
    · rw [hv]
      split
      · omega
      · rw [if_neg (by omega)]; exact b7
  exact ⟨σ', _, h1, h2, ⟨hN, hP.fr f (hr 901 (by decide)), hA.fr f (fun p _ => rfl), hT.fr f (by rw [hr 902 (by decide)]), hM.fr f (fun i i1 i2 i3 => by rw [hu, if_neg (by omega), if_neg (by omega)]), hQ.fr f (by rw [hr 905 (by decide)]), hG.fr f ⟨by rw [hu, if_neg (by omega), if_neg (by omega)], by rw [hu, if_neg (by omega), if_neg (by omega)]⟩, hF', hW.fr f (fun i _ _ => by rw [hu, if_neg (by omega), if_neg (by omega)]), hC.fr f (fun p _ => rfl)⟩⟩
set_option maxHeartbeats 400000 in
theorem Q_idle (hl9 : l.stackTraces = false) (hR : Rl wr0 σ τ) (hJ : JJ K ρ τ) {n : Nat} (h0 : 1 ≤ n) (hn : n ≤ 500) (hK : K ≤ 900000) : ∃ σ' τ', (∀ (L : Lay) (ow : Nat → Prop), YI D cI cZ cO t0 mi l yX8_idle cX8_idle 2 (some FieldType.int) 6 90 1 6 [.ref (L 899 0), .int (nI n)] L σ ow 0 (ρ.2.2.2 903 0 0 + nI n) σ') ∧ Rl wr0 σ' τ' ∧ JJ (K + 500) (wB (wB ρ 903 0 0 (ρ.2.2.2 903 0 0 + nI n)) 903 0 1 (if ρ.2.2.2 903 0 1 < nI n then nI 0 else ρ.2.2.2 903 0 1 - nI n)) τ' := by
  obtain ⟨hN, hP, hA, hT, hM, hQ, hG, hF, hW, hC⟩ := hJ
  have u0 := (hT.1.2 0 (by decide)).2.2.2.2.2.2
  have u1 := (hT.1.2 1 (by decide)).2.2.2.2.2.2
  have u2 := (hT.1.2 2 (by decide)).2.2.2.2.2.2
  have u3 := (hT.1.2 3 (by decide)).2.2.2.2.2.2
  obtain ⟨m0, ⟨m1, m1b⟩, m2, m3⟩ := hM
  have hi : (nI n).toInt = (n : Int) := iz (by omega)
  have g : (1 ≤ (nI n).toInt ∧ (nI n).toInt ≤ 500) ∧ ((1 ≤ (nI n).toInt ∧ (nI n).toInt ≤ 500) ∧ τ.1 900 0 + tn (nI n) ≤ 1000000) ∧ True := ⟨by rw [hi]; omega, ⟨by rw [hi]; omega, by rw [tz (by omega)]; omega⟩, trivial⟩
  have e : m_idle (nI n) τ = (nI (τ.1 900 0 + n), wN (wN (wI τ 944 0 (nI 0)) 900 0 (τ.1 900 0 + n)) 901 0 (if τ.1 901 0 ≤ n then 0 else τ.1 901 0 - n)) := by
    unfold m_idle
    rw [mg_0 g, if_pos g, tz (by omega : n < 1000)]
  have f : FRm [900, 901] [944] [] [] τ (wN (wN (wI τ 944 0 (nI 0)) 900 0 (τ.1 900 0 + n)) 901 0 (if τ.1 901 0 ≤ n then 0 else τ.1 901 0 - n)) := FRm.N (FRm.N fr944 (by decide)) (by decide)
  have e0 : (wN (wN (wI τ 944 0 (nI 0)) 900 0 (τ.1 900 0 + n)) 901 0 (if τ.1 901 0 ≤ n then 0 else τ.1 901 0 - n)).1 900 0 = τ.1 900 0 + n := by
    rw [wN_o (by decide)]
    exact (show up2 τ.1 900 0 (τ.1 900 0 + n) 900 0 = _ from up2_s)
  have e1 : (wN (wN (wI τ 944 0 (nI 0)) 900 0 (τ.1 900 0 + n)) 901 0 (if τ.1 901 0 ≤ n then 0 else τ.1 901 0 - n)).1 901 0 = (if τ.1 901 0 ≤ n then 0 else τ.1 901 0 - n) :=
    (show up2 (wN (wI τ 944 0 (nI 0)) 900 0 (τ.1 900 0 + n)).1 901 0 (if τ.1 901 0 ≤ n then 0 else τ.1 901 0 - n) 901 0 = _ from up2_s)
  have hr : ∀ F, F ≠ 903 → (wB (wB ρ 903 0 0 (ρ.2.2.2 903 0 0 + nI n)) 903 0 1 (if ρ.2.2.2 903 0 1 < nI n then nI 0 else ρ.2.2.2 903 0 1 - nI n)).2.2.2 F = ρ.2.2.2 F := fun F z => by rw [wB_o z, wB_o z]
  have hu : ∀ i, 2 ≤ i → (wB (wB ρ 903 0 0 (ρ.2.2.2 903 0 0 + nI n)) 903 0 1 (if ρ.2.2.2 903 0 1 < nI n then nI 0 else ρ.2.2.2 903 0 1 - nI n)).2.2.2 903 0 i = ρ.2.2.2 903 0 i := fun i hi => by rw [e_ne (by omega), e_ne (by omega)]
  have r0 : (wB (wB ρ 903 0 0 (ρ.2.2.2 903 0 0 + nI n)) 903 0 1 (if ρ.2.2.2 903 0 1 < nI n then nI 0 else ρ.2.2.2 903 0 1 - nI n)).2.2.2 903 0 0 = ρ.2.2.2 903 0 0 + nI n := by rw [e_ne (by decide), wB_3, up1_s]
  have r1 : (wB (wB ρ 903 0 0 (ρ.2.2.2 903 0 0 + nI n)) 903 0 1 (if ρ.2.2.2 903 0 1 < nI n then nI 0 else ρ.2.2.2 903 0 1 - nI n)).2.2.2 903 0 1 = (if ρ.2.2.2 903 0 1 < nI n then nI 0 else ρ.2.2.2 903 0 1 - nI n) := by rw [wB_3, up1_s]
  obtain ⟨σ', h1, h2⟩ := oq_idle (D := D) (cI := cI) (cZ := cZ) (cO := cO) (t0 := t0) (mi := mi) hl9 hR (nI n) (by rw [e]; exact t944 (τ := τ))
  rw [e] at h1 h2
  have e9 : nI (τ.1 900 0 + n) = ρ.2.2.2 903 0 0 + nI n := by rw [m0, nI_add]
  rw [e9] at h1
  have hM' : JM (K + 500) (wB (wB ρ 903 0 0 (ρ.2.2.2 903 0 0 + nI n)) 903 0 1 (if ρ.2.2.2 903 0 1 < nI n then nI 0 else ρ.2.2.2 903 0 1 - nI n)) (wN (wN (wI τ 944 0 (nI 0)) 900 0 (τ.1 900 0 + n)) 901 0 (if τ.1 901 0 ≤ n then 0 else τ.1 901 0 - n)) := by
    refine ⟨by rw [r0, e0, e9], ⟨?_, ?_⟩, fun x hx => by rw [hu _ (by omega)]; exact m2 x hx, ?_⟩
    · rw [r1, e1, m1]
      by_cases c : τ.1 901 0 ≤ n
      · rw [if_pos c]
        by_cases c2 : τ.1 901 0 < n
        · rw [if_pos ((nlt (by omega) (by omega)).mpr c2)]
        · rw [if_neg (fun z => c2 ((nlt (by omega) (by omega)).mp z)), show τ.1 901 0 = n by omega]
          exact Int32.sub_self _
      · rw [if_neg c, if_neg (fun z => c (Nat.le_of_lt ((nlt (by omega) (by omega)).mp z)))]
        exact pk_sub (by omega)
    · rw [e1]; split <;> omega
    · rw [e0]
      show τ.1 900 0 + n ≤ K + 500 + (τ.2.2.1 908 0 0 + τ.2.2.1 908 0 1 + τ.2.2.1 908 0 2 + τ.2.2.1 908 0 3)
      omega
  exact ⟨σ', _, h1, h2, ⟨hN, hP.fr f (hr 901 (by decide)), hA.fr f (fun p _ => rfl), hT.fr f (by rw [hr 902 (by decide)]), hM', hQ.fr f (by rw [hr 905 (by decide)]), hG.fr f ⟨hu 2 (by omega), hu 3 (by omega)⟩, hF.fr f (fun i _ _ => hu i (by omega)), hW.fr f (fun i _ _ => hu i (by omega)), hC.fr f (fun p _ => rfl)⟩⟩
end QCH
