/-- only fields of these lists have changed -/
def FRm (lN lI lA lB : List Nat) (σ σ' : St) : Prop := (∀ F, F ∉ lN → σ'.1 F = σ.1 F) ∧ (∀ F, F ∉ lI → σ'.2.1 F = σ.2.1 F) ∧ (∀ F, F ∉ lA → σ'.2.2.1 F = σ.2.2.1 F) ∧ ∀ F, F ∉ lB → σ'.2.2.2 F = σ.2.2.2 F
section FRM
variable {lN lI lA lB : List Nat} {σ σ' σ2 : St}
theorem FRm.rf : FRm lN lI lA lB σ σ := ⟨fun _ _ => rfl, fun _ _ => rfl, fun _ _ => rfl, fun _ _ => rfl⟩
theorem FRm.tr (h : FRm lN lI lA lB σ σ') (h2 : FRm lN lI lA lB σ' σ2) : FRm lN lI lA lB σ σ2 := ⟨fun F z => (h2.1 F z).trans (h.1 F z), fun F z => (h2.2.1 F z).trans (h.2.1 F z), fun F z => (h2.2.2.1 F z).trans (h.2.2.1 F z), fun F z => (h2.2.2.2 F z).trans (h.2.2.2 F z)⟩
theorem FRm.N (h : FRm lN lI lA lB σ σ') {F k v : Nat} (hF : F ∈ lN) : FRm lN lI lA lB σ (wN σ' F k v) := ⟨fun G z => (if_neg (fun e : G = F => z (by rw [e]; exact hF))).trans (h.1 G z), h.2.1, h.2.2.1, h.2.2.2⟩
theorem FRm.I (h : FRm lN lI lA lB σ σ') {F k : Nat} {v : Int32} (hF : F ∈ lI) : FRm lN lI lA lB σ (wI σ' F k v) := ⟨h.1, fun G z => (if_neg (fun e : G = F => z (by rw [e]; exact hF))).trans (h.2.1 G z), h.2.2.1, h.2.2.2⟩
theorem FRm.A (h : FRm lN lI lA lB σ σ') {F k i v : Nat} (hF : F ∈ lA) : FRm lN lI lA lB σ (wA σ' F k i v) := ⟨h.1, h.2.1, fun G z => (if_neg (fun e : G = F => z (by rw [e]; exact hF))).trans (h.2.2.1 G z), h.2.2.2⟩
theorem FRm.B (h : FRm lN lI lA lB σ σ') {F k i : Nat} {v : Int32} (hF : F ∈ lB) : FRm lN lI lA lB σ (wB σ' F k i v) := ⟨h.1, h.2.1, h.2.2.1, fun G z => (if_neg (fun e : G = F => z (by rw [e]; exact hF))).trans (h.2.2.2 G z)⟩
end FRM
abbrev FR0 (σ σ' : St) : Prop := FRm [943] [940, 941, 942] [936, 937, 938, 939] [935] σ σ'
theorem FR_step0 (p fr : Nat) (σ : St) : FR0 σ (m_step0 p fr σ).2 := by
  unfold m_step0
  repeat' split
  all_goals (repeat' first | exact FRm.rf | refine FRm.N ?_ (by decide) | refine FRm.I ?_ (by decide) | refine FRm.A ?_ (by decide) | refine FRm.B ?_ (by decide))
theorem FR_mv0 (p fr a to : Nat) : ∀ (f : Nat) (σ : St), FR0 σ (m_mv0 p fr a to f σ).2
  | 0, σ => FRm.rf
  | f + 1, σ => by
    have h1 := (FRm.A (σ := σ) (FRm.rf (lN := [943]) (lI := [940, 941, 942]) (lA := [936, 937, 938, 939]) (lB := [935])) (F := 937) (k := 0) (i := a) (v := m_nx (σ.2.2.1 937 0 a) to) (by decide)).tr (FR_step0 p fr _)
    unfold m_mv0
    split
    · exact h1.tr (FR_mv0 p fr a to f _)
    · exact h1
theorem FR_sets0 (w v : Int32) (σ : St) : FR0 σ (m_sets w v σ).2 := by
  have key : FR0 σ (wI (wI (wI σ 940 0 (if ¬ w = 0 then σ.2.1 940 0 else v)) 941 0 (if ¬ w = nI 1 then σ.2.1 941 0 else v)) 942 0 (if ¬ w = nI 5 then σ.2.1 942 0 else v)) := FRm.I (FRm.I (FRm.I FRm.rf (by decide)) (by decide)) (by decide)
  unfold m_sets
  generalize wI (wI (wI σ 940 0 (if ¬ w = 0 then σ.2.1 940 0 else v)) 941 0 (if ¬ w = nI 1 then σ.2.1 941 0 else v)) 942 0 (if ¬ w = nI 5 then σ.2.1 942 0 else v) = X at key ⊢
  repeat' split
  all_goals first | exact key | exact FRm.rf
theorem FR_blk0 (p fr : Nat) (w v : Int32) (σ : St) : FR0 σ (m_blk0 p fr w v σ).2 := by
  unfold m_blk0
  split
  · unfold m_moves0
    split
    · exact FR_mv0 _ _ _ _ _ _
    · exact FRm.rf
  · exact FR_sets0 w v σ
theorem FR_rl0 (p fr : Nat) : ∀ (f d m : Nat) (σ : St), FR0 σ (m_rl0 p fr f d m σ).2
  | 0, _, _, σ => FRm.rf
  | f + 1, d, m, σ => by
    have ha : FR0 σ (m_adv d σ) := FRm.A FRm.rf (by decide)
    have h1 := ha.tr (FR_blk0 p fr (m_w d σ) (m_v d σ) (m_adv d σ))
    have h2 : FR0 σ (m_call d (m_v d σ) σ) := FRm.A (FRm.A ha (by decide)) (by decide)
    unfold m_rl0
    split
    · exact FRm.rf
    · split
      · exact FR_rl0 p fr f _ _ _
      · split
        · exact FRm.rf
        · split
          · exact h2.tr (FR_rl0 p fr f _ _ _)
          · split
            · exact h1.tr (FR_rl0 p fr f _ _ _)
            · exact h1
theorem FR_cp0 (p : Nat) (σ : St) : ∀ n, FR0 σ (m_cp p n σ)
  | 0 => FRm.rf
  | n + 1 => FRm.B (FR_cp0 p σ n) (by decide)
theorem FR_runs0 (p pr fr : Nat) (σ : St) : FR0 σ (m_runs0 p pr fr σ).2 := by
  have h1 : FR0 σ (m_ini p pr σ) := by
    unfold m_ini
    have h0 := FR_cp0 p σ 144
    generalize m_cp p 144 σ = X at h0 ⊢
    unfold m_ini0
    repeat' first | exact h0 | refine FRm.N ?_ (by decide) | refine FRm.I ?_ (by decide) | refine FRm.A ?_ (by decide) | refine FRm.B ?_ (by decide)
  exact h1.tr (FR_rl0 p fr _ _ _ _)
theorem rl_all0 {p pr fr : Nat} (hp6 : pr < 6) : ∀ (f d m : Nat) (σ : St), 2 * (601 - m) + d + 1 ≤ f → SI σ → PI σ → SK d pr σ → m ≤ 600 → σ.1 943 0 ≤ 11 * m → pr < σ.1 904 0 → SI (m_rl0 p fr f d m σ).2 ∧ (m_rl0 p fr f d m σ).2.1 943 0 ≤ 6611
  | 0, d, m, σ, hf, _, _, _, _, _, _ => absurd hf (by omega)
  | f + 1, d, m, σ, hf, hs, hP, hk, hm, hst, hprs => by
    unfold m_rl0
    split
    · exact ⟨hs, by show σ.1 943 0 ≤ 6611; omega⟩
    · rename_i c0
      have hd : 0 < d := Nat.pos_of_ne_zero c0
      split
      · exact rl_all0 hp6 f (d - 1) m σ (by omega) hs hP (SK_pop hk) hm hst hprs
      · rename_i c1
        have hbl := sk_bl hd hprs hk hP c1
        split
        · exact ⟨hs, by show σ.1 943 0 ≤ 6611; omega⟩
        · split
          · rename_i c2
            exact rl_all0 hp6 f (d + 1) (m + 1) _ (by omega) (SI_call hs) (PI_call hP) (SK_call hd hp6 hk c1 (hbl.1 c2)) (by omega) (by show σ.1 943 0 ≤ 11 * (m + 1); omega) hprs
          · have hba := blk_all0 (p := p) (fr := fr) (w := m_w d σ) (v := m_v d σ) (SI_adv (d := d) hs) hbl.2
            have h7 : (m_adv d σ).1 943 0 = σ.1 943 0 := rfl
            have h8 := hba.2.2
            split
            · exact rl_all0 hp6 f d (m + 1) _ (by omega) hba.2.1 ((PI_adv hP).sp hba.1) ((SK_adv hd hk c1).sp hba.1) (by omega) (by omega) (by rw [hba.1.2.2.2.2]; exact hprs)
            · exact ⟨hba.2.1, by omega⟩
theorem runs_all0 {p pr fr : Nat} {σ : St} (hs : SI σ) (hP : PI σ) (hpr : pr < σ.1 904 0) : SI (m_runs0 p pr fr σ).2 ∧ (m_runs0 p pr fr σ).2.1 943 0 ≤ 6611 :=
  rl_all0 (by have := hP.1; omega) _ _ _ _ (by decide) (SI_ini hs) (PI_ini hP) SK_ini (by decide) (Nat.zero_le _) (by rw [ini_904]; exact hpr)
theorem PI_runs0 {p pr fr : Nat} {σ : St} (hP : PI σ) : PI (m_runs0 p pr fr σ).2 := by
  have h := FR_runs0 p pr fr σ
  unfold PI at hP ⊢
  rw [h.1 904 (by decide), h.2.2.1 903 (by decide), h.2.2.2 902 (by decide)]
  exact hP
abbrev FR1 (σ σ' : St) : Prop := FRm [943] [940, 941, 942] [936, 937, 938, 939, 909] [935] σ σ'
theorem FR_step1 (p fr : Nat) (σ : St) : FR1 σ (m_step1 p fr σ).2 := by
  unfold m_step1
  repeat' split
  all_goals (repeat' first | exact FRm.rf | refine FRm.N ?_ (by decide) | refine FRm.I ?_ (by decide) | refine FRm.A ?_ (by decide) | refine FRm.B ?_ (by decide))
theorem FR_mv1 (p fr a to : Nat) : ∀ (f : Nat) (σ : St), FR1 σ (m_mv1 p fr a to f σ).2
  | 0, σ => FRm.rf
  | f + 1, σ => by
    have h1 := (FRm.A (σ := σ) (FRm.rf (lN := [943]) (lI := [940, 941, 942]) (lA := [936, 937, 938, 939, 909]) (lB := [935])) (F := 937) (k := 0) (i := a) (v := m_nx (σ.2.2.1 937 0 a) to) (by decide)).tr (FR_step1 p fr _)
    unfold m_mv1
    split
    · exact h1.tr (FR_mv1 p fr a to f _)
    · exact h1
theorem FR_sets1 (w v : Int32) (σ : St) : FR1 σ (m_sets w v σ).2 := by
  have key : FR1 σ (wI (wI (wI σ 940 0 (if ¬ w = 0 then σ.2.1 940 0 else v)) 941 0 (if ¬ w = nI 1 then σ.2.1 941 0 else v)) 942 0 (if ¬ w = nI 5 then σ.2.1 942 0 else v)) := FRm.I (FRm.I (FRm.I FRm.rf (by decide)) (by decide)) (by decide)
  unfold m_sets
  generalize wI (wI (wI σ 940 0 (if ¬ w = 0 then σ.2.1 940 0 else v)) 941 0 (if ¬ w = nI 1 then σ.2.1 941 0 else v)) 942 0 (if ¬ w = nI 5 then σ.2.1 942 0 else v) = X at key ⊢
  repeat' split
  all_goals first | exact key | exact FRm.rf
theorem FR_blk1 (p fr : Nat) (w v : Int32) (σ : St) : FR1 σ (m_blk1 p fr w v σ).2 := by
  unfold m_blk1
  split
  · unfold m_moves1
    split
    · exact FR_mv1 _ _ _ _ _ _
    · exact FRm.rf
  · exact FR_sets1 w v σ
theorem FR_rl1 (p fr : Nat) : ∀ (f d m : Nat) (σ : St), FR1 σ (m_rl1 p fr f d m σ).2
  | 0, _, _, σ => FRm.rf
  | f + 1, d, m, σ => by
    have ha : FR1 σ (m_adv d σ) := FRm.A FRm.rf (by decide)
    have h1 := ha.tr (FR_blk1 p fr (m_w d σ) (m_v d σ) (m_adv d σ))
    have h2 : FR1 σ (m_call d (m_v d σ) σ) := FRm.A (FRm.A ha (by decide)) (by decide)
    unfold m_rl1
    split
    · exact FRm.rf
    · split
      · exact FR_rl1 p fr f _ _ _
      · split
        · exact FRm.rf
        · split
          · exact h2.tr (FR_rl1 p fr f _ _ _)
          · split
            · exact h1.tr (FR_rl1 p fr f _ _ _)
            · exact h1
theorem FR_cp1 (p : Nat) (σ : St) : ∀ n, FR1 σ (m_cp p n σ)
  | 0 => FRm.rf
  | n + 1 => FRm.B (FR_cp1 p σ n) (by decide)
theorem FR_runs1 (p pr fr : Nat) (σ : St) : FR1 σ (m_runs1 p pr fr σ).2 := by
  have h1 : FR1 σ (m_ini p pr σ) := by
    unfold m_ini
    have h0 := FR_cp1 p σ 144
    generalize m_cp p 144 σ = X at h0 ⊢
    unfold m_ini0
    repeat' first | exact h0 | refine FRm.N ?_ (by decide) | refine FRm.I ?_ (by decide) | refine FRm.A ?_ (by decide) | refine FRm.B ?_ (by decide)
  exact h1.tr (FR_rl1 p fr _ _ _ _)
theorem rl_all1 {p pr fr : Nat} (hp6 : pr < 6) : ∀ (f d m : Nat) (σ : St), 2 * (601 - m) + d + 1 ≤ f → SI σ → PI σ → SK d pr σ → m ≤ 600 → σ.1 943 0 ≤ 11 * m → pr < σ.1 904 0 → SI (m_rl1 p fr f d m σ).2 ∧ (m_rl1 p fr f d m σ).2.1 943 0 ≤ 6611
  | 0, d, m, σ, hf, _, _, _, _, _, _ => absurd hf (by omega)
  | f + 1, d, m, σ, hf, hs, hP, hk, hm, hst, hprs => by
    unfold m_rl1
    split
    · exact ⟨hs, by show σ.1 943 0 ≤ 6611; omega⟩
    · rename_i c0
      have hd : 0 < d := Nat.pos_of_ne_zero c0
      split
      · exact rl_all1 hp6 f (d - 1) m σ (by omega) hs hP (SK_pop hk) hm hst hprs
      · rename_i c1
        have hbl := sk_bl hd hprs hk hP c1
        split
        · exact ⟨hs, by show σ.1 943 0 ≤ 6611; omega⟩
        · split
          · rename_i c2
            exact rl_all1 hp6 f (d + 1) (m + 1) _ (by omega) (SI_call hs) (PI_call hP) (SK_call hd hp6 hk c1 (hbl.1 c2)) (by omega) (by show σ.1 943 0 ≤ 11 * (m + 1); omega) hprs
          · have hba := blk_all1 (p := p) (fr := fr) (w := m_w d σ) (v := m_v d σ) (SI_adv (d := d) hs) hbl.2
            have h7 : (m_adv d σ).1 943 0 = σ.1 943 0 := rfl
            have h8 := hba.2.2
            split
            · exact rl_all1 hp6 f d (m + 1) _ (by omega) hba.2.1 ((PI_adv hP).sp hba.1) ((SK_adv hd hk c1).sp hba.1) (by omega) (by omega) (by rw [hba.1.2.2.2.2]; exact hprs)
            · exact ⟨hba.2.1, by omega⟩
theorem runs_all1 {p pr fr : Nat} {σ : St} (hs : SI σ) (hP : PI σ) (hpr : pr < σ.1 904 0) : SI (m_runs1 p pr fr σ).2 ∧ (m_runs1 p pr fr σ).2.1 943 0 ≤ 6611 :=
  rl_all1 (by have := hP.1; omega) _ _ _ _ (by decide) (SI_ini hs) (PI_ini hP) SK_ini (by decide) (Nat.zero_le _) (by rw [ini_904]; exact hpr)
theorem PI_runs1 {p pr fr : Nat} {σ : St} (hP : PI σ) : PI (m_runs1 p pr fr σ).2 := by
  have h := FR_runs1 p pr fr σ
  unfold PI at hP ⊢
  rw [h.1 904 (by decide), h.2.2.1 903 (by decide), h.2.2.2 902 (by decide)]
  exact hP
abbrev FR2 (σ σ' : St) : Prop := FRm [943, 900, 901] [940, 941, 942] [936, 937, 938, 939, 908] [935, 917, 918] σ σ'
theorem FR_step2 (p fr : Nat) (σ : St) : FR2 σ (m_step2 p fr σ).2 := by
  unfold m_step2 m_cutsIn
  repeat' split
  all_goals (repeat' first | exact FRm.rf | refine FRm.N ?_ (by decide) | refine FRm.I ?_ (by decide) | refine FRm.A ?_ (by decide) | refine FRm.B ?_ (by decide))
theorem FR_mv2 (p fr a to : Nat) : ∀ (f : Nat) (σ : St), FR2 σ (m_mv2 p fr a to f σ).2
  | 0, σ => FRm.rf
  | f + 1, σ => by
    have h1 := (FRm.A (σ := σ) (FRm.rf (lN := [943, 900, 901]) (lI := [940, 941, 942]) (lA := [936, 937, 938, 939, 908]) (lB := [935, 917, 918])) (F := 937) (k := 0) (i := a) (v := m_nx (σ.2.2.1 937 0 a) to) (by decide)).tr (FR_step2 p fr _)
    unfold m_mv2
    split
    · exact h1.tr (FR_mv2 p fr a to f _)
    · exact h1
theorem FR_sets2 (w v : Int32) (σ : St) : FR2 σ (m_sets w v σ).2 := by
  have key : FR2 σ (wI (wI (wI σ 940 0 (if ¬ w = 0 then σ.2.1 940 0 else v)) 941 0 (if ¬ w = nI 1 then σ.2.1 941 0 else v)) 942 0 (if ¬ w = nI 5 then σ.2.1 942 0 else v)) := FRm.I (FRm.I (FRm.I FRm.rf (by decide)) (by decide)) (by decide)
  unfold m_sets
  generalize wI (wI (wI σ 940 0 (if ¬ w = 0 then σ.2.1 940 0 else v)) 941 0 (if ¬ w = nI 1 then σ.2.1 941 0 else v)) 942 0 (if ¬ w = nI 5 then σ.2.1 942 0 else v) = X at key ⊢
  repeat' split
  all_goals first | exact key | exact FRm.rf
theorem FR_blk2 (p fr : Nat) (w v : Int32) (σ : St) : FR2 σ (m_blk2 p fr w v σ).2 := by
  unfold m_blk2
  split
  · unfold m_moves2
    split
    · exact FR_mv2 _ _ _ _ _ _
    · exact FRm.rf
  · exact FR_sets2 w v σ
theorem FR_rl2 (p fr : Nat) : ∀ (f d m : Nat) (σ : St), FR2 σ (m_rl2 p fr f d m σ).2
  | 0, _, _, σ => FRm.rf
  | f + 1, d, m, σ => by
    have ha : FR2 σ (m_adv d σ) := FRm.A FRm.rf (by decide)
    have h1 := ha.tr (FR_blk2 p fr (m_w d σ) (m_v d σ) (m_adv d σ))
    have h2 : FR2 σ (m_call d (m_v d σ) σ) := FRm.A (FRm.A ha (by decide)) (by decide)
    unfold m_rl2
    split
    · exact FRm.rf
    · split
      · exact FR_rl2 p fr f _ _ _
      · split
        · exact FRm.rf
        · split
          · exact h2.tr (FR_rl2 p fr f _ _ _)
          · split
            · exact h1.tr (FR_rl2 p fr f _ _ _)
            · exact h1
theorem FR_cp2 (p : Nat) (σ : St) : ∀ n, FR2 σ (m_cp p n σ)
  | 0 => FRm.rf
  | n + 1 => FRm.B (FR_cp2 p σ n) (by decide)
theorem FR_runs2 (p pr fr : Nat) (σ : St) : FR2 σ (m_runs2 p pr fr σ).2 := by
  have h1 : FR2 σ (m_ini p pr σ) := by
    unfold m_ini
    have h0 := FR_cp2 p σ 144
    generalize m_cp p 144 σ = X at h0 ⊢
    unfold m_ini0
    repeat' first | exact h0 | refine FRm.N ?_ (by decide) | refine FRm.I ?_ (by decide) | refine FRm.A ?_ (by decide) | refine FRm.B ?_ (by decide)
  exact h1.tr (FR_rl2 p fr _ _ _ _)
theorem rl_all2 {p pr fr : Nat} (hp6 : pr < 6) : ∀ (f d m : Nat) (σ : St), 2 * (601 - m) + d + 1 ≤ f → SI σ → PI σ → SK d pr σ → m ≤ 600 → σ.1 943 0 ≤ 11 * m → pr < σ.1 904 0 → SI (m_rl2 p fr f d m σ).2 ∧ (m_rl2 p fr f d m σ).2.1 943 0 ≤ 6611
  | 0, d, m, σ, hf, _, _, _, _, _, _ => absurd hf (by omega)
  | f + 1, d, m, σ, hf, hs, hP, hk, hm, hst, hprs => by
    unfold m_rl2
    split
    · exact ⟨hs, by show σ.1 943 0 ≤ 6611; omega⟩
    · rename_i c0
      have hd : 0 < d := Nat.pos_of_ne_zero c0
      split
      · exact rl_all2 hp6 f (d - 1) m σ (by omega) hs hP (SK_pop hk) hm hst hprs
      · rename_i c1
        have hbl := sk_bl hd hprs hk hP c1
        split
        · exact ⟨hs, by show σ.1 943 0 ≤ 6611; omega⟩
        · split
          · rename_i c2
            exact rl_all2 hp6 f (d + 1) (m + 1) _ (by omega) (SI_call hs) (PI_call hP) (SK_call hd hp6 hk c1 (hbl.1 c2)) (by omega) (by show σ.1 943 0 ≤ 11 * (m + 1); omega) hprs
          · have hba := blk_all2 (p := p) (fr := fr) (w := m_w d σ) (v := m_v d σ) (SI_adv (d := d) hs) hbl.2
            have h7 : (m_adv d σ).1 943 0 = σ.1 943 0 := rfl
            have h8 := hba.2.2
            split
            · exact rl_all2 hp6 f d (m + 1) _ (by omega) hba.2.1 ((PI_adv hP).sp hba.1) ((SK_adv hd hk c1).sp hba.1) (by omega) (by omega) (by rw [hba.1.2.2.2.2]; exact hprs)
            · exact ⟨hba.2.1, by omega⟩
theorem runs_all2 {p pr fr : Nat} {σ : St} (hs : SI σ) (hP : PI σ) (hpr : pr < σ.1 904 0) : SI (m_runs2 p pr fr σ).2 ∧ (m_runs2 p pr fr σ).2.1 943 0 ≤ 6611 :=
  rl_all2 (by have := hP.1; omega) _ _ _ _ (by decide) (SI_ini hs) (PI_ini hP) SK_ini (by decide) (Nat.zero_le _) (by rw [ini_904]; exact hpr)
theorem PI_runs2 {p pr fr : Nat} {σ : St} (hP : PI σ) : PI (m_runs2 p pr fr σ).2 := by
  have h := FR_runs2 p pr fr σ
  unfold PI at hP ⊢
  rw [h.1 904 (by decide), h.2.2.1 903 (by decide), h.2.2.2 902 (by decide)]
  exact hP
theorem SI_mg {P1 P2 P3 : Prop} [Decidable P1] [Decidable P2] [Decidable P3] {σ : St} (h : SI σ) : SI (m_g P1 P2 P3 σ) := h
theorem PI_mg {P1 P2 P3 : Prop} [Decidable P1] [Decidable P2] [Decidable P3] {σ : St} (h : PI σ) : PI (m_g P1 P2 P3 σ) := h
def m_prove (p9 q9 : Int32) (σ : St) : Int32 × St := if (ix p9 (σ.1 924 0) ∧ ix q9 (σ.1 904 0)) ∧ (True) ∧ (True) then (if ¬ ((m_runs0 (tn p9) (tn q9) 0 (m_g (ix p9 (σ.1 924 0) ∧ ix q9 (σ.1 904 0)) (True) (True) σ)).1) = 0 then ((((nI 10000) * ((m_runs0 (tn p9) (tn q9) 0 (m_g (ix p9 (σ.1 924 0) ∧ ix q9 (σ.1 904 0)) (True) (True) σ)).1)) + (nI (((m_runs0 (tn p9) (tn q9) 0 (m_g (ix p9 (σ.1 924 0) ∧ ix q9 (σ.1 904 0)) (True) (True) σ)).2).1 943 0))), (m_runs0 (tn p9) (tn q9) 0 (m_g (ix p9 (σ.1 924 0) ∧ ix q9 (σ.1 904 0)) (True) (True) σ)).2) else ((-1), (m_runs0 (tn p9) (tn q9) 0 (m_g (ix p9 (σ.1 924 0) ∧ ix q9 (σ.1 904 0)) (True) (True) σ)).2)) else (nI 0, (m_g (ix p9 (σ.1 924 0) ∧ ix q9 (σ.1 904 0)) (True) (True) σ))
set_option maxRecDepth 100000 in
set_option maxHeartbeats 4000000 in
theorem c_X9_prove {D : va_G} {cI cZ cO : ClassId} (l : Launch) (L : Lay) (σ : St) (ow : Nat → Prop) (p9 q9 : Int32) (hP6 : σ.1 924 0 ≤ 6) (hs0 : SI σ) (hP0 : PI σ) : RM D cI cZ cO rdom l yX9_prove cX9_prove 4 ((some FieldType.int)) 4 109 [.ref (L 999 0), .int p9, .int q9] L σ ow ((m_prove p9 q9 σ).1) ((m_prove p9 q9 σ).2) := by
  refine rm_of rfl (Nat.le_of_ble_eq_true rfl) ?_
  intro p e s m below meth c ls X hK hG hr hlocks hl
  have X : CallFix p m c cX9_prove 4 s _ TB RX9 := X
  have hx := X.1
  have hb := X.2.1
  have hS : va_S (AA ow s.heap.size) s.heap s.heap [] := va_S.rf
  have hA : ∀ q, ow q → AA ow s.heap.size q := fun _ h => Or.inl h
  have hl : lv_has ls 4 [(0, .ref (L 999 0)), (1, .int p9), (2, .int q9)] := hl
  refine lv_aload_n hx hb dX9_prove_0 rfl (lv_at hl 0 rfl) ?_
  refine r_cutH 22 [.int (b2i (ix p9 (σ.1 924 0) ∧ ix q9 (σ.1 904 0))), .ref (L 999 0)] hG hS (fun H locs hG hS => ?_) (fun J_22 => ?_)
  · refine lv_iconst (v := nI 1) hx hb dX9_prove_22 (by decide) ?_
    refine lv_iconst (v := nI 1) hx hb dX9_prove_23 (by decide) ?_
    refine rm_callV X hK hG hS yvX9_goes ml_X9_127 kX9 rfl rd_999 [.int (b2i (ix p9 (σ.1 924 0) ∧ ix q9 (σ.1 904 0))), .int (nI 1), .int (nI 1)] [] (c_X9_goes l L σ ow (ix p9 (σ.1 924 0) ∧ ix q9 (σ.1 904 0)) (True) (True)) rfl hl.1 rfl (Nat.le_of_ble_eq_true rfl) ⟨Nat.le_of_ble_eq_true rfl, Nat.le_of_ble_eq_true rfl⟩ ⟨Nat.zero_le _, Nat.zero_le _⟩ dX9_prove_24 (fun H locs hG hS => ?_)
    refine r_if_neB (tgt := 32) hx hb dX9_prove_27 (by decide) (fun c_27 => ?_) (fun c_27 => ?_)
    · refine lv_aload_n hx hb dX9_prove_32 rfl (lv_at hl 0 rfl) ?_
      refine lv_iload_n hx hb dX9_prove_33 rfl (lv_at hl 1 rfl) ?_
      refine r_top (y := nI (tn p9)) (ix_eq c_27.1.1) ?_
      refine lv_iload_n hx hb dX9_prove_34 rfl (lv_at hl 2 rfl) ?_
      refine r_top (y := nI (tn q9)) (ix_eq c_27.1.2) ?_
      refine lv_iconst (v := nI 0) hx hb dX9_prove_35 (by decide) ?_
      refine lv_iconst (v := nI 0) hx hb dX9_prove_36 (by decide) ?_
      refine rm_callV X hK hG hS yvX9_runs ml_X9_193 kX9 rfl rd_999 [.int (nI (tn p9)), .int (nI (tn q9)), .int (nI 0), .int (nI 0)] [] (c_X9_runs0 l L (m_g (ix p9 (σ.1 924 0) ∧ ix q9 (σ.1 904 0)) (True) (True) σ) ow (tn p9) (tn q9) 0 (by have := ix_lt c_27.1.1; omega) (by decide) (ix_lt c_27.1.2) (SI_mg hs0) (PI_mg hP0)) rfl hl.1 rfl (Nat.le_of_ble_eq_true rfl) ⟨Nat.le_of_ble_eq_true rfl, Nat.le_of_ble_eq_true rfl⟩ ⟨Nat.zero_le _, Nat.zero_le _⟩ dX9_prove_37 (fun H locs hG hS => ?_)
      refine lv_istore_n (lv' := [(3, .int ((m_runs0 (tn p9) (tn q9) 0 (m_g (ix p9 (σ.1 924 0) ∧ ix q9 (σ.1 904 0)) (True) (True) σ)).1)), (0, .ref (L 999 0)), (1, .int p9), (2, .int q9)]) hx hb dX9_prove_40 rfl hl (by decide) rfl (fun ls hl => ?_)
      refine lv_iload_n hx hb dX9_prove_41 rfl (lv_at hl 0 rfl) ?_
      refine lv_if_ne (tgt := 49) hx hb dX9_prove_42 (by decide) (fun c_42 => ?_) (fun c_42 => ?_)
      · refine lv_sipush (v := nI 10000) hx hb dX9_prove_49 (by decide) ?_
        refine lv_iload_n hx hb dX9_prove_52 rfl (lv_at hl 0 rfl) ?_
        refine lv_imul hx hb dX9_prove_53 ?_
        refine lv_aload_n hx hb dX9_prove_54 rfl (lv_at hl 1 rfl) ?_
        refine gt_X9_161 X hK hG rd_999 (x := ((m_runs0 (tn p9) (tn q9) 0 (m_g (ix p9 (σ.1 924 0) ∧ ix q9 (σ.1 904 0)) (True) (True) σ)).2).1 943 0) rfl dX9_prove_55 ?_
        refine lv_iadd hx hb dX9_prove_58 ?_
        exact rm_ret hx hb hr hlocks hG hS (by unfold m_prove; rw [if_pos c_27, if_pos c_42] <;> rfl) (by unfold m_prove; rw [if_pos c_27, if_pos c_42] <;> rfl) rfl dX9_prove_59
      · refine lv_iconst (v := (-1)) hx hb dX9_prove_45 (by decide) ?_
        refine lv_goto (tgt := 59) hx hb dX9_prove_46 (by decide) ?_
        exact rm_ret hx hb hr hlocks hG hS (by unfold m_prove; rw [if_pos c_27, if_neg (not_not_intro9 c_42)] <;> rfl) (by unfold m_prove; rw [if_pos c_27, if_neg (not_not_intro9 c_42)] <;> rfl) rfl dX9_prove_59
    · refine lv_iconst (v := nI 0) hx hb dX9_prove_30 (by decide) ?_
      exact rm_ret hx hb hr hlocks hG hS (by unfold m_prove; rw [if_neg c_27] <;> rfl) (by unfold m_prove; rw [if_neg c_27] <;> rfl) rfl dX9_prove_31
  · refine lv_aload_n hx hb dX9_prove_1 rfl (lv_at hl 0 rfl) ?_
    refine lv_iload_n hx hb dX9_prove_2 rfl (lv_at hl 1 rfl) ?_
    refine rm_callV X hK hG hS yvX9_isPallet ml_X9_148 kX9 rfl rd_999 [.int p9] [.ref (L 999 0)] (c_X9_isPallet l L σ ow p9 (by have := hP0.1; omega)) rfl hl.1 rfl (Nat.le_of_ble_eq_true rfl) ⟨Nat.le_of_ble_eq_true rfl, Nat.le_of_ble_eq_true rfl⟩ ⟨Nat.zero_le _, Nat.zero_le _⟩ dX9_prove_3 (fun H locs hG hS => ?_)
    refine r_if_eqB (tgt := 21) hx hb dX9_prove_6 (by decide) (fun c_6 => ?_) (fun c_6 => ?_)
    · refine lv_iconst (v := nI 0) hx hb dX9_prove_21 (by decide) ?_
      exact r_top ((b2i_f (fun h => by have h9 := h.1; first | exact c_6 h9 | exact h9 c_6 | omega)).symm) (J_22 _ _ hG hS)
    · refine lv_aload_n hx hb dX9_prove_9 rfl (lv_at hl 0 rfl) ?_
      refine lv_iload_n hx hb dX9_prove_10 rfl (lv_at hl 2 rfl) ?_
      refine rm_callV X hK hG hS yvX9_isProgram ml_X9_131 kX9 rfl rd_999 [.int q9] [.ref (L 999 0)] (c_X9_isProgram l L σ ow q9 (by have := hP0.1; omega)) rfl hl.1 rfl (Nat.le_of_ble_eq_true rfl) ⟨Nat.le_of_ble_eq_true rfl, Nat.le_of_ble_eq_true rfl⟩ ⟨Nat.zero_le _, Nat.zero_le _⟩ dX9_prove_11 (fun H locs hG hS => ?_)
      refine r_if_eqB (tgt := 21) hx hb dX9_prove_14 (by decide) (fun c_14 => ?_) (fun c_14 => ?_)
      · refine lv_iconst (v := nI 0) hx hb dX9_prove_21 (by decide) ?_
        exact r_top ((b2i_f (fun h => by have h9 := h.2; first | exact c_14 h9 | exact h9 c_14 | omega)).symm) (J_22 _ _ hG hS)
      · refine lv_iconst (v := nI 1) hx hb dX9_prove_17 (by decide) ?_
        refine lv_goto (tgt := 22) hx hb dX9_prove_18 (by decide) ?_
        exact r_top ((b2i_t (by refine ⟨?_, ?_⟩ <;> first | assumption | omega)).symm) (J_22 _ _ hG hS)
def m_takes (p9 q9 : Int32) (σ : St) : Int32 × St := if (ix p9 (σ.1 924 0) ∧ ix q9 (σ.1 904 0)) ∧ (True) ∧ (True) then (if ¬ ((m_runs0 (tn p9) (tn q9) 0 (m_g (ix p9 (σ.1 924 0) ∧ ix q9 (σ.1 904 0)) (True) (True) σ)).1) = 0 then ((-1), (m_runs0 (tn p9) (tn q9) 0 (m_g (ix p9 (σ.1 924 0) ∧ ix q9 (σ.1 904 0)) (True) (True) σ)).2) else (nI ((((((m_runs0 (tn p9) (tn q9) 0 (m_g (ix p9 (σ.1 924 0) ∧ ix q9 (σ.1 904 0)) (True) (True) σ)).2).2.2.1 936 0 0) + (((m_runs0 (tn p9) (tn q9) 0 (m_g (ix p9 (σ.1 924 0) ∧ ix q9 (σ.1 904 0)) (True) (True) σ)).2).2.2.1 936 0 1)) + (((m_runs0 (tn p9) (tn q9) 0 (m_g (ix p9 (σ.1 924 0) ∧ ix q9 (σ.1 904 0)) (True) (True) σ)).2).2.2.1 936 0 2)) + (((m_runs0 (tn p9) (tn q9) 0 (m_g (ix p9 (σ.1 924 0) ∧ ix q9 (σ.1 904 0)) (True) (True) σ)).2).2.2.1 936 0 3)), (m_runs0 (tn p9) (tn q9) 0 (m_g (ix p9 (σ.1 924 0) ∧ ix q9 (σ.1 904 0)) (True) (True) σ)).2)) else (nI 0, (m_g (ix p9 (σ.1 924 0) ∧ ix q9 (σ.1 904 0)) (True) (True) σ))
set_option maxRecDepth 100000 in
set_option maxHeartbeats 4000000 in
theorem c_X9_takes {D : va_G} {cI cZ cO : ClassId} (l : Launch) (L : Lay) (σ : St) (ow : Nat → Prop) (p9 q9 : Int32) (hP6 : σ.1 924 0 ≤ 6) (hs0 : SI σ) (hP0 : PI σ) : RM D cI cZ cO rdom l yX9_takes cX9_takes 3 ((some FieldType.int)) 4 109 [.ref (L 999 0), .int p9, .int q9] L σ ow ((m_takes p9 q9 σ).1) ((m_takes p9 q9 σ).2) := by
  refine rm_of rfl (Nat.le_of_ble_eq_true rfl) ?_
  intro p e s m below meth c ls X hK hG hr hlocks hl
  have X : CallFix p m c cX9_takes 3 s _ TB RX9 := X
  have hx := X.1
  have hb := X.2.1
  have hS : va_S (AA ow s.heap.size) s.heap s.heap [] := va_S.rf
  have hA : ∀ q, ow q → AA ow s.heap.size q := fun _ h => Or.inl h
  have hl : lv_has ls 3 [(0, .ref (L 999 0)), (1, .int p9), (2, .int q9)] := hl
  refine lv_aload_n hx hb dX9_takes_0 rfl (lv_at hl 0 rfl) ?_
  refine r_cutH 22 [.int (b2i (ix p9 (σ.1 924 0) ∧ ix q9 (σ.1 904 0))), .ref (L 999 0)] hG hS (fun H locs hG hS => ?_) (fun J_22 => ?_)
  · refine lv_iconst (v := nI 1) hx hb dX9_takes_22 (by decide) ?_
    refine lv_iconst (v := nI 1) hx hb dX9_takes_23 (by decide) ?_
    refine rm_callV X hK hG hS yvX9_goes ml_X9_127 kX9 rfl rd_999 [.int (b2i (ix p9 (σ.1 924 0) ∧ ix q9 (σ.1 904 0))), .int (nI 1), .int (nI 1)] [] (c_X9_goes l L σ ow (ix p9 (σ.1 924 0) ∧ ix q9 (σ.1 904 0)) (True) (True)) rfl hl.1 rfl (Nat.le_of_ble_eq_true rfl) ⟨Nat.le_of_ble_eq_true rfl, Nat.le_of_ble_eq_true rfl⟩ ⟨Nat.zero_le _, Nat.zero_le _⟩ dX9_takes_24 (fun H locs hG hS => ?_)
    refine r_if_neB (tgt := 32) hx hb dX9_takes_27 (by decide) (fun c_27 => ?_) (fun c_27 => ?_)
    · refine lv_aload_n hx hb dX9_takes_32 rfl (lv_at hl 0 rfl) ?_
      refine lv_iload_n hx hb dX9_takes_33 rfl (lv_at hl 1 rfl) ?_
      refine r_top (y := nI (tn p9)) (ix_eq c_27.1.1) ?_
      refine lv_iload_n hx hb dX9_takes_34 rfl (lv_at hl 2 rfl) ?_
      refine r_top (y := nI (tn q9)) (ix_eq c_27.1.2) ?_
      refine lv_iconst (v := nI 0) hx hb dX9_takes_35 (by decide) ?_
      refine lv_iconst (v := nI 0) hx hb dX9_takes_36 (by decide) ?_
      refine rm_callV X hK hG hS yvX9_runs ml_X9_193 kX9 rfl rd_999 [.int (nI (tn p9)), .int (nI (tn q9)), .int (nI 0), .int (nI 0)] [] (c_X9_runs0 l L (m_g (ix p9 (σ.1 924 0) ∧ ix q9 (σ.1 904 0)) (True) (True) σ) ow (tn p9) (tn q9) 0 (by have := ix_lt c_27.1.1; omega) (by decide) (ix_lt c_27.1.2) (SI_mg hs0) (PI_mg hP0)) rfl hl.1 rfl (Nat.le_of_ble_eq_true rfl) ⟨Nat.le_of_ble_eq_true rfl, Nat.le_of_ble_eq_true rfl⟩ ⟨Nat.zero_le _, Nat.zero_le _⟩ dX9_takes_37 (fun H locs hG hS => ?_)
      refine lv_if_ne (tgt := 73) hx hb dX9_takes_40 (by decide) (fun c_40 => ?_) (fun c_40 => ?_)
      · refine lv_iconst (v := (-1)) hx hb dX9_takes_73 (by decide) ?_
        exact rm_ret hx hb hr hlocks hG hS (by unfold m_takes; rw [if_pos c_27, if_pos c_40] <;> rfl) (by unfold m_takes; rw [if_pos c_27, if_pos c_40] <;> rfl) rfl dX9_takes_74
      · refine lv_aload_n hx hb dX9_takes_43 rfl (lv_at hl 0 rfl) ?_
        refine gt_X9_95 X hK hG rd_999 dX9_takes_44 ?_
        refine lv_iconst (v := nI 0) hx hb dX9_takes_47 (by decide) ?_
        refine al_936 X hK hG rd_936 (i := 0) (x := ((m_runs0 (tn p9) (tn q9) 0 (m_g (ix p9 (σ.1 924 0) ∧ ix q9 (σ.1 904 0)) (True) (True) σ)).2).2.2.1 936 0 0) (by decide) rfl dX9_takes_48 ?_
        refine lv_aload_n hx hb dX9_takes_49 rfl (lv_at hl 0 rfl) ?_
        refine gt_X9_95 X hK hG rd_999 dX9_takes_50 ?_
        refine lv_iconst (v := nI 1) hx hb dX9_takes_53 (by decide) ?_
        refine al_936 X hK hG rd_936 (i := 1) (x := ((m_runs0 (tn p9) (tn q9) 0 (m_g (ix p9 (σ.1 924 0) ∧ ix q9 (σ.1 904 0)) (True) (True) σ)).2).2.2.1 936 0 1) (by decide) rfl dX9_takes_54 ?_
        refine r_addN hx hb dX9_takes_55 ?_
        refine lv_aload_n hx hb dX9_takes_56 rfl (lv_at hl 0 rfl) ?_
        refine gt_X9_95 X hK hG rd_999 dX9_takes_57 ?_
        refine lv_iconst (v := nI 2) hx hb dX9_takes_60 (by decide) ?_
        refine al_936 X hK hG rd_936 (i := 2) (x := ((m_runs0 (tn p9) (tn q9) 0 (m_g (ix p9 (σ.1 924 0) ∧ ix q9 (σ.1 904 0)) (True) (True) σ)).2).2.2.1 936 0 2) (by decide) rfl dX9_takes_61 ?_
        refine r_addN hx hb dX9_takes_62 ?_
        refine lv_aload_n hx hb dX9_takes_63 rfl (lv_at hl 0 rfl) ?_
        refine gt_X9_95 X hK hG rd_999 dX9_takes_64 ?_
        refine lv_iconst (v := nI 3) hx hb dX9_takes_67 (by decide) ?_
        refine al_936 X hK hG rd_936 (i := 3) (x := ((m_runs0 (tn p9) (tn q9) 0 (m_g (ix p9 (σ.1 924 0) ∧ ix q9 (σ.1 904 0)) (True) (True) σ)).2).2.2.1 936 0 3) (by decide) rfl dX9_takes_68 ?_
        refine r_addN hx hb dX9_takes_69 ?_
        refine lv_goto (tgt := 74) hx hb dX9_takes_70 (by decide) ?_
        exact rm_ret hx hb hr hlocks hG hS (by unfold m_takes; rw [if_pos c_27, if_neg (not_not_intro9 c_40)] <;> rfl) (by unfold m_takes; rw [if_pos c_27, if_neg (not_not_intro9 c_40)] <;> rfl) rfl dX9_takes_74
    · refine lv_iconst (v := nI 0) hx hb dX9_takes_30 (by decide) ?_
      exact rm_ret hx hb hr hlocks hG hS (by unfold m_takes; rw [if_neg c_27] <;> rfl) (by unfold m_takes; rw [if_neg c_27] <;> rfl) rfl dX9_takes_31
  · refine lv_aload_n hx hb dX9_takes_1 rfl (lv_at hl 0 rfl) ?_
    refine lv_iload_n hx hb dX9_takes_2 rfl (lv_at hl 1 rfl) ?_
    refine rm_callV X hK hG hS yvX9_isPallet ml_X9_148 kX9 rfl rd_999 [.int p9] [.ref (L 999 0)] (c_X9_isPallet l L σ ow p9 (by have := hP0.1; omega)) rfl hl.1 rfl (Nat.le_of_ble_eq_true rfl) ⟨Nat.le_of_ble_eq_true rfl, Nat.le_of_ble_eq_true rfl⟩ ⟨Nat.zero_le _, Nat.zero_le _⟩ dX9_takes_3 (fun H locs hG hS => ?_)
    refine r_if_eqB (tgt := 21) hx hb dX9_takes_6 (by decide) (fun c_6 => ?_) (fun c_6 => ?_)
    · refine lv_iconst (v := nI 0) hx hb dX9_takes_21 (by decide) ?_
      exact r_top ((b2i_f (fun h => by have h9 := h.1; first | exact c_6 h9 | exact h9 c_6 | omega)).symm) (J_22 _ _ hG hS)
    · refine lv_aload_n hx hb dX9_takes_9 rfl (lv_at hl 0 rfl) ?_
      refine lv_iload_n hx hb dX9_takes_10 rfl (lv_at hl 2 rfl) ?_
      refine rm_callV X hK hG hS yvX9_isProgram ml_X9_131 kX9 rfl rd_999 [.int q9] [.ref (L 999 0)] (c_X9_isProgram l L σ ow q9 (by have := hP0.1; omega)) rfl hl.1 rfl (Nat.le_of_ble_eq_true rfl) ⟨Nat.le_of_ble_eq_true rfl, Nat.le_of_ble_eq_true rfl⟩ ⟨Nat.zero_le _, Nat.zero_le _⟩ dX9_takes_11 (fun H locs hG hS => ?_)
      refine r_if_eqB (tgt := 21) hx hb dX9_takes_14 (by decide) (fun c_14 => ?_) (fun c_14 => ?_)
      · refine lv_iconst (v := nI 0) hx hb dX9_takes_21 (by decide) ?_
        exact r_top ((b2i_f (fun h => by have h9 := h.2; first | exact c_14 h9 | exact h9 c_14 | omega)).symm) (J_22 _ _ hG hS)
      · refine lv_iconst (v := nI 1) hx hb dX9_takes_17 (by decide) ?_
        refine lv_goto (tgt := 22) hx hb dX9_takes_18 (by decide) ?_
        exact r_top ((b2i_t (by refine ⟨?_, ?_⟩ <;> first | assumption | omega)).symm) (J_22 _ _ hG hS)
def m_plan (p9 q9 : Int32) (σ : St) : Int32 × St := if ¬ (ix p9 (σ.1 924 0) ∧ ix q9 (σ.1 904 0)) then (nI 0, (m_g (ix p9 (σ.1 924 0) ∧ ix q9 (σ.1 904 0)) (False) (True) σ)) else (if ¬ (σ.2.2.2 920 0 (tn p9)) = 0 then (nI 0, (m_g (ix p9 (σ.1 924 0) ∧ ix q9 (σ.1 904 0)) (False) (True) σ)) else (if ¬ ((m_runs0 (tn p9) (tn q9) 0 σ).1) = 0 then (nI 0, (m_g (ix p9 (σ.1 924 0) ∧ ix q9 (σ.1 904 0)) (False) (True) (m_runs0 (tn p9) (tn q9) 0 σ).2)) else (if (ix p9 (σ.1 924 0) ∧ ix q9 (σ.1 904 0)) ∧ (True) ∧ (True) then (nI ((σ.1 926 0) + 1), (wN (wA (wA (wB (m_g (ix p9 (σ.1 924 0) ∧ ix q9 (σ.1 904 0)) (True) (True) (m_runs0 (tn p9) (tn q9) 0 σ).2) 920 0 (tn p9) (nI 1)) 921 0 (tn p9) (tn q9)) 925 0 (σ.1 926 0) (tn p9)) 926 0 ((σ.1 926 0) + 1))) else (nI 0, (m_g (ix p9 (σ.1 924 0) ∧ ix q9 (σ.1 904 0)) (True) (True) (m_runs0 (tn p9) (tn q9) 0 σ).2)))))
set_option maxRecDepth 100000 in
set_option maxHeartbeats 4000000 in
theorem c_X9_plan {D : va_G} {cI cZ cO : ClassId} (l : Launch) (L : Lay) (σ : St) (ow : Nat → Prop) (p9 q9 : Int32) (hP6 : σ.1 924 0 ≤ 6) (hs0 : SI σ) (hP0 : PI σ) (hq : ix p9 (σ.1 924 0) → σ.2.2.2 920 0 (tn p9) = 0 → σ.1 926 0 < 6) : RM D cI cZ cO rdom l yX9_plan cX9_plan 4 ((some FieldType.int)) 4 109 [.ref (L 999 0), .int p9, .int q9] L σ ow ((m_plan p9 q9 σ).1) ((m_plan p9 q9 σ).2) := by
  refine rm_of rfl (Nat.le_of_ble_eq_true rfl) ?_
  intro p e s m below meth c ls X hK hG hr hlocks hl
  have X : CallFix p m c cX9_plan 4 s _ TB RX9 := X
  have hx := X.1
  have hb := X.2.1
  have hS : va_S (AA ow s.heap.size) s.heap s.heap [] := va_S.rf
  have hA : ∀ q, ow q → AA ow s.heap.size q := fun _ h => Or.inl h
  have hl : lv_has ls 4 [(0, .ref (L 999 0)), (1, .int p9), (2, .int q9)] := hl
  refine r_cutH 21 [.int (b2i (ix p9 (σ.1 924 0) ∧ ix q9 (σ.1 904 0)))] hG hS (fun H locs hG hS => ?_) (fun J_21 => ?_)
  · refine lv_istore_n (lv' := [(3, .int (b2i (ix p9 (σ.1 924 0) ∧ ix q9 (σ.1 904 0)))), (0, .ref (L 999 0)), (1, .int p9), (2, .int q9)]) hx hb dX9_plan_21 rfl hl (by decide) rfl (fun ls hl => ?_)
    refine lv_aload_n hx hb dX9_plan_22 rfl (lv_at hl 1 rfl) ?_
    refine lv_iload_n hx hb dX9_plan_23 rfl (lv_at hl 0 rfl) ?_
    refine lv_iload_n hx hb dX9_plan_24 rfl (lv_at hl 0 rfl) ?_
    refine r_if_eqB (tgt := 52) hx hb dX9_plan_25 (by decide) (fun c_25 => ?_) (fun c_25 => ?_)
    · refine lv_iconst (v := nI 0) hx hb dX9_plan_52 (by decide) ?_
      refine lv_iconst (v := nI 1) hx hb dX9_plan_53 (by decide) ?_
      refine rm_callV X hK hG hS yvX9_goes ml_X9_127 kX9 rfl rd_999 [.int (b2i (ix p9 (σ.1 924 0) ∧ ix q9 (σ.1 904 0))), .int (nI 0), .int (nI 1)] [] (c_X9_goes l L σ ow (ix p9 (σ.1 924 0) ∧ ix q9 (σ.1 904 0)) (False) (True)) rfl hl.1 rfl (Nat.le_of_ble_eq_true rfl) ⟨Nat.le_of_ble_eq_true rfl, Nat.le_of_ble_eq_true rfl⟩ ⟨Nat.zero_le _, Nat.zero_le _⟩ dX9_plan_54 (fun H locs hG hS => ?_)
      refine r_if_neB (tgt := 62) hx hb dX9_plan_57 (by decide) (fun c_57 => c_57.2.1.elim) (fun c_57 => ?_)
      refine lv_iconst (v := nI 0) hx hb dX9_plan_60 (by decide) ?_
      exact rm_ret hx hb hr hlocks hG hS (by unfold m_plan; rw [if_pos c_25] <;> rfl) (by unfold m_plan; rw [if_pos c_25] <;> rfl) rfl dX9_plan_61
    · refine lv_aload_n hx hb dX9_plan_28 rfl (lv_at hl 1 rfl) ?_
      refine gt_X9_59 X hK hG rd_999 dX9_plan_29 ?_
      refine lv_iload_n hx hb dX9_plan_32 rfl (lv_at hl 2 rfl) ?_
      refine r_top (y := nI (tn p9)) (ix_eq c_25.1) ?_
      refine al_920 X hK hG rd_920 (i := tn p9) (x := σ.2.2.2 920 0 (tn p9)) (by have := ix_lt c_25.1; omega) rfl dX9_plan_33 ?_
      refine lv_if_ne (tgt := 52) hx hb dX9_plan_34 (by decide) (fun c_34 => ?_) (fun c_34 => ?_)
      · refine lv_iconst (v := nI 0) hx hb dX9_plan_52 (by decide) ?_
        refine lv_iconst (v := nI 1) hx hb dX9_plan_53 (by decide) ?_
        refine rm_callV X hK hG hS yvX9_goes ml_X9_127 kX9 rfl rd_999 [.int (b2i (ix p9 (σ.1 924 0) ∧ ix q9 (σ.1 904 0))), .int (nI 0), .int (nI 1)] [] (c_X9_goes l L σ ow (ix p9 (σ.1 924 0) ∧ ix q9 (σ.1 904 0)) (False) (True)) rfl hl.1 rfl (Nat.le_of_ble_eq_true rfl) ⟨Nat.le_of_ble_eq_true rfl, Nat.le_of_ble_eq_true rfl⟩ ⟨Nat.zero_le _, Nat.zero_le _⟩ dX9_plan_54 (fun H locs hG hS => ?_)
        refine r_if_neB (tgt := 62) hx hb dX9_plan_57 (by decide) (fun c_57 => c_57.2.1.elim) (fun c_57 => ?_)
        refine lv_iconst (v := nI 0) hx hb dX9_plan_60 (by decide) ?_
        exact rm_ret hx hb hr hlocks hG hS (by unfold m_plan; rw [if_neg (not_not_intro9 c_25), if_pos c_34] <;> rfl) (by unfold m_plan; rw [if_neg (not_not_intro9 c_25), if_pos c_34] <;> rfl) rfl dX9_plan_61
      · refine lv_aload_n hx hb dX9_plan_37 rfl (lv_at hl 1 rfl) ?_
        refine lv_iload_n hx hb dX9_plan_38 rfl (lv_at hl 2 rfl) ?_
        refine r_top (y := nI (tn p9)) (ix_eq c_25.1) ?_
        refine lv_iload_n hx hb dX9_plan_39 rfl (lv_at hl 3 rfl) ?_
        refine r_top (y := nI (tn q9)) (ix_eq c_25.2) ?_
        refine lv_iconst (v := nI 0) hx hb dX9_plan_40 (by decide) ?_
        refine lv_iconst (v := nI 0) hx hb dX9_plan_41 (by decide) ?_
        refine rm_callV X hK hG hS yvX9_runs ml_X9_193 kX9 rfl rd_999 [.int (nI (tn p9)), .int (nI (tn q9)), .int (nI 0), .int (nI 0)] [.int (b2i (ix p9 (σ.1 924 0) ∧ ix q9 (σ.1 904 0))), .ref (L 999 0)] (c_X9_runs0 l L σ ow (tn p9) (tn q9) 0 (by have := ix_lt c_25.1; omega) (by decide) (ix_lt c_25.2) (hs0) (hP0)) rfl hl.1 rfl (Nat.le_of_ble_eq_true rfl) ⟨Nat.le_of_ble_eq_true rfl, Nat.le_of_ble_eq_true rfl⟩ ⟨Nat.zero_le _, Nat.zero_le _⟩ dX9_plan_42 (fun H locs hG hS => ?_)
        refine lv_if_ne (tgt := 52) hx hb dX9_plan_45 (by decide) (fun c_45 => ?_) (fun c_45 => ?_)
        · refine lv_iconst (v := nI 0) hx hb dX9_plan_52 (by decide) ?_
          refine lv_iconst (v := nI 1) hx hb dX9_plan_53 (by decide) ?_
          refine rm_callV X hK hG hS yvX9_goes ml_X9_127 kX9 rfl rd_999 [.int (b2i (ix p9 (σ.1 924 0) ∧ ix q9 (σ.1 904 0))), .int (nI 0), .int (nI 1)] [] (c_X9_goes l L ((m_runs0 (tn p9) (tn q9) 0 σ).2) ow (ix p9 (σ.1 924 0) ∧ ix q9 (σ.1 904 0)) (False) (True)) rfl hl.1 rfl (Nat.le_of_ble_eq_true rfl) ⟨Nat.le_of_ble_eq_true rfl, Nat.le_of_ble_eq_true rfl⟩ ⟨Nat.zero_le _, Nat.zero_le _⟩ dX9_plan_54 (fun H locs hG hS => ?_)
          refine r_if_neB (tgt := 62) hx hb dX9_plan_57 (by decide) (fun c_57 => c_57.2.1.elim) (fun c_57 => ?_)
          refine lv_iconst (v := nI 0) hx hb dX9_plan_60 (by decide) ?_
          exact rm_ret hx hb hr hlocks hG hS (by unfold m_plan; rw [if_neg (not_not_intro9 c_25), if_neg (not_not_intro9 c_34), if_pos c_45] <;> rfl) (by unfold m_plan; rw [if_neg (not_not_intro9 c_25), if_neg (not_not_intro9 c_34), if_pos c_45] <;> rfl) rfl dX9_plan_61
        · refine lv_iconst (v := nI 1) hx hb dX9_plan_48 (by decide) ?_
          refine lv_goto (tgt := 53) hx hb dX9_plan_49 (by decide) ?_
          refine lv_iconst (v := nI 1) hx hb dX9_plan_53 (by decide) ?_
          refine rm_callV X hK hG hS yvX9_goes ml_X9_127 kX9 rfl rd_999 [.int (b2i (ix p9 (σ.1 924 0) ∧ ix q9 (σ.1 904 0))), .int (nI 1), .int (nI 1)] [] (c_X9_goes l L ((m_runs0 (tn p9) (tn q9) 0 σ).2) ow (ix p9 (σ.1 924 0) ∧ ix q9 (σ.1 904 0)) (True) (True)) rfl hl.1 rfl (Nat.le_of_ble_eq_true rfl) ⟨Nat.le_of_ble_eq_true rfl, Nat.le_of_ble_eq_true rfl⟩ ⟨Nat.zero_le _, Nat.zero_le _⟩ dX9_plan_54 (fun H locs hG hS => ?_)
          refine r_if_neB (tgt := 62) hx hb dX9_plan_57 (by decide) (fun c_57 => ?_) (fun c_57 => ?_)
          · refine lv_aload_n hx hb dX9_plan_62 rfl (lv_at hl 1 rfl) ?_
            refine gt_X9_59 X hK hG rd_999 dX9_plan_63 ?_
            refine lv_iload_n hx hb dX9_plan_66 rfl (lv_at hl 2 rfl) ?_
            refine r_top (y := nI (tn p9)) (ix_eq c_57.1.1) ?_
            refine lv_iconst (v := nI 1) hx hb dX9_plan_67 (by decide) ?_
            refine as_920 X hK hG hS hA rd_920 (i := tn p9) (by have := ix_lt c_57.1.1; omega) dX9_plan_68 (fun H locs hG hS => ?_)
            refine lv_aload_n hx hb dX9_plan_69 rfl (lv_at hl 1 rfl) ?_
            refine gt_X9_62 X hK hG rd_999 dX9_plan_70 ?_
            refine lv_iload_n hx hb dX9_plan_73 rfl (lv_at hl 2 rfl) ?_
            refine r_top (y := nI (tn p9)) (ix_eq c_57.1.1) ?_
            refine lv_iload_n hx hb dX9_plan_74 rfl (lv_at hl 3 rfl) ?_
            refine r_top (y := nI (tn q9)) (ix_eq c_57.1.2) ?_
            refine as_921 X hK hG hS hA rd_921 (i := tn p9) (by have := ix_lt c_57.1.1; omega) dX9_plan_75 (fun H locs hG hS => ?_)
            refine lv_aload_n hx hb dX9_plan_76 rfl (lv_at hl 1 rfl) ?_
            refine gt_X9_71 X hK hG rd_999 dX9_plan_77 ?_
            refine lv_aload_n hx hb dX9_plan_80 rfl (lv_at hl 1 rfl) ?_
            refine gt_X9_138 X hK hG rd_999 (x := σ.1 926 0) ((show ((m_runs0 (tn p9) (tn q9) 0 σ).2).1 926 0 = _ from by rw [(FR_runs0 (tn p9) (tn q9) 0 σ).1 926 (by decide)] <;> rfl).trans rfl) dX9_plan_81 ?_
            refine lv_iload_n hx hb dX9_plan_84 rfl (lv_at hl 2 rfl) ?_
            refine r_top (y := nI (tn p9)) (ix_eq c_57.1.1) ?_
            refine as_925 X hK hG hS hA rd_925 (i := σ.1 926 0) (hq c_57.1.1 c_34) dX9_plan_85 (fun H locs hG hS => ?_)
            refine lv_aload_n hx hb dX9_plan_86 rfl (lv_at hl 1 rfl) ?_
            refine lv_dup hx hb dX9_plan_87 rfl ?_
            refine gt_X9_138 X hK hG rd_999 (x := σ.1 926 0) ((show ((m_runs0 (tn p9) (tn q9) 0 σ).2).1 926 0 = _ from by rw [(FR_runs0 (tn p9) (tn q9) 0 σ).1 926 (by decide)] <;> rfl).trans rfl) dX9_plan_88 ?_
            refine lv_iconst (v := nI 1) hx hb dX9_plan_91 (by decide) ?_
            refine r_addN hx hb dX9_plan_92 ?_
            refine pt_X9_138 X hK hG hS hA rd_999 dX9_plan_93 (fun H locs hG hS => ?_)
            refine lv_aload_n hx hb dX9_plan_96 rfl (lv_at hl 1 rfl) ?_
            refine gt_X9_138 X hK hG rd_999 (x := (σ.1 926 0) + 1) rfl dX9_plan_97 ?_
            exact rm_ret hx hb hr hlocks hG hS (by unfold m_plan; rw [if_neg (not_not_intro9 c_25), if_neg (not_not_intro9 c_34), if_neg (not_not_intro9 c_45), if_pos c_57] <;> rfl) (by unfold m_plan; rw [if_neg (not_not_intro9 c_25), if_neg (not_not_intro9 c_34), if_neg (not_not_intro9 c_45), if_pos c_57] <;> rfl) rfl dX9_plan_100
          · refine lv_iconst (v := nI 0) hx hb dX9_plan_60 (by decide) ?_
            exact rm_ret hx hb hr hlocks hG hS (by unfold m_plan; rw [if_neg (not_not_intro9 c_25), if_neg (not_not_intro9 c_34), if_neg (not_not_intro9 c_45), if_neg c_57] <;> rfl) (by unfold m_plan; rw [if_neg (not_not_intro9 c_25), if_neg (not_not_intro9 c_34), if_neg (not_not_intro9 c_45), if_neg c_57] <;> rfl) rfl dX9_plan_61
  · refine lv_aload_n hx hb dX9_plan_0 rfl (lv_at hl 0 rfl) ?_
    refine lv_iload_n hx hb dX9_plan_1 rfl (lv_at hl 1 rfl) ?_
    refine rm_callV X hK hG hS yvX9_isPallet ml_X9_148 kX9 rfl rd_999 [.int p9] [] (c_X9_isPallet l L σ ow p9 (by have := hP0.1; omega)) rfl hl.1 rfl (Nat.le_of_ble_eq_true rfl) ⟨Nat.le_of_ble_eq_true rfl, Nat.le_of_ble_eq_true rfl⟩ ⟨Nat.zero_le _, Nat.zero_le _⟩ dX9_plan_2 (fun H locs hG hS => ?_)
    refine r_if_eqB (tgt := 20) hx hb dX9_plan_5 (by decide) (fun c_5 => ?_) (fun c_5 => ?_)
    · refine lv_iconst (v := nI 0) hx hb dX9_plan_20 (by decide) ?_
      exact r_top ((b2i_f (fun h => by have h9 := h.1; first | exact c_5 h9 | exact h9 c_5 | omega)).symm) (J_21 _ _ hG hS)
    · refine lv_aload_n hx hb dX9_plan_8 rfl (lv_at hl 0 rfl) ?_
      refine lv_iload_n hx hb dX9_plan_9 rfl (lv_at hl 2 rfl) ?_
      refine rm_callV X hK hG hS yvX9_isProgram ml_X9_131 kX9 rfl rd_999 [.int q9] [] (c_X9_isProgram l L σ ow q9 (by have := hP0.1; omega)) rfl hl.1 rfl (Nat.le_of_ble_eq_true rfl) ⟨Nat.le_of_ble_eq_true rfl, Nat.le_of_ble_eq_true rfl⟩ ⟨Nat.zero_le _, Nat.zero_le _⟩ dX9_plan_10 (fun H locs hG hS => ?_)
      refine r_if_eqB (tgt := 20) hx hb dX9_plan_13 (by decide) (fun c_13 => ?_) (fun c_13 => ?_)
      · refine lv_iconst (v := nI 0) hx hb dX9_plan_20 (by decide) ?_
        exact r_top ((b2i_f (fun h => by have h9 := h.2; first | exact c_13 h9 | exact h9 c_13 | omega)).symm) (J_21 _ _ hG hS)
      · refine lv_iconst (v := nI 1) hx hb dX9_plan_16 (by decide) ?_
        refine lv_goto (tgt := 21) hx hb dX9_plan_17 (by decide) ?_
        exact r_top ((b2i_t (by refine ⟨?_, ?_⟩ <;> first | assumption | omega)).symm) (J_21 _ _ hG hS)
/-- the k-th of the queue, run on without tools -/
def rq0 (k : Nat) (σ : St) : Int32 × St := m_runs0 (σ.2.2.1 925 0 k) (σ.2.2.1 921 0 (σ.2.2.1 925 0 k)) (σ.2.2.1 922 0 (σ.2.2.1 925 0 k)) σ
/-- over the queue: what its programs still cut of a kind -/
def m_lk (i9 : Int32) : Nat → St → Int32 × St
  | 0, σ => (nI 0, σ)
  | k + 1, σ => ((m_lk i9 k σ).1 + (if ¬ (rq0 k (m_lk i9 k σ).2).1 = 0 then nI 0 else nI ((rq0 k (m_lk i9 k σ).2).2.2.2.1 936 0 (tn i9))), (rq0 k (m_lk i9 k σ).2).2)
/-- what a queue needs -/
def QI (σ : St) : Prop := σ.1 926 0 ≤ 6 ∧ ∀ k, k < σ.1 926 0 → σ.2.2.1 925 0 k < 6 ∧ σ.2.2.1 921 0 (σ.2.2.1 925 0 k) < σ.1 904 0 ∧ σ.2.2.1 922 0 (σ.2.2.1 925 0 k) < 100000
theorem QI.fr {lN lI lA lB : List Nat} {σ σ' : St} (h : QI σ) (f : FRm lN lI lA lB σ σ') (h1 : 926 ∉ lN := by decide) (h2 : 904 ∉ lN := by decide) (h3 : 925 ∉ lA := by decide) (h4 : 921 ∉ lA := by decide) (h5 : 922 ∉ lA := by decide) : QI σ' := by
  unfold QI at h ⊢
  rw [f.1 926 h1, f.1 904 h2, f.2.2.1 925 h3, f.2.2.1 921 h4, f.2.2.1 922 h5]
  exact h
theorem lk_all {i9 : Int32} : ∀ (k : Nat) (σ : St), SI σ → PI σ → QI σ → k ≤ σ.1 926 0 → FR0 σ (m_lk i9 k σ).2 ∧ SI (m_lk i9 k σ).2 ∧ PI (m_lk i9 k σ).2
  | 0, σ, hs, hP, _, _ => ⟨FRm.rf, hs, hP⟩
  | k + 1, σ, hs, hP, hQ, hk => by
    have h := lk_all (i9 := i9) k σ hs hP hQ (by omega)
    have hq := (hQ.fr h.1).2 k (by rw [h.1.1 926 (by decide)]; omega)
    have h2 := runs_all0 (p := (m_lk i9 k σ).2.2.2.1 925 0 k) (fr := (m_lk i9 k σ).2.2.2.1 922 0 ((m_lk i9 k σ).2.2.2.1 925 0 k)) h.2.1 h.2.2 hq.2.1
    exact ⟨h.1.tr (FR_runs0 _ _ _ _), h2.1, PI_runs0 h.2.2⟩
/-- less what is left of the tools of the kind -/
def m_ll (i9 v : Int32) (σ : St) : Nat → Int32
  | 0 => v
  | k + 1 => m_ll i9 v σ k - (if σ.2.2.2 911 0 k = 0 then nI 0 else if ¬ σ.2.2.2 906 0 k = i9 then nI 0 else nI (σ.2.2.1 907 0 k) - nI (σ.2.2.1 908 0 k))
def m_pos (x : Int32) : Int32 := if 0 ≤ x then x else nI 0
theorem m_lk_p {i9 : Int32} {k : Nat} {σ σ9 : St} {v9 : Int32} (h : (v9, σ9) = m_lk i9 k σ) (c : ¬ (rq0 k σ9).1 = 0) : (v9 + nI 0, (rq0 k σ9).2) = m_lk i9 (k + 1) σ := by
  unfold m_lk
  rw [← h]
  show _ = (v9 + (if ¬ (rq0 k σ9).1 = 0 then nI 0 else nI ((rq0 k σ9).2.2.2.1 936 0 (tn i9))), (rq0 k σ9).2)
  rw [if_pos c]
theorem m_lk_n {i9 : Int32} {k : Nat} {σ σ9 : St} {v9 : Int32} (h : (v9, σ9) = m_lk i9 k σ) (c : (rq0 k σ9).1 = 0) : (v9 + nI ((rq0 k σ9).2.2.2.1 936 0 (tn i9)), (rq0 k σ9).2) = m_lk i9 (k + 1) σ := by
  unfold m_lk
  rw [← h]
  show _ = (v9 + (if ¬ (rq0 k σ9).1 = 0 then nI 0 else nI ((rq0 k σ9).2.2.2.1 936 0 (tn i9))), (rq0 k σ9).2)
  rw [if_neg (not_not_intro9 c)]
def m_lacks (i9 : Int32) (σ : St) : Int32 × St := if (ix i9 4) ∧ (True) ∧ (True) then (m_pos (m_ll i9 (m_lk i9 (σ.1 926 0) (m_g (ix i9 4) True True σ)).1 (m_lk i9 (σ.1 926 0) (m_g (ix i9 4) True True σ)).2 (σ.1 914 0)), (m_lk i9 (σ.1 926 0) (m_g (ix i9 4) True True σ)).2) else (nI 0, m_g (ix i9 4) True True σ)
set_option maxRecDepth 100000 in
set_option maxHeartbeats 4000000 in
theorem c_X9_lacks {D : va_G} {cI cZ cO : ClassId} (l : Launch) (L : Lay) (σ : St) (ow : Nat → Prop) (i9 : Int32) (hs0 : SI σ) (hP0 : PI σ) (hQ0 : QI σ) : RM D cI cZ cO rdom l yX9_lacks cX9_lacks 4 ((some FieldType.int)) 4 109 [.ref (L 999 0), .int i9] L σ ow ((m_lacks i9 σ).1) ((m_lacks i9 σ).2) := by
  refine rm_of rfl (Nat.le_of_ble_eq_true rfl) ?_
  intro p e s m below meth c ls X hK hG hr hlocks hl
  have X : CallFix p m c cX9_lacks 4 s _ TB RX9 := X
  have hx := X.1
  have hb := X.2.1
  have hS : va_S (AA ow s.heap.size) s.heap s.heap [] := va_S.rf
  have hA : ∀ q, ow q → AA ow s.heap.size q := fun _ h => Or.inl h
  have hl : lv_has ls 4 [(0, .ref (L 999 0)), (1, .int i9)] := hl
  refine lv_aload_n hx hb dX9_lacks_0 rfl (lv_at hl 0 rfl) ?_
  refine lv_iload_n hx hb dX9_lacks_1 rfl (lv_at hl 1 rfl) ?_
  refine lv_iconst (v := nI 0) hx hb dX9_lacks_2 (by decide) ?_
  refine lv_iconst (v := nI 3) hx hb dX9_lacks_3 (by decide) ?_
  refine rm_callS X hK hG hS ysX9_in ml_X9_114 [.int i9, .int (nI 0), .int (nI 3)] [.ref (L 999 0)] (c_X9_in l L σ ow i9 (nI 0) (nI 3)) rfl hl.1 rfl (Nat.le_of_ble_eq_true rfl) ⟨Nat.le_of_ble_eq_true rfl, Nat.le_of_ble_eq_true rfl⟩ ⟨Nat.zero_le _, Nat.zero_le _⟩ dX9_lacks_4 (fun H locs hG hS => ?_)
  refine r_top (y := b2i (ix i9 4)) (b2i_c (rg_z 3 (by decide))) ?_
  refine lv_iconst (v := nI 1) hx hb dX9_lacks_7 (by decide) ?_
  refine lv_iconst (v := nI 1) hx hb dX9_lacks_8 (by decide) ?_
  refine rm_callV X hK hG hS yvX9_goes ml_X9_127 kX9 rfl rd_999 [.int (b2i (ix i9 4)), .int (nI 1), .int (nI 1)] [] (c_X9_goes l L σ ow (ix i9 4) (True) (True)) rfl hl.1 rfl (Nat.le_of_ble_eq_true rfl) ⟨Nat.le_of_ble_eq_true rfl, Nat.le_of_ble_eq_true rfl⟩ ⟨Nat.zero_le _, Nat.zero_le _⟩ dX9_lacks_9 (fun H locs hG hS => ?_)
  refine r_if_neB (tgt := 17) hx hb dX9_lacks_12 (by decide) (fun c_12 => ?_) (fun c_12 => ?_)
  · refine lv_iconst (v := nI 0) hx hb dX9_lacks_17 (by decide) ?_
    refine lv_istore_n (lv' := [(2, .int (nI 0)), (0, .ref (L 999 0)), (1, .int i9)]) hx hb dX9_lacks_18 rfl hl (by decide) rfl (fun ls hl => ?_)
    refine lv_iconst (v := nI 0) hx hb dX9_lacks_19 (by decide) ?_
    refine lv_istore_n (lv' := [(3, .int (nI 0)), (2, .int (nI 0)), (0, .ref (L 999 0)), (1, .int i9)]) hx hb dX9_lacks_20 rfl hl (by decide) rfl (fun ls hl => ?_)
    refine r_loop (ι := Int32 × St × Nat) (fun (⟨v9, σ9, k⟩ : Int32 × St × Nat) => [(0, .ref (L 999 0)), (1, .int i9), (2, .int v9), (3, .int (nI k))]) (fun (⟨v9, σ9, k⟩ : Int32 × St × Nat) => σ9) (fun (⟨v9, σ9, k⟩ : Int32 × St × Nat) => σ.1 926 0 - k) (fun (⟨v9, σ9, k⟩ : Int32 × St × Nat) => (v9, σ9) = m_lk i9 k (m_g (ix i9 4) True True σ) ∧ k ≤ σ.1 926 0 ∧ FR0 (m_g (ix i9 4) True True σ) σ9 ∧ SI σ9 ∧ PI σ9) ⟨nI 0, (m_g (ix i9 4) True True σ), 0⟩ (⟨rfl, Nat.zero_le _, FRm.rf, SI_mg hs0, PI_mg hP0⟩) hG hS (lv_sub hl [2, 3, 1, 0] rfl) ?_
    rintro ⟨v9, σ9, k⟩ hinv ih H locs ls hG hS hl
    have hG : PW D cI cZ cO rdom L σ9 ow H := hG
    have hl : lv_has ls 4 [(0, .ref (L 999 0)), (1, .int i9), (2, .int v9), (3, .int (nI k))] := hl
    obtain ⟨hv, hk, hfr, hs9, hP9⟩ := hinv
    refine lv_iload_n hx hb dX9_lacks_21 rfl (lv_at hl 3 rfl) ?_
    refine lv_aload_n hx hb dX9_lacks_22 rfl (lv_at hl 0 rfl) ?_
    refine gt_X9_138 X hK hG rd_999 (x := σ.1 926 0) ((show σ9.1 926 0 = _ from by rw [(hfr).1 926 (by decide)] <;> rfl).trans rfl) dX9_lacks_23 ?_
    refine r_icmp_geN (tgt := 84) hx hb dX9_lacks_26 (by decide) (by have := hQ0.1; omega) (by have := hQ0.1; omega) (fun c_26 => ?_) (fun c_26 => ?_)
    · obtain rfl : k = σ.1 926 0 := by omega
      have h16 : σ.1 914 0 ≤ 16 := hs0.2.2.2.2.1
      refine lv_iconst (v := nI 0) hx hb dX9_lacks_84 (by decide) ?_
      refine lv_istore_n (lv' := [(3, .int (nI 0)), (0, .ref (L 999 0)), (1, .int i9), (2, .int v9)]) hx hb dX9_lacks_85 rfl hl (by decide) rfl (fun ls hl => ?_)
      refine r_loop (ι := Int32 × Nat) (fun (⟨u9, j⟩ : Int32 × Nat) => [(0, .ref (L 999 0)), (1, .int i9), (2, .int u9), (3, .int (nI j))]) (fun (⟨u9, j⟩ : Int32 × Nat) => σ9) (fun (⟨u9, j⟩ : Int32 × Nat) => σ.1 914 0 - j) (fun (⟨u9, j⟩ : Int32 × Nat) => u9 = m_ll i9 v9 σ9 j ∧ j ≤ σ.1 914 0) ⟨v9, 0⟩ (⟨rfl, Nat.zero_le _⟩) hG hS (lv_sub hl [1, 2, 3, 0] rfl) ?_
      rintro ⟨u9, j⟩ hinv ih H locs ls hG hS hl
      have hG : PW D cI cZ cO rdom L σ9 ow H := hG
      have hl : lv_has ls 4 [(0, .ref (L 999 0)), (1, .int i9), (2, .int u9), (3, .int (nI j))] := hl
      obtain ⟨hu, hj⟩ := hinv
      refine lv_iload_n hx hb dX9_lacks_86 rfl (lv_at hl 3 rfl) ?_
      refine lv_aload_n hx hb dX9_lacks_87 rfl (lv_at hl 0 rfl) ?_
      refine gt_X9_118 X hK hG rd_999 (x := σ.1 914 0) ((show σ9.1 914 0 = _ from by rw [(hfr).1 914 (by decide)] <;> rfl).trans rfl) dX9_lacks_88 ?_
      refine r_icmp_geN (tgt := 139) hx hb dX9_lacks_91 (by decide) (by omega) (by omega) (fun c_91 => ?_) (fun c_91 => ?_)
      · have hE : m_lacks i9 σ = (m_pos u9, σ9) := by
          unfold m_lacks
          rw [if_pos c_12, ← hv, hu, show σ.1 914 0 = j by omega]
        refine lv_iload_n hx hb dX9_lacks_139 rfl (lv_at hl 2 rfl) ?_
        refine lv_if_ge (tgt := 147) hx hb dX9_lacks_140 (by decide) (fun c_140 => ?_) (fun c_140 => ?_)
        · refine lv_iload_n hx hb dX9_lacks_147 rfl (lv_at hl 2 rfl) ?_
          exact rm_ret hx hb hr hlocks hG hS (by rw [hE]; exact (if_pos c_140).symm) (by rw [hE]) rfl dX9_lacks_148
        · refine lv_iconst (v := nI 0) hx hb dX9_lacks_143 (by decide) ?_
          refine lv_goto (tgt := 148) hx hb dX9_lacks_144 (by decide) ?_
          exact rm_ret hx hb hr hlocks hG hS (by rw [hE]; exact (if_neg c_140).symm) (by rw [hE]) rfl dX9_lacks_148
      · refine lv_iload_n hx hb dX9_lacks_94 rfl (lv_at hl 2 rfl) ?_
        refine lv_aload_n hx hb dX9_lacks_95 rfl (lv_at hl 0 rfl) ?_
        refine gt_X9_34 X hK hG rd_999 dX9_lacks_96 ?_
        refine lv_iload_n hx hb dX9_lacks_99 rfl (lv_at hl 3 rfl) ?_
        refine al_911 X hK hG rd_911 (i := j) (x := σ9.2.2.2 911 0 j) (by omega) rfl dX9_lacks_100 ?_
        refine lv_if_eq (tgt := 130) hx hb dX9_lacks_101 (by decide) (fun c_101 => ?_) (fun c_101 => ?_)
        · refine lv_iconst (v := nI 0) hx hb dX9_lacks_130 (by decide) ?_
          refine lv_isub hx hb dX9_lacks_131 ?_
          refine lv_istore_n (lv' := [(2, .int (u9 - (nI 0))), (0, .ref (L 999 0)), (1, .int i9), (3, .int (nI j))]) hx hb dX9_lacks_132 rfl hl (by decide) rfl (fun ls hl => ?_)
          refine r_iincN (b := 1) (lv' := [(3, .int (nI (j + 1))), (2, .int (u9 - (nI 0))), (0, .ref (L 999 0)), (1, .int i9)]) hx hb dX9_lacks_133 hl (k := 3) rfl (by decide) (by decide) rfl (fun ls hl => ?_)
          refine lv_goto (tgt := 86) hx hb dX9_lacks_136 (by decide) ?_
          exact ih ⟨(u9 - (nI 0)), j + 1⟩ (by show _ - (j + 1) < _ - j; omega) (⟨by unfold m_ll; rw [← hu, if_pos c_101], by show j + 1 ≤ _; omega⟩) H locs ls hG hS (lv_sub hl [2, 3, 1, 0] rfl)
        · refine lv_aload_n hx hb dX9_lacks_104 rfl (lv_at hl 0 rfl) ?_
          refine gt_X9_19 X hK hG rd_999 dX9_lacks_105 ?_
          refine lv_iload_n hx hb dX9_lacks_108 rfl (lv_at hl 3 rfl) ?_
          refine al_906 X hK hG rd_906 (i := j) (x := σ9.2.2.2 906 0 j) (by omega) rfl dX9_lacks_109 ?_
          refine lv_iload_n hx hb dX9_lacks_110 rfl (lv_at hl 1 rfl) ?_
          refine lv_icmp_ne (tgt := 130) hx hb dX9_lacks_111 (by decide) (fun c_111 => ?_) (fun c_111 => ?_)
          · refine lv_iconst (v := nI 0) hx hb dX9_lacks_130 (by decide) ?_
            refine lv_isub hx hb dX9_lacks_131 ?_
            refine lv_istore_n (lv' := [(2, .int (u9 - (nI 0))), (0, .ref (L 999 0)), (1, .int i9), (3, .int (nI j))]) hx hb dX9_lacks_132 rfl hl (by decide) rfl (fun ls hl => ?_)
            refine r_iincN (b := 1) (lv' := [(3, .int (nI (j + 1))), (2, .int (u9 - (nI 0))), (0, .ref (L 999 0)), (1, .int i9)]) hx hb dX9_lacks_133 hl (k := 3) rfl (by decide) (by decide) rfl (fun ls hl => ?_)
            refine lv_goto (tgt := 86) hx hb dX9_lacks_136 (by decide) ?_
            exact ih ⟨(u9 - (nI 0)), j + 1⟩ (by show _ - (j + 1) < _ - j; omega) (⟨by unfold m_ll; rw [← hu, if_neg c_101, if_pos c_111], by show j + 1 ≤ _; omega⟩) H locs ls hG hS (lv_sub hl [2, 3, 1, 0] rfl)
          · refine lv_aload_n hx hb dX9_lacks_114 rfl (lv_at hl 0 rfl) ?_
            refine gt_X9_22 X hK hG rd_999 dX9_lacks_115 ?_
            refine lv_iload_n hx hb dX9_lacks_118 rfl (lv_at hl 3 rfl) ?_
            refine al_907 X hK hG rd_907 (i := j) (x := σ9.2.2.1 907 0 j) (by omega) rfl dX9_lacks_119 ?_
            refine lv_aload_n hx hb dX9_lacks_120 rfl (lv_at hl 0 rfl) ?_
            refine gt_X9_25 X hK hG rd_999 dX9_lacks_121 ?_
            refine lv_iload_n hx hb dX9_lacks_124 rfl (lv_at hl 3 rfl) ?_
            refine al_908 X hK hG rd_908 (i := j) (x := σ9.2.2.1 908 0 j) (by omega) rfl dX9_lacks_125 ?_
            refine lv_isub hx hb dX9_lacks_126 ?_
            refine lv_goto (tgt := 131) hx hb dX9_lacks_127 (by decide) ?_
            refine lv_isub hx hb dX9_lacks_131 ?_
            refine lv_istore_n (lv' := [(2, .int (u9 - ((nI (σ9.2.2.1 907 0 j)) - (nI (σ9.2.2.1 908 0 j))))), (0, .ref (L 999 0)), (1, .int i9), (3, .int (nI j))]) hx hb dX9_lacks_132 rfl hl (by decide) rfl (fun ls hl => ?_)
            refine r_iincN (b := 1) (lv' := [(3, .int (nI (j + 1))), (2, .int (u9 - ((nI (σ9.2.2.1 907 0 j)) - (nI (σ9.2.2.1 908 0 j))))), (0, .ref (L 999 0)), (1, .int i9)]) hx hb dX9_lacks_133 hl (k := 3) rfl (by decide) (by decide) rfl (fun ls hl => ?_)
            refine lv_goto (tgt := 86) hx hb dX9_lacks_136 (by decide) ?_
            exact ih ⟨(u9 - ((nI (σ9.2.2.1 907 0 j)) - (nI (σ9.2.2.1 908 0 j)))), j + 1⟩ (by show _ - (j + 1) < _ - j; omega) (⟨by unfold m_ll; rw [← hu, if_neg c_101, if_neg (not_not_intro9 c_111)], by show j + 1 ≤ _; omega⟩) H locs ls hG hS (lv_sub hl [2, 3, 1, 0] rfl)
    · have hqk := (QI.fr (σ := (m_g (ix i9 4) True True σ)) hQ0 hfr).2 k (by rw [hfr.1 926 (by decide)]; exact c_26)
      refine lv_iload_n hx hb dX9_lacks_29 rfl (lv_at hl 2 rfl) ?_
      refine lv_aload_n hx hb dX9_lacks_30 rfl (lv_at hl 0 rfl) ?_
      refine lv_aload_n hx hb dX9_lacks_31 rfl (lv_at hl 0 rfl) ?_
      refine gt_X9_71 X hK hG rd_999 dX9_lacks_32 ?_
      refine lv_iload_n hx hb dX9_lacks_35 rfl (lv_at hl 3 rfl) ?_
      refine al_925 X hK hG rd_925 (i := k) (x := σ9.2.2.1 925 0 k) (by have := hQ0.1; omega) rfl dX9_lacks_36 ?_
      refine lv_aload_n hx hb dX9_lacks_37 rfl (lv_at hl 0 rfl) ?_
      refine gt_X9_62 X hK hG rd_999 dX9_lacks_38 ?_
      refine lv_aload_n hx hb dX9_lacks_41 rfl (lv_at hl 0 rfl) ?_
      refine gt_X9_71 X hK hG rd_999 dX9_lacks_42 ?_
      refine lv_iload_n hx hb dX9_lacks_45 rfl (lv_at hl 3 rfl) ?_
      refine al_925 X hK hG rd_925 (i := k) (x := σ9.2.2.1 925 0 k) (by have := hQ0.1; omega) rfl dX9_lacks_46 ?_
      refine al_921 X hK hG rd_921 (i := σ9.2.2.1 925 0 k) (x := σ9.2.2.1 921 0 (σ9.2.2.1 925 0 k)) (hqk.1) rfl dX9_lacks_47 ?_
      refine lv_aload_n hx hb dX9_lacks_48 rfl (lv_at hl 0 rfl) ?_
      refine gt_X9_65 X hK hG rd_999 dX9_lacks_49 ?_
      refine lv_aload_n hx hb dX9_lacks_52 rfl (lv_at hl 0 rfl) ?_
      refine gt_X9_71 X hK hG rd_999 dX9_lacks_53 ?_
      refine lv_iload_n hx hb dX9_lacks_56 rfl (lv_at hl 3 rfl) ?_
      refine al_925 X hK hG rd_925 (i := k) (x := σ9.2.2.1 925 0 k) (by have := hQ0.1; omega) rfl dX9_lacks_57 ?_
      refine al_922 X hK hG rd_922 (i := σ9.2.2.1 925 0 k) (x := σ9.2.2.1 922 0 (σ9.2.2.1 925 0 k)) (hqk.1) rfl dX9_lacks_58 ?_
      refine lv_iconst (v := nI 0) hx hb dX9_lacks_59 (by decide) ?_
      refine rm_callV X hK hG hS yvX9_runs ml_X9_193 kX9 rfl rd_999 [.int (nI (σ9.2.2.1 925 0 k)), .int (nI (σ9.2.2.1 921 0 (σ9.2.2.1 925 0 k))), .int (nI (σ9.2.2.1 922 0 (σ9.2.2.1 925 0 k))), .int (nI 0)] [.int v9] (c_X9_runs0 l L σ9 ow (σ9.2.2.1 925 0 k) (σ9.2.2.1 921 0 (σ9.2.2.1 925 0 k)) (σ9.2.2.1 922 0 (σ9.2.2.1 925 0 k)) (hqk.1) (hqk.2.2) (hqk.2.1) (hs9) (hP9)) rfl hl.1 rfl (Nat.le_of_ble_eq_true rfl) ⟨Nat.le_of_ble_eq_true rfl, Nat.le_of_ble_eq_true rfl⟩ ⟨Nat.zero_le _, Nat.zero_le _⟩ dX9_lacks_60 (fun H locs hG hS => ?_)
      refine lv_if_ne (tgt := 75) hx hb dX9_lacks_63 (by decide) (fun c_63 => ?_) (fun c_63 => ?_)
      · refine lv_iconst (v := nI 0) hx hb dX9_lacks_75 (by decide) ?_
        refine lv_iadd hx hb dX9_lacks_76 ?_
        refine lv_istore_n (lv' := [(2, .int (v9 + (nI 0))), (0, .ref (L 999 0)), (1, .int i9), (3, .int (nI k))]) hx hb dX9_lacks_77 rfl hl (by decide) rfl (fun ls hl => ?_)
        refine r_iincN (b := 1) (lv' := [(3, .int (nI (k + 1))), (2, .int (v9 + (nI 0))), (0, .ref (L 999 0)), (1, .int i9)]) hx hb dX9_lacks_78 hl (k := 3) rfl (by decide) (by decide) rfl (fun ls hl => ?_)
        refine lv_goto (tgt := 21) hx hb dX9_lacks_81 (by decide) ?_
        exact ih ⟨(v9 + (nI 0)), (rq0 k σ9).2, k + 1⟩ (by show _ - (k + 1) < _ - k; omega) (⟨m_lk_p hv c_63, by show k + 1 ≤ _; omega, hfr.tr (FR_runs0 _ _ _ _), (runs_all0 hs9 hP9 hqk.2.1).1, PI_runs0 hP9⟩) H locs ls hG hS (lv_sub hl [2, 3, 1, 0] rfl)
      · refine lv_aload_n hx hb dX9_lacks_66 rfl (lv_at hl 0 rfl) ?_
        refine gt_X9_95 X hK hG rd_999 dX9_lacks_67 ?_
        refine lv_iload_n hx hb dX9_lacks_70 rfl (lv_at hl 1 rfl) ?_
        refine r_top (y := nI (tn i9)) (ix_eq c_12.1) ?_
        refine al_936 X hK hG rd_936 (i := tn i9) (x := ((m_runs0 (σ9.2.2.1 925 0 k) (σ9.2.2.1 921 0 (σ9.2.2.1 925 0 k)) (σ9.2.2.1 922 0 (σ9.2.2.1 925 0 k)) σ9).2).2.2.1 936 0 (tn i9)) (ix_lt c_12.1) rfl dX9_lacks_71 ?_
        refine lv_goto (tgt := 76) hx hb dX9_lacks_72 (by decide) ?_
        refine lv_iadd hx hb dX9_lacks_76 ?_
        refine lv_istore_n (lv' := [(2, .int (v9 + (nI (((m_runs0 (σ9.2.2.1 925 0 k) (σ9.2.2.1 921 0 (σ9.2.2.1 925 0 k)) (σ9.2.2.1 922 0 (σ9.2.2.1 925 0 k)) σ9).2).2.2.1 936 0 (tn i9))))), (0, .ref (L 999 0)), (1, .int i9), (3, .int (nI k))]) hx hb dX9_lacks_77 rfl hl (by decide) rfl (fun ls hl => ?_)
        refine r_iincN (b := 1) (lv' := [(3, .int (nI (k + 1))), (2, .int (v9 + (nI (((m_runs0 (σ9.2.2.1 925 0 k) (σ9.2.2.1 921 0 (σ9.2.2.1 925 0 k)) (σ9.2.2.1 922 0 (σ9.2.2.1 925 0 k)) σ9).2).2.2.1 936 0 (tn i9))))), (0, .ref (L 999 0)), (1, .int i9)]) hx hb dX9_lacks_78 hl (k := 3) rfl (by decide) (by decide) rfl (fun ls hl => ?_)
        refine lv_goto (tgt := 21) hx hb dX9_lacks_81 (by decide) ?_
        exact ih ⟨(v9 + (nI (((m_runs0 (σ9.2.2.1 925 0 k) (σ9.2.2.1 921 0 (σ9.2.2.1 925 0 k)) (σ9.2.2.1 922 0 (σ9.2.2.1 925 0 k)) σ9).2).2.2.1 936 0 (tn i9)))), (rq0 k σ9).2, k + 1⟩ (by show _ - (k + 1) < _ - k; omega) (⟨m_lk_n hv c_63, by show k + 1 ≤ _; omega, hfr.tr (FR_runs0 _ _ _ _), (runs_all0 hs9 hP9 hqk.2.1).1, PI_runs0 hP9⟩) H locs ls hG hS (lv_sub hl [2, 3, 1, 0] rfl)
  · refine lv_iconst (v := nI 0) hx hb dX9_lacks_15 (by decide) ?_
    exact rm_ret hx hb hr hlocks hG hS (by unfold m_lacks; rw [if_neg c_12]) (by unfold m_lacks; rw [if_neg c_12]) rfl dX9_lacks_16
