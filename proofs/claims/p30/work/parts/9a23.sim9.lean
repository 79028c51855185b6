/-! what each part of JJ depends on -/
section JFR
variable {lN lI lA lB : List Nat} {ρ ρ' τ τ' : St}
set_option maxHeartbeats 200000 in
theorem JP.fr (h : JP ρ τ) (f : FRm lN lI lA lB τ τ') (hr : ρ'.2.2.2 901 = ρ.2.2.2 901) (h1 : 904 ∉ lN := by decide) (h2 : 903 ∉ lA := by decide) (h3 : 902 ∉ lB := by decide) : JP ρ' τ' := ⟨h.1.eq hr, h.2.1.eq hr (f.2.2.1 903 h2) (f.2.2.2 902 h3), by rw [f.1 904 h1]; exact h.2.2⟩
set_option maxHeartbeats 200000 in
theorem JA.fr (h : JA ρ τ) (f : FRm lN lI lA lB τ τ') (hr : ∀ p, p < 2 → ρ'.2.2.1 900 p = ρ.2.2.1 900 p) (h1 : 924 ∉ lN := by decide) (h2 : 915 ∉ lB ∧ 916 ∉ lB ∧ 917 ∉ lB ∧ 918 ∉ lB := by decide) : JA ρ' τ' := by
  refine ⟨by rw [f.1 924 h1]; exact h.1, fun p hp => ?_⟩
  have g := h.2 p hp
  unfold QE QC at g ⊢
  rw [hr p hp, f.2.2.2 915 h2.1, f.2.2.2 916 h2.2.1, f.2.2.2 917 h2.2.2.1, f.2.2.2 918 h2.2.2.2]
  exact g
set_option maxHeartbeats 200000 in
theorem JT.fr (h : JT ρ τ) (f : FRm lN lI lA lB τ τ') (hr : ρ'.2.2.2 902 0 = ρ.2.2.2 902 0) (h1 : 914 ∉ lN := by decide) (h2 : 907 ∉ lA ∧ 908 ∉ lA ∧ 913 ∉ lA := by decide) (h3 : 906 ∉ lB ∧ 910 ∉ lB ∧ 911 ∉ lB ∧ 912 ∉ lB := by decide) : JT ρ' τ' := by
  unfold JT RTu at h ⊢
  rw [hr, f.1 914 h1, f.2.2.1 907 h2.1, f.2.2.1 908 h2.2.1, f.2.2.1 913 h2.2.2, f.2.2.2 906 h3.1, f.2.2.2 910 h3.2.1, f.2.2.2 911 h3.2.2.1, f.2.2.2 912 h3.2.2.2]
  exact h
set_option maxHeartbeats 200000 in
theorem JM.fr {K : Nat} (h : JM K ρ τ) (f : FRm lN lI lA lB τ τ') (hr : ∀ i, i < 16 → i ≠ 2 → i ≠ 3 → ρ'.2.2.2 903 0 i = ρ.2.2.2 903 0 i) (h1 : 900 ∉ lN ∧ 901 ∉ lN := by decide) (h2 : 908 ∉ lA := by decide) (h3 : 905 ∉ lB := by decide) : JM K ρ' τ' := by
  unfold JM at h ⊢
  rw [hr 0 (by decide) (by decide) (by decide), hr 1 (by decide) (by decide) (by decide), f.1 900 h1.1, f.1 901 h1.2, f.2.2.1 908 h2, f.2.2.2 905 h3]
  refine ⟨h.1, h.2.1, fun x hx => ?_, h.2.2.2⟩
  rw [hr (4 + x) (by omega) (by omega) (by omega)]
  exact h.2.2.1 x hx
set_option maxHeartbeats 200000 in
theorem JQ.fr (h : JQ ρ τ) (f : FRm lN lI lA lB τ τ') (hr : ρ'.2.2.2 905 0 = ρ.2.2.2 905 0) (h1 : 926 ∉ lN := by decide) (h2 : 925 ∉ lA ∧ 921 ∉ lA ∧ 922 ∉ lA := by decide) (h3 : 920 ∉ lB ∧ 923 ∉ lB := by decide) : JQ ρ' τ' := by
  unfold JQ at h ⊢
  rw [hr, f.1 926 h1, f.2.2.1 925 h2.1, f.2.2.1 921 h2.2.1, f.2.2.1 922 h2.2.2, f.2.2.2 920 h3.1, f.2.2.2 923 h3.2]
  exact h
set_option maxHeartbeats 200000 in
theorem JG.fr (h : JG ρ τ) (f : FRm lN lI lA lB τ τ') (hr : ρ'.2.2.2 903 0 2 = ρ.2.2.2 903 0 2 ∧ ρ'.2.2.2 903 0 3 = ρ.2.2.2 903 0 3) (h2 : 927 ∉ lA := by decide) (h3 : 928 ∉ lB ∧ 929 ∉ lB := by decide) : JG ρ' τ' := by
  unfold JG at h ⊢
  rw [hr.1, hr.2, f.2.2.1 927 h2, f.2.2.2 928 h3.1, f.2.2.2 929 h3.2]
  exact h
set_option maxHeartbeats 200000 in
theorem JF.fr (h : JF ρ τ) (f : FRm lN lI lA lB τ τ') (hr : ∀ i, 16 ≤ i → i < 28 → ρ'.2.2.2 903 0 i = ρ.2.2.2 903 0 i) (h1 : 932 ∉ lN := by decide) (h2 : 931 ∉ lA ∧ 930 ∉ lA := by decide) : JF ρ' τ' := by
  refine ⟨by rw [f.1 932 h1]; exact h.1, by rw [f.2.2.1 931 h2.1]; exact h.2.1, fun k hk => ?_⟩
  rw [f.2.2.1 930 h2.2]
  refine ⟨fun j hj => ?_, (h.2.2 k hk).2⟩
  rw [hr _ (by omega) (by omega)]
  exact (h.2.2 k hk).1 j hj
set_option maxHeartbeats 200000 in
theorem JW.fr (h : JW ρ τ) (f : FRm lN lI lA lB τ τ') (hr : ∀ i, 28 ≤ i → i < 35 → ρ'.2.2.2 903 0 i = ρ.2.2.2 903 0 i) (h1 : 934 ∉ lN := by decide) (h3 : 933 ∉ lB := by decide) : JW ρ' τ' := by
  unfold JW at h ⊢
  rw [hr 28 (by decide) (by decide), hr 29 (by decide) (by decide), hr 30 (by decide) (by decide), hr 31 (by decide) (by decide), hr 32 (by decide) (by decide), hr 33 (by decide) (by decide), hr 34 (by decide) (by decide), f.1 934 h1, f.2.2.2 933 h3]
  exact h
set_option maxHeartbeats 200000 in
theorem JC.fr (h : JC ρ τ) (f : FRm lN lI lA lB τ τ') (hr : ∀ p, p < 2 → ρ'.2.2.1 900 p = ρ.2.2.1 900 p) (h2 : 919 ∉ lA := by decide) (h3 : 920 ∉ lB := by decide) : JC ρ' τ' := fun p hp => by
  rw [f.2.2.1 919 h2, f.2.2.2 920 h3, hr p hp]
  exact h p hp
end JFR
set_option maxHeartbeats 200000 in
theorem wB_r {ρ : St} {F k i F' k' : Nat} {v : Int32} (h : ¬ (F' = F ∧ k' = k)) : (wB ρ F k i v).2.2.2 F' k' = ρ.2.2.2 F' k' := up3_n h
set_option maxHeartbeats 200000 in
theorem mg_0 {P1 P2 P3 : Prop} [Decidable P1] [Decidable P2] [Decidable P3] (h : P1 ∧ P2 ∧ P3) (τ : St) : m_g P1 P2 P3 τ = wI τ 944 0 (nI 0) := by
  unfold m_g gcode
  rw [if_pos h.1, if_pos h.2.1, if_pos h.2.2]
set_option maxHeartbeats 200000 in
theorem w944 {τ : St} {x : Int32} : TS τ (wI τ 944 0 x) := ⟨fun _ _ => rfl, fun _ _ _ => rfl, fun _ _ => rfl⟩
set_option maxHeartbeats 200000 in
theorem fr944 {lN lA lB : List Nat} {τ : St} {x : Int32} : FRm lN [944] lA lB τ (wI τ 944 0 x) := FRm.I FRm.rf (by decide)
set_option maxHeartbeats 200000 in
theorem ixz {n k : Nat} (h : k < n) (hn : n < 2147483648) : ix (nI k) n := (ix_nI (by omega)).mpr h
set_option maxHeartbeats 200000 in
theorem tz {k : Nat} (h : k < 1000) : tn (nI k) = k := tn_nI (by omega)
set_option maxHeartbeats 200000 in
theorem iz {k : Nat} (h : k < 1000000) : (nI k).toInt = (k : Int) := nI_tz (by omega)
/-! the class's calls that only tell -/
section QRY
variable {D : va_G} {cI cZ cO : ClassId} {t0 mi : Nat} {l : Launch} {K : Nat} {σ τ ρ : St}
set_option maxHeartbeats 200000 in
theorem Q_minute (hR : Rl wr0 σ τ) (hJ : JJ K ρ τ) : ∃ σ' τ', (∀ (L : Lay) (ow : Nat → Prop), XI D cI cZ cO t0 mi l yX8_minute cX8_minute 1 (some FieldType.int) 0 0 0 0 [.ref (L 899 0)] L σ ow (ρ.2.2.2 903 0 0) σ') ∧ Rl wr0 σ' τ' ∧ JJ K ρ τ' :=
  ⟨σ, τ, by rw [hJ.2.2.2.2.1.1]; exact oq_minute hR, hR, hJ⟩
set_option maxHeartbeats 200000 in
theorem Q_warmth (hR : Rl wr0 σ τ) (hJ : JJ K ρ τ) : ∃ σ' τ', (∀ (L : Lay) (ow : Nat → Prop), XI D cI cZ cO t0 mi l yX8_warmth cX8_warmth 1 (some FieldType.int) 0 0 0 0 [.ref (L 899 0)] L σ ow (ρ.2.2.2 903 0 1) σ') ∧ Rl wr0 σ' τ' ∧ JJ K ρ τ' :=
  ⟨σ, τ, by rw [hJ.2.2.2.2.1.2.1.1]; exact oq_warmth hR, hR, hJ⟩
set_option maxHeartbeats 200000 in
theorem b2iZ {x : Int32} (h : x = 0 ∨ x = 1) : nI (if x = 0 then 0 else 1) = x := by
  rcases h with rfl | rfl <;> decide
/-- what a tool's k-th number is in the law's row -/
def tix (k : Nat) : Nat := if k < 4 then k else if k = 4 then 4 else 8
set_option maxHeartbeats 200000 in
theorem Q_ofTool (hl9 : l.stackTraces = false) (hR : Rl wr0 σ τ) (hJ : JJ K ρ τ) {t k : Nat} (ht : t < 4) (hk : k < 6) : ∃ σ' τ', (∀ (L : Lay) (ow : Nat → Prop), YI D cI cZ cO t0 mi l yX8_ofTool cX8_ofTool 4 (some FieldType.int) 7 142 2 12 [.ref (L 899 0), .int (nI t), .int (nI k)] L σ ow 0 (ρ.2.2.2 902 0 (9 * t + tix k)) σ') ∧ Rl wr0 σ' τ' ∧ JJ K ρ τ' := by
  have hT := hJ.2.2.2.1
  obtain ⟨a1, a2, a3, a4, a5, a6, a7⟩ := hT.1.2 t ht
  obtain ⟨b1, b2, b3, b4⟩ := hT.2 t ht
  have g : ix (nI t) (τ.1 914 0) ∧ ix (nI k) 6 ∧ True := ⟨by rw [hT.1.1]; exact ixz ht (by decide), ixz hk (by decide), trivial⟩
  have e : (m_ofTool (nI t) (nI k) τ).1 = ρ.2.2.2 902 0 (9 * t + tix k) ∧ (m_ofTool (nI t) (nI k) τ).2 = wI τ 944 0 (nI 0) := by
    unfold m_ofTool
    rw [mg_0 g, if_pos g, tz (by omega : t < 1000)]
    rcases (by omega : k = 0 ∨ k = 1 ∨ k = 2 ∨ k = 3 ∨ k = 4 ∨ k = 5) with rfl | rfl | rfl | rfl | rfl | rfl
    · exact ⟨a1.symm, rfl⟩
    · exact ⟨a2.symm, rfl⟩
    · exact ⟨a3.symm, rfl⟩
    · exact ⟨b1.symm, rfl⟩
    · exact ⟨(b2iZ a5).trans a4.symm, rfl⟩
    · exact ⟨b4.symm, rfl⟩
  obtain ⟨σ', h1, h2⟩ := oq_ofTool (D := D) (cI := cI) (cZ := cZ) (cO := cO) (t0 := t0) (mi := mi) hl9 hR (nI t) (nI k) (by rw [e.2]; exact t944)
  rw [e.1] at h1
  rw [e.2] at h2
  exact ⟨σ', _, h1, h2, hJ.tau w944⟩
set_option maxHeartbeats 200000 in
theorem Q_ofPaper (hl9 : l.stackTraces = false) (hR : Rl wr0 σ τ) (hJ : JJ K ρ τ) {k : Nat} (h0 : ¬ ρ.2.2.2 903 0 28 = 0) (hk : k < 8) : ∃ σ' τ', (∀ (L : Lay) (ow : Nat → Prop), YI D cI cZ cO t0 mi l yX8_ofPaper cX8_ofPaper 4 (some FieldType.int) 7 142 2 12 [.ref (L 899 0), .int (ρ.2.2.2 903 0 28 - nI 1), .int (nI k)] L σ ow 0 (if k = 0 then ρ.2.2.2 903 0 29 else if k = 1 then nI 0 else if k = 7 then nI 0 else ρ.2.2.2 903 0 (28 + k)) σ') ∧ Rl wr0 σ' τ' ∧ JJ K ρ τ' := by
  have hW := hJ.2.2.2.2.2.2.2.2.1
  obtain ⟨w1, w2, w3⟩ := hW
  have hn : 0 < τ.1 934 0 := Nat.pos_of_ne_zero (fun z => h0 (by rw [w1, z]; rfl))
  obtain ⟨c0, c1, c2, c3, c4, c5, c6, c7⟩ := w3 hn
  have ep : ρ.2.2.2 903 0 28 - nI 1 = nI (τ.1 934 0 - 1) := by rw [w1]; exact pk_sub (by omega)
  rw [ep]
  have g : ix (nI (τ.1 934 0 - 1)) (τ.1 934 0) ∧ ix (nI k) 11 ∧ True := ⟨ixz (by omega) (by omega), ixz (by omega) (by decide), trivial⟩
  have e : (m_ofPaper (nI (τ.1 934 0 - 1)) (nI k) τ).1 = (if k = 0 then ρ.2.2.2 903 0 29 else if k = 1 then nI 0 else if k = 7 then nI 0 else ρ.2.2.2 903 0 (28 + k)) ∧ (m_ofPaper (nI (τ.1 934 0 - 1)) (nI k) τ).2 = wI τ 944 0 (nI 0) := by
    unfold m_ofPaper
    rw [mg_0 g, if_neg (not_not_intro9 g), tz (by omega : τ.1 934 0 - 1 < 1000), tz (by omega : k < 1000)]
    refine ⟨?_, rfl⟩
    show τ.2.2.2 933 0 (18 * (τ.1 934 0 - 1) + k) = _
    rcases (by omega : k = 0 ∨ k = 1 ∨ k = 2 ∨ k = 3 ∨ k = 4 ∨ k = 5 ∨ k = 6 ∨ k = 7) with rfl | rfl | rfl | rfl | rfl | rfl | rfl | rfl
    · exact c0.symm
    · exact c1
    · exact c2.symm
    · exact c3.symm
    · exact c4.symm
    · exact c5.symm
    · exact c6.symm
    · exact c7
  obtain ⟨σ', h1, h2⟩ := oq_ofPaper (D := D) (cI := cI) (cZ := cZ) (cO := cO) (t0 := t0) (mi := mi) hl9 hR (nI (τ.1 934 0 - 1)) (nI k) (by rw [e.2]; exact t944)
  rw [e.1] at h1
  rw [e.2] at h2
  exact ⟨σ', _, h1, h2, hJ.tau w944⟩
/-- where a pallet stands in the queue, as the law looks it up -/
def h_pl (p : Nat) (ρ : St) : Int32 := if (0 < ρ.2.2.2 905 0 10 ∧ ρ.2.2.2 905 0 8 = nI p) then nI 0 else if (nI 1 < ρ.2.2.2 905 0 10 ∧ ρ.2.2.2 905 0 9 = nI p) then nI 1 else (-1)
set_option maxHeartbeats 200000 in
theorem plc_h9 {p : Nat} (hp : p < 2) (hQ : JQ ρ τ) : plc (τ.2.2.1 925 0) p (τ.1 926 0) = h_pl p ρ := by
  obtain ⟨q10, q2, qi, qd, qp⟩ := hQ
  unfold h_pl
  rw [q10]
  rcases (by omega : τ.1 926 0 = 0 ∨ τ.1 926 0 = 1 ∨ τ.1 926 0 = 2) with z | z | z
  · rw [z, if_neg (fun y => absurd y.1 (by decide)), if_neg (fun y => absurd y.1 (by decide))]; rfl
  · have g := qi 0 (by omega)
    rw [Nat.add_zero] at g
    rw [z, g.1, if_neg (fun y => absurd y.1 (by decide)) (α := Int32) (c := (nI 1 < nI 1 ∧ ρ.2.2.2 905 0 9 = nI p))]
    show (if τ.2.2.1 925 0 0 = p then nI 0 else (-1)) = _
    by_cases c : τ.2.2.1 925 0 0 = p
    · rw [if_pos c, if_pos ⟨by decide, by rw [c]⟩]
    · rw [if_neg c, if_neg (fun y => c ((nI_eq (by omega) (by omega)).mp y.2))]
  · have g := qi 0 (by omega)
    have g1 := qi 1 (by omega)
    have hd := qd z
    rw [Nat.add_zero] at g
    rw [z, g.1, g1.1]
    show (if τ.2.2.1 925 0 1 = p then nI 1 else (if τ.2.2.1 925 0 0 = p then nI 0 else (-1))) = _
    by_cases c : τ.2.2.1 925 0 0 = p
    · rw [if_neg (fun y => hd (c.trans y.symm)), if_pos c, if_pos ⟨by decide, by rw [c]⟩]
    · rw [if_neg c, if_neg (fun y => c ((nI_eq (by omega) (by omega)).mp y.2)) (c := (0 < nI 2 ∧ nI (τ.2.2.1 925 0 0) = nI p))]
      by_cases c1 : τ.2.2.1 925 0 1 = p
      · rw [if_pos c1, if_pos ⟨by decide, by rw [c1]⟩]
      · rw [if_neg c1, if_neg (fun y => c1 ((nI_eq (by omega) (by omega)).mp y.2))]
set_option maxHeartbeats 200000 in
theorem Q_ofPallet (hl9 : l.stackTraces = false) (hR : Rl wr0 σ τ) (hJ : JJ K ρ τ) {p k : Nat} (hp : p < 2) (hk : k < 4) : ∃ σ' τ', (∀ (L : Lay) (ow : Nat → Prop), YI D cI cZ cO t0 mi l yX8_ofPallet cX8_ofPallet 4 (some FieldType.int) 7 143 2 12 [.ref (L 899 0), .int (nI p), .int (nI k)] L σ ow 0 (if k = 0 then ρ.2.2.2 905 0 (4 * p) else if k = 1 then ρ.2.2.2 905 0 (4 * p + 2) else if k = 2 then h_pl p ρ else ρ.2.2.2 905 0 (4 * p + 3)) σ') ∧ Rl wr0 σ' τ' ∧ JJ K ρ τ' := by
  have hQ := hJ.2.2.2.2.2.1
  have hA := hJ.2.2.1
  obtain ⟨b1, b2, b3, b4, b5, b6⟩ := hQ.2.2.2.2 p hp
  have g : ix (nI p) (τ.1 924 0) ∧ ix (nI k) 4 ∧ True := ⟨by rw [hA.1]; exact ixz hp (by decide), ixz hk (by decide), trivial⟩
  have e : (m_ofPallet (nI p) (nI k) τ).1 = (if k = 0 then ρ.2.2.2 905 0 (4 * p) else if k = 1 then ρ.2.2.2 905 0 (4 * p + 2) else if k = 2 then h_pl p ρ else ρ.2.2.2 905 0 (4 * p + 3)) ∧ (m_ofPallet (nI p) (nI k) τ).2 = wI τ 944 0 (nI 0) := by
    unfold m_ofPallet
    rw [mg_0 g, if_pos g, tz (by omega : p < 1000), plc_h9 hp hQ]
    rcases (by omega : k = 0 ∨ k = 1 ∨ k = 2 ∨ k = 3) with rfl | rfl | rfl | rfl
    · exact ⟨b1.symm, rfl⟩
    · exact ⟨b3.symm, rfl⟩
    · exact ⟨rfl, rfl⟩
    · exact ⟨b4.symm, rfl⟩
  obtain ⟨σ', h1, h2⟩ := oq_ofPallet (D := D) (cI := cI) (cZ := cZ) (cO := cO) (t0 := t0) (mi := mi) hl9 hR (nI p) (nI k) (by rw [e.2]; exact t944)
  rw [e.1] at h1
  rw [e.2] at h2
  exact ⟨σ', _, h1, h2, hJ.tau w944⟩
end QRY
